section
-- ===== PART A: goes FIRST, ahead of the names: the tables' words, and 'selects' of the private methods out of them =====
/-- a private method of a class that the tables say can be made, by its rows of tables_1 -/
def lw_okq (q : MethodName × Nat) : Prop := (q.1.cls ≠ "java/lang/invoke/MethodHandle" ∧ q.1.cls ≠ "java/lang/invoke/VarHandle") ∧ Cond.instantiable q.1.cls q.2 ∈ tables_1 ∧ Cond.privateMethod q.1 ∈ tables_1 ∧ Cond.instanceMethod q.1 ∈ tables_1
theorem lw_p0 : lw_okq (⟨"SubstituteDesk$Words", "afterBlanks", "(I)I"⟩, 8) := ⟨⟨by decide +kernel, by decide +kernel⟩, List.mem_of_getElem? (i := 336) (by decide +kernel), List.mem_of_getElem? (i := 493) (by decide +kernel), List.mem_of_getElem? (i := 494) (by decide +kernel)⟩
theorem lw_p1 : lw_okq (⟨"SubstituteDesk$Words", "afterLetters", "(I)I"⟩, 8) := ⟨⟨by decide +kernel, by decide +kernel⟩, List.mem_of_getElem? (i := 336) (by decide +kernel), List.mem_of_getElem? (i := 501) (by decide +kernel), List.mem_of_getElem? (i := 502) (by decide +kernel)⟩
theorem lw_p2 : lw_okq (⟨"SubstituteDesk$Words", "afterDigits", "(I)I"⟩, 8) := ⟨⟨by decide +kernel, by decide +kernel⟩, List.mem_of_getElem? (i := 336) (by decide +kernel), List.mem_of_getElem? (i := 508) (by decide +kernel), List.mem_of_getElem? (i := 509) (by decide +kernel)⟩
theorem lw_p3 : lw_okq (⟨"SubstituteDesk$SchoolText", "readGrid", "()Z"⟩, 2) := ⟨⟨by decide +kernel, by decide +kernel⟩, List.mem_of_getElem? (i := 380) (by decide +kernel), List.mem_of_getElem? (i := 516) (by decide +kernel), List.mem_of_getElem? (i := 517) (by decide +kernel)⟩
theorem lw_p4 : lw_okq (⟨"SubstituteDesk$SchoolText", "takeWord", "(Ljava/lang/String;)Z"⟩, 2) := ⟨⟨by decide +kernel, by decide +kernel⟩, List.mem_of_getElem? (i := 380) (by decide +kernel), List.mem_of_getElem? (i := 521) (by decide +kernel), List.mem_of_getElem? (i := 522) (by decide +kernel)⟩
theorem lw_p5 : lw_okq (⟨"SubstituteDesk$SchoolText", "fail", "(I)Z"⟩, 2) := ⟨⟨by decide +kernel, by decide +kernel⟩, List.mem_of_getElem? (i := 380) (by decide +kernel), List.mem_of_getElem? (i := 577) (by decide +kernel), List.mem_of_getElem? (i := 578) (by decide +kernel)⟩
theorem lw_p6 : lw_okq (⟨"SubstituteDesk$SchoolText", "checkNumber", "(II)Z"⟩, 2) := ⟨⟨by decide +kernel, by decide +kernel⟩, List.mem_of_getElem? (i := 380) (by decide +kernel), List.mem_of_getElem? (i := 586) (by decide +kernel), List.mem_of_getElem? (i := 587) (by decide +kernel)⟩
theorem lw_p7 : lw_okq (⟨"SubstituteDesk$SchoolText", "takeNumber", "()I"⟩, 2) := ⟨⟨by decide +kernel, by decide +kernel⟩, List.mem_of_getElem? (i := 380) (by decide +kernel), List.mem_of_getElem? (i := 590) (by decide +kernel), List.mem_of_getElem? (i := 591) (by decide +kernel)⟩
theorem lw_p8 : lw_okq (⟨"SubstituteDesk$SchoolText", "takeSemicolon", "()Z"⟩, 2) := ⟨⟨by decide +kernel, by decide +kernel⟩, List.mem_of_getElem? (i := 380) (by decide +kernel), List.mem_of_getElem? (i := 594) (by decide +kernel), List.mem_of_getElem? (i := 595) (by decide +kernel)⟩
theorem lw_p9 : lw_okq (⟨"SubstituteDesk$SchoolText", "readSubjects", "()Z"⟩, 2) := ⟨⟨by decide +kernel, by decide +kernel⟩, List.mem_of_getElem? (i := 380) (by decide +kernel), List.mem_of_getElem? (i := 598) (by decide +kernel), List.mem_of_getElem? (i := 599) (by decide +kernel)⟩
theorem lw_p10 : lw_okq (⟨"SubstituteDesk$SchoolText", "readTeachers", "()Z"⟩, 2) := ⟨⟨by decide +kernel, by decide +kernel⟩, List.mem_of_getElem? (i := 380) (by decide +kernel), List.mem_of_getElem? (i := 604) (by decide +kernel), List.mem_of_getElem? (i := 605) (by decide +kernel)⟩
theorem lw_p11 : lw_okq (⟨"SubstituteDesk$SchoolText", "readTeacher", "()Z"⟩, 2) := ⟨⟨by decide +kernel, by decide +kernel⟩, List.mem_of_getElem? (i := 380) (by decide +kernel), List.mem_of_getElem? (i := 609) (by decide +kernel), List.mem_of_getElem? (i := 610) (by decide +kernel)⟩
theorem lw_p12 : lw_okq (⟨"SubstituteDesk$SchoolText", "readRooms", "()Z"⟩, 2) := ⟨⟨by decide +kernel, by decide +kernel⟩, List.mem_of_getElem? (i := 380) (by decide +kernel), List.mem_of_getElem? (i := 615) (by decide +kernel), List.mem_of_getElem? (i := 616) (by decide +kernel)⟩
theorem lw_p13 : lw_okq (⟨"SubstituteDesk$SchoolText", "readClasses", "()Z"⟩, 2) := ⟨⟨by decide +kernel, by decide +kernel⟩, List.mem_of_getElem? (i := 380) (by decide +kernel), List.mem_of_getElem? (i := 621) (by decide +kernel), List.mem_of_getElem? (i := 622) (by decide +kernel)⟩
theorem lw_p14 : lw_okq (⟨"SubstituteDesk$SchoolText", "readLessons", "()Z"⟩, 2) := ⟨⟨by decide +kernel, by decide +kernel⟩, List.mem_of_getElem? (i := 380) (by decide +kernel), List.mem_of_getElem? (i := 626) (by decide +kernel), List.mem_of_getElem? (i := 627) (by decide +kernel)⟩
theorem lw_p15 : lw_okq (⟨"SubstituteDesk$SchoolText", "readLesson", "()Z"⟩, 2) := ⟨⟨by decide +kernel, by decide +kernel⟩, List.mem_of_getElem? (i := 380) (by decide +kernel), List.mem_of_getElem? (i := 631) (by decide +kernel), List.mem_of_getElem? (i := 632) (by decide +kernel)⟩
def lw_privs_1 : List (MethodName × Nat) := [(⟨"SubstituteDesk$Words", "afterBlanks", "(I)I"⟩, 8), (⟨"SubstituteDesk$Words", "afterLetters", "(I)I"⟩, 8), (⟨"SubstituteDesk$Words", "afterDigits", "(I)I"⟩, 8), (⟨"SubstituteDesk$SchoolText", "readGrid", "()Z"⟩, 2), (⟨"SubstituteDesk$SchoolText", "takeWord", "(Ljava/lang/String;)Z"⟩, 2), (⟨"SubstituteDesk$SchoolText", "fail", "(I)Z"⟩, 2), (⟨"SubstituteDesk$SchoolText", "checkNumber", "(II)Z"⟩, 2), (⟨"SubstituteDesk$SchoolText", "takeNumber", "()I"⟩, 2), (⟨"SubstituteDesk$SchoolText", "takeSemicolon", "()Z"⟩, 2), (⟨"SubstituteDesk$SchoolText", "readSubjects", "()Z"⟩, 2), (⟨"SubstituteDesk$SchoolText", "readTeachers", "()Z"⟩, 2), (⟨"SubstituteDesk$SchoolText", "readTeacher", "()Z"⟩, 2), (⟨"SubstituteDesk$SchoolText", "readRooms", "()Z"⟩, 2), (⟨"SubstituteDesk$SchoolText", "readClasses", "()Z"⟩, 2), (⟨"SubstituteDesk$SchoolText", "readLessons", "()Z"⟩, 2), (⟨"SubstituteDesk$SchoolText", "readLesson", "()Z"⟩, 2)]
theorem lw_r1 : ∀ q ∈ lw_privs_1, lw_okq q := List.forall_mem_cons.mpr ⟨lw_p0, List.forall_mem_cons.mpr ⟨lw_p1, List.forall_mem_cons.mpr ⟨lw_p2, List.forall_mem_cons.mpr ⟨lw_p3, List.forall_mem_cons.mpr ⟨lw_p4, List.forall_mem_cons.mpr ⟨lw_p5, List.forall_mem_cons.mpr ⟨lw_p6, List.forall_mem_cons.mpr ⟨lw_p7, List.forall_mem_cons.mpr ⟨lw_p8, List.forall_mem_cons.mpr ⟨lw_p9, List.forall_mem_cons.mpr ⟨lw_p10, List.forall_mem_cons.mpr ⟨lw_p11, List.forall_mem_cons.mpr ⟨lw_p12, List.forall_mem_cons.mpr ⟨lw_p13, List.forall_mem_cons.mpr ⟨lw_p14, List.forall_mem_cons.mpr ⟨lw_p15, fun _ h => absurd h List.not_mem_nil⟩⟩⟩⟩⟩⟩⟩⟩⟩⟩⟩⟩⟩⟩⟩⟩
theorem lw_p16 : lw_okq (⟨"SubstituteDesk$SchoolText", "checkUntaken", "(ILSubstituteDesk$Row;I)Z"⟩, 2) := ⟨⟨by decide +kernel, by decide +kernel⟩, List.mem_of_getElem? (i := 380) (by decide +kernel), List.mem_of_getElem? (i := 639) (by decide +kernel), List.mem_of_getElem? (i := 640) (by decide +kernel)⟩
theorem lw_p17 : lw_okq (⟨"SubstituteDesk$History", "baseOf", "(I)I"⟩, 4) := ⟨⟨by decide +kernel, by decide +kernel⟩, List.mem_of_getElem? (i := 314) (by decide +kernel), List.mem_of_getElem? (i := 681) (by decide +kernel), List.mem_of_getElem? (i := 682) (by decide +kernel)⟩
theorem lw_p18 : lw_okq (⟨"SubstituteDesk$ScriptText", "findStep", "()I"⟩, 5) := ⟨⟨by decide +kernel, by decide +kernel⟩, List.mem_of_getElem? (i := 396) (by decide +kernel), List.mem_of_getElem? (i := 692) (by decide +kernel), List.mem_of_getElem? (i := 693) (by decide +kernel)⟩
theorem lw_p19 : lw_okq (⟨"SubstituteDesk$Chains", "presentAt", "(I)I"⟩, 7) := ⟨⟨by decide +kernel, by decide +kernel⟩, List.mem_of_getElem? (i := 262) (by decide +kernel), List.mem_of_getElem? (i := 752) (by decide +kernel), List.mem_of_getElem? (i := 753) (by decide +kernel)⟩
theorem lw_p20 : lw_okq (⟨"SubstituteDesk$Chains", "busyAt", "(II)I"⟩, 7) := ⟨⟨by decide +kernel, by decide +kernel⟩, List.mem_of_getElem? (i := 262) (by decide +kernel), List.mem_of_getElem? (i := 758) (by decide +kernel), List.mem_of_getElem? (i := 759) (by decide +kernel)⟩
theorem lw_p21 : lw_okq (⟨"SubstituteDesk$Chains", "leastLoaded", "(I)I"⟩, 7) := ⟨⟨by decide +kernel, by decide +kernel⟩, List.mem_of_getElem? (i := 262) (by decide +kernel), List.mem_of_getElem? (i := 771) (by decide +kernel), List.mem_of_getElem? (i := 772) (by decide +kernel)⟩
theorem lw_p22 : lw_okq (⟨"SubstituteDesk$Chains", "choose", "(I)V"⟩, 7) := ⟨⟨by decide +kernel, by decide +kernel⟩, List.mem_of_getElem? (i := 262) (by decide +kernel), List.mem_of_getElem? (i := 780) (by decide +kernel), List.mem_of_getElem? (i := 781) (by decide +kernel)⟩
theorem lw_p23 : lw_okq (⟨"SubstituteDesk$Chains", "thoseBefore", "(II)I"⟩, 7) := ⟨⟨by decide +kernel, by decide +kernel⟩, List.mem_of_getElem? (i := 262) (by decide +kernel), List.mem_of_getElem? (i := 784) (by decide +kernel), List.mem_of_getElem? (i := 785) (by decide +kernel)⟩
theorem lw_p24 : lw_okq (⟨"SubstituteDesk$Chains", "lowest", "(I)I"⟩, 7) := ⟨⟨by decide +kernel, by decide +kernel⟩, List.mem_of_getElem? (i := 262) (by decide +kernel), List.mem_of_getElem? (i := 788) (by decide +kernel), List.mem_of_getElem? (i := 789) (by decide +kernel)⟩
theorem lw_p25 : lw_okq (⟨"SubstituteDesk$Chains", "successorsOf", "(I)I"⟩, 7) := ⟨⟨by decide +kernel, by decide +kernel⟩, List.mem_of_getElem? (i := 262) (by decide +kernel), List.mem_of_getElem? (i := 792) (by decide +kernel), List.mem_of_getElem? (i := 793) (by decide +kernel)⟩
theorem lw_p26 : lw_okq (⟨"SubstituteDesk$Reasons", "isBusy", "(II)Z"⟩, 2) := ⟨⟨by decide +kernel, by decide +kernel⟩, List.mem_of_getElem? (i := 249) (by decide +kernel), List.mem_of_getElem? (i := 820) (by decide +kernel), List.mem_of_getElem? (i := 821) (by decide +kernel)⟩
theorem lw_p27 : lw_okq (⟨"SubstituteDesk$Reasons", "isTeacherAwayAt", "(II)Z"⟩, 2) := ⟨⟨by decide +kernel, by decide +kernel⟩, List.mem_of_getElem? (i := 249) (by decide +kernel), List.mem_of_getElem? (i := 856) (by decide +kernel), List.mem_of_getElem? (i := 857) (by decide +kernel)⟩
theorem lw_p28 : lw_okq (⟨"SubstituteDesk$Reasons", "isHeldByThird", "(LSubstituteDesk$Row;II)Z"⟩, 2) := ⟨⟨by decide +kernel, by decide +kernel⟩, List.mem_of_getElem? (i := 249) (by decide +kernel), List.mem_of_getElem? (i := 860) (by decide +kernel), List.mem_of_getElem? (i := 861) (by decide +kernel)⟩
theorem lw_p29 : lw_okq (⟨"java/lang/Throwable", "fillInStackTrace", "(I)Ljava/lang/Throwable;"⟩, 6) := ⟨⟨by decide +kernel, by decide +kernel⟩, List.mem_of_getElem? (i := 1011) (by decide +kernel), List.mem_of_getElem? (i := 1009) (by decide +kernel), List.mem_of_getElem? (i := 1010) (by decide +kernel)⟩
theorem lw_p30 : lw_okq (⟨"SubstituteDesk", "requireTeacher", "(I)V"⟩, 10) := ⟨⟨by decide +kernel, by decide +kernel⟩, List.mem_of_getElem? (i := 27) (by decide +kernel), List.mem_of_getElem? (i := 1077) (by decide +kernel), List.mem_of_getElem? (i := 1078) (by decide +kernel)⟩
theorem lw_p31 : lw_okq (⟨"SubstituteDesk", "requireDay", "(I)V"⟩, 10) := ⟨⟨by decide +kernel, by decide +kernel⟩, List.mem_of_getElem? (i := 27) (by decide +kernel), List.mem_of_getElem? (i := 1098) (by decide +kernel), List.mem_of_getElem? (i := 1099) (by decide +kernel)⟩
def lw_privs_2 : List (MethodName × Nat) := [(⟨"SubstituteDesk$SchoolText", "checkUntaken", "(ILSubstituteDesk$Row;I)Z"⟩, 2), (⟨"SubstituteDesk$History", "baseOf", "(I)I"⟩, 4), (⟨"SubstituteDesk$ScriptText", "findStep", "()I"⟩, 5), (⟨"SubstituteDesk$Chains", "presentAt", "(I)I"⟩, 7), (⟨"SubstituteDesk$Chains", "busyAt", "(II)I"⟩, 7), (⟨"SubstituteDesk$Chains", "leastLoaded", "(I)I"⟩, 7), (⟨"SubstituteDesk$Chains", "choose", "(I)V"⟩, 7), (⟨"SubstituteDesk$Chains", "thoseBefore", "(II)I"⟩, 7), (⟨"SubstituteDesk$Chains", "lowest", "(I)I"⟩, 7), (⟨"SubstituteDesk$Chains", "successorsOf", "(I)I"⟩, 7), (⟨"SubstituteDesk$Reasons", "isBusy", "(II)Z"⟩, 2), (⟨"SubstituteDesk$Reasons", "isTeacherAwayAt", "(II)Z"⟩, 2), (⟨"SubstituteDesk$Reasons", "isHeldByThird", "(LSubstituteDesk$Row;II)Z"⟩, 2), (⟨"java/lang/Throwable", "fillInStackTrace", "(I)Ljava/lang/Throwable;"⟩, 6), (⟨"SubstituteDesk", "requireTeacher", "(I)V"⟩, 10), (⟨"SubstituteDesk", "requireDay", "(I)V"⟩, 10)]
theorem lw_r2 : ∀ q ∈ lw_privs_2, lw_okq q := List.forall_mem_cons.mpr ⟨lw_p16, List.forall_mem_cons.mpr ⟨lw_p17, List.forall_mem_cons.mpr ⟨lw_p18, List.forall_mem_cons.mpr ⟨lw_p19, List.forall_mem_cons.mpr ⟨lw_p20, List.forall_mem_cons.mpr ⟨lw_p21, List.forall_mem_cons.mpr ⟨lw_p22, List.forall_mem_cons.mpr ⟨lw_p23, List.forall_mem_cons.mpr ⟨lw_p24, List.forall_mem_cons.mpr ⟨lw_p25, List.forall_mem_cons.mpr ⟨lw_p26, List.forall_mem_cons.mpr ⟨lw_p27, List.forall_mem_cons.mpr ⟨lw_p28, List.forall_mem_cons.mpr ⟨lw_p29, List.forall_mem_cons.mpr ⟨lw_p30, List.forall_mem_cons.mpr ⟨lw_p31, fun _ h => absurd h List.not_mem_nil⟩⟩⟩⟩⟩⟩⟩⟩⟩⟩⟩⟩⟩⟩⟩⟩
theorem lw_p32 : lw_okq (⟨"SubstituteDesk", "requireLesson", "(I)V"⟩, 10) := ⟨⟨by decide +kernel, by decide +kernel⟩, List.mem_of_getElem? (i := 27) (by decide +kernel), List.mem_of_getElem? (i := 1112) (by decide +kernel), List.mem_of_getElem? (i := 1113) (by decide +kernel)⟩
theorem lw_p33 : lw_okq (⟨"SubstituteDesk", "keepUnlessRefused", "(Z)V"⟩, 10) := ⟨⟨by decide +kernel, by decide +kernel⟩, List.mem_of_getElem? (i := 27) (by decide +kernel), List.mem_of_getElem? (i := 1119) (by decide +kernel), List.mem_of_getElem? (i := 1120) (by decide +kernel)⟩
theorem lw_p34 : lw_okq (⟨"SubstituteDesk", "requireSlot", "(I)V"⟩, 10) := ⟨⟨by decide +kernel, by decide +kernel⟩, List.mem_of_getElem? (i := 27) (by decide +kernel), List.mem_of_getElem? (i := 1159) (by decide +kernel), List.mem_of_getElem? (i := 1160) (by decide +kernel)⟩
theorem lw_p35 : lw_okq (⟨"SubstituteDesk", "requireRoom", "(I)V"⟩, 10) := ⟨⟨by decide +kernel, by decide +kernel⟩, List.mem_of_getElem? (i := 27) (by decide +kernel), List.mem_of_getElem? (i := 1173) (by decide +kernel), List.mem_of_getElem? (i := 1174) (by decide +kernel)⟩
theorem lw_p36 : lw_okq (⟨"SubstituteDesk", "requireClass", "(I)V"⟩, 10) := ⟨⟨by decide +kernel, by decide +kernel⟩, List.mem_of_getElem? (i := 27) (by decide +kernel), List.mem_of_getElem? (i := 1348) (by decide +kernel), List.mem_of_getElem? (i := 1349) (by decide +kernel)⟩
theorem lw_p37 : lw_okq (⟨"SubstituteDesk$Report", "append", "(I)V"⟩, 4) := ⟨⟨by decide +kernel, by decide +kernel⟩, List.mem_of_getElem? (i := 422) (by decide +kernel), List.mem_of_getElem? (i := 1431) (by decide +kernel), List.mem_of_getElem? (i := 1432) (by decide +kernel)⟩
theorem lw_p38 : lw_okq (⟨"SubstituteDesk$Report", "writeLesson", "(I)V"⟩, 4) := ⟨⟨by decide +kernel, by decide +kernel⟩, List.mem_of_getElem? (i := 422) (by decide +kernel), List.mem_of_getElem? (i := 1437) (by decide +kernel), List.mem_of_getElem? (i := 1438) (by decide +kernel)⟩
theorem lw_p39 : lw_okq (⟨"SubstituteDeskModel", "beginAnew", "()V"⟩, 20) := ⟨⟨by decide +kernel, by decide +kernel⟩, List.mem_of_getElem? (i := 1465) (by decide +kernel), List.mem_of_getElem? (i := 1471) (by decide +kernel), List.mem_of_getElem? (i := 1472) (by decide +kernel)⟩
theorem lw_p40 : lw_okq (⟨"SubstituteDeskModel", "firstly", "(I)V"⟩, 20) := ⟨⟨by decide +kernel, by decide +kernel⟩, List.mem_of_getElem? (i := 1465) (by decide +kernel), List.mem_of_getElem? (i := 1475) (by decide +kernel), List.mem_of_getElem? (i := 1476) (by decide +kernel)⟩
theorem lw_p41 : lw_okq (⟨"SubstituteDeskModel", "no", "(I)I"⟩, 20) := ⟨⟨by decide +kernel, by decide +kernel⟩, List.mem_of_getElem? (i := 1465) (by decide +kernel), List.mem_of_getElem? (i := 1548) (by decide +kernel), List.mem_of_getElem? (i := 1549) (by decide +kernel)⟩
theorem lw_p42 : lw_okq (⟨"SubstituteDeskModel", "isTeacher", "(I)Z"⟩, 20) := ⟨⟨by decide +kernel, by decide +kernel⟩, List.mem_of_getElem? (i := 1465) (by decide +kernel), List.mem_of_getElem? (i := 1560) (by decide +kernel), List.mem_of_getElem? (i := 1561) (by decide +kernel)⟩
theorem lw_p43 : lw_okq (⟨"SubstituteDeskModel", "isDay", "(I)Z"⟩, 20) := ⟨⟨by decide +kernel, by decide +kernel⟩, List.mem_of_getElem? (i := 1465) (by decide +kernel), List.mem_of_getElem? (i := 1567) (by decide +kernel), List.mem_of_getElem? (i := 1568) (by decide +kernel)⟩
theorem lw_p44 : lw_okq (⟨"SubstituteDeskModel", "fails", "(ZI)Z"⟩, 20) := ⟨⟨by decide +kernel, by decide +kernel⟩, List.mem_of_getElem? (i := 1465) (by decide +kernel), List.mem_of_getElem? (i := 1571) (by decide +kernel), List.mem_of_getElem? (i := 1572) (by decide +kernel)⟩
theorem lw_p45 : lw_okq (⟨"SubstituteDeskModel", "remember", "()V"⟩, 20) := ⟨⟨by decide +kernel, by decide +kernel⟩, List.mem_of_getElem? (i := 1465) (by decide +kernel), List.mem_of_getElem? (i := 1575) (by decide +kernel), List.mem_of_getElem? (i := 1576) (by decide +kernel)⟩
theorem lw_p46 : lw_okq (⟨"SubstituteDeskModel", "push", "()V"⟩, 20) := ⟨⟨by decide +kernel, by decide +kernel⟩, List.mem_of_getElem? (i := 1465) (by decide +kernel), List.mem_of_getElem? (i := 1582) (by decide +kernel), List.mem_of_getElem? (i := 1583) (by decide +kernel)⟩
theorem lw_p47 : lw_okq (⟨"SubstituteDeskModel", "absents", "(IIZ)I"⟩, 20) := ⟨⟨by decide +kernel, by decide +kernel⟩, List.mem_of_getElem? (i := 1465) (by decide +kernel), List.mem_of_getElem? (i := 1586) (by decide +kernel), List.mem_of_getElem? (i := 1587) (by decide +kernel)⟩
def lw_privs_3 : List (MethodName × Nat) := [(⟨"SubstituteDesk", "requireLesson", "(I)V"⟩, 10), (⟨"SubstituteDesk", "keepUnlessRefused", "(Z)V"⟩, 10), (⟨"SubstituteDesk", "requireSlot", "(I)V"⟩, 10), (⟨"SubstituteDesk", "requireRoom", "(I)V"⟩, 10), (⟨"SubstituteDesk", "requireClass", "(I)V"⟩, 10), (⟨"SubstituteDesk$Report", "append", "(I)V"⟩, 4), (⟨"SubstituteDesk$Report", "writeLesson", "(I)V"⟩, 4), (⟨"SubstituteDeskModel", "beginAnew", "()V"⟩, 20), (⟨"SubstituteDeskModel", "firstly", "(I)V"⟩, 20), (⟨"SubstituteDeskModel", "no", "(I)I"⟩, 20), (⟨"SubstituteDeskModel", "isTeacher", "(I)Z"⟩, 20), (⟨"SubstituteDeskModel", "isDay", "(I)Z"⟩, 20), (⟨"SubstituteDeskModel", "fails", "(ZI)Z"⟩, 20), (⟨"SubstituteDeskModel", "remember", "()V"⟩, 20), (⟨"SubstituteDeskModel", "push", "()V"⟩, 20), (⟨"SubstituteDeskModel", "absents", "(IIZ)I"⟩, 20)]
theorem lw_r3 : ∀ q ∈ lw_privs_3, lw_okq q := List.forall_mem_cons.mpr ⟨lw_p32, List.forall_mem_cons.mpr ⟨lw_p33, List.forall_mem_cons.mpr ⟨lw_p34, List.forall_mem_cons.mpr ⟨lw_p35, List.forall_mem_cons.mpr ⟨lw_p36, List.forall_mem_cons.mpr ⟨lw_p37, List.forall_mem_cons.mpr ⟨lw_p38, List.forall_mem_cons.mpr ⟨lw_p39, List.forall_mem_cons.mpr ⟨lw_p40, List.forall_mem_cons.mpr ⟨lw_p41, List.forall_mem_cons.mpr ⟨lw_p42, List.forall_mem_cons.mpr ⟨lw_p43, List.forall_mem_cons.mpr ⟨lw_p44, List.forall_mem_cons.mpr ⟨lw_p45, List.forall_mem_cons.mpr ⟨lw_p46, List.forall_mem_cons.mpr ⟨lw_p47, fun _ h => absurd h List.not_mem_nil⟩⟩⟩⟩⟩⟩⟩⟩⟩⟩⟩⟩⟩⟩⟩⟩
theorem lw_p48 : lw_okq (⟨"SubstituteDeskModel", "dayOf", "(I)I"⟩, 20) := ⟨⟨by decide +kernel, by decide +kernel⟩, List.mem_of_getElem? (i := 1465) (by decide +kernel), List.mem_of_getElem? (i := 1590) (by decide +kernel), List.mem_of_getElem? (i := 1591) (by decide +kernel)⟩
theorem lw_p49 : lw_okq (⟨"SubstituteDeskModel", "opens", "(I)V"⟩, 20) := ⟨⟨by decide +kernel, by decide +kernel⟩, List.mem_of_getElem? (i := 1465) (by decide +kernel), List.mem_of_getElem? (i := 1594) (by decide +kernel), List.mem_of_getElem? (i := 1595) (by decide +kernel)⟩
theorem lw_p50 : lw_okq (⟨"SubstituteDeskModel", "isLesson", "(I)Z"⟩, 20) := ⟨⟨by decide +kernel, by decide +kernel⟩, List.mem_of_getElem? (i := 1465) (by decide +kernel), List.mem_of_getElem? (i := 1602) (by decide +kernel), List.mem_of_getElem? (i := 1603) (by decide +kernel)⟩
theorem lw_p51 : lw_okq (⟨"SubstituteDeskModel", "reasonToCover", "(II)I"⟩, 20) := ⟨⟨by decide +kernel, by decide +kernel⟩, List.mem_of_getElem? (i := 1465) (by decide +kernel), List.mem_of_getElem? (i := 1606) (by decide +kernel), List.mem_of_getElem? (i := 1607) (by decide +kernel)⟩
theorem lw_p52 : lw_okq (⟨"SubstituteDeskModel", "isTaught", "(I)Z"⟩, 20) := ⟨⟨by decide +kernel, by decide +kernel⟩, List.mem_of_getElem? (i := 1465) (by decide +kernel), List.mem_of_getElem? (i := 1610) (by decide +kernel), List.mem_of_getElem? (i := 1611) (by decide +kernel)⟩
theorem lw_p53 : lw_okq (⟨"SubstituteDeskModel", "isOpen", "(I)Z"⟩, 20) := ⟨⟨by decide +kernel, by decide +kernel⟩, List.mem_of_getElem? (i := 1465) (by decide +kernel), List.mem_of_getElem? (i := 1614) (by decide +kernel), List.mem_of_getElem? (i := 1615) (by decide +kernel)⟩
theorem lw_p54 : lw_okq (⟨"SubstituteDeskModel", "isAbsent", "(II)Z"⟩, 20) := ⟨⟨by decide +kernel, by decide +kernel⟩, List.mem_of_getElem? (i := 1465) (by decide +kernel), List.mem_of_getElem? (i := 1618) (by decide +kernel), List.mem_of_getElem? (i := 1619) (by decide +kernel)⟩
theorem lw_p55 : lw_okq (⟨"SubstituteDeskModel", "isQualified", "(II)Z"⟩, 20) := ⟨⟨by decide +kernel, by decide +kernel⟩, List.mem_of_getElem? (i := 1465) (by decide +kernel), List.mem_of_getElem? (i := 1625) (by decide +kernel), List.mem_of_getElem? (i := 1626) (by decide +kernel)⟩
theorem lw_p56 : lw_okq (⟨"SubstituteDeskModel", "ofTeacher", "(II)I"⟩, 20) := ⟨⟨by decide +kernel, by decide +kernel⟩, List.mem_of_getElem? (i := 1465) (by decide +kernel), List.mem_of_getElem? (i := 1629) (by decide +kernel), List.mem_of_getElem? (i := 1630) (by decide +kernel)⟩
theorem lw_p57 : lw_okq (⟨"SubstituteDeskModel", "lessonWith", "(IIIII)I"⟩, 20) := ⟨⟨by decide +kernel, by decide +kernel⟩, List.mem_of_getElem? (i := 1465) (by decide +kernel), List.mem_of_getElem? (i := 1633) (by decide +kernel), List.mem_of_getElem? (i := 1634) (by decide +kernel)⟩
theorem lw_p58 : lw_okq (⟨"SubstituteDeskModel", "loadOf", "(I)I"⟩, 20) := ⟨⟨by decide +kernel, by decide +kernel⟩, List.mem_of_getElem? (i := 1465) (by decide +kernel), List.mem_of_getElem? (i := 1637) (by decide +kernel), List.mem_of_getElem? (i := 1638) (by decide +kernel)⟩
theorem lw_p59 : lw_okq (⟨"SubstituteDeskModel", "taughtBy", "(I)I"⟩, 20) := ⟨⟨by decide +kernel, by decide +kernel⟩, List.mem_of_getElem? (i := 1465) (by decide +kernel), List.mem_of_getElem? (i := 1641) (by decide +kernel), List.mem_of_getElem? (i := 1642) (by decide +kernel)⟩
theorem lw_p60 : lw_okq (⟨"SubstituteDeskModel", "firstBy", "(I)I"⟩, 20) := ⟨⟨by decide +kernel, by decide +kernel⟩, List.mem_of_getElem? (i := 1465) (by decide +kernel), List.mem_of_getElem? (i := 1645) (by decide +kernel), List.mem_of_getElem? (i := 1646) (by decide +kernel)⟩
theorem lw_p61 : lw_okq (⟨"SubstituteDeskModel", "gives", "(III)V"⟩, 20) := ⟨⟨by decide +kernel, by decide +kernel⟩, List.mem_of_getElem? (i := 1465) (by decide +kernel), List.mem_of_getElem? (i := 1649) (by decide +kernel), List.mem_of_getElem? (i := 1650) (by decide +kernel)⟩
theorem lw_p62 : lw_okq (⟨"SubstituteDeskModel", "reasonToWatch", "(II)I"⟩, 20) := ⟨⟨by decide +kernel, by decide +kernel⟩, List.mem_of_getElem? (i := 1465) (by decide +kernel), List.mem_of_getElem? (i := 1657) (by decide +kernel), List.mem_of_getElem? (i := 1658) (by decide +kernel)⟩
theorem lw_p63 : lw_okq (⟨"SubstituteDeskModel", "dutiesOf", "(II)I"⟩, 20) := ⟨⟨by decide +kernel, by decide +kernel⟩, List.mem_of_getElem? (i := 1465) (by decide +kernel), List.mem_of_getElem? (i := 1661) (by decide +kernel), List.mem_of_getElem? (i := 1662) (by decide +kernel)⟩
def lw_privs_4 : List (MethodName × Nat) := [(⟨"SubstituteDeskModel", "dayOf", "(I)I"⟩, 20), (⟨"SubstituteDeskModel", "opens", "(I)V"⟩, 20), (⟨"SubstituteDeskModel", "isLesson", "(I)Z"⟩, 20), (⟨"SubstituteDeskModel", "reasonToCover", "(II)I"⟩, 20), (⟨"SubstituteDeskModel", "isTaught", "(I)Z"⟩, 20), (⟨"SubstituteDeskModel", "isOpen", "(I)Z"⟩, 20), (⟨"SubstituteDeskModel", "isAbsent", "(II)Z"⟩, 20), (⟨"SubstituteDeskModel", "isQualified", "(II)Z"⟩, 20), (⟨"SubstituteDeskModel", "ofTeacher", "(II)I"⟩, 20), (⟨"SubstituteDeskModel", "lessonWith", "(IIIII)I"⟩, 20), (⟨"SubstituteDeskModel", "loadOf", "(I)I"⟩, 20), (⟨"SubstituteDeskModel", "taughtBy", "(I)I"⟩, 20), (⟨"SubstituteDeskModel", "firstBy", "(I)I"⟩, 20), (⟨"SubstituteDeskModel", "gives", "(III)V"⟩, 20), (⟨"SubstituteDeskModel", "reasonToWatch", "(II)I"⟩, 20), (⟨"SubstituteDeskModel", "dutiesOf", "(II)I"⟩, 20)]
theorem lw_r4 : ∀ q ∈ lw_privs_4, lw_okq q := List.forall_mem_cons.mpr ⟨lw_p48, List.forall_mem_cons.mpr ⟨lw_p49, List.forall_mem_cons.mpr ⟨lw_p50, List.forall_mem_cons.mpr ⟨lw_p51, List.forall_mem_cons.mpr ⟨lw_p52, List.forall_mem_cons.mpr ⟨lw_p53, List.forall_mem_cons.mpr ⟨lw_p54, List.forall_mem_cons.mpr ⟨lw_p55, List.forall_mem_cons.mpr ⟨lw_p56, List.forall_mem_cons.mpr ⟨lw_p57, List.forall_mem_cons.mpr ⟨lw_p58, List.forall_mem_cons.mpr ⟨lw_p59, List.forall_mem_cons.mpr ⟨lw_p60, List.forall_mem_cons.mpr ⟨lw_p61, List.forall_mem_cons.mpr ⟨lw_p62, List.forall_mem_cons.mpr ⟨lw_p63, fun _ h => absurd h List.not_mem_nil⟩⟩⟩⟩⟩⟩⟩⟩⟩⟩⟩⟩⟩⟩⟩⟩
theorem lw_p64 : lw_okq (⟨"SubstituteDeskModel", "findChain", "(I)I"⟩, 20) := ⟨⟨by decide +kernel, by decide +kernel⟩, List.mem_of_getElem? (i := 1465) (by decide +kernel), List.mem_of_getElem? (i := 1669) (by decide +kernel), List.mem_of_getElem? (i := 1670) (by decide +kernel)⟩
theorem lw_p65 : lw_okq (⟨"SubstituteDeskModel", "goes", "(IIII)V"⟩, 20) := ⟨⟨by decide +kernel, by decide +kernel⟩, List.mem_of_getElem? (i := 1465) (by decide +kernel), List.mem_of_getElem? (i := 1673) (by decide +kernel), List.mem_of_getElem? (i := 1674) (by decide +kernel)⟩
theorem lw_p66 : lw_okq (⟨"SubstituteDeskModel", "isOnWay", "(II)Z"⟩, 20) := ⟨⟨by decide +kernel, by decide +kernel⟩, List.mem_of_getElem? (i := 1465) (by decide +kernel), List.mem_of_getElem? (i := 1677) (by decide +kernel), List.mem_of_getElem? (i := 1678) (by decide +kernel)⟩
theorem lw_p67 : lw_okq (⟨"SubstituteDeskModel", "chains", "(I)V"⟩, 20) := ⟨⟨by decide +kernel, by decide +kernel⟩, List.mem_of_getElem? (i := 1465) (by decide +kernel), List.mem_of_getElem? (i := 1681) (by decide +kernel), List.mem_of_getElem? (i := 1682) (by decide +kernel)⟩
theorem lw_p68 : lw_okq (⟨"SubstituteDeskModel", "repairsAll", "()I"⟩, 20) := ⟨⟨by decide +kernel, by decide +kernel⟩, List.mem_of_getElem? (i := 1465) (by decide +kernel), List.mem_of_getElem? (i := 1689) (by decide +kernel), List.mem_of_getElem? (i := 1690) (by decide +kernel)⟩
theorem lw_p69 : lw_okq (⟨"SubstituteDeskModel", "reasonToExchange", "(II)I"⟩, 20) := ⟨⟨by decide +kernel, by decide +kernel⟩, List.mem_of_getElem? (i := 1465) (by decide +kernel), List.mem_of_getElem? (i := 1697) (by decide +kernel), List.mem_of_getElem? (i := 1698) (by decide +kernel)⟩
theorem lw_p70 : lw_okq (⟨"SubstituteDeskModel", "isElsewhere", "(III)Z"⟩, 20) := ⟨⟨by decide +kernel, by decide +kernel⟩, List.mem_of_getElem? (i := 1465) (by decide +kernel), List.mem_of_getElem? (i := 1701) (by decide +kernel), List.mem_of_getElem? (i := 1702) (by decide +kernel)⟩
theorem lw_p71 : lw_okq (⟨"SubstituteDeskModel", "swaps", "(II)V"⟩, 20) := ⟨⟨by decide +kernel, by decide +kernel⟩, List.mem_of_getElem? (i := 1465) (by decide +kernel), List.mem_of_getElem? (i := 1705) (by decide +kernel), List.mem_of_getElem? (i := 1706) (by decide +kernel)⟩
theorem lw_p72 : lw_okq (⟨"SubstituteDeskModel", "isSlot", "(I)Z"⟩, 20) := ⟨⟨by decide +kernel, by decide +kernel⟩, List.mem_of_getElem? (i := 1465) (by decide +kernel), List.mem_of_getElem? (i := 1713) (by decide +kernel), List.mem_of_getElem? (i := 1714) (by decide +kernel)⟩
theorem lw_p73 : lw_okq (⟨"SubstituteDeskModel", "slots", "()I"⟩, 20) := ⟨⟨by decide +kernel, by decide +kernel⟩, List.mem_of_getElem? (i := 1465) (by decide +kernel), List.mem_of_getElem? (i := 1717) (by decide +kernel), List.mem_of_getElem? (i := 1718) (by decide +kernel)⟩
theorem lw_p74 : lw_okq (⟨"SubstituteDeskModel", "reasonToMove", "(II)I"⟩, 20) := ⟨⟨by decide +kernel, by decide +kernel⟩, List.mem_of_getElem? (i := 1465) (by decide +kernel), List.mem_of_getElem? (i := 1721) (by decide +kernel), List.mem_of_getElem? (i := 1722) (by decide +kernel)⟩
theorem lw_p75 : lw_okq (⟨"SubstituteDeskModel", "ofClass", "(II)I"⟩, 20) := ⟨⟨by decide +kernel, by decide +kernel⟩, List.mem_of_getElem? (i := 1465) (by decide +kernel), List.mem_of_getElem? (i := 1725) (by decide +kernel), List.mem_of_getElem? (i := 1726) (by decide +kernel)⟩
theorem lw_p76 : lw_okq (⟨"SubstituteDeskModel", "isRoom", "(I)Z"⟩, 20) := ⟨⟨by decide +kernel, by decide +kernel⟩, List.mem_of_getElem? (i := 1465) (by decide +kernel), List.mem_of_getElem? (i := 1733) (by decide +kernel), List.mem_of_getElem? (i := 1734) (by decide +kernel)⟩
theorem lw_p77 : lw_okq (⟨"SubstituteDeskModel", "reasonForRoom", "(II)I"⟩, 20) := ⟨⟨by decide +kernel, by decide +kernel⟩, List.mem_of_getElem? (i := 1465) (by decide +kernel), List.mem_of_getElem? (i := 1737) (by decide +kernel), List.mem_of_getElem? (i := 1738) (by decide +kernel)⟩
theorem lw_p78 : lw_okq (⟨"SubstituteDeskModel", "differences", "()I"⟩, 20) := ⟨⟨by decide +kernel, by decide +kernel⟩, List.mem_of_getElem? (i := 1465) (by decide +kernel), List.mem_of_getElem? (i := 1749) (by decide +kernel), List.mem_of_getElem? (i := 1750) (by decide +kernel)⟩
theorem lw_p79 : lw_okq (⟨"SubstituteDeskModel", "differs", "(I)Z"⟩, 20) := ⟨⟨by decide +kernel, by decide +kernel⟩, List.mem_of_getElem? (i := 1465) (by decide +kernel), List.mem_of_getElem? (i := 1753) (by decide +kernel), List.mem_of_getElem? (i := 1754) (by decide +kernel)⟩
def lw_privs_5 : List (MethodName × Nat) := [(⟨"SubstituteDeskModel", "findChain", "(I)I"⟩, 20), (⟨"SubstituteDeskModel", "goes", "(IIII)V"⟩, 20), (⟨"SubstituteDeskModel", "isOnWay", "(II)Z"⟩, 20), (⟨"SubstituteDeskModel", "chains", "(I)V"⟩, 20), (⟨"SubstituteDeskModel", "repairsAll", "()I"⟩, 20), (⟨"SubstituteDeskModel", "reasonToExchange", "(II)I"⟩, 20), (⟨"SubstituteDeskModel", "isElsewhere", "(III)Z"⟩, 20), (⟨"SubstituteDeskModel", "swaps", "(II)V"⟩, 20), (⟨"SubstituteDeskModel", "isSlot", "(I)Z"⟩, 20), (⟨"SubstituteDeskModel", "slots", "()I"⟩, 20), (⟨"SubstituteDeskModel", "reasonToMove", "(II)I"⟩, 20), (⟨"SubstituteDeskModel", "ofClass", "(II)I"⟩, 20), (⟨"SubstituteDeskModel", "isRoom", "(I)Z"⟩, 20), (⟨"SubstituteDeskModel", "reasonForRoom", "(II)I"⟩, 20), (⟨"SubstituteDeskModel", "differences", "()I"⟩, 20), (⟨"SubstituteDeskModel", "differs", "(I)Z"⟩, 20)]
theorem lw_r5 : ∀ q ∈ lw_privs_5, lw_okq q := List.forall_mem_cons.mpr ⟨lw_p64, List.forall_mem_cons.mpr ⟨lw_p65, List.forall_mem_cons.mpr ⟨lw_p66, List.forall_mem_cons.mpr ⟨lw_p67, List.forall_mem_cons.mpr ⟨lw_p68, List.forall_mem_cons.mpr ⟨lw_p69, List.forall_mem_cons.mpr ⟨lw_p70, List.forall_mem_cons.mpr ⟨lw_p71, List.forall_mem_cons.mpr ⟨lw_p72, List.forall_mem_cons.mpr ⟨lw_p73, List.forall_mem_cons.mpr ⟨lw_p74, List.forall_mem_cons.mpr ⟨lw_p75, List.forall_mem_cons.mpr ⟨lw_p76, List.forall_mem_cons.mpr ⟨lw_p77, List.forall_mem_cons.mpr ⟨lw_p78, List.forall_mem_cons.mpr ⟨lw_p79, fun _ h => absurd h List.not_mem_nil⟩⟩⟩⟩⟩⟩⟩⟩⟩⟩⟩⟩⟩⟩⟩⟩
theorem lw_p80 : lw_okq (⟨"SubstituteDeskModel", "bring", "(I)V"⟩, 20) := ⟨⟨by decide +kernel, by decide +kernel⟩, List.mem_of_getElem? (i := 1465) (by decide +kernel), List.mem_of_getElem? (i := 1761) (by decide +kernel), List.mem_of_getElem? (i := 1762) (by decide +kernel)⟩
theorem lw_p81 : lw_okq (⟨"SubstituteDeskModel", "begin", "()V"⟩, 20) := ⟨⟨by decide +kernel, by decide +kernel⟩, List.mem_of_getElem? (i := 1465) (by decide +kernel), List.mem_of_getElem? (i := 1773) (by decide +kernel), List.mem_of_getElem? (i := 1774) (by decide +kernel)⟩
theorem lw_p82 : lw_okq (⟨"SubstituteDeskModel", "next", "()V"⟩, 20) := ⟨⟨by decide +kernel, by decide +kernel⟩, List.mem_of_getElem? (i := 1465) (by decide +kernel), List.mem_of_getElem? (i := 1777) (by decide +kernel), List.mem_of_getElem? (i := 1778) (by decide +kernel)⟩
theorem lw_p83 : lw_okq (⟨"SubstituteDeskModel", "byteAt", "(I)I"⟩, 20) := ⟨⟨by decide +kernel, by decide +kernel⟩, List.mem_of_getElem? (i := 1465) (by decide +kernel), List.mem_of_getElem? (i := 1781) (by decide +kernel), List.mem_of_getElem? (i := 1782) (by decide +kernel)⟩
theorem lw_p84 : lw_okq (⟨"SubstituteDeskModel", "isLetterAt", "(I)Z"⟩, 20) := ⟨⟨by decide +kernel, by decide +kernel⟩, List.mem_of_getElem? (i := 1465) (by decide +kernel), List.mem_of_getElem? (i := 1785) (by decide +kernel), List.mem_of_getElem? (i := 1786) (by decide +kernel)⟩
theorem lw_p85 : lw_okq (⟨"SubstituteDeskModel", "isDigitAt", "(I)Z"⟩, 20) := ⟨⟨by decide +kernel, by decide +kernel⟩, List.mem_of_getElem? (i := 1465) (by decide +kernel), List.mem_of_getElem? (i := 1791) (by decide +kernel), List.mem_of_getElem? (i := 1792) (by decide +kernel)⟩
theorem lw_p86 : lw_okq (⟨"SubstituteDeskModel", "must", "(Ljava/lang/String;)V"⟩, 20) := ⟨⟨by decide +kernel, by decide +kernel⟩, List.mem_of_getElem? (i := 1465) (by decide +kernel), List.mem_of_getElem? (i := 1798) (by decide +kernel), List.mem_of_getElem? (i := 1799) (by decide +kernel)⟩
theorem lw_p87 : lw_okq (⟨"SubstituteDeskModel", "isWord", "(Ljava/lang/String;)Z"⟩, 20) := ⟨⟨by decide +kernel, by decide +kernel⟩, List.mem_of_getElem? (i := 1465) (by decide +kernel), List.mem_of_getElem? (i := 1802) (by decide +kernel), List.mem_of_getElem? (i := 1803) (by decide +kernel)⟩
theorem lw_p88 : lw_okq (⟨"SubstituteDeskModel", "wrong", "(I)V"⟩, 20) := ⟨⟨by decide +kernel, by decide +kernel⟩, List.mem_of_getElem? (i := 1465) (by decide +kernel), List.mem_of_getElem? (i := 1808) (by decide +kernel), List.mem_of_getElem? (i := 1809) (by decide +kernel)⟩
theorem lw_p89 : lw_okq (⟨"SubstituteDeskModel", "goOn", "()V"⟩, 20) := ⟨⟨by decide +kernel, by decide +kernel⟩, List.mem_of_getElem? (i := 1465) (by decide +kernel), List.mem_of_getElem? (i := 1812) (by decide +kernel), List.mem_of_getElem? (i := 1813) (by decide +kernel)⟩
theorem lw_p90 : lw_okq (⟨"SubstituteDeskModel", "number", "(II)I"⟩, 20) := ⟨⟨by decide +kernel, by decide +kernel⟩, List.mem_of_getElem? (i := 1465) (by decide +kernel), List.mem_of_getElem? (i := 1816) (by decide +kernel), List.mem_of_getElem? (i := 1817) (by decide +kernel)⟩
theorem lw_p91 : lw_okq (⟨"SubstituteDeskModel", "see", "(II)I"⟩, 20) := ⟨⟨by decide +kernel, by decide +kernel⟩, List.mem_of_getElem? (i := 1465) (by decide +kernel), List.mem_of_getElem? (i := 1820) (by decide +kernel), List.mem_of_getElem? (i := 1821) (by decide +kernel)⟩
theorem lw_p92 : lw_okq (⟨"SubstituteDeskModel", "digits", "()J"⟩, 20) := ⟨⟨by decide +kernel, by decide +kernel⟩, List.mem_of_getElem? (i := 1465) (by decide +kernel), List.mem_of_getElem? (i := 1824) (by decide +kernel), List.mem_of_getElem? (i := 1825) (by decide +kernel)⟩
theorem lw_p93 : lw_okq (⟨"SubstituteDeskModel", "readKinds", "(Ljava/lang/String;III)V"⟩, 20) := ⟨⟨by decide +kernel, by decide +kernel⟩, List.mem_of_getElem? (i := 1465) (by decide +kernel), List.mem_of_getElem? (i := 1832) (by decide +kernel), List.mem_of_getElem? (i := 1833) (by decide +kernel)⟩
theorem lw_p94 : lw_okq (⟨"SubstituteDeskModel", "opensThing", "(II)Z"⟩, 20) := ⟨⟨by decide +kernel, by decide +kernel⟩, List.mem_of_getElem? (i := 1465) (by decide +kernel), List.mem_of_getElem? (i := 1836) (by decide +kernel), List.mem_of_getElem? (i := 1837) (by decide +kernel)⟩
theorem lw_p95 : lw_okq (⟨"SubstituteDeskModel", "readTeachers", "()V"⟩, 20) := ⟨⟨by decide +kernel, by decide +kernel⟩, List.mem_of_getElem? (i := 1465) (by decide +kernel), List.mem_of_getElem? (i := 1840) (by decide +kernel), List.mem_of_getElem? (i := 1841) (by decide +kernel)⟩
def lw_privs_6 : List (MethodName × Nat) := [(⟨"SubstituteDeskModel", "bring", "(I)V"⟩, 20), (⟨"SubstituteDeskModel", "begin", "()V"⟩, 20), (⟨"SubstituteDeskModel", "next", "()V"⟩, 20), (⟨"SubstituteDeskModel", "byteAt", "(I)I"⟩, 20), (⟨"SubstituteDeskModel", "isLetterAt", "(I)Z"⟩, 20), (⟨"SubstituteDeskModel", "isDigitAt", "(I)Z"⟩, 20), (⟨"SubstituteDeskModel", "must", "(Ljava/lang/String;)V"⟩, 20), (⟨"SubstituteDeskModel", "isWord", "(Ljava/lang/String;)Z"⟩, 20), (⟨"SubstituteDeskModel", "wrong", "(I)V"⟩, 20), (⟨"SubstituteDeskModel", "goOn", "()V"⟩, 20), (⟨"SubstituteDeskModel", "number", "(II)I"⟩, 20), (⟨"SubstituteDeskModel", "see", "(II)I"⟩, 20), (⟨"SubstituteDeskModel", "digits", "()J"⟩, 20), (⟨"SubstituteDeskModel", "readKinds", "(Ljava/lang/String;III)V"⟩, 20), (⟨"SubstituteDeskModel", "opensThing", "(II)Z"⟩, 20), (⟨"SubstituteDeskModel", "readTeachers", "()V"⟩, 20)]
theorem lw_r6 : ∀ q ∈ lw_privs_6, lw_okq q := List.forall_mem_cons.mpr ⟨lw_p80, List.forall_mem_cons.mpr ⟨lw_p81, List.forall_mem_cons.mpr ⟨lw_p82, List.forall_mem_cons.mpr ⟨lw_p83, List.forall_mem_cons.mpr ⟨lw_p84, List.forall_mem_cons.mpr ⟨lw_p85, List.forall_mem_cons.mpr ⟨lw_p86, List.forall_mem_cons.mpr ⟨lw_p87, List.forall_mem_cons.mpr ⟨lw_p88, List.forall_mem_cons.mpr ⟨lw_p89, List.forall_mem_cons.mpr ⟨lw_p90, List.forall_mem_cons.mpr ⟨lw_p91, List.forall_mem_cons.mpr ⟨lw_p92, List.forall_mem_cons.mpr ⟨lw_p93, List.forall_mem_cons.mpr ⟨lw_p94, List.forall_mem_cons.mpr ⟨lw_p95, fun _ h => absurd h List.not_mem_nil⟩⟩⟩⟩⟩⟩⟩⟩⟩⟩⟩⟩⟩⟩⟩⟩
theorem lw_p96 : lw_okq (⟨"SubstituteDeskModel", "readLesson", "()V"⟩, 20) := ⟨⟨by decide +kernel, by decide +kernel⟩, List.mem_of_getElem? (i := 1465) (by decide +kernel), List.mem_of_getElem? (i := 1848) (by decide +kernel), List.mem_of_getElem? (i := 1849) (by decide +kernel)⟩
theorem lw_p97 : lw_okq (⟨"SubstituteDeskModel", "isThere", "(III)Z"⟩, 20) := ⟨⟨by decide +kernel, by decide +kernel⟩, List.mem_of_getElem? (i := 1465) (by decide +kernel), List.mem_of_getElem? (i := 1852) (by decide +kernel), List.mem_of_getElem? (i := 1853) (by decide +kernel)⟩
theorem lw_p98 : lw_okq (⟨"SubstituteDeskModel", "goesThrough", "()V"⟩, 20) := ⟨⟨by decide +kernel, by decide +kernel⟩, List.mem_of_getElem? (i := 1465) (by decide +kernel), List.mem_of_getElem? (i := 1868) (by decide +kernel), List.mem_of_getElem? (i := 1869) (by decide +kernel)⟩
theorem lw_p99 : lw_okq (⟨"SubstituteDeskModel", "stepHere", "()I"⟩, 20) := ⟨⟨by decide +kernel, by decide +kernel⟩, List.mem_of_getElem? (i := 1465) (by decide +kernel), List.mem_of_getElem? (i := 1872) (by decide +kernel), List.mem_of_getElem? (i := 1873) (by decide +kernel)⟩
theorem lw_p100 : lw_okq (⟨"SubstituteDeskModel", "figure", "()I"⟩, 20) := ⟨⟨by decide +kernel, by decide +kernel⟩, List.mem_of_getElem? (i := 1465) (by decide +kernel), List.mem_of_getElem? (i := 1885) (by decide +kernel), List.mem_of_getElem? (i := 1886) (by decide +kernel)⟩
theorem lw_p101 : lw_okq (⟨"SubstituteDeskModel", "canStep", "(III)Z"⟩, 20) := ⟨⟨by decide +kernel, by decide +kernel⟩, List.mem_of_getElem? (i := 1465) (by decide +kernel), List.mem_of_getElem? (i := 1889) (by decide +kernel), List.mem_of_getElem? (i := 1890) (by decide +kernel)⟩
theorem lw_p102 : lw_okq (⟨"SubstituteDeskModel", "doStep", "(III)V"⟩, 20) := ⟨⟨by decide +kernel, by decide +kernel⟩, List.mem_of_getElem? (i := 1465) (by decide +kernel), List.mem_of_getElem? (i := 1893) (by decide +kernel), List.mem_of_getElem? (i := 1894) (by decide +kernel)⟩
theorem lw_p103 : lw_okq (⟨"SubstituteDeskModel", "partnerOf", "(IZ)I"⟩, 20) := ⟨⟨by decide +kernel, by decide +kernel⟩, List.mem_of_getElem? (i := 1465) (by decide +kernel), List.mem_of_getElem? (i := 1933) (by decide +kernel), List.mem_of_getElem? (i := 1934) (by decide +kernel)⟩
theorem lw_p104 : lw_okq (⟨"SubstituteDeskModel", "openMany", "()I"⟩, 20) := ⟨⟨by decide +kernel, by decide +kernel⟩, List.mem_of_getElem? (i := 1465) (by decide +kernel), List.mem_of_getElem? (i := 1950) (by decide +kernel), List.mem_of_getElem? (i := 1951) (by decide +kernel)⟩
theorem lw_p105 : lw_okq (⟨"SubstituteDeskModel", "watchedMany", "()I"⟩, 20) := ⟨⟨by decide +kernel, by decide +kernel⟩, List.mem_of_getElem? (i := 1465) (by decide +kernel), List.mem_of_getElem? (i := 1954) (by decide +kernel), List.mem_of_getElem? (i := 1955) (by decide +kernel)⟩
theorem lw_p106 : lw_okq (⟨"SubstituteDeskModel", "isClass", "(I)Z"⟩, 20) := ⟨⟨by decide +kernel, by decide +kernel⟩, List.mem_of_getElem? (i := 1465) (by decide +kernel), List.mem_of_getElem? (i := 1980) (by decide +kernel), List.mem_of_getElem? (i := 1981) (by decide +kernel)⟩
theorem lw_p107 : lw_okq (⟨"SubstituteDeskModel", "lessonAt", "(IZ)I"⟩, 20) := ⟨⟨by decide +kernel, by decide +kernel⟩, List.mem_of_getElem? (i := 1465) (by decide +kernel), List.mem_of_getElem? (i := 2005) (by decide +kernel), List.mem_of_getElem? (i := 2006) (by decide +kernel)⟩
theorem lw_p108 : lw_okq (⟨"SubstituteDeskModel", "gapsIn", "(I)I"⟩, 20) := ⟨⟨by decide +kernel, by decide +kernel⟩, List.mem_of_getElem? (i := 1465) (by decide +kernel), List.mem_of_getElem? (i := 2017) (by decide +kernel), List.mem_of_getElem? (i := 2018) (by decide +kernel)⟩
theorem lw_p109 : lw_okq (⟨"SubstituteDeskModel", "printLesson", "(I)V"⟩, 20) := ⟨⟨by decide +kernel, by decide +kernel⟩, List.mem_of_getElem? (i := 1465) (by decide +kernel), List.mem_of_getElem? (i := 2037) (by decide +kernel), List.mem_of_getElem? (i := 2038) (by decide +kernel)⟩
theorem lw_p110 : lw_okq (⟨"SubstituteDeskModel", "print", "(I)V"⟩, 20) := ⟨⟨by decide +kernel, by decide +kernel⟩, List.mem_of_getElem? (i := 1465) (by decide +kernel), List.mem_of_getElem? (i := 2041) (by decide +kernel), List.mem_of_getElem? (i := 2042) (by decide +kernel)⟩
def lw_privs_7 : List (MethodName × Nat) := [(⟨"SubstituteDeskModel", "readLesson", "()V"⟩, 20), (⟨"SubstituteDeskModel", "isThere", "(III)Z"⟩, 20), (⟨"SubstituteDeskModel", "goesThrough", "()V"⟩, 20), (⟨"SubstituteDeskModel", "stepHere", "()I"⟩, 20), (⟨"SubstituteDeskModel", "figure", "()I"⟩, 20), (⟨"SubstituteDeskModel", "canStep", "(III)Z"⟩, 20), (⟨"SubstituteDeskModel", "doStep", "(III)V"⟩, 20), (⟨"SubstituteDeskModel", "partnerOf", "(IZ)I"⟩, 20), (⟨"SubstituteDeskModel", "openMany", "()I"⟩, 20), (⟨"SubstituteDeskModel", "watchedMany", "()I"⟩, 20), (⟨"SubstituteDeskModel", "isClass", "(I)Z"⟩, 20), (⟨"SubstituteDeskModel", "lessonAt", "(IZ)I"⟩, 20), (⟨"SubstituteDeskModel", "gapsIn", "(I)I"⟩, 20), (⟨"SubstituteDeskModel", "printLesson", "(I)V"⟩, 20), (⟨"SubstituteDeskModel", "print", "(I)V"⟩, 20)]
theorem lw_r7 : ∀ q ∈ lw_privs_7, lw_okq q := List.forall_mem_cons.mpr ⟨lw_p96, List.forall_mem_cons.mpr ⟨lw_p97, List.forall_mem_cons.mpr ⟨lw_p98, List.forall_mem_cons.mpr ⟨lw_p99, List.forall_mem_cons.mpr ⟨lw_p100, List.forall_mem_cons.mpr ⟨lw_p101, List.forall_mem_cons.mpr ⟨lw_p102, List.forall_mem_cons.mpr ⟨lw_p103, List.forall_mem_cons.mpr ⟨lw_p104, List.forall_mem_cons.mpr ⟨lw_p105, List.forall_mem_cons.mpr ⟨lw_p106, List.forall_mem_cons.mpr ⟨lw_p107, List.forall_mem_cons.mpr ⟨lw_p108, List.forall_mem_cons.mpr ⟨lw_p109, List.forall_mem_cons.mpr ⟨lw_p110, fun _ h => absurd h List.not_mem_nil⟩⟩⟩⟩⟩⟩⟩⟩⟩⟩⟩⟩⟩⟩⟩
def lw_privs : List (MethodName × Nat) := lw_privs_1 ++ (lw_privs_2 ++ (lw_privs_3 ++ (lw_privs_4 ++ (lw_privs_5 ++ (lw_privs_6 ++ (lw_privs_7))))))
def lw_tbl : List Cond := k2_sels lw_privs ++ tables_1
theorem lw_privs_ok : ∀ q ∈ lw_privs, lw_okq q := by
  show ∀ q ∈ lw_privs_1 ++ (lw_privs_2 ++ (lw_privs_3 ++ (lw_privs_4 ++ (lw_privs_5 ++ (lw_privs_6 ++ (lw_privs_7)))))), lw_okq q
  exact List.forall_mem_append.mpr ⟨lw_r1, List.forall_mem_append.mpr ⟨lw_r2, List.forall_mem_append.mpr ⟨lw_r3, List.forall_mem_append.mpr ⟨lw_r4, List.forall_mem_append.mpr ⟨lw_r5, List.forall_mem_append.mpr ⟨lw_r6, lw_r7⟩⟩⟩⟩⟩⟩
/-- the streams that the claim lets the run draw from -/
abbrev lw_cs : List Choice := [Jvm.Choice.named "NaN.bits"]
theorem lw_bits : nanBits ∈ lw_cs := by first | decide | exact List.mem_cons_self | simp [lw_cs, nanBits]
-- ===== end of PART A; then your names; then what follows =====
/-! ===== BEGIN words of one list among another's, by their places ===== -/
theorem goodIn_r {big : List Cond} (ws : List Cond) (ps : List Nat) (hp : ws = ps.filterMap (fun i => big[i]?)) (h : ws.all goodWord = true) : GoodIn big ws := by
  intro w hw
  have h1 := List.all_eq_true.mp h w hw
  rw [hp] at hw
  obtain ⟨i, -, hi⟩ := List.mem_filterMap.mp hw
  have hm : w ∈ big := by first | exact List.mem_of_getElem? hi | exact List.getElem?_mem hi
  exact ⟨hm, good_of_word h1⟩
theorem goodIn_app {big a b : List Cond} (ha : GoodIn big a) (hb : GoodIn big b) : GoodIn big (a ++ b) := fun w h => (List.mem_append.mp h).elim (ha w) (hb w)
theorem goodIn_ca {big a b : List Cond} {c : Cond} (ha : GoodIn big (c :: a)) (hb : GoodIn big b) : GoodIn big (c :: (a ++ b)) := fun w h => (List.mem_cons.mp h).elim (fun e => ha w (List.mem_cons.mpr (Or.inl e))) (fun h => (List.mem_append.mp h).elim (fun h => ha w (List.mem_cons.mpr (Or.inr h))) (hb w))
theorem goodIn_sub {big ws : List Cond} (hm : ∀ w ∈ ws, w ∈ big) (h : ws.all goodWord = true) : GoodIn big ws := fun w hw => ⟨hm w hw, good_of_word (List.all_eq_true.mp h w hw)⟩
/-! ===== END ===== -/

/-! ===== BEGIN exceptions that leave a method, and their catching by the caller (launches without stack traces) ===== -/
section VXA
/-! The laws vx_back, vx_callV, vx_callS, vx_callSW, vx_throw0, vx_throwS follow proofs of the library, with one case more: JvmDerived/Free/Laws.lean (Back.of_free), Shelf42/LK1.lean (callV, callS), Shelf/KitTraced.lean (throwNew0V, throwNewS). -/
/-- where a method has thrown q: the class by its name, the cell, what was written, the world -/
def vx_T (XC : String → State → State → Prop) (st : State) (q : Addr) (t : State) (mc ms : Nat) (free : Addr → Prop) : Prop :=
  ∃ (E : String) (ce : Cell) (L : List Loc), XC E st t ∧ t.heap[q]? = some ce ∧ ce.vm = .none ∧ st.vm.findClass E = some ce.cls ∧ st.WarmedH t.vm ∧ st.sameButNew ({ t with vm := st.vm } : State) L mc ms ∧ ∀ z ∈ L, free z.base
def vx_Q (Qc : Array Value → State → Outcome → State → Prop) (XC : String → State → State → Prop) (mc ms : Nat) (free : Addr → Prop) : Array Value → State → Outcome → State → Prop := fun a st o t =>
  (Qc a st o t ∧ ∃ L, FrameEnd st o t L mc ms ∧ ∀ q ∈ L, free q.base) ∨ ∃ q, o = .threw q ∧ vx_T XC st q t mc ms free
/-- a callee that returns or throws -/
def vx_Met (l : Launch) (y : MethodName) (ws : List Cond) (rm : Room) (Pc : Array Value → State → Prop) (Qc : Array Value → State → Outcome → State → Prop) (XC : String → State → State → Prop) (mc ms : Nat) (free : Addr → Prop) : Prop :=
  MetFree l y (headSpec ws rm) Pc (fun _ _ _ _ _ => True) (vx_Q Qc XC mc ms free)
def vx_Post (XC : String → State → State → Prop) (mc ms : Nat) (free : Addr → Prop) : Pt → Array Value → Addr → Pt → Prop := fun A a q B =>
  ∃ (g : JFrame) (mk : MethodId) (t : State) (L : List Loc) (E : String) (ce : Cell), B.U.heap = t.heap ∧ B.U.vm = t.vm ∧ XC E (A.U.calling g mk a) t ∧ t.heap[q]? = some ce ∧ ce.vm = .none ∧ A.U.vm.findClass E = some ce.cls ∧ B.locs = A.locs ++ L ∧ (∀ z ∈ L, free z.base) ∧ B.cells = A.cells + mc ∧ B.slots = A.slots + ms
def vx_Back (l : Launch) (R : Room) (p : Program) (e : Env) (below : List Frame) (s : State) (sargs : Array Value) (y : MethodName) (len W9 : Nat)
    (Pre : Pt → Array Value → Prop) (Post : Pt → Array Value → Option Value → Pt → Prop) (PostX : Pt → Array Value → Addr → Pt → Prop) : Prop :=
  ∀ (m : MethodId) (meth : Method) (c : Code) (A : Pt) (g : JFrame) (ig : Instr) (mk : MethodId) (a : Array Value),
    Stand p l e R s m sargs below meth c A.U A.locs A.cells A.slots → g.method = m → g.locals.size = c.maxLocals → decode c.code g.pc = .ok (ig, len) →
    2 * g.monitorRoom + (g.stack.map fun v => v.category).sum ≤ W9 → A.U.methodNamed? y = some mk → Pre A a →
    (∃ (v : Option Value) (B : Pt), Stand p l e R s m sargs below meth c B.U B.locs B.cells B.slots ∧ Post A a v B ∧
      Steps p.tables e below (doInvoke e (A.U.setTop g) [] mk a).1 (B.U.setTop { g with pc := g.pc + len, stack := v.toList ++ g.stack })) ∨
    (∃ (q : Addr) (B : Pt), Stand p l e R s m sargs below meth c B.U B.locs B.cells B.slots ∧ PostX A a q B ∧
      Steps p.tables e below (doInvoke e (A.U.setTop g) [] mk a).1 ((B.U.setTop g).pushFrame (.throwing q)))
section Payer
variable {l : Launch} {R : Room} {p : Program} {e : Env} {below : List Frame} {s : State} {sargs : Array Value} {y : MethodName} {len W9 : Nat}
theorem vx_back {ws : List Cond} {rm : Room} {Pc : Array Value → State → Prop} {Qc : Array Value → State → Outcome → State → Prop} {XC : String → State → State → Prop} {mc ms : Nat} {free : Addr → Prop} {bytes : ByteArray} {maxL : Nat} {ret : Option FieldType}
    (hM : vx_Met l y ws rm Pc Qc XC mc ms free) (hblind : FrameBlind Pc) (hrc : rm.cells = mc) (hrs : rm.slots = ms)
    (hframes : rm.frames + 1 ≤ R.frames) (hlocals : W9 + (maxL + 11) + rm.locals ≤ R.locals)
    (hws : ∀ w ∈ ws, ∀ a' U, s.WarmedH U.vm → w.before a' U = true) (hcode : Cond.code y bytes maxL ret ∈ ws) (hinit : ∀ a' U, s.WarmedH U.vm → (Cond.initialized y.cls).before a' U = true) :
    vx_Back l R p e below s sargs y len W9 (PreOf R mc ms Pc) (PostOf Qc mc ms free) (vx_Post XC mc ms free) := by
  intro m meth c A g ig mk a X hg hsize hdg hW hn hp
  have h1 : (headSpec ws rm).pre.before a A.U = true := atoms_intro fun w hw => hws w hw _ _ X.warmed
  have h2 : (Cond.code y bytes maxL ret).before a A.U = true := hws _ hcode _ _ X.warmed
  have h3 : (Cond.initialized y.cls).before a A.U = true := hinit _ _ X.warmed
  have h4 : A.cells + (headSpec ws rm).room.cells ≤ R.cells := by rw [show (headSpec ws rm).room.cells = mc from hrc]; exact hp.1
  have h5 : A.slots + (headSpec ws rm).room.slots ≤ R.slots := by rw [show (headSpec ws rm).room.slots = ms from hrs]; exact hp.2.1
  have hPc : Pc a (A.U.calling g mk a) := hblind _ _ _ _ hp.2.2
  obtain ⟨U, Ls, c0, s0⟩ := A
  dsimp only [Pt.U, Pt.locs, Pt.cells, Pt.slots] at h1 h2 h3 h4 h5 X hn hPc ⊢
  obtain ⟨methY, cY, hmY, hcY, -, hlY, -, -, -, -⟩ := Cond.code_spec hn h2
  obtain ⟨kY, hkY, -⟩ := className_of_methodNamed hn
  have hinitY : kY.init = .initialized := Cond.initialized_spec (findClass_of_methodNamed hn) hkY h3
  have h : At U g.method c below := by rw [hg]; exact X.here
  have hlocals9 : W9 + (maxL + 11) + (headSpec ws rm).room.locals ≤ R.locals := hlocals
  have happ : (headSpec ws rm).appliesLoose y e.platform (U.calling g mk a) = true :=
    Spec.appliesLoose_calling (g := g) h hdg hn hkY hinitY
      (X.room_calling (g := g) (R' := (headSpec ws rm).room) hsize hmY hcY hframes (by rw [hlY]; omega) h4 h5) h1
  obtain ⟨mid, hmid⟩ := h.above
  have hfr : (U.setTop g).frames = (.java g :: mid) ++ below := by rw [State.frames_setTop' g h.top, hmid]; rfl
  obtain ⟨o, s₂, hsteps, -, hend, hq⟩ := Steps.callFree hM p X.admits X.cas X.clock (acts := []) hfr happ hPc trivial
  have hq' : vx_Q Qc XC mc ms free a (U.calling g mk a) o s₂ := hq
  rw [State.frames_setTop' g h.top] at hend
  obtain ⟨g₀, hg0⟩ := Option.isSome_iff_exists.mp h.top
  obtain ⟨r, hr⟩ := State.topJava?_eq_some.mp hg0
  have hr' : (({ U with heap := s₂.heap, slotsUsed := s₂.slotsUsed } : State).setVm s₂.vm).frames = .java g₀ :: r := hr
  rcases hq' with ⟨hqc, L, hfe, hL⟩ | ⟨q, rfl, E, ce, L, hx, hce, hcv, hcl, hW₂, hsm, hL⟩
  · obtain ⟨⟨v, rfl⟩, hW₂, e2, q2, q3, q4, q5, q6⟩ := id hfe
    have e3 : s₂ = ({ (U.calling g mk a).setFrames s₂.frames with heap := s₂.heap, slotsUsed := s₂.slotsUsed } : State).setVm s₂.vm := by
      have : s₂ = ({ s₂ with vm := (U.calling g mk a).vm } : State).setVm s₂.vm := rfl
      rw [e2] at this
      exact this
    obtain ⟨c₂, i₂, len₂, hc₂, hd₂, hf₂⟩ := hend
    have hW' : U.WarmedH s₂.vm := hW₂
    have hcc : c₂ = c := by
      have h1 : s₂.code? g.method = U.code? g.method := by
        rw [State.code?_eq, State.code?_eq, hW'.alike.method?]
      exact Option.some.inj (hc₂.symm.trans (h1.trans h.code))
    subst hcc
    have hlen : len₂ = len := by rw [hdg] at hd₂; cases hd₂; rfl
    subst hlen
    have hs₂ : s₂ = (({ U with heap := s₂.heap, slotsUsed := s₂.slotsUsed } : State).setVm s₂.vm).setTop { g with pc := g.pc + len₂, stack := v.toList ++ g.stack } := by
      refine e3.trans ?_
      rw [hf₂, State.calling_eq h.top, State.setFrames_setFrames, State.setTop_of_frames _ hr', hr]
      rfl
    have hsame : U.sameButNew ({ U with heap := s₂.heap, slotsUsed := s₂.slotsUsed } : State) L mc ms := by
      refine ⟨?_, q2, q3, q4, q5, q6⟩
      obtain ⟨t, ht, -⟩ := State.frames_cons hr
      show ({ U with heap := s₂.heap, slotsUsed := s₂.slotsUsed } : State) = { U.setFrames U.frames with heap := s₂.heap, slotsUsed := s₂.slotsUsed }
      rw [State.setFrames_self ht]
    subst hg
    refine Or.inl ⟨v, ⟨(({ U with heap := s₂.heap, slotsUsed := s₂.slotsUsed } : State).setVm s₂.vm), Ls ++ L, c0 + mc, s0 + ms⟩,
      ⟨X.admits, X.cas, X.clock, X.frames, X.room, X.hears, X.method, X.code, (X.here.setHeapUsed s₂.heap s₂.slotsUsed).setVm hW'.alike, X.tail, State.WarmedH.trans X.warmed hW', X.limits, X.bytes, X.same.trans (hsame.setVm s.vm)⟩,
      ⟨g, mk, s₂, L, rfl, rfl, hqc, rfl, hL, rfl, rfl⟩, ?_⟩
    show Steps p.tables e below _ ((({ U with heap := s₂.heap, slotsUsed := s₂.slotsUsed } : State).setVm s₂.vm).setTop { g with pc := g.pc + len₂, stack := v.toList ++ g.stack })
    rw [← hs₂]
    exact hsteps
  · obtain ⟨e2, q2, q3, q4, q5, q6⟩ := id hsm
    have e3 : s₂ = ({ (U.calling g mk a).setFrames s₂.frames with heap := s₂.heap, slotsUsed := s₂.slotsUsed } : State).setVm s₂.vm := by
      have : s₂ = ({ s₂ with vm := (U.calling g mk a).vm } : State).setVm s₂.vm := rfl
      rw [e2] at this
      exact this
    have hf₂ : s₂.frames = .throwing q :: .java g :: U.frames.tail := hend
    have hW' : U.WarmedH s₂.vm := hW₂
    have hs₂ : s₂ = ((({ U with heap := s₂.heap, slotsUsed := s₂.slotsUsed } : State).setVm s₂.vm).setTop g).pushFrame (.throwing q) := by
      refine e3.trans ?_
      rw [hf₂, State.calling_eq h.top, State.setFrames_setFrames, State.pushFrame, State.frames_setTop _ hr', State.setTop_of_frames _ hr', State.setFrames_setFrames, hr]
      rfl
    have hsame : U.sameButNew ({ U with heap := s₂.heap, slotsUsed := s₂.slotsUsed } : State) L mc ms := by
      refine ⟨?_, q2, q3, q4, q5, q6⟩
      obtain ⟨t, ht, -⟩ := State.frames_cons hr
      show ({ U with heap := s₂.heap, slotsUsed := s₂.slotsUsed } : State) = { U.setFrames U.frames with heap := s₂.heap, slotsUsed := s₂.slotsUsed }
      rw [State.setFrames_self ht]
    subst hg
    refine Or.inr ⟨q, ⟨(({ U with heap := s₂.heap, slotsUsed := s₂.slotsUsed } : State).setVm s₂.vm), Ls ++ L, c0 + mc, s0 + ms⟩,
      ⟨X.admits, X.cas, X.clock, X.frames, X.room, X.hears, X.method, X.code, (X.here.setHeapUsed s₂.heap s₂.slotsUsed).setVm hW'.alike, X.tail, State.WarmedH.trans X.warmed hW', X.limits, X.bytes, X.same.trans (hsame.setVm s.vm)⟩,
      ⟨g, mk, s₂, L, E, ce, rfl, rfl, hx, hce, hcv, hcl, rfl, hL, rfl, rfl⟩, ?_⟩
    show Steps p.tables e below _ (((({ U with heap := s₂.heap, slotsUsed := s₂.slotsUsed } : State).setVm s₂.vm).setTop g).pushFrame (.throwing q))
    rw [← hs₂]
    exact hsteps
end Payer
section Calls
variable {p : Program} {l : Launch} {e : Env} {R : Room} {s : State} {m : MethodId} {args : Array Value} {below : List Frame} {meth : Method} {c : Code} {T : State} {locs : List Loc} {cells slots : Nat}
theorem vx_callV (X : Stand p l e R s m args below meth c T locs cells slots) (hexec : p.tables.exec = Jvm.exec) {own C : String} {index : Nat} {y : MethodName} {bytes : ByteArray} {maxL : Nat} {ret : Option FieldType}
    (hown : s.vm.findClass own = some m.cls) (hlink : (Cond.methodLink own index y).before args s = true) (hinst : (Cond.instanceMethod y).before args s = true) (hsel : (Cond.selects C y y).before args s = true)
    (hcode : (Cond.code y bytes maxL ret).before args s = true) (hy : y.cls ≠ "java/lang/invoke/MethodHandle" ∧ y.cls ≠ "java/lang/invoke/VarHandle")
    {W9 : Nat} {Pre : Pt → Array Value → Prop} {Post : Pt → Array Value → Option Value → Pt → Prop} {PostX : Pt → Array Value → Addr → Pt → Prop} (hK : vx_Back l R p e below s args y 3 W9 Pre Post PostX)
    {b : Addr} {cellB : Cell} (hcell : T.heap[b]? = some cellB) (hobj : cellB.vm.isStatics = false) (hcls : s.vm.findClass C = some cellB.cls)
    {g : JFrame} (hg : g.method = m) (hsize : g.locals.size = c.maxLocals) {argsL rest : List Value} (hlen : ∀ sig, parseMethodDescriptor y.desc = some sig → argsL.length = sig.parameters.length)
    (hstack : g.stack = argsL.reverse ++ .ref b :: rest) (hW : 2 * g.monitorRoom + (rest.map fun v => v.category).sum ≤ W9) (hdg : decode c.code g.pc = .ok (.invokevirtual index, 3))
    (hpre : ∀ vm₁, s.WarmedH vm₁ → Pre ⟨T.setVm vm₁, locs, cells, slots⟩ (Value.ref b :: argsL).toArray) :
    (∃ (v : Option Value) (vm₁ : Vm) (B : Pt), s.WarmedH vm₁ ∧ Stand p l e R s m args below meth c B.U B.locs B.cells B.slots ∧ Post ⟨T.setVm vm₁, locs, cells, slots⟩ (Value.ref b :: argsL).toArray v B ∧
      ∀ target, Steps p.tables e below (B.U.setTop { g with pc := g.pc + 3, stack := v.toList ++ rest }) target → Steps p.tables e below (T.setTop g) target) ∨
    (∃ (q : Addr) (vm₁ : Vm) (B : Pt), s.WarmedH vm₁ ∧ Stand p l e R s m args below meth c B.U B.locs B.cells B.slots ∧ PostX ⟨T.setVm vm₁, locs, cells, slots⟩ (Value.ref b :: argsL).toArray q B ∧
      Steps p.tables e below (T.setTop g) ((B.U.setTop { g with stack := rest }).pushFrame (.throwing q))) := by
  obtain ⟨mk, methM, hnamed, hmethM, hstM, habM⟩ := Cond.instanceMethod_spec hinst
  obtain ⟨methM', cM, hmethM', -, -, -, -, -, -, hsigM⟩ := Cond.code_spec hnamed hcode
  cases hmethM.symm.trans hmethM'
  obtain ⟨c2, r2, m2, q1, q2, q3, q4, kP, hkP, hkPi⟩ := Cond.selects_spec hsel
  cases hcls.symm.trans q1
  cases (State.methodFound?_of_named hnamed hy).symm.trans q2
  cases hnamed.symm.trans q3
  have hselP : selectMethod e.platform s.vm cellB.cls mk = .method mk := by rw [Launch.admits_selectMethod X.admits]; exact q4
  obtain ⟨vm₁, X₁, hstep₁⟩ := X.invokevirtual hexec hown hlink hnamed hmethM hstM hkP hkPi hy (a := b) (cell := cellB) hcell
    (fun z h => by rw [h] at hobj; cases hobj) hselP hmethM habM hkP hkPi (g := g) hg (argsL := argsL) (rest := rest) (hlen _ hsigM) hstack hdg
  rcases hK m meth c ⟨T.setVm vm₁, locs, cells, slots⟩ { g with stack := rest } (.invokevirtual index) mk (Value.ref b :: argsL).toArray X₁ hg hsize hdg hW (X₁.named hnamed) (hpre vm₁ X₁.warmed) with ⟨v, B, X', hpost, hsteps⟩ | ⟨q, B, X', hpost, hsteps⟩
  · exact Or.inl ⟨v, vm₁, B, X₁.warmed, X', hpost, fun target h => hstep₁ _ fun acts => by rw [doInvoke_state]; exact hsteps.trans h⟩
  · exact Or.inr ⟨q, vm₁, B, X₁.warmed, X', hpost, hstep₁ _ fun acts => by rw [doInvoke_state]; exact hsteps⟩
theorem vx_callS (X : Stand p l e R s m args below meth c T locs cells slots) (hexec : p.tables.exec = Jvm.exec) {own : String} {index : Nat} {y : MethodName} {bytes : ByteArray} {maxL : Nat} {ret : Option FieldType}
    (hown : s.vm.findClass own = some m.cls) (hlink : (Cond.methodLink own index y).before args s = true) (hstat : (Cond.static y).before args s = true) (hinit : (Cond.initialized y.cls).before args s = true)
    (hcode : (Cond.code y bytes maxL ret).before args s = true) (hy : y.cls ≠ "java/lang/invoke/MethodHandle" ∧ y.cls ≠ "java/lang/invoke/VarHandle")
    {W9 : Nat} {Pre : Pt → Array Value → Prop} {Post : Pt → Array Value → Option Value → Pt → Prop} {PostX : Pt → Array Value → Addr → Pt → Prop} (hK : vx_Back l R p e below s args y 3 W9 Pre Post PostX)
    {g : JFrame} (hg : g.method = m) (hsize : g.locals.size = c.maxLocals) {argsL rest : List Value} (hlen : ∀ sig, parseMethodDescriptor y.desc = some sig → argsL.length = sig.parameters.length)
    (hstack : g.stack = argsL.reverse ++ rest) (hW : 2 * g.monitorRoom + (rest.map fun v => v.category).sum ≤ W9) (hdg : decode c.code g.pc = .ok (.invokestatic index, 3))
    (hpre : ∀ vm₁, s.WarmedH vm₁ → Pre ⟨T.setVm vm₁, locs, cells, slots⟩ argsL.toArray) :
    (∃ (v : Option Value) (vm₁ : Vm) (B : Pt), s.WarmedH vm₁ ∧ Stand p l e R s m args below meth c B.U B.locs B.cells B.slots ∧ Post ⟨T.setVm vm₁, locs, cells, slots⟩ argsL.toArray v B ∧
      ∀ target, Steps p.tables e below (B.U.setTop { g with pc := g.pc + 3, stack := v.toList ++ rest }) target → Steps p.tables e below (T.setTop g) target) ∨
    (∃ (q : Addr) (vm₁ : Vm) (B : Pt), s.WarmedH vm₁ ∧ Stand p l e R s m args below meth c B.U B.locs B.cells B.slots ∧ PostX ⟨T.setVm vm₁, locs, cells, slots⟩ argsL.toArray q B ∧
      Steps p.tables e below (T.setTop g) ((B.U.setTop { g with stack := rest }).pushFrame (.throwing q))) := by
  obtain ⟨mk, hnamed⟩ := Cond.code_named hcode
  obtain ⟨methM, cM, hmethM, -, -, -, -, -, -, hsigM⟩ := Cond.code_spec hnamed hcode
  have hstatic : methM.isStatic = true := Cond.static_spec hnamed hmethM hstat
  obtain ⟨kP, hkP, -⟩ := className_of_methodNamed hnamed
  have hinitP : kP.init = .initialized := Cond.initialized_spec (findClass_of_methodNamed hnamed) hkP hinit
  obtain ⟨vm₁, X₁, hstep₁⟩ := X.invokestatic hexec hown hlink hnamed hmethM hstatic hkP hinitP hy (g := g) hg (argsL := argsL) (rest := rest) (hlen _ hsigM) hstack hdg
  rcases hK m meth c ⟨T.setVm vm₁, locs, cells, slots⟩ { g with stack := rest } (.invokestatic index) mk argsL.toArray X₁ hg hsize hdg hW (X₁.named hnamed) (hpre vm₁ X₁.warmed) with ⟨v, B, X', hpost, hsteps⟩ | ⟨q, B, X', hpost, hsteps⟩
  · exact Or.inl ⟨v, vm₁, B, X₁.warmed, X', hpost, fun target h => hstep₁ _ fun acts => by rw [doInvoke_state]; exact hsteps.trans h⟩
  · exact Or.inr ⟨q, vm₁, B, X₁.warmed, X', hpost, hstep₁ _ fun acts => by rw [doInvoke_state]; exact hsteps⟩
end Calls
theorem vx_cls {s : State} {T : State} {vm₁ : Vm} {E : String} {k : ClassId} (hW : s.WarmedH vm₁) (h : (T.setVm vm₁).vm.findClass E = some k) : s.vm.findClass E = some k := by
  have h1 : vm₁.findClass E = some k := h
  rw [hW.alike.findClass] at h1
  exact h1
/-- the method's frame g, with q thrown over it -/
def vx_W (p : Program) (l : Launch) (e : Env) (R : Room) (s : State) (m : MethodId) (args : Array Value) (below : List Frame) (meth : Method) (c : Code) (H : Heap) (locs : List Loc) (cells slots : Nat) (Q : State → Prop) (g : JFrame) (q : Addr) : Prop :=
  ∀ T : State, T.heap = H → Stand p l e R s m args below meth c T locs cells slots → ∃ t, Steps p.tables e below ((T.setTop g).pushFrame (.throwing q)) t ∧ Q t
def vx_Run (p : Program) (l : Launch) (e : Env) (R : Room) (s : State) (m : MethodId) (args : Array Value) (below : List Frame) (meth : Method) (c : Code) (H : Heap) (locs : List Loc) (cells slots mc ms : Nat) (g : JFrame) (rest : List Value) (Qa : State → Outcome → State → Prop) (XC : String → State → State → Prop) (free : Addr → Prop) : Prop :=
  ∀ T : State, T.heap = H → Stand p l e R s m args below meth c T locs cells slots →
    (∃ (v : Option Value) (st₀ t T' : State) (L : List Loc), st₀.heap = H ∧ Stand p l e R s m args below meth c T' (locs ++ L) (cells + mc) (slots + ms) ∧ (∀ q ∈ L, free q.base) ∧ T'.heap = t.heap ∧ T'.vm = t.vm ∧ Qa st₀ (.returned v) t ∧
      Goes p e below T g T' { g with pc := g.pc + 3, stack := v.toList ++ rest }) ∨
    (∃ (q : Addr) (st₀ t T' : State) (L : List Loc) (E : String) (ce : Cell), st₀.heap = H ∧ Stand p l e R s m args below meth c T' (locs ++ L) (cells + mc) (slots + ms) ∧ (∀ z ∈ L, free z.base) ∧ T'.heap = t.heap ∧ T'.vm = t.vm ∧ XC E st₀ t ∧ t.heap[q]? = some ce ∧ ce.vm = .none ∧ s.vm.findClass E = some ce.cls ∧
      Steps p.tables e below (T.setTop g) ((T'.setTop { g with stack := rest }).pushFrame (.throwing q)))
def vx_X {S : Type} (px : S → Prop) (B : String → S → State → Prop) (A : Nat → Prop) : String → State → State → Prop := fun E st t => ∃ u : S, px u ∧ B E u t ∧ va_F A st t
section Runs
variable {p : Program} {l : Launch} {e : Env} {R : Room} {s : State} {m : MethodId} {args : Array Value} {below : List Frame} {meth : Method} {c : Code} {H : Heap} {locs : List Loc} {cells slots : Nat}
variable {y : MethodName} {bytes cc : ByteArray} {maxL nL mc ms n index : Nat} {ret : Option FieldType} {ws : List Cond} {rm : Room} {Pc : Array Value → State → Prop} {Qc : Array Value → State → Outcome → State → Prop} {XC : String → State → State → Prop} {free : Addr → Prop} {Ts : List Cond} {own C : String} {b : Addr} {As rest : List Value} {g : JFrame}
theorem vx_callBack (cb : CallB R s args own index y bytes maxL ret ws rm mc ms n) (hM : vx_Met l y ws rm Pc Qc XC mc ms free) (hbl : FrameBlind Pc) : vx_Back l R p e below s args y 3 8 (PreOf R mc ms Pc) (PostOf Qc mc ms free) (vx_Post XC mc ms free) := by
  obtain ⟨hrc, hrs, hfr, hlo, hws, hcw, -, hini, -⟩ := cb
  exact vx_back (bytes := bytes) (maxL := maxL) (ret := ret) hM hbl hrc hrs hfr hlo hws hcw (fun a' U hW => word_at hW (Or.inl (by first | rfl | simp [Cond.onTables, Cond.keeps, Cond.steady])) hini)
theorem vx_runV (S : CallFix p m c cc nL s args Ts own) (hM : vx_Met l y ws rm Pc Qc XC mc ms free) (cw : CallW R s args own C index y bytes maxL ret ws rm mc ms n) (hp : PreV s H C b Pc As)
    (hg : g.method = m) (hn : As.length = n) (hsize : g.locals.size = nL) (hstack : g.stack = As.reverse ++ .ref b :: rest) (hW : 2 * g.monitorRoom + (rest.map fun v => v.category).sum ≤ 8) (hdg : decode cc g.pc = .ok (.invokevirtual index, 3)) (hf : cells + mc ≤ R.cells ∧ slots + ms ≤ R.slots) :
    vx_Run p l e R s m args below meth c H locs cells slots mc ms g rest (Qc (Value.ref b :: As).toArray) XC free := by
  have hK : vx_Back l R p e below s args y 3 8 (PreOf R mc ms Pc) (PostOf Qc mc ms free) (vx_Post XC mc ms free) := vx_callBack cw.1 hM hp.1
  obtain ⟨⟨-, -, -, -, -, -, hcode, -, hy, hlen, hl⟩, hin, hse⟩ := cw
  obtain ⟨hx, hb, hml, ho, -⟩ := S
  obtain ⟨-, ⟨cellB, hcB, hoB, hclB⟩, hPc⟩ := hp
  intro T hT X
  rcases vx_callV X hx (C := C) (bytes := bytes) (maxL := maxL) (ret := ret) ho hl hin hse hcode hy hK (by rw [hT]; exact hcB) hoB hclB hg (hsize.trans hml.symm) (argsL := As) (rest := rest) (fun sig h => hn.trans (hlen sig h)) hstack hW (by rw [hb]; exact hdg)
    (fun vm₁ hW₁ => ⟨hf.1, hf.2, hPc (T.setVm vm₁) hT hW₁⟩) with ⟨v, vm₁, ⟨U', l2, c2, s2⟩, hW₁, X', ⟨g', mk, t, L, e1, e2, hq, h1, hL, h2, h3⟩, st⟩ | ⟨q, vm₁, ⟨U', l2, c2, s2⟩, hW₁, X', ⟨g', mk, t, L, E, ce, e1, e2, hq, hce, hcv, hcl, h1, hL, h2, h3⟩, st⟩
  · dsimp only [Pt.U, Pt.locs, Pt.cells, Pt.slots] at X' e1 e2 h1 h2 h3 st
    subst h1; subst h2; subst h3
    exact Or.inl ⟨v, (T.setVm vm₁).calling g' mk (Value.ref b :: As).toArray, t, U', L, hT, X', hL, e1, e2, hq, st⟩
  · dsimp only [Pt.U, Pt.locs, Pt.cells, Pt.slots] at X' e1 e2 h1 h2 h3 st hcl
    subst h1; subst h2; subst h3
    exact Or.inr ⟨q, (T.setVm vm₁).calling g' mk (Value.ref b :: As).toArray, t, U', L, E, ce, hT, X', hL, e1, e2, hq, hce, hcv, vx_cls hW₁ hcl, st⟩
theorem vx_runS (S : CallFix p m c cc nL s args Ts own) (hM : vx_Met l y ws rm Pc Qc XC mc ms free) (cw : CallB R s args own index y bytes maxL ret ws rm mc ms n ∧ (Cond.static y).before args s = true) (hp : PreS s H Pc As)
    (hg : g.method = m) (hn : As.length = n) (hsize : g.locals.size = nL) (hstack : g.stack = As.reverse ++ rest) (hW : 2 * g.monitorRoom + (rest.map fun v => v.category).sum ≤ 8) (hdg : decode cc g.pc = .ok (.invokestatic index, 3)) (hf : cells + mc ≤ R.cells ∧ slots + ms ≤ R.slots) :
    vx_Run p l e R s m args below meth c H locs cells slots mc ms g rest (Qc As.toArray) XC free := by
  have hK : vx_Back l R p e below s args y 3 8 (PreOf R mc ms Pc) (PostOf Qc mc ms free) (vx_Post XC mc ms free) := vx_callBack cw.1 hM hp.1
  obtain ⟨⟨-, -, -, -, -, -, hcode, hini, hy, hlen, hl⟩, hstt⟩ := cw
  obtain ⟨hx, hb, hml, ho, -⟩ := S
  intro T hT X
  rcases vx_callS X hx (bytes := bytes) (maxL := maxL) (ret := ret) ho hl hstt hini hcode hy hK hg (hsize.trans hml.symm) (argsL := As) (rest := rest) (fun sig h => hn.trans (hlen sig h)) hstack hW (by rw [hb]; exact hdg)
    (fun vm₁ hW₁ => ⟨hf.1, hf.2, hp.2 (T.setVm vm₁) hT hW₁⟩) with ⟨v, vm₁, ⟨U', l2, c2, s2⟩, hW₁, X', ⟨g', mk, t, L, e1, e2, hq, h1, hL, h2, h3⟩, st⟩ | ⟨q, vm₁, ⟨U', l2, c2, s2⟩, hW₁, X', ⟨g', mk, t, L, E, ce, e1, e2, hq, hce, hcv, hcl, h1, hL, h2, h3⟩, st⟩
  · dsimp only [Pt.U, Pt.locs, Pt.cells, Pt.slots] at X' e1 e2 h1 h2 h3 st
    subst h1; subst h2; subst h3
    exact Or.inl ⟨v, (T.setVm vm₁).calling g' mk As.toArray, t, U', L, hT, X', hL, e1, e2, hq, st⟩
  · dsimp only [Pt.U, Pt.locs, Pt.cells, Pt.slots] at X' e1 e2 h1 h2 h3 st hcl
    subst h1; subst h2; subst h3
    exact Or.inr ⟨q, (T.setVm vm₁).calling g' mk As.toArray, t, U', L, E, ce, hT, X', hL, e1, e2, hq, hce, hcv, vx_cls hW₁ hcl, st⟩
end Runs
section Rows
variable {p : Program} {l : Launch} {e : Env} {R : Room} {s : State} {m : MethodId} {args : Array Value} {below : List Frame} {meth : Method} {c : Code} {H : Heap} {locs : List Loc} {cells slots : Nat} {Q : State → Prop}
variable {mc ms : Nat} {free : Addr → Prop} {A0 A1 : Nat → Prop} {H0 : Heap} {a : Array Value} {pc : Nat} {ls : Array Slot} {st0 rest : List Value}
theorem vx_keep {st₀ t T' : State} {L : List Loc} (h0 : st₀.heap = H) (e1 : T'.heap = t.heap) (hS : va_S A0 H0 H locs) (hA : ∀ q, q < H.size → A1 q → A0 q) (hf : ∀ q, free q → A0 q) (hL : ∀ q ∈ L, free q.base) (hF : va_F A1 st₀ t) :
    H.size ≤ T'.heap.size ∧ (∀ q : Nat, q < H.size → ¬ A1 q → T'.heap[q]? = H[q]?) ∧ va_S A0 H0 T'.heap (locs ++ L) := by
  obtain ⟨hz, hk⟩ := hF
  rw [h0] at hz hk
  exact ⟨by rw [e1]; exact hz, fun q h1 h2 => by rw [e1]; exact hk q h1 h2,
    ⟨Nat.le_trans hS.1 (by rw [e1]; exact hz), fun q h1 h2 => by rw [e1, hk q (Nat.lt_of_lt_of_le h1 hS.1) (fun z => h2 (hA q (Nat.lt_of_lt_of_le h1 hS.1) z))]; exact hS.2.1 q h1 h2, fun q hq => by
      rcases List.mem_append.mp hq with h | h
      · exact hS.2.2 q h
      · exact hf _ (hL q h)⟩⟩
theorem vx_calli {S SX : Type} {post : Int32 → S → Prop} {px : SX → Prop} {B : S → State → Prop} {BX : String → SX → State → Prop} {AX : Nat → Prop} (hr : vx_Run p l e R s m args below meth c H locs cells slots mc ms (F0 m pc ls st0) rest (va_Qi post B A1 a) (vx_X px BX AX) free) (hS : va_S A0 H0 H locs) (hA : ∀ q, q < H.size → A1 q → A0 q) (hf : ∀ q, free q → A0 q) (hAX : ∀ q, q < H.size → AX q → A0 q)
    (kx : ∀ (E : String) (ce : Cell) (q9 : Addr) (u : SX) (t : State) (H1 : Heap) (locs1 : List Loc), t.heap = H1 → s.vm.Alike t.vm → px u → BX E u t → H.size ≤ H1.size → (∀ q : Nat, q < H.size → ¬ AX q → H1[q]? = H[q]?) → va_S A0 H0 H1 locs1 → H1[q9]? = some ce → ce.vm = .none → s.vm.findClass E = some ce.cls → vx_W p l e R s m args below meth c H1 locs1 (cells + mc) (slots + ms) Q (F0 m pc ls rest) q9)
    (kk : ∀ (r : Int32) (u : S) (t : State) (H1 : Heap) (locs1 : List Loc), t.heap = H1 → s.vm.Alike t.vm → post r u → B u t → H.size ≤ H1.size → (∀ q : Nat, q < H.size → ¬ A1 q → H1[q]? = H[q]?) → va_S A0 H0 H1 locs1 → W p l e R s m args below meth c H1 locs1 (cells + mc) (slots + ms) Q (F0 m (pc + 3) ls (.int r :: rest))) : W p l e R s m args below meth c H locs cells slots Q (F0 m pc ls st0) := by
  intro T hT X
  rcases hr T hT X with ⟨v, st₀, t, T', L, h0, X', hL, e1, e2, ⟨⟨r, u, hv, hp, hb⟩, hF⟩, st⟩ | ⟨q, st₀, t, T', L, E, ce, h0, X', hL, e1, e2, ⟨u, hp, hb, hF⟩, hce, hcv, hcl, st⟩
  · cases hv
    obtain ⟨k1, k2, k3⟩ := vx_keep h0 e1 hS hA hf hL hF
    obtain ⟨t2, a1, b1⟩ := kk r u t T'.heap (locs ++ L) e1.symm (by rw [← e2]; exact X'.warmed.alike) hp hb k1 k2 k3 T' rfl X'
    exact ⟨t2, st t2 a1, b1⟩
  · obtain ⟨k1, k2, k3⟩ := vx_keep h0 e1 hS hAX hf hL hF
    obtain ⟨t2, a1, b1⟩ := kx E ce q u t T'.heap (locs ++ L) e1.symm (by rw [← e2]; exact X'.warmed.alike) hp hb k1 k2 k3 (by rw [e1]; exact hce) hcv hcl T' rfl X'
    exact ⟨t2, st.trans a1, b1⟩
theorem vx_calll {S SX : Type} {post : Int64 → S → Prop} {px : SX → Prop} {B : S → State → Prop} {BX : String → SX → State → Prop} {AX : Nat → Prop} (hr : vx_Run p l e R s m args below meth c H locs cells slots mc ms (F0 m pc ls st0) rest (va_Ql post B A1 a) (vx_X px BX AX) free) (hS : va_S A0 H0 H locs) (hA : ∀ q, q < H.size → A1 q → A0 q) (hf : ∀ q, free q → A0 q) (hAX : ∀ q, q < H.size → AX q → A0 q)
    (kx : ∀ (E : String) (ce : Cell) (q9 : Addr) (u : SX) (t : State) (H1 : Heap) (locs1 : List Loc), t.heap = H1 → s.vm.Alike t.vm → px u → BX E u t → H.size ≤ H1.size → (∀ q : Nat, q < H.size → ¬ AX q → H1[q]? = H[q]?) → va_S A0 H0 H1 locs1 → H1[q9]? = some ce → ce.vm = .none → s.vm.findClass E = some ce.cls → vx_W p l e R s m args below meth c H1 locs1 (cells + mc) (slots + ms) Q (F0 m pc ls rest) q9)
    (kk : ∀ (r : Int64) (u : S) (t : State) (H1 : Heap) (locs1 : List Loc), t.heap = H1 → s.vm.Alike t.vm → post r u → B u t → H.size ≤ H1.size → (∀ q : Nat, q < H.size → ¬ A1 q → H1[q]? = H[q]?) → va_S A0 H0 H1 locs1 → W p l e R s m args below meth c H1 locs1 (cells + mc) (slots + ms) Q (F0 m (pc + 3) ls (.long r :: rest))) : W p l e R s m args below meth c H locs cells slots Q (F0 m pc ls st0) := by
  intro T hT X
  rcases hr T hT X with ⟨v, st₀, t, T', L, h0, X', hL, e1, e2, ⟨⟨r, u, hv, hp, hb⟩, hF⟩, st⟩ | ⟨q, st₀, t, T', L, E, ce, h0, X', hL, e1, e2, ⟨u, hp, hb, hF⟩, hce, hcv, hcl, st⟩
  · cases hv
    obtain ⟨k1, k2, k3⟩ := vx_keep h0 e1 hS hA hf hL hF
    obtain ⟨t2, a1, b1⟩ := kk r u t T'.heap (locs ++ L) e1.symm (by rw [← e2]; exact X'.warmed.alike) hp hb k1 k2 k3 T' rfl X'
    exact ⟨t2, st t2 a1, b1⟩
  · obtain ⟨k1, k2, k3⟩ := vx_keep h0 e1 hS hAX hf hL hF
    obtain ⟨t2, a1, b1⟩ := kx E ce q u t T'.heap (locs ++ L) e1.symm (by rw [← e2]; exact X'.warmed.alike) hp hb k1 k2 k3 (by rw [e1]; exact hce) hcv hcl T' rfl X'
    exact ⟨t2, st.trans a1, b1⟩
theorem vx_callf {S SX : Type} {post : UInt32 → S → Prop} {px : SX → Prop} {B : S → State → Prop} {BX : String → SX → State → Prop} {AX : Nat → Prop} (hr : vx_Run p l e R s m args below meth c H locs cells slots mc ms (F0 m pc ls st0) rest (va_Qf post B A1 a) (vx_X px BX AX) free) (hS : va_S A0 H0 H locs) (hA : ∀ q, q < H.size → A1 q → A0 q) (hf : ∀ q, free q → A0 q) (hAX : ∀ q, q < H.size → AX q → A0 q)
    (kx : ∀ (E : String) (ce : Cell) (q9 : Addr) (u : SX) (t : State) (H1 : Heap) (locs1 : List Loc), t.heap = H1 → s.vm.Alike t.vm → px u → BX E u t → H.size ≤ H1.size → (∀ q : Nat, q < H.size → ¬ AX q → H1[q]? = H[q]?) → va_S A0 H0 H1 locs1 → H1[q9]? = some ce → ce.vm = .none → s.vm.findClass E = some ce.cls → vx_W p l e R s m args below meth c H1 locs1 (cells + mc) (slots + ms) Q (F0 m pc ls rest) q9)
    (kk : ∀ (r : UInt32) (u : S) (t : State) (H1 : Heap) (locs1 : List Loc), t.heap = H1 → s.vm.Alike t.vm → post r u → B u t → H.size ≤ H1.size → (∀ q : Nat, q < H.size → ¬ A1 q → H1[q]? = H[q]?) → va_S A0 H0 H1 locs1 → W p l e R s m args below meth c H1 locs1 (cells + mc) (slots + ms) Q (F0 m (pc + 3) ls (.float r :: rest))) : W p l e R s m args below meth c H locs cells slots Q (F0 m pc ls st0) := by
  intro T hT X
  rcases hr T hT X with ⟨v, st₀, t, T', L, h0, X', hL, e1, e2, ⟨⟨r, u, hv, hp, hb⟩, hF⟩, st⟩ | ⟨q, st₀, t, T', L, E, ce, h0, X', hL, e1, e2, ⟨u, hp, hb, hF⟩, hce, hcv, hcl, st⟩
  · cases hv
    obtain ⟨k1, k2, k3⟩ := vx_keep h0 e1 hS hA hf hL hF
    obtain ⟨t2, a1, b1⟩ := kk r u t T'.heap (locs ++ L) e1.symm (by rw [← e2]; exact X'.warmed.alike) hp hb k1 k2 k3 T' rfl X'
    exact ⟨t2, st t2 a1, b1⟩
  · obtain ⟨k1, k2, k3⟩ := vx_keep h0 e1 hS hAX hf hL hF
    obtain ⟨t2, a1, b1⟩ := kx E ce q u t T'.heap (locs ++ L) e1.symm (by rw [← e2]; exact X'.warmed.alike) hp hb k1 k2 k3 (by rw [e1]; exact hce) hcv hcl T' rfl X'
    exact ⟨t2, st.trans a1, b1⟩
theorem vx_calld {S SX : Type} {post : UInt64 → S → Prop} {px : SX → Prop} {B : S → State → Prop} {BX : String → SX → State → Prop} {AX : Nat → Prop} (hr : vx_Run p l e R s m args below meth c H locs cells slots mc ms (F0 m pc ls st0) rest (va_Qd post B A1 a) (vx_X px BX AX) free) (hS : va_S A0 H0 H locs) (hA : ∀ q, q < H.size → A1 q → A0 q) (hf : ∀ q, free q → A0 q) (hAX : ∀ q, q < H.size → AX q → A0 q)
    (kx : ∀ (E : String) (ce : Cell) (q9 : Addr) (u : SX) (t : State) (H1 : Heap) (locs1 : List Loc), t.heap = H1 → s.vm.Alike t.vm → px u → BX E u t → H.size ≤ H1.size → (∀ q : Nat, q < H.size → ¬ AX q → H1[q]? = H[q]?) → va_S A0 H0 H1 locs1 → H1[q9]? = some ce → ce.vm = .none → s.vm.findClass E = some ce.cls → vx_W p l e R s m args below meth c H1 locs1 (cells + mc) (slots + ms) Q (F0 m pc ls rest) q9)
    (kk : ∀ (r : UInt64) (u : S) (t : State) (H1 : Heap) (locs1 : List Loc), t.heap = H1 → s.vm.Alike t.vm → post r u → B u t → H.size ≤ H1.size → (∀ q : Nat, q < H.size → ¬ A1 q → H1[q]? = H[q]?) → va_S A0 H0 H1 locs1 → W p l e R s m args below meth c H1 locs1 (cells + mc) (slots + ms) Q (F0 m (pc + 3) ls (.double r :: rest))) : W p l e R s m args below meth c H locs cells slots Q (F0 m pc ls st0) := by
  intro T hT X
  rcases hr T hT X with ⟨v, st₀, t, T', L, h0, X', hL, e1, e2, ⟨⟨r, u, hv, hp, hb⟩, hF⟩, st⟩ | ⟨q, st₀, t, T', L, E, ce, h0, X', hL, e1, e2, ⟨u, hp, hb, hF⟩, hce, hcv, hcl, st⟩
  · cases hv
    obtain ⟨k1, k2, k3⟩ := vx_keep h0 e1 hS hA hf hL hF
    obtain ⟨t2, a1, b1⟩ := kk r u t T'.heap (locs ++ L) e1.symm (by rw [← e2]; exact X'.warmed.alike) hp hb k1 k2 k3 T' rfl X'
    exact ⟨t2, st t2 a1, b1⟩
  · obtain ⟨k1, k2, k3⟩ := vx_keep h0 e1 hS hAX hf hL hF
    obtain ⟨t2, a1, b1⟩ := kx E ce q u t T'.heap (locs ++ L) e1.symm (by rw [← e2]; exact X'.warmed.alike) hp hb k1 k2 k3 (by rw [e1]; exact hce) hcv hcl T' rfl X'
    exact ⟨t2, st.trans a1, b1⟩
theorem vx_callv {S SX : Type} {post : S → Prop} {px : SX → Prop} {B : S → State → Prop} {BX : String → SX → State → Prop} {AX : Nat → Prop} (hr : vx_Run p l e R s m args below meth c H locs cells slots mc ms (F0 m pc ls st0) rest (va_Qv post B A1 a) (vx_X px BX AX) free) (hS : va_S A0 H0 H locs) (hA : ∀ q, q < H.size → A1 q → A0 q) (hf : ∀ q, free q → A0 q) (hAX : ∀ q, q < H.size → AX q → A0 q)
    (kx : ∀ (E : String) (ce : Cell) (q9 : Addr) (u : SX) (t : State) (H1 : Heap) (locs1 : List Loc), t.heap = H1 → s.vm.Alike t.vm → px u → BX E u t → H.size ≤ H1.size → (∀ q : Nat, q < H.size → ¬ AX q → H1[q]? = H[q]?) → va_S A0 H0 H1 locs1 → H1[q9]? = some ce → ce.vm = .none → s.vm.findClass E = some ce.cls → vx_W p l e R s m args below meth c H1 locs1 (cells + mc) (slots + ms) Q (F0 m pc ls rest) q9)
    (kk : ∀ (u : S) (t : State) (H1 : Heap) (locs1 : List Loc), t.heap = H1 → s.vm.Alike t.vm → post u → B u t → H.size ≤ H1.size → (∀ q : Nat, q < H.size → ¬ A1 q → H1[q]? = H[q]?) → va_S A0 H0 H1 locs1 → W p l e R s m args below meth c H1 locs1 (cells + mc) (slots + ms) Q (F0 m (pc + 3) ls (rest))) : W p l e R s m args below meth c H locs cells slots Q (F0 m pc ls st0) := by
  intro T hT X
  rcases hr T hT X with ⟨v, st₀, t, T', L, h0, X', hL, e1, e2, ⟨⟨u, hv, hp, hb⟩, hF⟩, st⟩ | ⟨q, st₀, t, T', L, E, ce, h0, X', hL, e1, e2, ⟨u, hp, hb, hF⟩, hce, hcv, hcl, st⟩
  · cases hv
    obtain ⟨k1, k2, k3⟩ := vx_keep h0 e1 hS hA hf hL hF
    obtain ⟨t2, a1, b1⟩ := kk u t T'.heap (locs ++ L) e1.symm (by rw [← e2]; exact X'.warmed.alike) hp hb k1 k2 k3 T' rfl X'
    exact ⟨t2, st t2 a1, b1⟩
  · obtain ⟨k1, k2, k3⟩ := vx_keep h0 e1 hS hAX hf hL hF
    obtain ⟨t2, a1, b1⟩ := kx E ce q u t T'.heap (locs ++ L) e1.symm (by rw [← e2]; exact X'.warmed.alike) hp hb k1 k2 k3 (by rw [e1]; exact hce) hcv hcl T' rfl X'
    exact ⟨t2, st.trans a1, b1⟩
/-- caught by the row x of this method's table; the rows ahead don't take it -/
theorem vx_catch {own name : String} {E : String} {ce : Cell} {q : Addr} (hown : s.vm.findClass own = some m.cls) (pre : List ExceptionTableEntry) (x : ExceptionTableEntry) (suf : List ExceptionTableEntry) (hsplit : c.exceptionTable.toList = pre ++ x :: suf)
    (hpass : ∀ z ∈ pre, covers z pc = false ∨ (z.catchType ≠ 0 ∧ ∃ nm : String, (Cond.classLink own z.catchType nm).before args s = true ∧ va_Nc E nm s)) (hx : covers x pc = true) (h0 : x.catchType ≠ 0)
    (hlink : (Cond.classLink own x.catchType name).before args s = true) (hcast : (Cond.castable E name).before args s = true) (hcell : H[q]? = some ce) (hv : ce.vm = .none) (hcl : s.vm.findClass E = some ce.cls)
    (kk : W p l e R s m args below meth c H locs cells slots Q (F0 m x.handlerPc ls [.ref q])) : vx_W p l e R s m args below meth c H locs cells slots Q (F0 m pc ls rest) q := by
  intro T hT X
  have hpl : e.platform.magicAccessors = ({} : Platform).magicAccessors := by rw [X.admits.platform]
  obtain ⟨c3, c4, hc3, hc4, hasg⟩ := Cond.castable_spec hcast
  cases Option.some.inj (hc3.symm.trans hcl)
  obtain ⟨c5, hc5, hcl5⟩ := Cond.classLink_spec hown hlink e.platform hpl
  cases Option.some.inj (hc4.symm.trans hc5)
  obtain ⟨vm', X', st⟩ := X.thenCaughtThrough q (g := F0 m pc ls rest) rfl (Steps.refl _) (by rw [hT]; exact hcell) (by rw [hv]; rfl) (by obtain ⟨k9, h9, -⟩ := Vm.findClass_spec hcl; exact ⟨k9, h9⟩) pre x suf hsplit
    (fun z hz => by
      rcases hpass z hz with h | ⟨hz0, nm, hl1, hn1⟩
      · exact Or.inl h
      · obtain ⟨c6, hc6, hcl6⟩ := Cond.classLink_spec hown hl1 e.platform hpl
        obtain ⟨a8, b8, h1, h2, h3⟩ := hn1
        cases Option.some.inj (h1.symm.trans hcl)
        cases Option.some.inj (h2.symm.trans hc6)
        exact Or.inr ⟨hz0, _, hcl6, h3⟩) hx (Or.inr ⟨h0, c4, hcl5, hasg⟩)
  obtain ⟨t, a1, b1⟩ := kk (T.setVm vm') hT X'
  exact ⟨t, st.trans a1, b1⟩
end Rows
section Ends
variable {p : Program} {l : Launch} {e : Env} {R : Room} {s : State} {m : MethodId} {args : Array Value} {below : List Frame} {meth : Method} {c : Code} {H : Heap} {locs : List Loc} {cells slots : Nat} {Q : State → Prop}
variable {mc ms : Nat} {free : Addr → Prop} {A0 A1 : Nat → Prop} {H0 : Heap} {a : Array Value} {ls : Array Slot} {st0 rest : List Value}
variable {Qc : Array Value → State → Outcome → State → Prop} {XC : String → State → State → Prop}
/-- what a body that may throw owes at its end -/
def vx_MQ (below : List Frame) (Qc : Array Value → State → Outcome → State → Prop) (XC : String → State → State → Prop) (a : Array Value) (s : State) (mc ms : Nat) (free : Addr → Prop) : State → Prop := fun t =>
  ∃ o, t.status = .running ∧ Ended t below o ∧ vx_Q Qc XC mc ms free a s o t
theorem vx_ret {g : JFrame} {mc ms : Nat} (k : W p l e R s m args below meth c H locs cells slots (MQ below Qc args s mc ms free) g) : W p l e R s m args below meth c H locs cells slots (vx_MQ below Qc XC args s mc ms free) g := by
  intro T hT X
  obtain ⟨t, a1, o, b1, b2, b3, b4⟩ := k T hT X
  exact ⟨t, a1, o, b1, b2, Or.inl ⟨b3, b4⟩⟩
/-- not caught here: it goes on to the caller -/
theorem vx_widen {g : JFrame} {q : Addr} {k n : Nat} (h1 : cells ≤ k) (h2 : slots ≤ n) (kk : vx_W p l e R s m args below meth c H locs k n Q g q) : vx_W p l e R s m args below meth c H locs cells slots Q g q := fun T hT X => kk T hT (stand_widen X h1 h2)
theorem vx_out {pc : Nat} {E : String} {ce : Cell} {q : Addr} {mc ms : Nat} (hout : ∀ x ∈ c.exceptionTable.toList, covers x pc = false) (hlocks : meth.locks = false) (hcell : H[q]? = some ce) (hv : ce.vm = .none) (hcl : s.vm.findClass E = some ce.cls)
    (hx : ∀ t : State, t.heap = H → s.vm.Alike t.vm → XC E s t) (hf : ∀ z ∈ locs, free z.base) (hc : cells ≤ mc) (hs : slots ≤ ms) :
    vx_W p l e R s m args below meth c H locs cells slots (vx_MQ below Qc XC args s mc ms free) (F0 m pc ls rest) q := by
  intro T hT X
  obtain ⟨st1, hrun, hend, hW, hsm⟩ := X.leaveThrown q (g := F0 m pc ls rest) rfl rfl rfl hout hlocks
  have hcell9 : (T.setFrames (.throwing q :: below)).heap[q]? = some ce := by
    show T.heap[q]? = some ce
    rw [hT]; exact hcell
  exact ⟨_, st1, .threw q, hrun, hend, Or.inr ⟨q, rfl, E, ce, locs, hx _ hT hW.alike, hcell9, hv, hcl, hW, hsm.mono hc hs, hf⟩⟩
theorem vx_frame {U : State} {k n : Nat} (h : s.sameButNew ({ U with vm := s.vm } : State) locs k n) : s.heap.size ≤ U.heap.size ∧ ∀ q : Nat, q < s.heap.size → (∀ z ∈ locs, z.base ≠ q) → U.heap[q]? = s.heap[q]? := by
  obtain ⟨-, h2, -, -, -, h6⟩ := h
  refine ⟨h2, fun q hq hz => ?_⟩
  obtain ⟨c9, e1, e2, e3, e4⟩ := h6 q _ (Array.getElem?_eq_getElem hq)
  have hs : c9.slots = (s.heap[q]).slots := Array.ext_getElem? fun i => e4 i fun hm => hz _ hm rfl
  have h9 : c9 = s.heap[q] := by
    rw [hs] at e2
    exact e2
  have e5 : U.heap[q]? = some c9 := e1
  rw [e5, h9, Array.getElem?_eq_getElem hq]
/-- the words of a throw but the four that speak of the heap -/
def vx_no (w : Cond) : Bool := decide (w ≠ .isRef (.static Bundle.tN "UNASSIGNED_STACK" Bundle.steD)) && decide (w ≠ .isRef (.static Bundle.tN "SUPPRESSED_SENTINEL" Bundle.listD)) && decide (w ≠ .laysStatic Bundle.tN "UNASSIGNED_STACK" Bundle.steD) && decide (w ≠ .laysStatic Bundle.tN "SUPPRESSED_SENTINEL" Bundle.listD)
def vx_at0 (own : String) (ic : Nat) (X : String) (names : List String) : List Cond := (Bundle.ownAtoms0 own ic X names).filter vx_no
def vx_atS (own : String) (ic : Nat) (X : String) (names : List String) : List Cond := (Bundle.ownAtoms own ic X names).filter vx_no
/-- a word that the tables alone decide, or a good one -/
def vx_ot (w : Cond) : Bool := w.onTables || goodWord w
theorem vx_ot_at {args a' : Array Value} {s U : State} {w : Cond} (hW : s.WarmedH U.vm) (hvm : s.vm = U.vm) (hg : vx_ot w = true) (h : w.before args s = true) : w.before a' U = true := by
  simp only [vx_ot, Bool.or_eq_true] at hg
  rcases hg with hg | hg
  · exact va_tabs hg hvm h
  · exact word_at hW (good_of_word hg) h
/-- a list's words: the good ones out of the method's own list, the others by premises of their own -/
theorem vx_hat {args : Array Value} {s : State} {L B : List Cond} (h1 : ∀ w ∈ L.filter goodWord, w.before args s = true) (h2 : ∀ w ∈ L.filter (fun w => !goodWord w), w ∈ B) (h3 : ∀ w ∈ B, w.before args s = true) : ∀ w ∈ L, w.before args s = true := by
  intro w hw
  by_cases g : goodWord w = true
  · exact h1 w (List.mem_filter.mpr ⟨hw, g⟩)
  · refine h3 w (h2 w (List.mem_filter.mpr ⟨hw, ?_⟩))
    show (!goodWord w) = true
    cases hgw : goodWord w
    · rfl
    · exact absurd hgw g
theorem vx_c {args : Array Value} {s : State} {w : Cond} {B : List Cond} (h : w.before args s = true) (t : ∀ w ∈ B, w.before args s = true) : ∀ w' ∈ w :: B, w'.before args s = true := fun w' h' => (List.mem_cons.mp h').elim (fun e => by rw [e]; exact h) (t w')
theorem vx_n {args : Array Value} {s : State} : ∀ w ∈ ([] : List Cond), w.before args s = true := fun _ h => nomatch h
theorem vx_own {args : Array Value} {s : State} {L : List Cond} (h1 : ∀ w ∈ L.filter vx_no, w.before args s = true)
    (hU : (Cond.isRef (.static Bundle.tN "UNASSIGNED_STACK" Bundle.steD)).before args s = true) (hN : (Cond.isRef (.static Bundle.tN "SUPPRESSED_SENTINEL" Bundle.listD)).before args s = true)
    (lU : (Cond.laysStatic Bundle.tN "UNASSIGNED_STACK" Bundle.steD).before args s = true) (lN : (Cond.laysStatic Bundle.tN "SUPPRESSED_SENTINEL" Bundle.listD).before args s = true) : ∀ w ∈ L, w.before args s = true := by
  intro w hw
  by_cases e1 : w = .isRef (.static Bundle.tN "UNASSIGNED_STACK" Bundle.steD)
  · rw [e1]; exact hU
  · by_cases e2 : w = .isRef (.static Bundle.tN "SUPPRESSED_SENTINEL" Bundle.listD)
    · rw [e2]; exact hN
    · by_cases e3 : w = .laysStatic Bundle.tN "UNASSIGNED_STACK" Bundle.steD
      · rw [e3]; exact lU
      · by_cases e4 : w = .laysStatic Bundle.tN "SUPPRESSED_SENTINEL" Bundle.listD
        · rw [e4]; exact lN
        · exact h1 w (List.mem_filter.mpr ⟨hw, by unfold vx_no; rw [decide_eq_true e1, decide_eq_true e2, decide_eq_true e3, decide_eq_true e4]; rfl⟩)
/-- where a static field lies, its class's statics cell in H -/
def vx_L (C n d : String) (A : Nat → Prop) (U : State) (H : Heap) : Prop := ∃ (c : ClassId) (k : Class) (i : Nat) (f : Field) (a : Nat) (cell : Cell), U.vm.findClass C = some c ∧ U.fieldFound? C n d = some (c, k, i, f) ∧ f.isStatic = true ∧ k.statics = some a ∧ H[a]? = some cell ∧ cell.vm.isStatics = true ∧ cell.cls = c ∧ f.slot < cell.slots.size ∧ k.staticTypes[f.slot]? = some f.type ∧ ¬ A a
theorem vx_L.moved {C n d : String} {A : Nat → Prop} {u U : State} {H : Heap} (hvm : u.vm.Alike U.vm) (h : vx_L C n d A u H) : vx_L C n d A U H := by
  obtain ⟨c, k, i, f, a, cell, h1, h2, h3, h4, h5, h6, h7, h8, h9, h10⟩ := h
  obtain ⟨k', hi', he⟩ := State.fieldFound?_setVm hvm h2
  exact ⟨c, k', i, f, a, cell, by rw [hvm.findClass]; exact h1, hi', h3, by rw [he]; exact h4, h5, h6, h7, h8, by rw [he]; exact h9, h10⟩
theorem vx_L.kept {C n d : String} {A : Nat → Prop} {U : State} {H H1 : Heap} (h : vx_L C n d A U H) (hq : ∀ a : Nat, a < H.size → ¬ A a → H1[a]? = H[a]?) : vx_L C n d A U H1 := by
  obtain ⟨c, k, i, f, a, cell, h1, h2, h3, h4, h5, h6, h7, h8, h9, h10⟩ := h
  exact ⟨c, k, i, f, a, cell, h1, h2, h3, h4, by rw [hq a (Array.getElem?_eq_some_iff.mp h5).1 h10]; exact h5, h6, h7, h8, h9, h10⟩
theorem vx_L.narrow {C n d : String} {A B : Nat → Prop} {U : State} {H : Heap} (h : vx_L C n d A U H) (hAB : ∀ q, B q → A q) : vx_L C n d B U H := by
  obtain ⟨c, k, i, f, a, cell, h1, h2, h3, h4, h5, h6, h7, h8, h9, h10⟩ := h
  exact ⟨c, k, i, f, a, cell, h1, h2, h3, h4, h5, h6, h7, h8, h9, fun z => h10 (hAB _ z)⟩
theorem vx_L.word {C n d : String} {A : Nat → Prop} {s : State} {args : Array Value} (h : vx_L C n d A s s.heap) : (Cond.laysStatic C n d).before args s = true := by
  obtain ⟨c, k, i, f, a, cell, h1, h2, h3, h4, h5, h6, h7, h8, h9, -⟩ := h
  show (Cond.laysStatic C n d).holds args s none s [] = true
  exact Cond.laysStatic_of h1 h2 h3 h4 h5 h6 h7 h8 h9
/-- .. and what it holds: null or some reference -/
def vx_Zq (C n d : String) (A : Nat → Prop) (U : State) (H : Heap) : Prop := va_Zq C n d A U H ∧ vx_L C n d A U H
theorem vx_Zq.moved {C n d : String} {A : Nat → Prop} {u U : State} {H : Heap} (hvm : u.vm.Alike U.vm) (h : vx_Zq C n d A u H) : vx_Zq C n d A U H := ⟨va_Zq.moved hvm h.1, vx_L.moved hvm h.2⟩
theorem vx_Zq.kept {C n d : String} {A : Nat → Prop} {U : State} {H H1 : Heap} (h : vx_Zq C n d A U H) (hq : ∀ a : Nat, a < H.size → ¬ A a → H1[a]? = H[a]?) : vx_Zq C n d A U H1 := ⟨va_Zq.kept h.1 hq, vx_L.kept h.2 hq⟩
theorem vx_Zq.narrow {C n d : String} {A B : Nat → Prop} {U : State} {H : Heap} (h : vx_Zq C n d A U H) (hAB : ∀ q, B q → A q) : vx_Zq C n d B U H := ⟨va_Zq.narrow h.1 hAB, vx_L.narrow h.2 hAB⟩
theorem vx_Zqof {args : Array Value} {s : State} {C n d : String} {A : Nat → Prop} (hl : (Cond.laysStatic C n d).before args s = true) (hini : (Cond.initialized C).before args s = true) (h : (Cond.isRef (.static C n d)).before args s = true) (hA : ∀ a : Nat, a < s.heap.size → ¬ A a) : vx_Zq C n d A s s.heap := by
  refine ⟨va_Zqof hl hini h hA, ?_⟩
  obtain ⟨c, k, i, f, a, cell, h1, h2, h3, h4, h5, h6, h7, h8, h9⟩ := Cond.laysStatic_spec hl
  exact ⟨c, k, i, f, a, cell, h1, h2, h3, h4, h5, h6, h7, h8, h9, hA a (Array.getElem?_eq_some_iff.mp h5).1⟩
theorem vx_isRef {C n d : String} {v : Value} {A : Nat → Prop} {s : State} {args : Array Value} (h : va_Z C n d v A s s.heap) (hv : v.isRef = true) : (Cond.isRef (.static C n d)).before args s = true := by
  obtain ⟨cf, kf, fi, f, a, cell, h1, h2, h3, h4, h5, h6, h7, -⟩ := h
  have he : (Term.static C n d).eval args s none [] s = some v := by
    simp [Term.eval, State.fieldNamed?, h1, h2, h4, h5, h6, h7]
  simp only [Cond.before, Cond.holds, Cond.value, he]
  cases v <;> simp_all [Value.isRef]
theorem vx_isRefq {C n d : String} {A : Nat → Prop} {s : State} {args : Array Value} (h : va_Zq C n d A s s.heap) : (Cond.isRef (.static C n d)).before args s = true := by
  rcases h with h | ⟨t, h⟩
  · exact vx_isRef h rfl
  · exact vx_isRef h rfl
/-- the same frame, seen from here: as if the method were called anew in this heap -/
theorem vx_rebase {T : State} (X : Stand p l e R s m args below meth c T locs cells slots) {R' : Room} (hf : R'.frames ≤ R.frames) (hl : R'.locals ≤ R.locals) (hc : cells + R'.cells ≤ R.cells) (hs : slots + R'.slots ≤ R.slots) :
    Stand p l e R' ((T.setVm s.vm).setFrames (.invoking m args :: below)) m args below meth c T [] 0 0 := by
  have htop : (T.setVm s.vm).topJava?.isSome := X.here.top
  have hF : ((T.setVm s.vm).setFrames (.invoking m args :: below)).frames = .invoking m args :: below := State.frames_setFrames _ (State.cur_lt_of_top htop)
  obtain ⟨g₀, hg0⟩ := Option.isSome_iff_exists.mp htop
  obtain ⟨r, hr⟩ := State.topJava?_eq_some.mp hg0
  have hl9 : e.platform.stackLimits (T.setVm s.vm).me = e.platform.stackLimits s.me := X.limits
  have hb9 : (T.setVm s.vm).me.stackBytes = s.me.stackBytes := X.bytes
  refine ⟨X.admits, X.cas, X.clock, hF, ?_, X.hears, X.method, X.code, X.here, X.tail, X.warmed, ?_, ?_, ?_⟩
  · have h := X.room
    have hU : ((T.setVm s.vm).setFrames (.invoking m args :: below)).localsInUse = s.localsInUse := by
      rw [State.localsInUse_invoking hF (meth := meth) (c := c) X.method X.code, State.localsInUse_invoking X.frames X.method X.code]
    simp only [State.hasRoom, Bool.and_eq_true, decide_eq_true_eq] at h ⊢
    obtain ⟨⟨⟨⟨h1, h2, h3, h4, h5, h6⟩, h7⟩, h8⟩, h9⟩ := h
    rw [X.frames, List.length_cons] at h2 h3
    have q1 := X.heapSize
    have q2 := X.used
    simp only [hF, hU, List.length_cons, State.stackLimits_setFrames, State.stackBytes_setFrames, hl9, hb9]
    refine ⟨⟨⟨⟨by omega, by omega, by omega, by omega, by omega, h6⟩, ?_⟩, ?_⟩, X.book⟩
    · show T.heap.size + R'.cells ≤ e.platform.maxCells
      omega
    · show T.slotsUsed + R'.slots ≤ e.platform.maxSlots
      omega
  · rw [State.stackLimits_setFrames]; rfl
  · rw [State.stackBytes_setFrames]; rfl
  · refine ⟨?_, Nat.le_refl _, Nat.le_refl _, ?_, ?_, fun a c9 h9 => ⟨c9, h9, rfl, rfl, fun _ _ => rfl⟩⟩
    · obtain ⟨t, ht, -⟩ := State.frames_cons hr
      show T.setVm s.vm = { ((T.setVm s.vm).setFrames (.invoking m args :: below)).setFrames (T.setVm s.vm).frames with heap := T.heap, slotsUsed := T.slotsUsed }
      rw [State.setFrames_setFrames, State.setFrames_self ht]
      rfl
    · show T.slotsUsed = T.slotsUsed + ((T.heap.toList.drop T.heap.size).map (·.slots.size)).sum
      rw [List.drop_eq_nil_of_le (Nat.le_of_eq Array.length_toList)]
      rfl
    · show ((T.heap.toList.drop T.heap.size).map (·.slots.size)).sum ≤ 0
      rw [List.drop_eq_nil_of_le (Nat.le_of_eq Array.length_toList)]
      exact Nat.le_refl _
/-- 'throw new E()': new; dup; invokespecial; athrow -/
theorem vx_throw0 {cc : ByteArray} {pc : Nat} (hexec : p.tables.exec = Jvm.exec) (hb : c.code = cc) (hl : l.stackTraces = false) {own cls : String} {names : List String} {ik ic mc ms : Nat} {A : Nat → Prop}
    (hown : s.vm.findClass own = some m.cls) (hcls : Bundle.fit cls = true) (hnames : ∀ n ∈ names, Bundle.fit n = true)
    (hk : (Cond.classLink own ik cls).before args s = true) (hini : (Cond.initialized cls).before args s = true) (hat : ∀ w ∈ vx_at0 own ic cls names, w.before args s = true)
    (hgood : ∀ w ∈ Cond.classLink own ik cls :: Cond.initialized cls :: vx_at0 own ic cls names, vx_ot w = true)
    (hU : vx_Zq Bundle.tN "UNASSIGNED_STACK" Bundle.steD A s s.heap) (hN : vx_Zq Bundle.tN "SUPPRESSED_SENTINEL" Bundle.listD A s s.heap) (hS : va_S A s.heap H locs) (hsize : ls.size = c.maxLocals)
    (d0 : decode cc pc = .ok (.new ik, 3)) (d3 : decode cc (pc + 3) = .ok (.dup, 1)) (d4 : decode cc (pc + 4) = .ok (.invokespecial ic, 3)) (d7 : decode cc (pc + 7) = .ok (.athrow, 1))
    (hout : ∀ x ∈ c.exceptionTable.toList, covers x (pc + 7) = false)
    (hRframes : names.length + 3 < R.frames) (hRlocals : (rest.map fun v => v.category).sum + (13 * (names.length + 1) + 42) ≤ R.locals) (hRcells : cells + 1 ≤ R.cells) (hRslots : slots + 6 ≤ R.slots) (hlocks : meth.locks = false)
    (hx : ∀ t : State, s.vm.Alike t.vm → H.size ≤ t.heap.size → (∀ q : Nat, q < H.size → t.heap[q]? = H[q]?) → XC cls s t)
    (hf : ∀ z ∈ locs, free z.base) (hc : cells + 1 ≤ mc) (hs : slots + 6 ≤ ms) :
    W p l e R s m args below meth c H locs cells slots (vx_MQ below Qc XC args s mc ms free) (F0 m pc ls rest) := by
  intro T hT X
  have htr : e.platform.stackTraces = false := (show e.platform.stackTraces = l.stackTraces by rw [X.admits.platform]).trans hl
  have Y := vx_rebase X (R' := { frames := R.frames, locals := R.locals, cells := 1, slots := 6 }) (Nat.le_refl _) (Nat.le_refl _) hRcells hRslots
  obtain ⟨s', hA⟩ : ∃ z, z = (T.setVm s.vm).setFrames (.invoking m args :: below) := ⟨_, rfl⟩
  rw [← hA] at Y
  have hvm : s'.vm = s.vm := by rw [hA]; rfl
  have hhp : s'.heap = H := by rw [hA]; exact hT
  have hW0 : s.WarmedH s'.vm := by rw [hvm]; exact State.WarmedH.refl s
  have hat' : ∀ w ∈ vx_at0 own ic cls names, w.before args s' = true := fun w hw => vx_ot_at hW0 hvm.symm (hgood w (List.mem_cons_of_mem _ (List.mem_cons_of_mem _ hw))) (hat w hw)
  have hk' : (Cond.classLink own ik cls).before args s' = true := vx_ot_at hW0 hvm.symm (hgood _ List.mem_cons_self) hk
  have hini' : (Cond.initialized cls).before args s' = true := vx_ot_at hW0 hvm.symm (hgood _ (List.mem_cons_of_mem _ List.mem_cons_self)) hini
  have hU' : vx_Zq Bundle.tN "UNASSIGNED_STACK" Bundle.steD A s' s'.heap := by rw [hhp]; exact vx_Zq.moved hW0.alike (hU.kept hS.2.1)
  have hN' : vx_Zq Bundle.tN "SUPPRESSED_SENTINEL" Bundle.listD A s' s'.heap := by rw [hhp]; exact vx_Zq.moved hW0.alike (hN.kept hS.2.1)
  have h : ∀ w ∈ Bundle.ownAtoms0 own ic cls names, w.before args s' = true := vx_own hat' (vx_isRefq hU'.1) (vx_isRefq hN'.1) hU'.2.word hN'.2.word
  have hown' : s'.vm.findClass own = some m.cls := by rw [hvm]; exact hown
  have hins : (Cond.instantiable cls 6).before args s' = true := h _ (by simp [Bundle.ownAtoms0])
  obtain ⟨vm₁, cX, kX, hfX, hkX, -, -, X₁, st1⟩ := Y.newCold hexec (own := own) (C := cls) (index := ik) (n := 6) hown' hk' hins hini'
    (g := F0 m pc ls rest) rfl (by rw [hb]; exact d0) (Nat.le_refl _) (Nat.le_refl _)
  generalize hT1 : (T.setVm vm₁).pushCell { cls := cX, slots := kX.instanceTypes.map defaultValue, vm := .none } = T1 at X₁ st1
  have hcat : (Value.ref T.heap.size).category = 1 := rfl
  have hcellA : T1.heap[T.heap.size]? = some (freshCell cX kX) := by rw [← hT1]; exact State.heap_pushCell_size _ _
  have d3' : decode c.code (pc + 3) = .ok (.dup, 1) := by rw [hb]; exact d3
  obtain ⟨U, hsteps, hrun, hend, hW, hsame, ce, hce, hO⟩ := X₁.ctorThrow0 hexec htr (own := own) (cls := cls) (names := names) (ic := ic) hown' hcls hnames h (fun x hx => nomatch hx) hfX hkX hcellA (by rw [hhp, hT]; exact Nat.le_refl _)
    (g := { method := m, pc := pc + 4, locals := ls, stack := .ref T.heap.size :: .ref T.heap.size :: rest, locked := none }) rfl hsize rfl rfl (rest := rest) rfl
    (by rw [hb]; exact d4) (by rw [hb]; exact d7) hout hRframes (by simp only [List.map_cons, List.sum_cons, hcat]; omega) hlocks
  obtain ⟨f1, f2⟩ := vx_frame hsame
  rw [hhp] at f1 f2
  have hWs : s.WarmedH U.vm := State.WarmedH.trans hW0 hW
  have hcl : s.vm.findClass cls = some ce.cls := by
    have h9 := hO.cls
    rw [hvm] at h9
    exact h9
  have hall : s.sameButNew ({ U with vm := s.vm } : State) locs mc ms := by
    subst hA
    obtain ⟨e1, e2⟩ := hsame
    rw [State.setFrames_setFrames] at e1
    have h2 : (T.setVm s.vm).sameButNew ({ U with vm := s.vm } : State) [] (0 + 1) (0 + 6) := ⟨e1, e2⟩
    have h3 := X.same.trans h2
    rw [List.append_nil] at h3
    exact h3.mono hc hs
  refine ⟨U, ?_, .threw T.heap.size, hrun, hend, Or.inr ⟨T.heap.size, rfl, cls, ce, locs, hx U hWs.alike f1 (fun q hq => f2 q hq (fun z hz => nomatch hz)), hce, hO.vm, hcl, hWs, hall, hf⟩⟩
  refine st1 _ ?_
  show Steps p.tables e below (T1.setTop { method := m, pc := pc + 3, locals := ls, stack := .ref T.heap.size :: rest, locked := none }) _
  jvm_step X₁.here [X₁.here.top, hexec, d3', Value.category]
  exact hsteps
/-- 'throw new E("text")': new; dup; ldc; invokespecial; athrow -/
theorem vx_throwS {cc : ByteArray} {pc : Nat} (hexec : p.tables.exec = Jvm.exec) (hb : c.code = cc) (hl : l.stackTraces = false) {own cls text : String} {names : List String} {ik is ic mc ms sa : Nat} {A : Nat → Prop}
    (hown : s.vm.findClass own = some m.cls) (hcls : Bundle.fit cls = true) (hnames : ∀ n ∈ names, Bundle.fit n = true)
    (hk : (Cond.classLink own ik cls).before args s = true) (hini : (Cond.initialized cls).before args s = true) (hstr : vk_R own is text sa s) (hat : ∀ w ∈ vx_atS own ic cls names, w.before args s = true)
    (hgood : ∀ w ∈ Cond.classLink own ik cls :: Cond.initialized cls :: vx_atS own ic cls names, vx_ot w = true)
    (hU : vx_Zq Bundle.tN "UNASSIGNED_STACK" Bundle.steD A s s.heap) (hN : vx_Zq Bundle.tN "SUPPRESSED_SENTINEL" Bundle.listD A s s.heap) (hS : va_S A s.heap H locs) (hsize : ls.size = c.maxLocals)
    (d0 : decode cc pc = .ok (.new ik, 3)) (d3 : decode cc (pc + 3) = .ok (.dup, 1)) (d4 : decode cc (pc + 4) = .ok (.ldc is, 2)) (d6 : decode cc (pc + 6) = .ok (.invokespecial ic, 3)) (d9 : decode cc (pc + 9) = .ok (.athrow, 1))
    (hout : ∀ x ∈ c.exceptionTable.toList, covers x (pc + 9) = false)
    (hRframes : names.length + 3 < R.frames) (hRlocals : (rest.map fun v => v.category).sum + (13 * (names.length + 1) + 43) ≤ R.locals) (hRcells : cells + 1 ≤ R.cells) (hRslots : slots + 6 ≤ R.slots) (hlocks : meth.locks = false)
    (hx : ∀ t : State, s.vm.Alike t.vm → H.size ≤ t.heap.size → (∀ q : Nat, q < H.size → t.heap[q]? = H[q]?) → XC cls s t)
    (hf : ∀ z ∈ locs, free z.base) (hc : cells + 1 ≤ mc) (hs : slots + 6 ≤ ms) :
    W p l e R s m args below meth c H locs cells slots (vx_MQ below Qc XC args s mc ms free) (F0 m pc ls rest) := by
  intro T hT X
  have htr : e.platform.stackTraces = false := (show e.platform.stackTraces = l.stackTraces by rw [X.admits.platform]).trans hl
  have Y := vx_rebase X (R' := { frames := R.frames, locals := R.locals, cells := 1, slots := 6 }) (Nat.le_refl _) (Nat.le_refl _) hRcells hRslots
  obtain ⟨s', hA⟩ : ∃ z, z = (T.setVm s.vm).setFrames (.invoking m args :: below) := ⟨_, rfl⟩
  rw [← hA] at Y
  have hvm : s'.vm = s.vm := by rw [hA]; rfl
  have hhp : s'.heap = H := by rw [hA]; exact hT
  have hW0 : s.WarmedH s'.vm := by rw [hvm]; exact State.WarmedH.refl s
  have hat' : ∀ w ∈ vx_atS own ic cls names, w.before args s' = true := fun w hw => vx_ot_at hW0 hvm.symm (hgood w (List.mem_cons_of_mem _ (List.mem_cons_of_mem _ hw))) (hat w hw)
  have hk' : (Cond.classLink own ik cls).before args s' = true := vx_ot_at hW0 hvm.symm (hgood _ List.mem_cons_self) hk
  have hini' : (Cond.initialized cls).before args s' = true := vx_ot_at hW0 hvm.symm (hgood _ (List.mem_cons_of_mem _ List.mem_cons_self)) hini
  have hU' : vx_Zq Bundle.tN "UNASSIGNED_STACK" Bundle.steD A s' s'.heap := by rw [hhp]; exact vx_Zq.moved hW0.alike (hU.kept hS.2.1)
  have hN' : vx_Zq Bundle.tN "SUPPRESSED_SENTINEL" Bundle.listD A s' s'.heap := by rw [hhp]; exact vx_Zq.moved hW0.alike (hN.kept hS.2.1)
  have h : ∀ w ∈ Bundle.ownAtoms own ic cls names, w.before args s' = true := vx_own hat' (vx_isRefq hU'.1) (vx_isRefq hN'.1) hU'.2.word hN'.2.word
  have hown' : s'.vm.findClass own = some m.cls := by rw [hvm]; exact hown
  have hins : (Cond.instantiable cls 6).before args s' = true := h _ (by simp [Bundle.ownAtoms])
  obtain ⟨vm₁, cX, kX, hfX, hkX, -, -, X₁, st1⟩ := Y.newCold hexec (own := own) (C := cls) (index := ik) (n := 6) hown' hk' hins hini'
    (g := F0 m pc ls rest) rfl (by rw [hb]; exact d0) (Nat.le_refl _) (Nat.le_refl _)
  generalize hT1 : (T.setVm vm₁).pushCell { cls := cX, slots := kX.instanceTypes.map defaultValue, vm := .none } = T1 at X₁ st1
  have hcat : (Value.ref T.heap.size).category = 1 := rfl
  have hcellA : T1.heap[T.heap.size]? = some (freshCell cX kX) := by rw [← hT1]; exact State.heap_pushCell_size _ _
  have d3' : decode c.code (pc + 3) = .ok (.dup, 1) := by rw [hb]; exact d3
  have d4' : decode c.code (pc + 4) = .ok (.ldc is, 2) := by rw [hb]; exact d4
  have hstr' : vk_R own is text sa s' := vk_R.warm hW0 hstr
  obtain ⟨U, hsteps, hrun, hend, hW, hsame, ce, hce, hO⟩ := X₁.ctorThrowS hexec htr (own := own) (cls := cls) (names := names) (ic := ic) hown' hcls hnames h (fun x hx => nomatch hx) hfX hkX hcellA (by rw [hhp, hT]; exact Nat.le_refl _) (msg := .ref sa) rfl
    (g := { method := m, pc := pc + 6, locals := ls, stack := .ref sa :: .ref T.heap.size :: .ref T.heap.size :: rest, locked := none }) rfl hsize rfl rfl (rest := rest) rfl
    (by rw [hb]; exact d6) (by rw [hb]; exact d9) hout hRframes (by simp only [List.map_cons, List.sum_cons, hcat]; omega) hlocks
  obtain ⟨f1, f2⟩ := vx_frame hsame
  rw [hhp] at f1 f2
  have hWs : s.WarmedH U.vm := State.WarmedH.trans hW0 hW
  have hcl : s.vm.findClass cls = some ce.cls := by
    have h9 := hO.cls
    rw [hvm] at h9
    exact h9
  have hall : s.sameButNew ({ U with vm := s.vm } : State) locs mc ms := by
    subst hA
    obtain ⟨e1, e2⟩ := hsame
    rw [State.setFrames_setFrames] at e1
    have h2 : (T.setVm s.vm).sameButNew ({ U with vm := s.vm } : State) [] (0 + 1) (0 + 6) := ⟨e1, e2⟩
    have h3 := X.same.trans h2
    rw [List.append_nil] at h3
    exact h3.mono hc hs
  refine ⟨U, ?_, .threw T.heap.size, hrun, hend, Or.inr ⟨T.heap.size, rfl, cls, ce, locs, hx U hWs.alike f1 (fun q hq => f2 q hq (fun z hz => nomatch hz)), hce, hO.vm, hcl, hWs, hall, hf⟩⟩
  refine st1 _ ?_
  show Steps p.tables e below (T1.setTop { method := m, pc := pc + 3, locals := ls, stack := .ref T.heap.size :: rest, locked := none }) _
  jvm_step X₁.here [X₁.here.top, hexec, d3', Value.category]
  exact X₁.ldcString hexec (own := own) (text := text) (index := is) (a := sa) hown' hstr'.1 hstr'.2
    (g := { method := m, pc := pc + 4, locals := ls, stack := .ref T.heap.size :: .ref T.heap.size :: rest, locked := none }) rfl d4' _ hsteps
/-- 'throw new E("text")', the text by a wide index -/
theorem vx_throwSW {cc : ByteArray} {pc : Nat} (hexec : p.tables.exec = Jvm.exec) (hb : c.code = cc) (hl : l.stackTraces = false) {own cls text : String} {names : List String} {ik is ic mc ms sa : Nat} {A : Nat → Prop}
    (hown : s.vm.findClass own = some m.cls) (hcls : Bundle.fit cls = true) (hnames : ∀ n ∈ names, Bundle.fit n = true)
    (hk : (Cond.classLink own ik cls).before args s = true) (hini : (Cond.initialized cls).before args s = true) (hstr : vk_R own is text sa s) (hat : ∀ w ∈ vx_atS own ic cls names, w.before args s = true)
    (hgood : ∀ w ∈ Cond.classLink own ik cls :: Cond.initialized cls :: vx_atS own ic cls names, vx_ot w = true)
    (hU : vx_Zq Bundle.tN "UNASSIGNED_STACK" Bundle.steD A s s.heap) (hN : vx_Zq Bundle.tN "SUPPRESSED_SENTINEL" Bundle.listD A s s.heap) (hS : va_S A s.heap H locs) (hsize : ls.size = c.maxLocals)
    (d0 : decode cc pc = .ok (.new ik, 3)) (d3 : decode cc (pc + 3) = .ok (.dup, 1)) (d4 : decode cc (pc + 4) = .ok (.ldc_w is, 3)) (d7 : decode cc (pc + 7) = .ok (.invokespecial ic, 3)) (d10 : decode cc (pc + 10) = .ok (.athrow, 1))
    (hout : ∀ x ∈ c.exceptionTable.toList, covers x (pc + 10) = false)
    (hRframes : names.length + 3 < R.frames) (hRlocals : (rest.map fun v => v.category).sum + (13 * (names.length + 1) + 43) ≤ R.locals) (hRcells : cells + 1 ≤ R.cells) (hRslots : slots + 6 ≤ R.slots) (hlocks : meth.locks = false)
    (hx : ∀ t : State, s.vm.Alike t.vm → H.size ≤ t.heap.size → (∀ q : Nat, q < H.size → t.heap[q]? = H[q]?) → XC cls s t)
    (hf : ∀ z ∈ locs, free z.base) (hc : cells + 1 ≤ mc) (hs : slots + 6 ≤ ms) :
    W p l e R s m args below meth c H locs cells slots (vx_MQ below Qc XC args s mc ms free) (F0 m pc ls rest) := by
  intro T hT X
  have htr : e.platform.stackTraces = false := (show e.platform.stackTraces = l.stackTraces by rw [X.admits.platform]).trans hl
  have Y := vx_rebase X (R' := { frames := R.frames, locals := R.locals, cells := 1, slots := 6 }) (Nat.le_refl _) (Nat.le_refl _) hRcells hRslots
  obtain ⟨s', hA⟩ : ∃ z, z = (T.setVm s.vm).setFrames (.invoking m args :: below) := ⟨_, rfl⟩
  rw [← hA] at Y
  have hvm : s'.vm = s.vm := by rw [hA]; rfl
  have hhp : s'.heap = H := by rw [hA]; exact hT
  have hW0 : s.WarmedH s'.vm := by rw [hvm]; exact State.WarmedH.refl s
  have hat' : ∀ w ∈ vx_atS own ic cls names, w.before args s' = true := fun w hw => vx_ot_at hW0 hvm.symm (hgood w (List.mem_cons_of_mem _ (List.mem_cons_of_mem _ hw))) (hat w hw)
  have hk' : (Cond.classLink own ik cls).before args s' = true := vx_ot_at hW0 hvm.symm (hgood _ List.mem_cons_self) hk
  have hini' : (Cond.initialized cls).before args s' = true := vx_ot_at hW0 hvm.symm (hgood _ (List.mem_cons_of_mem _ List.mem_cons_self)) hini
  have hU' : vx_Zq Bundle.tN "UNASSIGNED_STACK" Bundle.steD A s' s'.heap := by rw [hhp]; exact vx_Zq.moved hW0.alike (hU.kept hS.2.1)
  have hN' : vx_Zq Bundle.tN "SUPPRESSED_SENTINEL" Bundle.listD A s' s'.heap := by rw [hhp]; exact vx_Zq.moved hW0.alike (hN.kept hS.2.1)
  have h : ∀ w ∈ Bundle.ownAtoms own ic cls names, w.before args s' = true := vx_own hat' (vx_isRefq hU'.1) (vx_isRefq hN'.1) hU'.2.word hN'.2.word
  have hown' : s'.vm.findClass own = some m.cls := by rw [hvm]; exact hown
  have hins : (Cond.instantiable cls 6).before args s' = true := h _ (by simp [Bundle.ownAtoms])
  obtain ⟨vm₁, cX, kX, hfX, hkX, -, -, X₁, st1⟩ := Y.newCold hexec (own := own) (C := cls) (index := ik) (n := 6) hown' hk' hins hini'
    (g := F0 m pc ls rest) rfl (by rw [hb]; exact d0) (Nat.le_refl _) (Nat.le_refl _)
  generalize hT1 : (T.setVm vm₁).pushCell { cls := cX, slots := kX.instanceTypes.map defaultValue, vm := .none } = T1 at X₁ st1
  have hcat : (Value.ref T.heap.size).category = 1 := rfl
  have hcellA : T1.heap[T.heap.size]? = some (freshCell cX kX) := by rw [← hT1]; exact State.heap_pushCell_size _ _
  have d3' : decode c.code (pc + 3) = .ok (.dup, 1) := by rw [hb]; exact d3
  have d4' : decode c.code (pc + 4) = .ok (.ldc_w is, 3) := by rw [hb]; exact d4
  have hstr' : vk_R own is text sa s' := vk_R.warm hW0 hstr
  obtain ⟨U, hsteps, hrun, hend, hW, hsame, ce, hce, hO⟩ := X₁.ctorThrowS hexec htr (own := own) (cls := cls) (names := names) (ic := ic) hown' hcls hnames h (fun x hx => nomatch hx) hfX hkX hcellA (by rw [hhp, hT]; exact Nat.le_refl _) (msg := .ref sa) rfl
    (g := { method := m, pc := pc + 7, locals := ls, stack := .ref sa :: .ref T.heap.size :: .ref T.heap.size :: rest, locked := none }) rfl hsize rfl rfl (rest := rest) rfl
    (by rw [hb]; exact d7) (by rw [hb]; exact d10) hout hRframes (by simp only [List.map_cons, List.sum_cons, hcat]; omega) hlocks
  obtain ⟨f1, f2⟩ := vx_frame hsame
  rw [hhp] at f1 f2
  have hWs : s.WarmedH U.vm := State.WarmedH.trans hW0 hW
  have hcl : s.vm.findClass cls = some ce.cls := by
    have h9 := hO.cls
    rw [hvm] at h9
    exact h9
  have hall : s.sameButNew ({ U with vm := s.vm } : State) locs mc ms := by
    subst hA
    obtain ⟨e1, e2⟩ := hsame
    rw [State.setFrames_setFrames] at e1
    have h2 : (T.setVm s.vm).sameButNew ({ U with vm := s.vm } : State) [] (0 + 1) (0 + 6) := ⟨e1, e2⟩
    have h3 := X.same.trans h2
    rw [List.append_nil] at h3
    exact h3.mono hc hs
  refine ⟨U, ?_, .threw T.heap.size, hrun, hend, Or.inr ⟨T.heap.size, rfl, cls, ce, locs, hx U hWs.alike f1 (fun q hq => f2 q hq (fun z hz => nomatch hz)), hce, hO.vm, hcl, hWs, hall, hf⟩⟩
  refine st1 _ ?_
  show Steps p.tables e below (T1.setTop { method := m, pc := pc + 3, locals := ls, stack := .ref T.heap.size :: rest, locked := none }) _
  jvm_step X₁.here [X₁.here.top, hexec, d3', Value.category]
  exact X₁.ldcStringW hexec (own := own) (text := text) (index := is) (a := sa) hown' hstr'.1 hstr'.2
    (g := { method := m, pc := pc + 4, locals := ls, stack := .ref T.heap.size :: .ref T.heap.size :: rest, locked := none }) rfl d4' _ hsteps
end Ends
section Bodies
variable {l : Launch}
theorem vx_ofW {y : MethodName} {ws ws' : List Cond} {rm : Room} {Pc : Array Value → State → Prop} {Qc : Array Value → State → Outcome → State → Prop} {XC : String → State → State → Prop} {mc ms : Nat} {free : Addr → Prop} {cc : ByteArray} {maxL : Nat} {ret : Option FieldType}
    (hy : plainName y.cls = true) (hw : ws = Cond.code y cc maxL ret :: ws')
    (body : ∀ p e s m args below meth c s₁, BodyLoose p l y (headSpec ws rm) cc maxL ret e s m args below meth c s₁ → c.maxLocals = maxL → (∀ x ∈ c.exceptionTable.toList, False) → Pc args s →
      W p l e (headSpec ws rm).room s m args below meth c s.heap [] 0 0 (vx_MQ below Qc XC args s mc ms free) (entryFrame m args maxL)) : vx_Met l y ws rm Pc Qc XC mc ms free := by
  refine MetFree.of_bodyS (code := cc) (maxLocals := maxL) (ret := ret) hy ?_ ?_
  · intro args s m h hn
    obtain ⟨meth, c, h1, h2, h3, h4, h5, h6, -, -⟩ := Cond.code_spec hn (atoms_spec (ws := ws) h _ (by rw [hw]; exact List.mem_cons_self))
    exact ⟨meth, c, h1, h2, h3, h4, h5, h6⟩
  · intro p e s m args below meth c s₁ B hml hP _
    have hh0 : s₁.heap = s.heap := by rw [B.state]; rfl
    have ht : ∀ x ∈ c.exceptionTable.toList, False := by
      obtain ⟨meth9, c9, h1, h2, -, -, -, -, h7, -⟩ := Cond.code_spec B.named (atoms_spec (ws := ws) B.pre _ (by rw [hw]; exact List.mem_cons_self))
      cases Option.some.inj (h1.symm.trans B.method)
      cases Option.some.inj (h2.symm.trans (Stand.of_body B).code)
      intro x hx
      rw [Array.isEmpty_iff.mp h7] at hx
      cases hx
    obtain ⟨t, a1, o, b1, b2, b3⟩ := body p e s m args below meth c s₁ B hml ht hP s₁ hh0 (Stand.of_body B)
    exact ⟨t, o, a1, b1, b2, b3⟩
/-- the table of a body with handlers -/
theorem vx_table {p : Program} {x y : MethodName} {S : Spec} {cc bytes : ByteArray} {maxL maxL' : Nat} {ret ret' : Option FieldType} {e : Env} {s s₁ : State} {m : MethodId} {args : Array Value} {below : List Frame} {meth : Method} {c : Code} {hh : List (Nat × Nat × Nat × Nat)}
    (B : BodyLoose p l y S cc maxL ret e s m args below meth c s₁) (h : (Cond.codeWith y bytes maxL' ret' hh).before args s = true) : c.exceptionTable.toList = tableOf hh := by
  obtain ⟨m9, meth9, c9, hn9, h1, h2, -, -, h6, -⟩ := Cond.codeWith_spec h
  cases Option.some.inj (hn9.symm.trans B.named)
  cases Option.some.inj (h1.symm.trans B.method)
  cases Option.some.inj (h2.symm.trans (Stand.of_body B).code)
  rw [← h6, table_eq]
end Bodies
end VXA
/-! ===== END ===== -/
/-! ===== BEGIN a static call of a method with an exception table ===== -/
section VXS
variable {p : Program} {l : Launch} {e : Env} {R : Room} {s : State} {m : MethodId} {args : Array Value} {below : List Frame} {meth : Method} {c : Code} {T : State} {H : Heap} {locs : List Loc} {cells slots : Nat}
abbrev vx_CSW (R : Room) (s : State) (args : Array Value) (own : String) (index : Nat) (y : MethodName) (bytes : ByteArray) (maxL : Nat) (ret : Option FieldType) (hh : List (Nat × Nat × Nat × Nat)) (ws : List Cond) (rm : Room) (mc ms n : Nat) : Prop :=
  (rm.cells = mc ∧ rm.slots = ms ∧ rm.frames + 1 ≤ R.frames ∧ 8 + (maxL + 11) + rm.locals ≤ R.locals ∧ (∀ w ∈ ws, ∀ (a' : Array Value) (U : State), s.WarmedH U.vm → w.before a' U = true) ∧ Cond.codeWith y bytes maxL ret hh ∈ ws) ∧
  (Cond.codeWith y bytes maxL ret hh).before args s = true ∧ (Cond.initialized y.cls).before args s = true ∧ (y.cls ≠ "java/lang/invoke/MethodHandle" ∧ y.cls ≠ "java/lang/invoke/VarHandle") ∧
  (∀ sig, parseMethodDescriptor y.desc = some sig → n = sig.parameters.length) ∧ (Cond.methodLink own index y).before args s = true ∧ (Cond.static y).before args s = true
theorem vx_cwSW {own : String} {index maxL mc ms : Nat} {y : MethodName} {bytes : ByteArray} {ret : Option FieldType} {hh : List (Nat × Nat × Nat × Nat)} {Ts ws ws' : List Cond} {rm : Room} (n : Nat) (ht : ∀ w ∈ Ts, w.before args s = true) (hT : GoodIn Ts (va_wsS own index y ws)) (hw : ws = Cond.codeWith y bytes maxL ret hh :: ws') (hrc : rm.cells = mc) (hrs : rm.slots = ms)
    (hd : y.cls ≠ "java/lang/invoke/MethodHandle" ∧ y.cls ≠ "java/lang/invoke/VarHandle" ∧ (parseMethodDescriptor y.desc).map (fun d => d.parameters.length) = some n) (hR : rm.frames + 1 ≤ R.frames ∧ 8 + (maxL + 11) + rm.locals ≤ R.locals) :
    vx_CSW R s args own index y bytes maxL ret hh ws rm mc ms n := by
  have ok : ∀ w ∈ va_wsS own index y ws, w.before args s = true := fun w h => ht w (hT w h).1
  have hG : GoodIn Ts ws := fun w h => hT w (by unfold va_wsS; exact List.mem_append_right _ h)
  have hc : Cond.codeWith y bytes maxL ret hh ∈ ws := by rw [hw]; exact List.mem_cons_self
  refine ⟨⟨hrc, hrs, hR.1, hR.2, pay_in ht hG, hc⟩, ht _ (hG _ hc).1, ok _ (by simp [va_wsS]), ⟨hd.1, hd.2.1⟩, fun sig h => ?_, ok _ (by simp [va_wsS]), ok _ (by simp [va_wsS])⟩
  have h2 := hd.2.2
  rw [h] at h2
  exact (Option.some.inj h2).symm
theorem vx_callSW (X : Stand p l e R s m args below meth c T locs cells slots) (hexec : p.tables.exec = Jvm.exec) {own : String} {index : Nat} {y : MethodName} {bytes : ByteArray} {maxL : Nat} {ret : Option FieldType} {hh : List (Nat × Nat × Nat × Nat)}
    (hown : s.vm.findClass own = some m.cls) (hlink : (Cond.methodLink own index y).before args s = true) (hstat : (Cond.static y).before args s = true) (hinit : (Cond.initialized y.cls).before args s = true)
    (hcode : (Cond.codeWith y bytes maxL ret hh).before args s = true) (hy : y.cls ≠ "java/lang/invoke/MethodHandle" ∧ y.cls ≠ "java/lang/invoke/VarHandle")
    {W9 : Nat} {Pre : Pt → Array Value → Prop} {Post : Pt → Array Value → Option Value → Pt → Prop} (hK : Back l R p e below s args y 3 W9 Pre Post)
    {g : JFrame} (hg : g.method = m) (hsize : g.locals.size = c.maxLocals) {argsL rest : List Value} (hlen : ∀ sig, parseMethodDescriptor y.desc = some sig → argsL.length = sig.parameters.length)
    (hstack : g.stack = argsL.reverse ++ rest) (hW : 2 * g.monitorRoom + (rest.map fun v => v.category).sum ≤ W9) (hdg : decode c.code g.pc = .ok (.invokestatic index, 3))
    (hpre : ∀ vm₁, s.WarmedH vm₁ → Pre ⟨T.setVm vm₁, locs, cells, slots⟩ argsL.toArray) :
    ∃ (v : Option Value) (vm₁ : Vm) (B : Pt), s.WarmedH vm₁ ∧ Stand p l e R s m args below meth c B.U B.locs B.cells B.slots ∧ Post ⟨T.setVm vm₁, locs, cells, slots⟩ argsL.toArray v B ∧
      ∀ target, Steps p.tables e below (B.U.setTop { g with pc := g.pc + 3, stack := v.toList ++ rest }) target → Steps p.tables e below (T.setTop g) target := by
  obtain ⟨mk, methM, cM, hnamed, hmethM, -, -, -, -, -, -, hsigM⟩ := Cond.codeWith_spec hcode
  have hstatic : methM.isStatic = true := Cond.static_spec hnamed hmethM hstat
  obtain ⟨kP, hkP, -⟩ := className_of_methodNamed hnamed
  have hinitP : kP.init = .initialized := Cond.initialized_spec (findClass_of_methodNamed hnamed) hkP hinit
  obtain ⟨vm₁, X₁, hstep₁⟩ := X.invokestatic hexec hown hlink hnamed hmethM hstatic hkP hinitP hy (g := g) hg (argsL := argsL) (rest := rest) (hlen _ hsigM) hstack hdg
  obtain ⟨v, B, X', hpost, hsteps⟩ := hK m meth c ⟨T.setVm vm₁, locs, cells, slots⟩ { g with stack := rest } (.invokestatic index) mk argsL.toArray X₁ hg hsize hdg hW (X₁.named hnamed) (hpre vm₁ X₁.warmed)
  exact ⟨v, vm₁, B, X₁.warmed, X', hpost, fun target h => hstep₁ _ fun acts => by rw [doInvoke_state]; exact hsteps.trans h⟩
theorem vx_runSW {y : MethodName} {bytes cc : ByteArray} {maxL nL mc ms n index : Nat} {ret : Option FieldType} {hh : List (Nat × Nat × Nat × Nat)} {ws : List Cond} {rm : Room} {Pc : Array Value → State → Prop} {Qc : Array Value → State → Outcome → State → Prop} {free : Addr → Prop} {Ts : List Cond} {own : String} {As rest : List Value} {g : JFrame}
    (S : CallFix p m c cc nL s args Ts own) (hM : Met l y ws rm Pc Qc mc ms free) (cw : vx_CSW R s args own index y bytes maxL ret hh ws rm mc ms n) (hp : PreS s H Pc As)
    (hg : g.method = m) (hn : As.length = n) (hsize : g.locals.size = nL) (hstack : g.stack = As.reverse ++ rest) (hW : 2 * g.monitorRoom + (rest.map fun v => v.category).sum ≤ 8) (hdg : decode cc g.pc = .ok (.invokestatic index, 3)) (hf : cells + mc ≤ R.cells ∧ slots + ms ≤ R.slots) :
    va_Run p l e R s m args below meth c H locs cells slots mc ms g rest (Qc As.toArray) (free) := by
  obtain ⟨⟨hrc, hrs, hfr, hlo, hws, hcw⟩, hcode, hini, hy, hlen, hl, hstt⟩ := cw
  have hK : Back l R p e below s args y 3 8 (PreOf R mc ms Pc) (PostOf Qc mc ms free) := va_backW (hh := hh) (bytes := bytes) (maxL := maxL) (ret := ret) hM hp.1 hrc hrs hfr hlo hws hcw (fun a' U hW => word_at hW (Or.inl (by first | rfl | simp [Cond.onTables, Cond.keeps, Cond.steady])) hini)
  obtain ⟨hx, hb, hml, ho, -⟩ := S
  intro T hT X
  obtain ⟨v, vm₁, ⟨U', l2, c2, s2⟩, hW₁, X', ⟨g', mk, t, L, e1, e2, hq, h1, hL, h2, h3⟩, st⟩ := vx_callSW X hx (hh := hh) (bytes := bytes) (maxL := maxL) (ret := ret) ho hl hstt hini hcode hy hK hg (hsize.trans hml.symm) (argsL := As) (rest := rest) (fun sig h => hn.trans (hlen sig h)) hstack hW (by rw [hb]; exact hdg)
    (fun vm₁ hW₁ => ⟨hf.1, hf.2, hp.2 (T.setVm vm₁) hT hW₁⟩)
  dsimp only [Pt.U, Pt.locs, Pt.cells, Pt.slots] at X' e1 e2 h1 h2 h3 st
  subst h1; subst h2; subst h3
  exact ⟨v, (T.setVm vm₁).calling g' mk As.toArray, t, U', L, hT, X', hL, e1, e2, hq, st⟩
/-- not caught here, past rows that name other classes: it goes on to the caller -/
theorem vx_outP {p : Program} {l : Launch} {e : Env} {R : Room} {s : State} {m : MethodId} {args : Array Value} {below : List Frame} {meth : Method} {c : Code} {H : Heap} {locs : List Loc} {cells slots : Nat} {free : Addr → Prop} {ls : Array Slot} {rest : List Value} {Qc : Array Value → State → Outcome → State → Prop} {XC : String → State → State → Prop}
    {pc : Nat} {own E : String} {ce : Cell} {q : Addr} {mc ms : Nat} (hown : s.vm.findClass own = some m.cls) (hlocks : meth.locks = false)
    (hpass : ∀ z ∈ c.exceptionTable.toList, covers z pc = false ∨ (z.catchType ≠ 0 ∧ ∃ nm : String, (Cond.classLink own z.catchType nm).before args s = true ∧ va_Nc E nm s)) (hcell : H[q]? = some ce) (hv : ce.vm = .none) (hcl : s.vm.findClass E = some ce.cls)
    (hx : ∀ t : State, t.heap = H → s.vm.Alike t.vm → XC E s t) (hf : ∀ z ∈ locs, free z.base) (hc : cells ≤ mc) (hs : slots ≤ ms) :
    vx_W p l e R s m args below meth c H locs cells slots (vx_MQ below Qc XC args s mc ms free) (F0 m pc ls rest) q := by
  intro T hT X
  have hpl : e.platform.magicAccessors = ({} : Platform).magicAccessors := by rw [X.admits.platform]
  obtain ⟨vm', hW', X', st⟩ := X.outThrough hlocks q (g := F0 m pc ls rest) rfl rfl rfl (cell := ce) (by rw [hT]; exact hcell) (by rw [hv]; rfl)
    (by obtain ⟨k9, h9, -⟩ := Vm.findClass_spec hcl; exact ⟨k9, h9⟩) (fun z hz => by
      rcases hpass z hz with h | ⟨hz0, nm, hl1, hn1⟩
      · exact Or.inl h
      · obtain ⟨c6, hc6, hcl6⟩ := Cond.classLink_spec hown hl1 e.platform hpl
        obtain ⟨a8, b8, h1, h2, h3⟩ := hn1
        cases Option.some.inj (h1.symm.trans hcl)
        cases Option.some.inj (h2.symm.trans hc6)
        exact Or.inr ⟨hz0, _, hcl6, h3⟩)
  obtain ⟨g₀, hfr⟩ := X'.frames_eq
  have hcell9 : ((T.setVm vm').setFrames (.throwing q :: below)).heap[q]? = some ce := by
    show T.heap[q]? = some ce
    rw [hT]; exact hcell
  have hend : Ended ((T.setVm vm').setFrames (.throwing q :: below)) below (.threw q) := State.frames_setFrames _ (State.cur_lt_of_frames hfr)
  refine ⟨(T.setVm vm').setFrames (.throwing q :: below), ?_, .threw q, X'.here.running, hend, Or.inr ⟨q, rfl, E, ce, locs, hx _ hT (X'.ends _).1.alike, hcell9, hv, hcl, (X'.ends _).1, (X'.ends _).2.mono hc hs, hf⟩⟩
  rw [X.pushThrowing_eq]
  exact st
/-- a thing of a world lies in the heap -/
theorem vx_lt {D : va_G} {cl : List vw_C} {ws : va_W} {H1 : Heap} (h : va_P D cl ws H1) {k : Nat} {q : Nat × va_E} (hk : ws[k]? = some q) : q.1 < H1.size := (h k q hk).lt
end VXS
/-! ===== END ===== -/
/-! ===== BEGIN methods with a table of their own: called by a name, returning or throwing ===== -/
section VXH
/-! vx_backW, vx_callVX, vx_callSX, vx_callVW, vx_runVW, vx_runVX, vx_runSX, vx_ofWH follow the same proofs as their sisters above (Free/Laws.lean, Shelf42/LK1.lean); vx_outP calls Shelf42/NT130.lean (outThrough). -/
section
variable {l : Launch} {R : Room} {p : Program} {e : Env} {below : List Frame} {s : State} {sargs : Array Value} {y : MethodName} {len W9 : Nat}
theorem vx_backW {ws : List Cond} {rm : Room} {Pc : Array Value → State → Prop} {Qc : Array Value → State → Outcome → State → Prop} {XC : String → State → State → Prop} {mc ms : Nat} {free : Addr → Prop} {bytes : ByteArray} {maxL : Nat} {ret : Option FieldType} {hh : List (Nat × Nat × Nat × Nat)}
    (hM : vx_Met l y ws rm Pc Qc XC mc ms free) (hblind : FrameBlind Pc) (hrc : rm.cells = mc) (hrs : rm.slots = ms)
    (hframes : rm.frames + 1 ≤ R.frames) (hlocals : W9 + (maxL + 11) + rm.locals ≤ R.locals)
    (hws : ∀ w ∈ ws, ∀ a' U, s.WarmedH U.vm → w.before a' U = true) (hcode : Cond.codeWith y bytes maxL ret hh ∈ ws) (hinit : ∀ a' U, s.WarmedH U.vm → (Cond.initialized y.cls).before a' U = true) :
    vx_Back l R p e below s sargs y len W9 (PreOf R mc ms Pc) (PostOf Qc mc ms free) (vx_Post XC mc ms free) := by
  intro m meth c A g ig mk a X hg hsize hdg hW hn hp
  have h1 : (headSpec ws rm).pre.before a A.U = true := atoms_intro fun w hw => hws w hw _ _ X.warmed
  have h2 : (Cond.codeWith y bytes maxL ret hh).before a A.U = true := hws _ hcode _ _ X.warmed
  have h3 : (Cond.initialized y.cls).before a A.U = true := hinit _ _ X.warmed
  have h4 : A.cells + (headSpec ws rm).room.cells ≤ R.cells := by rw [show (headSpec ws rm).room.cells = mc from hrc]; exact hp.1
  have h5 : A.slots + (headSpec ws rm).room.slots ≤ R.slots := by rw [show (headSpec ws rm).room.slots = ms from hrs]; exact hp.2.1
  have hPc : Pc a (A.U.calling g mk a) := hblind _ _ _ _ hp.2.2
  obtain ⟨U, Ls, c0, s0⟩ := A
  dsimp only [Pt.U, Pt.locs, Pt.cells, Pt.slots] at h1 h2 h3 h4 h5 X hn hPc ⊢
  obtain ⟨m9, methY, cY, hn9, hmY, hcY, -, hlY, -⟩ := Cond.codeWith_spec h2
  cases Option.some.inj (hn9.symm.trans hn)
  obtain ⟨kY, hkY, -⟩ := className_of_methodNamed hn
  have hinitY : kY.init = .initialized := Cond.initialized_spec (findClass_of_methodNamed hn) hkY h3
  have h : At U g.method c below := by rw [hg]; exact X.here
  have hlocals9 : W9 + (maxL + 11) + (headSpec ws rm).room.locals ≤ R.locals := hlocals
  have happ : (headSpec ws rm).appliesLoose y e.platform (U.calling g mk a) = true :=
    Spec.appliesLoose_calling (g := g) h hdg hn hkY hinitY
      (X.room_calling (g := g) (R' := (headSpec ws rm).room) hsize hmY hcY hframes (by rw [hlY]; omega) h4 h5) h1
  obtain ⟨mid, hmid⟩ := h.above
  have hfr : (U.setTop g).frames = (.java g :: mid) ++ below := by rw [State.frames_setTop' g h.top, hmid]; rfl
  obtain ⟨o, s₂, hsteps, -, hend, hq⟩ := Steps.callFree hM p X.admits X.cas X.clock (acts := []) hfr happ hPc trivial
  have hq' : vx_Q Qc XC mc ms free a (U.calling g mk a) o s₂ := hq
  rw [State.frames_setTop' g h.top] at hend
  obtain ⟨g₀, hg0⟩ := Option.isSome_iff_exists.mp h.top
  obtain ⟨r, hr⟩ := State.topJava?_eq_some.mp hg0
  have hr' : (({ U with heap := s₂.heap, slotsUsed := s₂.slotsUsed } : State).setVm s₂.vm).frames = .java g₀ :: r := hr
  rcases hq' with ⟨hqc, L, hfe, hL⟩ | ⟨q, rfl, E, ce, L, hx, hce, hcv, hcl, hW₂, hsm, hL⟩
  · obtain ⟨⟨v, rfl⟩, hW₂, e2, q2, q3, q4, q5, q6⟩ := id hfe
    have e3 : s₂ = ({ (U.calling g mk a).setFrames s₂.frames with heap := s₂.heap, slotsUsed := s₂.slotsUsed } : State).setVm s₂.vm := by
      have : s₂ = ({ s₂ with vm := (U.calling g mk a).vm } : State).setVm s₂.vm := rfl
      rw [e2] at this
      exact this
    obtain ⟨c₂, i₂, len₂, hc₂, hd₂, hf₂⟩ := hend
    have hW' : U.WarmedH s₂.vm := hW₂
    have hcc : c₂ = c := by
      have h1 : s₂.code? g.method = U.code? g.method := by
        rw [State.code?_eq, State.code?_eq, hW'.alike.method?]
      exact Option.some.inj (hc₂.symm.trans (h1.trans h.code))
    subst hcc
    have hlen : len₂ = len := by rw [hdg] at hd₂; cases hd₂; rfl
    subst hlen
    have hs₂ : s₂ = (({ U with heap := s₂.heap, slotsUsed := s₂.slotsUsed } : State).setVm s₂.vm).setTop { g with pc := g.pc + len₂, stack := v.toList ++ g.stack } := by
      refine e3.trans ?_
      rw [hf₂, State.calling_eq h.top, State.setFrames_setFrames, State.setTop_of_frames _ hr', hr]
      rfl
    have hsame : U.sameButNew ({ U with heap := s₂.heap, slotsUsed := s₂.slotsUsed } : State) L mc ms := by
      refine ⟨?_, q2, q3, q4, q5, q6⟩
      obtain ⟨t, ht, -⟩ := State.frames_cons hr
      show ({ U with heap := s₂.heap, slotsUsed := s₂.slotsUsed } : State) = { U.setFrames U.frames with heap := s₂.heap, slotsUsed := s₂.slotsUsed }
      rw [State.setFrames_self ht]
    subst hg
    refine Or.inl ⟨v, ⟨(({ U with heap := s₂.heap, slotsUsed := s₂.slotsUsed } : State).setVm s₂.vm), Ls ++ L, c0 + mc, s0 + ms⟩,
      ⟨X.admits, X.cas, X.clock, X.frames, X.room, X.hears, X.method, X.code, (X.here.setHeapUsed s₂.heap s₂.slotsUsed).setVm hW'.alike, X.tail, State.WarmedH.trans X.warmed hW', X.limits, X.bytes, X.same.trans (hsame.setVm s.vm)⟩,
      ⟨g, mk, s₂, L, rfl, rfl, hqc, rfl, hL, rfl, rfl⟩, ?_⟩
    show Steps p.tables e below _ ((({ U with heap := s₂.heap, slotsUsed := s₂.slotsUsed } : State).setVm s₂.vm).setTop { g with pc := g.pc + len₂, stack := v.toList ++ g.stack })
    rw [← hs₂]
    exact hsteps
  · obtain ⟨e2, q2, q3, q4, q5, q6⟩ := id hsm
    have e3 : s₂ = ({ (U.calling g mk a).setFrames s₂.frames with heap := s₂.heap, slotsUsed := s₂.slotsUsed } : State).setVm s₂.vm := by
      have : s₂ = ({ s₂ with vm := (U.calling g mk a).vm } : State).setVm s₂.vm := rfl
      rw [e2] at this
      exact this
    have hf₂ : s₂.frames = .throwing q :: .java g :: U.frames.tail := hend
    have hW' : U.WarmedH s₂.vm := hW₂
    have hs₂ : s₂ = ((({ U with heap := s₂.heap, slotsUsed := s₂.slotsUsed } : State).setVm s₂.vm).setTop g).pushFrame (.throwing q) := by
      refine e3.trans ?_
      rw [hf₂, State.calling_eq h.top, State.setFrames_setFrames, State.pushFrame, State.frames_setTop _ hr', State.setTop_of_frames _ hr', State.setFrames_setFrames, hr]
      rfl
    have hsame : U.sameButNew ({ U with heap := s₂.heap, slotsUsed := s₂.slotsUsed } : State) L mc ms := by
      refine ⟨?_, q2, q3, q4, q5, q6⟩
      obtain ⟨t, ht, -⟩ := State.frames_cons hr
      show ({ U with heap := s₂.heap, slotsUsed := s₂.slotsUsed } : State) = { U.setFrames U.frames with heap := s₂.heap, slotsUsed := s₂.slotsUsed }
      rw [State.setFrames_self ht]
    subst hg
    refine Or.inr ⟨q, ⟨(({ U with heap := s₂.heap, slotsUsed := s₂.slotsUsed } : State).setVm s₂.vm), Ls ++ L, c0 + mc, s0 + ms⟩,
      ⟨X.admits, X.cas, X.clock, X.frames, X.room, X.hears, X.method, X.code, (X.here.setHeapUsed s₂.heap s₂.slotsUsed).setVm hW'.alike, X.tail, State.WarmedH.trans X.warmed hW', X.limits, X.bytes, X.same.trans (hsame.setVm s.vm)⟩,
      ⟨g, mk, s₂, L, E, ce, rfl, rfl, hx, hce, hcv, hcl, rfl, hL, rfl, rfl⟩, ?_⟩
    show Steps p.tables e below _ (((({ U with heap := s₂.heap, slotsUsed := s₂.slotsUsed } : State).setVm s₂.vm).setTop g).pushFrame (.throwing q))
    rw [← hs₂]
    exact hsteps
end
variable {p : Program} {l : Launch} {e : Env} {R : Room} {s : State} {m : MethodId} {args : Array Value} {below : List Frame} {meth : Method} {c : Code} {T : State} {H : Heap} {locs : List Loc} {cells slots : Nat}
theorem vx_callVX (X : Stand p l e R s m args below meth c T locs cells slots) (hexec : p.tables.exec = Jvm.exec) {own C : String} {index : Nat} {y : MethodName} {bytes : ByteArray} {maxL : Nat} {ret : Option FieldType} {hh : List (Nat × Nat × Nat × Nat)}
    (hown : s.vm.findClass own = some m.cls) (hlink : (Cond.methodLink own index y).before args s = true) (hinst : (Cond.instanceMethod y).before args s = true) (hsel : (Cond.selects C y y).before args s = true)
    (hcode : (Cond.codeWith y bytes maxL ret hh).before args s = true) (hy : y.cls ≠ "java/lang/invoke/MethodHandle" ∧ y.cls ≠ "java/lang/invoke/VarHandle")
    {W9 : Nat} {Pre : Pt → Array Value → Prop} {Post : Pt → Array Value → Option Value → Pt → Prop} {PostX : Pt → Array Value → Addr → Pt → Prop} (hK : vx_Back l R p e below s args y 3 W9 Pre Post PostX)
    {b : Addr} {cellB : Cell} (hcell : T.heap[b]? = some cellB) (hobj : cellB.vm.isStatics = false) (hcls : s.vm.findClass C = some cellB.cls)
    {g : JFrame} (hg : g.method = m) (hsize : g.locals.size = c.maxLocals) {argsL rest : List Value} (hlen : ∀ sig, parseMethodDescriptor y.desc = some sig → argsL.length = sig.parameters.length)
    (hstack : g.stack = argsL.reverse ++ .ref b :: rest) (hW : 2 * g.monitorRoom + (rest.map fun v => v.category).sum ≤ W9) (hdg : decode c.code g.pc = .ok (.invokevirtual index, 3))
    (hpre : ∀ vm₁, s.WarmedH vm₁ → Pre ⟨T.setVm vm₁, locs, cells, slots⟩ (Value.ref b :: argsL).toArray) :
    (∃ (v : Option Value) (vm₁ : Vm) (B : Pt), s.WarmedH vm₁ ∧ Stand p l e R s m args below meth c B.U B.locs B.cells B.slots ∧ Post ⟨T.setVm vm₁, locs, cells, slots⟩ (Value.ref b :: argsL).toArray v B ∧
      ∀ target, Steps p.tables e below (B.U.setTop { g with pc := g.pc + 3, stack := v.toList ++ rest }) target → Steps p.tables e below (T.setTop g) target) ∨
    (∃ (q : Addr) (vm₁ : Vm) (B : Pt), s.WarmedH vm₁ ∧ Stand p l e R s m args below meth c B.U B.locs B.cells B.slots ∧ PostX ⟨T.setVm vm₁, locs, cells, slots⟩ (Value.ref b :: argsL).toArray q B ∧
      Steps p.tables e below (T.setTop g) ((B.U.setTop { g with stack := rest }).pushFrame (.throwing q))) := by
  obtain ⟨mk, methM, hnamed, hmethM, hstM, habM⟩ := Cond.instanceMethod_spec hinst
  obtain ⟨m8, methM', cM, hn8, hmethM', -, -, -, -, -, -, hsigM⟩ := Cond.codeWith_spec hcode
  cases Option.some.inj (hn8.symm.trans hnamed)
  cases hmethM.symm.trans hmethM'
  obtain ⟨c2, r2, m2, q1, q2, q3, q4, kP, hkP, hkPi⟩ := Cond.selects_spec hsel
  cases hcls.symm.trans q1
  cases (State.methodFound?_of_named hnamed hy).symm.trans q2
  cases hnamed.symm.trans q3
  have hselP : selectMethod e.platform s.vm cellB.cls mk = .method mk := by rw [Launch.admits_selectMethod X.admits]; exact q4
  obtain ⟨vm₁, X₁, hstep₁⟩ := X.invokevirtual hexec hown hlink hnamed hmethM hstM hkP hkPi hy (a := b) (cell := cellB) hcell
    (fun z h => by rw [h] at hobj; cases hobj) hselP hmethM habM hkP hkPi (g := g) hg (argsL := argsL) (rest := rest) (hlen _ hsigM) hstack hdg
  rcases hK m meth c ⟨T.setVm vm₁, locs, cells, slots⟩ { g with stack := rest } (.invokevirtual index) mk (Value.ref b :: argsL).toArray X₁ hg hsize hdg hW (X₁.named hnamed) (hpre vm₁ X₁.warmed) with ⟨v, B, X', hpost, hsteps⟩ | ⟨q, B, X', hpost, hsteps⟩
  · exact Or.inl ⟨v, vm₁, B, X₁.warmed, X', hpost, fun target h => hstep₁ _ fun acts => by rw [doInvoke_state]; exact hsteps.trans h⟩
  · exact Or.inr ⟨q, vm₁, B, X₁.warmed, X', hpost, hstep₁ _ fun acts => by rw [doInvoke_state]; exact hsteps⟩
theorem vx_callSX (X : Stand p l e R s m args below meth c T locs cells slots) (hexec : p.tables.exec = Jvm.exec) {own : String} {index : Nat} {y : MethodName} {bytes : ByteArray} {maxL : Nat} {ret : Option FieldType} {hh : List (Nat × Nat × Nat × Nat)}
    (hown : s.vm.findClass own = some m.cls) (hlink : (Cond.methodLink own index y).before args s = true) (hstat : (Cond.static y).before args s = true) (hinit : (Cond.initialized y.cls).before args s = true)
    (hcode : (Cond.codeWith y bytes maxL ret hh).before args s = true) (hy : y.cls ≠ "java/lang/invoke/MethodHandle" ∧ y.cls ≠ "java/lang/invoke/VarHandle")
    {W9 : Nat} {Pre : Pt → Array Value → Prop} {Post : Pt → Array Value → Option Value → Pt → Prop} {PostX : Pt → Array Value → Addr → Pt → Prop} (hK : vx_Back l R p e below s args y 3 W9 Pre Post PostX)
    {g : JFrame} (hg : g.method = m) (hsize : g.locals.size = c.maxLocals) {argsL rest : List Value} (hlen : ∀ sig, parseMethodDescriptor y.desc = some sig → argsL.length = sig.parameters.length)
    (hstack : g.stack = argsL.reverse ++ rest) (hW : 2 * g.monitorRoom + (rest.map fun v => v.category).sum ≤ W9) (hdg : decode c.code g.pc = .ok (.invokestatic index, 3))
    (hpre : ∀ vm₁, s.WarmedH vm₁ → Pre ⟨T.setVm vm₁, locs, cells, slots⟩ argsL.toArray) :
    (∃ (v : Option Value) (vm₁ : Vm) (B : Pt), s.WarmedH vm₁ ∧ Stand p l e R s m args below meth c B.U B.locs B.cells B.slots ∧ Post ⟨T.setVm vm₁, locs, cells, slots⟩ argsL.toArray v B ∧
      ∀ target, Steps p.tables e below (B.U.setTop { g with pc := g.pc + 3, stack := v.toList ++ rest }) target → Steps p.tables e below (T.setTop g) target) ∨
    (∃ (q : Addr) (vm₁ : Vm) (B : Pt), s.WarmedH vm₁ ∧ Stand p l e R s m args below meth c B.U B.locs B.cells B.slots ∧ PostX ⟨T.setVm vm₁, locs, cells, slots⟩ argsL.toArray q B ∧
      Steps p.tables e below (T.setTop g) ((B.U.setTop { g with stack := rest }).pushFrame (.throwing q))) := by
  obtain ⟨mk, methM, cM, hnamed, hmethM, -, -, -, -, -, -, hsigM⟩ := Cond.codeWith_spec hcode
  have hstatic : methM.isStatic = true := Cond.static_spec hnamed hmethM hstat
  obtain ⟨kP, hkP, -⟩ := className_of_methodNamed hnamed
  have hinitP : kP.init = .initialized := Cond.initialized_spec (findClass_of_methodNamed hnamed) hkP hinit
  obtain ⟨vm₁, X₁, hstep₁⟩ := X.invokestatic hexec hown hlink hnamed hmethM hstatic hkP hinitP hy (g := g) hg (argsL := argsL) (rest := rest) (hlen _ hsigM) hstack hdg
  rcases hK m meth c ⟨T.setVm vm₁, locs, cells, slots⟩ { g with stack := rest } (.invokestatic index) mk argsL.toArray X₁ hg hsize hdg hW (X₁.named hnamed) (hpre vm₁ X₁.warmed) with ⟨v, B, X', hpost, hsteps⟩ | ⟨q, B, X', hpost, hsteps⟩
  · exact Or.inl ⟨v, vm₁, B, X₁.warmed, X', hpost, fun target h => hstep₁ _ fun acts => by rw [doInvoke_state]; exact hsteps.trans h⟩
  · exact Or.inr ⟨q, vm₁, B, X₁.warmed, X', hpost, hstep₁ _ fun acts => by rw [doInvoke_state]; exact hsteps⟩
theorem vx_callVW (X : Stand p l e R s m args below meth c T locs cells slots) (hexec : p.tables.exec = Jvm.exec) {own C : String} {index : Nat} {y : MethodName} {bytes : ByteArray} {maxL : Nat} {ret : Option FieldType} {hh : List (Nat × Nat × Nat × Nat)}
    (hown : s.vm.findClass own = some m.cls) (hlink : (Cond.methodLink own index y).before args s = true) (hinst : (Cond.instanceMethod y).before args s = true) (hsel : (Cond.selects C y y).before args s = true)
    (hcode : (Cond.codeWith y bytes maxL ret hh).before args s = true) (hy : y.cls ≠ "java/lang/invoke/MethodHandle" ∧ y.cls ≠ "java/lang/invoke/VarHandle")
    {W9 : Nat} {Pre : Pt → Array Value → Prop} {Post : Pt → Array Value → Option Value → Pt → Prop} (hK : Back l R p e below s args y 3 W9 Pre Post)
    {b : Addr} {cellB : Cell} (hcell : T.heap[b]? = some cellB) (hobj : cellB.vm.isStatics = false) (hcls : s.vm.findClass C = some cellB.cls)
    {g : JFrame} (hg : g.method = m) (hsize : g.locals.size = c.maxLocals) {argsL rest : List Value} (hlen : ∀ sig, parseMethodDescriptor y.desc = some sig → argsL.length = sig.parameters.length)
    (hstack : g.stack = argsL.reverse ++ .ref b :: rest) (hW : 2 * g.monitorRoom + (rest.map fun v => v.category).sum ≤ W9) (hdg : decode c.code g.pc = .ok (.invokevirtual index, 3))
    (hpre : ∀ vm₁, s.WarmedH vm₁ → Pre ⟨T.setVm vm₁, locs, cells, slots⟩ (Value.ref b :: argsL).toArray) :
    ∃ (v : Option Value) (vm₁ : Vm) (B : Pt), s.WarmedH vm₁ ∧ Stand p l e R s m args below meth c B.U B.locs B.cells B.slots ∧ Post ⟨T.setVm vm₁, locs, cells, slots⟩ (Value.ref b :: argsL).toArray v B ∧
      ∀ target, Steps p.tables e below (B.U.setTop { g with pc := g.pc + 3, stack := v.toList ++ rest }) target → Steps p.tables e below (T.setTop g) target := by
  obtain ⟨mk, methM, hnamed, hmethM, hstM, habM⟩ := Cond.instanceMethod_spec hinst
  obtain ⟨m8, methM', cM, hn8, hmethM', -, -, -, -, -, -, hsigM⟩ := Cond.codeWith_spec hcode
  cases Option.some.inj (hn8.symm.trans hnamed)
  cases hmethM.symm.trans hmethM'
  obtain ⟨c2, r2, m2, q1, q2, q3, q4, kP, hkP, hkPi⟩ := Cond.selects_spec hsel
  cases hcls.symm.trans q1
  cases (State.methodFound?_of_named hnamed hy).symm.trans q2
  cases hnamed.symm.trans q3
  have hselP : selectMethod e.platform s.vm cellB.cls mk = .method mk := by rw [Launch.admits_selectMethod X.admits]; exact q4
  obtain ⟨vm₁, X₁, hstep₁⟩ := X.invokevirtual hexec hown hlink hnamed hmethM hstM hkP hkPi hy (a := b) (cell := cellB) hcell
    (fun z h => by rw [h] at hobj; cases hobj) hselP hmethM habM hkP hkPi (g := g) hg (argsL := argsL) (rest := rest) (hlen _ hsigM) hstack hdg
  obtain ⟨v, B, X', hpost, hsteps⟩ := hK m meth c ⟨T.setVm vm₁, locs, cells, slots⟩ { g with stack := rest } (.invokevirtual index) mk (Value.ref b :: argsL).toArray X₁ hg hsize hdg hW (X₁.named hnamed) (hpre vm₁ X₁.warmed)
  exact ⟨v, vm₁, B, X₁.warmed, X', hpost, fun target h => hstep₁ _ fun acts => by rw [doInvoke_state]; exact hsteps.trans h⟩
abbrev vx_CVW (R : Room) (s : State) (args : Array Value) (own C : String) (index : Nat) (y : MethodName) (bytes : ByteArray) (maxL : Nat) (ret : Option FieldType) (hh : List (Nat × Nat × Nat × Nat)) (ws : List Cond) (rm : Room) (mc ms n : Nat) : Prop :=
  (rm.cells = mc ∧ rm.slots = ms ∧ rm.frames + 1 ≤ R.frames ∧ 8 + (maxL + 11) + rm.locals ≤ R.locals ∧ (∀ w ∈ ws, ∀ (a' : Array Value) (U : State), s.WarmedH U.vm → w.before a' U = true) ∧ Cond.codeWith y bytes maxL ret hh ∈ ws) ∧
  (Cond.codeWith y bytes maxL ret hh).before args s = true ∧ (Cond.initialized y.cls).before args s = true ∧ (y.cls ≠ "java/lang/invoke/MethodHandle" ∧ y.cls ≠ "java/lang/invoke/VarHandle") ∧
  (∀ sig, parseMethodDescriptor y.desc = some sig → n = sig.parameters.length) ∧ (Cond.methodLink own index y).before args s = true ∧ (Cond.instanceMethod y).before args s = true ∧ (Cond.selects C y y).before args s = true
theorem vx_cwVW {own C : String} {index maxL mc ms : Nat} {y : MethodName} {bytes : ByteArray} {ret : Option FieldType} {hh : List (Nat × Nat × Nat × Nat)} {Ts ws ws' : List Cond} {rm : Room} (n : Nat) (ht : ∀ w ∈ Ts, w.before args s = true) (hT : GoodIn Ts (wsV own index C y ws)) (hw : ws = Cond.codeWith y bytes maxL ret hh :: ws') (hrc : rm.cells = mc) (hrs : rm.slots = ms)
    (hd : y.cls = C ∧ y.cls ≠ "java/lang/invoke/MethodHandle" ∧ y.cls ≠ "java/lang/invoke/VarHandle" ∧ (parseMethodDescriptor y.desc).map (fun d => d.parameters.length) = some n) (hR : rm.frames + 1 ≤ R.frames ∧ 8 + (maxL + 11) + rm.locals ≤ R.locals) :
    vx_CVW R s args own C index y bytes maxL ret hh ws rm mc ms n := by
  obtain ⟨hC, hd⟩ := hd
  subst hC
  have ok : ∀ w ∈ wsV own index y.cls y ws, w.before args s = true := fun w h => ht w (hT w h).1
  have hG : GoodIn Ts ws := fun w h => hT w (by unfold wsV; exact List.mem_append_right _ h)
  have hc : Cond.codeWith y bytes maxL ret hh ∈ ws := by rw [hw]; exact List.mem_cons_self
  refine ⟨⟨hrc, hrs, hR.1, hR.2, pay_in ht hG, hc⟩, ht _ (hG _ hc).1, ok _ (by simp [wsV]), ⟨hd.1, hd.2.1⟩, fun sig h => ?_, ok _ (by simp [wsV]), ok _ (by simp [wsV]), ok _ (by simp [wsV])⟩
  have h2 := hd.2.2
  rw [h] at h2
  exact (Option.some.inj h2).symm
theorem vx_runVW {y : MethodName} {bytes cc : ByteArray} {maxL nL mc ms n index : Nat} {ret : Option FieldType} {hh : List (Nat × Nat × Nat × Nat)} {ws : List Cond} {rm : Room} {Pc : Array Value → State → Prop} {Qc : Array Value → State → Outcome → State → Prop} {free : Addr → Prop} {Ts : List Cond} {own C : String} {b : Addr} {As rest : List Value} {g : JFrame}
    (S : CallFix p m c cc nL s args Ts own) (hM : Met l y ws rm Pc Qc mc ms free) (cw : vx_CVW R s args own C index y bytes maxL ret hh ws rm mc ms n) (hp : PreV s H C b Pc As)
    (hg : g.method = m) (hn : As.length = n) (hsize : g.locals.size = nL) (hstack : g.stack = As.reverse ++ .ref b :: rest) (hW : 2 * g.monitorRoom + (rest.map fun v => v.category).sum ≤ 8) (hdg : decode cc g.pc = .ok (.invokevirtual index, 3)) (hf : cells + mc ≤ R.cells ∧ slots + ms ≤ R.slots) :
    va_Run p l e R s m args below meth c H locs cells slots mc ms g rest (Qc (Value.ref b :: As).toArray) free := by
  obtain ⟨⟨hrc, hrs, hfr, hlo, hws, hcw⟩, hcode, hini, hy, hlen, hl, hin, hse⟩ := cw
  have hK : Back l R p e below s args y 3 8 (PreOf R mc ms Pc) (PostOf Qc mc ms free) := va_backW (hh := hh) (bytes := bytes) (maxL := maxL) (ret := ret) hM hp.1 hrc hrs hfr hlo hws hcw (fun a' U hW => word_at hW (Or.inl (by first | rfl | simp [Cond.onTables, Cond.keeps, Cond.steady])) hini)
  obtain ⟨hx, hb, hml, ho, -⟩ := S
  obtain ⟨-, ⟨cellB, hcB, hoB, hclB⟩, hPc⟩ := hp
  intro T hT X
  obtain ⟨v, vm₁, ⟨U', l2, c2, s2⟩, hW₁, X', ⟨g', mk, t, L, e1, e2, hq, h1, hL, h2, h3⟩, st⟩ := vx_callVW X hx (C := C) (hh := hh) (bytes := bytes) (maxL := maxL) (ret := ret) ho hl hin hse hcode hy hK (by rw [hT]; exact hcB) hoB hclB hg (hsize.trans hml.symm) (argsL := As) (rest := rest) (fun sig h => hn.trans (hlen sig h)) hstack hW (by rw [hb]; exact hdg)
    (fun vm₁ hW₁ => ⟨hf.1, hf.2, hPc (T.setVm vm₁) hT hW₁⟩)
  dsimp only [Pt.U, Pt.locs, Pt.cells, Pt.slots] at X' e1 e2 h1 h2 h3 st
  subst h1; subst h2; subst h3
  exact ⟨v, (T.setVm vm₁).calling g' mk (Value.ref b :: As).toArray, t, U', L, hT, X', hL, e1, e2, hq, st⟩
section
variable {y : MethodName} {bytes cc : ByteArray} {maxL nL mc ms n index : Nat} {ret : Option FieldType} {ws : List Cond} {rm : Room} {Pc : Array Value → State → Prop} {Qc : Array Value → State → Outcome → State → Prop} {XC : String → State → State → Prop} {free : Addr → Prop} {Ts : List Cond} {own C : String} {b : Addr} {As rest : List Value} {g : JFrame}
theorem vx_runVX {hh : List (Nat × Nat × Nat × Nat)} (S : CallFix p m c cc nL s args Ts own) (hM : vx_Met l y ws rm Pc Qc XC mc ms free) (cw : vx_CVW R s args own C index y bytes maxL ret hh ws rm mc ms n) (hp : PreV s H C b Pc As)
    (hg : g.method = m) (hn : As.length = n) (hsize : g.locals.size = nL) (hstack : g.stack = As.reverse ++ .ref b :: rest) (hW : 2 * g.monitorRoom + (rest.map fun v => v.category).sum ≤ 8) (hdg : decode cc g.pc = .ok (.invokevirtual index, 3)) (hf : cells + mc ≤ R.cells ∧ slots + ms ≤ R.slots) :
    vx_Run p l e R s m args below meth c H locs cells slots mc ms g rest (Qc (Value.ref b :: As).toArray) XC free := by
  obtain ⟨⟨hrc, hrs, hfr, hlo, hws, hcw⟩, hcode, hini, hy, hlen, hl, hin, hse⟩ := cw
  have hK : vx_Back l R p e below s args y 3 8 (PreOf R mc ms Pc) (PostOf Qc mc ms free) (vx_Post XC mc ms free) := vx_backW (hh := hh) (bytes := bytes) (maxL := maxL) (ret := ret) hM hp.1 hrc hrs hfr hlo hws hcw (fun a' U hW => word_at hW (Or.inl (by first | rfl | simp [Cond.onTables, Cond.keeps, Cond.steady])) hini)
  obtain ⟨hx, hb, hml, ho, -⟩ := S
  obtain ⟨-, ⟨cellB, hcB, hoB, hclB⟩, hPc⟩ := hp
  intro T hT X
  rcases vx_callVX X hx (C := C) (hh := hh) (bytes := bytes) (maxL := maxL) (ret := ret) ho hl hin hse hcode hy hK (by rw [hT]; exact hcB) hoB hclB hg (hsize.trans hml.symm) (argsL := As) (rest := rest) (fun sig h => hn.trans (hlen sig h)) hstack hW (by rw [hb]; exact hdg)
    (fun vm₁ hW₁ => ⟨hf.1, hf.2, hPc (T.setVm vm₁) hT hW₁⟩) with ⟨v, vm₁, ⟨U', l2, c2, s2⟩, hW₁, X', ⟨g', mk, t, L, e1, e2, hq, h1, hL, h2, h3⟩, st⟩ | ⟨q, vm₁, ⟨U', l2, c2, s2⟩, hW₁, X', ⟨g', mk, t, L, E, ce, e1, e2, hq, hce, hcv, hcl, h1, hL, h2, h3⟩, st⟩
  · dsimp only [Pt.U, Pt.locs, Pt.cells, Pt.slots] at X' e1 e2 h1 h2 h3 st
    subst h1; subst h2; subst h3
    exact Or.inl ⟨v, (T.setVm vm₁).calling g' mk (Value.ref b :: As).toArray, t, U', L, hT, X', hL, e1, e2, hq, st⟩
  · dsimp only [Pt.U, Pt.locs, Pt.cells, Pt.slots] at X' e1 e2 h1 h2 h3 st hcl
    subst h1; subst h2; subst h3
    exact Or.inr ⟨q, (T.setVm vm₁).calling g' mk (Value.ref b :: As).toArray, t, U', L, E, ce, hT, X', hL, e1, e2, hq, hce, hcv, vx_cls hW₁ hcl, st⟩
theorem vx_runSX {hh : List (Nat × Nat × Nat × Nat)} (S : CallFix p m c cc nL s args Ts own) (hM : vx_Met l y ws rm Pc Qc XC mc ms free) (cw : vx_CSW R s args own index y bytes maxL ret hh ws rm mc ms n) (hp : PreS s H Pc As)
    (hg : g.method = m) (hn : As.length = n) (hsize : g.locals.size = nL) (hstack : g.stack = As.reverse ++ rest) (hW : 2 * g.monitorRoom + (rest.map fun v => v.category).sum ≤ 8) (hdg : decode cc g.pc = .ok (.invokestatic index, 3)) (hf : cells + mc ≤ R.cells ∧ slots + ms ≤ R.slots) :
    vx_Run p l e R s m args below meth c H locs cells slots mc ms g rest (Qc As.toArray) XC free := by
  obtain ⟨⟨hrc, hrs, hfr, hlo, hws, hcw⟩, hcode, hini, hy, hlen, hl, hstt⟩ := cw
  have hK : vx_Back l R p e below s args y 3 8 (PreOf R mc ms Pc) (PostOf Qc mc ms free) (vx_Post XC mc ms free) := vx_backW (hh := hh) (bytes := bytes) (maxL := maxL) (ret := ret) hM hp.1 hrc hrs hfr hlo hws hcw (fun a' U hW => word_at hW (Or.inl (by first | rfl | simp [Cond.onTables, Cond.keeps, Cond.steady])) hini)
  obtain ⟨hx, hb, hml, ho, -⟩ := S
  intro T hT X
  rcases vx_callSX X hx (hh := hh) (bytes := bytes) (maxL := maxL) (ret := ret) ho hl hstt hini hcode hy hK hg (hsize.trans hml.symm) (argsL := As) (rest := rest) (fun sig h => hn.trans (hlen sig h)) hstack hW (by rw [hb]; exact hdg)
    (fun vm₁ hW₁ => ⟨hf.1, hf.2, hp.2 (T.setVm vm₁) hT hW₁⟩) with ⟨v, vm₁, ⟨U', l2, c2, s2⟩, hW₁, X', ⟨g', mk, t, L, e1, e2, hq, h1, hL, h2, h3⟩, st⟩ | ⟨q, vm₁, ⟨U', l2, c2, s2⟩, hW₁, X', ⟨g', mk, t, L, E, ce, e1, e2, hq, hce, hcv, hcl, h1, hL, h2, h3⟩, st⟩
  · dsimp only [Pt.U, Pt.locs, Pt.cells, Pt.slots] at X' e1 e2 h1 h2 h3 st
    subst h1; subst h2; subst h3
    exact Or.inl ⟨v, (T.setVm vm₁).calling g' mk As.toArray, t, U', L, hT, X', hL, e1, e2, hq, st⟩
  · dsimp only [Pt.U, Pt.locs, Pt.cells, Pt.slots] at X' e1 e2 h1 h2 h3 st hcl
    subst h1; subst h2; subst h3
    exact Or.inr ⟨q, (T.setVm vm₁).calling g' mk As.toArray, t, U', L, E, ce, hT, X', hL, e1, e2, hq, hce, hcv, vx_cls hW₁ hcl, st⟩
end
end VXH
theorem vx_ofWH {l : Launch} {y : MethodName} {ws ws' : List Cond} {rm : Room} {Pc : Array Value → State → Prop} {Qc : Array Value → State → Outcome → State → Prop} {XC : String → State → State → Prop} {mc ms : Nat} {free : Addr → Prop} {cc : ByteArray} {maxL : Nat} {ret : Option FieldType} {hh : List (Nat × Nat × Nat × Nat)}
    (hy : plainName y.cls = true) (hw : ws = Cond.codeWith y cc maxL ret hh :: ws')
    (body : ∀ p e s m args below meth c s₁, BodyLoose p l y (headSpec ws rm) cc maxL ret e s m args below meth c s₁ → c.maxLocals = maxL → Pc args s →
      W p l e (headSpec ws rm).room s m args below meth c s.heap [] 0 0 (vx_MQ below Qc XC args s mc ms free) (entryFrame m args maxL)) : vx_Met l y ws rm Pc Qc XC mc ms free := by
  refine MetFree.of_bodyS (code := cc) (maxLocals := maxL) (ret := ret) hy ?_ ?_
  · intro args s m h hn
    obtain ⟨m9, meth, c, hn9, h1, h2, h3, h4, -, h5, h6, -⟩ := Cond.codeWith_spec (atoms_spec (ws := ws) h _ (by rw [hw]; exact List.mem_cons_self))
    cases hn.symm.trans hn9
    exact ⟨meth, c, h1, h2, h3, h4, h5, h6⟩
  · intro p e s m args below meth c s₁ B hml hP _
    have hh0 : s₁.heap = s.heap := by rw [B.state]; rfl
    obtain ⟨t, a1, o, b1, b2, b3⟩ := body p e s m args below meth c s₁ B hml hP s₁ hh0 (Stand.of_body B)
    exact ⟨t, o, a1, b1, b2, b3⟩
/-! ===== END ===== -/

/-! ===== BEGIN printed: names, fields, word lists, decode rows ===== -/
def RX0 : String := "SubstituteDesk$Chains"
def TX0 : u_T := fun k => match k with
  | 0 => ("SubstituteDesk$Chains", "school", "LSubstituteDesk$School;", true)
  | 1 => ("SubstituteDesk$Chains", "plan", "LSubstituteDesk$Plan;", true)
  | 2 => ("SubstituteDesk$Chains", "successors", "LSubstituteDesk$Row;", true)
  | 3 => ("SubstituteDesk$Chains", "reached", "LSubstituteDesk$Row;", true)
  | 4 => ("SubstituteDesk$Chains", "useful", "LSubstituteDesk$Row;", true)
  | 5 => ("SubstituteDesk$Chains", "members", "LSubstituteDesk$Row;", true)
  | _ => ("SubstituteDesk$Chains", "length", "I", false)
def tyX0 : Nat → FieldType := fun k => match k with
  | 0 => .object "SubstituteDesk$School"
  | 1 => .object "SubstituteDesk$Plan"
  | 2 => .object "SubstituteDesk$Row"
  | 3 => .object "SubstituteDesk$Row"
  | 4 => .object "SubstituteDesk$Row"
  | 5 => .object "SubstituteDesk$Row"
  | _ => .int
abbrev wsX00 : List Cond := u_ws RX0 TX0 7
theorem nmX0 : ∀ a, a < 7 → ∀ b, b < 7 → a ≠ b → (TX0 a).2.1 ≠ (TX0 b).2.1 := by decide +kernel
theorem tyX0_ok : ∀ k, k < 7 → parseFieldDescriptor (TX0 k).2.2.1 = some (tyX0 k) := by decide +kernel
abbrev cX0_init : ByteArray := prog_2_method_1_code
def yX0_init : MethodName := ⟨RX0, "<init>", "(LSubstituteDesk$School;LSubstituteDesk$Plan;)V"⟩
abbrev cX0_find : ByteArray := prog_2_method_2_code
def yX0_find : MethodName := ⟨RX0, "find", "(I)I"⟩
abbrev cX0_presentAt : ByteArray := prog_2_method_3_code
def yX0_presentAt : MethodName := ⟨RX0, "presentAt", "(I)I"⟩
abbrev cX0_busyAt : ByteArray := prog_2_method_4_code
def yX0_busyAt : MethodName := ⟨RX0, "busyAt", "(II)I"⟩
abbrev cX0_successorsOf : ByteArray := prog_2_method_5_code
def yX0_successorsOf : MethodName := ⟨RX0, "successorsOf", "(I)I"⟩
abbrev cX0_leastLoaded : ByteArray := prog_2_method_6_code
def yX0_leastLoaded : MethodName := ⟨RX0, "leastLoaded", "(I)I"⟩
abbrev cX0_choose : ByteArray := prog_2_method_7_code
def yX0_choose : MethodName := ⟨RX0, "choose", "(I)V"⟩
abbrev cX0_thoseBefore : ByteArray := prog_2_method_8_code
def yX0_thoseBefore : MethodName := ⟨RX0, "thoseBefore", "(II)I"⟩
abbrev cX0_lowest : ByteArray := prog_2_method_9_code
def yX0_lowest : MethodName := ⟨RX0, "lowest", "(I)I"⟩
def RX1 : String := "SubstituteDesk$History"
def TX1 : u_T := fun k => match k with
  | 0 => ("SubstituteDesk$History", "plan", "LSubstituteDesk$Plan;", true)
  | 1 => ("SubstituteDesk$History", "cells", "LSubstituteDesk$Row;", true)
  | 2 => ("SubstituteDesk$History", "oldest", "I", false)
  | _ => ("SubstituteDesk$History", "depth", "I", false)
def tyX1 : Nat → FieldType := fun k => match k with
  | 0 => .object "SubstituteDesk$Plan"
  | 1 => .object "SubstituteDesk$Row"
  | 2 => .int
  | _ => .int
abbrev wsX10 : List Cond := u_ws RX1 TX1 4
theorem nmX1 : ∀ a, a < 4 → ∀ b, b < 4 → a ≠ b → (TX1 a).2.1 ≠ (TX1 b).2.1 := by decide +kernel
theorem tyX1_ok : ∀ k, k < 4 → parseFieldDescriptor (TX1 k).2.2.1 = some (tyX1 k) := by decide +kernel
abbrev cX1_init : ByteArray := prog_3_method_1_code
def yX1_init : MethodName := ⟨RX1, "<init>", "(LSubstituteDesk$Plan;)V"⟩
abbrev cX1_forget : ByteArray := prog_3_method_2_code
def yX1_forget : MethodName := ⟨RX1, "forget", "()V"⟩
abbrev cX1_mark : ByteArray := prog_3_method_3_code
def yX1_mark : MethodName := ⟨RX1, "mark", "()V"⟩
abbrev cX1_keepMarked : ByteArray := prog_3_method_4_code
def yX1_keepMarked : MethodName := ⟨RX1, "keepMarked", "()V"⟩
abbrev cX1_restoreMarked : ByteArray := prog_3_method_5_code
def yX1_restoreMarked : MethodName := ⟨RX1, "restoreMarked", "()V"⟩
abbrev cX1_restoreLatest : ByteArray := prog_3_method_6_code
def yX1_restoreLatest : MethodName := ⟨RX1, "restoreLatest", "()V"⟩
abbrev cX1_baseOf : ByteArray := prog_3_method_7_code
def yX1_baseOf : MethodName := ⟨RX1, "baseOf", "(I)I"⟩
def RX2 : String := "SubstituteDesk$Mender"
def TX2 : u_T := fun k => match k with
  | 0 => ("SubstituteDesk$Mender", "school", "LSubstituteDesk$School;", true)
  | 1 => ("SubstituteDesk$Mender", "plan", "LSubstituteDesk$Plan;", true)
  | 2 => ("SubstituteDesk$Mender", "reasons", "LSubstituteDesk$Reasons;", true)
  | _ => ("SubstituteDesk$Mender", "chains", "LSubstituteDesk$Chains;", true)
def tyX2 : Nat → FieldType := fun k => match k with
  | 0 => .object "SubstituteDesk$School"
  | 1 => .object "SubstituteDesk$Plan"
  | 2 => .object "SubstituteDesk$Reasons"
  | _ => .object "SubstituteDesk$Chains"
abbrev wsX20 : List Cond := u_ws RX2 TX2 4
theorem nmX2 : ∀ a, a < 4 → ∀ b, b < 4 → a ≠ b → (TX2 a).2.1 ≠ (TX2 b).2.1 := by decide +kernel
theorem tyX2_ok : ∀ k, k < 4 → parseFieldDescriptor (TX2 k).2.2.1 = some (tyX2 k) := by decide +kernel
abbrev cX2_init : ByteArray := prog_4_method_1_code
def yX2_init : MethodName := ⟨RX2, "<init>", "(LSubstituteDesk$School;LSubstituteDesk$Plan;LSubstituteDesk$Reasons;LSubstituteDesk$Chains;)V"⟩
abbrev cX2_perform : ByteArray := prog_4_method_2_code
def yX2_perform : MethodName := ⟨RX2, "perform", "(III)Z"⟩
abbrev cX2_letBeAbsent : ByteArray := prog_4_method_3_code
def yX2_letBeAbsent : MethodName := ⟨RX2, "letBeAbsent", "(IIZ)I"⟩
abbrev cX2_letCover : ByteArray := prog_4_method_4_code
def yX2_letCover : MethodName := ⟨RX2, "letCover", "(II)Z"⟩
abbrev cX2_letSupervise : ByteArray := prog_4_method_5_code
def yX2_letSupervise : MethodName := ⟨RX2, "letSupervise", "(II)Z"⟩
abbrev cX2_repairByChain : ByteArray := prog_4_method_6_code
def yX2_repairByChain : MethodName := ⟨RX2, "repairByChain", "(I)Z"⟩
abbrev cX2_repairOpenLessons : ByteArray := prog_4_method_7_code
def yX2_repairOpenLessons : MethodName := ⟨RX2, "repairOpenLessons", "()I"⟩
abbrev cX2_swapSlots : ByteArray := prog_4_method_8_code
def yX2_swapSlots : MethodName := ⟨RX2, "swapSlots", "(II)Z"⟩
abbrev cX2_moveToSlot : ByteArray := prog_4_method_9_code
def yX2_moveToSlot : MethodName := ⟨RX2, "moveToSlot", "(II)Z"⟩
abbrev cX2_moveToRoom : ByteArray := prog_4_method_10_code
def yX2_moveToRoom : MethodName := ⟨RX2, "moveToRoom", "(II)Z"⟩
abbrev cX2_openAgain : ByteArray := prog_4_method_11_code
def yX2_openAgain : MethodName := ⟨RX2, "openAgain", "(I)Z"⟩
def RX3 : String := "SubstituteDesk$Plan"
def TX3 : u_T := fun k => match k with
  | 0 => ("SubstituteDesk$Plan", "school", "LSubstituteDesk$School;", true)
  | 1 => ("SubstituteDesk$Plan", "slots", "LSubstituteDesk$Row;", true)
  | 2 => ("SubstituteDesk$Plan", "teachers", "LSubstituteDesk$Row;", true)
  | 3 => ("SubstituteDesk$Plan", "rooms", "LSubstituteDesk$Row;", true)
  | 4 => ("SubstituteDesk$Plan", "supervised", "LSubstituteDesk$Row;", true)
  | _ => ("SubstituteDesk$Plan", "absences", "LSubstituteDesk$Row;", true)
def tyX3 : Nat → FieldType := fun k => match k with
  | 0 => .object "SubstituteDesk$School"
  | 1 => .object "SubstituteDesk$Row"
  | 2 => .object "SubstituteDesk$Row"
  | 3 => .object "SubstituteDesk$Row"
  | 4 => .object "SubstituteDesk$Row"
  | _ => .object "SubstituteDesk$Row"
abbrev wsX30 : List Cond := u_ws RX3 TX3 6
theorem nmX3 : ∀ a, a < 6 → ∀ b, b < 6 → a ≠ b → (TX3 a).2.1 ≠ (TX3 b).2.1 := by decide +kernel
theorem tyX3_ok : ∀ k, k < 6 → parseFieldDescriptor (TX3 k).2.2.1 = some (tyX3 k) := by decide +kernel
abbrev cX3_init : ByteArray := prog_5_method_1_code
def yX3_init : MethodName := ⟨RX3, "<init>", "(LSubstituteDesk$School;)V"⟩
abbrev cX3_begin : ByteArray := prog_5_method_2_code
def yX3_begin : MethodName := ⟨RX3, "begin", "()V"⟩
abbrev cX3_returnToFirst : ByteArray := prog_5_method_3_code
def yX3_returnToFirst : MethodName := ⟨RX3, "returnToFirst", "()V"⟩
abbrev cX3_letTeach : ByteArray := prog_5_method_4_code
def yX3_letTeach : MethodName := ⟨RX3, "letTeach", "(II)V"⟩
abbrev cX3_letWatch : ByteArray := prog_5_method_5_code
def yX3_letWatch : MethodName := ⟨RX3, "letWatch", "(II)V"⟩
abbrev cX3_makeOpen : ByteArray := prog_5_method_6_code
def yX3_makeOpen : MethodName := ⟨RX3, "makeOpen", "(I)V"⟩
abbrev cX3_isOpen : ByteArray := prog_5_method_7_code
def yX3_isOpen : MethodName := ⟨RX3, "isOpen", "(I)Z"⟩
abbrev cX3_isSupervised : ByteArray := prog_5_method_8_code
def yX3_isSupervised : MethodName := ⟨RX3, "isSupervised", "(I)Z"⟩
abbrev cX3_isTaught : ByteArray := prog_5_method_9_code
def yX3_isTaught : MethodName := ⟨RX3, "isTaught", "(I)Z"⟩
abbrev cX3_isAway : ByteArray := prog_5_method_10_code
def yX3_isAway : MethodName := ⟨RX3, "isAway", "(II)Z"⟩
abbrev cX3_isAwayAt : ByteArray := prog_5_method_11_code
def yX3_isAwayAt : MethodName := ⟨RX3, "isAwayAt", "(II)Z"⟩
abbrev cX3_differs : ByteArray := prog_5_method_12_code
def yX3_differs : MethodName := ⟨RX3, "differs", "(I)Z"⟩
abbrev cX3_lessonAt : ByteArray := prog_5_method_13_code
def yX3_lessonAt : MethodName := ⟨RX3, "lessonAt", "(ILSubstituteDesk$Row;I)I"⟩
abbrev cX3_windowsOf : ByteArray := prog_5_method_14_code
def yX3_windowsOf : MethodName := ⟨RX3, "windowsOf", "(LSubstituteDesk$Row;II)I"⟩
abbrev cX3_taughtBy : ByteArray := prog_5_method_15_code
def yX3_taughtBy : MethodName := ⟨RX3, "taughtBy", "(I)I"⟩
abbrev cX3_loadOf : ByteArray := prog_5_method_16_code
def yX3_loadOf : MethodName := ⟨RX3, "loadOf", "(I)I"⟩
abbrev cX3_dutiesOf : ByteArray := prog_5_method_17_code
def yX3_dutiesOf : MethodName := ⟨RX3, "dutiesOf", "(I)I"⟩
abbrev cX3_dutiesOn : ByteArray := prog_5_method_18_code
def yX3_dutiesOn : MethodName := ⟨RX3, "dutiesOn", "(II)I"⟩
abbrev cX3_openLessons : ByteArray := prog_5_method_19_code
def yX3_openLessons : MethodName := ⟨RX3, "openLessons", "()I"⟩
abbrev cX3_supervisedLessons : ByteArray := prog_5_method_20_code
def yX3_supervisedLessons : MethodName := ⟨RX3, "supervisedLessons", "()I"⟩
abbrev cX3_taughtLessons : ByteArray := prog_5_method_21_code
def yX3_taughtLessons : MethodName := ⟨RX3, "taughtLessons", "()I"⟩
abbrev cX3_differingLessons : ByteArray := prog_5_method_22_code
def yX3_differingLessons : MethodName := ⟨RX3, "differingLessons", "()I"⟩
def RX4 : String := "SubstituteDesk$Reasons"
def TX4 : u_T := fun k => match k with
  | 0 => ("SubstituteDesk$Reasons", "school", "LSubstituteDesk$School;", true)
  | _ => ("SubstituteDesk$Reasons", "plan", "LSubstituteDesk$Plan;", true)
def tyX4 : Nat → FieldType := fun k => match k with
  | 0 => .object "SubstituteDesk$School"
  | _ => .object "SubstituteDesk$Plan"
abbrev wsX40 : List Cond := u_ws RX4 TX4 2
theorem nmX4 : ∀ a, a < 2 → ∀ b, b < 2 → a ≠ b → (TX4 a).2.1 ≠ (TX4 b).2.1 := by decide +kernel
theorem tyX4_ok : ∀ k, k < 2 → parseFieldDescriptor (TX4 k).2.2.1 = some (tyX4 k) := by decide +kernel
abbrev cX4_init : ByteArray := prog_6_method_1_code
def yX4_init : MethodName := ⟨RX4, "<init>", "(LSubstituteDesk$School;LSubstituteDesk$Plan;)V"⟩
abbrev cX4_againstCover : ByteArray := prog_6_method_2_code
def yX4_againstCover : MethodName := ⟨RX4, "againstCover", "(II)I"⟩
abbrev cX4_againstSupervision : ByteArray := prog_6_method_3_code
def yX4_againstSupervision : MethodName := ⟨RX4, "againstSupervision", "(II)I"⟩
abbrev cX4_againstExchange : ByteArray := prog_6_method_4_code
def yX4_againstExchange : MethodName := ⟨RX4, "againstExchange", "(II)I"⟩
abbrev cX4_againstMove : ByteArray := prog_6_method_5_code
def yX4_againstMove : MethodName := ⟨RX4, "againstMove", "(II)I"⟩
abbrev cX4_againstRoom : ByteArray := prog_6_method_6_code
def yX4_againstRoom : MethodName := ⟨RX4, "againstRoom", "(II)I"⟩
abbrev cX4_isBusy : ByteArray := prog_6_method_7_code
def yX4_isBusy : MethodName := ⟨RX4, "isBusy", "(II)Z"⟩
abbrev cX4_isTeacherAwayAt : ByteArray := prog_6_method_8_code
def yX4_isTeacherAwayAt : MethodName := ⟨RX4, "isTeacherAwayAt", "(II)Z"⟩
abbrev cX4_isHeldByThird : ByteArray := prog_6_method_9_code
def yX4_isHeldByThird : MethodName := ⟨RX4, "isHeldByThird", "(LSubstituteDesk$Row;II)Z"⟩
def RX5 : String := "SubstituteDesk$Report"
def TX5 : u_T := fun k => match k with
  | 0 => ("SubstituteDesk$Report", "school", "LSubstituteDesk$School;", true)
  | 1 => ("SubstituteDesk$Report", "plan", "LSubstituteDesk$Plan;", true)
  | 2 => ("SubstituteDesk$Report", "bytes", "LSubstituteDesk$Row;", true)
  | _ => ("SubstituteDesk$Report", "length", "I", false)
def tyX5 : Nat → FieldType := fun k => match k with
  | 0 => .object "SubstituteDesk$School"
  | 1 => .object "SubstituteDesk$Plan"
  | 2 => .object "SubstituteDesk$Row"
  | _ => .int
abbrev wsX50 : List Cond := u_ws RX5 TX5 4
theorem nmX5 : ∀ a, a < 4 → ∀ b, b < 4 → a ≠ b → (TX5 a).2.1 ≠ (TX5 b).2.1 := by decide +kernel
theorem tyX5_ok : ∀ k, k < 4 → parseFieldDescriptor (TX5 k).2.2.1 = some (tyX5 k) := by decide +kernel
abbrev cX5_init : ByteArray := prog_7_method_1_code
def yX5_init : MethodName := ⟨RX5, "<init>", "(LSubstituteDesk$School;LSubstituteDesk$Plan;)V"⟩
abbrev cX5_write : ByteArray := prog_7_method_2_code
def yX5_write : MethodName := ⟨RX5, "write", "(I)V"⟩
abbrev cX5_writeLesson : ByteArray := prog_7_method_3_code
def yX5_writeLesson : MethodName := ⟨RX5, "writeLesson", "(I)V"⟩
abbrev cX5_append : ByteArray := prog_7_method_4_code
def yX5_append : MethodName := ⟨RX5, "append", "(I)V"⟩
def RX6 : String := "SubstituteDesk$Row"
def TX6 : u_T := fun k => match k with
  | _ => ("SubstituteDesk$Row", "cells", "[I", true)
def tyX6 : Nat → FieldType := fun k => match k with
  | _ => .array .int
abbrev wsX60 : List Cond := u_ws RX6 TX6 1
theorem nmX6 : ∀ a, a < 1 → ∀ b, b < 1 → a ≠ b → (TX6 a).2.1 ≠ (TX6 b).2.1 := by decide +kernel
theorem tyX6_ok : ∀ k, k < 1 → parseFieldDescriptor (TX6 k).2.2.1 = some (tyX6 k) := by decide +kernel
abbrev cX6_init : ByteArray := prog_8_method_1_code
def yX6_init : MethodName := ⟨RX6, "<init>", "(I)V"⟩
abbrev cX6_at : ByteArray := prog_8_method_2_code
def yX6_at : MethodName := ⟨RX6, "at", "(I)I"⟩
abbrev cX6_put : ByteArray := prog_8_method_3_code
def yX6_put : MethodName := ⟨RX6, "put", "(II)V"⟩
abbrev cX6_become : ByteArray := prog_8_method_4_code
def yX6_become : MethodName := ⟨RX6, "become", "(LSubstituteDesk$Row;)V"⟩
def RX7 : String := "SubstituteDesk$School"
def TX7 : u_T := fun k => match k with
  | 0 => ("SubstituteDesk$School", "days", "I", false)
  | 1 => ("SubstituteDesk$School", "periods", "I", false)
  | 2 => ("SubstituteDesk$School", "subjects", "I", false)
  | 3 => ("SubstituteDesk$School", "teachers", "I", false)
  | 4 => ("SubstituteDesk$School", "rooms", "I", false)
  | 5 => ("SubstituteDesk$School", "classes", "I", false)
  | 6 => ("SubstituteDesk$School", "lessons", "I", false)
  | 7 => ("SubstituteDesk$School", "subjectKind", "LSubstituteDesk$Row;", true)
  | 8 => ("SubstituteDesk$School", "teacherMost", "LSubstituteDesk$Row;", true)
  | 9 => ("SubstituteDesk$School", "teacherSubjects", "LSubstituteDesk$Row;", true)
  | 10 => ("SubstituteDesk$School", "roomKind", "LSubstituteDesk$Row;", true)
  | 11 => ("SubstituteDesk$School", "lessonClass", "LSubstituteDesk$Row;", true)
  | 12 => ("SubstituteDesk$School", "lessonSubject", "LSubstituteDesk$Row;", true)
  | 13 => ("SubstituteDesk$School", "firstSlot", "LSubstituteDesk$Row;", true)
  | 14 => ("SubstituteDesk$School", "firstTeacher", "LSubstituteDesk$Row;", true)
  | _ => ("SubstituteDesk$School", "firstRoom", "LSubstituteDesk$Row;", true)
def tyX7 : Nat → FieldType := fun k => match k with
  | 0 => .int
  | 1 => .int
  | 2 => .int
  | 3 => .int
  | 4 => .int
  | 5 => .int
  | 6 => .int
  | 7 => .object "SubstituteDesk$Row"
  | 8 => .object "SubstituteDesk$Row"
  | 9 => .object "SubstituteDesk$Row"
  | 10 => .object "SubstituteDesk$Row"
  | 11 => .object "SubstituteDesk$Row"
  | 12 => .object "SubstituteDesk$Row"
  | 13 => .object "SubstituteDesk$Row"
  | 14 => .object "SubstituteDesk$Row"
  | _ => .object "SubstituteDesk$Row"
abbrev wsX70 : List Cond := u_ws RX7 TX7 16
theorem nmX7 : ∀ a, a < 16 → ∀ b, b < 16 → a ≠ b → (TX7 a).2.1 ≠ (TX7 b).2.1 := by decide +kernel
theorem tyX7_ok : ∀ k, k < 16 → parseFieldDescriptor (TX7 k).2.2.1 = some (tyX7 k) := by decide +kernel
abbrev cX7_init : ByteArray := prog_9_method_1_code
def yX7_init : MethodName := ⟨RX7, "<init>", "()V"⟩
abbrev cX7_becomeEmpty : ByteArray := prog_9_method_2_code
def yX7_becomeEmpty : MethodName := ⟨RX7, "becomeEmpty", "()V"⟩
abbrev cX7_becomeSample : ByteArray := prog_9_method_3_code
def yX7_becomeSample : MethodName := ⟨RX7, "becomeSample", "()V"⟩
abbrev cX7_become : ByteArray := prog_9_method_4_code
def yX7_become : MethodName := ⟨RX7, "become", "(LSubstituteDesk$School;)V"⟩
abbrev cX7_addSubject : ByteArray := prog_9_method_5_code
def yX7_addSubject : MethodName := ⟨RX7, "addSubject", "(I)V"⟩
abbrev cX7_addTeacher : ByteArray := prog_9_method_6_code
def yX7_addTeacher : MethodName := ⟨RX7, "addTeacher", "(II)V"⟩
abbrev cX7_addRoom : ByteArray := prog_9_method_7_code
def yX7_addRoom : MethodName := ⟨RX7, "addRoom", "(I)V"⟩
abbrev cX7_addLesson : ByteArray := prog_9_method_8_code
def yX7_addLesson : MethodName := ⟨RX7, "addLesson", "(IIIII)V"⟩
abbrev cX7_slots : ByteArray := prog_9_method_9_code
def yX7_slots : MethodName := ⟨RX7, "slots", "()I"⟩
abbrev cX7_dayOf : ByteArray := prog_9_method_10_code
def yX7_dayOf : MethodName := ⟨RX7, "dayOf", "(I)I"⟩
abbrev cX7_hasLesson : ByteArray := prog_9_method_11_code
def yX7_hasLesson : MethodName := ⟨RX7, "hasLesson", "(I)Z"⟩
abbrev cX7_hasTeacher : ByteArray := prog_9_method_12_code
def yX7_hasTeacher : MethodName := ⟨RX7, "hasTeacher", "(I)Z"⟩
abbrev cX7_hasDay : ByteArray := prog_9_method_13_code
def yX7_hasDay : MethodName := ⟨RX7, "hasDay", "(I)Z"⟩
abbrev cX7_hasSlot : ByteArray := prog_9_method_14_code
def yX7_hasSlot : MethodName := ⟨RX7, "hasSlot", "(I)Z"⟩
abbrev cX7_hasRoom : ByteArray := prog_9_method_15_code
def yX7_hasRoom : MethodName := ⟨RX7, "hasRoom", "(I)Z"⟩
abbrev cX7_isQualified : ByteArray := prog_9_method_16_code
def yX7_isQualified : MethodName := ⟨RX7, "isQualified", "(II)Z"⟩
abbrev cX7_qualifiedFor : ByteArray := prog_9_method_17_code
def yX7_qualifiedFor : MethodName := ⟨RX7, "qualifiedFor", "(I)I"⟩
abbrev cX7_lessonsWith : ByteArray := prog_9_method_18_code
def yX7_lessonsWith : MethodName := ⟨RX7, "lessonsWith", "(LSubstituteDesk$Row;I)I"⟩
abbrev cX7_isTakenAtFirst : ByteArray := prog_9_method_19_code
def yX7_isTakenAtFirst : MethodName := ⟨RX7, "isTakenAtFirst", "(ILSubstituteDesk$Row;I)Z"⟩
def RX8 : String := "SubstituteDesk$SchoolText"
def TX8 : u_T := fun k => match k with
  | 0 => ("SubstituteDesk$SchoolText", "words", "LSubstituteDesk$Words;", true)
  | _ => ("SubstituteDesk$SchoolText", "draft", "LSubstituteDesk$School;", true)
def tyX8 : Nat → FieldType := fun k => match k with
  | 0 => .object "SubstituteDesk$Words"
  | _ => .object "SubstituteDesk$School"
abbrev wsX80 : List Cond := u_ws RX8 TX8 2
theorem nmX8 : ∀ a, a < 2 → ∀ b, b < 2 → a ≠ b → (TX8 a).2.1 ≠ (TX8 b).2.1 := by decide +kernel
theorem tyX8_ok : ∀ k, k < 2 → parseFieldDescriptor (TX8 k).2.2.1 = some (tyX8 k) := by decide +kernel
abbrev cX8_init : ByteArray := prog_10_method_1_code
def yX8_init : MethodName := ⟨RX8, "<init>", "(LSubstituteDesk$Words;)V"⟩
abbrev cX8_read : ByteArray := prog_10_method_2_code
def yX8_read : MethodName := ⟨RX8, "read", "()Z"⟩
abbrev cX8_readGrid : ByteArray := prog_10_method_3_code
def yX8_readGrid : MethodName := ⟨RX8, "readGrid", "()Z"⟩
abbrev cX8_readSubjects : ByteArray := prog_10_method_4_code
def yX8_readSubjects : MethodName := ⟨RX8, "readSubjects", "()Z"⟩
abbrev cX8_readTeachers : ByteArray := prog_10_method_5_code
def yX8_readTeachers : MethodName := ⟨RX8, "readTeachers", "()Z"⟩
abbrev cX8_readTeacher : ByteArray := prog_10_method_6_code
def yX8_readTeacher : MethodName := ⟨RX8, "readTeacher", "()Z"⟩
abbrev cX8_readRooms : ByteArray := prog_10_method_7_code
def yX8_readRooms : MethodName := ⟨RX8, "readRooms", "()Z"⟩
abbrev cX8_readClasses : ByteArray := prog_10_method_8_code
def yX8_readClasses : MethodName := ⟨RX8, "readClasses", "()Z"⟩
abbrev cX8_readLessons : ByteArray := prog_10_method_9_code
def yX8_readLessons : MethodName := ⟨RX8, "readLessons", "()Z"⟩
abbrev cX8_readLesson : ByteArray := prog_10_method_10_code
def yX8_readLesson : MethodName := ⟨RX8, "readLesson", "()Z"⟩
abbrev cX8_checkUntaken : ByteArray := prog_10_method_11_code
def yX8_checkUntaken : MethodName := ⟨RX8, "checkUntaken", "(ILSubstituteDesk$Row;I)Z"⟩
abbrev cX8_checkNumber : ByteArray := prog_10_method_12_code
def yX8_checkNumber : MethodName := ⟨RX8, "checkNumber", "(II)Z"⟩
abbrev cX8_takeNumber : ByteArray := prog_10_method_13_code
def yX8_takeNumber : MethodName := ⟨RX8, "takeNumber", "()I"⟩
abbrev cX8_takeWord : ByteArray := prog_10_method_14_code
def yX8_takeWord : MethodName := ⟨RX8, "takeWord", "(Ljava/lang/String;)Z"⟩
abbrev cX8_takeSemicolon : ByteArray := prog_10_method_15_code
def yX8_takeSemicolon : MethodName := ⟨RX8, "takeSemicolon", "()Z"⟩
abbrev cX8_fail : ByteArray := prog_10_method_16_code
def yX8_fail : MethodName := ⟨RX8, "fail", "(I)Z"⟩
def RX9 : String := "SubstituteDesk$ScriptText"
def TX9 : u_T := fun k => match k with
  | 0 => ("SubstituteDesk$ScriptText", "words", "LSubstituteDesk$Words;", true)
  | 1 => ("SubstituteDesk$ScriptText", "step", "I", false)
  | 2 => ("SubstituteDesk$ScriptText", "start", "I", false)
  | 3 => ("SubstituteDesk$ScriptText", "first", "I", false)
  | _ => ("SubstituteDesk$ScriptText", "second", "I", false)
def tyX9 : Nat → FieldType := fun k => match k with
  | 0 => .object "SubstituteDesk$Words"
  | 1 => .int
  | 2 => .int
  | 3 => .int
  | _ => .int
abbrev wsX90 : List Cond := u_ws RX9 TX9 5
theorem nmX9 : ∀ a, a < 5 → ∀ b, b < 5 → a ≠ b → (TX9 a).2.1 ≠ (TX9 b).2.1 := by decide +kernel
theorem tyX9_ok : ∀ k, k < 5 → parseFieldDescriptor (TX9 k).2.2.1 = some (tyX9 k) := by decide +kernel
abbrev cX9_init : ByteArray := prog_11_method_1_code
def yX9_init : MethodName := ⟨RX9, "<init>", "(LSubstituteDesk$Words;)V"⟩
abbrev cX9_readStep : ByteArray := prog_11_method_2_code
def yX9_readStep : MethodName := ⟨RX9, "readStep", "()Z"⟩
abbrev cX9_findStep : ByteArray := prog_11_method_3_code
def yX9_findStep : MethodName := ⟨RX9, "findStep", "()I"⟩
abbrev cX9_numbersOf : ByteArray := prog_11_method_4_code
def yX9_numbersOf : MethodName := ⟨RX9, "numbersOf", "(I)I"⟩
abbrev cX9_wordOf : ByteArray := prog_11_method_5_code
def yX9_wordOf : MethodName := ⟨RX9, "wordOf", "(I)Ljava/lang/String;"⟩
def RX10 : String := "SubstituteDesk$Words"
def TX10 : u_T := fun k => match k with
  | 0 => ("SubstituteDesk$Words", "text", "LSubstituteDesk$Row;", true)
  | 1 => ("SubstituteDesk$Words", "length", "I", false)
  | 2 => ("SubstituteDesk$Words", "kind", "I", false)
  | 3 => ("SubstituteDesk$Words", "start", "I", false)
  | 4 => ("SubstituteDesk$Words", "end", "I", false)
  | 5 => ("SubstituteDesk$Words", "value", "I", false)
  | 6 => ("SubstituteDesk$Words", "failure", "I", false)
  | _ => ("SubstituteDesk$Words", "failedAt", "I", false)
def tyX10 : Nat → FieldType := fun k => match k with
  | 0 => .object "SubstituteDesk$Row"
  | 1 => .int
  | 2 => .int
  | 3 => .int
  | 4 => .int
  | 5 => .int
  | 6 => .int
  | _ => .int
abbrev wsX100 : List Cond := u_ws RX10 TX10 8
theorem nmX10 : ∀ a, a < 8 → ∀ b, b < 8 → a ≠ b → (TX10 a).2.1 ≠ (TX10 b).2.1 := by decide +kernel
theorem tyX10_ok : ∀ k, k < 8 → parseFieldDescriptor (TX10 k).2.2.1 = some (tyX10 k) := by decide +kernel
abbrev cX10_init : ByteArray := prog_12_method_1_code
def yX10_init : MethodName := ⟨RX10, "<init>", "()V"⟩
abbrev cX10_append : ByteArray := prog_12_method_2_code
def yX10_append : MethodName := ⟨RX10, "append", "(I)V"⟩
abbrev cX10_begin : ByteArray := prog_12_method_3_code
def yX10_begin : MethodName := ⟨RX10, "begin", "()V"⟩
abbrev cX10_next : ByteArray := prog_12_method_4_code
def yX10_next : MethodName := ⟨RX10, "next", "()V"⟩
abbrev cX10_isWord : ByteArray := prog_12_method_5_code
def yX10_isWord : MethodName := ⟨RX10, "isWord", "(Ljava/lang/String;)Z"⟩
abbrev cX10_fail : ByteArray := prog_12_method_6_code
def yX10_fail : MethodName := ⟨RX10, "fail", "(II)Z"⟩
abbrev cX10_afterBlanks : ByteArray := prog_12_method_7_code
def yX10_afterBlanks : MethodName := ⟨RX10, "afterBlanks", "(I)I"⟩
abbrev cX10_afterLetters : ByteArray := prog_12_method_8_code
def yX10_afterLetters : MethodName := ⟨RX10, "afterLetters", "(I)I"⟩
abbrev cX10_afterDigits : ByteArray := prog_12_method_9_code
def yX10_afterDigits : MethodName := ⟨RX10, "afterDigits", "(I)I"⟩
abbrev cX10_isLetter : ByteArray := prog_12_method_10_code
def yX10_isLetter : MethodName := ⟨RX10, "isLetter", "(I)Z"⟩
abbrev cX10_isDigit : ByteArray := prog_12_method_11_code
def yX10_isDigit : MethodName := ⟨RX10, "isDigit", "(I)Z"⟩
def RX11 : String := "SubstituteDesk"
def TX11 : u_T := fun k => match k with
  | 0 => ("SubstituteDesk", "school", "LSubstituteDesk$School;", true)
  | 1 => ("SubstituteDesk", "plan", "LSubstituteDesk$Plan;", true)
  | 2 => ("SubstituteDesk", "reasons", "LSubstituteDesk$Reasons;", true)
  | 3 => ("SubstituteDesk", "chains", "LSubstituteDesk$Chains;", true)
  | 4 => ("SubstituteDesk", "mender", "LSubstituteDesk$Mender;", true)
  | 5 => ("SubstituteDesk", "history", "LSubstituteDesk$History;", true)
  | 6 => ("SubstituteDesk", "words", "LSubstituteDesk$Words;", true)
  | 7 => ("SubstituteDesk", "schoolText", "LSubstituteDesk$SchoolText;", true)
  | 8 => ("SubstituteDesk", "scriptText", "LSubstituteDesk$ScriptText;", true)
  | _ => ("SubstituteDesk", "report", "LSubstituteDesk$Report;", true)
def tyX11 : Nat → FieldType := fun k => match k with
  | 0 => .object "SubstituteDesk$School"
  | 1 => .object "SubstituteDesk$Plan"
  | 2 => .object "SubstituteDesk$Reasons"
  | 3 => .object "SubstituteDesk$Chains"
  | 4 => .object "SubstituteDesk$Mender"
  | 5 => .object "SubstituteDesk$History"
  | 6 => .object "SubstituteDesk$Words"
  | 7 => .object "SubstituteDesk$SchoolText"
  | 8 => .object "SubstituteDesk$ScriptText"
  | _ => .object "SubstituteDesk$Report"
abbrev wsX110 : List Cond := u_ws RX11 TX11 10
theorem nmX11 : ∀ a, a < 10 → ∀ b, b < 10 → a ≠ b → (TX11 a).2.1 ≠ (TX11 b).2.1 := by decide +kernel
theorem tyX11_ok : ∀ k, k < 10 → parseFieldDescriptor (TX11 k).2.2.1 = some (tyX11 k) := by decide +kernel
abbrev cX11_init : ByteArray := prog_1_method_1_code
def yX11_init : MethodName := ⟨RX11, "<init>", "()V"⟩
abbrev cX11_appendText : ByteArray := prog_1_method_2_code
def yX11_appendText : MethodName := ⟨RX11, "appendText", "(IIIII)I"⟩
abbrev cX11_truncateText : ByteArray := prog_1_method_3_code
def yX11_truncateText : MethodName := ⟨RX11, "truncateText", "(I)I"⟩
abbrev cX11_parseSchool : ByteArray := prog_1_method_4_code
def yX11_parseSchool : MethodName := ⟨RX11, "parseSchool", "()I"⟩
abbrev cX11_runScript : ByteArray := prog_1_method_5_code
def yX11_runScript : MethodName := ⟨RX11, "runScript", "()I"⟩
abbrev cX11_errorCode : ByteArray := prog_1_method_6_code
def yX11_errorCode : MethodName := ⟨RX11, "errorCode", "()I"⟩
abbrev cX11_errorPosition : ByteArray := prog_1_method_7_code
def yX11_errorPosition : MethodName := ⟨RX11, "errorPosition", "()I"⟩
abbrev cX11_setAbsent : ByteArray := prog_1_method_8_code
def yX11_setAbsent : MethodName := ⟨RX11, "setAbsent", "(IIZ)I"⟩
abbrev cX11_cover : ByteArray := prog_1_method_9_code
def yX11_cover : MethodName := ⟨RX11, "cover", "(II)I"⟩
abbrev cX11_supervise : ByteArray := prog_1_method_10_code
def yX11_supervise : MethodName := ⟨RX11, "supervise", "(II)I"⟩
abbrev cX11_repair : ByteArray := prog_1_method_11_code
def yX11_repair : MethodName := ⟨RX11, "repair", "(I)I"⟩
abbrev cX11_repairAll : ByteArray := prog_1_method_12_code
def yX11_repairAll : MethodName := ⟨RX11, "repairAll", "()I"⟩
abbrev cX11_exchange : ByteArray := prog_1_method_13_code
def yX11_exchange : MethodName := ⟨RX11, "exchange", "(II)I"⟩
abbrev cX11_move : ByteArray := prog_1_method_14_code
def yX11_move : MethodName := ⟨RX11, "move", "(II)I"⟩
abbrev cX11_setRoom : ByteArray := prog_1_method_15_code
def yX11_setRoom : MethodName := ⟨RX11, "setRoom", "(II)I"⟩
abbrev cX11_reopen : ByteArray := prog_1_method_16_code
def yX11_reopen : MethodName := ⟨RX11, "reopen", "(I)I"⟩
abbrev cX11_reset : ByteArray := prog_1_method_17_code
def yX11_reset : MethodName := ⟨RX11, "reset", "()I"⟩
abbrev cX11_whyNotCover : ByteArray := prog_1_method_18_code
def yX11_whyNotCover : MethodName := ⟨RX11, "whyNotCover", "(II)I"⟩
abbrev cX11_whyNotSupervise : ByteArray := prog_1_method_19_code
def yX11_whyNotSupervise : MethodName := ⟨RX11, "whyNotSupervise", "(II)I"⟩
abbrev cX11_whyNotExchange : ByteArray := prog_1_method_20_code
def yX11_whyNotExchange : MethodName := ⟨RX11, "whyNotExchange", "(II)I"⟩
abbrev cX11_whyNotMove : ByteArray := prog_1_method_21_code
def yX11_whyNotMove : MethodName := ⟨RX11, "whyNotMove", "(II)I"⟩
abbrev cX11_whyNotRoom : ByteArray := prog_1_method_22_code
def yX11_whyNotRoom : MethodName := ⟨RX11, "whyNotRoom", "(II)I"⟩
abbrev cX11_candidates : ByteArray := prog_1_method_23_code
def yX11_candidates : MethodName := ⟨RX11, "candidates", "(I)I"⟩
abbrev cX11_chain : ByteArray := prog_1_method_24_code
def yX11_chain : MethodName := ⟨RX11, "chain", "(I)I"⟩
abbrev cX11_chainTeacher : ByteArray := prog_1_method_25_code
def yX11_chainTeacher : MethodName := ⟨RX11, "chainTeacher", "(II)I"⟩
abbrev cX11_partners : ByteArray := prog_1_method_26_code
def yX11_partners : MethodName := ⟨RX11, "partners", "(I)I"⟩
abbrev cX11_firstPartner : ByteArray := prog_1_method_27_code
def yX11_firstPartner : MethodName := ⟨RX11, "firstPartner", "(I)I"⟩
abbrev cX11_slotsFor : ByteArray := prog_1_method_28_code
def yX11_slotsFor : MethodName := ⟨RX11, "slotsFor", "(I)I"⟩
abbrev cX11_count : ByteArray := prog_1_method_29_code
def yX11_count : MethodName := ⟨RX11, "count", "(I)I"⟩
abbrev cX11_lesson : ByteArray := prog_1_method_30_code
def yX11_lesson : MethodName := ⟨RX11, "lesson", "(II)I"⟩
abbrev cX11_teacher : ByteArray := prog_1_method_31_code
def yX11_teacher : MethodName := ⟨RX11, "teacher", "(II)I"⟩
abbrev cX11_room : ByteArray := prog_1_method_32_code
def yX11_room : MethodName := ⟨RX11, "room", "(II)I"⟩
abbrev cX11_subject : ByteArray := prog_1_method_33_code
def yX11_subject : MethodName := ⟨RX11, "subject", "(II)I"⟩
abbrev cX11_lessonOfClass : ByteArray := prog_1_method_34_code
def yX11_lessonOfClass : MethodName := ⟨RX11, "lessonOfClass", "(II)I"⟩
abbrev cX11_lessonOfTeacher : ByteArray := prog_1_method_35_code
def yX11_lessonOfTeacher : MethodName := ⟨RX11, "lessonOfTeacher", "(II)I"⟩
abbrev cX11_lessonInRoom : ByteArray := prog_1_method_36_code
def yX11_lessonInRoom : MethodName := ⟨RX11, "lessonInRoom", "(II)I"⟩
abbrev cX11_freeTeachers : ByteArray := prog_1_method_37_code
def yX11_freeTeachers : MethodName := ⟨RX11, "freeTeachers", "(I)I"⟩
abbrev cX11_freeRooms : ByteArray := prog_1_method_38_code
def yX11_freeRooms : MethodName := ⟨RX11, "freeRooms", "(II)I"⟩
abbrev cX11_openLesson : ByteArray := prog_1_method_39_code
def yX11_openLesson : MethodName := ⟨RX11, "openLesson", "(I)I"⟩
abbrev cX11_difference : ByteArray := prog_1_method_40_code
def yX11_difference : MethodName := ⟨RX11, "difference", "(I)I"⟩
abbrev cX11_windows : ByteArray := prog_1_method_41_code
def yX11_windows : MethodName := ⟨RX11, "windows", "(II)I"⟩
abbrev cX11_classWindows : ByteArray := prog_1_method_42_code
def yX11_classWindows : MethodName := ⟨RX11, "classWindows", "(II)I"⟩
abbrev cX11_spread : ByteArray := prog_1_method_43_code
def yX11_spread : MethodName := ⟨RX11, "spread", "()I"⟩
abbrev cX11_taughtShare : ByteArray := prog_1_method_44_code
def yX11_taughtShare : MethodName := ⟨RX11, "taughtShare", "()D"⟩
abbrev cX11_writeReport : ByteArray := prog_1_method_45_code
def yX11_writeReport : MethodName := ⟨RX11, "writeReport", "(I)I"⟩
abbrev cX11_reportByte : ByteArray := prog_1_method_46_code
def yX11_reportByte : MethodName := ⟨RX11, "reportByte", "(I)I"⟩
abbrev cX11_undo : ByteArray := prog_1_method_47_code
def yX11_undo : MethodName := ⟨RX11, "undo", "()I"⟩
abbrev cX11_undoDepth : ByteArray := prog_1_method_48_code
def yX11_undoDepth : MethodName := ⟨RX11, "undoDepth", "()I"⟩
abbrev cX11_requireLesson : ByteArray := prog_1_method_49_code
def yX11_requireLesson : MethodName := ⟨RX11, "requireLesson", "(I)V"⟩
abbrev cX11_requireTeacher : ByteArray := prog_1_method_50_code
def yX11_requireTeacher : MethodName := ⟨RX11, "requireTeacher", "(I)V"⟩
abbrev cX11_requireDay : ByteArray := prog_1_method_51_code
def yX11_requireDay : MethodName := ⟨RX11, "requireDay", "(I)V"⟩
abbrev cX11_requireSlot : ByteArray := prog_1_method_52_code
def yX11_requireSlot : MethodName := ⟨RX11, "requireSlot", "(I)V"⟩
abbrev cX11_requireRoom : ByteArray := prog_1_method_53_code
def yX11_requireRoom : MethodName := ⟨RX11, "requireRoom", "(I)V"⟩
abbrev cX11_requireClass : ByteArray := prog_1_method_54_code
def yX11_requireClass : MethodName := ⟨RX11, "requireClass", "(I)V"⟩
abbrev cX11_keepUnlessRefused : ByteArray := prog_1_method_55_code
def yX11_keepUnlessRefused : MethodName := ⟨RX11, "keepUnlessRefused", "(Z)V"⟩
abbrev cX11_hasBit : ByteArray := prog_1_method_56_code
def yX11_hasBit : MethodName := ⟨RX11, "hasBit", "(II)Z"⟩
def RX12 : String := "SubstituteDeskModel"
def TX12 : u_T := fun k => match k with
  | 0 => ("SubstituteDeskModel", "h", "[I", true)
  | 1 => ("SubstituteDeskModel", "fresh", "[I", true)
  | 2 => ("SubstituteDeskModel", "w", "[I", true)
  | 3 => ("SubstituteDeskModel", "aside", "[I", true)
  | 4 => ("SubstituteDeskModel", "past", "[I", true)
  | 5 => ("SubstituteDeskModel", "pastCount", "I", false)
  | 6 => ("SubstituteDeskModel", "thrown", "I", false)
  | 7 => ("SubstituteDeskModel", "way", "[I", true)
  | 8 => ("SubstituteDeskModel", "best", "[I", true)
  | 9 => ("SubstituteDeskModel", "bestLength", "I", false)
  | 10 => ("SubstituteDeskModel", "bestLoad", "I", false)
  | 11 => ("SubstituteDeskModel", "text", "[B", true)
  | 12 => ("SubstituteDeskModel", "length", "I", false)
  | 13 => ("SubstituteDeskModel", "from", "I", false)
  | 14 => ("SubstituteDeskModel", "to", "I", false)
  | 15 => ("SubstituteDeskModel", "end", "I", false)
  | 16 => ("SubstituteDeskModel", "fault", "I", false)
  | 17 => ("SubstituteDeskModel", "faultAt", "I", false)
  | 18 => ("SubstituteDeskModel", "page", "[B", true)
  | _ => ("SubstituteDeskModel", "pageLength", "I", false)
def tyX12 : Nat → FieldType := fun k => match k with
  | 0 => .array .int
  | 1 => .array .int
  | 2 => .array .int
  | 3 => .array .int
  | 4 => .array .int
  | 5 => .int
  | 6 => .int
  | 7 => .array .int
  | 8 => .array .int
  | 9 => .int
  | 10 => .int
  | 11 => .array .byte
  | 12 => .int
  | 13 => .int
  | 14 => .int
  | 15 => .int
  | 16 => .int
  | 17 => .int
  | 18 => .array .byte
  | _ => .int
abbrev wsX120 : List Cond := u_ws RX12 TX12 20
theorem nmX12 : ∀ a, a < 20 → ∀ b, b < 20 → a ≠ b → (TX12 a).2.1 ≠ (TX12 b).2.1 := by decide +kernel
theorem tyX12_ok : ∀ k, k < 20 → parseFieldDescriptor (TX12 k).2.2.1 = some (tyX12 k) := by decide +kernel
abbrev cX12_init : ByteArray := prog_14_method_1_code
def yX12_init : MethodName := ⟨RX12, "<init>", "()V"⟩
abbrev cX12_thrown : ByteArray := prog_14_method_2_code
def yX12_thrown : MethodName := ⟨RX12, "thrown", "()I"⟩
abbrev cX12_in : ByteArray := prog_14_method_3_code
def yX12_in : MethodName := ⟨RX12, "in", "(JJJ)Z"⟩
abbrev cX12_has : ByteArray := prog_14_method_4_code
def yX12_has : MethodName := ⟨RX12, "has", "(II)Z"⟩
abbrev cX12_no : ByteArray := prog_14_method_5_code
def yX12_no : MethodName := ⟨RX12, "no", "(I)I"⟩
abbrev cX12_fails : ByteArray := prog_14_method_6_code
def yX12_fails : MethodName := ⟨RX12, "fails", "(ZI)Z"⟩
abbrev cX12_isLesson : ByteArray := prog_14_method_7_code
def yX12_isLesson : MethodName := ⟨RX12, "isLesson", "(I)Z"⟩
abbrev cX12_isTeacher : ByteArray := prog_14_method_8_code
def yX12_isTeacher : MethodName := ⟨RX12, "isTeacher", "(I)Z"⟩
abbrev cX12_isRoom : ByteArray := prog_14_method_9_code
def yX12_isRoom : MethodName := ⟨RX12, "isRoom", "(I)Z"⟩
abbrev cX12_isClass : ByteArray := prog_14_method_10_code
def yX12_isClass : MethodName := ⟨RX12, "isClass", "(I)Z"⟩
abbrev cX12_isDay : ByteArray := prog_14_method_11_code
def yX12_isDay : MethodName := ⟨RX12, "isDay", "(I)Z"⟩
abbrev cX12_slots : ByteArray := prog_14_method_12_code
def yX12_slots : MethodName := ⟨RX12, "slots", "()I"⟩
abbrev cX12_isSlot : ByteArray := prog_14_method_13_code
def yX12_isSlot : MethodName := ⟨RX12, "isSlot", "(I)Z"⟩
abbrev cX12_dayOf : ByteArray := prog_14_method_14_code
def yX12_dayOf : MethodName := ⟨RX12, "dayOf", "(I)I"⟩
abbrev cX12_beginAnew : ByteArray := prog_14_method_15_code
def yX12_beginAnew : MethodName := ⟨RX12, "beginAnew", "()V"⟩
abbrev cX12_firstly : ByteArray := prog_14_method_16_code
def yX12_firstly : MethodName := ⟨RX12, "firstly", "(I)V"⟩
abbrev cX12_copyRow : ByteArray := prog_14_method_17_code
def yX12_copyRow : MethodName := ⟨RX12, "copyRow", "([I[I)V"⟩
abbrev cX12_push : ByteArray := prog_14_method_18_code
def yX12_push : MethodName := ⟨RX12, "push", "()V"⟩
abbrev cX12_remember : ByteArray := prog_14_method_19_code
def yX12_remember : MethodName := ⟨RX12, "remember", "()V"⟩
abbrev cX12_undo : ByteArray := prog_14_method_20_code
def yX12_undo : MethodName := ⟨RX12, "undo", "()I"⟩
abbrev cX12_undoDepth : ByteArray := prog_14_method_21_code
def yX12_undoDepth : MethodName := ⟨RX12, "undoDepth", "()I"⟩
abbrev cX12_isOpen : ByteArray := prog_14_method_22_code
def yX12_isOpen : MethodName := ⟨RX12, "isOpen", "(I)Z"⟩
abbrev cX12_isTaught : ByteArray := prog_14_method_23_code
def yX12_isTaught : MethodName := ⟨RX12, "isTaught", "(I)Z"⟩
abbrev cX12_lessonWith : ByteArray := prog_14_method_24_code
def yX12_lessonWith : MethodName := ⟨RX12, "lessonWith", "(IIIII)I"⟩
abbrev cX12_ofTeacher : ByteArray := prog_14_method_25_code
def yX12_ofTeacher : MethodName := ⟨RX12, "ofTeacher", "(II)I"⟩
abbrev cX12_ofClass : ByteArray := prog_14_method_26_code
def yX12_ofClass : MethodName := ⟨RX12, "ofClass", "(II)I"⟩
abbrev cX12_taughtBy : ByteArray := prog_14_method_27_code
def yX12_taughtBy : MethodName := ⟨RX12, "taughtBy", "(I)I"⟩
abbrev cX12_firstBy : ByteArray := prog_14_method_28_code
def yX12_firstBy : MethodName := ⟨RX12, "firstBy", "(I)I"⟩
abbrev cX12_loadOf : ByteArray := prog_14_method_29_code
def yX12_loadOf : MethodName := ⟨RX12, "loadOf", "(I)I"⟩
abbrev cX12_dutiesOf : ByteArray := prog_14_method_30_code
def yX12_dutiesOf : MethodName := ⟨RX12, "dutiesOf", "(II)I"⟩
abbrev cX12_isAbsent : ByteArray := prog_14_method_31_code
def yX12_isAbsent : MethodName := ⟨RX12, "isAbsent", "(II)Z"⟩
abbrev cX12_isQualified : ByteArray := prog_14_method_32_code
def yX12_isQualified : MethodName := ⟨RX12, "isQualified", "(II)Z"⟩
abbrev cX12_differs : ByteArray := prog_14_method_33_code
def yX12_differs : MethodName := ⟨RX12, "differs", "(I)Z"⟩
abbrev cX12_differences : ByteArray := prog_14_method_34_code
def yX12_differences : MethodName := ⟨RX12, "differences", "()I"⟩
abbrev cX12_reasonToCover : ByteArray := prog_14_method_35_code
def yX12_reasonToCover : MethodName := ⟨RX12, "reasonToCover", "(II)I"⟩
abbrev cX12_reasonToWatch : ByteArray := prog_14_method_36_code
def yX12_reasonToWatch : MethodName := ⟨RX12, "reasonToWatch", "(II)I"⟩
abbrev cX12_isElsewhere : ByteArray := prog_14_method_37_code
def yX12_isElsewhere : MethodName := ⟨RX12, "isElsewhere", "(III)Z"⟩
abbrev cX12_reasonToExchange : ByteArray := prog_14_method_38_code
def yX12_reasonToExchange : MethodName := ⟨RX12, "reasonToExchange", "(II)I"⟩
abbrev cX12_reasonToMove : ByteArray := prog_14_method_39_code
def yX12_reasonToMove : MethodName := ⟨RX12, "reasonToMove", "(II)I"⟩
abbrev cX12_reasonForRoom : ByteArray := prog_14_method_40_code
def yX12_reasonForRoom : MethodName := ⟨RX12, "reasonForRoom", "(II)I"⟩
abbrev cX12_isOnWay : ByteArray := prog_14_method_41_code
def yX12_isOnWay : MethodName := ⟨RX12, "isOnWay", "(II)Z"⟩
abbrev cX12_goes : ByteArray := prog_14_method_42_code
def yX12_goes : MethodName := ⟨RX12, "goes", "(IIII)V"⟩
abbrev cX12_findChain : ByteArray := prog_14_method_43_code
def yX12_findChain : MethodName := ⟨RX12, "findChain", "(I)I"⟩
abbrev cX12_chains : ByteArray := prog_14_method_44_code
def yX12_chains : MethodName := ⟨RX12, "chains", "(I)V"⟩
abbrev cX12_opens : ByteArray := prog_14_method_45_code
def yX12_opens : MethodName := ⟨RX12, "opens", "(I)V"⟩
abbrev cX12_absents : ByteArray := prog_14_method_46_code
def yX12_absents : MethodName := ⟨RX12, "absents", "(IIZ)I"⟩
abbrev cX12_gives : ByteArray := prog_14_method_47_code
def yX12_gives : MethodName := ⟨RX12, "gives", "(III)V"⟩
abbrev cX12_repairsAll : ByteArray := prog_14_method_48_code
def yX12_repairsAll : MethodName := ⟨RX12, "repairsAll", "()I"⟩
abbrev cX12_swaps : ByteArray := prog_14_method_49_code
def yX12_swaps : MethodName := ⟨RX12, "swaps", "(II)V"⟩
abbrev cX12_setAbsent : ByteArray := prog_14_method_50_code
def yX12_setAbsent : MethodName := ⟨RX12, "setAbsent", "(IIZ)I"⟩
abbrev cX12_cover : ByteArray := prog_14_method_51_code
def yX12_cover : MethodName := ⟨RX12, "cover", "(II)I"⟩
abbrev cX12_supervise : ByteArray := prog_14_method_52_code
def yX12_supervise : MethodName := ⟨RX12, "supervise", "(II)I"⟩
abbrev cX12_repair : ByteArray := prog_14_method_53_code
def yX12_repair : MethodName := ⟨RX12, "repair", "(I)I"⟩
abbrev cX12_repairAll : ByteArray := prog_14_method_54_code
def yX12_repairAll : MethodName := ⟨RX12, "repairAll", "()I"⟩
abbrev cX12_exchange : ByteArray := prog_14_method_55_code
def yX12_exchange : MethodName := ⟨RX12, "exchange", "(II)I"⟩
abbrev cX12_move : ByteArray := prog_14_method_56_code
def yX12_move : MethodName := ⟨RX12, "move", "(II)I"⟩
abbrev cX12_setRoom : ByteArray := prog_14_method_57_code
def yX12_setRoom : MethodName := ⟨RX12, "setRoom", "(II)I"⟩
abbrev cX12_reopen : ByteArray := prog_14_method_58_code
def yX12_reopen : MethodName := ⟨RX12, "reopen", "(I)I"⟩
abbrev cX12_reset : ByteArray := prog_14_method_59_code
def yX12_reset : MethodName := ⟨RX12, "reset", "()I"⟩
abbrev cX12_bring : ByteArray := prog_14_method_60_code
def yX12_bring : MethodName := ⟨RX12, "bring", "(I)V"⟩
abbrev cX12_appendText : ByteArray := prog_14_method_61_code
def yX12_appendText : MethodName := ⟨RX12, "appendText", "(IIIII)I"⟩
abbrev cX12_truncateText : ByteArray := prog_14_method_62_code
def yX12_truncateText : MethodName := ⟨RX12, "truncateText", "(I)I"⟩
abbrev cX12_byteAt : ByteArray := prog_14_method_63_code
def yX12_byteAt : MethodName := ⟨RX12, "byteAt", "(I)I"⟩
abbrev cX12_isLetterAt : ByteArray := prog_14_method_64_code
def yX12_isLetterAt : MethodName := ⟨RX12, "isLetterAt", "(I)Z"⟩
abbrev cX12_isDigitAt : ByteArray := prog_14_method_65_code
def yX12_isDigitAt : MethodName := ⟨RX12, "isDigitAt", "(I)Z"⟩
abbrev cX12_next : ByteArray := prog_14_method_66_code
def yX12_next : MethodName := ⟨RX12, "next", "()V"⟩
abbrev cX12_wrong : ByteArray := prog_14_method_67_code
def yX12_wrong : MethodName := ⟨RX12, "wrong", "(I)V"⟩
abbrev cX12_isWord : ByteArray := prog_14_method_68_code
def yX12_isWord : MethodName := ⟨RX12, "isWord", "(Ljava/lang/String;)Z"⟩
abbrev cX12_goOn : ByteArray := prog_14_method_69_code
def yX12_goOn : MethodName := ⟨RX12, "goOn", "()V"⟩
abbrev cX12_digits : ByteArray := prog_14_method_70_code
def yX12_digits : MethodName := ⟨RX12, "digits", "()J"⟩
abbrev cX12_see : ByteArray := prog_14_method_71_code
def yX12_see : MethodName := ⟨RX12, "see", "(II)I"⟩
abbrev cX12_number : ByteArray := prog_14_method_72_code
def yX12_number : MethodName := ⟨RX12, "number", "(II)I"⟩
abbrev cX12_must : ByteArray := prog_14_method_73_code
def yX12_must : MethodName := ⟨RX12, "must", "(Ljava/lang/String;)V"⟩
abbrev cX12_begin : ByteArray := prog_14_method_74_code
def yX12_begin : MethodName := ⟨RX12, "begin", "()V"⟩
abbrev cX12_opensThing : ByteArray := prog_14_method_75_code
def yX12_opensThing : MethodName := ⟨RX12, "opensThing", "(II)Z"⟩
abbrev cX12_readKinds : ByteArray := prog_14_method_76_code
def yX12_readKinds : MethodName := ⟨RX12, "readKinds", "(Ljava/lang/String;III)V"⟩
abbrev cX12_readTeachers : ByteArray := prog_14_method_77_code
def yX12_readTeachers : MethodName := ⟨RX12, "readTeachers", "()V"⟩
abbrev cX12_isThere : ByteArray := prog_14_method_78_code
def yX12_isThere : MethodName := ⟨RX12, "isThere", "(III)Z"⟩
abbrev cX12_readLesson : ByteArray := prog_14_method_79_code
def yX12_readLesson : MethodName := ⟨RX12, "readLesson", "()V"⟩
abbrev cX12_parseSchool : ByteArray := prog_14_method_80_code
def yX12_parseSchool : MethodName := ⟨RX12, "parseSchool", "()I"⟩
abbrev cX12_errorCode : ByteArray := prog_14_method_81_code
def yX12_errorCode : MethodName := ⟨RX12, "errorCode", "()I"⟩
abbrev cX12_errorPosition : ByteArray := prog_14_method_82_code
def yX12_errorPosition : MethodName := ⟨RX12, "errorPosition", "()I"⟩
abbrev cX12_figure : ByteArray := prog_14_method_83_code
def yX12_figure : MethodName := ⟨RX12, "figure", "()I"⟩
abbrev cX12_stepHere : ByteArray := prog_14_method_84_code
def yX12_stepHere : MethodName := ⟨RX12, "stepHere", "()I"⟩
abbrev cX12_canStep : ByteArray := prog_14_method_85_code
def yX12_canStep : MethodName := ⟨RX12, "canStep", "(III)Z"⟩
abbrev cX12_doStep : ByteArray := prog_14_method_86_code
def yX12_doStep : MethodName := ⟨RX12, "doStep", "(III)V"⟩
abbrev cX12_goesThrough : ByteArray := prog_14_method_87_code
def yX12_goesThrough : MethodName := ⟨RX12, "goesThrough", "()V"⟩
abbrev cX12_runScript : ByteArray := prog_14_method_88_code
def yX12_runScript : MethodName := ⟨RX12, "runScript", "()I"⟩
abbrev cX12_whyNotCover : ByteArray := prog_14_method_89_code
def yX12_whyNotCover : MethodName := ⟨RX12, "whyNotCover", "(II)I"⟩
abbrev cX12_whyNotSupervise : ByteArray := prog_14_method_90_code
def yX12_whyNotSupervise : MethodName := ⟨RX12, "whyNotSupervise", "(II)I"⟩
abbrev cX12_whyNotExchange : ByteArray := prog_14_method_91_code
def yX12_whyNotExchange : MethodName := ⟨RX12, "whyNotExchange", "(II)I"⟩
abbrev cX12_whyNotMove : ByteArray := prog_14_method_92_code
def yX12_whyNotMove : MethodName := ⟨RX12, "whyNotMove", "(II)I"⟩
abbrev cX12_whyNotRoom : ByteArray := prog_14_method_93_code
def yX12_whyNotRoom : MethodName := ⟨RX12, "whyNotRoom", "(II)I"⟩
abbrev cX12_candidates : ByteArray := prog_14_method_94_code
def yX12_candidates : MethodName := ⟨RX12, "candidates", "(I)I"⟩
abbrev cX12_chain : ByteArray := prog_14_method_95_code
def yX12_chain : MethodName := ⟨RX12, "chain", "(I)I"⟩
abbrev cX12_chainTeacher : ByteArray := prog_14_method_96_code
def yX12_chainTeacher : MethodName := ⟨RX12, "chainTeacher", "(II)I"⟩
abbrev cX12_partnerOf : ByteArray := prog_14_method_97_code
def yX12_partnerOf : MethodName := ⟨RX12, "partnerOf", "(IZ)I"⟩
abbrev cX12_partners : ByteArray := prog_14_method_98_code
def yX12_partners : MethodName := ⟨RX12, "partners", "(I)I"⟩
abbrev cX12_firstPartner : ByteArray := prog_14_method_99_code
def yX12_firstPartner : MethodName := ⟨RX12, "firstPartner", "(I)I"⟩
abbrev cX12_slotsFor : ByteArray := prog_14_method_100_code
def yX12_slotsFor : MethodName := ⟨RX12, "slotsFor", "(I)I"⟩
abbrev cX12_openMany : ByteArray := prog_14_method_101_code
def yX12_openMany : MethodName := ⟨RX12, "openMany", "()I"⟩
abbrev cX12_watchedMany : ByteArray := prog_14_method_102_code
def yX12_watchedMany : MethodName := ⟨RX12, "watchedMany", "()I"⟩
abbrev cX12_count : ByteArray := prog_14_method_103_code
def yX12_count : MethodName := ⟨RX12, "count", "(I)I"⟩
abbrev cX12_lesson : ByteArray := prog_14_method_104_code
def yX12_lesson : MethodName := ⟨RX12, "lesson", "(II)I"⟩
abbrev cX12_teacher : ByteArray := prog_14_method_105_code
def yX12_teacher : MethodName := ⟨RX12, "teacher", "(II)I"⟩
abbrev cX12_room : ByteArray := prog_14_method_106_code
def yX12_room : MethodName := ⟨RX12, "room", "(II)I"⟩
abbrev cX12_subject : ByteArray := prog_14_method_107_code
def yX12_subject : MethodName := ⟨RX12, "subject", "(II)I"⟩
abbrev cX12_lessonOfClass : ByteArray := prog_14_method_108_code
def yX12_lessonOfClass : MethodName := ⟨RX12, "lessonOfClass", "(II)I"⟩
abbrev cX12_lessonOfTeacher : ByteArray := prog_14_method_109_code
def yX12_lessonOfTeacher : MethodName := ⟨RX12, "lessonOfTeacher", "(II)I"⟩
abbrev cX12_lessonInRoom : ByteArray := prog_14_method_110_code
def yX12_lessonInRoom : MethodName := ⟨RX12, "lessonInRoom", "(II)I"⟩
abbrev cX12_freeTeachers : ByteArray := prog_14_method_111_code
def yX12_freeTeachers : MethodName := ⟨RX12, "freeTeachers", "(I)I"⟩
abbrev cX12_freeRooms : ByteArray := prog_14_method_112_code
def yX12_freeRooms : MethodName := ⟨RX12, "freeRooms", "(II)I"⟩
abbrev cX12_lessonAt : ByteArray := prog_14_method_113_code
def yX12_lessonAt : MethodName := ⟨RX12, "lessonAt", "(IZ)I"⟩
abbrev cX12_openLesson : ByteArray := prog_14_method_114_code
def yX12_openLesson : MethodName := ⟨RX12, "openLesson", "(I)I"⟩
abbrev cX12_difference : ByteArray := prog_14_method_115_code
def yX12_difference : MethodName := ⟨RX12, "difference", "(I)I"⟩
abbrev cX12_gapsIn : ByteArray := prog_14_method_116_code
def yX12_gapsIn : MethodName := ⟨RX12, "gapsIn", "(I)I"⟩
abbrev cX12_windows : ByteArray := prog_14_method_117_code
def yX12_windows : MethodName := ⟨RX12, "windows", "(II)I"⟩
abbrev cX12_classWindows : ByteArray := prog_14_method_118_code
def yX12_classWindows : MethodName := ⟨RX12, "classWindows", "(II)I"⟩
abbrev cX12_spread : ByteArray := prog_14_method_119_code
def yX12_spread : MethodName := ⟨RX12, "spread", "()I"⟩
abbrev cX12_taughtShare : ByteArray := prog_14_method_120_code
def yX12_taughtShare : MethodName := ⟨RX12, "taughtShare", "()D"⟩
abbrev cX12_print : ByteArray := prog_14_method_121_code
def yX12_print : MethodName := ⟨RX12, "print", "(I)V"⟩
abbrev cX12_printLesson : ByteArray := prog_14_method_122_code
def yX12_printLesson : MethodName := ⟨RX12, "printLesson", "(I)V"⟩
abbrev cX12_writeReport : ByteArray := prog_14_method_123_code
def yX12_writeReport : MethodName := ⟨RX12, "writeReport", "(I)I"⟩
abbrev cX12_reportByte : ByteArray := prog_14_method_124_code
def yX12_reportByte : MethodName := ⟨RX12, "reportByte", "(I)I"⟩
def RJx145de : String := "java/io/Serializable"
def TJx145de : u_T := fun k => match k with
  | _ => ("", "", "", false)
def tyJx145de : Nat → FieldType := fun k => match k with
  | _ => .int
abbrev wsJx145de0 : List Cond := u_ws RJx145de TJx145de 0
theorem nmJx145de : ∀ a, a < 0 → ∀ b, b < 0 → a ≠ b → (TJx145de a).2.1 ≠ (TJx145de b).2.1 := by decide +kernel
theorem tyJx145de_ok : ∀ k, k < 0 → parseFieldDescriptor (TJx145de k).2.2.1 = some (tyJx145de k) := by decide +kernel
def RJx9f9b0 : String := "java/lang/CharSequence"
def TJx9f9b0 : u_T := fun k => match k with
  | _ => ("", "", "", false)
def tyJx9f9b0 : Nat → FieldType := fun k => match k with
  | _ => .int
abbrev wsJx9f9b00 : List Cond := u_ws RJx9f9b0 TJx9f9b0 0
theorem nmJx9f9b0 : ∀ a, a < 0 → ∀ b, b < 0 → a ≠ b → (TJx9f9b0 a).2.1 ≠ (TJx9f9b0 b).2.1 := by decide +kernel
theorem tyJx9f9b0_ok : ∀ k, k < 0 → parseFieldDescriptor (TJx9f9b0 k).2.2.1 = some (tyJx9f9b0 k) := by decide +kernel
def RJxb160c : String := "java/lang/Comparable"
def TJxb160c : u_T := fun k => match k with
  | _ => ("", "", "", false)
def tyJxb160c : Nat → FieldType := fun k => match k with
  | _ => .int
abbrev wsJxb160c0 : List Cond := u_ws RJxb160c TJxb160c 0
theorem nmJxb160c : ∀ a, a < 0 → ∀ b, b < 0 → a ≠ b → (TJxb160c a).2.1 ≠ (TJxb160c b).2.1 := by decide +kernel
theorem tyJxb160c_ok : ∀ k, k < 0 → parseFieldDescriptor (TJxb160c k).2.2.1 = some (tyJxb160c k) := by decide +kernel
def RJ9 : String := "java/lang/Math"
def TJ9 : u_T := fun k => match k with
  | _ => ("", "", "", false)
def tyJ9 : Nat → FieldType := fun k => match k with
  | _ => .int
abbrev wsJ90 : List Cond := u_ws RJ9 TJ9 0
theorem nmJ9 : ∀ a, a < 0 → ∀ b, b < 0 → a ≠ b → (TJ9 a).2.1 ≠ (TJ9 b).2.1 := by decide +kernel
theorem tyJ9_ok : ∀ k, k < 0 → parseFieldDescriptor (TJ9 k).2.2.1 = some (tyJ9 k) := by decide +kernel
abbrev cJ9_max_7cf53 : ByteArray := prog_22_method_65_code
def yJ9_max_7cf53 : MethodName := ⟨RJ9, "max", "(II)I"⟩
abbrev cJ9_min_7cf53 : ByteArray := prog_22_method_69_code
def yJ9_min_7cf53 : MethodName := ⟨RJ9, "min", "(II)I"⟩
def RJ0 : String := "java/lang/String"
def TJ0 : u_T := fun k => match k with
  | _ => ("", "", "", false)
def tyJ0 : Nat → FieldType := fun k => match k with
  | _ => .int
abbrev wsJ00 : List Cond := u_ws RJ0 TJ0 0
theorem nmJ0 : ∀ a, a < 0 → ∀ b, b < 0 → a ≠ b → (TJ0 a).2.1 ≠ (TJ0 b).2.1 := by decide +kernel
theorem tyJ0_ok : ∀ k, k < 0 → parseFieldDescriptor (TJ0 k).2.2.1 = some (tyJ0 k) := by decide +kernel
abbrev cJ0_length_8abf5 : ByteArray := prog_24_method_54_code
def yJ0_length_8abf5 : MethodName := ⟨RJ0, "length", "()I"⟩
abbrev cJ0_charAt_5068e : ByteArray := prog_24_method_56_code
def yJ0_charAt_5068e : MethodName := ⟨RJ0, "charAt", "(I)C"⟩
abbrev cJ0_coder_7d493 : ByteArray := prog_24_method_152_code
def yJ0_coder_7d493 : MethodName := ⟨RJ0, "coder", "()B"⟩
abbrev cJ0_isLatin1_aae02 : ByteArray := prog_24_method_154_code
def yJ0_isLatin1_aae02 : MethodName := ⟨RJ0, "isLatin1", "()Z"⟩
abbrev cJ0_checkIndex_df160 : ByteArray := prog_24_method_155_code
def yJ0_checkIndex_df160 : MethodName := ⟨RJ0, "checkIndex", "(II)V"⟩
def RJ1 : String := "java/lang/StringLatin1"
def TJ1 : u_T := fun k => match k with
  | _ => ("", "", "", false)
def tyJ1 : Nat → FieldType := fun k => match k with
  | _ => .int
abbrev wsJ10 : List Cond := u_ws RJ1 TJ1 0
theorem nmJ1 : ∀ a, a < 0 → ∀ b, b < 0 → a ≠ b → (TJ1 a).2.1 ≠ (TJ1 b).2.1 := by decide +kernel
theorem tyJ1_ok : ∀ k, k < 0 → parseFieldDescriptor (TJ1 k).2.2.1 = some (tyJ1 k) := by decide +kernel
abbrev cJ1_charAt_3b067 : ByteArray := prog_25_method_2_code
def yJ1_charAt_3b067 : MethodName := ⟨RJ1, "charAt", "([BI)C"⟩
def RJ2 : String := "java/lang/StringUTF16"
def TJ2 : u_T := fun k => match k with
  | _ => ("", "", "", false)
def tyJ2 : Nat → FieldType := fun k => match k with
  | _ => .int
abbrev wsJ20 : List Cond := u_ws RJ2 TJ2 0
theorem nmJ2 : ∀ a, a < 0 → ∀ b, b < 0 → a ≠ b → (TJ2 a).2.1 ≠ (TJ2 b).2.1 := by decide +kernel
theorem tyJ2_ok : ∀ k, k < 0 → parseFieldDescriptor (TJ2 k).2.2.1 = some (tyJ2 k) := by decide +kernel
abbrev cJ2_getChar_3b067 : ByteArray := prog_26_method_5_code
def yJ2_getChar_3b067 : MethodName := ⟨RJ2, "getChar", "([BI)C"⟩
abbrev cJ2_length_9d52b : ByteArray := prog_26_method_6_code
def yJ2_length_9d52b : MethodName := ⟨RJ2, "length", "([B)I"⟩
abbrev cJ2_charAt_3b067 : ByteArray := prog_26_method_83_code
def yJ2_charAt_3b067 : MethodName := ⟨RJ2, "charAt", "([BI)C"⟩
abbrev cJ2_checkIndex_2214a : ByteArray := prog_26_method_91_code
def yJ2_checkIndex_2214a : MethodName := ⟨RJ2, "checkIndex", "(I[B)V"⟩
def RJxfd54e : String := "java/lang/constant/Constable"
def TJxfd54e : u_T := fun k => match k with
  | _ => ("", "", "", false)
def tyJxfd54e : Nat → FieldType := fun k => match k with
  | _ => .int
abbrev wsJxfd54e0 : List Cond := u_ws RJxfd54e TJxfd54e 0
theorem nmJxfd54e : ∀ a, a < 0 → ∀ b, b < 0 → a ≠ b → (TJxfd54e a).2.1 ≠ (TJxfd54e b).2.1 := by decide +kernel
theorem tyJxfd54e_ok : ∀ k, k < 0 → parseFieldDescriptor (TJxfd54e k).2.2.1 = some (tyJxfd54e k) := by decide +kernel
def RJx3cf43 : String := "java/lang/constant/ConstantDesc"
def TJx3cf43 : u_T := fun k => match k with
  | _ => ("", "", "", false)
def tyJx3cf43 : Nat → FieldType := fun k => match k with
  | _ => .int
abbrev wsJx3cf430 : List Cond := u_ws RJx3cf43 TJx3cf43 0
theorem nmJx3cf43 : ∀ a, a < 0 → ∀ b, b < 0 → a ≠ b → (TJx3cf43 a).2.1 ≠ (TJx3cf43 b).2.1 := by decide +kernel
theorem tyJx3cf43_ok : ∀ k, k < 0 → parseFieldDescriptor (TJx3cf43 k).2.2.1 = some (tyJx3cf43 k) := by decide +kernel
def RJ3 : String := "jdk/internal/util/Preconditions"
def TJ3 : u_T := fun k => match k with
  | _ => ("", "", "", false)
def tyJ3 : Nat → FieldType := fun k => match k with
  | _ => .int
abbrev wsJ30 : List Cond := u_ws RJ3 TJ3 0
theorem nmJ3 : ∀ a, a < 0 → ∀ b, b < 0 → a ≠ b → (TJ3 a).2.1 ≠ (TJ3 b).2.1 := by decide +kernel
theorem tyJ3_ok : ∀ k, k < 0 → parseFieldDescriptor (TJ3 k).2.2.1 = some (tyJ3 k) := by decide +kernel
abbrev cJ3_checkIndex_8e157 : ByteArray := prog_31_method_11_code
def yJ3_checkIndex_8e157 : MethodName := ⟨RJ3, "checkIndex", "(IILjava/util/function/BiFunction;)I"⟩
def RL : String := "SubstituteDeskLaw"
abbrev cL_appendText : ByteArray := method_3_code
def yL_appendText : MethodName := ⟨RL, "appendText", "(LSubstituteDesk;IIIII[J)I"⟩
abbrev cL_truncateText : ByteArray := method_4_code
def yL_truncateText : MethodName := ⟨RL, "truncateText", "(LSubstituteDesk;I[J)I"⟩
abbrev cL_setAbsent : ByteArray := method_5_code
def yL_setAbsent : MethodName := ⟨RL, "setAbsent", "(LSubstituteDesk;IIZ[J)I"⟩
abbrev cL_cover : ByteArray := method_6_code
def yL_cover : MethodName := ⟨RL, "cover", "(LSubstituteDesk;II[J)I"⟩
abbrev cL_supervise : ByteArray := method_7_code
def yL_supervise : MethodName := ⟨RL, "supervise", "(LSubstituteDesk;II[J)I"⟩
abbrev cL_repair : ByteArray := method_8_code
def yL_repair : MethodName := ⟨RL, "repair", "(LSubstituteDesk;I[J)I"⟩
abbrev cL_exchange : ByteArray := method_9_code
def yL_exchange : MethodName := ⟨RL, "exchange", "(LSubstituteDesk;II[J)I"⟩
abbrev cL_move : ByteArray := method_10_code
def yL_move : MethodName := ⟨RL, "move", "(LSubstituteDesk;II[J)I"⟩
abbrev cL_setRoom : ByteArray := method_11_code
def yL_setRoom : MethodName := ⟨RL, "setRoom", "(LSubstituteDesk;II[J)I"⟩
abbrev cL_reopen : ByteArray := method_12_code
def yL_reopen : MethodName := ⟨RL, "reopen", "(LSubstituteDesk;I[J)I"⟩
abbrev cL_whyNotCover : ByteArray := method_13_code
def yL_whyNotCover : MethodName := ⟨RL, "whyNotCover", "(LSubstituteDesk;II[J)I"⟩
abbrev cL_whyNotSupervise : ByteArray := method_14_code
def yL_whyNotSupervise : MethodName := ⟨RL, "whyNotSupervise", "(LSubstituteDesk;II[J)I"⟩
abbrev cL_whyNotExchange : ByteArray := method_15_code
def yL_whyNotExchange : MethodName := ⟨RL, "whyNotExchange", "(LSubstituteDesk;II[J)I"⟩
abbrev cL_whyNotMove : ByteArray := method_16_code
def yL_whyNotMove : MethodName := ⟨RL, "whyNotMove", "(LSubstituteDesk;II[J)I"⟩
abbrev cL_whyNotRoom : ByteArray := method_17_code
def yL_whyNotRoom : MethodName := ⟨RL, "whyNotRoom", "(LSubstituteDesk;II[J)I"⟩
abbrev cL_candidates : ByteArray := method_18_code
def yL_candidates : MethodName := ⟨RL, "candidates", "(LSubstituteDesk;I[J)I"⟩
abbrev cL_chain : ByteArray := method_19_code
def yL_chain : MethodName := ⟨RL, "chain", "(LSubstituteDesk;I[J)I"⟩
abbrev cL_chainTeacher : ByteArray := method_20_code
def yL_chainTeacher : MethodName := ⟨RL, "chainTeacher", "(LSubstituteDesk;II[J)I"⟩
abbrev cL_partners : ByteArray := method_21_code
def yL_partners : MethodName := ⟨RL, "partners", "(LSubstituteDesk;I[J)I"⟩
abbrev cL_firstPartner : ByteArray := method_22_code
def yL_firstPartner : MethodName := ⟨RL, "firstPartner", "(LSubstituteDesk;I[J)I"⟩
abbrev cL_slotsFor : ByteArray := method_23_code
def yL_slotsFor : MethodName := ⟨RL, "slotsFor", "(LSubstituteDesk;I[J)I"⟩
abbrev cL_count : ByteArray := method_24_code
def yL_count : MethodName := ⟨RL, "count", "(LSubstituteDesk;I[J)I"⟩
abbrev cL_lesson : ByteArray := method_25_code
def yL_lesson : MethodName := ⟨RL, "lesson", "(LSubstituteDesk;II[J)I"⟩
abbrev cL_teacher : ByteArray := method_26_code
def yL_teacher : MethodName := ⟨RL, "teacher", "(LSubstituteDesk;II[J)I"⟩
abbrev cL_room : ByteArray := method_27_code
def yL_room : MethodName := ⟨RL, "room", "(LSubstituteDesk;II[J)I"⟩
abbrev cL_subject : ByteArray := method_28_code
def yL_subject : MethodName := ⟨RL, "subject", "(LSubstituteDesk;II[J)I"⟩
abbrev cL_lessonOfClass : ByteArray := method_29_code
def yL_lessonOfClass : MethodName := ⟨RL, "lessonOfClass", "(LSubstituteDesk;II[J)I"⟩
abbrev cL_lessonOfTeacher : ByteArray := method_30_code
def yL_lessonOfTeacher : MethodName := ⟨RL, "lessonOfTeacher", "(LSubstituteDesk;II[J)I"⟩
abbrev cL_lessonInRoom : ByteArray := method_31_code
def yL_lessonInRoom : MethodName := ⟨RL, "lessonInRoom", "(LSubstituteDesk;II[J)I"⟩
abbrev cL_freeTeachers : ByteArray := method_32_code
def yL_freeTeachers : MethodName := ⟨RL, "freeTeachers", "(LSubstituteDesk;I[J)I"⟩
abbrev cL_freeRooms : ByteArray := method_33_code
def yL_freeRooms : MethodName := ⟨RL, "freeRooms", "(LSubstituteDesk;II[J)I"⟩
abbrev cL_openLesson : ByteArray := method_34_code
def yL_openLesson : MethodName := ⟨RL, "openLesson", "(LSubstituteDesk;I[J)I"⟩
abbrev cL_difference : ByteArray := method_35_code
def yL_difference : MethodName := ⟨RL, "difference", "(LSubstituteDesk;I[J)I"⟩
abbrev cL_windows : ByteArray := method_36_code
def yL_windows : MethodName := ⟨RL, "windows", "(LSubstituteDesk;II[J)I"⟩
abbrev cL_classWindows : ByteArray := method_37_code
def yL_classWindows : MethodName := ⟨RL, "classWindows", "(LSubstituteDesk;II[J)I"⟩
abbrev cL_writeReport : ByteArray := method_38_code
def yL_writeReport : MethodName := ⟨RL, "writeReport", "(LSubstituteDesk;I[J)I"⟩
abbrev cL_reportByte : ByteArray := method_39_code
def yL_reportByte : MethodName := ⟨RL, "reportByte", "(LSubstituteDesk;I[J)I"⟩
abbrev cL_undo : ByteArray := method_40_code
def yL_undo : MethodName := ⟨RL, "undo", "(LSubstituteDesk;[J)I"⟩
abbrev cL_law : ByteArray := code
def yL_law : MethodName := ⟨RL, "law", "([I)Z"⟩
abbrev vwCl : List vw_C := [(RX0, TX0, 7), (RX1, TX1, 4), (RX2, TX2, 4), (RX3, TX3, 6), (RX4, TX4, 2), (RX5, TX5, 4), (RX6, TX6, 1), (RX7, TX7, 16), (RX8, TX8, 2), (RX9, TX9, 5), (RX10, TX10, 8), (RX11, TX11, 10), (RX12, TX12, 20)]
end
section
/-! ===== THE SMALL MACHINE: whole numbers, texts and the cells of the two objects by number; a step of it is a step of the JVM (ga_sound) ===== -/
section GA0
/-- a field: none = a number; some none = null; some (some j) = the cell j -/
abbrev ga_F : Type := Option (Option Nat)
/-- a cell's shape: an object of a class, or an array (0 int, 1 byte, 2 long) of a length -/
abbrev ga_Sh : Type := (Nat × List ga_F) ⊕ (Nat × Nat)
abbrev ga_S : Type := List ga_Sh
abbrev ga_M : Type := Nat → Nat → Int32
abbrev ga_Lo : Type := List (Option Value)
abbrev ga_C : Type := Nat × ga_Lo × List Value × ga_S × ga_M × Nat × Nat
abbrev ga_O : Type := (Option Value ⊕ Nat) × ga_S × ga_M
abbrev ga_E : Type := Instr × Nat × Nat × Nat × List (Int32 × Nat)
abbrev ga_G : Type 1 := ∀ α : Type, Nat → List Value → ga_S → ga_M → (ga_O → Option α) → Option α
/-- handlers at a place: the exception, the place behind the handler's store, the local stored -/
abbrev ga_H : Type := List (Nat × Nat × Nat)
variable {α : Type}
def ga_up (σ : ga_M) (n k : Nat) (x : Int32) : ga_M := fun a => if a = n then upd (σ n) k x else σ a
def ga_z (σ : ga_M) (n : Nat) : ga_M := fun a => if a = n then fun _ => 0 else σ a
def ga_sw (k : Nat → Option α) (x : Int32) (d : Nat) : List (Int32 × Nat) → Option α
  | [] => k d
  | q :: r => if x = q.1 then k q.2 else ga_sw k x d r
def ga_cat2 (L : ga_Lo) (i : Nat) : Bool := match L[i]? with
  | some (some (.long _)) => true
  | some (some (.double _)) => true
  | _ => false
def ga_pre (L : ga_Lo) (i : Nat) : Bool := match i with
  | 0 => false
  | j + 1 => ga_cat2 L j
/-- a store of one slot, of two -/
def ga_s1 (lf : Bool) (L : ga_Lo) (i : Nat) (v : Value) : Option ga_Lo := if i < L.length then (if (match lf with | true => false | false => ga_pre L i) = true then none else some (L.set i (some v))) else none
def ga_s2 (lf : Bool) (L : ga_Lo) (i : Nat) (v : Value) : Option ga_Lo := if i + 1 < L.length then (if (lf || ga_pre L i) = true then none else some ((L.set i (some v)).set (i + 1) none)) else none
def ga_pI (sw : List (Int32 × Nat)) (k : Int32 → Option α) : Option α := match sw with
  | [] => none
  | q :: _ => k q.1
def ga_ldc (sw : List (Int32 × Nat)) (r1 : Nat) (k : Value → Option α) : Option α := match sw with
  | [] => k (.ref r1)
  | q :: _ => k (.int q.1)
def ga_iL (L : ga_Lo) (i : Nat) (k : Int32 → Option α) : Option α := match L[i]? with
  | some (some (.int x)) => k x
  | _ => none
def ga_jL (L : ga_Lo) (i : Nat) (k : Int64 → Option α) : Option α := match L[i]? with
  | some (some (.long x)) => k x
  | _ => none
def ga_dL (L : ga_Lo) (i : Nat) (k : UInt64 → Option α) : Option α := match L[i]? with
  | some (some (.double x)) => k x
  | _ => none
def ga_aL (L : ga_Lo) (i : Nat) (k : Nat → Option α) : Option α := match L[i]? with
  | some (some (.ref x)) => k x
  | _ => none
def ga_i1 (st : List Value) (k : Int32 → List Value → Option α) : Option α := match st with
  | .int x :: r => k x r
  | _ => none
def ga_j1 (st : List Value) (k : Int64 → List Value → Option α) : Option α := match st with
  | .long x :: r => k x r
  | _ => none
def ga_d1 (st : List Value) (k : UInt64 → List Value → Option α) : Option α := match st with
  | .double x :: r => k x r
  | _ => none
def ga_a1 (st : List Value) (k : Nat → List Value → Option α) : Option α := match st with
  | .ref x :: r => k x r
  | _ => none
def ga_i2 (st : List Value) (k : Int32 → Int32 → List Value → Option α) : Option α := ga_i1 st fun y r => ga_i1 r fun x r => k x y r
def ga_j2 (st : List Value) (k : Int64 → Int64 → List Value → Option α) : Option α := ga_j1 st fun y r => ga_j1 r fun x r => k x y r
def ga_d2 (st : List Value) (k : UInt64 → UInt64 → List Value → Option α) : Option α := ga_d1 st fun y r => ga_d1 r fun x r => k x y r
def ga_u1 (st : List Value) (k : Value → List Value → Option α) : Option α := match st with
  | v :: r => if v.category = 1 then k v r else none
  | _ => none
def ga_oL (L : Option ga_Lo) (k : ga_Lo → Option α) : Option α := match L with
  | some L => k L
  | none => none
/-- an object's field -/
def ga_fld (S : ga_S) (σ : ga_M) (n ci i : Nat) (k : Value → Option α) : Option α := match S[n]? with
  | some (.inl o) => if o.1 = ci then (match o.2[i]? with
    | some none => k (.int (σ n i))
    | some (some (some j)) => k (.ref j)
    | _ => none) else none
  | _ => none
def ga_pfd (rf ini : Bool) (S : ga_S) (σ : ga_M) (n ci i : Nat) (v : Value) (k : ga_S → ga_M → Option α) : Option α := match S[n]? with
  | some (.inl o) => if o.1 = ci then (match o.2[i]?, v with
    | some none, .int x => if rf = true then none else k S (ga_up σ n i x)
    | some (some none), .ref j => if rf = true ∧ ini = true then (if j < S.length then k (S.set n (.inl (o.1, o.2.set i (some (some j))))) σ else none) else none
    | _, _ => none) else none
  | _ => none
/-- an array of a kind: its length -/
def ga_arr (S : ga_S) (n kd : Nat) (k : Nat → Option α) : Option α := match S[n]? with
  | some (.inr a) => if a.1 = kd then k a.2 else none
  | _ => none
def ga_alen (S : ga_S) (scr : Option (Nat × Nat × (Nat → Int32))) (n : Nat) (k : Int32 → Option α) : Option α := match S[n]? with
  | some (.inr a) => if a.1 < 3 then k (Int32.ofNat a.2) else none
  | some (.inl _) => none
  | none => (match scr with
    | some q => if n = q.1 then k (Int32.ofNat q.2.1) else none
    | none => none)
def ga_iald (S : ga_S) (σ : ga_M) (scr : Option (Nat × Nat × (Nat → Int32))) (n : Nat) (i : Int32) (k : Int32 → Option α) : Option α := match S[n]? with
  | some (.inr a) => if a.1 = 0 then (if i < 0 ∨ a.2 ≤ i.toNatClampNeg then none else k (σ n i.toNatClampNeg)) else none
  | some (.inl _) => none
  | none => (match scr with
    | some q => if n = q.1 then (if i < 0 ∨ q.2.1 ≤ i.toNatClampNeg then none else k (q.2.2 i.toNatClampNeg)) else none
    | none => none)
def ga_hn (k0 : Option α) (k : Nat × Nat → Option α) (E : Nat) : ga_H → Option α
  | [] => k0
  | q :: r => if E = q.1 then k q.2 else ga_hn k0 k E r
def ga_ret (K0 : ga_O → Option α) (hn : ga_H) (NF pc : Nat) (L : ga_Lo) (rest : List Value) (k : Nat → ga_Lo → List Value → ga_S → ga_M → Option α) (o : ga_O) : Option α := match o with
  | (.inl v, S1, σ1) => k (pc + 3) L (v.toList ++ rest) S1 σ1
  | (.inr E, S1, σ1) => ga_hn (K0 (.inr E, S1, σ1)) (fun q => if S1.length < NF then none else k q.1 (L.set q.2 none) [] S1 σ1) E hn
def ga_call (K0 : ga_O → Option α) (g : ga_G) (hnd : Nat → ga_H) (NF pc mid na : Nat) (L : ga_Lo) (st : List Value) (S : ga_S) (σ : ga_M) (k : Nat → ga_Lo → List Value → ga_S → ga_M → Option α) : Option α :=
  if na ≤ st.length then (if ((st.drop na).map fun v => v.category).sum ≤ 8 then g α mid (st.take na).reverse S σ (ga_ret K0 (hnd pc) NF pc L (st.drop na) k) else none) else none
/-- a call's receiver: of the class that the table names -/
def ga_rv (S : ga_S) (st : List Value) (na : Nat) (sw : List (Int32 × Nat)) (k : Option α) : Option α := match sw with
  | [] => k
  | q :: _ => (match na with
    | 0 => none
    | m + 1 => (match st.drop m with
      | .ref n :: _ => (match S[n]? with
        | some (.inl o) => if o.1 = q.2 then k else none
        | _ => none)
      | _ => none))
def ga_rI (K0 : ga_O → Option α) (st : List Value) (S : ga_S) (σ : ga_M) : Option α := match st with
  | [.int x] => K0 (.inl (some (.int x)), S, σ)
  | _ => none
def ga_rJ (K0 : ga_O → Option α) (st : List Value) (S : ga_S) (σ : ga_M) : Option α := match st with
  | [.long x] => K0 (.inl (some (.long x)), S, σ)
  | _ => none
def ga_rD (K0 : ga_O → Option α) (st : List Value) (S : ga_S) (σ : ga_M) : Option α := match st with
  | [.double x] => K0 (.inl (some (.double x)), S, σ)
  | _ => none
def ga_rA (K0 : ga_O → Option α) (st : List Value) (S : ga_S) (σ : ga_M) : Option α := match st with
  | [.ref x] => K0 (.inl (some (.ref x)), S, σ)
  | _ => none
def ga_rV (K0 : ga_O → Option α) (st : List Value) (S : ga_S) (σ : ga_M) : Option α := match st with
  | [] => K0 (.inl none, S, σ)
  | _ => none
/-- one step; k: what comes behind it -/
def ga_step (K0 : ga_O → Option α) (code : Nat → Option ga_E) (g : ga_G) (cost : Nat → Nat × Nat) (hnd : Nat → ga_H) (cls : Nat → List ga_F) (NF RC RS : Nat) (ini lf wr : Bool) (scr : Option (Nat × Nat × (Nat → Int32))) (cfg : ga_C) (k : ga_C → Option α) : Option α :=
  match cfg with
  | (pc, L, st, S, σ, kc, ks) => match code pc with
    | none => none
    | some (ins, _, r1, r2, sw) => match ins with
      | .iconst _ => ga_pI sw fun v => k (pc + 1, L, .int v :: st, S, σ, kc, ks)
      | .bipush _ => ga_pI sw fun v => k (pc + 2, L, .int v :: st, S, σ, kc, ks)
      | .sipush _ => ga_pI sw fun v => k (pc + 3, L, .int v :: st, S, σ, kc, ks)
      | .ldc _ => ga_ldc sw r1 fun v => k (pc + 2, L, v :: st, S, σ, kc, ks)
      | .ldc_w _ => ga_ldc sw r1 fun v => k (pc + 3, L, v :: st, S, σ, kc, ks)
      | .lconst _ => ga_pI sw fun v => k (pc + 1, L, .long v.toInt64 :: st, S, σ, kc, ks)
      | .ldc2_w _ => ga_pI sw fun v => k (pc + 3, L, .long v.toInt64 :: st, S, σ, kc, ks)
      | .dconst _ => if r1 = 0 then k (pc + 1, L, .double FP.dconst0 :: st, S, σ, kc, ks) else k (pc + 1, L, .double FP.dconst1 :: st, S, σ, kc, ks)
      | .iload_n _ => ga_iL L r1 fun x => k (pc + 1, L, .int x :: st, S, σ, kc, ks)
      | .iload _ => ga_iL L r1 fun x => k (pc + 2, L, .int x :: st, S, σ, kc, ks)
      | .lload_n _ => ga_jL L r1 fun x => k (pc + 1, L, .long x :: st, S, σ, kc, ks)
      | .lload _ => ga_jL L r1 fun x => k (pc + 2, L, .long x :: st, S, σ, kc, ks)
      | .dload_n _ => ga_dL L r1 fun x => k (pc + 1, L, .double x :: st, S, σ, kc, ks)
      | .dload _ => ga_dL L r1 fun x => k (pc + 2, L, .double x :: st, S, σ, kc, ks)
      | .aload_n _ => ga_aL L r1 fun x => k (pc + 1, L, .ref x :: st, S, σ, kc, ks)
      | .aload _ => ga_aL L r1 fun x => k (pc + 2, L, .ref x :: st, S, σ, kc, ks)
      | .istore_n _ => ga_i1 st fun x r => ga_oL (ga_s1 lf L r1 (.int x)) fun L => k (pc + 1, L, r, S, σ, kc, ks)
      | .istore _ => ga_i1 st fun x r => ga_oL (ga_s1 lf L r1 (.int x)) fun L => k (pc + 2, L, r, S, σ, kc, ks)
      | .astore_n _ => ga_a1 st fun x r => ga_oL (ga_s1 lf L r1 (.ref x)) fun L => k (pc + 1, L, r, S, σ, kc, ks)
      | .astore _ => ga_a1 st fun x r => ga_oL (ga_s1 lf L r1 (.ref x)) fun L => k (pc + 2, L, r, S, σ, kc, ks)
      | .lstore_n _ => ga_j1 st fun x r => ga_oL (ga_s2 lf L r1 (.long x)) fun L => k (pc + 1, L, r, S, σ, kc, ks)
      | .lstore _ => ga_j1 st fun x r => ga_oL (ga_s2 lf L r1 (.long x)) fun L => k (pc + 2, L, r, S, σ, kc, ks)
      | .dstore_n _ => ga_d1 st fun x r => ga_oL (ga_s2 lf L r1 (.double x)) fun L => k (pc + 1, L, r, S, σ, kc, ks)
      | .dstore _ => ga_d1 st fun x r => ga_oL (ga_s2 lf L r1 (.double x)) fun L => k (pc + 2, L, r, S, σ, kc, ks)
      | .iinc _ _ => ga_pI sw fun v => ga_iL L r1 fun x => ga_oL (ga_s1 lf L r1 (.int (x + v))) fun L => k (pc + 3, L, st, S, σ, kc, ks)
      | .iadd => ga_i2 st fun x y r => k (pc + 1, L, .int (x + y) :: r, S, σ, kc, ks)
      | .isub => ga_i2 st fun x y r => k (pc + 1, L, .int (x - y) :: r, S, σ, kc, ks)
      | .imul => ga_i2 st fun x y r => k (pc + 1, L, .int (x * y) :: r, S, σ, kc, ks)
      | .iand => ga_i2 st fun x y r => k (pc + 1, L, .int (x &&& y) :: r, S, σ, kc, ks)
      | .ior => ga_i2 st fun x y r => k (pc + 1, L, .int (x ||| y) :: r, S, σ, kc, ks)
      | .ixor => ga_i2 st fun x y r => k (pc + 1, L, .int (x ^^^ y) :: r, S, σ, kc, ks)
      | .ishl => ga_i2 st fun x y r => k (pc + 1, L, .int (x <<< (y &&& 31)) :: r, S, σ, kc, ks)
      | .ishr => ga_i2 st fun x y r => k (pc + 1, L, .int (x >>> (y &&& 31)) :: r, S, σ, kc, ks)
      | .iushr => ga_i2 st fun x y r => k (pc + 1, L, .int (x.toUInt32 >>> (y.toUInt32 &&& Int32.toUInt32 31)).toInt32 :: r, S, σ, kc, ks)
      | .idiv => ga_i2 st fun x y r => if y = 0 then none else k (pc + 1, L, .int (x / y) :: r, S, σ, kc, ks)
      | .irem => ga_i2 st fun x y r => if y = 0 then none else k (pc + 1, L, .int (x - x / y * y) :: r, S, σ, kc, ks)
      | .ladd => ga_j2 st fun x y r => k (pc + 1, L, .long (x + y) :: r, S, σ, kc, ks)
      | .lsub => ga_j2 st fun x y r => k (pc + 1, L, .long (x - y) :: r, S, σ, kc, ks)
      | .lmul => ga_j2 st fun x y r => k (pc + 1, L, .long (x * y) :: r, S, σ, kc, ks)
      | .lcmp => ga_j2 st fun x y r => k (pc + 1, L, .int (lg_cmp x y) :: r, S, σ, kc, ks)
      | .i2l => ga_i1 st fun x r => k (pc + 1, L, .long x.toInt64 :: r, S, σ, kc, ks)
      | .l2i => ga_j1 st fun x r => k (pc + 1, L, .int x.toInt32 :: r, S, σ, kc, ks)
      | .i2b => ga_i1 st fun x r => k (pc + 1, L, .int x.toInt8.toInt32 :: r, S, σ, kc, ks)
      | .i2c => ga_i1 st fun x r => k (pc + 1, L, .int (x.toUInt32 % 65536).toInt32 :: r, S, σ, kc, ks)
      | .i2d => ga_i1 st fun x r => k (pc + 1, L, .double (FP.i2d x) :: r, S, σ, kc, ks)
      | .ddiv => ga_d2 st fun x y r => if FP.ddiv x y &&& 0x7fffffffffffffff ≤ 0x7ff0000000000000 then k (pc + 1, L, .double (FP.ddiv x y) :: r, S, σ, kc, ks) else none
      | .dcmp op => ga_d2 st fun x y r => k (pc + 1, L, .int (Op.cmpValue (FP.dcmp x y) op) :: r, S, σ, kc, ks)
      | .dup => ga_u1 st fun v r => k (pc + 1, L, v :: v :: r, S, σ, kc, ks)
      | .pop => ga_u1 st fun _ r => k (pc + 1, L, r, S, σ, kc, ks)
      | .dup2 => ga_u1 st fun v r => ga_u1 r fun w r => k (pc + 1, L, v :: w :: v :: w :: r, S, σ, kc, ks)
      | .dup_x1 => ga_u1 st fun v r => ga_u1 r fun w r => k (pc + 1, L, v :: w :: v :: r, S, σ, kc, ks)
      | .ifCond .eq _ => ga_i1 st fun x r => if x = 0 then k (r1, L, r, S, σ, kc, ks) else k (pc + 3, L, r, S, σ, kc, ks)
      | .ifCond .ne _ => ga_i1 st fun x r => if x = 0 then k (pc + 3, L, r, S, σ, kc, ks) else k (r1, L, r, S, σ, kc, ks)
      | .ifCond .lt _ => ga_i1 st fun x r => if x < 0 then k (r1, L, r, S, σ, kc, ks) else k (pc + 3, L, r, S, σ, kc, ks)
      | .ifCond .ge _ => ga_i1 st fun x r => if 0 ≤ x then k (r1, L, r, S, σ, kc, ks) else k (pc + 3, L, r, S, σ, kc, ks)
      | .ifCond .gt _ => ga_i1 st fun x r => if 0 < x then k (r1, L, r, S, σ, kc, ks) else k (pc + 3, L, r, S, σ, kc, ks)
      | .ifCond .le _ => ga_i1 st fun x r => if x ≤ 0 then k (r1, L, r, S, σ, kc, ks) else k (pc + 3, L, r, S, σ, kc, ks)
      | .if_icmp .eq _ => ga_i2 st fun x y r => if x = y then k (r1, L, r, S, σ, kc, ks) else k (pc + 3, L, r, S, σ, kc, ks)
      | .if_icmp .ne _ => ga_i2 st fun x y r => if x = y then k (pc + 3, L, r, S, σ, kc, ks) else k (r1, L, r, S, σ, kc, ks)
      | .if_icmp .lt _ => ga_i2 st fun x y r => if x < y then k (r1, L, r, S, σ, kc, ks) else k (pc + 3, L, r, S, σ, kc, ks)
      | .if_icmp .ge _ => ga_i2 st fun x y r => if y ≤ x then k (r1, L, r, S, σ, kc, ks) else k (pc + 3, L, r, S, σ, kc, ks)
      | .if_icmp .gt _ => ga_i2 st fun x y r => if y < x then k (r1, L, r, S, σ, kc, ks) else k (pc + 3, L, r, S, σ, kc, ks)
      | .if_icmp .le _ => ga_i2 st fun x y r => if x ≤ y then k (r1, L, r, S, σ, kc, ks) else k (pc + 3, L, r, S, σ, kc, ks)
      | .goto _ => k (r1, L, st, S, σ, kc, ks)
      | .tableswitch _ _ _ _ => ga_i1 st fun x r => ga_sw (fun t => k (t, L, r, S, σ, kc, ks)) x r1 sw
      | .lookupswitch _ _ => ga_i1 st fun x r => ga_sw (fun t => k (t, L, r, S, σ, kc, ks)) x r1 sw
      | .getfield _ => ga_a1 st fun n r => ga_fld S σ n r1 r2 fun v => k (pc + 3, L, v :: r, S, σ, kc, ks)
      | .putfield _ => if wr = true then (ga_u1 st fun v r => ga_a1 r fun n r => ga_pfd (!sw.isEmpty) ini S σ n r1 r2 v fun S σ => k (pc + 3, L, r, S, σ, kc, ks)) else none
      | .iaload => ga_i1 st fun i r => ga_a1 r fun n r => ga_iald S σ scr n i fun x => k (pc + 1, L, .int x :: r, S, σ, kc, ks)
      | .baload => ga_i1 st fun i r => ga_a1 r fun n r => ga_arr S n 1 fun a => if i < 0 ∨ a ≤ i.toNatClampNeg then none else k (pc + 1, L, .int (σ n i.toNatClampNeg) :: r, S, σ, kc, ks)
      | .laload => ga_i1 st fun i r => ga_a1 r fun n r => ga_arr S n 2 fun a => if i < 0 ∨ a ≤ i.toNatClampNeg then none else k (pc + 1, L, .long (σ n i.toNatClampNeg).toInt64 :: r, S, σ, kc, ks)
      | .iastore => if wr = true then (ga_i2 st fun i x r => ga_a1 r fun n r => ga_arr S n 0 fun a => if i < 0 ∨ a ≤ i.toNatClampNeg then none else k (pc + 1, L, r, S, ga_up σ n i.toNatClampNeg x, kc, ks)) else none
      | .bastore => if wr = true then (ga_i2 st fun i x r => ga_a1 r fun n r => ga_arr S n 1 fun a => if i < 0 ∨ a ≤ i.toNatClampNeg then none else k (pc + 1, L, r, S, ga_up σ n i.toNatClampNeg x.toInt8.toInt32, kc, ks)) else none
      | .lastore => if wr = true then (ga_j1 st fun x r => ga_i1 r fun i r => ga_a1 r fun n r => ga_arr S n 2 fun a => if i < 0 ∨ a ≤ i.toNatClampNeg then none else if x.toInt32.toInt64 = x then k (pc + 1, L, r, S, ga_up σ n i.toNatClampNeg x.toInt32, kc, ks) else none) else none
      | .arraylength => ga_a1 st fun n r => ga_alen S scr n fun v => k (pc + 1, L, .int v :: r, S, σ, kc, ks)
      | .new _ => if 1000 ≤ r1 then (if kc + 1 ≤ RC ∧ ks + 6 ≤ RS ∧ st.length ≤ 4 then K0 (.inr (r1 - 1000), S, σ) else none)
          else if S.length < NF ∧ kc + 1 ≤ RC ∧ ks + r2 ≤ RS then k (pc + 3, L, .ref S.length :: st, S ++ [.inl (r1, cls r1)], ga_z σ S.length, kc + 1, ks + r2) else none
      | .newarray _ => ga_i1 st fun n r => if n < 0 then none else if S.length < NF ∧ kc + 1 ≤ RC ∧ ks + n.toNatClampNeg ≤ RS ∧ n.toNatClampNeg ≤ 60000 then k (pc + 2, L, .ref S.length :: r, S ++ [.inr (r1, n.toNatClampNeg)], ga_z σ S.length, kc + 1, ks + n.toNatClampNeg) else none
      | .invokevirtual _ => ga_rv S st r2 sw (if kc + (cost r1).1 ≤ RC ∧ ks + (cost r1).2 ≤ RS then ga_call K0 g hnd NF pc r1 r2 L st S σ fun pc L st S σ => k (pc, L, st, S, σ, kc + (cost r1).1, ks + (cost r1).2) else none)
      | .invokestatic _ => if kc + (cost r1).1 ≤ RC ∧ ks + (cost r1).2 ≤ RS then ga_call K0 g hnd NF pc r1 r2 L st S σ fun pc L st S σ => k (pc, L, st, S, σ, kc + (cost r1).1, ks + (cost r1).2) else none
      | .invokespecial _ => if r1 = 0 then (ga_a1 st fun _ r => if r.length ≤ 4 then k (pc + 3, L, r, S, σ, kc, ks) else none)
          else if kc + (cost r1).1 ≤ RC ∧ ks + (cost r1).2 ≤ RS then ga_call K0 g hnd NF pc r1 r2 L st S σ fun pc L st S σ => k (pc, L, st, S, σ, kc + (cost r1).1, ks + (cost r1).2) else none
      | .ireturn => ga_rI K0 st S σ
      | .lreturn => ga_rJ K0 st S σ
      | .dreturn => ga_rD K0 st S σ
      | .areturn => ga_rA K0 st S σ
      | .return_ => ga_rV K0 st S σ
      | _ => none
/-- steps up to a stop -/
def ga_ev (step : ga_C → (ga_C → Option α) → Option α) (sp : ga_C → Option (Option α)) : Nat → ga_C → Option α
  | 0, _ => none
  | n + 1, cfg => match sp cfg with
    | some r => r
    | none => step cfg (ga_ev step sp n)
end GA0
end
section
section GA1
/-! the machine's cells in the heap -/
def ga_fv (ad : Nat → Nat) (σ : ga_M) (n k : Nat) (f : ga_F) : Value := match f with
  | none => .int (σ n k)
  | some none => .null
  | some (some j) => .ref (ad j)
def ga_cl (cA : Nat → ClassId) (ad : Nat → Nat) (σ : ga_M) (n : Nat) (sh : ga_Sh) : Nat × va_E := (ad n, match sh with
  | .inl o => .inr (o.1, o.2.mapIdx fun k f => ga_fv ad σ n k f)
  | .inr a => .inl (cA a.1, a.2, if a.1 = 2 then .inr (.inl fun i => (σ n i).toInt64) else .inl (σ n)))
def ga_w (cA : Nat → ClassId) (ad : Nat → Nat) (S : ga_S) (σ : ga_M) : va_W := S.mapIdx fun n sh => ga_cl cA ad σ n sh
def ga_v (ad : Nat → Nat) : Value → Value
  | .ref k => .ref (ad k)
  | v => v
def ga_I (D : va_G) (cA : Nat → ClassId) (A : Nat → Prop) (H0 : Heap) (ad : Nat → Nat) (NF : Nat) (S : ga_S) (σ : ga_M) (H : Heap) (locs : List Loc) : Prop :=
  va_P D vwCl (ga_w cA ad S σ) H ∧ va_D A (ga_w cA ad S σ) ∧ va_S A H0 H locs ∧ (S.length < NF → H.size = ad S.length)
def ga_L (ad : Nat → Nat) (ls : Array Slot) (nL : Nat) (L : ga_Lo) : Prop := L.length = nL ∧ ls.size = nL ∧ lv_wf ls ∧ ∀ (i : Nat) (v : Value), L[i]? = some (some v) → ls[i]? = some (Slot.val (ga_v ad v))
variable {cA : Nat → ClassId} {ad : Nat → Nat} {S : ga_S} {σ : ga_M}
theorem ga_v_cat (ad : Nat → Nat) (v : Value) : (ga_v ad v).category = v.category := by cases v <;> rfl
theorem ga_w_at {n : Nat} {sh : ga_Sh} (h : S[n]? = some sh) : (ga_w cA ad S σ)[n]? = some (ga_cl cA ad σ n sh) := by
  simp [ga_w, List.getElem?_mapIdx, h]
theorem ga_up_ne {n i j : Nat} {x : Int32} (h : j ≠ n) : ga_up σ n i x j = σ j := by simp [ga_up, h]
theorem ga_up_self {n i : Nat} {x : Int32} : ga_up σ n i x n = upd (σ n) i x := by simp [ga_up]
theorem ga_z_ne {n j : Nat} (h : j ≠ n) : ga_z σ n j = σ j := by simp [ga_z, h]
theorem ga_z_self {n : Nat} : ga_z σ n n = fun _ => 0 := by simp [ga_z]
theorem ga_cl_ne {n i j : Nat} {x : Int32} {sh : ga_Sh} (h : j ≠ n) : ga_cl cA ad (ga_up σ n i x) j sh = ga_cl cA ad σ j sh := by
  have e : ∀ k f, ga_fv ad (ga_up σ n i x) j k f = ga_fv ad σ j k f := fun k f => by
    cases f with
    | none => simp [ga_fv, ga_up_ne h]
    | some r => cases r <;> rfl
  cases sh with
  | inl o => simp only [ga_cl, e]
  | inr a => simp only [ga_cl, ga_up_ne h]
theorem ga_w_set {n : Nat} {sh : ga_Sh} {S' : ga_S} {σ' : ga_M} {q : va_E} (h : S[n]? = some sh) (hS : ∀ j, j ≠ n → S'[j]? = S[j]?) (hσ : ∀ j sh, j ≠ n → ga_cl cA ad σ' j sh = ga_cl cA ad σ j sh) {sh' : ga_Sh} (h' : S'[n]? = some sh') (hq : ga_cl cA ad σ' n sh' = (ad n, q)) :
    (ga_w cA ad S σ).set n (ad n, q) = ga_w cA ad S' σ' := by
  apply List.ext_getElem?
  intro j
  have hl : n < (ga_w cA ad S σ).length := by
    have := (List.getElem?_eq_some_iff.mp h).1
    simpa [ga_w] using this
  by_cases hj : j = n
  · subst hj
    rw [List.getElem?_set_self hl, ga_w_at h', hq]
  · rw [List.getElem?_set_ne (Ne.symm hj)]
    simp only [ga_w, List.getElem?_mapIdx]
    rw [hS j hj]
    cases S[j]? with
    | none => rfl
    | some sh => simp [hσ j sh hj]
theorem ga_w_setI {n i : Nat} {o : Nat × List ga_F} {x : Int32} (h : S[n]? = some (.inl o)) (hi : o.2[i]? = some none) :
    (ga_w cA ad S σ).set n (ad n, .inr (o.1, (o.2.mapIdx fun k f => ga_fv ad σ n k f).set i (.int x))) = ga_w cA ad S (ga_up σ n i x) := by
  refine ga_w_set h (fun _ _ => rfl) (fun j sh hj => ga_cl_ne hj) h ?_
  show (ad n, (Sum.inr (o.1, o.2.mapIdx fun k f => ga_fv ad (ga_up σ n i x) n k f) : va_E)) = _
  have : (o.2.mapIdx fun k f => ga_fv ad (ga_up σ n i x) n k f) = (o.2.mapIdx fun k f => ga_fv ad σ n k f).set i (.int x) := by
    apply List.ext_getElem?
    intro j
    have hl : i < (o.2.mapIdx fun k f => ga_fv ad σ n k f).length := by
      have := (List.getElem?_eq_some_iff.mp hi).1
      simpa using this
    by_cases hj : j = i
    · subst hj
      rw [List.getElem?_set_self hl]
      simp [List.getElem?_mapIdx, hi, ga_fv, ga_up_self, upd]
    · rw [List.getElem?_set_ne (Ne.symm hj)]
      simp only [List.getElem?_mapIdx]
      cases o.2[j]? with
      | none => rfl
      | some f => cases f with
        | none => simp [ga_fv, ga_up_self, upd, hj]
        | some r => cases r <;> rfl
  rw [this]
theorem ga_w_setR {n i j : Nat} {o : Nat × List ga_F} (h : S[n]? = some (.inl o)) (hi : i < o.2.length) :
    (ga_w cA ad S σ).set n (ad n, .inr (o.1, (o.2.mapIdx fun k f => ga_fv ad σ n k f).set i (.ref (ad j)))) = ga_w cA ad (S.set n (.inl (o.1, o.2.set i (some (some j))))) σ := by
  have hl := (List.getElem?_eq_some_iff.mp h).1
  refine ga_w_set h (fun j hj => by rw [List.getElem?_set_ne (Ne.symm hj)]) (fun j sh hj => rfl) (sh' := .inl (o.1, o.2.set i (some (some j)))) (by rw [List.getElem?_set_self hl]) ?_
  show (ad n, (Sum.inr (o.1, (o.2.set i (some (some j))).mapIdx fun k f => ga_fv ad σ n k f) : va_E)) = _
  have : ((o.2.set i (some (some j))).mapIdx fun k f => ga_fv ad σ n k f) = (o.2.mapIdx fun k f => ga_fv ad σ n k f).set i (.ref (ad j)) := by
    apply List.ext_getElem?
    intro k
    have hl2 : i < (o.2.mapIdx fun k f => ga_fv ad σ n k f).length := by simpa using hi
    by_cases hj : k = i
    · subst hj
      have e1 := List.getElem?_set_self (a := Value.ref (ad j)) hl2
      rw [e1, List.getElem?_mapIdx, List.getElem?_set_self hi]
      rfl
    · rw [List.getElem?_set_ne (Ne.symm hj)]
      simp only [List.getElem?_mapIdx, List.getElem?_set_ne (Ne.symm hj)]
  rw [this]
theorem ga_w_setA {n i kd len : Nat} {x : Int32} (h : S[n]? = some (.inr (kd, len))) (hk : kd ≠ 2) :
    (ga_w cA ad S σ).set n (ad n, .inl (cA kd, len, .inl (upd (σ n) i x))) = ga_w cA ad S (ga_up σ n i x) := by
  refine ga_w_set h (fun _ _ => rfl) (fun j sh hj => ga_cl_ne hj) h ?_
  simp [ga_cl, hk, ga_up_self]
theorem ga_w_setJ {n i len : Nat} {x : Int32} (h : S[n]? = some (.inr (2, len))) :
    (ga_w cA ad S σ).set n (ad n, .inl (cA 2, len, .inr (.inl (vp_updL (fun i => (σ n i).toInt64) i x.toInt64)))) = ga_w cA ad S (ga_up σ n i x) := by
  refine ga_w_set h (fun _ _ => rfl) (fun j sh hj => ga_cl_ne hj) h ?_
  have : (fun j => (upd (σ n) i x j).toInt64) = vp_updL (fun i => (σ n i).toInt64) i x.toInt64 := by
    funext j
    by_cases hj : j = i <;> simp [upd, vp_updL, hj]
  simp [ga_cl, ga_up_self, this]
theorem ga_w_push {sh : ga_Sh} : ga_w cA ad S σ ++ [ga_cl cA ad (ga_z σ S.length) S.length sh] = ga_w cA ad (S ++ [sh]) (ga_z σ S.length) := by
  have e : ∀ j (sh : ga_Sh), j ≠ S.length → ga_cl cA ad (ga_z σ S.length) j sh = ga_cl cA ad σ j sh := fun j sh hj => by
    have e2 : ∀ k f, ga_fv ad (ga_z σ S.length) j k f = ga_fv ad σ j k f := fun k f => by
      cases f with
      | none => simp [ga_fv, ga_z_ne hj]
      | some r => cases r <;> rfl
    cases sh with
    | inl o => simp only [ga_cl, e2]
    | inr a => simp only [ga_cl, ga_z_ne hj]
  apply List.ext_getElem?
  intro j
  by_cases hj : j < S.length
  · rw [List.getElem?_append_left (by simpa [ga_w] using hj)]
    simp only [ga_w, List.getElem?_mapIdx]
    rw [List.getElem?_append_left hj]
    cases S[j]? with
    | none => rfl
    | some sh => simp [e j sh (by omega)]
  · by_cases hj2 : j = S.length
    · subst hj2
      rw [List.getElem?_append_right (by simp [ga_w])]
      simp [ga_w, List.getElem?_mapIdx]
    · rw [List.getElem?_append_right (by simp [ga_w]; omega), List.getElem?_eq_none (by simp [ga_w]; omega)]
      rw [List.getElem?_eq_none (by simp [ga_w]; omega)]
end GA1
end
section
section GA2
variable {α : Type}
/-! what each small word says -/
theorem ga_pI_s {sw : List (Int32 × Nat)} {k : Int32 → Option α} {o : α} (h : ga_pI sw k = some o) : ∃ q r, sw = q :: r ∧ k q.1 = some o := by
  cases sw with
  | nil => cases h
  | cons q r => exact ⟨q, r, rfl, h⟩
theorem ga_ldc_s {sw : List (Int32 × Nat)} {r1 : Nat} {k : Value → Option α} {o : α} (h : ga_ldc sw r1 k = some o) : (sw = [] ∧ k (.ref r1) = some o) ∨ ∃ q r, sw = q :: r ∧ k (.int q.1) = some o := by
  cases sw with
  | nil => exact Or.inl ⟨rfl, h⟩
  | cons q r => exact Or.inr ⟨q, r, rfl, h⟩
theorem ga_iL_s {L : ga_Lo} {i : Nat} {k : Int32 → Option α} {o : α} (h : ga_iL L i k = some o) : ∃ x, L[i]? = some (some (.int x)) ∧ k x = some o := by
  unfold ga_iL at h
  split at h
  · exact ⟨_, ‹_›, h⟩
  · cases h
theorem ga_jL_s {L : ga_Lo} {i : Nat} {k : Int64 → Option α} {o : α} (h : ga_jL L i k = some o) : ∃ x, L[i]? = some (some (.long x)) ∧ k x = some o := by
  unfold ga_jL at h
  split at h
  · exact ⟨_, ‹_›, h⟩
  · cases h
theorem ga_dL_s {L : ga_Lo} {i : Nat} {k : UInt64 → Option α} {o : α} (h : ga_dL L i k = some o) : ∃ x, L[i]? = some (some (.double x)) ∧ k x = some o := by
  unfold ga_dL at h
  split at h
  · exact ⟨_, ‹_›, h⟩
  · cases h
theorem ga_aL_s {L : ga_Lo} {i : Nat} {k : Nat → Option α} {o : α} (h : ga_aL L i k = some o) : ∃ x, L[i]? = some (some (.ref x)) ∧ k x = some o := by
  unfold ga_aL at h
  split at h
  · exact ⟨_, ‹_›, h⟩
  · cases h
theorem ga_i1_s {st : List Value} {k : Int32 → List Value → Option α} {o : α} (h : ga_i1 st k = some o) : ∃ x r, st = .int x :: r ∧ k x r = some o := by
  unfold ga_i1 at h
  split at h
  · exact ⟨_, _, rfl, h⟩
  · cases h
theorem ga_j1_s {st : List Value} {k : Int64 → List Value → Option α} {o : α} (h : ga_j1 st k = some o) : ∃ x r, st = .long x :: r ∧ k x r = some o := by
  unfold ga_j1 at h
  split at h
  · exact ⟨_, _, rfl, h⟩
  · cases h
theorem ga_d1_s {st : List Value} {k : UInt64 → List Value → Option α} {o : α} (h : ga_d1 st k = some o) : ∃ x r, st = .double x :: r ∧ k x r = some o := by
  unfold ga_d1 at h
  split at h
  · exact ⟨_, _, rfl, h⟩
  · cases h
theorem ga_a1_s {st : List Value} {k : Nat → List Value → Option α} {o : α} (h : ga_a1 st k = some o) : ∃ x r, st = .ref x :: r ∧ k x r = some o := by
  unfold ga_a1 at h
  split at h
  · exact ⟨_, _, rfl, h⟩
  · cases h
theorem ga_i2_s {st : List Value} {k : Int32 → Int32 → List Value → Option α} {o : α} (h : ga_i2 st k = some o) : ∃ x y r, st = .int y :: .int x :: r ∧ k x y r = some o := by
  obtain ⟨y, r1, e1, h1⟩ := ga_i1_s h
  obtain ⟨x, r2, e2, h2⟩ := ga_i1_s h1
  exact ⟨x, y, r2, by rw [e1, e2], h2⟩
theorem ga_j2_s {st : List Value} {k : Int64 → Int64 → List Value → Option α} {o : α} (h : ga_j2 st k = some o) : ∃ x y r, st = .long y :: .long x :: r ∧ k x y r = some o := by
  obtain ⟨y, r1, e1, h1⟩ := ga_j1_s h
  obtain ⟨x, r2, e2, h2⟩ := ga_j1_s h1
  exact ⟨x, y, r2, by rw [e1, e2], h2⟩
theorem ga_d2_s {st : List Value} {k : UInt64 → UInt64 → List Value → Option α} {o : α} (h : ga_d2 st k = some o) : ∃ x y r, st = .double y :: .double x :: r ∧ k x y r = some o := by
  obtain ⟨y, r1, e1, h1⟩ := ga_d1_s h
  obtain ⟨x, r2, e2, h2⟩ := ga_d1_s h1
  exact ⟨x, y, r2, by rw [e1, e2], h2⟩
theorem ga_u1_s {st : List Value} {k : Value → List Value → Option α} {o : α} (h : ga_u1 st k = some o) : ∃ v r, st = v :: r ∧ v.category = 1 ∧ k v r = some o := by
  unfold ga_u1 at h
  split at h
  · split at h
    · exact ⟨_, _, rfl, ‹_›, h⟩
    · cases h
  · cases h
theorem ga_oL_s {L : Option ga_Lo} {k : ga_Lo → Option α} {o : α} (h : ga_oL L k = some o) : ∃ L', L = some L' ∧ k L' = some o := by
  cases L with
  | none => cases h
  | some L => exact ⟨L, rfl, h⟩
theorem ga_fld_s {S : ga_S} {σ : ga_M} {n ci i : Nat} {k : Value → Option α} {o : α} (h : ga_fld S σ n ci i k = some o) : ∃ fs, S[n]? = some (.inl (ci, fs)) ∧ ((fs[i]? = some none ∧ k (.int (σ n i)) = some o) ∨ ∃ j, fs[i]? = some (some (some j)) ∧ k (.ref j) = some o) := by
  unfold ga_fld at h
  split at h
  · rename_i o1 ho
    split at h
    · rename_i hc
      obtain ⟨c, fs⟩ := o1
      cases hc
      refine ⟨fs, ho, ?_⟩
      split at h
      · exact Or.inl ⟨‹_›, h⟩
      · exact Or.inr ⟨_, ‹_›, h⟩
      · cases h
    · cases h
  · cases h
theorem ga_pfd_s {rf ini : Bool} {S : ga_S} {σ : ga_M} {n ci i : Nat} {v : Value} {k : ga_S → ga_M → Option α} {o : α} (h : ga_pfd rf ini S σ n ci i v k = some o) : ∃ fs, S[n]? = some (.inl (ci, fs)) ∧ ((∃ x, v = .int x ∧ fs[i]? = some none ∧ rf = false ∧ k S (ga_up σ n i x) = some o) ∨ ∃ j, v = .ref j ∧ fs[i]? = some (some none) ∧ rf = true ∧ ini = true ∧ j < S.length ∧ k (S.set n (.inl (ci, fs.set i (some (some j))))) σ = some o) := by
  unfold ga_pfd at h
  split at h
  · rename_i o1 ho
    split at h
    · rename_i hc
      obtain ⟨c, fs⟩ := o1
      cases hc
      refine ⟨fs, ho, ?_⟩
      split at h
      · split at h
        · cases h
        · rename_i hrf
          exact Or.inl ⟨_, rfl, ‹_›, by cases rf <;> simp_all, h⟩
      · split at h
        · rename_i hri
          split at h
          · exact Or.inr ⟨_, rfl, ‹_›, hri.1, hri.2, ‹_›, h⟩
          · cases h
        · cases h
      · cases h
    · cases h
  · cases h
theorem ga_arr_s {S : ga_S} {n kd : Nat} {k : Nat → Option α} {o : α} (h : ga_arr S n kd k = some o) : ∃ len, S[n]? = some (.inr (kd, len)) ∧ k len = some o := by
  unfold ga_arr at h
  split at h
  · rename_i a ha
    split at h
    · rename_i hc
      obtain ⟨c, len⟩ := a
      cases hc
      exact ⟨len, ha, h⟩
    · cases h
  · cases h
theorem ga_alen_s {S : ga_S} {scr : Option (Nat × Nat × (Nat → Int32))} {n : Nat} {k : Int32 → Option α} {o : α} (h : ga_alen S scr n k = some o) : (∃ kd len, S[n]? = some (.inr (kd, len)) ∧ kd < 3 ∧ k (Int32.ofNat len) = some o) ∨ ∃ q, scr = some q ∧ n = q.1 ∧ k (Int32.ofNat q.2.1) = some o := by
  unfold ga_alen at h
  split at h
  · split at h
    · exact Or.inl ⟨_, _, ‹_›, ‹_›, h⟩
    · cases h
  · cases h
  · split at h
    · split at h
      · exact Or.inr ⟨_, rfl, ‹_›, h⟩
      · cases h
    · cases h
theorem ga_iald_s {S : ga_S} {σ : ga_M} {scr : Option (Nat × Nat × (Nat → Int32))} {n : Nat} {i : Int32} {k : Int32 → Option α} {o : α} (h : ga_iald S σ scr n i k = some o) : (∃ len, S[n]? = some (.inr (0, len)) ∧ vp_in i len ∧ k (σ n i.toNatClampNeg) = some o) ∨ ∃ q, scr = some q ∧ n = q.1 ∧ vp_in i q.2.1 ∧ k (q.2.2 i.toNatClampNeg) = some o := by
  unfold ga_iald at h
  split at h
  · rename_i a ha
    split at h
    · rename_i hc
      obtain ⟨c, len⟩ := a
      cases hc
      split at h
      · cases h
      · exact Or.inl ⟨len, ha, ‹_›, h⟩
    · cases h
  · cases h
  · split at h
    · split at h
      · split at h
        · cases h
        · exact Or.inr ⟨_, rfl, ‹_›, ‹_›, h⟩
      · cases h
    · cases h
theorem ga_hn_s {k0 : Option α} {k : Nat × Nat → Option α} {E : Nat} {o : α} : ∀ {hn : ga_H}, ga_hn k0 k E hn = some o → ((∀ q ∈ hn, E ≠ q.1) ∧ k0 = some o) ∨ ∃ (pre : ga_H) (q : Nat × Nat × Nat) (suf : ga_H), hn = pre ++ q :: suf ∧ (∀ z ∈ pre, E ≠ z.1) ∧ E = q.1 ∧ k q.2 = some o
  | [], h => Or.inl ⟨fun _ hq => (by cases hq), h⟩
  | q :: r, h => by
    unfold ga_hn at h
    split at h
    · exact Or.inr ⟨[], q, r, rfl, fun _ hq => (by cases hq), ‹_›, h⟩
    · rename_i hx
      rcases ga_hn_s h with ⟨h1, h2⟩ | ⟨pre, q1, suf, rfl, h2, h3, h4⟩
      · exact Or.inl ⟨fun q1 hq => by
          rcases List.mem_cons.mp hq with e | e
          · rw [e]; exact hx
          · exact h1 q1 e, h2⟩
      · exact Or.inr ⟨q :: pre, q1, suf, rfl, fun z hz => by
          rcases List.mem_cons.mp hz with e | e
          · rw [e]; exact hx
          · exact h2 z e, h3, h4⟩
theorem ga_rv_s {S : ga_S} {st : List Value} {na : Nat} {sw : List (Int32 × Nat)} {k : Option α} {o : α} (h : ga_rv S st na sw k = some o) : k = some o ∧ ∀ q r' as r, sw = q :: r' → st = as.reverse ++ r → as.length = na → ∃ n fs as', as = .ref n :: as' ∧ S[n]? = some (.inl (q.2, fs)) := by
  unfold ga_rv at h
  split at h
  · exact ⟨h, fun q r' as r e => (by cases e)⟩
  · rename_i q sw'
    split at h
    · cases h
    · rename_i m
      split at h
      · rename_i n st' hst
        split at h
        · rename_i o1 hS
          split at h
          · rename_i hq
            refine ⟨h, fun q1 r' as r e e2 e3 => ?_⟩
            cases e
            cases as with
            | nil => cases e3
            | cons a as' =>
              have h1 : as'.length = m := by simpa using e3
              subst e2
              rw [List.reverse_cons, List.append_assoc, List.drop_append_of_le_length (by simp [h1]), List.drop_eq_nil_of_le (by simp [h1])] at hst
              simp only [List.nil_append, List.singleton_append, List.cons.injEq] at hst
              exact ⟨n, o1.2, as', by rw [hst.1], by rw [hS, ← hq]⟩
          · cases h
        · cases h
      · cases h
theorem ga_call_s {K0 : ga_O → Option α} {g : ga_G} (hgc : ∀ (α : Type) mid as S σ (k : ga_O → Option α) o, g α mid as S σ k = some o → ∃ o1, g ga_O mid as S σ some = some o1 ∧ k o1 = some o) {hnd : Nat → ga_H} {NF pc mid na : Nat} {L : ga_Lo} {st : List Value} {S : ga_S} {σ : ga_M} {k : Nat → ga_Lo → List Value → ga_S → ga_M → Option α} {o : α} (h : ga_call K0 g hnd NF pc mid na L st S σ k = some o) :
    ∃ as r, st = as.reverse ++ r ∧ as.length = na ∧ (r.map fun v => v.category).sum ≤ 8 ∧ ((∃ v S1 σ1, g ga_O mid as S σ some = some (.inl v, S1, σ1) ∧ k (pc + 3) L (v.toList ++ r) S1 σ1 = some o) ∨ ∃ E S1 σ1, g ga_O mid as S σ some = some (.inr E, S1, σ1) ∧ (((∀ q ∈ hnd pc, E ≠ q.1) ∧ K0 (.inr E, S1, σ1) = some o) ∨ ∃ (pre : ga_H) (q : Nat × Nat × Nat) (suf : ga_H), (hnd pc = pre ++ q :: suf ∧ (∀ z ∈ pre, E ≠ z.1) ∧ E = q.1) ∧ ¬ S1.length < NF ∧ k q.2.1 (L.set q.2.2 none) [] S1 σ1 = some o)) := by
  unfold ga_call at h
  split at h
  · rename_i hn
    split at h
    · rename_i hr
      refine ⟨(st.take na).reverse, st.drop na, by simp, by simp; omega, hr, ?_⟩
      obtain ⟨o1, h1, h2⟩ := hgc _ _ _ _ _ _ _ h
      obtain ⟨r1, S1, σ1⟩ := o1
      cases r1 with
      | inl v => exact Or.inl ⟨v, S1, σ1, h1, h2⟩
      | inr E =>
        refine Or.inr ⟨E, S1, σ1, h1, ?_⟩
        rcases ga_hn_s h2 with ⟨h3, h4⟩ | ⟨pre, q, suf, h3, h4, h5, h6⟩
        · exact Or.inl ⟨h3, h4⟩
        · split at h6
          · cases h6
          · exact Or.inr ⟨pre, q, suf, ⟨h3, h4, h5⟩, ‹_›, h6⟩
    · cases h
  · cases h
theorem ga_sw_s {k : Nat → Option α} {x : Int32} {d : Nat} {o : α} : ∀ {sw : List (Int32 × Nat)}, ga_sw k x d sw = some o → (∃ (i : Nat) (q : Int32 × Nat), sw[i]? = some q ∧ x = q.1 ∧ (∀ (j : Nat) (r : Int32 × Nat), j < i → sw[j]? = some r → x ≠ r.1) ∧ k q.2 = some o) ∨ ((∀ q ∈ sw, x ≠ q.1) ∧ k d = some o)
  | [], h => Or.inr ⟨fun _ hq => (by cases hq), h⟩
  | q :: r, h => by
    unfold ga_sw at h
    split at h
    · exact Or.inl ⟨0, q, rfl, ‹_›, fun j _ hj => absurd hj (Nat.not_lt_zero j), h⟩
    · rename_i hx
      rcases ga_sw_s h with ⟨i, q1, h1, h2, h4, h3⟩ | ⟨h1, h2⟩
      · refine Or.inl ⟨i + 1, q1, h1, h2, fun j rr hj hr => ?_, h3⟩
        cases j with
        | zero => cases hr; exact hx
        | succ j => exact h4 j rr (by omega) hr
      · exact Or.inr ⟨fun q1 hq => by
          rcases List.mem_cons.mp hq with e | e
          · rw [e]; exact hx
          · exact h1 q1 e, h2⟩
theorem ga_rI_s {K0 : ga_O → Option α} {st : List Value} {S : ga_S} {σ : ga_M} {o : α} (h : ga_rI K0 st S σ = some o) : ∃ x, st = [.int x] ∧ K0 (.inl (some (.int x)), S, σ) = some o := by
  unfold ga_rI at h
  split at h
  · exact ⟨_, rfl, h⟩
  · cases h
theorem ga_rJ_s {K0 : ga_O → Option α} {st : List Value} {S : ga_S} {σ : ga_M} {o : α} (h : ga_rJ K0 st S σ = some o) : ∃ x, st = [.long x] ∧ K0 (.inl (some (.long x)), S, σ) = some o := by
  unfold ga_rJ at h
  split at h
  · exact ⟨_, rfl, h⟩
  · cases h
theorem ga_rD_s {K0 : ga_O → Option α} {st : List Value} {S : ga_S} {σ : ga_M} {o : α} (h : ga_rD K0 st S σ = some o) : ∃ x, st = [.double x] ∧ K0 (.inl (some (.double x)), S, σ) = some o := by
  unfold ga_rD at h
  split at h
  · exact ⟨_, rfl, h⟩
  · cases h
theorem ga_rA_s {K0 : ga_O → Option α} {st : List Value} {S : ga_S} {σ : ga_M} {o : α} (h : ga_rA K0 st S σ = some o) : ∃ x, st = [.ref x] ∧ K0 (.inl (some (.ref x)), S, σ) = some o := by
  unfold ga_rA at h
  split at h
  · exact ⟨_, rfl, h⟩
  · cases h
theorem ga_rV_s {K0 : ga_O → Option α} {st : List Value} {S : ga_S} {σ : ga_M} {o : α} (h : ga_rV K0 st S σ = some o) : st = [] ∧ K0 (.inl none, S, σ) = some o := by
  unfold ga_rV at h
  split at h
  · exact ⟨rfl, h⟩
  · cases h
/-! locals -/
def ga_lp (ad : Nat → Nat) (L : ga_Lo) : List (Nat × Value) := (List.range L.length).filterMap fun i => match L[i]? with
  | some (some v) => some (i, ga_v ad v)
  | _ => none
theorem ga_lp_mem {ad : Nat → Nat} {L : ga_Lo} {i : Nat} {v : Value} (h : L[i]? = some (some v)) : (i, ga_v ad v) ∈ ga_lp ad L := by
  refine List.mem_filterMap.mpr ⟨i, List.mem_range.mpr (List.getElem?_eq_some_iff.mp h).1, ?_⟩
  simp [h]
theorem ga_lp_of {ad : Nat → Nat} {L : ga_Lo} {q : Nat × Value} (h : q ∈ ga_lp ad L) : ∃ v, L[q.1]? = some (some v) ∧ q.2 = ga_v ad v := by
  obtain ⟨i, -, h2⟩ := List.mem_filterMap.mp h
  split at h2
  · rename_i v hv
    cases h2
    exact ⟨v, hv, rfl⟩
  · cases h2
theorem ga_L.has {ad : Nat → Nat} {ls : Array Slot} {nL : Nat} {L : ga_Lo} (h : ga_L ad ls nL L) : lv_has ls nL (ga_lp ad L) := by
  refine ⟨h.2.1, h.2.2.1, fun q hq => ?_⟩
  obtain ⟨v, h1, h2⟩ := ga_lp_of hq
  rw [h2]
  exact h.2.2.2 _ _ h1
/-- no value of two slots among the locals -/
def ga_lf (lf : Bool) (L : ga_Lo) : Prop := lf = true → ∀ (i : Nat) (v : Value), L[i]? = some (some v) → ¬ v.category = 2
theorem ga_lf_set {lf : Bool} {L : ga_Lo} {i : Nat} {v : Option Value} (h : ga_lf lf L) (hv : ∀ w, v = some w → ¬ w.category = 2) : ga_lf lf (L.set i v) := by
  intro hl j w hj
  by_cases e : j = i
  · subst e
    have hlt := (List.getElem?_eq_some_iff.mp hj).1
    rw [List.length_set] at hlt
    rw [List.getElem?_set_self hlt] at hj
    exact hv w (Option.some.inj hj)
  · rw [List.getElem?_set_ne (Ne.symm e)] at hj
    exact h hl j w hj
theorem ga_s1_i {lf : Bool} {L L' : ga_Lo} {i : Nat} {v : Value} (hf : ga_lf lf L) (h : ga_s1 lf L i v = some L') : i < L.length ∧ L' = L.set i (some v) ∧ ∀ (j : Nat) (w : Value), j + 1 = i → L[j]? = some (some w) → ¬ w.category = 2 := by
  unfold ga_s1 at h
  split at h
  · rename_i hi
    cases lf with
    | true =>
      simp only [Bool.false_eq_true, if_false] at h
      exact ⟨hi, (Option.some.inj h).symm, fun j w hj hw => hf rfl j w hw⟩
    | false =>
      rcases (show (ga_pre L i = true ∧ (none : Option ga_Lo) = some L') ∨ (¬ ga_pre L i = true ∧ some (L.set i (some v)) = some L') by
        simp only at h
        split at h
        · exact Or.inl ⟨‹_›, h⟩
        · exact Or.inr ⟨‹_›, h⟩) with ⟨hc, h⟩ | ⟨hc, h⟩
      · cases h
      · refine ⟨hi, (Option.some.inj h).symm, fun j w hj hw z => hc ?_⟩
        subst hj
        show ga_cat2 L j = true
        unfold ga_cat2
        rw [hw]
        cases w <;> simp_all [Value.category]
  · cases h
theorem ga_s2_i {lf : Bool} {L L' : ga_Lo} {i : Nat} {v : Value} (h : ga_s2 lf L i v = some L') : lf = false ∧ i + 1 < L.length ∧ L' = (L.set i (some v)).set (i + 1) none ∧ ∀ (j : Nat) (w : Value), j + 1 = i → L[j]? = some (some w) → ¬ w.category = 2 := by
  unfold ga_s2 at h
  split at h
  · rename_i hi
    split at h
    · cases h
    · rename_i hc
      simp only [Bool.or_eq_true, not_or] at hc
      refine ⟨by cases lf <;> simp_all, hi, (Option.some.inj h).symm, fun j w hj hw z => hc.2 ?_⟩
      subst hj
      show ga_cat2 L j = true
      unfold ga_cat2
      rw [hw]
      cases w <;> simp_all [Value.category]
  · cases h
theorem ga_st1 {ad : Nat → Nat} {ls ls' : Array Slot} {nL i : Nat} {L L' : ga_Lo} {v : Value} {lf : Bool} (hf : ga_lf lf L) (hL : ga_L ad ls nL L) (hs : ga_s1 lf L i v = some L') (h : lv_has ls' nL ((i, ga_v ad v) :: (ga_lp ad L).filter (fun q => !(q.1 == i) && !(q.1 + 1 == i && q.2.category == 2)))) : ga_L ad ls' nL L' := by
  obtain ⟨hi, rfl, hc⟩ := ga_s1_i hf hs
  refine ⟨by rw [List.length_set]; exact hL.1, h.1, h.2.1, fun j w hj => ?_⟩
  by_cases e : j = i
  · subst e
    rw [List.getElem?_set_self hi] at hj
    cases hj
    exact h.2.2 _ List.mem_cons_self
  · rw [List.getElem?_set_ne (Ne.symm e)] at hj
    refine h.2.2 (j, ga_v ad w) (List.mem_cons_of_mem _ (List.mem_filter.mpr ⟨ga_lp_mem hj, ?_⟩))
    have h2 : ¬ (j + 1 = i ∧ w.category = 2) := fun z => hc j w z.1 hj z.2
    simp only [ga_v_cat]
    simp only [Bool.and_eq_true, Bool.not_eq_true', beq_eq_false_iff_ne, Bool.and_eq_false_imp, beq_iff_eq]
    exact ⟨e, fun z z2 => h2 ⟨z, z2⟩⟩
theorem ga_st2 {ad : Nat → Nat} {ls ls' : Array Slot} {nL i : Nat} {L L' : ga_Lo} {v : Value} {lf : Bool} (hL : ga_L ad ls nL L) (hs : ga_s2 lf L i v = some L') (h : lv_has ls' nL ((i, ga_v ad v) :: (ga_lp ad L).filter (fun q => !(q.1 == i) && (!(q.1 == i + 1) && !(q.1 + 1 == i && q.2.category == 2))))) : ga_L ad ls' nL L' := by
  obtain ⟨-, hi, rfl, hc⟩ := ga_s2_i hs
  refine ⟨by rw [List.length_set, List.length_set]; exact hL.1, h.1, h.2.1, fun j w hj => ?_⟩
  by_cases e1 : j = i + 1
  · subst e1
    rw [List.getElem?_set_self (by rw [List.length_set]; exact hi)] at hj
    cases hj
  · rw [List.getElem?_set_ne (Ne.symm e1)] at hj
    by_cases e : j = i
    · subst e
      rw [List.getElem?_set_self (by omega)] at hj
      cases hj
      exact h.2.2 _ List.mem_cons_self
    · rw [List.getElem?_set_ne (Ne.symm e)] at hj
      refine h.2.2 (j, ga_v ad w) (List.mem_cons_of_mem _ (List.mem_filter.mpr ⟨ga_lp_mem hj, ?_⟩))
      have h2 : ¬ (j + 1 = i ∧ w.category = 2) := fun z => hc j w z.1 hj z.2
      simp only [ga_v_cat]
      simp only [Bool.and_eq_true, Bool.not_eq_true', beq_eq_false_iff_ne, Bool.and_eq_false_imp, beq_iff_eq]
      exact ⟨e, e1, fun z z2 => h2 ⟨z, z2⟩⟩
theorem ga_catsum (ad : Nat → Nat) (r : List Value) : ((r.map (ga_v ad)).map fun v => v.category).sum ≤ 2 * r.length := by
  induction r with
  | nil => exact Nat.le_refl _
  | cons v r ih =>
    have h1 : (ga_v ad v).category ≤ 2 := by rcases lv_cat (ga_v ad v) with h | h <;> omega
    simp only [List.map_cons, List.sum_cons, List.length_cons]
    omega
theorem ga_L.at {ad : Nat → Nat} {ls : Array Slot} {nL i : Nat} {L : ga_Lo} {v : Value} (h : ga_L ad ls nL L) (hi : L[i]? = some (some v)) : ls[i]? = some (Slot.val (ga_v ad v)) := h.2.2.2 i v hi
end GA2
end
section
section GA3
variable {p : Program} {l : Launch} {e : Env} {R : Room} {s : State} {m : MethodId} {args : Array Value} {below : List Frame} {meth : Method} {c : Code} {H : Heap} {locs : List Loc} {cells slots : Nat} {Q : State → Prop}
variable {cc : ByteArray} {pc : Nat} {ls : Array Slot} {rest : List Value} {D : va_G} {A : Nat → Prop} {tys : List (ClassId × FieldType)} {H0 : Heap}
variable {cA : Nat → ClassId} {ad : Nat → Nat} {NF : Nat} {S : ga_S} {σ : ga_M}
/-- what is known of a field of a class: its row in the tables -/
def ga_Fg (own : String) (args : Array Value) (s : State) (Ts : List Cond) (idx ci k : Nat) : Prop :=
  ∃ (C : String) (T : u_T) (N : Nat), vwCl[ci]? = some (C, T, N) ∧ k < N ∧ (Cond.fieldLink own idx (T k).1 (T k).2.1 (T k).2.2.1).before args s = true ∧ (∀ w ∈ u_ws C T N, w ∈ Ts)
def ga_Fd (own : String) (args : Array Value) (s : State) (Ts : List Cond) (idx ci k : Nat) : Prop :=
  ∃ (C : String) (T : u_T) (N : Nat) (ty : Nat → FieldType), vwCl[ci]? = some (C, T, N) ∧ k < N ∧ (Cond.fieldLink own idx (T k).1 (T k).2.1 (T k).2.2.1).before args s = true ∧ (∀ w ∈ u_ws C T N, w ∈ Ts) ∧
    (∀ j, j < N → parseFieldDescriptor (T j).2.2.1 = some (ty j)) ∧ (∀ a, a < N → ∀ b, b < N → a ≠ b → (T a).2.1 ≠ (T b).2.1) ∧ ((T k).2.2.2 = false → ty k = .int) ∧ ((T k).2.2.2 = true → (T k).1 = own ∧ ∀ a, narrow (ty k) (.ref a) = .ref a ∧ fits (ty k) (.ref a) = true)
theorem ga_get (hexec : p.tables.exec = Jvm.exec) (hb : c.code = cc) {own : String} {Ts : List Cond} {idx ci k n : Nat} {fs : List ga_F} {v : Value} (hts : ∀ w ∈ Ts, w.before args s = true) (hown : s.vm.findClass own = some m.cls) (hK : va_K D vwCl tys s) (hI : ga_I D cA A H0 ad NF S σ H locs) (hF : ga_Fg own args s Ts idx ci k)
    (hS : S[n]? = some (.inl (ci, fs))) {f : ga_F} (hk : fs[k]? = some f) (hv : ga_fv ad σ n k f = v) (hdg : decode cc pc = .ok (.getfield idx, 3))
    (kk : W p l e R s m args below meth c H locs cells slots Q (F0 m (pc + 3) ls (v :: rest))) : W p l e R s m args below meth c H locs cells slots Q (F0 m pc ls (.ref (ad n) :: rest)) := by
  obtain ⟨C, T, N, h1, h2, h3, h4⟩ := hF
  refine va_get (D := D) (cl := vwCl) (ci := ci) (fs := fs.mapIdx fun k f => ga_fv ad σ n k f) hexec hb hts h4 hown hK hI.1 n (ga_w_at hS) h1 k h2 h3 (fun _ h => h) ?_ hdg kk
  simp [List.getElem?_mapIdx, hk, hv]
theorem ga_putI (hexec : p.tables.exec = Jvm.exec) (hb : c.code = cc) {own : String} {Ts : List Cond} {idx ci k n : Nat} {fs : List ga_F} {x : Int32} (hts : ∀ w ∈ Ts, w.before args s = true) (hown : s.vm.findClass own = some m.cls) (hK : va_K D vwCl tys s) (hI : ga_I D cA A H0 ad NF S σ H locs) (hF : ga_Fd own args s Ts idx ci k)
    (hfin : ∀ q, vwCl[ci]? = some q → (q.2.1 k).2.2.2 = false) (hS : S[n]? = some (.inl (ci, fs))) (hk : fs[k]? = some none) (hdg : decode cc pc = .ok (.putfield idx, 3))
    (kk : ∀ (H1 : Heap) (locs1 : List Loc), ga_I D cA A H0 ad NF S (ga_up σ n k x) H1 locs1 → W p l e R s m args below meth c H1 locs1 cells slots Q (F0 m (pc + 3) ls rest)) : W p l e R s m args below meth c H locs cells slots Q (F0 m pc ls (.int x :: .ref (ad n) :: rest)) := by
  obtain ⟨C, T, N, ty, hc, hkN, hlink, hin, hty, hnm, hi1, hi2⟩ := hF
  obtain ⟨hP, hD, hS0, hz⟩ := hI
  have hf : (T k).2.2.2 = false := hfin _ hc
  have he := ga_w_at (cA := cA) (ad := ad) (σ := σ) hS
  have hap := va_apart (own := own) hts hin ty hty hnm hK hc
  obtain ⟨r, h1, cell, q1, q2, q3, q4⟩ := hP n _ he
  have hr : r = (C, T, N) := Option.some.inj (h1.symm.trans hc)
  subst hr
  obtain ⟨hSl, hfc, kC, hkC, hkind⟩ := hK.1 ci _ hc
  obtain ⟨cf, kf, fi, f, hi, hsl⟩ := hSl k hkN
  have hlay := hts _ (hin _ (u_in_lay hkN))
  unfold u_lay at hlay
  rw [if_neg (by rw [hf]; decide)] at hlay
  have hst := (u_facts hfc hkC (u_lays hts hin hkN) hi).1
  have hd : parseFieldDescriptor (T k).2.2.1 = some .int := by rw [hty k hkN, hi1 hf]
  have h6 := u_store (v := .int x) hfc hkC hkind hlay hi hd rfl rfl
  refine W.putK hexec hb (f := f) ⟨hown, hlink, ⟨_, _, _, hi⟩, hst⟩ (by rw [q2]; exact h6) q1 q3 (by rw [hsl]; exact k2_hasslot (q4 k hkN)) rfl rfl hdg fun H' e1 e2 e3 => ?_
  rw [hsl] at e1 ⊢
  have hl : k < (fs.mapIdx fun k f => ga_fv ad σ n k f).length := by
    have := (List.getElem?_eq_some_iff.mp hk).1
    simpa using this
  have hP1 := hP.set (e := .inr (ci, (fs.mapIdx fun k f => ga_fv ad σ n k f).set k (.int x))) hD he ⟨_, hc, t_OB.to (V := updV (vp_V (fs.mapIdx fun k f => ga_fv ad σ n k f)) k (.int x)) ⟨_, e1, q2, q3, t_set q4 hap hkN (.int x)⟩ (fun j _ => vp_updV_set hl (.int x) j)⟩ e3
  have hD1 := hD.set (e := .inr (ci, (fs.mapIdx fun k f => ga_fv ad σ n k f).set k (.int x))) he
  rw [ga_w_setI (o := (ci, fs)) hS hk] at hP1 hD1
  exact kk H' _ ⟨hP1, hD1, hS0.put e2 e3 (hD.2 n _ he), fun h => by rw [e2]; exact hz h⟩
theorem ga_putR (hexec : p.tables.exec = Jvm.exec) (hb : c.code = cc) {own : String} {Ts : List Cond} {idx ci k n j : Nat} {fs : List ga_F} (hts : ∀ w ∈ Ts, w.before args s = true) (hown : s.vm.findClass own = some m.cls) (hK : va_K D vwCl tys s) (hI : ga_I D cA A H0 ad NF S σ H locs) (hF : ga_Fd own args s Ts idx ci k)
    (hfin : ∀ q, vwCl[ci]? = some q → (q.2.1 k).2.2.2 = true) (hin2 : meth.name = "<init>") (hS : S[n]? = some (.inl (ci, fs))) (hk : fs[k]? = some (some none)) (hdg : decode cc pc = .ok (.putfield idx, 3))
    (kk : ∀ (H1 : Heap) (locs1 : List Loc), ga_I D cA A H0 ad NF (S.set n (.inl (ci, fs.set k (some (some j))))) σ H1 locs1 → W p l e R s m args below meth c H1 locs1 cells slots Q (F0 m (pc + 3) ls rest)) : W p l e R s m args below meth c H locs cells slots Q (F0 m pc ls (.ref (ad j) :: .ref (ad n) :: rest)) := by
  obtain ⟨C, T, N, ty, hc, hkN, hlink, hin, hty, hnm, hi1, hi2⟩ := hF
  obtain ⟨hP, hD, hS0, hz⟩ := hI
  have hf : (T k).2.2.2 = true := hfin _ hc
  obtain ⟨hdecl, hnf⟩ := hi2 hf
  have he := ga_w_at (cA := cA) (ad := ad) (σ := σ) hS
  have hap := va_apart (own := own) hts hin ty hty hnm hK hc
  obtain ⟨r, h1, cell, q1, q2, q3, q4⟩ := hP n _ he
  have hr : r = (C, T, N) := Option.some.inj (h1.symm.trans hc)
  subst hr
  obtain ⟨hSl, hfc, kC, hkC, hkind⟩ := hK.1 ci _ hc
  obtain ⟨cf, kf, fi, f, hi, hsl⟩ := hSl k hkN
  have hlay := hts _ (hin _ (u_in_lay hkN))
  unfold u_lay at hlay
  rw [if_pos hf] at hlay
  have hst := (u_facts hfc hkC (u_lays hts hin hkN) hi).1
  have hcf : m.cls = cf := by
    obtain ⟨_, _, c', _, _, _, -, -, hf', -, -, -, hown2, -⟩ := Cond.laysFinal_spec hlay
    have e1 : c' = cf := by have := hi.symm.trans hf'; simp at this; exact this.1.symm
    rw [hdecl] at hown2
    rw [← e1]; exact Option.some.inj (hown.symm.trans hown2)
  have h6 := u_fits (v := .ref (ad j)) hfc hkC hkind (Or.inr hlay) hi (hty k hkN) (hnf _).1 (hnf _).2
  refine W.putFinK hexec hb hown hlink hi hst hcf hin2 (by rw [q2]; exact h6) q1 q3 (by rw [hsl]; exact k2_hasslot (q4 k hkN)) rfl rfl hdg fun H' e1 e2 e3 => ?_
  rw [hsl] at e1 ⊢
  have hlk := (List.getElem?_eq_some_iff.mp hk).1
  have hl : k < (fs.mapIdx fun k f => ga_fv ad σ n k f).length := by simpa using hlk
  have hP1 := hP.set (e := .inr (ci, (fs.mapIdx fun k f => ga_fv ad σ n k f).set k (.ref (ad j)))) hD he ⟨_, hc, t_OB.to (V := updV (vp_V (fs.mapIdx fun k f => ga_fv ad σ n k f)) k (.ref (ad j))) ⟨_, e1, q2, q3, t_set q4 hap hkN (.ref (ad j))⟩ (fun j _ => vp_updV_set hl _ j)⟩ e3
  have hD1 := hD.set (e := .inr (ci, (fs.mapIdx fun k f => ga_fv ad σ n k f).set k (.ref (ad j)))) he
  rw [ga_w_setR (o := (ci, fs)) hS hlk] at hP1 hD1
  exact kk H' _ ⟨hP1, hD1, hS0.put e2 e3 (hD.2 n _ he), fun h => by rw [e2]; exact hz (by rw [List.length_set] at h; exact h) ▸ by rw [List.length_set]⟩
/-- the kinds of arrays -/
abbrev ga_tys (cA : Nat → ClassId) : List (ClassId × FieldType) := [(cA 0, .int), (cA 1, .byte), (cA 2, .long)]
theorem ga_stA (hP : va_P D vwCl (ga_w cA ad S σ) H) (hD : va_D A (ga_w cA ad S σ)) {n kd len i : Nat} {x : Int32} (hS : S[n]? = some (.inr (kd, len))) (hkd : kd ≠ 2) {H1 : Heap} (e1 : H1[ad n]? = some ((arrV (cA kd) len (fun j => .int (σ n j))).setSlot i (.int x))) (e3 : ∀ q : Nat, q ≠ ad n → H1[q]? = H[q]?) :
    va_P D vwCl (ga_w cA ad S (ga_up σ n i x)) H1 ∧ va_D A (ga_w cA ad S (ga_up σ n i x)) := by
  have he := ga_w_at (cA := cA) (ad := ad) (σ := σ) hS
  have he2 : (ga_w cA ad S σ)[n]? = some (ad n, .inl (cA kd, len, .inl (σ n))) := by rw [he]; simp [ga_cl, hkd]
  have hP1 := hP.set (e := .inl (cA kd, len, .inl (upd (σ n) i x))) hD he2 (by
    show H1[ad n]? = some (vp_cell _ _)
    rw [e1, vp_cell_i, arrV_store]
    congr 1
    show arrV _ _ _ = arrV _ _ _
    congr 1
    funext j
    by_cases hj : j = i <;> simp [updV, upd, hj]) e3
  have hD1 := hD.set (e := .inl (cA kd, len, .inl (upd (σ n) i x))) he2
  rw [ga_w_setA hS hkd] at hP1 hD1
  exact ⟨hP1, hD1⟩
theorem ga_iast (hexec : p.tables.exec = Jvm.exec) (hb : c.code = cc) (hK : va_K D vwCl (ga_tys cA) s) (hI : ga_I D cA A H0 ad NF S σ H locs) {n len : Nat} (hS : S[n]? = some (.inr (0, len))) {i x : Int32} (hin : vp_in i len) (hdg : decode cc pc = .ok (.iastore, 1))
    (kk : ∀ (H1 : Heap) (locs1 : List Loc), ga_I D cA A H0 ad NF S (ga_up σ n i.toNatClampNeg x) H1 locs1 → W p l e R s m args below meth c H1 locs1 cells slots Q (F0 m (pc + 1) ls rest)) : W p l e R s m args below meth c H locs cells slots Q (F0 m pc ls (.int x :: .int i :: .ref (ad n) :: rest)) := by
  obtain ⟨hP, hD, hS0, hz⟩ := hI
  have he := ga_w_at (cA := cA) (ad := ad) (σ := σ) hS
  have hc : H[ad n]? = some (arrV (cA 0) len (fun j => .int (σ n j))) := hP n _ he
  refine W.iast hexec hb hc ((hK.2 0 _ rfl).1 len (fun j => .int (σ n j))) (fun q => by cases q) (by show ¬ (i < 0 ∨ (arrV _ _ _).slots.size ≤ _); rw [arrV_size]; exact hin) rfl rfl hdg fun H1 e z oq => ?_
  obtain ⟨hP1, hD1⟩ := ga_stA hP hD hS (by decide) e oq
  exact kk H1 _ ⟨hP1, hD1, hS0.put z oq (hD.2 n _ he), fun h => by rw [z]; exact hz h⟩
theorem ga_bast (hexec : p.tables.exec = Jvm.exec) (hb : c.code = cc) (hK : va_K D vwCl (ga_tys cA) s) (hI : ga_I D cA A H0 ad NF S σ H locs) {n len : Nat} (hS : S[n]? = some (.inr (1, len))) {i x : Int32} (hin : vp_in i len) (hdg : decode cc pc = .ok (.bastore, 1))
    (kk : ∀ (H1 : Heap) (locs1 : List Loc), ga_I D cA A H0 ad NF S (ga_up σ n i.toNatClampNeg x.toInt8.toInt32) H1 locs1 → W p l e R s m args below meth c H1 locs1 cells slots Q (F0 m (pc + 1) ls rest)) : W p l e R s m args below meth c H locs cells slots Q (F0 m pc ls (.int x :: .int i :: .ref (ad n) :: rest)) := by
  obtain ⟨hP, hD, hS0, hz⟩ := hI
  have he := ga_w_at (cA := cA) (ad := ad) (σ := σ) hS
  have hc : H[ad n]? = some (arrV (cA 1) len (fun j => .int (σ n j))) := hP n _ he
  refine W.bast hexec hb hc ((hK.2 1 _ rfl).1 len (fun j => .int (σ n j))) (fun q => by cases q) (by show ¬ (i < 0 ∨ (arrV _ _ _).slots.size ≤ _); rw [arrV_size]; exact hin) rfl rfl hdg fun H1 e z oq => ?_
  obtain ⟨hP1, hD1⟩ := ga_stA hP hD hS (by decide) e oq
  exact kk H1 _ ⟨hP1, hD1, hS0.put z oq (hD.2 n _ he), fun h => by rw [z]; exact hz h⟩
theorem ga_last (hexec : p.tables.exec = Jvm.exec) (hb : c.code = cc) (hK : va_K D vwCl (ga_tys cA) s) (hI : ga_I D cA A H0 ad NF S σ H locs) {n len : Nat} (hS : S[n]? = some (.inr (2, len))) {i x : Int32} (hin : vp_in i len) (hdg : decode cc pc = .ok (.lastore, 1))
    (kk : ∀ (H1 : Heap) (locs1 : List Loc), ga_I D cA A H0 ad NF S (ga_up σ n i.toNatClampNeg x) H1 locs1 → W p l e R s m args below meth c H1 locs1 cells slots Q (F0 m (pc + 1) ls rest)) : W p l e R s m args below meth c H locs cells slots Q (F0 m pc ls (.long x.toInt64 :: .int i :: .ref (ad n) :: rest)) := by
  obtain ⟨hP, hD, hS0, hz⟩ := hI
  have he := ga_w_at (cA := cA) (ad := ad) (σ := σ) hS
  have hc : H[ad n]? = some (arrV (cA 2) len (fun j => .long (σ n j).toInt64)) := hP n _ he
  refine W.last hexec hb hc ((hK.2 2 _ rfl).1 len (fun j => .long (σ n j).toInt64)) (fun q => by cases q) (by show ¬ (i < 0 ∨ (arrV _ _ _).slots.size ≤ _); rw [arrV_size]; exact hin) rfl rfl hdg fun H1 e z oq => ?_
  have he2 : (ga_w cA ad S σ)[n]? = some (ad n, .inl (cA 2, len, .inr (.inl fun j => (σ n j).toInt64))) := by rw [he]; simp [ga_cl]
  have hP1 := hP.set (e := .inl (cA 2, len, .inr (.inl (vp_updL (fun j => (σ n j).toInt64) i.toNatClampNeg x.toInt64)))) hD he2 (by
    show H1[ad n]? = some (vp_cell _ _)
    rw [e, vp_cell_l, arrV_store]
    congr 1
    show arrV _ _ _ = arrV _ _ _
    congr 1
    funext j
    by_cases hj : j = i.toNatClampNeg <;> simp [updV, vp_updL, hj]) oq
  have hD1 := hD.set (e := .inl (cA 2, len, .inr (.inl (vp_updL (fun j => (σ n j).toInt64) i.toNatClampNeg x.toInt64)))) he2
  rw [ga_w_setJ hS] at hP1 hD1
  exact kk H1 _ ⟨hP1, hD1, hS0.put z oq (hD.2 n _ he), fun h => by rw [z]; exact hz h⟩
/-- a new cell, the next one -/
theorem ga_push (had : ∀ k, k + 1 < NF → ad (k + 1) = ad k + 1) (hA : ∀ q, H0.size ≤ q → A q) (hI : ga_I D cA A H0 ad NF S σ H locs) (hn : S.length < NF) {sh : ga_Sh} {H1 : Heap} (z1 : H1.size = H.size + 1) (o1 : ∀ q : Nat, q < H.size → H1[q]? = H[q]?)
    (h : va_at D vwCl (ga_cl cA ad (ga_z σ S.length) S.length sh) H1) : ga_I D cA A H0 ad NF (S ++ [sh]) (ga_z σ S.length) H1 locs := by
  obtain ⟨hP, hD, hS0, hz⟩ := hI
  have hq := hz hn
  have hk : ∀ (k : Nat) (x : Nat × va_E), (ga_w cA ad S σ)[k]? = some x → H1[x.1]? = H[x.1]? := fun k x hx => o1 x.1 ((hP k x hx).lt)
  have hP1 : va_P D vwCl (ga_w cA ad S σ ++ [ga_cl cA ad (ga_z σ S.length) S.length sh]) H1 := (hP.kept hk).app (fun k x hx => by
    have hl : k < 1 := (List.getElem?_eq_some_iff.mp hx).1
    rw [show k = 0 by omega] at hx
    cases hx
    exact h)
  have hD1 : va_D A (ga_w cA ad S σ ++ [ga_cl cA ad (ga_z σ S.length) S.length sh]) := hD.push hP (show ad S.length = H.size from hq.symm) (hA _ (by rw [← hq]; exact hS0.1))
  rw [ga_w_push] at hP1 hD1
  refine ⟨hP1, hD1, ⟨Nat.le_trans hS0.1 (by omega), fun x h1 h2 => (o1 x (Nat.lt_of_lt_of_le h1 hS0.1)).trans (hS0.2.1 x h1 h2), hS0.2.2⟩, fun h => ?_⟩
  rw [List.length_append] at h ⊢
  show H1.size = ad (S.length + 1)
  rw [z1, had _ h, hq]
theorem ga_new (hexec : p.tables.exec = Jvm.exec) (hb : c.code = cc) {own : String} {Ts : List Cond} {idx ci : Nat} {C : String} {T : u_T} {N : Nat} {ty : Nat → FieldType} {fs : List ga_F} (hts : ∀ w ∈ Ts, w.before args s = true) (hown : s.vm.findClass own = some m.cls) (hK : va_K D vwCl tys s) (had : ∀ k, k + 1 < NF → ad (k + 1) = ad k + 1) (hA : ∀ q, H0.size ≤ q → A q) (hI : ga_I D cA A H0 ad NF S σ H locs)
    (hc : vwCl[ci]? = some (C, T, N)) (hin : ∀ w ∈ u_ws C T N, w ∈ Ts) (hty : ∀ k, k < N → parseFieldDescriptor (T k).2.2.1 = some (ty k)) (hcl : (Cond.classLink own idx C).before args s = true) (hinst : (Cond.instantiable C N).before args s = true) (hini : (Cond.initialized C).before args s = true)
    (hfs : ∀ j, j < N → defaultValue (ty j) = vp_V (fs.mapIdx fun k f => ga_fv ad (ga_z σ S.length) S.length k f) j) (hn : S.length < NF) (hcells : cells + 1 ≤ R.cells) (hslots : slots + N ≤ R.slots) (hdg : decode cc pc = .ok (.new idx, 3))
    (kk : ∀ (H1 : Heap), ga_I D cA A H0 ad NF (S ++ [.inl (ci, fs)]) (ga_z σ S.length) H1 locs → W p l e R s m args below meth c H1 locs (cells + 1) (slots + N) Q (F0 m (pc + 3) ls (.ref (ad S.length) :: rest))) : W p l e R s m args below meth c H locs cells slots Q (F0 m pc ls rest) := by
  have hKn := hK.1 ci _ hc
  have hq := hI.2.2.2 hn
  refine W.newcK hexec hb hown hcl hinst hini rfl hdg hcells hslots hKn.2.1 rfl fun H1 kC hkC e1 z1 o1 => ?_
  rw [hq] at e1
  have h1 : va_at D vwCl (ga_cl cA ad (ga_z σ S.length) S.length (.inl (ci, fs))) H1 := ⟨_, hc, (u_born ty hts hin hKn hkC e1 hty).to hfs⟩
  have := kk H1 (ga_push had hA hI hn z1 o1 h1)
  rw [← hq] at this
  exact this
theorem ga_newa (hexec : p.tables.exec = Jvm.exec) (hb : c.code = cc) {kd : Nat} {ty : FieldType} {atype : ArrayType} (harr : (Cond.arrayClass (newarray.typeOf atype)).before args s = true) (hty : newarray.typeOf atype = ty) (hkd : (ga_tys cA)[kd]? = some (cA kd, ty)) (hdef : defaultValue ty = if kd = 2 then .long 0 else .int 0) (hnr : ∀ C, ty ≠ .object C) (hcb : componentBytes ty ≤ 8)
    (hK : va_K D vwCl (ga_tys cA) s) (had : ∀ k, k + 1 < NF → ad (k + 1) = ad k + 1) (hA : ∀ q, H0.size ≤ q → A q) (hI : ga_I D cA A H0 ad NF S σ H locs) {n : Int32} (hn0 : ¬ n < 0) (hn : S.length < NF) (hbytes : n.toNatClampNeg ≤ 60000) (hcells : cells + 1 ≤ R.cells) (hslots : slots + n.toNatClampNeg ≤ R.slots) (hdg : decode cc pc = .ok (.newarray atype, 2))
    (kk : ∀ (H1 : Heap), ga_I D cA A H0 ad NF (S ++ [.inr (kd, n.toNatClampNeg)]) (ga_z σ S.length) H1 locs → W p l e R s m args below meth c H1 locs (cells + 1) (slots + n.toNatClampNeg) Q (F0 m (pc + 2) ls (.ref (ad S.length) :: rest))) : W p l e R s m args below meth c H locs cells slots Q (F0 m pc ls (.int n :: rest)) := by
  have hq := hI.2.2.2 hn
  have hK2 := (hK.2 kd _ hkd).2
  refine va_newaK hexec hb harr rfl hdg rfl hn0 rfl (by rw [hty]; exact Nat.le_trans (Nat.mul_le_mul hbytes hcb) (by decide)) hcells hslots hq fun H1 cA1 e1 z1 o1 hAr hNm => ?_
  rw [hty] at e1 hNm
  have hcA : cA1 = cA kd := by
    have h3 : s.vm.findClass ("[" ++ ty.toString) = some (cA kd) := by
      cases ty with
      | object C => exact absurd rfl (hnr C)
      | _ => exact hK2
    exact Option.some.inj (hNm.symm.trans h3)
  subst hcA
  have h1 : va_at D vwCl (ga_cl cA ad (ga_z σ S.length) S.length (.inr (kd, n.toNatClampNeg))) H1 := by
    show H1[ad S.length]? = some (vp_cell _ _)
    rw [e1]
    by_cases h2 : kd = 2
    · rw [if_pos h2]
      rw [hdef, if_pos h2, vp_cell_l]
      simp [ga_z_self]
    · rw [if_neg h2]
      rw [hdef, if_neg h2, vp_cell_i]
      simp [ga_z_self]
  exact kk H1 (ga_push had hA hI hn (by rw [z1, hq]) (fun q h => o1 q (by rw [← hq]; exact h)) h1)
end GA3
end
section
/-- what a row of the code table must be, by the instruction -/
def ga_hd (sw : List (Int32 × Nat)) (f : Int32 → Bool) : Bool := match sw with
  | q :: _ => f q.1
  | [] => false
def ga_tb (pc : Nat) (off : Int) (t : Nat) : Bool := decide ((pc : Int) + off = (t : Int))
def ga_chk (pc : Nat) (ins : Instr) (len r1 : Nat) (sw : List (Int32 × Nat)) : Bool := match ins with
  | .iconst n => len == 1 && ga_hd sw fun v => decide (Int32.ofInt n = v)
  | .bipush n => len == 2 && ga_hd sw fun v => decide ((Int8.ofInt n).toInt32 = v)
  | .sipush n => len == 3 && ga_hd sw fun v => decide ((Int16.ofInt n).toInt32 = v)
  | .ldc _ => len == 2
  | .ldc_w _ => len == 3
  | .lconst n => len == 1 && ga_hd sw fun v => decide (Int64.ofNat (n : Nat) = v.toInt64)
  | .ldc2_w _ => len == 3
  | .dconst n => len == 1 && decide (n = if r1 = 0 then 0 else 1)
  | .iload_n n => len == 1 && (n : Nat) == r1
  | .iload n => len == 2 && n == r1
  | .lload_n n => len == 1 && (n : Nat) == r1
  | .lload n => len == 2 && n == r1
  | .dload_n n => len == 1 && (n : Nat) == r1
  | .dload n => len == 2 && n == r1
  | .aload_n n => len == 1 && (n : Nat) == r1
  | .aload n => len == 2 && n == r1
  | .istore_n n => len == 1 && (n : Nat) == r1
  | .istore n => len == 2 && n == r1
  | .astore_n n => len == 1 && (n : Nat) == r1
  | .astore n => len == 2 && n == r1
  | .lstore_n n => len == 1 && (n : Nat) == r1
  | .lstore n => len == 2 && n == r1
  | .dstore_n n => len == 1 && (n : Nat) == r1
  | .dstore n => len == 2 && n == r1
  | .iinc i n => len == 3 && (i == r1 && ga_hd sw fun v => decide (Int32.ofInt n = v))
  | .ifCond _ off => len == 3 && ga_tb pc off r1
  | .if_icmp _ off => len == 3 && ga_tb pc off r1
  | .goto off => len == 3 && ga_tb pc off r1
  | .tableswitch d lo hi offs => ga_tb pc d r1 && (decide (hi = lo + (offs.size : Int) - 1) && (sw.length == offs.size && (List.range offs.size).all fun i => match sw[i]?, offs[i]? with
      | some q, some o => decide (q.1.toInt = lo + (i : Int)) && ga_tb pc o q.2
      | _, _ => false))
  | .lookupswitch d ps => ga_tb pc d r1 && (sw.length == ps.size && ((ps.toList.zip (ps.toList.drop 1)).all (fun (a, next) => a.1 < next.1) && (sw.zip ps.toList).all fun q => decide (q.1.1.toInt = q.2.1) && ga_tb pc q.2.2 q.1.2))
  | .getfield _ => len == 3
  | .putfield _ => len == 3
  | .new _ => len == 3
  | .newarray _ => len == 2
  | .invokevirtual _ => len == 3
  | .invokestatic _ => len == 3
  | .invokespecial _ => len == 3
  | _ => len == 1
/-- the return that answers v -/
def ga_ri (cc : ByteArray) (pc : Nat) (v : Option Value) : Prop := match v with
  | some (.int _) => decode cc pc = .ok (.ireturn, 1)
  | some (.long _) => decode cc pc = .ok (.lreturn, 1)
  | some (.double _) => decode cc pc = .ok (.dreturn, 1)
  | some (.ref _) => decode cc pc = .ok (.areturn, 1)
  | none => decode cc pc = .ok (.return_, 1)
  | _ => False
section GA4
variable (p : Program) (l : Launch) (e : Env) (R : Room) (s : State) (m : MethodId) (args : Array Value) (below : List Frame) (meth : Method) (c : Code) (Q : State → Prop)
variable (cc : ByteArray) (own : String) (Ts : List Cond) (D : va_G) (cA : Nat → ClassId) (ad : Nat → Nat) (A : Nat → Prop) (code : Nat → Option ga_E) (g : ga_G) (cost : Nat → Nat × Nat) (hnd : Nat → ga_H) (cls : Nat → List ga_F) (NF RC RS : Nat) (ini lf wr : Bool) (scr : Option (Nat × Nat × (Nat → Int32))) (exn : Nat → String) (cb sb : Nat) (Φ : ga_O → Prop) (PS : ga_S → ga_M → Prop)
/-- what the machine's state cfg stands for -/
def ga_W (cfg : ga_C) : Prop := ga_lf lf cfg.2.1 → PS cfg.2.2.2.1 cfg.2.2.2.2.1 → cfg.2.2.2.2.2.1 ≤ RC → cfg.2.2.2.2.2.2 ≤ RS → ∀ (H : Heap) (locs : List Loc) (ls : Array Slot), ga_I D cA A s.heap ad NF cfg.2.2.2.1 cfg.2.2.2.2.1 H locs → ga_L ad ls c.maxLocals cfg.2.1 →
  W p l e R s m args below meth c H locs (cb + cfg.2.2.2.2.2.1) (sb + cfg.2.2.2.2.2.2) Q (F0 m cfg.1 ls (cfg.2.2.1.map (ga_v ad)))
/-- a call's row -/
def ga_CallOk : Prop := ∀ (pc : Nat) (ins : Instr) (len mid na : Nat) (sw : List (Int32 × Nat)), code pc = some (ins, len, mid, na, sw) → ((∃ i, ins = .invokevirtual i) ∨ (∃ i, ins = .invokestatic i) ∨ (∃ i, ins = .invokespecial i) ∧ mid ≠ 0) →
  ∀ (as r : List Value) (S : ga_S) (σ : ga_M) (o : ga_O) (kc ks : Nat), PS S σ → as.length = na → (r.map fun v => v.category).sum ≤ 8 → g ga_O mid as S σ some = some o → (∀ i q r', ins = .invokevirtual i → sw = q :: r' → ∃ n fs as', as = .ref n :: as' ∧ S[n]? = some (.inl (q.2, fs))) → kc + (cost mid).1 ≤ RC → ks + (cost mid).2 ≤ RS →
  ∀ (H : Heap) (locs : List Loc) (ls : Array Slot), ga_I D cA A s.heap ad NF S σ H locs → ls.size = c.maxLocals →
  (∀ v, o.1 = .inl v → ∀ (H1 : Heap) (locs1 : List Loc), ga_I D cA A s.heap ad NF o.2.1 o.2.2 H1 locs1 → W p l e R s m args below meth c H1 locs1 (cb + (kc + (cost mid).1)) (sb + (ks + (cost mid).2)) Q (F0 m (pc + 3) ls ((v.toList ++ r).map (ga_v ad)))) →
  (∀ E, o.1 = .inr E → ∀ (H1 : Heap) (locs1 : List Loc) (q : Addr) (ce : Cell), ga_I D cA A s.heap ad NF o.2.1 o.2.2 H1 locs1 → H1[q]? = some ce → ce.vm = .none → s.vm.findClass (exn E) = some ce.cls → vx_W p l e R s m args below meth c H1 locs1 (cb + (kc + (cost mid).1)) (sb + (ks + (cost mid).2)) Q (F0 m pc ls (r.map (ga_v ad))) q) →
  W p l e R s m args below meth c H locs (cb + kc) (sb + ks) Q (F0 m pc ls ((as.reverse ++ r).map (ga_v ad)))
/-- a throw's row -/
def ga_ThrOk : Prop := ∀ (pc idx len r1 r2 : Nat) (sw : List (Int32 × Nat)), code pc = some (.new idx, len, r1, r2, sw) → 1000 ≤ r1 → ∀ (st : List Value) (S : ga_S) (σ : ga_M) (kc ks : Nat), st.length ≤ 4 → kc + 1 ≤ RC → ks + 6 ≤ RS → Φ (.inr (r1 - 1000), S, σ) →
  ∀ (H : Heap) (locs : List Loc) (ls : Array Slot), ga_I D cA A s.heap ad NF S σ H locs → ls.size = c.maxLocals → W p l e R s m args below meth c H locs (cb + kc) (sb + ks) Q (F0 m pc ls (st.map (ga_v ad)))
/-- not caught: out -/
def ga_ExcOk : Prop := ∀ (E : Nat) (S : ga_S) (σ : ga_M), Φ (.inr E, S, σ) → ∀ (pc : Nat) (st : List Value) (kc ks : Nat), (∀ q ∈ hnd pc, E ≠ q.1) → kc ≤ RC → ks ≤ RS → ∀ (H : Heap) (locs : List Loc) (ls : Array Slot) (q : Addr) (ce : Cell), ga_I D cA A s.heap ad NF S σ H locs → ls.size = c.maxLocals → H[q]? = some ce → ce.vm = .none → s.vm.findClass (exn E) = some ce.cls →
  vx_W p l e R s m args below meth c H locs (cb + kc) (sb + ks) Q (F0 m pc ls (st.map (ga_v ad))) q
/-- caught -/
def ga_CatOk : Prop := ∀ (pc E : Nat) (pre : ga_H) (h : Nat × Nat × Nat) (suf : ga_H), (hnd pc = pre ++ h :: suf ∧ (∀ z ∈ pre, E ≠ z.1) ∧ E = h.1) → ∀ (st : List Value) (L : ga_Lo) (S : ga_S) (σ : ga_M) (kc ks : Nat) (H : Heap) (locs : List Loc) (ls : Array Slot) (q : Addr) (ce : Cell), ¬ S.length < NF → ga_I D cA A s.heap ad NF S σ H locs → ga_L ad ls c.maxLocals L → H[q]? = some ce → ce.vm = .none → s.vm.findClass (exn E) = some ce.cls →
  (∀ ls' : Array Slot, ga_L ad ls' c.maxLocals (L.set h.2.2 none) → W p l e R s m args below meth c H locs (cb + kc) (sb + ks) Q (F0 m h.2.1 ls' [])) → vx_W p l e R s m args below meth c H locs (cb + kc) (sb + ks) Q (F0 m pc ls (st.map (ga_v ad))) q
def ga_RetOk : Prop := ∀ (v : Option Value) (S : ga_S) (σ : ga_M), Φ (.inl v, S, σ) → ∀ (pc kc ks : Nat), kc ≤ RC → ks ≤ RS → ga_ri cc pc v → ∀ (H : Heap) (locs : List Loc) (ls : Array Slot), ga_I D cA A s.heap ad NF S σ H locs → W p l e R s m args below meth c H locs (cb + kc) (sb + ks) Q (F0 m pc ls (v.toList.map (ga_v ad)))
/-- where the method stands: all that its steps rest on -/
def ga_Ok : Prop :=
  p.tables.exec = Jvm.exec ∧ c.code = cc ∧ s.vm.findClass own = some m.cls ∧ (∀ w ∈ Ts, w.before args s = true) ∧ va_K D vwCl (ga_tys cA) s ∧ (∀ q, s.heap.size ≤ q → A q) ∧ (∀ k, k + 1 < NF → ad (k + 1) = ad k + 1) ∧
  (cb + RC ≤ R.cells ∧ sb + RS ≤ R.slots ∧ 1 ≤ R.frames ∧ 30 ≤ R.locals) ∧ (ini = true → meth.name = "<init>") ∧ (∀ q, scr = some q → va_X (ad q.1) q.2.1 q.2.2 s s.heap ∧ ad q.1 < s.heap.size ∧ ¬ A (ad q.1)) ∧
  (∀ pc ins len r1 r2 sw, code pc = some (ins, len, r1, r2, sw) → decode cc pc = .ok (ins, len) ∧ ga_chk pc ins len r1 sw = true) ∧
  (∀ pc idx len r1 r2 sw, code pc = some (.getfield idx, len, r1, r2, sw) → ga_Fg own args s Ts idx r1 r2) ∧
  (∀ pc idx len r1 r2 sw, code pc = some (.putfield idx, len, r1, r2, sw) → ga_Fd own args s Ts idx r1 r2 ∧ ∀ q, vwCl[r1]? = some q → (q.2.1 r2).2.2.2 = !sw.isEmpty) ∧
  (∀ pc idx len r1 r2 sw, code pc = some (.new idx, len, r1, r2, sw) → r1 < 1000 → ∃ (C : String) (T : u_T) (ty : Nat → FieldType), vwCl[r1]? = some (C, T, r2) ∧ (∀ w ∈ u_ws C T r2, w ∈ Ts) ∧ (∀ k, k < r2 → parseFieldDescriptor (T k).2.2.1 = some (ty k)) ∧ (Cond.classLink own idx C).before args s = true ∧ (Cond.instantiable C r2).before args s = true ∧ (Cond.initialized C).before args s = true ∧ (∀ j, j < r2 → ((cls r1)[j]? = some none ∧ defaultValue (ty j) = .int 0) ∨ ((cls r1)[j]? = some (some none) ∧ defaultValue (ty j) = .null))) ∧
  (∀ pc at' len r1 r2 sw, code pc = some (.newarray at', len, r1, r2, sw) → (Cond.arrayClass (newarray.typeOf at')).before args s = true ∧ ∃ ty, newarray.typeOf at' = ty ∧ (ga_tys cA)[r1]? = some (cA r1, ty) ∧ defaultValue ty = (if r1 = 2 then .long 0 else .int 0) ∧ (∀ C, ty ≠ .object C) ∧ componentBytes ty ≤ 8) ∧
  (∀ pc idx len r2 sw, code pc = some (.invokespecial idx, len, 0, r2, sw) → (Cond.methodLink own idx objectInit).before args s = true ∧ (Cond.instanceMethod objectInit).before args s = true ∧ (Cond.code objectInit ⟨#[0xb1]⟩ 1 none).before args s = true) ∧
  ((∀ pc idx len r1 r2, (code pc = some (.ldc idx, len, r1, r2, []) ∨ code pc = some (.ldc_w idx, len, r1, r2, [])) → ∃ tx, vk_R own idx tx (ad r1) s) ∧ ∀ pc idx len r1 r2 q r, (code pc = some (.ldc idx, len, r1, r2, q :: r) ∨ code pc = some (.ldc_w idx, len, r1, r2, q :: r)) → (Jvm.Cond.constant own idx q.1).before args s = true) ∧
  (∀ pc idx len r1 r2 sw, code pc = some (.ldc2_w idx, len, r1, r2, sw) → ∃ q r, sw = q :: r ∧ (Cond.constantLong own idx q.1.toInt64).before args s = true) ∧
  (((∀ S σ, PS S σ) ∨ ((∀ S σ, PS S σ → ¬ S.length < NF) ∧ ini = false)) ∧ (wr = true → ∀ S σ σ1, PS S σ → PS S σ1) ∧ (∀ mid as S σ o, PS S σ → g ga_O mid as S σ some = some o → PS o.2.1 o.2.2) ∧ (∀ (α : Type) mid as S σ (k : ga_O → Option α) o, g α mid as S σ k = some o → ∃ o1, g ga_O mid as S σ some = some o1 ∧ k o1 = some o)) ∧
  ga_CallOk p l e R s m args below meth c Q D cA ad A code g cost NF RC RS exn cb sb PS ∧ ga_ThrOk p l e R s m args below meth c Q D cA ad A code NF RC RS cb sb Φ ∧ ga_ExcOk p l e R s m args below meth c Q D cA ad A hnd NF RC RS exn cb sb Φ ∧ ga_CatOk p l e R s m args below meth c Q D cA ad A hnd NF exn cb sb ∧ ga_RetOk p l e R s m args below meth c Q cc D cA ad A NF RC RS cb sb Φ
end GA4
end
section
section GA5
variable {p : Program} {l : Launch} {e : Env} {R : Room} {s : State} {m : MethodId} {args : Array Value} {below : List Frame} {meth : Method} {c : Code} {Q : State → Prop}
variable {cc : ByteArray} {own : String} {Ts : List Cond} {D : va_G} {cA : Nat → ClassId} {ad : Nat → Nat} {A : Nat → Prop} {code : Nat → Option ga_E} {g : ga_G} {cost : Nat → Nat × Nat} {hnd : Nat → ga_H} {cls : Nat → List ga_F} {NF RC RS : Nat} {ini lf wr : Bool} {scr : Option (Nat × Nat × (Nat → Int32))} {exn : Nat → String} {cb sb : Nat} {Φ : ga_O → Prop} {PS : ga_S → ga_M → Prop}
theorem ga_if {α : Type} {c : Prop} [Decidable c] {a b : Option α} {o : α} (h : (if c then a else b) = some o) : (c ∧ a = some o) ∨ (¬ c ∧ b = some o) := by
  split at h
  · exact Or.inl ⟨‹_›, h⟩
  · exact Or.inr ⟨‹_›, h⟩
theorem ga_ldcSW {H : Heap} {locs : List Loc} {cells slots pc : Nat} {ls : Array Slot} {rest : List Value} (hexec : p.tables.exec = Jvm.exec) (hb : c.code = cc) {own tx : String} {index q : Nat} (hown : s.vm.findClass own = some m.cls) (hZ : vk_R own index tx q s) (hdg : decode cc pc = .ok (.ldc_w index, 3))
    (k : W p l e R s m args below meth c H locs cells slots Q (F0 m (pc + 3) ls (.ref q :: rest))) : W p l e R s m args below meth c H locs cells slots Q (F0 m pc ls rest) := by
  intro T hT X
  obtain ⟨t, a1, b1⟩ := k T hT X
  exact ⟨t, X.ldcStringW hexec hown (text := tx) (a := q) hZ.1 hZ.2 (g := F0 m pc ls rest) rfl (by rw [hb]; exact hdg) t a1, b1⟩
theorem ga_hd_s {q : Int32 × Nat} {r : List (Int32 × Nat)} {f : Int32 → Bool} (h : ga_hd (q :: r) f = true) : f q.1 = true := h
set_option maxHeartbeats 8000000 in
set_option maxRecDepth 20000 in
/-- A STEP OF THE SMALL MACHINE IS A STEP OF THE JVM -/
theorem ga_sound (ok : ga_Ok p l e R s m args below meth c Q cc own Ts D cA ad A code g cost hnd cls NF RC RS ini wr scr exn cb sb Φ PS) {α : Type} {K0 : ga_O → Option α} {k : ga_C → Option α} {o : α}
    (hk : ∀ cfg, k cfg = some o → ga_W p l e R s m args below meth c Q D cA ad A NF RC RS lf cb sb PS cfg) {cfg : ga_C}
    (h : ga_step K0 code g cost hnd cls NF RC RS ini lf wr scr cfg k = some o) (hPh : ∀ o', K0 o' = some o → PS o'.2.1 o'.2.2 → Φ o') : ga_W p l e R s m args below meth c Q D cA ad A NF RC RS lf cb sb PS cfg := by
  obtain ⟨hx, hb, hown, hts, hK, hA, had, ⟨hR1, hR2, hR3, hR4⟩, hini, hscr, hcode, hget, hput, hnew, hnar, hobj, hldc, hldc2, ⟨hPS, hPW, hPg, hgc⟩, hcall, hthr, hexc, hcat, hret⟩ := ok
  obtain ⟨pc, L, st, S, σ, kc, ks⟩ := cfg
  intro hf hp hkc hks H locs ls hI hL
  unfold ga_step at h
  dsimp only at h hI hL hf hp hkc hks ⊢
  cases hcd : code pc with
  | none => rw [hcd] at h; cases h
  | some en =>
    obtain ⟨ins, len, r1, r2, sw⟩ := en
    rw [hcd] at h
    dsimp only at h
    obtain ⟨hd, hch⟩ := hcode _ _ _ _ _ _ hcd
    have hs1 : ∀ {i : Nat} {v : Value} {L' : ga_Lo}, ga_s1 lf L i v = some L' → i < c.maxLocals := fun h => by rw [← hL.1]; exact (ga_s1_i hf h).1
    have hs2 : ∀ {i : Nat} {v : Value} {L' : ga_Lo}, ga_s2 lf L i v = some L' → i + 1 < c.maxLocals := fun h => by rw [← hL.1]; exact (ga_s2_i h).2.1
    have hg1 : ∀ {i : Nat} {v : Value} {L' : ga_Lo}, ga_s1 lf L i v = some L' → ¬ v.category = 2 → ga_lf lf L' := fun h hv => by rw [(ga_s1_i hf h).2.1]; exact ga_lf_set hf (fun w e => by cases e; exact hv)
    have hg2 : ∀ {i : Nat} {v : Value} {L' : ga_Lo}, ga_s2 lf L i v = some L' → ga_lf lf L' := fun h z => by rw [(ga_s2_i h).1] at z; cases z
    cases ins
    case iconst n =>
      obtain ⟨q, r, rfl, hh1⟩ := ga_pI_s h
      simp only [ga_chk, ga_hd, Bool.and_eq_true, beq_iff_eq, decide_eq_true_eq] at hch
      exact lv_iconst hx hb (hch.1 ▸ hd) hch.2 (hk _ hh1 hf hp hkc hks H locs ls hI hL)
    case bipush n =>
      obtain ⟨q, r, rfl, hh1⟩ := ga_pI_s h
      simp only [ga_chk, ga_hd, Bool.and_eq_true, beq_iff_eq, decide_eq_true_eq] at hch
      exact lv_bipush hx hb (hch.1 ▸ hd) hch.2 (hk _ hh1 hf hp hkc hks H locs ls hI hL)
    case sipush n =>
      obtain ⟨q, r, rfl, hh1⟩ := ga_pI_s h
      simp only [ga_chk, ga_hd, Bool.and_eq_true, beq_iff_eq, decide_eq_true_eq] at hch
      exact lv_sipush hx hb (hch.1 ▸ hd) hch.2 (hk _ hh1 hf hp hkc hks H locs ls hI hL)
    case ldc n =>
      simp only [ga_chk, beq_iff_eq] at hch
      rcases ga_ldc_s h with ⟨rfl, hh1⟩ | ⟨q, r, rfl, hh1⟩
      · obtain ⟨tx, htx⟩ := hldc.1 _ _ _ _ _ (Or.inl hcd)
        exact va_ldcS hx hb hown htx (hch ▸ hd) (hk _ hh1 hf hp hkc hks H locs ls hI hL)
      · exact lv_ldc hx hb hown (hldc.2 _ _ _ _ _ _ _ (Or.inl hcd)) (hch ▸ hd) (hk _ hh1 hf hp hkc hks H locs ls hI hL)
    case ldc_w n =>
      simp only [ga_chk, beq_iff_eq] at hch
      rcases ga_ldc_s h with ⟨rfl, hh1⟩ | ⟨q, r, rfl, hh1⟩
      · obtain ⟨tx, htx⟩ := hldc.1 _ _ _ _ _ (Or.inr hcd)
        exact ga_ldcSW hx hb hown htx (hch ▸ hd) (hk _ hh1 hf hp hkc hks H locs ls hI hL)
      · exact lv_ldcw hx hb hown (hldc.2 _ _ _ _ _ _ _ (Or.inr hcd)) (hch ▸ hd) (hk _ hh1 hf hp hkc hks H locs ls hI hL)
    case lconst n =>
      obtain ⟨q, r, rfl, hh1⟩ := ga_pI_s h
      simp only [ga_chk, ga_hd, Bool.and_eq_true, beq_iff_eq, decide_eq_true_eq] at hch
      exact lv_lconst hx hb (hch.1 ▸ hd) hch.2 (hk _ hh1 hf hp hkc hks H locs ls hI hL)
    case ldc2_w n =>
      obtain ⟨q, r, rfl, hh1⟩ := ga_pI_s h
      simp only [ga_chk, beq_iff_eq] at hch
      obtain ⟨q2, r2', e2, hc2⟩ := hldc2 _ _ _ _ _ _ hcd
      cases e2
      exact lv_ldc2 hx hb hown hc2 (hch ▸ hd) (hk _ hh1 hf hp hkc hks H locs ls hI hL)
    case dconst n =>
      simp only [ga_chk, Bool.and_eq_true, beq_iff_eq, decide_eq_true_eq] at hch
      rcases ga_if h with ⟨hr, hh1⟩ | ⟨hr, hh1⟩
      · rw [if_pos hr] at hch
        rw [hch.1, hch.2] at hd
        exact lv_dconst0 hx hb hd (hk _ hh1 hf hp hkc hks H locs ls hI hL)
      · rw [if_neg hr] at hch
        rw [hch.1, hch.2] at hd
        exact lv_dconst1 hx hb hd (hk _ hh1 hf hp hkc hks H locs ls hI hL)
    case iload_n n =>
      obtain ⟨x, hl, hh1⟩ := ga_iL_s h
      simp only [ga_chk, Bool.and_eq_true, beq_iff_eq] at hch
      exact lv_iload_n hx hb (hch.1 ▸ hd) hch.2 (hL.at hl) (hk _ hh1 hf hp hkc hks H locs ls hI hL)
    case iload n =>
      obtain ⟨x, hl, hh1⟩ := ga_iL_s h
      simp only [ga_chk, Bool.and_eq_true, beq_iff_eq] at hch
      obtain ⟨rfl, rfl⟩ := hch
      exact lv_iload hx hb hd (hL.at hl) (hk _ hh1 hf hp hkc hks H locs ls hI hL)
    case lload_n n =>
      obtain ⟨x, hl, hh1⟩ := ga_jL_s h
      simp only [ga_chk, Bool.and_eq_true, beq_iff_eq] at hch
      exact lv_lload_n hx hb (hch.1 ▸ hd) hch.2 (hL.at hl) (hk _ hh1 hf hp hkc hks H locs ls hI hL)
    case lload n =>
      obtain ⟨x, hl, hh1⟩ := ga_jL_s h
      simp only [ga_chk, Bool.and_eq_true, beq_iff_eq] at hch
      obtain ⟨rfl, rfl⟩ := hch
      exact lv_lload hx hb hd (hL.at hl) (hk _ hh1 hf hp hkc hks H locs ls hI hL)
    case dload_n n =>
      obtain ⟨x, hl, hh1⟩ := ga_dL_s h
      simp only [ga_chk, Bool.and_eq_true, beq_iff_eq] at hch
      exact lv_dload_n hx hb (hch.1 ▸ hd) hch.2 (hL.at hl) (hk _ hh1 hf hp hkc hks H locs ls hI hL)
    case dload n =>
      obtain ⟨x, hl, hh1⟩ := ga_dL_s h
      simp only [ga_chk, Bool.and_eq_true, beq_iff_eq] at hch
      obtain ⟨rfl, rfl⟩ := hch
      exact lv_dload hx hb hd (hL.at hl) (hk _ hh1 hf hp hkc hks H locs ls hI hL)
    case aload_n n =>
      obtain ⟨x, hl, hh1⟩ := ga_aL_s h
      simp only [ga_chk, Bool.and_eq_true, beq_iff_eq] at hch
      exact lv_aload_n hx hb (hch.1 ▸ hd) hch.2 (hL.at hl) (hk _ hh1 hf hp hkc hks H locs ls hI hL)
    case aload n =>
      obtain ⟨x, hl, hh1⟩ := ga_aL_s h
      simp only [ga_chk, Bool.and_eq_true, beq_iff_eq] at hch
      obtain ⟨rfl, rfl⟩ := hch
      exact lv_aload hx hb hd (hL.at hl) (hk _ hh1 hf hp hkc hks H locs ls hI hL)
    case istore_n n =>
      obtain ⟨x, r, rfl, hh1⟩ := ga_i1_s h
      obtain ⟨L', hL', hh2⟩ := ga_oL_s hh1
      simp only [ga_chk, Bool.and_eq_true, beq_iff_eq] at hch
      exact lv_istore_n hx hb (hch.1 ▸ hd) hch.2 hL.has (hs1 hL') rfl (fun ls' h' => hk _ hh2 (hg1 hL' (fun z => absurd z (by simp [Value.category]))) hp hkc hks H locs ls' hI (ga_st1 (v := .int x) hf hL hL' h'))
    case istore n =>
      obtain ⟨x, r, rfl, hh1⟩ := ga_i1_s h
      obtain ⟨L', hL', hh2⟩ := ga_oL_s hh1
      simp only [ga_chk, Bool.and_eq_true, beq_iff_eq] at hch
      obtain ⟨rfl, rfl⟩ := hch
      exact lv_istore hx hb hd hL.has (hs1 hL') rfl (fun ls' h' => hk _ hh2 (hg1 hL' (fun z => absurd z (by simp [Value.category]))) hp hkc hks H locs ls' hI (ga_st1 (v := .int x) hf hL hL' h'))
    case astore_n n =>
      obtain ⟨x, r, rfl, hh1⟩ := ga_a1_s h
      obtain ⟨L', hL', hh2⟩ := ga_oL_s hh1
      simp only [ga_chk, Bool.and_eq_true, beq_iff_eq] at hch
      exact lv_astore_n hx hb (hch.1 ▸ hd) hch.2 hL.has (hs1 hL') rfl (fun ls' h' => hk _ hh2 (hg1 hL' (fun z => absurd z (by simp [Value.category]))) hp hkc hks H locs ls' hI (ga_st1 (v := .ref x) hf hL hL' h'))
    case astore n =>
      obtain ⟨x, r, rfl, hh1⟩ := ga_a1_s h
      obtain ⟨L', hL', hh2⟩ := ga_oL_s hh1
      simp only [ga_chk, Bool.and_eq_true, beq_iff_eq] at hch
      obtain ⟨rfl, rfl⟩ := hch
      exact lv_astore hx hb hd hL.has (hs1 hL') rfl (fun ls' h' => hk _ hh2 (hg1 hL' (fun z => absurd z (by simp [Value.category]))) hp hkc hks H locs ls' hI (ga_st1 (v := .ref x) hf hL hL' h'))
    case lstore_n n =>
      obtain ⟨x, r, rfl, hh1⟩ := ga_j1_s h
      obtain ⟨L', hL', hh2⟩ := ga_oL_s hh1
      simp only [ga_chk, Bool.and_eq_true, beq_iff_eq] at hch
      exact lv_lstore_n hx hb (hch.1 ▸ hd) hch.2 hL.has (hs2 hL') rfl (fun ls' h' => hk _ hh2 (hg2 hL') hp hkc hks H locs ls' hI (ga_st2 (v := .long x) hL hL' h'))
    case lstore n =>
      obtain ⟨x, r, rfl, hh1⟩ := ga_j1_s h
      obtain ⟨L', hL', hh2⟩ := ga_oL_s hh1
      simp only [ga_chk, Bool.and_eq_true, beq_iff_eq] at hch
      obtain ⟨rfl, rfl⟩ := hch
      exact lv_lstore hx hb hd hL.has (hs2 hL') rfl (fun ls' h' => hk _ hh2 (hg2 hL') hp hkc hks H locs ls' hI (ga_st2 (v := .long x) hL hL' h'))
    case dstore_n n =>
      obtain ⟨x, r, rfl, hh1⟩ := ga_d1_s h
      obtain ⟨L', hL', hh2⟩ := ga_oL_s hh1
      simp only [ga_chk, Bool.and_eq_true, beq_iff_eq] at hch
      exact lv_dstore_n hx hb (hch.1 ▸ hd) hch.2 hL.has (hs2 hL') rfl (fun ls' h' => hk _ hh2 (hg2 hL') hp hkc hks H locs ls' hI (ga_st2 (v := .double x) hL hL' h'))
    case dstore n =>
      obtain ⟨x, r, rfl, hh1⟩ := ga_d1_s h
      obtain ⟨L', hL', hh2⟩ := ga_oL_s hh1
      simp only [ga_chk, Bool.and_eq_true, beq_iff_eq] at hch
      obtain ⟨rfl, rfl⟩ := hch
      exact lv_dstore hx hb hd hL.has (hs2 hL') rfl (fun ls' h' => hk _ hh2 (hg2 hL') hp hkc hks H locs ls' hI (ga_st2 (v := .double x) hL hL' h'))
    case iinc i n =>
      obtain ⟨q, r, rfl, hh1⟩ := ga_pI_s h
      obtain ⟨x, hl, hh2⟩ := ga_iL_s hh1
      obtain ⟨L', hL', hh3⟩ := ga_oL_s hh2
      simp only [ga_chk, ga_hd, Bool.and_eq_true, beq_iff_eq, decide_eq_true_eq] at hch
      obtain ⟨rfl, rfl, hv⟩ := hch
      obtain ⟨j, hj⟩ := List.getElem?_of_mem (ga_lp_mem (ad := ad) hl)
      exact lv_iinc (k := j) hx hb hd hL.has hj (by rw [hv]) (hs1 hL') rfl (fun ls' h' => hk _ hh3 (hg1 hL' (fun z => absurd z (by simp [Value.category]))) hp hkc hks H locs ls' hI (ga_st1 (v := .int (x + q.1)) hf hL hL' h'))
    case iadd =>
      obtain ⟨x, y, r, rfl, hh1⟩ := ga_i2_s h
      simp only [ga_chk, beq_iff_eq] at hch
      exact lv_iadd hx hb (hch ▸ hd) (hk _ hh1 hf hp hkc hks H locs ls hI hL)
    case isub =>
      obtain ⟨x, y, r, rfl, hh1⟩ := ga_i2_s h
      simp only [ga_chk, beq_iff_eq] at hch
      exact lv_isub hx hb (hch ▸ hd) (hk _ hh1 hf hp hkc hks H locs ls hI hL)
    case imul =>
      obtain ⟨x, y, r, rfl, hh1⟩ := ga_i2_s h
      simp only [ga_chk, beq_iff_eq] at hch
      exact lv_imul hx hb (hch ▸ hd) (hk _ hh1 hf hp hkc hks H locs ls hI hL)
    case iand =>
      obtain ⟨x, y, r, rfl, hh1⟩ := ga_i2_s h
      simp only [ga_chk, beq_iff_eq] at hch
      exact lv_iand hx hb (hch ▸ hd) (hk _ hh1 hf hp hkc hks H locs ls hI hL)
    case ior =>
      obtain ⟨x, y, r, rfl, hh1⟩ := ga_i2_s h
      simp only [ga_chk, beq_iff_eq] at hch
      exact lv_ior hx hb (hch ▸ hd) (hk _ hh1 hf hp hkc hks H locs ls hI hL)
    case ixor =>
      obtain ⟨x, y, r, rfl, hh1⟩ := ga_i2_s h
      simp only [ga_chk, beq_iff_eq] at hch
      exact lv_ixor hx hb (hch ▸ hd) (hk _ hh1 hf hp hkc hks H locs ls hI hL)
    case ishl =>
      obtain ⟨x, y, r, rfl, hh1⟩ := ga_i2_s h
      simp only [ga_chk, beq_iff_eq] at hch
      exact lv_ishl hx hb (hch ▸ hd) (hk _ hh1 hf hp hkc hks H locs ls hI hL)
    case ishr =>
      obtain ⟨x, y, r, rfl, hh1⟩ := ga_i2_s h
      simp only [ga_chk, beq_iff_eq] at hch
      exact lv_ishr hx hb (hch ▸ hd) (hk _ hh1 hf hp hkc hks H locs ls hI hL)
    case iushr =>
      obtain ⟨x, y, r, rfl, hh1⟩ := ga_i2_s h
      simp only [ga_chk, beq_iff_eq] at hch
      exact lv_iushr hx hb (hch ▸ hd) rfl (hk _ hh1 hf hp hkc hks H locs ls hI hL)
    case idiv =>
      obtain ⟨x, y, r, rfl, hh1⟩ := ga_i2_s h
      simp only [ga_chk, beq_iff_eq] at hch
      rcases ga_if hh1 with ⟨hr, hh2⟩ | ⟨hr, hh2⟩
      · cases hh2
      · exact lv_idiv hx hb (hch ▸ hd) hr (hk _ hh2 hf hp hkc hks H locs ls hI hL)
    case irem =>
      obtain ⟨x, y, r, rfl, hh1⟩ := ga_i2_s h
      simp only [ga_chk, beq_iff_eq] at hch
      rcases ga_if hh1 with ⟨hr, hh2⟩ | ⟨hr, hh2⟩
      · cases hh2
      · exact lv_irem hx hb (hch ▸ hd) hr (hk _ hh2 hf hp hkc hks H locs ls hI hL)
    case ladd =>
      obtain ⟨x, y, r, rfl, hh1⟩ := ga_j2_s h
      simp only [ga_chk, beq_iff_eq] at hch
      exact lv_ladd hx hb (hch ▸ hd) (hk _ hh1 hf hp hkc hks H locs ls hI hL)
    case lsub =>
      obtain ⟨x, y, r, rfl, hh1⟩ := ga_j2_s h
      simp only [ga_chk, beq_iff_eq] at hch
      exact lv_lsub hx hb (hch ▸ hd) (hk _ hh1 hf hp hkc hks H locs ls hI hL)
    case lmul =>
      obtain ⟨x, y, r, rfl, hh1⟩ := ga_j2_s h
      simp only [ga_chk, beq_iff_eq] at hch
      exact lv_lmul hx hb (hch ▸ hd) (hk _ hh1 hf hp hkc hks H locs ls hI hL)
    case lcmp =>
      obtain ⟨x, y, r, rfl, hh1⟩ := ga_j2_s h
      simp only [ga_chk, beq_iff_eq] at hch
      exact W.lcmp hx hb (hch ▸ hd) (hk _ hh1 hf hp hkc hks H locs ls hI hL)
    case i2l =>
      obtain ⟨x, r, rfl, hh1⟩ := ga_i1_s h
      simp only [ga_chk, beq_iff_eq] at hch
      exact lv_i2l hx hb (hch ▸ hd) rfl (hk _ hh1 hf hp hkc hks H locs ls hI hL)
    case l2i =>
      obtain ⟨x, r, rfl, hh1⟩ := ga_j1_s h
      simp only [ga_chk, beq_iff_eq] at hch
      exact lv_l2i hx hb (hch ▸ hd) rfl (hk _ hh1 hf hp hkc hks H locs ls hI hL)
    case i2b =>
      obtain ⟨x, r, rfl, hh1⟩ := ga_i1_s h
      simp only [ga_chk, beq_iff_eq] at hch
      exact lv_i2b hx hb (hch ▸ hd) rfl (hk _ hh1 hf hp hkc hks H locs ls hI hL)
    case i2c =>
      obtain ⟨x, r, rfl, hh1⟩ := ga_i1_s h
      simp only [ga_chk, beq_iff_eq] at hch
      exact lv_i2c hx hb (hch ▸ hd) rfl (hk _ hh1 hf hp hkc hks H locs ls hI hL)
    case i2d =>
      obtain ⟨x, r, rfl, hh1⟩ := ga_i1_s h
      simp only [ga_chk, beq_iff_eq] at hch
      exact lv_i2d hx hb (hch ▸ hd) (hk _ hh1 hf hp hkc hks H locs ls hI hL)
    case ddiv =>
      obtain ⟨x, y, r, rfl, hh1⟩ := ga_d2_s h
      simp only [ga_chk, beq_iff_eq] at hch
      rcases ga_if hh1 with ⟨hr, hh2⟩ | ⟨hr, hh2⟩
      · exact lv_ddiv hx hb (hch ▸ hd) hr (hk _ hh2 hf hp hkc hks H locs ls hI hL)
      · cases hh2
    case dcmp op =>
      obtain ⟨x, y, r, rfl, hh1⟩ := ga_d2_s h
      simp only [ga_chk, beq_iff_eq] at hch
      exact lv_dcmp hx hb (hch ▸ hd) (hk _ hh1 hf hp hkc hks H locs ls hI hL)
    case dup =>
      obtain ⟨v, r, rfl, hv, hh1⟩ := ga_u1_s h
      simp only [ga_chk, beq_iff_eq] at hch
      exact lv_dup hx hb (hch ▸ hd) ((ga_v_cat ad v).trans hv) (hk _ hh1 hf hp hkc hks H locs ls hI hL)
    case pop =>
      obtain ⟨v, r, rfl, hv, hh1⟩ := ga_u1_s h
      simp only [ga_chk, beq_iff_eq] at hch
      exact lv_pop hx hb (hch ▸ hd) ((ga_v_cat ad v).trans hv) (hk _ hh1 hf hp hkc hks H locs ls hI hL)
    case dup2 =>
      obtain ⟨v, r, rfl, hv, hh1⟩ := ga_u1_s h
      obtain ⟨w, r, rfl, hw, hh2⟩ := ga_u1_s hh1
      simp only [ga_chk, beq_iff_eq] at hch
      exact lv_dup2_11 hx hb (hch ▸ hd) ((ga_v_cat ad v).trans hv) ((ga_v_cat ad w).trans hw) (hk _ hh2 hf hp hkc hks H locs ls hI hL)
    case dup_x1 =>
      obtain ⟨v, r, rfl, hv, hh1⟩ := ga_u1_s h
      obtain ⟨w, r, rfl, hw, hh2⟩ := ga_u1_s hh1
      simp only [ga_chk, beq_iff_eq] at hch
      exact lv_dup_x1 hx hb (hch ▸ hd) ((ga_v_cat ad v).trans hv) ((ga_v_cat ad w).trans hw) (hk _ hh2 hf hp hkc hks H locs ls hI hL)
    case ifCond cnd off =>
      simp only [ga_chk, ga_tb, Bool.and_eq_true, beq_iff_eq, decide_eq_true_eq] at hch
      obtain ⟨rfl, ht⟩ := hch
      cases cnd
      case eq =>
        obtain ⟨x, r, rfl, hh1⟩ := ga_i1_s h
        rcases ga_if hh1 with ⟨hr, hh2⟩ | ⟨hr, hh2⟩
        · exact lv_if_eq hx hb hd ht (fun _ => hk _ hh2 hf hp hkc hks H locs ls hI hL) (fun z => absurd hr z)
        · exact lv_if_eq hx hb hd ht (fun z => absurd z hr) (fun _ => hk _ hh2 hf hp hkc hks H locs ls hI hL)
      case ne =>
        obtain ⟨x, r, rfl, hh3⟩ := ga_i1_s h
        rcases ga_if hh3 with ⟨hr, hh4⟩ | ⟨hr, hh4⟩
        · exact lv_if_ne hx hb hd ht (fun z => absurd hr z) (fun _ => hk _ hh4 hf hp hkc hks H locs ls hI hL)
        · exact lv_if_ne hx hb hd ht (fun _ => hk _ hh4 hf hp hkc hks H locs ls hI hL) (fun z => absurd z hr)
      case lt =>
        obtain ⟨x, r, rfl, hh5⟩ := ga_i1_s h
        rcases ga_if hh5 with ⟨hr, hh6⟩ | ⟨hr, hh6⟩
        · exact lv_if_lt hx hb hd ht (fun _ => hk _ hh6 hf hp hkc hks H locs ls hI hL) (fun z => absurd hr z)
        · exact lv_if_lt hx hb hd ht (fun z => absurd z hr) (fun _ => hk _ hh6 hf hp hkc hks H locs ls hI hL)
      case ge =>
        obtain ⟨x, r, rfl, hh7⟩ := ga_i1_s h
        rcases ga_if hh7 with ⟨hr, hh8⟩ | ⟨hr, hh8⟩
        · exact lv_if_ge hx hb hd ht (fun _ => hk _ hh8 hf hp hkc hks H locs ls hI hL) (fun z => absurd hr z)
        · exact lv_if_ge hx hb hd ht (fun z => absurd z hr) (fun _ => hk _ hh8 hf hp hkc hks H locs ls hI hL)
      case gt =>
        obtain ⟨x, r, rfl, hh9⟩ := ga_i1_s h
        rcases ga_if hh9 with ⟨hr, hh10⟩ | ⟨hr, hh10⟩
        · exact lv_if_gt hx hb hd ht (fun _ => hk _ hh10 hf hp hkc hks H locs ls hI hL) (fun z => absurd hr z)
        · exact lv_if_gt hx hb hd ht (fun z => absurd z hr) (fun _ => hk _ hh10 hf hp hkc hks H locs ls hI hL)
      case le =>
        obtain ⟨x, r, rfl, hh11⟩ := ga_i1_s h
        rcases ga_if hh11 with ⟨hr, hh12⟩ | ⟨hr, hh12⟩
        · exact lv_if_le hx hb hd ht (fun _ => hk _ hh12 hf hp hkc hks H locs ls hI hL) (fun z => absurd hr z)
        · exact lv_if_le hx hb hd ht (fun z => absurd z hr) (fun _ => hk _ hh12 hf hp hkc hks H locs ls hI hL)
    case if_icmp cnd off =>
      simp only [ga_chk, ga_tb, Bool.and_eq_true, beq_iff_eq, decide_eq_true_eq] at hch
      obtain ⟨rfl, ht⟩ := hch
      cases cnd
      case eq =>
        obtain ⟨x, y, r, rfl, hh1⟩ := ga_i2_s h
        rcases ga_if hh1 with ⟨hr, hh2⟩ | ⟨hr, hh2⟩
        · exact lv_icmp_eq hx hb hd ht (fun _ => hk _ hh2 hf hp hkc hks H locs ls hI hL) (fun z => absurd hr z)
        · exact lv_icmp_eq hx hb hd ht (fun z => absurd z hr) (fun _ => hk _ hh2 hf hp hkc hks H locs ls hI hL)
      case ne =>
        obtain ⟨x, y, r, rfl, hh3⟩ := ga_i2_s h
        rcases ga_if hh3 with ⟨hr, hh4⟩ | ⟨hr, hh4⟩
        · exact lv_icmp_ne hx hb hd ht (fun z => absurd hr z) (fun _ => hk _ hh4 hf hp hkc hks H locs ls hI hL)
        · exact lv_icmp_ne hx hb hd ht (fun _ => hk _ hh4 hf hp hkc hks H locs ls hI hL) (fun z => absurd z hr)
      case lt =>
        obtain ⟨x, y, r, rfl, hh5⟩ := ga_i2_s h
        rcases ga_if hh5 with ⟨hr, hh6⟩ | ⟨hr, hh6⟩
        · exact lv_icmp_lt hx hb hd ht (fun _ => hk _ hh6 hf hp hkc hks H locs ls hI hL) (fun z => absurd hr z)
        · exact lv_icmp_lt hx hb hd ht (fun z => absurd z hr) (fun _ => hk _ hh6 hf hp hkc hks H locs ls hI hL)
      case ge =>
        obtain ⟨x, y, r, rfl, hh7⟩ := ga_i2_s h
        rcases ga_if hh7 with ⟨hr, hh8⟩ | ⟨hr, hh8⟩
        · exact lv_icmp_ge hx hb hd ht (fun _ => hk _ hh8 hf hp hkc hks H locs ls hI hL) (fun z => absurd hr z)
        · exact lv_icmp_ge hx hb hd ht (fun z => absurd z hr) (fun _ => hk _ hh8 hf hp hkc hks H locs ls hI hL)
      case gt =>
        obtain ⟨x, y, r, rfl, hh9⟩ := ga_i2_s h
        rcases ga_if hh9 with ⟨hr, hh10⟩ | ⟨hr, hh10⟩
        · exact lv_icmp_gt hx hb hd ht (fun _ => hk _ hh10 hf hp hkc hks H locs ls hI hL) (fun z => absurd hr z)
        · exact lv_icmp_gt hx hb hd ht (fun z => absurd z hr) (fun _ => hk _ hh10 hf hp hkc hks H locs ls hI hL)
      case le =>
        obtain ⟨x, y, r, rfl, hh11⟩ := ga_i2_s h
        rcases ga_if hh11 with ⟨hr, hh12⟩ | ⟨hr, hh12⟩
        · exact lv_icmp_le hx hb hd ht (fun _ => hk _ hh12 hf hp hkc hks H locs ls hI hL) (fun z => absurd hr z)
        · exact lv_icmp_le hx hb hd ht (fun z => absurd z hr) (fun _ => hk _ hh12 hf hp hkc hks H locs ls hI hL)
    case goto off =>
      simp only [ga_chk, ga_tb, Bool.and_eq_true, beq_iff_eq, decide_eq_true_eq] at hch
      obtain ⟨rfl, ht⟩ := hch
      exact lv_goto hx hb hd ht (hk _ h hf hp hkc hks H locs ls hI hL)
    case tableswitch d lo hi offs =>
      obtain ⟨x, r, rfl, hh1⟩ := ga_i1_s h
      simp only [ga_chk, ga_tb, Bool.and_eq_true, beq_iff_eq, decide_eq_true_eq, List.all_eq_true, List.mem_range] at hch
      obtain ⟨ht, hhi, hlen, hall⟩ := hch
      have hrow : ∀ (i : Nat) (q : Int32 × Nat), sw[i]? = some q → ∃ o', offs[i]? = some o' ∧ q.1.toInt = lo + (i : Int) ∧ (pc : Int) + o' = (q.2 : Int) := fun i q hq => by
        have hi9 := (List.getElem?_eq_some_iff.mp hq).1
        have := hall i (by omega)
        rw [hq] at this
        split at this
        · rename_i q1 o1 e1 e2
          cases e1
          simp only [Bool.and_eq_true, decide_eq_true_eq] at this
          exact ⟨_, e2, this.1, this.2⟩
        · cases this
      rcases ga_sw_s hh1 with ⟨i, q, hq, hxq, -, hh2⟩ | ⟨hno, hh2⟩
      · obtain ⟨o', h1, h2, h3⟩ := hrow i q hq
        have hi9 := (List.getElem?_eq_some_iff.mp hq).1
        have e9 : x.toInt = lo + (i : Int) := by rw [hxq]; exact h2
        exact lv_tableIn hx hb hd (by omega) (by omega) (by rw [show (x.toInt - lo).toNat = i by omega]; exact h1) h3 (hk _ hh2 hf hp hkc hks H locs ls hI hL)
      · refine lv_tableOut hx hb hd ?_ ht (hk _ hh2 hf hp hkc hks H locs ls hI hL)
        by_cases hlt : x.toInt < lo
        · exact Or.inl hlt
        · by_cases hgt : hi < x.toInt
          · exact Or.inr hgt
          · exfalso
            have hl9 : (x.toInt - lo).toNat < sw.length := by omega
            have hq := List.getElem?_eq_getElem hl9
            obtain ⟨o', h1, h2, h3⟩ := hrow _ _ hq
            refine hno _ (List.mem_of_getElem? hq) (Int32.toInt_inj.mp ?_)
            rw [h2]
            omega
    case lookupswitch d ps =>
      obtain ⟨x, r, rfl, hh1⟩ := ga_i1_s h
      simp only [ga_chk, ga_tb, Bool.and_eq_true, beq_iff_eq, decide_eq_true_eq] at hch
      obtain ⟨ht, hlen, hsort, hall⟩ := hch
      have key : ∀ (sw : List (Int32 × Nat)) (pl : List (Int × Int)), sw.length = pl.length → ((sw.zip pl).all fun q => decide (q.1.1.toInt = q.2.1) && decide ((pc : Int) + q.2.2 = (q.1.2 : Int))) = true → ga_sw (fun t => k (t, L, r, S, σ, kc, ks)) x r1 sw = some o → ∃ (off : Int) (t : Nat), Op.lookupswitch.offset pl d x.toInt = off ∧ (pc : Int) + off = (t : Int) ∧ k (t, L, r, S, σ, kc, ks) = some o := by
        intro sw
        induction sw with
        | nil =>
          intro pl h1 h2 h3
          cases pl with
          | nil => exact ⟨d, r1, rfl, ht, h3⟩
          | cons a b => cases h1
        | cons q sw ih =>
          intro pl h1 h2 h3
          cases pl with
          | nil => cases h1
          | cons a b =>
            simp only [List.zip_cons_cons, List.all_cons, Bool.and_eq_true, decide_eq_true_eq] at h2
            unfold ga_sw at h3
            rcases ga_if h3 with ⟨hr, h3⟩ | ⟨hr, h3⟩
            · refine ⟨a.2, q.2, ?_, h2.1.2, h3⟩
              rw [Op.lookupswitch.offset_cons, if_pos]
              rw [hr]; exact h2.1.1.symm
            · obtain ⟨off, t, e1, e2, e3⟩ := ih b (by simpa using h1) (by simpa [List.all_eq_true] using h2.2) h3
              exact ⟨off, t, by rw [lv_osw hr h2.1.1]; exact e1, e2, e3⟩
      obtain ⟨off, t, e1, e2, e3⟩ := key sw ps.toList (by simpa using hlen) hall hh1
      exact lv_lookup hx hb hd hsort e1 e2 (hk _ e3 hf hp hkc hks H locs ls hI hL)
    case getfield idx =>
      obtain ⟨n, r, rfl, hh1⟩ := ga_a1_s h
      simp only [ga_chk, beq_iff_eq] at hch
      obtain ⟨fs, hS, hh2 | hh2⟩ := ga_fld_s hh1
      · exact ga_get (v := .int (σ n r2)) hx hb hts hown hK hI (hget _ _ _ _ _ _ hcd) hS hh2.1 rfl (hch ▸ hd) (hk _ hh2.2 hf hp hkc hks H locs ls hI hL)
      · obtain ⟨j, h1, hh3⟩ := hh2
        exact ga_get (v := .ref (ad j)) hx hb hts hown hK hI (hget _ _ _ _ _ _ hcd) hS h1 rfl (hch ▸ hd) (hk _ hh3 hf hp hkc hks H locs ls hI hL)
    case putfield idx =>
      obtain ⟨hwr, h⟩ : wr = true ∧ _ = some o := (ga_if h).elim (fun z => z) (fun z => nomatch z.2)
      obtain ⟨v, r, rfl, hv, hh1⟩ := ga_u1_s h
      obtain ⟨n, r, rfl, hh2⟩ := ga_a1_s hh1
      simp only [ga_chk, beq_iff_eq] at hch
      obtain ⟨hF, hfl⟩ := hput _ _ _ _ _ _ hcd
      obtain ⟨fs, hS, hh3 | hh3⟩ := ga_pfd_s hh2
      · obtain ⟨x, rfl, h1, h2, hh4⟩ := hh3
        exact ga_putI hx hb hts hown hK hI hF (fun q hq => by rw [hfl q hq]; exact h2) hS h1 (hch ▸ hd) (fun H1 locs1 hI1 => hk _ hh4 hf (hPW hwr _ _ _ hp) hkc hks H1 locs1 ls hI1 hL)
      · obtain ⟨j, rfl, h1, h2, h3, h4, hh5⟩ := hh3
        have hp2 : PS (S.set n (.inl (r1, fs.set r2 (some (some j))))) σ := hPS.elim (fun z => z _ _) (fun z => by rw [z.2] at h3; cases h3)
        exact ga_putR hx hb hts hown hK hI hF (fun q hq => by rw [hfl q hq]; exact h2) (hini h3) hS h1 (hch ▸ hd) (fun H1 locs1 hI1 => hk _ hh5 hf hp2 hkc hks H1 locs1 ls hI1 hL)
    case iaload =>
      obtain ⟨i, r, rfl, hh1⟩ := ga_i1_s h
      obtain ⟨n, r, rfl, hh2⟩ := ga_a1_s hh1
      simp only [ga_chk, beq_iff_eq] at hch
      rcases ga_iald_s hh2 with ⟨len2, hS, hin, hh3⟩ | ⟨q, hq, rfl, hin, hh3⟩
      · exact va_iald hx hb hK hI.1 n 0 (by rw [ga_w_at hS]; rfl) rfl hin (hch ▸ hd) (hk _ hh3 hf hp hkc hks H locs ls hI hL)
      · obtain ⟨h1, h2, h3⟩ := hscr q hq
        exact va_sld hx hb h1 h2 h3 hI.2.2.1 hin (hch ▸ hd) (hk _ hh3 hf hp hkc hks H locs ls hI hL)
    case baload =>
      obtain ⟨i, r, rfl, hh1⟩ := ga_i1_s h
      obtain ⟨n, r, rfl, hh2⟩ := ga_a1_s hh1
      obtain ⟨len2, hS, hh3⟩ := ga_arr_s hh2
      simp only [ga_chk, beq_iff_eq] at hch
      rcases ga_if hh3 with ⟨hr, hh4⟩ | ⟨hr, hh4⟩
      · cases hh4
      · exact va_bald hx hb hK hI.1 n 1 (by rw [ga_w_at hS]; rfl) rfl hr (hch ▸ hd) (hk _ hh4 hf hp hkc hks H locs ls hI hL)
    case laload =>
      obtain ⟨i, r, rfl, hh1⟩ := ga_i1_s h
      obtain ⟨n, r, rfl, hh2⟩ := ga_a1_s hh1
      obtain ⟨len2, hS, hh3⟩ := ga_arr_s hh2
      simp only [ga_chk, beq_iff_eq] at hch
      rcases ga_if hh3 with ⟨hr, hh4⟩ | ⟨hr, hh4⟩
      · cases hh4
      · exact va_lald (f := fun j => (σ n j).toInt64) hx hb hK hI.1 n 2 (by rw [ga_w_at hS]; rfl) rfl hr (hch ▸ hd) (hk _ hh4 hf hp hkc hks H locs ls hI hL)
    case iastore =>
      obtain ⟨hwr, h⟩ : wr = true ∧ _ = some o := (ga_if h).elim (fun z => z) (fun z => nomatch z.2)
      obtain ⟨i, x, r, rfl, hh1⟩ := ga_i2_s h
      obtain ⟨n, r, rfl, hh2⟩ := ga_a1_s hh1
      obtain ⟨len2, hS, hh3⟩ := ga_arr_s hh2
      simp only [ga_chk, beq_iff_eq] at hch
      rcases ga_if hh3 with ⟨hr, hh4⟩ | ⟨hr, hh4⟩
      · cases hh4
      · exact ga_iast hx hb hK hI hS hr (hch ▸ hd) (fun H1 locs1 hI1 => hk _ hh4 hf (hPW hwr _ _ _ hp) hkc hks H1 locs1 ls hI1 hL)
    case bastore =>
      obtain ⟨hwr, h⟩ : wr = true ∧ _ = some o := (ga_if h).elim (fun z => z) (fun z => nomatch z.2)
      obtain ⟨i, x, r, rfl, hh1⟩ := ga_i2_s h
      obtain ⟨n, r, rfl, hh2⟩ := ga_a1_s hh1
      obtain ⟨len2, hS, hh3⟩ := ga_arr_s hh2
      simp only [ga_chk, beq_iff_eq] at hch
      rcases ga_if hh3 with ⟨hr, hh4⟩ | ⟨hr, hh4⟩
      · cases hh4
      · exact ga_bast hx hb hK hI hS hr (hch ▸ hd) (fun H1 locs1 hI1 => hk _ hh4 hf (hPW hwr _ _ _ hp) hkc hks H1 locs1 ls hI1 hL)
    case lastore =>
      obtain ⟨hwr, h⟩ : wr = true ∧ _ = some o := (ga_if h).elim (fun z => z) (fun z => nomatch z.2)
      obtain ⟨x, r, rfl, hh1⟩ := ga_j1_s h
      obtain ⟨i, r, rfl, hh2⟩ := ga_i1_s hh1
      obtain ⟨n, r, rfl, hh3⟩ := ga_a1_s hh2
      obtain ⟨len2, hS, hh4⟩ := ga_arr_s hh3
      simp only [ga_chk, beq_iff_eq] at hch
      rcases ga_if hh4 with ⟨hr, hh5⟩ | ⟨hr, hh5⟩
      · cases hh5
      · rcases ga_if hh5 with ⟨hr2, hh6⟩ | ⟨hr2, hh6⟩
        · have := ga_last (x := x.toInt32) hx hb hK hI hS hr (hch ▸ hd) (fun H1 locs1 hI1 => hk _ hh6 hf (hPW hwr _ _ _ hp) hkc hks H1 locs1 ls hI1 hL)
          rw [hr2] at this
          exact this
        · cases hh6
    case arraylength =>
      obtain ⟨n, r, rfl, hh1⟩ := ga_a1_s h
      simp only [ga_chk, beq_iff_eq] at hch
      rcases ga_alen_s hh1 with ⟨kd, len2, hS, hkd, hh2⟩ | ⟨q, hq, rfl, hh2⟩
      · have hS2 := ga_w_at (cA := cA) (ad := ad) (σ := σ) hS
        rcases (show kd = 0 ∨ kd = 1 ∨ kd = 2 by omega) with rfl | rfl | rfl
        · exact va_alen hx hb hK hI.1 n 0 hS2 rfl rfl (hch ▸ hd) (hk _ hh2 hf hp hkc hks H locs ls hI hL)
        · exact va_alen hx hb hK hI.1 n 1 hS2 rfl rfl (hch ▸ hd) (hk _ hh2 hf hp hkc hks H locs ls hI hL)
        · exact va_alen hx hb hK hI.1 n 2 hS2 rfl rfl (hch ▸ hd) (hk _ hh2 hf hp hkc hks H locs ls hI hL)
      · obtain ⟨h1, h2, h3⟩ := hscr q hq
        exact va_slen hx hb h1 h2 h3 hI.2.2.1 (hch ▸ hd) (hk _ hh2 hf hp hkc hks H locs ls hI hL)
    case new idx =>
      simp only [ga_chk, beq_iff_eq] at hch
      rcases ga_if h with ⟨hr, hh1⟩ | ⟨hr, hh1⟩
      · rcases ga_if hh1 with ⟨hr2, hh2⟩ | ⟨hr2, hh2⟩
        · exact hthr _ _ _ _ _ _ hcd hr st S σ kc ks hr2.2.2 hr2.1 hr2.2.1 (hPh _ hh2 hp) H locs ls hI hL.2.1
        · cases hh2
      · rcases ga_if hh1 with ⟨hr2, hh3⟩ | ⟨hr2, hh3⟩
        · obtain ⟨C, T, ty, hc, hin, hty, h1, h2, h3, hdf⟩ := hnew _ _ _ _ _ _ hcd (by omega)
          refine ga_new hx hb hts hown hK had hA hI hc hin hty h1 h2 h3 ?_ hr2.1 (by omega) (by omega) (hch ▸ hd) (fun H1 hI1 => ?_) (fs := cls r1)
          · intro j hj
            rcases hdf j hj with ⟨h8, h9⟩ | ⟨h8, h9⟩
            · rw [h9]
              simp [vp_V, List.getD, List.getElem?_mapIdx, h8, ga_fv, ga_z_self]
            · rw [h9]
              simp [vp_V, List.getD, List.getElem?_mapIdx, h8, ga_fv]
          · have hp2 : PS (S ++ [.inl (r1, cls r1)]) (ga_z σ S.length) := hPS.elim (fun z => z _ _) (fun z => absurd hr2.1 (z.1 _ _ hp))
            have := hk _ hh3 hf hp2 hr2.2.1 hr2.2.2 H1 locs ls hI1 hL
            rw [Nat.add_assoc, Nat.add_assoc]
            exact this
        · cases hh3
    case newarray at' =>
      obtain ⟨n, r, rfl, hh1⟩ := ga_i1_s h
      simp only [ga_chk, beq_iff_eq] at hch
      obtain ⟨h1, ty, h2, h3, h4, h5, h6⟩ := hnar _ _ _ _ _ _ hcd
      rcases ga_if hh1 with ⟨hr, hh2⟩ | ⟨hr, hh2⟩
      · cases hh2
      · rcases ga_if hh2 with ⟨hr2, hh3⟩ | ⟨hr2, hh3⟩
        · refine ga_newa hx hb h1 h2 h3 h4 h5 h6 hK had hA hI hr hr2.1 hr2.2.2.2 (by omega) (by omega) (hch ▸ hd) (fun H1 hI1 => ?_)
          have hp2 : PS (S ++ [.inr (r1, n.toNatClampNeg)]) (ga_z σ S.length) := hPS.elim (fun z => z _ _) (fun z => absurd hr2.1 (z.1 _ _ hp))
          have := hk _ hh3 hf hp2 hr2.2.1 hr2.2.2.1 H1 locs ls hI1 hL
          rw [Nat.add_assoc, Nat.add_assoc]
          exact this
        · cases hh3
    case invokevirtual idx =>
      obtain ⟨h, hrv⟩ := ga_rv_s h
      rcases ga_if h with ⟨hr, hh1⟩ | ⟨hr, hh1⟩
      · obtain ⟨as, r, hst, hna, hrl, hh2 | hh2⟩ := ga_call_s hgc hh1
        · have hrv2 : ∀ i q r', (Instr.invokevirtual idx = .invokevirtual i) → sw = q :: r' → ∃ n fs as', as = .ref n :: as' ∧ S[n]? = some (.inl (q.2, fs)) := fun _ q r' _ e => hrv q r' as r e hst hna
          subst hst
          obtain ⟨v, S1, σ1, hg, hh3⟩ := hh2
          exact hcall _ _ _ _ _ _ hcd (Or.inl ⟨_, rfl⟩) as r S σ _ kc ks hp hna hrl hg hrv2 hr.1 hr.2 H locs ls hI hL.2.1 (fun v' hv' H1 locs1 hI1 => by cases hv'; exact hk _ hh3 hf (hPg _ _ _ _ _ hp hg) hr.1 hr.2 H1 locs1 ls hI1 hL) (fun E hE => by cases hE)
        · have hrv2 : ∀ i q r', (Instr.invokevirtual idx = .invokevirtual i) → sw = q :: r' → ∃ n fs as', as = .ref n :: as' ∧ S[n]? = some (.inl (q.2, fs)) := fun _ q r' _ e => hrv q r' as r e hst hna
          subst hst
          obtain ⟨E, S1, σ1, hg, hh4⟩ := hh2
          refine hcall _ _ _ _ _ _ hcd (Or.inl ⟨_, rfl⟩) as r S σ _ kc ks hp hna hrl hg hrv2 hr.1 hr.2 H locs ls hI hL.2.1 (fun v' hv' => by cases hv') (fun E' hE H1 locs1 q ce hI1 h1 h2 h3 => ?_)
          cases hE
          rcases hh4 with ⟨hn, hh5⟩ | ⟨pre, q2, suf, hn, hNF, hh5⟩
          · exact hexc _ _ _ (hPh _ hh5 (hPg _ _ _ _ _ hp hg)) _ _ _ _ hn hr.1 hr.2 H1 locs1 ls q ce hI1 hL.2.1 h1 h2 h3
          · exact hcat _ _ _ _ _ hn _ L S1 σ1 _ _ H1 locs1 ls q ce hNF hI1 hL h1 h2 h3 (fun ls' hL' => hk _ hh5 (ga_lf_set hf (fun w e => by cases e)) (hPg _ _ _ _ _ hp hg) hr.1 hr.2 H1 locs1 ls' hI1 hL')
      · cases hh1
    case invokestatic idx =>
      rcases ga_if h with ⟨hr, hh1⟩ | ⟨hr, hh1⟩
      · obtain ⟨as, r, rfl, hna, hrl, hh2 | hh2⟩ := ga_call_s hgc hh1
        · obtain ⟨v, S1, σ1, hg, hh3⟩ := hh2
          exact hcall _ _ _ _ _ _ hcd (Or.inr (Or.inl ⟨_, rfl⟩)) as r S σ _ kc ks hp hna hrl hg (fun _ _ _ e => nomatch e) hr.1 hr.2 H locs ls hI hL.2.1 (fun v' hv' H1 locs1 hI1 => by cases hv'; exact hk _ hh3 hf (hPg _ _ _ _ _ hp hg) hr.1 hr.2 H1 locs1 ls hI1 hL) (fun E hE => by cases hE)
        · obtain ⟨E, S1, σ1, hg, hh4⟩ := hh2
          refine hcall _ _ _ _ _ _ hcd (Or.inr (Or.inl ⟨_, rfl⟩)) as r S σ _ kc ks hp hna hrl hg (fun _ _ _ e => nomatch e) hr.1 hr.2 H locs ls hI hL.2.1 (fun v' hv' => by cases hv') (fun E' hE H1 locs1 q ce hI1 h1 h2 h3 => ?_)
          cases hE
          rcases hh4 with ⟨hn, hh5⟩ | ⟨pre, q2, suf, hn, hNF, hh5⟩
          · exact hexc _ _ _ (hPh _ hh5 (hPg _ _ _ _ _ hp hg)) _ _ _ _ hn hr.1 hr.2 H1 locs1 ls q ce hI1 hL.2.1 h1 h2 h3
          · exact hcat _ _ _ _ _ hn _ L S1 σ1 _ _ H1 locs1 ls q ce hNF hI1 hL h1 h2 h3 (fun ls' hL' => hk _ hh5 (ga_lf_set hf (fun w e => by cases e)) (hPg _ _ _ _ _ hp hg) hr.1 hr.2 H1 locs1 ls' hI1 hL')
      · cases hh1
    case invokespecial idx =>
      simp only [ga_chk, beq_iff_eq] at hch
      rcases ga_if h with ⟨hr0, hh1⟩ | ⟨hr0, hh1⟩
      · subst hr0
        obtain ⟨n, r, rfl, hh2⟩ := ga_a1_s hh1
        rcases ga_if hh2 with ⟨hr, hh3⟩ | ⟨hr, hh3⟩
        · obtain ⟨h1, h2, h3⟩ := hobj _ _ _ _ _ hcd
          refine W.objInit hx hb hown h1 h2 h3 rfl hL.2.1 rfl (hch ▸ hd) hR3 ?_ (hk _ hh3 hf hp hkc hks H locs ls hI hL)
          have h8 := ga_catsum ad r
          have h9 := lv_room (m := m) (pc := pc) (ls := ls) (rest := r.map (ga_v ad)) (st := r.map (ga_v ad)) (by omega)
          show 2 * (F0 m pc ls (r.map (ga_v ad))).monitorRoom + _ + 12 ≤ R.locals
          omega
        · cases hh3
      · rcases ga_if hh1 with ⟨hr, hh4⟩ | ⟨hr, hh4⟩
        · obtain ⟨as, r, rfl, hna, hrl, hh5 | hh5⟩ := ga_call_s hgc hh4
          · obtain ⟨v, S1, σ1, hg, hh6⟩ := hh5
            exact hcall _ _ _ _ _ _ hcd (Or.inr (Or.inr ⟨⟨_, rfl⟩, hr0⟩)) as r S σ _ kc ks hp hna hrl hg (fun _ _ _ e => nomatch e) hr.1 hr.2 H locs ls hI hL.2.1 (fun v' hv' H1 locs1 hI1 => by cases hv'; exact hk _ hh6 hf (hPg _ _ _ _ _ hp hg) hr.1 hr.2 H1 locs1 ls hI1 hL) (fun E hE => by cases hE)
          · obtain ⟨E, S1, σ1, hg, hh7⟩ := hh5
            refine hcall _ _ _ _ _ _ hcd (Or.inr (Or.inr ⟨⟨_, rfl⟩, hr0⟩)) as r S σ _ kc ks hp hna hrl hg (fun _ _ _ e => nomatch e) hr.1 hr.2 H locs ls hI hL.2.1 (fun v' hv' => by cases hv') (fun E' hE H1 locs1 q ce hI1 h1 h2 h3 => ?_)
            cases hE
            rcases hh7 with ⟨hn, hh8⟩ | ⟨pre, q2, suf, hn, hNF, hh8⟩
            · exact hexc _ _ _ (hPh _ hh8 (hPg _ _ _ _ _ hp hg)) _ _ _ _ hn hr.1 hr.2 H1 locs1 ls q ce hI1 hL.2.1 h1 h2 h3
            · exact hcat _ _ _ _ _ hn _ L S1 σ1 _ _ H1 locs1 ls q ce hNF hI1 hL h1 h2 h3 (fun ls' hL' => hk _ hh8 (ga_lf_set hf (fun w e => by cases e)) (hPg _ _ _ _ _ hp hg) hr.1 hr.2 H1 locs1 ls' hI1 hL')
        · cases hh4
    case ireturn =>
      simp only [ga_chk, beq_iff_eq] at hch
      obtain ⟨x, rfl, hh1⟩ := ga_rI_s h
      rw [hch] at hd
      exact hret _ _ _ (hPh _ hh1 hp) pc kc ks hkc hks hd H locs ls hI
    case lreturn =>
      simp only [ga_chk, beq_iff_eq] at hch
      obtain ⟨x, rfl, hh1⟩ := ga_rJ_s h
      rw [hch] at hd
      exact hret _ _ _ (hPh _ hh1 hp) pc kc ks hkc hks hd H locs ls hI
    case dreturn =>
      simp only [ga_chk, beq_iff_eq] at hch
      obtain ⟨x, rfl, hh1⟩ := ga_rD_s h
      rw [hch] at hd
      exact hret _ _ _ (hPh _ hh1 hp) pc kc ks hkc hks hd H locs ls hI
    case areturn =>
      simp only [ga_chk, beq_iff_eq] at hch
      obtain ⟨x, rfl, hh1⟩ := ga_rA_s h
      rw [hch] at hd
      exact hret _ _ _ (hPh _ hh1 hp) pc kc ks hkc hks hd H locs ls hI
    case return_ =>
      simp only [ga_chk, beq_iff_eq] at hch
      obtain ⟨rfl, hh1⟩ := ga_rV_s h
      rw [hch] at hd
      exact hret _ _ _ (hPh _ hh1 hp) pc kc ks hkc hks hd H locs ls hI
    all_goals (exfalso; have h9 : (none : Option α) = some o := h; cases h9)
end GA5
end
section
section GA6
variable {α : Type}
/-- what a run of a method's code from cfg, with the answer r, stands for in the JVM, wherever the method stands -/
def ga_T (own : String) (cc : ByteArray) (code : Nat → Option ga_E) (g : ga_G) (cost : Nat → Nat × Nat) (hnd : Nat → ga_H) (cls : Nat → List ga_F) (NF RC RS : Nat) (ini lf wr : Bool) (scr : Option (Nat × Nat × (Nat → Int32))) (PS : ga_S → ga_M → Prop) (K0 : ga_O → Option α) (cfg : ga_C) (r : α) : Prop :=
  ∀ (p : Program) (l : Launch) (e : Env) (R : Room) (s : State) (m : MethodId) (args : Array Value) (below : List Frame) (meth : Method) (c : Code) (Q : State → Prop) (Ts : List Cond) (D : va_G) (cA : Nat → ClassId) (ad : Nat → Nat) (A : Nat → Prop) (exn : Nat → String) (cb sb : Nat) (Φ : ga_O → Prop),
    ga_Ok p l e R s m args below meth c Q cc own Ts D cA ad A code g cost hnd cls NF RC RS ini wr scr exn cb sb Φ PS → (∀ o', K0 o' = some r → PS o'.2.1 o'.2.2 → Φ o') → ga_W p l e R s m args below meth c Q D cA ad A NF RC RS lf cb sb PS cfg
variable {cc : ByteArray} {own : String} {code : Nat → Option ga_E} {g : ga_G} {cost : Nat → Nat × Nat} {hnd : Nat → ga_H} {cls : Nat → List ga_F} {NF RC RS : Nat} {ini lf wr : Bool} {scr : Option (Nat × Nat × (Nat → Int32))} {PS : ga_S → ga_M → Prop} {K0 : ga_O → Option α}
theorem ga_T_step {k : ga_C → Option α} {r : α} (hk : ∀ c, k c = some r → ga_T own cc code g cost hnd cls NF RC RS ini lf wr scr PS K0 c r) {cfg : ga_C} (h : ga_step K0 code g cost hnd cls NF RC RS ini lf wr scr cfg k = some r) : ga_T own cc code g cost hnd cls NF RC RS ini lf wr scr PS K0 cfg r :=
  fun p l e R s m args below meth c Q Ts D cA ad A exn cb sb Φ ok hΦ => ga_sound ok (fun c1 h1 => hk c1 h1 p l e R s m args below meth c Q Ts D cA ad A exn cb sb Φ ok hΦ) h hΦ
theorem ga_T_ev {sp : ga_C → Option (Option α)} {r : α} (hsp : ∀ c, sp c = some (some r) → ga_T own cc code g cost hnd cls NF RC RS ini lf wr scr PS K0 c r) : ∀ (n : Nat) (cfg : ga_C), ga_ev (ga_step K0 code g cost hnd cls NF RC RS ini lf wr scr) sp n cfg = some r → ga_T own cc code g cost hnd cls NF RC RS ini lf wr scr PS K0 cfg r
  | 0, _, h => (by cases h)
  | n + 1, cfg, h => by
    unfold ga_ev at h
    split at h
    · rename_i q hq
      exact hsp _ (by rw [hq, h])
    · exact ga_T_step (fun c1 h1 => ga_T_ev hsp n c1 h1) h
/-- from a head on: a step, then on to the next stop -/
theorem ga_T_go {sp : ga_C → Option (Option α)} {r : α} (hsp : ∀ c, sp c = some (some r) → ga_T own cc code g cost hnd cls NF RC RS ini lf wr scr PS K0 c r) {n : Nat} {cfg : ga_C} (h : ga_step K0 code g cost hnd cls NF RC RS ini lf wr scr cfg (ga_ev (ga_step K0 code g cost hnd cls NF RC RS ini lf wr scr) sp n) = some r) : ga_T own cc code g cost hnd cls NF RC RS ini lf wr scr PS K0 cfg r :=
  ga_T_step (fun c1 h1 => ga_T_ev hsp n c1 h1) h
/-- the shapes are those that the method knows -/
theorem ga_T_S {pc : Nat} {L : ga_Lo} {st : List Value} {S : ga_S} {σ : ga_M} {kc ks : Nat} {r : α} (h : PS S σ → ga_T own cc code g cost hnd cls NF RC RS ini lf wr scr PS K0 (pc, L, st, S, σ, kc, ks) r) : ga_T own cc code g cost hnd cls NF RC RS ini lf wr scr PS K0 (pc, L, st, S, σ, kc, ks) r :=
  fun p l e R s m args below meth c Q Ts D cA ad A exn cb sb Φ ok hΦ hf hp => h hp p l e R s m args below meth c Q Ts D cA ad A exn cb sb Φ ok hΦ hf hp
/-- what a method's code answers, by the kind of its answer -/
def ga_kI : ga_O → Option (Int32 × ga_M)
  | (.inl (some (.int x)), _, σ) => some (x, σ)
  | _ => none
def ga_kJ : ga_O → Option (Int64 × ga_M)
  | (.inl (some (.long x)), _, σ) => some (x, σ)
  | _ => none
def ga_kD : ga_O → Option (UInt64 × ga_M)
  | (.inl (some (.double x)), _, σ) => some (x, σ)
  | _ => none
def ga_kA : ga_O → Option (Nat × ga_M)
  | (.inl (some (.ref x)), _, σ) => some (x, σ)
  | _ => none
def ga_kV : ga_O → Option ga_M
  | (.inl none, _, σ) => some σ
  | _ => none
/-- .. of one that may throw -/
def ga_kIX : ga_O → Option ((Int32 ⊕ Nat) × ga_M)
  | (.inl (some (.int x)), _, σ) => some (.inl x, σ)
  | (.inr E, _, σ) => some (.inr E, σ)
  | _ => none
def ga_kVX : ga_O → Option (Option Nat × ga_M)
  | (.inl none, _, σ) => some (none, σ)
  | (.inr E, _, σ) => some (some E, σ)
  | _ => none
/-- .. of one that only reads -/
def gp_kI : ga_O → Option Int32
  | (.inl (some (.int x)), _, _) => some x
  | _ => none
def gp_kJ : ga_O → Option Int64
  | (.inl (some (.long x)), _, _) => some x
  | _ => none
def gp_kD : ga_O → Option UInt64
  | (.inl (some (.double x)), _, _) => some x
  | _ => none
def gp_kA : ga_O → Option Nat
  | (.inl (some (.ref x)), _, _) => some x
  | _ => none
def gp_kIX : ga_O → Option (Int32 ⊕ Nat)
  | (.inl (some (.int x)), _, _) => some (.inl x)
  | (.inr E, _, _) => some (.inr E)
  | _ => none
def gp_kVX : ga_O → Option (Option Nat)
  | (.inl none, _, _) => some none
  | (.inr E, _, _) => some (some E)
  | _ => none
/-- a code table, looked up -/
def ga_lk : List (Nat × ga_E) → Nat → Option ga_E
  | [], _ => none
  | q :: r, pc => match Nat.beq pc q.1 with
    | true => some q.2
    | false => ga_lk r pc
end GA6
end
section
/-! ===== texts, rows of numbers, stops: what the printed functions stand on ===== -/
theorem ga_fuel_ex : ∃ n : Nat, n = 2147483648 := ⟨_, rfl⟩
noncomputable def ga_fuel : Nat := Classical.choose ga_fuel_ex
theorem ga_fuel_eq : ga_fuel = 2147483648 := Classical.choose_spec ga_fuel_ex
/-- Row.at, Row.put, Row.become over the array a of n numbers -/
def ga_at (a n : Nat) (i : Int32) (s : ga_M) : Int32 := if i < 0 then (-1) else if Int32.ofNat n ≤ i then (-1) else s a i.toNatClampNeg
def ga_pt (a n : Nat) (i x : Int32) (s : ga_M) : ga_M := if i < 0 then s else if Int32.ofNat n ≤ i then s else ga_up s a i.toNatClampNeg x
def ga_bc (a n b n2 : Nat) (s : ga_M) : ga_M := fun x => if x = a then (fun j => if j < n then ga_at b n2 (nI j) s else s a j) else s x
section GA7
variable {α : Type}
def ga_sp : List (Nat × Nat × Nat × (ga_Lo → ga_M → Option α)) → ga_C → Option (Option α)
  | [], _ => none
  | q :: r, c => match Nat.beq c.1 q.1 with
    | true => (match c with
      | (_, L, [], _, σ, kc, ks) => (match Nat.beq kc q.2.1 with
        | true => (match Nat.beq ks q.2.2.1 with
          | true => some (q.2.2.2 L σ)
          | false => some none)
        | false => some none)
      | _ => some none)
    | false => ga_sp r c
theorem ga_sp_s {r : α} : ∀ {l : List (Nat × Nat × Nat × (ga_Lo → ga_M → Option α))} {c : ga_C}, ga_sp l c = some (some r) → ∃ q ∈ l, ∃ (L : ga_Lo) (S : ga_S) (σ : ga_M), c = (q.1, L, [], S, σ, q.2.1, q.2.2.1) ∧ q.2.2.2 L σ = some r
  | [], c, h => by cases h
  | q :: l, c, h => by
    unfold ga_sp at h
    split at h
    · rename_i hb
      split at h
      · rename_i pc L S σ kc ks
        split at h
        · rename_i h1
          split at h
          · rename_i h2
            exact ⟨q, List.mem_cons_self, L, S, σ, by rw [← Nat.eq_of_beq_eq_true hb, ← Nat.eq_of_beq_eq_true h1, ← Nat.eq_of_beq_eq_true h2], Option.some.inj h⟩
          · cases h
        · cases h
      · cases h
    · obtain ⟨q1, h1, h2⟩ := ga_sp_s h
      exact ⟨q1, List.mem_cons_of_mem _ h1, h2⟩
variable {cc : ByteArray} {own : String} {code : Nat → Option ga_E} {g : ga_G} {cost : Nat → Nat × Nat} {hnd : Nat → ga_H} {cls : Nat → List ga_F} {NF RC RS : Nat} {ini lf wr : Bool} {scr : Option (Nat × Nat × (Nat → Int32))} {PS : ga_S → ga_M → Prop} {K0 : ga_O → Option α}
theorem ga_sp_T {l : List (Nat × Nat × Nat × (ga_Lo → ga_M → Option α))} {r : α} (h : ∀ q ∈ l, ∀ (L : ga_Lo) (S : ga_S) (σ : ga_M), q.2.2.2 L σ = some r → ga_T own cc code g cost hnd cls NF RC RS ini lf wr scr PS K0 (q.1, L, [], S, σ, q.2.1, q.2.2.1) r) : ∀ c, ga_sp l c = some (some r) → ga_T own cc code g cost hnd cls NF RC RS ini lf wr scr PS K0 c r := by
  intro c hc
  obtain ⟨q, h1, L, S, σ, rfl, h2⟩ := ga_sp_s hc
  exact h q h1 L S σ h2
end GA7
/-- the texts of the constants -/
def ga_txs : List (List Nat) := [[103, 114, 105, 100], [115, 117, 98, 106, 101, 99, 116], [116, 101, 97, 99, 104, 101, 114], [114, 111, 111, 109], [99, 108, 97, 115, 115, 101, 115], [108, 101, 115, 115, 111, 110], [97, 98, 115, 101, 110, 116], [112, 114, 101, 115, 101, 110, 116], [99, 111, 118, 101, 114], [119, 97, 116, 99, 104], [115, 119, 97, 112], [109, 111, 118, 101], [114, 111, 111, 109], [114, 101, 112, 97, 105, 114], [111, 112, 101, 110], [97, 108, 108], [116, 104, 101, 32, 116, 101, 120, 116, 32, 119, 111, 117, 108, 100, 32, 98, 101, 32, 116, 111, 111, 32, 108, 111, 110, 103], [116, 104, 101, 32, 116, 101, 120, 116, 32, 104, 97, 115, 32, 110, 111, 32, 115, 117, 99, 104, 32, 108, 101, 110, 103, 116, 104], [116, 104, 101, 114, 101, 32, 105, 115, 32, 110, 111, 32, 115, 117, 99, 104, 32, 116, 101, 97, 99, 104, 101, 114], [116, 104, 101, 114, 101, 32, 105, 115, 32, 110, 111, 32, 115, 117, 99, 104, 32, 100, 97, 121], [116, 104, 101, 114, 101, 32, 105, 115, 32, 110, 111, 32, 115, 117, 99, 104, 32, 108, 101, 115, 115, 111, 110], [105, 116, 32, 105, 115, 32, 114, 101, 102, 117, 115, 101, 100], [116, 104, 101, 114, 101, 32, 105, 115, 32, 110, 111, 32, 115, 117, 99, 104, 32, 115, 108, 111, 116], [116, 104, 101, 114, 101, 32, 105, 115, 32, 110, 111, 32, 115, 117, 99, 104, 32, 114, 111, 111, 109], [116, 104, 101, 32, 99, 104, 97, 105, 110, 32, 104, 97, 115, 32, 110, 111, 32, 115, 117, 99, 104, 32, 116, 101, 97, 99, 104, 101, 114], [110, 111, 32, 108, 101, 115, 115, 111, 110, 32, 99, 97, 110, 32, 98, 101, 32, 101, 120, 99, 104, 97, 110, 103, 101, 100, 32, 119, 105, 116, 104, 32, 105, 116], [116, 104, 101, 114, 101, 32, 105, 115, 32, 110, 111, 32, 115, 117, 99, 104, 32, 99, 111, 117, 110, 116], [97, 32, 108, 101, 115, 115, 111, 110, 32, 104, 97, 115, 32, 110, 111, 32, 115, 117, 99, 104, 32, 112, 114, 111, 112, 101, 114, 116, 121], [97, 32, 116, 101, 97, 99, 104, 101, 114, 32, 104, 97, 115, 32, 110, 111, 32, 115, 117, 99, 104, 32, 112, 114, 111, 112, 101, 114, 116, 121], [97, 32, 114, 111, 111, 109, 32, 104, 97, 115, 32, 110, 111, 32, 115, 117, 99, 104, 32, 112, 114, 111, 112, 101, 114, 116, 121], [116, 104, 101, 114, 101, 32, 105, 115, 32, 110, 111, 32, 115, 117, 99, 104, 32, 115, 117, 98, 106, 101, 99, 116], [97, 32, 115, 117, 98, 106, 101, 99, 116, 32, 104, 97, 115, 32, 110, 111, 32, 115, 117, 99, 104, 32, 112, 114, 111, 112, 101, 114, 116, 121], [116, 104, 101, 114, 101, 32, 105, 115, 32, 110, 111, 32, 115, 117, 99, 104, 32, 99, 108, 97, 115, 115], [116, 104, 101, 114, 101, 32, 105, 115, 32, 110, 111, 32, 115, 117, 99, 104, 32, 107, 105, 110, 100, 32, 111, 102, 32, 114, 111, 111, 109, 115], [116, 104, 101, 114, 101, 32, 105, 115, 32, 110, 111, 32, 115, 117, 99, 104, 32, 111, 112, 101, 110, 32, 108, 101, 115, 115, 111, 110], [116, 104, 101, 114, 101, 32, 105, 115, 32, 110, 111, 32, 115, 117, 99, 104, 32, 100, 105, 102, 102, 101, 114, 101, 110, 99, 101], [116, 104, 101, 32, 114, 101, 112, 111, 114, 116, 32, 104, 97, 115, 32, 110, 111, 32, 115, 117, 99, 104, 32, 98, 121, 116, 101], [116, 104, 101, 114, 101, 32, 105, 115, 32, 110, 111, 116, 104, 105, 110, 103, 32, 116, 111, 32, 117, 110, 100, 111], [103, 114, 105, 100], [59], [115, 117, 98, 106, 101, 99, 116], [116, 101, 97, 99, 104, 101, 114], [114, 111, 111, 109], [99, 108, 97, 115, 115, 101, 115], [108, 101, 115, 115, 111, 110], [97, 98, 115, 101, 110, 116], [112, 114, 101, 115, 101, 110, 116], [99, 111, 118, 101, 114], [119, 97, 116, 99, 104], [114, 101, 112, 97, 105, 114], [97, 108, 108], [115, 119, 97, 112], [109, 111, 118, 101], [111, 112, 101, 110]]
/-- the characters of the texts, by number -/
def ga_tx (w : Nat) : Option (List Nat) := if w < 1000 then none else ga_txs[w - 1000]?
def ga_sl (w : Nat) (_ : ga_M) : Option Int32 := (ga_tx w).map fun t => Int32.ofNat t.length
def ga_sc (w : Nat) (i : Int32) (_ : ga_M) : Option Int32 := (ga_tx w).bind fun t => if i < 0 ∨ t.length ≤ i.toNatClampNeg then none else some (Int32.ofNat (t.getD i.toNatClampNeg 0))
def gaSH : ga_S := [.inl (11, [some (some 1), some (some 20), some (some 31), some (some 32), some (some 41), some (some 42), some (some 45), some (some 48), some (some 68), some (some 69)]), .inl (7, [none, none, none, none, none, none, none, some (some 2), some (some 4), some (some 6), some (some 8), some (some 10), some (some 12), some (some 14), some (some 16), some (some 18)]), .inl (6, [some (some 3)]), .inr (0, 6), .inl (6, [some (some 5)]), .inr (0, 8), .inl (6, [some (some 7)]), .inr (0, 8), .inl (6, [some (some 9)]), .inr (0, 6), .inl (6, [some (some 11)]), .inr (0, 40), .inl (6, [some (some 13)]), .inr (0, 40), .inl (6, [some (some 15)]), .inr (0, 40), .inl (6, [some (some 17)]), .inr (0, 40), .inl (6, [some (some 19)]), .inr (0, 40), .inl (3, [some (some 1), some (some 21), some (some 23), some (some 25), some (some 27), some (some 29)]), .inl (6, [some (some 22)]), .inr (0, 40), .inl (6, [some (some 24)]), .inr (0, 40), .inl (6, [some (some 26)]), .inr (0, 40), .inl (6, [some (some 28)]), .inr (0, 40), .inl (6, [some (some 30)]), .inr (0, 8), .inl (4, [some (some 1), some (some 20)]), .inl (0, [some (some 1), some (some 20), some (some 33), some (some 35), some (some 37), some (some 39), none]), .inl (6, [some (some 34)]), .inr (0, 8), .inl (6, [some (some 36)]), .inr (0, 4), .inl (6, [some (some 38)]), .inr (0, 4), .inl (6, [some (some 40)]), .inr (0, 4), .inl (2, [some (some 1), some (some 20), some (some 31), some (some 32)]), .inl (1, [some (some 20), some (some 43), none, none]), .inl (6, [some (some 44)]), .inr (0, 1848), .inl (10, [some (some 46), none, none, none, none, none, none, none]), .inl (6, [some (some 47)]), .inr (0, 900), .inl (8, [some (some 45), some (some 49)]), .inl (7, [none, none, none, none, none, none, none, some (some 50), some (some 52), some (some 54), some (some 56), some (some 58), some (some 60), some (some 62), some (some 64), some (some 66)]), .inl (6, [some (some 51)]), .inr (0, 6), .inl (6, [some (some 53)]), .inr (0, 8), .inl (6, [some (some 55)]), .inr (0, 8), .inl (6, [some (some 57)]), .inr (0, 6), .inl (6, [some (some 59)]), .inr (0, 40), .inl (6, [some (some 61)]), .inr (0, 40), .inl (6, [some (some 63)]), .inr (0, 40), .inl (6, [some (some 65)]), .inr (0, 40), .inl (6, [some (some 67)]), .inr (0, 40), .inl (9, [some (some 45), none, none, none, none]), .inl (5, [some (some 1), some (some 20), some (some 70), none]), .inl (6, [some (some 71)]), .inr (0, 150), .inl (12, [some (some 73), some (some 74), some (some 75), some (some 76), some (some 77), none, none, some (some 78), some (some 79), none, none, some (some 80), none, none, none, none, none, none, some (some 81), none]), .inr (0, 235), .inr (0, 235), .inr (0, 168), .inr (0, 168), .inr (0, 1680), .inr (0, 4), .inr (0, 4), .inr (1, 900), .inr (1, 240), .inr (2, 1)]
def gaS1 : ga_S := [.inl (11, [some (some 1), some none, some none, some none, some none, some none, some none, some none, some none, some none]), .inl (7, [none, none, none, none, none, none, none, some (some 2), some (some 4), some (some 6), some (some 8), some (some 10), some (some 12), some (some 14), some (some 16), some (some 18)]), .inl (6, [some (some 3)]), .inr (0, 6), .inl (6, [some (some 5)]), .inr (0, 8), .inl (6, [some (some 7)]), .inr (0, 8), .inl (6, [some (some 9)]), .inr (0, 6), .inl (6, [some (some 11)]), .inr (0, 40), .inl (6, [some (some 13)]), .inr (0, 40), .inl (6, [some (some 15)]), .inr (0, 40), .inl (6, [some (some 17)]), .inr (0, 40), .inl (6, [some (some 19)]), .inr (0, 40)]
def gaS2 : ga_S := [.inl (11, [some (some 1), some (some 20), some none, some none, some none, some none, some none, some none, some none, some none]), .inl (7, [none, none, none, none, none, none, none, some (some 2), some (some 4), some (some 6), some (some 8), some (some 10), some (some 12), some (some 14), some (some 16), some (some 18)]), .inl (6, [some (some 3)]), .inr (0, 6), .inl (6, [some (some 5)]), .inr (0, 8), .inl (6, [some (some 7)]), .inr (0, 8), .inl (6, [some (some 9)]), .inr (0, 6), .inl (6, [some (some 11)]), .inr (0, 40), .inl (6, [some (some 13)]), .inr (0, 40), .inl (6, [some (some 15)]), .inr (0, 40), .inl (6, [some (some 17)]), .inr (0, 40), .inl (6, [some (some 19)]), .inr (0, 40), .inl (3, [some (some 1), some (some 21), some (some 23), some (some 25), some (some 27), some (some 29)]), .inl (6, [some (some 22)]), .inr (0, 40), .inl (6, [some (some 24)]), .inr (0, 40), .inl (6, [some (some 26)]), .inr (0, 40), .inl (6, [some (some 28)]), .inr (0, 40), .inl (6, [some (some 30)]), .inr (0, 8)]
def gaS3 : ga_S := [.inl (11, [some (some 1), some (some 20), some (some 31), some (some 32), some (some 41), some (some 42), some (some 45), some (some 48), some (some 68), some (some 69)]), .inl (7, [none, none, none, none, none, none, none, some (some 2), some (some 4), some (some 6), some (some 8), some (some 10), some (some 12), some (some 14), some (some 16), some (some 18)]), .inl (6, [some (some 3)]), .inr (0, 6), .inl (6, [some (some 5)]), .inr (0, 8), .inl (6, [some (some 7)]), .inr (0, 8), .inl (6, [some (some 9)]), .inr (0, 6), .inl (6, [some (some 11)]), .inr (0, 40), .inl (6, [some (some 13)]), .inr (0, 40), .inl (6, [some (some 15)]), .inr (0, 40), .inl (6, [some (some 17)]), .inr (0, 40), .inl (6, [some (some 19)]), .inr (0, 40), .inl (3, [some (some 1), some (some 21), some (some 23), some (some 25), some (some 27), some (some 29)]), .inl (6, [some (some 22)]), .inr (0, 40), .inl (6, [some (some 24)]), .inr (0, 40), .inl (6, [some (some 26)]), .inr (0, 40), .inl (6, [some (some 28)]), .inr (0, 40), .inl (6, [some (some 30)]), .inr (0, 8), .inl (4, [some (some 1), some (some 20)]), .inl (0, [some (some 1), some (some 20), some (some 33), some (some 35), some (some 37), some (some 39), none]), .inl (6, [some (some 34)]), .inr (0, 8), .inl (6, [some (some 36)]), .inr (0, 4), .inl (6, [some (some 38)]), .inr (0, 4), .inl (6, [some (some 40)]), .inr (0, 4), .inl (2, [some (some 1), some (some 20), some (some 31), some (some 32)]), .inl (1, [some (some 20), some (some 43), none, none]), .inl (6, [some (some 44)]), .inr (0, 1848), .inl (10, [some (some 46), none, none, none, none, none, none, none]), .inl (6, [some (some 47)]), .inr (0, 900), .inl (8, [some (some 45), some (some 49)]), .inl (7, [none, none, none, none, none, none, none, some (some 50), some (some 52), some (some 54), some (some 56), some (some 58), some (some 60), some (some 62), some (some 64), some (some 66)]), .inl (6, [some (some 51)]), .inr (0, 6), .inl (6, [some (some 53)]), .inr (0, 8), .inl (6, [some (some 55)]), .inr (0, 8), .inl (6, [some (some 57)]), .inr (0, 6), .inl (6, [some (some 59)]), .inr (0, 40), .inl (6, [some (some 61)]), .inr (0, 40), .inl (6, [some (some 63)]), .inr (0, 40), .inl (6, [some (some 65)]), .inr (0, 40), .inl (6, [some (some 67)]), .inr (0, 40), .inl (9, [some (some 45), none, none, none, none]), .inl (5, [some (some 1), some (some 20), some (some 70), none]), .inl (6, [some (some 71)]), .inr (0, 150), .inl (12, [some (some 73), some (some 74), some (some 75), some (some 76), some (some 77), none, none, some (some 78), some (some 79), none, none, some (some 80), none, none, none, none, none, none, some (some 81), none]), .inr (0, 235), .inr (0, 235), .inr (0, 168), .inr (0, 168), .inr (0, 1680), .inr (0, 4), .inr (0, 4), .inr (1, 900), .inr (1, 240)]
def gaCls : Nat → List ga_F := fun ci => match ci with
  | 0 => [some none, some none, some none, some none, some none, some none, none]
  | 1 => [some none, some none, none, none]
  | 2 => [some none, some none, some none, some none]
  | 3 => [some none, some none, some none, some none, some none, some none]
  | 4 => [some none, some none]
  | 5 => [some none, some none, some none, none]
  | 6 => [some none]
  | 7 => [none, none, none, none, none, none, none, some none, some none, some none, some none, some none, some none, some none, some none, some none]
  | 8 => [some none, some none]
  | 9 => [some none, none, none, none, none]
  | 10 => [some none, none, none, none, none, none, none, none]
  | 11 => [some none, some none, some none, some none, some none, some none, some none, some none, some none, some none]
  | 12 => [some none, some none, some none, some none, some none, none, none, some none, some none, none, none, some none, none, none, none, none, none, none, some none, none]
  | _ => []
def gaCostL : List (Nat × Nat) := [(1, 6), (1, 6), (1, 6), (1, 6), (2, 12), (1, 6), (1, 6), (3, 18), (3, 18), (2, 12), (3, 18), (1, 6), (3, 18), (1, 6), (3, 18), (2, 12), (2, 12), (2, 12), (2, 12), (2, 12), (2, 12), (1, 6), (1, 6), (2, 12), (1, 6), (2, 12), (1, 6), (1, 6), (2, 12), (2, 12), (2, 12), (1, 6), (1, 6), (2, 12), (2, 12), (2, 12), (1, 6), (2, 12), (1, 6), (1, 6), (2, 12), (2, 12), (1, 6), (1, 6), (1, 6), (1, 6), (1, 6), (2, 12), (3, 18), (3, 18), (2, 12), (3, 18), (3, 18), (3, 18), (2, 12), (2, 12), (2, 12), (2, 12), (2, 12), (2, 12), (1, 6), (1, 6), (2, 12), (1, 6), (2, 12), (1, 6), (1, 6), (2, 12), (2, 12), (2, 12), (1, 6), (2, 12), (2, 12), (2, 12), (1, 6), (2, 12), (1, 6), (1, 6), (2, 12), (2, 12), (1, 6), (1, 6), (1, 6), (0, 0), (0, 0), (0, 0), (0, 0), (0, 0), (0, 0), (0, 0), (0, 0), (0, 0), (0, 0), (0, 0), (0, 0), (0, 0), (0, 0)]
def gaCost : Nat → Nat × Nat := fun mid => bif Nat.blt mid 400 then (0, 0) else gaCostL.getD (mid - 400) (0, 0)
end
section
def gb_strs : List (String × Nat × String × Nat) := [("SubstituteDesk$SchoolText", 49, "grid", 0), ("SubstituteDesk$SchoolText", 73, "subject", 1), ("SubstituteDesk$SchoolText", 86, "teacher", 2), ("SubstituteDesk$SchoolText", 107, "room", 3), ("SubstituteDesk$SchoolText", 112, "classes", 4), ("SubstituteDesk$SchoolText", 116, "lesson", 5), ("SubstituteDesk$ScriptText", 63, "absent", 6), ("SubstituteDesk$ScriptText", 65, "present", 7), ("SubstituteDesk$ScriptText", 67, "cover", 8), ("SubstituteDesk$ScriptText", 69, "watch", 9), ("SubstituteDesk$ScriptText", 71, "swap", 10), ("SubstituteDesk$ScriptText", 73, "move", 11), ("SubstituteDesk$ScriptText", 75, "room", 12), ("SubstituteDesk$ScriptText", 77, "repair", 13), ("SubstituteDesk$ScriptText", 79, "open", 14), ("SubstituteDesk$ScriptText", 81, "all", 15), ("SubstituteDesk", 101, "the text would be too long", 16), ("SubstituteDesk", 112, "the text has no such length", 17), ("SubstituteDesk", 427, "there is no such teacher", 18), ("SubstituteDesk", 432, "there is no such day", 19), ("SubstituteDesk", 422, "there is no such lesson", 20), ("SubstituteDesk", 446, "it is refused", 21), ("SubstituteDesk", 437, "there is no such slot", 22), ("SubstituteDesk", 442, "there is no such room", 23), ("SubstituteDesk", 277, "the chain has no such teacher", 24), ("SubstituteDesk", 283, "no lesson can be exchanged with it", 25), ("SubstituteDesk", 307, "there is no such count", 26), ("SubstituteDesk", 330, "a lesson has no such property", 27), ("SubstituteDesk", 348, "a teacher has no such property", 28), ("SubstituteDesk", 353, "a room has no such property", 29), ("SubstituteDesk", 357, "there is no such subject", 30), ("SubstituteDesk", 366, "a subject has no such property", 31), ("SubstituteDesk", 444, "there is no such class", 32), ("SubstituteDesk", 378, "there is no such kind of rooms", 33), ("SubstituteDesk", 383, "there is no such open lesson", 34), ("SubstituteDesk", 385, "there is no such difference", 35), ("SubstituteDesk", 406, "the report has no such byte", 36), ("SubstituteDesk", 414, "there is nothing to undo", 37), ("SubstituteDeskModel", 288, "grid", 38), ("SubstituteDeskModel", 274, ";", 39), ("SubstituteDeskModel", 290, "subject", 40), ("SubstituteDeskModel", 280, "teacher", 41), ("SubstituteDeskModel", 299, "room", 42), ("SubstituteDeskModel", 301, "classes", 43), ("SubstituteDeskModel", 303, "lesson", 44), ("SubstituteDeskModel", 308, "absent", 45), ("SubstituteDeskModel", 310, "present", 46), ("SubstituteDeskModel", 312, "cover", 47), ("SubstituteDeskModel", 314, "watch", 48), ("SubstituteDeskModel", 316, "repair", 49), ("SubstituteDeskModel", 318, "all", 50), ("SubstituteDeskModel", 320, "swap", 51), ("SubstituteDeskModel", 322, "move", 52), ("SubstituteDeskModel", 324, "open", 53)]
def gb_nest : List (String × Nat × MethodName × String) := [("SubstituteDesk", 9, ⟨"SubstituteDesk$School", "<init>", "()V"⟩, "SubstituteDesk"), ("SubstituteDesk$Plan", 66, ⟨"SubstituteDesk", "hasBit", "(II)Z"⟩, "SubstituteDesk"), ("SubstituteDesk", 67, ⟨"SubstituteDesk$Words", "<init>", "()V"⟩, "SubstituteDesk"), ("SubstituteDesk$SchoolText", 11, ⟨"SubstituteDesk$School", "<init>", "()V"⟩, "SubstituteDesk"), ("SubstituteDesk$SchoolText", 100, ⟨"SubstituteDesk", "hasBit", "(II)Z"⟩, "SubstituteDesk"), ("SubstituteDesk$School", 102, ⟨"SubstituteDesk", "hasBit", "(II)Z"⟩, "SubstituteDesk"), ("SubstituteDesk$Chains", 100, ⟨"SubstituteDesk", "hasBit", "(II)Z"⟩, "SubstituteDesk")]
def gb_cast : List (String × String) := [("java/lang/IllegalStateException", "java/lang/IllegalStateException"), ("java/lang/IllegalArgumentException", "java/lang/IllegalArgumentException"), ("java/lang/IndexOutOfBoundsException", "java/lang/IndexOutOfBoundsException"), ("java/util/NoSuchElementException", "java/util/NoSuchElementException")]
def gb_nc : List (String × String) := [("java/lang/IllegalArgumentException", "java/lang/IllegalStateException"), ("java/lang/IllegalArgumentException", "java/lang/IndexOutOfBoundsException"), ("java/lang/IllegalArgumentException", "java/util/NoSuchElementException"), ("java/lang/IllegalStateException", "java/lang/IllegalArgumentException"), ("java/lang/IllegalStateException", "java/lang/IndexOutOfBoundsException"), ("java/lang/IllegalStateException", "java/util/NoSuchElementException"), ("java/lang/IndexOutOfBoundsException", "java/lang/IllegalArgumentException"), ("java/lang/IndexOutOfBoundsException", "java/lang/IllegalStateException"), ("java/lang/IndexOutOfBoundsException", "java/util/NoSuchElementException"), ("java/util/NoSuchElementException", "java/lang/IllegalArgumentException"), ("java/util/NoSuchElementException", "java/lang/IllegalStateException"), ("java/util/NoSuchElementException", "java/lang/IndexOutOfBoundsException")]
end
section
/-! ===== BEGIN a constructor that throws (launches without stack traces) ===== -/
section VXIA
variable {p : Program} {l : Launch} {e : Env} {R : Room} {s : State} {m : MethodId} {args : Array Value} {below : List Frame} {meth : Method} {c : Code} {T : State} {locs : List Loc} {cells slots : Nat}
theorem vx_callI (X : Stand p l e R s m args below meth c T locs cells slots) (hexec : p.tables.exec = Jvm.exec) {own : String} {index : Nat} {y : MethodName} {bytes : ByteArray} {maxL : Nat}
    (hown : s.vm.findClass own = some m.cls) (hy1 : y.name = "<init>") (hlink : (Cond.methodLink own index y).before args s = true) (hinst : (Cond.instanceMethod y).before args s = true)
    (hcode : (Cond.code y bytes maxL none).before args s = true) (hy : y.cls ≠ "java/lang/invoke/MethodHandle" ∧ y.cls ≠ "java/lang/invoke/VarHandle")
    {W9 : Nat} {Pre : Pt → Array Value → Prop} {Post : Pt → Array Value → Option Value → Pt → Prop} {PostX : Pt → Array Value → Addr → Pt → Prop} (hK : vx_Back l R p e below s args y 3 W9 Pre Post PostX)
    {g : JFrame} (hg : g.method = m) (hsize : g.locals.size = c.maxLocals) {a : Addr} {argsL rest : List Value} (hlen : ∀ sig, parseMethodDescriptor y.desc = some sig → argsL.length = sig.parameters.length)
    (hstack : g.stack = argsL.reverse ++ .ref a :: rest) (hW : 2 * g.monitorRoom + (rest.map fun v => v.category).sum ≤ W9) (hdg : decode c.code g.pc = .ok (.invokespecial index, 3))
    (hpre : ∀ vm₁, s.WarmedH vm₁ → Pre ⟨T.setVm vm₁, locs, cells, slots⟩ (Value.ref a :: argsL).toArray) :
    (∃ (v : Option Value) (vm₁ : Vm) (B : Pt), s.WarmedH vm₁ ∧ Stand p l e R s m args below meth c B.U B.locs B.cells B.slots ∧ Post ⟨T.setVm vm₁, locs, cells, slots⟩ (Value.ref a :: argsL).toArray v B ∧
      ∀ target, Steps p.tables e below (B.U.setTop { g with pc := g.pc + 3, stack := v.toList ++ rest }) target → Steps p.tables e below (T.setTop g) target) ∨
    (∃ (q : Addr) (vm₁ : Vm) (B : Pt), s.WarmedH vm₁ ∧ Stand p l e R s m args below meth c B.U B.locs B.cells B.slots ∧ PostX ⟨T.setVm vm₁, locs, cells, slots⟩ (Value.ref a :: argsL).toArray q B ∧
      Steps p.tables e below (T.setTop g) ((B.U.setTop { g with stack := rest }).pushFrame (.throwing q))) := by
  subst hg
  have hpl : e.platform.magicAccessors = ({} : Platform).magicAccessors := by rw [X.admits.platform]
  obtain ⟨mk, methM, cM, kP, vm₁, hnamed, hmethM, hcodeM, -, hlocalsM, -, hkP, -, hW₁, hstep₁⟩ := Steps.initColdArgs (e := e) X.here hexec X.warmed hpl hown hy1 hy hlink hinst hcode (f := g) rfl hlen hstack hdg
  have X₁ := X.noted hW₁
  rcases hK g.method meth c ⟨T.setVm vm₁, locs, cells, slots⟩ { g with stack := rest } (.invokespecial index) mk (Value.ref a :: argsL).toArray X₁ rfl hsize hdg hW (X₁.named hnamed) (hpre vm₁ X₁.warmed) with ⟨v, B, X', hpost, hsteps⟩ | ⟨q, B, X', hpost, hsteps⟩
  · exact Or.inl ⟨v, vm₁, B, X₁.warmed, X', hpost, fun target h => hstep₁ _ fun acts => by rw [doInvoke_state]; exact hsteps.trans h⟩
  · exact Or.inr ⟨q, vm₁, B, X₁.warmed, X', hpost, hstep₁ _ fun acts => by rw [doInvoke_state]; exact hsteps⟩
end VXIA
section VXIB
variable {p : Program} {l : Launch} {e : Env} {R : Room} {s : State} {m : MethodId} {args : Array Value} {below : List Frame} {meth : Method} {c : Code} {H : Heap} {locs : List Loc} {cells slots : Nat}
variable {y : MethodName} {bytes cc : ByteArray} {maxL nL mc ms n index : Nat} {ret : Option FieldType} {ws : List Cond} {rm : Room} {Pc : Array Value → State → Prop} {Qc : Array Value → State → Outcome → State → Prop} {XC : String → State → State → Prop} {free : Addr → Prop} {Ts : List Cond} {own C : String} {b : Addr} {As rest : List Value} {g : JFrame}
theorem vx_runI (S : CallFix p m c cc nL s args Ts own) (hM : vx_Met l y ws rm Pc Qc XC mc ms free) (cw : CallB R s args own index y bytes maxL none ws rm mc ms n ∧ y.name = "<init>" ∧ (Cond.instanceMethod y).before args s = true) (hp : PreS s H Pc (.ref b :: As))
    (hg : g.method = m) (hn : As.length = n) (hsize : g.locals.size = nL) (hstack : g.stack = As.reverse ++ .ref b :: rest) (hW : 2 * g.monitorRoom + (rest.map fun v => v.category).sum ≤ 8) (hdg : decode cc g.pc = .ok (.invokespecial index, 3)) (hf : cells + mc ≤ R.cells ∧ slots + ms ≤ R.slots) :
    vx_Run p l e R s m args below meth c H locs cells slots mc ms g rest (Qc (Value.ref b :: As).toArray) XC free := by
  have hK : vx_Back l R p e below s args y 3 8 (PreOf R mc ms Pc) (PostOf Qc mc ms free) (vx_Post XC mc ms free) := vx_callBack cw.1 hM hp.1
  obtain ⟨⟨-, -, -, -, -, -, hcode, -, hy, hlen, hl⟩, hy1, hin⟩ := cw
  obtain ⟨hx, hb, hml, ho, -⟩ := S
  have hPc := hp.2
  intro T hT X
  rcases vx_callI X hx (bytes := bytes) (maxL := maxL) ho hy1 hl hin hcode hy hK hg (hsize.trans hml.symm) (a := b) (argsL := As) (rest := rest) (fun sig h => hn.trans (hlen sig h)) hstack hW (by rw [hb]; exact hdg)
    (fun vm₁ hW₁ => ⟨hf.1, hf.2, hPc (T.setVm vm₁) hT hW₁⟩) with ⟨v, vm₁, ⟨U', l2, c2, s2⟩, hW₁, X', ⟨g', mk, t, L, e1, e2, hq, h1, hL, h2, h3⟩, st⟩ | ⟨q, vm₁, ⟨U', l2, c2, s2⟩, hW₁, X', ⟨g', mk, t, L, E, ce, e1, e2, hq, hce, hcv, hcl, h1, hL, h2, h3⟩, st⟩
  · dsimp only [Pt.U, Pt.locs, Pt.cells, Pt.slots] at X' e1 e2 h1 h2 h3 st
    subst h1; subst h2; subst h3
    exact Or.inl ⟨v, (T.setVm vm₁).calling g' mk (Value.ref b :: As).toArray, t, U', L, hT, X', hL, e1, e2, hq, st⟩
  · dsimp only [Pt.U, Pt.locs, Pt.cells, Pt.slots] at X' e1 e2 h1 h2 h3 st hcl
    subst h1; subst h2; subst h3
    exact Or.inr ⟨q, (T.setVm vm₁).calling g' mk (Value.ref b :: As).toArray, t, U', L, E, ce, hT, X', hL, e1, e2, hq, hce, hcv, vx_cls hW₁ hcl, st⟩
end VXIB
/-! ===== END ===== -/
/-! ===== BEGIN a private constructor of a nest mate that throws ===== -/
section VXIC
variable {p : Program} {l : Launch} {e : Env} {R : Room} {s : State} {m : MethodId} {args : Array Value} {below : List Frame} {meth : Method} {c : Code} {T : State} {locs : List Loc} {cells slots : Nat}
theorem vx_callIN (X : Stand p l e R s m args below meth c T locs cells slots) (hexec : p.tables.exec = Jvm.exec) {own : String} {index : Nat} {host : String} {y : MethodName} {bytes : ByteArray} {maxL : Nat}
    (hown : s.vm.findClass own = some m.cls) (hy1 : y.name = "<init>") (hlink : (Cond.methodLinkNest own index y host).before args s = true) (hinst : (Cond.instanceMethod y).before args s = true)
    (hcode : (Cond.code y bytes maxL none).before args s = true) (hy : y.cls ≠ "java/lang/invoke/MethodHandle" ∧ y.cls ≠ "java/lang/invoke/VarHandle")
    {W9 : Nat} {Pre : Pt → Array Value → Prop} {Post : Pt → Array Value → Option Value → Pt → Prop} {PostX : Pt → Array Value → Addr → Pt → Prop} (hK : vx_Back l R p e below s args y 3 W9 Pre Post PostX)
    {g : JFrame} (hg : g.method = m) (hsize : g.locals.size = c.maxLocals) {a : Addr} {argsL rest : List Value} (hlen : ∀ sig, parseMethodDescriptor y.desc = some sig → argsL.length = sig.parameters.length)
    (hstack : g.stack = argsL.reverse ++ .ref a :: rest) (hW : 2 * g.monitorRoom + (rest.map fun v => v.category).sum ≤ W9) (hdg : decode c.code g.pc = .ok (.invokespecial index, 3))
    (hpre : ∀ vm₁, s.WarmedH vm₁ → Pre ⟨T.setVm vm₁, locs, cells, slots⟩ (Value.ref a :: argsL).toArray) :
    (∃ (v : Option Value) (vm₁ : Vm) (B : Pt), s.WarmedH vm₁ ∧ Stand p l e R s m args below meth c B.U B.locs B.cells B.slots ∧ Post ⟨T.setVm vm₁, locs, cells, slots⟩ (Value.ref a :: argsL).toArray v B ∧
      ∀ target, Steps p.tables e below (B.U.setTop { g with pc := g.pc + 3, stack := v.toList ++ rest }) target → Steps p.tables e below (T.setTop g) target) ∨
    (∃ (q : Addr) (vm₁ : Vm) (B : Pt), s.WarmedH vm₁ ∧ Stand p l e R s m args below meth c B.U B.locs B.cells B.slots ∧ PostX ⟨T.setVm vm₁, locs, cells, slots⟩ (Value.ref a :: argsL).toArray q B ∧
      Steps p.tables e below (T.setTop g) ((B.U.setTop { g with stack := rest }).pushFrame (.throwing q))) := by
  subst hg
  have hpl : e.platform.magicAccessors = ({} : Platform).magicAccessors := by rw [X.admits.platform]
  obtain ⟨mk, methM, cM, kP, vm₁, hnamed, hmethM, hcodeM, -, hlocalsM, -, hkP, -, hW₁, hstep₁⟩ := Steps.initColdArgsNest (e := e) X.here hexec X.warmed hpl hown hy1 hy hlink hinst hcode (f := g) rfl hlen hstack hdg
  have X₁ := X.noted hW₁
  rcases hK g.method meth c ⟨T.setVm vm₁, locs, cells, slots⟩ { g with stack := rest } (.invokespecial index) mk (Value.ref a :: argsL).toArray X₁ rfl hsize hdg hW (X₁.named hnamed) (hpre vm₁ X₁.warmed) with ⟨v, B, X', hpost, hsteps⟩ | ⟨q, B, X', hpost, hsteps⟩
  · exact Or.inl ⟨v, vm₁, B, X₁.warmed, X', hpost, fun target h => hstep₁ _ fun acts => by rw [doInvoke_state]; exact hsteps.trans h⟩
  · exact Or.inr ⟨q, vm₁, B, X₁.warmed, X', hpost, hstep₁ _ fun acts => by rw [doInvoke_state]; exact hsteps⟩
end VXIC
section VXID
variable {p : Program} {l : Launch} {e : Env} {R : Room} {s : State} {m : MethodId} {args : Array Value} {below : List Frame} {meth : Method} {c : Code} {H : Heap} {locs : List Loc} {cells slots : Nat}
theorem vx_runIN {y : MethodName} {bytes cc : ByteArray} {maxL nL mc ms n index : Nat} {ws : List Cond} {rm : Room} {Pc : Array Value → State → Prop} {Qc : Array Value → State → Outcome → State → Prop} {XC : String → State → State → Prop} {free : Addr → Prop} {Ts : List Cond} {own host : String} {b : Addr} {As rest : List Value} {g : JFrame}
    (S : CallFix p m c cc nL s args Ts own) (hM : vx_Met l y ws rm Pc Qc XC mc ms free) (cw : va_CN R s args own index y host bytes maxL none ws rm mc ms n ∧ y.name = "<init>" ∧ (Cond.instanceMethod y).before args s = true) (hp : PreS s H Pc (.ref b :: As))
    (hg : g.method = m) (hn : As.length = n) (hsize : g.locals.size = nL) (hstack : g.stack = As.reverse ++ .ref b :: rest) (hW : 2 * g.monitorRoom + (rest.map fun v => v.category).sum ≤ 8) (hdg : decode cc g.pc = .ok (.invokespecial index, 3)) (hf : cells + mc ≤ R.cells ∧ slots + ms ≤ R.slots) :
    vx_Run p l e R s m args below meth c H locs cells slots mc ms g rest (Qc (Value.ref b :: As).toArray) XC free := by
  obtain ⟨⟨⟨hrc, hrs, hfr, hlo, hws, hcw⟩, hcode, hini, hy, hlen, hl⟩, hx1, hx2⟩ := cw
  have hK : vx_Back l R p e below s args y 3 8 (PreOf R mc ms Pc) (PostOf Qc mc ms free) (vx_Post XC mc ms free) := vx_back (bytes := bytes) (maxL := maxL) (ret := none) hM hp.1 hrc hrs hfr hlo hws hcw (fun a' U hW => word_at hW (Or.inl (by first | rfl | simp [Cond.onTables, Cond.keeps, Cond.steady])) hini)
  obtain ⟨hx, hb, hml, ho, -⟩ := S
  have hPc := hp.2
  intro T hT X
  rcases vx_callIN X hx (bytes := bytes) (maxL := maxL) ho hx1 hl hx2 hcode hy hK hg (hsize.trans hml.symm) (a := b) (argsL := As) (rest := rest) (fun sig h => hn.trans (hlen sig h)) hstack hW (by rw [hb]; exact hdg)
    (fun vm₁ hW₁ => ⟨hf.1, hf.2, hPc (T.setVm vm₁) hT hW₁⟩) with ⟨v, vm₁, ⟨U', l2, c2, s2⟩, hW₁, X', ⟨g', mk, t, L, e1, e2, hq, h1, hL, h2, h3⟩, st⟩ | ⟨q, vm₁, ⟨U', l2, c2, s2⟩, hW₁, X', ⟨g', mk, t, L, E, ce, e1, e2, hq, hce, hcv, hcl, h1, hL, h2, h3⟩, st⟩
  · dsimp only [Pt.U, Pt.locs, Pt.cells, Pt.slots] at X' e1 e2 h1 h2 h3 st
    subst h1; subst h2; subst h3
    exact Or.inl ⟨v, (T.setVm vm₁).calling g' mk (Value.ref b :: As).toArray, t, U', L, hT, X', hL, e1, e2, hq, st⟩
  · dsimp only [Pt.U, Pt.locs, Pt.cells, Pt.slots] at X' e1 e2 h1 h2 h3 st hcl
    subst h1; subst h2; subst h3
    exact Or.inr ⟨q, (T.setVm vm₁).calling g' mk (Value.ref b :: As).toArray, t, U', L, E, ce, hT, X', hL, e1, e2, hq, hce, hcv, vx_cls hW₁ hcl, st⟩
end VXID
/-! ===== END ===== -/
/-! ===== BEGIN a private method of a nest mate that may throw (follows va_callVN, va_callSN, va_runVN, va_runSN) ===== -/
section
variable {p : Program} {l : Launch} {e : Env} {R : Room} {s : State} {m : MethodId} {args : Array Value} {below : List Frame} {meth : Method} {c : Code} {H : Heap} {locs : List Loc} {cells slots : Nat}
variable {T : State}
theorem vx_callVN (X : Stand p l e R s m args below meth c T locs cells slots) (hexec : p.tables.exec = Jvm.exec) {own C : String} {index : Nat} {host : String} {y : MethodName} {bytes : ByteArray} {maxL : Nat} {ret : Option FieldType}
    (hown : s.vm.findClass own = some m.cls) (hlink : (Cond.methodLinkNest own index y host).before args s = true) (hinst : (Cond.instanceMethod y).before args s = true) (hsel : (Cond.selects C y y).before args s = true)
    (hcode : (Cond.code y bytes maxL ret).before args s = true) (hy : y.cls ≠ "java/lang/invoke/MethodHandle" ∧ y.cls ≠ "java/lang/invoke/VarHandle")
    {W : Nat} {Pre : Pt → Array Value → Prop} {Post : Pt → Array Value → Option Value → Pt → Prop} {PostX : Pt → Array Value → Addr → Pt → Prop} (hK : vx_Back l R p e below s args y 3 W Pre Post PostX)
    {b : Addr} {cellB : Cell} (hcell : T.heap[b]? = some cellB) (hobj : cellB.vm.isStatics = false) (hcls : s.vm.findClass C = some cellB.cls)
    {g : JFrame} (hg : g.method = m) (hsize : g.locals.size = c.maxLocals) {argsL rest : List Value} (hlen : ∀ sig, parseMethodDescriptor y.desc = some sig → argsL.length = sig.parameters.length)
    (hstack : g.stack = argsL.reverse ++ .ref b :: rest) (hW : 2 * g.monitorRoom + (rest.map fun v => v.category).sum ≤ W) (hdg : decode c.code g.pc = .ok (.invokevirtual index, 3))
    (hpre : ∀ vm₁, s.WarmedH vm₁ → Pre ⟨T.setVm vm₁, locs, cells, slots⟩ (Value.ref b :: argsL).toArray) :
    (∃ (v : Option Value) (vm₁ : Vm) (B : Pt), s.WarmedH vm₁ ∧ Stand p l e R s m args below meth c B.U B.locs B.cells B.slots ∧ Post ⟨T.setVm vm₁, locs, cells, slots⟩ (Value.ref b :: argsL).toArray v B ∧
      ∀ target, Steps p.tables e below (B.U.setTop { g with pc := g.pc + 3, stack := v.toList ++ rest }) target → Steps p.tables e below (T.setTop g) target) ∨
    (∃ (q : Addr) (vm₁ : Vm) (B : Pt), s.WarmedH vm₁ ∧ Stand p l e R s m args below meth c B.U B.locs B.cells B.slots ∧ PostX ⟨T.setVm vm₁, locs, cells, slots⟩ (Value.ref b :: argsL).toArray q B ∧
      Steps p.tables e below (T.setTop g) ((B.U.setTop { g with stack := rest }).pushFrame (.throwing q))) := by
  obtain ⟨mk, methM, hnamed, hmethM, hstM, habM⟩ := Cond.instanceMethod_spec hinst
  obtain ⟨methM', cM, hmethM', -, -, -, -, -, -, hsigM⟩ := Cond.code_spec hnamed hcode
  cases hmethM.symm.trans hmethM'
  obtain ⟨c2, r2, m2, q1, q2, q3, q4, kP, hkP, hkPi⟩ := Cond.selects_spec hsel
  cases hcls.symm.trans q1
  cases (State.methodFound?_of_named hnamed hy).symm.trans q2
  cases hnamed.symm.trans q3
  have hselP : selectMethod e.platform s.vm cellB.cls mk = .method mk := by rw [Launch.admits_selectMethod X.admits]; exact q4
  obtain ⟨vm₁, X₁, hstep₁⟩ := X.invokevirtualNest hexec hown hlink hnamed hmethM hstM hkP hkPi hy (a := b) (cell := cellB) hcell
    (fun z h => by rw [h] at hobj; cases hobj) hselP hmethM habM hkP hkPi (g := g) hg (argsL := argsL) (rest := rest) (hlen _ hsigM) hstack hdg
  rcases hK m meth c ⟨T.setVm vm₁, locs, cells, slots⟩ { g with stack := rest } (.invokevirtual index) mk (Value.ref b :: argsL).toArray X₁ hg hsize hdg hW (X₁.named hnamed) (hpre vm₁ X₁.warmed) with ⟨v, B, X', hpost, hsteps⟩ | ⟨q, B, X', hpost, hsteps⟩
  · exact Or.inl ⟨v, vm₁, B, X₁.warmed, X', hpost, fun target h => hstep₁ _ fun acts => by rw [doInvoke_state]; exact hsteps.trans h⟩
  · exact Or.inr ⟨q, vm₁, B, X₁.warmed, X', hpost, hstep₁ _ fun acts => by rw [doInvoke_state]; exact hsteps⟩
theorem vx_callSN (X : Stand p l e R s m args below meth c T locs cells slots) (hexec : p.tables.exec = Jvm.exec) {own : String} {index : Nat} {host : String} {y : MethodName} {bytes : ByteArray} {maxL : Nat} {ret : Option FieldType}
    (hown : s.vm.findClass own = some m.cls) (hlink : (Cond.methodLinkNest own index y host).before args s = true) (hstat : (Cond.static y).before args s = true) (hinit : (Cond.initialized y.cls).before args s = true)
    (hcode : (Cond.code y bytes maxL ret).before args s = true) (hy : y.cls ≠ "java/lang/invoke/MethodHandle" ∧ y.cls ≠ "java/lang/invoke/VarHandle")
    {W : Nat} {Pre : Pt → Array Value → Prop} {Post : Pt → Array Value → Option Value → Pt → Prop} {PostX : Pt → Array Value → Addr → Pt → Prop} (hK : vx_Back l R p e below s args y 3 W Pre Post PostX)
    {g : JFrame} (hg : g.method = m) (hsize : g.locals.size = c.maxLocals) {argsL rest : List Value} (hlen : ∀ sig, parseMethodDescriptor y.desc = some sig → argsL.length = sig.parameters.length)
    (hstack : g.stack = argsL.reverse ++ rest) (hW : 2 * g.monitorRoom + (rest.map fun v => v.category).sum ≤ W) (hdg : decode c.code g.pc = .ok (.invokestatic index, 3))
    (hpre : ∀ vm₁, s.WarmedH vm₁ → Pre ⟨T.setVm vm₁, locs, cells, slots⟩ argsL.toArray) :
    (∃ (v : Option Value) (vm₁ : Vm) (B : Pt), s.WarmedH vm₁ ∧ Stand p l e R s m args below meth c B.U B.locs B.cells B.slots ∧ Post ⟨T.setVm vm₁, locs, cells, slots⟩ argsL.toArray v B ∧
      ∀ target, Steps p.tables e below (B.U.setTop { g with pc := g.pc + 3, stack := v.toList ++ rest }) target → Steps p.tables e below (T.setTop g) target) ∨
    (∃ (q : Addr) (vm₁ : Vm) (B : Pt), s.WarmedH vm₁ ∧ Stand p l e R s m args below meth c B.U B.locs B.cells B.slots ∧ PostX ⟨T.setVm vm₁, locs, cells, slots⟩ argsL.toArray q B ∧
      Steps p.tables e below (T.setTop g) ((B.U.setTop { g with stack := rest }).pushFrame (.throwing q))) := by
  obtain ⟨mk, hnamed⟩ := Cond.code_named hcode
  obtain ⟨methM, cM, hmethM, -, -, -, -, -, -, hsigM⟩ := Cond.code_spec hnamed hcode
  have hstatic : methM.isStatic = true := Cond.static_spec hnamed hmethM hstat
  obtain ⟨kP, hkP, -⟩ := className_of_methodNamed hnamed
  have hinitP : kP.init = .initialized := Cond.initialized_spec (findClass_of_methodNamed hnamed) hkP hinit
  obtain ⟨vm₁, X₁, hstep₁⟩ := X.invokestaticNest hexec hown hlink hnamed hmethM hstatic hkP hinitP hy (g := g) hg (argsL := argsL) (rest := rest) (hlen _ hsigM) hstack hdg
  rcases hK m meth c ⟨T.setVm vm₁, locs, cells, slots⟩ { g with stack := rest } (.invokestatic index) mk argsL.toArray X₁ hg hsize hdg hW (X₁.named hnamed) (hpre vm₁ X₁.warmed) with ⟨v, B, X', hpost, hsteps⟩ | ⟨q, B, X', hpost, hsteps⟩
  · exact Or.inl ⟨v, vm₁, B, X₁.warmed, X', hpost, fun target h => hstep₁ _ fun acts => by rw [doInvoke_state]; exact hsteps.trans h⟩
  · exact Or.inr ⟨q, vm₁, B, X₁.warmed, X', hpost, hstep₁ _ fun acts => by rw [doInvoke_state]; exact hsteps⟩
theorem vx_runVN {y : MethodName} {bytes cc : ByteArray} {maxL nL mc ms n index : Nat} {ret : Option FieldType} {ws : List Cond} {rm : Room} {Pc : Array Value → State → Prop} {Qc : Array Value → State → Outcome → State → Prop} {XC : String → State → State → Prop} {free : Addr → Prop} {Ts : List Cond} {own C host : String} {b : Addr} {As rest : List Value} {g : JFrame}
    (S : CallFix p m c cc nL s args Ts own) (hM : vx_Met l y ws rm Pc Qc XC mc ms free) (cw : va_CN R s args own index y host bytes maxL ret ws rm mc ms n ∧ (Cond.instanceMethod y).before args s = true ∧ (Cond.selects C y y).before args s = true) (hp : PreV s H C b Pc As)
    (hg : g.method = m) (hn : As.length = n) (hsize : g.locals.size = nL) (hstack : g.stack = As.reverse ++ .ref b :: rest) (hW : 2 * g.monitorRoom + (rest.map fun v => v.category).sum ≤ 8) (hdg : decode cc g.pc = .ok (.invokevirtual index, 3)) (hf : cells + mc ≤ R.cells ∧ slots + ms ≤ R.slots) :
    vx_Run p l e R s m args below meth c H locs cells slots mc ms g rest (Qc (Value.ref b :: As).toArray) XC free := by
  obtain ⟨⟨⟨hrc, hrs, hfr, hlo, hws, hcw⟩, hcode, hini, hy, hlen, hl⟩, hx1, hx2⟩ := cw
  have hK : vx_Back l R p e below s args y 3 8 (PreOf R mc ms Pc) (PostOf Qc mc ms free) (vx_Post XC mc ms free) := vx_back (bytes := bytes) (maxL := maxL) (ret := ret) hM hp.1 hrc hrs hfr hlo hws hcw (fun a' U hW => word_at hW (Or.inl (by first | rfl | simp [Cond.onTables, Cond.keeps, Cond.steady])) hini)
  obtain ⟨hx, hb, hml, ho, -⟩ := S
  obtain ⟨-, ⟨cellB, hcB, hoB, hclB⟩, hPc⟩ := hp
  intro T hT X
  rcases vx_callVN X hx (C := C) (bytes := bytes) (maxL := maxL) (ret := ret) ho hl hx1 hx2 hcode hy hK (by rw [hT]; exact hcB) hoB hclB hg (hsize.trans hml.symm) (argsL := As) (rest := rest) (fun sig h => hn.trans (hlen sig h)) hstack hW (by rw [hb]; exact hdg)
    (fun vm₁ hW₁ => ⟨hf.1, hf.2, hPc (T.setVm vm₁) hT hW₁⟩) with ⟨v, vm₁, ⟨U', l2, c2, s2⟩, hW₁, X', ⟨g', mk, t, L, e1, e2, hq, h1, hL, h2, h3⟩, st⟩ | ⟨q, vm₁, ⟨U', l2, c2, s2⟩, hW₁, X', ⟨g', mk, t, L, E, ce, e1, e2, hq, hce, hcv, hcl, h1, hL, h2, h3⟩, st⟩
  · dsimp only [Pt.U, Pt.locs, Pt.cells, Pt.slots] at X' e1 e2 h1 h2 h3 st
    subst h1; subst h2; subst h3
    exact Or.inl ⟨v, (T.setVm vm₁).calling g' mk (Value.ref b :: As).toArray, t, U', L, hT, X', hL, e1, e2, hq, st⟩
  · dsimp only [Pt.U, Pt.locs, Pt.cells, Pt.slots] at X' e1 e2 h1 h2 h3 st hcl
    subst h1; subst h2; subst h3
    exact Or.inr ⟨q, (T.setVm vm₁).calling g' mk (Value.ref b :: As).toArray, t, U', L, E, ce, hT, X', hL, e1, e2, hq, hce, hcv, vx_cls hW₁ hcl, st⟩
theorem vx_runSN {y : MethodName} {bytes cc : ByteArray} {maxL nL mc ms n index : Nat} {ret : Option FieldType} {ws : List Cond} {rm : Room} {Pc : Array Value → State → Prop} {Qc : Array Value → State → Outcome → State → Prop} {XC : String → State → State → Prop} {free : Addr → Prop} {Ts : List Cond} {own host : String} {As rest : List Value} {g : JFrame}
    (S : CallFix p m c cc nL s args Ts own) (hM : vx_Met l y ws rm Pc Qc XC mc ms free) (cw : va_CN R s args own index y host bytes maxL ret ws rm mc ms n ∧ (Cond.static y).before args s = true ∧ True) (hp : PreS s H Pc As)
    (hg : g.method = m) (hn : As.length = n) (hsize : g.locals.size = nL) (hstack : g.stack = As.reverse ++ rest) (hW : 2 * g.monitorRoom + (rest.map fun v => v.category).sum ≤ 8) (hdg : decode cc g.pc = .ok (.invokestatic index, 3)) (hf : cells + mc ≤ R.cells ∧ slots + ms ≤ R.slots) :
    vx_Run p l e R s m args below meth c H locs cells slots mc ms g rest (Qc As.toArray) XC free := by
  obtain ⟨⟨⟨hrc, hrs, hfr, hlo, hws, hcw⟩, hcode, hini, hy, hlen, hl⟩, hx1, hx2⟩ := cw
  have hK : vx_Back l R p e below s args y 3 8 (PreOf R mc ms Pc) (PostOf Qc mc ms free) (vx_Post XC mc ms free) := vx_back (bytes := bytes) (maxL := maxL) (ret := ret) hM hp.1 hrc hrs hfr hlo hws hcw (fun a' U hW => word_at hW (Or.inl (by first | rfl | simp [Cond.onTables, Cond.keeps, Cond.steady])) hini)
  obtain ⟨hx, hb, hml, ho, -⟩ := S
  have hPc := hp.2
  intro T hT X
  rcases vx_callSN X hx (bytes := bytes) (maxL := maxL) (ret := ret) ho hl hx1 hini hcode hy hK hg (hsize.trans hml.symm) (argsL := As) (rest := rest) (fun sig h => hn.trans (hlen sig h)) hstack hW (by rw [hb]; exact hdg)
    (fun vm₁ hW₁ => ⟨hf.1, hf.2, hPc (T.setVm vm₁) hT hW₁⟩) with ⟨v, vm₁, ⟨U', l2, c2, s2⟩, hW₁, X', ⟨g', mk, t, L, e1, e2, hq, h1, hL, h2, h3⟩, st⟩ | ⟨q, vm₁, ⟨U', l2, c2, s2⟩, hW₁, X', ⟨g', mk, t, L, E, ce, e1, e2, hq, hce, hcv, hcl, h1, hL, h2, h3⟩, st⟩
  · dsimp only [Pt.U, Pt.locs, Pt.cells, Pt.slots] at X' e1 e2 h1 h2 h3 st
    subst h1; subst h2; subst h3
    exact Or.inl ⟨v, (T.setVm vm₁).calling g' mk As.toArray, t, U', L, hT, X', hL, e1, e2, hq, st⟩
  · dsimp only [Pt.U, Pt.locs, Pt.cells, Pt.slots] at X' e1 e2 h1 h2 h3 st hcl
    subst h1; subst h2; subst h3
    exact Or.inr ⟨q, (T.setVm vm₁).calling g' mk As.toArray, t, U', L, E, ce, hT, X', hL, e1, e2, hq, hce, hcv, vx_cls hW₁ hcl, st⟩
end
/-! ===== END ===== -/
end
section
section GB1
/-! the contracts of the methods, out of their runs -/
def gb_exn (k : Nat) : String := if k = 1 then "java/lang/IllegalStateException" else if k = 2 then "java/lang/IllegalArgumentException" else if k = 3 then "java/lang/IndexOutOfBoundsException" else "java/util/NoSuchElementException"
def gb_good : List Cond := lw_tbl.filter goodWord
theorem gb_w (i : Nat) {w : Cond} (h : lw_tbl[i]? = some w) (g : goodWord w = true) : w ∈ gb_good := List.mem_filter.mpr ⟨List.mem_of_getElem? h, g⟩
theorem gb_ww {w : Cond} (h : w ∈ gb_good) : goodWord w = true := (List.mem_filter.mp h).2
def gb_ws (y : MethodName) (cc : ByteArray) (maxL : Nat) (ret : Option FieldType) : List Cond := .code y cc maxL ret :: gb_good
def gb_rm (lev mc ms : Nat) : Room := { frames := 10 + lev, cells := mc, slots := ms, locals := 100 + 50 * lev }
/-- the cells, in a heap -/
def gb_P (D : va_G) (cA : Nat → ClassId) (ad : Nat → Nat) (A : Nat → Prop) (S : ga_S) (σ : ga_M) (H : Heap) : Prop := va_P D vwCl (ga_w cA ad S σ) H ∧ va_D A (ga_w cA ad S σ) ∧ (S.length < 83 → H.size = ad S.length)
/-- the constants' objects: their bytes -/
def gb_Str (ad : Nat → Nat) (A : Nat → Prop) (adV : Nat → Nat) (U : State) (H : Heap) : Prop := ∀ i : Nat, i < ga_txs.length → va_O "java/lang/String" (ad (1000 + i)) A U H ∧ va_OF "java/lang/String" "coder" "B" (.int 0) (ad (1000 + i)) A U H ∧ va_OF "java/lang/String" "value" "[B" (.ref (adV i)) (ad (1000 + i)) A U H ∧ va_T .byte (adV i) (ga_txs.getD i []).length (fun j => .int (Int32.ofNat ((ga_txs.getD i []).getD j 0))) A U H
theorem gb_Str.to {ad : Nat → Nat} {A : Nat → Prop} {adV : Nat → Nat} {u U : State} {H H1 : Heap} (hvm : u.vm.Alike U.vm) (h : gb_Str ad A adV u H) (hq : ∀ a : Nat, a < H.size → ¬ A a → H1[a]? = H[a]?) : gb_Str ad A adV U H1 := fun i hi =>
  ⟨((h i hi).1.kept hq).moved hvm, ((h i hi).2.1.kept hq).moved hvm, ((h i hi).2.2.1.kept hq).moved hvm, ((h i hi).2.2.2.kept hq).moved hvm⟩
/-- what never changes -/
def gb_E (D : va_G) (cA : Nat → ClassId) (ad : Nat → Nat) (A : Nat → Prop) (adV : Nat → Nat) (U : State) (H : Heap) : Prop :=
  va_K D vwCl (ga_tys cA) U ∧ (∀ q ∈ gb_strs, vk_R q.1 q.2.1 q.2.2.1 (ad (1000 + q.2.2.2)) U) ∧ (∀ q ∈ gb_nest, va_Nw (.methodLinkNest q.1 q.2.1 q.2.2.1 q.2.2.2) U) ∧ (∀ q ∈ gb_cast, va_Nw (.castable q.1 q.2) U) ∧ (∀ q ∈ gb_nc, va_Nc q.1 q.2 U) ∧
  vx_Zq Bundle.tN "UNASSIGNED_STACK" Bundle.steD A U H ∧ vx_Zq Bundle.tN "SUPPRESSED_SENTINEL" Bundle.listD A U H ∧ va_Z "java/lang/String" "COMPACT_STRINGS" "Z" (.int 1) A U H ∧ gb_Str ad A adV U H ∧
  (∀ q : Nat, H.size ≤ q → A q) ∧ (∀ k, k + 1 < 83 → ad (k + 1) = ad k + 1)
variable {l : Launch} {D : va_G} {cA : Nat → ClassId} {ad : Nat → Nat} {A : Nat → Prop} {adV : Nat → Nat}
theorem gb_E.to {s U : State} {H H1 : Heap} (h : gb_E D cA ad A adV s H) (hW : s.WarmedH U.vm) (h1 : H.size ≤ H1.size) (hq : ∀ a : Nat, a < H.size → ¬ A a → H1[a]? = H[a]?) : gb_E D cA ad A adV U H1 := by
  obtain ⟨hK, hs, hn, hc, hnc, hU, hN, hZ, hS, hA, had⟩ := h
  have hal : s.vm.Alike U.vm := hW.alike
  exact ⟨va_K.moved hal hK, fun q hq => vk_R.warm hW (hs q hq), fun q hq => va_Nw.warmM hW (hn q hq), fun q hq => va_Nw.warmC hW (hc q hq), fun q hq => (hnc q hq).moved hal,
    vx_Zq.moved hal (hU.kept hq), vx_Zq.moved hal (hN.kept hq), va_Z.moved hal (hZ.kept hq), hS.to hal hq, fun q h2 => hA q (Nat.le_trans h1 h2), had⟩
theorem gb_E.same {s U : State} {H : Heap} (h : gb_E D cA ad A adV s H) (hv : U.vm = s.vm) : gb_E D cA ad A adV U H :=
  h.to (by rw [hv]; exact State.WarmedH.refl s) (Nat.le_refl _) (fun _ _ _ => rfl)
def gb_Pc (D : va_G) (cA : Nat → ClassId) (ad : Nat → Nat) (A : Nat → Prop) (adV : Nat → Nat) (as : List Value) (S : ga_S) (σ : ga_M) : Array Value → State → Prop := fun v U => v = (as.map (ga_v ad)).toArray ∧ gb_P D cA ad A S σ U.heap ∧ gb_E D cA ad A adV U U.heap
def gb_Qc (D : va_G) (cA : Nat → ClassId) (ad : Nat → Nat) (A : Nat → Prop) (o : ga_O) : Array Value → State → Outcome → State → Prop := fun _ st oc t => (∃ v, o.1 = .inl v ∧ oc = .returned (v.map (ga_v ad)) ∧ gb_P D cA ad A o.2.1 o.2.2 t.heap) ∧ va_F A st t
def gb_XC (D : va_G) (cA : Nat → ClassId) (ad : Nat → Nat) (A : Nat → Prop) (o : ga_O) : String → State → State → Prop := fun E st t => (∃ En, o.1 = .inr En ∧ E = gb_exn En ∧ gb_P D cA ad A o.2.1 o.2.2 t.heap) ∧ va_F A st t
def gb_C (l : Launch) (D : va_G) (cA : Nat → ClassId) (ad : Nat → Nat) (A : Nat → Prop) (adV : Nat → Nat) (y : MethodName) (ws : List Cond) (lev mc ms : Nat) (as : List Value) (S : ga_S) (σ : ga_M) (o : ga_O) : Prop :=
  vx_Met l y ws (gb_rm lev mc ms) (gb_Pc D cA ad A adV as S σ) (gb_Qc D cA ad A o) (gb_XC D cA ad A o) mc ms A
theorem gb_blind {as : List Value} {S : ga_S} {σ : ga_M} : FrameBlind (gb_Pc D cA ad A adV as S σ) := fun a U g mk h =>
  ⟨h.1, h.2.1, (show gb_E D cA ad A adV (U.calling g mk a) U.heap from h.2.2.same rfl)⟩
/-- what a run of a call becomes -/
theorem gb_done {p : Program} {e : Env} {R : Room} {s : State} {m : MethodId} {args : Array Value} {below : List Frame} {meth : Method} {c : Code} {H : Heap} {locs : List Loc} {cells slots mc ms : Nat} {Q : State → Prop} {pc : Nat} {ls : Array Slot} {st r : List Value} {o : ga_O} {a : Array Value} {H0 : Heap}
    (hr : vx_Run p l e R s m args below meth c H locs cells slots mc ms (F0 m pc ls st) (r.map (ga_v ad)) (gb_Qc D cA ad A o a) (gb_XC D cA ad A o) A) (hS : va_S A H0 H locs)
    (kk : ∀ v, o.1 = .inl v → ∀ (H1 : Heap) (locs1 : List Loc), ga_I D cA A H0 ad 83 o.2.1 o.2.2 H1 locs1 → W p l e R s m args below meth c H1 locs1 (cells + mc) (slots + ms) Q (F0 m (pc + 3) ls ((v.toList ++ r).map (ga_v ad))))
    (kx : ∀ E, o.1 = .inr E → ∀ (H1 : Heap) (locs1 : List Loc) (q : Addr) (ce : Cell), ga_I D cA A H0 ad 83 o.2.1 o.2.2 H1 locs1 → H1[q]? = some ce → ce.vm = .none → s.vm.findClass (gb_exn E) = some ce.cls → vx_W p l e R s m args below meth c H1 locs1 (cells + mc) (slots + ms) Q (F0 m pc ls (r.map (ga_v ad))) q) :
    W p l e R s m args below meth c H locs cells slots Q (F0 m pc ls st) := by
  intro T hT X
  rcases hr T hT X with ⟨v, st₀, t, T', L, h0, X', hL, e1, e2, ⟨⟨v', hv1, hv2, hP⟩, hF⟩, st⟩ | ⟨q, st₀, t, T', L, E, ce, h0, X', hL, e1, e2, ⟨⟨En, hE1, hE2, hP⟩, hF⟩, hce, hcv, hcl, st⟩
  · cases hv2
    obtain ⟨k1, k2, k3⟩ := vx_keep h0 e1 hS (fun _ _ h => h) (fun _ h => h) hL hF
    rw [← e1] at hP
    obtain ⟨t2, a1, b1⟩ := kk v' hv1 T'.heap (locs ++ L) ⟨hP.1, hP.2.1, k3, hP.2.2⟩ T' rfl X'
    refine ⟨t2, st t2 ?_, b1⟩
    have e9 : (v'.map (ga_v ad)).toList ++ r.map (ga_v ad) = (v'.toList ++ r).map (ga_v ad) := by cases v' <;> rfl
    rw [e9]
    exact a1
  · subst hE2
    obtain ⟨k1, k2, k3⟩ := vx_keep h0 e1 hS (fun _ _ h => h) (fun _ h => h) hL hF
    rw [← e1] at hP
    obtain ⟨t2, a1, b1⟩ := kx En hE1 T'.heap (locs ++ L) q ce ⟨hP.1, hP.2.1, k3, hP.2.2⟩ (by rw [e1]; exact hce) hcv hcl T' rfl X'
    exact ⟨t2, st.trans a1, b1⟩
end GB1
end
section
section GB3
variable {p : Program} {l : Launch} {e : Env} {s : State} {m : MethodId} {args : Array Value} {below : List Frame} {meth : Method} {c : Code}
variable {D : va_G} {cA : Nat → ClassId} {ad : Nat → Nat} {A : Nat → Prop} {adV : Nat → Nat}
/-- the answer's kind, by the declared one -/
def gb_rt (ret : Option FieldType) (v : Option Value) : Prop := match v with
  | none => ret = none
  | some (.int x) => ret = some .int ∨ (ret = some .boolean ∧ (x = 0 ∨ x = 1))
  | some (.long _) => ret = some .long
  | some (.double _) => ret = some .double
  | some (.ref _) => ∃ n, ret = some (.object n)
  | _ => False
theorem gb_P.of {H0 H : Heap} {S : ga_S} {σ : ga_M} {locs : List Loc} (h : ga_I D cA A H0 ad 83 S σ H locs) {t : State} (ht : t.heap = H) : gb_P D cA ad A S σ t.heap := by
  rw [ht]; exact ⟨h.1, h.2.1, h.2.2.2⟩
theorem gb_retOk {cc : ByteArray} {R : Room} {mc ms : Nat} {o : ga_O} {ret : Option FieldType} (hx : p.tables.exec = Jvm.exec) (hb : c.code = cc) (hr : meth.sig.returnType = ret) (hlocks : meth.locks = false) (ho : ∀ v, o.1 = .inl v → gb_rt ret v) :
    ga_RetOk p l e R s m args below meth c (vx_MQ below (gb_Qc D cA ad A o) (gb_XC D cA ad A o) args s mc ms A) cc D cA ad A 83 mc ms 0 0 (fun o' => o' = o) := by
  intro v S σ hΦ pc kc ks hkc hks hri H locs ls hI
  have hΦ : ((Sum.inl v, S, σ) : ga_O) = o := hΦ
  subst hΦ
  have hrt := ho v rfl
  have hS := hI.2.2.1
  have hq : ∀ (t : State), t.heap = H → s.WarmedH t.vm → gb_Qc D cA ad A (Sum.inl v, S, σ) args s (.returned (v.map (ga_v ad))) t := fun t ht _ => ⟨⟨v, rfl, rfl, gb_P.of hI ht⟩, hS.F ht⟩
  refine W.widen (k := mc) (n := ms) (by omega) (by omega) (vx_ret ?_)
  match v, hri, hrt, hq with
  | none, hri, hrt, hq => exact W.vret hx hb (hr.trans hrt) hq hS.2.2 hri hlocks
  | some (.int x), hri, hrt, hq =>
    rcases hrt with h | ⟨h, h1⟩
    · exact W.iret hx hb (hr.trans h) hq hS.2.2 hri hlocks
    · exact W.zret (ty := .boolean) hx hb (hr.trans h) (by rcases h1 with rfl | rfl <;> rfl) hq hS.2.2 hri hlocks
  | some (.long x), hri, hrt, hq => exact W.lret hx hb (hr.trans hrt) hq hS.2.2 hri hlocks
  | some (.double x), hri, hrt, hq => exact W.dret hx hb (hr.trans hrt) hq hS.2.2 hri hlocks
  | some (.ref x), hri, hrt, hq =>
    obtain ⟨n, hn⟩ := hrt
    exact W.aret hx hb (hr.trans hn) (Or.inl ⟨n, rfl⟩) (Or.inr ⟨_, rfl⟩) hq hS.2.2 hri hlocks
theorem gb_excOk {R : Room} {mc ms : Nat} {o : ga_O} (hlocks : meth.locks = false) (hout : ∀ x ∈ c.exceptionTable.toList, False) :
    ga_ExcOk p l e R s m args below meth c (vx_MQ below (gb_Qc D cA ad A o) (gb_XC D cA ad A o) args s mc ms A) D cA ad A (fun _ => []) 83 mc ms gb_exn 0 0 (fun o' => o' = o) := by
  intro E S σ hΦ pc st kc ks _ hkc hks H locs ls q ce hI hsz hce hcv hcl
  have hΦ : ((Sum.inr E, S, σ) : ga_O) = o := hΦ
  subst hΦ
  exact vx_out (fun x hx => (hout x hx).elim) hlocks hce hcv hcl (fun t ht _ => ⟨⟨E, rfl, rfl, gb_P.of hI ht⟩, hI.2.2.1.F ht⟩) hI.2.2.1.2.2 (by omega) (by omega)
theorem gb_catOk {R : Room} {Q : State → Prop} {exn : Nat → String} {cb sb : Nat} : ga_CatOk p l e R s m args below meth c Q D cA ad A (fun _ => []) 83 exn cb sb := by
  intro pc E pre h suf hh
  exfalso
  have := congrArg List.length hh.1
  simp at this
end GB3
end
section
section GB4
variable {p : Program} {l : Launch} {e : Env} {s : State} {m : MethodId} {args : Array Value} {below : List Frame} {meth : Method} {c : Code}
variable {D : va_G} {cA : Nat → ClassId} {ad : Nat → Nat} {A : Nat → Prop} {adV : Nat → Nat}
def gb_nms : List String := ["java/lang/RuntimeException", "java/lang/Exception"]
/-- the words of a throw -/
def gb_tw (own : String) (ik ic En : Nat) : Bool := (Cond.classLink own ik (gb_exn En) :: Cond.initialized (gb_exn En) :: vx_atS own ic (gb_exn En) gb_nms).all fun w => bif goodWord w then decide (w ∈ gb_good) else (vx_ot w && gb_cast.any fun q => decide (w = .castable q.1 q.2))
theorem gb_tw_at {own : String} {ik ic En : Nat} (h : gb_tw own ik ic En = true) {Ts : List Cond} (hT : ∀ w ∈ gb_good, w ∈ Ts) (hts : ∀ w ∈ Ts, w.before args s = true) (hc : ∀ q ∈ gb_cast, va_Nw (.castable q.1 q.2) s) :
    ∀ w ∈ Cond.classLink own ik (gb_exn En) :: Cond.initialized (gb_exn En) :: vx_atS own ic (gb_exn En) gb_nms, w.before args s = true ∧ vx_ot w = true := by
  intro w hw
  have h1 := List.all_eq_true.mp h w hw
  cases hg : goodWord w with
  | true =>
    rw [hg] at h1
    exact ⟨hts w (hT w (of_decide_eq_true h1)), by simp [vx_ot, hg]⟩
  | false =>
    rw [hg] at h1
    obtain ⟨h2, h3⟩ := Bool.and_eq_true_iff.mp h1
    obtain ⟨q, hq, he⟩ := List.any_eq_true.mp h3
    refine ⟨?_, h2⟩
    have := of_decide_eq_true he
    subst this
    exact va_Nw.use rfl (hc q hq)
/-- a throw's place -/
def gb_Th (own : String) (cc : ByteArray) (pc ik En : Nat) : Prop := ∃ (is ic : Nat) (w : Bool) (tx : String) (i : Nat), decode cc pc = .ok (.new ik, 3) ∧ decode cc (pc + 3) = .ok (.dup, 1) ∧
  (bif w then (decode cc (pc + 4) = .ok (.ldc_w is, 3) ∧ decode cc (pc + 7) = .ok (.invokespecial ic, 3) ∧ decode cc (pc + 10) = .ok (.athrow, 1)) else (decode cc (pc + 4) = .ok (.ldc is, 2) ∧ decode cc (pc + 6) = .ok (.invokespecial ic, 3) ∧ decode cc (pc + 9) = .ok (.athrow, 1))) ∧
  (own, is, tx, i) ∈ gb_strs ∧ gb_tw own ik ic En = true
theorem gb_fit (En : Nat) : Bundle.fit (gb_exn En) = true := by
  unfold gb_exn
  repeat' split
  all_goals decide +kernel
theorem gb_fits : ∀ n ∈ gb_nms, Bundle.fit n = true := by decide +kernel
theorem gb_thrOk {cc : ByteArray} {own : String} {Ts : List Cond} {lev mc ms : Nat} {o : ga_O} {code : Nat → Option ga_E} (hl : l.stackTraces = false) (hx : p.tables.exec = Jvm.exec) (hb : c.code = cc) (hlocks : meth.locks = false) (hout : ∀ x ∈ c.exceptionTable.toList, False)
    (hown : s.vm.findClass own = some m.cls) (hT : ∀ w ∈ gb_good, w ∈ Ts) (hts : ∀ w ∈ Ts, w.before args s = true) (hE : gb_E D cA ad A adV s s.heap) (hfull : ¬ o.2.1.length < 83)
    (hth : ∀ pc idx len r1 r2 sw, code pc = some (.new idx, len, r1, r2, sw) → 1000 ≤ r1 → gb_Th own cc pc idx (r1 - 1000)) :
    ga_ThrOk p l e (gb_rm lev mc ms) s m args below meth c (vx_MQ below (gb_Qc D cA ad A o) (gb_XC D cA ad A o) args s mc ms A) D cA ad A code 83 mc ms 0 0 (fun o' => o' = o) := by
  intro pc idx len r1 r2 sw hcode hr1 st S σ kc ks hst hkc hks hΦ H locs ls hI hsz
  have hΦ : ((Sum.inr (r1 - 1000), S, σ) : ga_O) = o := hΦ
  subst hΦ
  obtain ⟨is, ic, w, tx, i, d0, d3, hd, hstr, htw⟩ := hth pc idx len r1 r2 sw hcode hr1
  obtain ⟨hK, hs, hn, hca, hnc, hU, hN, hZ, hS, hA, had⟩ := hE
  have hw := gb_tw_at (s := s) (args := args) htw hT hts hca
  have h0 : ∀ t : State, s.vm.Alike t.vm → H.size ≤ t.heap.size → (∀ q : Nat, q < H.size → t.heap[q]? = H[q]?) → gb_XC D cA ad A (Sum.inr (r1 - 1000), S, σ) (gb_exn (r1 - 1000)) s t := fun t _ h1 h2 =>
    ⟨⟨_, rfl, rfl, hI.1.kept (fun k q hk => h2 _ (hI.1 k q hk).lt), hI.2.1, fun h => absurd h hfull⟩, Nat.le_trans hI.2.2.1.1 h1, fun q h3 h4 => by rw [h2 q (Nat.lt_of_lt_of_le h3 hI.2.2.1.1)]; exact hI.2.2.1.2.1 q h3 h4⟩
  have hsum := ga_catsum ad st
  cases w with
  | true =>
    obtain ⟨d4, d7, d10⟩ := hd
    exact vx_throwSW hx hb hl hown (gb_fit _) gb_fits (hw _ List.mem_cons_self).1 (hw _ (List.mem_cons_of_mem _ List.mem_cons_self)).1 (hs _ hstr) (fun w h => (hw w (List.mem_cons_of_mem _ (List.mem_cons_of_mem _ h))).1) (fun w h => (hw w h).2) hU hN hI.2.2.1 hsz d0 d3 d4 d7 d10 (fun x hx => (hout x hx).elim)
      (by simp [gb_rm, gb_nms]; omega) (by simp only [gb_rm, gb_nms, List.length_cons, List.length_nil]; omega) (by simp only [gb_rm]; omega) (by simp only [gb_rm]; omega) hlocks h0 hI.2.2.1.2.2 (by omega) (by omega)
  | false =>
    obtain ⟨d4, d7, d10⟩ := hd
    exact vx_throwS hx hb hl hown (gb_fit _) gb_fits (hw _ List.mem_cons_self).1 (hw _ (List.mem_cons_of_mem _ List.mem_cons_self)).1 (hs _ hstr) (fun w h => (hw w (List.mem_cons_of_mem _ (List.mem_cons_of_mem _ h))).1) (fun w h => (hw w h).2) hU hN hI.2.2.1 hsz d0 d3 d4 d7 d10 (fun x hx => (hout x hx).elim)
      (by simp [gb_rm, gb_nms]; omega) (by simp only [gb_rm, gb_nms, List.length_cons, List.length_nil]; omega) (by simp only [gb_rm]; omega) (by simp only [gb_rm]; omega) hlocks h0 hI.2.2.1.2.2 (by omega) (by omega)
end GB4
section GB5
variable {p : Program} {l : Launch} {e : Env} {s : State} {m : MethodId} {args : Array Value} {below : List Frame} {meth : Method} {c : Code}
variable {D : va_G} {cA : Nat → ClassId} {ad : Nat → Nat} {A : Nat → Prop} {adV : Nat → Nat}
/-- what a call's row rests on -/
def gb_Lk (l : Launch) (D : va_G) (cA : Nat → ClassId) (ad : Nat → Nat) (A : Nat → Prop) (adV : Nat → Nat) (g : ga_G) (cost : Nat → Nat × Nat) (PS : ga_S → ga_M → Prop) (own : String) (lev : Nat) (ins : Instr) (mid na : Nat) (sw : List (Int32 × Nat)) : Prop :=
  ∃ (y : MethodName) (bytes : ByteArray) (maxL : Nat) (ret : Option FieldType) (lv n : Nat), lv + 1 ≤ lev ∧ maxL ≤ 30 ∧ (y.cls ≠ "java/lang/invoke/MethodHandle" ∧ y.cls ≠ "java/lang/invoke/VarHandle") ∧ Cond.code y bytes maxL ret ∈ gb_good ∧ Cond.initialized y.cls ∈ gb_good ∧
    (parseMethodDescriptor y.desc).map (fun d => d.parameters.length) = some n ∧
    (∀ as S σ o, PS S σ → as.length = na → g ga_O mid as S σ some = some o → gb_C l D cA ad A adV y (gb_ws y bytes maxL ret) lv (cost mid).1 (cost mid).2 as S σ o) ∧
    ((∃ i, ins = .invokevirtual i ∧ na = n + 1 ∧ Cond.methodLink own i y ∈ gb_good ∧ Cond.instanceMethod y ∈ gb_good ∧ Cond.selects y.cls y y ∈ gb_good ∧
        ((∃ q r' T N, sw = q :: r' ∧ vwCl[q.2]? = some (y.cls, T, N)) ∨ (y.cls = "java/lang/String" ∧ ∀ as S σ o, g ga_O mid as S σ some = some o → ∃ i as', as = .ref (1000 + i) :: as' ∧ i < ga_txs.length)))
     ∨ (∃ i, ins = .invokestatic i ∧ na = n ∧ Cond.methodLink own i y ∈ gb_good ∧ Cond.static y ∈ gb_good)
     ∨ (∃ i host, ins = .invokestatic i ∧ na = n ∧ (own, i, y, host) ∈ gb_nest ∧ Cond.static y ∈ gb_good))
theorem gb_ws_in {y y2 : MethodName} {b b2 : ByteArray} {n n2 : Nat} {r r2 : Option FieldType} (h : Cond.code y2 b2 n2 r2 ∈ gb_good) : GoodIn (gb_ws y b n r) (gb_ws y2 b2 n2 r2) := by
  intro w hw
  have : w ∈ gb_good := by
    rcases List.mem_cons.mp hw with rfl | h1
    · exact h
    · exact h1
  exact ⟨List.mem_cons_of_mem _ this, good_of_word (gb_ww this)⟩
theorem gb_callOk {y0 : MethodName} {cc : ByteArray} {own : String} {maxL0 lev mc ms : Nat} {ret0 : Option FieldType} {g : ga_G} {cost : Nat → Nat × Nat} {PS : ga_S → ga_M → Prop} {code : Nat → Option ga_E} {Q : State → Prop} (hx : p.tables.exec = Jvm.exec) (hb : c.code = cc) (hml : c.maxLocals = maxL0)
    (hown : s.vm.findClass own = some m.cls) (hts : ∀ w ∈ gb_ws y0 cc maxL0 ret0, w.before args s = true) (hE : gb_E D cA ad A adV s s.heap)
    (hdec : ∀ pc ins len r1 r2 sw, code pc = some (ins, len, r1, r2, sw) → decode cc pc = .ok (ins, len) ∧ ga_chk pc ins len r1 sw = true)
    (hlk : ∀ pc ins len mid na sw, code pc = some (ins, len, mid, na, sw) → ((∃ i, ins = .invokevirtual i) ∨ (∃ i, ins = .invokestatic i) ∨ (∃ i, ins = .invokespecial i) ∧ mid ≠ 0) → (∀ as S σ, g ga_O mid as S σ some = none) ∨ gb_Lk l D cA ad A adV g cost PS own lev ins mid na sw) :
    ga_CallOk p l e (gb_rm lev mc ms) s m args below meth c Q D cA ad A code g cost 83 mc ms gb_exn 0 0 PS := by
  intro pc ins len mid na sw hcode hins as r S σ o kc ks hPS hlen hsum hg hrv hkc hks H locs ls hI hsz kk kx
  rcases hlk pc ins len mid na sw hcode hins with hdead | ⟨y, bytes, maxL, ret, lv, n, hlv, hmL, hmh, hcw, hini, hpar, hC, hkind⟩
  · rw [hdead] at hg; cases hg
  obtain ⟨hdg, hchk⟩ := hdec pc ins len mid na sw hcode
  have hM := hC as S σ o hPS hlen hg
  have hF : CallFix p m c cc maxL0 s args (gb_ws y0 cc maxL0 ret0) own := ⟨hx, hb, hml, hown, hts⟩
  have hgood : ∀ w ∈ gb_good, w.before args s = true := fun w h => hts w (List.mem_cons_of_mem _ h)
  have hPc : ∀ U : State, U.heap = H → s.WarmedH U.vm → gb_Pc D cA ad A adV as S σ (as.map (ga_v ad)).toArray U := fun U hU hW => ⟨rfl, gb_P.of hI hU, by rw [hU]; exact hE.to hW hI.2.2.1.1 hI.2.2.1.2.1⟩
  have hcat : ((r.map (ga_v ad)).map fun v => v.category).sum ≤ 8 := by
    rw [List.map_map]
    have : ((fun v : Value => v.category) ∘ ga_v ad) = fun v => v.category := funext fun v => ga_v_cat ad v
    rw [this]; exact hsum
  have hsz2 : ls.size = maxL0 := by rw [hsz, hml]
  have hroom : (gb_rm lv (cost mid).1 (cost mid).2).frames + 1 ≤ (gb_rm lev mc ms).frames ∧ 8 + (maxL + 11) + (gb_rm lv (cost mid).1 (cost mid).2).locals ≤ (gb_rm lev mc ms).locals := by
    simp only [gb_rm]; omega
  have hf : 0 + kc + (cost mid).1 ≤ (gb_rm lev mc ms).cells ∧ 0 + ks + (cost mid).2 ≤ (gb_rm lev mc ms).slots := by
    simp only [gb_rm]; omega
  rcases hkind with ⟨i, rfl, hna, hlkw, hinst, hsel, hrc⟩ | ⟨i, rfl, hna, hlkw, hst⟩ | ⟨i, host, rfl, hna, hlkw, hst⟩
  · have hlen3 : len = 3 := by simpa [ga_chk] using hchk
    subst hlen3
    have hcb := callB_of (own := own) (index := i) (R := gb_rm lev mc ms) n hts (gb_ws_in (y := y0) (b := cc) (n := maxL0) (r := ret0) hcw) rfl rfl rfl (hgood _ hini) (hgood _ hlkw) ⟨hmh.1, hmh.2, hpar⟩ hroom
    have hcW : CallW (gb_rm lev mc ms) s args own y.cls i y bytes maxL ret (gb_ws y bytes maxL ret) (gb_rm lv (cost mid).1 (cost mid).2) (cost mid).1 (cost mid).2 n := ⟨hcb, hgood _ hinst, hgood _ hsel⟩
    have hrec : ∃ n0 as', as = .ref n0 :: as' ∧ ∃ cellB : Cell, H[ad n0]? = some cellB ∧ cellB.vm.isStatics = false ∧ s.vm.findClass y.cls = some cellB.cls := by
      rcases hrc with ⟨q, r', T, N, hsw, hcl⟩ | ⟨hcls, hw⟩
      · obtain ⟨n0, fs, as', h1, h2⟩ := hrv i q r' rfl hsw
        exact ⟨n0, as', h1, va_recv (hE.1) hI.1 hcl (ga_w_at h2)⟩
      · obtain ⟨i0, as', h1, h2⟩ := hw as S σ o hg
        refine ⟨1000 + i0, as', h1, ?_⟩
        have hS := hE.2.2.2.2.2.2.2.2.1
        have := (hS.to (Vm.Alike.refl s.vm) hI.2.2.1.2.1) i0 h2
        rw [hcls]
        obtain ⟨cell, h3, h4, h5, -⟩ := this.1
        exact ⟨cell, h3, h4, h5⟩
    obtain ⟨n0, as', has, hcell⟩ := hrec
    subst has
    have hrun := vx_runV (e := e) (meth := meth) (below := below) (g := F0 m pc ls ((((Value.ref n0 :: as').reverse ++ r)).map (ga_v ad))) (rest := r.map (ga_v ad)) (As := as'.map (ga_v ad)) (b := ad n0) (H := H) (locs := locs) (cells := 0 + kc) (slots := 0 + ks) hF hM hcW ⟨gb_blind, hcell, hPc⟩ rfl
      (by have : (as'.map (ga_v ad)).length = as'.length := List.length_map ..
          have h2 : as'.length + 1 = na := hlen
          omega) hsz2 (by simp [List.map_append, List.map_reverse, ga_v]) (by simpa [F0, JFrame.monitorRoom] using hcat) hdg hf
    exact gb_done hrun hI.2.2.1 (fun v hv H1 locs1 hI1 => by simpa [Nat.add_assoc] using kk v hv H1 locs1 hI1) (fun E hE1 H1 locs1 q ce h1 h2 h3 h4 => by simpa [Nat.add_assoc] using kx E hE1 H1 locs1 q ce h1 h2 h3 h4)
  · have hlen3 : len = 3 := by simpa [ga_chk] using hchk
    subst hlen3
    have hcb := callB_of (own := own) (index := i) (R := gb_rm lev mc ms) n hts (gb_ws_in (y := y0) (b := cc) (n := maxL0) (r := ret0) hcw) rfl rfl rfl (hgood _ hini) (hgood _ hlkw) ⟨hmh.1, hmh.2, hpar⟩ hroom
    have hrun := vx_runS (e := e) (meth := meth) (below := below) (g := F0 m pc ls ((as.reverse ++ r).map (ga_v ad))) (rest := r.map (ga_v ad)) (As := as.map (ga_v ad)) (H := H) (locs := locs) (cells := 0 + kc) (slots := 0 + ks) hF hM ⟨hcb, hgood _ hst⟩ ⟨gb_blind, hPc⟩ rfl
      (by have : (as.map (ga_v ad)).length = as.length := List.length_map ..
          omega) hsz2 (by simp [List.map_append, List.map_reverse]) (by simpa [F0, JFrame.monitorRoom] using hcat) hdg hf
    exact gb_done hrun hI.2.2.1 (fun v hv H1 locs1 hI1 => by simpa [Nat.add_assoc] using kk v hv H1 locs1 hI1) (fun E hE1 H1 locs1 q ce h1 h2 h3 h4 => by simpa [Nat.add_assoc] using kx E hE1 H1 locs1 q ce h1 h2 h3 h4)
  · have hlen3 : len = 3 := by simpa [ga_chk] using hchk
    subst hlen3
    have hcn := va_cnB (own := own) (host := host) (index := i) (R := gb_rm lev mc ms) n hts (gb_ws_in (y := y0) (b := cc) (n := maxL0) (r := ret0) hcw) rfl rfl rfl (hE.2.2.1 _ hlkw) (hgood _ hini) ⟨hmh.1, hmh.2, hpar⟩ hroom
    have hrun := vx_runSN (e := e) (meth := meth) (below := below) (g := F0 m pc ls ((as.reverse ++ r).map (ga_v ad))) (rest := r.map (ga_v ad)) (As := as.map (ga_v ad)) (H := H) (locs := locs) (cells := 0 + kc) (slots := 0 + ks) hF hM ⟨hcn, hgood _ hst, trivial⟩ ⟨gb_blind, hPc⟩ rfl
      (by have : (as.map (ga_v ad)).length = as.length := List.length_map ..
          omega) hsz2 (by simp [List.map_append, List.map_reverse]) (by simpa [F0, JFrame.monitorRoom] using hcat) hdg hf
    exact gb_done hrun hI.2.2.1 (fun v hv H1 locs1 hI1 => by simpa [Nat.add_assoc] using kk v hv H1 locs1 hI1) (fun E hE1 H1 locs1 q ce h1 h2 h3 h4 => by simpa [Nat.add_assoc] using kx E hE1 H1 locs1 q ce h1 h2 h3 h4)
end GB5
end
section
section GB6
theorem gb_lk_mem {cl : List (Nat × ga_E)} {pc : Nat} {r : ga_E} (h : ga_lk cl pc = some r) : (pc, r) ∈ cl := by
  induction cl with
  | nil => cases h
  | cons q t ih =>
    unfold ga_lk at h
    split at h
    · rename_i hb
      have := Nat.eq_of_beq_eq_true hb
      cases h
      rw [this]
      exact List.mem_cons_self
    · exact List.mem_cons_of_mem _ (ih h)
/-- a method's locals at its start -/
def gb_fl (as : List Value) : ga_Lo := as.flatMap fun v => if v.category = 2 then [some v, none] else [some v]
def gb_L0 (as : List Value) (n : Nat) : ga_Lo := gb_fl as ++ List.replicate (n - (gb_fl as).length) none
theorem gb_fl_len (ad : Nat → Nat) (as : List Value) : (lg_sl (as.map (ga_v ad))).length = (gb_fl as).length := by
  induction as with
  | nil => rfl
  | cons v t ih =>
    have e1 : lg_sl ((v :: t).map (ga_v ad)) = (if (ga_v ad v).category = 2 then [Slot.val (ga_v ad v), Slot.second] else [Slot.val (ga_v ad v)]) ++ lg_sl (t.map (ga_v ad)) := rfl
    have e2 : gb_fl (v :: t) = (if v.category = 2 then [some v, none] else [some v]) ++ gb_fl t := rfl
    rw [e1, e2, List.length_append, List.length_append, ih, ga_v_cat]
    split <;> rfl
theorem gb_fl_at (ad : Nat → Nat) (as : List Value) : ∀ (k i : Nat) (v : Value), (gb_fl as)[i]? = some (some v) → (k + i, ga_v ad v) ∈ lv_args k (as.map (ga_v ad)) := by
  induction as with
  | nil => intro k i v h; simp [gb_fl] at h
  | cons w t ih =>
    intro k i v h
    have e2 : gb_fl (w :: t) = (if w.category = 2 then [some w, none] else [some w]) ++ gb_fl t := rfl
    rw [e2] at h
    have e3 : lv_args k ((w :: t).map (ga_v ad)) = (k, ga_v ad w) :: lv_args (if w.category = 2 then k + 2 else k + 1) (t.map (ga_v ad)) := by
      show lv_args k (ga_v ad w :: t.map (ga_v ad)) = _
      rw [lv_args, ga_v_cat]
    rw [e3]
    by_cases hc : w.category = 2
    · rw [if_pos hc] at h ⊢
      match i, h with
      | 0, h => cases h; exact List.mem_cons_self
      | 1, h => cases h
      | j + 2, h =>
        have h : (gb_fl t)[j]? = some (some v) := by simpa using h
        have := ih (k + 2) j v h
        rw [show k + (j + 2) = k + 2 + j by omega]
        exact List.mem_cons_of_mem _ this
    · rw [if_neg hc] at h ⊢
      match i, h with
      | 0, h => cases h; exact List.mem_cons_self
      | j + 1, h =>
        have h : (gb_fl t)[j]? = some (some v) := by simpa using h
        have := ih (k + 1) j v h
        rw [show k + (j + 1) = k + 1 + j by omega]
        exact List.mem_cons_of_mem _ this
theorem gb_L0_len {as : List Value} {n : Nat} (h : (gb_fl as).length ≤ n) : (gb_L0 as n).length = n := by
  simp [gb_L0]; omega
theorem gb_L0_at {as : List Value} {n i : Nat} {v : Value} (h : (gb_L0 as n)[i]? = some (some v)) : (gb_fl as)[i]? = some (some v) := by
  unfold gb_L0 at h
  by_cases hi : i < (gb_fl as).length
  · rwa [List.getElem?_append_left hi] at h
  · rw [List.getElem?_append_right (by omega), List.getElem?_replicate] at h
    split at h <;> cases h
theorem gb_L0_L {ad : Nat → Nat} {as : List Value} {n : Nat} (h : (gb_fl as).length ≤ n) : ga_L ad ((lg_sl (as.map (ga_v ad)) ++ List.replicate (n - (lg_sl (as.map (ga_v ad))).length) Slot.unset).toArray) n (gb_L0 as n) := by
  have hl := lv_entry (as.map (ga_v ad)) (n := n) (by rw [gb_fl_len]; exact h)
  exact ⟨gb_L0_len h, hl.1, hl.2.1, fun i v hi => hl.2.2 (i, ga_v ad v) (by simpa using gb_fl_at ad as 0 i v (gb_L0_at hi))⟩
theorem gb_L0_lf {lf : Bool} {as : List Value} {n : Nat} (h : (!lf || as.all fun v => v.category == 1) = true) : ga_lf lf (gb_L0 as n) := by
  intro hl i v hi
  subst hl
  have h : (as.all fun v => v.category == 1) = true := by simpa using h
  have h2 := gb_L0_at hi
  have h3 : some v ∈ gb_fl as := List.mem_of_getElem? h2
  obtain ⟨w, hw, hv⟩ := List.mem_flatMap.mp h3
  have h4 := List.all_eq_true.mp h w hw
  have h5 : w.category = 1 := by simpa using h4
  rw [h5] at hv
  have : v = w := by simpa using hv
  rw [this, h5]
  decide
/-- the throws, the fields, the texts and the numbers of a class's constant pool -/
def gb_thb (sl : List (Nat × Nat)) (tl : List (Nat × Nat × Nat)) (cc : ByteArray) (pc ik En : Nat) : Bool :=
  decide (decode cc pc = .ok (.new ik, 3)) && decide (decode cc (pc + 3) = .ok (.dup, 1)) && (match decode cc (pc + 4) with
    | .ok (.ldc is, 2) => (sl.any fun q => q.1 == is) && (match decode cc (pc + 6) with
      | .ok (.invokespecial ic, 3) => decide (decode cc (pc + 9) = .ok (.athrow, 1)) && (tl.any fun q => q.1 == ik && q.2.1 == ic && q.2.2 == En)
      | _ => false)
    | .ok (.ldc_w is, 3) => (sl.any fun q => q.1 == is) && (match decode cc (pc + 7) with
      | .ok (.invokespecial ic, 3) => decide (decode cc (pc + 10) = .ok (.athrow, 1)) && (tl.any fun q => q.1 == ik && q.2.1 == ic && q.2.2 == En)
      | _ => false)
    | _ => false)
/-- a row of a method's table -/
def gb_rk (fl : List (Nat × Nat × Nat)) (sl : List (Nat × Nat)) (nl ll : List (Nat × Int32)) (tl : List (Nat × Nat × Nat)) (cc : ByteArray) (q : Nat × ga_E) : Bool :=
  decide (decode cc q.1 = .ok (q.2.1, q.2.2.1)) && (ga_chk q.1 q.2.1 q.2.2.1 q.2.2.2.1 q.2.2.2.2.2 && (match q.2.1 with
    | .getfield idx => fl.any fun z => z.1 == idx && z.2.1 == q.2.2.2.1 && z.2.2 == q.2.2.2.2.1
    | .putfield idx => q.2.2.2.2.2.isEmpty && (fl.any fun z => z.1 == idx && z.2.1 == q.2.2.2.1 && z.2.2 == q.2.2.2.2.1) && (match vwCl[q.2.2.2.1]? with
      | some C => !(C.2.1 q.2.2.2.2.1).2.2.2
      | none => false)
    | .new idx => decide (1000 ≤ q.2.2.2.1) && gb_thb sl tl cc q.1 idx (q.2.2.2.1 - 1000)
    | .newarray _ => false
    | .invokespecial _ => q.2.2.2.1 != 0
    | .ldc idx => (match q.2.2.2.2.2 with
      | [] => decide (1000 ≤ q.2.2.2.1) && sl.any fun z => z.1 == idx && z.2 == q.2.2.2.1 - 1000
      | z :: _ => nl.any fun w => w.1 == idx && w.2 == z.1)
    | .ldc_w idx => (match q.2.2.2.2.2 with
      | [] => decide (1000 ≤ q.2.2.2.1) && sl.any fun z => z.1 == idx && z.2 == q.2.2.2.1 - 1000
      | z :: _ => nl.any fun w => w.1 == idx && w.2 == z.1)
    | .ldc2_w idx => (match q.2.2.2.2.2 with
      | [] => false
      | z :: _ => ll.any fun w => w.1 == idx && w.2 == z.1)
    | _ => true))
/-- what the tables say of a class's constant pool -/
def gb_Fo (own : String) (q : Nat × Nat × Nat) : Prop := ∃ (C : String) (T : u_T) (N : Nat) (ty : Nat → FieldType), vwCl[q.2.1]? = some (C, T, N) ∧ q.2.2 < N ∧ Cond.fieldLink own q.1 (T q.2.2).1 (T q.2.2).2.1 (T q.2.2).2.2.1 ∈ gb_good ∧ (∀ w ∈ u_ws C T N, w ∈ gb_good) ∧
  (∀ j, j < N → parseFieldDescriptor (T j).2.2.1 = some (ty j)) ∧ (∀ a, a < N → ∀ b, b < N → a ≠ b → (T a).2.1 ≠ (T b).2.1) ∧ ((T q.2.2).2.2.2 = false → ty q.2.2 = .int)
def gb_Own (own : String) (fl : List (Nat × Nat × Nat)) (sl : List (Nat × Nat)) (nl ll : List (Nat × Int32)) (tl : List (Nat × Nat × Nat)) : Prop :=
  (∀ q ∈ fl, gb_Fo own q) ∧ (∀ q ∈ sl, ∃ tx, (own, q.1, tx, q.2) ∈ gb_strs) ∧ (∀ q ∈ nl, Cond.constant own q.1 q.2 ∈ gb_good) ∧ (∀ q ∈ ll, Cond.constantLong own q.1 q.2.toInt64 ∈ gb_good) ∧ ∀ q ∈ tl, gb_tw own q.1 q.2.1 q.2.2 = true
theorem gb_thb_at {own : String} {fl : List (Nat × Nat × Nat)} {sl : List (Nat × Nat)} {nl ll : List (Nat × Int32)} {tl : List (Nat × Nat × Nat)} {cc : ByteArray} {pc ik En : Nat} (ho : gb_Own own fl sl nl ll tl) (h : gb_thb sl tl cc pc ik En = true) : gb_Th own cc pc ik En := by
  unfold gb_thb at h
  obtain ⟨h1, h2⟩ := Bool.and_eq_true_iff.mp h
  obtain ⟨d0, d3⟩ := Bool.and_eq_true_iff.mp h1
  have d0 := of_decide_eq_true d0
  have d3 := of_decide_eq_true d3
  split at h2
  · rename_i is d4
    obtain ⟨h3, h4⟩ := Bool.and_eq_true_iff.mp h2
    split at h4
    · rename_i ic d6
      obtain ⟨h5, h6⟩ := Bool.and_eq_true_iff.mp h4
      obtain ⟨z, hz, hz2⟩ := List.any_eq_true.mp h6
      obtain ⟨q, hq, hq2⟩ := List.any_eq_true.mp h3
      have hq2 : q.1 = is := by simpa using hq2
      have hz2 : (z.1 = ik ∧ z.2.1 = ic) ∧ z.2.2 = En := by simpa using hz2
      obtain ⟨tx, htx⟩ := ho.2.1 q hq
      have h7 := ho.2.2.2.2 z hz
      rw [hz2.1.1, hz2.1.2, hz2.2] at h7
      rw [hq2] at htx
      exact ⟨is, ic, false, tx, q.2, d0, d3, ⟨d4, d6, of_decide_eq_true h5⟩, htx, h7⟩
    · cases h4
  · rename_i is d4
    obtain ⟨h3, h4⟩ := Bool.and_eq_true_iff.mp h2
    split at h4
    · rename_i ic d6
      obtain ⟨h5, h6⟩ := Bool.and_eq_true_iff.mp h4
      obtain ⟨z, hz, hz2⟩ := List.any_eq_true.mp h6
      obtain ⟨q, hq, hq2⟩ := List.any_eq_true.mp h3
      have hq2 : q.1 = is := by simpa using hq2
      have hz2 : (z.1 = ik ∧ z.2.1 = ic) ∧ z.2.2 = En := by simpa using hz2
      obtain ⟨tx, htx⟩ := ho.2.1 q hq
      have h7 := ho.2.2.2.2 z hz
      rw [hz2.1.1, hz2.1.2, hz2.2] at h7
      rw [hq2] at htx
      exact ⟨is, ic, true, tx, q.2, d0, d3, ⟨d4, d6, of_decide_eq_true h5⟩, htx, h7⟩
    · cases h4
  · cases h2
theorem gb_any3 {fl : List (Nat × Nat × Nat)} {a b c : Nat} (h : (fl.any fun z => z.1 == a && z.2.1 == b && z.2.2 == c) = true) : (a, b, c) ∈ fl := by
  obtain ⟨z, hz, h2⟩ := List.any_eq_true.mp h
  have h2 : (z.1 = a ∧ z.2.1 = b) ∧ z.2.2 = c := by simpa using h2
  obtain ⟨⟨rfl, rfl⟩, rfl⟩ := h2
  exact hz
theorem gb_any2 {sl : List (Nat × Nat)} {a b : Nat} (h : (sl.any fun z => z.1 == a && z.2 == b) = true) : (a, b) ∈ sl := by
  obtain ⟨z, hz, h2⟩ := List.any_eq_true.mp h
  have h2 : z.1 = a ∧ z.2 = b := by simpa using h2
  obtain ⟨rfl, rfl⟩ := h2
  exact hz
theorem gb_anyi {sl : List (Nat × Int32)} {a : Nat} {b : Int32} (h : (sl.any fun z => z.1 == a && z.2 == b) = true) : (a, b) ∈ sl := by
  obtain ⟨z, hz, h2⟩ := List.any_eq_true.mp h
  have h2 : z.1 = a ∧ z.2 = b := by simpa using h2
  obtain ⟨rfl, rfl⟩ := h2
  exact hz
end GB6
end
section
section GB7
variable {l : Launch} {D : va_G} {cA : Nat → ClassId} {ad : Nat → Nat} {A : Nat → Prop} {adV : Nat → Nat}
theorem gb_ws_good {y : MethodName} {cc : ByteArray} {n : Nat} {r : Option FieldType} : ∀ w ∈ gb_good, w ∈ gb_ws y cc n r := fun _ h => List.mem_cons_of_mem _ h
/-- a method's contract, out of its run -/
theorem gb_met {α : Type} {y : MethodName} {own : String} {cc : ByteArray} {cl : List (Nat × ga_E)} {g : ga_G} {cost : Nat → Nat × Nat} {maxL lev mc ms : Nat} {ret : Option FieldType} {lf wr : Bool} {PS : ga_S → ga_M → Prop} {K0 : ga_O → Option α} {as : List Value} {S : ga_S} {σ : ga_M} {r : α} {o : ga_O}
    {fl : List (Nat × Nat × Nat)} {sl : List (Nat × Nat)} {nl ll : List (Nat × Int32)} {tl : List (Nat × Nat × Nat)}
    (hl : l.stackTraces = false) (hy : plainName y.cls = true) (hyo : y.cls = own) (hown : gb_Own own fl sl nl ll tl) (hck : cl.all (gb_rk fl sl nl ll tl cc) = true)
    (hlk : ∀ q ∈ cl, ((∃ i, q.2.1 = .invokevirtual i) ∨ (∃ i, q.2.1 = .invokestatic i) ∨ (∃ i, q.2.1 = .invokespecial i) ∧ q.2.2.2.1 ≠ 0) → (∀ as S σ, g ga_O q.2.2.2.1 as S σ some = none) ∨ gb_Lk l D cA ad A adV g cost PS own lev q.2.1 q.2.2.2.1 q.2.2.2.2.1 q.2.2.2.2.2)
    (hT : ga_T own cc (ga_lk cl) g cost (fun _ => []) gaCls 83 mc ms false lf wr none PS K0 (0, gb_L0 as maxL, [], S, σ, 0, 0) r)
    (hPS : PS S σ) (hfull : ∀ S σ, PS S σ → ¬ S.length < 83) (hwr : wr = true → ∀ S σ σ1, PS S σ → PS S σ1)
    (hg1 : ∀ mid as S σ o, PS S σ → g ga_O mid as S σ some = some o → PS o.2.1 o.2.2) (hg2 : ∀ (α : Type) mid as S σ (k : ga_O → Option α) o, g α mid as S σ k = some o → ∃ o1, g ga_O mid as S σ some = some o1 ∧ k o1 = some o)
    (ho : ∀ o', K0 o' = some r → PS o'.2.1 o'.2.2 → o' = o) (hof : ¬ o.2.1.length < 83) (hrt : ∀ v, o.1 = .inl v → gb_rt ret v)
    (hn : (gb_fl as).length ≤ maxL) (hlf : (!lf || as.all fun v => v.category == 1) = true) :
    gb_C l D cA ad A adV y (gb_ws y cc maxL ret) lev mc ms as S σ o := by
  refine vx_ofW (cc := cc) (maxL := maxL) (ret := ret) hy rfl ?_
  intro p e s m args below meth c s₁ B hml hout hPc
  obtain ⟨rfl, hP, hE⟩ := hPc
  have hx := B.exec
  have hb := B.bytes
  have hr := B.returns
  have hts := atoms_spec (ws := gb_ws y cc maxL ret) B.pre
  have hcls : s.vm.findClass own = some m.cls := hyo ▸ findClass_of_methodNamed B.named
  have hlocks : meth.locks = false := B.notSynchronized
  have hS : va_S A s.heap s.heap [] := va_S.rf
  have hgood : ∀ w ∈ gb_good, w.before (as.map (ga_v ad)).toArray s = true := fun w h => hts w (gb_ws_good w h)
  have hrow : ∀ pc r, ga_lk cl pc = some r → gb_rk fl sl nl ll tl cc (pc, r) = true := fun pc r h => List.all_eq_true.mp hck _ (gb_lk_mem h)
  have hdec : ∀ pc ins len r1 r2 sw, ga_lk cl pc = some (ins, len, r1, r2, sw) → decode cc pc = .ok (ins, len) ∧ ga_chk pc ins len r1 sw = true := by
    intro pc ins len r1 r2 sw h
    obtain ⟨h1, h2⟩ := Bool.and_eq_true_iff.mp (hrow _ _ h)
    exact ⟨of_decide_eq_true h1, (Bool.and_eq_true_iff.mp h2).1⟩
  have hfg : ∀ pc r idx ci k, ga_lk cl pc = some r → (fl.any fun z => z.1 == idx && z.2.1 == ci && z.2.2 == k) = true → ga_Fd own (as.map (ga_v ad)).toArray s (gb_ws y cc maxL ret) idx ci k ∨ ga_Fg own (as.map (ga_v ad)).toArray s (gb_ws y cc maxL ret) idx ci k := by
    intro pc r idx ci k _ h
    obtain ⟨C, T, N, ty, h1, h2, h3, h4, h5, h6, h7⟩ := hown.1 _ (gb_any3 h)
    exact Or.inr ⟨C, T, N, h1, h2, hgood _ h3, fun w hw => gb_ws_good w (h4 w hw)⟩
  have hfd : ∀ idx ci k, (fl.any fun z => z.1 == idx && z.2.1 == ci && z.2.2 == k) = true → (∀ q, vwCl[ci]? = some q → (q.2.1 k).2.2.2 = false) → ga_Fd own (as.map (ga_v ad)).toArray s (gb_ws y cc maxL ret) idx ci k := by
    intro idx ci k h hfin
    obtain ⟨C, T, N, ty, h1, h2, h3, h4, h5, h6, h7⟩ := hown.1 _ (gb_any3 h)
    exact ⟨C, T, N, ty, h1, h2, hgood _ h3, fun w hw => gb_ws_good w (h4 w hw), h5, h6, h7, fun h8 => by rw [hfin _ h1] at h8; cases h8⟩
  have ok : ga_Ok p l e (gb_rm lev mc ms) s m (as.map (ga_v ad)).toArray below meth c (vx_MQ below (gb_Qc D cA ad A o) (gb_XC D cA ad A o) (as.map (ga_v ad)).toArray s mc ms A) cc own (gb_ws y cc maxL ret) D cA ad A (ga_lk cl) g cost (fun _ => []) gaCls 83 mc ms false wr none gb_exn 0 0 (fun o' => o' = o) PS := by
    refine ⟨hx, hb, hcls, hts, hE.1, hE.2.2.2.2.2.2.2.2.2.1, hE.2.2.2.2.2.2.2.2.2.2, ⟨by simp [gb_rm], by simp [gb_rm], by simp only [gb_rm]; omega, by simp only [gb_rm]; omega⟩, (fun h => by cases h), (fun q h => by cases h), hdec, ?_, ?_, ?_, ?_, ?_, ⟨?_, ?_⟩, ?_, ⟨Or.inr ⟨hfull, rfl⟩, hwr, hg1, hg2⟩, ?_, gb_thrOk hl hx hb hlocks hout hcls gb_ws_good hts hE hof ?_, gb_excOk hlocks hout, gb_catOk, gb_retOk hx hb hr hlocks hrt⟩
    · intro pc idx len r1 r2 sw h
      have h1 := (Bool.and_eq_true_iff.mp (Bool.and_eq_true_iff.mp (hrow _ _ h)).2).2
      obtain ⟨C, T, N, ty, h1, h2, h3, h4, h5, h6, h7⟩ := hown.1 _ (gb_any3 h1)
      exact ⟨C, T, N, h1, h2, hgood _ h3, fun w hw => gb_ws_good w (h4 w hw)⟩
    · intro pc idx len r1 r2 sw h
      have h1 := (Bool.and_eq_true_iff.mp (Bool.and_eq_true_iff.mp (hrow _ _ h)).2).2
      obtain ⟨h2, h3⟩ := Bool.and_eq_true_iff.mp h1
      obtain ⟨h4, h5⟩ := Bool.and_eq_true_iff.mp h2
      have h4 : sw.isEmpty = true := h4
      have hfin : ∀ q, vwCl[r1]? = some q → (q.2.1 r2).2.2.2 = false := by
        intro q hq
        dsimp only at h3
        rw [hq] at h3
        simpa using h3
      exact ⟨hfd idx r1 r2 h5 hfin, fun q hq => by rw [hfin q hq, h4]; rfl⟩
    · intro pc idx len r1 r2 sw h h9
      have h1 := (Bool.and_eq_true_iff.mp (Bool.and_eq_true_iff.mp (hrow _ _ h)).2).2
      have h2 := of_decide_eq_true (Bool.and_eq_true_iff.mp h1).1
      exact absurd h2 (by show ¬ 1000 ≤ r1; omega)
    · intro pc at' len r1 r2 sw h
      have h1 := (Bool.and_eq_true_iff.mp (Bool.and_eq_true_iff.mp (hrow _ _ h)).2).2
      cases h1
    · intro pc idx len r2 sw h
      have h1 := (Bool.and_eq_true_iff.mp (Bool.and_eq_true_iff.mp (hrow _ _ h)).2).2
      cases h1
    · intro pc idx len r1 r2 h
      have key : ∃ r, ga_lk cl pc = some r ∧ (decide (1000 ≤ r1) && sl.any fun z => z.1 == idx && z.2 == r1 - 1000) = true := by
        rcases h with h | h
        · exact ⟨_, h, (Bool.and_eq_true_iff.mp (Bool.and_eq_true_iff.mp (hrow _ _ h)).2).2⟩
        · exact ⟨_, h, (Bool.and_eq_true_iff.mp (Bool.and_eq_true_iff.mp (hrow _ _ h)).2).2⟩
      obtain ⟨_, _, h1⟩ := key
      obtain ⟨h2, h3⟩ := Bool.and_eq_true_iff.mp h1
      have h2 := of_decide_eq_true h2
      obtain ⟨tx, htx⟩ := hown.2.1 _ (gb_any2 h3)
      refine ⟨tx, ?_⟩
      have h5 := hE.2.1 _ htx
      have h5 : vk_R own idx tx (ad (1000 + (r1 - 1000))) s := h5
      rwa [show 1000 + (r1 - 1000) = r1 by omega] at h5
    · intro pc idx len r1 r2 q r' h
      have key : (nl.any fun w => w.1 == idx && w.2 == q.1) = true := by
        rcases h with h | h
        · exact (Bool.and_eq_true_iff.mp (Bool.and_eq_true_iff.mp (hrow _ _ h)).2).2
        · exact (Bool.and_eq_true_iff.mp (Bool.and_eq_true_iff.mp (hrow _ _ h)).2).2
      exact hgood _ (hown.2.2.1 _ (gb_anyi key))
    · intro pc idx len r1 r2 sw h
      have h1 := (Bool.and_eq_true_iff.mp (Bool.and_eq_true_iff.mp (hrow _ _ h)).2).2
      cases sw with
      | nil => cases h1
      | cons q r' => exact ⟨q, r', rfl, hgood _ (hown.2.2.2.1 _ (gb_anyi h1))⟩
    · refine gb_callOk hx hb hml hcls hts hE hdec ?_
      intro pc ins len mid na sw h hi
      exact hlk _ (gb_lk_mem h) hi
    · intro pc idx len r1 r2 sw h h9
      have h1 := (Bool.and_eq_true_iff.mp (Bool.and_eq_true_iff.mp (hrow _ _ h)).2).2
      exact gb_thb_at hown (Bool.and_eq_true_iff.mp h1).2
  have hW := hT p l e (gb_rm lev mc ms) s m (as.map (ga_v ad)).toArray below meth c (vx_MQ below (gb_Qc D cA ad A o) (gb_XC D cA ad A o) (as.map (ga_v ad)).toArray s mc ms A) (gb_ws y cc maxL ret) D cA ad A gb_exn 0 0 (fun o' => o' = o) ok ho (gb_L0_lf hlf) hPS (Nat.zero_le _) (Nat.zero_le _) s.heap []
  rw [lg_entry_eq]
  exact hW _ ⟨hP.1, hP.2.1, hS, hP.2.2⟩ (by rw [hml]; exact gb_L0_L hn)
end GB7
end
