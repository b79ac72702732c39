-- ===== PART A: goes FIRST, ahead of the names: the tables' words, and 'selects' of the private methods out of them =====
/-- a private method of a class that the tables say can be made, by its rows of tables_1 -/
def lw_okq (q : MethodName × Nat) : Prop := (q.1.cls ≠ "java/lang/invoke/MethodHandle" ∧ q.1.cls ≠ "java/lang/invoke/VarHandle") ∧ Cond.instantiable q.1.cls q.2 ∈ tables_1 ∧ Cond.privateMethod q.1 ∈ tables_1 ∧ Cond.instanceMethod q.1 ∈ tables_1
theorem lw_p0 : lw_okq (⟨"NeededAnswers", "sheetAt", "(I)LNeededAnswers$Sheet;"⟩, 10) := ⟨⟨by decide +kernel, by decide +kernel⟩, List.mem_of_getElem? (i := 14) (by decide +kernel), List.mem_of_getElem? (i := 231) (by decide +kernel), List.mem_of_getElem? (i := 232) (by decide +kernel)⟩
theorem lw_p1 : lw_okq (⟨"NeededAnswers", "faulted", "(I)I"⟩, 10) := ⟨⟨by decide +kernel, by decide +kernel⟩, List.mem_of_getElem? (i := 14) (by decide +kernel), List.mem_of_getElem? (i := 246) (by decide +kernel), List.mem_of_getElem? (i := 247) (by decide +kernel)⟩
theorem lw_p2 : lw_okq (⟨"NeededAnswers$TextReader", "passes", "(I)Z"⟩, 4) := ⟨⟨by decide +kernel, by decide +kernel⟩, List.mem_of_getElem? (i := 177) (by decide +kernel), List.mem_of_getElem? (i := 258) (by decide +kernel), List.mem_of_getElem? (i := 259) (by decide +kernel)⟩
theorem lw_p3 : lw_okq (⟨"NeededAnswers$TextReader", "readFunction", "(LNeededAnswers$Function;)Z"⟩, 4) := ⟨⟨by decide +kernel, by decide +kernel⟩, List.mem_of_getElem? (i := 177) (by decide +kernel), List.mem_of_getElem? (i := 262) (by decide +kernel), List.mem_of_getElem? (i := 263) (by decide +kernel)⟩
theorem lw_p4 : lw_okq (⟨"NeededAnswers$TextReader", "readKind", "()I"⟩, 4) := ⟨⟨by decide +kernel, by decide +kernel⟩, List.mem_of_getElem? (i := 177) (by decide +kernel), List.mem_of_getElem? (i := 266) (by decide +kernel), List.mem_of_getElem? (i := 267) (by decide +kernel)⟩
theorem lw_p5 : lw_okq (⟨"NeededAnswers$TextReader", "readDigit", "(II)I"⟩, 4) := ⟨⟨by decide +kernel, by decide +kernel⟩, List.mem_of_getElem? (i := 177) (by decide +kernel), List.mem_of_getElem? (i := 270) (by decide +kernel), List.mem_of_getElem? (i := 271) (by decide +kernel)⟩
theorem lw_p6 : lw_okq (⟨"NeededAnswers$TextReader", "readTwig", "(LNeededAnswers$Function;I)Z"⟩, 4) := ⟨⟨by decide +kernel, by decide +kernel⟩, List.mem_of_getElem? (i := 177) (by decide +kernel), List.mem_of_getElem? (i := 274) (by decide +kernel), List.mem_of_getElem? (i := 275) (by decide +kernel)⟩
theorem lw_p7 : lw_okq (⟨"NeededAnswers$TextReader", "readChoice", "()I"⟩, 4) := ⟨⟨by decide +kernel, by decide +kernel⟩, List.mem_of_getElem? (i := 177) (by decide +kernel), List.mem_of_getElem? (i := 278) (by decide +kernel), List.mem_of_getElem? (i := 279) (by decide +kernel)⟩
theorem lw_p8 : lw_okq (⟨"NeededAnswers$TextReader", "readParts", "(LNeededAnswers$Function;I)Z"⟩, 4) := ⟨⟨by decide +kernel, by decide +kernel⟩, List.mem_of_getElem? (i := 177) (by decide +kernel), List.mem_of_getElem? (i := 282) (by decide +kernel), List.mem_of_getElem? (i := 283) (by decide +kernel)⟩
theorem lw_p9 : lw_okq (⟨"NeededAnswers$TextReader", "readEnd", "()I"⟩, 4) := ⟨⟨by decide +kernel, by decide +kernel⟩, List.mem_of_getElem? (i := 177) (by decide +kernel), List.mem_of_getElem? (i := 286) (by decide +kernel), List.mem_of_getElem? (i := 287) (by decide +kernel)⟩
theorem lw_p10 : lw_okq (⟨"NeededAnswers", "leaf", "(III)I"⟩, 10) := ⟨⟨by decide +kernel, by decide +kernel⟩, List.mem_of_getElem? (i := 14) (by decide +kernel), List.mem_of_getElem? (i := 323) (by decide +kernel), List.mem_of_getElem? (i := 324) (by decide +kernel)⟩
theorem lw_p11 : lw_okq (⟨"NeededAnswers", "forgetReadings", "(I)V"⟩, 10) := ⟨⟨by decide +kernel, by decide +kernel⟩, List.mem_of_getElem? (i := 14) (by decide +kernel), List.mem_of_getElem? (i := 351) (by decide +kernel), List.mem_of_getElem? (i := 352) (by decide +kernel)⟩
theorem lw_p12 : lw_okq (⟨"NeededAnswers$Row", "outcomeOfFunction", "(LNeededAnswers$World;II)I"⟩, 6) := ⟨⟨by decide +kernel, by decide +kernel⟩, List.mem_of_getElem? (i := 146) (by decide +kernel), List.mem_of_getElem? (i := 388) (by decide +kernel), List.mem_of_getElem? (i := 389) (by decide +kernel)⟩
theorem lw_p13 : lw_okq (⟨"NeededAnswers$Row", "join", "(I)V"⟩, 6) := ⟨⟨by decide +kernel, by decide +kernel⟩, List.mem_of_getElem? (i := 146) (by decide +kernel), List.mem_of_getElem? (i := 419) (by decide +kernel), List.mem_of_getElem? (i := 420) (by decide +kernel)⟩
theorem lw_p14 : lw_okq (⟨"NeededAnswers$Row", "goOn", "(II)V"⟩, 6) := ⟨⟨by decide +kernel, by decide +kernel⟩, List.mem_of_getElem? (i := 146) (by decide +kernel), List.mem_of_getElem? (i := 424) (by decide +kernel), List.mem_of_getElem? (i := 425) (by decide +kernel)⟩
theorem lw_p15 : lw_okq (⟨"NeededAnswers", "playActs", "(LNeededAnswers$Sheet;II)I"⟩, 10) := ⟨⟨by decide +kernel, by decide +kernel⟩, List.mem_of_getElem? (i := 14) (by decide +kernel), List.mem_of_getElem? (i := 486) (by decide +kernel), List.mem_of_getElem? (i := 487) (by decide +kernel)⟩
def lw_privs_1 : List (MethodName × Nat) := [(⟨"NeededAnswers", "sheetAt", "(I)LNeededAnswers$Sheet;"⟩, 10), (⟨"NeededAnswers", "faulted", "(I)I"⟩, 10), (⟨"NeededAnswers$TextReader", "passes", "(I)Z"⟩, 4), (⟨"NeededAnswers$TextReader", "readFunction", "(LNeededAnswers$Function;)Z"⟩, 4), (⟨"NeededAnswers$TextReader", "readKind", "()I"⟩, 4), (⟨"NeededAnswers$TextReader", "readDigit", "(II)I"⟩, 4), (⟨"NeededAnswers$TextReader", "readTwig", "(LNeededAnswers$Function;I)Z"⟩, 4), (⟨"NeededAnswers$TextReader", "readChoice", "()I"⟩, 4), (⟨"NeededAnswers$TextReader", "readParts", "(LNeededAnswers$Function;I)Z"⟩, 4), (⟨"NeededAnswers$TextReader", "readEnd", "()I"⟩, 4), (⟨"NeededAnswers", "leaf", "(III)I"⟩, 10), (⟨"NeededAnswers", "forgetReadings", "(I)V"⟩, 10), (⟨"NeededAnswers$Row", "outcomeOfFunction", "(LNeededAnswers$World;II)I"⟩, 6), (⟨"NeededAnswers$Row", "join", "(I)V"⟩, 6), (⟨"NeededAnswers$Row", "goOn", "(II)V"⟩, 6), (⟨"NeededAnswers", "playActs", "(LNeededAnswers$Sheet;II)I"⟩, 10)]
theorem lw_r1 : ∀ q ∈ lw_privs_1, lw_okq q := List.forall_mem_cons.mpr ⟨lw_p0, List.forall_mem_cons.mpr ⟨lw_p1, List.forall_mem_cons.mpr ⟨lw_p2, List.forall_mem_cons.mpr ⟨lw_p3, List.forall_mem_cons.mpr ⟨lw_p4, List.forall_mem_cons.mpr ⟨lw_p5, List.forall_mem_cons.mpr ⟨lw_p6, List.forall_mem_cons.mpr ⟨lw_p7, List.forall_mem_cons.mpr ⟨lw_p8, List.forall_mem_cons.mpr ⟨lw_p9, List.forall_mem_cons.mpr ⟨lw_p10, List.forall_mem_cons.mpr ⟨lw_p11, List.forall_mem_cons.mpr ⟨lw_p12, List.forall_mem_cons.mpr ⟨lw_p13, List.forall_mem_cons.mpr ⟨lw_p14, List.forall_mem_cons.mpr ⟨lw_p15, fun _ h => absurd h List.not_mem_nil⟩⟩⟩⟩⟩⟩⟩⟩⟩⟩⟩⟩⟩⟩⟩⟩
theorem lw_p16 : lw_okq (⟨"NeededAnswers", "ofImagined", "(I)I"⟩, 10) := ⟨⟨by decide +kernel, by decide +kernel⟩, List.mem_of_getElem? (i := 14) (by decide +kernel), List.mem_of_getElem? (i := 495) (by decide +kernel), List.mem_of_getElem? (i := 496) (by decide +kernel)⟩
theorem lw_p17 : lw_okq (⟨"NeededAnswers", "readingsHold", "(LNeededAnswers$World;)Z"⟩, 10) := ⟨⟨by decide +kernel, by decide +kernel⟩, List.mem_of_getElem? (i := 14) (by decide +kernel), List.mem_of_getElem? (i := 511) (by decide +kernel), List.mem_of_getElem? (i := 512) (by decide +kernel)⟩
theorem lw_p18 : lw_okq (⟨"NeededAnswers", "tellDouble", "(LNeededAnswers$Function;)I"⟩, 10) := ⟨⟨by decide +kernel, by decide +kernel⟩, List.mem_of_getElem? (i := 14) (by decide +kernel), List.mem_of_getElem? (i := 574) (by decide +kernel), List.mem_of_getElem? (i := 575) (by decide +kernel)⟩
theorem lw_p19 : lw_okq (⟨"NeededAnswers", "leaveTrace", "(I)V"⟩, 10) := ⟨⟨by decide +kernel, by decide +kernel⟩, List.mem_of_getElem? (i := 14) (by decide +kernel), List.mem_of_getElem? (i := 578) (by decide +kernel), List.mem_of_getElem? (i := 579) (by decide +kernel)⟩
theorem lw_p20 : lw_okq (⟨"NeededAnswers", "tellDear", "(LNeededAnswers$Function;)I"⟩, 10) := ⟨⟨by decide +kernel, by decide +kernel⟩, List.mem_of_getElem? (i := 14) (by decide +kernel), List.mem_of_getElem? (i := 582) (by decide +kernel), List.mem_of_getElem? (i := 583) (by decide +kernel)⟩
theorem lw_p21 : lw_okq (⟨"NeededAnswers", "tellPlain", "(LNeededAnswers$Function;)I"⟩, 10) := ⟨⟨by decide +kernel, by decide +kernel⟩, List.mem_of_getElem? (i := 14) (by decide +kernel), List.mem_of_getElem? (i := 586) (by decide +kernel), List.mem_of_getElem? (i := 587) (by decide +kernel)⟩
theorem lw_p22 : lw_okq (⟨"NeededAnswersModel", "against", "(IIII)I"⟩, 41) := ⟨⟨by decide +kernel, by decide +kernel⟩, List.mem_of_getElem? (i := 614) (by decide +kernel), List.mem_of_getElem? (i := 757) (by decide +kernel), List.mem_of_getElem? (i := 758) (by decide +kernel)⟩
theorem lw_p23 : lw_okq (⟨"NeededAnswersModel", "fails", "(I)I"⟩, 41) := ⟨⟨by decide +kernel, by decide +kernel⟩, List.mem_of_getElem? (i := 614) (by decide +kernel), List.mem_of_getElem? (i := 761) (by decide +kernel), List.mem_of_getElem? (i := 762) (by decide +kernel)⟩
theorem lw_p24 : lw_okq (⟨"NeededAnswersModel", "readAll", "(I)Z"⟩, 41) := ⟨⟨by decide +kernel, by decide +kernel⟩, List.mem_of_getElem? (i := 614) (by decide +kernel), List.mem_of_getElem? (i := 765) (by decide +kernel), List.mem_of_getElem? (i := 766) (by decide +kernel)⟩
theorem lw_p25 : lw_okq (⟨"NeededAnswersModel", "isSign", "(II)Z"⟩, 41) := ⟨⟨by decide +kernel, by decide +kernel⟩, List.mem_of_getElem? (i := 614) (by decide +kernel), List.mem_of_getElem? (i := 769) (by decide +kernel), List.mem_of_getElem? (i := 770) (by decide +kernel)⟩
theorem lw_p26 : lw_okq (⟨"NeededAnswersModel", "readFunction", "(II)Z"⟩, 41) := ⟨⟨by decide +kernel, by decide +kernel⟩, List.mem_of_getElem? (i := 614) (by decide +kernel), List.mem_of_getElem? (i := 773) (by decide +kernel), List.mem_of_getElem? (i := 774) (by decide +kernel)⟩
theorem lw_p27 : lw_okq (⟨"NeededAnswersModel", "digit", "(III)I"⟩, 41) := ⟨⟨by decide +kernel, by decide +kernel⟩, List.mem_of_getElem? (i := 614) (by decide +kernel), List.mem_of_getElem? (i := 777) (by decide +kernel), List.mem_of_getElem? (i := 778) (by decide +kernel)⟩
theorem lw_p28 : lw_okq (⟨"NeededAnswersModel", "readTwig", "(II)Z"⟩, 41) := ⟨⟨by decide +kernel, by decide +kernel⟩, List.mem_of_getElem? (i := 614) (by decide +kernel), List.mem_of_getElem? (i := 781) (by decide +kernel), List.mem_of_getElem? (i := 782) (by decide +kernel)⟩
theorem lw_p29 : lw_okq (⟨"NeededAnswersModel", "isFunction", "(I)Z"⟩, 41) := ⟨⟨by decide +kernel, by decide +kernel⟩, List.mem_of_getElem? (i := 614) (by decide +kernel), List.mem_of_getElem? (i := 789) (by decide +kernel), List.mem_of_getElem? (i := 790) (by decide +kernel)⟩
theorem lw_p30 : lw_okq (⟨"NeededAnswersModel", "costOf", "(I)I"⟩, 41) := ⟨⟨by decide +kernel, by decide +kernel⟩, List.mem_of_getElem? (i := 614) (by decide +kernel), List.mem_of_getElem? (i := 793) (by decide +kernel), List.mem_of_getElem? (i := 794) (by decide +kernel)⟩
theorem lw_p31 : lw_okq (⟨"NeededAnswersModel", "putOn", "(IIII)I"⟩, 41) := ⟨⟨by decide +kernel, by decide +kernel⟩, List.mem_of_getElem? (i := 614) (by decide +kernel), List.mem_of_getElem? (i := 801) (by decide +kernel), List.mem_of_getElem? (i := 802) (by decide +kernel)⟩
def lw_privs_2 : List (MethodName × Nat) := [(⟨"NeededAnswers", "ofImagined", "(I)I"⟩, 10), (⟨"NeededAnswers", "readingsHold", "(LNeededAnswers$World;)Z"⟩, 10), (⟨"NeededAnswers", "tellDouble", "(LNeededAnswers$Function;)I"⟩, 10), (⟨"NeededAnswers", "leaveTrace", "(I)V"⟩, 10), (⟨"NeededAnswers", "tellDear", "(LNeededAnswers$Function;)I"⟩, 10), (⟨"NeededAnswers", "tellPlain", "(LNeededAnswers$Function;)I"⟩, 10), (⟨"NeededAnswersModel", "against", "(IIII)I"⟩, 41), (⟨"NeededAnswersModel", "fails", "(I)I"⟩, 41), (⟨"NeededAnswersModel", "readAll", "(I)Z"⟩, 41), (⟨"NeededAnswersModel", "isSign", "(II)Z"⟩, 41), (⟨"NeededAnswersModel", "readFunction", "(II)Z"⟩, 41), (⟨"NeededAnswersModel", "digit", "(III)I"⟩, 41), (⟨"NeededAnswersModel", "readTwig", "(II)Z"⟩, 41), (⟨"NeededAnswersModel", "isFunction", "(I)Z"⟩, 41), (⟨"NeededAnswersModel", "costOf", "(I)I"⟩, 41), (⟨"NeededAnswersModel", "putOn", "(IIII)I"⟩, 41)]
theorem lw_r2 : ∀ q ∈ lw_privs_2, lw_okq q := List.forall_mem_cons.mpr ⟨lw_p16, List.forall_mem_cons.mpr ⟨lw_p17, List.forall_mem_cons.mpr ⟨lw_p18, List.forall_mem_cons.mpr ⟨lw_p19, List.forall_mem_cons.mpr ⟨lw_p20, List.forall_mem_cons.mpr ⟨lw_p21, List.forall_mem_cons.mpr ⟨lw_p22, List.forall_mem_cons.mpr ⟨lw_p23, List.forall_mem_cons.mpr ⟨lw_p24, List.forall_mem_cons.mpr ⟨lw_p25, List.forall_mem_cons.mpr ⟨lw_p26, List.forall_mem_cons.mpr ⟨lw_p27, List.forall_mem_cons.mpr ⟨lw_p28, List.forall_mem_cons.mpr ⟨lw_p29, List.forall_mem_cons.mpr ⟨lw_p30, List.forall_mem_cons.mpr ⟨lw_p31, fun _ h => absurd h List.not_mem_nil⟩⟩⟩⟩⟩⟩⟩⟩⟩⟩⟩⟩⟩⟩⟩⟩
theorem lw_p32 : lw_okq (⟨"NeededAnswersModel", "isTerm", "(I)Z"⟩, 41) := ⟨⟨by decide +kernel, by decide +kernel⟩, List.mem_of_getElem? (i := 614) (by decide +kernel), List.mem_of_getElem? (i := 813) (by decide +kernel), List.mem_of_getElem? (i := 814) (by decide +kernel)⟩
theorem lw_p33 : lw_okq (⟨"NeededAnswersModel", "firstStand", "()I"⟩, 41) := ⟨⟨by decide +kernel, by decide +kernel⟩, List.mem_of_getElem? (i := 614) (by decide +kernel), List.mem_of_getElem? (i := 837) (by decide +kernel), List.mem_of_getElem? (i := 838) (by decide +kernel)⟩
theorem lw_p34 : lw_okq (⟨"NeededAnswersModel", "findTerms", "(II)V"⟩, 41) := ⟨⟨by decide +kernel, by decide +kernel⟩, List.mem_of_getElem? (i := 614) (by decide +kernel), List.mem_of_getElem? (i := 841) (by decide +kernel), List.mem_of_getElem? (i := 842) (by decide +kernel)⟩
theorem lw_p35 : lw_okq (⟨"NeededAnswersModel", "findTerm", "(II)V"⟩, 41) := ⟨⟨by decide +kernel, by decide +kernel⟩, List.mem_of_getElem? (i := 614) (by decide +kernel), List.mem_of_getElem? (i := 845) (by decide +kernel), List.mem_of_getElem? (i := 846) (by decide +kernel)⟩
theorem lw_p36 : lw_okq (⟨"NeededAnswersModel", "findTwig", "(IIII)V"⟩, 41) := ⟨⟨by decide +kernel, by decide +kernel⟩, List.mem_of_getElem? (i := 614) (by decide +kernel), List.mem_of_getElem? (i := 852) (by decide +kernel), List.mem_of_getElem? (i := 853) (by decide +kernel)⟩
theorem lw_p37 : lw_okq (⟨"NeededAnswersModel", "findAnswers", "(II)V"⟩, 41) := ⟨⟨by decide +kernel, by decide +kernel⟩, List.mem_of_getElem? (i := 614) (by decide +kernel), List.mem_of_getElem? (i := 863) (by decide +kernel), List.mem_of_getElem? (i := 864) (by decide +kernel)⟩
theorem lw_p38 : lw_okq (⟨"NeededAnswersModel", "toTheEnd", "(II)V"⟩, 41) := ⟨⟨by decide +kernel, by decide +kernel⟩, List.mem_of_getElem? (i := 614) (by decide +kernel), List.mem_of_getElem? (i := 867) (by decide +kernel), List.mem_of_getElem? (i := 868) (by decide +kernel)⟩
theorem lw_p39 : lw_okq (⟨"NeededAnswersModel", "isAnswer", "(II)V"⟩, 41) := ⟨⟨by decide +kernel, by decide +kernel⟩, List.mem_of_getElem? (i := 614) (by decide +kernel), List.mem_of_getElem? (i := 871) (by decide +kernel), List.mem_of_getElem? (i := 872) (by decide +kernel)⟩
theorem lw_p40 : lw_okq (⟨"NeededAnswersModel", "priceOf", "(I)I"⟩, 41) := ⟨⟨by decide +kernel, by decide +kernel⟩, List.mem_of_getElem? (i := 614) (by decide +kernel), List.mem_of_getElem? (i := 875) (by decide +kernel), List.mem_of_getElem? (i := 876) (by decide +kernel)⟩
theorem lw_p41 : lw_okq (⟨"NeededAnswersModel", "picks", "(I)I"⟩, 41) := ⟨⟨by decide +kernel, by decide +kernel⟩, List.mem_of_getElem? (i := 614) (by decide +kernel), List.mem_of_getElem? (i := 883) (by decide +kernel), List.mem_of_getElem? (i := 884) (by decide +kernel)⟩
theorem lw_p42 : lw_okq (⟨"NeededAnswersModel", "goDay", "(II)I"⟩, 41) := ⟨⟨by decide +kernel, by decide +kernel⟩, List.mem_of_getElem? (i := 614) (by decide +kernel), List.mem_of_getElem? (i := 894) (by decide +kernel), List.mem_of_getElem? (i := 895) (by decide +kernel)⟩
theorem lw_p43 : lw_okq (⟨"NeededAnswersModel", "does", "(II)Z"⟩, 41) := ⟨⟨by decide +kernel, by decide +kernel⟩, List.mem_of_getElem? (i := 614) (by decide +kernel), List.mem_of_getElem? (i := 898) (by decide +kernel), List.mem_of_getElem? (i := 899) (by decide +kernel)⟩
theorem lw_p44 : lw_okq (⟨"NeededAnswersModel", "tellDay", "(I)I"⟩, 41) := ⟨⟨by decide +kernel, by decide +kernel⟩, List.mem_of_getElem? (i := 614) (by decide +kernel), List.mem_of_getElem? (i := 902) (by decide +kernel), List.mem_of_getElem? (i := 903) (by decide +kernel)⟩
theorem lw_p45 : lw_okq (⟨"NeededAnswersModel", "areSo", "()Z"⟩, 41) := ⟨⟨by decide +kernel, by decide +kernel⟩, List.mem_of_getElem? (i := 614) (by decide +kernel), List.mem_of_getElem? (i := 918) (by decide +kernel), List.mem_of_getElem? (i := 919) (by decide +kernel)⟩
theorem lw_p46 : lw_okq (⟨"NeededAnswersModel", "nextStand", "(I)I"⟩, 41) := ⟨⟨by decide +kernel, by decide +kernel⟩, List.mem_of_getElem? (i := 614) (by decide +kernel), List.mem_of_getElem? (i := 931) (by decide +kernel), List.mem_of_getElem? (i := 932) (by decide +kernel)⟩
theorem lw_p47 : lw_okq (⟨"NeededAnswersModel", "lost", "(I)J"⟩, 41) := ⟨⟨by decide +kernel, by decide +kernel⟩, List.mem_of_getElem? (i := 614) (by decide +kernel), List.mem_of_getElem? (i := 954) (by decide +kernel), List.mem_of_getElem? (i := 955) (by decide +kernel)⟩
def lw_privs_3 : List (MethodName × Nat) := [(⟨"NeededAnswersModel", "isTerm", "(I)Z"⟩, 41), (⟨"NeededAnswersModel", "firstStand", "()I"⟩, 41), (⟨"NeededAnswersModel", "findTerms", "(II)V"⟩, 41), (⟨"NeededAnswersModel", "findTerm", "(II)V"⟩, 41), (⟨"NeededAnswersModel", "findTwig", "(IIII)V"⟩, 41), (⟨"NeededAnswersModel", "findAnswers", "(II)V"⟩, 41), (⟨"NeededAnswersModel", "toTheEnd", "(II)V"⟩, 41), (⟨"NeededAnswersModel", "isAnswer", "(II)V"⟩, 41), (⟨"NeededAnswersModel", "priceOf", "(I)I"⟩, 41), (⟨"NeededAnswersModel", "picks", "(I)I"⟩, 41), (⟨"NeededAnswersModel", "goDay", "(II)I"⟩, 41), (⟨"NeededAnswersModel", "does", "(II)Z"⟩, 41), (⟨"NeededAnswersModel", "tellDay", "(I)I"⟩, 41), (⟨"NeededAnswersModel", "areSo", "()Z"⟩, 41), (⟨"NeededAnswersModel", "nextStand", "(I)I"⟩, 41), (⟨"NeededAnswersModel", "lost", "(I)J"⟩, 41)]
theorem lw_r3 : ∀ q ∈ lw_privs_3, lw_okq q := List.forall_mem_cons.mpr ⟨lw_p32, List.forall_mem_cons.mpr ⟨lw_p33, List.forall_mem_cons.mpr ⟨lw_p34, List.forall_mem_cons.mpr ⟨lw_p35, List.forall_mem_cons.mpr ⟨lw_p36, List.forall_mem_cons.mpr ⟨lw_p37, List.forall_mem_cons.mpr ⟨lw_p38, List.forall_mem_cons.mpr ⟨lw_p39, List.forall_mem_cons.mpr ⟨lw_p40, List.forall_mem_cons.mpr ⟨lw_p41, List.forall_mem_cons.mpr ⟨lw_p42, List.forall_mem_cons.mpr ⟨lw_p43, List.forall_mem_cons.mpr ⟨lw_p44, List.forall_mem_cons.mpr ⟨lw_p45, List.forall_mem_cons.mpr ⟨lw_p46, List.forall_mem_cons.mpr ⟨lw_p47, fun _ h => absurd h List.not_mem_nil⟩⟩⟩⟩⟩⟩⟩⟩⟩⟩⟩⟩⟩⟩⟩⟩
theorem lw_p48 : lw_okq (⟨"NeededAnswersModel", "begins", "(I)V"⟩, 41) := ⟨⟨by decide +kernel, by decide +kernel⟩, List.mem_of_getElem? (i := 614) (by decide +kernel), List.mem_of_getElem? (i := 966) (by decide +kernel), List.mem_of_getElem? (i := 967) (by decide +kernel)⟩
def lw_privs_4 : List (MethodName × Nat) := [(⟨"NeededAnswersModel", "begins", "(I)V"⟩, 41)]
theorem lw_r4 : ∀ q ∈ lw_privs_4, lw_okq q := List.forall_mem_cons.mpr ⟨lw_p48, fun _ h => absurd h List.not_mem_nil⟩
def lw_privs : List (MethodName × Nat) := lw_privs_1 ++ (lw_privs_2 ++ (lw_privs_3 ++ (lw_privs_4)))
def lw_tbl : List Cond := k2_sels lw_privs ++ tables_1
theorem lw_privs_ok : ∀ q ∈ lw_privs, lw_okq q := by
  show ∀ q ∈ lw_privs_1 ++ (lw_privs_2 ++ (lw_privs_3 ++ (lw_privs_4))), lw_okq q
  exact List.forall_mem_append.mpr ⟨lw_r1, List.forall_mem_append.mpr ⟨lw_r2, List.forall_mem_append.mpr ⟨lw_r3, lw_r4⟩⟩⟩

/-! names, as printed for this claim -/
def RX0 : String := "NeededAnswers$Function"
def TX0 : u_T := fun k => match k with
  | 0 => ("NeededAnswers$Function", "kind", "I", false)
  | 1 => ("NeededAnswers$Function", "price", "I", false)
  | 2 => ("NeededAnswers$Function", "argument", "I", false)
  | 3 => ("NeededAnswers$Function", "twigs", "[I", true)
  | _ => ("NeededAnswers$Function", "parts", "[I", true)
def tyX0 : Nat → FieldType := fun k => match k with
  | 0 => .int
  | 1 => .int
  | 2 => .int
  | 3 => .array .int
  | _ => .array .int
theorem nmX0 : ∀ a, a < 5 → ∀ b, b < 5 → a ≠ b → (TX0 a).2.1 ≠ (TX0 b).2.1 := by decide +kernel
theorem tyX0_ok : ∀ k, k < 5 → parseFieldDescriptor (TX0 k).2.2.1 = some (tyX0 k) := by decide +kernel
abbrev cX0_init : ByteArray := prog_2_method_1_code
def yX0_init : MethodName := ⟨RX0, "<init>", "()V"⟩
abbrev cX0_cost : ByteArray := prog_2_method_2_code
def yX0_cost : MethodName := ⟨RX0, "cost", "()I"⟩
abbrev cX0_take : ByteArray := prog_2_method_3_code
def yX0_take : MethodName := ⟨RX0, "take", "(LNeededAnswers$Function;)V"⟩
def RX1 : String := "NeededAnswers$Row"
def TX1 : u_T := fun k => match k with
  | 0 => ("NeededAnswers$Row", "count", "I", false)
  | 1 => ("NeededAnswers$Row", "stands", "[I", true)
  | 2 => ("NeededAnswers$Row", "outcomes", "[I", true)
  | 3 => ("NeededAnswers$Row", "looked", "[I", true)
  | 4 => ("NeededAnswers$Row", "termOutcomes", "[I", true)
  | _ => ("NeededAnswers$Row", "termLooked", "[I", true)
def tyX1 : Nat → FieldType := fun k => match k with
  | 0 => .int
  | 1 => .array .int
  | 2 => .array .int
  | 3 => .array .int
  | 4 => .array .int
  | _ => .array .int
theorem nmX1 : ∀ a, a < 6 → ∀ b, b < 6 → a ≠ b → (TX1 a).2.1 ≠ (TX1 b).2.1 := by decide +kernel
theorem tyX1_ok : ∀ k, k < 6 → parseFieldDescriptor (TX1 k).2.2.1 = some (tyX1 k) := by decide +kernel
abbrev cX1_init : ByteArray := prog_3_method_1_code
def yX1_init : MethodName := ⟨RX1, "<init>", "()V"⟩
abbrev cX1_fill : ByteArray := prog_3_method_2_code
def yX1_fill : MethodName := ⟨RX1, "fill", "(LNeededAnswers$World;I)V"⟩
abbrev cX1_join : ByteArray := prog_3_method_3_code
def yX1_join : MethodName := ⟨RX1, "join", "(I)V"⟩
abbrev cX1_goOn : ByteArray := prog_3_method_4_code
def yX1_goOn : MethodName := ⟨RX1, "goOn", "(II)V"⟩
abbrev cX1_lookAt : ByteArray := prog_3_method_5_code
def yX1_lookAt : MethodName := ⟨RX1, "lookAt", "(LNeededAnswers$World;II)V"⟩
abbrev cX1_outcomeOfFunction : ByteArray := prog_3_method_6_code
def yX1_outcomeOfFunction : MethodName := ⟨RX1, "outcomeOfFunction", "(LNeededAnswers$World;II)I"⟩
abbrev cX1_outcomeOfChoice : ByteArray := prog_3_method_7_code
def yX1_outcomeOfChoice : MethodName := ⟨RX1, "outcomeOfChoice", "(III)I"⟩
abbrev cX1_answerCount : ByteArray := prog_3_method_8_code
def yX1_answerCount : MethodName := ⟨RX1, "answerCount", "()I"⟩
abbrev cX1_placeOfAnswer : ByteArray := prog_3_method_9_code
def yX1_placeOfAnswer : MethodName := ⟨RX1, "placeOfAnswer", "(I)I"⟩
abbrev cX1_valueSet : ByteArray := prog_3_method_10_code
def yX1_valueSet : MethodName := ⟨RX1, "valueSet", "()I"⟩
abbrev cX1_leastPrice : ByteArray := prog_3_method_11_code
def yX1_leastPrice : MethodName := ⟨RX1, "leastPrice", "(LNeededAnswers$World;)I"⟩
abbrev cX1_throwsOf : ByteArray := prog_3_method_12_code
def yX1_throwsOf : MethodName := ⟨RX1, "throwsOf", "(LNeededAnswers$World;I)I"⟩
abbrev cX1_throwsIn : ByteArray := prog_3_method_13_code
def yX1_throwsIn : MethodName := ⟨RX1, "throwsIn", "(LNeededAnswers$World;I)I"⟩
def RX2 : String := "NeededAnswers$Sheet"
def TX2 : u_T := fun k => match k with
  | 0 => ("NeededAnswers$Sheet", "isThere", "Z", false)
  | 1 => ("NeededAnswers$Sheet", "lane", "I", false)
  | 2 => ("NeededAnswers$Sheet", "size", "I", false)
  | _ => ("NeededAnswers$Sheet", "cells", "[I", true)
def tyX2 : Nat → FieldType := fun k => match k with
  | 0 => .boolean
  | 1 => .int
  | 2 => .int
  | _ => .array .int
theorem nmX2 : ∀ a, a < 4 → ∀ b, b < 4 → a ≠ b → (TX2 a).2.1 ≠ (TX2 b).2.1 := by decide +kernel
theorem tyX2_ok : ∀ k, k < 4 → parseFieldDescriptor (TX2 k).2.2.1 = some (tyX2 k) := by decide +kernel
abbrev cX2_init : ByteArray := prog_4_method_1_code
def yX2_init : MethodName := ⟨RX2, "<init>", "()V"⟩
abbrev cX2_lay : ByteArray := prog_4_method_2_code
def yX2_lay : MethodName := ⟨RX2, "lay", "(II)V"⟩
abbrev cX2_clear : ByteArray := prog_4_method_3_code
def yX2_clear : MethodName := ⟨RX2, "clear", "()Z"⟩
abbrev cX2_faultAs : ByteArray := prog_4_method_4_code
def yX2_faultAs : MethodName := ⟨RX2, "faultAs", "(I)I"⟩
abbrev cX2_has : ByteArray := prog_4_method_5_code
def yX2_has : MethodName := ⟨RX2, "has", "(I)Z"⟩
abbrev cX2_holds : ByteArray := prog_4_method_6_code
def yX2_holds : MethodName := ⟨RX2, "holds", "(II)Z"⟩
abbrev cX2_cut : ByteArray := prog_4_method_7_code
def yX2_cut : MethodName := ⟨RX2, "cut", "(I)I"⟩
def RX3 : String := "NeededAnswers$Stand"
def TX3 : u_T := fun k => match k with
  | _ => ("", "", "", false)
def tyX3 : Nat → FieldType := fun k => match k with
  | _ => .int
theorem nmX3 : ∀ a, a < 0 → ∀ b, b < 0 → a ≠ b → (TX3 a).2.1 ≠ (TX3 b).2.1 := by decide +kernel
theorem tyX3_ok : ∀ k, k < 0 → parseFieldDescriptor (TX3 k).2.2.1 = some (tyX3 k) := by decide +kernel
abbrev cX3_bound : ByteArray := prog_5_method_2_code
def yX3_bound : MethodName := ⟨RX3, "bound", "(II)I"⟩
abbrev cX3_bind : ByteArray := prog_5_method_3_code
def yX3_bind : MethodName := ⟨RX3, "bind", "(III)I"⟩
abbrev cX3_picked : ByteArray := prog_5_method_4_code
def yX3_picked : MethodName := ⟨RX3, "picked", "(I)I"⟩
abbrev cX3_second : ByteArray := prog_5_method_5_code
def yX3_second : MethodName := ⟨RX3, "second", "(I)I"⟩
abbrev cX3_pick : ByteArray := prog_5_method_6_code
def yX3_pick : MethodName := ⟨RX3, "pick", "(III)I"⟩
def RX4 : String := "NeededAnswers$Term"
def TX4 : u_T := fun k => match k with
  | 0 => ("NeededAnswers$Term", "sort", "I", false)
  | 1 => ("NeededAnswers$Term", "number", "I", false)
  | 2 => ("NeededAnswers$Term", "left", "I", false)
  | _ => ("NeededAnswers$Term", "right", "I", false)
def tyX4 : Nat → FieldType := fun k => match k with
  | 0 => .int
  | 1 => .int
  | 2 => .int
  | _ => .int
theorem nmX4 : ∀ a, a < 4 → ∀ b, b < 4 → a ≠ b → (TX4 a).2.1 ≠ (TX4 b).2.1 := by decide +kernel
theorem tyX4_ok : ∀ k, k < 4 → parseFieldDescriptor (TX4 k).2.2.1 = some (tyX4 k) := by decide +kernel
abbrev cX4_init : ByteArray := prog_6_method_1_code
def yX4_init : MethodName := ⟨RX4, "<init>", "()V"⟩
abbrev cX4_become : ByteArray := prog_6_method_2_code
def yX4_become : MethodName := ⟨RX4, "become", "(IIII)V"⟩
def RX5 : String := "NeededAnswers$TextReader"
def TX5 : u_T := fun k => match k with
  | 0 => ("NeededAnswers$TextReader", "page", "LNeededAnswers$Sheet;", false)
  | 1 => ("NeededAnswers$TextReader", "start", "I", false)
  | 2 => ("NeededAnswers$TextReader", "length", "I", false)
  | _ => ("NeededAnswers$TextReader", "at", "I", false)
def tyX5 : Nat → FieldType := fun k => match k with
  | 0 => .object "NeededAnswers$Sheet"
  | 1 => .int
  | 2 => .int
  | _ => .int
theorem nmX5 : ∀ a, a < 4 → ∀ b, b < 4 → a ≠ b → (TX5 a).2.1 ≠ (TX5 b).2.1 := by decide +kernel
theorem tyX5_ok : ∀ k, k < 4 → parseFieldDescriptor (TX5 k).2.2.1 = some (tyX5 k) := by decide +kernel
abbrev cX5_init : ByteArray := prog_7_method_1_code
def yX5_init : MethodName := ⟨RX5, "<init>", "()V"⟩
abbrev cX5_readInto : ByteArray := prog_7_method_2_code
def yX5_readInto : MethodName := ⟨RX5, "readInto", "(LNeededAnswers$World;LNeededAnswers$Sheet;II)I"⟩
abbrev cX5_readFunction : ByteArray := prog_7_method_3_code
def yX5_readFunction : MethodName := ⟨RX5, "readFunction", "(LNeededAnswers$Function;)Z"⟩
abbrev cX5_readKind : ByteArray := prog_7_method_4_code
def yX5_readKind : MethodName := ⟨RX5, "readKind", "()I"⟩
abbrev cX5_readTwig : ByteArray := prog_7_method_5_code
def yX5_readTwig : MethodName := ⟨RX5, "readTwig", "(LNeededAnswers$Function;I)Z"⟩
abbrev cX5_readChoice : ByteArray := prog_7_method_6_code
def yX5_readChoice : MethodName := ⟨RX5, "readChoice", "()I"⟩
abbrev cX5_readParts : ByteArray := prog_7_method_7_code
def yX5_readParts : MethodName := ⟨RX5, "readParts", "(LNeededAnswers$Function;I)Z"⟩
abbrev cX5_readEnd : ByteArray := prog_7_method_8_code
def yX5_readEnd : MethodName := ⟨RX5, "readEnd", "()I"⟩
abbrev cX5_readDigit : ByteArray := prog_7_method_9_code
def yX5_readDigit : MethodName := ⟨RX5, "readDigit", "(II)I"⟩
abbrev cX5_passes : ByteArray := prog_7_method_10_code
def yX5_passes : MethodName := ⟨RX5, "passes", "(I)Z"⟩
def RX6 : String := "NeededAnswers$World"
def TX6 : u_T := fun k => match k with
  | 0 => ("NeededAnswers$World", "functions", "[LNeededAnswers$Function;", true)
  | 1 => ("NeededAnswers$World", "functionCount", "I", false)
  | 2 => ("NeededAnswers$World", "terms", "[LNeededAnswers$Term;", true)
  | 3 => ("NeededAnswers$World", "termCount", "I", false)
  | _ => ("NeededAnswers$World", "givens", "[I", true)
def tyX6 : Nat → FieldType := fun k => match k with
  | 0 => .array (.object "NeededAnswers$Function")
  | 1 => .int
  | 2 => .array (.object "NeededAnswers$Term")
  | 3 => .int
  | _ => .array .int
theorem nmX6 : ∀ a, a < 5 → ∀ b, b < 5 → a ≠ b → (TX6 a).2.1 ≠ (TX6 b).2.1 := by decide +kernel
theorem tyX6_ok : ∀ k, k < 5 → parseFieldDescriptor (TX6 k).2.2.1 = some (tyX6 k) := by decide +kernel
abbrev cX6_init : ByteArray := prog_8_method_1_code
def yX6_init : MethodName := ⟨RX6, "<init>", "()V"⟩
abbrev cX6_clear : ByteArray := prog_8_method_2_code
def yX6_clear : MethodName := ⟨RX6, "clear", "()V"⟩
abbrev cX6_take : ByteArray := prog_8_method_3_code
def yX6_take : MethodName := ⟨RX6, "take", "(LNeededAnswers$World;)V"⟩
abbrev cX6_functionAt : ByteArray := prog_8_method_4_code
def yX6_functionAt : MethodName := ⟨RX6, "functionAt", "(I)LNeededAnswers$Function;"⟩
abbrev cX6_termAt : ByteArray := prog_8_method_5_code
def yX6_termAt : MethodName := ⟨RX6, "termAt", "(I)LNeededAnswers$Term;"⟩
abbrev cX6_add : ByteArray := prog_8_method_6_code
def yX6_add : MethodName := ⟨RX6, "add", "(IIII)I"⟩
abbrev cX6_takeLast : ByteArray := prog_8_method_7_code
def yX6_takeLast : MethodName := ⟨RX6, "takeLast", "()Z"⟩
abbrev cX6_play : ByteArray := prog_8_method_8_code
def yX6_play : MethodName := ⟨RX6, "play", "(II)Z"⟩
abbrev cX6_givenCount : ByteArray := prog_8_method_9_code
def yX6_givenCount : MethodName := ⟨RX6, "givenCount", "()I"⟩
abbrev cX6_firstStand : ByteArray := prog_8_method_10_code
def yX6_firstStand : MethodName := ⟨RX6, "firstStand", "()I"⟩
abbrev cX6_boundSince : ByteArray := prog_8_method_11_code
def yX6_boundSince : MethodName := ⟨RX6, "boundSince", "(I)I"⟩
abbrev cX6_costOf : ByteArray := prog_8_method_12_code
def yX6_costOf : MethodName := ⟨RX6, "costOf", "(I)I"⟩
def RX7 : String := "NeededAnswers"
def TX7 : u_T := fun k => match k with
  | 0 => ("NeededAnswers", "sheets", "[LNeededAnswers$Sheet;", true)
  | 1 => ("NeededAnswers", "world", "LNeededAnswers$World;", true)
  | 2 => ("NeededAnswers", "imagined", "LNeededAnswers$World;", true)
  | 3 => ("NeededAnswers", "row", "LNeededAnswers$Row;", true)
  | 4 => ("NeededAnswers", "reader", "LNeededAnswers$TextReader;", true)
  | 5 => ("NeededAnswers", "readTerms", "[I", true)
  | 6 => ("NeededAnswers", "readCosts", "[I", true)
  | 7 => ("NeededAnswers", "readingCount", "I", false)
  | 8 => ("NeededAnswers", "traceNumber", "I", false)
  | _ => ("NeededAnswers", "latestFault", "I", false)
def tyX7 : Nat → FieldType := fun k => match k with
  | 0 => .array (.object "NeededAnswers$Sheet")
  | 1 => .object "NeededAnswers$World"
  | 2 => .object "NeededAnswers$World"
  | 3 => .object "NeededAnswers$Row"
  | 4 => .object "NeededAnswers$TextReader"
  | 5 => .array .int
  | 6 => .array .int
  | 7 => .int
  | 8 => .int
  | _ => .int
theorem nmX7 : ∀ a, a < 10 → ∀ b, b < 10 → a ≠ b → (TX7 a).2.1 ≠ (TX7 b).2.1 := by decide +kernel
theorem tyX7_ok : ∀ k, k < 10 → parseFieldDescriptor (TX7 k).2.2.1 = some (tyX7 k) := by decide +kernel
abbrev cX7_init : ByteArray := prog_1_method_1_code
def yX7_init : MethodName := ⟨RX7, "<init>", "()V"⟩
abbrev cX7_functions : ByteArray := prog_1_method_2_code
def yX7_functions : MethodName := ⟨RX7, "functions", "(IIII)I"⟩
abbrev cX7_ofFunction : ByteArray := prog_1_method_3_code
def yX7_ofFunction : MethodName := ⟨RX7, "ofFunction", "(II)I"⟩
abbrev cX7_constant : ByteArray := prog_1_method_4_code
def yX7_constant : MethodName := ⟨RX7, "constant", "(I)I"⟩
abbrev cX7_unknown : ByteArray := prog_1_method_5_code
def yX7_unknown : MethodName := ⟨RX7, "unknown", "(I)I"⟩
abbrev cX7_apply : ByteArray := prog_1_method_6_code
def yX7_apply : MethodName := ⟨RX7, "apply", "(III)I"⟩
abbrev cX7_drop : ByteArray := prog_1_method_7_code
def yX7_drop : MethodName := ⟨RX7, "drop", "()I"⟩
abbrev cX7_ofTerm : ByteArray := prog_1_method_8_code
def yX7_ofTerm : MethodName := ⟨RX7, "ofTerm", "(II)I"⟩
abbrev cX7_price : ByteArray := prog_1_method_9_code
def yX7_price : MethodName := ⟨RX7, "price", "(II)I"⟩
abbrev cX7_given : ByteArray := prog_1_method_10_code
def yX7_given : MethodName := ⟨RX7, "given", "(II)I"⟩
abbrev cX7_needs : ByteArray := prog_1_method_11_code
def yX7_needs : MethodName := ⟨RX7, "needs", "(II)I"⟩
abbrev cX7_answers : ByteArray := prog_1_method_12_code
def yX7_answers : MethodName := ⟨RX7, "answers", "(II)I"⟩
abbrev cX7_answer : ByteArray := prog_1_method_13_code
def yX7_answer : MethodName := ⟨RX7, "answer", "(III)I"⟩
abbrev cX7_day : ByteArray := prog_1_method_14_code
def yX7_day : MethodName := ⟨RX7, "day", "(IIIII)I"⟩
abbrev cX7_reading : ByteArray := prog_1_method_15_code
def yX7_reading : MethodName := ⟨RX7, "reading", "(II)I"⟩
abbrev cX7_back : ByteArray := prog_1_method_16_code
def yX7_back : MethodName := ⟨RX7, "back", "(I)I"⟩
abbrev cX7_kinds : ByteArray := prog_1_method_17_code
def yX7_kinds : MethodName := ⟨RX7, "kinds", "(I)I"⟩
abbrev cX7_branches : ByteArray := prog_1_method_18_code
def yX7_branches : MethodName := ⟨RX7, "branches", "(I)I"⟩
abbrev cX7_odds : ByteArray := prog_1_method_19_code
def yX7_odds : MethodName := ⟨RX7, "odds", "(III)J"⟩
abbrev cX7_sheet : ByteArray := prog_1_method_20_code
def yX7_sheet : MethodName := ⟨RX7, "sheet", "(III)I"⟩
abbrev cX7_lose : ByteArray := prog_1_method_21_code
def yX7_lose : MethodName := ⟨RX7, "lose", "(I)I"⟩
abbrev cX7_put : ByteArray := prog_1_method_22_code
def yX7_put : MethodName := ⟨RX7, "put", "(III)I"⟩
abbrev cX7_cell : ByteArray := prog_1_method_23_code
def yX7_cell : MethodName := ⟨RX7, "cell", "(III)J"⟩
abbrev cX7_copy : ByteArray := prog_1_method_24_code
def yX7_copy : MethodName := ⟨RX7, "copy", "(IIIII)I"⟩
abbrev cX7_tell : ByteArray := prog_1_method_25_code
def yX7_tell : MethodName := ⟨RX7, "tell", "(I)I"⟩
abbrev cX7_note : ByteArray := prog_1_method_26_code
def yX7_note : MethodName := ⟨RX7, "note", "(I)I"⟩
abbrev cX7_as : ByteArray := prog_1_method_27_code
def yX7_as : MethodName := ⟨RX7, "as", "(II)I"⟩
abbrev cX7_trace : ByteArray := prog_1_method_28_code
def yX7_trace : MethodName := ⟨RX7, "trace", "()I"⟩
abbrev cX7_fault : ByteArray := prog_1_method_29_code
def yX7_fault : MethodName := ⟨RX7, "fault", "()I"⟩
abbrev cX7_many : ByteArray := prog_1_method_30_code
def yX7_many : MethodName := ⟨RX7, "many", "(I)I"⟩
abbrev cX7_isBelow : ByteArray := prog_1_method_31_code
def yX7_isBelow : MethodName := ⟨RX7, "isBelow", "(II)Z"⟩
abbrev cX7_isPrice : ByteArray := prog_1_method_32_code
def yX7_isPrice : MethodName := ⟨RX7, "isPrice", "(I)Z"⟩
abbrev cX7_sheetAt : ByteArray := prog_1_method_33_code
def yX7_sheetAt : MethodName := ⟨RX7, "sheetAt", "(I)LNeededAnswers$Sheet;"⟩
abbrev cX7_faulted : ByteArray := prog_1_method_34_code
def yX7_faulted : MethodName := ⟨RX7, "faulted", "(I)I"⟩
abbrev cX7_leaf : ByteArray := prog_1_method_35_code
def yX7_leaf : MethodName := ⟨RX7, "leaf", "(III)I"⟩
abbrev cX7_forgetReadings : ByteArray := prog_1_method_36_code
def yX7_forgetReadings : MethodName := ⟨RX7, "forgetReadings", "(I)V"⟩
abbrev cX7_readingsHold : ByteArray := prog_1_method_37_code
def yX7_readingsHold : MethodName := ⟨RX7, "readingsHold", "(LNeededAnswers$World;)Z"⟩
abbrev cX7_needOf : ByteArray := prog_1_method_38_code
def yX7_needOf : MethodName := ⟨RX7, "needOf", "(I)I"⟩
abbrev cX7_neededOf : ByteArray := prog_1_method_39_code
def yX7_neededOf : MethodName := ⟨RX7, "neededOf", "(I)I"⟩
abbrev cX7_areActs : ByteArray := prog_1_method_40_code
def yX7_areActs : MethodName := ⟨RX7, "areActs", "(LNeededAnswers$Sheet;II)Z"⟩
abbrev cX7_isAct : ByteArray := prog_1_method_41_code
def yX7_isAct : MethodName := ⟨RX7, "isAct", "(II)Z"⟩
abbrev cX7_playActs : ByteArray := prog_1_method_42_code
def yX7_playActs : MethodName := ⟨RX7, "playActs", "(LNeededAnswers$Sheet;II)I"⟩
abbrev cX7_ofImagined : ByteArray := prog_1_method_43_code
def yX7_ofImagined : MethodName := ⟨RX7, "ofImagined", "(I)I"⟩
abbrev cX7_tellPlain : ByteArray := prog_1_method_44_code
def yX7_tellPlain : MethodName := ⟨RX7, "tellPlain", "(LNeededAnswers$Function;)I"⟩
abbrev cX7_tellDear : ByteArray := prog_1_method_45_code
def yX7_tellDear : MethodName := ⟨RX7, "tellDear", "(LNeededAnswers$Function;)I"⟩
abbrev cX7_tellDouble : ByteArray := prog_1_method_46_code
def yX7_tellDouble : MethodName := ⟨RX7, "tellDouble", "(LNeededAnswers$Function;)I"⟩
abbrev cX7_leaveTrace : ByteArray := prog_1_method_47_code
def yX7_leaveTrace : MethodName := ⟨RX7, "leaveTrace", "(I)V"⟩
def RX8 : String := "NeededAnswersModel"
def TX8 : u_T := fun k => match k with
  | 0 => ("NeededAnswersModel", "fault", "I", false)
  | 1 => ("NeededAnswersModel", "trace", "I", false)
  | 2 => ("NeededAnswersModel", "sorts", "[I", true)
  | 3 => ("NeededAnswersModel", "sheetLong", "[I", true)
  | 4 => ("NeededAnswersModel", "cells", "[I", true)
  | 5 => ("NeededAnswersModel", "functions", "I", false)
  | 6 => ("NeededAnswersModel", "terms", "I", false)
  | 7 => ("NeededAnswersModel", "kind", "[I", true)
  | 8 => ("NeededAnswersModel", "price", "[I", true)
  | 9 => ("NeededAnswersModel", "branch", "[I", true)
  | 10 => ("NeededAnswersModel", "twigs", "[I", true)
  | 11 => ("NeededAnswersModel", "parts", "[I", true)
  | 12 => ("NeededAnswersModel", "sortOf", "[I", true)
  | 13 => ("NeededAnswersModel", "whichOf", "[I", true)
  | 14 => ("NeededAnswersModel", "firstOf", "[I", true)
  | 15 => ("NeededAnswersModel", "secondOf", "[I", true)
  | 16 => ("NeededAnswersModel", "given", "[I", true)
  | 17 => ("NeededAnswersModel", "at", "I", false)
  | 18 => ("NeededAnswersModel", "readFunctions", "I", false)
  | 19 => ("NeededAnswersModel", "readKind", "[I", true)
  | 20 => ("NeededAnswersModel", "readPrice", "[I", true)
  | 21 => ("NeededAnswersModel", "readBranch", "[I", true)
  | 22 => ("NeededAnswersModel", "readTwigs", "[I", true)
  | 23 => ("NeededAnswersModel", "readParts", "[I", true)
  | 24 => ("NeededAnswersModel", "is", "[I", true)
  | 25 => ("NeededAnswersModel", "looked", "[I", true)
  | 26 => ("NeededAnswersModel", "row", "[I", true)
  | 27 => ("NeededAnswersModel", "steps", "[I", true)
  | 28 => ("NeededAnswersModel", "stands", "I", false)
  | 29 => ("NeededAnswersModel", "answers", "I", false)
  | 30 => ("NeededAnswersModel", "valuesSet", "I", false)
  | 31 => ("NeededAnswersModel", "leastPrice", "I", false)
  | 32 => ("NeededAnswersModel", "wanted", "I", false)
  | 33 => ("NeededAnswersModel", "wantedStand", "I", false)
  | 34 => ("NeededAnswersModel", "wantedSteps", "I", false)
  | 35 => ("NeededAnswersModel", "wantedValue", "I", false)
  | 36 => ("NeededAnswersModel", "wantedLooked", "I", false)
  | 37 => ("NeededAnswersModel", "kept", "[I", true)
  | 38 => ("NeededAnswersModel", "readings", "I", false)
  | 39 => ("NeededAnswersModel", "readTerm", "[I", true)
  | _ => ("NeededAnswersModel", "readPriceOf", "[I", true)
def tyX8 : Nat → FieldType := fun k => match k with
  | 0 => .int
  | 1 => .int
  | 2 => .array .int
  | 3 => .array .int
  | 4 => .array .int
  | 5 => .int
  | 6 => .int
  | 7 => .array .int
  | 8 => .array .int
  | 9 => .array .int
  | 10 => .array .int
  | 11 => .array .int
  | 12 => .array .int
  | 13 => .array .int
  | 14 => .array .int
  | 15 => .array .int
  | 16 => .array .int
  | 17 => .int
  | 18 => .int
  | 19 => .array .int
  | 20 => .array .int
  | 21 => .array .int
  | 22 => .array .int
  | 23 => .array .int
  | 24 => .array .int
  | 25 => .array .int
  | 26 => .array .int
  | 27 => .array .int
  | 28 => .int
  | 29 => .int
  | 30 => .int
  | 31 => .int
  | 32 => .int
  | 33 => .int
  | 34 => .int
  | 35 => .int
  | 36 => .int
  | 37 => .array .int
  | 38 => .int
  | 39 => .array .int
  | _ => .array .int
theorem nmX8 : ∀ a, a < 41 → ∀ b, b < 41 → a ≠ b → (TX8 a).2.1 ≠ (TX8 b).2.1 := by decide +kernel
theorem tyX8_ok : ∀ k, k < 41 → parseFieldDescriptor (TX8 k).2.2.1 = some (tyX8 k) := by decide +kernel
abbrev cX8_init : ByteArray := prog_10_method_1_code
def yX8_init : MethodName := ⟨RX8, "<init>", "()V"⟩
abbrev cX8_fails : ByteArray := prog_10_method_3_code
def yX8_fails : MethodName := ⟨RX8, "fails", "(I)I"⟩
abbrev cX8_lost : ByteArray := prog_10_method_4_code
def yX8_lost : MethodName := ⟨RX8, "lost", "(I)J"⟩
abbrev cX8_within : ByteArray := prog_10_method_5_code
def yX8_within : MethodName := ⟨RX8, "within", "(III)Z"⟩
abbrev cX8_isSheet : ByteArray := prog_10_method_6_code
def yX8_isSheet : MethodName := ⟨RX8, "isSheet", "(I)Z"⟩
abbrev cX8_isSort : ByteArray := prog_10_method_7_code
def yX8_isSort : MethodName := ⟨RX8, "isSort", "(I)Z"⟩
abbrev cX8_against : ByteArray := prog_10_method_8_code
def yX8_against : MethodName := ⟨RX8, "against", "(IIII)I"⟩
abbrev cX8_isFunction : ByteArray := prog_10_method_9_code
def yX8_isFunction : MethodName := ⟨RX8, "isFunction", "(I)Z"⟩
abbrev cX8_isTerm : ByteArray := prog_10_method_10_code
def yX8_isTerm : MethodName := ⟨RX8, "isTerm", "(I)Z"⟩
abbrev cX8_digit : ByteArray := prog_10_method_11_code
def yX8_digit : MethodName := ⟨RX8, "digit", "(III)I"⟩
abbrev cX8_isSign : ByteArray := prog_10_method_12_code
def yX8_isSign : MethodName := ⟨RX8, "isSign", "(II)Z"⟩
abbrev cX8_functions : ByteArray := prog_10_method_13_code
def yX8_functions : MethodName := ⟨RX8, "functions", "(IIII)I"⟩
abbrev cX8_readAll : ByteArray := prog_10_method_14_code
def yX8_readAll : MethodName := ⟨RX8, "readAll", "(I)Z"⟩
abbrev cX8_readFunction : ByteArray := prog_10_method_15_code
def yX8_readFunction : MethodName := ⟨RX8, "readFunction", "(II)Z"⟩
abbrev cX8_readTwig : ByteArray := prog_10_method_16_code
def yX8_readTwig : MethodName := ⟨RX8, "readTwig", "(II)Z"⟩
abbrev cX8_costOf : ByteArray := prog_10_method_17_code
def yX8_costOf : MethodName := ⟨RX8, "costOf", "(I)I"⟩
abbrev cX8_ofFunction : ByteArray := prog_10_method_18_code
def yX8_ofFunction : MethodName := ⟨RX8, "ofFunction", "(II)I"⟩
abbrev cX8_putOn : ByteArray := prog_10_method_19_code
def yX8_putOn : MethodName := ⟨RX8, "putOn", "(IIII)I"⟩
abbrev cX8_constant : ByteArray := prog_10_method_20_code
def yX8_constant : MethodName := ⟨RX8, "constant", "(I)I"⟩
abbrev cX8_unknown : ByteArray := prog_10_method_21_code
def yX8_unknown : MethodName := ⟨RX8, "unknown", "(I)I"⟩
abbrev cX8_apply : ByteArray := prog_10_method_22_code
def yX8_apply : MethodName := ⟨RX8, "apply", "(III)I"⟩
abbrev cX8_drop : ByteArray := prog_10_method_23_code
def yX8_drop : MethodName := ⟨RX8, "drop", "()I"⟩
abbrev cX8_ofTerm : ByteArray := prog_10_method_24_code
def yX8_ofTerm : MethodName := ⟨RX8, "ofTerm", "(II)I"⟩
abbrev cX8_price : ByteArray := prog_10_method_25_code
def yX8_price : MethodName := ⟨RX8, "price", "(II)I"⟩
abbrev cX8_boundIn : ByteArray := prog_10_method_26_code
def yX8_boundIn : MethodName := ⟨RX8, "boundIn", "(II)I"⟩
abbrev cX8_pickedIn : ByteArray := prog_10_method_27_code
def yX8_pickedIn : MethodName := ⟨RX8, "pickedIn", "(II)I"⟩
abbrev cX8_findTerm : ByteArray := prog_10_method_28_code
def yX8_findTerm : MethodName := ⟨RX8, "findTerm", "(II)V"⟩
abbrev cX8_findTwig : ByteArray := prog_10_method_29_code
def yX8_findTwig : MethodName := ⟨RX8, "findTwig", "(IIII)V"⟩
abbrev cX8_findTerms : ByteArray := prog_10_method_30_code
def yX8_findTerms : MethodName := ⟨RX8, "findTerms", "(II)V"⟩
abbrev cX8_firstStand : ByteArray := prog_10_method_31_code
def yX8_firstStand : MethodName := ⟨RX8, "firstStand", "()I"⟩
abbrev cX8_given : ByteArray := prog_10_method_32_code
def yX8_given : MethodName := ⟨RX8, "given", "(II)I"⟩
abbrev cX8_needs : ByteArray := prog_10_method_33_code
def yX8_needs : MethodName := ⟨RX8, "needs", "(II)I"⟩
abbrev cX8_priceOf : ByteArray := prog_10_method_34_code
def yX8_priceOf : MethodName := ⟨RX8, "priceOf", "(I)I"⟩
abbrev cX8_toTheEnd : ByteArray := prog_10_method_35_code
def yX8_toTheEnd : MethodName := ⟨RX8, "toTheEnd", "(II)V"⟩
abbrev cX8_isAnswer : ByteArray := prog_10_method_36_code
def yX8_isAnswer : MethodName := ⟨RX8, "isAnswer", "(II)V"⟩
abbrev cX8_findAnswers : ByteArray := prog_10_method_37_code
def yX8_findAnswers : MethodName := ⟨RX8, "findAnswers", "(II)V"⟩
abbrev cX8_answers : ByteArray := prog_10_method_38_code
def yX8_answers : MethodName := ⟨RX8, "answers", "(II)I"⟩
abbrev cX8_picks : ByteArray := prog_10_method_39_code
def yX8_picks : MethodName := ⟨RX8, "picks", "(I)I"⟩
abbrev cX8_answer : ByteArray := prog_10_method_40_code
def yX8_answer : MethodName := ⟨RX8, "answer", "(III)I"⟩
abbrev cX8_does : ByteArray := prog_10_method_41_code
def yX8_does : MethodName := ⟨RX8, "does", "(II)Z"⟩
abbrev cX8_isPair : ByteArray := prog_10_method_42_code
def yX8_isPair : MethodName := ⟨RX8, "isPair", "(II)Z"⟩
abbrev cX8_goDay : ByteArray := prog_10_method_43_code
def yX8_goDay : MethodName := ⟨RX8, "goDay", "(II)I"⟩
abbrev cX8_day : ByteArray := prog_10_method_44_code
def yX8_day : MethodName := ⟨RX8, "day", "(IIIII)I"⟩
abbrev cX8_tellDay : ByteArray := prog_10_method_45_code
def yX8_tellDay : MethodName := ⟨RX8, "tellDay", "(I)I"⟩
abbrev cX8_reading : ByteArray := prog_10_method_46_code
def yX8_reading : MethodName := ⟨RX8, "reading", "(II)I"⟩
abbrev cX8_back : ByteArray := prog_10_method_47_code
def yX8_back : MethodName := ⟨RX8, "back", "(I)I"⟩
abbrev cX8_areSo : ByteArray := prog_10_method_48_code
def yX8_areSo : MethodName := ⟨RX8, "areSo", "()Z"⟩
abbrev cX8_kinds : ByteArray := prog_10_method_49_code
def yX8_kinds : MethodName := ⟨RX8, "kinds", "(I)I"⟩
abbrev cX8_branches : ByteArray := prog_10_method_50_code
def yX8_branches : MethodName := ⟨RX8, "branches", "(I)I"⟩
abbrev cX8_inLeastTerms : ByteArray := prog_10_method_51_code
def yX8_inLeastTerms : MethodName := ⟨RX8, "inLeastTerms", "(JJI)J"⟩
abbrev cX8_nextStand : ByteArray := prog_10_method_52_code
def yX8_nextStand : MethodName := ⟨RX8, "nextStand", "(I)I"⟩
abbrev cX8_odds : ByteArray := prog_10_method_53_code
def yX8_odds : MethodName := ⟨RX8, "odds", "(III)J"⟩
abbrev cX8_sheet : ByteArray := prog_10_method_54_code
def yX8_sheet : MethodName := ⟨RX8, "sheet", "(III)I"⟩
abbrev cX8_lose : ByteArray := prog_10_method_55_code
def yX8_lose : MethodName := ⟨RX8, "lose", "(I)I"⟩
abbrev cX8_put : ByteArray := prog_10_method_56_code
def yX8_put : MethodName := ⟨RX8, "put", "(III)I"⟩
abbrev cX8_cell : ByteArray := prog_10_method_57_code
def yX8_cell : MethodName := ⟨RX8, "cell", "(III)J"⟩
abbrev cX8_copy : ByteArray := prog_10_method_58_code
def yX8_copy : MethodName := ⟨RX8, "copy", "(IIIII)I"⟩
abbrev cX8_begins : ByteArray := prog_10_method_59_code
def yX8_begins : MethodName := ⟨RX8, "begins", "(I)V"⟩
abbrev cX8_tell : ByteArray := prog_10_method_60_code
def yX8_tell : MethodName := ⟨RX8, "tell", "(I)I"⟩
abbrev cX8_note : ByteArray := prog_10_method_61_code
def yX8_note : MethodName := ⟨RX8, "note", "(I)I"⟩
abbrev cX8_as : ByteArray := prog_10_method_62_code
def yX8_as : MethodName := ⟨RX8, "as", "(II)I"⟩
abbrev cX8_trace : ByteArray := prog_10_method_63_code
def yX8_trace : MethodName := ⟨RX8, "trace", "()I"⟩
abbrev cX8_fault : ByteArray := prog_10_method_64_code
def yX8_fault : MethodName := ⟨RX8, "fault", "()I"⟩
abbrev cX8_many : ByteArray := prog_10_method_65_code
def yX8_many : MethodName := ⟨RX8, "many", "(I)I"⟩
def RJ6 : String := "java/lang/Integer"
abbrev cJ6_bitCount_0f7a4 : ByteArray := prog_11_method_49_code
def yJ6_bitCount_0f7a4 : MethodName := ⟨RJ6, "bitCount", "(I)I"⟩
def RJ9 : String := "java/lang/Math"
abbrev cJ9_min_7cf53 : ByteArray := prog_12_method_69_code
def yJ9_min_7cf53 : MethodName := ⟨RJ9, "min", "(II)I"⟩
def RJ10 : String := "java/lang/System"
def RL : String := "NeededAnswersLaw"
abbrev cL_law : ByteArray := code
/-! THE ABSTRACT MACHINE: numbers are integers, references are numbers of cells (0: the script), a heap is a function. What a method does from a
place on is a predicate on what comes behind it (am_W, the least one that is closed under steps); calls go down one level (am_M d). -/
abbrev am_V : Type := Int ⊕ (Int ⊕ Option Nat)
abbrev am_C : Type := (Nat × List am_V) ⊕ (List Int ⊕ (Nat × List (Option Nat)))
abbrev am_H : Type := Nat → am_C
abbrev am_L : Type := List (Option am_V)
abbrev am_K : Type := Option am_V → Nat → am_H → Prop
abbrev am_X : Type := Nat → am_L → List am_V → Nat → am_H → Prop
abbrev am_Q : Type := Nat → List am_V → Nat → am_H → am_K → Prop
abbrev iV (x : Int) : am_V := Sum.inl x
abbrev lV (x : Int) : am_V := Sum.inr (Sum.inl x)
abbrev rV (r : Nat) : am_V := Sum.inr (Sum.inr (some r))
abbrev nV : am_V := Sum.inr (Sum.inr none)
abbrev oC (ci : Nat) (fs : List am_V) : am_C := Sum.inl (ci, fs)
abbrev aC (l : List Int) : am_C := Sum.inr (Sum.inl l)
abbrev qC (ci : Nat) (l : List (Option Nat)) : am_C := Sum.inr (Sum.inr (ci, l))
/-! numbers -/
def wr (x : Int) : Int := (x + 2147483648) % 4294967296 - 2147483648
def wrL (x : Int) : Int := (x + 9223372036854775808) % 18446744073709551616 - 9223372036854775808
def am_b8 (x : Int) : Int := (x + 128) % 256 - 128
def am_s16 (x : Int) : Int := (x + 32768) % 65536 - 32768
def am_and (a b : Int) : Int := (Int32.ofInt a &&& Int32.ofInt b).toInt
def am_or (a b : Int) : Int := (Int32.ofInt a ||| Int32.ofInt b).toInt
def am_xor (a b : Int) : Int := (Int32.ofInt a ^^^ Int32.ofInt b).toInt
def am_shl (a b : Int) : Int := (Int32.ofInt a <<< (Int32.ofInt b &&& 31)).toInt
def am_shr (a b : Int) : Int := (Int32.ofInt a >>> (Int32.ofInt b &&& 31)).toInt
def am_ush (a b : Int) : Int := (((Int32.ofInt a).toUInt32 >>> ((Int32.ofInt b).toUInt32 &&& Int32.toUInt32 31)).toInt32).toInt
def am_lc (a b : Int) : Int := if b < a then 1 else if a = b then 0 else -1
def am_cnd (c : Jvm.ClassFile.Cond) (a b : Int) : Prop := match c with
  | .eq => a = b
  | .ne => ¬ a = b
  | .lt => a < b
  | .ge => b ≤ a
  | .gt => b < a
  | .le => a ≤ b
/-! locals -/
def am_get : am_L → Nat → Option am_V
  | [], _ => none
  | x :: _, 0 => x
  | _ :: r, i + 1 => am_get r i
/-- what stands ahead of a place that is written: a long there is gone -/
def am_kil : Option am_V → Option am_V
  | some (Sum.inr (Sum.inl _)) => none
  | x => x
def am_set : am_L → Nat → am_V → Option am_L
  | [], _, _ => none
  | _ :: r, 0, v => some (some v :: r)
  | x :: r, 1, v => (am_set r 0 v).map (fun q => am_kil x :: q)
  | x :: r, i + 2, v => (am_set r (i + 1) v).map (fun q => x :: q)
/-- a long: its second half holds nothing -/
def am_nil : am_L → Nat → Option am_L
  | [], _ => none
  | _ :: r, 0 => some (none :: r)
  | x :: r, i + 1 => (am_nil r i).map (fun q => x :: q)
def am_le : am_L → am_L → Prop
  | [], [] => True
  | none :: r, _ :: q => am_le r q
  | some v :: r, x :: q => x = some v ∧ am_le r q
  | _, _ => False
def am_cat (v : am_V) : Nat := match v with
  | Sum.inr (Sum.inl _) => 2
  | _ => 1
def am_sl : List am_V → am_L
  | [] => []
  | Sum.inr (Sum.inl x) :: r => some (Sum.inr (Sum.inl x)) :: none :: am_sl r
  | v :: r => some v :: am_sl r
def am_pad : Nat → am_L → am_L
  | 0, l => l
  | k + 1, [] => none :: am_pad k []
  | k + 1, x :: l => x :: am_pad k l
/-! the stack -/
def am_tk : Nat → List am_V → List am_V → Option (List am_V × List am_V)
  | 0, st, acc => some (acc, st)
  | _ + 1, [], _ => none
  | k + 1, v :: st, acc => am_tk k st (v :: acc)
def am_po (v : Option am_V) (rest : List am_V) : List am_V := match v with
  | some v => v :: rest
  | none => rest
def am_up (h : am_H) (r : Nat) (c : am_C) : am_H := fun q => if q = r then c else h q
theorem am_up_s {h : am_H} {r : Nat} {c : am_C} : am_up h r c r = c := if_pos rfl
theorem am_up_n {h : am_H} {r q : Nat} {c : am_C} (hq : q ≠ r) : am_up h r c q = h q := if_neg hq
/-- what a field may hold: 0 an int, 1 a boolean, 2 a reference -/
def am_fit (k : Nat) (v : am_V) : Prop := match k, v with
  | 0, Sum.inl _ => True
  | 1, Sum.inl x => x = 0 ∨ x = 1
  | 2, Sum.inr (Sum.inr _) => True
  | _, _ => False
def am_dflt (k : Nat) : am_V := match k with
  | 2 => nV
  | _ => iV 0
/-! jumps -/
def am_jmp (X : Nat → Prop) (pc : Nat) (off : Int) : Prop := 0 ≤ (pc : Int) + off ∧ X ((pc : Int) + off).toNat
def am_swT (x : Int) : Int → List Int → Int → (Int → Prop) → Prop
  | _, [], d, J => J d
  | lo, o :: os, d, J => (x = lo → J o) ∧ (¬ x = lo → am_swT x (lo + 1) os d J)
def am_swL (x : Int) : List (Int × Int) → Int → (Int → Prop) → Prop
  | [], d, J => J d
  | (k, o) :: r, d, J => (x = k → J o) ∧ (¬ x = k → am_swL x r d J)
def am_srt (ps : List (Int × Int)) : Bool := (ps.zip (ps.drop 1)).all (fun (a, next) => a.1 < next.1)
/-- the length of an instruction -/
def am_ln (i : Instr) (len : Nat) : Bool := match i with
  | .aaload | .aastore | .aconst_null | .aload_n _ | .areturn | .arraylength | .astore_n _ | .dup | .dup2 | .i2b | .i2l | .i2s | .iadd | .iaload | .iand | .iastore | .iconst _ | .idiv | .iload_n _ | .imul | .ior | .irem | .ireturn | .ishl | .ishr | .istore_n _ | .isub | .iushr | .ixor | .lcmp | .lconst _ | .ldiv | .lload_n _ | .lrem | .lreturn | .lstore_n _ | .return_ => len == 1
  | .aload _ | .astore _ | .bipush _ | .iload _ | .istore _ | .lload _ | .lstore _ | .newarray _ => len == 2
  | .anewarray _ | .getfield _ | .goto _ | .if_icmp _ _ | .ifCond _ _ | .ifnonnull _ | .ifnull _ | .iinc _ _ | .invokespecial _ | .invokestatic _ | .invokevirtual _ | .ldc_w _ | .ldc2_w _ | .new _ | .putfield _ | .sipush _ => len == 3
  | .tableswitch _ _ _ _ | .lookupswitch _ _ => true
  | _ => false

/-! the program, by tables -/
def am_cn (c : Nat) : String := [RX0, RX1, RX2, RX4, RX5, RX6, RX7, RX8, RJ6, RJ9, RL, RX3].getD c ""
abbrev am_cl : List vw_C := [(RX0, TX0, 5), (RX1, TX1, 6), (RX2, TX2, 4), (RX4, TX4, 4), (RX5, TX5, 4), (RX6, TX6, 5), (RX7, TX7, 10), (RX8, TX8, 41)]
/-- how many fields, what each holds, which are final -/
def am_fk (c : Nat) : List Nat := [[0, 0, 0, 2, 2], [0, 2, 2, 2, 2, 2], [1, 0, 0, 2], [0, 0, 0, 0], [2, 0, 0, 0], [2, 0, 2, 0, 2], [2, 2, 2, 2, 2, 2, 2, 0, 0, 0], [0, 0, 2, 2, 2, 0, 0, 2, 2, 2, 2, 2, 2, 2, 2, 2, 2, 0, 0, 2, 2, 2, 2, 2, 2, 2, 2, 2, 0, 0, 0, 0, 0, 0, 0, 0, 0, 2, 0, 2, 2]].getD c []
def am_ff (c : Nat) : List Bool := [[false, false, false, true, true], [false, true, true, true, true, true], [false, false, false, true], [false, false, false, false], [false, false, false, false], [true, false, true, false, true], [true, true, true, true, true, true, true, false, false, false], [false, false, true, true, true, false, false, true, true, true, true, true, true, true, true, true, true, false, false, true, true, true, true, true, true, true, true, true, false, false, false, false, false, false, false, false, false, true, false, true, true]].getD c []
def am_own (m : Nat) : Nat := [0, 0, 0, 1, 1, 1, 1, 1, 1, 1, 1, 1, 1, 1, 1, 1, 2, 2, 2, 2, 2, 2, 2, 11, 11, 11, 11, 11, 3, 3, 4, 4, 4, 4, 4, 4, 4, 4, 4, 4, 5, 5, 5, 5, 5, 5, 5, 5, 5, 5, 5, 5, 6, 6, 6, 6, 6, 6, 6, 6, 6, 6, 6, 6, 6, 6, 6, 6, 6, 6, 6, 6, 6, 6, 6, 6, 6, 6, 6, 6, 6, 6, 6, 6, 6, 6, 6, 6, 6, 6, 6, 6, 6, 6, 6, 6, 6, 6, 6, 7, 7, 7, 7, 7, 7, 7, 7, 7, 7, 7, 7, 7, 7, 7, 7, 7, 7, 7, 7, 7, 7, 7, 7, 7, 7, 7, 7, 7, 7, 7, 7, 7, 7, 7, 7, 7, 7, 7, 7, 7, 7, 7, 7, 7, 7, 7, 7, 7, 7, 7, 7, 7, 7, 7, 7, 7, 7, 7, 7, 7, 7, 7, 7, 8, 9, 10].getD m 99
def am_ini (m : Nat) : Bool := [true, false, false, true, false, false, false, false, false, false, false, false, false, false, false, false, true, false, false, false, false, false, false, false, false, false, false, false, true, false, true, false, false, false, false, false, false, false, false, false, true, false, false, false, false, false, false, false, false, false, false, false, true, false, false, false, false, false, false, false, false, false, false, false, false, false, false, false, false, false, false, false, false, false, false, false, false, false, false, false, false, false, false, false, false, false, false, false, false, false, false, false, false, false, false, false, false, false, false, true, false, false, false, false, false, false, false, false, false, false, false, false, false, false, false, false, false, false, false, false, false, false, false, false, false, false, false, false, false, false, false, false, false, false, false, false, false, false, false, false, false, false, false, false, false, false, false, false, false, false, false, false, false, false, false, false, false, false, false, false, false, false, false, false, false, false].getD m false
def am_sta (m : Nat) : Bool := [false, false, false, false, false, false, false, false, false, true, false, false, false, false, false, true, false, false, false, false, false, false, false, true, true, true, true, true, false, false, false, false, false, false, false, false, false, false, false, false, false, false, false, false, false, false, false, false, false, false, false, false, false, false, false, false, false, false, false, false, false, false, false, false, false, false, false, false, false, false, false, false, false, false, false, false, false, false, false, false, false, false, true, true, false, false, false, false, false, true, true, true, true, false, false, false, false, false, false, false, false, false, true, true, true, false, false, false, false, false, false, false, false, false, false, false, false, false, false, false, false, false, false, true, true, false, false, false, false, false, false, false, false, false, false, false, false, false, false, true, false, false, false, false, false, false, false, false, true, false, false, false, false, false, false, false, false, false, false, false, false, false, false, true, true, true].getD m false
def am_rt (m : Nat) : Nat := [0, 2, 0, 0, 0, 0, 0, 0, 2, 2, 2, 2, 2, 2, 2, 2, 0, 0, 1, 2, 1, 1, 2, 2, 2, 2, 2, 2, 0, 0, 0, 2, 1, 2, 1, 2, 1, 2, 2, 1, 0, 0, 0, 4, 4, 2, 1, 1, 2, 2, 2, 2, 0, 2, 2, 2, 2, 2, 2, 2, 2, 2, 2, 2, 2, 2, 2, 2, 2, 2, 3, 2, 2, 2, 3, 2, 2, 2, 2, 2, 2, 2, 1, 1, 4, 2, 2, 0, 1, 2, 2, 1, 1, 2, 2, 2, 2, 2, 0, 0, 2, 3, 1, 1, 1, 2, 1, 1, 2, 1, 2, 1, 1, 1, 2, 2, 2, 2, 2, 2, 2, 2, 2, 2, 2, 0, 0, 0, 2, 2, 2, 2, 0, 0, 0, 2, 2, 2, 1, 1, 2, 2, 2, 2, 2, 1, 2, 2, 3, 2, 3, 2, 2, 2, 3, 2, 0, 2, 2, 2, 2, 2, 2, 2, 2, 1].getD m 9
def am_co (m : Nat) : Nat := [2, 0, 0, 5, 0, 0, 0, 0, 0, 0, 0, 0, 0, 0, 0, 0, 1, 0, 0, 0, 0, 0, 0, 0, 0, 0, 0, 0, 0, 0, 0, 0, 0, 0, 0, 0, 0, 0, 0, 0, 18, 0, 0, 0, 0, 0, 0, 0, 0, 0, 0, 0, 56, 0, 0, 0, 0, 0, 0, 0, 0, 0, 0, 0, 0, 0, 0, 0, 0, 0, 0, 0, 0, 0, 0, 0, 0, 0, 0, 0, 0, 0, 0, 0, 0, 0, 0, 0, 0, 0, 0, 0, 0, 0, 0, 0, 0, 0, 0, 25, 0, 0, 0, 0, 0, 0, 0, 0, 0, 0, 0, 0, 0, 0, 0, 0, 0, 0, 0, 0, 0, 0, 0, 0, 0, 0, 0, 0, 0, 0, 0, 0, 0, 0, 0, 0, 0, 0, 0, 0, 0, 0, 0, 0, 0, 0, 0, 0, 0, 0, 0, 0, 0, 0, 0, 0, 0, 0, 0, 0, 0, 0, 0, 0, 0, 83].getD m 0
def am_mx (m : Nat) : Nat := [1, 1, 2, 1, 4, 2, 4, 7, 11, 4, 3, 4, 3, 5, 5, 5, 1, 4, 2, 2, 2, 3, 2, 2, 3, 1, 1, 3, 1, 5, 1, 6, 6, 1, 4, 3, 5, 1, 4, 3, 2, 2, 4, 2, 2, 5, 1, 4, 3, 3, 4, 5, 2, 8, 4, 2, 2, 4, 1, 4, 5, 4, 3, 3, 6, 9, 3, 2, 4, 4, 8, 5, 3, 5, 6, 8, 3, 3, 4, 1, 1, 2, 2, 1, 2, 2, 4, 4, 3, 1, 1, 4, 2, 5, 2, 2, 2, 2, 2, 1, 2, 2, 3, 1, 1, 5, 2, 2, 4, 3, 8, 2, 5, 5, 2, 3, 5, 2, 2, 4, 3, 3, 4, 2, 2, 6, 7, 4, 1, 4, 3, 4, 3, 4, 7, 3, 4, 4, 3, 2, 4, 11, 2, 3, 2, 2, 5, 5, 11, 5, 7, 5, 3, 4, 4, 10, 2, 3, 2, 3, 1, 1, 4, 1, 2, 4].getD m 0
def am_na (m : Nat) : Nat := [1, 1, 2, 1, 3, 2, 3, 4, 4, 3, 1, 2, 1, 2, 3, 2, 1, 3, 1, 2, 2, 3, 2, 2, 3, 1, 1, 3, 1, 5, 1, 5, 2, 1, 3, 1, 3, 1, 3, 2, 1, 1, 2, 2, 2, 5, 1, 3, 1, 1, 2, 2, 1, 5, 3, 2, 2, 4, 1, 3, 3, 3, 3, 3, 4, 6, 3, 2, 2, 2, 4, 4, 2, 4, 4, 6, 2, 2, 3, 1, 1, 2, 2, 1, 2, 2, 4, 2, 2, 1, 1, 3, 2, 4, 2, 2, 2, 2, 2, 1, 2, 2, 3, 1, 1, 5, 2, 2, 4, 3, 5, 2, 3, 3, 2, 3, 5, 2, 2, 4, 1, 3, 3, 2, 2, 3, 5, 3, 1, 3, 3, 2, 3, 3, 3, 3, 2, 4, 3, 2, 3, 6, 2, 3, 2, 1, 2, 2, 3, 2, 4, 4, 2, 4, 4, 6, 2, 2, 2, 3, 1, 1, 2, 1, 2, 1].getD m 0
def am_code (m : Nat) : ByteArray := [cX0_init, cX0_cost, cX0_take, cX1_init, cX1_fill, cX1_join, cX1_goOn, cX1_lookAt, cX1_outcomeOfFunction, cX1_outcomeOfChoice, cX1_answerCount, cX1_placeOfAnswer, cX1_valueSet, cX1_leastPrice, cX1_throwsOf, cX1_throwsIn, cX2_init, cX2_lay, cX2_clear, cX2_faultAs, cX2_has, cX2_holds, cX2_cut, cX3_bound, cX3_bind, cX3_picked, cX3_second, cX3_pick, cX4_init, cX4_become, cX5_init, cX5_readInto, cX5_readFunction, cX5_readKind, cX5_readTwig, cX5_readChoice, cX5_readParts, cX5_readEnd, cX5_readDigit, cX5_passes, cX6_init, cX6_clear, cX6_take, cX6_functionAt, cX6_termAt, cX6_add, cX6_takeLast, cX6_play, cX6_givenCount, cX6_firstStand, cX6_boundSince, cX6_costOf, cX7_init, cX7_functions, cX7_ofFunction, cX7_constant, cX7_unknown, cX7_apply, cX7_drop, cX7_ofTerm, cX7_price, cX7_given, cX7_needs, cX7_answers, cX7_answer, cX7_day, cX7_reading, cX7_back, cX7_kinds, cX7_branches, cX7_odds, cX7_sheet, cX7_lose, cX7_put, cX7_cell, cX7_copy, cX7_tell, cX7_note, cX7_as, cX7_trace, cX7_fault, cX7_many, cX7_isBelow, cX7_isPrice, cX7_sheetAt, cX7_faulted, cX7_leaf, cX7_forgetReadings, cX7_readingsHold, cX7_needOf, cX7_neededOf, cX7_areActs, cX7_isAct, cX7_playActs, cX7_ofImagined, cX7_tellPlain, cX7_tellDear, cX7_tellDouble, cX7_leaveTrace, cX8_init, cX8_fails, cX8_lost, cX8_within, cX8_isSheet, cX8_isSort, cX8_against, cX8_isFunction, cX8_isTerm, cX8_digit, cX8_isSign, cX8_functions, cX8_readAll, cX8_readFunction, cX8_readTwig, cX8_costOf, cX8_ofFunction, cX8_putOn, cX8_constant, cX8_unknown, cX8_apply, cX8_drop, cX8_ofTerm, cX8_price, cX8_boundIn, cX8_pickedIn, cX8_findTerm, cX8_findTwig, cX8_findTerms, cX8_firstStand, cX8_given, cX8_needs, cX8_priceOf, cX8_toTheEnd, cX8_isAnswer, cX8_findAnswers, cX8_answers, cX8_picks, cX8_answer, cX8_does, cX8_isPair, cX8_goDay, cX8_day, cX8_tellDay, cX8_reading, cX8_back, cX8_areSo, cX8_kinds, cX8_branches, cX8_inLeastTerms, cX8_nextStand, cX8_odds, cX8_sheet, cX8_lose, cX8_put, cX8_cell, cX8_copy, cX8_begins, cX8_tell, cX8_note, cX8_as, cX8_trace, cX8_fault, cX8_many, cJ6_bitCount_0f7a4, cJ9_min_7cf53, cL_law].getD m cL_law
def am_nm (m : Nat) : MethodName := [yX0_init, yX0_cost, yX0_take, yX1_init, yX1_fill, yX1_join, yX1_goOn, yX1_lookAt, yX1_outcomeOfFunction, yX1_outcomeOfChoice, yX1_answerCount, yX1_placeOfAnswer, yX1_valueSet, yX1_leastPrice, yX1_throwsOf, yX1_throwsIn, yX2_init, yX2_lay, yX2_clear, yX2_faultAs, yX2_has, yX2_holds, yX2_cut, yX3_bound, yX3_bind, yX3_picked, yX3_second, yX3_pick, yX4_init, yX4_become, yX5_init, yX5_readInto, yX5_readFunction, yX5_readKind, yX5_readTwig, yX5_readChoice, yX5_readParts, yX5_readEnd, yX5_readDigit, yX5_passes, yX6_init, yX6_clear, yX6_take, yX6_functionAt, yX6_termAt, yX6_add, yX6_takeLast, yX6_play, yX6_givenCount, yX6_firstStand, yX6_boundSince, yX6_costOf, yX7_init, yX7_functions, yX7_ofFunction, yX7_constant, yX7_unknown, yX7_apply, yX7_drop, yX7_ofTerm, yX7_price, yX7_given, yX7_needs, yX7_answers, yX7_answer, yX7_day, yX7_reading, yX7_back, yX7_kinds, yX7_branches, yX7_odds, yX7_sheet, yX7_lose, yX7_put, yX7_cell, yX7_copy, yX7_tell, yX7_note, yX7_as, yX7_trace, yX7_fault, yX7_many, yX7_isBelow, yX7_isPrice, yX7_sheetAt, yX7_faulted, yX7_leaf, yX7_forgetReadings, yX7_readingsHold, yX7_needOf, yX7_neededOf, yX7_areActs, yX7_isAct, yX7_playActs, yX7_ofImagined, yX7_tellPlain, yX7_tellDear, yX7_tellDouble, yX7_leaveTrace, yX8_init, yX8_fails, yX8_lost, yX8_within, yX8_isSheet, yX8_isSort, yX8_against, yX8_isFunction, yX8_isTerm, yX8_digit, yX8_isSign, yX8_functions, yX8_readAll, yX8_readFunction, yX8_readTwig, yX8_costOf, yX8_ofFunction, yX8_putOn, yX8_constant, yX8_unknown, yX8_apply, yX8_drop, yX8_ofTerm, yX8_price, yX8_boundIn, yX8_pickedIn, yX8_findTerm, yX8_findTwig, yX8_findTerms, yX8_firstStand, yX8_given, yX8_needs, yX8_priceOf, yX8_toTheEnd, yX8_isAnswer, yX8_findAnswers, yX8_answers, yX8_picks, yX8_answer, yX8_does, yX8_isPair, yX8_goDay, yX8_day, yX8_tellDay, yX8_reading, yX8_back, yX8_areSo, yX8_kinds, yX8_branches, yX8_inLeastTerms, yX8_nextStand, yX8_odds, yX8_sheet, yX8_lose, yX8_put, yX8_cell, yX8_copy, yX8_begins, yX8_tell, yX8_note, yX8_as, yX8_trace, yX8_fault, yX8_many, yJ6_bitCount_0f7a4, yJ9_min_7cf53, x].getD m ⟨"", "", ""⟩
def am_re (m : Nat) : Option FieldType := [(none : Option FieldType), (some .int), (none : Option FieldType), (none : Option FieldType), (none : Option FieldType), (none : Option FieldType), (none : Option FieldType), (none : Option FieldType), (some .int), (some .int), (some .int), (some .int), (some .int), (some .int), (some .int), (some .int), (none : Option FieldType), (none : Option FieldType), (some .boolean), (some .int), (some .boolean), (some .boolean), (some .int), (some .int), (some .int), (some .int), (some .int), (some .int), (none : Option FieldType), (none : Option FieldType), (none : Option FieldType), (some .int), (some .boolean), (some .int), (some .boolean), (some .int), (some .boolean), (some .int), (some .int), (some .boolean), (none : Option FieldType), (none : Option FieldType), (none : Option FieldType), (some (.object "NeededAnswers$Function")), (some (.object "NeededAnswers$Term")), (some .int), (some .boolean), (some .boolean), (some .int), (some .int), (some .int), (some .int), (none : Option FieldType), (some .int), (some .int), (some .int), (some .int), (some .int), (some .int), (some .int), (some .int), (some .int), (some .int), (some .int), (some .int), (some .int), (some .int), (some .int), (some .int), (some .int), (some .long), (some .int), (some .int), (some .int), (some .long), (some .int), (some .int), (some .int), (some .int), (some .int), (some .int), (some .int), (some .boolean), (some .boolean), (some (.object "NeededAnswers$Sheet")), (some .int), (some .int), (none : Option FieldType), (some .boolean), (some .int), (some .int), (some .boolean), (some .boolean), (some .int), (some .int), (some .int), (some .int), (some .int), (none : Option FieldType), (none : Option FieldType), (some .int), (some .long), (some .boolean), (some .boolean), (some .boolean), (some .int), (some .boolean), (some .boolean), (some .int), (some .boolean), (some .int), (some .boolean), (some .boolean), (some .boolean), (some .int), (some .int), (some .int), (some .int), (some .int), (some .int), (some .int), (some .int), (some .int), (some .int), (some .int), (none : Option FieldType), (none : Option FieldType), (none : Option FieldType), (some .int), (some .int), (some .int), (some .int), (none : Option FieldType), (none : Option FieldType), (none : Option FieldType), (some .int), (some .int), (some .int), (some .boolean), (some .boolean), (some .int), (some .int), (some .int), (some .int), (some .int), (some .boolean), (some .int), (some .int), (some .long), (some .int), (some .long), (some .int), (some .int), (some .int), (some .long), (some .int), (none : Option FieldType), (some .int), (some .int), (some .int), (some .int), (some .int), (some .int), (some .int), (some .int), ret].getD m none
abbrev am_N : Nat := 165
/-- the classes of which there are arrays -/
def am_isq (c : Nat) : Bool := c == 0 || c == 2 || c == 3
def am_flP : List (Nat × Nat × Nat × Nat × Nat) := [(2, 15, 2, 0, 77), (6, 256, 2, 0, 78), (2, 19, 2, 1, 79), (6, 269, 2, 1, 80), (2, 23, 2, 2, 81), (4, 81, 2, 2, 82), (2, 9, 2, 3, 83), (4, 86, 2, 3, 84), (6, 263, 2, 3, 85), (0, 18, 0, 0, 111), (4, 50, 0, 0, 112), (6, 97, 0, 0, 113), (0, 22, 0, 1, 114), (4, 55, 0, 1, 115), (6, 100, 0, 1, 116), (5, 74, 0, 1, 117), (0, 25, 0, 2, 118), (4, 58, 0, 2, 119), (6, 107, 0, 2, 120), (1, 99, 0, 2, 121), (0, 9, 0, 3, 122), (6, 92, 0, 3, 123), (4, 74, 0, 3, 124), (1, 104, 0, 3, 125), (0, 15, 0, 4, 126), (1, 110, 0, 4, 127), (4, 78, 0, 4, 128), (3, 7, 3, 0, 145), (5, 40, 3, 0, 146), (1, 69, 3, 0, 147), (6, 133, 3, 0, 148), (3, 13, 3, 1, 149), (5, 43, 3, 1, 150), (1, 74, 3, 1, 151), (6, 138, 3, 1, 152), (3, 16, 3, 2, 153), (5, 46, 3, 2, 154), (1, 89, 3, 2, 155), (6, 141, 3, 2, 156), (3, 19, 3, 3, 157), (5, 49, 3, 3, 158), (1, 96, 3, 3, 159), (6, 144, 3, 3, 160), (5, 11, 5, 0, 170), (4, 29, 5, 0, 171), (6, 236, 5, 0, 172), (5, 29, 5, 1, 173), (4, 39, 5, 1, 174), (6, 85, 5, 1, 175), (5, 19, 5, 2, 176), (1, 65, 5, 2, 177), (5, 33, 5, 3, 178), (1, 62, 5, 3, 179), (6, 126, 5, 3, 180), (5, 23, 5, 4, 181), (6, 151, 5, 4, 182), (1, 27, 1, 0, 200), (6, 183, 1, 0, 201), (1, 11, 1, 1, 202), (6, 193, 1, 1, 203), (1, 15, 1, 2, 204), (6, 196, 1, 2, 205), (1, 18, 1, 3, 206), (6, 212, 1, 3, 207), (1, 21, 1, 4, 208), (6, 164, 1, 4, 209), (1, 24, 1, 5, 210), (6, 161, 1, 5, 211), (4, 9, 4, 0, 231), (4, 15, 4, 1, 232), (4, 19, 4, 2, 233), (4, 22, 4, 3, 234), (6, 13, 6, 0, 244), (6, 21, 6, 1, 245), (6, 25, 6, 2, 246), (6, 31, 6, 3, 247), (6, 38, 6, 4, 248), (6, 42, 6, 5, 249), (6, 46, 6, 6, 250), (6, 82, 6, 7, 251), (6, 291, 6, 8, 252), (6, 49, 6, 9, 253), (7, 85, 7, 0, 668), (7, 245, 7, 1, 669), (7, 9, 7, 2, 670), (7, 13, 7, 3, 671), (7, 16, 7, 4, 672), (7, 95, 7, 5, 673), (7, 98, 7, 6, 674), (7, 19, 7, 7, 675), (7, 22, 7, 8, 676), (7, 25, 7, 9, 677), (7, 28, 7, 10, 678), (7, 31, 7, 11, 679), (7, 34, 7, 12, 680), (7, 37, 7, 13, 681), (7, 40, 7, 14, 682), (7, 43, 7, 15, 683), (7, 46, 7, 16, 684), (7, 101, 7, 17, 685), (7, 122, 7, 18, 686), (7, 49, 7, 19, 687), (7, 52, 7, 20, 688), (7, 55, 7, 21, 689), (7, 58, 7, 22, 690), (7, 61, 7, 23, 691), (7, 64, 7, 24, 692), (7, 67, 7, 25, 693), (7, 70, 7, 26, 694), (7, 73, 7, 27, 695), (7, 176, 7, 28, 696), (7, 188, 7, 29, 697), (7, 185, 7, 30, 698), (7, 182, 7, 31, 699), (7, 191, 7, 32, 700), (7, 194, 7, 33, 701), (7, 197, 7, 34, 702), (7, 200, 7, 35, 703), (7, 203, 7, 36, 704), (7, 76, 7, 37, 705), (7, 125, 7, 38, 706), (7, 79, 7, 39, 707), (7, 82, 7, 40, 708)]
def am_fl (own ix : Nat) : Option (Nat × Nat) := (am_flP.find? (fun q => q.1 == own && q.2.1 == ix)).map (fun q => (q.2.2.1, q.2.2.2.1))
def am_mlP : List (Nat × Nat × Nat × Nat × Nat) := [(10, 9, 2, 52, 64), (6, 3, 6, 0, 67), (6, 17, 4, 16, 73), (2, 3, 6, 0, 76), (6, 20, 2, 40, 98), (5, 3, 6, 0, 101), (5, 27, 4, 0, 107), (0, 3, 6, 0, 110), (5, 28, 4, 28, 141), (3, 1, 6, 0, 144), (6, 30, 4, 3, 196), (1, 3, 6, 0, 199), (6, 37, 4, 30, 227), (4, 3, 6, 0, 230), (10, 13, 0, 53, 275), (6, 53, 0, 84, 279), (6, 57, 1, 82, 283), (6, 61, 0, 19, 286), (6, 65, 0, 21, 290), (6, 68, 0, 85, 294), (6, 71, 0, 41, 298), (6, 74, 0, 31, 302), (4, 25, 0, 39, 306), (4, 35, 0, 32, 310), (4, 42, 0, 33, 314), (4, 46, 0, 38, 318), (4, 61, 0, 34, 322), (4, 65, 0, 35, 326), (4, 68, 0, 36, 330), (4, 71, 0, 37, 334), (6, 78, 0, 42, 338), (5, 36, 0, 2, 342), (0, 28, 5, 0, 346), (5, 52, 0, 29, 349), (5, 56, 5, 0, 353), (10, 18, 0, 54, 354), (6, 88, 0, 43, 358), (5, 62, 3, 82, 362), (6, 103, 0, 1, 363), (10, 23, 0, 55, 367), (6, 110, 0, 86, 371), (6, 118, 0, 45, 375), (10, 28, 0, 56, 379), (10, 32, 0, 57, 383), (6, 114, 0, 44, 387), (10, 37, 0, 58, 391), (6, 122, 0, 46, 395), (6, 129, 0, 87, 399), (10, 42, 0, 59, 403), (10, 46, 0, 60, 407), (6, 147, 1, 83, 411), (10, 50, 0, 61, 414), (10, 54, 0, 62, 418), (6, 154, 0, 49, 422), (5, 79, 1, 24, 426), (6, 157, 0, 7, 429), (1, 77, 1, 23, 433), (1, 81, 0, 8, 436), (1, 85, 0, 43, 440), (1, 92, 3, 82, 441), (1, 107, 1, 9, 442), (1, 113, 1, 25, 445), (1, 117, 1, 26, 448), (6, 167, 1, 89, 451), (6, 170, 1, 90, 454), (10, 58, 0, 63, 457), (6, 173, 0, 4, 461), (1, 31, 0, 44, 465), (1, 37, 0, 49, 466), (1, 41, 0, 5, 467), (1, 45, 0, 7, 471), (1, 49, 0, 6, 472), (1, 53, 1, 27, 476), (1, 59, 1, 24, 479), (6, 177, 0, 10, 480), (6, 180, 0, 12, 484), (6, 186, 0, 13, 488), (1, 120, 0, 51, 492), (5, 70, 0, 43, 496), (5, 87, 0, 1, 497), (1, 123, 1, 164, 498), (10, 62, 0, 64, 501), (6, 190, 0, 11, 505), (6, 199, 0, 50, 509), (5, 83, 1, 23, 513), (6, 202, 1, 25, 514), (6, 207, 1, 163, 515), (6, 215, 0, 51, 521), (6, 218, 1, 26, 522), (6, 221, 1, 23, 523), (10, 66, 0, 65, 524), (6, 225, 1, 91, 528), (6, 297, 1, 92, 531), (6, 229, 0, 93, 534), (6, 300, 0, 47, 538), (5, 66, 0, 46, 542), (6, 233, 0, 94, 543), (10, 71, 0, 66, 547), (10, 75, 0, 67, 551), (10, 79, 0, 68, 555), (6, 240, 0, 88, 559), (10, 83, 0, 69, 563), (10, 87, 0, 70, 567), (6, 246, 0, 14, 572), (1, 128, 1, 15, 576), (1, 132, 1, 163, 579), (1, 137, 0, 50, 580), (10, 92, 0, 71, 581), (6, 250, 0, 17, 585), (10, 96, 0, 72, 589), (6, 254, 0, 18, 593), (10, 100, 0, 73, 597), (6, 260, 0, 20, 601), (6, 266, 0, 22, 605), (10, 104, 0, 74, 609), (10, 108, 0, 75, 613), (6, 272, 5, 0, 617), (10, 112, 0, 76, 618), (6, 278, 0, 97, 622), (6, 288, 0, 98, 626), (6, 282, 0, 96, 630), (6, 285, 0, 95, 634), (10, 116, 0, 77, 638), (10, 120, 0, 78, 642), (10, 124, 0, 79, 646), (10, 128, 0, 80, 650), (10, 132, 0, 81, 654), (6, 294, 0, 48, 658), (10, 12, 2, 99, 664), (7, 1, 6, 0, 667), (10, 17, 0, 110, 792), (7, 104, 1, 103, 796), (7, 91, 1, 102, 799), (7, 108, 1, 104, 802), (7, 111, 0, 105, 805), (7, 115, 0, 100, 809), (7, 119, 0, 111, 813), (7, 128, 0, 109, 817), (7, 132, 0, 112, 821), (7, 135, 0, 108, 825), (7, 139, 0, 113, 829), (10, 22, 0, 115, 833), (7, 142, 0, 106, 837), (7, 145, 0, 114, 841), (10, 27, 0, 117, 845), (7, 148, 0, 116, 849), (10, 31, 0, 118, 853), (10, 36, 0, 119, 857), (7, 151, 0, 107, 861), (10, 41, 0, 120, 865), (10, 45, 0, 121, 869), (10, 49, 0, 122, 873), (10, 53, 0, 129, 877), (10, 57, 0, 130, 881), (7, 169, 0, 128, 885), (7, 173, 0, 127, 889), (7, 165, 0, 125, 893), (7, 154, 1, 123, 897), (7, 158, 0, 126, 900), (7, 162, 1, 124, 904), (10, 61, 0, 135, 907), (7, 212, 0, 134, 911), (7, 206, 0, 132, 915), (7, 209, 0, 133, 919), (7, 179, 0, 131, 923), (10, 65, 0, 137, 927), (7, 215, 0, 136, 931), (10, 70, 0, 141, 935), (7, 221, 1, 139, 939), (7, 224, 0, 140, 942), (7, 218, 0, 138, 946), (7, 227, 0, 142, 950), (10, 74, 0, 143, 954), (10, 78, 0, 144, 958), (10, 82, 0, 146, 962), (7, 230, 0, 145, 966), (10, 86, 0, 147, 970), (10, 91, 0, 150, 974), (7, 234, 0, 149, 979), (7, 237, 1, 148, 983), (10, 95, 0, 151, 986), (10, 99, 0, 152, 990), (10, 103, 0, 153, 994), (10, 107, 0, 154, 998), (7, 241, 0, 101, 1002), (10, 111, 0, 155, 1006), (10, 115, 0, 157, 1010), (7, 248, 0, 156, 1014), (10, 119, 0, 158, 1018), (10, 123, 0, 159, 1022), (10, 127, 0, 160, 1026), (10, 131, 0, 161, 1030), (10, 135, 0, 162, 1034)]
def am_ml (own ix : Nat) : Option (Nat × Nat) := (am_mlP.find? (fun q => q.1 == own && q.2.1 == ix)).map (fun q => (q.2.2.1, q.2.2.2.1))
def am_clP : List (Nat × Nat × Nat × Nat) := [(10, 7, 6, 62), (6, 11, 2, 70), (6, 18, 5, 96), (5, 9, 0, 102), (5, 17, 3, 104), (6, 28, 1, 194), (6, 35, 4, 225), (10, 10, 7, 662)]
def am_cll (own ix : Nat) : Option Nat := (am_clP.find? (fun q => q.1 == own && q.2.1 == ix)).map (fun q => q.2.2.1)
def am_ciP : List (Nat × Nat × Int × Nat) := [(8, 265, 1431655765, 518), (8, 266, 858993459, 519), (8, 267, 252645135, 520)]
def am_ci (own ix : Nat) : Option Int := (am_ciP.find? (fun q => q.1 == own && q.2.1 == ix)).map (fun q => q.2.2.1)
def am_cgP : List (Nat × Nat × Int × Nat) := [(6, 244, -9223372036854775808, 571), (7, 89, -9223372036854775808, 978)]
def am_cg (own ix : Nat) : Option Int := (am_cgP.find? (fun q => q.1 == own && q.2.1 == ix)).map (fun q => q.2.2.1)
/-- an instruction of a method; method am_N is the law -/
def am_dc (m pc : Nat) : Option Instr := match decode (am_code m) pc with
  | .ok (i, len) => if am_ln i len then some i else none
  | .error _ => none
theorem am_dcI {m pc len : Nat} {c : ByteArray} {i : Instr} (hc : am_code m = c) (h : decode c pc = .ok (i, len)) (hl : am_ln i len = true) : am_dc m pc = some i := by
  unfold am_dc
  rw [hc, h]
  exact if_pos hl
