section
-- ===== PART A: goes FIRST, ahead of the names: the tables' words, and 'selects' of the private methods out of them =====
/-- a private method of a class that the tables say can be made, by its rows of tables_1 -/
def lw_okq (q : MethodName × Nat) : Prop := (q.1.cls ≠ "java/lang/invoke/MethodHandle" ∧ q.1.cls ≠ "java/lang/invoke/VarHandle") ∧ Cond.instantiable q.1.cls q.2 ∈ tables_1 ∧ Cond.privateMethod q.1 ∈ tables_1 ∧ Cond.instanceMethod q.1 ∈ tables_1
theorem lw_p0 : lw_okq (⟨"AdmissionControl$Server", "offerNow", "(LAdmissionControl$Request;)I"⟩, 11) := ⟨⟨by decide +kernel, by decide +kernel⟩, List.mem_of_getElem? (i := 19) (by decide +kernel), List.mem_of_getElem? (i := 325) (by decide +kernel), List.mem_of_getElem? (i := 326) (by decide +kernel)⟩
theorem lw_p1 : lw_okq (⟨"AdmissionControl$Server", "admit", "(LAdmissionControl$Request;)V"⟩, 11) := ⟨⟨by decide +kernel, by decide +kernel⟩, List.mem_of_getElem? (i := 19) (by decide +kernel), List.mem_of_getElem? (i := 349) (by decide +kernel), List.mem_of_getElem? (i := 350) (by decide +kernel)⟩
theorem lw_p2 : lw_okq (⟨"AdmissionControl$Server", "catchUp", "(I)V"⟩, 11) := ⟨⟨by decide +kernel, by decide +kernel⟩, List.mem_of_getElem? (i := 19) (by decide +kernel), List.mem_of_getElem? (i := 353) (by decide +kernel), List.mem_of_getElem? (i := 354) (by decide +kernel)⟩
theorem lw_p3 : lw_okq (⟨"AdmissionControl$Server", "refuse", "(LAdmissionControl$Request;I)V"⟩, 11) := ⟨⟨by decide +kernel, by decide +kernel⟩, List.mem_of_getElem? (i := 19) (by decide +kernel), List.mem_of_getElem? (i := 361) (by decide +kernel), List.mem_of_getElem? (i := 362) (by decide +kernel)⟩
theorem lw_p4 : lw_okq (⟨"AdmissionControl$Server", "refuseThoseWhoWaited", "(LAdmissionControl$Lane;)V"⟩, 11) := ⟨⟨by decide +kernel, by decide +kernel⟩, List.mem_of_getElem? (i := 19) (by decide +kernel), List.mem_of_getElem? (i := 387) (by decide +kernel), List.mem_of_getElem? (i := 388) (by decide +kernel)⟩
theorem lw_p5 : lw_okq (⟨"AdmissionControl$Server", "hasWaitedTooLong", "(LAdmissionControl$Request;)Z"⟩, 11) := ⟨⟨by decide +kernel, by decide +kernel⟩, List.mem_of_getElem? (i := 19) (by decide +kernel), List.mem_of_getElem? (i := 391) (by decide +kernel), List.mem_of_getElem? (i := 392) (by decide +kernel)⟩
theorem lw_p6 : lw_okq (⟨"AdmissionControl$Server", "workOneUnit", "()I"⟩, 11) := ⟨⟨by decide +kernel, by decide +kernel⟩, List.mem_of_getElem? (i := 19) (by decide +kernel), List.mem_of_getElem? (i := 399) (by decide +kernel), List.mem_of_getElem? (i := 400) (by decide +kernel)⟩
theorem lw_p7 : lw_okq (⟨"AdmissionControl$Server", "nextLane", "()LAdmissionControl$Lane;"⟩, 11) := ⟨⟨by decide +kernel, by decide +kernel⟩, List.mem_of_getElem? (i := 19) (by decide +kernel), List.mem_of_getElem? (i := 403) (by decide +kernel), List.mem_of_getElem? (i := 404) (by decide +kernel)⟩
theorem lw_p8 : lw_okq (⟨"AdmissionControl$Server", "complete", "(LAdmissionControl$Lane;LAdmissionControl$Request;)V"⟩, 11) := ⟨⟨by decide +kernel, by decide +kernel⟩, List.mem_of_getElem? (i := 19) (by decide +kernel), List.mem_of_getElem? (i := 407) (by decide +kernel), List.mem_of_getElem? (i := 408) (by decide +kernel)⟩
theorem lw_p9 : lw_okq (⟨"AdmissionControl", "takeStep", "(I)Z"⟩, 4) := ⟨⟨by decide +kernel, by decide +kernel⟩, List.mem_of_getElem? (i := 11) (by decide +kernel), List.mem_of_getElem? (i := 455) (by decide +kernel), List.mem_of_getElem? (i := 456) (by decide +kernel)⟩
theorem lw_p10 : lw_okq (⟨"AdmissionControl", "ticksOfTrial", "(I)I"⟩, 4) := ⟨⟨by decide +kernel, by decide +kernel⟩, List.mem_of_getElem? (i := 11) (by decide +kernel), List.mem_of_getElem? (i := 566) (by decide +kernel), List.mem_of_getElem? (i := 567) (by decide +kernel)⟩
theorem lw_p11 : lw_okq (⟨"AdmissionControl", "beginTrial", "(I)V"⟩, 4) := ⟨⟨by decide +kernel, by decide +kernel⟩, List.mem_of_getElem? (i := 11) (by decide +kernel), List.mem_of_getElem? (i := 570) (by decide +kernel), List.mem_of_getElem? (i := 571) (by decide +kernel)⟩
theorem lw_p12 : lw_okq (⟨"AdmissionControl", "trialEndsWithoutRejection", "(I)Z"⟩, 4) := ⟨⟨by decide +kernel, by decide +kernel⟩, List.mem_of_getElem? (i := 11) (by decide +kernel), List.mem_of_getElem? (i := 584) (by decide +kernel), List.mem_of_getElem? (i := 585) (by decide +kernel)⟩
theorem lw_p13 : lw_okq (⟨"AdmissionControlModel", "record", "()V"⟩, 9) := ⟨⟨by decide +kernel, by decide +kernel⟩, List.mem_of_getElem? (i := 596) (by decide +kernel), List.mem_of_getElem? (i := 650) (by decide +kernel), List.mem_of_getElem? (i := 651) (by decide +kernel)⟩
theorem lw_p14 : lw_okq (⟨"AdmissionControlModel", "ofClass", "(II)I"⟩, 9) := ⟨⟨by decide +kernel, by decide +kernel⟩, List.mem_of_getElem? (i := 596) (by decide +kernel), List.mem_of_getElem? (i := 664) (by decide +kernel), List.mem_of_getElem? (i := 665) (by decide +kernel)⟩
theorem lw_p15 : lw_okq (⟨"AdmissionControlModel", "noOffer", "(III)I"⟩, 9) := ⟨⟨by decide +kernel, by decide +kernel⟩, List.mem_of_getElem? (i := 596) (by decide +kernel), List.mem_of_getElem? (i := 672) (by decide +kernel), List.mem_of_getElem? (i := 673) (by decide +kernel)⟩
def lw_privs_1 : List (MethodName × Nat) := [(⟨"AdmissionControl$Server", "offerNow", "(LAdmissionControl$Request;)I"⟩, 11), (⟨"AdmissionControl$Server", "admit", "(LAdmissionControl$Request;)V"⟩, 11), (⟨"AdmissionControl$Server", "catchUp", "(I)V"⟩, 11), (⟨"AdmissionControl$Server", "refuse", "(LAdmissionControl$Request;I)V"⟩, 11), (⟨"AdmissionControl$Server", "refuseThoseWhoWaited", "(LAdmissionControl$Lane;)V"⟩, 11), (⟨"AdmissionControl$Server", "hasWaitedTooLong", "(LAdmissionControl$Request;)Z"⟩, 11), (⟨"AdmissionControl$Server", "workOneUnit", "()I"⟩, 11), (⟨"AdmissionControl$Server", "nextLane", "()LAdmissionControl$Lane;"⟩, 11), (⟨"AdmissionControl$Server", "complete", "(LAdmissionControl$Lane;LAdmissionControl$Request;)V"⟩, 11), (⟨"AdmissionControl", "takeStep", "(I)Z"⟩, 4), (⟨"AdmissionControl", "ticksOfTrial", "(I)I"⟩, 4), (⟨"AdmissionControl", "beginTrial", "(I)V"⟩, 4), (⟨"AdmissionControl", "trialEndsWithoutRejection", "(I)Z"⟩, 4), (⟨"AdmissionControlModel", "record", "()V"⟩, 9), (⟨"AdmissionControlModel", "ofClass", "(II)I"⟩, 9), (⟨"AdmissionControlModel", "noOffer", "(III)I"⟩, 9)]
theorem lw_r1 : ∀ q ∈ lw_privs_1, lw_okq q := List.forall_mem_cons.mpr ⟨lw_p0, List.forall_mem_cons.mpr ⟨lw_p1, List.forall_mem_cons.mpr ⟨lw_p2, List.forall_mem_cons.mpr ⟨lw_p3, List.forall_mem_cons.mpr ⟨lw_p4, List.forall_mem_cons.mpr ⟨lw_p5, List.forall_mem_cons.mpr ⟨lw_p6, List.forall_mem_cons.mpr ⟨lw_p7, List.forall_mem_cons.mpr ⟨lw_p8, List.forall_mem_cons.mpr ⟨lw_p9, List.forall_mem_cons.mpr ⟨lw_p10, List.forall_mem_cons.mpr ⟨lw_p11, List.forall_mem_cons.mpr ⟨lw_p12, List.forall_mem_cons.mpr ⟨lw_p13, List.forall_mem_cons.mpr ⟨lw_p14, List.forall_mem_cons.mpr ⟨lw_p15, fun _ h => absurd h List.not_mem_nil⟩⟩⟩⟩⟩⟩⟩⟩⟩⟩⟩⟩⟩⟩⟩⟩
theorem lw_p16 : lw_okq (⟨"AdmissionControlModel", "doOffer", "(III)I"⟩, 9) := ⟨⟨by decide +kernel, by decide +kernel⟩, List.mem_of_getElem? (i := 596) (by decide +kernel), List.mem_of_getElem? (i := 680) (by decide +kernel), List.mem_of_getElem? (i := 681) (by decide +kernel)⟩
theorem lw_p17 : lw_okq (⟨"AdmissionControlModel", "put", "(III)V"⟩, 9) := ⟨⟨by decide +kernel, by decide +kernel⟩, List.mem_of_getElem? (i := 596) (by decide +kernel), List.mem_of_getElem? (i := 684) (by decide +kernel), List.mem_of_getElem? (i := 685) (by decide +kernel)⟩
theorem lw_p18 : lw_okq (⟨"AdmissionControlModel", "offerNow", "(I)I"⟩, 9) := ⟨⟨by decide +kernel, by decide +kernel⟩, List.mem_of_getElem? (i := 596) (by decide +kernel), List.mem_of_getElem? (i := 688) (by decide +kernel), List.mem_of_getElem? (i := 689) (by decide +kernel)⟩
theorem lw_p19 : lw_okq (⟨"AdmissionControlModel", "of", "(II)I"⟩, 9) := ⟨⟨by decide +kernel, by decide +kernel⟩, List.mem_of_getElem? (i := 596) (by decide +kernel), List.mem_of_getElem? (i := 692) (by decide +kernel), List.mem_of_getElem? (i := 693) (by decide +kernel)⟩
theorem lw_p20 : lw_okq (⟨"AdmissionControlModel", "expectedCost", "(I)I"⟩, 9) := ⟨⟨by decide +kernel, by decide +kernel⟩, List.mem_of_getElem? (i := 596) (by decide +kernel), List.mem_of_getElem? (i := 696) (by decide +kernel), List.mem_of_getElem? (i := 697) (by decide +kernel)⟩
theorem lw_p21 : lw_okq (⟨"AdmissionControlModel", "whyRefused", "(II)I"⟩, 9) := ⟨⟨by decide +kernel, by decide +kernel⟩, List.mem_of_getElem? (i := 596) (by decide +kernel), List.mem_of_getElem? (i := 700) (by decide +kernel), List.mem_of_getElem? (i := 701) (by decide +kernel)⟩
theorem lw_p22 : lw_okq (⟨"AdmissionControlModel", "backlogOf", "(I)I"⟩, 9) := ⟨⟨by decide +kernel, by decide +kernel⟩, List.mem_of_getElem? (i := 596) (by decide +kernel), List.mem_of_getElem? (i := 704) (by decide +kernel), List.mem_of_getElem? (i := 705) (by decide +kernel)⟩
theorem lw_p23 : lw_okq (⟨"AdmissionControlModel", "inQueue", "(II)I"⟩, 9) := ⟨⟨by decide +kernel, by decide +kernel⟩, List.mem_of_getElem? (i := 596) (by decide +kernel), List.mem_of_getElem? (i := 708) (by decide +kernel), List.mem_of_getElem? (i := 709) (by decide +kernel)⟩
theorem lw_p24 : lw_okq (⟨"AdmissionControlModel", "refuse", "(II)V"⟩, 9) := ⟨⟨by decide +kernel, by decide +kernel⟩, List.mem_of_getElem? (i := 596) (by decide +kernel), List.mem_of_getElem? (i := 712) (by decide +kernel), List.mem_of_getElem? (i := 713) (by decide +kernel)⟩
theorem lw_p25 : lw_okq (⟨"AdmissionControlModel", "admit", "(I)V"⟩, 9) := ⟨⟨by decide +kernel, by decide +kernel⟩, List.mem_of_getElem? (i := 596) (by decide +kernel), List.mem_of_getElem? (i := 716) (by decide +kernel), List.mem_of_getElem? (i := 717) (by decide +kernel)⟩
theorem lw_p26 : lw_okq (⟨"AdmissionControlModel", "noAdvance", "(I)I"⟩, 9) := ⟨⟨by decide +kernel, by decide +kernel⟩, List.mem_of_getElem? (i := 596) (by decide +kernel), List.mem_of_getElem? (i := 724) (by decide +kernel), List.mem_of_getElem? (i := 725) (by decide +kernel)⟩
theorem lw_p27 : lw_okq (⟨"AdmissionControlModel", "doAdvance", "(I)I"⟩, 9) := ⟨⟨by decide +kernel, by decide +kernel⟩, List.mem_of_getElem? (i := 596) (by decide +kernel), List.mem_of_getElem? (i := 728) (by decide +kernel), List.mem_of_getElem? (i := 729) (by decide +kernel)⟩
theorem lw_p28 : lw_okq (⟨"AdmissionControlModel", "tick", "()I"⟩, 9) := ⟨⟨by decide +kernel, by decide +kernel⟩, List.mem_of_getElem? (i := 596) (by decide +kernel), List.mem_of_getElem? (i := 732) (by decide +kernel), List.mem_of_getElem? (i := 733) (by decide +kernel)⟩
theorem lw_p29 : lw_okq (⟨"AdmissionControlModel", "addTokens", "(II)V"⟩, 9) := ⟨⟨by decide +kernel, by decide +kernel⟩, List.mem_of_getElem? (i := 596) (by decide +kernel), List.mem_of_getElem? (i := 736) (by decide +kernel), List.mem_of_getElem? (i := 737) (by decide +kernel)⟩
theorem lw_p30 : lw_okq (⟨"AdmissionControlModel", "refuseLate", "(I)V"⟩, 9) := ⟨⟨by decide +kernel, by decide +kernel⟩, List.mem_of_getElem? (i := 596) (by decide +kernel), List.mem_of_getElem? (i := 740) (by decide +kernel), List.mem_of_getElem? (i := 741) (by decide +kernel)⟩
theorem lw_p31 : lw_okq (⟨"AdmissionControlModel", "leaveQueue", "(II)V"⟩, 9) := ⟨⟨by decide +kernel, by decide +kernel⟩, List.mem_of_getElem? (i := 596) (by decide +kernel), List.mem_of_getElem? (i := 744) (by decide +kernel), List.mem_of_getElem? (i := 745) (by decide +kernel)⟩
def lw_privs_2 : List (MethodName × Nat) := [(⟨"AdmissionControlModel", "doOffer", "(III)I"⟩, 9), (⟨"AdmissionControlModel", "put", "(III)V"⟩, 9), (⟨"AdmissionControlModel", "offerNow", "(I)I"⟩, 9), (⟨"AdmissionControlModel", "of", "(II)I"⟩, 9), (⟨"AdmissionControlModel", "expectedCost", "(I)I"⟩, 9), (⟨"AdmissionControlModel", "whyRefused", "(II)I"⟩, 9), (⟨"AdmissionControlModel", "backlogOf", "(I)I"⟩, 9), (⟨"AdmissionControlModel", "inQueue", "(II)I"⟩, 9), (⟨"AdmissionControlModel", "refuse", "(II)V"⟩, 9), (⟨"AdmissionControlModel", "admit", "(I)V"⟩, 9), (⟨"AdmissionControlModel", "noAdvance", "(I)I"⟩, 9), (⟨"AdmissionControlModel", "doAdvance", "(I)I"⟩, 9), (⟨"AdmissionControlModel", "tick", "()I"⟩, 9), (⟨"AdmissionControlModel", "addTokens", "(II)V"⟩, 9), (⟨"AdmissionControlModel", "refuseLate", "(I)V"⟩, 9), (⟨"AdmissionControlModel", "leaveQueue", "(II)V"⟩, 9)]
theorem lw_r2 : ∀ q ∈ lw_privs_2, lw_okq q := List.forall_mem_cons.mpr ⟨lw_p16, List.forall_mem_cons.mpr ⟨lw_p17, List.forall_mem_cons.mpr ⟨lw_p18, List.forall_mem_cons.mpr ⟨lw_p19, List.forall_mem_cons.mpr ⟨lw_p20, List.forall_mem_cons.mpr ⟨lw_p21, List.forall_mem_cons.mpr ⟨lw_p22, List.forall_mem_cons.mpr ⟨lw_p23, List.forall_mem_cons.mpr ⟨lw_p24, List.forall_mem_cons.mpr ⟨lw_p25, List.forall_mem_cons.mpr ⟨lw_p26, List.forall_mem_cons.mpr ⟨lw_p27, List.forall_mem_cons.mpr ⟨lw_p28, List.forall_mem_cons.mpr ⟨lw_p29, List.forall_mem_cons.mpr ⟨lw_p30, List.forall_mem_cons.mpr ⟨lw_p31, fun _ h => absurd h List.not_mem_nil⟩⟩⟩⟩⟩⟩⟩⟩⟩⟩⟩⟩⟩⟩⟩⟩
theorem lw_p32 : lw_okq (⟨"AdmissionControlModel", "nextClass", "()I"⟩, 9) := ⟨⟨by decide +kernel, by decide +kernel⟩, List.mem_of_getElem? (i := 596) (by decide +kernel), List.mem_of_getElem? (i := 748) (by decide +kernel), List.mem_of_getElem? (i := 749) (by decide +kernel)⟩
theorem lw_p33 : lw_okq (⟨"AdmissionControlModel", "work", "(I)Z"⟩, 9) := ⟨⟨by decide +kernel, by decide +kernel⟩, List.mem_of_getElem? (i := 596) (by decide +kernel), List.mem_of_getElem? (i := 752) (by decide +kernel), List.mem_of_getElem? (i := 753) (by decide +kernel)⟩
theorem lw_p34 : lw_okq (⟨"AdmissionControlModel", "findFault", "()I"⟩, 9) := ⟨⟨by decide +kernel, by decide +kernel⟩, List.mem_of_getElem? (i := 596) (by decide +kernel), List.mem_of_getElem? (i := 768) (by decide +kernel), List.mem_of_getElem? (i := 769) (by decide +kernel)⟩
theorem lw_p35 : lw_okq (⟨"AdmissionControlModel", "readStep", "(I)I"⟩, 9) := ⟨⟨by decide +kernel, by decide +kernel⟩, List.mem_of_getElem? (i := 596) (by decide +kernel), List.mem_of_getElem? (i := 772) (by decide +kernel), List.mem_of_getElem? (i := 773) (by decide +kernel)⟩
theorem lw_p36 : lw_okq (⟨"AdmissionControlModel", "at", "(I)I"⟩, 9) := ⟨⟨by decide +kernel, by decide +kernel⟩, List.mem_of_getElem? (i := 596) (by decide +kernel), List.mem_of_getElem? (i := 776) (by decide +kernel), List.mem_of_getElem? (i := 777) (by decide +kernel)⟩
theorem lw_p37 : lw_okq (⟨"AdmissionControlModel", "readNumber", "(II)I"⟩, 9) := ⟨⟨by decide +kernel, by decide +kernel⟩, List.mem_of_getElem? (i := 596) (by decide +kernel), List.mem_of_getElem? (i := 780) (by decide +kernel), List.mem_of_getElem? (i := 781) (by decide +kernel)⟩
theorem lw_p38 : lw_okq (⟨"AdmissionControlModel", "told", "(II)I"⟩, 9) := ⟨⟨by decide +kernel, by decide +kernel⟩, List.mem_of_getElem? (i := 596) (by decide +kernel), List.mem_of_getElem? (i := 850) (by decide +kernel), List.mem_of_getElem? (i := 851) (by decide +kernel)⟩
theorem lw_p39 : lw_okq (⟨"AdmissionControlModel", "isRequest", "(I)Z"⟩, 9) := ⟨⟨by decide +kernel, by decide +kernel⟩, List.mem_of_getElem? (i := 596) (by decide +kernel), List.mem_of_getElem? (i := 854) (by decide +kernel), List.mem_of_getElem? (i := 855) (by decide +kernel)⟩
theorem lw_p40 : lw_okq (⟨"AdmissionControlModel", "ticksWith", "(I)I"⟩, 9) := ⟨⟨by decide +kernel, by decide +kernel⟩, List.mem_of_getElem? (i := 596) (by decide +kernel), List.mem_of_getElem? (i := 886) (by decide +kernel), List.mem_of_getElem? (i := 887) (by decide +kernel)⟩
theorem lw_p41 : lw_okq (⟨"AdmissionControlModel", "putAside", "()V"⟩, 9) := ⟨⟨by decide +kernel, by decide +kernel⟩, List.mem_of_getElem? (i := 596) (by decide +kernel), List.mem_of_getElem? (i := 890) (by decide +kernel), List.mem_of_getElem? (i := 891) (by decide +kernel)⟩
theorem lw_p42 : lw_okq (⟨"AdmissionControlModel", "ticksToEnd", "()I"⟩, 9) := ⟨⟨by decide +kernel, by decide +kernel⟩, List.mem_of_getElem? (i := 596) (by decide +kernel), List.mem_of_getElem? (i := 894) (by decide +kernel), List.mem_of_getElem? (i := 895) (by decide +kernel)⟩
theorem lw_p43 : lw_okq (⟨"AdmissionControlModel", "isOver", "()Z"⟩, 9) := ⟨⟨by decide +kernel, by decide +kernel⟩, List.mem_of_getElem? (i := 596) (by decide +kernel), List.mem_of_getElem? (i := 898) (by decide +kernel), List.mem_of_getElem? (i := 899) (by decide +kernel)⟩
theorem lw_p44 : lw_okq (⟨"AdmissionControlModel", "inState", "(I)I"⟩, 9) := ⟨⟨by decide +kernel, by decide +kernel⟩, List.mem_of_getElem? (i := 596) (by decide +kernel), List.mem_of_getElem? (i := 902) (by decide +kernel), List.mem_of_getElem? (i := 903) (by decide +kernel)⟩
theorem lw_p45 : lw_okq (⟨"AdmissionControlModel", "putBack", "()V"⟩, 9) := ⟨⟨by decide +kernel, by decide +kernel⟩, List.mem_of_getElem? (i := 596) (by decide +kernel), List.mem_of_getElem? (i := 906) (by decide +kernel), List.mem_of_getElem? (i := 907) (by decide +kernel)⟩
def lw_privs_3 : List (MethodName × Nat) := [(⟨"AdmissionControlModel", "nextClass", "()I"⟩, 9), (⟨"AdmissionControlModel", "work", "(I)Z"⟩, 9), (⟨"AdmissionControlModel", "findFault", "()I"⟩, 9), (⟨"AdmissionControlModel", "readStep", "(I)I"⟩, 9), (⟨"AdmissionControlModel", "at", "(I)I"⟩, 9), (⟨"AdmissionControlModel", "readNumber", "(II)I"⟩, 9), (⟨"AdmissionControlModel", "told", "(II)I"⟩, 9), (⟨"AdmissionControlModel", "isRequest", "(I)Z"⟩, 9), (⟨"AdmissionControlModel", "ticksWith", "(I)I"⟩, 9), (⟨"AdmissionControlModel", "putAside", "()V"⟩, 9), (⟨"AdmissionControlModel", "ticksToEnd", "()I"⟩, 9), (⟨"AdmissionControlModel", "isOver", "()Z"⟩, 9), (⟨"AdmissionControlModel", "inState", "(I)I"⟩, 9), (⟨"AdmissionControlModel", "putBack", "()V"⟩, 9)]
theorem lw_r3 : ∀ q ∈ lw_privs_3, lw_okq q := List.forall_mem_cons.mpr ⟨lw_p32, List.forall_mem_cons.mpr ⟨lw_p33, List.forall_mem_cons.mpr ⟨lw_p34, List.forall_mem_cons.mpr ⟨lw_p35, List.forall_mem_cons.mpr ⟨lw_p36, List.forall_mem_cons.mpr ⟨lw_p37, List.forall_mem_cons.mpr ⟨lw_p38, List.forall_mem_cons.mpr ⟨lw_p39, List.forall_mem_cons.mpr ⟨lw_p40, List.forall_mem_cons.mpr ⟨lw_p41, List.forall_mem_cons.mpr ⟨lw_p42, List.forall_mem_cons.mpr ⟨lw_p43, List.forall_mem_cons.mpr ⟨lw_p44, List.forall_mem_cons.mpr ⟨lw_p45, fun _ h => absurd h List.not_mem_nil⟩⟩⟩⟩⟩⟩⟩⟩⟩⟩⟩⟩⟩⟩
def lw_privs : List (MethodName × Nat) := lw_privs_1 ++ (lw_privs_2 ++ (lw_privs_3))
def lw_tbl : List Cond := k2_sels lw_privs ++ tables_1
theorem lw_privs_ok : ∀ q ∈ lw_privs, lw_okq q := by
  show ∀ q ∈ lw_privs_1 ++ (lw_privs_2 ++ (lw_privs_3)), lw_okq q
  exact List.forall_mem_append.mpr ⟨lw_r1, List.forall_mem_append.mpr ⟨lw_r2, lw_r3⟩⟩
/-- the streams that the claim lets the run draw from -/
abbrev lw_cs : List Choice := [Jvm.Choice.named "NaN.bits"]
theorem lw_bits : nanBits ∈ lw_cs := by first | decide | exact List.mem_cons_self | simp [lw_cs, nanBits]
end
section
/-! ===== BEGIN words of one list among another's, by their places ===== -/
theorem goodIn_r {big : List Cond} (ws : List Cond) (ps : List Nat) (hp : ws = ps.filterMap (fun i => big[i]?)) (h : ws.all goodWord = true) : GoodIn big ws := by
  intro w hw
  have h1 := List.all_eq_true.mp h w hw
  rw [hp] at hw
  obtain ⟨i, -, hi⟩ := List.mem_filterMap.mp hw
  have hm : w ∈ big := by first | exact List.mem_of_getElem? hi | exact List.getElem?_mem hi
  exact ⟨hm, good_of_word h1⟩
theorem goodIn_app {big a b : List Cond} (ha : GoodIn big a) (hb : GoodIn big b) : GoodIn big (a ++ b) := fun w h => (List.mem_append.mp h).elim (ha w) (hb w)
theorem goodIn_ca {big a b : List Cond} {c : Cond} (ha : GoodIn big (c :: a)) (hb : GoodIn big b) : GoodIn big (c :: (a ++ b)) := fun w h => (List.mem_cons.mp h).elim (fun e => ha w (List.mem_cons.mpr (Or.inl e))) (fun h => (List.mem_append.mp h).elim (fun h => ha w (List.mem_cons.mpr (Or.inr h))) (hb w))
theorem goodIn_sub {big ws : List Cond} (hm : ∀ w ∈ ws, w ∈ big) (h : ws.all goodWord = true) : GoodIn big ws := fun w hw => ⟨hm w hw, good_of_word (List.all_eq_true.mp h w hw)⟩
/-! ===== END ===== -/

/-! ===== BEGIN printed: names, fields, word lists, decode rows ===== -/
def RX0 : String := "AdmissionControl$History"
def TX0 : u_T := fun k => match k with
  | 0 => ("AdmissionControl$History", "newest", "LAdmissionControl$Server;", false)
  | 1 => ("AdmissionControl$History", "second", "LAdmissionControl$Server;", false)
  | 2 => ("AdmissionControl$History", "third", "LAdmissionControl$Server;", false)
  | 3 => ("AdmissionControl$History", "oldest", "LAdmissionControl$Server;", false)
  | _ => ("AdmissionControl$History", "states", "I", false)
def tyX0 : Nat → FieldType := fun k => match k with
  | 0 => .object "AdmissionControl$Server"
  | 1 => .object "AdmissionControl$Server"
  | 2 => .object "AdmissionControl$Server"
  | 3 => .object "AdmissionControl$Server"
  | _ => .int
abbrev wsX00 : List Cond := u_ws RX0 TX0 5
theorem nmX0 : ∀ a, a < 5 → ∀ b, b < 5 → a ≠ b → (TX0 a).2.1 ≠ (TX0 b).2.1 := by decide +kernel
theorem tyX0_ok : ∀ k, k < 5 → parseFieldDescriptor (TX0 k).2.2.1 = some (tyX0 k) := by decide +kernel
abbrev cX0_init : ByteArray := prog_2_method_1_code
def yX0_init : MethodName := ⟨RX0, "<init>", "()V"⟩
abbrev cX0_keep : ByteArray := prog_2_method_2_code
def yX0_keep : MethodName := ⟨RX0, "keep", "(LAdmissionControl$Server;)V"⟩
abbrev cX0_restore : ByteArray := prog_2_method_3_code
def yX0_restore : MethodName := ⟨RX0, "restore", "(LAdmissionControl$Server;)V"⟩
def RX1 : String := "AdmissionControl$Lane"
def TX1 : u_T := fun k => match k with
  | 0 => ("AdmissionControl$Lane", "settings", "LAdmissionControl$Row;", true)
  | 1 => ("AdmissionControl$Lane", "refusals", "LAdmissionControl$Row;", true)
  | 2 => ("AdmissionControl$Lane", "queue", "LAdmissionControl$Row;", true)
  | 3 => ("AdmissionControl$Lane", "length", "I", false)
  | 4 => ("AdmissionControl$Lane", "tokens", "I", false)
  | 5 => ("AdmissionControl$Lane", "pass", "I", false)
  | _ => ("AdmissionControl$Lane", "units", "I", false)
def tyX1 : Nat → FieldType := fun k => match k with
  | 0 => .object "AdmissionControl$Row"
  | 1 => .object "AdmissionControl$Row"
  | 2 => .object "AdmissionControl$Row"
  | 3 => .int
  | 4 => .int
  | 5 => .int
  | _ => .int
abbrev wsX10 : List Cond := u_ws RX1 TX1 7
theorem nmX1 : ∀ a, a < 7 → ∀ b, b < 7 → a ≠ b → (TX1 a).2.1 ≠ (TX1 b).2.1 := by decide +kernel
theorem tyX1_ok : ∀ k, k < 7 → parseFieldDescriptor (TX1 k).2.2.1 = some (tyX1 k) := by decide +kernel
abbrev cX1_init : ByteArray := prog_3_method_1_code
def yX1_init : MethodName := ⟨RX1, "<init>", "()V"⟩
abbrev cX1_gain : ByteArray := prog_3_method_2_code
def yX1_gain : MethodName := ⟨RX1, "gain", "(I)V"⟩
abbrev cX1_join : ByteArray := prog_3_method_3_code
def yX1_join : MethodName := ⟨RX1, "join", "(I)V"⟩
abbrev cX1_leave : ByteArray := prog_3_method_4_code
def yX1_leave : MethodName := ⟨RX1, "leave", "(I)V"⟩
abbrev cX1_copyFrom : ByteArray := prog_3_method_5_code
def yX1_copyFrom : MethodName := ⟨RX1, "copyFrom", "(LAdmissionControl$Lane;)V"⟩
def RX2 : String := "AdmissionControl$Request"
def TX2 : u_T := fun k => match k with
  | 0 => ("AdmissionControl$Request", "number", "I", true)
  | 1 => ("AdmissionControl$Request", "kind", "I", false)
  | 2 => ("AdmissionControl$Request", "shape", "I", false)
  | 3 => ("AdmissionControl$Request", "cost", "I", false)
  | 4 => ("AdmissionControl$Request", "state", "I", false)
  | 5 => ("AdmissionControl$Request", "price", "I", false)
  | 6 => ("AdmissionControl$Request", "units", "I", false)
  | 7 => ("AdmissionControl$Request", "offers", "I", false)
  | 8 => ("AdmissionControl$Request", "reason", "I", false)
  | 9 => ("AdmissionControl$Request", "admitted", "I", false)
  | _ => ("AdmissionControl$Request", "tick", "I", false)
def tyX2 : Nat → FieldType := fun k => match k with
  | 0 => .int
  | 1 => .int
  | 2 => .int
  | 3 => .int
  | 4 => .int
  | 5 => .int
  | 6 => .int
  | 7 => .int
  | 8 => .int
  | 9 => .int
  | _ => .int
abbrev wsX20 : List Cond := u_ws RX2 TX2 11
theorem nmX2 : ∀ a, a < 11 → ∀ b, b < 11 → a ≠ b → (TX2 a).2.1 ≠ (TX2 b).2.1 := by decide +kernel
theorem tyX2_ok : ∀ k, k < 11 → parseFieldDescriptor (TX2 k).2.2.1 = some (tyX2 k) := by decide +kernel
abbrev cX2_init : ByteArray := prog_4_method_1_code
def yX2_init : MethodName := ⟨RX2, "<init>", "(I)V"⟩
abbrev cX2_begin : ByteArray := prog_4_method_2_code
def yX2_begin : MethodName := ⟨RX2, "begin", "(III)V"⟩
abbrev cX2_isSettled : ByteArray := prog_4_method_3_code
def yX2_isSettled : MethodName := ⟨RX2, "isSettled", "()Z"⟩
abbrev cX2_copyFrom : ByteArray := prog_4_method_4_code
def yX2_copyFrom : MethodName := ⟨RX2, "copyFrom", "(LAdmissionControl$Request;)V"⟩
def RX3 : String := "AdmissionControl$Row"
def TX3 : u_T := fun k => match k with
  | _ => ("AdmissionControl$Row", "cells", "[I", true)
def tyX3 : Nat → FieldType := fun k => match k with
  | _ => .array .int
abbrev wsX30 : List Cond := u_ws RX3 TX3 1
theorem nmX3 : ∀ a, a < 1 → ∀ b, b < 1 → a ≠ b → (TX3 a).2.1 ≠ (TX3 b).2.1 := by decide +kernel
theorem tyX3_ok : ∀ k, k < 1 → parseFieldDescriptor (TX3 k).2.2.1 = some (tyX3 k) := by decide +kernel
abbrev cX3_init : ByteArray := prog_5_method_1_code
def yX3_init : MethodName := ⟨RX3, "<init>", "(I)V"⟩
abbrev cX3_at : ByteArray := prog_5_method_2_code
def yX3_at : MethodName := ⟨RX3, "at", "(I)I"⟩
abbrev cX3_put : ByteArray := prog_5_method_3_code
def yX3_put : MethodName := ⟨RX3, "put", "(II)V"⟩
abbrev cX3_copyFrom : ByteArray := prog_5_method_4_code
def yX3_copyFrom : MethodName := ⟨RX3, "copyFrom", "(LAdmissionControl$Row;)V"⟩
def RX4 : String := "AdmissionControl$Server"
def TX4 : u_T := fun k => match k with
  | 0 => ("AdmissionControl$Server", "settings", "LAdmissionControl$Row;", true)
  | 1 => ("AdmissionControl$Server", "estimates", "LAdmissionControl$Row;", true)
  | 2 => ("AdmissionControl$Server", "lane0", "LAdmissionControl$Lane;", true)
  | 3 => ("AdmissionControl$Server", "lane1", "LAdmissionControl$Lane;", true)
  | 4 => ("AdmissionControl$Server", "lane2", "LAdmissionControl$Lane;", true)
  | 5 => ("AdmissionControl$Server", "slots", "[LAdmissionControl$Request;", true)
  | 6 => ("AdmissionControl$Server", "count", "I", false)
  | 7 => ("AdmissionControl$Server", "open", "I", false)
  | 8 => ("AdmissionControl$Server", "rejected", "I", false)
  | 9 => ("AdmissionControl$Server", "clock", "I", false)
  | _ => ("AdmissionControl$Server", "idle", "I", false)
def tyX4 : Nat → FieldType := fun k => match k with
  | 0 => .object "AdmissionControl$Row"
  | 1 => .object "AdmissionControl$Row"
  | 2 => .object "AdmissionControl$Lane"
  | 3 => .object "AdmissionControl$Lane"
  | 4 => .object "AdmissionControl$Lane"
  | 5 => .array (.object "AdmissionControl$Request")
  | 6 => .int
  | 7 => .int
  | 8 => .int
  | 9 => .int
  | _ => .int
abbrev wsX40 : List Cond := u_ws RX4 TX4 11
theorem nmX4 : ∀ a, a < 11 → ∀ b, b < 11 → a ≠ b → (TX4 a).2.1 ≠ (TX4 b).2.1 := by decide +kernel
theorem tyX4_ok : ∀ k, k < 11 → parseFieldDescriptor (TX4 k).2.2.1 = some (tyX4 k) := by decide +kernel
abbrev cX4_init : ByteArray := prog_6_method_1_code
def yX4_init : MethodName := ⟨RX4, "<init>", "()V"⟩
abbrev cX4_copyFrom : ByteArray := prog_6_method_2_code
def yX4_copyFrom : MethodName := ⟨RX4, "copyFrom", "(LAdmissionControl$Server;)V"⟩
abbrev cX4_lane : ByteArray := prog_6_method_3_code
def yX4_lane : MethodName := ⟨RX4, "lane", "(I)LAdmissionControl$Lane;"⟩
abbrev cX4_find : ByteArray := prog_6_method_4_code
def yX4_find : MethodName := ⟨RX4, "find", "(I)LAdmissionControl$Request;"⟩
abbrev cX4_errorOfOffer : ByteArray := prog_6_method_5_code
def yX4_errorOfOffer : MethodName := ⟨RX4, "errorOfOffer", "(III)I"⟩
abbrev cX4_errorOfTicks : ByteArray := prog_6_method_6_code
def yX4_errorOfTicks : MethodName := ⟨RX4, "errorOfTicks", "(I)I"⟩
abbrev cX4_offerNew : ByteArray := prog_6_method_7_code
def yX4_offerNew : MethodName := ⟨RX4, "offerNew", "(III)I"⟩
abbrev cX4_letPass : ByteArray := prog_6_method_8_code
def yX4_letPass : MethodName := ⟨RX4, "letPass", "(I)I"⟩
abbrev cX4_expectedCost : ByteArray := prog_6_method_9_code
def yX4_expectedCost : MethodName := ⟨RX4, "expectedCost", "(I)I"⟩
abbrev cX4_backlogOf : ByteArray := prog_6_method_10_code
def yX4_backlogOf : MethodName := ⟨RX4, "backlogOf", "(LAdmissionControl$Lane;)I"⟩
abbrev cX4_firstRefusal : ByteArray := prog_6_method_11_code
def yX4_firstRefusal : MethodName := ⟨RX4, "firstRefusal", "(LAdmissionControl$Lane;I)I"⟩
abbrev cX4_offerNow : ByteArray := prog_6_method_12_code
def yX4_offerNow : MethodName := ⟨RX4, "offerNow", "(LAdmissionControl$Request;)I"⟩
abbrev cX4_admit : ByteArray := prog_6_method_13_code
def yX4_admit : MethodName := ⟨RX4, "admit", "(LAdmissionControl$Request;)V"⟩
abbrev cX4_catchUp : ByteArray := prog_6_method_14_code
def yX4_catchUp : MethodName := ⟨RX4, "catchUp", "(I)V"⟩
abbrev cX4_refuse : ByteArray := prog_6_method_15_code
def yX4_refuse : MethodName := ⟨RX4, "refuse", "(LAdmissionControl$Request;I)V"⟩
abbrev cX4_tick : ByteArray := prog_6_method_16_code
def yX4_tick : MethodName := ⟨RX4, "tick", "()I"⟩
abbrev cX4_refuseThoseWhoWaited : ByteArray := prog_6_method_17_code
def yX4_refuseThoseWhoWaited : MethodName := ⟨RX4, "refuseThoseWhoWaited", "(LAdmissionControl$Lane;)V"⟩
abbrev cX4_hasWaitedTooLong : ByteArray := prog_6_method_18_code
def yX4_hasWaitedTooLong : MethodName := ⟨RX4, "hasWaitedTooLong", "(LAdmissionControl$Request;)Z"⟩
abbrev cX4_workOneUnit : ByteArray := prog_6_method_19_code
def yX4_workOneUnit : MethodName := ⟨RX4, "workOneUnit", "()I"⟩
abbrev cX4_nextLane : ByteArray := prog_6_method_20_code
def yX4_nextLane : MethodName := ⟨RX4, "nextLane", "()LAdmissionControl$Lane;"⟩
abbrev cX4_complete : ByteArray := prog_6_method_21_code
def yX4_complete : MethodName := ⟨RX4, "complete", "(LAdmissionControl$Lane;LAdmissionControl$Request;)V"⟩
def RX5 : String := "AdmissionControl$Text"
def TX5 : u_T := fun k => match k with
  | 0 => ("AdmissionControl$Text", "characters", "LAdmissionControl$Row;", true)
  | _ => ("AdmissionControl$Text", "length", "I", false)
def tyX5 : Nat → FieldType := fun k => match k with
  | 0 => .object "AdmissionControl$Row"
  | _ => .int
abbrev wsX50 : List Cond := u_ws RX5 TX5 2
theorem nmX5 : ∀ a, a < 2 → ∀ b, b < 2 → a ≠ b → (TX5 a).2.1 ≠ (TX5 b).2.1 := by decide +kernel
theorem tyX5_ok : ∀ k, k < 2 → parseFieldDescriptor (TX5 k).2.2.1 = some (tyX5 k) := by decide +kernel
abbrev cX5_init : ByteArray := prog_7_method_1_code
def yX5_init : MethodName := ⟨RX5, "<init>", "()V"⟩
abbrev cX5_add : ByteArray := prog_7_method_2_code
def yX5_add : MethodName := ⟨RX5, "add", "(I)V"⟩
abbrev cX5_firstFault : ByteArray := prog_7_method_3_code
def yX5_firstFault : MethodName := ⟨RX5, "firstFault", "()I"⟩
abbrev cX5_expectedAfter : ByteArray := prog_7_method_4_code
def yX5_expectedAfter : MethodName := ⟨RX5, "expectedAfter", "(II)I"⟩
abbrev cX5_expectedAfterFirstOfCost : ByteArray := prog_7_method_5_code
def yX5_expectedAfterFirstOfCost : MethodName := ⟨RX5, "expectedAfterFirstOfCost", "(I)I"⟩
abbrev cX5_expectedAfterNumber : ByteArray := prog_7_method_6_code
def yX5_expectedAfterNumber : MethodName := ⟨RX5, "expectedAfterNumber", "(II)I"⟩
abbrev cX5_startsStep : ByteArray := prog_7_method_7_code
def yX5_startsStep : MethodName := ⟨RX5, "startsStep", "(I)Z"⟩
abbrev cX5_numberAt : ByteArray := prog_7_method_8_code
def yX5_numberAt : MethodName := ⟨RX5, "numberAt", "(I)I"⟩
def RX6 : String := "AdmissionControl"
def TX6 : u_T := fun k => match k with
  | 0 => ("AdmissionControl", "server", "LAdmissionControl$Server;", true)
  | 1 => ("AdmissionControl", "trial", "LAdmissionControl$Server;", true)
  | 2 => ("AdmissionControl", "history", "LAdmissionControl$History;", true)
  | _ => ("AdmissionControl", "text", "LAdmissionControl$Text;", true)
def tyX6 : Nat → FieldType := fun k => match k with
  | 0 => .object "AdmissionControl$Server"
  | 1 => .object "AdmissionControl$Server"
  | 2 => .object "AdmissionControl$History"
  | _ => .object "AdmissionControl$Text"
abbrev wsX60 : List Cond := u_ws RX6 TX6 4
theorem nmX6 : ∀ a, a < 4 → ∀ b, b < 4 → a ≠ b → (TX6 a).2.1 ≠ (TX6 b).2.1 := by decide +kernel
theorem tyX6_ok : ∀ k, k < 4 → parseFieldDescriptor (TX6 k).2.2.1 = some (tyX6 k) := by decide +kernel
abbrev cX6_init : ByteArray := prog_1_method_1_code
def yX6_init : MethodName := ⟨RX6, "<init>", "()V"⟩
abbrev cX6_set : ByteArray := prog_1_method_2_code
def yX6_set : MethodName := ⟨RX6, "set", "(II)I"⟩
abbrev cX6_setClass : ByteArray := prog_1_method_3_code
def yX6_setClass : MethodName := ⟨RX6, "setClass", "(III)I"⟩
abbrev cX6_offer : ByteArray := prog_1_method_4_code
def yX6_offer : MethodName := ⟨RX6, "offer", "(III)I"⟩
abbrev cX6_advance : ByteArray := prog_1_method_5_code
def yX6_advance : MethodName := ⟨RX6, "advance", "(I)I"⟩
abbrev cX6_append : ByteArray := prog_1_method_6_code
def yX6_append : MethodName := ⟨RX6, "append", "(I)I"⟩
abbrev cX6_clearText : ByteArray := prog_1_method_7_code
def yX6_clearText : MethodName := ⟨RX6, "clearText", "()I"⟩
abbrev cX6_fault : ByteArray := prog_1_method_8_code
def yX6_fault : MethodName := ⟨RX6, "fault", "()I"⟩
abbrev cX6_run : ByteArray := prog_1_method_9_code
def yX6_run : MethodName := ⟨RX6, "run", "()I"⟩
abbrev cX6_undo : ByteArray := prog_1_method_10_code
def yX6_undo : MethodName := ⟨RX6, "undo", "()I"⟩
abbrev cX6_setting : ByteArray := prog_1_method_11_code
def yX6_setting : MethodName := ⟨RX6, "setting", "(I)I"⟩
abbrev cX6_classSetting : ByteArray := prog_1_method_12_code
def yX6_classSetting : MethodName := ⟨RX6, "classSetting", "(II)I"⟩
abbrev cX6_clock : ByteArray := prog_1_method_13_code
def yX6_clock : MethodName := ⟨RX6, "clock", "()I"⟩
abbrev cX6_estimate : ByteArray := prog_1_method_14_code
def yX6_estimate : MethodName := ⟨RX6, "estimate", "(I)I"⟩
abbrev cX6_tokens : ByteArray := prog_1_method_15_code
def yX6_tokens : MethodName := ⟨RX6, "tokens", "(I)I"⟩
abbrev cX6_pass : ByteArray := prog_1_method_16_code
def yX6_pass : MethodName := ⟨RX6, "pass", "(I)I"⟩
abbrev cX6_queued : ByteArray := prog_1_method_17_code
def yX6_queued : MethodName := ⟨RX6, "queued", "(I)I"⟩
abbrev cX6_queuedAt : ByteArray := prog_1_method_18_code
def yX6_queuedAt : MethodName := ⟨RX6, "queuedAt", "(II)I"⟩
abbrev cX6_backlog : ByteArray := prog_1_method_19_code
def yX6_backlog : MethodName := ⟨RX6, "backlog", "(I)I"⟩
abbrev cX6_worked : ByteArray := prog_1_method_20_code
def yX6_worked : MethodName := ⟨RX6, "worked", "(I)I"⟩
abbrev cX6_refused : ByteArray := prog_1_method_21_code
def yX6_refused : MethodName := ⟨RX6, "refused", "(II)I"⟩
abbrev cX6_idle : ByteArray := prog_1_method_22_code
def yX6_idle : MethodName := ⟨RX6, "idle", "()I"⟩
abbrev cX6_workShare : ByteArray := prog_1_method_23_code
def yX6_workShare : MethodName := ⟨RX6, "workShare", "(I)F"⟩
abbrev cX6_requests : ByteArray := prog_1_method_24_code
def yX6_requests : MethodName := ⟨RX6, "requests", "()I"⟩
abbrev cX6_state : ByteArray := prog_1_method_25_code
def yX6_state : MethodName := ⟨RX6, "state", "(I)I"⟩
abbrev cX6_price : ByteArray := prog_1_method_26_code
def yX6_price : MethodName := ⟨RX6, "price", "(I)I"⟩
abbrev cX6_done : ByteArray := prog_1_method_27_code
def yX6_done : MethodName := ⟨RX6, "done", "(I)I"⟩
abbrev cX6_offers : ByteArray := prog_1_method_28_code
def yX6_offers : MethodName := ⟨RX6, "offers", "(I)I"⟩
abbrev cX6_reason : ByteArray := prog_1_method_29_code
def yX6_reason : MethodName := ⟨RX6, "reason", "(I)I"⟩
abbrev cX6_when : ByteArray := prog_1_method_30_code
def yX6_when : MethodName := ⟨RX6, "when", "(I)I"⟩
abbrev cX6_wouldRefuse : ByteArray := prog_1_method_31_code
def yX6_wouldRefuse : MethodName := ⟨RX6, "wouldRefuse", "(II)I"⟩
abbrev cX6_ticksLeft : ByteArray := prog_1_method_32_code
def yX6_ticksLeft : MethodName := ⟨RX6, "ticksLeft", "()I"⟩
abbrev cX6_ticksIf : ByteArray := prog_1_method_33_code
def yX6_ticksIf : MethodName := ⟨RX6, "ticksIf", "(I)I"⟩
abbrev cX6_leastCapacity : ByteArray := prog_1_method_34_code
def yX6_leastCapacity : MethodName := ⟨RX6, "leastCapacity", "()I"⟩
abbrev cX6_finish : ByteArray := prog_1_method_35_code
def yX6_finish : MethodName := ⟨RX6, "finish", "(I)I"⟩
abbrev cX6_isKind : ByteArray := prog_1_method_36_code
def yX6_isKind : MethodName := ⟨RX6, "isKind", "(I)Z"⟩
abbrev cX6_isShape : ByteArray := prog_1_method_37_code
def yX6_isShape : MethodName := ⟨RX6, "isShape", "(I)Z"⟩
abbrev cX6_isSetting : ByteArray := prog_1_method_38_code
def yX6_isSetting : MethodName := ⟨RX6, "isSetting", "(I)Z"⟩
abbrev cX6_isBetween : ByteArray := prog_1_method_39_code
def yX6_isBetween : MethodName := ⟨RX6, "isBetween", "(III)Z"⟩
abbrev cX6_isServerValue : ByteArray := prog_1_method_40_code
def yX6_isServerValue : MethodName := ⟨RX6, "isServerValue", "(II)Z"⟩
abbrev cX6_isClassValue : ByteArray := prog_1_method_41_code
def yX6_isClassValue : MethodName := ⟨RX6, "isClassValue", "(II)Z"⟩
abbrev cX6_quotient : ByteArray := prog_1_method_42_code
def yX6_quotient : MethodName := ⟨RX6, "quotient", "(II)I"⟩
abbrev cX6_takeStep : ByteArray := prog_1_method_43_code
def yX6_takeStep : MethodName := ⟨RX6, "takeStep", "(I)Z"⟩
abbrev cX6_beginTrial : ByteArray := prog_1_method_44_code
def yX6_beginTrial : MethodName := ⟨RX6, "beginTrial", "(I)V"⟩
abbrev cX6_ticksOfTrial : ByteArray := prog_1_method_45_code
def yX6_ticksOfTrial : MethodName := ⟨RX6, "ticksOfTrial", "(I)I"⟩
abbrev cX6_trialEndsWithoutRejection : ByteArray := prog_1_method_46_code
def yX6_trialEndsWithoutRejection : MethodName := ⟨RX6, "trialEndsWithoutRejection", "(I)Z"⟩
def RX7 : String := "AdmissionControlModel"
def TX7 : u_T := fun k => match k with
  | 0 => ("AdmissionControlModel", "z", "[I", true)
  | 1 => ("AdmissionControlModel", "aside", "[I", true)
  | 2 => ("AdmissionControlModel", "history", "[I", true)
  | 3 => ("AdmissionControlModel", "states", "I", false)
  | 4 => ("AdmissionControlModel", "text", "[I", true)
  | 5 => ("AdmissionControlModel", "length", "I", false)
  | 6 => ("AdmissionControlModel", "kindRead", "I", false)
  | 7 => ("AdmissionControlModel", "shapeRead", "I", false)
  | _ => ("AdmissionControlModel", "numberRead", "I", false)
def tyX7 : Nat → FieldType := fun k => match k with
  | 0 => .array .int
  | 1 => .array .int
  | 2 => .array .int
  | 3 => .int
  | 4 => .array .int
  | 5 => .int
  | 6 => .int
  | 7 => .int
  | _ => .int
abbrev wsX70 : List Cond := u_ws RX7 TX7 9
theorem nmX7 : ∀ a, a < 9 → ∀ b, b < 9 → a ≠ b → (TX7 a).2.1 ≠ (TX7 b).2.1 := by decide +kernel
theorem tyX7_ok : ∀ k, k < 9 → parseFieldDescriptor (TX7 k).2.2.1 = some (tyX7 k) := by decide +kernel
abbrev cX7_init : ByteArray := prog_9_method_1_code
def yX7_init : MethodName := ⟨RX7, "<init>", "()V"⟩
abbrev cX7_in : ByteArray := prog_9_method_3_code
def yX7_in : MethodName := ⟨RX7, "in", "(III)Z"⟩
abbrev cX7_isClass : ByteArray := prog_9_method_4_code
def yX7_isClass : MethodName := ⟨RX7, "isClass", "(I)Z"⟩
abbrev cX7_isShape : ByteArray := prog_9_method_5_code
def yX7_isShape : MethodName := ⟨RX7, "isShape", "(I)Z"⟩
abbrev cX7_isRequest : ByteArray := prog_9_method_6_code
def yX7_isRequest : MethodName := ⟨RX7, "isRequest", "(I)Z"⟩
abbrev cX7_ofClass : ByteArray := prog_9_method_7_code
def yX7_ofClass : MethodName := ⟨RX7, "ofClass", "(II)I"⟩
abbrev cX7_of : ByteArray := prog_9_method_8_code
def yX7_of : MethodName := ⟨RX7, "of", "(II)I"⟩
abbrev cX7_put : ByteArray := prog_9_method_9_code
def yX7_put : MethodName := ⟨RX7, "put", "(III)V"⟩
abbrev cX7_inQueue : ByteArray := prog_9_method_10_code
def yX7_inQueue : MethodName := ⟨RX7, "inQueue", "(II)I"⟩
abbrev cX7_record : ByteArray := prog_9_method_11_code
def yX7_record : MethodName := ⟨RX7, "record", "()V"⟩
abbrev cX7_undo : ByteArray := prog_9_method_12_code
def yX7_undo : MethodName := ⟨RX7, "undo", "()I"⟩
abbrev cX7_putAside : ByteArray := prog_9_method_13_code
def yX7_putAside : MethodName := ⟨RX7, "putAside", "()V"⟩
abbrev cX7_putBack : ByteArray := prog_9_method_14_code
def yX7_putBack : MethodName := ⟨RX7, "putBack", "()V"⟩
abbrev cX7_expectedCost : ByteArray := prog_9_method_15_code
def yX7_expectedCost : MethodName := ⟨RX7, "expectedCost", "(I)I"⟩
abbrev cX7_backlogOf : ByteArray := prog_9_method_16_code
def yX7_backlogOf : MethodName := ⟨RX7, "backlogOf", "(I)I"⟩
abbrev cX7_whyRefused : ByteArray := prog_9_method_17_code
def yX7_whyRefused : MethodName := ⟨RX7, "whyRefused", "(II)I"⟩
abbrev cX7_addTokens : ByteArray := prog_9_method_18_code
def yX7_addTokens : MethodName := ⟨RX7, "addTokens", "(II)V"⟩
abbrev cX7_refuse : ByteArray := prog_9_method_19_code
def yX7_refuse : MethodName := ⟨RX7, "refuse", "(II)V"⟩
abbrev cX7_admit : ByteArray := prog_9_method_20_code
def yX7_admit : MethodName := ⟨RX7, "admit", "(I)V"⟩
abbrev cX7_offerNow : ByteArray := prog_9_method_21_code
def yX7_offerNow : MethodName := ⟨RX7, "offerNow", "(I)I"⟩
abbrev cX7_leaveQueue : ByteArray := prog_9_method_22_code
def yX7_leaveQueue : MethodName := ⟨RX7, "leaveQueue", "(II)V"⟩
abbrev cX7_refuseLate : ByteArray := prog_9_method_23_code
def yX7_refuseLate : MethodName := ⟨RX7, "refuseLate", "(I)V"⟩
abbrev cX7_nextClass : ByteArray := prog_9_method_24_code
def yX7_nextClass : MethodName := ⟨RX7, "nextClass", "()I"⟩
abbrev cX7_work : ByteArray := prog_9_method_25_code
def yX7_work : MethodName := ⟨RX7, "work", "(I)Z"⟩
abbrev cX7_tick : ByteArray := prog_9_method_26_code
def yX7_tick : MethodName := ⟨RX7, "tick", "()I"⟩
abbrev cX7_lowest : ByteArray := prog_9_method_27_code
def yX7_lowest : MethodName := ⟨RX7, "lowest", "(I)I"⟩
abbrev cX7_highest : ByteArray := prog_9_method_28_code
def yX7_highest : MethodName := ⟨RX7, "highest", "(I)I"⟩
abbrev cX7_set : ByteArray := prog_9_method_29_code
def yX7_set : MethodName := ⟨RX7, "set", "(II)I"⟩
abbrev cX7_highestOfClass : ByteArray := prog_9_method_30_code
def yX7_highestOfClass : MethodName := ⟨RX7, "highestOfClass", "(I)I"⟩
abbrev cX7_setClass : ByteArray := prog_9_method_31_code
def yX7_setClass : MethodName := ⟨RX7, "setClass", "(III)I"⟩
abbrev cX7_noOffer : ByteArray := prog_9_method_32_code
def yX7_noOffer : MethodName := ⟨RX7, "noOffer", "(III)I"⟩
abbrev cX7_doOffer : ByteArray := prog_9_method_33_code
def yX7_doOffer : MethodName := ⟨RX7, "doOffer", "(III)I"⟩
abbrev cX7_offer : ByteArray := prog_9_method_34_code
def yX7_offer : MethodName := ⟨RX7, "offer", "(III)I"⟩
abbrev cX7_noAdvance : ByteArray := prog_9_method_35_code
def yX7_noAdvance : MethodName := ⟨RX7, "noAdvance", "(I)I"⟩
abbrev cX7_doAdvance : ByteArray := prog_9_method_36_code
def yX7_doAdvance : MethodName := ⟨RX7, "doAdvance", "(I)I"⟩
abbrev cX7_advance : ByteArray := prog_9_method_37_code
def yX7_advance : MethodName := ⟨RX7, "advance", "(I)I"⟩
abbrev cX7_append : ByteArray := prog_9_method_38_code
def yX7_append : MethodName := ⟨RX7, "append", "(I)I"⟩
abbrev cX7_clearText : ByteArray := prog_9_method_39_code
def yX7_clearText : MethodName := ⟨RX7, "clearText", "()I"⟩
abbrev cX7_at : ByteArray := prog_9_method_40_code
def yX7_at : MethodName := ⟨RX7, "at", "(I)I"⟩
abbrev cX7_readNumber : ByteArray := prog_9_method_41_code
def yX7_readNumber : MethodName := ⟨RX7, "readNumber", "(II)I"⟩
abbrev cX7_readStep : ByteArray := prog_9_method_42_code
def yX7_readStep : MethodName := ⟨RX7, "readStep", "(I)I"⟩
abbrev cX7_findFault : ByteArray := prog_9_method_43_code
def yX7_findFault : MethodName := ⟨RX7, "findFault", "()I"⟩
abbrev cX7_fault : ByteArray := prog_9_method_44_code
def yX7_fault : MethodName := ⟨RX7, "fault", "()I"⟩
abbrev cX7_run : ByteArray := prog_9_method_45_code
def yX7_run : MethodName := ⟨RX7, "run", "()I"⟩
abbrev cX7_setting : ByteArray := prog_9_method_46_code
def yX7_setting : MethodName := ⟨RX7, "setting", "(I)I"⟩
abbrev cX7_classSetting : ByteArray := prog_9_method_47_code
def yX7_classSetting : MethodName := ⟨RX7, "classSetting", "(II)I"⟩
abbrev cX7_clock : ByteArray := prog_9_method_48_code
def yX7_clock : MethodName := ⟨RX7, "clock", "()I"⟩
abbrev cX7_estimate : ByteArray := prog_9_method_49_code
def yX7_estimate : MethodName := ⟨RX7, "estimate", "(I)I"⟩
abbrev cX7_tokens : ByteArray := prog_9_method_50_code
def yX7_tokens : MethodName := ⟨RX7, "tokens", "(I)I"⟩
abbrev cX7_pass : ByteArray := prog_9_method_51_code
def yX7_pass : MethodName := ⟨RX7, "pass", "(I)I"⟩
abbrev cX7_queued : ByteArray := prog_9_method_52_code
def yX7_queued : MethodName := ⟨RX7, "queued", "(I)I"⟩
abbrev cX7_queuedAt : ByteArray := prog_9_method_53_code
def yX7_queuedAt : MethodName := ⟨RX7, "queuedAt", "(II)I"⟩
abbrev cX7_backlog : ByteArray := prog_9_method_54_code
def yX7_backlog : MethodName := ⟨RX7, "backlog", "(I)I"⟩
abbrev cX7_worked : ByteArray := prog_9_method_55_code
def yX7_worked : MethodName := ⟨RX7, "worked", "(I)I"⟩
abbrev cX7_refused : ByteArray := prog_9_method_56_code
def yX7_refused : MethodName := ⟨RX7, "refused", "(II)I"⟩
abbrev cX7_idle : ByteArray := prog_9_method_57_code
def yX7_idle : MethodName := ⟨RX7, "idle", "()I"⟩
abbrev cX7_workShare : ByteArray := prog_9_method_58_code
def yX7_workShare : MethodName := ⟨RX7, "workShare", "(I)F"⟩
abbrev cX7_requests : ByteArray := prog_9_method_59_code
def yX7_requests : MethodName := ⟨RX7, "requests", "()I"⟩
abbrev cX7_told : ByteArray := prog_9_method_60_code
def yX7_told : MethodName := ⟨RX7, "told", "(II)I"⟩
abbrev cX7_state : ByteArray := prog_9_method_61_code
def yX7_state : MethodName := ⟨RX7, "state", "(I)I"⟩
abbrev cX7_price : ByteArray := prog_9_method_62_code
def yX7_price : MethodName := ⟨RX7, "price", "(I)I"⟩
abbrev cX7_done : ByteArray := prog_9_method_63_code
def yX7_done : MethodName := ⟨RX7, "done", "(I)I"⟩
abbrev cX7_offers : ByteArray := prog_9_method_64_code
def yX7_offers : MethodName := ⟨RX7, "offers", "(I)I"⟩
abbrev cX7_reason : ByteArray := prog_9_method_65_code
def yX7_reason : MethodName := ⟨RX7, "reason", "(I)I"⟩
abbrev cX7_when : ByteArray := prog_9_method_66_code
def yX7_when : MethodName := ⟨RX7, "when", "(I)I"⟩
abbrev cX7_wouldRefuse : ByteArray := prog_9_method_67_code
def yX7_wouldRefuse : MethodName := ⟨RX7, "wouldRefuse", "(II)I"⟩
abbrev cX7_inState : ByteArray := prog_9_method_68_code
def yX7_inState : MethodName := ⟨RX7, "inState", "(I)I"⟩
abbrev cX7_isOver : ByteArray := prog_9_method_69_code
def yX7_isOver : MethodName := ⟨RX7, "isOver", "()Z"⟩
abbrev cX7_ticksToEnd : ByteArray := prog_9_method_70_code
def yX7_ticksToEnd : MethodName := ⟨RX7, "ticksToEnd", "()I"⟩
abbrev cX7_ticksWith : ByteArray := prog_9_method_71_code
def yX7_ticksWith : MethodName := ⟨RX7, "ticksWith", "(I)I"⟩
abbrev cX7_ticksLeft : ByteArray := prog_9_method_72_code
def yX7_ticksLeft : MethodName := ⟨RX7, "ticksLeft", "()I"⟩
abbrev cX7_ticksIf : ByteArray := prog_9_method_73_code
def yX7_ticksIf : MethodName := ⟨RX7, "ticksIf", "(I)I"⟩
abbrev cX7_leastCapacity : ByteArray := prog_9_method_74_code
def yX7_leastCapacity : MethodName := ⟨RX7, "leastCapacity", "()I"⟩
abbrev cX7_finish : ByteArray := prog_9_method_75_code
def yX7_finish : MethodName := ⟨RX7, "finish", "(I)I"⟩
def RJ9 : String := "java/lang/Math"
def TJ9 : u_T := fun k => match k with
  | _ => ("", "", "", false)
def tyJ9 : Nat → FieldType := fun k => match k with
  | _ => .int
abbrev wsJ90 : List Cond := u_ws RJ9 TJ9 0
theorem nmJ9 : ∀ a, a < 0 → ∀ b, b < 0 → a ≠ b → (TJ9 a).2.1 ≠ (TJ9 b).2.1 := by decide +kernel
theorem tyJ9_ok : ∀ k, k < 0 → parseFieldDescriptor (TJ9 k).2.2.1 = some (tyJ9 k) := by decide +kernel
abbrev cJ9_max_7cf53 : ByteArray := prog_10_method_65_code
def yJ9_max_7cf53 : MethodName := ⟨RJ9, "max", "(II)I"⟩
abbrev cJ9_min_7cf53 : ByteArray := prog_10_method_69_code
def yJ9_min_7cf53 : MethodName := ⟨RJ9, "min", "(II)I"⟩
def RL : String := "AdmissionControlLaw"
abbrev cL_law : ByteArray := code
def yL_law : MethodName := ⟨RL, "law", "([I)Z"⟩
def wsX3_init : List Cond := .code yX3_init cX3_init 2 none :: ([.methodLink RX3 1 objectInit, .instanceMethod objectInit, .code objectInit ⟨#[0xb1]⟩ 1 none, .arrayClass .int, .fieldLink RX3 7 "AdmissionControl$Row" "cells" "[I"] ++ wsX30)
def wsX3_put : List Cond := .code yX3_put cX3_put 3 none :: ([.fieldLink RX3 7 "AdmissionControl$Row" "cells" "[I"] ++ wsX30)
def wsX1_init : List Cond := .code yX1_init cX1_init 1 none :: ([.methodLink RX1 3 objectInit, .instanceMethod objectInit, .code objectInit ⟨#[0xb1]⟩ 1 none, .classLink RX1 9 RX3, .instantiable RX3 1, .initialized RX3, .fieldLink RX1 14 "AdmissionControl$Lane" "settings" "LAdmissionControl$Row;", .fieldLink RX1 20 "AdmissionControl$Lane" "refusals" "LAdmissionControl$Row;", .fieldLink RX1 23 "AdmissionControl$Lane" "queue" "LAdmissionControl$Row;", .fieldLink RX1 26 "AdmissionControl$Lane" "length" "I", .fieldLink RX1 30 "AdmissionControl$Lane" "tokens" "I", .fieldLink RX1 33 "AdmissionControl$Lane" "pass" "I", .fieldLink RX1 36 "AdmissionControl$Lane" "units" "I", .methodLink RX1 11 yX3_init, .instanceMethod yX3_init, .code yX3_init cX3_init 2 none, .methodLink RX3 1 objectInit, .arrayClass .int, .fieldLink RX3 7 "AdmissionControl$Row" "cells" "[I", .methodLink RX1 39 yX3_put, .instanceMethod yX3_put, .selects RX3 yX3_put yX3_put, .code yX3_put cX3_put 3 none] ++ wsX30 ++ wsX10)
def wsX2_init : List Cond := .code yX2_init cX2_init 2 none :: ([.methodLink RX2 3 objectInit, .instanceMethod objectInit, .code objectInit ⟨#[0xb1]⟩ 1 none, .fieldLink RX2 9 "AdmissionControl$Request" "number" "I"] ++ wsX20)
def wsX4_init_r1 : List Cond := [Cond.methodLink RX4 3 objectInit, Cond.instanceMethod objectInit, Cond.code objectInit ⟨#[0xb1]⟩ 1 none, Cond.classLink RX4 9 RX3, Cond.instantiable RX3 1, Cond.initialized RX3, Cond.fieldLink RX4 14 "AdmissionControl$Server" "settings" "LAdmissionControl$Row;", Cond.fieldLink RX4 20 "AdmissionControl$Server" "estimates" "LAdmissionControl$Row;", Cond.classLink RX4 23 RX1, Cond.instantiable RX1 7, Cond.initialized RX1, Cond.fieldLink RX4 26 "AdmissionControl$Server" "lane0" "LAdmissionControl$Lane;", Cond.fieldLink RX4 30 "AdmissionControl$Server" "lane1" "LAdmissionControl$Lane;", Cond.fieldLink RX4 33 "AdmissionControl$Server" "lane2" "LAdmissionControl$Lane;", Cond.classLink RX4 36 RX2, Cond.fieldLink RX4 38 "AdmissionControl$Server" "slots" "[LAdmissionControl$Request;", Cond.fieldLink RX4 42 "AdmissionControl$Server" "count" "I", Cond.fieldLink RX4 46 "AdmissionControl$Server" "open" "I", Cond.fieldLink RX4 49 "AdmissionControl$Server" "rejected" "I", Cond.fieldLink RX4 52 "AdmissionControl$Server" "clock" "I", Cond.fieldLink RX4 55 "AdmissionControl$Server" "idle" "I", Cond.instantiable RX2 11, Cond.initialized RX2, Cond.methodLink RX4 11 yX3_init]
def wsX4_init_r2 : List Cond := [Cond.instanceMethod yX3_init, Cond.code yX3_init cX3_init 2 none, Cond.methodLink RX3 1 objectInit, Cond.arrayClass .int, Cond.fieldLink RX3 7 "AdmissionControl$Row" "cells" "[I", Cond.methodLink RX4 25 yX1_init, Cond.instanceMethod yX1_init, Cond.code yX1_init cX1_init 1 none, Cond.methodLink RX1 3 objectInit, Cond.classLink RX1 9 RX3, Cond.fieldLink RX1 14 "AdmissionControl$Lane" "settings" "LAdmissionControl$Row;", Cond.fieldLink RX1 20 "AdmissionControl$Lane" "refusals" "LAdmissionControl$Row;", Cond.fieldLink RX1 23 "AdmissionControl$Lane" "queue" "LAdmissionControl$Row;", Cond.fieldLink RX1 26 "AdmissionControl$Lane" "length" "I", Cond.fieldLink RX1 30 "AdmissionControl$Lane" "tokens" "I", Cond.fieldLink RX1 33 "AdmissionControl$Lane" "pass" "I", Cond.fieldLink RX1 36 "AdmissionControl$Lane" "units" "I", Cond.methodLink RX1 11 yX3_init, Cond.methodLink RX1 39 yX3_put, Cond.instanceMethod yX3_put, Cond.selects RX3 yX3_put yX3_put, Cond.code yX3_put cX3_put 3 none, Cond.methodLink RX4 58 yX3_put, Cond.methodLink RX4 62 yX2_init]
def wsX4_init_r3 : List Cond := [Cond.instanceMethod yX2_init, Cond.code yX2_init cX2_init 2 none, Cond.methodLink RX2 3 objectInit, Cond.fieldLink RX2 9 "AdmissionControl$Request" "number" "I"]
def wsX4_init : List Cond := .code yX4_init cX4_init 2 none :: ((wsX4_init_r1 ++ (wsX4_init_r2 ++ wsX4_init_r3)) ++ wsX30 ++ wsX40 ++ wsX10 ++ wsX20)
def wsX0_init_r1 : List Cond := [Cond.methodLink RX0 3 objectInit, Cond.instanceMethod objectInit, Cond.code objectInit ⟨#[0xb1]⟩ 1 none, Cond.classLink RX0 9 RX4, Cond.instantiable RX4 11, Cond.initialized RX4, Cond.fieldLink RX0 12 "AdmissionControl$History" "newest" "LAdmissionControl$Server;", Cond.fieldLink RX0 18 "AdmissionControl$History" "second" "LAdmissionControl$Server;", Cond.fieldLink RX0 21 "AdmissionControl$History" "third" "LAdmissionControl$Server;", Cond.fieldLink RX0 24 "AdmissionControl$History" "oldest" "LAdmissionControl$Server;", Cond.fieldLink RX0 27 "AdmissionControl$History" "states" "I", Cond.methodLink RX0 11 yX4_init, Cond.instanceMethod yX4_init, Cond.code yX4_init cX4_init 2 none, Cond.methodLink RX4 3 objectInit, Cond.classLink RX4 9 RX3, Cond.instantiable RX3 1, Cond.initialized RX3, Cond.fieldLink RX4 14 "AdmissionControl$Server" "settings" "LAdmissionControl$Row;", Cond.fieldLink RX4 20 "AdmissionControl$Server" "estimates" "LAdmissionControl$Row;", Cond.classLink RX4 23 RX1, Cond.instantiable RX1 7, Cond.initialized RX1, Cond.fieldLink RX4 26 "AdmissionControl$Server" "lane0" "LAdmissionControl$Lane;"]
def wsX0_init_r2 : List Cond := [Cond.fieldLink RX4 30 "AdmissionControl$Server" "lane1" "LAdmissionControl$Lane;", Cond.fieldLink RX4 33 "AdmissionControl$Server" "lane2" "LAdmissionControl$Lane;", Cond.classLink RX4 36 RX2, Cond.fieldLink RX4 38 "AdmissionControl$Server" "slots" "[LAdmissionControl$Request;", Cond.fieldLink RX4 42 "AdmissionControl$Server" "count" "I", Cond.fieldLink RX4 46 "AdmissionControl$Server" "open" "I", Cond.fieldLink RX4 49 "AdmissionControl$Server" "rejected" "I", Cond.fieldLink RX4 52 "AdmissionControl$Server" "clock" "I", Cond.fieldLink RX4 55 "AdmissionControl$Server" "idle" "I", Cond.instantiable RX2 11, Cond.initialized RX2, Cond.methodLink RX4 11 yX3_init, Cond.instanceMethod yX3_init, Cond.code yX3_init cX3_init 2 none, Cond.methodLink RX3 1 objectInit, Cond.arrayClass .int, Cond.fieldLink RX3 7 "AdmissionControl$Row" "cells" "[I", Cond.methodLink RX4 25 yX1_init, Cond.instanceMethod yX1_init, Cond.code yX1_init cX1_init 1 none, Cond.methodLink RX1 3 objectInit, Cond.classLink RX1 9 RX3, Cond.fieldLink RX1 14 "AdmissionControl$Lane" "settings" "LAdmissionControl$Row;", Cond.fieldLink RX1 20 "AdmissionControl$Lane" "refusals" "LAdmissionControl$Row;"]
def wsX0_init_r3 : List Cond := [Cond.fieldLink RX1 23 "AdmissionControl$Lane" "queue" "LAdmissionControl$Row;", Cond.fieldLink RX1 26 "AdmissionControl$Lane" "length" "I", Cond.fieldLink RX1 30 "AdmissionControl$Lane" "tokens" "I", Cond.fieldLink RX1 33 "AdmissionControl$Lane" "pass" "I", Cond.fieldLink RX1 36 "AdmissionControl$Lane" "units" "I", Cond.methodLink RX1 11 yX3_init, Cond.methodLink RX1 39 yX3_put, Cond.instanceMethod yX3_put, Cond.selects RX3 yX3_put yX3_put, Cond.code yX3_put cX3_put 3 none, Cond.methodLink RX4 58 yX3_put, Cond.methodLink RX4 62 yX2_init, Cond.instanceMethod yX2_init, Cond.code yX2_init cX2_init 2 none, Cond.methodLink RX2 3 objectInit, Cond.fieldLink RX2 9 "AdmissionControl$Request" "number" "I"]
def wsX0_init : List Cond := .code yX0_init cX0_init 1 none :: ((wsX0_init_r1 ++ (wsX0_init_r2 ++ wsX0_init_r3)) ++ wsX40 ++ wsX00 ++ wsX30 ++ wsX10 ++ wsX20)
def wsX3_copyFrom : List Cond := .code yX3_copyFrom cX3_copyFrom 3 none :: ([.fieldLink RX3 7 "AdmissionControl$Row" "cells" "[I"] ++ wsX30)
def wsX1_copyFrom : List Cond := .code yX1_copyFrom cX1_copyFrom 2 none :: ([.fieldLink RX1 14 "AdmissionControl$Lane" "settings" "LAdmissionControl$Row;", .fieldLink RX1 20 "AdmissionControl$Lane" "refusals" "LAdmissionControl$Row;", .fieldLink RX1 23 "AdmissionControl$Lane" "queue" "LAdmissionControl$Row;", .fieldLink RX1 26 "AdmissionControl$Lane" "length" "I", .fieldLink RX1 30 "AdmissionControl$Lane" "tokens" "I", .fieldLink RX1 33 "AdmissionControl$Lane" "pass" "I", .fieldLink RX1 36 "AdmissionControl$Lane" "units" "I", .methodLink RX1 53 yX3_copyFrom, .instanceMethod yX3_copyFrom, .selects RX3 yX3_copyFrom yX3_copyFrom, .initialized RX3, .code yX3_copyFrom cX3_copyFrom 3 none, .fieldLink RX3 7 "AdmissionControl$Row" "cells" "[I"] ++ wsX10 ++ wsX30)
def wsX4_find : List Cond := .code yX4_find cX4_find 2 (some (.object "AdmissionControl$Request")) :: ([.fieldLink RX4 42 "AdmissionControl$Server" "count" "I", .fieldLink RX4 38 "AdmissionControl$Server" "slots" "[LAdmissionControl$Request;"] ++ wsX40)
def wsX2_copyFrom : List Cond := .code yX2_copyFrom cX2_copyFrom 2 none :: ([.fieldLink RX2 15 "AdmissionControl$Request" "kind" "I", .fieldLink RX2 18 "AdmissionControl$Request" "shape" "I", .fieldLink RX2 21 "AdmissionControl$Request" "cost" "I", .fieldLink RX2 24 "AdmissionControl$Request" "state" "I", .fieldLink RX2 27 "AdmissionControl$Request" "price" "I", .fieldLink RX2 30 "AdmissionControl$Request" "units" "I", .fieldLink RX2 33 "AdmissionControl$Request" "offers" "I", .fieldLink RX2 36 "AdmissionControl$Request" "reason" "I", .fieldLink RX2 39 "AdmissionControl$Request" "admitted" "I", .fieldLink RX2 42 "AdmissionControl$Request" "tick" "I"] ++ wsX20)
def wsX4_copyFrom_r1 : List Cond := [Cond.fieldLink RX4 14 "AdmissionControl$Server" "settings" "LAdmissionControl$Row;", Cond.fieldLink RX4 20 "AdmissionControl$Server" "estimates" "LAdmissionControl$Row;", Cond.fieldLink RX4 26 "AdmissionControl$Server" "lane0" "LAdmissionControl$Lane;", Cond.fieldLink RX4 30 "AdmissionControl$Server" "lane1" "LAdmissionControl$Lane;", Cond.fieldLink RX4 33 "AdmissionControl$Server" "lane2" "LAdmissionControl$Lane;", Cond.fieldLink RX4 42 "AdmissionControl$Server" "count" "I", Cond.fieldLink RX4 46 "AdmissionControl$Server" "open" "I", Cond.fieldLink RX4 49 "AdmissionControl$Server" "rejected" "I", Cond.fieldLink RX4 52 "AdmissionControl$Server" "clock" "I", Cond.fieldLink RX4 55 "AdmissionControl$Server" "idle" "I", Cond.methodLink RX4 63 yX3_copyFrom, Cond.instanceMethod yX3_copyFrom, Cond.selects RX3 yX3_copyFrom yX3_copyFrom, Cond.initialized RX3, Cond.code yX3_copyFrom cX3_copyFrom 3 none, Cond.fieldLink RX3 7 "AdmissionControl$Row" "cells" "[I", Cond.methodLink RX4 67 yX1_copyFrom, Cond.instanceMethod yX1_copyFrom, Cond.selects RX1 yX1_copyFrom yX1_copyFrom, Cond.initialized RX1, Cond.code yX1_copyFrom cX1_copyFrom 2 none, Cond.fieldLink RX1 14 "AdmissionControl$Lane" "settings" "LAdmissionControl$Row;", Cond.fieldLink RX1 20 "AdmissionControl$Lane" "refusals" "LAdmissionControl$Row;", Cond.fieldLink RX1 23 "AdmissionControl$Lane" "queue" "LAdmissionControl$Row;"]
def wsX4_copyFrom_r2 : List Cond := [Cond.fieldLink RX1 26 "AdmissionControl$Lane" "length" "I", Cond.fieldLink RX1 30 "AdmissionControl$Lane" "tokens" "I", Cond.fieldLink RX1 33 "AdmissionControl$Lane" "pass" "I", Cond.fieldLink RX1 36 "AdmissionControl$Lane" "units" "I", Cond.methodLink RX1 53 yX3_copyFrom, Cond.methodLink RX4 70 yX4_find, Cond.instanceMethod yX4_find, Cond.selects RX4 yX4_find yX4_find, Cond.initialized RX4, Cond.code yX4_find cX4_find 2 (some (.object "AdmissionControl$Request")), Cond.fieldLink RX4 38 "AdmissionControl$Server" "slots" "[LAdmissionControl$Request;", Cond.methodLink RX4 74 yX2_copyFrom, Cond.instanceMethod yX2_copyFrom, Cond.selects RX2 yX2_copyFrom yX2_copyFrom, Cond.initialized RX2, Cond.code yX2_copyFrom cX2_copyFrom 2 none, Cond.fieldLink RX2 15 "AdmissionControl$Request" "kind" "I", Cond.fieldLink RX2 18 "AdmissionControl$Request" "shape" "I", Cond.fieldLink RX2 21 "AdmissionControl$Request" "cost" "I", Cond.fieldLink RX2 24 "AdmissionControl$Request" "state" "I", Cond.fieldLink RX2 27 "AdmissionControl$Request" "price" "I", Cond.fieldLink RX2 30 "AdmissionControl$Request" "units" "I", Cond.fieldLink RX2 33 "AdmissionControl$Request" "offers" "I", Cond.fieldLink RX2 36 "AdmissionControl$Request" "reason" "I"]
def wsX4_copyFrom_r3 : List Cond := [Cond.fieldLink RX2 39 "AdmissionControl$Request" "admitted" "I", Cond.fieldLink RX2 42 "AdmissionControl$Request" "tick" "I"]
def wsX4_copyFrom : List Cond := .code yX4_copyFrom cX4_copyFrom 5 none :: ((wsX4_copyFrom_r1 ++ (wsX4_copyFrom_r2 ++ wsX4_copyFrom_r3)) ++ wsX40 ++ wsX30 ++ wsX10 ++ wsX20)
def wsX0_keep_r1 : List Cond := [Cond.fieldLink RX0 24 "AdmissionControl$History" "oldest" "LAdmissionControl$Server;", Cond.fieldLink RX0 21 "AdmissionControl$History" "third" "LAdmissionControl$Server;", Cond.fieldLink RX0 18 "AdmissionControl$History" "second" "LAdmissionControl$Server;", Cond.fieldLink RX0 12 "AdmissionControl$History" "newest" "LAdmissionControl$Server;", Cond.fieldLink RX0 27 "AdmissionControl$History" "states" "I", Cond.methodLink RX0 35 Lib.Math.min.name, Cond.static Lib.Math.min.name, Cond.initialized "java/lang/Math", Cond.code Lib.Math.min.name Lib.Math.min.code 2 (some .int), Cond.methodLink RX0 31 yX4_copyFrom, Cond.instanceMethod yX4_copyFrom, Cond.selects RX4 yX4_copyFrom yX4_copyFrom, Cond.initialized RX4, Cond.code yX4_copyFrom cX4_copyFrom 5 none, Cond.fieldLink RX4 14 "AdmissionControl$Server" "settings" "LAdmissionControl$Row;", Cond.fieldLink RX4 20 "AdmissionControl$Server" "estimates" "LAdmissionControl$Row;", Cond.fieldLink RX4 26 "AdmissionControl$Server" "lane0" "LAdmissionControl$Lane;", Cond.fieldLink RX4 30 "AdmissionControl$Server" "lane1" "LAdmissionControl$Lane;", Cond.fieldLink RX4 33 "AdmissionControl$Server" "lane2" "LAdmissionControl$Lane;", Cond.fieldLink RX4 42 "AdmissionControl$Server" "count" "I", Cond.fieldLink RX4 46 "AdmissionControl$Server" "open" "I", Cond.fieldLink RX4 49 "AdmissionControl$Server" "rejected" "I", Cond.fieldLink RX4 52 "AdmissionControl$Server" "clock" "I", Cond.fieldLink RX4 55 "AdmissionControl$Server" "idle" "I"]
def wsX0_keep_r2 : List Cond := [Cond.methodLink RX4 63 yX3_copyFrom, Cond.instanceMethod yX3_copyFrom, Cond.selects RX3 yX3_copyFrom yX3_copyFrom, Cond.initialized RX3, Cond.code yX3_copyFrom cX3_copyFrom 3 none, Cond.fieldLink RX3 7 "AdmissionControl$Row" "cells" "[I", Cond.methodLink RX4 67 yX1_copyFrom, Cond.instanceMethod yX1_copyFrom, Cond.selects RX1 yX1_copyFrom yX1_copyFrom, Cond.initialized RX1, Cond.code yX1_copyFrom cX1_copyFrom 2 none, Cond.fieldLink RX1 14 "AdmissionControl$Lane" "settings" "LAdmissionControl$Row;", Cond.fieldLink RX1 20 "AdmissionControl$Lane" "refusals" "LAdmissionControl$Row;", Cond.fieldLink RX1 23 "AdmissionControl$Lane" "queue" "LAdmissionControl$Row;", Cond.fieldLink RX1 26 "AdmissionControl$Lane" "length" "I", Cond.fieldLink RX1 30 "AdmissionControl$Lane" "tokens" "I", Cond.fieldLink RX1 33 "AdmissionControl$Lane" "pass" "I", Cond.fieldLink RX1 36 "AdmissionControl$Lane" "units" "I", Cond.methodLink RX1 53 yX3_copyFrom, Cond.methodLink RX4 70 yX4_find, Cond.instanceMethod yX4_find, Cond.selects RX4 yX4_find yX4_find, Cond.code yX4_find cX4_find 2 (some (.object "AdmissionControl$Request")), Cond.fieldLink RX4 38 "AdmissionControl$Server" "slots" "[LAdmissionControl$Request;"]
def wsX0_keep_r3 : List Cond := [Cond.methodLink RX4 74 yX2_copyFrom, Cond.instanceMethod yX2_copyFrom, Cond.selects RX2 yX2_copyFrom yX2_copyFrom, Cond.initialized RX2, Cond.code yX2_copyFrom cX2_copyFrom 2 none, Cond.fieldLink RX2 15 "AdmissionControl$Request" "kind" "I", Cond.fieldLink RX2 18 "AdmissionControl$Request" "shape" "I", Cond.fieldLink RX2 21 "AdmissionControl$Request" "cost" "I", Cond.fieldLink RX2 24 "AdmissionControl$Request" "state" "I", Cond.fieldLink RX2 27 "AdmissionControl$Request" "price" "I", Cond.fieldLink RX2 30 "AdmissionControl$Request" "units" "I", Cond.fieldLink RX2 33 "AdmissionControl$Request" "offers" "I", Cond.fieldLink RX2 36 "AdmissionControl$Request" "reason" "I", Cond.fieldLink RX2 39 "AdmissionControl$Request" "admitted" "I", Cond.fieldLink RX2 42 "AdmissionControl$Request" "tick" "I"]
def wsX0_keep : List Cond := .code yX0_keep cX0_keep 3 none :: ((wsX0_keep_r1 ++ (wsX0_keep_r2 ++ wsX0_keep_r3)) ++ wsX00 ++ wsX40 ++ wsX30 ++ wsX10 ++ wsX20)
def wsX0_restore_r1 : List Cond := [Cond.fieldLink RX0 12 "AdmissionControl$History" "newest" "LAdmissionControl$Server;", Cond.fieldLink RX0 18 "AdmissionControl$History" "second" "LAdmissionControl$Server;", Cond.fieldLink RX0 21 "AdmissionControl$History" "third" "LAdmissionControl$Server;", Cond.fieldLink RX0 24 "AdmissionControl$History" "oldest" "LAdmissionControl$Server;", Cond.fieldLink RX0 27 "AdmissionControl$History" "states" "I", Cond.methodLink RX0 41 Lib.Math.max.name, Cond.static Lib.Math.max.name, Cond.initialized "java/lang/Math", Cond.code Lib.Math.max.name Lib.Math.max.code 2 (some .int), Cond.methodLink RX0 31 yX4_copyFrom, Cond.instanceMethod yX4_copyFrom, Cond.selects RX4 yX4_copyFrom yX4_copyFrom, Cond.initialized RX4, Cond.code yX4_copyFrom cX4_copyFrom 5 none, Cond.fieldLink RX4 14 "AdmissionControl$Server" "settings" "LAdmissionControl$Row;", Cond.fieldLink RX4 20 "AdmissionControl$Server" "estimates" "LAdmissionControl$Row;", Cond.fieldLink RX4 26 "AdmissionControl$Server" "lane0" "LAdmissionControl$Lane;", Cond.fieldLink RX4 30 "AdmissionControl$Server" "lane1" "LAdmissionControl$Lane;", Cond.fieldLink RX4 33 "AdmissionControl$Server" "lane2" "LAdmissionControl$Lane;", Cond.fieldLink RX4 42 "AdmissionControl$Server" "count" "I", Cond.fieldLink RX4 46 "AdmissionControl$Server" "open" "I", Cond.fieldLink RX4 49 "AdmissionControl$Server" "rejected" "I", Cond.fieldLink RX4 52 "AdmissionControl$Server" "clock" "I", Cond.fieldLink RX4 55 "AdmissionControl$Server" "idle" "I"]
def wsX0_restore_r2 : List Cond := [Cond.methodLink RX4 63 yX3_copyFrom, Cond.instanceMethod yX3_copyFrom, Cond.selects RX3 yX3_copyFrom yX3_copyFrom, Cond.initialized RX3, Cond.code yX3_copyFrom cX3_copyFrom 3 none, Cond.fieldLink RX3 7 "AdmissionControl$Row" "cells" "[I", Cond.methodLink RX4 67 yX1_copyFrom, Cond.instanceMethod yX1_copyFrom, Cond.selects RX1 yX1_copyFrom yX1_copyFrom, Cond.initialized RX1, Cond.code yX1_copyFrom cX1_copyFrom 2 none, Cond.fieldLink RX1 14 "AdmissionControl$Lane" "settings" "LAdmissionControl$Row;", Cond.fieldLink RX1 20 "AdmissionControl$Lane" "refusals" "LAdmissionControl$Row;", Cond.fieldLink RX1 23 "AdmissionControl$Lane" "queue" "LAdmissionControl$Row;", Cond.fieldLink RX1 26 "AdmissionControl$Lane" "length" "I", Cond.fieldLink RX1 30 "AdmissionControl$Lane" "tokens" "I", Cond.fieldLink RX1 33 "AdmissionControl$Lane" "pass" "I", Cond.fieldLink RX1 36 "AdmissionControl$Lane" "units" "I", Cond.methodLink RX1 53 yX3_copyFrom, Cond.methodLink RX4 70 yX4_find, Cond.instanceMethod yX4_find, Cond.selects RX4 yX4_find yX4_find, Cond.code yX4_find cX4_find 2 (some (.object "AdmissionControl$Request")), Cond.fieldLink RX4 38 "AdmissionControl$Server" "slots" "[LAdmissionControl$Request;"]
def wsX0_restore_r3 : List Cond := [Cond.methodLink RX4 74 yX2_copyFrom, Cond.instanceMethod yX2_copyFrom, Cond.selects RX2 yX2_copyFrom yX2_copyFrom, Cond.initialized RX2, Cond.code yX2_copyFrom cX2_copyFrom 2 none, Cond.fieldLink RX2 15 "AdmissionControl$Request" "kind" "I", Cond.fieldLink RX2 18 "AdmissionControl$Request" "shape" "I", Cond.fieldLink RX2 21 "AdmissionControl$Request" "cost" "I", Cond.fieldLink RX2 24 "AdmissionControl$Request" "state" "I", Cond.fieldLink RX2 27 "AdmissionControl$Request" "price" "I", Cond.fieldLink RX2 30 "AdmissionControl$Request" "units" "I", Cond.fieldLink RX2 33 "AdmissionControl$Request" "offers" "I", Cond.fieldLink RX2 36 "AdmissionControl$Request" "reason" "I", Cond.fieldLink RX2 39 "AdmissionControl$Request" "admitted" "I", Cond.fieldLink RX2 42 "AdmissionControl$Request" "tick" "I"]
def wsX0_restore : List Cond := .code yX0_restore cX0_restore 3 none :: ((wsX0_restore_r1 ++ (wsX0_restore_r2 ++ wsX0_restore_r3)) ++ wsX00 ++ wsX40 ++ wsX30 ++ wsX10 ++ wsX20)
def wsX3_at : List Cond := .code yX3_at cX3_at 2 (some .int) :: ([.fieldLink RX3 7 "AdmissionControl$Row" "cells" "[I"] ++ wsX30)
def wsX1_gain : List Cond := .code yX1_gain cX1_gain 3 none :: ([.fieldLink RX1 14 "AdmissionControl$Lane" "settings" "LAdmissionControl$Row;", .fieldLink RX1 30 "AdmissionControl$Lane" "tokens" "I", .methodLink RX1 47 Lib.Math.min.name, .static Lib.Math.min.name, .initialized "java/lang/Math", .code Lib.Math.min.name Lib.Math.min.code 2 (some .int), .methodLink RX1 43 yX3_at, .instanceMethod yX3_at, .selects RX3 yX3_at yX3_at, .initialized RX3, .code yX3_at cX3_at 2 (some .int), .fieldLink RX3 7 "AdmissionControl$Row" "cells" "[I"] ++ wsX10 ++ wsX30)
def wsX1_join : List Cond := .code yX1_join cX1_join 2 none :: ([.fieldLink RX1 26 "AdmissionControl$Lane" "length" "I", .fieldLink RX1 23 "AdmissionControl$Lane" "queue" "LAdmissionControl$Row;", .methodLink RX1 39 yX3_put, .instanceMethod yX3_put, .selects RX3 yX3_put yX3_put, .initialized RX3, .code yX3_put cX3_put 3 none, .fieldLink RX3 7 "AdmissionControl$Row" "cells" "[I"] ++ wsX10 ++ wsX30)
def wsX1_leave : List Cond := .code yX1_leave cX1_leave 3 none :: ([.fieldLink RX1 26 "AdmissionControl$Lane" "length" "I", .fieldLink RX1 23 "AdmissionControl$Lane" "queue" "LAdmissionControl$Row;", .methodLink RX1 43 yX3_at, .instanceMethod yX3_at, .selects RX3 yX3_at yX3_at, .initialized RX3, .code yX3_at cX3_at 2 (some .int), .fieldLink RX3 7 "AdmissionControl$Row" "cells" "[I", .methodLink RX1 39 yX3_put, .instanceMethod yX3_put, .selects RX3 yX3_put yX3_put, .code yX3_put cX3_put 3 none] ++ wsX10 ++ wsX30)
def wsX2_begin : List Cond := .code yX2_begin cX2_begin 4 none :: ([.fieldLink RX2 15 "AdmissionControl$Request" "kind" "I", .fieldLink RX2 18 "AdmissionControl$Request" "shape" "I", .fieldLink RX2 21 "AdmissionControl$Request" "cost" "I", .fieldLink RX2 24 "AdmissionControl$Request" "state" "I", .fieldLink RX2 27 "AdmissionControl$Request" "price" "I", .fieldLink RX2 30 "AdmissionControl$Request" "units" "I", .fieldLink RX2 33 "AdmissionControl$Request" "offers" "I", .fieldLink RX2 36 "AdmissionControl$Request" "reason" "I", .fieldLink RX2 39 "AdmissionControl$Request" "admitted" "I", .fieldLink RX2 42 "AdmissionControl$Request" "tick" "I"] ++ wsX20)
def wsX2_isSettled : List Cond := .code yX2_isSettled cX2_isSettled 1 (some .boolean) :: ([.fieldLink RX2 24 "AdmissionControl$Request" "state" "I"] ++ wsX20)
def wsX4_lane : List Cond := .code yX4_lane cX4_lane 2 (some (.object "AdmissionControl$Lane")) :: ([.fieldLink RX4 26 "AdmissionControl$Server" "lane0" "LAdmissionControl$Lane;", .fieldLink RX4 30 "AdmissionControl$Server" "lane1" "LAdmissionControl$Lane;", .fieldLink RX4 33 "AdmissionControl$Server" "lane2" "LAdmissionControl$Lane;"] ++ wsX40)
def wsX6_isKind : List Cond := .code yX6_isKind cX6_isKind 1 (some .boolean) :: ([])
def wsX6_isShape : List Cond := .code yX6_isShape cX6_isShape 1 (some .boolean) :: ([])
def wsX6_isBetween : List Cond := .code yX6_isBetween cX6_isBetween 3 (some .boolean) :: ([])
def wsX4_errorOfOffer : List Cond := .code yX4_errorOfOffer cX4_errorOfOffer 4 (some .int) :: ([.constant RX4 84 (-100001), .constant RX4 89 (-100002), .fieldLink RX4 42 "AdmissionControl$Server" "count" "I", .constant RX4 90 (-100004), .static yX6_isKind, .initialized RX6, .code yX6_isKind cX6_isKind 1 (some .boolean), .static yX6_isShape, .code yX6_isShape cX6_isShape 1 (some .boolean), .static yX6_isBetween, .code yX6_isBetween cX6_isBetween 3 (some .boolean)] ++ wsX40)
def wsX4_errorOfTicks : List Cond := .code yX4_errorOfTicks cX4_errorOfTicks 2 (some .int) :: ([.constant RX4 89 (-100002), .fieldLink RX4 52 "AdmissionControl$Server" "clock" "I", .constant RX4 90 (-100004), .static yX6_isBetween, .initialized RX6, .code yX6_isBetween cX6_isBetween 3 (some .boolean)] ++ wsX40)
def wsX4_expectedCost : List Cond := .code yX4_expectedCost cX4_expectedCost 2 (some .int) :: ([.fieldLink RX4 20 "AdmissionControl$Server" "estimates" "LAdmissionControl$Row;", .methodLink RX4 107 Lib.Math.max.name, .static Lib.Math.max.name, .initialized "java/lang/Math", .code Lib.Math.max.name Lib.Math.max.code 2 (some .int), .methodLink RX4 103 yX3_at, .instanceMethod yX3_at, .selects RX3 yX3_at yX3_at, .initialized RX3, .code yX3_at cX3_at 2 (some .int), .fieldLink RX3 7 "AdmissionControl$Row" "cells" "[I"] ++ wsX40 ++ wsX30)
def wsX4_backlogOf : List Cond := .code yX4_backlogOf cX4_backlogOf 5 (some .int) :: ([.fieldLink RX4 113 "AdmissionControl$Lane" "length" "I", .fieldLink RX4 116 "AdmissionControl$Lane" "queue" "LAdmissionControl$Row;", .fieldLink RX4 119 "AdmissionControl$Request" "price" "I", .fieldLink RX4 122 "AdmissionControl$Request" "units" "I", .methodLink RX4 107 Lib.Math.max.name, .static Lib.Math.max.name, .initialized "java/lang/Math", .code Lib.Math.max.name Lib.Math.max.code 2 (some .int), .methodLink RX4 103 yX3_at, .instanceMethod yX3_at, .selects RX3 yX3_at yX3_at, .initialized RX3, .code yX3_at cX3_at 2 (some .int), .fieldLink RX3 7 "AdmissionControl$Row" "cells" "[I", .methodLink RX4 70 yX4_find, .instanceMethod yX4_find, .selects RX4 yX4_find yX4_find, .initialized RX4, .code yX4_find cX4_find 2 (some (.object "AdmissionControl$Request")), .fieldLink RX4 42 "AdmissionControl$Server" "count" "I", .fieldLink RX4 38 "AdmissionControl$Server" "slots" "[LAdmissionControl$Request;"] ++ wsX10 ++ wsX20 ++ wsX30 ++ wsX40)
def wsX6_quotient : List Cond := .code yX6_quotient cX6_quotient 2 (some .int) :: ([])
def wsX4_firstRefusal_r1 : List Cond := [Cond.fieldLink RX4 125 "AdmissionControl$Lane" "settings" "LAdmissionControl$Row;", Cond.fieldLink RX4 113 "AdmissionControl$Lane" "length" "I", Cond.fieldLink RX4 26 "AdmissionControl$Server" "lane0" "LAdmissionControl$Lane;", Cond.fieldLink RX4 30 "AdmissionControl$Server" "lane1" "LAdmissionControl$Lane;", Cond.fieldLink RX4 33 "AdmissionControl$Server" "lane2" "LAdmissionControl$Lane;", Cond.fieldLink RX4 14 "AdmissionControl$Server" "settings" "LAdmissionControl$Row;", Cond.fieldLink RX4 133 "AdmissionControl$Lane" "tokens" "I", Cond.methodLink RX4 103 yX3_at, Cond.instanceMethod yX3_at, Cond.selects RX3 yX3_at yX3_at, Cond.initialized RX3, Cond.code yX3_at cX3_at 2 (some .int), Cond.fieldLink RX3 7 "AdmissionControl$Row" "cells" "[I", Cond.methodLink RX4 126 yX4_backlogOf, Cond.instanceMethod yX4_backlogOf, Cond.selects RX4 yX4_backlogOf yX4_backlogOf, Cond.initialized RX4, Cond.code yX4_backlogOf cX4_backlogOf 5 (some .int), Cond.fieldLink RX4 116 "AdmissionControl$Lane" "queue" "LAdmissionControl$Row;", Cond.fieldLink RX4 119 "AdmissionControl$Request" "price" "I", Cond.fieldLink RX4 122 "AdmissionControl$Request" "units" "I", Cond.methodLink RX4 107 Lib.Math.max.name, Cond.static Lib.Math.max.name, Cond.initialized "java/lang/Math"]
def wsX4_firstRefusal_r2 : List Cond := [Cond.code Lib.Math.max.name Lib.Math.max.code 2 (some .int), Cond.methodLink RX4 70 yX4_find, Cond.instanceMethod yX4_find, Cond.selects RX4 yX4_find yX4_find, Cond.code yX4_find cX4_find 2 (some (.object "AdmissionControl$Request")), Cond.fieldLink RX4 42 "AdmissionControl$Server" "count" "I", Cond.fieldLink RX4 38 "AdmissionControl$Server" "slots" "[LAdmissionControl$Request;", Cond.static yX6_quotient, Cond.initialized RX6, Cond.code yX6_quotient cX6_quotient 2 (some .int)]
def wsX4_firstRefusal : List Cond := .code yX4_firstRefusal cX4_firstRefusal 6 (some .int) :: ((wsX4_firstRefusal_r1 ++ wsX4_firstRefusal_r2) ++ wsX10 ++ wsX40 ++ wsX30 ++ wsX20)
def wsX4_catchUp : List Cond := .code yX4_catchUp cX4_catchUp 5 none :: ([.fieldLink RX4 113 "AdmissionControl$Lane" "length" "I", .fieldLink RX4 178 "AdmissionControl$Lane" "pass" "I", .methodLink RX4 107 Lib.Math.max.name, .static Lib.Math.max.name, .initialized "java/lang/Math", .code Lib.Math.max.name Lib.Math.max.code 2 (some .int), .methodLink RX4 148 yX4_lane, .instanceMethod yX4_lane, .selects RX4 yX4_lane yX4_lane, .initialized RX4, .code yX4_lane cX4_lane 2 (some (.object "AdmissionControl$Lane")), .fieldLink RX4 26 "AdmissionControl$Server" "lane0" "LAdmissionControl$Lane;", .fieldLink RX4 30 "AdmissionControl$Server" "lane1" "LAdmissionControl$Lane;", .fieldLink RX4 33 "AdmissionControl$Server" "lane2" "LAdmissionControl$Lane;"] ++ wsX10 ++ wsX40)
def wsX4_admit_r1 : List Cond := [Cond.fieldLink RX4 145 "AdmissionControl$Request" "kind" "I", Cond.fieldLink RX4 113 "AdmissionControl$Lane" "length" "I", Cond.fieldLink RX4 133 "AdmissionControl$Lane" "tokens" "I", Cond.fieldLink RX4 119 "AdmissionControl$Request" "price" "I", Cond.fieldLink RX4 166 "AdmissionControl$Request" "number" "I", Cond.fieldLink RX4 172 "AdmissionControl$Request" "state" "I", Cond.fieldLink RX4 52 "AdmissionControl$Server" "clock" "I", Cond.fieldLink RX4 175 "AdmissionControl$Request" "admitted" "I", Cond.methodLink RX4 148 yX4_lane, Cond.instanceMethod yX4_lane, Cond.selects RX4 yX4_lane yX4_lane, Cond.initialized RX4, Cond.code yX4_lane cX4_lane 2 (some (.object "AdmissionControl$Lane")), Cond.fieldLink RX4 26 "AdmissionControl$Server" "lane0" "LAdmissionControl$Lane;", Cond.fieldLink RX4 30 "AdmissionControl$Server" "lane1" "LAdmissionControl$Lane;", Cond.fieldLink RX4 33 "AdmissionControl$Server" "lane2" "LAdmissionControl$Lane;", Cond.methodLink RX4 163 yX4_catchUp, Cond.instanceMethod yX4_catchUp, Cond.selects RX4 yX4_catchUp yX4_catchUp, Cond.code yX4_catchUp cX4_catchUp 5 none, Cond.fieldLink RX4 178 "AdmissionControl$Lane" "pass" "I", Cond.methodLink RX4 107 Lib.Math.max.name, Cond.static Lib.Math.max.name, Cond.initialized "java/lang/Math"]
def wsX4_admit_r2 : List Cond := [Cond.code Lib.Math.max.name Lib.Math.max.code 2 (some .int), Cond.methodLink RX4 169 yX1_join, Cond.instanceMethod yX1_join, Cond.selects RX1 yX1_join yX1_join, Cond.initialized RX1, Cond.code yX1_join cX1_join 2 none, Cond.fieldLink RX1 26 "AdmissionControl$Lane" "length" "I", Cond.fieldLink RX1 23 "AdmissionControl$Lane" "queue" "LAdmissionControl$Row;", Cond.methodLink RX1 39 yX3_put, Cond.instanceMethod yX3_put, Cond.selects RX3 yX3_put yX3_put, Cond.initialized RX3, Cond.code yX3_put cX3_put 3 none, Cond.fieldLink RX3 7 "AdmissionControl$Row" "cells" "[I"]
def wsX4_admit : List Cond := .code yX4_admit cX4_admit 3 none :: ((wsX4_admit_r1 ++ wsX4_admit_r2) ++ wsX20 ++ wsX10 ++ wsX40 ++ wsX30)
def wsX4_refuse_r1 : List Cond := [Cond.fieldLink RX4 145 "AdmissionControl$Request" "kind" "I", Cond.fieldLink RX4 181 "AdmissionControl$Lane" "refusals" "LAdmissionControl$Row;", Cond.fieldLink RX4 184 "AdmissionControl$Request" "reason" "I", Cond.fieldLink RX4 142 "AdmissionControl$Request" "offers" "I", Cond.fieldLink RX4 14 "AdmissionControl$Server" "settings" "LAdmissionControl$Row;", Cond.fieldLink RX4 172 "AdmissionControl$Request" "state" "I", Cond.fieldLink RX4 52 "AdmissionControl$Server" "clock" "I", Cond.fieldLink RX4 187 "AdmissionControl$Request" "tick" "I", Cond.fieldLink RX4 46 "AdmissionControl$Server" "open" "I", Cond.fieldLink RX4 49 "AdmissionControl$Server" "rejected" "I", Cond.methodLink RX4 148 yX4_lane, Cond.instanceMethod yX4_lane, Cond.selects RX4 yX4_lane yX4_lane, Cond.initialized RX4, Cond.code yX4_lane cX4_lane 2 (some (.object "AdmissionControl$Lane")), Cond.fieldLink RX4 26 "AdmissionControl$Server" "lane0" "LAdmissionControl$Lane;", Cond.fieldLink RX4 30 "AdmissionControl$Server" "lane1" "LAdmissionControl$Lane;", Cond.fieldLink RX4 33 "AdmissionControl$Server" "lane2" "LAdmissionControl$Lane;", Cond.methodLink RX4 103 yX3_at, Cond.instanceMethod yX3_at, Cond.selects RX3 yX3_at yX3_at, Cond.initialized RX3, Cond.code yX3_at cX3_at 2 (some .int), Cond.fieldLink RX3 7 "AdmissionControl$Row" "cells" "[I"]
def wsX4_refuse_r2 : List Cond := [Cond.methodLink RX4 58 yX3_put, Cond.instanceMethod yX3_put, Cond.selects RX3 yX3_put yX3_put, Cond.code yX3_put cX3_put 3 none]
def wsX4_refuse : List Cond := .code yX4_refuse cX4_refuse 4 none :: ((wsX4_refuse_r1 ++ wsX4_refuse_r2) ++ wsX20 ++ wsX10 ++ wsX40 ++ wsX30)
def wsX4_offerNow_r1 : List Cond := [Cond.fieldLink RX4 136 "AdmissionControl$Request" "shape" "I", Cond.fieldLink RX4 119 "AdmissionControl$Request" "price" "I", Cond.fieldLink RX4 142 "AdmissionControl$Request" "offers" "I", Cond.fieldLink RX4 145 "AdmissionControl$Request" "kind" "I", Cond.methodLink RX4 139 yX4_expectedCost, Cond.instanceMethod yX4_expectedCost, Cond.selects RX4 yX4_expectedCost yX4_expectedCost, Cond.initialized RX4, Cond.code yX4_expectedCost cX4_expectedCost 2 (some .int), Cond.fieldLink RX4 20 "AdmissionControl$Server" "estimates" "LAdmissionControl$Row;", Cond.methodLink RX4 107 Lib.Math.max.name, Cond.static Lib.Math.max.name, Cond.initialized "java/lang/Math", Cond.code Lib.Math.max.name Lib.Math.max.code 2 (some .int), Cond.methodLink RX4 103 yX3_at, Cond.instanceMethod yX3_at, Cond.selects RX3 yX3_at yX3_at, Cond.initialized RX3, Cond.code yX3_at cX3_at 2 (some .int), Cond.fieldLink RX3 7 "AdmissionControl$Row" "cells" "[I", Cond.methodLink RX4 148 yX4_lane, Cond.instanceMethod yX4_lane, Cond.selects RX4 yX4_lane yX4_lane, Cond.code yX4_lane cX4_lane 2 (some (.object "AdmissionControl$Lane"))]
def wsX4_offerNow_r2 : List Cond := [Cond.fieldLink RX4 26 "AdmissionControl$Server" "lane0" "LAdmissionControl$Lane;", Cond.fieldLink RX4 30 "AdmissionControl$Server" "lane1" "LAdmissionControl$Lane;", Cond.fieldLink RX4 33 "AdmissionControl$Server" "lane2" "LAdmissionControl$Lane;", Cond.methodLink RX4 152 yX4_firstRefusal, Cond.instanceMethod yX4_firstRefusal, Cond.selects RX4 yX4_firstRefusal yX4_firstRefusal, Cond.code yX4_firstRefusal cX4_firstRefusal 6 (some .int), Cond.fieldLink RX4 125 "AdmissionControl$Lane" "settings" "LAdmissionControl$Row;", Cond.fieldLink RX4 113 "AdmissionControl$Lane" "length" "I", Cond.fieldLink RX4 14 "AdmissionControl$Server" "settings" "LAdmissionControl$Row;", Cond.fieldLink RX4 133 "AdmissionControl$Lane" "tokens" "I", Cond.methodLink RX4 126 yX4_backlogOf, Cond.instanceMethod yX4_backlogOf, Cond.selects RX4 yX4_backlogOf yX4_backlogOf, Cond.code yX4_backlogOf cX4_backlogOf 5 (some .int), Cond.fieldLink RX4 116 "AdmissionControl$Lane" "queue" "LAdmissionControl$Row;", Cond.fieldLink RX4 122 "AdmissionControl$Request" "units" "I", Cond.methodLink RX4 70 yX4_find, Cond.instanceMethod yX4_find, Cond.selects RX4 yX4_find yX4_find, Cond.code yX4_find cX4_find 2 (some (.object "AdmissionControl$Request")), Cond.fieldLink RX4 42 "AdmissionControl$Server" "count" "I", Cond.fieldLink RX4 38 "AdmissionControl$Server" "slots" "[LAdmissionControl$Request;", Cond.static yX6_quotient]
def wsX4_offerNow_r3 : List Cond := [Cond.initialized RX6, Cond.code yX6_quotient cX6_quotient 2 (some .int), Cond.methodLink RX4 156 yX4_admit, Cond.instanceMethod yX4_admit, Cond.selects RX4 yX4_admit yX4_admit, Cond.code yX4_admit cX4_admit 3 none, Cond.fieldLink RX4 166 "AdmissionControl$Request" "number" "I", Cond.fieldLink RX4 172 "AdmissionControl$Request" "state" "I", Cond.fieldLink RX4 52 "AdmissionControl$Server" "clock" "I", Cond.fieldLink RX4 175 "AdmissionControl$Request" "admitted" "I", Cond.methodLink RX4 163 yX4_catchUp, Cond.instanceMethod yX4_catchUp, Cond.selects RX4 yX4_catchUp yX4_catchUp, Cond.code yX4_catchUp cX4_catchUp 5 none, Cond.fieldLink RX4 178 "AdmissionControl$Lane" "pass" "I", Cond.methodLink RX4 169 yX1_join, Cond.instanceMethod yX1_join, Cond.selects RX1 yX1_join yX1_join, Cond.initialized RX1, Cond.code yX1_join cX1_join 2 none, Cond.fieldLink RX1 26 "AdmissionControl$Lane" "length" "I", Cond.fieldLink RX1 23 "AdmissionControl$Lane" "queue" "LAdmissionControl$Row;", Cond.methodLink RX1 39 yX3_put, Cond.instanceMethod yX3_put]
def wsX4_offerNow_r4 : List Cond := [Cond.selects RX3 yX3_put yX3_put, Cond.code yX3_put cX3_put 3 none, Cond.methodLink RX4 159 yX4_refuse, Cond.instanceMethod yX4_refuse, Cond.selects RX4 yX4_refuse yX4_refuse, Cond.code yX4_refuse cX4_refuse 4 none, Cond.fieldLink RX4 181 "AdmissionControl$Lane" "refusals" "LAdmissionControl$Row;", Cond.fieldLink RX4 184 "AdmissionControl$Request" "reason" "I", Cond.fieldLink RX4 187 "AdmissionControl$Request" "tick" "I", Cond.fieldLink RX4 46 "AdmissionControl$Server" "open" "I", Cond.fieldLink RX4 49 "AdmissionControl$Server" "rejected" "I", Cond.methodLink RX4 58 yX3_put]
def wsX4_offerNow : List Cond := .code yX4_offerNow cX4_offerNow 3 (some .int) :: ((wsX4_offerNow_r1 ++ (wsX4_offerNow_r2 ++ (wsX4_offerNow_r3 ++ wsX4_offerNow_r4))) ++ wsX20 ++ wsX40 ++ wsX30 ++ wsX10)
def wsX4_offerNew_r1 : List Cond := [Cond.fieldLink RX4 42 "AdmissionControl$Server" "count" "I", Cond.fieldLink RX4 38 "AdmissionControl$Server" "slots" "[LAdmissionControl$Request;", Cond.constant RX4 90 (-100004), Cond.fieldLink RX4 46 "AdmissionControl$Server" "open" "I", Cond.methodLink RX4 91 yX2_begin, Cond.instanceMethod yX2_begin, Cond.selects RX2 yX2_begin yX2_begin, Cond.initialized RX2, Cond.code yX2_begin cX2_begin 4 none, Cond.fieldLink RX2 15 "AdmissionControl$Request" "kind" "I", Cond.fieldLink RX2 18 "AdmissionControl$Request" "shape" "I", Cond.fieldLink RX2 21 "AdmissionControl$Request" "cost" "I", Cond.fieldLink RX2 24 "AdmissionControl$Request" "state" "I", Cond.fieldLink RX2 27 "AdmissionControl$Request" "price" "I", Cond.fieldLink RX2 30 "AdmissionControl$Request" "units" "I", Cond.fieldLink RX2 33 "AdmissionControl$Request" "offers" "I", Cond.fieldLink RX2 36 "AdmissionControl$Request" "reason" "I", Cond.fieldLink RX2 39 "AdmissionControl$Request" "admitted" "I", Cond.fieldLink RX2 42 "AdmissionControl$Request" "tick" "I", Cond.methodLink RX4 95 yX4_offerNow, Cond.instanceMethod yX4_offerNow, Cond.selects RX4 yX4_offerNow yX4_offerNow, Cond.initialized RX4, Cond.code yX4_offerNow cX4_offerNow 3 (some .int)]
def wsX4_offerNew_r2 : List Cond := [Cond.fieldLink RX4 136 "AdmissionControl$Request" "shape" "I", Cond.fieldLink RX4 119 "AdmissionControl$Request" "price" "I", Cond.fieldLink RX4 142 "AdmissionControl$Request" "offers" "I", Cond.fieldLink RX4 145 "AdmissionControl$Request" "kind" "I", Cond.methodLink RX4 139 yX4_expectedCost, Cond.instanceMethod yX4_expectedCost, Cond.selects RX4 yX4_expectedCost yX4_expectedCost, Cond.code yX4_expectedCost cX4_expectedCost 2 (some .int), Cond.fieldLink RX4 20 "AdmissionControl$Server" "estimates" "LAdmissionControl$Row;", Cond.methodLink RX4 107 Lib.Math.max.name, Cond.static Lib.Math.max.name, Cond.initialized "java/lang/Math", Cond.code Lib.Math.max.name Lib.Math.max.code 2 (some .int), Cond.methodLink RX4 103 yX3_at, Cond.instanceMethod yX3_at, Cond.selects RX3 yX3_at yX3_at, Cond.initialized RX3, Cond.code yX3_at cX3_at 2 (some .int), Cond.fieldLink RX3 7 "AdmissionControl$Row" "cells" "[I", Cond.methodLink RX4 148 yX4_lane, Cond.instanceMethod yX4_lane, Cond.selects RX4 yX4_lane yX4_lane, Cond.code yX4_lane cX4_lane 2 (some (.object "AdmissionControl$Lane")), Cond.fieldLink RX4 26 "AdmissionControl$Server" "lane0" "LAdmissionControl$Lane;"]
def wsX4_offerNew_r3 : List Cond := [Cond.fieldLink RX4 30 "AdmissionControl$Server" "lane1" "LAdmissionControl$Lane;", Cond.fieldLink RX4 33 "AdmissionControl$Server" "lane2" "LAdmissionControl$Lane;", Cond.methodLink RX4 152 yX4_firstRefusal, Cond.instanceMethod yX4_firstRefusal, Cond.selects RX4 yX4_firstRefusal yX4_firstRefusal, Cond.code yX4_firstRefusal cX4_firstRefusal 6 (some .int), Cond.fieldLink RX4 125 "AdmissionControl$Lane" "settings" "LAdmissionControl$Row;", Cond.fieldLink RX4 113 "AdmissionControl$Lane" "length" "I", Cond.fieldLink RX4 14 "AdmissionControl$Server" "settings" "LAdmissionControl$Row;", Cond.fieldLink RX4 133 "AdmissionControl$Lane" "tokens" "I", Cond.methodLink RX4 126 yX4_backlogOf, Cond.instanceMethod yX4_backlogOf, Cond.selects RX4 yX4_backlogOf yX4_backlogOf, Cond.code yX4_backlogOf cX4_backlogOf 5 (some .int), Cond.fieldLink RX4 116 "AdmissionControl$Lane" "queue" "LAdmissionControl$Row;", Cond.fieldLink RX4 122 "AdmissionControl$Request" "units" "I", Cond.methodLink RX4 70 yX4_find, Cond.instanceMethod yX4_find, Cond.selects RX4 yX4_find yX4_find, Cond.code yX4_find cX4_find 2 (some (.object "AdmissionControl$Request")), Cond.static yX6_quotient, Cond.initialized RX6, Cond.code yX6_quotient cX6_quotient 2 (some .int), Cond.methodLink RX4 156 yX4_admit]
def wsX4_offerNew_r4 : List Cond := [Cond.instanceMethod yX4_admit, Cond.selects RX4 yX4_admit yX4_admit, Cond.code yX4_admit cX4_admit 3 none, Cond.fieldLink RX4 166 "AdmissionControl$Request" "number" "I", Cond.fieldLink RX4 172 "AdmissionControl$Request" "state" "I", Cond.fieldLink RX4 52 "AdmissionControl$Server" "clock" "I", Cond.fieldLink RX4 175 "AdmissionControl$Request" "admitted" "I", Cond.methodLink RX4 163 yX4_catchUp, Cond.instanceMethod yX4_catchUp, Cond.selects RX4 yX4_catchUp yX4_catchUp, Cond.code yX4_catchUp cX4_catchUp 5 none, Cond.fieldLink RX4 178 "AdmissionControl$Lane" "pass" "I", Cond.methodLink RX4 169 yX1_join, Cond.instanceMethod yX1_join, Cond.selects RX1 yX1_join yX1_join, Cond.initialized RX1, Cond.code yX1_join cX1_join 2 none, Cond.fieldLink RX1 26 "AdmissionControl$Lane" "length" "I", Cond.fieldLink RX1 23 "AdmissionControl$Lane" "queue" "LAdmissionControl$Row;", Cond.methodLink RX1 39 yX3_put, Cond.instanceMethod yX3_put, Cond.selects RX3 yX3_put yX3_put, Cond.code yX3_put cX3_put 3 none, Cond.methodLink RX4 159 yX4_refuse]
def wsX4_offerNew_r5 : List Cond := [Cond.instanceMethod yX4_refuse, Cond.selects RX4 yX4_refuse yX4_refuse, Cond.code yX4_refuse cX4_refuse 4 none, Cond.fieldLink RX4 181 "AdmissionControl$Lane" "refusals" "LAdmissionControl$Row;", Cond.fieldLink RX4 184 "AdmissionControl$Request" "reason" "I", Cond.fieldLink RX4 187 "AdmissionControl$Request" "tick" "I", Cond.fieldLink RX4 49 "AdmissionControl$Server" "rejected" "I", Cond.methodLink RX4 58 yX3_put]
def wsX4_offerNew : List Cond := .code yX4_offerNew cX4_offerNew 5 (some .int) :: ((wsX4_offerNew_r1 ++ (wsX4_offerNew_r2 ++ (wsX4_offerNew_r3 ++ (wsX4_offerNew_r4 ++ wsX4_offerNew_r5)))) ++ wsX40 ++ wsX20 ++ wsX30 ++ wsX10)
def wsX4_hasWaitedTooLong : List Cond := .code yX4_hasWaitedTooLong cX4_hasWaitedTooLong 2 (some .boolean) :: ([.fieldLink RX4 172 "AdmissionControl$Request" "state" "I", .fieldLink RX4 52 "AdmissionControl$Server" "clock" "I", .fieldLink RX4 175 "AdmissionControl$Request" "admitted" "I", .fieldLink RX4 14 "AdmissionControl$Server" "settings" "LAdmissionControl$Row;", .methodLink RX4 103 yX3_at, .instanceMethod yX3_at, .selects RX3 yX3_at yX3_at, .initialized RX3, .code yX3_at cX3_at 2 (some .int), .fieldLink RX3 7 "AdmissionControl$Row" "cells" "[I"] ++ wsX20 ++ wsX40 ++ wsX30)
def wsX4_refuseThoseWhoWaited_r1 : List Cond := [Cond.fieldLink RX4 113 "AdmissionControl$Lane" "length" "I", Cond.fieldLink RX4 116 "AdmissionControl$Lane" "queue" "LAdmissionControl$Row;", Cond.fieldLink RX4 119 "AdmissionControl$Request" "price" "I", Cond.methodLink RX4 103 yX3_at, Cond.instanceMethod yX3_at, Cond.selects RX3 yX3_at yX3_at, Cond.initialized RX3, Cond.code yX3_at cX3_at 2 (some .int), Cond.fieldLink RX3 7 "AdmissionControl$Row" "cells" "[I", Cond.methodLink RX4 70 yX4_find, Cond.instanceMethod yX4_find, Cond.selects RX4 yX4_find yX4_find, Cond.initialized RX4, Cond.code yX4_find cX4_find 2 (some (.object "AdmissionControl$Request")), Cond.fieldLink RX4 42 "AdmissionControl$Server" "count" "I", Cond.fieldLink RX4 38 "AdmissionControl$Server" "slots" "[LAdmissionControl$Request;", Cond.methodLink RX4 198 yX4_hasWaitedTooLong, Cond.instanceMethod yX4_hasWaitedTooLong, Cond.selects RX4 yX4_hasWaitedTooLong yX4_hasWaitedTooLong, Cond.code yX4_hasWaitedTooLong cX4_hasWaitedTooLong 2 (some .boolean), Cond.fieldLink RX4 172 "AdmissionControl$Request" "state" "I", Cond.fieldLink RX4 52 "AdmissionControl$Server" "clock" "I", Cond.fieldLink RX4 175 "AdmissionControl$Request" "admitted" "I", Cond.fieldLink RX4 14 "AdmissionControl$Server" "settings" "LAdmissionControl$Row;"]
def wsX4_refuseThoseWhoWaited_r2 : List Cond := [Cond.methodLink RX4 202 yX1_leave, Cond.instanceMethod yX1_leave, Cond.selects RX1 yX1_leave yX1_leave, Cond.initialized RX1, Cond.code yX1_leave cX1_leave 3 none, Cond.fieldLink RX1 26 "AdmissionControl$Lane" "length" "I", Cond.fieldLink RX1 23 "AdmissionControl$Lane" "queue" "LAdmissionControl$Row;", Cond.methodLink RX1 43 yX3_at, Cond.methodLink RX1 39 yX3_put, Cond.instanceMethod yX3_put, Cond.selects RX3 yX3_put yX3_put, Cond.code yX3_put cX3_put 3 none, Cond.methodLink RX4 159 yX4_refuse, Cond.instanceMethod yX4_refuse, Cond.selects RX4 yX4_refuse yX4_refuse, Cond.code yX4_refuse cX4_refuse 4 none, Cond.fieldLink RX4 145 "AdmissionControl$Request" "kind" "I", Cond.fieldLink RX4 181 "AdmissionControl$Lane" "refusals" "LAdmissionControl$Row;", Cond.fieldLink RX4 184 "AdmissionControl$Request" "reason" "I", Cond.fieldLink RX4 142 "AdmissionControl$Request" "offers" "I", Cond.fieldLink RX4 187 "AdmissionControl$Request" "tick" "I", Cond.fieldLink RX4 46 "AdmissionControl$Server" "open" "I", Cond.fieldLink RX4 49 "AdmissionControl$Server" "rejected" "I", Cond.methodLink RX4 148 yX4_lane]
def wsX4_refuseThoseWhoWaited_r3 : List Cond := [Cond.instanceMethod yX4_lane, Cond.selects RX4 yX4_lane yX4_lane, Cond.code yX4_lane cX4_lane 2 (some (.object "AdmissionControl$Lane")), Cond.fieldLink RX4 26 "AdmissionControl$Server" "lane0" "LAdmissionControl$Lane;", Cond.fieldLink RX4 30 "AdmissionControl$Server" "lane1" "LAdmissionControl$Lane;", Cond.fieldLink RX4 33 "AdmissionControl$Server" "lane2" "LAdmissionControl$Lane;", Cond.methodLink RX4 58 yX3_put, Cond.methodLink RX4 189 yX1_gain, Cond.instanceMethod yX1_gain, Cond.selects RX1 yX1_gain yX1_gain, Cond.code yX1_gain cX1_gain 3 none, Cond.fieldLink RX1 14 "AdmissionControl$Lane" "settings" "LAdmissionControl$Row;", Cond.fieldLink RX1 30 "AdmissionControl$Lane" "tokens" "I", Cond.methodLink RX1 47 Lib.Math.min.name, Cond.static Lib.Math.min.name, Cond.initialized "java/lang/Math", Cond.code Lib.Math.min.name Lib.Math.min.code 2 (some .int)]
def wsX4_refuseThoseWhoWaited : List Cond := .code yX4_refuseThoseWhoWaited cX4_refuseThoseWhoWaited 5 none :: ((wsX4_refuseThoseWhoWaited_r1 ++ (wsX4_refuseThoseWhoWaited_r2 ++ wsX4_refuseThoseWhoWaited_r3)) ++ wsX10 ++ wsX20 ++ wsX30 ++ wsX40)
def wsX4_nextLane : List Cond := .code yX4_nextLane cX4_nextLane 4 (some (.object "AdmissionControl$Lane")) :: ([.fieldLink RX4 113 "AdmissionControl$Lane" "length" "I", .fieldLink RX4 178 "AdmissionControl$Lane" "pass" "I", .methodLink RX4 148 yX4_lane, .instanceMethod yX4_lane, .selects RX4 yX4_lane yX4_lane, .initialized RX4, .code yX4_lane cX4_lane 2 (some (.object "AdmissionControl$Lane")), .fieldLink RX4 26 "AdmissionControl$Server" "lane0" "LAdmissionControl$Lane;", .fieldLink RX4 30 "AdmissionControl$Server" "lane1" "LAdmissionControl$Lane;", .fieldLink RX4 33 "AdmissionControl$Server" "lane2" "LAdmissionControl$Lane;"] ++ wsX10 ++ wsX40)
def wsX4_complete_r1 : List Cond := [Cond.fieldLink RX4 172 "AdmissionControl$Request" "state" "I", Cond.fieldLink RX4 52 "AdmissionControl$Server" "clock" "I", Cond.fieldLink RX4 187 "AdmissionControl$Request" "tick" "I", Cond.fieldLink RX4 46 "AdmissionControl$Server" "open" "I", Cond.fieldLink RX4 20 "AdmissionControl$Server" "estimates" "LAdmissionControl$Row;", Cond.fieldLink RX4 136 "AdmissionControl$Request" "shape" "I", Cond.fieldLink RX4 210 "AdmissionControl$Request" "cost" "I", Cond.fieldLink RX4 119 "AdmissionControl$Request" "price" "I", Cond.fieldLink RX4 133 "AdmissionControl$Lane" "tokens" "I", Cond.methodLink RX4 202 yX1_leave, Cond.instanceMethod yX1_leave, Cond.selects RX1 yX1_leave yX1_leave, Cond.initialized RX1, Cond.code yX1_leave cX1_leave 3 none, Cond.fieldLink RX1 26 "AdmissionControl$Lane" "length" "I", Cond.fieldLink RX1 23 "AdmissionControl$Lane" "queue" "LAdmissionControl$Row;", Cond.methodLink RX1 43 yX3_at, Cond.instanceMethod yX3_at, Cond.selects RX3 yX3_at yX3_at, Cond.initialized RX3, Cond.code yX3_at cX3_at 2 (some .int), Cond.fieldLink RX3 7 "AdmissionControl$Row" "cells" "[I", Cond.methodLink RX1 39 yX3_put, Cond.instanceMethod yX3_put]
def wsX4_complete_r2 : List Cond := [Cond.selects RX3 yX3_put yX3_put, Cond.code yX3_put cX3_put 3 none, Cond.methodLink RX4 103 yX3_at, Cond.methodLink RX4 58 yX3_put, Cond.methodLink RX4 189 yX1_gain, Cond.instanceMethod yX1_gain, Cond.selects RX1 yX1_gain yX1_gain, Cond.code yX1_gain cX1_gain 3 none, Cond.fieldLink RX1 14 "AdmissionControl$Lane" "settings" "LAdmissionControl$Row;", Cond.fieldLink RX1 30 "AdmissionControl$Lane" "tokens" "I", Cond.methodLink RX1 47 Lib.Math.min.name, Cond.static Lib.Math.min.name, Cond.initialized "java/lang/Math", Cond.code Lib.Math.min.name Lib.Math.min.code 2 (some .int)]
def wsX4_complete : List Cond := .code yX4_complete cX4_complete 4 none :: ((wsX4_complete_r1 ++ wsX4_complete_r2) ++ wsX20 ++ wsX40 ++ wsX10 ++ wsX30)
def wsX4_workOneUnit_r1 : List Cond := [Cond.fieldLink RX4 55 "AdmissionControl$Server" "idle" "I", Cond.fieldLink RX4 209 "AdmissionControl$Lane" "units" "I", Cond.fieldLink RX4 178 "AdmissionControl$Lane" "pass" "I", Cond.fieldLink RX4 125 "AdmissionControl$Lane" "settings" "LAdmissionControl$Row;", Cond.fieldLink RX4 116 "AdmissionControl$Lane" "queue" "LAdmissionControl$Row;", Cond.fieldLink RX4 122 "AdmissionControl$Request" "units" "I", Cond.fieldLink RX4 172 "AdmissionControl$Request" "state" "I", Cond.fieldLink RX4 210 "AdmissionControl$Request" "cost" "I", Cond.methodLink RX4 205 yX4_nextLane, Cond.instanceMethod yX4_nextLane, Cond.selects RX4 yX4_nextLane yX4_nextLane, Cond.initialized RX4, Cond.code yX4_nextLane cX4_nextLane 4 (some (.object "AdmissionControl$Lane")), Cond.fieldLink RX4 113 "AdmissionControl$Lane" "length" "I", Cond.methodLink RX4 148 yX4_lane, Cond.instanceMethod yX4_lane, Cond.selects RX4 yX4_lane yX4_lane, Cond.code yX4_lane cX4_lane 2 (some (.object "AdmissionControl$Lane")), Cond.fieldLink RX4 26 "AdmissionControl$Server" "lane0" "LAdmissionControl$Lane;", Cond.fieldLink RX4 30 "AdmissionControl$Server" "lane1" "LAdmissionControl$Lane;", Cond.fieldLink RX4 33 "AdmissionControl$Server" "lane2" "LAdmissionControl$Lane;", Cond.methodLink RX4 103 yX3_at, Cond.instanceMethod yX3_at, Cond.selects RX3 yX3_at yX3_at]
def wsX4_workOneUnit_r2 : List Cond := [Cond.initialized RX3, Cond.code yX3_at cX3_at 2 (some .int), Cond.fieldLink RX3 7 "AdmissionControl$Row" "cells" "[I", Cond.static yX6_quotient, Cond.initialized RX6, Cond.code yX6_quotient cX6_quotient 2 (some .int), Cond.methodLink RX4 70 yX4_find, Cond.instanceMethod yX4_find, Cond.selects RX4 yX4_find yX4_find, Cond.code yX4_find cX4_find 2 (some (.object "AdmissionControl$Request")), Cond.fieldLink RX4 42 "AdmissionControl$Server" "count" "I", Cond.fieldLink RX4 38 "AdmissionControl$Server" "slots" "[LAdmissionControl$Request;", Cond.methodLink RX4 213 yX4_complete, Cond.instanceMethod yX4_complete, Cond.selects RX4 yX4_complete yX4_complete, Cond.code yX4_complete cX4_complete 4 none, Cond.fieldLink RX4 52 "AdmissionControl$Server" "clock" "I", Cond.fieldLink RX4 187 "AdmissionControl$Request" "tick" "I", Cond.fieldLink RX4 46 "AdmissionControl$Server" "open" "I", Cond.fieldLink RX4 20 "AdmissionControl$Server" "estimates" "LAdmissionControl$Row;", Cond.fieldLink RX4 136 "AdmissionControl$Request" "shape" "I", Cond.fieldLink RX4 119 "AdmissionControl$Request" "price" "I", Cond.fieldLink RX4 133 "AdmissionControl$Lane" "tokens" "I", Cond.methodLink RX4 202 yX1_leave]
def wsX4_workOneUnit_r3 : List Cond := [Cond.instanceMethod yX1_leave, Cond.selects RX1 yX1_leave yX1_leave, Cond.initialized RX1, Cond.code yX1_leave cX1_leave 3 none, Cond.fieldLink RX1 26 "AdmissionControl$Lane" "length" "I", Cond.fieldLink RX1 23 "AdmissionControl$Lane" "queue" "LAdmissionControl$Row;", Cond.methodLink RX1 43 yX3_at, Cond.methodLink RX1 39 yX3_put, Cond.instanceMethod yX3_put, Cond.selects RX3 yX3_put yX3_put, Cond.code yX3_put cX3_put 3 none, Cond.methodLink RX4 58 yX3_put, Cond.methodLink RX4 189 yX1_gain, Cond.instanceMethod yX1_gain, Cond.selects RX1 yX1_gain yX1_gain, Cond.code yX1_gain cX1_gain 3 none, Cond.fieldLink RX1 14 "AdmissionControl$Lane" "settings" "LAdmissionControl$Row;", Cond.fieldLink RX1 30 "AdmissionControl$Lane" "tokens" "I", Cond.methodLink RX1 47 Lib.Math.min.name, Cond.static Lib.Math.min.name, Cond.initialized "java/lang/Math", Cond.code Lib.Math.min.name Lib.Math.min.code 2 (some .int)]
def wsX4_workOneUnit : List Cond := .code yX4_workOneUnit cX4_workOneUnit 3 (some .int) :: ((wsX4_workOneUnit_r1 ++ (wsX4_workOneUnit_r2 ++ wsX4_workOneUnit_r3)) ++ wsX40 ++ wsX10 ++ wsX20 ++ wsX30)
def wsX4_tick_r1 : List Cond := [Cond.fieldLink RX4 125 "AdmissionControl$Lane" "settings" "LAdmissionControl$Row;", Cond.fieldLink RX4 42 "AdmissionControl$Server" "count" "I", Cond.fieldLink RX4 172 "AdmissionControl$Request" "state" "I", Cond.fieldLink RX4 187 "AdmissionControl$Request" "tick" "I", Cond.fieldLink RX4 52 "AdmissionControl$Server" "clock" "I", Cond.fieldLink RX4 14 "AdmissionControl$Server" "settings" "LAdmissionControl$Row;", Cond.methodLink RX4 148 yX4_lane, Cond.instanceMethod yX4_lane, Cond.selects RX4 yX4_lane yX4_lane, Cond.initialized RX4, Cond.code yX4_lane cX4_lane 2 (some (.object "AdmissionControl$Lane")), Cond.fieldLink RX4 26 "AdmissionControl$Server" "lane0" "LAdmissionControl$Lane;", Cond.fieldLink RX4 30 "AdmissionControl$Server" "lane1" "LAdmissionControl$Lane;", Cond.fieldLink RX4 33 "AdmissionControl$Server" "lane2" "LAdmissionControl$Lane;", Cond.methodLink RX4 103 yX3_at, Cond.instanceMethod yX3_at, Cond.selects RX3 yX3_at yX3_at, Cond.initialized RX3, Cond.code yX3_at cX3_at 2 (some .int), Cond.fieldLink RX3 7 "AdmissionControl$Row" "cells" "[I", Cond.methodLink RX4 189 yX1_gain, Cond.instanceMethod yX1_gain, Cond.selects RX1 yX1_gain yX1_gain, Cond.initialized RX1]
def wsX4_tick_r2 : List Cond := [Cond.code yX1_gain cX1_gain 3 none, Cond.fieldLink RX1 14 "AdmissionControl$Lane" "settings" "LAdmissionControl$Row;", Cond.fieldLink RX1 30 "AdmissionControl$Lane" "tokens" "I", Cond.methodLink RX1 47 Lib.Math.min.name, Cond.static Lib.Math.min.name, Cond.initialized "java/lang/Math", Cond.code Lib.Math.min.name Lib.Math.min.code 2 (some .int), Cond.methodLink RX1 43 yX3_at, Cond.methodLink RX4 70 yX4_find, Cond.instanceMethod yX4_find, Cond.selects RX4 yX4_find yX4_find, Cond.code yX4_find cX4_find 2 (some (.object "AdmissionControl$Request")), Cond.fieldLink RX4 38 "AdmissionControl$Server" "slots" "[LAdmissionControl$Request;", Cond.methodLink RX4 95 yX4_offerNow, Cond.instanceMethod yX4_offerNow, Cond.selects RX4 yX4_offerNow yX4_offerNow, Cond.code yX4_offerNow cX4_offerNow 3 (some .int), Cond.fieldLink RX4 136 "AdmissionControl$Request" "shape" "I", Cond.fieldLink RX4 119 "AdmissionControl$Request" "price" "I", Cond.fieldLink RX4 142 "AdmissionControl$Request" "offers" "I", Cond.fieldLink RX4 145 "AdmissionControl$Request" "kind" "I", Cond.methodLink RX4 139 yX4_expectedCost, Cond.instanceMethod yX4_expectedCost, Cond.selects RX4 yX4_expectedCost yX4_expectedCost]
def wsX4_tick_r3 : List Cond := [Cond.code yX4_expectedCost cX4_expectedCost 2 (some .int), Cond.fieldLink RX4 20 "AdmissionControl$Server" "estimates" "LAdmissionControl$Row;", Cond.methodLink RX4 107 Lib.Math.max.name, Cond.static Lib.Math.max.name, Cond.code Lib.Math.max.name Lib.Math.max.code 2 (some .int), Cond.methodLink RX4 152 yX4_firstRefusal, Cond.instanceMethod yX4_firstRefusal, Cond.selects RX4 yX4_firstRefusal yX4_firstRefusal, Cond.code yX4_firstRefusal cX4_firstRefusal 6 (some .int), Cond.fieldLink RX4 113 "AdmissionControl$Lane" "length" "I", Cond.fieldLink RX4 133 "AdmissionControl$Lane" "tokens" "I", Cond.methodLink RX4 126 yX4_backlogOf, Cond.instanceMethod yX4_backlogOf, Cond.selects RX4 yX4_backlogOf yX4_backlogOf, Cond.code yX4_backlogOf cX4_backlogOf 5 (some .int), Cond.fieldLink RX4 116 "AdmissionControl$Lane" "queue" "LAdmissionControl$Row;", Cond.fieldLink RX4 122 "AdmissionControl$Request" "units" "I", Cond.static yX6_quotient, Cond.initialized RX6, Cond.code yX6_quotient cX6_quotient 2 (some .int), Cond.methodLink RX4 156 yX4_admit, Cond.instanceMethod yX4_admit, Cond.selects RX4 yX4_admit yX4_admit, Cond.code yX4_admit cX4_admit 3 none]
def wsX4_tick_r4 : List Cond := [Cond.fieldLink RX4 166 "AdmissionControl$Request" "number" "I", Cond.fieldLink RX4 175 "AdmissionControl$Request" "admitted" "I", Cond.methodLink RX4 163 yX4_catchUp, Cond.instanceMethod yX4_catchUp, Cond.selects RX4 yX4_catchUp yX4_catchUp, Cond.code yX4_catchUp cX4_catchUp 5 none, Cond.fieldLink RX4 178 "AdmissionControl$Lane" "pass" "I", Cond.methodLink RX4 169 yX1_join, Cond.instanceMethod yX1_join, Cond.selects RX1 yX1_join yX1_join, Cond.code yX1_join cX1_join 2 none, Cond.fieldLink RX1 26 "AdmissionControl$Lane" "length" "I", Cond.fieldLink RX1 23 "AdmissionControl$Lane" "queue" "LAdmissionControl$Row;", Cond.methodLink RX1 39 yX3_put, Cond.instanceMethod yX3_put, Cond.selects RX3 yX3_put yX3_put, Cond.code yX3_put cX3_put 3 none, Cond.methodLink RX4 159 yX4_refuse, Cond.instanceMethod yX4_refuse, Cond.selects RX4 yX4_refuse yX4_refuse, Cond.code yX4_refuse cX4_refuse 4 none, Cond.fieldLink RX4 181 "AdmissionControl$Lane" "refusals" "LAdmissionControl$Row;", Cond.fieldLink RX4 184 "AdmissionControl$Request" "reason" "I", Cond.fieldLink RX4 46 "AdmissionControl$Server" "open" "I"]
def wsX4_tick_r5 : List Cond := [Cond.fieldLink RX4 49 "AdmissionControl$Server" "rejected" "I", Cond.methodLink RX4 58 yX3_put, Cond.methodLink RX4 192 yX4_refuseThoseWhoWaited, Cond.instanceMethod yX4_refuseThoseWhoWaited, Cond.selects RX4 yX4_refuseThoseWhoWaited yX4_refuseThoseWhoWaited, Cond.code yX4_refuseThoseWhoWaited cX4_refuseThoseWhoWaited 5 none, Cond.methodLink RX4 198 yX4_hasWaitedTooLong, Cond.instanceMethod yX4_hasWaitedTooLong, Cond.selects RX4 yX4_hasWaitedTooLong yX4_hasWaitedTooLong, Cond.code yX4_hasWaitedTooLong cX4_hasWaitedTooLong 2 (some .boolean), Cond.methodLink RX4 202 yX1_leave, Cond.instanceMethod yX1_leave, Cond.selects RX1 yX1_leave yX1_leave, Cond.code yX1_leave cX1_leave 3 none, Cond.methodLink RX4 195 yX4_workOneUnit, Cond.instanceMethod yX4_workOneUnit, Cond.selects RX4 yX4_workOneUnit yX4_workOneUnit, Cond.code yX4_workOneUnit cX4_workOneUnit 3 (some .int), Cond.fieldLink RX4 55 "AdmissionControl$Server" "idle" "I", Cond.fieldLink RX4 209 "AdmissionControl$Lane" "units" "I", Cond.fieldLink RX4 210 "AdmissionControl$Request" "cost" "I", Cond.methodLink RX4 205 yX4_nextLane, Cond.instanceMethod yX4_nextLane, Cond.selects RX4 yX4_nextLane yX4_nextLane]
def wsX4_tick_r6 : List Cond := [Cond.code yX4_nextLane cX4_nextLane 4 (some (.object "AdmissionControl$Lane")), Cond.methodLink RX4 213 yX4_complete, Cond.instanceMethod yX4_complete, Cond.selects RX4 yX4_complete yX4_complete, Cond.code yX4_complete cX4_complete 4 none]
def wsX4_tick : List Cond := .code yX4_tick cX4_tick 3 (some .int) :: ((wsX4_tick_r1 ++ (wsX4_tick_r2 ++ (wsX4_tick_r3 ++ (wsX4_tick_r4 ++ (wsX4_tick_r5 ++ wsX4_tick_r6))))) ++ wsX10 ++ wsX40 ++ wsX20 ++ wsX30)
def wsX4_letPass_r1 : List Cond := [Cond.methodLink RX4 99 yX4_tick, Cond.instanceMethod yX4_tick, Cond.selects RX4 yX4_tick yX4_tick, Cond.initialized RX4, Cond.code yX4_tick cX4_tick 3 (some .int), Cond.fieldLink RX4 125 "AdmissionControl$Lane" "settings" "LAdmissionControl$Row;", Cond.fieldLink RX4 42 "AdmissionControl$Server" "count" "I", Cond.fieldLink RX4 172 "AdmissionControl$Request" "state" "I", Cond.fieldLink RX4 187 "AdmissionControl$Request" "tick" "I", Cond.fieldLink RX4 52 "AdmissionControl$Server" "clock" "I", Cond.fieldLink RX4 14 "AdmissionControl$Server" "settings" "LAdmissionControl$Row;", Cond.methodLink RX4 148 yX4_lane, Cond.instanceMethod yX4_lane, Cond.selects RX4 yX4_lane yX4_lane, Cond.code yX4_lane cX4_lane 2 (some (.object "AdmissionControl$Lane")), Cond.fieldLink RX4 26 "AdmissionControl$Server" "lane0" "LAdmissionControl$Lane;", Cond.fieldLink RX4 30 "AdmissionControl$Server" "lane1" "LAdmissionControl$Lane;", Cond.fieldLink RX4 33 "AdmissionControl$Server" "lane2" "LAdmissionControl$Lane;", Cond.methodLink RX4 103 yX3_at, Cond.instanceMethod yX3_at, Cond.selects RX3 yX3_at yX3_at, Cond.initialized RX3, Cond.code yX3_at cX3_at 2 (some .int), Cond.fieldLink RX3 7 "AdmissionControl$Row" "cells" "[I"]
def wsX4_letPass_r2 : List Cond := [Cond.methodLink RX4 189 yX1_gain, Cond.instanceMethod yX1_gain, Cond.selects RX1 yX1_gain yX1_gain, Cond.initialized RX1, Cond.code yX1_gain cX1_gain 3 none, Cond.fieldLink RX1 14 "AdmissionControl$Lane" "settings" "LAdmissionControl$Row;", Cond.fieldLink RX1 30 "AdmissionControl$Lane" "tokens" "I", Cond.methodLink RX1 47 Lib.Math.min.name, Cond.static Lib.Math.min.name, Cond.initialized "java/lang/Math", Cond.code Lib.Math.min.name Lib.Math.min.code 2 (some .int), Cond.methodLink RX1 43 yX3_at, Cond.methodLink RX4 70 yX4_find, Cond.instanceMethod yX4_find, Cond.selects RX4 yX4_find yX4_find, Cond.code yX4_find cX4_find 2 (some (.object "AdmissionControl$Request")), Cond.fieldLink RX4 38 "AdmissionControl$Server" "slots" "[LAdmissionControl$Request;", Cond.methodLink RX4 95 yX4_offerNow, Cond.instanceMethod yX4_offerNow, Cond.selects RX4 yX4_offerNow yX4_offerNow, Cond.code yX4_offerNow cX4_offerNow 3 (some .int), Cond.fieldLink RX4 136 "AdmissionControl$Request" "shape" "I", Cond.fieldLink RX4 119 "AdmissionControl$Request" "price" "I", Cond.fieldLink RX4 142 "AdmissionControl$Request" "offers" "I"]
def wsX4_letPass_r3 : List Cond := [Cond.fieldLink RX4 145 "AdmissionControl$Request" "kind" "I", Cond.methodLink RX4 139 yX4_expectedCost, Cond.instanceMethod yX4_expectedCost, Cond.selects RX4 yX4_expectedCost yX4_expectedCost, Cond.code yX4_expectedCost cX4_expectedCost 2 (some .int), Cond.fieldLink RX4 20 "AdmissionControl$Server" "estimates" "LAdmissionControl$Row;", Cond.methodLink RX4 107 Lib.Math.max.name, Cond.static Lib.Math.max.name, Cond.code Lib.Math.max.name Lib.Math.max.code 2 (some .int), Cond.methodLink RX4 152 yX4_firstRefusal, Cond.instanceMethod yX4_firstRefusal, Cond.selects RX4 yX4_firstRefusal yX4_firstRefusal, Cond.code yX4_firstRefusal cX4_firstRefusal 6 (some .int), Cond.fieldLink RX4 113 "AdmissionControl$Lane" "length" "I", Cond.fieldLink RX4 133 "AdmissionControl$Lane" "tokens" "I", Cond.methodLink RX4 126 yX4_backlogOf, Cond.instanceMethod yX4_backlogOf, Cond.selects RX4 yX4_backlogOf yX4_backlogOf, Cond.code yX4_backlogOf cX4_backlogOf 5 (some .int), Cond.fieldLink RX4 116 "AdmissionControl$Lane" "queue" "LAdmissionControl$Row;", Cond.fieldLink RX4 122 "AdmissionControl$Request" "units" "I", Cond.static yX6_quotient, Cond.initialized RX6, Cond.code yX6_quotient cX6_quotient 2 (some .int)]
def wsX4_letPass_r4 : List Cond := [Cond.methodLink RX4 156 yX4_admit, Cond.instanceMethod yX4_admit, Cond.selects RX4 yX4_admit yX4_admit, Cond.code yX4_admit cX4_admit 3 none, Cond.fieldLink RX4 166 "AdmissionControl$Request" "number" "I", Cond.fieldLink RX4 175 "AdmissionControl$Request" "admitted" "I", Cond.methodLink RX4 163 yX4_catchUp, Cond.instanceMethod yX4_catchUp, Cond.selects RX4 yX4_catchUp yX4_catchUp, Cond.code yX4_catchUp cX4_catchUp 5 none, Cond.fieldLink RX4 178 "AdmissionControl$Lane" "pass" "I", Cond.methodLink RX4 169 yX1_join, Cond.instanceMethod yX1_join, Cond.selects RX1 yX1_join yX1_join, Cond.code yX1_join cX1_join 2 none, Cond.fieldLink RX1 26 "AdmissionControl$Lane" "length" "I", Cond.fieldLink RX1 23 "AdmissionControl$Lane" "queue" "LAdmissionControl$Row;", Cond.methodLink RX1 39 yX3_put, Cond.instanceMethod yX3_put, Cond.selects RX3 yX3_put yX3_put, Cond.code yX3_put cX3_put 3 none, Cond.methodLink RX4 159 yX4_refuse, Cond.instanceMethod yX4_refuse, Cond.selects RX4 yX4_refuse yX4_refuse]
def wsX4_letPass_r5 : List Cond := [Cond.code yX4_refuse cX4_refuse 4 none, Cond.fieldLink RX4 181 "AdmissionControl$Lane" "refusals" "LAdmissionControl$Row;", Cond.fieldLink RX4 184 "AdmissionControl$Request" "reason" "I", Cond.fieldLink RX4 46 "AdmissionControl$Server" "open" "I", Cond.fieldLink RX4 49 "AdmissionControl$Server" "rejected" "I", Cond.methodLink RX4 58 yX3_put, Cond.methodLink RX4 192 yX4_refuseThoseWhoWaited, Cond.instanceMethod yX4_refuseThoseWhoWaited, Cond.selects RX4 yX4_refuseThoseWhoWaited yX4_refuseThoseWhoWaited, Cond.code yX4_refuseThoseWhoWaited cX4_refuseThoseWhoWaited 5 none, Cond.methodLink RX4 198 yX4_hasWaitedTooLong, Cond.instanceMethod yX4_hasWaitedTooLong, Cond.selects RX4 yX4_hasWaitedTooLong yX4_hasWaitedTooLong, Cond.code yX4_hasWaitedTooLong cX4_hasWaitedTooLong 2 (some .boolean), Cond.methodLink RX4 202 yX1_leave, Cond.instanceMethod yX1_leave, Cond.selects RX1 yX1_leave yX1_leave, Cond.code yX1_leave cX1_leave 3 none, Cond.methodLink RX4 195 yX4_workOneUnit, Cond.instanceMethod yX4_workOneUnit, Cond.selects RX4 yX4_workOneUnit yX4_workOneUnit, Cond.code yX4_workOneUnit cX4_workOneUnit 3 (some .int), Cond.fieldLink RX4 55 "AdmissionControl$Server" "idle" "I", Cond.fieldLink RX4 209 "AdmissionControl$Lane" "units" "I"]
def wsX4_letPass_r6 : List Cond := [Cond.fieldLink RX4 210 "AdmissionControl$Request" "cost" "I", Cond.methodLink RX4 205 yX4_nextLane, Cond.instanceMethod yX4_nextLane, Cond.selects RX4 yX4_nextLane yX4_nextLane, Cond.code yX4_nextLane cX4_nextLane 4 (some (.object "AdmissionControl$Lane")), Cond.methodLink RX4 213 yX4_complete, Cond.instanceMethod yX4_complete, Cond.selects RX4 yX4_complete yX4_complete, Cond.code yX4_complete cX4_complete 4 none]
def wsX4_letPass : List Cond := .code yX4_letPass cX4_letPass 4 (some .int) :: ((wsX4_letPass_r1 ++ (wsX4_letPass_r2 ++ (wsX4_letPass_r3 ++ (wsX4_letPass_r4 ++ (wsX4_letPass_r5 ++ wsX4_letPass_r6))))) ++ wsX10 ++ wsX40 ++ wsX20 ++ wsX30)
def wsX5_init : List Cond := .code yX5_init cX5_init 1 none :: ([.methodLink RX5 3 objectInit, .instanceMethod objectInit, .code objectInit ⟨#[0xb1]⟩ 1 none, .classLink RX5 9 RX3, .instantiable RX3 1, .initialized RX3, .fieldLink RX5 14 "AdmissionControl$Text" "characters" "LAdmissionControl$Row;", .fieldLink RX5 20 "AdmissionControl$Text" "length" "I", .methodLink RX5 11 yX3_init, .instanceMethod yX3_init, .code yX3_init cX3_init 2 none, .methodLink RX3 1 objectInit, .arrayClass .int, .fieldLink RX3 7 "AdmissionControl$Row" "cells" "[I"] ++ wsX30 ++ wsX50)
def wsX5_add : List Cond := .code yX5_add cX5_add 2 none :: ([.fieldLink RX5 20 "AdmissionControl$Text" "length" "I", .fieldLink RX5 14 "AdmissionControl$Text" "characters" "LAdmissionControl$Row;", .methodLink RX5 24 yX3_put, .instanceMethod yX3_put, .selects RX3 yX3_put yX3_put, .initialized RX3, .code yX3_put cX3_put 3 none, .fieldLink RX3 7 "AdmissionControl$Row" "cells" "[I"] ++ wsX50 ++ wsX30)
def wsX5_expectedAfterFirstOfCost : List Cond := .code yX5_expectedAfterFirstOfCost cX5_expectedAfterFirstOfCost 1 (some .int) :: ([.static yX6_isBetween, .initialized RX6, .code yX6_isBetween cX6_isBetween 3 (some .boolean)])
def wsX5_expectedAfterNumber : List Cond := .code yX5_expectedAfterNumber cX5_expectedAfterNumber 2 (some .int) :: ([.static yX6_isBetween, .initialized RX6, .code yX6_isBetween cX6_isBetween 3 (some .boolean)])
def wsX5_expectedAfter : List Cond := .code yX5_expectedAfter cX5_expectedAfter 2 (some .int) :: ([.static yX6_isBetween, .initialized RX6, .code yX6_isBetween cX6_isBetween 3 (some .boolean), .methodLink RX5 41 yX5_expectedAfterFirstOfCost, .static yX5_expectedAfterFirstOfCost, .initialized RX5, .code yX5_expectedAfterFirstOfCost cX5_expectedAfterFirstOfCost 1 (some .int), .methodLink RX5 44 yX5_expectedAfterNumber, .static yX5_expectedAfterNumber, .code yX5_expectedAfterNumber cX5_expectedAfterNumber 2 (some .int)])
def wsX5_firstFault : List Cond := .code yX5_firstFault cX5_firstFault 3 (some .int) :: ([.fieldLink RX5 20 "AdmissionControl$Text" "length" "I", .fieldLink RX5 14 "AdmissionControl$Text" "characters" "LAdmissionControl$Row;", .constant RX5 36 (-100005), .methodLink RX5 28 yX3_at, .instanceMethod yX3_at, .selects RX3 yX3_at yX3_at, .initialized RX3, .code yX3_at cX3_at 2 (some .int), .fieldLink RX3 7 "AdmissionControl$Row" "cells" "[I", .methodLink RX5 32 yX5_expectedAfter, .static yX5_expectedAfter, .initialized RX5, .code yX5_expectedAfter cX5_expectedAfter 2 (some .int), .static yX6_isBetween, .initialized RX6, .code yX6_isBetween cX6_isBetween 3 (some .boolean), .methodLink RX5 41 yX5_expectedAfterFirstOfCost, .static yX5_expectedAfterFirstOfCost, .code yX5_expectedAfterFirstOfCost cX5_expectedAfterFirstOfCost 1 (some .int), .methodLink RX5 44 yX5_expectedAfterNumber, .static yX5_expectedAfterNumber, .code yX5_expectedAfterNumber cX5_expectedAfterNumber 2 (some .int)] ++ wsX50 ++ wsX30)
def wsX5_startsStep : List Cond := .code yX5_startsStep cX5_startsStep 2 (some .boolean) :: ([.fieldLink RX5 14 "AdmissionControl$Text" "characters" "LAdmissionControl$Row;", .methodLink RX5 28 yX3_at, .instanceMethod yX3_at, .selects RX3 yX3_at yX3_at, .initialized RX3, .code yX3_at cX3_at 2 (some .int), .fieldLink RX3 7 "AdmissionControl$Row" "cells" "[I"] ++ wsX50 ++ wsX30)
def wsX5_numberAt : List Cond := .code yX5_numberAt cX5_numberAt 4 (some .int) :: ([.fieldLink RX5 14 "AdmissionControl$Text" "characters" "LAdmissionControl$Row;", .fieldLink RX5 20 "AdmissionControl$Text" "length" "I", .methodLink RX5 28 yX3_at, .instanceMethod yX3_at, .selects RX3 yX3_at yX3_at, .initialized RX3, .code yX3_at cX3_at 2 (some .int), .fieldLink RX3 7 "AdmissionControl$Row" "cells" "[I", .static yX6_isBetween, .initialized RX6, .code yX6_isBetween cX6_isBetween 3 (some .boolean)] ++ wsX50 ++ wsX30)
def wsX6_init_r1 : List Cond := [Cond.methodLink RX6 1 objectInit, Cond.instanceMethod objectInit, Cond.code objectInit ⟨#[0xb1]⟩ 1 none, Cond.classLink RX6 7 RX4, Cond.instantiable RX4 11, Cond.initialized RX4, Cond.fieldLink RX6 10 "AdmissionControl" "server" "LAdmissionControl$Server;", Cond.fieldLink RX6 16 "AdmissionControl" "trial" "LAdmissionControl$Server;", Cond.classLink RX6 19 RX0, Cond.instantiable RX0 5, Cond.initialized RX0, Cond.fieldLink RX6 22 "AdmissionControl" "history" "LAdmissionControl$History;", Cond.classLink RX6 26 RX5, Cond.instantiable RX5 2, Cond.initialized RX5, Cond.fieldLink RX6 29 "AdmissionControl" "text" "LAdmissionControl$Text;", Cond.methodLink RX6 9 yX4_init, Cond.instanceMethod yX4_init, Cond.code yX4_init cX4_init 2 none, Cond.methodLink RX4 3 objectInit, Cond.classLink RX4 9 RX3, Cond.instantiable RX3 1, Cond.initialized RX3, Cond.fieldLink RX4 14 "AdmissionControl$Server" "settings" "LAdmissionControl$Row;"]
def wsX6_init_r2 : List Cond := [Cond.fieldLink RX4 20 "AdmissionControl$Server" "estimates" "LAdmissionControl$Row;", Cond.classLink RX4 23 RX1, Cond.instantiable RX1 7, Cond.initialized RX1, Cond.fieldLink RX4 26 "AdmissionControl$Server" "lane0" "LAdmissionControl$Lane;", Cond.fieldLink RX4 30 "AdmissionControl$Server" "lane1" "LAdmissionControl$Lane;", Cond.fieldLink RX4 33 "AdmissionControl$Server" "lane2" "LAdmissionControl$Lane;", Cond.classLink RX4 36 RX2, Cond.fieldLink RX4 38 "AdmissionControl$Server" "slots" "[LAdmissionControl$Request;", Cond.fieldLink RX4 42 "AdmissionControl$Server" "count" "I", Cond.fieldLink RX4 46 "AdmissionControl$Server" "open" "I", Cond.fieldLink RX4 49 "AdmissionControl$Server" "rejected" "I", Cond.fieldLink RX4 52 "AdmissionControl$Server" "clock" "I", Cond.fieldLink RX4 55 "AdmissionControl$Server" "idle" "I", Cond.instantiable RX2 11, Cond.initialized RX2, Cond.methodLink RX4 11 yX3_init, Cond.instanceMethod yX3_init, Cond.code yX3_init cX3_init 2 none, Cond.methodLink RX3 1 objectInit, Cond.arrayClass .int, Cond.fieldLink RX3 7 "AdmissionControl$Row" "cells" "[I", Cond.methodLink RX4 25 yX1_init, Cond.instanceMethod yX1_init]
def wsX6_init_r3 : List Cond := [Cond.code yX1_init cX1_init 1 none, Cond.methodLink RX1 3 objectInit, Cond.classLink RX1 9 RX3, Cond.fieldLink RX1 14 "AdmissionControl$Lane" "settings" "LAdmissionControl$Row;", Cond.fieldLink RX1 20 "AdmissionControl$Lane" "refusals" "LAdmissionControl$Row;", Cond.fieldLink RX1 23 "AdmissionControl$Lane" "queue" "LAdmissionControl$Row;", Cond.fieldLink RX1 26 "AdmissionControl$Lane" "length" "I", Cond.fieldLink RX1 30 "AdmissionControl$Lane" "tokens" "I", Cond.fieldLink RX1 33 "AdmissionControl$Lane" "pass" "I", Cond.fieldLink RX1 36 "AdmissionControl$Lane" "units" "I", Cond.methodLink RX1 11 yX3_init, Cond.methodLink RX1 39 yX3_put, Cond.instanceMethod yX3_put, Cond.selects RX3 yX3_put yX3_put, Cond.code yX3_put cX3_put 3 none, Cond.methodLink RX4 58 yX3_put, Cond.methodLink RX4 62 yX2_init, Cond.instanceMethod yX2_init, Cond.code yX2_init cX2_init 2 none, Cond.methodLink RX2 3 objectInit, Cond.fieldLink RX2 9 "AdmissionControl$Request" "number" "I", Cond.instanceMethod yX0_init, Cond.code yX0_init cX0_init 1 none, Cond.methodLink RX0 3 objectInit]
def wsX6_init_r4 : List Cond := [Cond.classLink RX0 9 RX4, Cond.fieldLink RX0 12 "AdmissionControl$History" "newest" "LAdmissionControl$Server;", Cond.fieldLink RX0 18 "AdmissionControl$History" "second" "LAdmissionControl$Server;", Cond.fieldLink RX0 21 "AdmissionControl$History" "third" "LAdmissionControl$Server;", Cond.fieldLink RX0 24 "AdmissionControl$History" "oldest" "LAdmissionControl$Server;", Cond.fieldLink RX0 27 "AdmissionControl$History" "states" "I", Cond.methodLink RX0 11 yX4_init, Cond.instanceMethod yX5_init, Cond.code yX5_init cX5_init 1 none, Cond.methodLink RX5 3 objectInit, Cond.classLink RX5 9 RX3, Cond.fieldLink RX5 14 "AdmissionControl$Text" "characters" "LAdmissionControl$Row;", Cond.fieldLink RX5 20 "AdmissionControl$Text" "length" "I", Cond.methodLink RX5 11 yX3_init]
def wsX6_init : List Cond := .code yX6_init cX6_init 1 none :: ((wsX6_init_r1 ++ (wsX6_init_r2 ++ (wsX6_init_r3 ++ wsX6_init_r4))) ++ wsX40 ++ wsX60 ++ wsX00 ++ wsX50 ++ wsX30 ++ wsX10 ++ wsX20)
def wsX6_isSetting : List Cond := .code yX6_isSetting cX6_isSetting 1 (some .boolean) :: ([])
def wsX6_isServerValue : List Cond := .code yX6_isServerValue cX6_isServerValue 2 (some .boolean) :: ([.methodLink RX6 194 yX6_isBetween, .static yX6_isBetween, .initialized RX6, .code yX6_isBetween cX6_isBetween 3 (some .boolean)])
def wsX6_set_r1 : List Cond := [Cond.constant RX6 37 (-100001), Cond.constant RX6 42 (-100002), Cond.fieldLink RX6 22 "AdmissionControl" "history" "LAdmissionControl$History;", Cond.fieldLink RX6 10 "AdmissionControl" "server" "LAdmissionControl$Server;", Cond.fieldLink RX6 47 "AdmissionControl$Server" "settings" "LAdmissionControl$Row;", Cond.methodLink RX6 33 yX6_isSetting, Cond.static yX6_isSetting, Cond.initialized RX6, Cond.code yX6_isSetting cX6_isSetting 1 (some .boolean), Cond.methodLink RX6 38 yX6_isServerValue, Cond.static yX6_isServerValue, Cond.code yX6_isServerValue cX6_isServerValue 2 (some .boolean), Cond.methodLink RX6 194 yX6_isBetween, Cond.static yX6_isBetween, Cond.code yX6_isBetween cX6_isBetween 3 (some .boolean), Cond.methodLink RX6 43 yX0_keep, Cond.instanceMethod yX0_keep, Cond.selects RX0 yX0_keep yX0_keep, Cond.initialized RX0, Cond.code yX0_keep cX0_keep 3 none, Cond.fieldLink RX0 24 "AdmissionControl$History" "oldest" "LAdmissionControl$Server;", Cond.fieldLink RX0 21 "AdmissionControl$History" "third" "LAdmissionControl$Server;", Cond.fieldLink RX0 18 "AdmissionControl$History" "second" "LAdmissionControl$Server;", Cond.fieldLink RX0 12 "AdmissionControl$History" "newest" "LAdmissionControl$Server;"]
def wsX6_set_r2 : List Cond := [Cond.fieldLink RX0 27 "AdmissionControl$History" "states" "I", Cond.methodLink RX0 35 Lib.Math.min.name, Cond.static Lib.Math.min.name, Cond.initialized "java/lang/Math", Cond.code Lib.Math.min.name Lib.Math.min.code 2 (some .int), Cond.methodLink RX0 31 yX4_copyFrom, Cond.instanceMethod yX4_copyFrom, Cond.selects RX4 yX4_copyFrom yX4_copyFrom, Cond.initialized RX4, Cond.code yX4_copyFrom cX4_copyFrom 5 none, Cond.fieldLink RX4 14 "AdmissionControl$Server" "settings" "LAdmissionControl$Row;", Cond.fieldLink RX4 20 "AdmissionControl$Server" "estimates" "LAdmissionControl$Row;", Cond.fieldLink RX4 26 "AdmissionControl$Server" "lane0" "LAdmissionControl$Lane;", Cond.fieldLink RX4 30 "AdmissionControl$Server" "lane1" "LAdmissionControl$Lane;", Cond.fieldLink RX4 33 "AdmissionControl$Server" "lane2" "LAdmissionControl$Lane;", Cond.fieldLink RX4 42 "AdmissionControl$Server" "count" "I", Cond.fieldLink RX4 46 "AdmissionControl$Server" "open" "I", Cond.fieldLink RX4 49 "AdmissionControl$Server" "rejected" "I", Cond.fieldLink RX4 52 "AdmissionControl$Server" "clock" "I", Cond.fieldLink RX4 55 "AdmissionControl$Server" "idle" "I", Cond.methodLink RX4 63 yX3_copyFrom, Cond.instanceMethod yX3_copyFrom, Cond.selects RX3 yX3_copyFrom yX3_copyFrom, Cond.initialized RX3]
def wsX6_set_r3 : List Cond := [Cond.code yX3_copyFrom cX3_copyFrom 3 none, Cond.fieldLink RX3 7 "AdmissionControl$Row" "cells" "[I", Cond.methodLink RX4 67 yX1_copyFrom, Cond.instanceMethod yX1_copyFrom, Cond.selects RX1 yX1_copyFrom yX1_copyFrom, Cond.initialized RX1, Cond.code yX1_copyFrom cX1_copyFrom 2 none, Cond.fieldLink RX1 14 "AdmissionControl$Lane" "settings" "LAdmissionControl$Row;", Cond.fieldLink RX1 20 "AdmissionControl$Lane" "refusals" "LAdmissionControl$Row;", Cond.fieldLink RX1 23 "AdmissionControl$Lane" "queue" "LAdmissionControl$Row;", Cond.fieldLink RX1 26 "AdmissionControl$Lane" "length" "I", Cond.fieldLink RX1 30 "AdmissionControl$Lane" "tokens" "I", Cond.fieldLink RX1 33 "AdmissionControl$Lane" "pass" "I", Cond.fieldLink RX1 36 "AdmissionControl$Lane" "units" "I", Cond.methodLink RX1 53 yX3_copyFrom, Cond.methodLink RX4 70 yX4_find, Cond.instanceMethod yX4_find, Cond.selects RX4 yX4_find yX4_find, Cond.code yX4_find cX4_find 2 (some (.object "AdmissionControl$Request")), Cond.fieldLink RX4 38 "AdmissionControl$Server" "slots" "[LAdmissionControl$Request;", Cond.methodLink RX4 74 yX2_copyFrom, Cond.instanceMethod yX2_copyFrom, Cond.selects RX2 yX2_copyFrom yX2_copyFrom, Cond.initialized RX2]
def wsX6_set_r4 : List Cond := [Cond.code yX2_copyFrom cX2_copyFrom 2 none, Cond.fieldLink RX2 15 "AdmissionControl$Request" "kind" "I", Cond.fieldLink RX2 18 "AdmissionControl$Request" "shape" "I", Cond.fieldLink RX2 21 "AdmissionControl$Request" "cost" "I", Cond.fieldLink RX2 24 "AdmissionControl$Request" "state" "I", Cond.fieldLink RX2 27 "AdmissionControl$Request" "price" "I", Cond.fieldLink RX2 30 "AdmissionControl$Request" "units" "I", Cond.fieldLink RX2 33 "AdmissionControl$Request" "offers" "I", Cond.fieldLink RX2 36 "AdmissionControl$Request" "reason" "I", Cond.fieldLink RX2 39 "AdmissionControl$Request" "admitted" "I", Cond.fieldLink RX2 42 "AdmissionControl$Request" "tick" "I", Cond.methodLink RX6 51 yX3_at, Cond.instanceMethod yX3_at, Cond.selects RX3 yX3_at yX3_at, Cond.code yX3_at cX3_at 2 (some .int), Cond.methodLink RX6 57 yX3_put, Cond.instanceMethod yX3_put, Cond.selects RX3 yX3_put yX3_put, Cond.code yX3_put cX3_put 3 none]
def wsX6_set : List Cond := .code yX6_set cX6_set 4 (some .int) :: ((wsX6_set_r1 ++ (wsX6_set_r2 ++ (wsX6_set_r3 ++ wsX6_set_r4))) ++ wsX60 ++ wsX40 ++ wsX00 ++ wsX30 ++ wsX10 ++ wsX20)
def wsX6_isClassValue : List Cond := .code yX6_isClassValue cX6_isClassValue 2 (some .boolean) :: ([.methodLink RX6 194 yX6_isBetween, .static yX6_isBetween, .initialized RX6, .code yX6_isBetween cX6_isBetween 3 (some .boolean)])
def wsX6_setClass_r1 : List Cond := [Cond.constant RX6 37 (-100001), Cond.constant RX6 42 (-100002), Cond.fieldLink RX6 22 "AdmissionControl" "history" "LAdmissionControl$History;", Cond.fieldLink RX6 10 "AdmissionControl" "server" "LAdmissionControl$Server;", Cond.fieldLink RX6 71 "AdmissionControl$Lane" "settings" "LAdmissionControl$Row;", Cond.methodLink RX6 61 yX6_isKind, Cond.static yX6_isKind, Cond.initialized RX6, Cond.code yX6_isKind cX6_isKind 1 (some .boolean), Cond.methodLink RX6 33 yX6_isSetting, Cond.static yX6_isSetting, Cond.code yX6_isSetting cX6_isSetting 1 (some .boolean), Cond.methodLink RX6 64 yX6_isClassValue, Cond.static yX6_isClassValue, Cond.code yX6_isClassValue cX6_isClassValue 2 (some .boolean), Cond.methodLink RX6 194 yX6_isBetween, Cond.static yX6_isBetween, Cond.code yX6_isBetween cX6_isBetween 3 (some .boolean), Cond.methodLink RX6 43 yX0_keep, Cond.instanceMethod yX0_keep, Cond.selects RX0 yX0_keep yX0_keep, Cond.initialized RX0, Cond.code yX0_keep cX0_keep 3 none, Cond.fieldLink RX0 24 "AdmissionControl$History" "oldest" "LAdmissionControl$Server;"]
def wsX6_setClass_r2 : List Cond := [Cond.fieldLink RX0 21 "AdmissionControl$History" "third" "LAdmissionControl$Server;", Cond.fieldLink RX0 18 "AdmissionControl$History" "second" "LAdmissionControl$Server;", Cond.fieldLink RX0 12 "AdmissionControl$History" "newest" "LAdmissionControl$Server;", Cond.fieldLink RX0 27 "AdmissionControl$History" "states" "I", Cond.methodLink RX0 35 Lib.Math.min.name, Cond.static Lib.Math.min.name, Cond.initialized "java/lang/Math", Cond.code Lib.Math.min.name Lib.Math.min.code 2 (some .int), Cond.methodLink RX0 31 yX4_copyFrom, Cond.instanceMethod yX4_copyFrom, Cond.selects RX4 yX4_copyFrom yX4_copyFrom, Cond.initialized RX4, Cond.code yX4_copyFrom cX4_copyFrom 5 none, Cond.fieldLink RX4 14 "AdmissionControl$Server" "settings" "LAdmissionControl$Row;", Cond.fieldLink RX4 20 "AdmissionControl$Server" "estimates" "LAdmissionControl$Row;", Cond.fieldLink RX4 26 "AdmissionControl$Server" "lane0" "LAdmissionControl$Lane;", Cond.fieldLink RX4 30 "AdmissionControl$Server" "lane1" "LAdmissionControl$Lane;", Cond.fieldLink RX4 33 "AdmissionControl$Server" "lane2" "LAdmissionControl$Lane;", Cond.fieldLink RX4 42 "AdmissionControl$Server" "count" "I", Cond.fieldLink RX4 46 "AdmissionControl$Server" "open" "I", Cond.fieldLink RX4 49 "AdmissionControl$Server" "rejected" "I", Cond.fieldLink RX4 52 "AdmissionControl$Server" "clock" "I", Cond.fieldLink RX4 55 "AdmissionControl$Server" "idle" "I", Cond.methodLink RX4 63 yX3_copyFrom]
def wsX6_setClass_r3 : List Cond := [Cond.instanceMethod yX3_copyFrom, Cond.selects RX3 yX3_copyFrom yX3_copyFrom, Cond.initialized RX3, Cond.code yX3_copyFrom cX3_copyFrom 3 none, Cond.fieldLink RX3 7 "AdmissionControl$Row" "cells" "[I", Cond.methodLink RX4 67 yX1_copyFrom, Cond.instanceMethod yX1_copyFrom, Cond.selects RX1 yX1_copyFrom yX1_copyFrom, Cond.initialized RX1, Cond.code yX1_copyFrom cX1_copyFrom 2 none, Cond.fieldLink RX1 14 "AdmissionControl$Lane" "settings" "LAdmissionControl$Row;", Cond.fieldLink RX1 20 "AdmissionControl$Lane" "refusals" "LAdmissionControl$Row;", Cond.fieldLink RX1 23 "AdmissionControl$Lane" "queue" "LAdmissionControl$Row;", Cond.fieldLink RX1 26 "AdmissionControl$Lane" "length" "I", Cond.fieldLink RX1 30 "AdmissionControl$Lane" "tokens" "I", Cond.fieldLink RX1 33 "AdmissionControl$Lane" "pass" "I", Cond.fieldLink RX1 36 "AdmissionControl$Lane" "units" "I", Cond.methodLink RX1 53 yX3_copyFrom, Cond.methodLink RX4 70 yX4_find, Cond.instanceMethod yX4_find, Cond.selects RX4 yX4_find yX4_find, Cond.code yX4_find cX4_find 2 (some (.object "AdmissionControl$Request")), Cond.fieldLink RX4 38 "AdmissionControl$Server" "slots" "[LAdmissionControl$Request;", Cond.methodLink RX4 74 yX2_copyFrom]
def wsX6_setClass_r4 : List Cond := [Cond.instanceMethod yX2_copyFrom, Cond.selects RX2 yX2_copyFrom yX2_copyFrom, Cond.initialized RX2, Cond.code yX2_copyFrom cX2_copyFrom 2 none, Cond.fieldLink RX2 15 "AdmissionControl$Request" "kind" "I", Cond.fieldLink RX2 18 "AdmissionControl$Request" "shape" "I", Cond.fieldLink RX2 21 "AdmissionControl$Request" "cost" "I", Cond.fieldLink RX2 24 "AdmissionControl$Request" "state" "I", Cond.fieldLink RX2 27 "AdmissionControl$Request" "price" "I", Cond.fieldLink RX2 30 "AdmissionControl$Request" "units" "I", Cond.fieldLink RX2 33 "AdmissionControl$Request" "offers" "I", Cond.fieldLink RX2 36 "AdmissionControl$Request" "reason" "I", Cond.fieldLink RX2 39 "AdmissionControl$Request" "admitted" "I", Cond.fieldLink RX2 42 "AdmissionControl$Request" "tick" "I", Cond.methodLink RX6 67 yX4_lane, Cond.instanceMethod yX4_lane, Cond.selects RX4 yX4_lane yX4_lane, Cond.code yX4_lane cX4_lane 2 (some (.object "AdmissionControl$Lane")), Cond.methodLink RX6 51 yX3_at, Cond.instanceMethod yX3_at, Cond.selects RX3 yX3_at yX3_at, Cond.code yX3_at cX3_at 2 (some .int), Cond.methodLink RX6 57 yX3_put, Cond.instanceMethod yX3_put]
def wsX6_setClass_r5 : List Cond := [Cond.selects RX3 yX3_put yX3_put, Cond.code yX3_put cX3_put 3 none]
def wsX6_setClass : List Cond := .code yX6_setClass cX6_setClass 6 (some .int) :: ((wsX6_setClass_r1 ++ (wsX6_setClass_r2 ++ (wsX6_setClass_r3 ++ (wsX6_setClass_r4 ++ wsX6_setClass_r5)))) ++ wsX60 ++ wsX10 ++ wsX00 ++ wsX40 ++ wsX30 ++ wsX20)
def wsX6_offer_r1 : List Cond := [Cond.fieldLink RX6 10 "AdmissionControl" "server" "LAdmissionControl$Server;", Cond.fieldLink RX6 22 "AdmissionControl" "history" "LAdmissionControl$History;", Cond.methodLink RX6 74 yX4_errorOfOffer, Cond.instanceMethod yX4_errorOfOffer, Cond.selects RX4 yX4_errorOfOffer yX4_errorOfOffer, Cond.initialized RX4, Cond.code yX4_errorOfOffer cX4_errorOfOffer 4 (some .int), Cond.constant RX4 84 (-100001), Cond.constant RX4 89 (-100002), Cond.fieldLink RX4 42 "AdmissionControl$Server" "count" "I", Cond.constant RX4 90 (-100004), Cond.static yX6_isKind, Cond.initialized RX6, Cond.code yX6_isKind cX6_isKind 1 (some .boolean), Cond.static yX6_isShape, Cond.code yX6_isShape cX6_isShape 1 (some .boolean), Cond.static yX6_isBetween, Cond.code yX6_isBetween cX6_isBetween 3 (some .boolean), Cond.methodLink RX6 43 yX0_keep, Cond.instanceMethod yX0_keep, Cond.selects RX0 yX0_keep yX0_keep, Cond.initialized RX0, Cond.code yX0_keep cX0_keep 3 none, Cond.fieldLink RX0 24 "AdmissionControl$History" "oldest" "LAdmissionControl$Server;"]
def wsX6_offer_r2 : List Cond := [Cond.fieldLink RX0 21 "AdmissionControl$History" "third" "LAdmissionControl$Server;", Cond.fieldLink RX0 18 "AdmissionControl$History" "second" "LAdmissionControl$Server;", Cond.fieldLink RX0 12 "AdmissionControl$History" "newest" "LAdmissionControl$Server;", Cond.fieldLink RX0 27 "AdmissionControl$History" "states" "I", Cond.methodLink RX0 35 Lib.Math.min.name, Cond.static Lib.Math.min.name, Cond.initialized "java/lang/Math", Cond.code Lib.Math.min.name Lib.Math.min.code 2 (some .int), Cond.methodLink RX0 31 yX4_copyFrom, Cond.instanceMethod yX4_copyFrom, Cond.selects RX4 yX4_copyFrom yX4_copyFrom, Cond.code yX4_copyFrom cX4_copyFrom 5 none, Cond.fieldLink RX4 14 "AdmissionControl$Server" "settings" "LAdmissionControl$Row;", Cond.fieldLink RX4 20 "AdmissionControl$Server" "estimates" "LAdmissionControl$Row;", Cond.fieldLink RX4 26 "AdmissionControl$Server" "lane0" "LAdmissionControl$Lane;", Cond.fieldLink RX4 30 "AdmissionControl$Server" "lane1" "LAdmissionControl$Lane;", Cond.fieldLink RX4 33 "AdmissionControl$Server" "lane2" "LAdmissionControl$Lane;", Cond.fieldLink RX4 46 "AdmissionControl$Server" "open" "I", Cond.fieldLink RX4 49 "AdmissionControl$Server" "rejected" "I", Cond.fieldLink RX4 52 "AdmissionControl$Server" "clock" "I", Cond.fieldLink RX4 55 "AdmissionControl$Server" "idle" "I", Cond.methodLink RX4 63 yX3_copyFrom, Cond.instanceMethod yX3_copyFrom, Cond.selects RX3 yX3_copyFrom yX3_copyFrom]
def wsX6_offer_r3 : List Cond := [Cond.initialized RX3, Cond.code yX3_copyFrom cX3_copyFrom 3 none, Cond.fieldLink RX3 7 "AdmissionControl$Row" "cells" "[I", Cond.methodLink RX4 67 yX1_copyFrom, Cond.instanceMethod yX1_copyFrom, Cond.selects RX1 yX1_copyFrom yX1_copyFrom, Cond.initialized RX1, Cond.code yX1_copyFrom cX1_copyFrom 2 none, Cond.fieldLink RX1 14 "AdmissionControl$Lane" "settings" "LAdmissionControl$Row;", Cond.fieldLink RX1 20 "AdmissionControl$Lane" "refusals" "LAdmissionControl$Row;", Cond.fieldLink RX1 23 "AdmissionControl$Lane" "queue" "LAdmissionControl$Row;", Cond.fieldLink RX1 26 "AdmissionControl$Lane" "length" "I", Cond.fieldLink RX1 30 "AdmissionControl$Lane" "tokens" "I", Cond.fieldLink RX1 33 "AdmissionControl$Lane" "pass" "I", Cond.fieldLink RX1 36 "AdmissionControl$Lane" "units" "I", Cond.methodLink RX1 53 yX3_copyFrom, Cond.methodLink RX4 70 yX4_find, Cond.instanceMethod yX4_find, Cond.selects RX4 yX4_find yX4_find, Cond.code yX4_find cX4_find 2 (some (.object "AdmissionControl$Request")), Cond.fieldLink RX4 38 "AdmissionControl$Server" "slots" "[LAdmissionControl$Request;", Cond.methodLink RX4 74 yX2_copyFrom, Cond.instanceMethod yX2_copyFrom, Cond.selects RX2 yX2_copyFrom yX2_copyFrom]
def wsX6_offer_r4 : List Cond := [Cond.initialized RX2, Cond.code yX2_copyFrom cX2_copyFrom 2 none, Cond.fieldLink RX2 15 "AdmissionControl$Request" "kind" "I", Cond.fieldLink RX2 18 "AdmissionControl$Request" "shape" "I", Cond.fieldLink RX2 21 "AdmissionControl$Request" "cost" "I", Cond.fieldLink RX2 24 "AdmissionControl$Request" "state" "I", Cond.fieldLink RX2 27 "AdmissionControl$Request" "price" "I", Cond.fieldLink RX2 30 "AdmissionControl$Request" "units" "I", Cond.fieldLink RX2 33 "AdmissionControl$Request" "offers" "I", Cond.fieldLink RX2 36 "AdmissionControl$Request" "reason" "I", Cond.fieldLink RX2 39 "AdmissionControl$Request" "admitted" "I", Cond.fieldLink RX2 42 "AdmissionControl$Request" "tick" "I", Cond.methodLink RX6 78 yX4_offerNew, Cond.instanceMethod yX4_offerNew, Cond.selects RX4 yX4_offerNew yX4_offerNew, Cond.code yX4_offerNew cX4_offerNew 5 (some .int), Cond.methodLink RX4 91 yX2_begin, Cond.instanceMethod yX2_begin, Cond.selects RX2 yX2_begin yX2_begin, Cond.code yX2_begin cX2_begin 4 none, Cond.methodLink RX4 95 yX4_offerNow, Cond.instanceMethod yX4_offerNow, Cond.selects RX4 yX4_offerNow yX4_offerNow, Cond.code yX4_offerNow cX4_offerNow 3 (some .int)]
def wsX6_offer_r5 : List Cond := [Cond.fieldLink RX4 136 "AdmissionControl$Request" "shape" "I", Cond.fieldLink RX4 119 "AdmissionControl$Request" "price" "I", Cond.fieldLink RX4 142 "AdmissionControl$Request" "offers" "I", Cond.fieldLink RX4 145 "AdmissionControl$Request" "kind" "I", Cond.methodLink RX4 139 yX4_expectedCost, Cond.instanceMethod yX4_expectedCost, Cond.selects RX4 yX4_expectedCost yX4_expectedCost, Cond.code yX4_expectedCost cX4_expectedCost 2 (some .int), Cond.methodLink RX4 107 Lib.Math.max.name, Cond.static Lib.Math.max.name, Cond.code Lib.Math.max.name Lib.Math.max.code 2 (some .int), Cond.methodLink RX4 103 yX3_at, Cond.instanceMethod yX3_at, Cond.selects RX3 yX3_at yX3_at, Cond.code yX3_at cX3_at 2 (some .int), Cond.methodLink RX4 148 yX4_lane, Cond.instanceMethod yX4_lane, Cond.selects RX4 yX4_lane yX4_lane, Cond.code yX4_lane cX4_lane 2 (some (.object "AdmissionControl$Lane")), Cond.methodLink RX4 152 yX4_firstRefusal, Cond.instanceMethod yX4_firstRefusal, Cond.selects RX4 yX4_firstRefusal yX4_firstRefusal, Cond.code yX4_firstRefusal cX4_firstRefusal 6 (some .int), Cond.fieldLink RX4 125 "AdmissionControl$Lane" "settings" "LAdmissionControl$Row;"]
def wsX6_offer_r6 : List Cond := [Cond.fieldLink RX4 113 "AdmissionControl$Lane" "length" "I", Cond.fieldLink RX4 133 "AdmissionControl$Lane" "tokens" "I", Cond.methodLink RX4 126 yX4_backlogOf, Cond.instanceMethod yX4_backlogOf, Cond.selects RX4 yX4_backlogOf yX4_backlogOf, Cond.code yX4_backlogOf cX4_backlogOf 5 (some .int), Cond.fieldLink RX4 116 "AdmissionControl$Lane" "queue" "LAdmissionControl$Row;", Cond.fieldLink RX4 122 "AdmissionControl$Request" "units" "I", Cond.static yX6_quotient, Cond.code yX6_quotient cX6_quotient 2 (some .int), Cond.methodLink RX4 156 yX4_admit, Cond.instanceMethod yX4_admit, Cond.selects RX4 yX4_admit yX4_admit, Cond.code yX4_admit cX4_admit 3 none, Cond.fieldLink RX4 166 "AdmissionControl$Request" "number" "I", Cond.fieldLink RX4 172 "AdmissionControl$Request" "state" "I", Cond.fieldLink RX4 175 "AdmissionControl$Request" "admitted" "I", Cond.methodLink RX4 163 yX4_catchUp, Cond.instanceMethod yX4_catchUp, Cond.selects RX4 yX4_catchUp yX4_catchUp, Cond.code yX4_catchUp cX4_catchUp 5 none, Cond.fieldLink RX4 178 "AdmissionControl$Lane" "pass" "I", Cond.methodLink RX4 169 yX1_join, Cond.instanceMethod yX1_join]
def wsX6_offer_r7 : List Cond := [Cond.selects RX1 yX1_join yX1_join, Cond.code yX1_join cX1_join 2 none, Cond.methodLink RX1 39 yX3_put, Cond.instanceMethod yX3_put, Cond.selects RX3 yX3_put yX3_put, Cond.code yX3_put cX3_put 3 none, Cond.methodLink RX4 159 yX4_refuse, Cond.instanceMethod yX4_refuse, Cond.selects RX4 yX4_refuse yX4_refuse, Cond.code yX4_refuse cX4_refuse 4 none, Cond.fieldLink RX4 181 "AdmissionControl$Lane" "refusals" "LAdmissionControl$Row;", Cond.fieldLink RX4 184 "AdmissionControl$Request" "reason" "I", Cond.fieldLink RX4 187 "AdmissionControl$Request" "tick" "I", Cond.methodLink RX4 58 yX3_put]
def wsX6_offer : List Cond := .code yX6_offer cX6_offer 5 (some .int) :: ((wsX6_offer_r1 ++ (wsX6_offer_r2 ++ (wsX6_offer_r3 ++ (wsX6_offer_r4 ++ (wsX6_offer_r5 ++ (wsX6_offer_r6 ++ wsX6_offer_r7)))))) ++ wsX60 ++ wsX40 ++ wsX00 ++ wsX30 ++ wsX10 ++ wsX20)
def wsX6_advance_r1 : List Cond := [Cond.fieldLink RX6 10 "AdmissionControl" "server" "LAdmissionControl$Server;", Cond.fieldLink RX6 22 "AdmissionControl" "history" "LAdmissionControl$History;", Cond.methodLink RX6 81 yX4_errorOfTicks, Cond.instanceMethod yX4_errorOfTicks, Cond.selects RX4 yX4_errorOfTicks yX4_errorOfTicks, Cond.initialized RX4, Cond.code yX4_errorOfTicks cX4_errorOfTicks 2 (some .int), Cond.constant RX4 89 (-100002), Cond.fieldLink RX4 52 "AdmissionControl$Server" "clock" "I", Cond.constant RX4 90 (-100004), Cond.static yX6_isBetween, Cond.initialized RX6, Cond.code yX6_isBetween cX6_isBetween 3 (some .boolean), Cond.methodLink RX6 43 yX0_keep, Cond.instanceMethod yX0_keep, Cond.selects RX0 yX0_keep yX0_keep, Cond.initialized RX0, Cond.code yX0_keep cX0_keep 3 none, Cond.fieldLink RX0 24 "AdmissionControl$History" "oldest" "LAdmissionControl$Server;", Cond.fieldLink RX0 21 "AdmissionControl$History" "third" "LAdmissionControl$Server;", Cond.fieldLink RX0 18 "AdmissionControl$History" "second" "LAdmissionControl$Server;", Cond.fieldLink RX0 12 "AdmissionControl$History" "newest" "LAdmissionControl$Server;", Cond.fieldLink RX0 27 "AdmissionControl$History" "states" "I", Cond.methodLink RX0 35 Lib.Math.min.name]
def wsX6_advance_r2 : List Cond := [Cond.static Lib.Math.min.name, Cond.initialized "java/lang/Math", Cond.code Lib.Math.min.name Lib.Math.min.code 2 (some .int), Cond.methodLink RX0 31 yX4_copyFrom, Cond.instanceMethod yX4_copyFrom, Cond.selects RX4 yX4_copyFrom yX4_copyFrom, Cond.code yX4_copyFrom cX4_copyFrom 5 none, Cond.fieldLink RX4 14 "AdmissionControl$Server" "settings" "LAdmissionControl$Row;", Cond.fieldLink RX4 20 "AdmissionControl$Server" "estimates" "LAdmissionControl$Row;", Cond.fieldLink RX4 26 "AdmissionControl$Server" "lane0" "LAdmissionControl$Lane;", Cond.fieldLink RX4 30 "AdmissionControl$Server" "lane1" "LAdmissionControl$Lane;", Cond.fieldLink RX4 33 "AdmissionControl$Server" "lane2" "LAdmissionControl$Lane;", Cond.fieldLink RX4 42 "AdmissionControl$Server" "count" "I", Cond.fieldLink RX4 46 "AdmissionControl$Server" "open" "I", Cond.fieldLink RX4 49 "AdmissionControl$Server" "rejected" "I", Cond.fieldLink RX4 55 "AdmissionControl$Server" "idle" "I", Cond.methodLink RX4 63 yX3_copyFrom, Cond.instanceMethod yX3_copyFrom, Cond.selects RX3 yX3_copyFrom yX3_copyFrom, Cond.initialized RX3, Cond.code yX3_copyFrom cX3_copyFrom 3 none, Cond.fieldLink RX3 7 "AdmissionControl$Row" "cells" "[I", Cond.methodLink RX4 67 yX1_copyFrom, Cond.instanceMethod yX1_copyFrom]
def wsX6_advance_r3 : List Cond := [Cond.selects RX1 yX1_copyFrom yX1_copyFrom, Cond.initialized RX1, Cond.code yX1_copyFrom cX1_copyFrom 2 none, Cond.fieldLink RX1 14 "AdmissionControl$Lane" "settings" "LAdmissionControl$Row;", Cond.fieldLink RX1 20 "AdmissionControl$Lane" "refusals" "LAdmissionControl$Row;", Cond.fieldLink RX1 23 "AdmissionControl$Lane" "queue" "LAdmissionControl$Row;", Cond.fieldLink RX1 26 "AdmissionControl$Lane" "length" "I", Cond.fieldLink RX1 30 "AdmissionControl$Lane" "tokens" "I", Cond.fieldLink RX1 33 "AdmissionControl$Lane" "pass" "I", Cond.fieldLink RX1 36 "AdmissionControl$Lane" "units" "I", Cond.methodLink RX1 53 yX3_copyFrom, Cond.methodLink RX4 70 yX4_find, Cond.instanceMethod yX4_find, Cond.selects RX4 yX4_find yX4_find, Cond.code yX4_find cX4_find 2 (some (.object "AdmissionControl$Request")), Cond.fieldLink RX4 38 "AdmissionControl$Server" "slots" "[LAdmissionControl$Request;", Cond.methodLink RX4 74 yX2_copyFrom, Cond.instanceMethod yX2_copyFrom, Cond.selects RX2 yX2_copyFrom yX2_copyFrom, Cond.initialized RX2, Cond.code yX2_copyFrom cX2_copyFrom 2 none, Cond.fieldLink RX2 15 "AdmissionControl$Request" "kind" "I", Cond.fieldLink RX2 18 "AdmissionControl$Request" "shape" "I", Cond.fieldLink RX2 21 "AdmissionControl$Request" "cost" "I"]
def wsX6_advance_r4 : List Cond := [Cond.fieldLink RX2 24 "AdmissionControl$Request" "state" "I", Cond.fieldLink RX2 27 "AdmissionControl$Request" "price" "I", Cond.fieldLink RX2 30 "AdmissionControl$Request" "units" "I", Cond.fieldLink RX2 33 "AdmissionControl$Request" "offers" "I", Cond.fieldLink RX2 36 "AdmissionControl$Request" "reason" "I", Cond.fieldLink RX2 39 "AdmissionControl$Request" "admitted" "I", Cond.fieldLink RX2 42 "AdmissionControl$Request" "tick" "I", Cond.methodLink RX6 84 yX4_letPass, Cond.instanceMethod yX4_letPass, Cond.selects RX4 yX4_letPass yX4_letPass, Cond.code yX4_letPass cX4_letPass 4 (some .int), Cond.methodLink RX4 99 yX4_tick, Cond.instanceMethod yX4_tick, Cond.selects RX4 yX4_tick yX4_tick, Cond.code yX4_tick cX4_tick 3 (some .int), Cond.fieldLink RX4 125 "AdmissionControl$Lane" "settings" "LAdmissionControl$Row;", Cond.fieldLink RX4 172 "AdmissionControl$Request" "state" "I", Cond.fieldLink RX4 187 "AdmissionControl$Request" "tick" "I", Cond.methodLink RX4 148 yX4_lane, Cond.instanceMethod yX4_lane, Cond.selects RX4 yX4_lane yX4_lane, Cond.code yX4_lane cX4_lane 2 (some (.object "AdmissionControl$Lane")), Cond.methodLink RX4 103 yX3_at, Cond.instanceMethod yX3_at]
def wsX6_advance_r5 : List Cond := [Cond.selects RX3 yX3_at yX3_at, Cond.code yX3_at cX3_at 2 (some .int), Cond.methodLink RX4 189 yX1_gain, Cond.instanceMethod yX1_gain, Cond.selects RX1 yX1_gain yX1_gain, Cond.code yX1_gain cX1_gain 3 none, Cond.methodLink RX1 47 Lib.Math.min.name, Cond.methodLink RX1 43 yX3_at, Cond.methodLink RX4 95 yX4_offerNow, Cond.instanceMethod yX4_offerNow, Cond.selects RX4 yX4_offerNow yX4_offerNow, Cond.code yX4_offerNow cX4_offerNow 3 (some .int), Cond.fieldLink RX4 136 "AdmissionControl$Request" "shape" "I", Cond.fieldLink RX4 119 "AdmissionControl$Request" "price" "I", Cond.fieldLink RX4 142 "AdmissionControl$Request" "offers" "I", Cond.fieldLink RX4 145 "AdmissionControl$Request" "kind" "I", Cond.methodLink RX4 139 yX4_expectedCost, Cond.instanceMethod yX4_expectedCost, Cond.selects RX4 yX4_expectedCost yX4_expectedCost, Cond.code yX4_expectedCost cX4_expectedCost 2 (some .int), Cond.methodLink RX4 107 Lib.Math.max.name, Cond.static Lib.Math.max.name, Cond.code Lib.Math.max.name Lib.Math.max.code 2 (some .int), Cond.methodLink RX4 152 yX4_firstRefusal]
def wsX6_advance_r6 : List Cond := [Cond.instanceMethod yX4_firstRefusal, Cond.selects RX4 yX4_firstRefusal yX4_firstRefusal, Cond.code yX4_firstRefusal cX4_firstRefusal 6 (some .int), Cond.fieldLink RX4 113 "AdmissionControl$Lane" "length" "I", Cond.fieldLink RX4 133 "AdmissionControl$Lane" "tokens" "I", Cond.methodLink RX4 126 yX4_backlogOf, Cond.instanceMethod yX4_backlogOf, Cond.selects RX4 yX4_backlogOf yX4_backlogOf, Cond.code yX4_backlogOf cX4_backlogOf 5 (some .int), Cond.fieldLink RX4 116 "AdmissionControl$Lane" "queue" "LAdmissionControl$Row;", Cond.fieldLink RX4 122 "AdmissionControl$Request" "units" "I", Cond.static yX6_quotient, Cond.code yX6_quotient cX6_quotient 2 (some .int), Cond.methodLink RX4 156 yX4_admit, Cond.instanceMethod yX4_admit, Cond.selects RX4 yX4_admit yX4_admit, Cond.code yX4_admit cX4_admit 3 none, Cond.fieldLink RX4 166 "AdmissionControl$Request" "number" "I", Cond.fieldLink RX4 175 "AdmissionControl$Request" "admitted" "I", Cond.methodLink RX4 163 yX4_catchUp, Cond.instanceMethod yX4_catchUp, Cond.selects RX4 yX4_catchUp yX4_catchUp, Cond.code yX4_catchUp cX4_catchUp 5 none, Cond.fieldLink RX4 178 "AdmissionControl$Lane" "pass" "I"]
def wsX6_advance_r7 : List Cond := [Cond.methodLink RX4 169 yX1_join, Cond.instanceMethod yX1_join, Cond.selects RX1 yX1_join yX1_join, Cond.code yX1_join cX1_join 2 none, Cond.methodLink RX1 39 yX3_put, Cond.instanceMethod yX3_put, Cond.selects RX3 yX3_put yX3_put, Cond.code yX3_put cX3_put 3 none, Cond.methodLink RX4 159 yX4_refuse, Cond.instanceMethod yX4_refuse, Cond.selects RX4 yX4_refuse yX4_refuse, Cond.code yX4_refuse cX4_refuse 4 none, Cond.fieldLink RX4 181 "AdmissionControl$Lane" "refusals" "LAdmissionControl$Row;", Cond.fieldLink RX4 184 "AdmissionControl$Request" "reason" "I", Cond.methodLink RX4 58 yX3_put, Cond.methodLink RX4 192 yX4_refuseThoseWhoWaited, Cond.instanceMethod yX4_refuseThoseWhoWaited, Cond.selects RX4 yX4_refuseThoseWhoWaited yX4_refuseThoseWhoWaited, Cond.code yX4_refuseThoseWhoWaited cX4_refuseThoseWhoWaited 5 none, Cond.methodLink RX4 198 yX4_hasWaitedTooLong, Cond.instanceMethod yX4_hasWaitedTooLong, Cond.selects RX4 yX4_hasWaitedTooLong yX4_hasWaitedTooLong, Cond.code yX4_hasWaitedTooLong cX4_hasWaitedTooLong 2 (some .boolean), Cond.methodLink RX4 202 yX1_leave]
def wsX6_advance_r8 : List Cond := [Cond.instanceMethod yX1_leave, Cond.selects RX1 yX1_leave yX1_leave, Cond.code yX1_leave cX1_leave 3 none, Cond.methodLink RX4 195 yX4_workOneUnit, Cond.instanceMethod yX4_workOneUnit, Cond.selects RX4 yX4_workOneUnit yX4_workOneUnit, Cond.code yX4_workOneUnit cX4_workOneUnit 3 (some .int), Cond.fieldLink RX4 209 "AdmissionControl$Lane" "units" "I", Cond.fieldLink RX4 210 "AdmissionControl$Request" "cost" "I", Cond.methodLink RX4 205 yX4_nextLane, Cond.instanceMethod yX4_nextLane, Cond.selects RX4 yX4_nextLane yX4_nextLane, Cond.code yX4_nextLane cX4_nextLane 4 (some (.object "AdmissionControl$Lane")), Cond.methodLink RX4 213 yX4_complete, Cond.instanceMethod yX4_complete, Cond.selects RX4 yX4_complete yX4_complete, Cond.code yX4_complete cX4_complete 4 none]
def wsX6_advance : List Cond := .code yX6_advance cX6_advance 3 (some .int) :: ((wsX6_advance_r1 ++ (wsX6_advance_r2 ++ (wsX6_advance_r3 ++ (wsX6_advance_r4 ++ (wsX6_advance_r5 ++ (wsX6_advance_r6 ++ (wsX6_advance_r7 ++ wsX6_advance_r8))))))) ++ wsX60 ++ wsX40 ++ wsX00 ++ wsX30 ++ wsX10 ++ wsX20)
def wsX6_append : List Cond := .code yX6_append cX6_append 2 (some .int) :: ([.constant RX6 42 (-100002), .fieldLink RX6 29 "AdmissionControl" "text" "LAdmissionControl$Text;", .fieldLink RX6 87 "AdmissionControl$Text" "length" "I", .constant RX6 91 (-100004), .methodLink RX6 92 yX5_add, .instanceMethod yX5_add, .selects RX5 yX5_add yX5_add, .initialized RX5, .code yX5_add cX5_add 2 none, .fieldLink RX5 20 "AdmissionControl$Text" "length" "I", .fieldLink RX5 14 "AdmissionControl$Text" "characters" "LAdmissionControl$Row;", .methodLink RX5 24 yX3_put, .instanceMethod yX3_put, .selects RX3 yX3_put yX3_put, .initialized RX3, .code yX3_put cX3_put 3 none, .fieldLink RX3 7 "AdmissionControl$Row" "cells" "[I"] ++ wsX60 ++ wsX50 ++ wsX30)
def wsX6_clearText : List Cond := .code yX6_clearText cX6_clearText 2 (some .int) :: ([.fieldLink RX6 29 "AdmissionControl" "text" "LAdmissionControl$Text;", .fieldLink RX6 87 "AdmissionControl$Text" "length" "I"] ++ wsX60 ++ wsX50)
def wsX6_fault_r1 : List Cond := [Cond.fieldLink RX6 29 "AdmissionControl" "text" "LAdmissionControl$Text;", Cond.methodLink RX6 96 yX5_firstFault, Cond.instanceMethod yX5_firstFault, Cond.selects RX5 yX5_firstFault yX5_firstFault, Cond.initialized RX5, Cond.code yX5_firstFault cX5_firstFault 3 (some .int), Cond.fieldLink RX5 20 "AdmissionControl$Text" "length" "I", Cond.fieldLink RX5 14 "AdmissionControl$Text" "characters" "LAdmissionControl$Row;", Cond.constant RX5 36 (-100005), Cond.methodLink RX5 28 yX3_at, Cond.instanceMethod yX3_at, Cond.selects RX3 yX3_at yX3_at, Cond.initialized RX3, Cond.code yX3_at cX3_at 2 (some .int), Cond.fieldLink RX3 7 "AdmissionControl$Row" "cells" "[I", Cond.methodLink RX5 32 yX5_expectedAfter, Cond.static yX5_expectedAfter, Cond.code yX5_expectedAfter cX5_expectedAfter 2 (some .int), Cond.static yX6_isBetween, Cond.initialized RX6, Cond.code yX6_isBetween cX6_isBetween 3 (some .boolean), Cond.methodLink RX5 41 yX5_expectedAfterFirstOfCost, Cond.static yX5_expectedAfterFirstOfCost, Cond.code yX5_expectedAfterFirstOfCost cX5_expectedAfterFirstOfCost 1 (some .int)]
def wsX6_fault_r2 : List Cond := [Cond.methodLink RX5 44 yX5_expectedAfterNumber, Cond.static yX5_expectedAfterNumber, Cond.code yX5_expectedAfterNumber cX5_expectedAfterNumber 2 (some .int)]
def wsX6_fault : List Cond := .code yX6_fault cX6_fault 1 (some .int) :: ((wsX6_fault_r1 ++ wsX6_fault_r2) ++ wsX60 ++ wsX50 ++ wsX30)
def wsX6_takeStep_r1 : List Cond := [Cond.fieldLink RX6 29 "AdmissionControl" "text" "LAdmissionControl$Text;", Cond.fieldLink RX6 198 "AdmissionControl$Text" "characters" "LAdmissionControl$Row;", Cond.fieldLink RX6 10 "AdmissionControl" "server" "LAdmissionControl$Server;", Cond.methodLink RX6 51 yX3_at, Cond.instanceMethod yX3_at, Cond.selects RX3 yX3_at yX3_at, Cond.initialized RX3, Cond.code yX3_at cX3_at 2 (some .int), Cond.fieldLink RX3 7 "AdmissionControl$Row" "cells" "[I", Cond.methodLink RX6 201 yX5_numberAt, Cond.instanceMethod yX5_numberAt, Cond.selects RX5 yX5_numberAt yX5_numberAt, Cond.initialized RX5, Cond.code yX5_numberAt cX5_numberAt 4 (some .int), Cond.fieldLink RX5 14 "AdmissionControl$Text" "characters" "LAdmissionControl$Row;", Cond.fieldLink RX5 20 "AdmissionControl$Text" "length" "I", Cond.methodLink RX5 28 yX3_at, Cond.static yX6_isBetween, Cond.initialized RX6, Cond.code yX6_isBetween cX6_isBetween 3 (some .boolean), Cond.methodLink RX6 81 yX4_errorOfTicks, Cond.instanceMethod yX4_errorOfTicks, Cond.selects RX4 yX4_errorOfTicks yX4_errorOfTicks, Cond.initialized RX4]
def wsX6_takeStep_r2 : List Cond := [Cond.code yX4_errorOfTicks cX4_errorOfTicks 2 (some .int), Cond.constant RX4 89 (-100002), Cond.fieldLink RX4 52 "AdmissionControl$Server" "clock" "I", Cond.constant RX4 90 (-100004), Cond.methodLink RX6 84 yX4_letPass, Cond.instanceMethod yX4_letPass, Cond.selects RX4 yX4_letPass yX4_letPass, Cond.code yX4_letPass cX4_letPass 4 (some .int), Cond.methodLink RX4 99 yX4_tick, Cond.instanceMethod yX4_tick, Cond.selects RX4 yX4_tick yX4_tick, Cond.code yX4_tick cX4_tick 3 (some .int), Cond.fieldLink RX4 125 "AdmissionControl$Lane" "settings" "LAdmissionControl$Row;", Cond.fieldLink RX4 42 "AdmissionControl$Server" "count" "I", Cond.fieldLink RX4 172 "AdmissionControl$Request" "state" "I", Cond.fieldLink RX4 187 "AdmissionControl$Request" "tick" "I", Cond.fieldLink RX4 14 "AdmissionControl$Server" "settings" "LAdmissionControl$Row;", Cond.methodLink RX4 148 yX4_lane, Cond.instanceMethod yX4_lane, Cond.selects RX4 yX4_lane yX4_lane, Cond.code yX4_lane cX4_lane 2 (some (.object "AdmissionControl$Lane")), Cond.fieldLink RX4 26 "AdmissionControl$Server" "lane0" "LAdmissionControl$Lane;", Cond.fieldLink RX4 30 "AdmissionControl$Server" "lane1" "LAdmissionControl$Lane;", Cond.fieldLink RX4 33 "AdmissionControl$Server" "lane2" "LAdmissionControl$Lane;"]
def wsX6_takeStep_r3 : List Cond := [Cond.methodLink RX4 103 yX3_at, Cond.methodLink RX4 189 yX1_gain, Cond.instanceMethod yX1_gain, Cond.selects RX1 yX1_gain yX1_gain, Cond.initialized RX1, Cond.code yX1_gain cX1_gain 3 none, Cond.fieldLink RX1 14 "AdmissionControl$Lane" "settings" "LAdmissionControl$Row;", Cond.fieldLink RX1 30 "AdmissionControl$Lane" "tokens" "I", Cond.methodLink RX1 47 Lib.Math.min.name, Cond.static Lib.Math.min.name, Cond.initialized "java/lang/Math", Cond.code Lib.Math.min.name Lib.Math.min.code 2 (some .int), Cond.methodLink RX1 43 yX3_at, Cond.methodLink RX4 70 yX4_find, Cond.instanceMethod yX4_find, Cond.selects RX4 yX4_find yX4_find, Cond.code yX4_find cX4_find 2 (some (.object "AdmissionControl$Request")), Cond.fieldLink RX4 38 "AdmissionControl$Server" "slots" "[LAdmissionControl$Request;", Cond.methodLink RX4 95 yX4_offerNow, Cond.instanceMethod yX4_offerNow, Cond.selects RX4 yX4_offerNow yX4_offerNow, Cond.code yX4_offerNow cX4_offerNow 3 (some .int), Cond.fieldLink RX4 136 "AdmissionControl$Request" "shape" "I", Cond.fieldLink RX4 119 "AdmissionControl$Request" "price" "I"]
def wsX6_takeStep_r4 : List Cond := [Cond.fieldLink RX4 142 "AdmissionControl$Request" "offers" "I", Cond.fieldLink RX4 145 "AdmissionControl$Request" "kind" "I", Cond.methodLink RX4 139 yX4_expectedCost, Cond.instanceMethod yX4_expectedCost, Cond.selects RX4 yX4_expectedCost yX4_expectedCost, Cond.code yX4_expectedCost cX4_expectedCost 2 (some .int), Cond.fieldLink RX4 20 "AdmissionControl$Server" "estimates" "LAdmissionControl$Row;", Cond.methodLink RX4 107 Lib.Math.max.name, Cond.static Lib.Math.max.name, Cond.code Lib.Math.max.name Lib.Math.max.code 2 (some .int), Cond.methodLink RX4 152 yX4_firstRefusal, Cond.instanceMethod yX4_firstRefusal, Cond.selects RX4 yX4_firstRefusal yX4_firstRefusal, Cond.code yX4_firstRefusal cX4_firstRefusal 6 (some .int), Cond.fieldLink RX4 113 "AdmissionControl$Lane" "length" "I", Cond.fieldLink RX4 133 "AdmissionControl$Lane" "tokens" "I", Cond.methodLink RX4 126 yX4_backlogOf, Cond.instanceMethod yX4_backlogOf, Cond.selects RX4 yX4_backlogOf yX4_backlogOf, Cond.code yX4_backlogOf cX4_backlogOf 5 (some .int), Cond.fieldLink RX4 116 "AdmissionControl$Lane" "queue" "LAdmissionControl$Row;", Cond.fieldLink RX4 122 "AdmissionControl$Request" "units" "I", Cond.static yX6_quotient, Cond.code yX6_quotient cX6_quotient 2 (some .int)]
def wsX6_takeStep_r5 : List Cond := [Cond.methodLink RX4 156 yX4_admit, Cond.instanceMethod yX4_admit, Cond.selects RX4 yX4_admit yX4_admit, Cond.code yX4_admit cX4_admit 3 none, Cond.fieldLink RX4 166 "AdmissionControl$Request" "number" "I", Cond.fieldLink RX4 175 "AdmissionControl$Request" "admitted" "I", Cond.methodLink RX4 163 yX4_catchUp, Cond.instanceMethod yX4_catchUp, Cond.selects RX4 yX4_catchUp yX4_catchUp, Cond.code yX4_catchUp cX4_catchUp 5 none, Cond.fieldLink RX4 178 "AdmissionControl$Lane" "pass" "I", Cond.methodLink RX4 169 yX1_join, Cond.instanceMethod yX1_join, Cond.selects RX1 yX1_join yX1_join, Cond.code yX1_join cX1_join 2 none, Cond.fieldLink RX1 26 "AdmissionControl$Lane" "length" "I", Cond.fieldLink RX1 23 "AdmissionControl$Lane" "queue" "LAdmissionControl$Row;", Cond.methodLink RX1 39 yX3_put, Cond.instanceMethod yX3_put, Cond.selects RX3 yX3_put yX3_put, Cond.code yX3_put cX3_put 3 none, Cond.methodLink RX4 159 yX4_refuse, Cond.instanceMethod yX4_refuse, Cond.selects RX4 yX4_refuse yX4_refuse]
def wsX6_takeStep_r6 : List Cond := [Cond.code yX4_refuse cX4_refuse 4 none, Cond.fieldLink RX4 181 "AdmissionControl$Lane" "refusals" "LAdmissionControl$Row;", Cond.fieldLink RX4 184 "AdmissionControl$Request" "reason" "I", Cond.fieldLink RX4 46 "AdmissionControl$Server" "open" "I", Cond.fieldLink RX4 49 "AdmissionControl$Server" "rejected" "I", Cond.methodLink RX4 58 yX3_put, Cond.methodLink RX4 192 yX4_refuseThoseWhoWaited, Cond.instanceMethod yX4_refuseThoseWhoWaited, Cond.selects RX4 yX4_refuseThoseWhoWaited yX4_refuseThoseWhoWaited, Cond.code yX4_refuseThoseWhoWaited cX4_refuseThoseWhoWaited 5 none, Cond.methodLink RX4 198 yX4_hasWaitedTooLong, Cond.instanceMethod yX4_hasWaitedTooLong, Cond.selects RX4 yX4_hasWaitedTooLong yX4_hasWaitedTooLong, Cond.code yX4_hasWaitedTooLong cX4_hasWaitedTooLong 2 (some .boolean), Cond.methodLink RX4 202 yX1_leave, Cond.instanceMethod yX1_leave, Cond.selects RX1 yX1_leave yX1_leave, Cond.code yX1_leave cX1_leave 3 none, Cond.methodLink RX4 195 yX4_workOneUnit, Cond.instanceMethod yX4_workOneUnit, Cond.selects RX4 yX4_workOneUnit yX4_workOneUnit, Cond.code yX4_workOneUnit cX4_workOneUnit 3 (some .int), Cond.fieldLink RX4 55 "AdmissionControl$Server" "idle" "I", Cond.fieldLink RX4 209 "AdmissionControl$Lane" "units" "I"]
def wsX6_takeStep_r7 : List Cond := [Cond.fieldLink RX4 210 "AdmissionControl$Request" "cost" "I", Cond.methodLink RX4 205 yX4_nextLane, Cond.instanceMethod yX4_nextLane, Cond.selects RX4 yX4_nextLane yX4_nextLane, Cond.code yX4_nextLane cX4_nextLane 4 (some (.object "AdmissionControl$Lane")), Cond.methodLink RX4 213 yX4_complete, Cond.instanceMethod yX4_complete, Cond.selects RX4 yX4_complete yX4_complete, Cond.code yX4_complete cX4_complete 4 none, Cond.methodLink RX6 74 yX4_errorOfOffer, Cond.instanceMethod yX4_errorOfOffer, Cond.selects RX4 yX4_errorOfOffer yX4_errorOfOffer, Cond.code yX4_errorOfOffer cX4_errorOfOffer 4 (some .int), Cond.constant RX4 84 (-100001), Cond.static yX6_isKind, Cond.code yX6_isKind cX6_isKind 1 (some .boolean), Cond.static yX6_isShape, Cond.code yX6_isShape cX6_isShape 1 (some .boolean), Cond.methodLink RX6 78 yX4_offerNew, Cond.instanceMethod yX4_offerNew, Cond.selects RX4 yX4_offerNew yX4_offerNew, Cond.code yX4_offerNew cX4_offerNew 5 (some .int), Cond.methodLink RX4 91 yX2_begin, Cond.instanceMethod yX2_begin]
def wsX6_takeStep_r8 : List Cond := [Cond.selects RX2 yX2_begin yX2_begin, Cond.initialized RX2, Cond.code yX2_begin cX2_begin 4 none, Cond.fieldLink RX2 15 "AdmissionControl$Request" "kind" "I", Cond.fieldLink RX2 18 "AdmissionControl$Request" "shape" "I", Cond.fieldLink RX2 21 "AdmissionControl$Request" "cost" "I", Cond.fieldLink RX2 24 "AdmissionControl$Request" "state" "I", Cond.fieldLink RX2 27 "AdmissionControl$Request" "price" "I", Cond.fieldLink RX2 30 "AdmissionControl$Request" "units" "I", Cond.fieldLink RX2 33 "AdmissionControl$Request" "offers" "I", Cond.fieldLink RX2 36 "AdmissionControl$Request" "reason" "I", Cond.fieldLink RX2 39 "AdmissionControl$Request" "admitted" "I", Cond.fieldLink RX2 42 "AdmissionControl$Request" "tick" "I"]
def wsX6_takeStep : List Cond := .code yX6_takeStep cX6_takeStep 5 (some .boolean) :: ((wsX6_takeStep_r1 ++ (wsX6_takeStep_r2 ++ (wsX6_takeStep_r3 ++ (wsX6_takeStep_r4 ++ (wsX6_takeStep_r5 ++ (wsX6_takeStep_r6 ++ (wsX6_takeStep_r7 ++ wsX6_takeStep_r8))))))) ++ wsX60 ++ wsX50 ++ wsX30 ++ wsX40 ++ wsX10 ++ wsX20)
def wsX6_run_r1 : List Cond := [Cond.fieldLink RX6 29 "AdmissionControl" "text" "LAdmissionControl$Text;", Cond.constant RX6 100 (-100005), Cond.constant RX6 101 (-100003), Cond.fieldLink RX6 22 "AdmissionControl" "history" "LAdmissionControl$History;", Cond.fieldLink RX6 10 "AdmissionControl" "server" "LAdmissionControl$Server;", Cond.fieldLink RX6 87 "AdmissionControl$Text" "length" "I", Cond.methodLink RX6 96 yX5_firstFault, Cond.instanceMethod yX5_firstFault, Cond.selects RX5 yX5_firstFault yX5_firstFault, Cond.initialized RX5, Cond.code yX5_firstFault cX5_firstFault 3 (some .int), Cond.fieldLink RX5 20 "AdmissionControl$Text" "length" "I", Cond.fieldLink RX5 14 "AdmissionControl$Text" "characters" "LAdmissionControl$Row;", Cond.constant RX5 36 (-100005), Cond.methodLink RX5 28 yX3_at, Cond.instanceMethod yX3_at, Cond.selects RX3 yX3_at yX3_at, Cond.initialized RX3, Cond.code yX3_at cX3_at 2 (some .int), Cond.fieldLink RX3 7 "AdmissionControl$Row" "cells" "[I", Cond.methodLink RX5 32 yX5_expectedAfter, Cond.static yX5_expectedAfter, Cond.code yX5_expectedAfter cX5_expectedAfter 2 (some .int), Cond.static yX6_isBetween]
def wsX6_run_r2 : List Cond := [Cond.initialized RX6, Cond.code yX6_isBetween cX6_isBetween 3 (some .boolean), Cond.methodLink RX5 41 yX5_expectedAfterFirstOfCost, Cond.static yX5_expectedAfterFirstOfCost, Cond.code yX5_expectedAfterFirstOfCost cX5_expectedAfterFirstOfCost 1 (some .int), Cond.methodLink RX5 44 yX5_expectedAfterNumber, Cond.static yX5_expectedAfterNumber, Cond.code yX5_expectedAfterNumber cX5_expectedAfterNumber 2 (some .int), Cond.methodLink RX6 43 yX0_keep, Cond.instanceMethod yX0_keep, Cond.selects RX0 yX0_keep yX0_keep, Cond.initialized RX0, Cond.code yX0_keep cX0_keep 3 none, Cond.fieldLink RX0 24 "AdmissionControl$History" "oldest" "LAdmissionControl$Server;", Cond.fieldLink RX0 21 "AdmissionControl$History" "third" "LAdmissionControl$Server;", Cond.fieldLink RX0 18 "AdmissionControl$History" "second" "LAdmissionControl$Server;", Cond.fieldLink RX0 12 "AdmissionControl$History" "newest" "LAdmissionControl$Server;", Cond.fieldLink RX0 27 "AdmissionControl$History" "states" "I", Cond.methodLink RX0 35 Lib.Math.min.name, Cond.static Lib.Math.min.name, Cond.initialized "java/lang/Math", Cond.code Lib.Math.min.name Lib.Math.min.code 2 (some .int), Cond.methodLink RX0 31 yX4_copyFrom, Cond.instanceMethod yX4_copyFrom]
def wsX6_run_r3 : List Cond := [Cond.selects RX4 yX4_copyFrom yX4_copyFrom, Cond.initialized RX4, Cond.code yX4_copyFrom cX4_copyFrom 5 none, Cond.fieldLink RX4 14 "AdmissionControl$Server" "settings" "LAdmissionControl$Row;", Cond.fieldLink RX4 20 "AdmissionControl$Server" "estimates" "LAdmissionControl$Row;", Cond.fieldLink RX4 26 "AdmissionControl$Server" "lane0" "LAdmissionControl$Lane;", Cond.fieldLink RX4 30 "AdmissionControl$Server" "lane1" "LAdmissionControl$Lane;", Cond.fieldLink RX4 33 "AdmissionControl$Server" "lane2" "LAdmissionControl$Lane;", Cond.fieldLink RX4 42 "AdmissionControl$Server" "count" "I", Cond.fieldLink RX4 46 "AdmissionControl$Server" "open" "I", Cond.fieldLink RX4 49 "AdmissionControl$Server" "rejected" "I", Cond.fieldLink RX4 52 "AdmissionControl$Server" "clock" "I", Cond.fieldLink RX4 55 "AdmissionControl$Server" "idle" "I", Cond.methodLink RX4 63 yX3_copyFrom, Cond.instanceMethod yX3_copyFrom, Cond.selects RX3 yX3_copyFrom yX3_copyFrom, Cond.code yX3_copyFrom cX3_copyFrom 3 none, Cond.methodLink RX4 67 yX1_copyFrom, Cond.instanceMethod yX1_copyFrom, Cond.selects RX1 yX1_copyFrom yX1_copyFrom, Cond.initialized RX1, Cond.code yX1_copyFrom cX1_copyFrom 2 none, Cond.fieldLink RX1 14 "AdmissionControl$Lane" "settings" "LAdmissionControl$Row;", Cond.fieldLink RX1 20 "AdmissionControl$Lane" "refusals" "LAdmissionControl$Row;"]
def wsX6_run_r4 : List Cond := [Cond.fieldLink RX1 23 "AdmissionControl$Lane" "queue" "LAdmissionControl$Row;", Cond.fieldLink RX1 26 "AdmissionControl$Lane" "length" "I", Cond.fieldLink RX1 30 "AdmissionControl$Lane" "tokens" "I", Cond.fieldLink RX1 33 "AdmissionControl$Lane" "pass" "I", Cond.fieldLink RX1 36 "AdmissionControl$Lane" "units" "I", Cond.methodLink RX1 53 yX3_copyFrom, Cond.methodLink RX4 70 yX4_find, Cond.instanceMethod yX4_find, Cond.selects RX4 yX4_find yX4_find, Cond.code yX4_find cX4_find 2 (some (.object "AdmissionControl$Request")), Cond.fieldLink RX4 38 "AdmissionControl$Server" "slots" "[LAdmissionControl$Request;", Cond.methodLink RX4 74 yX2_copyFrom, Cond.instanceMethod yX2_copyFrom, Cond.selects RX2 yX2_copyFrom yX2_copyFrom, Cond.initialized RX2, Cond.code yX2_copyFrom cX2_copyFrom 2 none, Cond.fieldLink RX2 15 "AdmissionControl$Request" "kind" "I", Cond.fieldLink RX2 18 "AdmissionControl$Request" "shape" "I", Cond.fieldLink RX2 21 "AdmissionControl$Request" "cost" "I", Cond.fieldLink RX2 24 "AdmissionControl$Request" "state" "I", Cond.fieldLink RX2 27 "AdmissionControl$Request" "price" "I", Cond.fieldLink RX2 30 "AdmissionControl$Request" "units" "I", Cond.fieldLink RX2 33 "AdmissionControl$Request" "offers" "I", Cond.fieldLink RX2 36 "AdmissionControl$Request" "reason" "I"]
def wsX6_run_r5 : List Cond := [Cond.fieldLink RX2 39 "AdmissionControl$Request" "admitted" "I", Cond.fieldLink RX2 42 "AdmissionControl$Request" "tick" "I", Cond.methodLink RX6 102 yX5_startsStep, Cond.instanceMethod yX5_startsStep, Cond.selects RX5 yX5_startsStep yX5_startsStep, Cond.code yX5_startsStep cX5_startsStep 2 (some .boolean), Cond.methodLink RX6 105 yX6_takeStep, Cond.instanceMethod yX6_takeStep, Cond.selects RX6 yX6_takeStep yX6_takeStep, Cond.code yX6_takeStep cX6_takeStep 5 (some .boolean), Cond.fieldLink RX6 198 "AdmissionControl$Text" "characters" "LAdmissionControl$Row;", Cond.methodLink RX6 51 yX3_at, Cond.methodLink RX6 201 yX5_numberAt, Cond.instanceMethod yX5_numberAt, Cond.selects RX5 yX5_numberAt yX5_numberAt, Cond.code yX5_numberAt cX5_numberAt 4 (some .int), Cond.methodLink RX6 81 yX4_errorOfTicks, Cond.instanceMethod yX4_errorOfTicks, Cond.selects RX4 yX4_errorOfTicks yX4_errorOfTicks, Cond.code yX4_errorOfTicks cX4_errorOfTicks 2 (some .int), Cond.constant RX4 89 (-100002), Cond.constant RX4 90 (-100004), Cond.methodLink RX6 84 yX4_letPass, Cond.instanceMethod yX4_letPass]
def wsX6_run_r6 : List Cond := [Cond.selects RX4 yX4_letPass yX4_letPass, Cond.code yX4_letPass cX4_letPass 4 (some .int), Cond.methodLink RX4 99 yX4_tick, Cond.instanceMethod yX4_tick, Cond.selects RX4 yX4_tick yX4_tick, Cond.code yX4_tick cX4_tick 3 (some .int), Cond.fieldLink RX4 125 "AdmissionControl$Lane" "settings" "LAdmissionControl$Row;", Cond.fieldLink RX4 172 "AdmissionControl$Request" "state" "I", Cond.fieldLink RX4 187 "AdmissionControl$Request" "tick" "I", Cond.methodLink RX4 148 yX4_lane, Cond.instanceMethod yX4_lane, Cond.selects RX4 yX4_lane yX4_lane, Cond.code yX4_lane cX4_lane 2 (some (.object "AdmissionControl$Lane")), Cond.methodLink RX4 103 yX3_at, Cond.methodLink RX4 189 yX1_gain, Cond.instanceMethod yX1_gain, Cond.selects RX1 yX1_gain yX1_gain, Cond.code yX1_gain cX1_gain 3 none, Cond.methodLink RX1 47 Lib.Math.min.name, Cond.methodLink RX1 43 yX3_at, Cond.methodLink RX4 95 yX4_offerNow, Cond.instanceMethod yX4_offerNow, Cond.selects RX4 yX4_offerNow yX4_offerNow, Cond.code yX4_offerNow cX4_offerNow 3 (some .int)]
def wsX6_run_r7 : List Cond := [Cond.fieldLink RX4 136 "AdmissionControl$Request" "shape" "I", Cond.fieldLink RX4 119 "AdmissionControl$Request" "price" "I", Cond.fieldLink RX4 142 "AdmissionControl$Request" "offers" "I", Cond.fieldLink RX4 145 "AdmissionControl$Request" "kind" "I", Cond.methodLink RX4 139 yX4_expectedCost, Cond.instanceMethod yX4_expectedCost, Cond.selects RX4 yX4_expectedCost yX4_expectedCost, Cond.code yX4_expectedCost cX4_expectedCost 2 (some .int), Cond.methodLink RX4 107 Lib.Math.max.name, Cond.static Lib.Math.max.name, Cond.code Lib.Math.max.name Lib.Math.max.code 2 (some .int), Cond.methodLink RX4 152 yX4_firstRefusal, Cond.instanceMethod yX4_firstRefusal, Cond.selects RX4 yX4_firstRefusal yX4_firstRefusal, Cond.code yX4_firstRefusal cX4_firstRefusal 6 (some .int), Cond.fieldLink RX4 113 "AdmissionControl$Lane" "length" "I", Cond.fieldLink RX4 133 "AdmissionControl$Lane" "tokens" "I", Cond.methodLink RX4 126 yX4_backlogOf, Cond.instanceMethod yX4_backlogOf, Cond.selects RX4 yX4_backlogOf yX4_backlogOf, Cond.code yX4_backlogOf cX4_backlogOf 5 (some .int), Cond.fieldLink RX4 116 "AdmissionControl$Lane" "queue" "LAdmissionControl$Row;", Cond.fieldLink RX4 122 "AdmissionControl$Request" "units" "I", Cond.static yX6_quotient]
def wsX6_run_r8 : List Cond := [Cond.code yX6_quotient cX6_quotient 2 (some .int), Cond.methodLink RX4 156 yX4_admit, Cond.instanceMethod yX4_admit, Cond.selects RX4 yX4_admit yX4_admit, Cond.code yX4_admit cX4_admit 3 none, Cond.fieldLink RX4 166 "AdmissionControl$Request" "number" "I", Cond.fieldLink RX4 175 "AdmissionControl$Request" "admitted" "I", Cond.methodLink RX4 163 yX4_catchUp, Cond.instanceMethod yX4_catchUp, Cond.selects RX4 yX4_catchUp yX4_catchUp, Cond.code yX4_catchUp cX4_catchUp 5 none, Cond.fieldLink RX4 178 "AdmissionControl$Lane" "pass" "I", Cond.methodLink RX4 169 yX1_join, Cond.instanceMethod yX1_join, Cond.selects RX1 yX1_join yX1_join, Cond.code yX1_join cX1_join 2 none, Cond.methodLink RX1 39 yX3_put, Cond.instanceMethod yX3_put, Cond.selects RX3 yX3_put yX3_put, Cond.code yX3_put cX3_put 3 none, Cond.methodLink RX4 159 yX4_refuse, Cond.instanceMethod yX4_refuse, Cond.selects RX4 yX4_refuse yX4_refuse, Cond.code yX4_refuse cX4_refuse 4 none]
def wsX6_run_r9 : List Cond := [Cond.fieldLink RX4 181 "AdmissionControl$Lane" "refusals" "LAdmissionControl$Row;", Cond.fieldLink RX4 184 "AdmissionControl$Request" "reason" "I", Cond.methodLink RX4 58 yX3_put, Cond.methodLink RX4 192 yX4_refuseThoseWhoWaited, Cond.instanceMethod yX4_refuseThoseWhoWaited, Cond.selects RX4 yX4_refuseThoseWhoWaited yX4_refuseThoseWhoWaited, Cond.code yX4_refuseThoseWhoWaited cX4_refuseThoseWhoWaited 5 none, Cond.methodLink RX4 198 yX4_hasWaitedTooLong, Cond.instanceMethod yX4_hasWaitedTooLong, Cond.selects RX4 yX4_hasWaitedTooLong yX4_hasWaitedTooLong, Cond.code yX4_hasWaitedTooLong cX4_hasWaitedTooLong 2 (some .boolean), Cond.methodLink RX4 202 yX1_leave, Cond.instanceMethod yX1_leave, Cond.selects RX1 yX1_leave yX1_leave, Cond.code yX1_leave cX1_leave 3 none, Cond.methodLink RX4 195 yX4_workOneUnit, Cond.instanceMethod yX4_workOneUnit, Cond.selects RX4 yX4_workOneUnit yX4_workOneUnit, Cond.code yX4_workOneUnit cX4_workOneUnit 3 (some .int), Cond.fieldLink RX4 209 "AdmissionControl$Lane" "units" "I", Cond.fieldLink RX4 210 "AdmissionControl$Request" "cost" "I", Cond.methodLink RX4 205 yX4_nextLane, Cond.instanceMethod yX4_nextLane, Cond.selects RX4 yX4_nextLane yX4_nextLane]
def wsX6_run_r10 : List Cond := [Cond.code yX4_nextLane cX4_nextLane 4 (some (.object "AdmissionControl$Lane")), Cond.methodLink RX4 213 yX4_complete, Cond.instanceMethod yX4_complete, Cond.selects RX4 yX4_complete yX4_complete, Cond.code yX4_complete cX4_complete 4 none, Cond.methodLink RX6 74 yX4_errorOfOffer, Cond.instanceMethod yX4_errorOfOffer, Cond.selects RX4 yX4_errorOfOffer yX4_errorOfOffer, Cond.code yX4_errorOfOffer cX4_errorOfOffer 4 (some .int), Cond.constant RX4 84 (-100001), Cond.static yX6_isKind, Cond.code yX6_isKind cX6_isKind 1 (some .boolean), Cond.static yX6_isShape, Cond.code yX6_isShape cX6_isShape 1 (some .boolean), Cond.methodLink RX6 78 yX4_offerNew, Cond.instanceMethod yX4_offerNew, Cond.selects RX4 yX4_offerNew yX4_offerNew, Cond.code yX4_offerNew cX4_offerNew 5 (some .int), Cond.methodLink RX4 91 yX2_begin, Cond.instanceMethod yX2_begin, Cond.selects RX2 yX2_begin yX2_begin, Cond.code yX2_begin cX2_begin 4 none]
def wsX6_run : List Cond := .code yX6_run cX6_run 3 (some .int) :: ((wsX6_run_r1 ++ (wsX6_run_r2 ++ (wsX6_run_r3 ++ (wsX6_run_r4 ++ (wsX6_run_r5 ++ (wsX6_run_r6 ++ (wsX6_run_r7 ++ (wsX6_run_r8 ++ (wsX6_run_r9 ++ wsX6_run_r10))))))))) ++ wsX60 ++ wsX50 ++ wsX30 ++ wsX00 ++ wsX40 ++ wsX10 ++ wsX20)
def wsX6_undo_r1 : List Cond := [Cond.fieldLink RX6 22 "AdmissionControl" "history" "LAdmissionControl$History;", Cond.fieldLink RX6 108 "AdmissionControl$History" "states" "I", Cond.constant RX6 100 (-100005), Cond.fieldLink RX6 10 "AdmissionControl" "server" "LAdmissionControl$Server;", Cond.methodLink RX6 111 yX0_restore, Cond.instanceMethod yX0_restore, Cond.selects RX0 yX0_restore yX0_restore, Cond.initialized RX0, Cond.code yX0_restore cX0_restore 3 none, Cond.fieldLink RX0 12 "AdmissionControl$History" "newest" "LAdmissionControl$Server;", Cond.fieldLink RX0 18 "AdmissionControl$History" "second" "LAdmissionControl$Server;", Cond.fieldLink RX0 21 "AdmissionControl$History" "third" "LAdmissionControl$Server;", Cond.fieldLink RX0 24 "AdmissionControl$History" "oldest" "LAdmissionControl$Server;", Cond.fieldLink RX0 27 "AdmissionControl$History" "states" "I", Cond.methodLink RX0 41 Lib.Math.max.name, Cond.static Lib.Math.max.name, Cond.initialized "java/lang/Math", Cond.code Lib.Math.max.name Lib.Math.max.code 2 (some .int), Cond.methodLink RX0 31 yX4_copyFrom, Cond.instanceMethod yX4_copyFrom, Cond.selects RX4 yX4_copyFrom yX4_copyFrom, Cond.initialized RX4, Cond.code yX4_copyFrom cX4_copyFrom 5 none, Cond.fieldLink RX4 14 "AdmissionControl$Server" "settings" "LAdmissionControl$Row;"]
def wsX6_undo_r2 : List Cond := [Cond.fieldLink RX4 20 "AdmissionControl$Server" "estimates" "LAdmissionControl$Row;", Cond.fieldLink RX4 26 "AdmissionControl$Server" "lane0" "LAdmissionControl$Lane;", Cond.fieldLink RX4 30 "AdmissionControl$Server" "lane1" "LAdmissionControl$Lane;", Cond.fieldLink RX4 33 "AdmissionControl$Server" "lane2" "LAdmissionControl$Lane;", Cond.fieldLink RX4 42 "AdmissionControl$Server" "count" "I", Cond.fieldLink RX4 46 "AdmissionControl$Server" "open" "I", Cond.fieldLink RX4 49 "AdmissionControl$Server" "rejected" "I", Cond.fieldLink RX4 52 "AdmissionControl$Server" "clock" "I", Cond.fieldLink RX4 55 "AdmissionControl$Server" "idle" "I", Cond.methodLink RX4 63 yX3_copyFrom, Cond.instanceMethod yX3_copyFrom, Cond.selects RX3 yX3_copyFrom yX3_copyFrom, Cond.initialized RX3, Cond.code yX3_copyFrom cX3_copyFrom 3 none, Cond.fieldLink RX3 7 "AdmissionControl$Row" "cells" "[I", Cond.methodLink RX4 67 yX1_copyFrom, Cond.instanceMethod yX1_copyFrom, Cond.selects RX1 yX1_copyFrom yX1_copyFrom, Cond.initialized RX1, Cond.code yX1_copyFrom cX1_copyFrom 2 none, Cond.fieldLink RX1 14 "AdmissionControl$Lane" "settings" "LAdmissionControl$Row;", Cond.fieldLink RX1 20 "AdmissionControl$Lane" "refusals" "LAdmissionControl$Row;", Cond.fieldLink RX1 23 "AdmissionControl$Lane" "queue" "LAdmissionControl$Row;", Cond.fieldLink RX1 26 "AdmissionControl$Lane" "length" "I"]
def wsX6_undo_r3 : List Cond := [Cond.fieldLink RX1 30 "AdmissionControl$Lane" "tokens" "I", Cond.fieldLink RX1 33 "AdmissionControl$Lane" "pass" "I", Cond.fieldLink RX1 36 "AdmissionControl$Lane" "units" "I", Cond.methodLink RX1 53 yX3_copyFrom, Cond.methodLink RX4 70 yX4_find, Cond.instanceMethod yX4_find, Cond.selects RX4 yX4_find yX4_find, Cond.code yX4_find cX4_find 2 (some (.object "AdmissionControl$Request")), Cond.fieldLink RX4 38 "AdmissionControl$Server" "slots" "[LAdmissionControl$Request;", Cond.methodLink RX4 74 yX2_copyFrom, Cond.instanceMethod yX2_copyFrom, Cond.selects RX2 yX2_copyFrom yX2_copyFrom, Cond.initialized RX2, Cond.code yX2_copyFrom cX2_copyFrom 2 none, Cond.fieldLink RX2 15 "AdmissionControl$Request" "kind" "I", Cond.fieldLink RX2 18 "AdmissionControl$Request" "shape" "I", Cond.fieldLink RX2 21 "AdmissionControl$Request" "cost" "I", Cond.fieldLink RX2 24 "AdmissionControl$Request" "state" "I", Cond.fieldLink RX2 27 "AdmissionControl$Request" "price" "I", Cond.fieldLink RX2 30 "AdmissionControl$Request" "units" "I", Cond.fieldLink RX2 33 "AdmissionControl$Request" "offers" "I", Cond.fieldLink RX2 36 "AdmissionControl$Request" "reason" "I", Cond.fieldLink RX2 39 "AdmissionControl$Request" "admitted" "I", Cond.fieldLink RX2 42 "AdmissionControl$Request" "tick" "I"]
def wsX6_undo : List Cond := .code yX6_undo cX6_undo 1 (some .int) :: ((wsX6_undo_r1 ++ (wsX6_undo_r2 ++ wsX6_undo_r3)) ++ wsX60 ++ wsX00 ++ wsX40 ++ wsX30 ++ wsX10 ++ wsX20)
def wsX6_setting : List Cond := .code yX6_setting cX6_setting 2 (some .int) :: ([.fieldLink RX6 10 "AdmissionControl" "server" "LAdmissionControl$Server;", .fieldLink RX6 47 "AdmissionControl$Server" "settings" "LAdmissionControl$Row;", .constant RX6 37 (-100001), .methodLink RX6 33 yX6_isSetting, .static yX6_isSetting, .initialized RX6, .code yX6_isSetting cX6_isSetting 1 (some .boolean), .methodLink RX6 51 yX3_at, .instanceMethod yX3_at, .selects RX3 yX3_at yX3_at, .initialized RX3, .code yX3_at cX3_at 2 (some .int), .fieldLink RX3 7 "AdmissionControl$Row" "cells" "[I"] ++ wsX60 ++ wsX40 ++ wsX30)
def wsX6_classSetting : List Cond := .code yX6_classSetting cX6_classSetting 3 (some .int) :: ([.constant RX6 37 (-100001), .fieldLink RX6 10 "AdmissionControl" "server" "LAdmissionControl$Server;", .fieldLink RX6 71 "AdmissionControl$Lane" "settings" "LAdmissionControl$Row;", .methodLink RX6 61 yX6_isKind, .static yX6_isKind, .initialized RX6, .code yX6_isKind cX6_isKind 1 (some .boolean), .methodLink RX6 33 yX6_isSetting, .static yX6_isSetting, .code yX6_isSetting cX6_isSetting 1 (some .boolean), .methodLink RX6 67 yX4_lane, .instanceMethod yX4_lane, .selects RX4 yX4_lane yX4_lane, .initialized RX4, .code yX4_lane cX4_lane 2 (some (.object "AdmissionControl$Lane")), .fieldLink RX4 26 "AdmissionControl$Server" "lane0" "LAdmissionControl$Lane;", .fieldLink RX4 30 "AdmissionControl$Server" "lane1" "LAdmissionControl$Lane;", .fieldLink RX4 33 "AdmissionControl$Server" "lane2" "LAdmissionControl$Lane;", .methodLink RX6 51 yX3_at, .instanceMethod yX3_at, .selects RX3 yX3_at yX3_at, .initialized RX3, .code yX3_at cX3_at 2 (some .int), .fieldLink RX3 7 "AdmissionControl$Row" "cells" "[I"] ++ wsX60 ++ wsX10 ++ wsX40 ++ wsX30)
def wsX6_clock : List Cond := .code yX6_clock cX6_clock 1 (some .int) :: ([.fieldLink RX6 10 "AdmissionControl" "server" "LAdmissionControl$Server;", .fieldLink RX6 114 "AdmissionControl$Server" "clock" "I"] ++ wsX60 ++ wsX40)
def wsX6_estimate : List Cond := .code yX6_estimate cX6_estimate 2 (some .int) :: ([.fieldLink RX6 10 "AdmissionControl" "server" "LAdmissionControl$Server;", .fieldLink RX6 120 "AdmissionControl$Server" "estimates" "LAdmissionControl$Row;", .constant RX6 37 (-100001), .methodLink RX6 117 yX6_isShape, .static yX6_isShape, .initialized RX6, .code yX6_isShape cX6_isShape 1 (some .boolean), .methodLink RX6 51 yX3_at, .instanceMethod yX3_at, .selects RX3 yX3_at yX3_at, .initialized RX3, .code yX3_at cX3_at 2 (some .int), .fieldLink RX3 7 "AdmissionControl$Row" "cells" "[I"] ++ wsX60 ++ wsX40 ++ wsX30)
def wsX6_tokens : List Cond := .code yX6_tokens cX6_tokens 2 (some .int) :: ([.fieldLink RX6 10 "AdmissionControl" "server" "LAdmissionControl$Server;", .fieldLink RX6 123 "AdmissionControl$Lane" "tokens" "I", .constant RX6 37 (-100001), .methodLink RX6 61 yX6_isKind, .static yX6_isKind, .initialized RX6, .code yX6_isKind cX6_isKind 1 (some .boolean), .methodLink RX6 67 yX4_lane, .instanceMethod yX4_lane, .selects RX4 yX4_lane yX4_lane, .initialized RX4, .code yX4_lane cX4_lane 2 (some (.object "AdmissionControl$Lane")), .fieldLink RX4 26 "AdmissionControl$Server" "lane0" "LAdmissionControl$Lane;", .fieldLink RX4 30 "AdmissionControl$Server" "lane1" "LAdmissionControl$Lane;", .fieldLink RX4 33 "AdmissionControl$Server" "lane2" "LAdmissionControl$Lane;"] ++ wsX60 ++ wsX10 ++ wsX40)
def wsX6_pass : List Cond := .code yX6_pass cX6_pass 2 (some .int) :: ([.fieldLink RX6 10 "AdmissionControl" "server" "LAdmissionControl$Server;", .fieldLink RX6 126 "AdmissionControl$Lane" "pass" "I", .constant RX6 37 (-100001), .methodLink RX6 61 yX6_isKind, .static yX6_isKind, .initialized RX6, .code yX6_isKind cX6_isKind 1 (some .boolean), .methodLink RX6 67 yX4_lane, .instanceMethod yX4_lane, .selects RX4 yX4_lane yX4_lane, .initialized RX4, .code yX4_lane cX4_lane 2 (some (.object "AdmissionControl$Lane")), .fieldLink RX4 26 "AdmissionControl$Server" "lane0" "LAdmissionControl$Lane;", .fieldLink RX4 30 "AdmissionControl$Server" "lane1" "LAdmissionControl$Lane;", .fieldLink RX4 33 "AdmissionControl$Server" "lane2" "LAdmissionControl$Lane;"] ++ wsX60 ++ wsX10 ++ wsX40)
def wsX6_queued : List Cond := .code yX6_queued cX6_queued 2 (some .int) :: ([.fieldLink RX6 10 "AdmissionControl" "server" "LAdmissionControl$Server;", .fieldLink RX6 129 "AdmissionControl$Lane" "length" "I", .constant RX6 37 (-100001), .methodLink RX6 61 yX6_isKind, .static yX6_isKind, .initialized RX6, .code yX6_isKind cX6_isKind 1 (some .boolean), .methodLink RX6 67 yX4_lane, .instanceMethod yX4_lane, .selects RX4 yX4_lane yX4_lane, .initialized RX4, .code yX4_lane cX4_lane 2 (some (.object "AdmissionControl$Lane")), .fieldLink RX4 26 "AdmissionControl$Server" "lane0" "LAdmissionControl$Lane;", .fieldLink RX4 30 "AdmissionControl$Server" "lane1" "LAdmissionControl$Lane;", .fieldLink RX4 33 "AdmissionControl$Server" "lane2" "LAdmissionControl$Lane;"] ++ wsX60 ++ wsX10 ++ wsX40)
def wsX6_queuedAt : List Cond := .code yX6_queuedAt cX6_queuedAt 4 (some .int) :: ([.constant RX6 37 (-100001), .constant RX6 42 (-100002), .fieldLink RX6 10 "AdmissionControl" "server" "LAdmissionControl$Server;", .fieldLink RX6 129 "AdmissionControl$Lane" "length" "I", .fieldLink RX6 130 "AdmissionControl$Lane" "queue" "LAdmissionControl$Row;", .constant RX6 100 (-100005), .methodLink RX6 61 yX6_isKind, .static yX6_isKind, .initialized RX6, .code yX6_isKind cX6_isKind 1 (some .boolean), .methodLink RX6 67 yX4_lane, .instanceMethod yX4_lane, .selects RX4 yX4_lane yX4_lane, .initialized RX4, .code yX4_lane cX4_lane 2 (some (.object "AdmissionControl$Lane")), .fieldLink RX4 26 "AdmissionControl$Server" "lane0" "LAdmissionControl$Lane;", .fieldLink RX4 30 "AdmissionControl$Server" "lane1" "LAdmissionControl$Lane;", .fieldLink RX4 33 "AdmissionControl$Server" "lane2" "LAdmissionControl$Lane;", .methodLink RX6 51 yX3_at, .instanceMethod yX3_at, .selects RX3 yX3_at yX3_at, .initialized RX3, .code yX3_at cX3_at 2 (some .int), .fieldLink RX3 7 "AdmissionControl$Row" "cells" "[I"] ++ wsX60 ++ wsX10 ++ wsX40 ++ wsX30)
def wsX6_backlog_r1 : List Cond := [Cond.fieldLink RX6 10 "AdmissionControl" "server" "LAdmissionControl$Server;", Cond.constant RX6 37 (-100001), Cond.methodLink RX6 61 yX6_isKind, Cond.static yX6_isKind, Cond.initialized RX6, Cond.code yX6_isKind cX6_isKind 1 (some .boolean), Cond.methodLink RX6 67 yX4_lane, Cond.instanceMethod yX4_lane, Cond.selects RX4 yX4_lane yX4_lane, Cond.initialized RX4, Cond.code yX4_lane cX4_lane 2 (some (.object "AdmissionControl$Lane")), Cond.fieldLink RX4 26 "AdmissionControl$Server" "lane0" "LAdmissionControl$Lane;", Cond.fieldLink RX4 30 "AdmissionControl$Server" "lane1" "LAdmissionControl$Lane;", Cond.fieldLink RX4 33 "AdmissionControl$Server" "lane2" "LAdmissionControl$Lane;", Cond.methodLink RX6 133 yX4_backlogOf, Cond.instanceMethod yX4_backlogOf, Cond.selects RX4 yX4_backlogOf yX4_backlogOf, Cond.code yX4_backlogOf cX4_backlogOf 5 (some .int), Cond.fieldLink RX4 113 "AdmissionControl$Lane" "length" "I", Cond.fieldLink RX4 116 "AdmissionControl$Lane" "queue" "LAdmissionControl$Row;", Cond.fieldLink RX4 119 "AdmissionControl$Request" "price" "I", Cond.fieldLink RX4 122 "AdmissionControl$Request" "units" "I", Cond.methodLink RX4 107 Lib.Math.max.name, Cond.static Lib.Math.max.name]
def wsX6_backlog_r2 : List Cond := [Cond.initialized "java/lang/Math", Cond.code Lib.Math.max.name Lib.Math.max.code 2 (some .int), Cond.methodLink RX4 103 yX3_at, Cond.instanceMethod yX3_at, Cond.selects RX3 yX3_at yX3_at, Cond.initialized RX3, Cond.code yX3_at cX3_at 2 (some .int), Cond.fieldLink RX3 7 "AdmissionControl$Row" "cells" "[I", Cond.methodLink RX4 70 yX4_find, Cond.instanceMethod yX4_find, Cond.selects RX4 yX4_find yX4_find, Cond.code yX4_find cX4_find 2 (some (.object "AdmissionControl$Request")), Cond.fieldLink RX4 42 "AdmissionControl$Server" "count" "I", Cond.fieldLink RX4 38 "AdmissionControl$Server" "slots" "[LAdmissionControl$Request;"]
def wsX6_backlog : List Cond := .code yX6_backlog cX6_backlog 2 (some .int) :: ((wsX6_backlog_r1 ++ wsX6_backlog_r2) ++ wsX60 ++ wsX40 ++ wsX10 ++ wsX20 ++ wsX30)
def wsX6_worked : List Cond := .code yX6_worked cX6_worked 2 (some .int) :: ([.fieldLink RX6 10 "AdmissionControl" "server" "LAdmissionControl$Server;", .fieldLink RX6 137 "AdmissionControl$Lane" "units" "I", .constant RX6 37 (-100001), .methodLink RX6 61 yX6_isKind, .static yX6_isKind, .initialized RX6, .code yX6_isKind cX6_isKind 1 (some .boolean), .methodLink RX6 67 yX4_lane, .instanceMethod yX4_lane, .selects RX4 yX4_lane yX4_lane, .initialized RX4, .code yX4_lane cX4_lane 2 (some (.object "AdmissionControl$Lane")), .fieldLink RX4 26 "AdmissionControl$Server" "lane0" "LAdmissionControl$Lane;", .fieldLink RX4 30 "AdmissionControl$Server" "lane1" "LAdmissionControl$Lane;", .fieldLink RX4 33 "AdmissionControl$Server" "lane2" "LAdmissionControl$Lane;"] ++ wsX60 ++ wsX10 ++ wsX40)
def wsX6_refused : List Cond := .code yX6_refused cX6_refused 3 (some .int) :: ([.constant RX6 37 (-100001), .fieldLink RX6 10 "AdmissionControl" "server" "LAdmissionControl$Server;", .fieldLink RX6 140 "AdmissionControl$Lane" "refusals" "LAdmissionControl$Row;", .methodLink RX6 61 yX6_isKind, .static yX6_isKind, .initialized RX6, .code yX6_isKind cX6_isKind 1 (some .boolean), .methodLink RX6 67 yX4_lane, .instanceMethod yX4_lane, .selects RX4 yX4_lane yX4_lane, .initialized RX4, .code yX4_lane cX4_lane 2 (some (.object "AdmissionControl$Lane")), .fieldLink RX4 26 "AdmissionControl$Server" "lane0" "LAdmissionControl$Lane;", .fieldLink RX4 30 "AdmissionControl$Server" "lane1" "LAdmissionControl$Lane;", .fieldLink RX4 33 "AdmissionControl$Server" "lane2" "LAdmissionControl$Lane;", .methodLink RX6 51 yX3_at, .instanceMethod yX3_at, .selects RX3 yX3_at yX3_at, .initialized RX3, .code yX3_at cX3_at 2 (some .int), .fieldLink RX3 7 "AdmissionControl$Row" "cells" "[I"] ++ wsX60 ++ wsX10 ++ wsX40 ++ wsX30)
def wsX6_idle : List Cond := .code yX6_idle cX6_idle 1 (some .int) :: ([.fieldLink RX6 10 "AdmissionControl" "server" "LAdmissionControl$Server;", .fieldLink RX6 143 "AdmissionControl$Server" "idle" "I"] ++ wsX60 ++ wsX40)
def wsX6_workShare : List Cond := .code yX6_workShare cX6_workShare 3 (some .float) :: ([.constantFloat RX6 146 (3212836864), .fieldLink RX6 10 "AdmissionControl" "server" "LAdmissionControl$Server;", .fieldLink RX6 137 "AdmissionControl$Lane" "units" "I", .methodLink RX6 61 yX6_isKind, .static yX6_isKind, .initialized RX6, .code yX6_isKind cX6_isKind 1 (some .boolean), .methodLink RX6 67 yX4_lane, .instanceMethod yX4_lane, .selects RX4 yX4_lane yX4_lane, .initialized RX4, .code yX4_lane cX4_lane 2 (some (.object "AdmissionControl$Lane")), .fieldLink RX4 26 "AdmissionControl$Server" "lane0" "LAdmissionControl$Lane;", .fieldLink RX4 30 "AdmissionControl$Server" "lane1" "LAdmissionControl$Lane;", .fieldLink RX4 33 "AdmissionControl$Server" "lane2" "LAdmissionControl$Lane;"] ++ wsX60 ++ wsX10 ++ wsX40)
def wsX6_requests : List Cond := .code yX6_requests cX6_requests 1 (some .int) :: ([.fieldLink RX6 10 "AdmissionControl" "server" "LAdmissionControl$Server;", .fieldLink RX6 147 "AdmissionControl$Server" "count" "I"] ++ wsX60 ++ wsX40)
def wsX6_state : List Cond := .code yX6_state cX6_state 3 (some .int) :: ([.fieldLink RX6 10 "AdmissionControl" "server" "LAdmissionControl$Server;", .constant RX6 37 (-100001), .fieldLink RX6 154 "AdmissionControl$Request" "state" "I", .methodLink RX6 150 yX4_find, .instanceMethod yX4_find, .selects RX4 yX4_find yX4_find, .initialized RX4, .code yX4_find cX4_find 2 (some (.object "AdmissionControl$Request")), .fieldLink RX4 42 "AdmissionControl$Server" "count" "I", .fieldLink RX4 38 "AdmissionControl$Server" "slots" "[LAdmissionControl$Request;"] ++ wsX60 ++ wsX20 ++ wsX40)
def wsX6_price : List Cond := .code yX6_price cX6_price 3 (some .int) :: ([.fieldLink RX6 10 "AdmissionControl" "server" "LAdmissionControl$Server;", .constant RX6 37 (-100001), .fieldLink RX6 159 "AdmissionControl$Request" "price" "I", .methodLink RX6 150 yX4_find, .instanceMethod yX4_find, .selects RX4 yX4_find yX4_find, .initialized RX4, .code yX4_find cX4_find 2 (some (.object "AdmissionControl$Request")), .fieldLink RX4 42 "AdmissionControl$Server" "count" "I", .fieldLink RX4 38 "AdmissionControl$Server" "slots" "[LAdmissionControl$Request;"] ++ wsX60 ++ wsX20 ++ wsX40)
def wsX6_done : List Cond := .code yX6_done cX6_done 3 (some .int) :: ([.fieldLink RX6 10 "AdmissionControl" "server" "LAdmissionControl$Server;", .constant RX6 37 (-100001), .fieldLink RX6 162 "AdmissionControl$Request" "units" "I", .methodLink RX6 150 yX4_find, .instanceMethod yX4_find, .selects RX4 yX4_find yX4_find, .initialized RX4, .code yX4_find cX4_find 2 (some (.object "AdmissionControl$Request")), .fieldLink RX4 42 "AdmissionControl$Server" "count" "I", .fieldLink RX4 38 "AdmissionControl$Server" "slots" "[LAdmissionControl$Request;"] ++ wsX60 ++ wsX20 ++ wsX40)
def wsX6_offers : List Cond := .code yX6_offers cX6_offers 3 (some .int) :: ([.fieldLink RX6 10 "AdmissionControl" "server" "LAdmissionControl$Server;", .constant RX6 37 (-100001), .fieldLink RX6 163 "AdmissionControl$Request" "offers" "I", .methodLink RX6 150 yX4_find, .instanceMethod yX4_find, .selects RX4 yX4_find yX4_find, .initialized RX4, .code yX4_find cX4_find 2 (some (.object "AdmissionControl$Request")), .fieldLink RX4 42 "AdmissionControl$Server" "count" "I", .fieldLink RX4 38 "AdmissionControl$Server" "slots" "[LAdmissionControl$Request;"] ++ wsX60 ++ wsX20 ++ wsX40)
def wsX6_reason : List Cond := .code yX6_reason cX6_reason 3 (some .int) :: ([.fieldLink RX6 10 "AdmissionControl" "server" "LAdmissionControl$Server;", .constant RX6 37 (-100001), .fieldLink RX6 166 "AdmissionControl$Request" "reason" "I", .methodLink RX6 150 yX4_find, .instanceMethod yX4_find, .selects RX4 yX4_find yX4_find, .initialized RX4, .code yX4_find cX4_find 2 (some (.object "AdmissionControl$Request")), .fieldLink RX4 42 "AdmissionControl$Server" "count" "I", .fieldLink RX4 38 "AdmissionControl$Server" "slots" "[LAdmissionControl$Request;"] ++ wsX60 ++ wsX20 ++ wsX40)
def wsX6_when : List Cond := .code yX6_when cX6_when 3 (some .int) :: ([.fieldLink RX6 10 "AdmissionControl" "server" "LAdmissionControl$Server;", .constant RX6 37 (-100001), .fieldLink RX6 154 "AdmissionControl$Request" "state" "I", .fieldLink RX6 169 "AdmissionControl$Request" "tick" "I", .constant RX6 100 (-100005), .methodLink RX6 150 yX4_find, .instanceMethod yX4_find, .selects RX4 yX4_find yX4_find, .initialized RX4, .code yX4_find cX4_find 2 (some (.object "AdmissionControl$Request")), .fieldLink RX4 42 "AdmissionControl$Server" "count" "I", .fieldLink RX4 38 "AdmissionControl$Server" "slots" "[LAdmissionControl$Request;"] ++ wsX60 ++ wsX20 ++ wsX40)
def wsX6_wouldRefuse_r1 : List Cond := [Cond.constant RX6 37 (-100001), Cond.fieldLink RX6 10 "AdmissionControl" "server" "LAdmissionControl$Server;", Cond.methodLink RX6 61 yX6_isKind, Cond.static yX6_isKind, Cond.initialized RX6, Cond.code yX6_isKind cX6_isKind 1 (some .boolean), Cond.methodLink RX6 117 yX6_isShape, Cond.static yX6_isShape, Cond.code yX6_isShape cX6_isShape 1 (some .boolean), Cond.methodLink RX6 67 yX4_lane, Cond.instanceMethod yX4_lane, Cond.selects RX4 yX4_lane yX4_lane, Cond.initialized RX4, Cond.code yX4_lane cX4_lane 2 (some (.object "AdmissionControl$Lane")), Cond.fieldLink RX4 26 "AdmissionControl$Server" "lane0" "LAdmissionControl$Lane;", Cond.fieldLink RX4 30 "AdmissionControl$Server" "lane1" "LAdmissionControl$Lane;", Cond.fieldLink RX4 33 "AdmissionControl$Server" "lane2" "LAdmissionControl$Lane;", Cond.methodLink RX6 172 yX4_expectedCost, Cond.instanceMethod yX4_expectedCost, Cond.selects RX4 yX4_expectedCost yX4_expectedCost, Cond.code yX4_expectedCost cX4_expectedCost 2 (some .int), Cond.fieldLink RX4 20 "AdmissionControl$Server" "estimates" "LAdmissionControl$Row;", Cond.methodLink RX4 107 Lib.Math.max.name, Cond.static Lib.Math.max.name]
def wsX6_wouldRefuse_r2 : List Cond := [Cond.initialized "java/lang/Math", Cond.code Lib.Math.max.name Lib.Math.max.code 2 (some .int), Cond.methodLink RX4 103 yX3_at, Cond.instanceMethod yX3_at, Cond.selects RX3 yX3_at yX3_at, Cond.initialized RX3, Cond.code yX3_at cX3_at 2 (some .int), Cond.fieldLink RX3 7 "AdmissionControl$Row" "cells" "[I", Cond.methodLink RX6 175 yX4_firstRefusal, Cond.instanceMethod yX4_firstRefusal, Cond.selects RX4 yX4_firstRefusal yX4_firstRefusal, Cond.code yX4_firstRefusal cX4_firstRefusal 6 (some .int), Cond.fieldLink RX4 125 "AdmissionControl$Lane" "settings" "LAdmissionControl$Row;", Cond.fieldLink RX4 113 "AdmissionControl$Lane" "length" "I", Cond.fieldLink RX4 14 "AdmissionControl$Server" "settings" "LAdmissionControl$Row;", Cond.fieldLink RX4 133 "AdmissionControl$Lane" "tokens" "I", Cond.methodLink RX4 126 yX4_backlogOf, Cond.instanceMethod yX4_backlogOf, Cond.selects RX4 yX4_backlogOf yX4_backlogOf, Cond.code yX4_backlogOf cX4_backlogOf 5 (some .int), Cond.fieldLink RX4 116 "AdmissionControl$Lane" "queue" "LAdmissionControl$Row;", Cond.fieldLink RX4 119 "AdmissionControl$Request" "price" "I", Cond.fieldLink RX4 122 "AdmissionControl$Request" "units" "I", Cond.methodLink RX4 70 yX4_find]
def wsX6_wouldRefuse_r3 : List Cond := [Cond.instanceMethod yX4_find, Cond.selects RX4 yX4_find yX4_find, Cond.code yX4_find cX4_find 2 (some (.object "AdmissionControl$Request")), Cond.fieldLink RX4 42 "AdmissionControl$Server" "count" "I", Cond.fieldLink RX4 38 "AdmissionControl$Server" "slots" "[LAdmissionControl$Request;", Cond.static yX6_quotient, Cond.code yX6_quotient cX6_quotient 2 (some .int)]
def wsX6_wouldRefuse : List Cond := .code yX6_wouldRefuse cX6_wouldRefuse 3 (some .int) :: ((wsX6_wouldRefuse_r1 ++ (wsX6_wouldRefuse_r2 ++ wsX6_wouldRefuse_r3)) ++ wsX60 ++ wsX40 ++ wsX30 ++ wsX10 ++ wsX20)
def wsX6_beginTrial_r1 : List Cond := [Cond.fieldLink RX6 16 "AdmissionControl" "trial" "LAdmissionControl$Server;", Cond.fieldLink RX6 10 "AdmissionControl" "server" "LAdmissionControl$Server;", Cond.fieldLink RX6 47 "AdmissionControl$Server" "settings" "LAdmissionControl$Row;", Cond.methodLink RX6 185 yX4_copyFrom, Cond.instanceMethod yX4_copyFrom, Cond.selects RX4 yX4_copyFrom yX4_copyFrom, Cond.initialized RX4, Cond.code yX4_copyFrom cX4_copyFrom 5 none, Cond.fieldLink RX4 14 "AdmissionControl$Server" "settings" "LAdmissionControl$Row;", Cond.fieldLink RX4 20 "AdmissionControl$Server" "estimates" "LAdmissionControl$Row;", Cond.fieldLink RX4 26 "AdmissionControl$Server" "lane0" "LAdmissionControl$Lane;", Cond.fieldLink RX4 30 "AdmissionControl$Server" "lane1" "LAdmissionControl$Lane;", Cond.fieldLink RX4 33 "AdmissionControl$Server" "lane2" "LAdmissionControl$Lane;", Cond.fieldLink RX4 42 "AdmissionControl$Server" "count" "I", Cond.fieldLink RX4 46 "AdmissionControl$Server" "open" "I", Cond.fieldLink RX4 49 "AdmissionControl$Server" "rejected" "I", Cond.fieldLink RX4 52 "AdmissionControl$Server" "clock" "I", Cond.fieldLink RX4 55 "AdmissionControl$Server" "idle" "I", Cond.methodLink RX4 63 yX3_copyFrom, Cond.instanceMethod yX3_copyFrom, Cond.selects RX3 yX3_copyFrom yX3_copyFrom, Cond.initialized RX3, Cond.code yX3_copyFrom cX3_copyFrom 3 none, Cond.fieldLink RX3 7 "AdmissionControl$Row" "cells" "[I"]
def wsX6_beginTrial_r2 : List Cond := [Cond.methodLink RX4 67 yX1_copyFrom, Cond.instanceMethod yX1_copyFrom, Cond.selects RX1 yX1_copyFrom yX1_copyFrom, Cond.initialized RX1, Cond.code yX1_copyFrom cX1_copyFrom 2 none, Cond.fieldLink RX1 14 "AdmissionControl$Lane" "settings" "LAdmissionControl$Row;", Cond.fieldLink RX1 20 "AdmissionControl$Lane" "refusals" "LAdmissionControl$Row;", Cond.fieldLink RX1 23 "AdmissionControl$Lane" "queue" "LAdmissionControl$Row;", Cond.fieldLink RX1 26 "AdmissionControl$Lane" "length" "I", Cond.fieldLink RX1 30 "AdmissionControl$Lane" "tokens" "I", Cond.fieldLink RX1 33 "AdmissionControl$Lane" "pass" "I", Cond.fieldLink RX1 36 "AdmissionControl$Lane" "units" "I", Cond.methodLink RX1 53 yX3_copyFrom, Cond.methodLink RX4 70 yX4_find, Cond.instanceMethod yX4_find, Cond.selects RX4 yX4_find yX4_find, Cond.code yX4_find cX4_find 2 (some (.object "AdmissionControl$Request")), Cond.fieldLink RX4 38 "AdmissionControl$Server" "slots" "[LAdmissionControl$Request;", Cond.methodLink RX4 74 yX2_copyFrom, Cond.instanceMethod yX2_copyFrom, Cond.selects RX2 yX2_copyFrom yX2_copyFrom, Cond.initialized RX2, Cond.code yX2_copyFrom cX2_copyFrom 2 none, Cond.fieldLink RX2 15 "AdmissionControl$Request" "kind" "I"]
def wsX6_beginTrial_r3 : List Cond := [Cond.fieldLink RX2 18 "AdmissionControl$Request" "shape" "I", Cond.fieldLink RX2 21 "AdmissionControl$Request" "cost" "I", Cond.fieldLink RX2 24 "AdmissionControl$Request" "state" "I", Cond.fieldLink RX2 27 "AdmissionControl$Request" "price" "I", Cond.fieldLink RX2 30 "AdmissionControl$Request" "units" "I", Cond.fieldLink RX2 33 "AdmissionControl$Request" "offers" "I", Cond.fieldLink RX2 36 "AdmissionControl$Request" "reason" "I", Cond.fieldLink RX2 39 "AdmissionControl$Request" "admitted" "I", Cond.fieldLink RX2 42 "AdmissionControl$Request" "tick" "I", Cond.methodLink RX6 57 yX3_put, Cond.instanceMethod yX3_put, Cond.selects RX3 yX3_put yX3_put, Cond.code yX3_put cX3_put 3 none]
def wsX6_beginTrial : List Cond := .code yX6_beginTrial cX6_beginTrial 2 none :: ((wsX6_beginTrial_r1 ++ (wsX6_beginTrial_r2 ++ wsX6_beginTrial_r3)) ++ wsX60 ++ wsX40 ++ wsX30 ++ wsX10 ++ wsX20)
def wsX6_ticksOfTrial_r1 : List Cond := [Cond.fieldLink RX6 16 "AdmissionControl" "trial" "LAdmissionControl$Server;", Cond.fieldLink RX6 207 "AdmissionControl$Server" "open" "I", Cond.constant RX6 100 (-100005), Cond.methodLink RX6 204 yX6_beginTrial, Cond.instanceMethod yX6_beginTrial, Cond.selects RX6 yX6_beginTrial yX6_beginTrial, Cond.initialized RX6, Cond.code yX6_beginTrial cX6_beginTrial 2 none, Cond.fieldLink RX6 10 "AdmissionControl" "server" "LAdmissionControl$Server;", Cond.fieldLink RX6 47 "AdmissionControl$Server" "settings" "LAdmissionControl$Row;", Cond.methodLink RX6 185 yX4_copyFrom, Cond.instanceMethod yX4_copyFrom, Cond.selects RX4 yX4_copyFrom yX4_copyFrom, Cond.initialized RX4, Cond.code yX4_copyFrom cX4_copyFrom 5 none, Cond.fieldLink RX4 14 "AdmissionControl$Server" "settings" "LAdmissionControl$Row;", Cond.fieldLink RX4 20 "AdmissionControl$Server" "estimates" "LAdmissionControl$Row;", Cond.fieldLink RX4 26 "AdmissionControl$Server" "lane0" "LAdmissionControl$Lane;", Cond.fieldLink RX4 30 "AdmissionControl$Server" "lane1" "LAdmissionControl$Lane;", Cond.fieldLink RX4 33 "AdmissionControl$Server" "lane2" "LAdmissionControl$Lane;", Cond.fieldLink RX4 42 "AdmissionControl$Server" "count" "I", Cond.fieldLink RX4 46 "AdmissionControl$Server" "open" "I", Cond.fieldLink RX4 49 "AdmissionControl$Server" "rejected" "I", Cond.fieldLink RX4 52 "AdmissionControl$Server" "clock" "I"]
def wsX6_ticksOfTrial_r2 : List Cond := [Cond.fieldLink RX4 55 "AdmissionControl$Server" "idle" "I", Cond.methodLink RX4 63 yX3_copyFrom, Cond.instanceMethod yX3_copyFrom, Cond.selects RX3 yX3_copyFrom yX3_copyFrom, Cond.initialized RX3, Cond.code yX3_copyFrom cX3_copyFrom 3 none, Cond.fieldLink RX3 7 "AdmissionControl$Row" "cells" "[I", Cond.methodLink RX4 67 yX1_copyFrom, Cond.instanceMethod yX1_copyFrom, Cond.selects RX1 yX1_copyFrom yX1_copyFrom, Cond.initialized RX1, Cond.code yX1_copyFrom cX1_copyFrom 2 none, Cond.fieldLink RX1 14 "AdmissionControl$Lane" "settings" "LAdmissionControl$Row;", Cond.fieldLink RX1 20 "AdmissionControl$Lane" "refusals" "LAdmissionControl$Row;", Cond.fieldLink RX1 23 "AdmissionControl$Lane" "queue" "LAdmissionControl$Row;", Cond.fieldLink RX1 26 "AdmissionControl$Lane" "length" "I", Cond.fieldLink RX1 30 "AdmissionControl$Lane" "tokens" "I", Cond.fieldLink RX1 33 "AdmissionControl$Lane" "pass" "I", Cond.fieldLink RX1 36 "AdmissionControl$Lane" "units" "I", Cond.methodLink RX1 53 yX3_copyFrom, Cond.methodLink RX4 70 yX4_find, Cond.instanceMethod yX4_find, Cond.selects RX4 yX4_find yX4_find, Cond.code yX4_find cX4_find 2 (some (.object "AdmissionControl$Request"))]
def wsX6_ticksOfTrial_r3 : List Cond := [Cond.fieldLink RX4 38 "AdmissionControl$Server" "slots" "[LAdmissionControl$Request;", Cond.methodLink RX4 74 yX2_copyFrom, Cond.instanceMethod yX2_copyFrom, Cond.selects RX2 yX2_copyFrom yX2_copyFrom, Cond.initialized RX2, Cond.code yX2_copyFrom cX2_copyFrom 2 none, Cond.fieldLink RX2 15 "AdmissionControl$Request" "kind" "I", Cond.fieldLink RX2 18 "AdmissionControl$Request" "shape" "I", Cond.fieldLink RX2 21 "AdmissionControl$Request" "cost" "I", Cond.fieldLink RX2 24 "AdmissionControl$Request" "state" "I", Cond.fieldLink RX2 27 "AdmissionControl$Request" "price" "I", Cond.fieldLink RX2 30 "AdmissionControl$Request" "units" "I", Cond.fieldLink RX2 33 "AdmissionControl$Request" "offers" "I", Cond.fieldLink RX2 36 "AdmissionControl$Request" "reason" "I", Cond.fieldLink RX2 39 "AdmissionControl$Request" "admitted" "I", Cond.fieldLink RX2 42 "AdmissionControl$Request" "tick" "I", Cond.methodLink RX6 57 yX3_put, Cond.instanceMethod yX3_put, Cond.selects RX3 yX3_put yX3_put, Cond.code yX3_put cX3_put 3 none, Cond.methodLink RX6 192 yX4_tick, Cond.instanceMethod yX4_tick, Cond.selects RX4 yX4_tick yX4_tick, Cond.code yX4_tick cX4_tick 3 (some .int)]
def wsX6_ticksOfTrial_r4 : List Cond := [Cond.fieldLink RX4 125 "AdmissionControl$Lane" "settings" "LAdmissionControl$Row;", Cond.fieldLink RX4 172 "AdmissionControl$Request" "state" "I", Cond.fieldLink RX4 187 "AdmissionControl$Request" "tick" "I", Cond.methodLink RX4 148 yX4_lane, Cond.instanceMethod yX4_lane, Cond.selects RX4 yX4_lane yX4_lane, Cond.code yX4_lane cX4_lane 2 (some (.object "AdmissionControl$Lane")), Cond.methodLink RX4 103 yX3_at, Cond.instanceMethod yX3_at, Cond.selects RX3 yX3_at yX3_at, Cond.code yX3_at cX3_at 2 (some .int), Cond.methodLink RX4 189 yX1_gain, Cond.instanceMethod yX1_gain, Cond.selects RX1 yX1_gain yX1_gain, Cond.code yX1_gain cX1_gain 3 none, Cond.methodLink RX1 47 Lib.Math.min.name, Cond.static Lib.Math.min.name, Cond.initialized "java/lang/Math", Cond.code Lib.Math.min.name Lib.Math.min.code 2 (some .int), Cond.methodLink RX1 43 yX3_at, Cond.methodLink RX4 95 yX4_offerNow, Cond.instanceMethod yX4_offerNow, Cond.selects RX4 yX4_offerNow yX4_offerNow, Cond.code yX4_offerNow cX4_offerNow 3 (some .int)]
def wsX6_ticksOfTrial_r5 : List Cond := [Cond.fieldLink RX4 136 "AdmissionControl$Request" "shape" "I", Cond.fieldLink RX4 119 "AdmissionControl$Request" "price" "I", Cond.fieldLink RX4 142 "AdmissionControl$Request" "offers" "I", Cond.fieldLink RX4 145 "AdmissionControl$Request" "kind" "I", Cond.methodLink RX4 139 yX4_expectedCost, Cond.instanceMethod yX4_expectedCost, Cond.selects RX4 yX4_expectedCost yX4_expectedCost, Cond.code yX4_expectedCost cX4_expectedCost 2 (some .int), Cond.methodLink RX4 107 Lib.Math.max.name, Cond.static Lib.Math.max.name, Cond.code Lib.Math.max.name Lib.Math.max.code 2 (some .int), Cond.methodLink RX4 152 yX4_firstRefusal, Cond.instanceMethod yX4_firstRefusal, Cond.selects RX4 yX4_firstRefusal yX4_firstRefusal, Cond.code yX4_firstRefusal cX4_firstRefusal 6 (some .int), Cond.fieldLink RX4 113 "AdmissionControl$Lane" "length" "I", Cond.fieldLink RX4 133 "AdmissionControl$Lane" "tokens" "I", Cond.methodLink RX4 126 yX4_backlogOf, Cond.instanceMethod yX4_backlogOf, Cond.selects RX4 yX4_backlogOf yX4_backlogOf, Cond.code yX4_backlogOf cX4_backlogOf 5 (some .int), Cond.fieldLink RX4 116 "AdmissionControl$Lane" "queue" "LAdmissionControl$Row;", Cond.fieldLink RX4 122 "AdmissionControl$Request" "units" "I", Cond.static yX6_quotient]
def wsX6_ticksOfTrial_r6 : List Cond := [Cond.code yX6_quotient cX6_quotient 2 (some .int), Cond.methodLink RX4 156 yX4_admit, Cond.instanceMethod yX4_admit, Cond.selects RX4 yX4_admit yX4_admit, Cond.code yX4_admit cX4_admit 3 none, Cond.fieldLink RX4 166 "AdmissionControl$Request" "number" "I", Cond.fieldLink RX4 175 "AdmissionControl$Request" "admitted" "I", Cond.methodLink RX4 163 yX4_catchUp, Cond.instanceMethod yX4_catchUp, Cond.selects RX4 yX4_catchUp yX4_catchUp, Cond.code yX4_catchUp cX4_catchUp 5 none, Cond.fieldLink RX4 178 "AdmissionControl$Lane" "pass" "I", Cond.methodLink RX4 169 yX1_join, Cond.instanceMethod yX1_join, Cond.selects RX1 yX1_join yX1_join, Cond.code yX1_join cX1_join 2 none, Cond.methodLink RX1 39 yX3_put, Cond.methodLink RX4 159 yX4_refuse, Cond.instanceMethod yX4_refuse, Cond.selects RX4 yX4_refuse yX4_refuse, Cond.code yX4_refuse cX4_refuse 4 none, Cond.fieldLink RX4 181 "AdmissionControl$Lane" "refusals" "LAdmissionControl$Row;", Cond.fieldLink RX4 184 "AdmissionControl$Request" "reason" "I", Cond.methodLink RX4 58 yX3_put]
def wsX6_ticksOfTrial_r7 : List Cond := [Cond.methodLink RX4 192 yX4_refuseThoseWhoWaited, Cond.instanceMethod yX4_refuseThoseWhoWaited, Cond.selects RX4 yX4_refuseThoseWhoWaited yX4_refuseThoseWhoWaited, Cond.code yX4_refuseThoseWhoWaited cX4_refuseThoseWhoWaited 5 none, Cond.methodLink RX4 198 yX4_hasWaitedTooLong, Cond.instanceMethod yX4_hasWaitedTooLong, Cond.selects RX4 yX4_hasWaitedTooLong yX4_hasWaitedTooLong, Cond.code yX4_hasWaitedTooLong cX4_hasWaitedTooLong 2 (some .boolean), Cond.methodLink RX4 202 yX1_leave, Cond.instanceMethod yX1_leave, Cond.selects RX1 yX1_leave yX1_leave, Cond.code yX1_leave cX1_leave 3 none, Cond.methodLink RX4 195 yX4_workOneUnit, Cond.instanceMethod yX4_workOneUnit, Cond.selects RX4 yX4_workOneUnit yX4_workOneUnit, Cond.code yX4_workOneUnit cX4_workOneUnit 3 (some .int), Cond.fieldLink RX4 209 "AdmissionControl$Lane" "units" "I", Cond.fieldLink RX4 210 "AdmissionControl$Request" "cost" "I", Cond.methodLink RX4 205 yX4_nextLane, Cond.instanceMethod yX4_nextLane, Cond.selects RX4 yX4_nextLane yX4_nextLane, Cond.code yX4_nextLane cX4_nextLane 4 (some (.object "AdmissionControl$Lane")), Cond.methodLink RX4 213 yX4_complete, Cond.instanceMethod yX4_complete]
def wsX6_ticksOfTrial_r8 : List Cond := [Cond.selects RX4 yX4_complete yX4_complete, Cond.code yX4_complete cX4_complete 4 none]
def wsX6_ticksOfTrial : List Cond := .code yX6_ticksOfTrial cX6_ticksOfTrial 3 (some .int) :: ((wsX6_ticksOfTrial_r1 ++ (wsX6_ticksOfTrial_r2 ++ (wsX6_ticksOfTrial_r3 ++ (wsX6_ticksOfTrial_r4 ++ (wsX6_ticksOfTrial_r5 ++ (wsX6_ticksOfTrial_r6 ++ (wsX6_ticksOfTrial_r7 ++ wsX6_ticksOfTrial_r8))))))) ++ wsX60 ++ wsX40 ++ wsX30 ++ wsX10 ++ wsX20)
def wsX6_ticksLeft_r1 : List Cond := [Cond.fieldLink RX6 10 "AdmissionControl" "server" "LAdmissionControl$Server;", Cond.fieldLink RX6 47 "AdmissionControl$Server" "settings" "LAdmissionControl$Row;", Cond.methodLink RX6 51 yX3_at, Cond.instanceMethod yX3_at, Cond.selects RX3 yX3_at yX3_at, Cond.initialized RX3, Cond.code yX3_at cX3_at 2 (some .int), Cond.fieldLink RX3 7 "AdmissionControl$Row" "cells" "[I", Cond.methodLink RX6 179 yX6_ticksOfTrial, Cond.instanceMethod yX6_ticksOfTrial, Cond.selects RX6 yX6_ticksOfTrial yX6_ticksOfTrial, Cond.initialized RX6, Cond.code yX6_ticksOfTrial cX6_ticksOfTrial 3 (some .int), Cond.fieldLink RX6 16 "AdmissionControl" "trial" "LAdmissionControl$Server;", Cond.fieldLink RX6 207 "AdmissionControl$Server" "open" "I", Cond.constant RX6 100 (-100005), Cond.methodLink RX6 204 yX6_beginTrial, Cond.instanceMethod yX6_beginTrial, Cond.selects RX6 yX6_beginTrial yX6_beginTrial, Cond.code yX6_beginTrial cX6_beginTrial 2 none, Cond.methodLink RX6 185 yX4_copyFrom, Cond.instanceMethod yX4_copyFrom, Cond.selects RX4 yX4_copyFrom yX4_copyFrom, Cond.initialized RX4]
def wsX6_ticksLeft_r2 : List Cond := [Cond.code yX4_copyFrom cX4_copyFrom 5 none, Cond.fieldLink RX4 14 "AdmissionControl$Server" "settings" "LAdmissionControl$Row;", Cond.fieldLink RX4 20 "AdmissionControl$Server" "estimates" "LAdmissionControl$Row;", Cond.fieldLink RX4 26 "AdmissionControl$Server" "lane0" "LAdmissionControl$Lane;", Cond.fieldLink RX4 30 "AdmissionControl$Server" "lane1" "LAdmissionControl$Lane;", Cond.fieldLink RX4 33 "AdmissionControl$Server" "lane2" "LAdmissionControl$Lane;", Cond.fieldLink RX4 42 "AdmissionControl$Server" "count" "I", Cond.fieldLink RX4 46 "AdmissionControl$Server" "open" "I", Cond.fieldLink RX4 49 "AdmissionControl$Server" "rejected" "I", Cond.fieldLink RX4 52 "AdmissionControl$Server" "clock" "I", Cond.fieldLink RX4 55 "AdmissionControl$Server" "idle" "I", Cond.methodLink RX4 63 yX3_copyFrom, Cond.instanceMethod yX3_copyFrom, Cond.selects RX3 yX3_copyFrom yX3_copyFrom, Cond.code yX3_copyFrom cX3_copyFrom 3 none, Cond.methodLink RX4 67 yX1_copyFrom, Cond.instanceMethod yX1_copyFrom, Cond.selects RX1 yX1_copyFrom yX1_copyFrom, Cond.initialized RX1, Cond.code yX1_copyFrom cX1_copyFrom 2 none, Cond.fieldLink RX1 14 "AdmissionControl$Lane" "settings" "LAdmissionControl$Row;", Cond.fieldLink RX1 20 "AdmissionControl$Lane" "refusals" "LAdmissionControl$Row;", Cond.fieldLink RX1 23 "AdmissionControl$Lane" "queue" "LAdmissionControl$Row;", Cond.fieldLink RX1 26 "AdmissionControl$Lane" "length" "I"]
def wsX6_ticksLeft_r3 : List Cond := [Cond.fieldLink RX1 30 "AdmissionControl$Lane" "tokens" "I", Cond.fieldLink RX1 33 "AdmissionControl$Lane" "pass" "I", Cond.fieldLink RX1 36 "AdmissionControl$Lane" "units" "I", Cond.methodLink RX1 53 yX3_copyFrom, Cond.methodLink RX4 70 yX4_find, Cond.instanceMethod yX4_find, Cond.selects RX4 yX4_find yX4_find, Cond.code yX4_find cX4_find 2 (some (.object "AdmissionControl$Request")), Cond.fieldLink RX4 38 "AdmissionControl$Server" "slots" "[LAdmissionControl$Request;", Cond.methodLink RX4 74 yX2_copyFrom, Cond.instanceMethod yX2_copyFrom, Cond.selects RX2 yX2_copyFrom yX2_copyFrom, Cond.initialized RX2, Cond.code yX2_copyFrom cX2_copyFrom 2 none, Cond.fieldLink RX2 15 "AdmissionControl$Request" "kind" "I", Cond.fieldLink RX2 18 "AdmissionControl$Request" "shape" "I", Cond.fieldLink RX2 21 "AdmissionControl$Request" "cost" "I", Cond.fieldLink RX2 24 "AdmissionControl$Request" "state" "I", Cond.fieldLink RX2 27 "AdmissionControl$Request" "price" "I", Cond.fieldLink RX2 30 "AdmissionControl$Request" "units" "I", Cond.fieldLink RX2 33 "AdmissionControl$Request" "offers" "I", Cond.fieldLink RX2 36 "AdmissionControl$Request" "reason" "I", Cond.fieldLink RX2 39 "AdmissionControl$Request" "admitted" "I", Cond.fieldLink RX2 42 "AdmissionControl$Request" "tick" "I"]
def wsX6_ticksLeft_r4 : List Cond := [Cond.methodLink RX6 57 yX3_put, Cond.instanceMethod yX3_put, Cond.selects RX3 yX3_put yX3_put, Cond.code yX3_put cX3_put 3 none, Cond.methodLink RX6 192 yX4_tick, Cond.instanceMethod yX4_tick, Cond.selects RX4 yX4_tick yX4_tick, Cond.code yX4_tick cX4_tick 3 (some .int), Cond.fieldLink RX4 125 "AdmissionControl$Lane" "settings" "LAdmissionControl$Row;", Cond.fieldLink RX4 172 "AdmissionControl$Request" "state" "I", Cond.fieldLink RX4 187 "AdmissionControl$Request" "tick" "I", Cond.methodLink RX4 148 yX4_lane, Cond.instanceMethod yX4_lane, Cond.selects RX4 yX4_lane yX4_lane, Cond.code yX4_lane cX4_lane 2 (some (.object "AdmissionControl$Lane")), Cond.methodLink RX4 103 yX3_at, Cond.methodLink RX4 189 yX1_gain, Cond.instanceMethod yX1_gain, Cond.selects RX1 yX1_gain yX1_gain, Cond.code yX1_gain cX1_gain 3 none, Cond.methodLink RX1 47 Lib.Math.min.name, Cond.static Lib.Math.min.name, Cond.initialized "java/lang/Math", Cond.code Lib.Math.min.name Lib.Math.min.code 2 (some .int)]
def wsX6_ticksLeft_r5 : List Cond := [Cond.methodLink RX1 43 yX3_at, Cond.methodLink RX4 95 yX4_offerNow, Cond.instanceMethod yX4_offerNow, Cond.selects RX4 yX4_offerNow yX4_offerNow, Cond.code yX4_offerNow cX4_offerNow 3 (some .int), Cond.fieldLink RX4 136 "AdmissionControl$Request" "shape" "I", Cond.fieldLink RX4 119 "AdmissionControl$Request" "price" "I", Cond.fieldLink RX4 142 "AdmissionControl$Request" "offers" "I", Cond.fieldLink RX4 145 "AdmissionControl$Request" "kind" "I", Cond.methodLink RX4 139 yX4_expectedCost, Cond.instanceMethod yX4_expectedCost, Cond.selects RX4 yX4_expectedCost yX4_expectedCost, Cond.code yX4_expectedCost cX4_expectedCost 2 (some .int), Cond.methodLink RX4 107 Lib.Math.max.name, Cond.static Lib.Math.max.name, Cond.code Lib.Math.max.name Lib.Math.max.code 2 (some .int), Cond.methodLink RX4 152 yX4_firstRefusal, Cond.instanceMethod yX4_firstRefusal, Cond.selects RX4 yX4_firstRefusal yX4_firstRefusal, Cond.code yX4_firstRefusal cX4_firstRefusal 6 (some .int), Cond.fieldLink RX4 113 "AdmissionControl$Lane" "length" "I", Cond.fieldLink RX4 133 "AdmissionControl$Lane" "tokens" "I", Cond.methodLink RX4 126 yX4_backlogOf, Cond.instanceMethod yX4_backlogOf]
def wsX6_ticksLeft_r6 : List Cond := [Cond.selects RX4 yX4_backlogOf yX4_backlogOf, Cond.code yX4_backlogOf cX4_backlogOf 5 (some .int), Cond.fieldLink RX4 116 "AdmissionControl$Lane" "queue" "LAdmissionControl$Row;", Cond.fieldLink RX4 122 "AdmissionControl$Request" "units" "I", Cond.static yX6_quotient, Cond.code yX6_quotient cX6_quotient 2 (some .int), Cond.methodLink RX4 156 yX4_admit, Cond.instanceMethod yX4_admit, Cond.selects RX4 yX4_admit yX4_admit, Cond.code yX4_admit cX4_admit 3 none, Cond.fieldLink RX4 166 "AdmissionControl$Request" "number" "I", Cond.fieldLink RX4 175 "AdmissionControl$Request" "admitted" "I", Cond.methodLink RX4 163 yX4_catchUp, Cond.instanceMethod yX4_catchUp, Cond.selects RX4 yX4_catchUp yX4_catchUp, Cond.code yX4_catchUp cX4_catchUp 5 none, Cond.fieldLink RX4 178 "AdmissionControl$Lane" "pass" "I", Cond.methodLink RX4 169 yX1_join, Cond.instanceMethod yX1_join, Cond.selects RX1 yX1_join yX1_join, Cond.code yX1_join cX1_join 2 none, Cond.methodLink RX1 39 yX3_put, Cond.methodLink RX4 159 yX4_refuse, Cond.instanceMethod yX4_refuse]
def wsX6_ticksLeft_r7 : List Cond := [Cond.selects RX4 yX4_refuse yX4_refuse, Cond.code yX4_refuse cX4_refuse 4 none, Cond.fieldLink RX4 181 "AdmissionControl$Lane" "refusals" "LAdmissionControl$Row;", Cond.fieldLink RX4 184 "AdmissionControl$Request" "reason" "I", Cond.methodLink RX4 58 yX3_put, Cond.methodLink RX4 192 yX4_refuseThoseWhoWaited, Cond.instanceMethod yX4_refuseThoseWhoWaited, Cond.selects RX4 yX4_refuseThoseWhoWaited yX4_refuseThoseWhoWaited, Cond.code yX4_refuseThoseWhoWaited cX4_refuseThoseWhoWaited 5 none, Cond.methodLink RX4 198 yX4_hasWaitedTooLong, Cond.instanceMethod yX4_hasWaitedTooLong, Cond.selects RX4 yX4_hasWaitedTooLong yX4_hasWaitedTooLong, Cond.code yX4_hasWaitedTooLong cX4_hasWaitedTooLong 2 (some .boolean), Cond.methodLink RX4 202 yX1_leave, Cond.instanceMethod yX1_leave, Cond.selects RX1 yX1_leave yX1_leave, Cond.code yX1_leave cX1_leave 3 none, Cond.methodLink RX4 195 yX4_workOneUnit, Cond.instanceMethod yX4_workOneUnit, Cond.selects RX4 yX4_workOneUnit yX4_workOneUnit, Cond.code yX4_workOneUnit cX4_workOneUnit 3 (some .int), Cond.fieldLink RX4 209 "AdmissionControl$Lane" "units" "I", Cond.fieldLink RX4 210 "AdmissionControl$Request" "cost" "I", Cond.methodLink RX4 205 yX4_nextLane]
def wsX6_ticksLeft_r8 : List Cond := [Cond.instanceMethod yX4_nextLane, Cond.selects RX4 yX4_nextLane yX4_nextLane, Cond.code yX4_nextLane cX4_nextLane 4 (some (.object "AdmissionControl$Lane")), Cond.methodLink RX4 213 yX4_complete, Cond.instanceMethod yX4_complete, Cond.selects RX4 yX4_complete yX4_complete, Cond.code yX4_complete cX4_complete 4 none]
def wsX6_ticksLeft : List Cond := .code yX6_ticksLeft cX6_ticksLeft 1 (some .int) :: ((wsX6_ticksLeft_r1 ++ (wsX6_ticksLeft_r2 ++ (wsX6_ticksLeft_r3 ++ (wsX6_ticksLeft_r4 ++ (wsX6_ticksLeft_r5 ++ (wsX6_ticksLeft_r6 ++ (wsX6_ticksLeft_r7 ++ wsX6_ticksLeft_r8))))))) ++ wsX60 ++ wsX40 ++ wsX30 ++ wsX10 ++ wsX20)
def wsX6_ticksIf_r1 : List Cond := [Cond.constant RX6 42 (-100002), Cond.methodLink RX6 38 yX6_isServerValue, Cond.static yX6_isServerValue, Cond.initialized RX6, Cond.code yX6_isServerValue cX6_isServerValue 2 (some .boolean), Cond.methodLink RX6 194 yX6_isBetween, Cond.static yX6_isBetween, Cond.code yX6_isBetween cX6_isBetween 3 (some .boolean), Cond.methodLink RX6 179 yX6_ticksOfTrial, Cond.instanceMethod yX6_ticksOfTrial, Cond.selects RX6 yX6_ticksOfTrial yX6_ticksOfTrial, Cond.code yX6_ticksOfTrial cX6_ticksOfTrial 3 (some .int), Cond.fieldLink RX6 16 "AdmissionControl" "trial" "LAdmissionControl$Server;", Cond.fieldLink RX6 207 "AdmissionControl$Server" "open" "I", Cond.constant RX6 100 (-100005), Cond.methodLink RX6 204 yX6_beginTrial, Cond.instanceMethod yX6_beginTrial, Cond.selects RX6 yX6_beginTrial yX6_beginTrial, Cond.code yX6_beginTrial cX6_beginTrial 2 none, Cond.fieldLink RX6 10 "AdmissionControl" "server" "LAdmissionControl$Server;", Cond.fieldLink RX6 47 "AdmissionControl$Server" "settings" "LAdmissionControl$Row;", Cond.methodLink RX6 185 yX4_copyFrom, Cond.instanceMethod yX4_copyFrom, Cond.selects RX4 yX4_copyFrom yX4_copyFrom]
def wsX6_ticksIf_r2 : List Cond := [Cond.initialized RX4, Cond.code yX4_copyFrom cX4_copyFrom 5 none, Cond.fieldLink RX4 14 "AdmissionControl$Server" "settings" "LAdmissionControl$Row;", Cond.fieldLink RX4 20 "AdmissionControl$Server" "estimates" "LAdmissionControl$Row;", Cond.fieldLink RX4 26 "AdmissionControl$Server" "lane0" "LAdmissionControl$Lane;", Cond.fieldLink RX4 30 "AdmissionControl$Server" "lane1" "LAdmissionControl$Lane;", Cond.fieldLink RX4 33 "AdmissionControl$Server" "lane2" "LAdmissionControl$Lane;", Cond.fieldLink RX4 42 "AdmissionControl$Server" "count" "I", Cond.fieldLink RX4 46 "AdmissionControl$Server" "open" "I", Cond.fieldLink RX4 49 "AdmissionControl$Server" "rejected" "I", Cond.fieldLink RX4 52 "AdmissionControl$Server" "clock" "I", Cond.fieldLink RX4 55 "AdmissionControl$Server" "idle" "I", Cond.methodLink RX4 63 yX3_copyFrom, Cond.instanceMethod yX3_copyFrom, Cond.selects RX3 yX3_copyFrom yX3_copyFrom, Cond.initialized RX3, Cond.code yX3_copyFrom cX3_copyFrom 3 none, Cond.fieldLink RX3 7 "AdmissionControl$Row" "cells" "[I", Cond.methodLink RX4 67 yX1_copyFrom, Cond.instanceMethod yX1_copyFrom, Cond.selects RX1 yX1_copyFrom yX1_copyFrom, Cond.initialized RX1, Cond.code yX1_copyFrom cX1_copyFrom 2 none, Cond.fieldLink RX1 14 "AdmissionControl$Lane" "settings" "LAdmissionControl$Row;"]
def wsX6_ticksIf_r3 : List Cond := [Cond.fieldLink RX1 20 "AdmissionControl$Lane" "refusals" "LAdmissionControl$Row;", Cond.fieldLink RX1 23 "AdmissionControl$Lane" "queue" "LAdmissionControl$Row;", Cond.fieldLink RX1 26 "AdmissionControl$Lane" "length" "I", Cond.fieldLink RX1 30 "AdmissionControl$Lane" "tokens" "I", Cond.fieldLink RX1 33 "AdmissionControl$Lane" "pass" "I", Cond.fieldLink RX1 36 "AdmissionControl$Lane" "units" "I", Cond.methodLink RX1 53 yX3_copyFrom, Cond.methodLink RX4 70 yX4_find, Cond.instanceMethod yX4_find, Cond.selects RX4 yX4_find yX4_find, Cond.code yX4_find cX4_find 2 (some (.object "AdmissionControl$Request")), Cond.fieldLink RX4 38 "AdmissionControl$Server" "slots" "[LAdmissionControl$Request;", Cond.methodLink RX4 74 yX2_copyFrom, Cond.instanceMethod yX2_copyFrom, Cond.selects RX2 yX2_copyFrom yX2_copyFrom, Cond.initialized RX2, Cond.code yX2_copyFrom cX2_copyFrom 2 none, Cond.fieldLink RX2 15 "AdmissionControl$Request" "kind" "I", Cond.fieldLink RX2 18 "AdmissionControl$Request" "shape" "I", Cond.fieldLink RX2 21 "AdmissionControl$Request" "cost" "I", Cond.fieldLink RX2 24 "AdmissionControl$Request" "state" "I", Cond.fieldLink RX2 27 "AdmissionControl$Request" "price" "I", Cond.fieldLink RX2 30 "AdmissionControl$Request" "units" "I", Cond.fieldLink RX2 33 "AdmissionControl$Request" "offers" "I"]
def wsX6_ticksIf_r4 : List Cond := [Cond.fieldLink RX2 36 "AdmissionControl$Request" "reason" "I", Cond.fieldLink RX2 39 "AdmissionControl$Request" "admitted" "I", Cond.fieldLink RX2 42 "AdmissionControl$Request" "tick" "I", Cond.methodLink RX6 57 yX3_put, Cond.instanceMethod yX3_put, Cond.selects RX3 yX3_put yX3_put, Cond.code yX3_put cX3_put 3 none, Cond.methodLink RX6 192 yX4_tick, Cond.instanceMethod yX4_tick, Cond.selects RX4 yX4_tick yX4_tick, Cond.code yX4_tick cX4_tick 3 (some .int), Cond.fieldLink RX4 125 "AdmissionControl$Lane" "settings" "LAdmissionControl$Row;", Cond.fieldLink RX4 172 "AdmissionControl$Request" "state" "I", Cond.fieldLink RX4 187 "AdmissionControl$Request" "tick" "I", Cond.methodLink RX4 148 yX4_lane, Cond.instanceMethod yX4_lane, Cond.selects RX4 yX4_lane yX4_lane, Cond.code yX4_lane cX4_lane 2 (some (.object "AdmissionControl$Lane")), Cond.methodLink RX4 103 yX3_at, Cond.instanceMethod yX3_at, Cond.selects RX3 yX3_at yX3_at, Cond.code yX3_at cX3_at 2 (some .int), Cond.methodLink RX4 189 yX1_gain, Cond.instanceMethod yX1_gain]
def wsX6_ticksIf_r5 : List Cond := [Cond.selects RX1 yX1_gain yX1_gain, Cond.code yX1_gain cX1_gain 3 none, Cond.methodLink RX1 47 Lib.Math.min.name, Cond.static Lib.Math.min.name, Cond.initialized "java/lang/Math", Cond.code Lib.Math.min.name Lib.Math.min.code 2 (some .int), Cond.methodLink RX1 43 yX3_at, Cond.methodLink RX4 95 yX4_offerNow, Cond.instanceMethod yX4_offerNow, Cond.selects RX4 yX4_offerNow yX4_offerNow, Cond.code yX4_offerNow cX4_offerNow 3 (some .int), Cond.fieldLink RX4 136 "AdmissionControl$Request" "shape" "I", Cond.fieldLink RX4 119 "AdmissionControl$Request" "price" "I", Cond.fieldLink RX4 142 "AdmissionControl$Request" "offers" "I", Cond.fieldLink RX4 145 "AdmissionControl$Request" "kind" "I", Cond.methodLink RX4 139 yX4_expectedCost, Cond.instanceMethod yX4_expectedCost, Cond.selects RX4 yX4_expectedCost yX4_expectedCost, Cond.code yX4_expectedCost cX4_expectedCost 2 (some .int), Cond.methodLink RX4 107 Lib.Math.max.name, Cond.static Lib.Math.max.name, Cond.code Lib.Math.max.name Lib.Math.max.code 2 (some .int), Cond.methodLink RX4 152 yX4_firstRefusal, Cond.instanceMethod yX4_firstRefusal]
def wsX6_ticksIf_r6 : List Cond := [Cond.selects RX4 yX4_firstRefusal yX4_firstRefusal, Cond.code yX4_firstRefusal cX4_firstRefusal 6 (some .int), Cond.fieldLink RX4 113 "AdmissionControl$Lane" "length" "I", Cond.fieldLink RX4 133 "AdmissionControl$Lane" "tokens" "I", Cond.methodLink RX4 126 yX4_backlogOf, Cond.instanceMethod yX4_backlogOf, Cond.selects RX4 yX4_backlogOf yX4_backlogOf, Cond.code yX4_backlogOf cX4_backlogOf 5 (some .int), Cond.fieldLink RX4 116 "AdmissionControl$Lane" "queue" "LAdmissionControl$Row;", Cond.fieldLink RX4 122 "AdmissionControl$Request" "units" "I", Cond.static yX6_quotient, Cond.code yX6_quotient cX6_quotient 2 (some .int), Cond.methodLink RX4 156 yX4_admit, Cond.instanceMethod yX4_admit, Cond.selects RX4 yX4_admit yX4_admit, Cond.code yX4_admit cX4_admit 3 none, Cond.fieldLink RX4 166 "AdmissionControl$Request" "number" "I", Cond.fieldLink RX4 175 "AdmissionControl$Request" "admitted" "I", Cond.methodLink RX4 163 yX4_catchUp, Cond.instanceMethod yX4_catchUp, Cond.selects RX4 yX4_catchUp yX4_catchUp, Cond.code yX4_catchUp cX4_catchUp 5 none, Cond.fieldLink RX4 178 "AdmissionControl$Lane" "pass" "I", Cond.methodLink RX4 169 yX1_join]
def wsX6_ticksIf_r7 : List Cond := [Cond.instanceMethod yX1_join, Cond.selects RX1 yX1_join yX1_join, Cond.code yX1_join cX1_join 2 none, Cond.methodLink RX1 39 yX3_put, Cond.methodLink RX4 159 yX4_refuse, Cond.instanceMethod yX4_refuse, Cond.selects RX4 yX4_refuse yX4_refuse, Cond.code yX4_refuse cX4_refuse 4 none, Cond.fieldLink RX4 181 "AdmissionControl$Lane" "refusals" "LAdmissionControl$Row;", Cond.fieldLink RX4 184 "AdmissionControl$Request" "reason" "I", Cond.methodLink RX4 58 yX3_put, Cond.methodLink RX4 192 yX4_refuseThoseWhoWaited, Cond.instanceMethod yX4_refuseThoseWhoWaited, Cond.selects RX4 yX4_refuseThoseWhoWaited yX4_refuseThoseWhoWaited, Cond.code yX4_refuseThoseWhoWaited cX4_refuseThoseWhoWaited 5 none, Cond.methodLink RX4 198 yX4_hasWaitedTooLong, Cond.instanceMethod yX4_hasWaitedTooLong, Cond.selects RX4 yX4_hasWaitedTooLong yX4_hasWaitedTooLong, Cond.code yX4_hasWaitedTooLong cX4_hasWaitedTooLong 2 (some .boolean), Cond.methodLink RX4 202 yX1_leave, Cond.instanceMethod yX1_leave, Cond.selects RX1 yX1_leave yX1_leave, Cond.code yX1_leave cX1_leave 3 none, Cond.methodLink RX4 195 yX4_workOneUnit]
def wsX6_ticksIf_r8 : List Cond := [Cond.instanceMethod yX4_workOneUnit, Cond.selects RX4 yX4_workOneUnit yX4_workOneUnit, Cond.code yX4_workOneUnit cX4_workOneUnit 3 (some .int), Cond.fieldLink RX4 209 "AdmissionControl$Lane" "units" "I", Cond.fieldLink RX4 210 "AdmissionControl$Request" "cost" "I", Cond.methodLink RX4 205 yX4_nextLane, Cond.instanceMethod yX4_nextLane, Cond.selects RX4 yX4_nextLane yX4_nextLane, Cond.code yX4_nextLane cX4_nextLane 4 (some (.object "AdmissionControl$Lane")), Cond.methodLink RX4 213 yX4_complete, Cond.instanceMethod yX4_complete, Cond.selects RX4 yX4_complete yX4_complete, Cond.code yX4_complete cX4_complete 4 none]
def wsX6_ticksIf : List Cond := .code yX6_ticksIf cX6_ticksIf 2 (some .int) :: ((wsX6_ticksIf_r1 ++ (wsX6_ticksIf_r2 ++ (wsX6_ticksIf_r3 ++ (wsX6_ticksIf_r4 ++ (wsX6_ticksIf_r5 ++ (wsX6_ticksIf_r6 ++ (wsX6_ticksIf_r7 ++ wsX6_ticksIf_r8))))))) ++ wsX60 ++ wsX40 ++ wsX30 ++ wsX10 ++ wsX20)
def wsX6_trialEndsWithoutRejection_r1 : List Cond := [Cond.fieldLink RX6 16 "AdmissionControl" "trial" "LAdmissionControl$Server;", Cond.fieldLink RX6 207 "AdmissionControl$Server" "open" "I", Cond.fieldLink RX6 210 "AdmissionControl$Server" "rejected" "I", Cond.fieldLink RX6 10 "AdmissionControl" "server" "LAdmissionControl$Server;", Cond.methodLink RX6 204 yX6_beginTrial, Cond.instanceMethod yX6_beginTrial, Cond.selects RX6 yX6_beginTrial yX6_beginTrial, Cond.initialized RX6, Cond.code yX6_beginTrial cX6_beginTrial 2 none, Cond.fieldLink RX6 47 "AdmissionControl$Server" "settings" "LAdmissionControl$Row;", Cond.methodLink RX6 185 yX4_copyFrom, Cond.instanceMethod yX4_copyFrom, Cond.selects RX4 yX4_copyFrom yX4_copyFrom, Cond.initialized RX4, Cond.code yX4_copyFrom cX4_copyFrom 5 none, Cond.fieldLink RX4 14 "AdmissionControl$Server" "settings" "LAdmissionControl$Row;", Cond.fieldLink RX4 20 "AdmissionControl$Server" "estimates" "LAdmissionControl$Row;", Cond.fieldLink RX4 26 "AdmissionControl$Server" "lane0" "LAdmissionControl$Lane;", Cond.fieldLink RX4 30 "AdmissionControl$Server" "lane1" "LAdmissionControl$Lane;", Cond.fieldLink RX4 33 "AdmissionControl$Server" "lane2" "LAdmissionControl$Lane;", Cond.fieldLink RX4 42 "AdmissionControl$Server" "count" "I", Cond.fieldLink RX4 46 "AdmissionControl$Server" "open" "I", Cond.fieldLink RX4 49 "AdmissionControl$Server" "rejected" "I", Cond.fieldLink RX4 52 "AdmissionControl$Server" "clock" "I"]
def wsX6_trialEndsWithoutRejection_r2 : List Cond := [Cond.fieldLink RX4 55 "AdmissionControl$Server" "idle" "I", Cond.methodLink RX4 63 yX3_copyFrom, Cond.instanceMethod yX3_copyFrom, Cond.selects RX3 yX3_copyFrom yX3_copyFrom, Cond.initialized RX3, Cond.code yX3_copyFrom cX3_copyFrom 3 none, Cond.fieldLink RX3 7 "AdmissionControl$Row" "cells" "[I", Cond.methodLink RX4 67 yX1_copyFrom, Cond.instanceMethod yX1_copyFrom, Cond.selects RX1 yX1_copyFrom yX1_copyFrom, Cond.initialized RX1, Cond.code yX1_copyFrom cX1_copyFrom 2 none, Cond.fieldLink RX1 14 "AdmissionControl$Lane" "settings" "LAdmissionControl$Row;", Cond.fieldLink RX1 20 "AdmissionControl$Lane" "refusals" "LAdmissionControl$Row;", Cond.fieldLink RX1 23 "AdmissionControl$Lane" "queue" "LAdmissionControl$Row;", Cond.fieldLink RX1 26 "AdmissionControl$Lane" "length" "I", Cond.fieldLink RX1 30 "AdmissionControl$Lane" "tokens" "I", Cond.fieldLink RX1 33 "AdmissionControl$Lane" "pass" "I", Cond.fieldLink RX1 36 "AdmissionControl$Lane" "units" "I", Cond.methodLink RX1 53 yX3_copyFrom, Cond.methodLink RX4 70 yX4_find, Cond.instanceMethod yX4_find, Cond.selects RX4 yX4_find yX4_find, Cond.code yX4_find cX4_find 2 (some (.object "AdmissionControl$Request"))]
def wsX6_trialEndsWithoutRejection_r3 : List Cond := [Cond.fieldLink RX4 38 "AdmissionControl$Server" "slots" "[LAdmissionControl$Request;", Cond.methodLink RX4 74 yX2_copyFrom, Cond.instanceMethod yX2_copyFrom, Cond.selects RX2 yX2_copyFrom yX2_copyFrom, Cond.initialized RX2, Cond.code yX2_copyFrom cX2_copyFrom 2 none, Cond.fieldLink RX2 15 "AdmissionControl$Request" "kind" "I", Cond.fieldLink RX2 18 "AdmissionControl$Request" "shape" "I", Cond.fieldLink RX2 21 "AdmissionControl$Request" "cost" "I", Cond.fieldLink RX2 24 "AdmissionControl$Request" "state" "I", Cond.fieldLink RX2 27 "AdmissionControl$Request" "price" "I", Cond.fieldLink RX2 30 "AdmissionControl$Request" "units" "I", Cond.fieldLink RX2 33 "AdmissionControl$Request" "offers" "I", Cond.fieldLink RX2 36 "AdmissionControl$Request" "reason" "I", Cond.fieldLink RX2 39 "AdmissionControl$Request" "admitted" "I", Cond.fieldLink RX2 42 "AdmissionControl$Request" "tick" "I", Cond.methodLink RX6 57 yX3_put, Cond.instanceMethod yX3_put, Cond.selects RX3 yX3_put yX3_put, Cond.code yX3_put cX3_put 3 none, Cond.methodLink RX6 192 yX4_tick, Cond.instanceMethod yX4_tick, Cond.selects RX4 yX4_tick yX4_tick, Cond.code yX4_tick cX4_tick 3 (some .int)]
def wsX6_trialEndsWithoutRejection_r4 : List Cond := [Cond.fieldLink RX4 125 "AdmissionControl$Lane" "settings" "LAdmissionControl$Row;", Cond.fieldLink RX4 172 "AdmissionControl$Request" "state" "I", Cond.fieldLink RX4 187 "AdmissionControl$Request" "tick" "I", Cond.methodLink RX4 148 yX4_lane, Cond.instanceMethod yX4_lane, Cond.selects RX4 yX4_lane yX4_lane, Cond.code yX4_lane cX4_lane 2 (some (.object "AdmissionControl$Lane")), Cond.methodLink RX4 103 yX3_at, Cond.instanceMethod yX3_at, Cond.selects RX3 yX3_at yX3_at, Cond.code yX3_at cX3_at 2 (some .int), Cond.methodLink RX4 189 yX1_gain, Cond.instanceMethod yX1_gain, Cond.selects RX1 yX1_gain yX1_gain, Cond.code yX1_gain cX1_gain 3 none, Cond.methodLink RX1 47 Lib.Math.min.name, Cond.static Lib.Math.min.name, Cond.initialized "java/lang/Math", Cond.code Lib.Math.min.name Lib.Math.min.code 2 (some .int), Cond.methodLink RX1 43 yX3_at, Cond.methodLink RX4 95 yX4_offerNow, Cond.instanceMethod yX4_offerNow, Cond.selects RX4 yX4_offerNow yX4_offerNow, Cond.code yX4_offerNow cX4_offerNow 3 (some .int)]
def wsX6_trialEndsWithoutRejection_r5 : List Cond := [Cond.fieldLink RX4 136 "AdmissionControl$Request" "shape" "I", Cond.fieldLink RX4 119 "AdmissionControl$Request" "price" "I", Cond.fieldLink RX4 142 "AdmissionControl$Request" "offers" "I", Cond.fieldLink RX4 145 "AdmissionControl$Request" "kind" "I", Cond.methodLink RX4 139 yX4_expectedCost, Cond.instanceMethod yX4_expectedCost, Cond.selects RX4 yX4_expectedCost yX4_expectedCost, Cond.code yX4_expectedCost cX4_expectedCost 2 (some .int), Cond.methodLink RX4 107 Lib.Math.max.name, Cond.static Lib.Math.max.name, Cond.code Lib.Math.max.name Lib.Math.max.code 2 (some .int), Cond.methodLink RX4 152 yX4_firstRefusal, Cond.instanceMethod yX4_firstRefusal, Cond.selects RX4 yX4_firstRefusal yX4_firstRefusal, Cond.code yX4_firstRefusal cX4_firstRefusal 6 (some .int), Cond.fieldLink RX4 113 "AdmissionControl$Lane" "length" "I", Cond.fieldLink RX4 133 "AdmissionControl$Lane" "tokens" "I", Cond.methodLink RX4 126 yX4_backlogOf, Cond.instanceMethod yX4_backlogOf, Cond.selects RX4 yX4_backlogOf yX4_backlogOf, Cond.code yX4_backlogOf cX4_backlogOf 5 (some .int), Cond.fieldLink RX4 116 "AdmissionControl$Lane" "queue" "LAdmissionControl$Row;", Cond.fieldLink RX4 122 "AdmissionControl$Request" "units" "I", Cond.static yX6_quotient]
def wsX6_trialEndsWithoutRejection_r6 : List Cond := [Cond.code yX6_quotient cX6_quotient 2 (some .int), Cond.methodLink RX4 156 yX4_admit, Cond.instanceMethod yX4_admit, Cond.selects RX4 yX4_admit yX4_admit, Cond.code yX4_admit cX4_admit 3 none, Cond.fieldLink RX4 166 "AdmissionControl$Request" "number" "I", Cond.fieldLink RX4 175 "AdmissionControl$Request" "admitted" "I", Cond.methodLink RX4 163 yX4_catchUp, Cond.instanceMethod yX4_catchUp, Cond.selects RX4 yX4_catchUp yX4_catchUp, Cond.code yX4_catchUp cX4_catchUp 5 none, Cond.fieldLink RX4 178 "AdmissionControl$Lane" "pass" "I", Cond.methodLink RX4 169 yX1_join, Cond.instanceMethod yX1_join, Cond.selects RX1 yX1_join yX1_join, Cond.code yX1_join cX1_join 2 none, Cond.methodLink RX1 39 yX3_put, Cond.methodLink RX4 159 yX4_refuse, Cond.instanceMethod yX4_refuse, Cond.selects RX4 yX4_refuse yX4_refuse, Cond.code yX4_refuse cX4_refuse 4 none, Cond.fieldLink RX4 181 "AdmissionControl$Lane" "refusals" "LAdmissionControl$Row;", Cond.fieldLink RX4 184 "AdmissionControl$Request" "reason" "I", Cond.methodLink RX4 58 yX3_put]
def wsX6_trialEndsWithoutRejection_r7 : List Cond := [Cond.methodLink RX4 192 yX4_refuseThoseWhoWaited, Cond.instanceMethod yX4_refuseThoseWhoWaited, Cond.selects RX4 yX4_refuseThoseWhoWaited yX4_refuseThoseWhoWaited, Cond.code yX4_refuseThoseWhoWaited cX4_refuseThoseWhoWaited 5 none, Cond.methodLink RX4 198 yX4_hasWaitedTooLong, Cond.instanceMethod yX4_hasWaitedTooLong, Cond.selects RX4 yX4_hasWaitedTooLong yX4_hasWaitedTooLong, Cond.code yX4_hasWaitedTooLong cX4_hasWaitedTooLong 2 (some .boolean), Cond.methodLink RX4 202 yX1_leave, Cond.instanceMethod yX1_leave, Cond.selects RX1 yX1_leave yX1_leave, Cond.code yX1_leave cX1_leave 3 none, Cond.methodLink RX4 195 yX4_workOneUnit, Cond.instanceMethod yX4_workOneUnit, Cond.selects RX4 yX4_workOneUnit yX4_workOneUnit, Cond.code yX4_workOneUnit cX4_workOneUnit 3 (some .int), Cond.fieldLink RX4 209 "AdmissionControl$Lane" "units" "I", Cond.fieldLink RX4 210 "AdmissionControl$Request" "cost" "I", Cond.methodLink RX4 205 yX4_nextLane, Cond.instanceMethod yX4_nextLane, Cond.selects RX4 yX4_nextLane yX4_nextLane, Cond.code yX4_nextLane cX4_nextLane 4 (some (.object "AdmissionControl$Lane")), Cond.methodLink RX4 213 yX4_complete, Cond.instanceMethod yX4_complete]
def wsX6_trialEndsWithoutRejection_r8 : List Cond := [Cond.selects RX4 yX4_complete yX4_complete, Cond.code yX4_complete cX4_complete 4 none]
def wsX6_trialEndsWithoutRejection : List Cond := .code yX6_trialEndsWithoutRejection cX6_trialEndsWithoutRejection 3 (some .boolean) :: ((wsX6_trialEndsWithoutRejection_r1 ++ (wsX6_trialEndsWithoutRejection_r2 ++ (wsX6_trialEndsWithoutRejection_r3 ++ (wsX6_trialEndsWithoutRejection_r4 ++ (wsX6_trialEndsWithoutRejection_r5 ++ (wsX6_trialEndsWithoutRejection_r6 ++ (wsX6_trialEndsWithoutRejection_r7 ++ wsX6_trialEndsWithoutRejection_r8))))))) ++ wsX60 ++ wsX40 ++ wsX30 ++ wsX10 ++ wsX20)
def wsX6_leastCapacity_r1 : List Cond := [Cond.constant RX6 100 (-100005), Cond.methodLink RX6 182 yX6_trialEndsWithoutRejection, Cond.instanceMethod yX6_trialEndsWithoutRejection, Cond.selects RX6 yX6_trialEndsWithoutRejection yX6_trialEndsWithoutRejection, Cond.initialized RX6, Cond.code yX6_trialEndsWithoutRejection cX6_trialEndsWithoutRejection 3 (some .boolean), Cond.fieldLink RX6 16 "AdmissionControl" "trial" "LAdmissionControl$Server;", Cond.fieldLink RX6 207 "AdmissionControl$Server" "open" "I", Cond.fieldLink RX6 210 "AdmissionControl$Server" "rejected" "I", Cond.fieldLink RX6 10 "AdmissionControl" "server" "LAdmissionControl$Server;", Cond.methodLink RX6 204 yX6_beginTrial, Cond.instanceMethod yX6_beginTrial, Cond.selects RX6 yX6_beginTrial yX6_beginTrial, Cond.code yX6_beginTrial cX6_beginTrial 2 none, Cond.fieldLink RX6 47 "AdmissionControl$Server" "settings" "LAdmissionControl$Row;", Cond.methodLink RX6 185 yX4_copyFrom, Cond.instanceMethod yX4_copyFrom, Cond.selects RX4 yX4_copyFrom yX4_copyFrom, Cond.initialized RX4, Cond.code yX4_copyFrom cX4_copyFrom 5 none, Cond.fieldLink RX4 14 "AdmissionControl$Server" "settings" "LAdmissionControl$Row;", Cond.fieldLink RX4 20 "AdmissionControl$Server" "estimates" "LAdmissionControl$Row;", Cond.fieldLink RX4 26 "AdmissionControl$Server" "lane0" "LAdmissionControl$Lane;", Cond.fieldLink RX4 30 "AdmissionControl$Server" "lane1" "LAdmissionControl$Lane;"]
def wsX6_leastCapacity_r2 : List Cond := [Cond.fieldLink RX4 33 "AdmissionControl$Server" "lane2" "LAdmissionControl$Lane;", Cond.fieldLink RX4 42 "AdmissionControl$Server" "count" "I", Cond.fieldLink RX4 46 "AdmissionControl$Server" "open" "I", Cond.fieldLink RX4 49 "AdmissionControl$Server" "rejected" "I", Cond.fieldLink RX4 52 "AdmissionControl$Server" "clock" "I", Cond.fieldLink RX4 55 "AdmissionControl$Server" "idle" "I", Cond.methodLink RX4 63 yX3_copyFrom, Cond.instanceMethod yX3_copyFrom, Cond.selects RX3 yX3_copyFrom yX3_copyFrom, Cond.initialized RX3, Cond.code yX3_copyFrom cX3_copyFrom 3 none, Cond.fieldLink RX3 7 "AdmissionControl$Row" "cells" "[I", Cond.methodLink RX4 67 yX1_copyFrom, Cond.instanceMethod yX1_copyFrom, Cond.selects RX1 yX1_copyFrom yX1_copyFrom, Cond.initialized RX1, Cond.code yX1_copyFrom cX1_copyFrom 2 none, Cond.fieldLink RX1 14 "AdmissionControl$Lane" "settings" "LAdmissionControl$Row;", Cond.fieldLink RX1 20 "AdmissionControl$Lane" "refusals" "LAdmissionControl$Row;", Cond.fieldLink RX1 23 "AdmissionControl$Lane" "queue" "LAdmissionControl$Row;", Cond.fieldLink RX1 26 "AdmissionControl$Lane" "length" "I", Cond.fieldLink RX1 30 "AdmissionControl$Lane" "tokens" "I", Cond.fieldLink RX1 33 "AdmissionControl$Lane" "pass" "I", Cond.fieldLink RX1 36 "AdmissionControl$Lane" "units" "I"]
def wsX6_leastCapacity_r3 : List Cond := [Cond.methodLink RX1 53 yX3_copyFrom, Cond.methodLink RX4 70 yX4_find, Cond.instanceMethod yX4_find, Cond.selects RX4 yX4_find yX4_find, Cond.code yX4_find cX4_find 2 (some (.object "AdmissionControl$Request")), Cond.fieldLink RX4 38 "AdmissionControl$Server" "slots" "[LAdmissionControl$Request;", Cond.methodLink RX4 74 yX2_copyFrom, Cond.instanceMethod yX2_copyFrom, Cond.selects RX2 yX2_copyFrom yX2_copyFrom, Cond.initialized RX2, Cond.code yX2_copyFrom cX2_copyFrom 2 none, Cond.fieldLink RX2 15 "AdmissionControl$Request" "kind" "I", Cond.fieldLink RX2 18 "AdmissionControl$Request" "shape" "I", Cond.fieldLink RX2 21 "AdmissionControl$Request" "cost" "I", Cond.fieldLink RX2 24 "AdmissionControl$Request" "state" "I", Cond.fieldLink RX2 27 "AdmissionControl$Request" "price" "I", Cond.fieldLink RX2 30 "AdmissionControl$Request" "units" "I", Cond.fieldLink RX2 33 "AdmissionControl$Request" "offers" "I", Cond.fieldLink RX2 36 "AdmissionControl$Request" "reason" "I", Cond.fieldLink RX2 39 "AdmissionControl$Request" "admitted" "I", Cond.fieldLink RX2 42 "AdmissionControl$Request" "tick" "I", Cond.methodLink RX6 57 yX3_put, Cond.instanceMethod yX3_put, Cond.selects RX3 yX3_put yX3_put]
def wsX6_leastCapacity_r4 : List Cond := [Cond.code yX3_put cX3_put 3 none, Cond.methodLink RX6 192 yX4_tick, Cond.instanceMethod yX4_tick, Cond.selects RX4 yX4_tick yX4_tick, Cond.code yX4_tick cX4_tick 3 (some .int), Cond.fieldLink RX4 125 "AdmissionControl$Lane" "settings" "LAdmissionControl$Row;", Cond.fieldLink RX4 172 "AdmissionControl$Request" "state" "I", Cond.fieldLink RX4 187 "AdmissionControl$Request" "tick" "I", Cond.methodLink RX4 148 yX4_lane, Cond.instanceMethod yX4_lane, Cond.selects RX4 yX4_lane yX4_lane, Cond.code yX4_lane cX4_lane 2 (some (.object "AdmissionControl$Lane")), Cond.methodLink RX4 103 yX3_at, Cond.instanceMethod yX3_at, Cond.selects RX3 yX3_at yX3_at, Cond.code yX3_at cX3_at 2 (some .int), Cond.methodLink RX4 189 yX1_gain, Cond.instanceMethod yX1_gain, Cond.selects RX1 yX1_gain yX1_gain, Cond.code yX1_gain cX1_gain 3 none, Cond.methodLink RX1 47 Lib.Math.min.name, Cond.static Lib.Math.min.name, Cond.initialized "java/lang/Math", Cond.code Lib.Math.min.name Lib.Math.min.code 2 (some .int)]
def wsX6_leastCapacity_r5 : List Cond := [Cond.methodLink RX1 43 yX3_at, Cond.methodLink RX4 95 yX4_offerNow, Cond.instanceMethod yX4_offerNow, Cond.selects RX4 yX4_offerNow yX4_offerNow, Cond.code yX4_offerNow cX4_offerNow 3 (some .int), Cond.fieldLink RX4 136 "AdmissionControl$Request" "shape" "I", Cond.fieldLink RX4 119 "AdmissionControl$Request" "price" "I", Cond.fieldLink RX4 142 "AdmissionControl$Request" "offers" "I", Cond.fieldLink RX4 145 "AdmissionControl$Request" "kind" "I", Cond.methodLink RX4 139 yX4_expectedCost, Cond.instanceMethod yX4_expectedCost, Cond.selects RX4 yX4_expectedCost yX4_expectedCost, Cond.code yX4_expectedCost cX4_expectedCost 2 (some .int), Cond.methodLink RX4 107 Lib.Math.max.name, Cond.static Lib.Math.max.name, Cond.code Lib.Math.max.name Lib.Math.max.code 2 (some .int), Cond.methodLink RX4 152 yX4_firstRefusal, Cond.instanceMethod yX4_firstRefusal, Cond.selects RX4 yX4_firstRefusal yX4_firstRefusal, Cond.code yX4_firstRefusal cX4_firstRefusal 6 (some .int), Cond.fieldLink RX4 113 "AdmissionControl$Lane" "length" "I", Cond.fieldLink RX4 133 "AdmissionControl$Lane" "tokens" "I", Cond.methodLink RX4 126 yX4_backlogOf, Cond.instanceMethod yX4_backlogOf]
def wsX6_leastCapacity_r6 : List Cond := [Cond.selects RX4 yX4_backlogOf yX4_backlogOf, Cond.code yX4_backlogOf cX4_backlogOf 5 (some .int), Cond.fieldLink RX4 116 "AdmissionControl$Lane" "queue" "LAdmissionControl$Row;", Cond.fieldLink RX4 122 "AdmissionControl$Request" "units" "I", Cond.static yX6_quotient, Cond.code yX6_quotient cX6_quotient 2 (some .int), Cond.methodLink RX4 156 yX4_admit, Cond.instanceMethod yX4_admit, Cond.selects RX4 yX4_admit yX4_admit, Cond.code yX4_admit cX4_admit 3 none, Cond.fieldLink RX4 166 "AdmissionControl$Request" "number" "I", Cond.fieldLink RX4 175 "AdmissionControl$Request" "admitted" "I", Cond.methodLink RX4 163 yX4_catchUp, Cond.instanceMethod yX4_catchUp, Cond.selects RX4 yX4_catchUp yX4_catchUp, Cond.code yX4_catchUp cX4_catchUp 5 none, Cond.fieldLink RX4 178 "AdmissionControl$Lane" "pass" "I", Cond.methodLink RX4 169 yX1_join, Cond.instanceMethod yX1_join, Cond.selects RX1 yX1_join yX1_join, Cond.code yX1_join cX1_join 2 none, Cond.methodLink RX1 39 yX3_put, Cond.methodLink RX4 159 yX4_refuse, Cond.instanceMethod yX4_refuse]
def wsX6_leastCapacity_r7 : List Cond := [Cond.selects RX4 yX4_refuse yX4_refuse, Cond.code yX4_refuse cX4_refuse 4 none, Cond.fieldLink RX4 181 "AdmissionControl$Lane" "refusals" "LAdmissionControl$Row;", Cond.fieldLink RX4 184 "AdmissionControl$Request" "reason" "I", Cond.methodLink RX4 58 yX3_put, Cond.methodLink RX4 192 yX4_refuseThoseWhoWaited, Cond.instanceMethod yX4_refuseThoseWhoWaited, Cond.selects RX4 yX4_refuseThoseWhoWaited yX4_refuseThoseWhoWaited, Cond.code yX4_refuseThoseWhoWaited cX4_refuseThoseWhoWaited 5 none, Cond.methodLink RX4 198 yX4_hasWaitedTooLong, Cond.instanceMethod yX4_hasWaitedTooLong, Cond.selects RX4 yX4_hasWaitedTooLong yX4_hasWaitedTooLong, Cond.code yX4_hasWaitedTooLong cX4_hasWaitedTooLong 2 (some .boolean), Cond.methodLink RX4 202 yX1_leave, Cond.instanceMethod yX1_leave, Cond.selects RX1 yX1_leave yX1_leave, Cond.code yX1_leave cX1_leave 3 none, Cond.methodLink RX4 195 yX4_workOneUnit, Cond.instanceMethod yX4_workOneUnit, Cond.selects RX4 yX4_workOneUnit yX4_workOneUnit, Cond.code yX4_workOneUnit cX4_workOneUnit 3 (some .int), Cond.fieldLink RX4 209 "AdmissionControl$Lane" "units" "I", Cond.fieldLink RX4 210 "AdmissionControl$Request" "cost" "I", Cond.methodLink RX4 205 yX4_nextLane]
def wsX6_leastCapacity_r8 : List Cond := [Cond.instanceMethod yX4_nextLane, Cond.selects RX4 yX4_nextLane yX4_nextLane, Cond.code yX4_nextLane cX4_nextLane 4 (some (.object "AdmissionControl$Lane")), Cond.methodLink RX4 213 yX4_complete, Cond.instanceMethod yX4_complete, Cond.selects RX4 yX4_complete yX4_complete, Cond.code yX4_complete cX4_complete 4 none]
def wsX6_leastCapacity : List Cond := .code yX6_leastCapacity cX6_leastCapacity 2 (some .int) :: ((wsX6_leastCapacity_r1 ++ (wsX6_leastCapacity_r2 ++ (wsX6_leastCapacity_r3 ++ (wsX6_leastCapacity_r4 ++ (wsX6_leastCapacity_r5 ++ (wsX6_leastCapacity_r6 ++ (wsX6_leastCapacity_r7 ++ wsX6_leastCapacity_r8))))))) ++ wsX60 ++ wsX40 ++ wsX30 ++ wsX10 ++ wsX20)
def wsX6_finish_r1 : List Cond := [Cond.fieldLink RX6 16 "AdmissionControl" "trial" "LAdmissionControl$Server;", Cond.fieldLink RX6 10 "AdmissionControl" "server" "LAdmissionControl$Server;", Cond.constant RX6 37 (-100001), Cond.fieldLink RX6 154 "AdmissionControl$Request" "state" "I", Cond.fieldLink RX6 169 "AdmissionControl$Request" "tick" "I", Cond.constant RX6 100 (-100005), Cond.methodLink RX6 185 yX4_copyFrom, Cond.instanceMethod yX4_copyFrom, Cond.selects RX4 yX4_copyFrom yX4_copyFrom, Cond.initialized RX4, Cond.code yX4_copyFrom cX4_copyFrom 5 none, Cond.fieldLink RX4 14 "AdmissionControl$Server" "settings" "LAdmissionControl$Row;", Cond.fieldLink RX4 20 "AdmissionControl$Server" "estimates" "LAdmissionControl$Row;", Cond.fieldLink RX4 26 "AdmissionControl$Server" "lane0" "LAdmissionControl$Lane;", Cond.fieldLink RX4 30 "AdmissionControl$Server" "lane1" "LAdmissionControl$Lane;", Cond.fieldLink RX4 33 "AdmissionControl$Server" "lane2" "LAdmissionControl$Lane;", Cond.fieldLink RX4 42 "AdmissionControl$Server" "count" "I", Cond.fieldLink RX4 46 "AdmissionControl$Server" "open" "I", Cond.fieldLink RX4 49 "AdmissionControl$Server" "rejected" "I", Cond.fieldLink RX4 52 "AdmissionControl$Server" "clock" "I", Cond.fieldLink RX4 55 "AdmissionControl$Server" "idle" "I", Cond.methodLink RX4 63 yX3_copyFrom, Cond.instanceMethod yX3_copyFrom, Cond.selects RX3 yX3_copyFrom yX3_copyFrom]
def wsX6_finish_r2 : List Cond := [Cond.initialized RX3, Cond.code yX3_copyFrom cX3_copyFrom 3 none, Cond.fieldLink RX3 7 "AdmissionControl$Row" "cells" "[I", Cond.methodLink RX4 67 yX1_copyFrom, Cond.instanceMethod yX1_copyFrom, Cond.selects RX1 yX1_copyFrom yX1_copyFrom, Cond.initialized RX1, Cond.code yX1_copyFrom cX1_copyFrom 2 none, Cond.fieldLink RX1 14 "AdmissionControl$Lane" "settings" "LAdmissionControl$Row;", Cond.fieldLink RX1 20 "AdmissionControl$Lane" "refusals" "LAdmissionControl$Row;", Cond.fieldLink RX1 23 "AdmissionControl$Lane" "queue" "LAdmissionControl$Row;", Cond.fieldLink RX1 26 "AdmissionControl$Lane" "length" "I", Cond.fieldLink RX1 30 "AdmissionControl$Lane" "tokens" "I", Cond.fieldLink RX1 33 "AdmissionControl$Lane" "pass" "I", Cond.fieldLink RX1 36 "AdmissionControl$Lane" "units" "I", Cond.methodLink RX1 53 yX3_copyFrom, Cond.methodLink RX4 70 yX4_find, Cond.instanceMethod yX4_find, Cond.selects RX4 yX4_find yX4_find, Cond.code yX4_find cX4_find 2 (some (.object "AdmissionControl$Request")), Cond.fieldLink RX4 38 "AdmissionControl$Server" "slots" "[LAdmissionControl$Request;", Cond.methodLink RX4 74 yX2_copyFrom, Cond.instanceMethod yX2_copyFrom, Cond.selects RX2 yX2_copyFrom yX2_copyFrom]
def wsX6_finish_r3 : List Cond := [Cond.initialized RX2, Cond.code yX2_copyFrom cX2_copyFrom 2 none, Cond.fieldLink RX2 15 "AdmissionControl$Request" "kind" "I", Cond.fieldLink RX2 18 "AdmissionControl$Request" "shape" "I", Cond.fieldLink RX2 21 "AdmissionControl$Request" "cost" "I", Cond.fieldLink RX2 24 "AdmissionControl$Request" "state" "I", Cond.fieldLink RX2 27 "AdmissionControl$Request" "price" "I", Cond.fieldLink RX2 30 "AdmissionControl$Request" "units" "I", Cond.fieldLink RX2 33 "AdmissionControl$Request" "offers" "I", Cond.fieldLink RX2 36 "AdmissionControl$Request" "reason" "I", Cond.fieldLink RX2 39 "AdmissionControl$Request" "admitted" "I", Cond.fieldLink RX2 42 "AdmissionControl$Request" "tick" "I", Cond.methodLink RX6 150 yX4_find, Cond.methodLink RX6 188 yX2_isSettled, Cond.instanceMethod yX2_isSettled, Cond.selects RX2 yX2_isSettled yX2_isSettled, Cond.code yX2_isSettled cX2_isSettled 1 (some .boolean), Cond.methodLink RX6 192 yX4_tick, Cond.instanceMethod yX4_tick, Cond.selects RX4 yX4_tick yX4_tick, Cond.code yX4_tick cX4_tick 3 (some .int), Cond.fieldLink RX4 125 "AdmissionControl$Lane" "settings" "LAdmissionControl$Row;", Cond.fieldLink RX4 172 "AdmissionControl$Request" "state" "I", Cond.fieldLink RX4 187 "AdmissionControl$Request" "tick" "I"]
def wsX6_finish_r4 : List Cond := [Cond.methodLink RX4 148 yX4_lane, Cond.instanceMethod yX4_lane, Cond.selects RX4 yX4_lane yX4_lane, Cond.code yX4_lane cX4_lane 2 (some (.object "AdmissionControl$Lane")), Cond.methodLink RX4 103 yX3_at, Cond.instanceMethod yX3_at, Cond.selects RX3 yX3_at yX3_at, Cond.code yX3_at cX3_at 2 (some .int), Cond.methodLink RX4 189 yX1_gain, Cond.instanceMethod yX1_gain, Cond.selects RX1 yX1_gain yX1_gain, Cond.code yX1_gain cX1_gain 3 none, Cond.methodLink RX1 47 Lib.Math.min.name, Cond.static Lib.Math.min.name, Cond.initialized "java/lang/Math", Cond.code Lib.Math.min.name Lib.Math.min.code 2 (some .int), Cond.methodLink RX1 43 yX3_at, Cond.methodLink RX4 95 yX4_offerNow, Cond.instanceMethod yX4_offerNow, Cond.selects RX4 yX4_offerNow yX4_offerNow, Cond.code yX4_offerNow cX4_offerNow 3 (some .int), Cond.fieldLink RX4 136 "AdmissionControl$Request" "shape" "I", Cond.fieldLink RX4 119 "AdmissionControl$Request" "price" "I", Cond.fieldLink RX4 142 "AdmissionControl$Request" "offers" "I"]
def wsX6_finish_r5 : List Cond := [Cond.fieldLink RX4 145 "AdmissionControl$Request" "kind" "I", Cond.methodLink RX4 139 yX4_expectedCost, Cond.instanceMethod yX4_expectedCost, Cond.selects RX4 yX4_expectedCost yX4_expectedCost, Cond.code yX4_expectedCost cX4_expectedCost 2 (some .int), Cond.methodLink RX4 107 Lib.Math.max.name, Cond.static Lib.Math.max.name, Cond.code Lib.Math.max.name Lib.Math.max.code 2 (some .int), Cond.methodLink RX4 152 yX4_firstRefusal, Cond.instanceMethod yX4_firstRefusal, Cond.selects RX4 yX4_firstRefusal yX4_firstRefusal, Cond.code yX4_firstRefusal cX4_firstRefusal 6 (some .int), Cond.fieldLink RX4 113 "AdmissionControl$Lane" "length" "I", Cond.fieldLink RX4 133 "AdmissionControl$Lane" "tokens" "I", Cond.methodLink RX4 126 yX4_backlogOf, Cond.instanceMethod yX4_backlogOf, Cond.selects RX4 yX4_backlogOf yX4_backlogOf, Cond.code yX4_backlogOf cX4_backlogOf 5 (some .int), Cond.fieldLink RX4 116 "AdmissionControl$Lane" "queue" "LAdmissionControl$Row;", Cond.fieldLink RX4 122 "AdmissionControl$Request" "units" "I", Cond.static yX6_quotient, Cond.initialized RX6, Cond.code yX6_quotient cX6_quotient 2 (some .int), Cond.methodLink RX4 156 yX4_admit]
def wsX6_finish_r6 : List Cond := [Cond.instanceMethod yX4_admit, Cond.selects RX4 yX4_admit yX4_admit, Cond.code yX4_admit cX4_admit 3 none, Cond.fieldLink RX4 166 "AdmissionControl$Request" "number" "I", Cond.fieldLink RX4 175 "AdmissionControl$Request" "admitted" "I", Cond.methodLink RX4 163 yX4_catchUp, Cond.instanceMethod yX4_catchUp, Cond.selects RX4 yX4_catchUp yX4_catchUp, Cond.code yX4_catchUp cX4_catchUp 5 none, Cond.fieldLink RX4 178 "AdmissionControl$Lane" "pass" "I", Cond.methodLink RX4 169 yX1_join, Cond.instanceMethod yX1_join, Cond.selects RX1 yX1_join yX1_join, Cond.code yX1_join cX1_join 2 none, Cond.methodLink RX1 39 yX3_put, Cond.instanceMethod yX3_put, Cond.selects RX3 yX3_put yX3_put, Cond.code yX3_put cX3_put 3 none, Cond.methodLink RX4 159 yX4_refuse, Cond.instanceMethod yX4_refuse, Cond.selects RX4 yX4_refuse yX4_refuse, Cond.code yX4_refuse cX4_refuse 4 none, Cond.fieldLink RX4 181 "AdmissionControl$Lane" "refusals" "LAdmissionControl$Row;", Cond.fieldLink RX4 184 "AdmissionControl$Request" "reason" "I"]
def wsX6_finish_r7 : List Cond := [Cond.methodLink RX4 58 yX3_put, Cond.methodLink RX4 192 yX4_refuseThoseWhoWaited, Cond.instanceMethod yX4_refuseThoseWhoWaited, Cond.selects RX4 yX4_refuseThoseWhoWaited yX4_refuseThoseWhoWaited, Cond.code yX4_refuseThoseWhoWaited cX4_refuseThoseWhoWaited 5 none, Cond.methodLink RX4 198 yX4_hasWaitedTooLong, Cond.instanceMethod yX4_hasWaitedTooLong, Cond.selects RX4 yX4_hasWaitedTooLong yX4_hasWaitedTooLong, Cond.code yX4_hasWaitedTooLong cX4_hasWaitedTooLong 2 (some .boolean), Cond.methodLink RX4 202 yX1_leave, Cond.instanceMethod yX1_leave, Cond.selects RX1 yX1_leave yX1_leave, Cond.code yX1_leave cX1_leave 3 none, Cond.methodLink RX4 195 yX4_workOneUnit, Cond.instanceMethod yX4_workOneUnit, Cond.selects RX4 yX4_workOneUnit yX4_workOneUnit, Cond.code yX4_workOneUnit cX4_workOneUnit 3 (some .int), Cond.fieldLink RX4 209 "AdmissionControl$Lane" "units" "I", Cond.fieldLink RX4 210 "AdmissionControl$Request" "cost" "I", Cond.methodLink RX4 205 yX4_nextLane, Cond.instanceMethod yX4_nextLane, Cond.selects RX4 yX4_nextLane yX4_nextLane, Cond.code yX4_nextLane cX4_nextLane 4 (some (.object "AdmissionControl$Lane")), Cond.methodLink RX4 213 yX4_complete]
def wsX6_finish_r8 : List Cond := [Cond.instanceMethod yX4_complete, Cond.selects RX4 yX4_complete yX4_complete, Cond.code yX4_complete cX4_complete 4 none]
def wsX6_finish : List Cond := .code yX6_finish cX6_finish 4 (some .int) :: ((wsX6_finish_r1 ++ (wsX6_finish_r2 ++ (wsX6_finish_r3 ++ (wsX6_finish_r4 ++ (wsX6_finish_r5 ++ (wsX6_finish_r6 ++ (wsX6_finish_r7 ++ wsX6_finish_r8))))))) ++ wsX60 ++ wsX20 ++ wsX40 ++ wsX30 ++ wsX10)
def wsX7_init : List Cond := .code yX7_init cX7_init 2 none :: ([.methodLink RX7 1 objectInit, .instanceMethod objectInit, .code objectInit ⟨#[0xb1]⟩ 1 none, .arrayClass .int, .fieldLink RX7 7 "AdmissionControlModel" "z" "[I", .fieldLink RX7 13 "AdmissionControlModel" "aside" "[I", .fieldLink RX7 16 "AdmissionControlModel" "history" "[I", .fieldLink RX7 19 "AdmissionControlModel" "text" "[I"] ++ wsX70)
def wsX7_in : List Cond := .code yX7_in cX7_in 3 (some .boolean) :: ([])
def wsX7_isClass : List Cond := .code yX7_isClass cX7_isClass 1 (some .boolean) :: ([.methodLink RX7 22 yX7_in, .static yX7_in, .initialized RX7, .code yX7_in cX7_in 3 (some .boolean)])
def wsX7_isShape : List Cond := .code yX7_isShape cX7_isShape 1 (some .boolean) :: ([.methodLink RX7 22 yX7_in, .static yX7_in, .initialized RX7, .code yX7_in cX7_in 3 (some .boolean)])
def wsX7_isRequest : List Cond := .code yX7_isRequest cX7_isRequest 2 (some .boolean) :: ([.fieldLink RX7 7 "AdmissionControlModel" "z" "[I", .methodLink RX7 22 yX7_in, .static yX7_in, .initialized RX7, .code yX7_in cX7_in 3 (some .boolean)] ++ wsX70)
def wsX7_ofClass : List Cond := .code yX7_ofClass cX7_ofClass 3 (some .int) :: ([.fieldLink RX7 7 "AdmissionControlModel" "z" "[I"] ++ wsX70)
def wsX7_of : List Cond := .code yX7_of cX7_of 3 (some .int) :: ([.fieldLink RX7 7 "AdmissionControlModel" "z" "[I"] ++ wsX70)
def wsX7_put : List Cond := .code yX7_put cX7_put 4 none :: ([.fieldLink RX7 7 "AdmissionControlModel" "z" "[I"] ++ wsX70)
def wsX7_inQueue : List Cond := .code yX7_inQueue cX7_inQueue 3 (some .int) :: ([.fieldLink RX7 7 "AdmissionControlModel" "z" "[I"] ++ wsX70)
def wsX7_record : List Cond := .code yX7_record cX7_record 2 none :: ([.fieldLink RX7 26 "AdmissionControlModel" "states" "I", .fieldLink RX7 16 "AdmissionControlModel" "history" "[I", .fieldLink RX7 7 "AdmissionControlModel" "z" "[I"] ++ wsX70)
def wsX7_undo : List Cond := .code yX7_undo cX7_undo 2 (some .int) :: ([.fieldLink RX7 26 "AdmissionControlModel" "states" "I", .constant RX7 30 (-100005), .fieldLink RX7 7 "AdmissionControlModel" "z" "[I", .fieldLink RX7 16 "AdmissionControlModel" "history" "[I"] ++ wsX70)
def wsX7_putAside : List Cond := .code yX7_putAside cX7_putAside 2 none :: ([.fieldLink RX7 13 "AdmissionControlModel" "aside" "[I", .fieldLink RX7 7 "AdmissionControlModel" "z" "[I"] ++ wsX70)
def wsX7_putBack : List Cond := .code yX7_putBack cX7_putBack 2 none :: ([.fieldLink RX7 7 "AdmissionControlModel" "z" "[I", .fieldLink RX7 13 "AdmissionControlModel" "aside" "[I"] ++ wsX70)
def wsX7_expectedCost : List Cond := .code yX7_expectedCost cX7_expectedCost 3 (some .int) :: ([.fieldLink RX7 7 "AdmissionControlModel" "z" "[I"] ++ wsX70)
def wsX7_backlogOf : List Cond := .code yX7_backlogOf cX7_backlogOf 5 (some .int) :: ([.fieldLink RX7 7 "AdmissionControlModel" "z" "[I", .methodLink RX7 31 yX7_inQueue, .instanceMethod yX7_inQueue, .selects RX7 yX7_inQueue yX7_inQueue, .initialized RX7, .code yX7_inQueue cX7_inQueue 3 (some .int), .methodLink RX7 35 yX7_of, .instanceMethod yX7_of, .selects RX7 yX7_of yX7_of, .code yX7_of cX7_of 3 (some .int)] ++ wsX70)
def wsX7_whyRefused : List Cond := .code yX7_whyRefused cX7_whyRefused 5 (some .int) :: ([.fieldLink RX7 7 "AdmissionControlModel" "z" "[I", .methodLink RX7 38 yX7_ofClass, .instanceMethod yX7_ofClass, .selects RX7 yX7_ofClass yX7_ofClass, .initialized RX7, .code yX7_ofClass cX7_ofClass 3 (some .int), .methodLink RX7 41 yX7_backlogOf, .instanceMethod yX7_backlogOf, .selects RX7 yX7_backlogOf yX7_backlogOf, .code yX7_backlogOf cX7_backlogOf 5 (some .int), .methodLink RX7 31 yX7_inQueue, .instanceMethod yX7_inQueue, .selects RX7 yX7_inQueue yX7_inQueue, .code yX7_inQueue cX7_inQueue 3 (some .int), .methodLink RX7 35 yX7_of, .instanceMethod yX7_of, .selects RX7 yX7_of yX7_of, .code yX7_of cX7_of 3 (some .int)] ++ wsX70)
def wsX7_addTokens : List Cond := .code yX7_addTokens cX7_addTokens 6 none :: ([.fieldLink RX7 7 "AdmissionControlModel" "z" "[I", .methodLink RX7 38 yX7_ofClass, .instanceMethod yX7_ofClass, .selects RX7 yX7_ofClass yX7_ofClass, .initialized RX7, .code yX7_ofClass cX7_ofClass 3 (some .int)] ++ wsX70)
def wsX7_refuse : List Cond := .code yX7_refuse cX7_refuse 5 none :: ([.fieldLink RX7 7 "AdmissionControlModel" "z" "[I", .constant RX7 30 (-100005), .methodLink RX7 35 yX7_of, .instanceMethod yX7_of, .selects RX7 yX7_of yX7_of, .initialized RX7, .code yX7_of cX7_of 3 (some .int), .methodLink RX7 45 yX7_put, .instanceMethod yX7_put, .selects RX7 yX7_put yX7_put, .code yX7_put cX7_put 4 none] ++ wsX70)
def wsX7_admit : List Cond := .code yX7_admit cX7_admit 6 none :: ([.fieldLink RX7 7 "AdmissionControlModel" "z" "[I", .constant RX7 30 (-100005), .methodLink RX7 35 yX7_of, .instanceMethod yX7_of, .selects RX7 yX7_of yX7_of, .initialized RX7, .code yX7_of cX7_of 3 (some .int), .methodLink RX7 45 yX7_put, .instanceMethod yX7_put, .selects RX7 yX7_put yX7_put, .code yX7_put cX7_put 4 none] ++ wsX70)
def wsX7_offerNow_r1 : List Cond := [Cond.methodLink RX7 35 yX7_of, Cond.instanceMethod yX7_of, Cond.selects RX7 yX7_of yX7_of, Cond.initialized RX7, Cond.code yX7_of cX7_of 3 (some .int), Cond.fieldLink RX7 7 "AdmissionControlModel" "z" "[I", Cond.methodLink RX7 45 yX7_put, Cond.instanceMethod yX7_put, Cond.selects RX7 yX7_put yX7_put, Cond.code yX7_put cX7_put 4 none, Cond.methodLink RX7 49 yX7_expectedCost, Cond.instanceMethod yX7_expectedCost, Cond.selects RX7 yX7_expectedCost yX7_expectedCost, Cond.code yX7_expectedCost cX7_expectedCost 3 (some .int), Cond.methodLink RX7 52 yX7_whyRefused, Cond.instanceMethod yX7_whyRefused, Cond.selects RX7 yX7_whyRefused yX7_whyRefused, Cond.code yX7_whyRefused cX7_whyRefused 5 (some .int), Cond.methodLink RX7 38 yX7_ofClass, Cond.instanceMethod yX7_ofClass, Cond.selects RX7 yX7_ofClass yX7_ofClass, Cond.code yX7_ofClass cX7_ofClass 3 (some .int), Cond.methodLink RX7 41 yX7_backlogOf, Cond.instanceMethod yX7_backlogOf]
def wsX7_offerNow_r2 : List Cond := [Cond.selects RX7 yX7_backlogOf yX7_backlogOf, Cond.code yX7_backlogOf cX7_backlogOf 5 (some .int), Cond.methodLink RX7 31 yX7_inQueue, Cond.instanceMethod yX7_inQueue, Cond.selects RX7 yX7_inQueue yX7_inQueue, Cond.code yX7_inQueue cX7_inQueue 3 (some .int), Cond.methodLink RX7 55 yX7_refuse, Cond.instanceMethod yX7_refuse, Cond.selects RX7 yX7_refuse yX7_refuse, Cond.code yX7_refuse cX7_refuse 5 none, Cond.constant RX7 30 (-100005), Cond.methodLink RX7 59 yX7_admit, Cond.instanceMethod yX7_admit, Cond.selects RX7 yX7_admit yX7_admit, Cond.code yX7_admit cX7_admit 6 none]
def wsX7_offerNow : List Cond := .code yX7_offerNow cX7_offerNow 3 (some .int) :: ((wsX7_offerNow_r1 ++ wsX7_offerNow_r2) ++ wsX70)
def wsX7_leaveQueue : List Cond := .code yX7_leaveQueue cX7_leaveQueue 4 none :: ([.fieldLink RX7 7 "AdmissionControlModel" "z" "[I", .methodLink RX7 31 yX7_inQueue, .instanceMethod yX7_inQueue, .selects RX7 yX7_inQueue yX7_inQueue, .initialized RX7, .code yX7_inQueue cX7_inQueue 3 (some .int)] ++ wsX70)
def wsX7_refuseLate_r1 : List Cond := [Cond.fieldLink RX7 7 "AdmissionControlModel" "z" "[I", Cond.methodLink RX7 31 yX7_inQueue, Cond.instanceMethod yX7_inQueue, Cond.selects RX7 yX7_inQueue yX7_inQueue, Cond.initialized RX7, Cond.code yX7_inQueue cX7_inQueue 3 (some .int), Cond.methodLink RX7 35 yX7_of, Cond.instanceMethod yX7_of, Cond.selects RX7 yX7_of yX7_of, Cond.code yX7_of cX7_of 3 (some .int), Cond.methodLink RX7 63 yX7_leaveQueue, Cond.instanceMethod yX7_leaveQueue, Cond.selects RX7 yX7_leaveQueue yX7_leaveQueue, Cond.code yX7_leaveQueue cX7_leaveQueue 4 none, Cond.methodLink RX7 55 yX7_refuse, Cond.instanceMethod yX7_refuse, Cond.selects RX7 yX7_refuse yX7_refuse, Cond.code yX7_refuse cX7_refuse 5 none, Cond.constant RX7 30 (-100005), Cond.methodLink RX7 45 yX7_put, Cond.instanceMethod yX7_put, Cond.selects RX7 yX7_put yX7_put, Cond.code yX7_put cX7_put 4 none, Cond.methodLink RX7 66 yX7_addTokens]
def wsX7_refuseLate_r2 : List Cond := [Cond.instanceMethod yX7_addTokens, Cond.selects RX7 yX7_addTokens yX7_addTokens, Cond.code yX7_addTokens cX7_addTokens 6 none, Cond.methodLink RX7 38 yX7_ofClass, Cond.instanceMethod yX7_ofClass, Cond.selects RX7 yX7_ofClass yX7_ofClass, Cond.code yX7_ofClass cX7_ofClass 3 (some .int)]
def wsX7_refuseLate : List Cond := .code yX7_refuseLate cX7_refuseLate 5 none :: ((wsX7_refuseLate_r1 ++ wsX7_refuseLate_r2) ++ wsX70)
def wsX7_nextClass : List Cond := .code yX7_nextClass cX7_nextClass 3 (some .int) :: ([.constant RX7 30 (-100005), .fieldLink RX7 7 "AdmissionControlModel" "z" "[I"] ++ wsX70)
def wsX7_work_r1 : List Cond := [Cond.fieldLink RX7 7 "AdmissionControlModel" "z" "[I", Cond.methodLink RX7 31 yX7_inQueue, Cond.instanceMethod yX7_inQueue, Cond.selects RX7 yX7_inQueue yX7_inQueue, Cond.initialized RX7, Cond.code yX7_inQueue cX7_inQueue 3 (some .int), Cond.methodLink RX7 45 yX7_put, Cond.instanceMethod yX7_put, Cond.selects RX7 yX7_put yX7_put, Cond.code yX7_put cX7_put 4 none, Cond.methodLink RX7 35 yX7_of, Cond.instanceMethod yX7_of, Cond.selects RX7 yX7_of yX7_of, Cond.code yX7_of cX7_of 3 (some .int), Cond.methodLink RX7 38 yX7_ofClass, Cond.instanceMethod yX7_ofClass, Cond.selects RX7 yX7_ofClass yX7_ofClass, Cond.code yX7_ofClass cX7_ofClass 3 (some .int), Cond.methodLink RX7 63 yX7_leaveQueue, Cond.instanceMethod yX7_leaveQueue, Cond.selects RX7 yX7_leaveQueue yX7_leaveQueue, Cond.code yX7_leaveQueue cX7_leaveQueue 4 none, Cond.methodLink RX7 66 yX7_addTokens, Cond.instanceMethod yX7_addTokens]
def wsX7_work_r2 : List Cond := [Cond.selects RX7 yX7_addTokens yX7_addTokens, Cond.code yX7_addTokens cX7_addTokens 6 none]
def wsX7_work : List Cond := .code yX7_work cX7_work 5 (some .boolean) :: ((wsX7_work_r1 ++ wsX7_work_r2) ++ wsX70)
def wsX7_tick_r1 : List Cond := [Cond.fieldLink RX7 7 "AdmissionControlModel" "z" "[I", Cond.methodLink RX7 38 yX7_ofClass, Cond.instanceMethod yX7_ofClass, Cond.selects RX7 yX7_ofClass yX7_ofClass, Cond.initialized RX7, Cond.code yX7_ofClass cX7_ofClass 3 (some .int), Cond.methodLink RX7 66 yX7_addTokens, Cond.instanceMethod yX7_addTokens, Cond.selects RX7 yX7_addTokens yX7_addTokens, Cond.code yX7_addTokens cX7_addTokens 6 none, Cond.methodLink RX7 35 yX7_of, Cond.instanceMethod yX7_of, Cond.selects RX7 yX7_of yX7_of, Cond.code yX7_of cX7_of 3 (some .int), Cond.methodLink RX7 69 yX7_offerNow, Cond.instanceMethod yX7_offerNow, Cond.selects RX7 yX7_offerNow yX7_offerNow, Cond.code yX7_offerNow cX7_offerNow 3 (some .int), Cond.methodLink RX7 45 yX7_put, Cond.instanceMethod yX7_put, Cond.selects RX7 yX7_put yX7_put, Cond.code yX7_put cX7_put 4 none, Cond.methodLink RX7 49 yX7_expectedCost, Cond.instanceMethod yX7_expectedCost]
def wsX7_tick_r2 : List Cond := [Cond.selects RX7 yX7_expectedCost yX7_expectedCost, Cond.code yX7_expectedCost cX7_expectedCost 3 (some .int), Cond.methodLink RX7 52 yX7_whyRefused, Cond.instanceMethod yX7_whyRefused, Cond.selects RX7 yX7_whyRefused yX7_whyRefused, Cond.code yX7_whyRefused cX7_whyRefused 5 (some .int), Cond.methodLink RX7 41 yX7_backlogOf, Cond.instanceMethod yX7_backlogOf, Cond.selects RX7 yX7_backlogOf yX7_backlogOf, Cond.code yX7_backlogOf cX7_backlogOf 5 (some .int), Cond.methodLink RX7 31 yX7_inQueue, Cond.instanceMethod yX7_inQueue, Cond.selects RX7 yX7_inQueue yX7_inQueue, Cond.code yX7_inQueue cX7_inQueue 3 (some .int), Cond.methodLink RX7 55 yX7_refuse, Cond.instanceMethod yX7_refuse, Cond.selects RX7 yX7_refuse yX7_refuse, Cond.code yX7_refuse cX7_refuse 5 none, Cond.constant RX7 30 (-100005), Cond.methodLink RX7 59 yX7_admit, Cond.instanceMethod yX7_admit, Cond.selects RX7 yX7_admit yX7_admit, Cond.code yX7_admit cX7_admit 6 none, Cond.methodLink RX7 72 yX7_refuseLate]
def wsX7_tick_r3 : List Cond := [Cond.instanceMethod yX7_refuseLate, Cond.selects RX7 yX7_refuseLate yX7_refuseLate, Cond.code yX7_refuseLate cX7_refuseLate 5 none, Cond.methodLink RX7 63 yX7_leaveQueue, Cond.instanceMethod yX7_leaveQueue, Cond.selects RX7 yX7_leaveQueue yX7_leaveQueue, Cond.code yX7_leaveQueue cX7_leaveQueue 4 none, Cond.methodLink RX7 75 yX7_nextClass, Cond.instanceMethod yX7_nextClass, Cond.selects RX7 yX7_nextClass yX7_nextClass, Cond.code yX7_nextClass cX7_nextClass 3 (some .int), Cond.methodLink RX7 79 yX7_work, Cond.instanceMethod yX7_work, Cond.selects RX7 yX7_work yX7_work, Cond.code yX7_work cX7_work 5 (some .boolean)]
def wsX7_tick : List Cond := .code yX7_tick cX7_tick 4 (some .int) :: ((wsX7_tick_r1 ++ (wsX7_tick_r2 ++ wsX7_tick_r3)) ++ wsX70)
def wsX7_lowest : List Cond := .code yX7_lowest cX7_lowest 1 (some .int) :: ([])
def wsX7_highest : List Cond := .code yX7_highest cX7_highest 1 (some .int) :: ([])
def wsX7_set : List Cond := .code yX7_set cX7_set 4 (some .int) :: ([.constant RX7 83 (-100001), .constant RX7 90 (-100002), .fieldLink RX7 7 "AdmissionControlModel" "z" "[I", .methodLink RX7 22 yX7_in, .static yX7_in, .initialized RX7, .code yX7_in cX7_in 3 (some .boolean), .methodLink RX7 84 yX7_lowest, .static yX7_lowest, .code yX7_lowest cX7_lowest 1 (some .int), .methodLink RX7 87 yX7_highest, .static yX7_highest, .code yX7_highest cX7_highest 1 (some .int), .methodLink RX7 91 yX7_record, .instanceMethod yX7_record, .selects RX7 yX7_record yX7_record, .code yX7_record cX7_record 2 none, .fieldLink RX7 26 "AdmissionControlModel" "states" "I", .fieldLink RX7 16 "AdmissionControlModel" "history" "[I"] ++ wsX70)
def wsX7_highestOfClass : List Cond := .code yX7_highestOfClass cX7_highestOfClass 1 (some .int) :: ([])
def wsX7_setClass : List Cond := .code yX7_setClass cX7_setClass 5 (some .int) :: ([.constant RX7 83 (-100001), .constant RX7 90 (-100002), .fieldLink RX7 7 "AdmissionControlModel" "z" "[I", .methodLink RX7 94 yX7_isClass, .static yX7_isClass, .initialized RX7, .code yX7_isClass cX7_isClass 1 (some .boolean), .methodLink RX7 22 yX7_in, .static yX7_in, .code yX7_in cX7_in 3 (some .boolean), .methodLink RX7 97 yX7_highestOfClass, .static yX7_highestOfClass, .code yX7_highestOfClass cX7_highestOfClass 1 (some .int), .methodLink RX7 91 yX7_record, .instanceMethod yX7_record, .selects RX7 yX7_record yX7_record, .code yX7_record cX7_record 2 none, .fieldLink RX7 26 "AdmissionControlModel" "states" "I", .fieldLink RX7 16 "AdmissionControlModel" "history" "[I", .methodLink RX7 38 yX7_ofClass, .instanceMethod yX7_ofClass, .selects RX7 yX7_ofClass yX7_ofClass, .code yX7_ofClass cX7_ofClass 3 (some .int)] ++ wsX70)
def wsX7_noOffer : List Cond := .code yX7_noOffer cX7_noOffer 4 (some .int) :: ([.constant RX7 83 (-100001), .constant RX7 90 (-100002), .fieldLink RX7 7 "AdmissionControlModel" "z" "[I", .constant RX7 103 (-100004), .methodLink RX7 94 yX7_isClass, .static yX7_isClass, .initialized RX7, .code yX7_isClass cX7_isClass 1 (some .boolean), .methodLink RX7 22 yX7_in, .static yX7_in, .code yX7_in cX7_in 3 (some .boolean), .methodLink RX7 100 yX7_isShape, .static yX7_isShape, .code yX7_isShape cX7_isShape 1 (some .boolean)] ++ wsX70)
def wsX7_doOffer_r1 : List Cond := [Cond.fieldLink RX7 7 "AdmissionControlModel" "z" "[I", Cond.methodLink RX7 45 yX7_put, Cond.instanceMethod yX7_put, Cond.selects RX7 yX7_put yX7_put, Cond.initialized RX7, Cond.code yX7_put cX7_put 4 none, Cond.methodLink RX7 69 yX7_offerNow, Cond.instanceMethod yX7_offerNow, Cond.selects RX7 yX7_offerNow yX7_offerNow, Cond.code yX7_offerNow cX7_offerNow 3 (some .int), Cond.methodLink RX7 35 yX7_of, Cond.instanceMethod yX7_of, Cond.selects RX7 yX7_of yX7_of, Cond.code yX7_of cX7_of 3 (some .int), Cond.methodLink RX7 49 yX7_expectedCost, Cond.instanceMethod yX7_expectedCost, Cond.selects RX7 yX7_expectedCost yX7_expectedCost, Cond.code yX7_expectedCost cX7_expectedCost 3 (some .int), Cond.methodLink RX7 52 yX7_whyRefused, Cond.instanceMethod yX7_whyRefused, Cond.selects RX7 yX7_whyRefused yX7_whyRefused, Cond.code yX7_whyRefused cX7_whyRefused 5 (some .int), Cond.methodLink RX7 38 yX7_ofClass, Cond.instanceMethod yX7_ofClass]
def wsX7_doOffer_r2 : List Cond := [Cond.selects RX7 yX7_ofClass yX7_ofClass, Cond.code yX7_ofClass cX7_ofClass 3 (some .int), Cond.methodLink RX7 41 yX7_backlogOf, Cond.instanceMethod yX7_backlogOf, Cond.selects RX7 yX7_backlogOf yX7_backlogOf, Cond.code yX7_backlogOf cX7_backlogOf 5 (some .int), Cond.methodLink RX7 31 yX7_inQueue, Cond.instanceMethod yX7_inQueue, Cond.selects RX7 yX7_inQueue yX7_inQueue, Cond.code yX7_inQueue cX7_inQueue 3 (some .int), Cond.methodLink RX7 55 yX7_refuse, Cond.instanceMethod yX7_refuse, Cond.selects RX7 yX7_refuse yX7_refuse, Cond.code yX7_refuse cX7_refuse 5 none, Cond.constant RX7 30 (-100005), Cond.methodLink RX7 59 yX7_admit, Cond.instanceMethod yX7_admit, Cond.selects RX7 yX7_admit yX7_admit, Cond.code yX7_admit cX7_admit 6 none]
def wsX7_doOffer : List Cond := .code yX7_doOffer cX7_doOffer 5 (some .int) :: ((wsX7_doOffer_r1 ++ wsX7_doOffer_r2) ++ wsX70)
def wsX7_offer_r1 : List Cond := [Cond.methodLink RX7 104 yX7_noOffer, Cond.instanceMethod yX7_noOffer, Cond.selects RX7 yX7_noOffer yX7_noOffer, Cond.initialized RX7, Cond.code yX7_noOffer cX7_noOffer 4 (some .int), Cond.constant RX7 83 (-100001), Cond.constant RX7 90 (-100002), Cond.fieldLink RX7 7 "AdmissionControlModel" "z" "[I", Cond.constant RX7 103 (-100004), Cond.methodLink RX7 94 yX7_isClass, Cond.static yX7_isClass, Cond.code yX7_isClass cX7_isClass 1 (some .boolean), Cond.methodLink RX7 22 yX7_in, Cond.static yX7_in, Cond.code yX7_in cX7_in 3 (some .boolean), Cond.methodLink RX7 100 yX7_isShape, Cond.static yX7_isShape, Cond.code yX7_isShape cX7_isShape 1 (some .boolean), Cond.methodLink RX7 91 yX7_record, Cond.instanceMethod yX7_record, Cond.selects RX7 yX7_record yX7_record, Cond.code yX7_record cX7_record 2 none, Cond.fieldLink RX7 26 "AdmissionControlModel" "states" "I", Cond.fieldLink RX7 16 "AdmissionControlModel" "history" "[I"]
def wsX7_offer_r2 : List Cond := [Cond.methodLink RX7 108 yX7_doOffer, Cond.instanceMethod yX7_doOffer, Cond.selects RX7 yX7_doOffer yX7_doOffer, Cond.code yX7_doOffer cX7_doOffer 5 (some .int), Cond.methodLink RX7 45 yX7_put, Cond.instanceMethod yX7_put, Cond.selects RX7 yX7_put yX7_put, Cond.code yX7_put cX7_put 4 none, Cond.methodLink RX7 69 yX7_offerNow, Cond.instanceMethod yX7_offerNow, Cond.selects RX7 yX7_offerNow yX7_offerNow, Cond.code yX7_offerNow cX7_offerNow 3 (some .int), Cond.methodLink RX7 35 yX7_of, Cond.instanceMethod yX7_of, Cond.selects RX7 yX7_of yX7_of, Cond.code yX7_of cX7_of 3 (some .int), Cond.methodLink RX7 49 yX7_expectedCost, Cond.instanceMethod yX7_expectedCost, Cond.selects RX7 yX7_expectedCost yX7_expectedCost, Cond.code yX7_expectedCost cX7_expectedCost 3 (some .int), Cond.methodLink RX7 52 yX7_whyRefused, Cond.instanceMethod yX7_whyRefused, Cond.selects RX7 yX7_whyRefused yX7_whyRefused, Cond.code yX7_whyRefused cX7_whyRefused 5 (some .int)]
def wsX7_offer_r3 : List Cond := [Cond.methodLink RX7 38 yX7_ofClass, Cond.instanceMethod yX7_ofClass, Cond.selects RX7 yX7_ofClass yX7_ofClass, Cond.code yX7_ofClass cX7_ofClass 3 (some .int), Cond.methodLink RX7 41 yX7_backlogOf, Cond.instanceMethod yX7_backlogOf, Cond.selects RX7 yX7_backlogOf yX7_backlogOf, Cond.code yX7_backlogOf cX7_backlogOf 5 (some .int), Cond.methodLink RX7 31 yX7_inQueue, Cond.instanceMethod yX7_inQueue, Cond.selects RX7 yX7_inQueue yX7_inQueue, Cond.code yX7_inQueue cX7_inQueue 3 (some .int), Cond.methodLink RX7 55 yX7_refuse, Cond.instanceMethod yX7_refuse, Cond.selects RX7 yX7_refuse yX7_refuse, Cond.code yX7_refuse cX7_refuse 5 none, Cond.constant RX7 30 (-100005), Cond.methodLink RX7 59 yX7_admit, Cond.instanceMethod yX7_admit, Cond.selects RX7 yX7_admit yX7_admit, Cond.code yX7_admit cX7_admit 6 none]
def wsX7_offer : List Cond := .code yX7_offer cX7_offer 5 (some .int) :: ((wsX7_offer_r1 ++ (wsX7_offer_r2 ++ wsX7_offer_r3)) ++ wsX70)
def wsX7_noAdvance : List Cond := .code yX7_noAdvance cX7_noAdvance 2 (some .int) :: ([.constant RX7 90 (-100002), .fieldLink RX7 7 "AdmissionControlModel" "z" "[I", .constant RX7 103 (-100004), .methodLink RX7 22 yX7_in, .static yX7_in, .initialized RX7, .code yX7_in cX7_in 3 (some .boolean)] ++ wsX70)
def wsX7_doAdvance_r1 : List Cond := [Cond.methodLink RX7 111 yX7_tick, Cond.instanceMethod yX7_tick, Cond.selects RX7 yX7_tick yX7_tick, Cond.initialized RX7, Cond.code yX7_tick cX7_tick 4 (some .int), Cond.fieldLink RX7 7 "AdmissionControlModel" "z" "[I", Cond.methodLink RX7 38 yX7_ofClass, Cond.instanceMethod yX7_ofClass, Cond.selects RX7 yX7_ofClass yX7_ofClass, Cond.code yX7_ofClass cX7_ofClass 3 (some .int), Cond.methodLink RX7 66 yX7_addTokens, Cond.instanceMethod yX7_addTokens, Cond.selects RX7 yX7_addTokens yX7_addTokens, Cond.code yX7_addTokens cX7_addTokens 6 none, Cond.methodLink RX7 35 yX7_of, Cond.instanceMethod yX7_of, Cond.selects RX7 yX7_of yX7_of, Cond.code yX7_of cX7_of 3 (some .int), Cond.methodLink RX7 69 yX7_offerNow, Cond.instanceMethod yX7_offerNow, Cond.selects RX7 yX7_offerNow yX7_offerNow, Cond.code yX7_offerNow cX7_offerNow 3 (some .int), Cond.methodLink RX7 45 yX7_put, Cond.instanceMethod yX7_put]
def wsX7_doAdvance_r2 : List Cond := [Cond.selects RX7 yX7_put yX7_put, Cond.code yX7_put cX7_put 4 none, Cond.methodLink RX7 49 yX7_expectedCost, Cond.instanceMethod yX7_expectedCost, Cond.selects RX7 yX7_expectedCost yX7_expectedCost, Cond.code yX7_expectedCost cX7_expectedCost 3 (some .int), Cond.methodLink RX7 52 yX7_whyRefused, Cond.instanceMethod yX7_whyRefused, Cond.selects RX7 yX7_whyRefused yX7_whyRefused, Cond.code yX7_whyRefused cX7_whyRefused 5 (some .int), Cond.methodLink RX7 41 yX7_backlogOf, Cond.instanceMethod yX7_backlogOf, Cond.selects RX7 yX7_backlogOf yX7_backlogOf, Cond.code yX7_backlogOf cX7_backlogOf 5 (some .int), Cond.methodLink RX7 31 yX7_inQueue, Cond.instanceMethod yX7_inQueue, Cond.selects RX7 yX7_inQueue yX7_inQueue, Cond.code yX7_inQueue cX7_inQueue 3 (some .int), Cond.methodLink RX7 55 yX7_refuse, Cond.instanceMethod yX7_refuse, Cond.selects RX7 yX7_refuse yX7_refuse, Cond.code yX7_refuse cX7_refuse 5 none, Cond.constant RX7 30 (-100005), Cond.methodLink RX7 59 yX7_admit]
def wsX7_doAdvance_r3 : List Cond := [Cond.instanceMethod yX7_admit, Cond.selects RX7 yX7_admit yX7_admit, Cond.code yX7_admit cX7_admit 6 none, Cond.methodLink RX7 72 yX7_refuseLate, Cond.instanceMethod yX7_refuseLate, Cond.selects RX7 yX7_refuseLate yX7_refuseLate, Cond.code yX7_refuseLate cX7_refuseLate 5 none, Cond.methodLink RX7 63 yX7_leaveQueue, Cond.instanceMethod yX7_leaveQueue, Cond.selects RX7 yX7_leaveQueue yX7_leaveQueue, Cond.code yX7_leaveQueue cX7_leaveQueue 4 none, Cond.methodLink RX7 75 yX7_nextClass, Cond.instanceMethod yX7_nextClass, Cond.selects RX7 yX7_nextClass yX7_nextClass, Cond.code yX7_nextClass cX7_nextClass 3 (some .int), Cond.methodLink RX7 79 yX7_work, Cond.instanceMethod yX7_work, Cond.selects RX7 yX7_work yX7_work, Cond.code yX7_work cX7_work 5 (some .boolean)]
def wsX7_doAdvance : List Cond := .code yX7_doAdvance cX7_doAdvance 4 (some .int) :: ((wsX7_doAdvance_r1 ++ (wsX7_doAdvance_r2 ++ wsX7_doAdvance_r3)) ++ wsX70)
def wsX7_advance_r1 : List Cond := [Cond.methodLink RX7 114 yX7_noAdvance, Cond.instanceMethod yX7_noAdvance, Cond.selects RX7 yX7_noAdvance yX7_noAdvance, Cond.initialized RX7, Cond.code yX7_noAdvance cX7_noAdvance 2 (some .int), Cond.constant RX7 90 (-100002), Cond.fieldLink RX7 7 "AdmissionControlModel" "z" "[I", Cond.constant RX7 103 (-100004), Cond.methodLink RX7 22 yX7_in, Cond.static yX7_in, Cond.code yX7_in cX7_in 3 (some .boolean), Cond.methodLink RX7 91 yX7_record, Cond.instanceMethod yX7_record, Cond.selects RX7 yX7_record yX7_record, Cond.code yX7_record cX7_record 2 none, Cond.fieldLink RX7 26 "AdmissionControlModel" "states" "I", Cond.fieldLink RX7 16 "AdmissionControlModel" "history" "[I", Cond.methodLink RX7 117 yX7_doAdvance, Cond.instanceMethod yX7_doAdvance, Cond.selects RX7 yX7_doAdvance yX7_doAdvance, Cond.code yX7_doAdvance cX7_doAdvance 4 (some .int), Cond.methodLink RX7 111 yX7_tick, Cond.instanceMethod yX7_tick, Cond.selects RX7 yX7_tick yX7_tick]
def wsX7_advance_r2 : List Cond := [Cond.code yX7_tick cX7_tick 4 (some .int), Cond.methodLink RX7 38 yX7_ofClass, Cond.instanceMethod yX7_ofClass, Cond.selects RX7 yX7_ofClass yX7_ofClass, Cond.code yX7_ofClass cX7_ofClass 3 (some .int), Cond.methodLink RX7 66 yX7_addTokens, Cond.instanceMethod yX7_addTokens, Cond.selects RX7 yX7_addTokens yX7_addTokens, Cond.code yX7_addTokens cX7_addTokens 6 none, Cond.methodLink RX7 35 yX7_of, Cond.instanceMethod yX7_of, Cond.selects RX7 yX7_of yX7_of, Cond.code yX7_of cX7_of 3 (some .int), Cond.methodLink RX7 69 yX7_offerNow, Cond.instanceMethod yX7_offerNow, Cond.selects RX7 yX7_offerNow yX7_offerNow, Cond.code yX7_offerNow cX7_offerNow 3 (some .int), Cond.methodLink RX7 45 yX7_put, Cond.instanceMethod yX7_put, Cond.selects RX7 yX7_put yX7_put, Cond.code yX7_put cX7_put 4 none, Cond.methodLink RX7 49 yX7_expectedCost, Cond.instanceMethod yX7_expectedCost, Cond.selects RX7 yX7_expectedCost yX7_expectedCost]
def wsX7_advance_r3 : List Cond := [Cond.code yX7_expectedCost cX7_expectedCost 3 (some .int), Cond.methodLink RX7 52 yX7_whyRefused, Cond.instanceMethod yX7_whyRefused, Cond.selects RX7 yX7_whyRefused yX7_whyRefused, Cond.code yX7_whyRefused cX7_whyRefused 5 (some .int), Cond.methodLink RX7 41 yX7_backlogOf, Cond.instanceMethod yX7_backlogOf, Cond.selects RX7 yX7_backlogOf yX7_backlogOf, Cond.code yX7_backlogOf cX7_backlogOf 5 (some .int), Cond.methodLink RX7 31 yX7_inQueue, Cond.instanceMethod yX7_inQueue, Cond.selects RX7 yX7_inQueue yX7_inQueue, Cond.code yX7_inQueue cX7_inQueue 3 (some .int), Cond.methodLink RX7 55 yX7_refuse, Cond.instanceMethod yX7_refuse, Cond.selects RX7 yX7_refuse yX7_refuse, Cond.code yX7_refuse cX7_refuse 5 none, Cond.constant RX7 30 (-100005), Cond.methodLink RX7 59 yX7_admit, Cond.instanceMethod yX7_admit, Cond.selects RX7 yX7_admit yX7_admit, Cond.code yX7_admit cX7_admit 6 none, Cond.methodLink RX7 72 yX7_refuseLate, Cond.instanceMethod yX7_refuseLate]
def wsX7_advance_r4 : List Cond := [Cond.selects RX7 yX7_refuseLate yX7_refuseLate, Cond.code yX7_refuseLate cX7_refuseLate 5 none, Cond.methodLink RX7 63 yX7_leaveQueue, Cond.instanceMethod yX7_leaveQueue, Cond.selects RX7 yX7_leaveQueue yX7_leaveQueue, Cond.code yX7_leaveQueue cX7_leaveQueue 4 none, Cond.methodLink RX7 75 yX7_nextClass, Cond.instanceMethod yX7_nextClass, Cond.selects RX7 yX7_nextClass yX7_nextClass, Cond.code yX7_nextClass cX7_nextClass 3 (some .int), Cond.methodLink RX7 79 yX7_work, Cond.instanceMethod yX7_work, Cond.selects RX7 yX7_work yX7_work, Cond.code yX7_work cX7_work 5 (some .boolean)]
def wsX7_advance : List Cond := .code yX7_advance cX7_advance 3 (some .int) :: ((wsX7_advance_r1 ++ (wsX7_advance_r2 ++ (wsX7_advance_r3 ++ wsX7_advance_r4))) ++ wsX70)
def wsX7_append : List Cond := .code yX7_append cX7_append 2 (some .int) :: ([.constant RX7 90 (-100002), .fieldLink RX7 120 "AdmissionControlModel" "length" "I", .constant RX7 103 (-100004), .fieldLink RX7 19 "AdmissionControlModel" "text" "[I", .methodLink RX7 22 yX7_in, .static yX7_in, .initialized RX7, .code yX7_in cX7_in 3 (some .boolean)] ++ wsX70)
def wsX7_clearText : List Cond := .code yX7_clearText cX7_clearText 2 (some .int) :: ([.fieldLink RX7 120 "AdmissionControlModel" "length" "I"] ++ wsX70)
def wsX7_at : List Cond := .code yX7_at cX7_at 2 (some .int) :: ([.fieldLink RX7 120 "AdmissionControlModel" "length" "I", .fieldLink RX7 19 "AdmissionControlModel" "text" "[I"] ++ wsX70)
def wsX7_readNumber : List Cond := .code yX7_readNumber cX7_readNumber 4 (some .int) :: ([.fieldLink RX7 123 "AdmissionControlModel" "numberRead" "I", .methodLink RX7 126 yX7_at, .instanceMethod yX7_at, .selects RX7 yX7_at yX7_at, .initialized RX7, .code yX7_at cX7_at 2 (some .int), .fieldLink RX7 120 "AdmissionControlModel" "length" "I", .fieldLink RX7 19 "AdmissionControlModel" "text" "[I", .methodLink RX7 22 yX7_in, .static yX7_in, .code yX7_in cX7_in 3 (some .boolean)] ++ wsX70)
def wsX7_readStep : List Cond := .code yX7_readStep cX7_readStep 2 (some .int) :: ([.fieldLink RX7 129 "AdmissionControlModel" "kindRead" "I", .fieldLink RX7 135 "AdmissionControlModel" "shapeRead" "I", .methodLink RX7 126 yX7_at, .instanceMethod yX7_at, .selects RX7 yX7_at yX7_at, .initialized RX7, .code yX7_at cX7_at 2 (some .int), .fieldLink RX7 120 "AdmissionControlModel" "length" "I", .fieldLink RX7 19 "AdmissionControlModel" "text" "[I", .methodLink RX7 132 yX7_readNumber, .instanceMethod yX7_readNumber, .selects RX7 yX7_readNumber yX7_readNumber, .code yX7_readNumber cX7_readNumber 4 (some .int), .fieldLink RX7 123 "AdmissionControlModel" "numberRead" "I", .methodLink RX7 22 yX7_in, .static yX7_in, .code yX7_in cX7_in 3 (some .boolean)] ++ wsX70)
def wsX7_findFault : List Cond := .code yX7_findFault cX7_findFault 2 (some .int) :: ([.fieldLink RX7 120 "AdmissionControlModel" "length" "I", .constant RX7 30 (-100005), .fieldLink RX7 19 "AdmissionControlModel" "text" "[I", .methodLink RX7 138 yX7_readStep, .instanceMethod yX7_readStep, .selects RX7 yX7_readStep yX7_readStep, .initialized RX7, .code yX7_readStep cX7_readStep 2 (some .int), .fieldLink RX7 129 "AdmissionControlModel" "kindRead" "I", .fieldLink RX7 135 "AdmissionControlModel" "shapeRead" "I", .methodLink RX7 126 yX7_at, .instanceMethod yX7_at, .selects RX7 yX7_at yX7_at, .code yX7_at cX7_at 2 (some .int), .methodLink RX7 132 yX7_readNumber, .instanceMethod yX7_readNumber, .selects RX7 yX7_readNumber yX7_readNumber, .code yX7_readNumber cX7_readNumber 4 (some .int), .fieldLink RX7 123 "AdmissionControlModel" "numberRead" "I", .methodLink RX7 22 yX7_in, .static yX7_in, .code yX7_in cX7_in 3 (some .boolean)] ++ wsX70)
def wsX7_fault_r1 : List Cond := [Cond.methodLink RX7 141 yX7_findFault, Cond.instanceMethod yX7_findFault, Cond.selects RX7 yX7_findFault yX7_findFault, Cond.initialized RX7, Cond.code yX7_findFault cX7_findFault 2 (some .int), Cond.fieldLink RX7 120 "AdmissionControlModel" "length" "I", Cond.constant RX7 30 (-100005), Cond.fieldLink RX7 19 "AdmissionControlModel" "text" "[I", Cond.methodLink RX7 138 yX7_readStep, Cond.instanceMethod yX7_readStep, Cond.selects RX7 yX7_readStep yX7_readStep, Cond.code yX7_readStep cX7_readStep 2 (some .int), Cond.fieldLink RX7 129 "AdmissionControlModel" "kindRead" "I", Cond.fieldLink RX7 135 "AdmissionControlModel" "shapeRead" "I", Cond.methodLink RX7 126 yX7_at, Cond.instanceMethod yX7_at, Cond.selects RX7 yX7_at yX7_at, Cond.code yX7_at cX7_at 2 (some .int), Cond.methodLink RX7 132 yX7_readNumber, Cond.instanceMethod yX7_readNumber, Cond.selects RX7 yX7_readNumber yX7_readNumber, Cond.code yX7_readNumber cX7_readNumber 4 (some .int), Cond.fieldLink RX7 123 "AdmissionControlModel" "numberRead" "I", Cond.methodLink RX7 22 yX7_in]
def wsX7_fault_r2 : List Cond := [Cond.static yX7_in, Cond.code yX7_in cX7_in 3 (some .boolean)]
def wsX7_fault : List Cond := .code yX7_fault cX7_fault 1 (some .int) :: ((wsX7_fault_r1 ++ wsX7_fault_r2) ++ wsX70)
def wsX7_run_r1 : List Cond := [Cond.constant RX7 144 (-100003), Cond.fieldLink RX7 120 "AdmissionControlModel" "length" "I", Cond.fieldLink RX7 129 "AdmissionControlModel" "kindRead" "I", Cond.fieldLink RX7 123 "AdmissionControlModel" "numberRead" "I", Cond.fieldLink RX7 135 "AdmissionControlModel" "shapeRead" "I", Cond.methodLink RX7 141 yX7_findFault, Cond.instanceMethod yX7_findFault, Cond.selects RX7 yX7_findFault yX7_findFault, Cond.initialized RX7, Cond.code yX7_findFault cX7_findFault 2 (some .int), Cond.constant RX7 30 (-100005), Cond.fieldLink RX7 19 "AdmissionControlModel" "text" "[I", Cond.methodLink RX7 138 yX7_readStep, Cond.instanceMethod yX7_readStep, Cond.selects RX7 yX7_readStep yX7_readStep, Cond.code yX7_readStep cX7_readStep 2 (some .int), Cond.methodLink RX7 126 yX7_at, Cond.instanceMethod yX7_at, Cond.selects RX7 yX7_at yX7_at, Cond.code yX7_at cX7_at 2 (some .int), Cond.methodLink RX7 132 yX7_readNumber, Cond.instanceMethod yX7_readNumber, Cond.selects RX7 yX7_readNumber yX7_readNumber, Cond.code yX7_readNumber cX7_readNumber 4 (some .int)]
def wsX7_run_r2 : List Cond := [Cond.methodLink RX7 22 yX7_in, Cond.static yX7_in, Cond.code yX7_in cX7_in 3 (some .boolean), Cond.methodLink RX7 91 yX7_record, Cond.instanceMethod yX7_record, Cond.selects RX7 yX7_record yX7_record, Cond.code yX7_record cX7_record 2 none, Cond.fieldLink RX7 26 "AdmissionControlModel" "states" "I", Cond.fieldLink RX7 16 "AdmissionControlModel" "history" "[I", Cond.fieldLink RX7 7 "AdmissionControlModel" "z" "[I", Cond.methodLink RX7 114 yX7_noAdvance, Cond.instanceMethod yX7_noAdvance, Cond.selects RX7 yX7_noAdvance yX7_noAdvance, Cond.code yX7_noAdvance cX7_noAdvance 2 (some .int), Cond.constant RX7 90 (-100002), Cond.constant RX7 103 (-100004), Cond.methodLink RX7 104 yX7_noOffer, Cond.instanceMethod yX7_noOffer, Cond.selects RX7 yX7_noOffer yX7_noOffer, Cond.code yX7_noOffer cX7_noOffer 4 (some .int), Cond.constant RX7 83 (-100001), Cond.methodLink RX7 94 yX7_isClass, Cond.static yX7_isClass, Cond.code yX7_isClass cX7_isClass 1 (some .boolean)]
def wsX7_run_r3 : List Cond := [Cond.methodLink RX7 100 yX7_isShape, Cond.static yX7_isShape, Cond.code yX7_isShape cX7_isShape 1 (some .boolean), Cond.methodLink RX7 117 yX7_doAdvance, Cond.instanceMethod yX7_doAdvance, Cond.selects RX7 yX7_doAdvance yX7_doAdvance, Cond.code yX7_doAdvance cX7_doAdvance 4 (some .int), Cond.methodLink RX7 111 yX7_tick, Cond.instanceMethod yX7_tick, Cond.selects RX7 yX7_tick yX7_tick, Cond.code yX7_tick cX7_tick 4 (some .int), Cond.methodLink RX7 38 yX7_ofClass, Cond.instanceMethod yX7_ofClass, Cond.selects RX7 yX7_ofClass yX7_ofClass, Cond.code yX7_ofClass cX7_ofClass 3 (some .int), Cond.methodLink RX7 66 yX7_addTokens, Cond.instanceMethod yX7_addTokens, Cond.selects RX7 yX7_addTokens yX7_addTokens, Cond.code yX7_addTokens cX7_addTokens 6 none, Cond.methodLink RX7 35 yX7_of, Cond.instanceMethod yX7_of, Cond.selects RX7 yX7_of yX7_of, Cond.code yX7_of cX7_of 3 (some .int), Cond.methodLink RX7 69 yX7_offerNow]
def wsX7_run_r4 : List Cond := [Cond.instanceMethod yX7_offerNow, Cond.selects RX7 yX7_offerNow yX7_offerNow, Cond.code yX7_offerNow cX7_offerNow 3 (some .int), Cond.methodLink RX7 45 yX7_put, Cond.instanceMethod yX7_put, Cond.selects RX7 yX7_put yX7_put, Cond.code yX7_put cX7_put 4 none, Cond.methodLink RX7 49 yX7_expectedCost, Cond.instanceMethod yX7_expectedCost, Cond.selects RX7 yX7_expectedCost yX7_expectedCost, Cond.code yX7_expectedCost cX7_expectedCost 3 (some .int), Cond.methodLink RX7 52 yX7_whyRefused, Cond.instanceMethod yX7_whyRefused, Cond.selects RX7 yX7_whyRefused yX7_whyRefused, Cond.code yX7_whyRefused cX7_whyRefused 5 (some .int), Cond.methodLink RX7 41 yX7_backlogOf, Cond.instanceMethod yX7_backlogOf, Cond.selects RX7 yX7_backlogOf yX7_backlogOf, Cond.code yX7_backlogOf cX7_backlogOf 5 (some .int), Cond.methodLink RX7 31 yX7_inQueue, Cond.instanceMethod yX7_inQueue, Cond.selects RX7 yX7_inQueue yX7_inQueue, Cond.code yX7_inQueue cX7_inQueue 3 (some .int), Cond.methodLink RX7 55 yX7_refuse]
def wsX7_run_r5 : List Cond := [Cond.instanceMethod yX7_refuse, Cond.selects RX7 yX7_refuse yX7_refuse, Cond.code yX7_refuse cX7_refuse 5 none, Cond.methodLink RX7 59 yX7_admit, Cond.instanceMethod yX7_admit, Cond.selects RX7 yX7_admit yX7_admit, Cond.code yX7_admit cX7_admit 6 none, Cond.methodLink RX7 72 yX7_refuseLate, Cond.instanceMethod yX7_refuseLate, Cond.selects RX7 yX7_refuseLate yX7_refuseLate, Cond.code yX7_refuseLate cX7_refuseLate 5 none, Cond.methodLink RX7 63 yX7_leaveQueue, Cond.instanceMethod yX7_leaveQueue, Cond.selects RX7 yX7_leaveQueue yX7_leaveQueue, Cond.code yX7_leaveQueue cX7_leaveQueue 4 none, Cond.methodLink RX7 75 yX7_nextClass, Cond.instanceMethod yX7_nextClass, Cond.selects RX7 yX7_nextClass yX7_nextClass, Cond.code yX7_nextClass cX7_nextClass 3 (some .int), Cond.methodLink RX7 79 yX7_work, Cond.instanceMethod yX7_work, Cond.selects RX7 yX7_work yX7_work, Cond.code yX7_work cX7_work 5 (some .boolean), Cond.methodLink RX7 108 yX7_doOffer]
def wsX7_run_r6 : List Cond := [Cond.instanceMethod yX7_doOffer, Cond.selects RX7 yX7_doOffer yX7_doOffer, Cond.code yX7_doOffer cX7_doOffer 5 (some .int)]
def wsX7_run : List Cond := .code yX7_run cX7_run 5 (some .int) :: ((wsX7_run_r1 ++ (wsX7_run_r2 ++ (wsX7_run_r3 ++ (wsX7_run_r4 ++ (wsX7_run_r5 ++ wsX7_run_r6))))) ++ wsX70)
def wsX7_setting : List Cond := .code yX7_setting cX7_setting 2 (some .int) :: ([.fieldLink RX7 7 "AdmissionControlModel" "z" "[I", .constant RX7 83 (-100001), .methodLink RX7 22 yX7_in, .static yX7_in, .initialized RX7, .code yX7_in cX7_in 3 (some .boolean)] ++ wsX70)
def wsX7_classSetting : List Cond := .code yX7_classSetting cX7_classSetting 3 (some .int) :: ([.constant RX7 83 (-100001), .methodLink RX7 94 yX7_isClass, .static yX7_isClass, .initialized RX7, .code yX7_isClass cX7_isClass 1 (some .boolean), .methodLink RX7 22 yX7_in, .static yX7_in, .code yX7_in cX7_in 3 (some .boolean), .methodLink RX7 38 yX7_ofClass, .instanceMethod yX7_ofClass, .selects RX7 yX7_ofClass yX7_ofClass, .code yX7_ofClass cX7_ofClass 3 (some .int), .fieldLink RX7 7 "AdmissionControlModel" "z" "[I"] ++ wsX70)
def wsX7_clock : List Cond := .code yX7_clock cX7_clock 1 (some .int) :: ([.fieldLink RX7 7 "AdmissionControlModel" "z" "[I"] ++ wsX70)
def wsX7_estimate : List Cond := .code yX7_estimate cX7_estimate 2 (some .int) :: ([.fieldLink RX7 7 "AdmissionControlModel" "z" "[I", .constant RX7 83 (-100001), .methodLink RX7 100 yX7_isShape, .static yX7_isShape, .initialized RX7, .code yX7_isShape cX7_isShape 1 (some .boolean), .methodLink RX7 22 yX7_in, .static yX7_in, .code yX7_in cX7_in 3 (some .boolean)] ++ wsX70)
def wsX7_tokens : List Cond := .code yX7_tokens cX7_tokens 2 (some .int) :: ([.fieldLink RX7 7 "AdmissionControlModel" "z" "[I", .constant RX7 83 (-100001), .methodLink RX7 94 yX7_isClass, .static yX7_isClass, .initialized RX7, .code yX7_isClass cX7_isClass 1 (some .boolean), .methodLink RX7 22 yX7_in, .static yX7_in, .code yX7_in cX7_in 3 (some .boolean)] ++ wsX70)
def wsX7_pass : List Cond := .code yX7_pass cX7_pass 2 (some .int) :: ([.fieldLink RX7 7 "AdmissionControlModel" "z" "[I", .constant RX7 83 (-100001), .methodLink RX7 94 yX7_isClass, .static yX7_isClass, .initialized RX7, .code yX7_isClass cX7_isClass 1 (some .boolean), .methodLink RX7 22 yX7_in, .static yX7_in, .code yX7_in cX7_in 3 (some .boolean)] ++ wsX70)
def wsX7_queued : List Cond := .code yX7_queued cX7_queued 2 (some .int) :: ([.fieldLink RX7 7 "AdmissionControlModel" "z" "[I", .constant RX7 83 (-100001), .methodLink RX7 94 yX7_isClass, .static yX7_isClass, .initialized RX7, .code yX7_isClass cX7_isClass 1 (some .boolean), .methodLink RX7 22 yX7_in, .static yX7_in, .code yX7_in cX7_in 3 (some .boolean)] ++ wsX70)
def wsX7_queuedAt : List Cond := .code yX7_queuedAt cX7_queuedAt 3 (some .int) :: ([.constant RX7 83 (-100001), .constant RX7 90 (-100002), .fieldLink RX7 7 "AdmissionControlModel" "z" "[I", .constant RX7 30 (-100005), .methodLink RX7 94 yX7_isClass, .static yX7_isClass, .initialized RX7, .code yX7_isClass cX7_isClass 1 (some .boolean), .methodLink RX7 22 yX7_in, .static yX7_in, .code yX7_in cX7_in 3 (some .boolean), .methodLink RX7 31 yX7_inQueue, .instanceMethod yX7_inQueue, .selects RX7 yX7_inQueue yX7_inQueue, .code yX7_inQueue cX7_inQueue 3 (some .int)] ++ wsX70)
def wsX7_backlog : List Cond := .code yX7_backlog cX7_backlog 2 (some .int) :: ([.constant RX7 83 (-100001), .methodLink RX7 94 yX7_isClass, .static yX7_isClass, .initialized RX7, .code yX7_isClass cX7_isClass 1 (some .boolean), .methodLink RX7 22 yX7_in, .static yX7_in, .code yX7_in cX7_in 3 (some .boolean), .methodLink RX7 41 yX7_backlogOf, .instanceMethod yX7_backlogOf, .selects RX7 yX7_backlogOf yX7_backlogOf, .code yX7_backlogOf cX7_backlogOf 5 (some .int), .fieldLink RX7 7 "AdmissionControlModel" "z" "[I", .methodLink RX7 31 yX7_inQueue, .instanceMethod yX7_inQueue, .selects RX7 yX7_inQueue yX7_inQueue, .code yX7_inQueue cX7_inQueue 3 (some .int), .methodLink RX7 35 yX7_of, .instanceMethod yX7_of, .selects RX7 yX7_of yX7_of, .code yX7_of cX7_of 3 (some .int)] ++ wsX70)
def wsX7_worked : List Cond := .code yX7_worked cX7_worked 2 (some .int) :: ([.fieldLink RX7 7 "AdmissionControlModel" "z" "[I", .constant RX7 83 (-100001), .methodLink RX7 94 yX7_isClass, .static yX7_isClass, .initialized RX7, .code yX7_isClass cX7_isClass 1 (some .boolean), .methodLink RX7 22 yX7_in, .static yX7_in, .code yX7_in cX7_in 3 (some .boolean)] ++ wsX70)
def wsX7_refused : List Cond := .code yX7_refused cX7_refused 3 (some .int) :: ([.fieldLink RX7 7 "AdmissionControlModel" "z" "[I", .constant RX7 83 (-100001), .methodLink RX7 94 yX7_isClass, .static yX7_isClass, .initialized RX7, .code yX7_isClass cX7_isClass 1 (some .boolean), .methodLink RX7 22 yX7_in, .static yX7_in, .code yX7_in cX7_in 3 (some .boolean)] ++ wsX70)
def wsX7_idle : List Cond := .code yX7_idle cX7_idle 1 (some .int) :: ([.fieldLink RX7 7 "AdmissionControlModel" "z" "[I"] ++ wsX70)
def wsX7_workShare : List Cond := .code yX7_workShare cX7_workShare 3 (some .float) :: ([.constantFloat RX7 145 (3212836864), .fieldLink RX7 7 "AdmissionControlModel" "z" "[I", .methodLink RX7 94 yX7_isClass, .static yX7_isClass, .initialized RX7, .code yX7_isClass cX7_isClass 1 (some .boolean), .methodLink RX7 22 yX7_in, .static yX7_in, .code yX7_in cX7_in 3 (some .boolean)] ++ wsX70)
def wsX7_requests : List Cond := .code yX7_requests cX7_requests 1 (some .int) :: ([.fieldLink RX7 7 "AdmissionControlModel" "z" "[I"] ++ wsX70)
def wsX7_told : List Cond := .code yX7_told cX7_told 3 (some .int) :: ([.constant RX7 83 (-100001), .methodLink RX7 146 yX7_isRequest, .instanceMethod yX7_isRequest, .selects RX7 yX7_isRequest yX7_isRequest, .initialized RX7, .code yX7_isRequest cX7_isRequest 2 (some .boolean), .fieldLink RX7 7 "AdmissionControlModel" "z" "[I", .methodLink RX7 22 yX7_in, .static yX7_in, .code yX7_in cX7_in 3 (some .boolean), .methodLink RX7 35 yX7_of, .instanceMethod yX7_of, .selects RX7 yX7_of yX7_of, .code yX7_of cX7_of 3 (some .int)] ++ wsX70)
def wsX7_state : List Cond := .code yX7_state cX7_state 2 (some .int) :: ([.methodLink RX7 149 yX7_told, .instanceMethod yX7_told, .selects RX7 yX7_told yX7_told, .initialized RX7, .code yX7_told cX7_told 3 (some .int), .constant RX7 83 (-100001), .methodLink RX7 146 yX7_isRequest, .instanceMethod yX7_isRequest, .selects RX7 yX7_isRequest yX7_isRequest, .code yX7_isRequest cX7_isRequest 2 (some .boolean), .fieldLink RX7 7 "AdmissionControlModel" "z" "[I", .methodLink RX7 22 yX7_in, .static yX7_in, .code yX7_in cX7_in 3 (some .boolean), .methodLink RX7 35 yX7_of, .instanceMethod yX7_of, .selects RX7 yX7_of yX7_of, .code yX7_of cX7_of 3 (some .int)] ++ wsX70)
def wsX7_price : List Cond := .code yX7_price cX7_price 2 (some .int) :: ([.methodLink RX7 149 yX7_told, .instanceMethod yX7_told, .selects RX7 yX7_told yX7_told, .initialized RX7, .code yX7_told cX7_told 3 (some .int), .constant RX7 83 (-100001), .methodLink RX7 146 yX7_isRequest, .instanceMethod yX7_isRequest, .selects RX7 yX7_isRequest yX7_isRequest, .code yX7_isRequest cX7_isRequest 2 (some .boolean), .fieldLink RX7 7 "AdmissionControlModel" "z" "[I", .methodLink RX7 22 yX7_in, .static yX7_in, .code yX7_in cX7_in 3 (some .boolean), .methodLink RX7 35 yX7_of, .instanceMethod yX7_of, .selects RX7 yX7_of yX7_of, .code yX7_of cX7_of 3 (some .int)] ++ wsX70)
def wsX7_done : List Cond := .code yX7_done cX7_done 2 (some .int) :: ([.methodLink RX7 149 yX7_told, .instanceMethod yX7_told, .selects RX7 yX7_told yX7_told, .initialized RX7, .code yX7_told cX7_told 3 (some .int), .constant RX7 83 (-100001), .methodLink RX7 146 yX7_isRequest, .instanceMethod yX7_isRequest, .selects RX7 yX7_isRequest yX7_isRequest, .code yX7_isRequest cX7_isRequest 2 (some .boolean), .fieldLink RX7 7 "AdmissionControlModel" "z" "[I", .methodLink RX7 22 yX7_in, .static yX7_in, .code yX7_in cX7_in 3 (some .boolean), .methodLink RX7 35 yX7_of, .instanceMethod yX7_of, .selects RX7 yX7_of yX7_of, .code yX7_of cX7_of 3 (some .int)] ++ wsX70)
def wsX7_offers : List Cond := .code yX7_offers cX7_offers 2 (some .int) :: ([.methodLink RX7 149 yX7_told, .instanceMethod yX7_told, .selects RX7 yX7_told yX7_told, .initialized RX7, .code yX7_told cX7_told 3 (some .int), .constant RX7 83 (-100001), .methodLink RX7 146 yX7_isRequest, .instanceMethod yX7_isRequest, .selects RX7 yX7_isRequest yX7_isRequest, .code yX7_isRequest cX7_isRequest 2 (some .boolean), .fieldLink RX7 7 "AdmissionControlModel" "z" "[I", .methodLink RX7 22 yX7_in, .static yX7_in, .code yX7_in cX7_in 3 (some .boolean), .methodLink RX7 35 yX7_of, .instanceMethod yX7_of, .selects RX7 yX7_of yX7_of, .code yX7_of cX7_of 3 (some .int)] ++ wsX70)
def wsX7_reason : List Cond := .code yX7_reason cX7_reason 2 (some .int) :: ([.methodLink RX7 149 yX7_told, .instanceMethod yX7_told, .selects RX7 yX7_told yX7_told, .initialized RX7, .code yX7_told cX7_told 3 (some .int), .constant RX7 83 (-100001), .methodLink RX7 146 yX7_isRequest, .instanceMethod yX7_isRequest, .selects RX7 yX7_isRequest yX7_isRequest, .code yX7_isRequest cX7_isRequest 2 (some .boolean), .fieldLink RX7 7 "AdmissionControlModel" "z" "[I", .methodLink RX7 22 yX7_in, .static yX7_in, .code yX7_in cX7_in 3 (some .boolean), .methodLink RX7 35 yX7_of, .instanceMethod yX7_of, .selects RX7 yX7_of yX7_of, .code yX7_of cX7_of 3 (some .int)] ++ wsX70)
def wsX7_when : List Cond := .code yX7_when cX7_when 2 (some .int) :: ([.methodLink RX7 149 yX7_told, .instanceMethod yX7_told, .selects RX7 yX7_told yX7_told, .initialized RX7, .code yX7_told cX7_told 3 (some .int), .constant RX7 83 (-100001), .methodLink RX7 146 yX7_isRequest, .instanceMethod yX7_isRequest, .selects RX7 yX7_isRequest yX7_isRequest, .code yX7_isRequest cX7_isRequest 2 (some .boolean), .fieldLink RX7 7 "AdmissionControlModel" "z" "[I", .methodLink RX7 22 yX7_in, .static yX7_in, .code yX7_in cX7_in 3 (some .boolean), .methodLink RX7 35 yX7_of, .instanceMethod yX7_of, .selects RX7 yX7_of yX7_of, .code yX7_of cX7_of 3 (some .int)] ++ wsX70)
def wsX7_wouldRefuse_r1 : List Cond := [Cond.constant RX7 83 (-100001), Cond.methodLink RX7 94 yX7_isClass, Cond.static yX7_isClass, Cond.initialized RX7, Cond.code yX7_isClass cX7_isClass 1 (some .boolean), Cond.methodLink RX7 22 yX7_in, Cond.static yX7_in, Cond.code yX7_in cX7_in 3 (some .boolean), Cond.methodLink RX7 100 yX7_isShape, Cond.static yX7_isShape, Cond.code yX7_isShape cX7_isShape 1 (some .boolean), Cond.methodLink RX7 49 yX7_expectedCost, Cond.instanceMethod yX7_expectedCost, Cond.selects RX7 yX7_expectedCost yX7_expectedCost, Cond.code yX7_expectedCost cX7_expectedCost 3 (some .int), Cond.fieldLink RX7 7 "AdmissionControlModel" "z" "[I", Cond.methodLink RX7 52 yX7_whyRefused, Cond.instanceMethod yX7_whyRefused, Cond.selects RX7 yX7_whyRefused yX7_whyRefused, Cond.code yX7_whyRefused cX7_whyRefused 5 (some .int), Cond.methodLink RX7 38 yX7_ofClass, Cond.instanceMethod yX7_ofClass, Cond.selects RX7 yX7_ofClass yX7_ofClass, Cond.code yX7_ofClass cX7_ofClass 3 (some .int)]
def wsX7_wouldRefuse_r2 : List Cond := [Cond.methodLink RX7 41 yX7_backlogOf, Cond.instanceMethod yX7_backlogOf, Cond.selects RX7 yX7_backlogOf yX7_backlogOf, Cond.code yX7_backlogOf cX7_backlogOf 5 (some .int), Cond.methodLink RX7 31 yX7_inQueue, Cond.instanceMethod yX7_inQueue, Cond.selects RX7 yX7_inQueue yX7_inQueue, Cond.code yX7_inQueue cX7_inQueue 3 (some .int), Cond.methodLink RX7 35 yX7_of, Cond.instanceMethod yX7_of, Cond.selects RX7 yX7_of yX7_of, Cond.code yX7_of cX7_of 3 (some .int)]
def wsX7_wouldRefuse : List Cond := .code yX7_wouldRefuse cX7_wouldRefuse 3 (some .int) :: ((wsX7_wouldRefuse_r1 ++ wsX7_wouldRefuse_r2) ++ wsX70)
def wsX7_inState : List Cond := .code yX7_inState cX7_inState 4 (some .int) :: ([.fieldLink RX7 7 "AdmissionControlModel" "z" "[I", .methodLink RX7 35 yX7_of, .instanceMethod yX7_of, .selects RX7 yX7_of yX7_of, .initialized RX7, .code yX7_of cX7_of 3 (some .int)] ++ wsX70)
def wsX7_isOver : List Cond := .code yX7_isOver cX7_isOver 1 (some .boolean) :: ([.fieldLink RX7 7 "AdmissionControlModel" "z" "[I", .methodLink RX7 152 yX7_inState, .instanceMethod yX7_inState, .selects RX7 yX7_inState yX7_inState, .initialized RX7, .code yX7_inState cX7_inState 4 (some .int), .methodLink RX7 35 yX7_of, .instanceMethod yX7_of, .selects RX7 yX7_of yX7_of, .code yX7_of cX7_of 3 (some .int)] ++ wsX70)
def wsX7_ticksToEnd_r1 : List Cond := [Cond.methodLink RX7 155 yX7_isOver, Cond.instanceMethod yX7_isOver, Cond.selects RX7 yX7_isOver yX7_isOver, Cond.initialized RX7, Cond.code yX7_isOver cX7_isOver 1 (some .boolean), Cond.fieldLink RX7 7 "AdmissionControlModel" "z" "[I", Cond.methodLink RX7 152 yX7_inState, Cond.instanceMethod yX7_inState, Cond.selects RX7 yX7_inState yX7_inState, Cond.code yX7_inState cX7_inState 4 (some .int), Cond.methodLink RX7 35 yX7_of, Cond.instanceMethod yX7_of, Cond.selects RX7 yX7_of yX7_of, Cond.code yX7_of cX7_of 3 (some .int), Cond.methodLink RX7 111 yX7_tick, Cond.instanceMethod yX7_tick, Cond.selects RX7 yX7_tick yX7_tick, Cond.code yX7_tick cX7_tick 4 (some .int), Cond.methodLink RX7 38 yX7_ofClass, Cond.instanceMethod yX7_ofClass, Cond.selects RX7 yX7_ofClass yX7_ofClass, Cond.code yX7_ofClass cX7_ofClass 3 (some .int), Cond.methodLink RX7 66 yX7_addTokens, Cond.instanceMethod yX7_addTokens]
def wsX7_ticksToEnd_r2 : List Cond := [Cond.selects RX7 yX7_addTokens yX7_addTokens, Cond.code yX7_addTokens cX7_addTokens 6 none, Cond.methodLink RX7 69 yX7_offerNow, Cond.instanceMethod yX7_offerNow, Cond.selects RX7 yX7_offerNow yX7_offerNow, Cond.code yX7_offerNow cX7_offerNow 3 (some .int), Cond.methodLink RX7 45 yX7_put, Cond.instanceMethod yX7_put, Cond.selects RX7 yX7_put yX7_put, Cond.code yX7_put cX7_put 4 none, Cond.methodLink RX7 49 yX7_expectedCost, Cond.instanceMethod yX7_expectedCost, Cond.selects RX7 yX7_expectedCost yX7_expectedCost, Cond.code yX7_expectedCost cX7_expectedCost 3 (some .int), Cond.methodLink RX7 52 yX7_whyRefused, Cond.instanceMethod yX7_whyRefused, Cond.selects RX7 yX7_whyRefused yX7_whyRefused, Cond.code yX7_whyRefused cX7_whyRefused 5 (some .int), Cond.methodLink RX7 41 yX7_backlogOf, Cond.instanceMethod yX7_backlogOf, Cond.selects RX7 yX7_backlogOf yX7_backlogOf, Cond.code yX7_backlogOf cX7_backlogOf 5 (some .int), Cond.methodLink RX7 31 yX7_inQueue, Cond.instanceMethod yX7_inQueue]
def wsX7_ticksToEnd_r3 : List Cond := [Cond.selects RX7 yX7_inQueue yX7_inQueue, Cond.code yX7_inQueue cX7_inQueue 3 (some .int), Cond.methodLink RX7 55 yX7_refuse, Cond.instanceMethod yX7_refuse, Cond.selects RX7 yX7_refuse yX7_refuse, Cond.code yX7_refuse cX7_refuse 5 none, Cond.constant RX7 30 (-100005), Cond.methodLink RX7 59 yX7_admit, Cond.instanceMethod yX7_admit, Cond.selects RX7 yX7_admit yX7_admit, Cond.code yX7_admit cX7_admit 6 none, Cond.methodLink RX7 72 yX7_refuseLate, Cond.instanceMethod yX7_refuseLate, Cond.selects RX7 yX7_refuseLate yX7_refuseLate, Cond.code yX7_refuseLate cX7_refuseLate 5 none, Cond.methodLink RX7 63 yX7_leaveQueue, Cond.instanceMethod yX7_leaveQueue, Cond.selects RX7 yX7_leaveQueue yX7_leaveQueue, Cond.code yX7_leaveQueue cX7_leaveQueue 4 none, Cond.methodLink RX7 75 yX7_nextClass, Cond.instanceMethod yX7_nextClass, Cond.selects RX7 yX7_nextClass yX7_nextClass, Cond.code yX7_nextClass cX7_nextClass 3 (some .int), Cond.methodLink RX7 79 yX7_work]
def wsX7_ticksToEnd_r4 : List Cond := [Cond.instanceMethod yX7_work, Cond.selects RX7 yX7_work yX7_work, Cond.code yX7_work cX7_work 5 (some .boolean)]
def wsX7_ticksToEnd : List Cond := .code yX7_ticksToEnd cX7_ticksToEnd 2 (some .int) :: ((wsX7_ticksToEnd_r1 ++ (wsX7_ticksToEnd_r2 ++ (wsX7_ticksToEnd_r3 ++ wsX7_ticksToEnd_r4))) ++ wsX70)
def wsX7_ticksWith_r1 : List Cond := [Cond.fieldLink RX7 7 "AdmissionControlModel" "z" "[I", Cond.constant RX7 30 (-100005), Cond.methodLink RX7 159 yX7_putAside, Cond.instanceMethod yX7_putAside, Cond.selects RX7 yX7_putAside yX7_putAside, Cond.initialized RX7, Cond.code yX7_putAside cX7_putAside 2 none, Cond.fieldLink RX7 13 "AdmissionControlModel" "aside" "[I", Cond.methodLink RX7 162 yX7_ticksToEnd, Cond.instanceMethod yX7_ticksToEnd, Cond.selects RX7 yX7_ticksToEnd yX7_ticksToEnd, Cond.code yX7_ticksToEnd cX7_ticksToEnd 2 (some .int), Cond.methodLink RX7 155 yX7_isOver, Cond.instanceMethod yX7_isOver, Cond.selects RX7 yX7_isOver yX7_isOver, Cond.code yX7_isOver cX7_isOver 1 (some .boolean), Cond.methodLink RX7 152 yX7_inState, Cond.instanceMethod yX7_inState, Cond.selects RX7 yX7_inState yX7_inState, Cond.code yX7_inState cX7_inState 4 (some .int), Cond.methodLink RX7 35 yX7_of, Cond.instanceMethod yX7_of, Cond.selects RX7 yX7_of yX7_of, Cond.code yX7_of cX7_of 3 (some .int)]
def wsX7_ticksWith_r2 : List Cond := [Cond.methodLink RX7 111 yX7_tick, Cond.instanceMethod yX7_tick, Cond.selects RX7 yX7_tick yX7_tick, Cond.code yX7_tick cX7_tick 4 (some .int), Cond.methodLink RX7 38 yX7_ofClass, Cond.instanceMethod yX7_ofClass, Cond.selects RX7 yX7_ofClass yX7_ofClass, Cond.code yX7_ofClass cX7_ofClass 3 (some .int), Cond.methodLink RX7 66 yX7_addTokens, Cond.instanceMethod yX7_addTokens, Cond.selects RX7 yX7_addTokens yX7_addTokens, Cond.code yX7_addTokens cX7_addTokens 6 none, Cond.methodLink RX7 69 yX7_offerNow, Cond.instanceMethod yX7_offerNow, Cond.selects RX7 yX7_offerNow yX7_offerNow, Cond.code yX7_offerNow cX7_offerNow 3 (some .int), Cond.methodLink RX7 45 yX7_put, Cond.instanceMethod yX7_put, Cond.selects RX7 yX7_put yX7_put, Cond.code yX7_put cX7_put 4 none, Cond.methodLink RX7 49 yX7_expectedCost, Cond.instanceMethod yX7_expectedCost, Cond.selects RX7 yX7_expectedCost yX7_expectedCost, Cond.code yX7_expectedCost cX7_expectedCost 3 (some .int)]
def wsX7_ticksWith_r3 : List Cond := [Cond.methodLink RX7 52 yX7_whyRefused, Cond.instanceMethod yX7_whyRefused, Cond.selects RX7 yX7_whyRefused yX7_whyRefused, Cond.code yX7_whyRefused cX7_whyRefused 5 (some .int), Cond.methodLink RX7 41 yX7_backlogOf, Cond.instanceMethod yX7_backlogOf, Cond.selects RX7 yX7_backlogOf yX7_backlogOf, Cond.code yX7_backlogOf cX7_backlogOf 5 (some .int), Cond.methodLink RX7 31 yX7_inQueue, Cond.instanceMethod yX7_inQueue, Cond.selects RX7 yX7_inQueue yX7_inQueue, Cond.code yX7_inQueue cX7_inQueue 3 (some .int), Cond.methodLink RX7 55 yX7_refuse, Cond.instanceMethod yX7_refuse, Cond.selects RX7 yX7_refuse yX7_refuse, Cond.code yX7_refuse cX7_refuse 5 none, Cond.methodLink RX7 59 yX7_admit, Cond.instanceMethod yX7_admit, Cond.selects RX7 yX7_admit yX7_admit, Cond.code yX7_admit cX7_admit 6 none, Cond.methodLink RX7 72 yX7_refuseLate, Cond.instanceMethod yX7_refuseLate, Cond.selects RX7 yX7_refuseLate yX7_refuseLate, Cond.code yX7_refuseLate cX7_refuseLate 5 none]
def wsX7_ticksWith_r4 : List Cond := [Cond.methodLink RX7 63 yX7_leaveQueue, Cond.instanceMethod yX7_leaveQueue, Cond.selects RX7 yX7_leaveQueue yX7_leaveQueue, Cond.code yX7_leaveQueue cX7_leaveQueue 4 none, Cond.methodLink RX7 75 yX7_nextClass, Cond.instanceMethod yX7_nextClass, Cond.selects RX7 yX7_nextClass yX7_nextClass, Cond.code yX7_nextClass cX7_nextClass 3 (some .int), Cond.methodLink RX7 79 yX7_work, Cond.instanceMethod yX7_work, Cond.selects RX7 yX7_work yX7_work, Cond.code yX7_work cX7_work 5 (some .boolean), Cond.methodLink RX7 165 yX7_putBack, Cond.instanceMethod yX7_putBack, Cond.selects RX7 yX7_putBack yX7_putBack, Cond.code yX7_putBack cX7_putBack 2 none]
def wsX7_ticksWith : List Cond := .code yX7_ticksWith cX7_ticksWith 3 (some .int) :: ((wsX7_ticksWith_r1 ++ (wsX7_ticksWith_r2 ++ (wsX7_ticksWith_r3 ++ wsX7_ticksWith_r4))) ++ wsX70)
def wsX7_ticksLeft_r1 : List Cond := [Cond.fieldLink RX7 7 "AdmissionControlModel" "z" "[I", Cond.methodLink RX7 168 yX7_ticksWith, Cond.instanceMethod yX7_ticksWith, Cond.selects RX7 yX7_ticksWith yX7_ticksWith, Cond.initialized RX7, Cond.code yX7_ticksWith cX7_ticksWith 3 (some .int), Cond.constant RX7 30 (-100005), Cond.methodLink RX7 159 yX7_putAside, Cond.instanceMethod yX7_putAside, Cond.selects RX7 yX7_putAside yX7_putAside, Cond.code yX7_putAside cX7_putAside 2 none, Cond.fieldLink RX7 13 "AdmissionControlModel" "aside" "[I", Cond.methodLink RX7 162 yX7_ticksToEnd, Cond.instanceMethod yX7_ticksToEnd, Cond.selects RX7 yX7_ticksToEnd yX7_ticksToEnd, Cond.code yX7_ticksToEnd cX7_ticksToEnd 2 (some .int), Cond.methodLink RX7 155 yX7_isOver, Cond.instanceMethod yX7_isOver, Cond.selects RX7 yX7_isOver yX7_isOver, Cond.code yX7_isOver cX7_isOver 1 (some .boolean), Cond.methodLink RX7 152 yX7_inState, Cond.instanceMethod yX7_inState, Cond.selects RX7 yX7_inState yX7_inState, Cond.code yX7_inState cX7_inState 4 (some .int)]
def wsX7_ticksLeft_r2 : List Cond := [Cond.methodLink RX7 35 yX7_of, Cond.instanceMethod yX7_of, Cond.selects RX7 yX7_of yX7_of, Cond.code yX7_of cX7_of 3 (some .int), Cond.methodLink RX7 111 yX7_tick, Cond.instanceMethod yX7_tick, Cond.selects RX7 yX7_tick yX7_tick, Cond.code yX7_tick cX7_tick 4 (some .int), Cond.methodLink RX7 38 yX7_ofClass, Cond.instanceMethod yX7_ofClass, Cond.selects RX7 yX7_ofClass yX7_ofClass, Cond.code yX7_ofClass cX7_ofClass 3 (some .int), Cond.methodLink RX7 66 yX7_addTokens, Cond.instanceMethod yX7_addTokens, Cond.selects RX7 yX7_addTokens yX7_addTokens, Cond.code yX7_addTokens cX7_addTokens 6 none, Cond.methodLink RX7 69 yX7_offerNow, Cond.instanceMethod yX7_offerNow, Cond.selects RX7 yX7_offerNow yX7_offerNow, Cond.code yX7_offerNow cX7_offerNow 3 (some .int), Cond.methodLink RX7 45 yX7_put, Cond.instanceMethod yX7_put, Cond.selects RX7 yX7_put yX7_put, Cond.code yX7_put cX7_put 4 none]
def wsX7_ticksLeft_r3 : List Cond := [Cond.methodLink RX7 49 yX7_expectedCost, Cond.instanceMethod yX7_expectedCost, Cond.selects RX7 yX7_expectedCost yX7_expectedCost, Cond.code yX7_expectedCost cX7_expectedCost 3 (some .int), Cond.methodLink RX7 52 yX7_whyRefused, Cond.instanceMethod yX7_whyRefused, Cond.selects RX7 yX7_whyRefused yX7_whyRefused, Cond.code yX7_whyRefused cX7_whyRefused 5 (some .int), Cond.methodLink RX7 41 yX7_backlogOf, Cond.instanceMethod yX7_backlogOf, Cond.selects RX7 yX7_backlogOf yX7_backlogOf, Cond.code yX7_backlogOf cX7_backlogOf 5 (some .int), Cond.methodLink RX7 31 yX7_inQueue, Cond.instanceMethod yX7_inQueue, Cond.selects RX7 yX7_inQueue yX7_inQueue, Cond.code yX7_inQueue cX7_inQueue 3 (some .int), Cond.methodLink RX7 55 yX7_refuse, Cond.instanceMethod yX7_refuse, Cond.selects RX7 yX7_refuse yX7_refuse, Cond.code yX7_refuse cX7_refuse 5 none, Cond.methodLink RX7 59 yX7_admit, Cond.instanceMethod yX7_admit, Cond.selects RX7 yX7_admit yX7_admit, Cond.code yX7_admit cX7_admit 6 none]
def wsX7_ticksLeft_r4 : List Cond := [Cond.methodLink RX7 72 yX7_refuseLate, Cond.instanceMethod yX7_refuseLate, Cond.selects RX7 yX7_refuseLate yX7_refuseLate, Cond.code yX7_refuseLate cX7_refuseLate 5 none, Cond.methodLink RX7 63 yX7_leaveQueue, Cond.instanceMethod yX7_leaveQueue, Cond.selects RX7 yX7_leaveQueue yX7_leaveQueue, Cond.code yX7_leaveQueue cX7_leaveQueue 4 none, Cond.methodLink RX7 75 yX7_nextClass, Cond.instanceMethod yX7_nextClass, Cond.selects RX7 yX7_nextClass yX7_nextClass, Cond.code yX7_nextClass cX7_nextClass 3 (some .int), Cond.methodLink RX7 79 yX7_work, Cond.instanceMethod yX7_work, Cond.selects RX7 yX7_work yX7_work, Cond.code yX7_work cX7_work 5 (some .boolean), Cond.methodLink RX7 165 yX7_putBack, Cond.instanceMethod yX7_putBack, Cond.selects RX7 yX7_putBack yX7_putBack, Cond.code yX7_putBack cX7_putBack 2 none]
def wsX7_ticksLeft : List Cond := .code yX7_ticksLeft cX7_ticksLeft 1 (some .int) :: ((wsX7_ticksLeft_r1 ++ (wsX7_ticksLeft_r2 ++ (wsX7_ticksLeft_r3 ++ wsX7_ticksLeft_r4))) ++ wsX70)
def wsX7_ticksIf_r1 : List Cond := [Cond.constant RX7 90 (-100002), Cond.methodLink RX7 22 yX7_in, Cond.static yX7_in, Cond.initialized RX7, Cond.code yX7_in cX7_in 3 (some .boolean), Cond.methodLink RX7 168 yX7_ticksWith, Cond.instanceMethod yX7_ticksWith, Cond.selects RX7 yX7_ticksWith yX7_ticksWith, Cond.code yX7_ticksWith cX7_ticksWith 3 (some .int), Cond.fieldLink RX7 7 "AdmissionControlModel" "z" "[I", Cond.constant RX7 30 (-100005), Cond.methodLink RX7 159 yX7_putAside, Cond.instanceMethod yX7_putAside, Cond.selects RX7 yX7_putAside yX7_putAside, Cond.code yX7_putAside cX7_putAside 2 none, Cond.fieldLink RX7 13 "AdmissionControlModel" "aside" "[I", Cond.methodLink RX7 162 yX7_ticksToEnd, Cond.instanceMethod yX7_ticksToEnd, Cond.selects RX7 yX7_ticksToEnd yX7_ticksToEnd, Cond.code yX7_ticksToEnd cX7_ticksToEnd 2 (some .int), Cond.methodLink RX7 155 yX7_isOver, Cond.instanceMethod yX7_isOver, Cond.selects RX7 yX7_isOver yX7_isOver, Cond.code yX7_isOver cX7_isOver 1 (some .boolean)]
def wsX7_ticksIf_r2 : List Cond := [Cond.methodLink RX7 152 yX7_inState, Cond.instanceMethod yX7_inState, Cond.selects RX7 yX7_inState yX7_inState, Cond.code yX7_inState cX7_inState 4 (some .int), Cond.methodLink RX7 35 yX7_of, Cond.instanceMethod yX7_of, Cond.selects RX7 yX7_of yX7_of, Cond.code yX7_of cX7_of 3 (some .int), Cond.methodLink RX7 111 yX7_tick, Cond.instanceMethod yX7_tick, Cond.selects RX7 yX7_tick yX7_tick, Cond.code yX7_tick cX7_tick 4 (some .int), Cond.methodLink RX7 38 yX7_ofClass, Cond.instanceMethod yX7_ofClass, Cond.selects RX7 yX7_ofClass yX7_ofClass, Cond.code yX7_ofClass cX7_ofClass 3 (some .int), Cond.methodLink RX7 66 yX7_addTokens, Cond.instanceMethod yX7_addTokens, Cond.selects RX7 yX7_addTokens yX7_addTokens, Cond.code yX7_addTokens cX7_addTokens 6 none, Cond.methodLink RX7 69 yX7_offerNow, Cond.instanceMethod yX7_offerNow, Cond.selects RX7 yX7_offerNow yX7_offerNow, Cond.code yX7_offerNow cX7_offerNow 3 (some .int)]
def wsX7_ticksIf_r3 : List Cond := [Cond.methodLink RX7 45 yX7_put, Cond.instanceMethod yX7_put, Cond.selects RX7 yX7_put yX7_put, Cond.code yX7_put cX7_put 4 none, Cond.methodLink RX7 49 yX7_expectedCost, Cond.instanceMethod yX7_expectedCost, Cond.selects RX7 yX7_expectedCost yX7_expectedCost, Cond.code yX7_expectedCost cX7_expectedCost 3 (some .int), Cond.methodLink RX7 52 yX7_whyRefused, Cond.instanceMethod yX7_whyRefused, Cond.selects RX7 yX7_whyRefused yX7_whyRefused, Cond.code yX7_whyRefused cX7_whyRefused 5 (some .int), Cond.methodLink RX7 41 yX7_backlogOf, Cond.instanceMethod yX7_backlogOf, Cond.selects RX7 yX7_backlogOf yX7_backlogOf, Cond.code yX7_backlogOf cX7_backlogOf 5 (some .int), Cond.methodLink RX7 31 yX7_inQueue, Cond.instanceMethod yX7_inQueue, Cond.selects RX7 yX7_inQueue yX7_inQueue, Cond.code yX7_inQueue cX7_inQueue 3 (some .int), Cond.methodLink RX7 55 yX7_refuse, Cond.instanceMethod yX7_refuse, Cond.selects RX7 yX7_refuse yX7_refuse, Cond.code yX7_refuse cX7_refuse 5 none]
def wsX7_ticksIf_r4 : List Cond := [Cond.methodLink RX7 59 yX7_admit, Cond.instanceMethod yX7_admit, Cond.selects RX7 yX7_admit yX7_admit, Cond.code yX7_admit cX7_admit 6 none, Cond.methodLink RX7 72 yX7_refuseLate, Cond.instanceMethod yX7_refuseLate, Cond.selects RX7 yX7_refuseLate yX7_refuseLate, Cond.code yX7_refuseLate cX7_refuseLate 5 none, Cond.methodLink RX7 63 yX7_leaveQueue, Cond.instanceMethod yX7_leaveQueue, Cond.selects RX7 yX7_leaveQueue yX7_leaveQueue, Cond.code yX7_leaveQueue cX7_leaveQueue 4 none, Cond.methodLink RX7 75 yX7_nextClass, Cond.instanceMethod yX7_nextClass, Cond.selects RX7 yX7_nextClass yX7_nextClass, Cond.code yX7_nextClass cX7_nextClass 3 (some .int), Cond.methodLink RX7 79 yX7_work, Cond.instanceMethod yX7_work, Cond.selects RX7 yX7_work yX7_work, Cond.code yX7_work cX7_work 5 (some .boolean), Cond.methodLink RX7 165 yX7_putBack, Cond.instanceMethod yX7_putBack, Cond.selects RX7 yX7_putBack yX7_putBack, Cond.code yX7_putBack cX7_putBack 2 none]
def wsX7_ticksIf : List Cond := .code yX7_ticksIf cX7_ticksIf 2 (some .int) :: ((wsX7_ticksIf_r1 ++ (wsX7_ticksIf_r2 ++ (wsX7_ticksIf_r3 ++ wsX7_ticksIf_r4))) ++ wsX70)
def wsX7_leastCapacity_r1 : List Cond := [Cond.constant RX7 30 (-100005), Cond.fieldLink RX7 7 "AdmissionControlModel" "z" "[I", Cond.methodLink RX7 159 yX7_putAside, Cond.instanceMethod yX7_putAside, Cond.selects RX7 yX7_putAside yX7_putAside, Cond.initialized RX7, Cond.code yX7_putAside cX7_putAside 2 none, Cond.fieldLink RX7 13 "AdmissionControlModel" "aside" "[I", Cond.methodLink RX7 152 yX7_inState, Cond.instanceMethod yX7_inState, Cond.selects RX7 yX7_inState yX7_inState, Cond.code yX7_inState cX7_inState 4 (some .int), Cond.methodLink RX7 35 yX7_of, Cond.instanceMethod yX7_of, Cond.selects RX7 yX7_of yX7_of, Cond.code yX7_of cX7_of 3 (some .int), Cond.methodLink RX7 162 yX7_ticksToEnd, Cond.instanceMethod yX7_ticksToEnd, Cond.selects RX7 yX7_ticksToEnd yX7_ticksToEnd, Cond.code yX7_ticksToEnd cX7_ticksToEnd 2 (some .int), Cond.methodLink RX7 155 yX7_isOver, Cond.instanceMethod yX7_isOver, Cond.selects RX7 yX7_isOver yX7_isOver, Cond.code yX7_isOver cX7_isOver 1 (some .boolean)]
def wsX7_leastCapacity_r2 : List Cond := [Cond.methodLink RX7 111 yX7_tick, Cond.instanceMethod yX7_tick, Cond.selects RX7 yX7_tick yX7_tick, Cond.code yX7_tick cX7_tick 4 (some .int), Cond.methodLink RX7 38 yX7_ofClass, Cond.instanceMethod yX7_ofClass, Cond.selects RX7 yX7_ofClass yX7_ofClass, Cond.code yX7_ofClass cX7_ofClass 3 (some .int), Cond.methodLink RX7 66 yX7_addTokens, Cond.instanceMethod yX7_addTokens, Cond.selects RX7 yX7_addTokens yX7_addTokens, Cond.code yX7_addTokens cX7_addTokens 6 none, Cond.methodLink RX7 69 yX7_offerNow, Cond.instanceMethod yX7_offerNow, Cond.selects RX7 yX7_offerNow yX7_offerNow, Cond.code yX7_offerNow cX7_offerNow 3 (some .int), Cond.methodLink RX7 45 yX7_put, Cond.instanceMethod yX7_put, Cond.selects RX7 yX7_put yX7_put, Cond.code yX7_put cX7_put 4 none, Cond.methodLink RX7 49 yX7_expectedCost, Cond.instanceMethod yX7_expectedCost, Cond.selects RX7 yX7_expectedCost yX7_expectedCost, Cond.code yX7_expectedCost cX7_expectedCost 3 (some .int)]
def wsX7_leastCapacity_r3 : List Cond := [Cond.methodLink RX7 52 yX7_whyRefused, Cond.instanceMethod yX7_whyRefused, Cond.selects RX7 yX7_whyRefused yX7_whyRefused, Cond.code yX7_whyRefused cX7_whyRefused 5 (some .int), Cond.methodLink RX7 41 yX7_backlogOf, Cond.instanceMethod yX7_backlogOf, Cond.selects RX7 yX7_backlogOf yX7_backlogOf, Cond.code yX7_backlogOf cX7_backlogOf 5 (some .int), Cond.methodLink RX7 31 yX7_inQueue, Cond.instanceMethod yX7_inQueue, Cond.selects RX7 yX7_inQueue yX7_inQueue, Cond.code yX7_inQueue cX7_inQueue 3 (some .int), Cond.methodLink RX7 55 yX7_refuse, Cond.instanceMethod yX7_refuse, Cond.selects RX7 yX7_refuse yX7_refuse, Cond.code yX7_refuse cX7_refuse 5 none, Cond.methodLink RX7 59 yX7_admit, Cond.instanceMethod yX7_admit, Cond.selects RX7 yX7_admit yX7_admit, Cond.code yX7_admit cX7_admit 6 none, Cond.methodLink RX7 72 yX7_refuseLate, Cond.instanceMethod yX7_refuseLate, Cond.selects RX7 yX7_refuseLate yX7_refuseLate, Cond.code yX7_refuseLate cX7_refuseLate 5 none]
def wsX7_leastCapacity_r4 : List Cond := [Cond.methodLink RX7 63 yX7_leaveQueue, Cond.instanceMethod yX7_leaveQueue, Cond.selects RX7 yX7_leaveQueue yX7_leaveQueue, Cond.code yX7_leaveQueue cX7_leaveQueue 4 none, Cond.methodLink RX7 75 yX7_nextClass, Cond.instanceMethod yX7_nextClass, Cond.selects RX7 yX7_nextClass yX7_nextClass, Cond.code yX7_nextClass cX7_nextClass 3 (some .int), Cond.methodLink RX7 79 yX7_work, Cond.instanceMethod yX7_work, Cond.selects RX7 yX7_work yX7_work, Cond.code yX7_work cX7_work 5 (some .boolean), Cond.methodLink RX7 165 yX7_putBack, Cond.instanceMethod yX7_putBack, Cond.selects RX7 yX7_putBack yX7_putBack, Cond.code yX7_putBack cX7_putBack 2 none]
def wsX7_leastCapacity : List Cond := .code yX7_leastCapacity cX7_leastCapacity 5 (some .int) :: ((wsX7_leastCapacity_r1 ++ (wsX7_leastCapacity_r2 ++ (wsX7_leastCapacity_r3 ++ wsX7_leastCapacity_r4))) ++ wsX70)
def wsX7_finish_r1 : List Cond := [Cond.constant RX7 83 (-100001), Cond.constant RX7 30 (-100005), Cond.methodLink RX7 146 yX7_isRequest, Cond.instanceMethod yX7_isRequest, Cond.selects RX7 yX7_isRequest yX7_isRequest, Cond.initialized RX7, Cond.code yX7_isRequest cX7_isRequest 2 (some .boolean), Cond.fieldLink RX7 7 "AdmissionControlModel" "z" "[I", Cond.methodLink RX7 22 yX7_in, Cond.static yX7_in, Cond.code yX7_in cX7_in 3 (some .boolean), Cond.methodLink RX7 159 yX7_putAside, Cond.instanceMethod yX7_putAside, Cond.selects RX7 yX7_putAside yX7_putAside, Cond.code yX7_putAside cX7_putAside 2 none, Cond.fieldLink RX7 13 "AdmissionControlModel" "aside" "[I", Cond.methodLink RX7 35 yX7_of, Cond.instanceMethod yX7_of, Cond.selects RX7 yX7_of yX7_of, Cond.code yX7_of cX7_of 3 (some .int), Cond.methodLink RX7 111 yX7_tick, Cond.instanceMethod yX7_tick, Cond.selects RX7 yX7_tick yX7_tick, Cond.code yX7_tick cX7_tick 4 (some .int)]
def wsX7_finish_r2 : List Cond := [Cond.methodLink RX7 38 yX7_ofClass, Cond.instanceMethod yX7_ofClass, Cond.selects RX7 yX7_ofClass yX7_ofClass, Cond.code yX7_ofClass cX7_ofClass 3 (some .int), Cond.methodLink RX7 66 yX7_addTokens, Cond.instanceMethod yX7_addTokens, Cond.selects RX7 yX7_addTokens yX7_addTokens, Cond.code yX7_addTokens cX7_addTokens 6 none, Cond.methodLink RX7 69 yX7_offerNow, Cond.instanceMethod yX7_offerNow, Cond.selects RX7 yX7_offerNow yX7_offerNow, Cond.code yX7_offerNow cX7_offerNow 3 (some .int), Cond.methodLink RX7 45 yX7_put, Cond.instanceMethod yX7_put, Cond.selects RX7 yX7_put yX7_put, Cond.code yX7_put cX7_put 4 none, Cond.methodLink RX7 49 yX7_expectedCost, Cond.instanceMethod yX7_expectedCost, Cond.selects RX7 yX7_expectedCost yX7_expectedCost, Cond.code yX7_expectedCost cX7_expectedCost 3 (some .int), Cond.methodLink RX7 52 yX7_whyRefused, Cond.instanceMethod yX7_whyRefused, Cond.selects RX7 yX7_whyRefused yX7_whyRefused, Cond.code yX7_whyRefused cX7_whyRefused 5 (some .int)]
def wsX7_finish_r3 : List Cond := [Cond.methodLink RX7 41 yX7_backlogOf, Cond.instanceMethod yX7_backlogOf, Cond.selects RX7 yX7_backlogOf yX7_backlogOf, Cond.code yX7_backlogOf cX7_backlogOf 5 (some .int), Cond.methodLink RX7 31 yX7_inQueue, Cond.instanceMethod yX7_inQueue, Cond.selects RX7 yX7_inQueue yX7_inQueue, Cond.code yX7_inQueue cX7_inQueue 3 (some .int), Cond.methodLink RX7 55 yX7_refuse, Cond.instanceMethod yX7_refuse, Cond.selects RX7 yX7_refuse yX7_refuse, Cond.code yX7_refuse cX7_refuse 5 none, Cond.methodLink RX7 59 yX7_admit, Cond.instanceMethod yX7_admit, Cond.selects RX7 yX7_admit yX7_admit, Cond.code yX7_admit cX7_admit 6 none, Cond.methodLink RX7 72 yX7_refuseLate, Cond.instanceMethod yX7_refuseLate, Cond.selects RX7 yX7_refuseLate yX7_refuseLate, Cond.code yX7_refuseLate cX7_refuseLate 5 none, Cond.methodLink RX7 63 yX7_leaveQueue, Cond.instanceMethod yX7_leaveQueue, Cond.selects RX7 yX7_leaveQueue yX7_leaveQueue, Cond.code yX7_leaveQueue cX7_leaveQueue 4 none]
def wsX7_finish_r4 : List Cond := [Cond.methodLink RX7 75 yX7_nextClass, Cond.instanceMethod yX7_nextClass, Cond.selects RX7 yX7_nextClass yX7_nextClass, Cond.code yX7_nextClass cX7_nextClass 3 (some .int), Cond.methodLink RX7 79 yX7_work, Cond.instanceMethod yX7_work, Cond.selects RX7 yX7_work yX7_work, Cond.code yX7_work cX7_work 5 (some .boolean), Cond.methodLink RX7 165 yX7_putBack, Cond.instanceMethod yX7_putBack, Cond.selects RX7 yX7_putBack yX7_putBack, Cond.code yX7_putBack cX7_putBack 2 none]
def wsX7_finish : List Cond := .code yX7_finish cX7_finish 3 (some .int) :: ((wsX7_finish_r1 ++ (wsX7_finish_r2 ++ (wsX7_finish_r3 ++ wsX7_finish_r4))) ++ wsX70)
def wsJ9_max_7cf53 : List Cond := .code yJ9_max_7cf53 cJ9_max_7cf53 2 (some .int) :: ([])
def wsJ9_min_7cf53 : List Cond := .code yJ9_min_7cf53 cJ9_min_7cf53 2 (some .int) :: ([])
end
section
set_option maxRecDepth 20000 in
theorem ggX0_init_X4_init : GoodIn wsX0_init wsX4_init := goodIn_r _ [14, 15, 2, 3, 16, 17, 18, 19, 20, 21, 22, 23, 24, 25, 26, 27, 28, 29, 30, 31, 32, 33, 34, 35, 36, 37, 38, 39, 40, 41, 42, 43, 44, 45, 46, 47, 48, 49, 50, 51, 52, 53, 54, 55, 56, 57, 58, 59, 60, 61, 62, 63, 64, 81, 65, 66, 67, 68, 69, 70, 71, 72, 73, 74, 75, 82, 83, 84, 85, 86, 87, 88, 89, 90, 91, 92, 93, 94, 95, 96, 97, 98, 99] (by decide +kernel) (by decide +kernel)
set_option maxRecDepth 20000 in
theorem gX0_init_X4_init : GoodIn wsX0_init (wsX4_init) := ggX0_init_X4_init
theorem dX0_init_0 : decode cX0_init 0 = .ok (.aload_n 0, 1) := by decide +kernel
theorem dX0_init_1 : decode cX0_init 1 = .ok (.invokespecial 3, 3) := by decide +kernel
theorem dX0_init_4 : decode cX0_init 4 = .ok (.aload_n 0, 1) := by decide +kernel
theorem dX0_init_5 : decode cX0_init 5 = .ok (.new 9, 3) := by decide +kernel
theorem dX0_init_8 : decode cX0_init 8 = .ok (.dup, 1) := by decide +kernel
theorem dX0_init_9 : decode cX0_init 9 = .ok (.invokespecial 11, 3) := by decide +kernel
theorem dX0_init_12 : decode cX0_init 12 = .ok (.putfield 12, 3) := by decide +kernel
theorem dX0_init_15 : decode cX0_init 15 = .ok (.aload_n 0, 1) := by decide +kernel
theorem dX0_init_16 : decode cX0_init 16 = .ok (.new 9, 3) := by decide +kernel
theorem dX0_init_19 : decode cX0_init 19 = .ok (.dup, 1) := by decide +kernel
theorem dX0_init_20 : decode cX0_init 20 = .ok (.invokespecial 11, 3) := by decide +kernel
theorem dX0_init_23 : decode cX0_init 23 = .ok (.putfield 18, 3) := by decide +kernel
theorem dX0_init_26 : decode cX0_init 26 = .ok (.aload_n 0, 1) := by decide +kernel
theorem dX0_init_27 : decode cX0_init 27 = .ok (.new 9, 3) := by decide +kernel
theorem dX0_init_30 : decode cX0_init 30 = .ok (.dup, 1) := by decide +kernel
theorem dX0_init_31 : decode cX0_init 31 = .ok (.invokespecial 11, 3) := by decide +kernel
theorem dX0_init_34 : decode cX0_init 34 = .ok (.putfield 21, 3) := by decide +kernel
theorem dX0_init_37 : decode cX0_init 37 = .ok (.aload_n 0, 1) := by decide +kernel
theorem dX0_init_38 : decode cX0_init 38 = .ok (.new 9, 3) := by decide +kernel
theorem dX0_init_41 : decode cX0_init 41 = .ok (.dup, 1) := by decide +kernel
theorem dX0_init_42 : decode cX0_init 42 = .ok (.invokespecial 11, 3) := by decide +kernel
theorem dX0_init_45 : decode cX0_init 45 = .ok (.putfield 24, 3) := by decide +kernel
theorem dX0_init_48 : decode cX0_init 48 = .ok (.aload_n 0, 1) := by decide +kernel
theorem dX0_init_49 : decode cX0_init 49 = .ok (.iconst 0, 1) := by decide +kernel
theorem dX0_init_50 : decode cX0_init 50 = .ok (.putfield 27, 3) := by decide +kernel
theorem dX0_init_53 : decode cX0_init 53 = .ok (.return_, 1) := by decide +kernel
set_option maxRecDepth 20000 in
theorem ggX0_keep_X4_copyFrom : GoodIn wsX0_keep wsX4_copyFrom := goodIn_r _ [14, 15, 16, 17, 18, 19, 20, 21, 22, 23, 24, 25, 26, 27, 28, 29, 30, 31, 32, 33, 34, 35, 36, 37, 38, 39, 40, 41, 42, 43, 44, 45, 46, 13, 47, 48, 49, 50, 51, 52, 53, 54, 55, 56, 57, 58, 59, 60, 61, 62, 63, 69, 70, 71, 72, 73, 74, 75, 76, 77, 78, 79, 80, 81, 82, 83, 84, 85, 86, 87, 88, 89, 90, 91, 92, 93, 94, 95, 96, 97, 98] (by decide +kernel) (by decide +kernel)
set_option maxRecDepth 20000 in
theorem gX0_keep_X4_copyFrom : GoodIn wsX0_keep (wsV RX0 31 RX4 yX4_copyFrom wsX4_copyFrom) := goodIn_app (goodIn_of _ (by decide +kernel)) ggX0_keep_X4_copyFrom
theorem dX0_keep_0 : decode cX0_keep 0 = .ok (.aload_n 0, 1) := by decide +kernel
theorem dX0_keep_1 : decode cX0_keep 1 = .ok (.getfield 24, 3) := by decide +kernel
theorem dX0_keep_4 : decode cX0_keep 4 = .ok (.astore_n 2, 1) := by decide +kernel
theorem dX0_keep_5 : decode cX0_keep 5 = .ok (.aload_n 0, 1) := by decide +kernel
theorem dX0_keep_6 : decode cX0_keep 6 = .ok (.aload_n 0, 1) := by decide +kernel
theorem dX0_keep_7 : decode cX0_keep 7 = .ok (.getfield 21, 3) := by decide +kernel
theorem dX0_keep_10 : decode cX0_keep 10 = .ok (.putfield 24, 3) := by decide +kernel
theorem dX0_keep_13 : decode cX0_keep 13 = .ok (.aload_n 0, 1) := by decide +kernel
theorem dX0_keep_14 : decode cX0_keep 14 = .ok (.aload_n 0, 1) := by decide +kernel
theorem dX0_keep_15 : decode cX0_keep 15 = .ok (.getfield 18, 3) := by decide +kernel
theorem dX0_keep_18 : decode cX0_keep 18 = .ok (.putfield 21, 3) := by decide +kernel
theorem dX0_keep_21 : decode cX0_keep 21 = .ok (.aload_n 0, 1) := by decide +kernel
theorem dX0_keep_22 : decode cX0_keep 22 = .ok (.aload_n 0, 1) := by decide +kernel
theorem dX0_keep_23 : decode cX0_keep 23 = .ok (.getfield 12, 3) := by decide +kernel
theorem dX0_keep_26 : decode cX0_keep 26 = .ok (.putfield 18, 3) := by decide +kernel
theorem dX0_keep_29 : decode cX0_keep 29 = .ok (.aload_n 0, 1) := by decide +kernel
theorem dX0_keep_30 : decode cX0_keep 30 = .ok (.aload_n 2, 1) := by decide +kernel
theorem dX0_keep_31 : decode cX0_keep 31 = .ok (.putfield 12, 3) := by decide +kernel
theorem dX0_keep_34 : decode cX0_keep 34 = .ok (.aload_n 0, 1) := by decide +kernel
theorem dX0_keep_35 : decode cX0_keep 35 = .ok (.getfield 12, 3) := by decide +kernel
theorem dX0_keep_38 : decode cX0_keep 38 = .ok (.aload_n 1, 1) := by decide +kernel
theorem dX0_keep_39 : decode cX0_keep 39 = .ok (.invokevirtual 31, 3) := by decide +kernel
theorem dX0_keep_42 : decode cX0_keep 42 = .ok (.aload_n 0, 1) := by decide +kernel
theorem dX0_keep_43 : decode cX0_keep 43 = .ok (.aload_n 0, 1) := by decide +kernel
theorem dX0_keep_44 : decode cX0_keep 44 = .ok (.getfield 27, 3) := by decide +kernel
theorem dX0_keep_47 : decode cX0_keep 47 = .ok (.iconst 1, 1) := by decide +kernel
theorem dX0_keep_48 : decode cX0_keep 48 = .ok (.iadd, 1) := by decide +kernel
theorem dX0_keep_49 : decode cX0_keep 49 = .ok (.iconst 4, 1) := by decide +kernel
theorem dX0_keep_50 : decode cX0_keep 50 = .ok (.invokestatic 35, 3) := by decide +kernel
theorem dX0_keep_53 : decode cX0_keep 53 = .ok (.putfield 27, 3) := by decide +kernel
theorem dX0_keep_56 : decode cX0_keep 56 = .ok (.return_, 1) := by decide +kernel
set_option maxRecDepth 20000 in
theorem ggX0_restore_X4_copyFrom : GoodIn wsX0_restore wsX4_copyFrom := goodIn_r _ [14, 15, 16, 17, 18, 19, 20, 21, 22, 23, 24, 25, 26, 27, 28, 29, 30, 31, 32, 33, 34, 35, 36, 37, 38, 39, 40, 41, 42, 43, 44, 45, 46, 13, 47, 48, 49, 50, 51, 52, 53, 54, 55, 56, 57, 58, 59, 60, 61, 62, 63, 69, 70, 71, 72, 73, 74, 75, 76, 77, 78, 79, 80, 81, 82, 83, 84, 85, 86, 87, 88, 89, 90, 91, 92, 93, 94, 95, 96, 97, 98] (by decide +kernel) (by decide +kernel)
set_option maxRecDepth 20000 in
theorem gX0_restore_X4_copyFrom : GoodIn wsX0_restore (wsV RX0 31 RX4 yX4_copyFrom wsX4_copyFrom) := goodIn_app (goodIn_of _ (by decide +kernel)) ggX0_restore_X4_copyFrom
theorem dX0_restore_0 : decode cX0_restore 0 = .ok (.aload_n 1, 1) := by decide +kernel
theorem dX0_restore_1 : decode cX0_restore 1 = .ok (.aload_n 0, 1) := by decide +kernel
theorem dX0_restore_2 : decode cX0_restore 2 = .ok (.getfield 12, 3) := by decide +kernel
theorem dX0_restore_5 : decode cX0_restore 5 = .ok (.invokevirtual 31, 3) := by decide +kernel
theorem dX0_restore_8 : decode cX0_restore 8 = .ok (.aload_n 0, 1) := by decide +kernel
theorem dX0_restore_9 : decode cX0_restore 9 = .ok (.getfield 12, 3) := by decide +kernel
theorem dX0_restore_12 : decode cX0_restore 12 = .ok (.astore_n 2, 1) := by decide +kernel
theorem dX0_restore_13 : decode cX0_restore 13 = .ok (.aload_n 0, 1) := by decide +kernel
theorem dX0_restore_14 : decode cX0_restore 14 = .ok (.aload_n 0, 1) := by decide +kernel
theorem dX0_restore_15 : decode cX0_restore 15 = .ok (.getfield 18, 3) := by decide +kernel
theorem dX0_restore_18 : decode cX0_restore 18 = .ok (.putfield 12, 3) := by decide +kernel
theorem dX0_restore_21 : decode cX0_restore 21 = .ok (.aload_n 0, 1) := by decide +kernel
theorem dX0_restore_22 : decode cX0_restore 22 = .ok (.aload_n 0, 1) := by decide +kernel
theorem dX0_restore_23 : decode cX0_restore 23 = .ok (.getfield 21, 3) := by decide +kernel
theorem dX0_restore_26 : decode cX0_restore 26 = .ok (.putfield 18, 3) := by decide +kernel
theorem dX0_restore_29 : decode cX0_restore 29 = .ok (.aload_n 0, 1) := by decide +kernel
theorem dX0_restore_30 : decode cX0_restore 30 = .ok (.aload_n 0, 1) := by decide +kernel
theorem dX0_restore_31 : decode cX0_restore 31 = .ok (.getfield 24, 3) := by decide +kernel
theorem dX0_restore_34 : decode cX0_restore 34 = .ok (.putfield 21, 3) := by decide +kernel
theorem dX0_restore_37 : decode cX0_restore 37 = .ok (.aload_n 0, 1) := by decide +kernel
theorem dX0_restore_38 : decode cX0_restore 38 = .ok (.aload_n 2, 1) := by decide +kernel
theorem dX0_restore_39 : decode cX0_restore 39 = .ok (.putfield 24, 3) := by decide +kernel
theorem dX0_restore_42 : decode cX0_restore 42 = .ok (.aload_n 0, 1) := by decide +kernel
theorem dX0_restore_43 : decode cX0_restore 43 = .ok (.aload_n 0, 1) := by decide +kernel
theorem dX0_restore_44 : decode cX0_restore 44 = .ok (.getfield 27, 3) := by decide +kernel
theorem dX0_restore_47 : decode cX0_restore 47 = .ok (.iconst 1, 1) := by decide +kernel
theorem dX0_restore_48 : decode cX0_restore 48 = .ok (.isub, 1) := by decide +kernel
theorem dX0_restore_49 : decode cX0_restore 49 = .ok (.iconst 0, 1) := by decide +kernel
theorem dX0_restore_50 : decode cX0_restore 50 = .ok (.invokestatic 41, 3) := by decide +kernel
theorem dX0_restore_53 : decode cX0_restore 53 = .ok (.putfield 27, 3) := by decide +kernel
theorem dX0_restore_56 : decode cX0_restore 56 = .ok (.return_, 1) := by decide +kernel
set_option maxRecDepth 20000 in
theorem ggX1_init_X3_init : GoodIn wsX1_init wsX3_init := goodIn_r _ [16, 17, 2, 3, 18, 19, 24] (by decide +kernel) (by decide +kernel)
set_option maxRecDepth 20000 in
theorem gX1_init_X3_init : GoodIn wsX1_init (wsX3_init) := ggX1_init_X3_init
set_option maxRecDepth 20000 in
theorem ggX1_init_X3_put : GoodIn wsX1_init wsX3_put := goodIn_r _ [23, 19, 24] (by decide +kernel) (by decide +kernel)
set_option maxRecDepth 20000 in
theorem gX1_init_X3_put : GoodIn wsX1_init (wsV RX1 39 RX3 yX3_put wsX3_put) := goodIn_app (goodIn_of _ (by decide +kernel)) ggX1_init_X3_put
theorem dX1_init_0 : decode cX1_init 0 = .ok (.aload_n 0, 1) := by decide +kernel
theorem dX1_init_1 : decode cX1_init 1 = .ok (.invokespecial 3, 3) := by decide +kernel
theorem dX1_init_4 : decode cX1_init 4 = .ok (.aload_n 0, 1) := by decide +kernel
theorem dX1_init_5 : decode cX1_init 5 = .ok (.new 9, 3) := by decide +kernel
theorem dX1_init_8 : decode cX1_init 8 = .ok (.dup, 1) := by decide +kernel
theorem dX1_init_9 : decode cX1_init 9 = .ok (.iconst 4, 1) := by decide +kernel
theorem dX1_init_10 : decode cX1_init 10 = .ok (.invokespecial 11, 3) := by decide +kernel
theorem dX1_init_13 : decode cX1_init 13 = .ok (.putfield 14, 3) := by decide +kernel
theorem dX1_init_16 : decode cX1_init 16 = .ok (.aload_n 0, 1) := by decide +kernel
theorem dX1_init_17 : decode cX1_init 17 = .ok (.new 9, 3) := by decide +kernel
theorem dX1_init_20 : decode cX1_init 20 = .ok (.dup, 1) := by decide +kernel
theorem dX1_init_21 : decode cX1_init 21 = .ok (.bipush 6, 2) := by decide +kernel
theorem dX1_init_23 : decode cX1_init 23 = .ok (.invokespecial 11, 3) := by decide +kernel
theorem dX1_init_26 : decode cX1_init 26 = .ok (.putfield 20, 3) := by decide +kernel
theorem dX1_init_29 : decode cX1_init 29 = .ok (.aload_n 0, 1) := by decide +kernel
theorem dX1_init_30 : decode cX1_init 30 = .ok (.new 9, 3) := by decide +kernel
theorem dX1_init_33 : decode cX1_init 33 = .ok (.dup, 1) := by decide +kernel
theorem dX1_init_34 : decode cX1_init 34 = .ok (.bipush 8, 2) := by decide +kernel
theorem dX1_init_36 : decode cX1_init 36 = .ok (.invokespecial 11, 3) := by decide +kernel
theorem dX1_init_39 : decode cX1_init 39 = .ok (.putfield 23, 3) := by decide +kernel
theorem dX1_init_42 : decode cX1_init 42 = .ok (.aload_n 0, 1) := by decide +kernel
theorem dX1_init_43 : decode cX1_init 43 = .ok (.iconst 0, 1) := by decide +kernel
theorem dX1_init_44 : decode cX1_init 44 = .ok (.putfield 26, 3) := by decide +kernel
theorem dX1_init_47 : decode cX1_init 47 = .ok (.aload_n 0, 1) := by decide +kernel
theorem dX1_init_48 : decode cX1_init 48 = .ok (.bipush 30, 2) := by decide +kernel
theorem dX1_init_50 : decode cX1_init 50 = .ok (.putfield 30, 3) := by decide +kernel
theorem dX1_init_53 : decode cX1_init 53 = .ok (.aload_n 0, 1) := by decide +kernel
theorem dX1_init_54 : decode cX1_init 54 = .ok (.iconst 0, 1) := by decide +kernel
theorem dX1_init_55 : decode cX1_init 55 = .ok (.putfield 33, 3) := by decide +kernel
theorem dX1_init_58 : decode cX1_init 58 = .ok (.aload_n 0, 1) := by decide +kernel
theorem dX1_init_59 : decode cX1_init 59 = .ok (.iconst 0, 1) := by decide +kernel
theorem dX1_init_60 : decode cX1_init 60 = .ok (.putfield 36, 3) := by decide +kernel
theorem dX1_init_63 : decode cX1_init 63 = .ok (.aload_n 0, 1) := by decide +kernel
theorem dX1_init_64 : decode cX1_init 64 = .ok (.getfield 14, 3) := by decide +kernel
theorem dX1_init_67 : decode cX1_init 67 = .ok (.iconst 0, 1) := by decide +kernel
theorem dX1_init_68 : decode cX1_init 68 = .ok (.iconst 1, 1) := by decide +kernel
theorem dX1_init_69 : decode cX1_init 69 = .ok (.invokevirtual 39, 3) := by decide +kernel
theorem dX1_init_72 : decode cX1_init 72 = .ok (.aload_n 0, 1) := by decide +kernel
theorem dX1_init_73 : decode cX1_init 73 = .ok (.getfield 14, 3) := by decide +kernel
theorem dX1_init_76 : decode cX1_init 76 = .ok (.iconst 1, 1) := by decide +kernel
theorem dX1_init_77 : decode cX1_init 77 = .ok (.iconst 2, 1) := by decide +kernel
theorem dX1_init_78 : decode cX1_init 78 = .ok (.invokevirtual 39, 3) := by decide +kernel
theorem dX1_init_81 : decode cX1_init 81 = .ok (.aload_n 0, 1) := by decide +kernel
theorem dX1_init_82 : decode cX1_init 82 = .ok (.getfield 14, 3) := by decide +kernel
theorem dX1_init_85 : decode cX1_init 85 = .ok (.iconst 2, 1) := by decide +kernel
theorem dX1_init_86 : decode cX1_init 86 = .ok (.bipush 30, 2) := by decide +kernel
theorem dX1_init_88 : decode cX1_init 88 = .ok (.invokevirtual 39, 3) := by decide +kernel
theorem dX1_init_91 : decode cX1_init 91 = .ok (.aload_n 0, 1) := by decide +kernel
theorem dX1_init_92 : decode cX1_init 92 = .ok (.getfield 14, 3) := by decide +kernel
theorem dX1_init_95 : decode cX1_init 95 = .ok (.iconst 3, 1) := by decide +kernel
theorem dX1_init_96 : decode cX1_init 96 = .ok (.bipush 40, 2) := by decide +kernel
theorem dX1_init_98 : decode cX1_init 98 = .ok (.invokevirtual 39, 3) := by decide +kernel
theorem dX1_init_101 : decode cX1_init 101 = .ok (.return_, 1) := by decide +kernel
set_option maxRecDepth 20000 in
theorem ggX1_gain_X3_at : GoodIn wsX1_gain wsX3_at := goodIn_r _ [11, 12, 20] (by decide +kernel) (by decide +kernel)
set_option maxRecDepth 20000 in
theorem gX1_gain_X3_at : GoodIn wsX1_gain (wsV RX1 43 RX3 yX3_at wsX3_at) := goodIn_app (goodIn_of _ (by decide +kernel)) ggX1_gain_X3_at
theorem dX1_gain_0 : decode cX1_gain 0 = .ok (.aload_n 0, 1) := by decide +kernel
theorem dX1_gain_1 : decode cX1_gain 1 = .ok (.getfield 14, 3) := by decide +kernel
theorem dX1_gain_4 : decode cX1_gain 4 = .ok (.iconst 2, 1) := by decide +kernel
theorem dX1_gain_5 : decode cX1_gain 5 = .ok (.invokevirtual 43, 3) := by decide +kernel
theorem dX1_gain_8 : decode cX1_gain 8 = .ok (.istore_n 2, 1) := by decide +kernel
theorem dX1_gain_9 : decode cX1_gain 9 = .ok (.aload_n 0, 1) := by decide +kernel
theorem dX1_gain_10 : decode cX1_gain 10 = .ok (.getfield 30, 3) := by decide +kernel
theorem dX1_gain_13 : decode cX1_gain 13 = .ok (.iload_n 2, 1) := by decide +kernel
theorem dX1_gain_14 : decode cX1_gain 14 = .ok (.if_icmp .ge 17, 3) := by decide +kernel
theorem dX1_gain_17 : decode cX1_gain 17 = .ok (.aload_n 0, 1) := by decide +kernel
theorem dX1_gain_18 : decode cX1_gain 18 = .ok (.aload_n 0, 1) := by decide +kernel
theorem dX1_gain_19 : decode cX1_gain 19 = .ok (.getfield 30, 3) := by decide +kernel
theorem dX1_gain_22 : decode cX1_gain 22 = .ok (.iload_n 1, 1) := by decide +kernel
theorem dX1_gain_23 : decode cX1_gain 23 = .ok (.iadd, 1) := by decide +kernel
theorem dX1_gain_24 : decode cX1_gain 24 = .ok (.iload_n 2, 1) := by decide +kernel
theorem dX1_gain_25 : decode cX1_gain 25 = .ok (.invokestatic 47, 3) := by decide +kernel
theorem dX1_gain_28 : decode cX1_gain 28 = .ok (.putfield 30, 3) := by decide +kernel
theorem dX1_gain_31 : decode cX1_gain 31 = .ok (.return_, 1) := by decide +kernel
set_option maxRecDepth 20000 in
theorem ggX1_join_X3_put : GoodIn wsX1_join wsX3_put := goodIn_r _ [7, 8, 16] (by decide +kernel) (by decide +kernel)
set_option maxRecDepth 20000 in
theorem gX1_join_X3_put : GoodIn wsX1_join (wsV RX1 39 RX3 yX3_put wsX3_put) := goodIn_app (goodIn_of _ (by decide +kernel)) ggX1_join_X3_put
theorem dX1_join_0 : decode cX1_join 0 = .ok (.aload_n 0, 1) := by decide +kernel
theorem dX1_join_1 : decode cX1_join 1 = .ok (.getfield 26, 3) := by decide +kernel
theorem dX1_join_4 : decode cX1_join 4 = .ok (.bipush 8, 2) := by decide +kernel
theorem dX1_join_6 : decode cX1_join 6 = .ok (.if_icmp .ge 25, 3) := by decide +kernel
theorem dX1_join_9 : decode cX1_join 9 = .ok (.aload_n 0, 1) := by decide +kernel
theorem dX1_join_10 : decode cX1_join 10 = .ok (.getfield 23, 3) := by decide +kernel
theorem dX1_join_13 : decode cX1_join 13 = .ok (.aload_n 0, 1) := by decide +kernel
theorem dX1_join_14 : decode cX1_join 14 = .ok (.getfield 26, 3) := by decide +kernel
theorem dX1_join_17 : decode cX1_join 17 = .ok (.iload_n 1, 1) := by decide +kernel
theorem dX1_join_18 : decode cX1_join 18 = .ok (.invokevirtual 39, 3) := by decide +kernel
theorem dX1_join_21 : decode cX1_join 21 = .ok (.aload_n 0, 1) := by decide +kernel
theorem dX1_join_22 : decode cX1_join 22 = .ok (.dup, 1) := by decide +kernel
theorem dX1_join_23 : decode cX1_join 23 = .ok (.getfield 26, 3) := by decide +kernel
theorem dX1_join_26 : decode cX1_join 26 = .ok (.iconst 1, 1) := by decide +kernel
theorem dX1_join_27 : decode cX1_join 27 = .ok (.iadd, 1) := by decide +kernel
theorem dX1_join_28 : decode cX1_join 28 = .ok (.putfield 26, 3) := by decide +kernel
theorem dX1_join_31 : decode cX1_join 31 = .ok (.return_, 1) := by decide +kernel
set_option maxRecDepth 20000 in
theorem ggX1_leave_X3_at : GoodIn wsX1_leave wsX3_at := goodIn_r _ [7, 8, 20] (by decide +kernel) (by decide +kernel)
set_option maxRecDepth 20000 in
theorem gX1_leave_X3_at : GoodIn wsX1_leave (wsV RX1 43 RX3 yX3_at wsX3_at) := goodIn_app (goodIn_of _ (by decide +kernel)) ggX1_leave_X3_at
set_option maxRecDepth 20000 in
theorem ggX1_leave_X3_put : GoodIn wsX1_leave wsX3_put := goodIn_r _ [12, 8, 20] (by decide +kernel) (by decide +kernel)
set_option maxRecDepth 20000 in
theorem gX1_leave_X3_put : GoodIn wsX1_leave (wsV RX1 39 RX3 yX3_put wsX3_put) := goodIn_app (goodIn_of _ (by decide +kernel)) ggX1_leave_X3_put
theorem dX1_leave_0 : decode cX1_leave 0 = .ok (.aload_n 0, 1) := by decide +kernel
theorem dX1_leave_1 : decode cX1_leave 1 = .ok (.getfield 26, 3) := by decide +kernel
theorem dX1_leave_4 : decode cX1_leave 4 = .ok (.ifCond .le 47, 3) := by decide +kernel
theorem dX1_leave_7 : decode cX1_leave 7 = .ok (.aload_n 0, 1) := by decide +kernel
theorem dX1_leave_8 : decode cX1_leave 8 = .ok (.dup, 1) := by decide +kernel
theorem dX1_leave_9 : decode cX1_leave 9 = .ok (.getfield 26, 3) := by decide +kernel
theorem dX1_leave_12 : decode cX1_leave 12 = .ok (.iconst 1, 1) := by decide +kernel
theorem dX1_leave_13 : decode cX1_leave 13 = .ok (.isub, 1) := by decide +kernel
theorem dX1_leave_14 : decode cX1_leave 14 = .ok (.putfield 26, 3) := by decide +kernel
theorem dX1_leave_17 : decode cX1_leave 17 = .ok (.iload_n 1, 1) := by decide +kernel
theorem dX1_leave_18 : decode cX1_leave 18 = .ok (.istore_n 2, 1) := by decide +kernel
theorem dX1_leave_19 : decode cX1_leave 19 = .ok (.iload_n 2, 1) := by decide +kernel
theorem dX1_leave_20 : decode cX1_leave 20 = .ok (.aload_n 0, 1) := by decide +kernel
theorem dX1_leave_21 : decode cX1_leave 21 = .ok (.getfield 26, 3) := by decide +kernel
theorem dX1_leave_24 : decode cX1_leave 24 = .ok (.if_icmp .ge 27, 3) := by decide +kernel
theorem dX1_leave_27 : decode cX1_leave 27 = .ok (.aload_n 0, 1) := by decide +kernel
theorem dX1_leave_28 : decode cX1_leave 28 = .ok (.getfield 23, 3) := by decide +kernel
theorem dX1_leave_31 : decode cX1_leave 31 = .ok (.iload_n 2, 1) := by decide +kernel
theorem dX1_leave_32 : decode cX1_leave 32 = .ok (.aload_n 0, 1) := by decide +kernel
theorem dX1_leave_33 : decode cX1_leave 33 = .ok (.getfield 23, 3) := by decide +kernel
theorem dX1_leave_36 : decode cX1_leave 36 = .ok (.iload_n 2, 1) := by decide +kernel
theorem dX1_leave_37 : decode cX1_leave 37 = .ok (.iconst 1, 1) := by decide +kernel
theorem dX1_leave_38 : decode cX1_leave 38 = .ok (.iadd, 1) := by decide +kernel
theorem dX1_leave_39 : decode cX1_leave 39 = .ok (.invokevirtual 43, 3) := by decide +kernel
theorem dX1_leave_42 : decode cX1_leave 42 = .ok (.invokevirtual 39, 3) := by decide +kernel
theorem dX1_leave_45 : decode cX1_leave 45 = .ok (.iinc 2 1, 3) := by decide +kernel
theorem dX1_leave_48 : decode cX1_leave 48 = .ok (.goto (-29), 3) := by decide +kernel
theorem dX1_leave_51 : decode cX1_leave 51 = .ok (.return_, 1) := by decide +kernel
set_option maxRecDepth 20000 in
theorem ggX1_copyFrom_X3_copyFrom : GoodIn wsX1_copyFrom wsX3_copyFrom := goodIn_r _ [12, 13, 21] (by decide +kernel) (by decide +kernel)
set_option maxRecDepth 20000 in
theorem gX1_copyFrom_X3_copyFrom : GoodIn wsX1_copyFrom (wsV RX1 53 RX3 yX3_copyFrom wsX3_copyFrom) := goodIn_app (goodIn_of _ (by decide +kernel)) ggX1_copyFrom_X3_copyFrom
theorem dX1_copyFrom_0 : decode cX1_copyFrom 0 = .ok (.aload_n 0, 1) := by decide +kernel
theorem dX1_copyFrom_1 : decode cX1_copyFrom 1 = .ok (.getfield 14, 3) := by decide +kernel
theorem dX1_copyFrom_4 : decode cX1_copyFrom 4 = .ok (.aload_n 1, 1) := by decide +kernel
theorem dX1_copyFrom_5 : decode cX1_copyFrom 5 = .ok (.getfield 14, 3) := by decide +kernel
theorem dX1_copyFrom_8 : decode cX1_copyFrom 8 = .ok (.invokevirtual 53, 3) := by decide +kernel
theorem dX1_copyFrom_11 : decode cX1_copyFrom 11 = .ok (.aload_n 0, 1) := by decide +kernel
theorem dX1_copyFrom_12 : decode cX1_copyFrom 12 = .ok (.getfield 20, 3) := by decide +kernel
theorem dX1_copyFrom_15 : decode cX1_copyFrom 15 = .ok (.aload_n 1, 1) := by decide +kernel
theorem dX1_copyFrom_16 : decode cX1_copyFrom 16 = .ok (.getfield 20, 3) := by decide +kernel
theorem dX1_copyFrom_19 : decode cX1_copyFrom 19 = .ok (.invokevirtual 53, 3) := by decide +kernel
theorem dX1_copyFrom_22 : decode cX1_copyFrom 22 = .ok (.aload_n 0, 1) := by decide +kernel
theorem dX1_copyFrom_23 : decode cX1_copyFrom 23 = .ok (.getfield 23, 3) := by decide +kernel
theorem dX1_copyFrom_26 : decode cX1_copyFrom 26 = .ok (.aload_n 1, 1) := by decide +kernel
theorem dX1_copyFrom_27 : decode cX1_copyFrom 27 = .ok (.getfield 23, 3) := by decide +kernel
theorem dX1_copyFrom_30 : decode cX1_copyFrom 30 = .ok (.invokevirtual 53, 3) := by decide +kernel
theorem dX1_copyFrom_33 : decode cX1_copyFrom 33 = .ok (.aload_n 0, 1) := by decide +kernel
theorem dX1_copyFrom_34 : decode cX1_copyFrom 34 = .ok (.aload_n 1, 1) := by decide +kernel
theorem dX1_copyFrom_35 : decode cX1_copyFrom 35 = .ok (.getfield 26, 3) := by decide +kernel
theorem dX1_copyFrom_38 : decode cX1_copyFrom 38 = .ok (.putfield 26, 3) := by decide +kernel
theorem dX1_copyFrom_41 : decode cX1_copyFrom 41 = .ok (.aload_n 0, 1) := by decide +kernel
theorem dX1_copyFrom_42 : decode cX1_copyFrom 42 = .ok (.aload_n 1, 1) := by decide +kernel
theorem dX1_copyFrom_43 : decode cX1_copyFrom 43 = .ok (.getfield 30, 3) := by decide +kernel
theorem dX1_copyFrom_46 : decode cX1_copyFrom 46 = .ok (.putfield 30, 3) := by decide +kernel
theorem dX1_copyFrom_49 : decode cX1_copyFrom 49 = .ok (.aload_n 0, 1) := by decide +kernel
theorem dX1_copyFrom_50 : decode cX1_copyFrom 50 = .ok (.aload_n 1, 1) := by decide +kernel
theorem dX1_copyFrom_51 : decode cX1_copyFrom 51 = .ok (.getfield 33, 3) := by decide +kernel
theorem dX1_copyFrom_54 : decode cX1_copyFrom 54 = .ok (.putfield 33, 3) := by decide +kernel
theorem dX1_copyFrom_57 : decode cX1_copyFrom 57 = .ok (.aload_n 0, 1) := by decide +kernel
theorem dX1_copyFrom_58 : decode cX1_copyFrom 58 = .ok (.aload_n 1, 1) := by decide +kernel
theorem dX1_copyFrom_59 : decode cX1_copyFrom 59 = .ok (.getfield 36, 3) := by decide +kernel
theorem dX1_copyFrom_62 : decode cX1_copyFrom 62 = .ok (.putfield 36, 3) := by decide +kernel
theorem dX1_copyFrom_65 : decode cX1_copyFrom 65 = .ok (.return_, 1) := by decide +kernel
theorem dX2_init_0 : decode cX2_init 0 = .ok (.aload_n 0, 1) := by decide +kernel
theorem dX2_init_1 : decode cX2_init 1 = .ok (.invokespecial 3, 3) := by decide +kernel
theorem dX2_init_4 : decode cX2_init 4 = .ok (.aload_n 0, 1) := by decide +kernel
theorem dX2_init_5 : decode cX2_init 5 = .ok (.iload_n 1, 1) := by decide +kernel
theorem dX2_init_6 : decode cX2_init 6 = .ok (.putfield 9, 3) := by decide +kernel
theorem dX2_init_9 : decode cX2_init 9 = .ok (.return_, 1) := by decide +kernel
theorem dX2_begin_0 : decode cX2_begin 0 = .ok (.aload_n 0, 1) := by decide +kernel
theorem dX2_begin_1 : decode cX2_begin 1 = .ok (.iload_n 1, 1) := by decide +kernel
theorem dX2_begin_2 : decode cX2_begin 2 = .ok (.putfield 15, 3) := by decide +kernel
theorem dX2_begin_5 : decode cX2_begin 5 = .ok (.aload_n 0, 1) := by decide +kernel
theorem dX2_begin_6 : decode cX2_begin 6 = .ok (.iload_n 2, 1) := by decide +kernel
theorem dX2_begin_7 : decode cX2_begin 7 = .ok (.putfield 18, 3) := by decide +kernel
theorem dX2_begin_10 : decode cX2_begin 10 = .ok (.aload_n 0, 1) := by decide +kernel
theorem dX2_begin_11 : decode cX2_begin 11 = .ok (.iload_n 3, 1) := by decide +kernel
theorem dX2_begin_12 : decode cX2_begin 12 = .ok (.putfield 21, 3) := by decide +kernel
theorem dX2_begin_15 : decode cX2_begin 15 = .ok (.aload_n 0, 1) := by decide +kernel
theorem dX2_begin_16 : decode cX2_begin 16 = .ok (.iconst 0, 1) := by decide +kernel
theorem dX2_begin_17 : decode cX2_begin 17 = .ok (.putfield 24, 3) := by decide +kernel
theorem dX2_begin_20 : decode cX2_begin 20 = .ok (.aload_n 0, 1) := by decide +kernel
theorem dX2_begin_21 : decode cX2_begin 21 = .ok (.iconst 0, 1) := by decide +kernel
theorem dX2_begin_22 : decode cX2_begin 22 = .ok (.putfield 27, 3) := by decide +kernel
theorem dX2_begin_25 : decode cX2_begin 25 = .ok (.aload_n 0, 1) := by decide +kernel
theorem dX2_begin_26 : decode cX2_begin 26 = .ok (.iconst 0, 1) := by decide +kernel
theorem dX2_begin_27 : decode cX2_begin 27 = .ok (.putfield 30, 3) := by decide +kernel
theorem dX2_begin_30 : decode cX2_begin 30 = .ok (.aload_n 0, 1) := by decide +kernel
theorem dX2_begin_31 : decode cX2_begin 31 = .ok (.iconst 0, 1) := by decide +kernel
theorem dX2_begin_32 : decode cX2_begin 32 = .ok (.putfield 33, 3) := by decide +kernel
theorem dX2_begin_35 : decode cX2_begin 35 = .ok (.aload_n 0, 1) := by decide +kernel
theorem dX2_begin_36 : decode cX2_begin 36 = .ok (.iconst 0, 1) := by decide +kernel
theorem dX2_begin_37 : decode cX2_begin 37 = .ok (.putfield 36, 3) := by decide +kernel
theorem dX2_begin_40 : decode cX2_begin 40 = .ok (.aload_n 0, 1) := by decide +kernel
theorem dX2_begin_41 : decode cX2_begin 41 = .ok (.iconst 0, 1) := by decide +kernel
theorem dX2_begin_42 : decode cX2_begin 42 = .ok (.putfield 39, 3) := by decide +kernel
theorem dX2_begin_45 : decode cX2_begin 45 = .ok (.aload_n 0, 1) := by decide +kernel
theorem dX2_begin_46 : decode cX2_begin 46 = .ok (.iconst 0, 1) := by decide +kernel
theorem dX2_begin_47 : decode cX2_begin 47 = .ok (.putfield 42, 3) := by decide +kernel
theorem dX2_begin_50 : decode cX2_begin 50 = .ok (.return_, 1) := by decide +kernel
theorem dX2_isSettled_0 : decode cX2_isSettled 0 = .ok (.aload_n 0, 1) := by decide +kernel
theorem dX2_isSettled_1 : decode cX2_isSettled 1 = .ok (.getfield 24, 3) := by decide +kernel
theorem dX2_isSettled_4 : decode cX2_isSettled 4 = .ok (.iconst 2, 1) := by decide +kernel
theorem dX2_isSettled_5 : decode cX2_isSettled 5 = .ok (.if_icmp .eq 11, 3) := by decide +kernel
theorem dX2_isSettled_8 : decode cX2_isSettled 8 = .ok (.aload_n 0, 1) := by decide +kernel
theorem dX2_isSettled_9 : decode cX2_isSettled 9 = .ok (.getfield 24, 3) := by decide +kernel
theorem dX2_isSettled_12 : decode cX2_isSettled 12 = .ok (.iconst 4, 1) := by decide +kernel
theorem dX2_isSettled_13 : decode cX2_isSettled 13 = .ok (.if_icmp .ne 7, 3) := by decide +kernel
theorem dX2_isSettled_16 : decode cX2_isSettled 16 = .ok (.iconst 1, 1) := by decide +kernel
theorem dX2_isSettled_17 : decode cX2_isSettled 17 = .ok (.goto 4, 3) := by decide +kernel
theorem dX2_isSettled_20 : decode cX2_isSettled 20 = .ok (.iconst 0, 1) := by decide +kernel
theorem dX2_isSettled_21 : decode cX2_isSettled 21 = .ok (.ireturn, 1) := by decide +kernel
theorem dX2_copyFrom_0 : decode cX2_copyFrom 0 = .ok (.aload_n 0, 1) := by decide +kernel
theorem dX2_copyFrom_1 : decode cX2_copyFrom 1 = .ok (.aload_n 1, 1) := by decide +kernel
theorem dX2_copyFrom_2 : decode cX2_copyFrom 2 = .ok (.getfield 15, 3) := by decide +kernel
theorem dX2_copyFrom_5 : decode cX2_copyFrom 5 = .ok (.putfield 15, 3) := by decide +kernel
theorem dX2_copyFrom_8 : decode cX2_copyFrom 8 = .ok (.aload_n 0, 1) := by decide +kernel
theorem dX2_copyFrom_9 : decode cX2_copyFrom 9 = .ok (.aload_n 1, 1) := by decide +kernel
theorem dX2_copyFrom_10 : decode cX2_copyFrom 10 = .ok (.getfield 18, 3) := by decide +kernel
theorem dX2_copyFrom_13 : decode cX2_copyFrom 13 = .ok (.putfield 18, 3) := by decide +kernel
theorem dX2_copyFrom_16 : decode cX2_copyFrom 16 = .ok (.aload_n 0, 1) := by decide +kernel
theorem dX2_copyFrom_17 : decode cX2_copyFrom 17 = .ok (.aload_n 1, 1) := by decide +kernel
theorem dX2_copyFrom_18 : decode cX2_copyFrom 18 = .ok (.getfield 21, 3) := by decide +kernel
theorem dX2_copyFrom_21 : decode cX2_copyFrom 21 = .ok (.putfield 21, 3) := by decide +kernel
theorem dX2_copyFrom_24 : decode cX2_copyFrom 24 = .ok (.aload_n 0, 1) := by decide +kernel
theorem dX2_copyFrom_25 : decode cX2_copyFrom 25 = .ok (.aload_n 1, 1) := by decide +kernel
theorem dX2_copyFrom_26 : decode cX2_copyFrom 26 = .ok (.getfield 24, 3) := by decide +kernel
theorem dX2_copyFrom_29 : decode cX2_copyFrom 29 = .ok (.putfield 24, 3) := by decide +kernel
theorem dX2_copyFrom_32 : decode cX2_copyFrom 32 = .ok (.aload_n 0, 1) := by decide +kernel
theorem dX2_copyFrom_33 : decode cX2_copyFrom 33 = .ok (.aload_n 1, 1) := by decide +kernel
theorem dX2_copyFrom_34 : decode cX2_copyFrom 34 = .ok (.getfield 27, 3) := by decide +kernel
theorem dX2_copyFrom_37 : decode cX2_copyFrom 37 = .ok (.putfield 27, 3) := by decide +kernel
theorem dX2_copyFrom_40 : decode cX2_copyFrom 40 = .ok (.aload_n 0, 1) := by decide +kernel
theorem dX2_copyFrom_41 : decode cX2_copyFrom 41 = .ok (.aload_n 1, 1) := by decide +kernel
theorem dX2_copyFrom_42 : decode cX2_copyFrom 42 = .ok (.getfield 30, 3) := by decide +kernel
theorem dX2_copyFrom_45 : decode cX2_copyFrom 45 = .ok (.putfield 30, 3) := by decide +kernel
theorem dX2_copyFrom_48 : decode cX2_copyFrom 48 = .ok (.aload_n 0, 1) := by decide +kernel
theorem dX2_copyFrom_49 : decode cX2_copyFrom 49 = .ok (.aload_n 1, 1) := by decide +kernel
theorem dX2_copyFrom_50 : decode cX2_copyFrom 50 = .ok (.getfield 33, 3) := by decide +kernel
theorem dX2_copyFrom_53 : decode cX2_copyFrom 53 = .ok (.putfield 33, 3) := by decide +kernel
theorem dX2_copyFrom_56 : decode cX2_copyFrom 56 = .ok (.aload_n 0, 1) := by decide +kernel
theorem dX2_copyFrom_57 : decode cX2_copyFrom 57 = .ok (.aload_n 1, 1) := by decide +kernel
theorem dX2_copyFrom_58 : decode cX2_copyFrom 58 = .ok (.getfield 36, 3) := by decide +kernel
theorem dX2_copyFrom_61 : decode cX2_copyFrom 61 = .ok (.putfield 36, 3) := by decide +kernel
theorem dX2_copyFrom_64 : decode cX2_copyFrom 64 = .ok (.aload_n 0, 1) := by decide +kernel
theorem dX2_copyFrom_65 : decode cX2_copyFrom 65 = .ok (.aload_n 1, 1) := by decide +kernel
theorem dX2_copyFrom_66 : decode cX2_copyFrom 66 = .ok (.getfield 39, 3) := by decide +kernel
theorem dX2_copyFrom_69 : decode cX2_copyFrom 69 = .ok (.putfield 39, 3) := by decide +kernel
theorem dX2_copyFrom_72 : decode cX2_copyFrom 72 = .ok (.aload_n 0, 1) := by decide +kernel
theorem dX2_copyFrom_73 : decode cX2_copyFrom 73 = .ok (.aload_n 1, 1) := by decide +kernel
theorem dX2_copyFrom_74 : decode cX2_copyFrom 74 = .ok (.getfield 42, 3) := by decide +kernel
theorem dX2_copyFrom_77 : decode cX2_copyFrom 77 = .ok (.putfield 42, 3) := by decide +kernel
theorem dX2_copyFrom_80 : decode cX2_copyFrom 80 = .ok (.return_, 1) := by decide +kernel
theorem dX3_init_0 : decode cX3_init 0 = .ok (.aload_n 0, 1) := by decide +kernel
theorem dX3_init_1 : decode cX3_init 1 = .ok (.invokespecial 1, 3) := by decide +kernel
theorem dX3_init_4 : decode cX3_init 4 = .ok (.aload_n 0, 1) := by decide +kernel
theorem dX3_init_5 : decode cX3_init 5 = .ok (.iload_n 1, 1) := by decide +kernel
theorem dX3_init_6 : decode cX3_init 6 = .ok (.ifCond .ge 7, 3) := by decide +kernel
theorem dX3_init_9 : decode cX3_init 9 = .ok (.iconst 0, 1) := by decide +kernel
theorem dX3_init_10 : decode cX3_init 10 = .ok (.goto 4, 3) := by decide +kernel
theorem dX3_init_13 : decode cX3_init 13 = .ok (.iload_n 1, 1) := by decide +kernel
theorem dX3_init_14 : decode cX3_init 14 = .ok (.newarray .int, 2) := by decide +kernel
theorem dX3_init_16 : decode cX3_init 16 = .ok (.putfield 7, 3) := by decide +kernel
theorem dX3_init_19 : decode cX3_init 19 = .ok (.return_, 1) := by decide +kernel
theorem dX3_at_0 : decode cX3_at 0 = .ok (.iload_n 1, 1) := by decide +kernel
theorem dX3_at_1 : decode cX3_at 1 = .ok (.ifCond .lt 21, 3) := by decide +kernel
theorem dX3_at_4 : decode cX3_at 4 = .ok (.iload_n 1, 1) := by decide +kernel
theorem dX3_at_5 : decode cX3_at 5 = .ok (.aload_n 0, 1) := by decide +kernel
theorem dX3_at_6 : decode cX3_at 6 = .ok (.getfield 7, 3) := by decide +kernel
theorem dX3_at_9 : decode cX3_at 9 = .ok (.arraylength, 1) := by decide +kernel
theorem dX3_at_10 : decode cX3_at 10 = .ok (.if_icmp .ge 12, 3) := by decide +kernel
theorem dX3_at_13 : decode cX3_at 13 = .ok (.aload_n 0, 1) := by decide +kernel
theorem dX3_at_14 : decode cX3_at 14 = .ok (.getfield 7, 3) := by decide +kernel
theorem dX3_at_17 : decode cX3_at 17 = .ok (.iload_n 1, 1) := by decide +kernel
theorem dX3_at_18 : decode cX3_at 18 = .ok (.iaload, 1) := by decide +kernel
theorem dX3_at_19 : decode cX3_at 19 = .ok (.goto 4, 3) := by decide +kernel
theorem dX3_at_22 : decode cX3_at 22 = .ok (.iconst 0, 1) := by decide +kernel
theorem dX3_at_23 : decode cX3_at 23 = .ok (.ireturn, 1) := by decide +kernel
theorem dX3_put_0 : decode cX3_put 0 = .ok (.iload_n 1, 1) := by decide +kernel
theorem dX3_put_1 : decode cX3_put 1 = .ok (.ifCond .lt 19, 3) := by decide +kernel
theorem dX3_put_4 : decode cX3_put 4 = .ok (.iload_n 1, 1) := by decide +kernel
theorem dX3_put_5 : decode cX3_put 5 = .ok (.aload_n 0, 1) := by decide +kernel
theorem dX3_put_6 : decode cX3_put 6 = .ok (.getfield 7, 3) := by decide +kernel
theorem dX3_put_9 : decode cX3_put 9 = .ok (.arraylength, 1) := by decide +kernel
theorem dX3_put_10 : decode cX3_put 10 = .ok (.if_icmp .ge 10, 3) := by decide +kernel
theorem dX3_put_13 : decode cX3_put 13 = .ok (.aload_n 0, 1) := by decide +kernel
theorem dX3_put_14 : decode cX3_put 14 = .ok (.getfield 7, 3) := by decide +kernel
theorem dX3_put_17 : decode cX3_put 17 = .ok (.iload_n 1, 1) := by decide +kernel
theorem dX3_put_18 : decode cX3_put 18 = .ok (.iload_n 2, 1) := by decide +kernel
theorem dX3_put_19 : decode cX3_put 19 = .ok (.iastore, 1) := by decide +kernel
theorem dX3_put_20 : decode cX3_put 20 = .ok (.return_, 1) := by decide +kernel
theorem dX3_copyFrom_0 : decode cX3_copyFrom 0 = .ok (.iconst 0, 1) := by decide +kernel
theorem dX3_copyFrom_1 : decode cX3_copyFrom 1 = .ok (.istore_n 2, 1) := by decide +kernel
theorem dX3_copyFrom_2 : decode cX3_copyFrom 2 = .ok (.iload_n 2, 1) := by decide +kernel
theorem dX3_copyFrom_3 : decode cX3_copyFrom 3 = .ok (.aload_n 0, 1) := by decide +kernel
theorem dX3_copyFrom_4 : decode cX3_copyFrom 4 = .ok (.getfield 7, 3) := by decide +kernel
theorem dX3_copyFrom_7 : decode cX3_copyFrom 7 = .ok (.arraylength, 1) := by decide +kernel
theorem dX3_copyFrom_8 : decode cX3_copyFrom 8 = .ok (.if_icmp .ge 30, 3) := by decide +kernel
theorem dX3_copyFrom_11 : decode cX3_copyFrom 11 = .ok (.iload_n 2, 1) := by decide +kernel
theorem dX3_copyFrom_12 : decode cX3_copyFrom 12 = .ok (.aload_n 1, 1) := by decide +kernel
theorem dX3_copyFrom_13 : decode cX3_copyFrom 13 = .ok (.getfield 7, 3) := by decide +kernel
theorem dX3_copyFrom_16 : decode cX3_copyFrom 16 = .ok (.arraylength, 1) := by decide +kernel
theorem dX3_copyFrom_17 : decode cX3_copyFrom 17 = .ok (.if_icmp .ge 21, 3) := by decide +kernel
theorem dX3_copyFrom_20 : decode cX3_copyFrom 20 = .ok (.aload_n 0, 1) := by decide +kernel
theorem dX3_copyFrom_21 : decode cX3_copyFrom 21 = .ok (.getfield 7, 3) := by decide +kernel
theorem dX3_copyFrom_24 : decode cX3_copyFrom 24 = .ok (.iload_n 2, 1) := by decide +kernel
theorem dX3_copyFrom_25 : decode cX3_copyFrom 25 = .ok (.aload_n 1, 1) := by decide +kernel
theorem dX3_copyFrom_26 : decode cX3_copyFrom 26 = .ok (.getfield 7, 3) := by decide +kernel
theorem dX3_copyFrom_29 : decode cX3_copyFrom 29 = .ok (.iload_n 2, 1) := by decide +kernel
theorem dX3_copyFrom_30 : decode cX3_copyFrom 30 = .ok (.iaload, 1) := by decide +kernel
theorem dX3_copyFrom_31 : decode cX3_copyFrom 31 = .ok (.iastore, 1) := by decide +kernel
theorem dX3_copyFrom_32 : decode cX3_copyFrom 32 = .ok (.iinc 2 1, 3) := by decide +kernel
theorem dX3_copyFrom_35 : decode cX3_copyFrom 35 = .ok (.goto (-33), 3) := by decide +kernel
theorem dX3_copyFrom_38 : decode cX3_copyFrom 38 = .ok (.return_, 1) := by decide +kernel
set_option maxRecDepth 20000 in
theorem ggX4_init_X3_init : GoodIn wsX4_init wsX3_init := goodIn_r _ [26, 27, 2, 3, 28, 29, 53] (by decide +kernel) (by decide +kernel)
set_option maxRecDepth 20000 in
theorem gX4_init_X3_init : GoodIn wsX4_init (wsX3_init) := ggX4_init_X3_init
set_option maxRecDepth 20000 in
theorem ggX4_init_X1_init : GoodIn wsX4_init wsX1_init := goodIn_r _ [32, 33, 2, 3, 34, 5, 6, 35, 36, 37, 38, 39, 40, 41, 42, 25, 26, 27, 28, 29, 43, 44, 45, 46, 53, 65, 66, 67, 68, 69, 70, 71] (by decide +kernel) (by decide +kernel)
set_option maxRecDepth 20000 in
theorem gX4_init_X1_init : GoodIn wsX4_init (wsX1_init) := ggX4_init_X1_init
set_option maxRecDepth 20000 in
theorem ggX4_init_X3_put : GoodIn wsX4_init wsX3_put := goodIn_r _ [46, 29, 53] (by decide +kernel) (by decide +kernel)
set_option maxRecDepth 20000 in
theorem gX4_init_X3_put : GoodIn wsX4_init (wsV RX4 58 RX3 yX3_put wsX3_put) := goodIn_app (goodIn_of _ (by decide +kernel)) ggX4_init_X3_put
set_option maxRecDepth 20000 in
theorem ggX4_init_X2_init : GoodIn wsX4_init wsX2_init := goodIn_r _ [50, 51, 2, 3, 52, 72, 73, 74, 75, 76, 77, 78, 79, 80, 81, 82] (by decide +kernel) (by decide +kernel)
set_option maxRecDepth 20000 in
theorem gX4_init_X2_init : GoodIn wsX4_init (wsX2_init) := ggX4_init_X2_init
theorem dX4_init_0 : decode cX4_init 0 = .ok (.aload_n 0, 1) := by decide +kernel
theorem dX4_init_1 : decode cX4_init 1 = .ok (.invokespecial 3, 3) := by decide +kernel
theorem dX4_init_4 : decode cX4_init 4 = .ok (.aload_n 0, 1) := by decide +kernel
theorem dX4_init_5 : decode cX4_init 5 = .ok (.new 9, 3) := by decide +kernel
theorem dX4_init_8 : decode cX4_init 8 = .ok (.dup, 1) := by decide +kernel
theorem dX4_init_9 : decode cX4_init 9 = .ok (.iconst 4, 1) := by decide +kernel
theorem dX4_init_10 : decode cX4_init 10 = .ok (.invokespecial 11, 3) := by decide +kernel
theorem dX4_init_13 : decode cX4_init 13 = .ok (.putfield 14, 3) := by decide +kernel
theorem dX4_init_16 : decode cX4_init 16 = .ok (.aload_n 0, 1) := by decide +kernel
theorem dX4_init_17 : decode cX4_init 17 = .ok (.new 9, 3) := by decide +kernel
theorem dX4_init_20 : decode cX4_init 20 = .ok (.dup, 1) := by decide +kernel
theorem dX4_init_21 : decode cX4_init 21 = .ok (.iconst 5, 1) := by decide +kernel
theorem dX4_init_22 : decode cX4_init 22 = .ok (.invokespecial 11, 3) := by decide +kernel
theorem dX4_init_25 : decode cX4_init 25 = .ok (.putfield 20, 3) := by decide +kernel
theorem dX4_init_28 : decode cX4_init 28 = .ok (.aload_n 0, 1) := by decide +kernel
theorem dX4_init_29 : decode cX4_init 29 = .ok (.new 23, 3) := by decide +kernel
theorem dX4_init_32 : decode cX4_init 32 = .ok (.dup, 1) := by decide +kernel
theorem dX4_init_33 : decode cX4_init 33 = .ok (.invokespecial 25, 3) := by decide +kernel
theorem dX4_init_36 : decode cX4_init 36 = .ok (.putfield 26, 3) := by decide +kernel
theorem dX4_init_39 : decode cX4_init 39 = .ok (.aload_n 0, 1) := by decide +kernel
theorem dX4_init_40 : decode cX4_init 40 = .ok (.new 23, 3) := by decide +kernel
theorem dX4_init_43 : decode cX4_init 43 = .ok (.dup, 1) := by decide +kernel
theorem dX4_init_44 : decode cX4_init 44 = .ok (.invokespecial 25, 3) := by decide +kernel
theorem dX4_init_47 : decode cX4_init 47 = .ok (.putfield 30, 3) := by decide +kernel
theorem dX4_init_50 : decode cX4_init 50 = .ok (.aload_n 0, 1) := by decide +kernel
theorem dX4_init_51 : decode cX4_init 51 = .ok (.new 23, 3) := by decide +kernel
theorem dX4_init_54 : decode cX4_init 54 = .ok (.dup, 1) := by decide +kernel
theorem dX4_init_55 : decode cX4_init 55 = .ok (.invokespecial 25, 3) := by decide +kernel
theorem dX4_init_58 : decode cX4_init 58 = .ok (.putfield 33, 3) := by decide +kernel
theorem dX4_init_61 : decode cX4_init 61 = .ok (.aload_n 0, 1) := by decide +kernel
theorem dX4_init_62 : decode cX4_init 62 = .ok (.bipush 32, 2) := by decide +kernel
theorem dX4_init_64 : decode cX4_init 64 = .ok (.anewarray 36, 3) := by decide +kernel
theorem dX4_init_67 : decode cX4_init 67 = .ok (.putfield 38, 3) := by decide +kernel
theorem dX4_init_70 : decode cX4_init 70 = .ok (.aload_n 0, 1) := by decide +kernel
theorem dX4_init_71 : decode cX4_init 71 = .ok (.iconst 0, 1) := by decide +kernel
theorem dX4_init_72 : decode cX4_init 72 = .ok (.putfield 42, 3) := by decide +kernel
theorem dX4_init_75 : decode cX4_init 75 = .ok (.aload_n 0, 1) := by decide +kernel
theorem dX4_init_76 : decode cX4_init 76 = .ok (.iconst 0, 1) := by decide +kernel
theorem dX4_init_77 : decode cX4_init 77 = .ok (.putfield 46, 3) := by decide +kernel
theorem dX4_init_80 : decode cX4_init 80 = .ok (.aload_n 0, 1) := by decide +kernel
theorem dX4_init_81 : decode cX4_init 81 = .ok (.iconst 0, 1) := by decide +kernel
theorem dX4_init_82 : decode cX4_init 82 = .ok (.putfield 49, 3) := by decide +kernel
theorem dX4_init_85 : decode cX4_init 85 = .ok (.aload_n 0, 1) := by decide +kernel
theorem dX4_init_86 : decode cX4_init 86 = .ok (.iconst 0, 1) := by decide +kernel
theorem dX4_init_87 : decode cX4_init 87 = .ok (.putfield 52, 3) := by decide +kernel
theorem dX4_init_90 : decode cX4_init 90 = .ok (.aload_n 0, 1) := by decide +kernel
theorem dX4_init_91 : decode cX4_init 91 = .ok (.iconst 0, 1) := by decide +kernel
theorem dX4_init_92 : decode cX4_init 92 = .ok (.putfield 55, 3) := by decide +kernel
theorem dX4_init_95 : decode cX4_init 95 = .ok (.aload_n 0, 1) := by decide +kernel
theorem dX4_init_96 : decode cX4_init 96 = .ok (.getfield 14, 3) := by decide +kernel
theorem dX4_init_99 : decode cX4_init 99 = .ok (.iconst 0, 1) := by decide +kernel
theorem dX4_init_100 : decode cX4_init 100 = .ok (.iconst 4, 1) := by decide +kernel
theorem dX4_init_101 : decode cX4_init 101 = .ok (.invokevirtual 58, 3) := by decide +kernel
theorem dX4_init_104 : decode cX4_init 104 = .ok (.aload_n 0, 1) := by decide +kernel
theorem dX4_init_105 : decode cX4_init 105 = .ok (.getfield 14, 3) := by decide +kernel
theorem dX4_init_108 : decode cX4_init 108 = .ok (.iconst 1, 1) := by decide +kernel
theorem dX4_init_109 : decode cX4_init 109 = .ok (.bipush 20, 2) := by decide +kernel
theorem dX4_init_111 : decode cX4_init 111 = .ok (.invokevirtual 58, 3) := by decide +kernel
theorem dX4_init_114 : decode cX4_init 114 = .ok (.aload_n 0, 1) := by decide +kernel
theorem dX4_init_115 : decode cX4_init 115 = .ok (.getfield 14, 3) := by decide +kernel
theorem dX4_init_118 : decode cX4_init 118 = .ok (.iconst 2, 1) := by decide +kernel
theorem dX4_init_119 : decode cX4_init 119 = .ok (.iconst 3, 1) := by decide +kernel
theorem dX4_init_120 : decode cX4_init 120 = .ok (.invokevirtual 58, 3) := by decide +kernel
theorem dX4_init_123 : decode cX4_init 123 = .ok (.aload_n 0, 1) := by decide +kernel
theorem dX4_init_124 : decode cX4_init 124 = .ok (.getfield 14, 3) := by decide +kernel
theorem dX4_init_127 : decode cX4_init 127 = .ok (.iconst 3, 1) := by decide +kernel
theorem dX4_init_128 : decode cX4_init 128 = .ok (.iconst 1, 1) := by decide +kernel
theorem dX4_init_129 : decode cX4_init 129 = .ok (.invokevirtual 58, 3) := by decide +kernel
theorem dX4_init_132 : decode cX4_init 132 = .ok (.iconst 0, 1) := by decide +kernel
theorem dX4_init_133 : decode cX4_init 133 = .ok (.istore_n 1, 1) := by decide +kernel
theorem dX4_init_134 : decode cX4_init 134 = .ok (.iload_n 1, 1) := by decide +kernel
theorem dX4_init_135 : decode cX4_init 135 = .ok (.iconst 5, 1) := by decide +kernel
theorem dX4_init_136 : decode cX4_init 136 = .ok (.if_icmp .ge 20, 3) := by decide +kernel
theorem dX4_init_139 : decode cX4_init 139 = .ok (.aload_n 0, 1) := by decide +kernel
theorem dX4_init_140 : decode cX4_init 140 = .ok (.getfield 20, 3) := by decide +kernel
theorem dX4_init_143 : decode cX4_init 143 = .ok (.iload_n 1, 1) := by decide +kernel
theorem dX4_init_144 : decode cX4_init 144 = .ok (.sipush 128, 3) := by decide +kernel
theorem dX4_init_147 : decode cX4_init 147 = .ok (.invokevirtual 58, 3) := by decide +kernel
theorem dX4_init_150 : decode cX4_init 150 = .ok (.iinc 1 1, 3) := by decide +kernel
theorem dX4_init_153 : decode cX4_init 153 = .ok (.goto (-19), 3) := by decide +kernel
theorem dX4_init_156 : decode cX4_init 156 = .ok (.iconst 0, 1) := by decide +kernel
theorem dX4_init_157 : decode cX4_init 157 = .ok (.istore_n 1, 1) := by decide +kernel
theorem dX4_init_158 : decode cX4_init 158 = .ok (.iload_n 1, 1) := by decide +kernel
theorem dX4_init_159 : decode cX4_init 159 = .ok (.aload_n 0, 1) := by decide +kernel
theorem dX4_init_160 : decode cX4_init 160 = .ok (.getfield 38, 3) := by decide +kernel
theorem dX4_init_163 : decode cX4_init 163 = .ok (.arraylength, 1) := by decide +kernel
theorem dX4_init_164 : decode cX4_init 164 = .ok (.if_icmp .ge 23, 3) := by decide +kernel
theorem dX4_init_167 : decode cX4_init 167 = .ok (.aload_n 0, 1) := by decide +kernel
theorem dX4_init_168 : decode cX4_init 168 = .ok (.getfield 38, 3) := by decide +kernel
theorem dX4_init_171 : decode cX4_init 171 = .ok (.iload_n 1, 1) := by decide +kernel
theorem dX4_init_172 : decode cX4_init 172 = .ok (.new 36, 3) := by decide +kernel
theorem dX4_init_175 : decode cX4_init 175 = .ok (.dup, 1) := by decide +kernel
theorem dX4_init_176 : decode cX4_init 176 = .ok (.iload_n 1, 1) := by decide +kernel
theorem dX4_init_177 : decode cX4_init 177 = .ok (.invokespecial 62, 3) := by decide +kernel
theorem dX4_init_180 : decode cX4_init 180 = .ok (.aastore, 1) := by decide +kernel
theorem dX4_init_181 : decode cX4_init 181 = .ok (.iinc 1 1, 3) := by decide +kernel
theorem dX4_init_184 : decode cX4_init 184 = .ok (.goto (-26), 3) := by decide +kernel
theorem dX4_init_187 : decode cX4_init 187 = .ok (.return_, 1) := by decide +kernel
set_option maxRecDepth 20000 in
theorem ggX4_copyFrom_X3_copyFrom : GoodIn wsX4_copyFrom wsX3_copyFrom := goodIn_r _ [15, 16, 62] (by decide +kernel) (by decide +kernel)
set_option maxRecDepth 20000 in
theorem gX4_copyFrom_X3_copyFrom : GoodIn wsX4_copyFrom (wsV RX4 63 RX3 yX3_copyFrom wsX3_copyFrom) := goodIn_app (goodIn_of _ (by decide +kernel)) ggX4_copyFrom_X3_copyFrom
set_option maxRecDepth 20000 in
theorem ggX4_copyFrom_X1_copyFrom : GoodIn wsX4_copyFrom wsX1_copyFrom := goodIn_r _ [21, 22, 23, 24, 25, 26, 27, 28, 29, 12, 13, 14, 15, 16, 63, 64, 65, 66, 67, 68, 69, 62] (by decide +kernel) (by decide +kernel)
set_option maxRecDepth 20000 in
theorem gX4_copyFrom_X1_copyFrom : GoodIn wsX4_copyFrom (wsV RX4 67 RX1 yX1_copyFrom wsX1_copyFrom) := goodIn_app (goodIn_of _ (by decide +kernel)) ggX4_copyFrom_X1_copyFrom
set_option maxRecDepth 20000 in
theorem ggX4_copyFrom_X4_find : GoodIn wsX4_copyFrom wsX4_find := goodIn_r _ [34, 6, 35, 51, 52, 53, 54, 55, 56, 57, 58, 59, 60, 61] (by decide +kernel) (by decide +kernel)
set_option maxRecDepth 20000 in
theorem gX4_copyFrom_X4_find : GoodIn wsX4_copyFrom (wsV RX4 70 RX4 yX4_find wsX4_find) := goodIn_app (goodIn_of _ (by decide +kernel)) ggX4_copyFrom_X4_find
set_option maxRecDepth 20000 in
theorem ggX4_copyFrom_X2_copyFrom : GoodIn wsX4_copyFrom wsX2_copyFrom := goodIn_r _ [40, 41, 42, 43, 44, 45, 46, 47, 48, 49, 50, 70, 71, 72, 73, 74, 75, 76, 77, 78, 79, 80] (by decide +kernel) (by decide +kernel)
set_option maxRecDepth 20000 in
theorem gX4_copyFrom_X2_copyFrom : GoodIn wsX4_copyFrom (wsV RX4 74 RX2 yX2_copyFrom wsX2_copyFrom) := goodIn_app (goodIn_of _ (by decide +kernel)) ggX4_copyFrom_X2_copyFrom
theorem dX4_copyFrom_0 : decode cX4_copyFrom 0 = .ok (.aload_n 0, 1) := by decide +kernel
theorem dX4_copyFrom_1 : decode cX4_copyFrom 1 = .ok (.getfield 14, 3) := by decide +kernel
theorem dX4_copyFrom_4 : decode cX4_copyFrom 4 = .ok (.aload_n 1, 1) := by decide +kernel
theorem dX4_copyFrom_5 : decode cX4_copyFrom 5 = .ok (.getfield 14, 3) := by decide +kernel
theorem dX4_copyFrom_8 : decode cX4_copyFrom 8 = .ok (.invokevirtual 63, 3) := by decide +kernel
theorem dX4_copyFrom_11 : decode cX4_copyFrom 11 = .ok (.aload_n 0, 1) := by decide +kernel
theorem dX4_copyFrom_12 : decode cX4_copyFrom 12 = .ok (.getfield 20, 3) := by decide +kernel
theorem dX4_copyFrom_15 : decode cX4_copyFrom 15 = .ok (.aload_n 1, 1) := by decide +kernel
theorem dX4_copyFrom_16 : decode cX4_copyFrom 16 = .ok (.getfield 20, 3) := by decide +kernel
theorem dX4_copyFrom_19 : decode cX4_copyFrom 19 = .ok (.invokevirtual 63, 3) := by decide +kernel
theorem dX4_copyFrom_22 : decode cX4_copyFrom 22 = .ok (.aload_n 0, 1) := by decide +kernel
theorem dX4_copyFrom_23 : decode cX4_copyFrom 23 = .ok (.getfield 26, 3) := by decide +kernel
theorem dX4_copyFrom_26 : decode cX4_copyFrom 26 = .ok (.aload_n 1, 1) := by decide +kernel
theorem dX4_copyFrom_27 : decode cX4_copyFrom 27 = .ok (.getfield 26, 3) := by decide +kernel
theorem dX4_copyFrom_30 : decode cX4_copyFrom 30 = .ok (.invokevirtual 67, 3) := by decide +kernel
theorem dX4_copyFrom_33 : decode cX4_copyFrom 33 = .ok (.aload_n 0, 1) := by decide +kernel
theorem dX4_copyFrom_34 : decode cX4_copyFrom 34 = .ok (.getfield 30, 3) := by decide +kernel
theorem dX4_copyFrom_37 : decode cX4_copyFrom 37 = .ok (.aload_n 1, 1) := by decide +kernel
theorem dX4_copyFrom_38 : decode cX4_copyFrom 38 = .ok (.getfield 30, 3) := by decide +kernel
theorem dX4_copyFrom_41 : decode cX4_copyFrom 41 = .ok (.invokevirtual 67, 3) := by decide +kernel
theorem dX4_copyFrom_44 : decode cX4_copyFrom 44 = .ok (.aload_n 0, 1) := by decide +kernel
theorem dX4_copyFrom_45 : decode cX4_copyFrom 45 = .ok (.getfield 33, 3) := by decide +kernel
theorem dX4_copyFrom_48 : decode cX4_copyFrom 48 = .ok (.aload_n 1, 1) := by decide +kernel
theorem dX4_copyFrom_49 : decode cX4_copyFrom 49 = .ok (.getfield 33, 3) := by decide +kernel
theorem dX4_copyFrom_52 : decode cX4_copyFrom 52 = .ok (.invokevirtual 67, 3) := by decide +kernel
theorem dX4_copyFrom_55 : decode cX4_copyFrom 55 = .ok (.aload_n 0, 1) := by decide +kernel
theorem dX4_copyFrom_56 : decode cX4_copyFrom 56 = .ok (.aload_n 1, 1) := by decide +kernel
theorem dX4_copyFrom_57 : decode cX4_copyFrom 57 = .ok (.getfield 42, 3) := by decide +kernel
theorem dX4_copyFrom_60 : decode cX4_copyFrom 60 = .ok (.putfield 42, 3) := by decide +kernel
theorem dX4_copyFrom_63 : decode cX4_copyFrom 63 = .ok (.aload_n 0, 1) := by decide +kernel
theorem dX4_copyFrom_64 : decode cX4_copyFrom 64 = .ok (.aload_n 1, 1) := by decide +kernel
theorem dX4_copyFrom_65 : decode cX4_copyFrom 65 = .ok (.getfield 46, 3) := by decide +kernel
theorem dX4_copyFrom_68 : decode cX4_copyFrom 68 = .ok (.putfield 46, 3) := by decide +kernel
theorem dX4_copyFrom_71 : decode cX4_copyFrom 71 = .ok (.aload_n 0, 1) := by decide +kernel
theorem dX4_copyFrom_72 : decode cX4_copyFrom 72 = .ok (.aload_n 1, 1) := by decide +kernel
theorem dX4_copyFrom_73 : decode cX4_copyFrom 73 = .ok (.getfield 49, 3) := by decide +kernel
theorem dX4_copyFrom_76 : decode cX4_copyFrom 76 = .ok (.putfield 49, 3) := by decide +kernel
theorem dX4_copyFrom_79 : decode cX4_copyFrom 79 = .ok (.aload_n 0, 1) := by decide +kernel
theorem dX4_copyFrom_80 : decode cX4_copyFrom 80 = .ok (.aload_n 1, 1) := by decide +kernel
theorem dX4_copyFrom_81 : decode cX4_copyFrom 81 = .ok (.getfield 52, 3) := by decide +kernel
theorem dX4_copyFrom_84 : decode cX4_copyFrom 84 = .ok (.putfield 52, 3) := by decide +kernel
theorem dX4_copyFrom_87 : decode cX4_copyFrom 87 = .ok (.aload_n 0, 1) := by decide +kernel
theorem dX4_copyFrom_88 : decode cX4_copyFrom 88 = .ok (.aload_n 1, 1) := by decide +kernel
theorem dX4_copyFrom_89 : decode cX4_copyFrom 89 = .ok (.getfield 55, 3) := by decide +kernel
theorem dX4_copyFrom_92 : decode cX4_copyFrom 92 = .ok (.putfield 55, 3) := by decide +kernel
theorem dX4_copyFrom_95 : decode cX4_copyFrom 95 = .ok (.iconst 0, 1) := by decide +kernel
theorem dX4_copyFrom_96 : decode cX4_copyFrom 96 = .ok (.istore_n 2, 1) := by decide +kernel
theorem dX4_copyFrom_97 : decode cX4_copyFrom 97 = .ok (.iload_n 2, 1) := by decide +kernel
theorem dX4_copyFrom_98 : decode cX4_copyFrom 98 = .ok (.aload_n 0, 1) := by decide +kernel
theorem dX4_copyFrom_99 : decode cX4_copyFrom 99 = .ok (.getfield 42, 3) := by decide +kernel
theorem dX4_copyFrom_102 : decode cX4_copyFrom 102 = .ok (.if_icmp .ge 37, 3) := by decide +kernel
theorem dX4_copyFrom_105 : decode cX4_copyFrom 105 = .ok (.aload_n 0, 1) := by decide +kernel
theorem dX4_copyFrom_106 : decode cX4_copyFrom 106 = .ok (.iload_n 2, 1) := by decide +kernel
theorem dX4_copyFrom_107 : decode cX4_copyFrom 107 = .ok (.invokevirtual 70, 3) := by decide +kernel
theorem dX4_copyFrom_110 : decode cX4_copyFrom 110 = .ok (.astore_n 3, 1) := by decide +kernel
theorem dX4_copyFrom_111 : decode cX4_copyFrom 111 = .ok (.aload_n 1, 1) := by decide +kernel
theorem dX4_copyFrom_112 : decode cX4_copyFrom 112 = .ok (.iload_n 2, 1) := by decide +kernel
theorem dX4_copyFrom_113 : decode cX4_copyFrom 113 = .ok (.invokevirtual 70, 3) := by decide +kernel
theorem dX4_copyFrom_116 : decode cX4_copyFrom 116 = .ok (.astore 4, 2) := by decide +kernel
theorem dX4_copyFrom_118 : decode cX4_copyFrom 118 = .ok (.aload_n 3, 1) := by decide +kernel
theorem dX4_copyFrom_119 : decode cX4_copyFrom 119 = .ok (.ifnull 14, 3) := by decide +kernel
theorem dX4_copyFrom_122 : decode cX4_copyFrom 122 = .ok (.aload 4, 2) := by decide +kernel
theorem dX4_copyFrom_124 : decode cX4_copyFrom 124 = .ok (.ifnull 9, 3) := by decide +kernel
theorem dX4_copyFrom_127 : decode cX4_copyFrom 127 = .ok (.aload_n 3, 1) := by decide +kernel
theorem dX4_copyFrom_128 : decode cX4_copyFrom 128 = .ok (.aload 4, 2) := by decide +kernel
theorem dX4_copyFrom_130 : decode cX4_copyFrom 130 = .ok (.invokevirtual 74, 3) := by decide +kernel
theorem dX4_copyFrom_133 : decode cX4_copyFrom 133 = .ok (.iinc 2 1, 3) := by decide +kernel
theorem dX4_copyFrom_136 : decode cX4_copyFrom 136 = .ok (.goto (-39), 3) := by decide +kernel
theorem dX4_copyFrom_139 : decode cX4_copyFrom 139 = .ok (.return_, 1) := by decide +kernel
theorem dX4_lane_0 : decode cX4_lane 0 = .ok (.iload_n 1, 1) := by decide +kernel
theorem dX4_lane_1 : decode cX4_lane 1 = .ok (.lookupswitch 37 #[(0, 27), (1, 32)], 27) := by decide +kernel
theorem dX4_lane_28 : decode cX4_lane 28 = .ok (.aload_n 0, 1) := by decide +kernel
theorem dX4_lane_29 : decode cX4_lane 29 = .ok (.getfield 26, 3) := by decide +kernel
theorem dX4_lane_32 : decode cX4_lane 32 = .ok (.areturn, 1) := by decide +kernel
theorem dX4_lane_33 : decode cX4_lane 33 = .ok (.aload_n 0, 1) := by decide +kernel
theorem dX4_lane_34 : decode cX4_lane 34 = .ok (.getfield 30, 3) := by decide +kernel
theorem dX4_lane_37 : decode cX4_lane 37 = .ok (.areturn, 1) := by decide +kernel
theorem dX4_lane_38 : decode cX4_lane 38 = .ok (.aload_n 0, 1) := by decide +kernel
theorem dX4_lane_39 : decode cX4_lane 39 = .ok (.getfield 33, 3) := by decide +kernel
theorem dX4_lane_42 : decode cX4_lane 42 = .ok (.areturn, 1) := by decide +kernel
theorem dX4_find_0 : decode cX4_find 0 = .ok (.iload_n 1, 1) := by decide +kernel
theorem dX4_find_1 : decode cX4_find 1 = .ok (.ifCond .lt 29, 3) := by decide +kernel
theorem dX4_find_4 : decode cX4_find 4 = .ok (.iload_n 1, 1) := by decide +kernel
theorem dX4_find_5 : decode cX4_find 5 = .ok (.aload_n 0, 1) := by decide +kernel
theorem dX4_find_6 : decode cX4_find 6 = .ok (.getfield 42, 3) := by decide +kernel
theorem dX4_find_9 : decode cX4_find 9 = .ok (.if_icmp .ge 21, 3) := by decide +kernel
theorem dX4_find_12 : decode cX4_find 12 = .ok (.iload_n 1, 1) := by decide +kernel
theorem dX4_find_13 : decode cX4_find 13 = .ok (.aload_n 0, 1) := by decide +kernel
theorem dX4_find_14 : decode cX4_find 14 = .ok (.getfield 38, 3) := by decide +kernel
theorem dX4_find_17 : decode cX4_find 17 = .ok (.arraylength, 1) := by decide +kernel
theorem dX4_find_18 : decode cX4_find 18 = .ok (.if_icmp .ge 12, 3) := by decide +kernel
theorem dX4_find_21 : decode cX4_find 21 = .ok (.aload_n 0, 1) := by decide +kernel
theorem dX4_find_22 : decode cX4_find 22 = .ok (.getfield 38, 3) := by decide +kernel
theorem dX4_find_25 : decode cX4_find 25 = .ok (.iload_n 1, 1) := by decide +kernel
theorem dX4_find_26 : decode cX4_find 26 = .ok (.aaload, 1) := by decide +kernel
theorem dX4_find_27 : decode cX4_find 27 = .ok (.goto 4, 3) := by decide +kernel
theorem dX4_find_30 : decode cX4_find 30 = .ok (.aconst_null, 1) := by decide +kernel
theorem dX4_find_31 : decode cX4_find 31 = .ok (.areturn, 1) := by decide +kernel
set_option maxRecDepth 20000 in
theorem ggX4_errorOfOffer_X6_isKind : GoodIn wsX4_errorOfOffer wsX6_isKind := goodIn_r _ [7] (by decide +kernel) (by decide +kernel)
set_option maxRecDepth 20000 in
theorem gX4_errorOfOffer_X6_isKind_n77 : GoodIn wsX4_errorOfOffer (wsX6_isKind) := ggX4_errorOfOffer_X6_isKind
set_option maxRecDepth 20000 in
theorem ggX4_errorOfOffer_X6_isShape : GoodIn wsX4_errorOfOffer wsX6_isShape := goodIn_r _ [9] (by decide +kernel) (by decide +kernel)
set_option maxRecDepth 20000 in
theorem gX4_errorOfOffer_X6_isShape_n81 : GoodIn wsX4_errorOfOffer (wsX6_isShape) := ggX4_errorOfOffer_X6_isShape
set_option maxRecDepth 20000 in
theorem ggX4_errorOfOffer_X6_isBetween : GoodIn wsX4_errorOfOffer wsX6_isBetween := goodIn_r _ [11] (by decide +kernel) (by decide +kernel)
set_option maxRecDepth 20000 in
theorem gX4_errorOfOffer_X6_isBetween_n85 : GoodIn wsX4_errorOfOffer (wsX6_isBetween) := ggX4_errorOfOffer_X6_isBetween
theorem dX4_errorOfOffer_0 : decode cX4_errorOfOffer 0 = .ok (.iload_n 1, 1) := by decide +kernel
theorem dX4_errorOfOffer_1 : decode cX4_errorOfOffer 1 = .ok (.invokestatic 77, 3) := by decide +kernel
theorem dX4_errorOfOffer_4 : decode cX4_errorOfOffer 4 = .ok (.ifCond .eq 10, 3) := by decide +kernel
theorem dX4_errorOfOffer_7 : decode cX4_errorOfOffer 7 = .ok (.iload_n 2, 1) := by decide +kernel
theorem dX4_errorOfOffer_8 : decode cX4_errorOfOffer 8 = .ok (.invokestatic 81, 3) := by decide +kernel
theorem dX4_errorOfOffer_11 : decode cX4_errorOfOffer 11 = .ok (.ifCond .ne 6, 3) := by decide +kernel
theorem dX4_errorOfOffer_14 : decode cX4_errorOfOffer 14 = .ok (.ldc 84, 2) := by decide +kernel
theorem dX4_errorOfOffer_16 : decode cX4_errorOfOffer 16 = .ok (.ireturn, 1) := by decide +kernel
theorem dX4_errorOfOffer_17 : decode cX4_errorOfOffer 17 = .ok (.iconst 1, 1) := by decide +kernel
theorem dX4_errorOfOffer_18 : decode cX4_errorOfOffer 18 = .ok (.iload_n 3, 1) := by decide +kernel
theorem dX4_errorOfOffer_19 : decode cX4_errorOfOffer 19 = .ok (.bipush 60, 2) := by decide +kernel
theorem dX4_errorOfOffer_21 : decode cX4_errorOfOffer 21 = .ok (.invokestatic 85, 3) := by decide +kernel
theorem dX4_errorOfOffer_24 : decode cX4_errorOfOffer 24 = .ok (.ifCond .ne 6, 3) := by decide +kernel
theorem dX4_errorOfOffer_27 : decode cX4_errorOfOffer 27 = .ok (.ldc 89, 2) := by decide +kernel
theorem dX4_errorOfOffer_29 : decode cX4_errorOfOffer 29 = .ok (.ireturn, 1) := by decide +kernel
theorem dX4_errorOfOffer_30 : decode cX4_errorOfOffer 30 = .ok (.aload_n 0, 1) := by decide +kernel
theorem dX4_errorOfOffer_31 : decode cX4_errorOfOffer 31 = .ok (.getfield 42, 3) := by decide +kernel
theorem dX4_errorOfOffer_34 : decode cX4_errorOfOffer 34 = .ok (.bipush 32, 2) := by decide +kernel
theorem dX4_errorOfOffer_36 : decode cX4_errorOfOffer 36 = .ok (.if_icmp .lt 8, 3) := by decide +kernel
theorem dX4_errorOfOffer_39 : decode cX4_errorOfOffer 39 = .ok (.ldc 90, 2) := by decide +kernel
theorem dX4_errorOfOffer_41 : decode cX4_errorOfOffer 41 = .ok (.goto 4, 3) := by decide +kernel
theorem dX4_errorOfOffer_44 : decode cX4_errorOfOffer 44 = .ok (.iconst 0, 1) := by decide +kernel
theorem dX4_errorOfOffer_45 : decode cX4_errorOfOffer 45 = .ok (.ireturn, 1) := by decide +kernel
set_option maxRecDepth 20000 in
theorem ggX4_errorOfTicks_X6_isBetween : GoodIn wsX4_errorOfTicks wsX6_isBetween := goodIn_r _ [6] (by decide +kernel) (by decide +kernel)
set_option maxRecDepth 20000 in
theorem gX4_errorOfTicks_X6_isBetween_n85 : GoodIn wsX4_errorOfTicks (wsX6_isBetween) := ggX4_errorOfTicks_X6_isBetween
theorem dX4_errorOfTicks_0 : decode cX4_errorOfTicks 0 = .ok (.iconst 1, 1) := by decide +kernel
theorem dX4_errorOfTicks_1 : decode cX4_errorOfTicks 1 = .ok (.iload_n 1, 1) := by decide +kernel
theorem dX4_errorOfTicks_2 : decode cX4_errorOfTicks 2 = .ok (.bipush 99, 2) := by decide +kernel
theorem dX4_errorOfTicks_4 : decode cX4_errorOfTicks 4 = .ok (.invokestatic 85, 3) := by decide +kernel
theorem dX4_errorOfTicks_7 : decode cX4_errorOfTicks 7 = .ok (.ifCond .ne 6, 3) := by decide +kernel
theorem dX4_errorOfTicks_10 : decode cX4_errorOfTicks 10 = .ok (.ldc 89, 2) := by decide +kernel
theorem dX4_errorOfTicks_12 : decode cX4_errorOfTicks 12 = .ok (.ireturn, 1) := by decide +kernel
theorem dX4_errorOfTicks_13 : decode cX4_errorOfTicks 13 = .ok (.aload_n 0, 1) := by decide +kernel
theorem dX4_errorOfTicks_14 : decode cX4_errorOfTicks 14 = .ok (.getfield 52, 3) := by decide +kernel
theorem dX4_errorOfTicks_17 : decode cX4_errorOfTicks 17 = .ok (.iload_n 1, 1) := by decide +kernel
theorem dX4_errorOfTicks_18 : decode cX4_errorOfTicks 18 = .ok (.iadd, 1) := by decide +kernel
theorem dX4_errorOfTicks_19 : decode cX4_errorOfTicks 19 = .ok (.sipush 999, 3) := by decide +kernel
theorem dX4_errorOfTicks_22 : decode cX4_errorOfTicks 22 = .ok (.if_icmp .le 8, 3) := by decide +kernel
theorem dX4_errorOfTicks_25 : decode cX4_errorOfTicks 25 = .ok (.ldc 90, 2) := by decide +kernel
theorem dX4_errorOfTicks_27 : decode cX4_errorOfTicks 27 = .ok (.goto 4, 3) := by decide +kernel
theorem dX4_errorOfTicks_30 : decode cX4_errorOfTicks 30 = .ok (.iconst 0, 1) := by decide +kernel
theorem dX4_errorOfTicks_31 : decode cX4_errorOfTicks 31 = .ok (.ireturn, 1) := by decide +kernel
set_option maxRecDepth 20000 in
theorem ggX4_offerNew_X2_begin : GoodIn wsX4_offerNew wsX2_begin := goodIn_r _ [9, 10, 11, 12, 13, 14, 15, 16, 17, 18, 19, 116, 117, 118, 119, 120, 121, 122, 123, 124, 125, 126] (by decide +kernel) (by decide +kernel)
set_option maxRecDepth 20000 in
theorem gX4_offerNew_X2_begin : GoodIn wsX4_offerNew (wsV RX4 91 RX2 yX2_begin wsX2_begin) := goodIn_app (goodIn_of _ (by decide +kernel)) ggX4_offerNew_X2_begin
set_option maxRecDepth 20000 in
theorem ggX4_offerNew_X4_offerNow : GoodIn wsX4_offerNew wsX4_offerNow := goodIn_r _ [24, 25, 26, 27, 28, 29, 30, 31, 23, 32, 33, 34, 35, 36, 37, 38, 39, 40, 41, 42, 43, 44, 45, 46, 47, 48, 49, 50, 51, 52, 53, 54, 55, 56, 57, 58, 59, 60, 61, 62, 63, 64, 65, 66, 67, 68, 1, 2, 69, 70, 71, 72, 73, 74, 75, 76, 77, 78, 79, 80, 81, 82, 83, 84, 85, 86, 87, 88, 89, 90, 91, 92, 93, 94, 95, 96, 97, 98, 99, 100, 101, 102, 4, 103, 104, 116, 117, 118, 119, 120, 121, 122, 123, 124, 125, 126, 105, 106, 107, 108, 109, 110, 111, 112, 113, 114, 115, 127, 128, 129, 130, 131, 132, 133, 134] (by decide +kernel) (by decide +kernel)
set_option maxRecDepth 20000 in
theorem gX4_offerNew_X4_offerNow : GoodIn wsX4_offerNew (wsV RX4 95 RX4 yX4_offerNow wsX4_offerNow) := goodIn_app (goodIn_of _ (by decide +kernel)) ggX4_offerNew_X4_offerNow
theorem dX4_offerNew_0 : decode cX4_offerNew 0 = .ok (.aload_n 0, 1) := by decide +kernel
theorem dX4_offerNew_1 : decode cX4_offerNew 1 = .ok (.getfield 42, 3) := by decide +kernel
theorem dX4_offerNew_4 : decode cX4_offerNew 4 = .ok (.ifCond .lt 27, 3) := by decide +kernel
theorem dX4_offerNew_7 : decode cX4_offerNew 7 = .ok (.aload_n 0, 1) := by decide +kernel
theorem dX4_offerNew_8 : decode cX4_offerNew 8 = .ok (.getfield 42, 3) := by decide +kernel
theorem dX4_offerNew_11 : decode cX4_offerNew 11 = .ok (.aload_n 0, 1) := by decide +kernel
theorem dX4_offerNew_12 : decode cX4_offerNew 12 = .ok (.getfield 38, 3) := by decide +kernel
theorem dX4_offerNew_15 : decode cX4_offerNew 15 = .ok (.arraylength, 1) := by decide +kernel
theorem dX4_offerNew_16 : decode cX4_offerNew 16 = .ok (.if_icmp .ge 15, 3) := by decide +kernel
theorem dX4_offerNew_19 : decode cX4_offerNew 19 = .ok (.aload_n 0, 1) := by decide +kernel
theorem dX4_offerNew_20 : decode cX4_offerNew 20 = .ok (.getfield 38, 3) := by decide +kernel
theorem dX4_offerNew_23 : decode cX4_offerNew 23 = .ok (.aload_n 0, 1) := by decide +kernel
theorem dX4_offerNew_24 : decode cX4_offerNew 24 = .ok (.getfield 42, 3) := by decide +kernel
theorem dX4_offerNew_27 : decode cX4_offerNew 27 = .ok (.aaload, 1) := by decide +kernel
theorem dX4_offerNew_28 : decode cX4_offerNew 28 = .ok (.goto 4, 3) := by decide +kernel
theorem dX4_offerNew_31 : decode cX4_offerNew 31 = .ok (.aconst_null, 1) := by decide +kernel
theorem dX4_offerNew_32 : decode cX4_offerNew 32 = .ok (.astore 4, 2) := by decide +kernel
theorem dX4_offerNew_34 : decode cX4_offerNew 34 = .ok (.aload 4, 2) := by decide +kernel
theorem dX4_offerNew_36 : decode cX4_offerNew 36 = .ok (.ifnonnull 6, 3) := by decide +kernel
theorem dX4_offerNew_39 : decode cX4_offerNew 39 = .ok (.ldc 90, 2) := by decide +kernel
theorem dX4_offerNew_41 : decode cX4_offerNew 41 = .ok (.ireturn, 1) := by decide +kernel
theorem dX4_offerNew_42 : decode cX4_offerNew 42 = .ok (.aload_n 0, 1) := by decide +kernel
theorem dX4_offerNew_43 : decode cX4_offerNew 43 = .ok (.dup, 1) := by decide +kernel
theorem dX4_offerNew_44 : decode cX4_offerNew 44 = .ok (.getfield 42, 3) := by decide +kernel
theorem dX4_offerNew_47 : decode cX4_offerNew 47 = .ok (.iconst 1, 1) := by decide +kernel
theorem dX4_offerNew_48 : decode cX4_offerNew 48 = .ok (.iadd, 1) := by decide +kernel
theorem dX4_offerNew_49 : decode cX4_offerNew 49 = .ok (.putfield 42, 3) := by decide +kernel
theorem dX4_offerNew_52 : decode cX4_offerNew 52 = .ok (.aload_n 0, 1) := by decide +kernel
theorem dX4_offerNew_53 : decode cX4_offerNew 53 = .ok (.dup, 1) := by decide +kernel
theorem dX4_offerNew_54 : decode cX4_offerNew 54 = .ok (.getfield 46, 3) := by decide +kernel
theorem dX4_offerNew_57 : decode cX4_offerNew 57 = .ok (.iconst 1, 1) := by decide +kernel
theorem dX4_offerNew_58 : decode cX4_offerNew 58 = .ok (.iadd, 1) := by decide +kernel
theorem dX4_offerNew_59 : decode cX4_offerNew 59 = .ok (.putfield 46, 3) := by decide +kernel
theorem dX4_offerNew_62 : decode cX4_offerNew 62 = .ok (.aload 4, 2) := by decide +kernel
theorem dX4_offerNew_64 : decode cX4_offerNew 64 = .ok (.iload_n 1, 1) := by decide +kernel
theorem dX4_offerNew_65 : decode cX4_offerNew 65 = .ok (.iload_n 2, 1) := by decide +kernel
theorem dX4_offerNew_66 : decode cX4_offerNew 66 = .ok (.iload_n 3, 1) := by decide +kernel
theorem dX4_offerNew_67 : decode cX4_offerNew 67 = .ok (.invokevirtual 91, 3) := by decide +kernel
theorem dX4_offerNew_70 : decode cX4_offerNew 70 = .ok (.aload_n 0, 1) := by decide +kernel
theorem dX4_offerNew_71 : decode cX4_offerNew 71 = .ok (.aload 4, 2) := by decide +kernel
theorem dX4_offerNew_73 : decode cX4_offerNew 73 = .ok (.invokevirtual 95, 3) := by decide +kernel
theorem dX4_offerNew_76 : decode cX4_offerNew 76 = .ok (.ireturn, 1) := by decide +kernel
set_option maxRecDepth 20000 in
theorem ggX4_letPass_X4_tick : GoodIn wsX4_letPass wsX4_tick := goodIn_r _ [5, 6, 7, 8, 9, 10, 11, 12, 13, 14, 4, 15, 16, 17, 18, 19, 20, 21, 22, 23, 24, 25, 26, 27, 28, 29, 30, 31, 32, 33, 34, 35, 36, 37, 38, 39, 40, 41, 42, 43, 44, 45, 46, 47, 48, 49, 50, 51, 52, 53, 54, 55, 56, 57, 58, 59, 60, 61, 62, 63, 64, 65, 66, 67, 68, 69, 70, 71, 72, 73, 74, 75, 76, 77, 78, 79, 80, 81, 82, 83, 84, 85, 86, 87, 88, 89, 90, 91, 92, 93, 94, 95, 96, 97, 98, 99, 100, 101, 102, 103, 104, 105, 106, 107, 108, 109, 110, 111, 112, 113, 114, 115, 116, 117, 118, 119, 120, 121, 122, 123, 124, 125, 126, 127, 128, 129, 130, 131, 132, 133, 134, 135, 136, 137, 138, 139, 140, 141, 142, 143, 144, 145, 146, 147, 148, 149, 150, 151, 152, 153, 154, 155, 156, 157, 158, 159] (by decide +kernel) (by decide +kernel)
set_option maxRecDepth 20000 in
theorem gX4_letPass_X4_tick : GoodIn wsX4_letPass (wsV RX4 99 RX4 yX4_tick wsX4_tick) := goodIn_app (goodIn_of _ (by decide +kernel)) ggX4_letPass_X4_tick
theorem dX4_letPass_0 : decode cX4_letPass 0 = .ok (.iconst 0, 1) := by decide +kernel
theorem dX4_letPass_1 : decode cX4_letPass 1 = .ok (.istore_n 2, 1) := by decide +kernel
theorem dX4_letPass_2 : decode cX4_letPass 2 = .ok (.iconst 0, 1) := by decide +kernel
theorem dX4_letPass_3 : decode cX4_letPass 3 = .ok (.istore_n 3, 1) := by decide +kernel
theorem dX4_letPass_4 : decode cX4_letPass 4 = .ok (.iload_n 3, 1) := by decide +kernel
theorem dX4_letPass_5 : decode cX4_letPass 5 = .ok (.iload_n 1, 1) := by decide +kernel
theorem dX4_letPass_6 : decode cX4_letPass 6 = .ok (.if_icmp .ge 16, 3) := by decide +kernel
theorem dX4_letPass_9 : decode cX4_letPass 9 = .ok (.iload_n 2, 1) := by decide +kernel
theorem dX4_letPass_10 : decode cX4_letPass 10 = .ok (.aload_n 0, 1) := by decide +kernel
theorem dX4_letPass_11 : decode cX4_letPass 11 = .ok (.invokevirtual 99, 3) := by decide +kernel
theorem dX4_letPass_14 : decode cX4_letPass 14 = .ok (.iadd, 1) := by decide +kernel
theorem dX4_letPass_15 : decode cX4_letPass 15 = .ok (.istore_n 2, 1) := by decide +kernel
theorem dX4_letPass_16 : decode cX4_letPass 16 = .ok (.iinc 3 1, 3) := by decide +kernel
theorem dX4_letPass_19 : decode cX4_letPass 19 = .ok (.goto (-15), 3) := by decide +kernel
theorem dX4_letPass_22 : decode cX4_letPass 22 = .ok (.iload_n 2, 1) := by decide +kernel
theorem dX4_letPass_23 : decode cX4_letPass 23 = .ok (.ireturn, 1) := by decide +kernel
set_option maxRecDepth 20000 in
theorem ggX4_expectedCost_X3_at : GoodIn wsX4_expectedCost wsX3_at := goodIn_r _ [10, 11, 23] (by decide +kernel) (by decide +kernel)
set_option maxRecDepth 20000 in
theorem gX4_expectedCost_X3_at : GoodIn wsX4_expectedCost (wsV RX4 103 RX3 yX3_at wsX3_at) := goodIn_app (goodIn_of _ (by decide +kernel)) ggX4_expectedCost_X3_at
theorem dX4_expectedCost_0 : decode cX4_expectedCost 0 = .ok (.iconst 1, 1) := by decide +kernel
theorem dX4_expectedCost_1 : decode cX4_expectedCost 1 = .ok (.aload_n 0, 1) := by decide +kernel
theorem dX4_expectedCost_2 : decode cX4_expectedCost 2 = .ok (.getfield 20, 3) := by decide +kernel
theorem dX4_expectedCost_5 : decode cX4_expectedCost 5 = .ok (.iload_n 1, 1) := by decide +kernel
theorem dX4_expectedCost_6 : decode cX4_expectedCost 6 = .ok (.invokevirtual 103, 3) := by decide +kernel
theorem dX4_expectedCost_9 : decode cX4_expectedCost 9 = .ok (.bipush 16, 2) := by decide +kernel
theorem dX4_expectedCost_11 : decode cX4_expectedCost 11 = .ok (.idiv, 1) := by decide +kernel
theorem dX4_expectedCost_12 : decode cX4_expectedCost 12 = .ok (.invokestatic 107, 3) := by decide +kernel
theorem dX4_expectedCost_15 : decode cX4_expectedCost 15 = .ok (.ireturn, 1) := by decide +kernel
set_option maxRecDepth 20000 in
theorem ggX4_backlogOf_X3_at : GoodIn wsX4_backlogOf wsX3_at := goodIn_r _ [13, 14, 40] (by decide +kernel) (by decide +kernel)
set_option maxRecDepth 20000 in
theorem gX4_backlogOf_X3_at : GoodIn wsX4_backlogOf (wsV RX4 103 RX3 yX3_at wsX3_at) := goodIn_app (goodIn_of _ (by decide +kernel)) ggX4_backlogOf_X3_at
set_option maxRecDepth 20000 in
theorem ggX4_backlogOf_X4_find : GoodIn wsX4_backlogOf wsX4_find := goodIn_r _ [19, 20, 21, 41, 42, 43, 44, 45, 46, 47, 48, 49, 50, 51] (by decide +kernel) (by decide +kernel)
set_option maxRecDepth 20000 in
theorem gX4_backlogOf_X4_find : GoodIn wsX4_backlogOf (wsV RX4 70 RX4 yX4_find wsX4_find) := goodIn_app (goodIn_of _ (by decide +kernel)) ggX4_backlogOf_X4_find
theorem dX4_backlogOf_0 : decode cX4_backlogOf 0 = .ok (.iconst 0, 1) := by decide +kernel
theorem dX4_backlogOf_1 : decode cX4_backlogOf 1 = .ok (.istore_n 2, 1) := by decide +kernel
theorem dX4_backlogOf_2 : decode cX4_backlogOf 2 = .ok (.iconst 0, 1) := by decide +kernel
theorem dX4_backlogOf_3 : decode cX4_backlogOf 3 = .ok (.istore_n 3, 1) := by decide +kernel
theorem dX4_backlogOf_4 : decode cX4_backlogOf 4 = .ok (.iload_n 3, 1) := by decide +kernel
theorem dX4_backlogOf_5 : decode cX4_backlogOf 5 = .ok (.aload_n 1, 1) := by decide +kernel
theorem dX4_backlogOf_6 : decode cX4_backlogOf 6 = .ok (.getfield 113, 3) := by decide +kernel
theorem dX4_backlogOf_9 : decode cX4_backlogOf 9 = .ok (.if_icmp .ge 46, 3) := by decide +kernel
theorem dX4_backlogOf_12 : decode cX4_backlogOf 12 = .ok (.aload_n 0, 1) := by decide +kernel
theorem dX4_backlogOf_13 : decode cX4_backlogOf 13 = .ok (.aload_n 1, 1) := by decide +kernel
theorem dX4_backlogOf_14 : decode cX4_backlogOf 14 = .ok (.getfield 116, 3) := by decide +kernel
theorem dX4_backlogOf_17 : decode cX4_backlogOf 17 = .ok (.iload_n 3, 1) := by decide +kernel
theorem dX4_backlogOf_18 : decode cX4_backlogOf 18 = .ok (.invokevirtual 103, 3) := by decide +kernel
theorem dX4_backlogOf_21 : decode cX4_backlogOf 21 = .ok (.invokevirtual 70, 3) := by decide +kernel
theorem dX4_backlogOf_24 : decode cX4_backlogOf 24 = .ok (.astore 4, 2) := by decide +kernel
theorem dX4_backlogOf_26 : decode cX4_backlogOf 26 = .ok (.aload 4, 2) := by decide +kernel
theorem dX4_backlogOf_28 : decode cX4_backlogOf 28 = .ok (.ifnull 21, 3) := by decide +kernel
theorem dX4_backlogOf_31 : decode cX4_backlogOf 31 = .ok (.iload_n 2, 1) := by decide +kernel
theorem dX4_backlogOf_32 : decode cX4_backlogOf 32 = .ok (.iconst 1, 1) := by decide +kernel
theorem dX4_backlogOf_33 : decode cX4_backlogOf 33 = .ok (.aload 4, 2) := by decide +kernel
theorem dX4_backlogOf_35 : decode cX4_backlogOf 35 = .ok (.getfield 119, 3) := by decide +kernel
theorem dX4_backlogOf_38 : decode cX4_backlogOf 38 = .ok (.aload 4, 2) := by decide +kernel
theorem dX4_backlogOf_40 : decode cX4_backlogOf 40 = .ok (.getfield 122, 3) := by decide +kernel
theorem dX4_backlogOf_43 : decode cX4_backlogOf 43 = .ok (.isub, 1) := by decide +kernel
theorem dX4_backlogOf_44 : decode cX4_backlogOf 44 = .ok (.invokestatic 107, 3) := by decide +kernel
theorem dX4_backlogOf_47 : decode cX4_backlogOf 47 = .ok (.iadd, 1) := by decide +kernel
theorem dX4_backlogOf_48 : decode cX4_backlogOf 48 = .ok (.istore_n 2, 1) := by decide +kernel
theorem dX4_backlogOf_49 : decode cX4_backlogOf 49 = .ok (.iinc 3 1, 3) := by decide +kernel
theorem dX4_backlogOf_52 : decode cX4_backlogOf 52 = .ok (.goto (-48), 3) := by decide +kernel
theorem dX4_backlogOf_55 : decode cX4_backlogOf 55 = .ok (.iload_n 2, 1) := by decide +kernel
theorem dX4_backlogOf_56 : decode cX4_backlogOf 56 = .ok (.ireturn, 1) := by decide +kernel
set_option maxRecDepth 20000 in
theorem ggX4_firstRefusal_X3_at : GoodIn wsX4_firstRefusal wsX3_at := goodIn_r _ [12, 13, 53] (by decide +kernel) (by decide +kernel)
set_option maxRecDepth 20000 in
theorem gX4_firstRefusal_X3_at : GoodIn wsX4_firstRefusal (wsV RX4 103 RX3 yX3_at wsX3_at) := goodIn_app (goodIn_of _ (by decide +kernel)) ggX4_firstRefusal_X3_at
set_option maxRecDepth 20000 in
theorem ggX4_firstRefusal_X4_backlogOf : GoodIn wsX4_firstRefusal wsX4_backlogOf := goodIn_r _ [18, 2, 19, 20, 21, 22, 23, 24, 25, 8, 9, 10, 11, 12, 13, 26, 27, 28, 17, 29, 30, 31, 35, 36, 37, 38, 39, 40, 41, 54, 55, 56, 57, 58, 59, 60, 61, 62, 63, 64, 53, 42, 43, 44, 45, 46, 47, 48, 49, 50, 51, 52] (by decide +kernel) (by decide +kernel)
set_option maxRecDepth 20000 in
theorem gX4_firstRefusal_X4_backlogOf : GoodIn wsX4_firstRefusal (wsV RX4 126 RX4 yX4_backlogOf wsX4_backlogOf) := goodIn_app (goodIn_of _ (by decide +kernel)) ggX4_firstRefusal_X4_backlogOf
set_option maxRecDepth 20000 in
theorem ggX4_firstRefusal_X6_quotient : GoodIn wsX4_firstRefusal wsX6_quotient := goodIn_r _ [34] (by decide +kernel) (by decide +kernel)
set_option maxRecDepth 20000 in
theorem gX4_firstRefusal_X6_quotient_n130 : GoodIn wsX4_firstRefusal (wsX6_quotient) := ggX4_firstRefusal_X6_quotient
theorem dX4_firstRefusal_0 : decode cX4_firstRefusal 0 = .ok (.iload_n 2, 1) := by decide +kernel
theorem dX4_firstRefusal_1 : decode cX4_firstRefusal 1 = .ok (.aload_n 1, 1) := by decide +kernel
theorem dX4_firstRefusal_2 : decode cX4_firstRefusal 2 = .ok (.getfield 125, 3) := by decide +kernel
theorem dX4_firstRefusal_5 : decode cX4_firstRefusal 5 = .ok (.iconst 3, 1) := by decide +kernel
theorem dX4_firstRefusal_6 : decode cX4_firstRefusal 6 = .ok (.invokevirtual 103, 3) := by decide +kernel
theorem dX4_firstRefusal_9 : decode cX4_firstRefusal 9 = .ok (.if_icmp .le 5, 3) := by decide +kernel
theorem dX4_firstRefusal_12 : decode cX4_firstRefusal 12 = .ok (.iconst 1, 1) := by decide +kernel
theorem dX4_firstRefusal_13 : decode cX4_firstRefusal 13 = .ok (.ireturn, 1) := by decide +kernel
theorem dX4_firstRefusal_14 : decode cX4_firstRefusal 14 = .ok (.aload_n 1, 1) := by decide +kernel
theorem dX4_firstRefusal_15 : decode cX4_firstRefusal 15 = .ok (.getfield 113, 3) := by decide +kernel
theorem dX4_firstRefusal_18 : decode cX4_firstRefusal 18 = .ok (.bipush 8, 2) := by decide +kernel
theorem dX4_firstRefusal_20 : decode cX4_firstRefusal 20 = .ok (.if_icmp .lt 5, 3) := by decide +kernel
theorem dX4_firstRefusal_23 : decode cX4_firstRefusal 23 = .ok (.iconst 2, 1) := by decide +kernel
theorem dX4_firstRefusal_24 : decode cX4_firstRefusal 24 = .ok (.ireturn, 1) := by decide +kernel
theorem dX4_firstRefusal_25 : decode cX4_firstRefusal 25 = .ok (.aload_n 0, 1) := by decide +kernel
theorem dX4_firstRefusal_26 : decode cX4_firstRefusal 26 = .ok (.getfield 26, 3) := by decide +kernel
theorem dX4_firstRefusal_29 : decode cX4_firstRefusal 29 = .ok (.getfield 125, 3) := by decide +kernel
theorem dX4_firstRefusal_32 : decode cX4_firstRefusal 32 = .ok (.iconst 0, 1) := by decide +kernel
theorem dX4_firstRefusal_33 : decode cX4_firstRefusal 33 = .ok (.invokevirtual 103, 3) := by decide +kernel
theorem dX4_firstRefusal_36 : decode cX4_firstRefusal 36 = .ok (.aload_n 0, 1) := by decide +kernel
theorem dX4_firstRefusal_37 : decode cX4_firstRefusal 37 = .ok (.getfield 30, 3) := by decide +kernel
theorem dX4_firstRefusal_40 : decode cX4_firstRefusal 40 = .ok (.getfield 125, 3) := by decide +kernel
theorem dX4_firstRefusal_43 : decode cX4_firstRefusal 43 = .ok (.iconst 0, 1) := by decide +kernel
theorem dX4_firstRefusal_44 : decode cX4_firstRefusal 44 = .ok (.invokevirtual 103, 3) := by decide +kernel
theorem dX4_firstRefusal_47 : decode cX4_firstRefusal 47 = .ok (.iadd, 1) := by decide +kernel
theorem dX4_firstRefusal_48 : decode cX4_firstRefusal 48 = .ok (.aload_n 0, 1) := by decide +kernel
theorem dX4_firstRefusal_49 : decode cX4_firstRefusal 49 = .ok (.getfield 33, 3) := by decide +kernel
theorem dX4_firstRefusal_52 : decode cX4_firstRefusal 52 = .ok (.getfield 125, 3) := by decide +kernel
theorem dX4_firstRefusal_55 : decode cX4_firstRefusal 55 = .ok (.iconst 0, 1) := by decide +kernel
theorem dX4_firstRefusal_56 : decode cX4_firstRefusal 56 = .ok (.invokevirtual 103, 3) := by decide +kernel
theorem dX4_firstRefusal_59 : decode cX4_firstRefusal 59 = .ok (.iadd, 1) := by decide +kernel
theorem dX4_firstRefusal_60 : decode cX4_firstRefusal 60 = .ok (.istore_n 3, 1) := by decide +kernel
theorem dX4_firstRefusal_61 : decode cX4_firstRefusal 61 = .ok (.aload_n 1, 1) := by decide +kernel
theorem dX4_firstRefusal_62 : decode cX4_firstRefusal 62 = .ok (.getfield 125, 3) := by decide +kernel
theorem dX4_firstRefusal_65 : decode cX4_firstRefusal 65 = .ok (.iconst 0, 1) := by decide +kernel
theorem dX4_firstRefusal_66 : decode cX4_firstRefusal 66 = .ok (.invokevirtual 103, 3) := by decide +kernel
theorem dX4_firstRefusal_69 : decode cX4_firstRefusal 69 = .ok (.aload_n 0, 1) := by decide +kernel
theorem dX4_firstRefusal_70 : decode cX4_firstRefusal 70 = .ok (.getfield 14, 3) := by decide +kernel
theorem dX4_firstRefusal_73 : decode cX4_firstRefusal 73 = .ok (.iconst 0, 1) := by decide +kernel
theorem dX4_firstRefusal_74 : decode cX4_firstRefusal 74 = .ok (.invokevirtual 103, 3) := by decide +kernel
theorem dX4_firstRefusal_77 : decode cX4_firstRefusal 77 = .ok (.imul, 1) := by decide +kernel
theorem dX4_firstRefusal_78 : decode cX4_firstRefusal 78 = .ok (.istore 4, 2) := by decide +kernel
theorem dX4_firstRefusal_80 : decode cX4_firstRefusal 80 = .ok (.aload_n 0, 1) := by decide +kernel
theorem dX4_firstRefusal_81 : decode cX4_firstRefusal 81 = .ok (.aload_n 1, 1) := by decide +kernel
theorem dX4_firstRefusal_82 : decode cX4_firstRefusal 82 = .ok (.invokevirtual 126, 3) := by decide +kernel
theorem dX4_firstRefusal_85 : decode cX4_firstRefusal 85 = .ok (.iload_n 2, 1) := by decide +kernel
theorem dX4_firstRefusal_86 : decode cX4_firstRefusal 86 = .ok (.iadd, 1) := by decide +kernel
theorem dX4_firstRefusal_87 : decode cX4_firstRefusal 87 = .ok (.iload_n 3, 1) := by decide +kernel
theorem dX4_firstRefusal_88 : decode cX4_firstRefusal 88 = .ok (.imul, 1) := by decide +kernel
theorem dX4_firstRefusal_89 : decode cX4_firstRefusal 89 = .ok (.iload 4, 2) := by decide +kernel
theorem dX4_firstRefusal_91 : decode cX4_firstRefusal 91 = .ok (.invokestatic 130, 3) := by decide +kernel
theorem dX4_firstRefusal_94 : decode cX4_firstRefusal 94 = .ok (.istore 5, 2) := by decide +kernel
theorem dX4_firstRefusal_96 : decode cX4_firstRefusal 96 = .ok (.iload 5, 2) := by decide +kernel
theorem dX4_firstRefusal_98 : decode cX4_firstRefusal 98 = .ok (.aload_n 0, 1) := by decide +kernel
theorem dX4_firstRefusal_99 : decode cX4_firstRefusal 99 = .ok (.getfield 14, 3) := by decide +kernel
theorem dX4_firstRefusal_102 : decode cX4_firstRefusal 102 = .ok (.iconst 1, 1) := by decide +kernel
theorem dX4_firstRefusal_103 : decode cX4_firstRefusal 103 = .ok (.invokevirtual 103, 3) := by decide +kernel
theorem dX4_firstRefusal_106 : decode cX4_firstRefusal 106 = .ok (.if_icmp .le 5, 3) := by decide +kernel
theorem dX4_firstRefusal_109 : decode cX4_firstRefusal 109 = .ok (.iconst 3, 1) := by decide +kernel
theorem dX4_firstRefusal_110 : decode cX4_firstRefusal 110 = .ok (.ireturn, 1) := by decide +kernel
theorem dX4_firstRefusal_111 : decode cX4_firstRefusal 111 = .ok (.aload_n 1, 1) := by decide +kernel
theorem dX4_firstRefusal_112 : decode cX4_firstRefusal 112 = .ok (.getfield 133, 3) := by decide +kernel
theorem dX4_firstRefusal_115 : decode cX4_firstRefusal 115 = .ok (.iload_n 2, 1) := by decide +kernel
theorem dX4_firstRefusal_116 : decode cX4_firstRefusal 116 = .ok (.if_icmp .ge 7, 3) := by decide +kernel
end
section
theorem dX4_firstRefusal_119 : decode cX4_firstRefusal 119 = .ok (.iconst 4, 1) := by decide +kernel
theorem dX4_firstRefusal_120 : decode cX4_firstRefusal 120 = .ok (.goto 4, 3) := by decide +kernel
theorem dX4_firstRefusal_123 : decode cX4_firstRefusal 123 = .ok (.iconst 0, 1) := by decide +kernel
theorem dX4_firstRefusal_124 : decode cX4_firstRefusal 124 = .ok (.ireturn, 1) := by decide +kernel
set_option maxRecDepth 20000 in
theorem ggX4_offerNow_X4_expectedCost : GoodIn wsX4_offerNow wsX4_expectedCost := goodIn_r _ [9, 10, 11, 12, 13, 14, 15, 16, 17, 18, 19, 20, 96, 97, 98, 99, 100, 101, 102, 103, 104, 105, 106, 107] (by decide +kernel) (by decide +kernel)
set_option maxRecDepth 20000 in
theorem gX4_offerNow_X4_expectedCost : GoodIn wsX4_offerNow (wsV RX4 139 RX4 yX4_expectedCost wsX4_expectedCost) := goodIn_app (goodIn_of _ (by decide +kernel)) ggX4_offerNow_X4_expectedCost
set_option maxRecDepth 20000 in
theorem ggX4_offerNow_X4_lane : GoodIn wsX4_offerNow wsX4_lane := goodIn_r _ [24, 25, 26, 27, 96, 97, 98, 99, 100, 101, 102, 103, 104, 105, 106] (by decide +kernel) (by decide +kernel)
set_option maxRecDepth 20000 in
theorem gX4_offerNow_X4_lane : GoodIn wsX4_offerNow (wsV RX4 148 RX4 yX4_lane wsX4_lane) := goodIn_app (goodIn_of _ (by decide +kernel)) ggX4_offerNow_X4_lane
set_option maxRecDepth 20000 in
theorem ggX4_offerNow_X4_firstRefusal : GoodIn wsX4_offerNow wsX4_firstRefusal := goodIn_r _ [31, 32, 33, 25, 26, 27, 34, 35, 15, 16, 17, 18, 19, 20, 36, 37, 38, 8, 39, 40, 2, 41, 11, 12, 13, 14, 42, 43, 44, 45, 46, 47, 48, 49, 50, 108, 109, 110, 111, 112, 113, 114, 96, 97, 98, 99, 100, 101, 102, 103, 104, 105, 106, 107, 85, 86, 87, 88, 89, 90, 91, 92, 93, 94, 95] (by decide +kernel) (by decide +kernel)
set_option maxRecDepth 20000 in
theorem gX4_offerNow_X4_firstRefusal : GoodIn wsX4_offerNow (wsV RX4 152 RX4 yX4_firstRefusal wsX4_firstRefusal) := goodIn_app (goodIn_of _ (by decide +kernel)) ggX4_offerNow_X4_firstRefusal
set_option maxRecDepth 20000 in
theorem ggX4_offerNow_X4_admit : GoodIn wsX4_offerNow wsX4_admit := goodIn_r _ [54, 4, 33, 35, 2, 55, 56, 57, 58, 21, 22, 23, 8, 24, 25, 26, 27, 59, 60, 61, 62, 63, 11, 12, 13, 14, 64, 65, 66, 67, 68, 69, 70, 71, 72, 73, 18, 74, 20, 85, 86, 87, 88, 89, 90, 91, 92, 93, 94, 95, 108, 109, 110, 111, 112, 113, 114, 96, 97, 98, 99, 100, 101, 102, 103, 104, 105, 106, 107] (by decide +kernel) (by decide +kernel)
set_option maxRecDepth 20000 in
theorem gX4_offerNow_X4_admit : GoodIn wsX4_offerNow (wsV RX4 156 RX4 yX4_admit wsX4_admit) := goodIn_app (goodIn_of _ (by decide +kernel)) ggX4_offerNow_X4_admit
set_option maxRecDepth 20000 in
theorem ggX4_offerNow_X4_refuse : GoodIn wsX4_offerNow wsX4_refuse := goodIn_r _ [78, 4, 79, 80, 3, 34, 56, 57, 81, 82, 83, 21, 22, 23, 8, 24, 25, 26, 27, 15, 16, 17, 18, 19, 20, 84, 72, 73, 74, 85, 86, 87, 88, 89, 90, 91, 92, 93, 94, 95, 108, 109, 110, 111, 112, 113, 114, 96, 97, 98, 99, 100, 101, 102, 103, 104, 105, 106, 107] (by decide +kernel) (by decide +kernel)
set_option maxRecDepth 20000 in
theorem gX4_offerNow_X4_refuse : GoodIn wsX4_offerNow (wsV RX4 159 RX4 yX4_refuse wsX4_refuse) := goodIn_app (goodIn_of _ (by decide +kernel)) ggX4_offerNow_X4_refuse
theorem dX4_offerNow_0 : decode cX4_offerNow 0 = .ok (.aload_n 1, 1) := by decide +kernel
theorem dX4_offerNow_1 : decode cX4_offerNow 1 = .ok (.aload_n 0, 1) := by decide +kernel
theorem dX4_offerNow_2 : decode cX4_offerNow 2 = .ok (.aload_n 1, 1) := by decide +kernel
theorem dX4_offerNow_3 : decode cX4_offerNow 3 = .ok (.getfield 136, 3) := by decide +kernel
theorem dX4_offerNow_6 : decode cX4_offerNow 6 = .ok (.invokevirtual 139, 3) := by decide +kernel
theorem dX4_offerNow_9 : decode cX4_offerNow 9 = .ok (.putfield 119, 3) := by decide +kernel
theorem dX4_offerNow_12 : decode cX4_offerNow 12 = .ok (.aload_n 1, 1) := by decide +kernel
theorem dX4_offerNow_13 : decode cX4_offerNow 13 = .ok (.dup, 1) := by decide +kernel
theorem dX4_offerNow_14 : decode cX4_offerNow 14 = .ok (.getfield 142, 3) := by decide +kernel
theorem dX4_offerNow_17 : decode cX4_offerNow 17 = .ok (.iconst 1, 1) := by decide +kernel
theorem dX4_offerNow_18 : decode cX4_offerNow 18 = .ok (.iadd, 1) := by decide +kernel
theorem dX4_offerNow_19 : decode cX4_offerNow 19 = .ok (.putfield 142, 3) := by decide +kernel
theorem dX4_offerNow_22 : decode cX4_offerNow 22 = .ok (.aload_n 0, 1) := by decide +kernel
theorem dX4_offerNow_23 : decode cX4_offerNow 23 = .ok (.aload_n 0, 1) := by decide +kernel
theorem dX4_offerNow_24 : decode cX4_offerNow 24 = .ok (.aload_n 1, 1) := by decide +kernel
theorem dX4_offerNow_25 : decode cX4_offerNow 25 = .ok (.getfield 145, 3) := by decide +kernel
theorem dX4_offerNow_28 : decode cX4_offerNow 28 = .ok (.invokevirtual 148, 3) := by decide +kernel
theorem dX4_offerNow_31 : decode cX4_offerNow 31 = .ok (.aload_n 1, 1) := by decide +kernel
theorem dX4_offerNow_32 : decode cX4_offerNow 32 = .ok (.getfield 119, 3) := by decide +kernel
theorem dX4_offerNow_35 : decode cX4_offerNow 35 = .ok (.invokevirtual 152, 3) := by decide +kernel
theorem dX4_offerNow_38 : decode cX4_offerNow 38 = .ok (.istore_n 2, 1) := by decide +kernel
theorem dX4_offerNow_39 : decode cX4_offerNow 39 = .ok (.iload_n 2, 1) := by decide +kernel
theorem dX4_offerNow_40 : decode cX4_offerNow 40 = .ok (.ifCond .ne 11, 3) := by decide +kernel
theorem dX4_offerNow_43 : decode cX4_offerNow 43 = .ok (.aload_n 0, 1) := by decide +kernel
theorem dX4_offerNow_44 : decode cX4_offerNow 44 = .ok (.aload_n 1, 1) := by decide +kernel
theorem dX4_offerNow_45 : decode cX4_offerNow 45 = .ok (.invokevirtual 156, 3) := by decide +kernel
theorem dX4_offerNow_48 : decode cX4_offerNow 48 = .ok (.goto 9, 3) := by decide +kernel
theorem dX4_offerNow_51 : decode cX4_offerNow 51 = .ok (.aload_n 0, 1) := by decide +kernel
theorem dX4_offerNow_52 : decode cX4_offerNow 52 = .ok (.aload_n 1, 1) := by decide +kernel
theorem dX4_offerNow_53 : decode cX4_offerNow 53 = .ok (.iload_n 2, 1) := by decide +kernel
theorem dX4_offerNow_54 : decode cX4_offerNow 54 = .ok (.invokevirtual 159, 3) := by decide +kernel
theorem dX4_offerNow_57 : decode cX4_offerNow 57 = .ok (.iload_n 2, 1) := by decide +kernel
theorem dX4_offerNow_58 : decode cX4_offerNow 58 = .ok (.ireturn, 1) := by decide +kernel
set_option maxRecDepth 20000 in
theorem ggX4_admit_X4_lane : GoodIn wsX4_admit wsX4_lane := goodIn_r _ [13, 14, 15, 16, 57, 58, 59, 60, 61, 62, 63, 64, 65, 66, 67] (by decide +kernel) (by decide +kernel)
set_option maxRecDepth 20000 in
theorem gX4_admit_X4_lane : GoodIn wsX4_admit (wsV RX4 148 RX4 yX4_lane wsX4_lane) := goodIn_app (goodIn_of _ (by decide +kernel)) ggX4_admit_X4_lane
set_option maxRecDepth 20000 in
theorem ggX4_admit_X4_catchUp : GoodIn wsX4_admit wsX4_catchUp := goodIn_r _ [20, 2, 21, 22, 23, 24, 25, 9, 10, 11, 12, 13, 14, 15, 16, 50, 51, 52, 53, 54, 55, 56, 57, 58, 59, 60, 61, 62, 63, 64, 65, 66, 67] (by decide +kernel) (by decide +kernel)
set_option maxRecDepth 20000 in
theorem gX4_admit_X4_catchUp : GoodIn wsX4_admit (wsV RX4 163 RX4 yX4_catchUp wsX4_catchUp) := goodIn_app (goodIn_of _ (by decide +kernel)) ggX4_admit_X4_catchUp
set_option maxRecDepth 20000 in
theorem ggX4_admit_X1_join : GoodIn wsX4_admit wsX1_join := goodIn_r _ [30, 31, 32, 33, 34, 35, 36, 37, 38, 50, 51, 52, 53, 54, 55, 56, 68] (by decide +kernel) (by decide +kernel)
set_option maxRecDepth 20000 in
theorem gX4_admit_X1_join : GoodIn wsX4_admit (wsV RX4 169 RX1 yX1_join wsX1_join) := goodIn_app (goodIn_of _ (by decide +kernel)) ggX4_admit_X1_join
theorem dX4_admit_0 : decode cX4_admit 0 = .ok (.aload_n 0, 1) := by decide +kernel
theorem dX4_admit_1 : decode cX4_admit 1 = .ok (.aload_n 1, 1) := by decide +kernel
theorem dX4_admit_2 : decode cX4_admit 2 = .ok (.getfield 145, 3) := by decide +kernel
theorem dX4_admit_5 : decode cX4_admit 5 = .ok (.invokevirtual 148, 3) := by decide +kernel
theorem dX4_admit_8 : decode cX4_admit 8 = .ok (.astore_n 2, 1) := by decide +kernel
theorem dX4_admit_9 : decode cX4_admit 9 = .ok (.aload_n 2, 1) := by decide +kernel
theorem dX4_admit_10 : decode cX4_admit 10 = .ok (.getfield 113, 3) := by decide +kernel
theorem dX4_admit_13 : decode cX4_admit 13 = .ok (.ifCond .ne 11, 3) := by decide +kernel
theorem dX4_admit_16 : decode cX4_admit 16 = .ok (.aload_n 0, 1) := by decide +kernel
theorem dX4_admit_17 : decode cX4_admit 17 = .ok (.aload_n 1, 1) := by decide +kernel
theorem dX4_admit_18 : decode cX4_admit 18 = .ok (.getfield 145, 3) := by decide +kernel
theorem dX4_admit_21 : decode cX4_admit 21 = .ok (.invokevirtual 163, 3) := by decide +kernel
theorem dX4_admit_24 : decode cX4_admit 24 = .ok (.aload_n 2, 1) := by decide +kernel
theorem dX4_admit_25 : decode cX4_admit 25 = .ok (.dup, 1) := by decide +kernel
theorem dX4_admit_26 : decode cX4_admit 26 = .ok (.getfield 133, 3) := by decide +kernel
theorem dX4_admit_29 : decode cX4_admit 29 = .ok (.aload_n 1, 1) := by decide +kernel
theorem dX4_admit_30 : decode cX4_admit 30 = .ok (.getfield 119, 3) := by decide +kernel
theorem dX4_admit_33 : decode cX4_admit 33 = .ok (.isub, 1) := by decide +kernel
theorem dX4_admit_34 : decode cX4_admit 34 = .ok (.putfield 133, 3) := by decide +kernel
theorem dX4_admit_37 : decode cX4_admit 37 = .ok (.aload_n 2, 1) := by decide +kernel
theorem dX4_admit_38 : decode cX4_admit 38 = .ok (.aload_n 1, 1) := by decide +kernel
theorem dX4_admit_39 : decode cX4_admit 39 = .ok (.getfield 166, 3) := by decide +kernel
theorem dX4_admit_42 : decode cX4_admit 42 = .ok (.invokevirtual 169, 3) := by decide +kernel
theorem dX4_admit_45 : decode cX4_admit 45 = .ok (.aload_n 1, 1) := by decide +kernel
theorem dX4_admit_46 : decode cX4_admit 46 = .ok (.iconst 0, 1) := by decide +kernel
theorem dX4_admit_47 : decode cX4_admit 47 = .ok (.putfield 172, 3) := by decide +kernel
theorem dX4_admit_50 : decode cX4_admit 50 = .ok (.aload_n 1, 1) := by decide +kernel
theorem dX4_admit_51 : decode cX4_admit 51 = .ok (.aload_n 0, 1) := by decide +kernel
theorem dX4_admit_52 : decode cX4_admit 52 = .ok (.getfield 52, 3) := by decide +kernel
theorem dX4_admit_55 : decode cX4_admit 55 = .ok (.putfield 175, 3) := by decide +kernel
theorem dX4_admit_58 : decode cX4_admit 58 = .ok (.return_, 1) := by decide +kernel
set_option maxRecDepth 20000 in
theorem ggX4_catchUp_X4_lane : GoodIn wsX4_catchUp wsX4_lane := goodIn_r _ [11, 12, 13, 14, 22, 23, 24, 25, 26, 27, 28, 29, 30, 31, 32] (by decide +kernel) (by decide +kernel)
set_option maxRecDepth 20000 in
theorem gX4_catchUp_X4_lane : GoodIn wsX4_catchUp (wsV RX4 148 RX4 yX4_lane wsX4_lane) := goodIn_app (goodIn_of _ (by decide +kernel)) ggX4_catchUp_X4_lane
theorem dX4_catchUp_0 : decode cX4_catchUp 0 = .ok (.aconst_null, 1) := by decide +kernel
theorem dX4_catchUp_1 : decode cX4_catchUp 1 = .ok (.astore_n 2, 1) := by decide +kernel
theorem dX4_catchUp_2 : decode cX4_catchUp 2 = .ok (.iconst 0, 1) := by decide +kernel
theorem dX4_catchUp_3 : decode cX4_catchUp 3 = .ok (.istore_n 3, 1) := by decide +kernel
theorem dX4_catchUp_4 : decode cX4_catchUp 4 = .ok (.iload_n 3, 1) := by decide +kernel
theorem dX4_catchUp_5 : decode cX4_catchUp 5 = .ok (.iconst 3, 1) := by decide +kernel
theorem dX4_catchUp_6 : decode cX4_catchUp 6 = .ok (.if_icmp .ge 48, 3) := by decide +kernel
theorem dX4_catchUp_9 : decode cX4_catchUp 9 = .ok (.aload_n 0, 1) := by decide +kernel
theorem dX4_catchUp_10 : decode cX4_catchUp 10 = .ok (.iload_n 3, 1) := by decide +kernel
theorem dX4_catchUp_11 : decode cX4_catchUp 11 = .ok (.invokevirtual 148, 3) := by decide +kernel
theorem dX4_catchUp_14 : decode cX4_catchUp 14 = .ok (.astore 4, 2) := by decide +kernel
theorem dX4_catchUp_16 : decode cX4_catchUp 16 = .ok (.iload_n 3, 1) := by decide +kernel
theorem dX4_catchUp_17 : decode cX4_catchUp 17 = .ok (.iload_n 1, 1) := by decide +kernel
theorem dX4_catchUp_18 : decode cX4_catchUp 18 = .ok (.if_icmp .eq 30, 3) := by decide +kernel
theorem dX4_catchUp_21 : decode cX4_catchUp 21 = .ok (.aload 4, 2) := by decide +kernel
theorem dX4_catchUp_23 : decode cX4_catchUp 23 = .ok (.getfield 113, 3) := by decide +kernel
theorem dX4_catchUp_26 : decode cX4_catchUp 26 = .ok (.ifCond .le 22, 3) := by decide +kernel
theorem dX4_catchUp_29 : decode cX4_catchUp 29 = .ok (.aload_n 2, 1) := by decide +kernel
theorem dX4_catchUp_30 : decode cX4_catchUp 30 = .ok (.ifnull 15, 3) := by decide +kernel
theorem dX4_catchUp_33 : decode cX4_catchUp 33 = .ok (.aload 4, 2) := by decide +kernel
theorem dX4_catchUp_35 : decode cX4_catchUp 35 = .ok (.getfield 178, 3) := by decide +kernel
theorem dX4_catchUp_38 : decode cX4_catchUp 38 = .ok (.aload_n 2, 1) := by decide +kernel
theorem dX4_catchUp_39 : decode cX4_catchUp 39 = .ok (.getfield 178, 3) := by decide +kernel
theorem dX4_catchUp_42 : decode cX4_catchUp 42 = .ok (.if_icmp .ge 6, 3) := by decide +kernel
theorem dX4_catchUp_45 : decode cX4_catchUp 45 = .ok (.aload 4, 2) := by decide +kernel
theorem dX4_catchUp_47 : decode cX4_catchUp 47 = .ok (.astore_n 2, 1) := by decide +kernel
theorem dX4_catchUp_48 : decode cX4_catchUp 48 = .ok (.iinc 3 1, 3) := by decide +kernel
theorem dX4_catchUp_51 : decode cX4_catchUp 51 = .ok (.goto (-47), 3) := by decide +kernel
theorem dX4_catchUp_54 : decode cX4_catchUp 54 = .ok (.aload_n 2, 1) := by decide +kernel
theorem dX4_catchUp_55 : decode cX4_catchUp 55 = .ok (.ifnull 26, 3) := by decide +kernel
theorem dX4_catchUp_58 : decode cX4_catchUp 58 = .ok (.aload_n 0, 1) := by decide +kernel
theorem dX4_catchUp_59 : decode cX4_catchUp 59 = .ok (.iload_n 1, 1) := by decide +kernel
theorem dX4_catchUp_60 : decode cX4_catchUp 60 = .ok (.invokevirtual 148, 3) := by decide +kernel
theorem dX4_catchUp_63 : decode cX4_catchUp 63 = .ok (.aload_n 0, 1) := by decide +kernel
theorem dX4_catchUp_64 : decode cX4_catchUp 64 = .ok (.iload_n 1, 1) := by decide +kernel
theorem dX4_catchUp_65 : decode cX4_catchUp 65 = .ok (.invokevirtual 148, 3) := by decide +kernel
theorem dX4_catchUp_68 : decode cX4_catchUp 68 = .ok (.getfield 178, 3) := by decide +kernel
theorem dX4_catchUp_71 : decode cX4_catchUp 71 = .ok (.aload_n 2, 1) := by decide +kernel
theorem dX4_catchUp_72 : decode cX4_catchUp 72 = .ok (.getfield 178, 3) := by decide +kernel
theorem dX4_catchUp_75 : decode cX4_catchUp 75 = .ok (.invokestatic 107, 3) := by decide +kernel
theorem dX4_catchUp_78 : decode cX4_catchUp 78 = .ok (.putfield 178, 3) := by decide +kernel
theorem dX4_catchUp_81 : decode cX4_catchUp 81 = .ok (.return_, 1) := by decide +kernel
set_option maxRecDepth 20000 in
theorem ggX4_refuse_X4_lane : GoodIn wsX4_refuse wsX4_lane := goodIn_r _ [15, 16, 17, 18, 47, 48, 49, 50, 51, 52, 53, 54, 55, 56, 57] (by decide +kernel) (by decide +kernel)
set_option maxRecDepth 20000 in
theorem gX4_refuse_X4_lane : GoodIn wsX4_refuse (wsV RX4 148 RX4 yX4_lane wsX4_lane) := goodIn_app (goodIn_of _ (by decide +kernel)) ggX4_refuse_X4_lane
set_option maxRecDepth 20000 in
theorem ggX4_refuse_X3_at : GoodIn wsX4_refuse wsX3_at := goodIn_r _ [23, 24, 58] (by decide +kernel) (by decide +kernel)
set_option maxRecDepth 20000 in
theorem gX4_refuse_X3_at : GoodIn wsX4_refuse (wsV RX4 103 RX3 yX3_at wsX3_at) := goodIn_app (goodIn_of _ (by decide +kernel)) ggX4_refuse_X3_at
set_option maxRecDepth 20000 in
theorem ggX4_refuse_X3_put : GoodIn wsX4_refuse wsX3_put := goodIn_r _ [28, 24, 58] (by decide +kernel) (by decide +kernel)
set_option maxRecDepth 20000 in
theorem gX4_refuse_X3_put : GoodIn wsX4_refuse (wsV RX4 58 RX3 yX3_put wsX3_put) := goodIn_app (goodIn_of _ (by decide +kernel)) ggX4_refuse_X3_put
theorem dX4_refuse_0 : decode cX4_refuse 0 = .ok (.aload_n 0, 1) := by decide +kernel
theorem dX4_refuse_1 : decode cX4_refuse 1 = .ok (.aload_n 1, 1) := by decide +kernel
theorem dX4_refuse_2 : decode cX4_refuse 2 = .ok (.getfield 145, 3) := by decide +kernel
theorem dX4_refuse_5 : decode cX4_refuse 5 = .ok (.invokevirtual 148, 3) := by decide +kernel
theorem dX4_refuse_8 : decode cX4_refuse 8 = .ok (.getfield 181, 3) := by decide +kernel
theorem dX4_refuse_11 : decode cX4_refuse 11 = .ok (.astore_n 3, 1) := by decide +kernel
theorem dX4_refuse_12 : decode cX4_refuse 12 = .ok (.aload_n 3, 1) := by decide +kernel
theorem dX4_refuse_13 : decode cX4_refuse 13 = .ok (.iload_n 2, 1) := by decide +kernel
theorem dX4_refuse_14 : decode cX4_refuse 14 = .ok (.aload_n 3, 1) := by decide +kernel
theorem dX4_refuse_15 : decode cX4_refuse 15 = .ok (.iload_n 2, 1) := by decide +kernel
theorem dX4_refuse_16 : decode cX4_refuse 16 = .ok (.invokevirtual 103, 3) := by decide +kernel
theorem dX4_refuse_19 : decode cX4_refuse 19 = .ok (.iconst 1, 1) := by decide +kernel
theorem dX4_refuse_20 : decode cX4_refuse 20 = .ok (.iadd, 1) := by decide +kernel
theorem dX4_refuse_21 : decode cX4_refuse 21 = .ok (.invokevirtual 58, 3) := by decide +kernel
theorem dX4_refuse_24 : decode cX4_refuse 24 = .ok (.aload_n 1, 1) := by decide +kernel
theorem dX4_refuse_25 : decode cX4_refuse 25 = .ok (.iload_n 2, 1) := by decide +kernel
theorem dX4_refuse_26 : decode cX4_refuse 26 = .ok (.putfield 184, 3) := by decide +kernel
theorem dX4_refuse_29 : decode cX4_refuse 29 = .ok (.aload_n 1, 1) := by decide +kernel
theorem dX4_refuse_30 : decode cX4_refuse 30 = .ok (.getfield 142, 3) := by decide +kernel
theorem dX4_refuse_33 : decode cX4_refuse 33 = .ok (.aload_n 0, 1) := by decide +kernel
theorem dX4_refuse_34 : decode cX4_refuse 34 = .ok (.getfield 14, 3) := by decide +kernel
theorem dX4_refuse_37 : decode cX4_refuse 37 = .ok (.iconst 3, 1) := by decide +kernel
theorem dX4_refuse_38 : decode cX4_refuse 38 = .ok (.invokevirtual 103, 3) := by decide +kernel
theorem dX4_refuse_41 : decode cX4_refuse 41 = .ok (.if_icmp .gt 35, 3) := by decide +kernel
theorem dX4_refuse_44 : decode cX4_refuse 44 = .ok (.aload_n 1, 1) := by decide +kernel
theorem dX4_refuse_45 : decode cX4_refuse 45 = .ok (.iconst 3, 1) := by decide +kernel
theorem dX4_refuse_46 : decode cX4_refuse 46 = .ok (.putfield 172, 3) := by decide +kernel
theorem dX4_refuse_49 : decode cX4_refuse 49 = .ok (.aload_n 1, 1) := by decide +kernel
theorem dX4_refuse_50 : decode cX4_refuse 50 = .ok (.aload_n 0, 1) := by decide +kernel
theorem dX4_refuse_51 : decode cX4_refuse 51 = .ok (.getfield 52, 3) := by decide +kernel
theorem dX4_refuse_54 : decode cX4_refuse 54 = .ok (.aload_n 0, 1) := by decide +kernel
theorem dX4_refuse_55 : decode cX4_refuse 55 = .ok (.getfield 14, 3) := by decide +kernel
theorem dX4_refuse_58 : decode cX4_refuse 58 = .ok (.iconst 2, 1) := by decide +kernel
theorem dX4_refuse_59 : decode cX4_refuse 59 = .ok (.invokevirtual 103, 3) := by decide +kernel
theorem dX4_refuse_62 : decode cX4_refuse 62 = .ok (.aload_n 1, 1) := by decide +kernel
theorem dX4_refuse_63 : decode cX4_refuse 63 = .ok (.getfield 142, 3) := by decide +kernel
theorem dX4_refuse_66 : decode cX4_refuse 66 = .ok (.iconst 1, 1) := by decide +kernel
theorem dX4_refuse_67 : decode cX4_refuse 67 = .ok (.isub, 1) := by decide +kernel
theorem dX4_refuse_68 : decode cX4_refuse 68 = .ok (.ishl, 1) := by decide +kernel
theorem dX4_refuse_69 : decode cX4_refuse 69 = .ok (.iadd, 1) := by decide +kernel
theorem dX4_refuse_70 : decode cX4_refuse 70 = .ok (.putfield 187, 3) := by decide +kernel
theorem dX4_refuse_73 : decode cX4_refuse 73 = .ok (.goto 28, 3) := by decide +kernel
theorem dX4_refuse_76 : decode cX4_refuse 76 = .ok (.aload_n 1, 1) := by decide +kernel
theorem dX4_refuse_77 : decode cX4_refuse 77 = .ok (.iconst 4, 1) := by decide +kernel
theorem dX4_refuse_78 : decode cX4_refuse 78 = .ok (.putfield 172, 3) := by decide +kernel
theorem dX4_refuse_81 : decode cX4_refuse 81 = .ok (.aload_n 0, 1) := by decide +kernel
theorem dX4_refuse_82 : decode cX4_refuse 82 = .ok (.dup, 1) := by decide +kernel
theorem dX4_refuse_83 : decode cX4_refuse 83 = .ok (.getfield 46, 3) := by decide +kernel
theorem dX4_refuse_86 : decode cX4_refuse 86 = .ok (.iconst 1, 1) := by decide +kernel
theorem dX4_refuse_87 : decode cX4_refuse 87 = .ok (.isub, 1) := by decide +kernel
theorem dX4_refuse_88 : decode cX4_refuse 88 = .ok (.putfield 46, 3) := by decide +kernel
theorem dX4_refuse_91 : decode cX4_refuse 91 = .ok (.aload_n 0, 1) := by decide +kernel
theorem dX4_refuse_92 : decode cX4_refuse 92 = .ok (.dup, 1) := by decide +kernel
theorem dX4_refuse_93 : decode cX4_refuse 93 = .ok (.getfield 49, 3) := by decide +kernel
theorem dX4_refuse_96 : decode cX4_refuse 96 = .ok (.iconst 1, 1) := by decide +kernel
theorem dX4_refuse_97 : decode cX4_refuse 97 = .ok (.iadd, 1) := by decide +kernel
theorem dX4_refuse_98 : decode cX4_refuse 98 = .ok (.putfield 49, 3) := by decide +kernel
theorem dX4_refuse_101 : decode cX4_refuse 101 = .ok (.return_, 1) := by decide +kernel
set_option maxRecDepth 20000 in
theorem ggX4_tick_X4_lane : GoodIn wsX4_tick wsX4_lane := goodIn_r _ [11, 12, 13, 14, 133, 134, 135, 136, 137, 138, 139, 140, 141, 142, 143] (by decide +kernel) (by decide +kernel)
set_option maxRecDepth 20000 in
theorem gX4_tick_X4_lane : GoodIn wsX4_tick (wsV RX4 148 RX4 yX4_lane wsX4_lane) := goodIn_app (goodIn_of _ (by decide +kernel)) ggX4_tick_X4_lane
set_option maxRecDepth 20000 in
theorem ggX4_tick_X3_at : GoodIn wsX4_tick wsX3_at := goodIn_r _ [19, 20, 155] (by decide +kernel) (by decide +kernel)
set_option maxRecDepth 20000 in
theorem gX4_tick_X3_at : GoodIn wsX4_tick (wsV RX4 103 RX3 yX3_at wsX3_at) := goodIn_app (goodIn_of _ (by decide +kernel)) ggX4_tick_X3_at
set_option maxRecDepth 20000 in
theorem ggX4_tick_X1_gain : GoodIn wsX4_tick wsX1_gain := goodIn_r _ [25, 26, 27, 28, 29, 30, 31, 32, 16, 17, 18, 19, 20, 126, 127, 128, 129, 130, 131, 132, 155] (by decide +kernel) (by decide +kernel)
set_option maxRecDepth 20000 in
theorem gX4_tick_X1_gain : GoodIn wsX4_tick (wsV RX4 189 RX1 yX1_gain wsX1_gain) := goodIn_app (goodIn_of _ (by decide +kernel)) ggX4_tick_X1_gain
set_option maxRecDepth 20000 in
theorem ggX4_tick_X4_find : GoodIn wsX4_tick wsX4_find := goodIn_r _ [36, 2, 37, 133, 134, 135, 136, 137, 138, 139, 140, 141, 142, 143] (by decide +kernel) (by decide +kernel)
set_option maxRecDepth 20000 in
theorem gX4_tick_X4_find : GoodIn wsX4_tick (wsV RX4 70 RX4 yX4_find wsX4_find) := goodIn_app (goodIn_of _ (by decide +kernel)) ggX4_tick_X4_find
set_option maxRecDepth 20000 in
theorem ggX4_tick_X4_offerNow : GoodIn wsX4_tick wsX4_offerNow := goodIn_r _ [41, 42, 43, 44, 45, 46, 47, 48, 10, 49, 50, 51, 52, 30, 53, 15, 16, 17, 18, 19, 20, 7, 8, 9, 11, 12, 13, 14, 54, 55, 56, 57, 1, 58, 6, 59, 60, 61, 62, 63, 64, 65, 33, 34, 35, 36, 2, 37, 66, 67, 68, 69, 70, 71, 72, 73, 3, 5, 74, 75, 76, 77, 78, 79, 80, 81, 82, 24, 83, 84, 85, 86, 87, 88, 89, 90, 91, 92, 93, 94, 95, 4, 96, 97, 98, 144, 145, 146, 147, 148, 149, 150, 151, 152, 153, 154, 133, 134, 135, 136, 137, 138, 139, 140, 141, 142, 143, 155, 126, 127, 128, 129, 130, 131, 132] (by decide +kernel) (by decide +kernel)
set_option maxRecDepth 20000 in
theorem gX4_tick_X4_offerNow : GoodIn wsX4_tick (wsV RX4 95 RX4 yX4_offerNow wsX4_offerNow) := goodIn_app (goodIn_of _ (by decide +kernel)) ggX4_tick_X4_offerNow
set_option maxRecDepth 20000 in
theorem ggX4_tick_X4_refuseThoseWhoWaited : GoodIn wsX4_tick wsX4_refuseThoseWhoWaited := goodIn_r _ [102, 58, 64, 43, 15, 16, 17, 18, 19, 20, 33, 34, 35, 10, 36, 2, 37, 103, 104, 105, 106, 3, 5, 74, 6, 107, 108, 109, 24, 110, 84, 85, 32, 86, 87, 88, 89, 90, 91, 92, 93, 45, 94, 95, 44, 4, 96, 97, 7, 8, 9, 11, 12, 13, 14, 98, 21, 22, 23, 25, 26, 27, 28, 29, 30, 31, 126, 127, 128, 129, 130, 131, 132, 144, 145, 146, 147, 148, 149, 150, 151, 152, 153, 154, 155, 133, 134, 135, 136, 137, 138, 139, 140, 141, 142, 143] (by decide +kernel) (by decide +kernel)
set_option maxRecDepth 20000 in
theorem gX4_tick_X4_refuseThoseWhoWaited : GoodIn wsX4_tick (wsV RX4 192 RX4 yX4_refuseThoseWhoWaited wsX4_refuseThoseWhoWaited) := goodIn_app (goodIn_of _ (by decide +kernel)) ggX4_tick_X4_refuseThoseWhoWaited
set_option maxRecDepth 20000 in
theorem ggX4_tick_X4_workOneUnit : GoodIn wsX4_tick wsX4_workOneUnit := goodIn_r _ [114, 115, 116, 79, 1, 64, 65, 3, 117, 118, 119, 120, 10, 121, 58, 7, 8, 9, 11, 12, 13, 14, 15, 16, 17, 18, 19, 20, 66, 67, 68, 33, 34, 35, 36, 2, 37, 122, 123, 124, 125, 5, 4, 96, 50, 42, 43, 59, 107, 108, 109, 24, 110, 84, 85, 32, 86, 87, 88, 89, 98, 21, 22, 23, 25, 26, 27, 28, 29, 30, 31, 133, 134, 135, 136, 137, 138, 139, 140, 141, 142, 143, 126, 127, 128, 129, 130, 131, 132, 144, 145, 146, 147, 148, 149, 150, 151, 152, 153, 154, 155] (by decide +kernel) (by decide +kernel)
set_option maxRecDepth 20000 in
theorem gX4_tick_X4_workOneUnit : GoodIn wsX4_tick (wsV RX4 195 RX4 yX4_workOneUnit wsX4_workOneUnit) := goodIn_app (goodIn_of _ (by decide +kernel)) ggX4_tick_X4_workOneUnit
theorem dX4_tick_0 : decode cX4_tick 0 = .ok (.iconst 0, 1) := by decide +kernel
theorem dX4_tick_1 : decode cX4_tick 1 = .ok (.istore_n 1, 1) := by decide +kernel
theorem dX4_tick_2 : decode cX4_tick 2 = .ok (.iload_n 1, 1) := by decide +kernel
theorem dX4_tick_3 : decode cX4_tick 3 = .ok (.iconst 3, 1) := by decide +kernel
theorem dX4_tick_4 : decode cX4_tick 4 = .ok (.if_icmp .ge 29, 3) := by decide +kernel
theorem dX4_tick_7 : decode cX4_tick 7 = .ok (.aload_n 0, 1) := by decide +kernel
theorem dX4_tick_8 : decode cX4_tick 8 = .ok (.iload_n 1, 1) := by decide +kernel
theorem dX4_tick_9 : decode cX4_tick 9 = .ok (.invokevirtual 148, 3) := by decide +kernel
theorem dX4_tick_12 : decode cX4_tick 12 = .ok (.aload_n 0, 1) := by decide +kernel
theorem dX4_tick_13 : decode cX4_tick 13 = .ok (.iload_n 1, 1) := by decide +kernel
theorem dX4_tick_14 : decode cX4_tick 14 = .ok (.invokevirtual 148, 3) := by decide +kernel
theorem dX4_tick_17 : decode cX4_tick 17 = .ok (.getfield 125, 3) := by decide +kernel
theorem dX4_tick_20 : decode cX4_tick 20 = .ok (.iconst 1, 1) := by decide +kernel
theorem dX4_tick_21 : decode cX4_tick 21 = .ok (.invokevirtual 103, 3) := by decide +kernel
theorem dX4_tick_24 : decode cX4_tick 24 = .ok (.invokevirtual 189, 3) := by decide +kernel
theorem dX4_tick_27 : decode cX4_tick 27 = .ok (.iinc 1 1, 3) := by decide +kernel
theorem dX4_tick_30 : decode cX4_tick 30 = .ok (.goto (-28), 3) := by decide +kernel
theorem dX4_tick_33 : decode cX4_tick 33 = .ok (.iconst 0, 1) := by decide +kernel
theorem dX4_tick_34 : decode cX4_tick 34 = .ok (.istore_n 1, 1) := by decide +kernel
theorem dX4_tick_35 : decode cX4_tick 35 = .ok (.iload_n 1, 1) := by decide +kernel
theorem dX4_tick_36 : decode cX4_tick 36 = .ok (.aload_n 0, 1) := by decide +kernel
theorem dX4_tick_37 : decode cX4_tick 37 = .ok (.getfield 42, 3) := by decide +kernel
theorem dX4_tick_40 : decode cX4_tick 40 = .ok (.if_icmp .ge 44, 3) := by decide +kernel
theorem dX4_tick_43 : decode cX4_tick 43 = .ok (.aload_n 0, 1) := by decide +kernel
theorem dX4_tick_44 : decode cX4_tick 44 = .ok (.iload_n 1, 1) := by decide +kernel
theorem dX4_tick_45 : decode cX4_tick 45 = .ok (.invokevirtual 70, 3) := by decide +kernel
theorem dX4_tick_48 : decode cX4_tick 48 = .ok (.astore_n 2, 1) := by decide +kernel
theorem dX4_tick_49 : decode cX4_tick 49 = .ok (.aload_n 2, 1) := by decide +kernel
theorem dX4_tick_50 : decode cX4_tick 50 = .ok (.ifnull 28, 3) := by decide +kernel
theorem dX4_tick_53 : decode cX4_tick 53 = .ok (.aload_n 2, 1) := by decide +kernel
theorem dX4_tick_54 : decode cX4_tick 54 = .ok (.getfield 172, 3) := by decide +kernel
theorem dX4_tick_57 : decode cX4_tick 57 = .ok (.iconst 3, 1) := by decide +kernel
theorem dX4_tick_58 : decode cX4_tick 58 = .ok (.if_icmp .ne 20, 3) := by decide +kernel
theorem dX4_tick_61 : decode cX4_tick 61 = .ok (.aload_n 2, 1) := by decide +kernel
theorem dX4_tick_62 : decode cX4_tick 62 = .ok (.getfield 187, 3) := by decide +kernel
theorem dX4_tick_65 : decode cX4_tick 65 = .ok (.aload_n 0, 1) := by decide +kernel
theorem dX4_tick_66 : decode cX4_tick 66 = .ok (.getfield 52, 3) := by decide +kernel
theorem dX4_tick_69 : decode cX4_tick 69 = .ok (.if_icmp .gt 9, 3) := by decide +kernel
theorem dX4_tick_72 : decode cX4_tick 72 = .ok (.aload_n 0, 1) := by decide +kernel
theorem dX4_tick_73 : decode cX4_tick 73 = .ok (.aload_n 2, 1) := by decide +kernel
theorem dX4_tick_74 : decode cX4_tick 74 = .ok (.invokevirtual 95, 3) := by decide +kernel
theorem dX4_tick_77 : decode cX4_tick 77 = .ok (.pop, 1) := by decide +kernel
theorem dX4_tick_78 : decode cX4_tick 78 = .ok (.iinc 1 1, 3) := by decide +kernel
theorem dX4_tick_81 : decode cX4_tick 81 = .ok (.goto (-46), 3) := by decide +kernel
theorem dX4_tick_84 : decode cX4_tick 84 = .ok (.iconst 0, 1) := by decide +kernel
theorem dX4_tick_85 : decode cX4_tick 85 = .ok (.istore_n 1, 1) := by decide +kernel
theorem dX4_tick_86 : decode cX4_tick 86 = .ok (.iload_n 1, 1) := by decide +kernel
theorem dX4_tick_87 : decode cX4_tick 87 = .ok (.iconst 3, 1) := by decide +kernel
theorem dX4_tick_88 : decode cX4_tick 88 = .ok (.if_icmp .ge 18, 3) := by decide +kernel
theorem dX4_tick_91 : decode cX4_tick 91 = .ok (.aload_n 0, 1) := by decide +kernel
theorem dX4_tick_92 : decode cX4_tick 92 = .ok (.aload_n 0, 1) := by decide +kernel
theorem dX4_tick_93 : decode cX4_tick 93 = .ok (.iload_n 1, 1) := by decide +kernel
theorem dX4_tick_94 : decode cX4_tick 94 = .ok (.invokevirtual 148, 3) := by decide +kernel
theorem dX4_tick_97 : decode cX4_tick 97 = .ok (.invokevirtual 192, 3) := by decide +kernel
theorem dX4_tick_100 : decode cX4_tick 100 = .ok (.iinc 1 1, 3) := by decide +kernel
theorem dX4_tick_103 : decode cX4_tick 103 = .ok (.goto (-17), 3) := by decide +kernel
theorem dX4_tick_106 : decode cX4_tick 106 = .ok (.iconst 0, 1) := by decide +kernel
theorem dX4_tick_107 : decode cX4_tick 107 = .ok (.istore_n 1, 1) := by decide +kernel
theorem dX4_tick_108 : decode cX4_tick 108 = .ok (.iconst 0, 1) := by decide +kernel
theorem dX4_tick_109 : decode cX4_tick 109 = .ok (.istore_n 2, 1) := by decide +kernel
theorem dX4_tick_110 : decode cX4_tick 110 = .ok (.iload_n 2, 1) := by decide +kernel
theorem dX4_tick_111 : decode cX4_tick 111 = .ok (.aload_n 0, 1) := by decide +kernel
theorem dX4_tick_112 : decode cX4_tick 112 = .ok (.getfield 14, 3) := by decide +kernel
theorem dX4_tick_115 : decode cX4_tick 115 = .ok (.iconst 0, 1) := by decide +kernel
theorem dX4_tick_116 : decode cX4_tick 116 = .ok (.invokevirtual 103, 3) := by decide +kernel
theorem dX4_tick_119 : decode cX4_tick 119 = .ok (.if_icmp .ge 16, 3) := by decide +kernel
theorem dX4_tick_122 : decode cX4_tick 122 = .ok (.iload_n 1, 1) := by decide +kernel
theorem dX4_tick_123 : decode cX4_tick 123 = .ok (.aload_n 0, 1) := by decide +kernel
theorem dX4_tick_124 : decode cX4_tick 124 = .ok (.invokevirtual 195, 3) := by decide +kernel
theorem dX4_tick_127 : decode cX4_tick 127 = .ok (.iadd, 1) := by decide +kernel
theorem dX4_tick_128 : decode cX4_tick 128 = .ok (.istore_n 1, 1) := by decide +kernel
theorem dX4_tick_129 : decode cX4_tick 129 = .ok (.iinc 2 1, 3) := by decide +kernel
theorem dX4_tick_132 : decode cX4_tick 132 = .ok (.goto (-22), 3) := by decide +kernel
theorem dX4_tick_135 : decode cX4_tick 135 = .ok (.aload_n 0, 1) := by decide +kernel
theorem dX4_tick_136 : decode cX4_tick 136 = .ok (.dup, 1) := by decide +kernel
theorem dX4_tick_137 : decode cX4_tick 137 = .ok (.getfield 52, 3) := by decide +kernel
theorem dX4_tick_140 : decode cX4_tick 140 = .ok (.iconst 1, 1) := by decide +kernel
theorem dX4_tick_141 : decode cX4_tick 141 = .ok (.iadd, 1) := by decide +kernel
theorem dX4_tick_142 : decode cX4_tick 142 = .ok (.putfield 52, 3) := by decide +kernel
theorem dX4_tick_145 : decode cX4_tick 145 = .ok (.iload_n 1, 1) := by decide +kernel
theorem dX4_tick_146 : decode cX4_tick 146 = .ok (.ireturn, 1) := by decide +kernel
set_option maxRecDepth 20000 in
theorem ggX4_refuseThoseWhoWaited_X3_at : GoodIn wsX4_refuseThoseWhoWaited wsX3_at := goodIn_r _ [8, 9, 84] (by decide +kernel) (by decide +kernel)
set_option maxRecDepth 20000 in
theorem gX4_refuseThoseWhoWaited_X3_at : GoodIn wsX4_refuseThoseWhoWaited (wsV RX4 103 RX3 yX3_at wsX3_at) := goodIn_app (goodIn_of _ (by decide +kernel)) ggX4_refuseThoseWhoWaited_X3_at
set_option maxRecDepth 20000 in
theorem ggX4_refuseThoseWhoWaited_X4_find : GoodIn wsX4_refuseThoseWhoWaited wsX4_find := goodIn_r _ [14, 15, 16, 85, 86, 87, 88, 89, 90, 91, 92, 93, 94, 95] (by decide +kernel) (by decide +kernel)
set_option maxRecDepth 20000 in
theorem gX4_refuseThoseWhoWaited_X4_find : GoodIn wsX4_refuseThoseWhoWaited (wsV RX4 70 RX4 yX4_find wsX4_find) := goodIn_app (goodIn_of _ (by decide +kernel)) ggX4_refuseThoseWhoWaited_X4_find
set_option maxRecDepth 20000 in
theorem ggX4_refuseThoseWhoWaited_X4_hasWaitedTooLong : GoodIn wsX4_refuseThoseWhoWaited wsX4_hasWaitedTooLong := goodIn_r _ [20, 21, 22, 23, 24, 4, 5, 6, 7, 8, 9, 73, 74, 75, 76, 77, 78, 79, 80, 81, 82, 83, 85, 86, 87, 88, 89, 90, 91, 92, 93, 94, 95, 84] (by decide +kernel) (by decide +kernel)
set_option maxRecDepth 20000 in
theorem gX4_refuseThoseWhoWaited_X4_hasWaitedTooLong : GoodIn wsX4_refuseThoseWhoWaited (wsV RX4 198 RX4 yX4_hasWaitedTooLong wsX4_hasWaitedTooLong) := goodIn_app (goodIn_of _ (by decide +kernel)) ggX4_refuseThoseWhoWaited_X4_hasWaitedTooLong
set_option maxRecDepth 20000 in
theorem ggX4_refuseThoseWhoWaited_X1_leave : GoodIn wsX4_refuseThoseWhoWaited wsX1_leave := goodIn_r _ [29, 30, 31, 32, 5, 6, 7, 8, 9, 33, 34, 35, 36, 66, 67, 68, 69, 70, 71, 72, 84] (by decide +kernel) (by decide +kernel)
set_option maxRecDepth 20000 in
theorem gX4_refuseThoseWhoWaited_X1_leave : GoodIn wsX4_refuseThoseWhoWaited (wsV RX4 202 RX1 yX1_leave wsX1_leave) := goodIn_app (goodIn_of _ (by decide +kernel)) ggX4_refuseThoseWhoWaited_X1_leave
set_option maxRecDepth 20000 in
theorem ggX4_refuseThoseWhoWaited_X4_refuse : GoodIn wsX4_refuseThoseWhoWaited wsX4_refuse := goodIn_r _ [40, 41, 42, 43, 44, 24, 21, 22, 45, 46, 47, 48, 49, 50, 13, 51, 52, 53, 54, 4, 5, 6, 7, 8, 9, 55, 34, 35, 36, 73, 74, 75, 76, 77, 78, 79, 80, 81, 82, 83, 66, 67, 68, 69, 70, 71, 72, 85, 86, 87, 88, 89, 90, 91, 92, 93, 94, 95, 84] (by decide +kernel) (by decide +kernel)
set_option maxRecDepth 20000 in
theorem gX4_refuseThoseWhoWaited_X4_refuse : GoodIn wsX4_refuseThoseWhoWaited (wsV RX4 159 RX4 yX4_refuse wsX4_refuse) := goodIn_app (goodIn_of _ (by decide +kernel)) ggX4_refuseThoseWhoWaited_X4_refuse
set_option maxRecDepth 20000 in
theorem ggX4_refuseThoseWhoWaited_X1_gain : GoodIn wsX4_refuseThoseWhoWaited wsX1_gain := goodIn_r _ [59, 60, 61, 62, 63, 64, 65, 32, 5, 6, 7, 8, 9, 66, 67, 68, 69, 70, 71, 72, 84] (by decide +kernel) (by decide +kernel)
set_option maxRecDepth 20000 in
theorem gX4_refuseThoseWhoWaited_X1_gain : GoodIn wsX4_refuseThoseWhoWaited (wsV RX4 189 RX1 yX1_gain wsX1_gain) := goodIn_app (goodIn_of _ (by decide +kernel)) ggX4_refuseThoseWhoWaited_X1_gain
theorem dX4_refuseThoseWhoWaited_0 : decode cX4_refuseThoseWhoWaited 0 = .ok (.iconst 0, 1) := by decide +kernel
theorem dX4_refuseThoseWhoWaited_1 : decode cX4_refuseThoseWhoWaited 1 = .ok (.istore_n 2, 1) := by decide +kernel
theorem dX4_refuseThoseWhoWaited_2 : decode cX4_refuseThoseWhoWaited 2 = .ok (.aload_n 1, 1) := by decide +kernel
theorem dX4_refuseThoseWhoWaited_3 : decode cX4_refuseThoseWhoWaited 3 = .ok (.getfield 113, 3) := by decide +kernel
theorem dX4_refuseThoseWhoWaited_6 : decode cX4_refuseThoseWhoWaited 6 = .ok (.istore_n 3, 1) := by decide +kernel
theorem dX4_refuseThoseWhoWaited_7 : decode cX4_refuseThoseWhoWaited 7 = .ok (.iload_n 3, 1) := by decide +kernel
theorem dX4_refuseThoseWhoWaited_8 : decode cX4_refuseThoseWhoWaited 8 = .ok (.ifCond .le 64, 3) := by decide +kernel
theorem dX4_refuseThoseWhoWaited_11 : decode cX4_refuseThoseWhoWaited 11 = .ok (.aload_n 0, 1) := by decide +kernel
theorem dX4_refuseThoseWhoWaited_12 : decode cX4_refuseThoseWhoWaited 12 = .ok (.aload_n 1, 1) := by decide +kernel
theorem dX4_refuseThoseWhoWaited_13 : decode cX4_refuseThoseWhoWaited 13 = .ok (.getfield 116, 3) := by decide +kernel
theorem dX4_refuseThoseWhoWaited_16 : decode cX4_refuseThoseWhoWaited 16 = .ok (.iload_n 2, 1) := by decide +kernel
theorem dX4_refuseThoseWhoWaited_17 : decode cX4_refuseThoseWhoWaited 17 = .ok (.invokevirtual 103, 3) := by decide +kernel
theorem dX4_refuseThoseWhoWaited_20 : decode cX4_refuseThoseWhoWaited 20 = .ok (.invokevirtual 70, 3) := by decide +kernel
theorem dX4_refuseThoseWhoWaited_23 : decode cX4_refuseThoseWhoWaited 23 = .ok (.astore 4, 2) := by decide +kernel
theorem dX4_refuseThoseWhoWaited_25 : decode cX4_refuseThoseWhoWaited 25 = .ok (.aload 4, 2) := by decide +kernel
theorem dX4_refuseThoseWhoWaited_27 : decode cX4_refuseThoseWhoWaited 27 = .ok (.ifnull 36, 3) := by decide +kernel
theorem dX4_refuseThoseWhoWaited_30 : decode cX4_refuseThoseWhoWaited 30 = .ok (.aload_n 0, 1) := by decide +kernel
theorem dX4_refuseThoseWhoWaited_31 : decode cX4_refuseThoseWhoWaited 31 = .ok (.aload 4, 2) := by decide +kernel
theorem dX4_refuseThoseWhoWaited_33 : decode cX4_refuseThoseWhoWaited 33 = .ok (.invokevirtual 198, 3) := by decide +kernel
theorem dX4_refuseThoseWhoWaited_36 : decode cX4_refuseThoseWhoWaited 36 = .ok (.ifCond .eq 27, 3) := by decide +kernel
theorem dX4_refuseThoseWhoWaited_39 : decode cX4_refuseThoseWhoWaited 39 = .ok (.aload_n 1, 1) := by decide +kernel
theorem dX4_refuseThoseWhoWaited_40 : decode cX4_refuseThoseWhoWaited 40 = .ok (.iload_n 2, 1) := by decide +kernel
theorem dX4_refuseThoseWhoWaited_41 : decode cX4_refuseThoseWhoWaited 41 = .ok (.invokevirtual 202, 3) := by decide +kernel
theorem dX4_refuseThoseWhoWaited_44 : decode cX4_refuseThoseWhoWaited 44 = .ok (.aload_n 0, 1) := by decide +kernel
theorem dX4_refuseThoseWhoWaited_45 : decode cX4_refuseThoseWhoWaited 45 = .ok (.aload 4, 2) := by decide +kernel
theorem dX4_refuseThoseWhoWaited_47 : decode cX4_refuseThoseWhoWaited 47 = .ok (.iconst 5, 1) := by decide +kernel
theorem dX4_refuseThoseWhoWaited_48 : decode cX4_refuseThoseWhoWaited 48 = .ok (.invokevirtual 159, 3) := by decide +kernel
theorem dX4_refuseThoseWhoWaited_51 : decode cX4_refuseThoseWhoWaited 51 = .ok (.aload_n 1, 1) := by decide +kernel
theorem dX4_refuseThoseWhoWaited_52 : decode cX4_refuseThoseWhoWaited 52 = .ok (.aload 4, 2) := by decide +kernel
theorem dX4_refuseThoseWhoWaited_54 : decode cX4_refuseThoseWhoWaited 54 = .ok (.getfield 119, 3) := by decide +kernel
theorem dX4_refuseThoseWhoWaited_57 : decode cX4_refuseThoseWhoWaited 57 = .ok (.invokevirtual 189, 3) := by decide +kernel
theorem dX4_refuseThoseWhoWaited_60 : decode cX4_refuseThoseWhoWaited 60 = .ok (.goto 6, 3) := by decide +kernel
theorem dX4_refuseThoseWhoWaited_63 : decode cX4_refuseThoseWhoWaited 63 = .ok (.iinc 2 1, 3) := by decide +kernel
theorem dX4_refuseThoseWhoWaited_66 : decode cX4_refuseThoseWhoWaited 66 = .ok (.iinc 3 (-1), 3) := by decide +kernel
theorem dX4_refuseThoseWhoWaited_69 : decode cX4_refuseThoseWhoWaited 69 = .ok (.goto (-62), 3) := by decide +kernel
theorem dX4_refuseThoseWhoWaited_72 : decode cX4_refuseThoseWhoWaited 72 = .ok (.return_, 1) := by decide +kernel
set_option maxRecDepth 20000 in
theorem ggX4_hasWaitedTooLong_X3_at : GoodIn wsX4_hasWaitedTooLong wsX3_at := goodIn_r _ [9, 10, 33] (by decide +kernel) (by decide +kernel)
set_option maxRecDepth 20000 in
theorem gX4_hasWaitedTooLong_X3_at : GoodIn wsX4_hasWaitedTooLong (wsV RX4 103 RX3 yX3_at wsX3_at) := goodIn_app (goodIn_of _ (by decide +kernel)) ggX4_hasWaitedTooLong_X3_at
theorem dX4_hasWaitedTooLong_0 : decode cX4_hasWaitedTooLong 0 = .ok (.aload_n 1, 1) := by decide +kernel
theorem dX4_hasWaitedTooLong_1 : decode cX4_hasWaitedTooLong 1 = .ok (.getfield 172, 3) := by decide +kernel
theorem dX4_hasWaitedTooLong_4 : decode cX4_hasWaitedTooLong 4 = .ok (.ifCond .ne 27, 3) := by decide +kernel
theorem dX4_hasWaitedTooLong_7 : decode cX4_hasWaitedTooLong 7 = .ok (.aload_n 0, 1) := by decide +kernel
theorem dX4_hasWaitedTooLong_8 : decode cX4_hasWaitedTooLong 8 = .ok (.getfield 52, 3) := by decide +kernel
theorem dX4_hasWaitedTooLong_11 : decode cX4_hasWaitedTooLong 11 = .ok (.aload_n 1, 1) := by decide +kernel
theorem dX4_hasWaitedTooLong_12 : decode cX4_hasWaitedTooLong 12 = .ok (.getfield 175, 3) := by decide +kernel
theorem dX4_hasWaitedTooLong_15 : decode cX4_hasWaitedTooLong 15 = .ok (.isub, 1) := by decide +kernel
theorem dX4_hasWaitedTooLong_16 : decode cX4_hasWaitedTooLong 16 = .ok (.aload_n 0, 1) := by decide +kernel
theorem dX4_hasWaitedTooLong_17 : decode cX4_hasWaitedTooLong 17 = .ok (.getfield 14, 3) := by decide +kernel
theorem dX4_hasWaitedTooLong_20 : decode cX4_hasWaitedTooLong 20 = .ok (.iconst 1, 1) := by decide +kernel
theorem dX4_hasWaitedTooLong_21 : decode cX4_hasWaitedTooLong 21 = .ok (.invokevirtual 103, 3) := by decide +kernel
theorem dX4_hasWaitedTooLong_24 : decode cX4_hasWaitedTooLong 24 = .ok (.if_icmp .lt 7, 3) := by decide +kernel
theorem dX4_hasWaitedTooLong_27 : decode cX4_hasWaitedTooLong 27 = .ok (.iconst 1, 1) := by decide +kernel
theorem dX4_hasWaitedTooLong_28 : decode cX4_hasWaitedTooLong 28 = .ok (.goto 4, 3) := by decide +kernel
theorem dX4_hasWaitedTooLong_31 : decode cX4_hasWaitedTooLong 31 = .ok (.iconst 0, 1) := by decide +kernel
theorem dX4_hasWaitedTooLong_32 : decode cX4_hasWaitedTooLong 32 = .ok (.ireturn, 1) := by decide +kernel
set_option maxRecDepth 20000 in
theorem ggX4_workOneUnit_X4_nextLane : GoodIn wsX4_workOneUnit wsX4_nextLane := goodIn_r _ [13, 14, 3, 15, 16, 17, 12, 18, 19, 20, 21, 82, 83, 84, 85, 86, 87, 88, 71, 72, 73, 74, 75, 76, 77, 78, 79, 80, 81] (by decide +kernel) (by decide +kernel)
set_option maxRecDepth 20000 in
theorem gX4_workOneUnit_X4_nextLane : GoodIn wsX4_workOneUnit (wsV RX4 205 RX4 yX4_nextLane wsX4_nextLane) := goodIn_app (goodIn_of _ (by decide +kernel)) ggX4_workOneUnit_X4_nextLane
set_option maxRecDepth 20000 in
theorem ggX4_workOneUnit_X3_at : GoodIn wsX4_workOneUnit wsX3_at := goodIn_r _ [26, 27, 100] (by decide +kernel) (by decide +kernel)
set_option maxRecDepth 20000 in
theorem gX4_workOneUnit_X3_at : GoodIn wsX4_workOneUnit (wsV RX4 103 RX3 yX3_at wsX3_at) := goodIn_app (goodIn_of _ (by decide +kernel)) ggX4_workOneUnit_X3_at
set_option maxRecDepth 20000 in
theorem ggX4_workOneUnit_X6_quotient : GoodIn wsX4_workOneUnit wsX6_quotient := goodIn_r _ [30] (by decide +kernel) (by decide +kernel)
set_option maxRecDepth 20000 in
theorem gX4_workOneUnit_X6_quotient_n130 : GoodIn wsX4_workOneUnit (wsX6_quotient) := ggX4_workOneUnit_X6_quotient
set_option maxRecDepth 20000 in
theorem ggX4_workOneUnit_X4_find : GoodIn wsX4_workOneUnit wsX4_find := goodIn_r _ [34, 35, 36, 71, 72, 73, 74, 75, 76, 77, 78, 79, 80, 81] (by decide +kernel) (by decide +kernel)
set_option maxRecDepth 20000 in
theorem gX4_workOneUnit_X4_find : GoodIn wsX4_workOneUnit (wsV RX4 70 RX4 yX4_find wsX4_find) := goodIn_app (goodIn_of _ (by decide +kernel)) ggX4_workOneUnit_X4_find
set_option maxRecDepth 20000 in
theorem ggX4_workOneUnit_X4_complete : GoodIn wsX4_workOneUnit wsX4_complete := goodIn_r _ [40, 7, 41, 42, 43, 44, 45, 8, 46, 47, 48, 49, 50, 51, 52, 53, 54, 55, 23, 24, 25, 26, 27, 56, 57, 58, 59, 22, 60, 61, 62, 63, 64, 65, 66, 67, 68, 69, 70, 89, 90, 91, 92, 93, 94, 95, 96, 97, 98, 99, 71, 72, 73, 74, 75, 76, 77, 78, 79, 80, 81, 82, 83, 84, 85, 86, 87, 88, 100] (by decide +kernel) (by decide +kernel)
set_option maxRecDepth 20000 in
theorem gX4_workOneUnit_X4_complete : GoodIn wsX4_workOneUnit (wsV RX4 213 RX4 yX4_complete wsX4_complete) := goodIn_app (goodIn_of _ (by decide +kernel)) ggX4_workOneUnit_X4_complete
theorem dX4_workOneUnit_0 : decode cX4_workOneUnit 0 = .ok (.aload_n 0, 1) := by decide +kernel
theorem dX4_workOneUnit_1 : decode cX4_workOneUnit 1 = .ok (.invokevirtual 205, 3) := by decide +kernel
theorem dX4_workOneUnit_4 : decode cX4_workOneUnit 4 = .ok (.astore_n 1, 1) := by decide +kernel
theorem dX4_workOneUnit_5 : decode cX4_workOneUnit 5 = .ok (.aload_n 1, 1) := by decide +kernel
theorem dX4_workOneUnit_6 : decode cX4_workOneUnit 6 = .ok (.ifnonnull 15, 3) := by decide +kernel
theorem dX4_workOneUnit_9 : decode cX4_workOneUnit 9 = .ok (.aload_n 0, 1) := by decide +kernel
theorem dX4_workOneUnit_10 : decode cX4_workOneUnit 10 = .ok (.dup, 1) := by decide +kernel
theorem dX4_workOneUnit_11 : decode cX4_workOneUnit 11 = .ok (.getfield 55, 3) := by decide +kernel
theorem dX4_workOneUnit_14 : decode cX4_workOneUnit 14 = .ok (.iconst 1, 1) := by decide +kernel
theorem dX4_workOneUnit_15 : decode cX4_workOneUnit 15 = .ok (.iadd, 1) := by decide +kernel
theorem dX4_workOneUnit_16 : decode cX4_workOneUnit 16 = .ok (.putfield 55, 3) := by decide +kernel
theorem dX4_workOneUnit_19 : decode cX4_workOneUnit 19 = .ok (.iconst 0, 1) := by decide +kernel
theorem dX4_workOneUnit_20 : decode cX4_workOneUnit 20 = .ok (.ireturn, 1) := by decide +kernel
theorem dX4_workOneUnit_21 : decode cX4_workOneUnit 21 = .ok (.aload_n 1, 1) := by decide +kernel
theorem dX4_workOneUnit_22 : decode cX4_workOneUnit 22 = .ok (.dup, 1) := by decide +kernel
theorem dX4_workOneUnit_23 : decode cX4_workOneUnit 23 = .ok (.getfield 209, 3) := by decide +kernel
theorem dX4_workOneUnit_26 : decode cX4_workOneUnit 26 = .ok (.iconst 1, 1) := by decide +kernel
theorem dX4_workOneUnit_27 : decode cX4_workOneUnit 27 = .ok (.iadd, 1) := by decide +kernel
theorem dX4_workOneUnit_28 : decode cX4_workOneUnit 28 = .ok (.putfield 209, 3) := by decide +kernel
theorem dX4_workOneUnit_31 : decode cX4_workOneUnit 31 = .ok (.aload_n 1, 1) := by decide +kernel
theorem dX4_workOneUnit_32 : decode cX4_workOneUnit 32 = .ok (.dup, 1) := by decide +kernel
theorem dX4_workOneUnit_33 : decode cX4_workOneUnit 33 = .ok (.getfield 178, 3) := by decide +kernel
theorem dX4_workOneUnit_36 : decode cX4_workOneUnit 36 = .ok (.sipush 2520, 3) := by decide +kernel
theorem dX4_workOneUnit_39 : decode cX4_workOneUnit 39 = .ok (.aload_n 1, 1) := by decide +kernel
theorem dX4_workOneUnit_40 : decode cX4_workOneUnit 40 = .ok (.getfield 125, 3) := by decide +kernel
theorem dX4_workOneUnit_43 : decode cX4_workOneUnit 43 = .ok (.iconst 0, 1) := by decide +kernel
theorem dX4_workOneUnit_44 : decode cX4_workOneUnit 44 = .ok (.invokevirtual 103, 3) := by decide +kernel
theorem dX4_workOneUnit_47 : decode cX4_workOneUnit 47 = .ok (.invokestatic 130, 3) := by decide +kernel
theorem dX4_workOneUnit_50 : decode cX4_workOneUnit 50 = .ok (.iadd, 1) := by decide +kernel
theorem dX4_workOneUnit_51 : decode cX4_workOneUnit 51 = .ok (.putfield 178, 3) := by decide +kernel
theorem dX4_workOneUnit_54 : decode cX4_workOneUnit 54 = .ok (.aload_n 0, 1) := by decide +kernel
theorem dX4_workOneUnit_55 : decode cX4_workOneUnit 55 = .ok (.aload_n 1, 1) := by decide +kernel
theorem dX4_workOneUnit_56 : decode cX4_workOneUnit 56 = .ok (.getfield 116, 3) := by decide +kernel
theorem dX4_workOneUnit_59 : decode cX4_workOneUnit 59 = .ok (.iconst 0, 1) := by decide +kernel
theorem dX4_workOneUnit_60 : decode cX4_workOneUnit 60 = .ok (.invokevirtual 103, 3) := by decide +kernel
theorem dX4_workOneUnit_63 : decode cX4_workOneUnit 63 = .ok (.invokevirtual 70, 3) := by decide +kernel
theorem dX4_workOneUnit_66 : decode cX4_workOneUnit 66 = .ok (.astore_n 2, 1) := by decide +kernel
theorem dX4_workOneUnit_67 : decode cX4_workOneUnit 67 = .ok (.aload_n 2, 1) := by decide +kernel
theorem dX4_workOneUnit_68 : decode cX4_workOneUnit 68 = .ok (.ifnonnull 5, 3) := by decide +kernel
theorem dX4_workOneUnit_71 : decode cX4_workOneUnit 71 = .ok (.iconst 0, 1) := by decide +kernel
theorem dX4_workOneUnit_72 : decode cX4_workOneUnit 72 = .ok (.ireturn, 1) := by decide +kernel
theorem dX4_workOneUnit_73 : decode cX4_workOneUnit 73 = .ok (.aload_n 2, 1) := by decide +kernel
theorem dX4_workOneUnit_74 : decode cX4_workOneUnit 74 = .ok (.dup, 1) := by decide +kernel
theorem dX4_workOneUnit_75 : decode cX4_workOneUnit 75 = .ok (.getfield 122, 3) := by decide +kernel
theorem dX4_workOneUnit_78 : decode cX4_workOneUnit 78 = .ok (.iconst 1, 1) := by decide +kernel
theorem dX4_workOneUnit_79 : decode cX4_workOneUnit 79 = .ok (.iadd, 1) := by decide +kernel
theorem dX4_workOneUnit_80 : decode cX4_workOneUnit 80 = .ok (.putfield 122, 3) := by decide +kernel
theorem dX4_workOneUnit_83 : decode cX4_workOneUnit 83 = .ok (.aload_n 2, 1) := by decide +kernel
theorem dX4_workOneUnit_84 : decode cX4_workOneUnit 84 = .ok (.iconst 1, 1) := by decide +kernel
theorem dX4_workOneUnit_85 : decode cX4_workOneUnit 85 = .ok (.putfield 172, 3) := by decide +kernel
theorem dX4_workOneUnit_88 : decode cX4_workOneUnit 88 = .ok (.aload_n 2, 1) := by decide +kernel
theorem dX4_workOneUnit_89 : decode cX4_workOneUnit 89 = .ok (.getfield 122, 3) := by decide +kernel
theorem dX4_workOneUnit_92 : decode cX4_workOneUnit 92 = .ok (.aload_n 2, 1) := by decide +kernel
theorem dX4_workOneUnit_93 : decode cX4_workOneUnit 93 = .ok (.getfield 210, 3) := by decide +kernel
theorem dX4_workOneUnit_96 : decode cX4_workOneUnit 96 = .ok (.if_icmp .ge 5, 3) := by decide +kernel
theorem dX4_workOneUnit_99 : decode cX4_workOneUnit 99 = .ok (.iconst 0, 1) := by decide +kernel
theorem dX4_workOneUnit_100 : decode cX4_workOneUnit 100 = .ok (.ireturn, 1) := by decide +kernel
theorem dX4_workOneUnit_101 : decode cX4_workOneUnit 101 = .ok (.aload_n 0, 1) := by decide +kernel
theorem dX4_workOneUnit_102 : decode cX4_workOneUnit 102 = .ok (.aload_n 1, 1) := by decide +kernel
theorem dX4_workOneUnit_103 : decode cX4_workOneUnit 103 = .ok (.aload_n 2, 1) := by decide +kernel
theorem dX4_workOneUnit_104 : decode cX4_workOneUnit 104 = .ok (.invokevirtual 213, 3) := by decide +kernel
theorem dX4_workOneUnit_107 : decode cX4_workOneUnit 107 = .ok (.iconst 1, 1) := by decide +kernel
theorem dX4_workOneUnit_108 : decode cX4_workOneUnit 108 = .ok (.ireturn, 1) := by decide +kernel
set_option maxRecDepth 20000 in
theorem ggX4_nextLane_X4_lane : GoodIn wsX4_nextLane wsX4_lane := goodIn_r _ [7, 8, 9, 10, 18, 19, 20, 21, 22, 23, 24, 25, 26, 27, 28] (by decide +kernel) (by decide +kernel)
set_option maxRecDepth 20000 in
theorem gX4_nextLane_X4_lane : GoodIn wsX4_nextLane (wsV RX4 148 RX4 yX4_lane wsX4_lane) := goodIn_app (goodIn_of _ (by decide +kernel)) ggX4_nextLane_X4_lane
theorem dX4_nextLane_0 : decode cX4_nextLane 0 = .ok (.aconst_null, 1) := by decide +kernel
theorem dX4_nextLane_1 : decode cX4_nextLane 1 = .ok (.astore_n 1, 1) := by decide +kernel
theorem dX4_nextLane_2 : decode cX4_nextLane 2 = .ok (.iconst 0, 1) := by decide +kernel
theorem dX4_nextLane_3 : decode cX4_nextLane 3 = .ok (.istore_n 2, 1) := by decide +kernel
theorem dX4_nextLane_4 : decode cX4_nextLane 4 = .ok (.iload_n 2, 1) := by decide +kernel
theorem dX4_nextLane_5 : decode cX4_nextLane 5 = .ok (.iconst 3, 1) := by decide +kernel
theorem dX4_nextLane_6 : decode cX4_nextLane 6 = .ok (.if_icmp .ge 39, 3) := by decide +kernel
theorem dX4_nextLane_9 : decode cX4_nextLane 9 = .ok (.aload_n 0, 1) := by decide +kernel
theorem dX4_nextLane_10 : decode cX4_nextLane 10 = .ok (.iload_n 2, 1) := by decide +kernel
theorem dX4_nextLane_11 : decode cX4_nextLane 11 = .ok (.invokevirtual 148, 3) := by decide +kernel
theorem dX4_nextLane_14 : decode cX4_nextLane 14 = .ok (.astore_n 3, 1) := by decide +kernel
theorem dX4_nextLane_15 : decode cX4_nextLane 15 = .ok (.aload_n 3, 1) := by decide +kernel
theorem dX4_nextLane_16 : decode cX4_nextLane 16 = .ok (.getfield 113, 3) := by decide +kernel
theorem dX4_nextLane_19 : decode cX4_nextLane 19 = .ok (.ifCond .le 20, 3) := by decide +kernel
theorem dX4_nextLane_22 : decode cX4_nextLane 22 = .ok (.aload_n 1, 1) := by decide +kernel
theorem dX4_nextLane_23 : decode cX4_nextLane 23 = .ok (.ifnull 14, 3) := by decide +kernel
theorem dX4_nextLane_26 : decode cX4_nextLane 26 = .ok (.aload_n 3, 1) := by decide +kernel
theorem dX4_nextLane_27 : decode cX4_nextLane 27 = .ok (.getfield 178, 3) := by decide +kernel
theorem dX4_nextLane_30 : decode cX4_nextLane 30 = .ok (.aload_n 1, 1) := by decide +kernel
theorem dX4_nextLane_31 : decode cX4_nextLane 31 = .ok (.getfield 178, 3) := by decide +kernel
theorem dX4_nextLane_34 : decode cX4_nextLane 34 = .ok (.if_icmp .ge 5, 3) := by decide +kernel
theorem dX4_nextLane_37 : decode cX4_nextLane 37 = .ok (.aload_n 3, 1) := by decide +kernel
theorem dX4_nextLane_38 : decode cX4_nextLane 38 = .ok (.astore_n 1, 1) := by decide +kernel
theorem dX4_nextLane_39 : decode cX4_nextLane 39 = .ok (.iinc 2 1, 3) := by decide +kernel
theorem dX4_nextLane_42 : decode cX4_nextLane 42 = .ok (.goto (-38), 3) := by decide +kernel
theorem dX4_nextLane_45 : decode cX4_nextLane 45 = .ok (.aload_n 1, 1) := by decide +kernel
theorem dX4_nextLane_46 : decode cX4_nextLane 46 = .ok (.areturn, 1) := by decide +kernel
set_option maxRecDepth 20000 in
theorem ggX4_complete_X1_leave : GoodIn wsX4_complete wsX1_leave := goodIn_r _ [14, 15, 16, 17, 18, 19, 20, 21, 22, 23, 24, 25, 26, 61, 62, 63, 64, 65, 66, 67, 68] (by decide +kernel) (by decide +kernel)
set_option maxRecDepth 20000 in
theorem gX4_complete_X1_leave : GoodIn wsX4_complete (wsV RX4 202 RX1 yX1_leave wsX1_leave) := goodIn_app (goodIn_of _ (by decide +kernel)) ggX4_complete_X1_leave
set_option maxRecDepth 20000 in
theorem ggX4_complete_X3_at : GoodIn wsX4_complete wsX3_at := goodIn_r _ [21, 22, 68] (by decide +kernel) (by decide +kernel)
set_option maxRecDepth 20000 in
theorem gX4_complete_X3_at : GoodIn wsX4_complete (wsV RX4 103 RX3 yX3_at wsX3_at) := goodIn_app (goodIn_of _ (by decide +kernel)) ggX4_complete_X3_at
set_option maxRecDepth 20000 in
theorem ggX4_complete_X3_put : GoodIn wsX4_complete wsX3_put := goodIn_r _ [26, 22, 68] (by decide +kernel) (by decide +kernel)
set_option maxRecDepth 20000 in
theorem gX4_complete_X3_put : GoodIn wsX4_complete (wsV RX4 58 RX3 yX3_put wsX3_put) := goodIn_app (goodIn_of _ (by decide +kernel)) ggX4_complete_X3_put
set_option maxRecDepth 20000 in
theorem ggX4_complete_X1_gain : GoodIn wsX4_complete wsX1_gain := goodIn_r _ [32, 33, 34, 35, 36, 37, 38, 17, 18, 19, 20, 21, 22, 61, 62, 63, 64, 65, 66, 67, 68] (by decide +kernel) (by decide +kernel)
set_option maxRecDepth 20000 in
theorem gX4_complete_X1_gain : GoodIn wsX4_complete (wsV RX4 189 RX1 yX1_gain wsX1_gain) := goodIn_app (goodIn_of _ (by decide +kernel)) ggX4_complete_X1_gain
theorem dX4_complete_0 : decode cX4_complete 0 = .ok (.aload_n 2, 1) := by decide +kernel
theorem dX4_complete_1 : decode cX4_complete 1 = .ok (.iconst 2, 1) := by decide +kernel
theorem dX4_complete_2 : decode cX4_complete 2 = .ok (.putfield 172, 3) := by decide +kernel
theorem dX4_complete_5 : decode cX4_complete 5 = .ok (.aload_n 2, 1) := by decide +kernel
theorem dX4_complete_6 : decode cX4_complete 6 = .ok (.aload_n 0, 1) := by decide +kernel
theorem dX4_complete_7 : decode cX4_complete 7 = .ok (.getfield 52, 3) := by decide +kernel
theorem dX4_complete_10 : decode cX4_complete 10 = .ok (.putfield 187, 3) := by decide +kernel
theorem dX4_complete_13 : decode cX4_complete 13 = .ok (.aload_n 0, 1) := by decide +kernel
theorem dX4_complete_14 : decode cX4_complete 14 = .ok (.dup, 1) := by decide +kernel
theorem dX4_complete_15 : decode cX4_complete 15 = .ok (.getfield 46, 3) := by decide +kernel
theorem dX4_complete_18 : decode cX4_complete 18 = .ok (.iconst 1, 1) := by decide +kernel
theorem dX4_complete_19 : decode cX4_complete 19 = .ok (.isub, 1) := by decide +kernel
theorem dX4_complete_20 : decode cX4_complete 20 = .ok (.putfield 46, 3) := by decide +kernel
theorem dX4_complete_23 : decode cX4_complete 23 = .ok (.aload_n 1, 1) := by decide +kernel
theorem dX4_complete_24 : decode cX4_complete 24 = .ok (.iconst 0, 1) := by decide +kernel
theorem dX4_complete_25 : decode cX4_complete 25 = .ok (.invokevirtual 202, 3) := by decide +kernel
theorem dX4_complete_28 : decode cX4_complete 28 = .ok (.aload_n 0, 1) := by decide +kernel
theorem dX4_complete_29 : decode cX4_complete 29 = .ok (.getfield 20, 3) := by decide +kernel
theorem dX4_complete_32 : decode cX4_complete 32 = .ok (.aload_n 2, 1) := by decide +kernel
theorem dX4_complete_33 : decode cX4_complete 33 = .ok (.getfield 136, 3) := by decide +kernel
theorem dX4_complete_36 : decode cX4_complete 36 = .ok (.invokevirtual 103, 3) := by decide +kernel
theorem dX4_complete_39 : decode cX4_complete 39 = .ok (.istore_n 3, 1) := by decide +kernel
theorem dX4_complete_40 : decode cX4_complete 40 = .ok (.aload_n 0, 1) := by decide +kernel
theorem dX4_complete_41 : decode cX4_complete 41 = .ok (.getfield 20, 3) := by decide +kernel
theorem dX4_complete_44 : decode cX4_complete 44 = .ok (.aload_n 2, 1) := by decide +kernel
theorem dX4_complete_45 : decode cX4_complete 45 = .ok (.getfield 136, 3) := by decide +kernel
theorem dX4_complete_48 : decode cX4_complete 48 = .ok (.iload_n 3, 1) := by decide +kernel
theorem dX4_complete_49 : decode cX4_complete 49 = .ok (.bipush 16, 2) := by decide +kernel
theorem dX4_complete_51 : decode cX4_complete 51 = .ok (.aload_n 2, 1) := by decide +kernel
theorem dX4_complete_52 : decode cX4_complete 52 = .ok (.getfield 210, 3) := by decide +kernel
theorem dX4_complete_55 : decode cX4_complete 55 = .ok (.imul, 1) := by decide +kernel
theorem dX4_complete_56 : decode cX4_complete 56 = .ok (.iload_n 3, 1) := by decide +kernel
theorem dX4_complete_57 : decode cX4_complete 57 = .ok (.isub, 1) := by decide +kernel
theorem dX4_complete_58 : decode cX4_complete 58 = .ok (.iconst 4, 1) := by decide +kernel
theorem dX4_complete_59 : decode cX4_complete 59 = .ok (.idiv, 1) := by decide +kernel
theorem dX4_complete_60 : decode cX4_complete 60 = .ok (.iadd, 1) := by decide +kernel
theorem dX4_complete_61 : decode cX4_complete 61 = .ok (.invokevirtual 58, 3) := by decide +kernel
theorem dX4_complete_64 : decode cX4_complete 64 = .ok (.aload_n 2, 1) := by decide +kernel
theorem dX4_complete_65 : decode cX4_complete 65 = .ok (.getfield 119, 3) := by decide +kernel
theorem dX4_complete_68 : decode cX4_complete 68 = .ok (.aload_n 2, 1) := by decide +kernel
theorem dX4_complete_69 : decode cX4_complete 69 = .ok (.getfield 210, 3) := by decide +kernel
theorem dX4_complete_72 : decode cX4_complete 72 = .ok (.if_icmp .le 19, 3) := by decide +kernel
theorem dX4_complete_75 : decode cX4_complete 75 = .ok (.aload_n 1, 1) := by decide +kernel
theorem dX4_complete_76 : decode cX4_complete 76 = .ok (.aload_n 2, 1) := by decide +kernel
theorem dX4_complete_77 : decode cX4_complete 77 = .ok (.getfield 119, 3) := by decide +kernel
theorem dX4_complete_80 : decode cX4_complete 80 = .ok (.aload_n 2, 1) := by decide +kernel
theorem dX4_complete_81 : decode cX4_complete 81 = .ok (.getfield 210, 3) := by decide +kernel
theorem dX4_complete_84 : decode cX4_complete 84 = .ok (.isub, 1) := by decide +kernel
theorem dX4_complete_85 : decode cX4_complete 85 = .ok (.invokevirtual 189, 3) := by decide +kernel
theorem dX4_complete_88 : decode cX4_complete 88 = .ok (.goto 21, 3) := by decide +kernel
theorem dX4_complete_91 : decode cX4_complete 91 = .ok (.aload_n 1, 1) := by decide +kernel
theorem dX4_complete_92 : decode cX4_complete 92 = .ok (.dup, 1) := by decide +kernel
theorem dX4_complete_93 : decode cX4_complete 93 = .ok (.getfield 133, 3) := by decide +kernel
theorem dX4_complete_96 : decode cX4_complete 96 = .ok (.aload_n 2, 1) := by decide +kernel
theorem dX4_complete_97 : decode cX4_complete 97 = .ok (.getfield 210, 3) := by decide +kernel
theorem dX4_complete_100 : decode cX4_complete 100 = .ok (.aload_n 2, 1) := by decide +kernel
theorem dX4_complete_101 : decode cX4_complete 101 = .ok (.getfield 119, 3) := by decide +kernel
theorem dX4_complete_104 : decode cX4_complete 104 = .ok (.isub, 1) := by decide +kernel
theorem dX4_complete_105 : decode cX4_complete 105 = .ok (.isub, 1) := by decide +kernel
theorem dX4_complete_106 : decode cX4_complete 106 = .ok (.putfield 133, 3) := by decide +kernel
theorem dX4_complete_109 : decode cX4_complete 109 = .ok (.return_, 1) := by decide +kernel
set_option maxRecDepth 20000 in
theorem ggX5_init_X3_init : GoodIn wsX5_init wsX3_init := goodIn_r _ [11, 12, 2, 3, 13, 14, 15] (by decide +kernel) (by decide +kernel)
set_option maxRecDepth 20000 in
theorem gX5_init_X3_init : GoodIn wsX5_init (wsX3_init) := ggX5_init_X3_init
theorem dX5_init_0 : decode cX5_init 0 = .ok (.aload_n 0, 1) := by decide +kernel
theorem dX5_init_1 : decode cX5_init 1 = .ok (.invokespecial 3, 3) := by decide +kernel
theorem dX5_init_4 : decode cX5_init 4 = .ok (.aload_n 0, 1) := by decide +kernel
theorem dX5_init_5 : decode cX5_init 5 = .ok (.new 9, 3) := by decide +kernel
theorem dX5_init_8 : decode cX5_init 8 = .ok (.dup, 1) := by decide +kernel
theorem dX5_init_9 : decode cX5_init 9 = .ok (.bipush 80, 2) := by decide +kernel
theorem dX5_init_11 : decode cX5_init 11 = .ok (.invokespecial 11, 3) := by decide +kernel
theorem dX5_init_14 : decode cX5_init 14 = .ok (.putfield 14, 3) := by decide +kernel
theorem dX5_init_17 : decode cX5_init 17 = .ok (.aload_n 0, 1) := by decide +kernel
theorem dX5_init_18 : decode cX5_init 18 = .ok (.iconst 0, 1) := by decide +kernel
theorem dX5_init_19 : decode cX5_init 19 = .ok (.putfield 20, 3) := by decide +kernel
theorem dX5_init_22 : decode cX5_init 22 = .ok (.return_, 1) := by decide +kernel
set_option maxRecDepth 20000 in
theorem ggX5_add_X3_put : GoodIn wsX5_add wsX3_put := goodIn_r _ [7, 8, 11] (by decide +kernel) (by decide +kernel)
set_option maxRecDepth 20000 in
theorem gX5_add_X3_put : GoodIn wsX5_add (wsV RX5 24 RX3 yX3_put wsX3_put) := goodIn_app (goodIn_of _ (by decide +kernel)) ggX5_add_X3_put
theorem dX5_add_0 : decode cX5_add 0 = .ok (.aload_n 0, 1) := by decide +kernel
theorem dX5_add_1 : decode cX5_add 1 = .ok (.getfield 20, 3) := by decide +kernel
theorem dX5_add_4 : decode cX5_add 4 = .ok (.bipush 80, 2) := by decide +kernel
theorem dX5_add_6 : decode cX5_add 6 = .ok (.if_icmp .ge 25, 3) := by decide +kernel
theorem dX5_add_9 : decode cX5_add 9 = .ok (.aload_n 0, 1) := by decide +kernel
theorem dX5_add_10 : decode cX5_add 10 = .ok (.getfield 14, 3) := by decide +kernel
theorem dX5_add_13 : decode cX5_add 13 = .ok (.aload_n 0, 1) := by decide +kernel
theorem dX5_add_14 : decode cX5_add 14 = .ok (.getfield 20, 3) := by decide +kernel
theorem dX5_add_17 : decode cX5_add 17 = .ok (.iload_n 1, 1) := by decide +kernel
theorem dX5_add_18 : decode cX5_add 18 = .ok (.invokevirtual 24, 3) := by decide +kernel
theorem dX5_add_21 : decode cX5_add 21 = .ok (.aload_n 0, 1) := by decide +kernel
theorem dX5_add_22 : decode cX5_add 22 = .ok (.dup, 1) := by decide +kernel
theorem dX5_add_23 : decode cX5_add 23 = .ok (.getfield 20, 3) := by decide +kernel
theorem dX5_add_26 : decode cX5_add 26 = .ok (.iconst 1, 1) := by decide +kernel
theorem dX5_add_27 : decode cX5_add 27 = .ok (.iadd, 1) := by decide +kernel
theorem dX5_add_28 : decode cX5_add 28 = .ok (.putfield 20, 3) := by decide +kernel
theorem dX5_add_31 : decode cX5_add 31 = .ok (.return_, 1) := by decide +kernel
set_option maxRecDepth 20000 in
theorem ggX5_firstFault_X3_at : GoodIn wsX5_firstFault wsX3_at := goodIn_r _ [8, 9, 25] (by decide +kernel) (by decide +kernel)
set_option maxRecDepth 20000 in
theorem gX5_firstFault_X3_at : GoodIn wsX5_firstFault (wsV RX5 28 RX3 yX3_at wsX3_at) := goodIn_app (goodIn_of _ (by decide +kernel)) ggX5_firstFault_X3_at
set_option maxRecDepth 20000 in
theorem ggX5_firstFault_X5_expectedAfter : GoodIn wsX5_firstFault wsX5_expectedAfter := goodIn_r _ [13, 14, 15, 16, 17, 18, 12, 19, 20, 21, 22] (by decide +kernel) (by decide +kernel)
set_option maxRecDepth 20000 in
theorem gX5_firstFault_X5_expectedAfter : GoodIn wsX5_firstFault (va_wsS RX5 32 yX5_expectedAfter wsX5_expectedAfter) := goodIn_app (goodIn_of _ (by decide +kernel)) ggX5_firstFault_X5_expectedAfter
theorem dX5_firstFault_0 : decode cX5_firstFault 0 = .ok (.iconst 0, 1) := by decide +kernel
theorem dX5_firstFault_1 : decode cX5_firstFault 1 = .ok (.istore_n 1, 1) := by decide +kernel
theorem dX5_firstFault_2 : decode cX5_firstFault 2 = .ok (.iconst 0, 1) := by decide +kernel
theorem dX5_firstFault_3 : decode cX5_firstFault 3 = .ok (.istore_n 2, 1) := by decide +kernel
theorem dX5_firstFault_4 : decode cX5_firstFault 4 = .ok (.iload_n 2, 1) := by decide +kernel
theorem dX5_firstFault_5 : decode cX5_firstFault 5 = .ok (.aload_n 0, 1) := by decide +kernel
theorem dX5_firstFault_6 : decode cX5_firstFault 6 = .ok (.getfield 20, 3) := by decide +kernel
theorem dX5_firstFault_9 : decode cX5_firstFault 9 = .ok (.if_icmp .ge 30, 3) := by decide +kernel
theorem dX5_firstFault_12 : decode cX5_firstFault 12 = .ok (.iload_n 1, 1) := by decide +kernel
theorem dX5_firstFault_13 : decode cX5_firstFault 13 = .ok (.aload_n 0, 1) := by decide +kernel
theorem dX5_firstFault_14 : decode cX5_firstFault 14 = .ok (.getfield 14, 3) := by decide +kernel
theorem dX5_firstFault_17 : decode cX5_firstFault 17 = .ok (.iload_n 2, 1) := by decide +kernel
theorem dX5_firstFault_18 : decode cX5_firstFault 18 = .ok (.invokevirtual 28, 3) := by decide +kernel
theorem dX5_firstFault_21 : decode cX5_firstFault 21 = .ok (.invokestatic 32, 3) := by decide +kernel
theorem dX5_firstFault_24 : decode cX5_firstFault 24 = .ok (.istore_n 1, 1) := by decide +kernel
theorem dX5_firstFault_25 : decode cX5_firstFault 25 = .ok (.iload_n 1, 1) := by decide +kernel
theorem dX5_firstFault_26 : decode cX5_firstFault 26 = .ok (.bipush 7, 2) := by decide +kernel
theorem dX5_firstFault_28 : decode cX5_firstFault 28 = .ok (.if_icmp .ne 5, 3) := by decide +kernel
theorem dX5_firstFault_31 : decode cX5_firstFault 31 = .ok (.iload_n 2, 1) := by decide +kernel
theorem dX5_firstFault_32 : decode cX5_firstFault 32 = .ok (.ireturn, 1) := by decide +kernel
theorem dX5_firstFault_33 : decode cX5_firstFault 33 = .ok (.iinc 2 1, 3) := by decide +kernel
theorem dX5_firstFault_36 : decode cX5_firstFault 36 = .ok (.goto (-32), 3) := by decide +kernel
theorem dX5_firstFault_39 : decode cX5_firstFault 39 = .ok (.iload_n 1, 1) := by decide +kernel
theorem dX5_firstFault_40 : decode cX5_firstFault 40 = .ok (.iconst 4, 1) := by decide +kernel
theorem dX5_firstFault_41 : decode cX5_firstFault 41 = .ok (.if_icmp .eq 14, 3) := by decide +kernel
theorem dX5_firstFault_44 : decode cX5_firstFault 44 = .ok (.iload_n 1, 1) := by decide +kernel
theorem dX5_firstFault_45 : decode cX5_firstFault 45 = .ok (.iconst 5, 1) := by decide +kernel
theorem dX5_firstFault_46 : decode cX5_firstFault 46 = .ok (.if_icmp .eq 9, 3) := by decide +kernel
theorem dX5_firstFault_49 : decode cX5_firstFault 49 = .ok (.iload_n 1, 1) := by decide +kernel
theorem dX5_firstFault_50 : decode cX5_firstFault 50 = .ok (.bipush 6, 2) := by decide +kernel
theorem dX5_firstFault_52 : decode cX5_firstFault 52 = .ok (.if_icmp .ne 8, 3) := by decide +kernel
theorem dX5_firstFault_55 : decode cX5_firstFault 55 = .ok (.ldc 36, 2) := by decide +kernel
theorem dX5_firstFault_57 : decode cX5_firstFault 57 = .ok (.goto 7, 3) := by decide +kernel
theorem dX5_firstFault_60 : decode cX5_firstFault 60 = .ok (.aload_n 0, 1) := by decide +kernel
theorem dX5_firstFault_61 : decode cX5_firstFault 61 = .ok (.getfield 20, 3) := by decide +kernel
theorem dX5_firstFault_64 : decode cX5_firstFault 64 = .ok (.ireturn, 1) := by decide +kernel
set_option maxRecDepth 20000 in
theorem ggX5_expectedAfter_X6_isBetween : GoodIn wsX5_expectedAfter wsX6_isBetween := goodIn_r _ [3] (by decide +kernel) (by decide +kernel)
set_option maxRecDepth 20000 in
theorem gX5_expectedAfter_X6_isBetween_n37 : GoodIn wsX5_expectedAfter (wsX6_isBetween) := ggX5_expectedAfter_X6_isBetween
set_option maxRecDepth 20000 in
theorem ggX5_expectedAfter_X5_expectedAfterFirstOfCost : GoodIn wsX5_expectedAfter wsX5_expectedAfterFirstOfCost := goodIn_r _ [7, 1, 2, 3] (by decide +kernel) (by decide +kernel)
set_option maxRecDepth 20000 in
theorem gX5_expectedAfter_X5_expectedAfterFirstOfCost : GoodIn wsX5_expectedAfter (va_wsS RX5 41 yX5_expectedAfterFirstOfCost wsX5_expectedAfterFirstOfCost) := goodIn_app (goodIn_of _ (by decide +kernel)) ggX5_expectedAfter_X5_expectedAfterFirstOfCost
set_option maxRecDepth 20000 in
theorem ggX5_expectedAfter_X5_expectedAfterNumber : GoodIn wsX5_expectedAfter wsX5_expectedAfterNumber := goodIn_r _ [10, 1, 2, 3] (by decide +kernel) (by decide +kernel)
set_option maxRecDepth 20000 in
theorem gX5_expectedAfter_X5_expectedAfterNumber : GoodIn wsX5_expectedAfter (va_wsS RX5 44 yX5_expectedAfterNumber wsX5_expectedAfterNumber) := goodIn_app (goodIn_of _ (by decide +kernel)) ggX5_expectedAfter_X5_expectedAfterNumber
theorem dX5_expectedAfter_0 : decode cX5_expectedAfter 0 = .ok (.iload_n 0, 1) := by decide +kernel
theorem dX5_expectedAfter_1 : decode cX5_expectedAfter 1 = .ok (.tableswitch 98 0 3 #[31, 57, 75, 80], 31) := by decide +kernel
theorem dX5_expectedAfter_32 : decode cX5_expectedAfter 32 = .ok (.iload_n 1, 1) := by decide +kernel
theorem dX5_expectedAfter_33 : decode cX5_expectedAfter 33 = .ok (.bipush 43, 2) := by decide +kernel
theorem dX5_expectedAfter_35 : decode cX5_expectedAfter 35 = .ok (.if_icmp .ne 5, 3) := by decide +kernel
theorem dX5_expectedAfter_38 : decode cX5_expectedAfter 38 = .ok (.iconst 3, 1) := by decide +kernel
theorem dX5_expectedAfter_39 : decode cX5_expectedAfter 39 = .ok (.ireturn, 1) := by decide +kernel
theorem dX5_expectedAfter_40 : decode cX5_expectedAfter 40 = .ok (.bipush 48, 2) := by decide +kernel
theorem dX5_expectedAfter_42 : decode cX5_expectedAfter 42 = .ok (.iload_n 1, 1) := by decide +kernel
theorem dX5_expectedAfter_43 : decode cX5_expectedAfter 43 = .ok (.bipush 50, 2) := by decide +kernel
theorem dX5_expectedAfter_45 : decode cX5_expectedAfter 45 = .ok (.invokestatic 37, 3) := by decide +kernel
theorem dX5_expectedAfter_48 : decode cX5_expectedAfter 48 = .ok (.ifCond .eq 7, 3) := by decide +kernel
theorem dX5_expectedAfter_51 : decode cX5_expectedAfter 51 = .ok (.iconst 1, 1) := by decide +kernel
theorem dX5_expectedAfter_52 : decode cX5_expectedAfter 52 = .ok (.goto 5, 3) := by decide +kernel
theorem dX5_expectedAfter_55 : decode cX5_expectedAfter 55 = .ok (.bipush 7, 2) := by decide +kernel
theorem dX5_expectedAfter_57 : decode cX5_expectedAfter 57 = .ok (.ireturn, 1) := by decide +kernel
theorem dX5_expectedAfter_58 : decode cX5_expectedAfter 58 = .ok (.bipush 97, 2) := by decide +kernel
theorem dX5_expectedAfter_60 : decode cX5_expectedAfter 60 = .ok (.iload_n 1, 1) := by decide +kernel
theorem dX5_expectedAfter_61 : decode cX5_expectedAfter 61 = .ok (.bipush 101, 2) := by decide +kernel
theorem dX5_expectedAfter_63 : decode cX5_expectedAfter 63 = .ok (.invokestatic 37, 3) := by decide +kernel
theorem dX5_expectedAfter_66 : decode cX5_expectedAfter 66 = .ok (.ifCond .eq 7, 3) := by decide +kernel
theorem dX5_expectedAfter_69 : decode cX5_expectedAfter 69 = .ok (.iconst 2, 1) := by decide +kernel
theorem dX5_expectedAfter_70 : decode cX5_expectedAfter 70 = .ok (.goto 5, 3) := by decide +kernel
theorem dX5_expectedAfter_73 : decode cX5_expectedAfter 73 = .ok (.bipush 7, 2) := by decide +kernel
theorem dX5_expectedAfter_75 : decode cX5_expectedAfter 75 = .ok (.ireturn, 1) := by decide +kernel
theorem dX5_expectedAfter_76 : decode cX5_expectedAfter 76 = .ok (.iload_n 1, 1) := by decide +kernel
theorem dX5_expectedAfter_77 : decode cX5_expectedAfter 77 = .ok (.invokestatic 41, 3) := by decide +kernel
theorem dX5_expectedAfter_80 : decode cX5_expectedAfter 80 = .ok (.ireturn, 1) := by decide +kernel
theorem dX5_expectedAfter_81 : decode cX5_expectedAfter 81 = .ok (.bipush 49, 2) := by decide +kernel
theorem dX5_expectedAfter_83 : decode cX5_expectedAfter 83 = .ok (.iload_n 1, 1) := by decide +kernel
theorem dX5_expectedAfter_84 : decode cX5_expectedAfter 84 = .ok (.bipush 57, 2) := by decide +kernel
theorem dX5_expectedAfter_86 : decode cX5_expectedAfter 86 = .ok (.invokestatic 37, 3) := by decide +kernel
theorem dX5_expectedAfter_89 : decode cX5_expectedAfter 89 = .ok (.ifCond .eq 7, 3) := by decide +kernel
theorem dX5_expectedAfter_92 : decode cX5_expectedAfter 92 = .ok (.iconst 4, 1) := by decide +kernel
theorem dX5_expectedAfter_93 : decode cX5_expectedAfter 93 = .ok (.goto 5, 3) := by decide +kernel
theorem dX5_expectedAfter_96 : decode cX5_expectedAfter 96 = .ok (.bipush 7, 2) := by decide +kernel
theorem dX5_expectedAfter_98 : decode cX5_expectedAfter 98 = .ok (.ireturn, 1) := by decide +kernel
theorem dX5_expectedAfter_99 : decode cX5_expectedAfter 99 = .ok (.iload_n 0, 1) := by decide +kernel
theorem dX5_expectedAfter_100 : decode cX5_expectedAfter 100 = .ok (.iload_n 1, 1) := by decide +kernel
theorem dX5_expectedAfter_101 : decode cX5_expectedAfter 101 = .ok (.invokestatic 44, 3) := by decide +kernel
theorem dX5_expectedAfter_104 : decode cX5_expectedAfter 104 = .ok (.ireturn, 1) := by decide +kernel
set_option maxRecDepth 20000 in
theorem ggX5_expectedAfterFirstOfCost_X6_isBetween : GoodIn wsX5_expectedAfterFirstOfCost wsX6_isBetween := goodIn_r _ [3] (by decide +kernel) (by decide +kernel)
set_option maxRecDepth 20000 in
theorem gX5_expectedAfterFirstOfCost_X6_isBetween_n37 : GoodIn wsX5_expectedAfterFirstOfCost (wsX6_isBetween) := ggX5_expectedAfterFirstOfCost_X6_isBetween
theorem dX5_expectedAfterFirstOfCost_0 : decode cX5_expectedAfterFirstOfCost 0 = .ok (.bipush 49, 2) := by decide +kernel
theorem dX5_expectedAfterFirstOfCost_2 : decode cX5_expectedAfterFirstOfCost 2 = .ok (.iload_n 0, 1) := by decide +kernel
theorem dX5_expectedAfterFirstOfCost_3 : decode cX5_expectedAfterFirstOfCost 3 = .ok (.bipush 53, 2) := by decide +kernel
theorem dX5_expectedAfterFirstOfCost_5 : decode cX5_expectedAfterFirstOfCost 5 = .ok (.invokestatic 37, 3) := by decide +kernel
theorem dX5_expectedAfterFirstOfCost_8 : decode cX5_expectedAfterFirstOfCost 8 = .ok (.ifCond .eq 5, 3) := by decide +kernel
theorem dX5_expectedAfterFirstOfCost_11 : decode cX5_expectedAfterFirstOfCost 11 = .ok (.iconst 4, 1) := by decide +kernel
theorem dX5_expectedAfterFirstOfCost_12 : decode cX5_expectedAfterFirstOfCost 12 = .ok (.ireturn, 1) := by decide +kernel
theorem dX5_expectedAfterFirstOfCost_13 : decode cX5_expectedAfterFirstOfCost 13 = .ok (.iload_n 0, 1) := by decide +kernel
theorem dX5_expectedAfterFirstOfCost_14 : decode cX5_expectedAfterFirstOfCost 14 = .ok (.bipush 54, 2) := by decide +kernel
theorem dX5_expectedAfterFirstOfCost_16 : decode cX5_expectedAfterFirstOfCost 16 = .ok (.if_icmp .ne 5, 3) := by decide +kernel
theorem dX5_expectedAfterFirstOfCost_19 : decode cX5_expectedAfterFirstOfCost 19 = .ok (.iconst 5, 1) := by decide +kernel
theorem dX5_expectedAfterFirstOfCost_20 : decode cX5_expectedAfterFirstOfCost 20 = .ok (.ireturn, 1) := by decide +kernel
theorem dX5_expectedAfterFirstOfCost_21 : decode cX5_expectedAfterFirstOfCost 21 = .ok (.bipush 55, 2) := by decide +kernel
theorem dX5_expectedAfterFirstOfCost_23 : decode cX5_expectedAfterFirstOfCost 23 = .ok (.iload_n 0, 1) := by decide +kernel
theorem dX5_expectedAfterFirstOfCost_24 : decode cX5_expectedAfterFirstOfCost 24 = .ok (.bipush 57, 2) := by decide +kernel
theorem dX5_expectedAfterFirstOfCost_26 : decode cX5_expectedAfterFirstOfCost 26 = .ok (.invokestatic 37, 3) := by decide +kernel
theorem dX5_expectedAfterFirstOfCost_29 : decode cX5_expectedAfterFirstOfCost 29 = .ok (.ifCond .eq 8, 3) := by decide +kernel
theorem dX5_expectedAfterFirstOfCost_32 : decode cX5_expectedAfterFirstOfCost 32 = .ok (.bipush 6, 2) := by decide +kernel
theorem dX5_expectedAfterFirstOfCost_34 : decode cX5_expectedAfterFirstOfCost 34 = .ok (.goto 5, 3) := by decide +kernel
theorem dX5_expectedAfterFirstOfCost_37 : decode cX5_expectedAfterFirstOfCost 37 = .ok (.bipush 7, 2) := by decide +kernel
theorem dX5_expectedAfterFirstOfCost_39 : decode cX5_expectedAfterFirstOfCost 39 = .ok (.ireturn, 1) := by decide +kernel
set_option maxRecDepth 20000 in
theorem ggX5_expectedAfterNumber_X6_isBetween : GoodIn wsX5_expectedAfterNumber wsX6_isBetween := goodIn_r _ [3] (by decide +kernel) (by decide +kernel)
set_option maxRecDepth 20000 in
theorem gX5_expectedAfterNumber_X6_isBetween_n37 : GoodIn wsX5_expectedAfterNumber (wsX6_isBetween) := ggX5_expectedAfterNumber_X6_isBetween
theorem dX5_expectedAfterNumber_0 : decode cX5_expectedAfterNumber 0 = .ok (.iload_n 1, 1) := by decide +kernel
theorem dX5_expectedAfterNumber_1 : decode cX5_expectedAfterNumber 1 = .ok (.bipush 59, 2) := by decide +kernel
theorem dX5_expectedAfterNumber_3 : decode cX5_expectedAfterNumber 3 = .ok (.if_icmp .ne 5, 3) := by decide +kernel
theorem dX5_expectedAfterNumber_6 : decode cX5_expectedAfterNumber 6 = .ok (.iconst 0, 1) := by decide +kernel
theorem dX5_expectedAfterNumber_7 : decode cX5_expectedAfterNumber 7 = .ok (.ireturn, 1) := by decide +kernel
theorem dX5_expectedAfterNumber_8 : decode cX5_expectedAfterNumber 8 = .ok (.iload_n 0, 1) := by decide +kernel
theorem dX5_expectedAfterNumber_9 : decode cX5_expectedAfterNumber 9 = .ok (.iconst 4, 1) := by decide +kernel
theorem dX5_expectedAfterNumber_10 : decode cX5_expectedAfterNumber 10 = .ok (.if_icmp .ne 17, 3) := by decide +kernel
theorem dX5_expectedAfterNumber_13 : decode cX5_expectedAfterNumber 13 = .ok (.bipush 48, 2) := by decide +kernel
theorem dX5_expectedAfterNumber_15 : decode cX5_expectedAfterNumber 15 = .ok (.iload_n 1, 1) := by decide +kernel
theorem dX5_expectedAfterNumber_16 : decode cX5_expectedAfterNumber 16 = .ok (.bipush 57, 2) := by decide +kernel
theorem dX5_expectedAfterNumber_18 : decode cX5_expectedAfterNumber 18 = .ok (.invokestatic 37, 3) := by decide +kernel
theorem dX5_expectedAfterNumber_21 : decode cX5_expectedAfterNumber 21 = .ok (.ifCond .eq 6, 3) := by decide +kernel
theorem dX5_expectedAfterNumber_24 : decode cX5_expectedAfterNumber 24 = .ok (.bipush 6, 2) := by decide +kernel
theorem dX5_expectedAfterNumber_26 : decode cX5_expectedAfterNumber 26 = .ok (.ireturn, 1) := by decide +kernel
theorem dX5_expectedAfterNumber_27 : decode cX5_expectedAfterNumber 27 = .ok (.iload_n 0, 1) := by decide +kernel
theorem dX5_expectedAfterNumber_28 : decode cX5_expectedAfterNumber 28 = .ok (.iconst 5, 1) := by decide +kernel
theorem dX5_expectedAfterNumber_29 : decode cX5_expectedAfterNumber 29 = .ok (.if_icmp .ne 14, 3) := by decide +kernel
theorem dX5_expectedAfterNumber_32 : decode cX5_expectedAfterNumber 32 = .ok (.iload_n 1, 1) := by decide +kernel
theorem dX5_expectedAfterNumber_33 : decode cX5_expectedAfterNumber 33 = .ok (.bipush 48, 2) := by decide +kernel
theorem dX5_expectedAfterNumber_35 : decode cX5_expectedAfterNumber 35 = .ok (.if_icmp .ne 8, 3) := by decide +kernel
theorem dX5_expectedAfterNumber_38 : decode cX5_expectedAfterNumber 38 = .ok (.bipush 6, 2) := by decide +kernel
theorem dX5_expectedAfterNumber_40 : decode cX5_expectedAfterNumber 40 = .ok (.goto 5, 3) := by decide +kernel
theorem dX5_expectedAfterNumber_43 : decode cX5_expectedAfterNumber 43 = .ok (.bipush 7, 2) := by decide +kernel
theorem dX5_expectedAfterNumber_45 : decode cX5_expectedAfterNumber 45 = .ok (.ireturn, 1) := by decide +kernel
set_option maxRecDepth 20000 in
theorem ggX5_startsStep_X3_at : GoodIn wsX5_startsStep wsX3_at := goodIn_r _ [6, 7, 10] (by decide +kernel) (by decide +kernel)
set_option maxRecDepth 20000 in
theorem gX5_startsStep_X3_at : GoodIn wsX5_startsStep (wsV RX5 28 RX3 yX3_at wsX3_at) := goodIn_app (goodIn_of _ (by decide +kernel)) ggX5_startsStep_X3_at
theorem dX5_startsStep_0 : decode cX5_startsStep 0 = .ok (.iload_n 1, 1) := by decide +kernel
theorem dX5_startsStep_1 : decode cX5_startsStep 1 = .ok (.ifCond .eq 18, 3) := by decide +kernel
theorem dX5_startsStep_4 : decode cX5_startsStep 4 = .ok (.aload_n 0, 1) := by decide +kernel
theorem dX5_startsStep_5 : decode cX5_startsStep 5 = .ok (.getfield 14, 3) := by decide +kernel
theorem dX5_startsStep_8 : decode cX5_startsStep 8 = .ok (.iload_n 1, 1) := by decide +kernel
theorem dX5_startsStep_9 : decode cX5_startsStep 9 = .ok (.iconst 1, 1) := by decide +kernel
theorem dX5_startsStep_10 : decode cX5_startsStep 10 = .ok (.isub, 1) := by decide +kernel
theorem dX5_startsStep_11 : decode cX5_startsStep 11 = .ok (.invokevirtual 28, 3) := by decide +kernel
theorem dX5_startsStep_14 : decode cX5_startsStep 14 = .ok (.bipush 59, 2) := by decide +kernel
theorem dX5_startsStep_16 : decode cX5_startsStep 16 = .ok (.if_icmp .ne 7, 3) := by decide +kernel
theorem dX5_startsStep_19 : decode cX5_startsStep 19 = .ok (.iconst 1, 1) := by decide +kernel
theorem dX5_startsStep_20 : decode cX5_startsStep 20 = .ok (.goto 4, 3) := by decide +kernel
theorem dX5_startsStep_23 : decode cX5_startsStep 23 = .ok (.iconst 0, 1) := by decide +kernel
theorem dX5_startsStep_24 : decode cX5_startsStep 24 = .ok (.ireturn, 1) := by decide +kernel
set_option maxRecDepth 20000 in
theorem ggX5_numberAt_X3_at : GoodIn wsX5_numberAt wsX3_at := goodIn_r _ [7, 8, 14] (by decide +kernel) (by decide +kernel)
set_option maxRecDepth 20000 in
theorem gX5_numberAt_X3_at : GoodIn wsX5_numberAt (wsV RX5 28 RX3 yX3_at wsX3_at) := goodIn_app (goodIn_of _ (by decide +kernel)) ggX5_numberAt_X3_at
set_option maxRecDepth 20000 in
theorem ggX5_numberAt_X6_isBetween : GoodIn wsX5_numberAt wsX6_isBetween := goodIn_r _ [11] (by decide +kernel) (by decide +kernel)
set_option maxRecDepth 20000 in
theorem gX5_numberAt_X6_isBetween_n37 : GoodIn wsX5_numberAt (wsX6_isBetween) := ggX5_numberAt_X6_isBetween
theorem dX5_numberAt_0 : decode cX5_numberAt 0 = .ok (.aload_n 0, 1) := by decide +kernel
theorem dX5_numberAt_1 : decode cX5_numberAt 1 = .ok (.getfield 14, 3) := by decide +kernel
theorem dX5_numberAt_4 : decode cX5_numberAt 4 = .ok (.iload_n 1, 1) := by decide +kernel
theorem dX5_numberAt_5 : decode cX5_numberAt 5 = .ok (.invokevirtual 28, 3) := by decide +kernel
theorem dX5_numberAt_8 : decode cX5_numberAt 8 = .ok (.bipush 48, 2) := by decide +kernel
theorem dX5_numberAt_10 : decode cX5_numberAt 10 = .ok (.isub, 1) := by decide +kernel
theorem dX5_numberAt_11 : decode cX5_numberAt 11 = .ok (.istore_n 2, 1) := by decide +kernel
theorem dX5_numberAt_12 : decode cX5_numberAt 12 = .ok (.iload_n 1, 1) := by decide +kernel
theorem dX5_numberAt_13 : decode cX5_numberAt 13 = .ok (.iconst 1, 1) := by decide +kernel
theorem dX5_numberAt_14 : decode cX5_numberAt 14 = .ok (.iadd, 1) := by decide +kernel
theorem dX5_numberAt_15 : decode cX5_numberAt 15 = .ok (.istore_n 3, 1) := by decide +kernel
theorem dX5_numberAt_16 : decode cX5_numberAt 16 = .ok (.iload_n 3, 1) := by decide +kernel
theorem dX5_numberAt_17 : decode cX5_numberAt 17 = .ok (.aload_n 0, 1) := by decide +kernel
theorem dX5_numberAt_18 : decode cX5_numberAt 18 = .ok (.getfield 20, 3) := by decide +kernel
theorem dX5_numberAt_21 : decode cX5_numberAt 21 = .ok (.if_icmp .ge 38, 3) := by decide +kernel
theorem dX5_numberAt_24 : decode cX5_numberAt 24 = .ok (.bipush 48, 2) := by decide +kernel
theorem dX5_numberAt_26 : decode cX5_numberAt 26 = .ok (.aload_n 0, 1) := by decide +kernel
theorem dX5_numberAt_27 : decode cX5_numberAt 27 = .ok (.getfield 14, 3) := by decide +kernel
theorem dX5_numberAt_30 : decode cX5_numberAt 30 = .ok (.iload_n 3, 1) := by decide +kernel
theorem dX5_numberAt_31 : decode cX5_numberAt 31 = .ok (.invokevirtual 28, 3) := by decide +kernel
theorem dX5_numberAt_34 : decode cX5_numberAt 34 = .ok (.bipush 57, 2) := by decide +kernel
theorem dX5_numberAt_36 : decode cX5_numberAt 36 = .ok (.invokestatic 37, 3) := by decide +kernel
theorem dX5_numberAt_39 : decode cX5_numberAt 39 = .ok (.ifCond .eq 20, 3) := by decide +kernel
theorem dX5_numberAt_42 : decode cX5_numberAt 42 = .ok (.iload_n 2, 1) := by decide +kernel
theorem dX5_numberAt_43 : decode cX5_numberAt 43 = .ok (.bipush 10, 2) := by decide +kernel
theorem dX5_numberAt_45 : decode cX5_numberAt 45 = .ok (.imul, 1) := by decide +kernel
theorem dX5_numberAt_46 : decode cX5_numberAt 46 = .ok (.aload_n 0, 1) := by decide +kernel
theorem dX5_numberAt_47 : decode cX5_numberAt 47 = .ok (.getfield 14, 3) := by decide +kernel
theorem dX5_numberAt_50 : decode cX5_numberAt 50 = .ok (.iload_n 3, 1) := by decide +kernel
theorem dX5_numberAt_51 : decode cX5_numberAt 51 = .ok (.invokevirtual 28, 3) := by decide +kernel
theorem dX5_numberAt_54 : decode cX5_numberAt 54 = .ok (.iadd, 1) := by decide +kernel
theorem dX5_numberAt_55 : decode cX5_numberAt 55 = .ok (.bipush 48, 2) := by decide +kernel
theorem dX5_numberAt_57 : decode cX5_numberAt 57 = .ok (.isub, 1) := by decide +kernel
theorem dX5_numberAt_58 : decode cX5_numberAt 58 = .ok (.ireturn, 1) := by decide +kernel
theorem dX5_numberAt_59 : decode cX5_numberAt 59 = .ok (.iload_n 2, 1) := by decide +kernel
theorem dX5_numberAt_60 : decode cX5_numberAt 60 = .ok (.ireturn, 1) := by decide +kernel
set_option maxRecDepth 20000 in
theorem ggX6_init_X4_init : GoodIn wsX6_init wsX4_init := goodIn_r _ [19, 20, 2, 3, 21, 22, 23, 24, 25, 26, 27, 28, 29, 30, 31, 32, 33, 34, 35, 36, 37, 38, 39, 40, 41, 42, 43, 44, 45, 46, 47, 48, 49, 50, 51, 52, 53, 54, 55, 56, 57, 58, 59, 60, 61, 62, 63, 64, 65, 66, 67, 68, 69, 109, 87, 88, 89, 90, 91, 92, 93, 94, 95, 96, 97, 110, 111, 112, 113, 114, 115, 116, 117, 118, 119, 120, 121, 122, 123, 124, 125, 126, 127] (by decide +kernel) (by decide +kernel)
set_option maxRecDepth 20000 in
theorem gX6_init_X4_init : GoodIn wsX6_init (wsX4_init) := ggX6_init_X4_init
set_option maxRecDepth 20000 in
theorem ggX6_init_X0_init : GoodIn wsX6_init wsX0_init := goodIn_r _ [71, 72, 2, 3, 73, 5, 6, 74, 75, 76, 77, 78, 79, 18, 19, 20, 21, 22, 23, 24, 25, 26, 27, 28, 29, 30, 31, 32, 33, 34, 35, 36, 37, 38, 39, 40, 41, 42, 43, 44, 45, 46, 47, 48, 49, 50, 51, 52, 53, 54, 55, 56, 57, 58, 59, 60, 61, 62, 63, 64, 65, 66, 67, 68, 69, 87, 88, 89, 90, 91, 92, 93, 94, 95, 96, 97, 102, 103, 104, 105, 106, 109, 110, 111, 112, 113, 114, 115, 116, 117, 118, 119, 120, 121, 122, 123, 124, 125, 126, 127] (by decide +kernel) (by decide +kernel)
set_option maxRecDepth 20000 in
theorem gX6_init_X0_init_n21 : GoodIn wsX6_init (wsX0_init) := ggX6_init_X0_init
set_option maxRecDepth 20000 in
theorem ggX6_init_X5_init : GoodIn wsX6_init wsX5_init := goodIn_r _ [81, 82, 2, 3, 83, 22, 23, 84, 85, 86, 42, 43, 44, 45, 46, 109, 107, 108] (by decide +kernel) (by decide +kernel)
set_option maxRecDepth 20000 in
theorem gX6_init_X5_init_n28 : GoodIn wsX6_init (wsX5_init) := ggX6_init_X5_init
theorem dX6_init_0 : decode cX6_init 0 = .ok (.aload_n 0, 1) := by decide +kernel
theorem dX6_init_1 : decode cX6_init 1 = .ok (.invokespecial 1, 3) := by decide +kernel
theorem dX6_init_4 : decode cX6_init 4 = .ok (.aload_n 0, 1) := by decide +kernel
theorem dX6_init_5 : decode cX6_init 5 = .ok (.new 7, 3) := by decide +kernel
theorem dX6_init_8 : decode cX6_init 8 = .ok (.dup, 1) := by decide +kernel
theorem dX6_init_9 : decode cX6_init 9 = .ok (.invokespecial 9, 3) := by decide +kernel
theorem dX6_init_12 : decode cX6_init 12 = .ok (.putfield 10, 3) := by decide +kernel
theorem dX6_init_15 : decode cX6_init 15 = .ok (.aload_n 0, 1) := by decide +kernel
theorem dX6_init_16 : decode cX6_init 16 = .ok (.new 7, 3) := by decide +kernel
theorem dX6_init_19 : decode cX6_init 19 = .ok (.dup, 1) := by decide +kernel
theorem dX6_init_20 : decode cX6_init 20 = .ok (.invokespecial 9, 3) := by decide +kernel
theorem dX6_init_23 : decode cX6_init 23 = .ok (.putfield 16, 3) := by decide +kernel
theorem dX6_init_26 : decode cX6_init 26 = .ok (.aload_n 0, 1) := by decide +kernel
theorem dX6_init_27 : decode cX6_init 27 = .ok (.new 19, 3) := by decide +kernel
theorem dX6_init_30 : decode cX6_init 30 = .ok (.dup, 1) := by decide +kernel
theorem dX6_init_31 : decode cX6_init 31 = .ok (.invokespecial 21, 3) := by decide +kernel
theorem dX6_init_34 : decode cX6_init 34 = .ok (.putfield 22, 3) := by decide +kernel
theorem dX6_init_37 : decode cX6_init 37 = .ok (.aload_n 0, 1) := by decide +kernel
theorem dX6_init_38 : decode cX6_init 38 = .ok (.new 26, 3) := by decide +kernel
theorem dX6_init_41 : decode cX6_init 41 = .ok (.dup, 1) := by decide +kernel
theorem dX6_init_42 : decode cX6_init 42 = .ok (.invokespecial 28, 3) := by decide +kernel
theorem dX6_init_45 : decode cX6_init 45 = .ok (.putfield 29, 3) := by decide +kernel
theorem dX6_init_48 : decode cX6_init 48 = .ok (.return_, 1) := by decide +kernel
set_option maxRecDepth 20000 in
theorem ggX6_set_X6_isSetting : GoodIn wsX6_set wsX6_isSetting := goodIn_r _ [9] (by decide +kernel) (by decide +kernel)
set_option maxRecDepth 20000 in
theorem gX6_set_X6_isSetting : GoodIn wsX6_set (va_wsS RX6 33 yX6_isSetting wsX6_isSetting) := goodIn_app (goodIn_of _ (by decide +kernel)) ggX6_set_X6_isSetting
set_option maxRecDepth 20000 in
theorem ggX6_set_X6_isServerValue : GoodIn wsX6_set wsX6_isServerValue := goodIn_r _ [12, 13, 14, 8, 15] (by decide +kernel) (by decide +kernel)
set_option maxRecDepth 20000 in
theorem gX6_set_X6_isServerValue : GoodIn wsX6_set (va_wsS RX6 38 yX6_isServerValue wsX6_isServerValue) := goodIn_app (goodIn_of _ (by decide +kernel)) ggX6_set_X6_isServerValue
set_option maxRecDepth 20000 in
theorem ggX6_set_X0_keep : GoodIn wsX6_set wsX0_keep := goodIn_r _ [20, 21, 22, 23, 24, 25, 26, 27, 28, 29, 30, 31, 32, 33, 34, 35, 36, 37, 38, 39, 40, 41, 42, 43, 44, 45, 46, 47, 48, 49, 50, 51, 52, 53, 54, 55, 56, 57, 58, 59, 60, 61, 62, 63, 64, 65, 66, 67, 68, 69, 70, 71, 72, 73, 74, 75, 76, 77, 78, 79, 80, 81, 82, 83, 107, 108, 109, 110, 111, 96, 97, 98, 99, 100, 101, 102, 103, 104, 105, 106, 112, 113, 114, 115, 116, 117, 118, 119, 120, 121, 122, 123, 124, 125, 126, 127, 128, 129, 130] (by decide +kernel) (by decide +kernel)
set_option maxRecDepth 20000 in
theorem gX6_set_X0_keep : GoodIn wsX6_set (wsV RX6 43 RX0 yX0_keep wsX0_keep) := goodIn_app (goodIn_of _ (by decide +kernel)) ggX6_set_X0_keep
set_option maxRecDepth 20000 in
theorem ggX6_set_X3_at : GoodIn wsX6_set wsX3_at := goodIn_r _ [87, 50, 112] (by decide +kernel) (by decide +kernel)
set_option maxRecDepth 20000 in
theorem gX6_set_X3_at : GoodIn wsX6_set (wsV RX6 51 RX3 yX3_at wsX3_at) := goodIn_app (goodIn_of _ (by decide +kernel)) ggX6_set_X3_at
set_option maxRecDepth 20000 in
theorem ggX6_set_X3_put : GoodIn wsX6_set wsX3_put := goodIn_r _ [91, 50, 112] (by decide +kernel) (by decide +kernel)
set_option maxRecDepth 20000 in
theorem gX6_set_X3_put : GoodIn wsX6_set (wsV RX6 57 RX3 yX3_put wsX3_put) := goodIn_app (goodIn_of _ (by decide +kernel)) ggX6_set_X3_put
theorem dX6_set_0 : decode cX6_set 0 = .ok (.iload_n 1, 1) := by decide +kernel
theorem dX6_set_1 : decode cX6_set 1 = .ok (.invokestatic 33, 3) := by decide +kernel
theorem dX6_set_4 : decode cX6_set 4 = .ok (.ifCond .ne 6, 3) := by decide +kernel
theorem dX6_set_7 : decode cX6_set 7 = .ok (.ldc 37, 2) := by decide +kernel
theorem dX6_set_9 : decode cX6_set 9 = .ok (.ireturn, 1) := by decide +kernel
theorem dX6_set_10 : decode cX6_set 10 = .ok (.iload_n 1, 1) := by decide +kernel
theorem dX6_set_11 : decode cX6_set 11 = .ok (.iload_n 2, 1) := by decide +kernel
end
section
theorem dX6_set_12 : decode cX6_set 12 = .ok (.invokestatic 38, 3) := by decide +kernel
theorem dX6_set_15 : decode cX6_set 15 = .ok (.ifCond .ne 6, 3) := by decide +kernel
theorem dX6_set_18 : decode cX6_set 18 = .ok (.ldc 42, 2) := by decide +kernel
theorem dX6_set_20 : decode cX6_set 20 = .ok (.ireturn, 1) := by decide +kernel
theorem dX6_set_21 : decode cX6_set 21 = .ok (.aload_n 0, 1) := by decide +kernel
theorem dX6_set_22 : decode cX6_set 22 = .ok (.getfield 22, 3) := by decide +kernel
theorem dX6_set_25 : decode cX6_set 25 = .ok (.aload_n 0, 1) := by decide +kernel
theorem dX6_set_26 : decode cX6_set 26 = .ok (.getfield 10, 3) := by decide +kernel
theorem dX6_set_29 : decode cX6_set 29 = .ok (.invokevirtual 43, 3) := by decide +kernel
theorem dX6_set_32 : decode cX6_set 32 = .ok (.aload_n 0, 1) := by decide +kernel
theorem dX6_set_33 : decode cX6_set 33 = .ok (.getfield 10, 3) := by decide +kernel
theorem dX6_set_36 : decode cX6_set 36 = .ok (.getfield 47, 3) := by decide +kernel
theorem dX6_set_39 : decode cX6_set 39 = .ok (.iload_n 1, 1) := by decide +kernel
theorem dX6_set_40 : decode cX6_set 40 = .ok (.invokevirtual 51, 3) := by decide +kernel
theorem dX6_set_43 : decode cX6_set 43 = .ok (.istore_n 3, 1) := by decide +kernel
theorem dX6_set_44 : decode cX6_set 44 = .ok (.aload_n 0, 1) := by decide +kernel
theorem dX6_set_45 : decode cX6_set 45 = .ok (.getfield 10, 3) := by decide +kernel
theorem dX6_set_48 : decode cX6_set 48 = .ok (.getfield 47, 3) := by decide +kernel
theorem dX6_set_51 : decode cX6_set 51 = .ok (.iload_n 1, 1) := by decide +kernel
theorem dX6_set_52 : decode cX6_set 52 = .ok (.iload_n 2, 1) := by decide +kernel
theorem dX6_set_53 : decode cX6_set 53 = .ok (.invokevirtual 57, 3) := by decide +kernel
theorem dX6_set_56 : decode cX6_set 56 = .ok (.iload_n 3, 1) := by decide +kernel
theorem dX6_set_57 : decode cX6_set 57 = .ok (.ireturn, 1) := by decide +kernel
set_option maxRecDepth 20000 in
theorem ggX6_setClass_X6_isKind : GoodIn wsX6_setClass wsX6_isKind := goodIn_r _ [9] (by decide +kernel) (by decide +kernel)
set_option maxRecDepth 20000 in
theorem gX6_setClass_X6_isKind : GoodIn wsX6_setClass (va_wsS RX6 61 yX6_isKind wsX6_isKind) := goodIn_app (goodIn_of _ (by decide +kernel)) ggX6_setClass_X6_isKind
set_option maxRecDepth 20000 in
theorem ggX6_setClass_X6_isSetting : GoodIn wsX6_setClass wsX6_isSetting := goodIn_r _ [12] (by decide +kernel) (by decide +kernel)
set_option maxRecDepth 20000 in
theorem gX6_setClass_X6_isSetting : GoodIn wsX6_setClass (va_wsS RX6 33 yX6_isSetting wsX6_isSetting) := goodIn_app (goodIn_of _ (by decide +kernel)) ggX6_setClass_X6_isSetting
set_option maxRecDepth 20000 in
theorem ggX6_setClass_X6_isClassValue : GoodIn wsX6_setClass wsX6_isClassValue := goodIn_r _ [15, 16, 17, 8, 18] (by decide +kernel) (by decide +kernel)
set_option maxRecDepth 20000 in
theorem gX6_setClass_X6_isClassValue : GoodIn wsX6_setClass (va_wsS RX6 64 yX6_isClassValue wsX6_isClassValue) := goodIn_app (goodIn_of _ (by decide +kernel)) ggX6_setClass_X6_isClassValue
set_option maxRecDepth 20000 in
theorem ggX6_setClass_X0_keep : GoodIn wsX6_setClass wsX0_keep := goodIn_r _ [23, 24, 25, 26, 27, 28, 29, 30, 31, 32, 33, 34, 35, 36, 37, 38, 39, 40, 41, 42, 43, 44, 45, 46, 47, 48, 49, 50, 51, 52, 53, 54, 55, 56, 57, 58, 59, 60, 61, 62, 63, 64, 65, 66, 67, 68, 69, 70, 71, 72, 73, 74, 75, 76, 77, 78, 79, 80, 81, 82, 83, 84, 85, 86, 110, 111, 112, 113, 114, 115, 116, 117, 118, 119, 120, 121, 122, 123, 124, 125, 126, 103, 104, 105, 106, 107, 108, 109, 127, 128, 129, 130, 131, 132, 133, 134, 135, 136, 137] (by decide +kernel) (by decide +kernel)
set_option maxRecDepth 20000 in
theorem gX6_setClass_X0_keep : GoodIn wsX6_setClass (wsV RX6 43 RX0 yX0_keep wsX0_keep) := goodIn_app (goodIn_of _ (by decide +kernel)) ggX6_setClass_X0_keep
set_option maxRecDepth 20000 in
theorem ggX6_setClass_X4_lane : GoodIn wsX6_setClass wsX4_lane := goodIn_r _ [90, 40, 41, 42, 115, 116, 117, 118, 119, 120, 121, 122, 123, 124, 125] (by decide +kernel) (by decide +kernel)
set_option maxRecDepth 20000 in
theorem gX6_setClass_X4_lane : GoodIn wsX6_setClass (wsV RX6 67 RX4 yX4_lane wsX4_lane) := goodIn_app (goodIn_of _ (by decide +kernel)) ggX6_setClass_X4_lane
set_option maxRecDepth 20000 in
theorem ggX6_setClass_X3_at : GoodIn wsX6_setClass wsX3_at := goodIn_r _ [94, 53, 126] (by decide +kernel) (by decide +kernel)
set_option maxRecDepth 20000 in
theorem gX6_setClass_X3_at : GoodIn wsX6_setClass (wsV RX6 51 RX3 yX3_at wsX3_at) := goodIn_app (goodIn_of _ (by decide +kernel)) ggX6_setClass_X3_at
set_option maxRecDepth 20000 in
theorem ggX6_setClass_X3_put : GoodIn wsX6_setClass wsX3_put := goodIn_r _ [98, 53, 126] (by decide +kernel) (by decide +kernel)
set_option maxRecDepth 20000 in
theorem gX6_setClass_X3_put : GoodIn wsX6_setClass (wsV RX6 57 RX3 yX3_put wsX3_put) := goodIn_app (goodIn_of _ (by decide +kernel)) ggX6_setClass_X3_put
theorem dX6_setClass_0 : decode cX6_setClass 0 = .ok (.iload_n 1, 1) := by decide +kernel
theorem dX6_setClass_1 : decode cX6_setClass 1 = .ok (.invokestatic 61, 3) := by decide +kernel
theorem dX6_setClass_4 : decode cX6_setClass 4 = .ok (.ifCond .eq 10, 3) := by decide +kernel
theorem dX6_setClass_7 : decode cX6_setClass 7 = .ok (.iload_n 2, 1) := by decide +kernel
theorem dX6_setClass_8 : decode cX6_setClass 8 = .ok (.invokestatic 33, 3) := by decide +kernel
theorem dX6_setClass_11 : decode cX6_setClass 11 = .ok (.ifCond .ne 6, 3) := by decide +kernel
theorem dX6_setClass_14 : decode cX6_setClass 14 = .ok (.ldc 37, 2) := by decide +kernel
theorem dX6_setClass_16 : decode cX6_setClass 16 = .ok (.ireturn, 1) := by decide +kernel
theorem dX6_setClass_17 : decode cX6_setClass 17 = .ok (.iload_n 2, 1) := by decide +kernel
theorem dX6_setClass_18 : decode cX6_setClass 18 = .ok (.iload_n 3, 1) := by decide +kernel
theorem dX6_setClass_19 : decode cX6_setClass 19 = .ok (.invokestatic 64, 3) := by decide +kernel
theorem dX6_setClass_22 : decode cX6_setClass 22 = .ok (.ifCond .ne 6, 3) := by decide +kernel
theorem dX6_setClass_25 : decode cX6_setClass 25 = .ok (.ldc 42, 2) := by decide +kernel
theorem dX6_setClass_27 : decode cX6_setClass 27 = .ok (.ireturn, 1) := by decide +kernel
theorem dX6_setClass_28 : decode cX6_setClass 28 = .ok (.aload_n 0, 1) := by decide +kernel
theorem dX6_setClass_29 : decode cX6_setClass 29 = .ok (.getfield 22, 3) := by decide +kernel
theorem dX6_setClass_32 : decode cX6_setClass 32 = .ok (.aload_n 0, 1) := by decide +kernel
theorem dX6_setClass_33 : decode cX6_setClass 33 = .ok (.getfield 10, 3) := by decide +kernel
theorem dX6_setClass_36 : decode cX6_setClass 36 = .ok (.invokevirtual 43, 3) := by decide +kernel
theorem dX6_setClass_39 : decode cX6_setClass 39 = .ok (.aload_n 0, 1) := by decide +kernel
theorem dX6_setClass_40 : decode cX6_setClass 40 = .ok (.getfield 10, 3) := by decide +kernel
theorem dX6_setClass_43 : decode cX6_setClass 43 = .ok (.iload_n 1, 1) := by decide +kernel
theorem dX6_setClass_44 : decode cX6_setClass 44 = .ok (.invokevirtual 67, 3) := by decide +kernel
theorem dX6_setClass_47 : decode cX6_setClass 47 = .ok (.astore 4, 2) := by decide +kernel
theorem dX6_setClass_49 : decode cX6_setClass 49 = .ok (.aload 4, 2) := by decide +kernel
theorem dX6_setClass_51 : decode cX6_setClass 51 = .ok (.getfield 71, 3) := by decide +kernel
theorem dX6_setClass_54 : decode cX6_setClass 54 = .ok (.iload_n 2, 1) := by decide +kernel
theorem dX6_setClass_55 : decode cX6_setClass 55 = .ok (.invokevirtual 51, 3) := by decide +kernel
theorem dX6_setClass_58 : decode cX6_setClass 58 = .ok (.istore 5, 2) := by decide +kernel
theorem dX6_setClass_60 : decode cX6_setClass 60 = .ok (.aload 4, 2) := by decide +kernel
theorem dX6_setClass_62 : decode cX6_setClass 62 = .ok (.getfield 71, 3) := by decide +kernel
theorem dX6_setClass_65 : decode cX6_setClass 65 = .ok (.iload_n 2, 1) := by decide +kernel
theorem dX6_setClass_66 : decode cX6_setClass 66 = .ok (.iload_n 3, 1) := by decide +kernel
theorem dX6_setClass_67 : decode cX6_setClass 67 = .ok (.invokevirtual 57, 3) := by decide +kernel
theorem dX6_setClass_70 : decode cX6_setClass 70 = .ok (.iload 5, 2) := by decide +kernel
theorem dX6_setClass_72 : decode cX6_setClass 72 = .ok (.ireturn, 1) := by decide +kernel
set_option maxRecDepth 20000 in
theorem ggX6_offer_X4_errorOfOffer : GoodIn wsX6_offer wsX4_errorOfOffer := goodIn_r _ [7, 8, 9, 10, 11, 12, 13, 14, 15, 16, 17, 18, 163, 164, 165, 166, 167, 168, 169, 170, 171, 172, 173] (by decide +kernel) (by decide +kernel)
set_option maxRecDepth 20000 in
theorem gX6_offer_X4_errorOfOffer : GoodIn wsX6_offer (wsV RX6 74 RX4 yX4_errorOfOffer wsX4_errorOfOffer) := goodIn_app (goodIn_of _ (by decide +kernel)) ggX6_offer_X4_errorOfOffer
set_option maxRecDepth 20000 in
theorem ggX6_offer_X0_keep : GoodIn wsX6_offer wsX0_keep := goodIn_r _ [23, 24, 25, 26, 27, 28, 29, 30, 31, 32, 33, 34, 35, 6, 36, 37, 38, 39, 40, 41, 10, 42, 43, 44, 45, 46, 47, 48, 49, 50, 51, 52, 53, 54, 55, 56, 57, 58, 59, 60, 61, 62, 63, 64, 65, 66, 67, 68, 69, 70, 71, 72, 73, 74, 75, 76, 77, 78, 79, 80, 81, 82, 83, 84, 174, 175, 176, 177, 178, 163, 164, 165, 166, 167, 168, 169, 170, 171, 172, 173, 179, 180, 181, 182, 183, 184, 185, 186, 187, 188, 189, 190, 191, 192, 193, 194, 195, 196, 197] (by decide +kernel) (by decide +kernel)
set_option maxRecDepth 20000 in
theorem gX6_offer_X0_keep : GoodIn wsX6_offer (wsV RX6 43 RX0 yX0_keep wsX0_keep) := goodIn_app (goodIn_of _ (by decide +kernel)) ggX6_offer_X0_keep
set_option maxRecDepth 20000 in
theorem ggX6_offer_X4_offerNew : GoodIn wsX6_offer wsX4_offerNew := goodIn_r _ [88, 10, 69, 11, 42, 89, 90, 91, 73, 92, 75, 76, 77, 78, 79, 80, 81, 82, 83, 84, 93, 94, 95, 6, 96, 97, 98, 99, 100, 101, 102, 103, 104, 38, 105, 106, 31, 107, 108, 109, 110, 49, 111, 51, 112, 113, 114, 115, 39, 40, 41, 116, 117, 118, 119, 120, 121, 37, 122, 123, 124, 125, 126, 127, 128, 65, 66, 67, 68, 129, 13, 130, 131, 132, 133, 134, 135, 136, 44, 137, 138, 139, 140, 141, 142, 143, 144, 145, 55, 146, 60, 59, 147, 148, 149, 150, 151, 152, 153, 154, 155, 156, 157, 43, 158, 163, 164, 165, 166, 167, 168, 169, 170, 171, 172, 173, 187, 188, 189, 190, 191, 192, 193, 194, 195, 196, 197, 179, 180, 181, 182, 183, 184, 185, 186] (by decide +kernel) (by decide +kernel)
set_option maxRecDepth 20000 in
theorem gX6_offer_X4_offerNew : GoodIn wsX6_offer (wsV RX6 78 RX4 yX4_offerNew wsX4_offerNew) := goodIn_app (goodIn_of _ (by decide +kernel)) ggX6_offer_X4_offerNew
theorem dX6_offer_0 : decode cX6_offer 0 = .ok (.aload_n 0, 1) := by decide +kernel
theorem dX6_offer_1 : decode cX6_offer 1 = .ok (.getfield 10, 3) := by decide +kernel
theorem dX6_offer_4 : decode cX6_offer 4 = .ok (.iload_n 1, 1) := by decide +kernel
theorem dX6_offer_5 : decode cX6_offer 5 = .ok (.iload_n 2, 1) := by decide +kernel
theorem dX6_offer_6 : decode cX6_offer 6 = .ok (.iload_n 3, 1) := by decide +kernel
theorem dX6_offer_7 : decode cX6_offer 7 = .ok (.invokevirtual 74, 3) := by decide +kernel
theorem dX6_offer_10 : decode cX6_offer 10 = .ok (.istore 4, 2) := by decide +kernel
theorem dX6_offer_12 : decode cX6_offer 12 = .ok (.iload 4, 2) := by decide +kernel
theorem dX6_offer_14 : decode cX6_offer 14 = .ok (.ifCond .eq 6, 3) := by decide +kernel
theorem dX6_offer_17 : decode cX6_offer 17 = .ok (.iload 4, 2) := by decide +kernel
theorem dX6_offer_19 : decode cX6_offer 19 = .ok (.ireturn, 1) := by decide +kernel
theorem dX6_offer_20 : decode cX6_offer 20 = .ok (.aload_n 0, 1) := by decide +kernel
theorem dX6_offer_21 : decode cX6_offer 21 = .ok (.getfield 22, 3) := by decide +kernel
theorem dX6_offer_24 : decode cX6_offer 24 = .ok (.aload_n 0, 1) := by decide +kernel
theorem dX6_offer_25 : decode cX6_offer 25 = .ok (.getfield 10, 3) := by decide +kernel
theorem dX6_offer_28 : decode cX6_offer 28 = .ok (.invokevirtual 43, 3) := by decide +kernel
theorem dX6_offer_31 : decode cX6_offer 31 = .ok (.aload_n 0, 1) := by decide +kernel
theorem dX6_offer_32 : decode cX6_offer 32 = .ok (.getfield 10, 3) := by decide +kernel
theorem dX6_offer_35 : decode cX6_offer 35 = .ok (.iload_n 1, 1) := by decide +kernel
theorem dX6_offer_36 : decode cX6_offer 36 = .ok (.iload_n 2, 1) := by decide +kernel
theorem dX6_offer_37 : decode cX6_offer 37 = .ok (.iload_n 3, 1) := by decide +kernel
theorem dX6_offer_38 : decode cX6_offer 38 = .ok (.invokevirtual 78, 3) := by decide +kernel
theorem dX6_offer_41 : decode cX6_offer 41 = .ok (.ireturn, 1) := by decide +kernel
set_option maxRecDepth 20000 in
theorem ggX6_advance_X4_errorOfTicks : GoodIn wsX6_advance wsX4_errorOfTicks := goodIn_r _ [7, 8, 9, 10, 11, 12, 13, 190, 191, 192, 193, 194, 195, 196, 197, 198, 199, 200] (by decide +kernel) (by decide +kernel)
set_option maxRecDepth 20000 in
theorem gX6_advance_X4_errorOfTicks : GoodIn wsX6_advance (wsV RX6 81 RX4 yX4_errorOfTicks wsX4_errorOfTicks) := goodIn_app (goodIn_of _ (by decide +kernel)) ggX6_advance_X4_errorOfTicks
set_option maxRecDepth 20000 in
theorem ggX6_advance_X0_keep : GoodIn wsX6_advance wsX0_keep := goodIn_r _ [18, 19, 20, 21, 22, 23, 24, 25, 26, 27, 28, 29, 30, 6, 31, 32, 33, 34, 35, 36, 37, 38, 39, 9, 40, 41, 42, 43, 44, 45, 46, 47, 48, 49, 50, 51, 52, 53, 54, 55, 56, 57, 58, 59, 60, 61, 62, 63, 64, 65, 66, 67, 68, 69, 70, 71, 72, 73, 74, 75, 76, 77, 78, 79, 201, 202, 203, 204, 205, 190, 191, 192, 193, 194, 195, 196, 197, 198, 199, 200, 206, 207, 208, 209, 210, 211, 212, 213, 214, 215, 216, 217, 218, 219, 220, 221, 222, 223, 224] (by decide +kernel) (by decide +kernel)
set_option maxRecDepth 20000 in
theorem gX6_advance_X0_keep : GoodIn wsX6_advance (wsV RX6 43 RX0 yX0_keep wsX0_keep) := goodIn_app (goodIn_of _ (by decide +kernel)) ggX6_advance_X0_keep
set_option maxRecDepth 20000 in
theorem ggX6_advance_X4_letPass : GoodIn wsX6_advance wsX4_letPass := goodIn_r _ [83, 84, 85, 86, 6, 87, 88, 37, 89, 90, 9, 32, 91, 92, 93, 94, 34, 35, 36, 95, 96, 97, 44, 98, 46, 99, 100, 101, 50, 102, 52, 56, 103, 25, 26, 27, 104, 60, 61, 62, 63, 64, 105, 106, 107, 108, 109, 110, 111, 112, 113, 114, 115, 116, 33, 117, 118, 119, 120, 121, 122, 123, 124, 125, 126, 127, 128, 129, 130, 131, 132, 12, 133, 134, 135, 136, 137, 138, 139, 140, 141, 142, 143, 144, 145, 146, 147, 148, 55, 54, 149, 150, 151, 152, 153, 154, 155, 156, 157, 158, 38, 39, 159, 160, 161, 162, 163, 164, 165, 166, 167, 168, 169, 170, 171, 172, 173, 174, 175, 40, 176, 177, 178, 179, 180, 181, 182, 183, 184, 185, 207, 208, 209, 210, 211, 212, 213, 190, 191, 192, 193, 194, 195, 196, 197, 198, 199, 200, 214, 215, 216, 217, 218, 219, 220, 221, 222, 223, 224, 206] (by decide +kernel) (by decide +kernel)
set_option maxRecDepth 20000 in
theorem gX6_advance_X4_letPass : GoodIn wsX6_advance (wsV RX6 84 RX4 yX4_letPass wsX4_letPass) := goodIn_app (goodIn_of _ (by decide +kernel)) ggX6_advance_X4_letPass
theorem dX6_advance_0 : decode cX6_advance 0 = .ok (.aload_n 0, 1) := by decide +kernel
theorem dX6_advance_1 : decode cX6_advance 1 = .ok (.getfield 10, 3) := by decide +kernel
theorem dX6_advance_4 : decode cX6_advance 4 = .ok (.iload_n 1, 1) := by decide +kernel
theorem dX6_advance_5 : decode cX6_advance 5 = .ok (.invokevirtual 81, 3) := by decide +kernel
theorem dX6_advance_8 : decode cX6_advance 8 = .ok (.istore_n 2, 1) := by decide +kernel
theorem dX6_advance_9 : decode cX6_advance 9 = .ok (.iload_n 2, 1) := by decide +kernel
theorem dX6_advance_10 : decode cX6_advance 10 = .ok (.ifCond .eq 5, 3) := by decide +kernel
theorem dX6_advance_13 : decode cX6_advance 13 = .ok (.iload_n 2, 1) := by decide +kernel
theorem dX6_advance_14 : decode cX6_advance 14 = .ok (.ireturn, 1) := by decide +kernel
theorem dX6_advance_15 : decode cX6_advance 15 = .ok (.aload_n 0, 1) := by decide +kernel
theorem dX6_advance_16 : decode cX6_advance 16 = .ok (.getfield 22, 3) := by decide +kernel
theorem dX6_advance_19 : decode cX6_advance 19 = .ok (.aload_n 0, 1) := by decide +kernel
theorem dX6_advance_20 : decode cX6_advance 20 = .ok (.getfield 10, 3) := by decide +kernel
theorem dX6_advance_23 : decode cX6_advance 23 = .ok (.invokevirtual 43, 3) := by decide +kernel
theorem dX6_advance_26 : decode cX6_advance 26 = .ok (.aload_n 0, 1) := by decide +kernel
theorem dX6_advance_27 : decode cX6_advance 27 = .ok (.getfield 10, 3) := by decide +kernel
theorem dX6_advance_30 : decode cX6_advance 30 = .ok (.iload_n 1, 1) := by decide +kernel
theorem dX6_advance_31 : decode cX6_advance 31 = .ok (.invokevirtual 84, 3) := by decide +kernel
theorem dX6_advance_34 : decode cX6_advance 34 = .ok (.ireturn, 1) := by decide +kernel
set_option maxRecDepth 20000 in
theorem ggX6_append_X5_add : GoodIn wsX6_append wsX5_add := goodIn_r _ [9, 10, 11, 12, 13, 14, 15, 16, 17, 22, 23, 24] (by decide +kernel) (by decide +kernel)
set_option maxRecDepth 20000 in
theorem gX6_append_X5_add : GoodIn wsX6_append (wsV RX6 92 RX5 yX5_add wsX5_add) := goodIn_app (goodIn_of _ (by decide +kernel)) ggX6_append_X5_add
theorem dX6_append_0 : decode cX6_append 0 = .ok (.iload_n 1, 1) := by decide +kernel
theorem dX6_append_1 : decode cX6_append 1 = .ok (.bipush 32, 2) := by decide +kernel
theorem dX6_append_3 : decode cX6_append 3 = .ok (.if_icmp .lt 9, 3) := by decide +kernel
theorem dX6_append_6 : decode cX6_append 6 = .ok (.iload_n 1, 1) := by decide +kernel
theorem dX6_append_7 : decode cX6_append 7 = .ok (.bipush 126, 2) := by decide +kernel
theorem dX6_append_9 : decode cX6_append 9 = .ok (.if_icmp .le 6, 3) := by decide +kernel
theorem dX6_append_12 : decode cX6_append 12 = .ok (.ldc 42, 2) := by decide +kernel
theorem dX6_append_14 : decode cX6_append 14 = .ok (.ireturn, 1) := by decide +kernel
theorem dX6_append_15 : decode cX6_append 15 = .ok (.aload_n 0, 1) := by decide +kernel
theorem dX6_append_16 : decode cX6_append 16 = .ok (.getfield 29, 3) := by decide +kernel
theorem dX6_append_19 : decode cX6_append 19 = .ok (.getfield 87, 3) := by decide +kernel
theorem dX6_append_22 : decode cX6_append 22 = .ok (.bipush 80, 2) := by decide +kernel
theorem dX6_append_24 : decode cX6_append 24 = .ok (.if_icmp .lt 6, 3) := by decide +kernel
theorem dX6_append_27 : decode cX6_append 27 = .ok (.ldc 91, 2) := by decide +kernel
theorem dX6_append_29 : decode cX6_append 29 = .ok (.ireturn, 1) := by decide +kernel
theorem dX6_append_30 : decode cX6_append 30 = .ok (.aload_n 0, 1) := by decide +kernel
theorem dX6_append_31 : decode cX6_append 31 = .ok (.getfield 29, 3) := by decide +kernel
theorem dX6_append_34 : decode cX6_append 34 = .ok (.iload_n 1, 1) := by decide +kernel
theorem dX6_append_35 : decode cX6_append 35 = .ok (.invokevirtual 92, 3) := by decide +kernel
theorem dX6_append_38 : decode cX6_append 38 = .ok (.aload_n 0, 1) := by decide +kernel
theorem dX6_append_39 : decode cX6_append 39 = .ok (.getfield 29, 3) := by decide +kernel
theorem dX6_append_42 : decode cX6_append 42 = .ok (.getfield 87, 3) := by decide +kernel
theorem dX6_append_45 : decode cX6_append 45 = .ok (.ireturn, 1) := by decide +kernel
theorem dX6_clearText_0 : decode cX6_clearText 0 = .ok (.aload_n 0, 1) := by decide +kernel
theorem dX6_clearText_1 : decode cX6_clearText 1 = .ok (.getfield 29, 3) := by decide +kernel
theorem dX6_clearText_4 : decode cX6_clearText 4 = .ok (.getfield 87, 3) := by decide +kernel
theorem dX6_clearText_7 : decode cX6_clearText 7 = .ok (.istore_n 1, 1) := by decide +kernel
theorem dX6_clearText_8 : decode cX6_clearText 8 = .ok (.aload_n 0, 1) := by decide +kernel
theorem dX6_clearText_9 : decode cX6_clearText 9 = .ok (.getfield 29, 3) := by decide +kernel
theorem dX6_clearText_12 : decode cX6_clearText 12 = .ok (.iconst 0, 1) := by decide +kernel
theorem dX6_clearText_13 : decode cX6_clearText 13 = .ok (.putfield 87, 3) := by decide +kernel
theorem dX6_clearText_16 : decode cX6_clearText 16 = .ok (.iload_n 1, 1) := by decide +kernel
theorem dX6_clearText_17 : decode cX6_clearText 17 = .ok (.ireturn, 1) := by decide +kernel
set_option maxRecDepth 20000 in
theorem ggX6_fault_X5_firstFault : GoodIn wsX6_fault wsX5_firstFault := goodIn_r _ [6, 7, 8, 9, 10, 11, 12, 13, 14, 15, 16, 17, 5, 18, 19, 20, 21, 22, 23, 24, 25, 26, 27, 32, 33, 34] (by decide +kernel) (by decide +kernel)
set_option maxRecDepth 20000 in
theorem gX6_fault_X5_firstFault : GoodIn wsX6_fault (wsV RX6 96 RX5 yX5_firstFault wsX5_firstFault) := goodIn_app (goodIn_of _ (by decide +kernel)) ggX6_fault_X5_firstFault
theorem dX6_fault_0 : decode cX6_fault 0 = .ok (.aload_n 0, 1) := by decide +kernel
theorem dX6_fault_1 : decode cX6_fault 1 = .ok (.getfield 29, 3) := by decide +kernel
theorem dX6_fault_4 : decode cX6_fault 4 = .ok (.invokevirtual 96, 3) := by decide +kernel
theorem dX6_fault_7 : decode cX6_fault 7 = .ok (.ireturn, 1) := by decide +kernel
set_option maxRecDepth 20000 in
theorem ggX6_run_X5_firstFault : GoodIn wsX6_run wsX5_firstFault := goodIn_r _ [11, 12, 13, 14, 15, 16, 17, 18, 19, 20, 21, 22, 10, 23, 24, 25, 26, 27, 28, 29, 30, 31, 32, 243, 244, 245] (by decide +kernel) (by decide +kernel)
set_option maxRecDepth 20000 in
theorem gX6_run_X5_firstFault : GoodIn wsX6_run (wsV RX6 96 RX5 yX5_firstFault wsX5_firstFault) := goodIn_app (goodIn_of _ (by decide +kernel)) ggX6_run_X5_firstFault
set_option maxRecDepth 20000 in
theorem ggX6_run_X0_keep : GoodIn wsX6_run wsX0_keep := goodIn_r _ [37, 38, 39, 40, 41, 42, 43, 44, 45, 46, 47, 48, 49, 50, 51, 52, 53, 54, 55, 56, 57, 58, 59, 60, 61, 62, 63, 64, 18, 65, 20, 66, 67, 68, 69, 70, 71, 72, 73, 74, 75, 76, 77, 78, 79, 80, 81, 82, 83, 84, 85, 86, 87, 88, 89, 90, 91, 92, 93, 94, 95, 96, 97, 98, 246, 247, 248, 249, 250, 251, 252, 253, 254, 255, 256, 257, 258, 259, 260, 261, 245, 262, 263, 264, 265, 266, 267, 268, 269, 270, 271, 272, 273, 274, 275, 276, 277, 278, 279] (by decide +kernel) (by decide +kernel)
set_option maxRecDepth 20000 in
theorem gX6_run_X0_keep : GoodIn wsX6_run (wsV RX6 43 RX0 yX0_keep wsX0_keep) := goodIn_app (goodIn_of _ (by decide +kernel)) ggX6_run_X0_keep
set_option maxRecDepth 20000 in
theorem ggX6_run_X5_startsStep : GoodIn wsX6_run wsX5_startsStep := goodIn_r _ [102, 13, 15, 16, 17, 18, 19, 20, 243, 244, 245] (by decide +kernel) (by decide +kernel)
set_option maxRecDepth 20000 in
theorem gX6_run_X5_startsStep : GoodIn wsX6_run (wsV RX6 102 RX5 yX5_startsStep wsX5_startsStep) := goodIn_app (goodIn_of _ (by decide +kernel)) ggX6_run_X5_startsStep
set_option maxRecDepth 20000 in
theorem ggX6_run_X6_takeStep : GoodIn wsX6_run wsX6_takeStep := goodIn_r _ [106, 1, 107, 5, 108, 16, 17, 18, 19, 20, 109, 110, 111, 10, 112, 13, 12, 15, 24, 25, 26, 113, 114, 115, 50, 116, 117, 60, 118, 119, 120, 121, 122, 123, 124, 125, 126, 127, 57, 128, 129, 52, 130, 131, 132, 133, 54, 55, 56, 134, 135, 136, 137, 69, 138, 71, 75, 139, 44, 45, 46, 140, 79, 80, 81, 82, 83, 141, 142, 143, 144, 145, 146, 147, 148, 149, 150, 151, 152, 53, 153, 154, 155, 156, 157, 158, 159, 160, 161, 162, 163, 164, 165, 166, 167, 168, 169, 170, 171, 172, 173, 174, 175, 176, 177, 178, 179, 180, 181, 182, 183, 184, 74, 73, 185, 186, 187, 188, 189, 190, 191, 192, 193, 194, 58, 59, 195, 196, 197, 198, 199, 200, 201, 202, 203, 204, 205, 206, 207, 208, 209, 210, 211, 61, 212, 213, 214, 215, 216, 217, 218, 219, 220, 221, 222, 223, 224, 225, 226, 227, 228, 229, 230, 231, 232, 233, 234, 235, 236, 237, 87, 238, 89, 90, 91, 92, 93, 94, 95, 96, 97, 98, 239, 240, 241, 242, 243, 244, 245, 251, 252, 253, 254, 255, 256, 257, 258, 259, 260, 261, 262, 263, 264, 265, 266, 267, 268, 269, 270, 271, 272, 273, 274, 275, 276, 277, 278, 279] (by decide +kernel) (by decide +kernel)
set_option maxRecDepth 20000 in
theorem gX6_run_X6_takeStep : GoodIn wsX6_run (wsV RX6 105 RX6 yX6_takeStep wsX6_takeStep) := goodIn_app (goodIn_of _ (by decide +kernel)) ggX6_run_X6_takeStep
theorem dX6_run_0 : decode cX6_run 0 = .ok (.aload_n 0, 1) := by decide +kernel
theorem dX6_run_1 : decode cX6_run 1 = .ok (.getfield 29, 3) := by decide +kernel
theorem dX6_run_4 : decode cX6_run 4 = .ok (.invokevirtual 96, 3) := by decide +kernel
theorem dX6_run_7 : decode cX6_run 7 = .ok (.ldc 100, 2) := by decide +kernel
theorem dX6_run_9 : decode cX6_run 9 = .ok (.if_icmp .eq 6, 3) := by decide +kernel
theorem dX6_run_12 : decode cX6_run 12 = .ok (.ldc 101, 2) := by decide +kernel
theorem dX6_run_14 : decode cX6_run 14 = .ok (.ireturn, 1) := by decide +kernel
theorem dX6_run_15 : decode cX6_run 15 = .ok (.aload_n 0, 1) := by decide +kernel
theorem dX6_run_16 : decode cX6_run 16 = .ok (.getfield 22, 3) := by decide +kernel
theorem dX6_run_19 : decode cX6_run 19 = .ok (.aload_n 0, 1) := by decide +kernel
theorem dX6_run_20 : decode cX6_run 20 = .ok (.getfield 10, 3) := by decide +kernel
theorem dX6_run_23 : decode cX6_run 23 = .ok (.invokevirtual 43, 3) := by decide +kernel
theorem dX6_run_26 : decode cX6_run 26 = .ok (.iconst 0, 1) := by decide +kernel
theorem dX6_run_27 : decode cX6_run 27 = .ok (.istore_n 1, 1) := by decide +kernel
theorem dX6_run_28 : decode cX6_run 28 = .ok (.iconst 0, 1) := by decide +kernel
theorem dX6_run_29 : decode cX6_run 29 = .ok (.istore_n 2, 1) := by decide +kernel
theorem dX6_run_30 : decode cX6_run 30 = .ok (.iload_n 2, 1) := by decide +kernel
theorem dX6_run_31 : decode cX6_run 31 = .ok (.aload_n 0, 1) := by decide +kernel
theorem dX6_run_32 : decode cX6_run 32 = .ok (.getfield 29, 3) := by decide +kernel
theorem dX6_run_35 : decode cX6_run 35 = .ok (.getfield 87, 3) := by decide +kernel
theorem dX6_run_38 : decode cX6_run 38 = .ok (.if_icmp .ge 33, 3) := by decide +kernel
theorem dX6_run_41 : decode cX6_run 41 = .ok (.aload_n 0, 1) := by decide +kernel
theorem dX6_run_42 : decode cX6_run 42 = .ok (.getfield 29, 3) := by decide +kernel
theorem dX6_run_45 : decode cX6_run 45 = .ok (.iload_n 2, 1) := by decide +kernel
theorem dX6_run_46 : decode cX6_run 46 = .ok (.invokevirtual 102, 3) := by decide +kernel
theorem dX6_run_49 : decode cX6_run 49 = .ok (.ifCond .eq 16, 3) := by decide +kernel
theorem dX6_run_52 : decode cX6_run 52 = .ok (.aload_n 0, 1) := by decide +kernel
theorem dX6_run_53 : decode cX6_run 53 = .ok (.iload_n 2, 1) := by decide +kernel
theorem dX6_run_54 : decode cX6_run 54 = .ok (.invokevirtual 105, 3) := by decide +kernel
theorem dX6_run_57 : decode cX6_run 57 = .ok (.ifCond .ne 5, 3) := by decide +kernel
theorem dX6_run_60 : decode cX6_run 60 = .ok (.iload_n 1, 1) := by decide +kernel
theorem dX6_run_61 : decode cX6_run 61 = .ok (.ireturn, 1) := by decide +kernel
theorem dX6_run_62 : decode cX6_run 62 = .ok (.iinc 1 1, 3) := by decide +kernel
theorem dX6_run_65 : decode cX6_run 65 = .ok (.iinc 2 1, 3) := by decide +kernel
theorem dX6_run_68 : decode cX6_run 68 = .ok (.goto (-38), 3) := by decide +kernel
theorem dX6_run_71 : decode cX6_run 71 = .ok (.iload_n 1, 1) := by decide +kernel
theorem dX6_run_72 : decode cX6_run 72 = .ok (.ireturn, 1) := by decide +kernel
set_option maxRecDepth 20000 in
theorem ggX6_undo_X0_restore : GoodIn wsX6_undo wsX0_restore := goodIn_r _ [9, 10, 11, 12, 13, 14, 15, 16, 17, 18, 19, 20, 21, 22, 23, 24, 25, 26, 27, 28, 29, 30, 31, 32, 33, 34, 35, 36, 37, 38, 39, 40, 41, 42, 43, 44, 45, 46, 47, 48, 49, 50, 51, 52, 53, 54, 55, 56, 57, 58, 59, 60, 61, 62, 63, 64, 65, 66, 67, 68, 69, 70, 71, 72, 77, 78, 79, 80, 81, 82, 83, 84, 85, 86, 87, 88, 89, 90, 91, 92, 93, 94, 95, 96, 97, 98, 99, 100, 101, 102, 103, 104, 105, 106, 107, 108, 109, 110, 111] (by decide +kernel) (by decide +kernel)
set_option maxRecDepth 20000 in
theorem gX6_undo_X0_restore : GoodIn wsX6_undo (wsV RX6 111 RX0 yX0_restore wsX0_restore) := goodIn_app (goodIn_of _ (by decide +kernel)) ggX6_undo_X0_restore
theorem dX6_undo_0 : decode cX6_undo 0 = .ok (.aload_n 0, 1) := by decide +kernel
theorem dX6_undo_1 : decode cX6_undo 1 = .ok (.getfield 22, 3) := by decide +kernel
theorem dX6_undo_4 : decode cX6_undo 4 = .ok (.getfield 108, 3) := by decide +kernel
theorem dX6_undo_7 : decode cX6_undo 7 = .ok (.ifCond .ne 6, 3) := by decide +kernel
theorem dX6_undo_10 : decode cX6_undo 10 = .ok (.ldc 100, 2) := by decide +kernel
theorem dX6_undo_12 : decode cX6_undo 12 = .ok (.ireturn, 1) := by decide +kernel
theorem dX6_undo_13 : decode cX6_undo 13 = .ok (.aload_n 0, 1) := by decide +kernel
theorem dX6_undo_14 : decode cX6_undo 14 = .ok (.getfield 22, 3) := by decide +kernel
theorem dX6_undo_17 : decode cX6_undo 17 = .ok (.aload_n 0, 1) := by decide +kernel
theorem dX6_undo_18 : decode cX6_undo 18 = .ok (.getfield 10, 3) := by decide +kernel
theorem dX6_undo_21 : decode cX6_undo 21 = .ok (.invokevirtual 111, 3) := by decide +kernel
theorem dX6_undo_24 : decode cX6_undo 24 = .ok (.aload_n 0, 1) := by decide +kernel
theorem dX6_undo_25 : decode cX6_undo 25 = .ok (.getfield 22, 3) := by decide +kernel
theorem dX6_undo_28 : decode cX6_undo 28 = .ok (.getfield 108, 3) := by decide +kernel
theorem dX6_undo_31 : decode cX6_undo 31 = .ok (.ireturn, 1) := by decide +kernel
set_option maxRecDepth 20000 in
theorem ggX6_setting_X6_isSetting : GoodIn wsX6_setting wsX6_isSetting := goodIn_r _ [7] (by decide +kernel) (by decide +kernel)
set_option maxRecDepth 20000 in
theorem gX6_setting_X6_isSetting : GoodIn wsX6_setting (va_wsS RX6 33 yX6_isSetting wsX6_isSetting) := goodIn_app (goodIn_of _ (by decide +kernel)) ggX6_setting_X6_isSetting
set_option maxRecDepth 20000 in
theorem ggX6_setting_X3_at : GoodIn wsX6_setting wsX3_at := goodIn_r _ [12, 13, 29] (by decide +kernel) (by decide +kernel)
set_option maxRecDepth 20000 in
theorem gX6_setting_X3_at : GoodIn wsX6_setting (wsV RX6 51 RX3 yX3_at wsX3_at) := goodIn_app (goodIn_of _ (by decide +kernel)) ggX6_setting_X3_at
theorem dX6_setting_0 : decode cX6_setting 0 = .ok (.iload_n 1, 1) := by decide +kernel
theorem dX6_setting_1 : decode cX6_setting 1 = .ok (.invokestatic 33, 3) := by decide +kernel
theorem dX6_setting_4 : decode cX6_setting 4 = .ok (.ifCond .eq 17, 3) := by decide +kernel
theorem dX6_setting_7 : decode cX6_setting 7 = .ok (.aload_n 0, 1) := by decide +kernel
theorem dX6_setting_8 : decode cX6_setting 8 = .ok (.getfield 10, 3) := by decide +kernel
theorem dX6_setting_11 : decode cX6_setting 11 = .ok (.getfield 47, 3) := by decide +kernel
theorem dX6_setting_14 : decode cX6_setting 14 = .ok (.iload_n 1, 1) := by decide +kernel
theorem dX6_setting_15 : decode cX6_setting 15 = .ok (.invokevirtual 51, 3) := by decide +kernel
theorem dX6_setting_18 : decode cX6_setting 18 = .ok (.goto 5, 3) := by decide +kernel
theorem dX6_setting_21 : decode cX6_setting 21 = .ok (.ldc 37, 2) := by decide +kernel
theorem dX6_setting_23 : decode cX6_setting 23 = .ok (.ireturn, 1) := by decide +kernel
set_option maxRecDepth 20000 in
theorem ggX6_classSetting_X6_isKind : GoodIn wsX6_classSetting wsX6_isKind := goodIn_r _ [7] (by decide +kernel) (by decide +kernel)
set_option maxRecDepth 20000 in
theorem gX6_classSetting_X6_isKind : GoodIn wsX6_classSetting (va_wsS RX6 61 yX6_isKind wsX6_isKind) := goodIn_app (goodIn_of _ (by decide +kernel)) ggX6_classSetting_X6_isKind
set_option maxRecDepth 20000 in
theorem ggX6_classSetting_X6_isSetting : GoodIn wsX6_classSetting wsX6_isSetting := goodIn_r _ [10] (by decide +kernel) (by decide +kernel)
set_option maxRecDepth 20000 in
theorem gX6_classSetting_X6_isSetting : GoodIn wsX6_classSetting (va_wsS RX6 33 yX6_isSetting wsX6_isSetting) := goodIn_app (goodIn_of _ (by decide +kernel)) ggX6_classSetting_X6_isSetting
set_option maxRecDepth 20000 in
theorem ggX6_classSetting_X4_lane : GoodIn wsX6_classSetting wsX4_lane := goodIn_r _ [15, 16, 17, 18, 36, 37, 38, 39, 40, 41, 42, 43, 44, 45, 46] (by decide +kernel) (by decide +kernel)
set_option maxRecDepth 20000 in
theorem gX6_classSetting_X4_lane : GoodIn wsX6_classSetting (wsV RX6 67 RX4 yX4_lane wsX4_lane) := goodIn_app (goodIn_of _ (by decide +kernel)) ggX6_classSetting_X4_lane
set_option maxRecDepth 20000 in
theorem ggX6_classSetting_X3_at : GoodIn wsX6_classSetting wsX3_at := goodIn_r _ [23, 24, 47] (by decide +kernel) (by decide +kernel)
set_option maxRecDepth 20000 in
theorem gX6_classSetting_X3_at : GoodIn wsX6_classSetting (wsV RX6 51 RX3 yX3_at wsX3_at) := goodIn_app (goodIn_of _ (by decide +kernel)) ggX6_classSetting_X3_at
theorem dX6_classSetting_0 : decode cX6_classSetting 0 = .ok (.iload_n 1, 1) := by decide +kernel
theorem dX6_classSetting_1 : decode cX6_classSetting 1 = .ok (.invokestatic 61, 3) := by decide +kernel
theorem dX6_classSetting_4 : decode cX6_classSetting 4 = .ok (.ifCond .eq 10, 3) := by decide +kernel
theorem dX6_classSetting_7 : decode cX6_classSetting 7 = .ok (.iload_n 2, 1) := by decide +kernel
theorem dX6_classSetting_8 : decode cX6_classSetting 8 = .ok (.invokestatic 33, 3) := by decide +kernel
theorem dX6_classSetting_11 : decode cX6_classSetting 11 = .ok (.ifCond .ne 6, 3) := by decide +kernel
theorem dX6_classSetting_14 : decode cX6_classSetting 14 = .ok (.ldc 37, 2) := by decide +kernel
theorem dX6_classSetting_16 : decode cX6_classSetting 16 = .ok (.ireturn, 1) := by decide +kernel
theorem dX6_classSetting_17 : decode cX6_classSetting 17 = .ok (.aload_n 0, 1) := by decide +kernel
theorem dX6_classSetting_18 : decode cX6_classSetting 18 = .ok (.getfield 10, 3) := by decide +kernel
theorem dX6_classSetting_21 : decode cX6_classSetting 21 = .ok (.iload_n 1, 1) := by decide +kernel
theorem dX6_classSetting_22 : decode cX6_classSetting 22 = .ok (.invokevirtual 67, 3) := by decide +kernel
theorem dX6_classSetting_25 : decode cX6_classSetting 25 = .ok (.getfield 71, 3) := by decide +kernel
theorem dX6_classSetting_28 : decode cX6_classSetting 28 = .ok (.iload_n 2, 1) := by decide +kernel
theorem dX6_classSetting_29 : decode cX6_classSetting 29 = .ok (.invokevirtual 51, 3) := by decide +kernel
theorem dX6_classSetting_32 : decode cX6_classSetting 32 = .ok (.ireturn, 1) := by decide +kernel
theorem dX6_clock_0 : decode cX6_clock 0 = .ok (.aload_n 0, 1) := by decide +kernel
theorem dX6_clock_1 : decode cX6_clock 1 = .ok (.getfield 10, 3) := by decide +kernel
theorem dX6_clock_4 : decode cX6_clock 4 = .ok (.getfield 114, 3) := by decide +kernel
theorem dX6_clock_7 : decode cX6_clock 7 = .ok (.ireturn, 1) := by decide +kernel
set_option maxRecDepth 20000 in
theorem ggX6_estimate_X6_isShape : GoodIn wsX6_estimate wsX6_isShape := goodIn_r _ [7] (by decide +kernel) (by decide +kernel)
set_option maxRecDepth 20000 in
theorem gX6_estimate_X6_isShape : GoodIn wsX6_estimate (va_wsS RX6 117 yX6_isShape wsX6_isShape) := goodIn_app (goodIn_of _ (by decide +kernel)) ggX6_estimate_X6_isShape
set_option maxRecDepth 20000 in
theorem ggX6_estimate_X3_at : GoodIn wsX6_estimate wsX3_at := goodIn_r _ [12, 13, 29] (by decide +kernel) (by decide +kernel)
set_option maxRecDepth 20000 in
theorem gX6_estimate_X3_at : GoodIn wsX6_estimate (wsV RX6 51 RX3 yX3_at wsX3_at) := goodIn_app (goodIn_of _ (by decide +kernel)) ggX6_estimate_X3_at
theorem dX6_estimate_0 : decode cX6_estimate 0 = .ok (.iload_n 1, 1) := by decide +kernel
theorem dX6_estimate_1 : decode cX6_estimate 1 = .ok (.invokestatic 117, 3) := by decide +kernel
theorem dX6_estimate_4 : decode cX6_estimate 4 = .ok (.ifCond .eq 17, 3) := by decide +kernel
theorem dX6_estimate_7 : decode cX6_estimate 7 = .ok (.aload_n 0, 1) := by decide +kernel
theorem dX6_estimate_8 : decode cX6_estimate 8 = .ok (.getfield 10, 3) := by decide +kernel
theorem dX6_estimate_11 : decode cX6_estimate 11 = .ok (.getfield 120, 3) := by decide +kernel
theorem dX6_estimate_14 : decode cX6_estimate 14 = .ok (.iload_n 1, 1) := by decide +kernel
theorem dX6_estimate_15 : decode cX6_estimate 15 = .ok (.invokevirtual 51, 3) := by decide +kernel
theorem dX6_estimate_18 : decode cX6_estimate 18 = .ok (.goto 5, 3) := by decide +kernel
theorem dX6_estimate_21 : decode cX6_estimate 21 = .ok (.ldc 37, 2) := by decide +kernel
theorem dX6_estimate_23 : decode cX6_estimate 23 = .ok (.ireturn, 1) := by decide +kernel
set_option maxRecDepth 20000 in
theorem ggX6_tokens_X6_isKind : GoodIn wsX6_tokens wsX6_isKind := goodIn_r _ [7] (by decide +kernel) (by decide +kernel)
set_option maxRecDepth 20000 in
theorem gX6_tokens_X6_isKind : GoodIn wsX6_tokens (va_wsS RX6 61 yX6_isKind wsX6_isKind) := goodIn_app (goodIn_of _ (by decide +kernel)) ggX6_tokens_X6_isKind
set_option maxRecDepth 20000 in
theorem ggX6_tokens_X4_lane : GoodIn wsX6_tokens wsX4_lane := goodIn_r _ [12, 13, 14, 15, 27, 28, 29, 30, 31, 32, 33, 34, 35, 36, 37] (by decide +kernel) (by decide +kernel)
set_option maxRecDepth 20000 in
theorem gX6_tokens_X4_lane : GoodIn wsX6_tokens (wsV RX6 67 RX4 yX4_lane wsX4_lane) := goodIn_app (goodIn_of _ (by decide +kernel)) ggX6_tokens_X4_lane
theorem dX6_tokens_0 : decode cX6_tokens 0 = .ok (.iload_n 1, 1) := by decide +kernel
theorem dX6_tokens_1 : decode cX6_tokens 1 = .ok (.invokestatic 61, 3) := by decide +kernel
theorem dX6_tokens_4 : decode cX6_tokens 4 = .ok (.ifCond .eq 17, 3) := by decide +kernel
theorem dX6_tokens_7 : decode cX6_tokens 7 = .ok (.aload_n 0, 1) := by decide +kernel
theorem dX6_tokens_8 : decode cX6_tokens 8 = .ok (.getfield 10, 3) := by decide +kernel
theorem dX6_tokens_11 : decode cX6_tokens 11 = .ok (.iload_n 1, 1) := by decide +kernel
theorem dX6_tokens_12 : decode cX6_tokens 12 = .ok (.invokevirtual 67, 3) := by decide +kernel
theorem dX6_tokens_15 : decode cX6_tokens 15 = .ok (.getfield 123, 3) := by decide +kernel
theorem dX6_tokens_18 : decode cX6_tokens 18 = .ok (.goto 5, 3) := by decide +kernel
theorem dX6_tokens_21 : decode cX6_tokens 21 = .ok (.ldc 37, 2) := by decide +kernel
theorem dX6_tokens_23 : decode cX6_tokens 23 = .ok (.ireturn, 1) := by decide +kernel
set_option maxRecDepth 20000 in
theorem ggX6_pass_X6_isKind : GoodIn wsX6_pass wsX6_isKind := goodIn_r _ [7] (by decide +kernel) (by decide +kernel)
set_option maxRecDepth 20000 in
theorem gX6_pass_X6_isKind : GoodIn wsX6_pass (va_wsS RX6 61 yX6_isKind wsX6_isKind) := goodIn_app (goodIn_of _ (by decide +kernel)) ggX6_pass_X6_isKind
set_option maxRecDepth 20000 in
theorem ggX6_pass_X4_lane : GoodIn wsX6_pass wsX4_lane := goodIn_r _ [12, 13, 14, 15, 27, 28, 29, 30, 31, 32, 33, 34, 35, 36, 37] (by decide +kernel) (by decide +kernel)
set_option maxRecDepth 20000 in
theorem gX6_pass_X4_lane : GoodIn wsX6_pass (wsV RX6 67 RX4 yX4_lane wsX4_lane) := goodIn_app (goodIn_of _ (by decide +kernel)) ggX6_pass_X4_lane
theorem dX6_pass_0 : decode cX6_pass 0 = .ok (.iload_n 1, 1) := by decide +kernel
theorem dX6_pass_1 : decode cX6_pass 1 = .ok (.invokestatic 61, 3) := by decide +kernel
theorem dX6_pass_4 : decode cX6_pass 4 = .ok (.ifCond .eq 17, 3) := by decide +kernel
theorem dX6_pass_7 : decode cX6_pass 7 = .ok (.aload_n 0, 1) := by decide +kernel
theorem dX6_pass_8 : decode cX6_pass 8 = .ok (.getfield 10, 3) := by decide +kernel
theorem dX6_pass_11 : decode cX6_pass 11 = .ok (.iload_n 1, 1) := by decide +kernel
theorem dX6_pass_12 : decode cX6_pass 12 = .ok (.invokevirtual 67, 3) := by decide +kernel
theorem dX6_pass_15 : decode cX6_pass 15 = .ok (.getfield 126, 3) := by decide +kernel
theorem dX6_pass_18 : decode cX6_pass 18 = .ok (.goto 5, 3) := by decide +kernel
theorem dX6_pass_21 : decode cX6_pass 21 = .ok (.ldc 37, 2) := by decide +kernel
theorem dX6_pass_23 : decode cX6_pass 23 = .ok (.ireturn, 1) := by decide +kernel
set_option maxRecDepth 20000 in
theorem ggX6_queued_X6_isKind : GoodIn wsX6_queued wsX6_isKind := goodIn_r _ [7] (by decide +kernel) (by decide +kernel)
set_option maxRecDepth 20000 in
theorem gX6_queued_X6_isKind : GoodIn wsX6_queued (va_wsS RX6 61 yX6_isKind wsX6_isKind) := goodIn_app (goodIn_of _ (by decide +kernel)) ggX6_queued_X6_isKind
set_option maxRecDepth 20000 in
theorem ggX6_queued_X4_lane : GoodIn wsX6_queued wsX4_lane := goodIn_r _ [12, 13, 14, 15, 27, 28, 29, 30, 31, 32, 33, 34, 35, 36, 37] (by decide +kernel) (by decide +kernel)
set_option maxRecDepth 20000 in
theorem gX6_queued_X4_lane : GoodIn wsX6_queued (wsV RX6 67 RX4 yX4_lane wsX4_lane) := goodIn_app (goodIn_of _ (by decide +kernel)) ggX6_queued_X4_lane
theorem dX6_queued_0 : decode cX6_queued 0 = .ok (.iload_n 1, 1) := by decide +kernel
theorem dX6_queued_1 : decode cX6_queued 1 = .ok (.invokestatic 61, 3) := by decide +kernel
theorem dX6_queued_4 : decode cX6_queued 4 = .ok (.ifCond .eq 17, 3) := by decide +kernel
theorem dX6_queued_7 : decode cX6_queued 7 = .ok (.aload_n 0, 1) := by decide +kernel
theorem dX6_queued_8 : decode cX6_queued 8 = .ok (.getfield 10, 3) := by decide +kernel
theorem dX6_queued_11 : decode cX6_queued 11 = .ok (.iload_n 1, 1) := by decide +kernel
theorem dX6_queued_12 : decode cX6_queued 12 = .ok (.invokevirtual 67, 3) := by decide +kernel
theorem dX6_queued_15 : decode cX6_queued 15 = .ok (.getfield 129, 3) := by decide +kernel
theorem dX6_queued_18 : decode cX6_queued 18 = .ok (.goto 5, 3) := by decide +kernel
theorem dX6_queued_21 : decode cX6_queued 21 = .ok (.ldc 37, 2) := by decide +kernel
theorem dX6_queued_23 : decode cX6_queued 23 = .ok (.ireturn, 1) := by decide +kernel
set_option maxRecDepth 20000 in
theorem ggX6_queuedAt_X6_isKind : GoodIn wsX6_queuedAt wsX6_isKind := goodIn_r _ [10] (by decide +kernel) (by decide +kernel)
set_option maxRecDepth 20000 in
theorem gX6_queuedAt_X6_isKind : GoodIn wsX6_queuedAt (va_wsS RX6 61 yX6_isKind wsX6_isKind) := goodIn_app (goodIn_of _ (by decide +kernel)) ggX6_queuedAt_X6_isKind
set_option maxRecDepth 20000 in
theorem ggX6_queuedAt_X4_lane : GoodIn wsX6_queuedAt wsX4_lane := goodIn_r _ [15, 16, 17, 18, 36, 37, 38, 39, 40, 41, 42, 43, 44, 45, 46] (by decide +kernel) (by decide +kernel)
set_option maxRecDepth 20000 in
theorem gX6_queuedAt_X4_lane : GoodIn wsX6_queuedAt (wsV RX6 67 RX4 yX4_lane wsX4_lane) := goodIn_app (goodIn_of _ (by decide +kernel)) ggX6_queuedAt_X4_lane
set_option maxRecDepth 20000 in
theorem ggX6_queuedAt_X3_at : GoodIn wsX6_queuedAt wsX3_at := goodIn_r _ [23, 24, 47] (by decide +kernel) (by decide +kernel)
set_option maxRecDepth 20000 in
theorem gX6_queuedAt_X3_at : GoodIn wsX6_queuedAt (wsV RX6 51 RX3 yX3_at wsX3_at) := goodIn_app (goodIn_of _ (by decide +kernel)) ggX6_queuedAt_X3_at
theorem dX6_queuedAt_0 : decode cX6_queuedAt 0 = .ok (.iload_n 1, 1) := by decide +kernel
theorem dX6_queuedAt_1 : decode cX6_queuedAt 1 = .ok (.invokestatic 61, 3) := by decide +kernel
theorem dX6_queuedAt_4 : decode cX6_queuedAt 4 = .ok (.ifCond .ne 6, 3) := by decide +kernel
theorem dX6_queuedAt_7 : decode cX6_queuedAt 7 = .ok (.ldc 37, 2) := by decide +kernel
theorem dX6_queuedAt_9 : decode cX6_queuedAt 9 = .ok (.ireturn, 1) := by decide +kernel
theorem dX6_queuedAt_10 : decode cX6_queuedAt 10 = .ok (.iload_n 2, 1) := by decide +kernel
theorem dX6_queuedAt_11 : decode cX6_queuedAt 11 = .ok (.ifCond .ge 6, 3) := by decide +kernel
theorem dX6_queuedAt_14 : decode cX6_queuedAt 14 = .ok (.ldc 42, 2) := by decide +kernel
theorem dX6_queuedAt_16 : decode cX6_queuedAt 16 = .ok (.ireturn, 1) := by decide +kernel
theorem dX6_queuedAt_17 : decode cX6_queuedAt 17 = .ok (.aload_n 0, 1) := by decide +kernel
theorem dX6_queuedAt_18 : decode cX6_queuedAt 18 = .ok (.getfield 10, 3) := by decide +kernel
theorem dX6_queuedAt_21 : decode cX6_queuedAt 21 = .ok (.iload_n 1, 1) := by decide +kernel
theorem dX6_queuedAt_22 : decode cX6_queuedAt 22 = .ok (.invokevirtual 67, 3) := by decide +kernel
theorem dX6_queuedAt_25 : decode cX6_queuedAt 25 = .ok (.astore_n 3, 1) := by decide +kernel
theorem dX6_queuedAt_26 : decode cX6_queuedAt 26 = .ok (.iload_n 2, 1) := by decide +kernel
theorem dX6_queuedAt_27 : decode cX6_queuedAt 27 = .ok (.aload_n 3, 1) := by decide +kernel
theorem dX6_queuedAt_28 : decode cX6_queuedAt 28 = .ok (.getfield 129, 3) := by decide +kernel
theorem dX6_queuedAt_31 : decode cX6_queuedAt 31 = .ok (.if_icmp .ge 14, 3) := by decide +kernel
theorem dX6_queuedAt_34 : decode cX6_queuedAt 34 = .ok (.aload_n 3, 1) := by decide +kernel
theorem dX6_queuedAt_35 : decode cX6_queuedAt 35 = .ok (.getfield 130, 3) := by decide +kernel
theorem dX6_queuedAt_38 : decode cX6_queuedAt 38 = .ok (.iload_n 2, 1) := by decide +kernel
theorem dX6_queuedAt_39 : decode cX6_queuedAt 39 = .ok (.invokevirtual 51, 3) := by decide +kernel
theorem dX6_queuedAt_42 : decode cX6_queuedAt 42 = .ok (.goto 5, 3) := by decide +kernel
theorem dX6_queuedAt_45 : decode cX6_queuedAt 45 = .ok (.ldc 100, 2) := by decide +kernel
theorem dX6_queuedAt_47 : decode cX6_queuedAt 47 = .ok (.ireturn, 1) := by decide +kernel
set_option maxRecDepth 20000 in
theorem ggX6_backlog_X6_isKind : GoodIn wsX6_backlog wsX6_isKind := goodIn_r _ [6] (by decide +kernel) (by decide +kernel)
set_option maxRecDepth 20000 in
theorem gX6_backlog_X6_isKind : GoodIn wsX6_backlog (va_wsS RX6 61 yX6_isKind wsX6_isKind) := goodIn_app (goodIn_of _ (by decide +kernel)) ggX6_backlog_X6_isKind
set_option maxRecDepth 20000 in
theorem ggX6_backlog_X4_lane : GoodIn wsX6_backlog wsX4_lane := goodIn_r _ [11, 12, 13, 14, 43, 44, 45, 46, 47, 48, 49, 50, 51, 52, 53] (by decide +kernel) (by decide +kernel)
set_option maxRecDepth 20000 in
theorem gX6_backlog_X4_lane : GoodIn wsX6_backlog (wsV RX6 67 RX4 yX4_lane wsX4_lane) := goodIn_app (goodIn_of _ (by decide +kernel)) ggX6_backlog_X4_lane
set_option maxRecDepth 20000 in
theorem ggX6_backlog_X4_backlogOf : GoodIn wsX6_backlog wsX4_backlogOf := goodIn_r _ [18, 19, 20, 21, 22, 23, 24, 25, 26, 27, 28, 29, 30, 31, 32, 33, 34, 35, 10, 36, 37, 38, 54, 55, 56, 57, 58, 59, 60, 61, 62, 63, 64, 65, 66, 67, 68, 69, 70, 71, 72, 43, 44, 45, 46, 47, 48, 49, 50, 51, 52, 53] (by decide +kernel) (by decide +kernel)
set_option maxRecDepth 20000 in
theorem gX6_backlog_X4_backlogOf : GoodIn wsX6_backlog (wsV RX6 133 RX4 yX4_backlogOf wsX4_backlogOf) := goodIn_app (goodIn_of _ (by decide +kernel)) ggX6_backlog_X4_backlogOf
theorem dX6_backlog_0 : decode cX6_backlog 0 = .ok (.iload_n 1, 1) := by decide +kernel
theorem dX6_backlog_1 : decode cX6_backlog 1 = .ok (.invokestatic 61, 3) := by decide +kernel
theorem dX6_backlog_4 : decode cX6_backlog 4 = .ok (.ifCond .eq 21, 3) := by decide +kernel
theorem dX6_backlog_7 : decode cX6_backlog 7 = .ok (.aload_n 0, 1) := by decide +kernel
theorem dX6_backlog_8 : decode cX6_backlog 8 = .ok (.getfield 10, 3) := by decide +kernel
theorem dX6_backlog_11 : decode cX6_backlog 11 = .ok (.aload_n 0, 1) := by decide +kernel
theorem dX6_backlog_12 : decode cX6_backlog 12 = .ok (.getfield 10, 3) := by decide +kernel
theorem dX6_backlog_15 : decode cX6_backlog 15 = .ok (.iload_n 1, 1) := by decide +kernel
theorem dX6_backlog_16 : decode cX6_backlog 16 = .ok (.invokevirtual 67, 3) := by decide +kernel
theorem dX6_backlog_19 : decode cX6_backlog 19 = .ok (.invokevirtual 133, 3) := by decide +kernel
theorem dX6_backlog_22 : decode cX6_backlog 22 = .ok (.goto 5, 3) := by decide +kernel
theorem dX6_backlog_25 : decode cX6_backlog 25 = .ok (.ldc 37, 2) := by decide +kernel
theorem dX6_backlog_27 : decode cX6_backlog 27 = .ok (.ireturn, 1) := by decide +kernel
set_option maxRecDepth 20000 in
theorem ggX6_worked_X6_isKind : GoodIn wsX6_worked wsX6_isKind := goodIn_r _ [7] (by decide +kernel) (by decide +kernel)
set_option maxRecDepth 20000 in
theorem gX6_worked_X6_isKind : GoodIn wsX6_worked (va_wsS RX6 61 yX6_isKind wsX6_isKind) := goodIn_app (goodIn_of _ (by decide +kernel)) ggX6_worked_X6_isKind
set_option maxRecDepth 20000 in
theorem ggX6_worked_X4_lane : GoodIn wsX6_worked wsX4_lane := goodIn_r _ [12, 13, 14, 15, 27, 28, 29, 30, 31, 32, 33, 34, 35, 36, 37] (by decide +kernel) (by decide +kernel)
set_option maxRecDepth 20000 in
theorem gX6_worked_X4_lane : GoodIn wsX6_worked (wsV RX6 67 RX4 yX4_lane wsX4_lane) := goodIn_app (goodIn_of _ (by decide +kernel)) ggX6_worked_X4_lane
theorem dX6_worked_0 : decode cX6_worked 0 = .ok (.iload_n 1, 1) := by decide +kernel
theorem dX6_worked_1 : decode cX6_worked 1 = .ok (.invokestatic 61, 3) := by decide +kernel
theorem dX6_worked_4 : decode cX6_worked 4 = .ok (.ifCond .eq 17, 3) := by decide +kernel
theorem dX6_worked_7 : decode cX6_worked 7 = .ok (.aload_n 0, 1) := by decide +kernel
theorem dX6_worked_8 : decode cX6_worked 8 = .ok (.getfield 10, 3) := by decide +kernel
theorem dX6_worked_11 : decode cX6_worked 11 = .ok (.iload_n 1, 1) := by decide +kernel
theorem dX6_worked_12 : decode cX6_worked 12 = .ok (.invokevirtual 67, 3) := by decide +kernel
theorem dX6_worked_15 : decode cX6_worked 15 = .ok (.getfield 137, 3) := by decide +kernel
theorem dX6_worked_18 : decode cX6_worked 18 = .ok (.goto 5, 3) := by decide +kernel
theorem dX6_worked_21 : decode cX6_worked 21 = .ok (.ldc 37, 2) := by decide +kernel
theorem dX6_worked_23 : decode cX6_worked 23 = .ok (.ireturn, 1) := by decide +kernel
set_option maxRecDepth 20000 in
theorem ggX6_refused_X6_isKind : GoodIn wsX6_refused wsX6_isKind := goodIn_r _ [7] (by decide +kernel) (by decide +kernel)
set_option maxRecDepth 20000 in
theorem gX6_refused_X6_isKind : GoodIn wsX6_refused (va_wsS RX6 61 yX6_isKind wsX6_isKind) := goodIn_app (goodIn_of _ (by decide +kernel)) ggX6_refused_X6_isKind
set_option maxRecDepth 20000 in
theorem ggX6_refused_X4_lane : GoodIn wsX6_refused wsX4_lane := goodIn_r _ [12, 13, 14, 15, 33, 34, 35, 36, 37, 38, 39, 40, 41, 42, 43] (by decide +kernel) (by decide +kernel)
set_option maxRecDepth 20000 in
theorem gX6_refused_X4_lane : GoodIn wsX6_refused (wsV RX6 67 RX4 yX4_lane wsX4_lane) := goodIn_app (goodIn_of _ (by decide +kernel)) ggX6_refused_X4_lane
set_option maxRecDepth 20000 in
theorem ggX6_refused_X3_at : GoodIn wsX6_refused wsX3_at := goodIn_r _ [20, 21, 44] (by decide +kernel) (by decide +kernel)
set_option maxRecDepth 20000 in
theorem gX6_refused_X3_at : GoodIn wsX6_refused (wsV RX6 51 RX3 yX3_at wsX3_at) := goodIn_app (goodIn_of _ (by decide +kernel)) ggX6_refused_X3_at
theorem dX6_refused_0 : decode cX6_refused 0 = .ok (.iload_n 1, 1) := by decide +kernel
theorem dX6_refused_1 : decode cX6_refused 1 = .ok (.invokestatic 61, 3) := by decide +kernel
theorem dX6_refused_4 : decode cX6_refused 4 = .ok (.ifCond .eq 13, 3) := by decide +kernel
theorem dX6_refused_7 : decode cX6_refused 7 = .ok (.iload_n 2, 1) := by decide +kernel
theorem dX6_refused_8 : decode cX6_refused 8 = .ok (.iconst 1, 1) := by decide +kernel
theorem dX6_refused_9 : decode cX6_refused 9 = .ok (.if_icmp .lt 8, 3) := by decide +kernel
theorem dX6_refused_12 : decode cX6_refused 12 = .ok (.iload_n 2, 1) := by decide +kernel
theorem dX6_refused_13 : decode cX6_refused 13 = .ok (.iconst 5, 1) := by decide +kernel
theorem dX6_refused_14 : decode cX6_refused 14 = .ok (.if_icmp .le 6, 3) := by decide +kernel
theorem dX6_refused_17 : decode cX6_refused 17 = .ok (.ldc 37, 2) := by decide +kernel
theorem dX6_refused_19 : decode cX6_refused 19 = .ok (.ireturn, 1) := by decide +kernel
theorem dX6_refused_20 : decode cX6_refused 20 = .ok (.aload_n 0, 1) := by decide +kernel
theorem dX6_refused_21 : decode cX6_refused 21 = .ok (.getfield 10, 3) := by decide +kernel
theorem dX6_refused_24 : decode cX6_refused 24 = .ok (.iload_n 1, 1) := by decide +kernel
theorem dX6_refused_25 : decode cX6_refused 25 = .ok (.invokevirtual 67, 3) := by decide +kernel
theorem dX6_refused_28 : decode cX6_refused 28 = .ok (.getfield 140, 3) := by decide +kernel
theorem dX6_refused_31 : decode cX6_refused 31 = .ok (.iload_n 2, 1) := by decide +kernel
theorem dX6_refused_32 : decode cX6_refused 32 = .ok (.invokevirtual 51, 3) := by decide +kernel
theorem dX6_refused_35 : decode cX6_refused 35 = .ok (.ireturn, 1) := by decide +kernel
theorem dX6_idle_0 : decode cX6_idle 0 = .ok (.aload_n 0, 1) := by decide +kernel
theorem dX6_idle_1 : decode cX6_idle 1 = .ok (.getfield 10, 3) := by decide +kernel
theorem dX6_idle_4 : decode cX6_idle 4 = .ok (.getfield 143, 3) := by decide +kernel
theorem dX6_idle_7 : decode cX6_idle 7 = .ok (.ireturn, 1) := by decide +kernel
set_option maxRecDepth 20000 in
theorem ggX6_workShare_X6_isKind : GoodIn wsX6_workShare wsX6_isKind := goodIn_r _ [7] (by decide +kernel) (by decide +kernel)
set_option maxRecDepth 20000 in
theorem gX6_workShare_X6_isKind : GoodIn wsX6_workShare (va_wsS RX6 61 yX6_isKind wsX6_isKind) := goodIn_app (goodIn_of _ (by decide +kernel)) ggX6_workShare_X6_isKind
set_option maxRecDepth 20000 in
theorem ggX6_workShare_X4_lane : GoodIn wsX6_workShare wsX4_lane := goodIn_r _ [12, 13, 14, 15, 27, 28, 29, 30, 31, 32, 33, 34, 35, 36, 37] (by decide +kernel) (by decide +kernel)
set_option maxRecDepth 20000 in
theorem gX6_workShare_X4_lane : GoodIn wsX6_workShare (wsV RX6 67 RX4 yX4_lane wsX4_lane) := goodIn_app (goodIn_of _ (by decide +kernel)) ggX6_workShare_X4_lane
theorem dX6_workShare_0 : decode cX6_workShare 0 = .ok (.iload_n 1, 1) := by decide +kernel
theorem dX6_workShare_1 : decode cX6_workShare 1 = .ok (.invokestatic 61, 3) := by decide +kernel
theorem dX6_workShare_4 : decode cX6_workShare 4 = .ok (.ifCond .ne 6, 3) := by decide +kernel
theorem dX6_workShare_7 : decode cX6_workShare 7 = .ok (.ldc 146, 2) := by decide +kernel
theorem dX6_workShare_9 : decode cX6_workShare 9 = .ok (.freturn, 1) := by decide +kernel
theorem dX6_workShare_10 : decode cX6_workShare 10 = .ok (.aload_n 0, 1) := by decide +kernel
theorem dX6_workShare_11 : decode cX6_workShare 11 = .ok (.getfield 10, 3) := by decide +kernel
theorem dX6_workShare_14 : decode cX6_workShare 14 = .ok (.iconst 0, 1) := by decide +kernel
theorem dX6_workShare_15 : decode cX6_workShare 15 = .ok (.invokevirtual 67, 3) := by decide +kernel
theorem dX6_workShare_18 : decode cX6_workShare 18 = .ok (.getfield 137, 3) := by decide +kernel
theorem dX6_workShare_21 : decode cX6_workShare 21 = .ok (.aload_n 0, 1) := by decide +kernel
theorem dX6_workShare_22 : decode cX6_workShare 22 = .ok (.getfield 10, 3) := by decide +kernel
theorem dX6_workShare_25 : decode cX6_workShare 25 = .ok (.iconst 1, 1) := by decide +kernel
theorem dX6_workShare_26 : decode cX6_workShare 26 = .ok (.invokevirtual 67, 3) := by decide +kernel
theorem dX6_workShare_29 : decode cX6_workShare 29 = .ok (.getfield 137, 3) := by decide +kernel
theorem dX6_workShare_32 : decode cX6_workShare 32 = .ok (.iadd, 1) := by decide +kernel
theorem dX6_workShare_33 : decode cX6_workShare 33 = .ok (.aload_n 0, 1) := by decide +kernel
theorem dX6_workShare_34 : decode cX6_workShare 34 = .ok (.getfield 10, 3) := by decide +kernel
theorem dX6_workShare_37 : decode cX6_workShare 37 = .ok (.iconst 2, 1) := by decide +kernel
theorem dX6_workShare_38 : decode cX6_workShare 38 = .ok (.invokevirtual 67, 3) := by decide +kernel
theorem dX6_workShare_41 : decode cX6_workShare 41 = .ok (.getfield 137, 3) := by decide +kernel
theorem dX6_workShare_44 : decode cX6_workShare 44 = .ok (.iadd, 1) := by decide +kernel
theorem dX6_workShare_45 : decode cX6_workShare 45 = .ok (.istore_n 2, 1) := by decide +kernel
theorem dX6_workShare_46 : decode cX6_workShare 46 = .ok (.iload_n 2, 1) := by decide +kernel
theorem dX6_workShare_47 : decode cX6_workShare 47 = .ok (.ifCond .ne 5, 3) := by decide +kernel
theorem dX6_workShare_50 : decode cX6_workShare 50 = .ok (.fconst 0, 1) := by decide +kernel
theorem dX6_workShare_51 : decode cX6_workShare 51 = .ok (.freturn, 1) := by decide +kernel
theorem dX6_workShare_52 : decode cX6_workShare 52 = .ok (.aload_n 0, 1) := by decide +kernel
theorem dX6_workShare_53 : decode cX6_workShare 53 = .ok (.getfield 10, 3) := by decide +kernel
theorem dX6_workShare_56 : decode cX6_workShare 56 = .ok (.iload_n 1, 1) := by decide +kernel
theorem dX6_workShare_57 : decode cX6_workShare 57 = .ok (.invokevirtual 67, 3) := by decide +kernel
theorem dX6_workShare_60 : decode cX6_workShare 60 = .ok (.getfield 137, 3) := by decide +kernel
theorem dX6_workShare_63 : decode cX6_workShare 63 = .ok (.i2f, 1) := by decide +kernel
theorem dX6_workShare_64 : decode cX6_workShare 64 = .ok (.iload_n 2, 1) := by decide +kernel
theorem dX6_workShare_65 : decode cX6_workShare 65 = .ok (.i2f, 1) := by decide +kernel
theorem dX6_workShare_66 : decode cX6_workShare 66 = .ok (.fdiv, 1) := by decide +kernel
theorem dX6_workShare_67 : decode cX6_workShare 67 = .ok (.freturn, 1) := by decide +kernel
theorem dX6_requests_0 : decode cX6_requests 0 = .ok (.aload_n 0, 1) := by decide +kernel
theorem dX6_requests_1 : decode cX6_requests 1 = .ok (.getfield 10, 3) := by decide +kernel
theorem dX6_requests_4 : decode cX6_requests 4 = .ok (.getfield 147, 3) := by decide +kernel
theorem dX6_requests_7 : decode cX6_requests 7 = .ok (.ireturn, 1) := by decide +kernel
set_option maxRecDepth 20000 in
theorem ggX6_state_X4_find : GoodIn wsX6_state wsX4_find := goodIn_r _ [8, 9, 10, 26, 27, 28, 29, 30, 31, 32, 33, 34, 35, 36] (by decide +kernel) (by decide +kernel)
set_option maxRecDepth 20000 in
theorem gX6_state_X4_find : GoodIn wsX6_state (wsV RX6 150 RX4 yX4_find wsX4_find) := goodIn_app (goodIn_of _ (by decide +kernel)) ggX6_state_X4_find
theorem dX6_state_0 : decode cX6_state 0 = .ok (.aload_n 0, 1) := by decide +kernel
theorem dX6_state_1 : decode cX6_state 1 = .ok (.getfield 10, 3) := by decide +kernel
theorem dX6_state_4 : decode cX6_state 4 = .ok (.iload_n 1, 1) := by decide +kernel
theorem dX6_state_5 : decode cX6_state 5 = .ok (.invokevirtual 150, 3) := by decide +kernel
theorem dX6_state_8 : decode cX6_state 8 = .ok (.astore_n 2, 1) := by decide +kernel
theorem dX6_state_9 : decode cX6_state 9 = .ok (.aload_n 2, 1) := by decide +kernel
theorem dX6_state_10 : decode cX6_state 10 = .ok (.ifnonnull 8, 3) := by decide +kernel
theorem dX6_state_13 : decode cX6_state 13 = .ok (.ldc 37, 2) := by decide +kernel
theorem dX6_state_15 : decode cX6_state 15 = .ok (.goto 7, 3) := by decide +kernel
theorem dX6_state_18 : decode cX6_state 18 = .ok (.aload_n 2, 1) := by decide +kernel
theorem dX6_state_19 : decode cX6_state 19 = .ok (.getfield 154, 3) := by decide +kernel
theorem dX6_state_22 : decode cX6_state 22 = .ok (.ireturn, 1) := by decide +kernel
set_option maxRecDepth 20000 in
theorem ggX6_price_X4_find : GoodIn wsX6_price wsX4_find := goodIn_r _ [8, 9, 10, 26, 27, 28, 29, 30, 31, 32, 33, 34, 35, 36] (by decide +kernel) (by decide +kernel)
set_option maxRecDepth 20000 in
theorem gX6_price_X4_find : GoodIn wsX6_price (wsV RX6 150 RX4 yX4_find wsX4_find) := goodIn_app (goodIn_of _ (by decide +kernel)) ggX6_price_X4_find
theorem dX6_price_0 : decode cX6_price 0 = .ok (.aload_n 0, 1) := by decide +kernel
theorem dX6_price_1 : decode cX6_price 1 = .ok (.getfield 10, 3) := by decide +kernel
theorem dX6_price_4 : decode cX6_price 4 = .ok (.iload_n 1, 1) := by decide +kernel
theorem dX6_price_5 : decode cX6_price 5 = .ok (.invokevirtual 150, 3) := by decide +kernel
theorem dX6_price_8 : decode cX6_price 8 = .ok (.astore_n 2, 1) := by decide +kernel
theorem dX6_price_9 : decode cX6_price 9 = .ok (.aload_n 2, 1) := by decide +kernel
theorem dX6_price_10 : decode cX6_price 10 = .ok (.ifnonnull 8, 3) := by decide +kernel
theorem dX6_price_13 : decode cX6_price 13 = .ok (.ldc 37, 2) := by decide +kernel
theorem dX6_price_15 : decode cX6_price 15 = .ok (.goto 7, 3) := by decide +kernel
theorem dX6_price_18 : decode cX6_price 18 = .ok (.aload_n 2, 1) := by decide +kernel
theorem dX6_price_19 : decode cX6_price 19 = .ok (.getfield 159, 3) := by decide +kernel
theorem dX6_price_22 : decode cX6_price 22 = .ok (.ireturn, 1) := by decide +kernel
set_option maxRecDepth 20000 in
theorem ggX6_done_X4_find : GoodIn wsX6_done wsX4_find := goodIn_r _ [8, 9, 10, 26, 27, 28, 29, 30, 31, 32, 33, 34, 35, 36] (by decide +kernel) (by decide +kernel)
set_option maxRecDepth 20000 in
theorem gX6_done_X4_find : GoodIn wsX6_done (wsV RX6 150 RX4 yX4_find wsX4_find) := goodIn_app (goodIn_of _ (by decide +kernel)) ggX6_done_X4_find
theorem dX6_done_0 : decode cX6_done 0 = .ok (.aload_n 0, 1) := by decide +kernel
theorem dX6_done_1 : decode cX6_done 1 = .ok (.getfield 10, 3) := by decide +kernel
theorem dX6_done_4 : decode cX6_done 4 = .ok (.iload_n 1, 1) := by decide +kernel
theorem dX6_done_5 : decode cX6_done 5 = .ok (.invokevirtual 150, 3) := by decide +kernel
theorem dX6_done_8 : decode cX6_done 8 = .ok (.astore_n 2, 1) := by decide +kernel
theorem dX6_done_9 : decode cX6_done 9 = .ok (.aload_n 2, 1) := by decide +kernel
theorem dX6_done_10 : decode cX6_done 10 = .ok (.ifnonnull 8, 3) := by decide +kernel
theorem dX6_done_13 : decode cX6_done 13 = .ok (.ldc 37, 2) := by decide +kernel
theorem dX6_done_15 : decode cX6_done 15 = .ok (.goto 7, 3) := by decide +kernel
theorem dX6_done_18 : decode cX6_done 18 = .ok (.aload_n 2, 1) := by decide +kernel
theorem dX6_done_19 : decode cX6_done 19 = .ok (.getfield 162, 3) := by decide +kernel
theorem dX6_done_22 : decode cX6_done 22 = .ok (.ireturn, 1) := by decide +kernel
set_option maxRecDepth 20000 in
theorem ggX6_offers_X4_find : GoodIn wsX6_offers wsX4_find := goodIn_r _ [8, 9, 10, 26, 27, 28, 29, 30, 31, 32, 33, 34, 35, 36] (by decide +kernel) (by decide +kernel)
set_option maxRecDepth 20000 in
theorem gX6_offers_X4_find : GoodIn wsX6_offers (wsV RX6 150 RX4 yX4_find wsX4_find) := goodIn_app (goodIn_of _ (by decide +kernel)) ggX6_offers_X4_find
theorem dX6_offers_0 : decode cX6_offers 0 = .ok (.aload_n 0, 1) := by decide +kernel
theorem dX6_offers_1 : decode cX6_offers 1 = .ok (.getfield 10, 3) := by decide +kernel
theorem dX6_offers_4 : decode cX6_offers 4 = .ok (.iload_n 1, 1) := by decide +kernel
theorem dX6_offers_5 : decode cX6_offers 5 = .ok (.invokevirtual 150, 3) := by decide +kernel
theorem dX6_offers_8 : decode cX6_offers 8 = .ok (.astore_n 2, 1) := by decide +kernel
theorem dX6_offers_9 : decode cX6_offers 9 = .ok (.aload_n 2, 1) := by decide +kernel
theorem dX6_offers_10 : decode cX6_offers 10 = .ok (.ifnonnull 8, 3) := by decide +kernel
theorem dX6_offers_13 : decode cX6_offers 13 = .ok (.ldc 37, 2) := by decide +kernel
theorem dX6_offers_15 : decode cX6_offers 15 = .ok (.goto 7, 3) := by decide +kernel
theorem dX6_offers_18 : decode cX6_offers 18 = .ok (.aload_n 2, 1) := by decide +kernel
theorem dX6_offers_19 : decode cX6_offers 19 = .ok (.getfield 163, 3) := by decide +kernel
theorem dX6_offers_22 : decode cX6_offers 22 = .ok (.ireturn, 1) := by decide +kernel
set_option maxRecDepth 20000 in
theorem ggX6_reason_X4_find : GoodIn wsX6_reason wsX4_find := goodIn_r _ [8, 9, 10, 26, 27, 28, 29, 30, 31, 32, 33, 34, 35, 36] (by decide +kernel) (by decide +kernel)
set_option maxRecDepth 20000 in
theorem gX6_reason_X4_find : GoodIn wsX6_reason (wsV RX6 150 RX4 yX4_find wsX4_find) := goodIn_app (goodIn_of _ (by decide +kernel)) ggX6_reason_X4_find
theorem dX6_reason_0 : decode cX6_reason 0 = .ok (.aload_n 0, 1) := by decide +kernel
theorem dX6_reason_1 : decode cX6_reason 1 = .ok (.getfield 10, 3) := by decide +kernel
theorem dX6_reason_4 : decode cX6_reason 4 = .ok (.iload_n 1, 1) := by decide +kernel
theorem dX6_reason_5 : decode cX6_reason 5 = .ok (.invokevirtual 150, 3) := by decide +kernel
theorem dX6_reason_8 : decode cX6_reason 8 = .ok (.astore_n 2, 1) := by decide +kernel
theorem dX6_reason_9 : decode cX6_reason 9 = .ok (.aload_n 2, 1) := by decide +kernel
theorem dX6_reason_10 : decode cX6_reason 10 = .ok (.ifnonnull 8, 3) := by decide +kernel
theorem dX6_reason_13 : decode cX6_reason 13 = .ok (.ldc 37, 2) := by decide +kernel
theorem dX6_reason_15 : decode cX6_reason 15 = .ok (.goto 7, 3) := by decide +kernel
theorem dX6_reason_18 : decode cX6_reason 18 = .ok (.aload_n 2, 1) := by decide +kernel
theorem dX6_reason_19 : decode cX6_reason 19 = .ok (.getfield 166, 3) := by decide +kernel
theorem dX6_reason_22 : decode cX6_reason 22 = .ok (.ireturn, 1) := by decide +kernel
set_option maxRecDepth 20000 in
theorem ggX6_when_X4_find : GoodIn wsX6_when wsX4_find := goodIn_r _ [10, 11, 12, 28, 29, 30, 31, 32, 33, 34, 35, 36, 37, 38] (by decide +kernel) (by decide +kernel)
set_option maxRecDepth 20000 in
theorem gX6_when_X4_find : GoodIn wsX6_when (wsV RX6 150 RX4 yX4_find wsX4_find) := goodIn_app (goodIn_of _ (by decide +kernel)) ggX6_when_X4_find
theorem dX6_when_0 : decode cX6_when 0 = .ok (.aload_n 0, 1) := by decide +kernel
theorem dX6_when_1 : decode cX6_when 1 = .ok (.getfield 10, 3) := by decide +kernel
theorem dX6_when_4 : decode cX6_when 4 = .ok (.iload_n 1, 1) := by decide +kernel
theorem dX6_when_5 : decode cX6_when 5 = .ok (.invokevirtual 150, 3) := by decide +kernel
theorem dX6_when_8 : decode cX6_when 8 = .ok (.astore_n 2, 1) := by decide +kernel
theorem dX6_when_9 : decode cX6_when 9 = .ok (.aload_n 2, 1) := by decide +kernel
theorem dX6_when_10 : decode cX6_when 10 = .ok (.ifnonnull 6, 3) := by decide +kernel
theorem dX6_when_13 : decode cX6_when 13 = .ok (.ldc 37, 2) := by decide +kernel
theorem dX6_when_15 : decode cX6_when 15 = .ok (.ireturn, 1) := by decide +kernel
theorem dX6_when_16 : decode cX6_when 16 = .ok (.aload_n 2, 1) := by decide +kernel
theorem dX6_when_17 : decode cX6_when 17 = .ok (.getfield 154, 3) := by decide +kernel
theorem dX6_when_20 : decode cX6_when 20 = .ok (.iconst 3, 1) := by decide +kernel
theorem dX6_when_21 : decode cX6_when 21 = .ok (.if_icmp .eq 11, 3) := by decide +kernel
theorem dX6_when_24 : decode cX6_when 24 = .ok (.aload_n 2, 1) := by decide +kernel
theorem dX6_when_25 : decode cX6_when 25 = .ok (.getfield 154, 3) := by decide +kernel
theorem dX6_when_28 : decode cX6_when 28 = .ok (.iconst 2, 1) := by decide +kernel
theorem dX6_when_29 : decode cX6_when 29 = .ok (.if_icmp .ne 10, 3) := by decide +kernel
theorem dX6_when_32 : decode cX6_when 32 = .ok (.aload_n 2, 1) := by decide +kernel
theorem dX6_when_33 : decode cX6_when 33 = .ok (.getfield 169, 3) := by decide +kernel
theorem dX6_when_36 : decode cX6_when 36 = .ok (.goto 5, 3) := by decide +kernel
theorem dX6_when_39 : decode cX6_when 39 = .ok (.ldc 100, 2) := by decide +kernel
theorem dX6_when_41 : decode cX6_when 41 = .ok (.ireturn, 1) := by decide +kernel
set_option maxRecDepth 20000 in
theorem ggX6_wouldRefuse_X6_isKind : GoodIn wsX6_wouldRefuse wsX6_isKind := goodIn_r _ [6] (by decide +kernel) (by decide +kernel)
set_option maxRecDepth 20000 in
theorem gX6_wouldRefuse_X6_isKind : GoodIn wsX6_wouldRefuse (va_wsS RX6 61 yX6_isKind wsX6_isKind) := goodIn_app (goodIn_of _ (by decide +kernel)) ggX6_wouldRefuse_X6_isKind
set_option maxRecDepth 20000 in
theorem ggX6_wouldRefuse_X6_isShape : GoodIn wsX6_wouldRefuse wsX6_isShape := goodIn_r _ [9] (by decide +kernel) (by decide +kernel)
set_option maxRecDepth 20000 in
theorem gX6_wouldRefuse_X6_isShape : GoodIn wsX6_wouldRefuse (va_wsS RX6 117 yX6_isShape wsX6_isShape) := goodIn_app (goodIn_of _ (by decide +kernel)) ggX6_wouldRefuse_X6_isShape
set_option maxRecDepth 20000 in
theorem ggX6_wouldRefuse_X4_lane : GoodIn wsX6_wouldRefuse wsX4_lane := goodIn_r _ [14, 15, 16, 17, 60, 61, 62, 63, 64, 65, 66, 67, 68, 69, 70] (by decide +kernel) (by decide +kernel)
set_option maxRecDepth 20000 in
theorem gX6_wouldRefuse_X4_lane : GoodIn wsX6_wouldRefuse (wsV RX6 67 RX4 yX4_lane wsX4_lane) := goodIn_app (goodIn_of _ (by decide +kernel)) ggX6_wouldRefuse_X4_lane
set_option maxRecDepth 20000 in
theorem ggX6_wouldRefuse_X4_expectedCost : GoodIn wsX6_wouldRefuse wsX4_expectedCost := goodIn_r _ [21, 22, 23, 24, 25, 26, 27, 28, 29, 30, 31, 32, 60, 61, 62, 63, 64, 65, 66, 67, 68, 69, 70, 71] (by decide +kernel) (by decide +kernel)
set_option maxRecDepth 20000 in
theorem gX6_wouldRefuse_X4_expectedCost : GoodIn wsX6_wouldRefuse (wsV RX6 172 RX4 yX4_expectedCost wsX4_expectedCost) := goodIn_app (goodIn_of _ (by decide +kernel)) ggX6_wouldRefuse_X4_expectedCost
set_option maxRecDepth 20000 in
theorem ggX6_wouldRefuse_X4_firstRefusal : GoodIn wsX6_wouldRefuse wsX4_firstRefusal := goodIn_r _ [36, 37, 38, 15, 16, 17, 39, 40, 27, 28, 29, 30, 31, 32, 41, 42, 43, 13, 44, 45, 46, 47, 23, 24, 25, 26, 48, 49, 50, 51, 52, 53, 54, 5, 55, 72, 73, 74, 75, 76, 77, 78, 60, 61, 62, 63, 64, 65, 66, 67, 68, 69, 70, 71, 79, 80, 81, 82, 83, 84, 85, 86, 87, 88, 89] (by decide +kernel) (by decide +kernel)
set_option maxRecDepth 20000 in
theorem gX6_wouldRefuse_X4_firstRefusal : GoodIn wsX6_wouldRefuse (wsV RX6 175 RX4 yX4_firstRefusal wsX4_firstRefusal) := goodIn_app (goodIn_of _ (by decide +kernel)) ggX6_wouldRefuse_X4_firstRefusal
theorem dX6_wouldRefuse_0 : decode cX6_wouldRefuse 0 = .ok (.iload_n 1, 1) := by decide +kernel
theorem dX6_wouldRefuse_1 : decode cX6_wouldRefuse 1 = .ok (.invokestatic 61, 3) := by decide +kernel
theorem dX6_wouldRefuse_4 : decode cX6_wouldRefuse 4 = .ok (.ifCond .eq 10, 3) := by decide +kernel
theorem dX6_wouldRefuse_7 : decode cX6_wouldRefuse 7 = .ok (.iload_n 2, 1) := by decide +kernel
theorem dX6_wouldRefuse_8 : decode cX6_wouldRefuse 8 = .ok (.invokestatic 117, 3) := by decide +kernel
theorem dX6_wouldRefuse_11 : decode cX6_wouldRefuse 11 = .ok (.ifCond .ne 6, 3) := by decide +kernel
theorem dX6_wouldRefuse_14 : decode cX6_wouldRefuse 14 = .ok (.ldc 37, 2) := by decide +kernel
theorem dX6_wouldRefuse_16 : decode cX6_wouldRefuse 16 = .ok (.ireturn, 1) := by decide +kernel
theorem dX6_wouldRefuse_17 : decode cX6_wouldRefuse 17 = .ok (.aload_n 0, 1) := by decide +kernel
theorem dX6_wouldRefuse_18 : decode cX6_wouldRefuse 18 = .ok (.getfield 10, 3) := by decide +kernel
theorem dX6_wouldRefuse_21 : decode cX6_wouldRefuse 21 = .ok (.aload_n 0, 1) := by decide +kernel
theorem dX6_wouldRefuse_22 : decode cX6_wouldRefuse 22 = .ok (.getfield 10, 3) := by decide +kernel
theorem dX6_wouldRefuse_25 : decode cX6_wouldRefuse 25 = .ok (.iload_n 1, 1) := by decide +kernel
theorem dX6_wouldRefuse_26 : decode cX6_wouldRefuse 26 = .ok (.invokevirtual 67, 3) := by decide +kernel
theorem dX6_wouldRefuse_29 : decode cX6_wouldRefuse 29 = .ok (.aload_n 0, 1) := by decide +kernel
theorem dX6_wouldRefuse_30 : decode cX6_wouldRefuse 30 = .ok (.getfield 10, 3) := by decide +kernel
theorem dX6_wouldRefuse_33 : decode cX6_wouldRefuse 33 = .ok (.iload_n 2, 1) := by decide +kernel
theorem dX6_wouldRefuse_34 : decode cX6_wouldRefuse 34 = .ok (.invokevirtual 172, 3) := by decide +kernel
theorem dX6_wouldRefuse_37 : decode cX6_wouldRefuse 37 = .ok (.invokevirtual 175, 3) := by decide +kernel
theorem dX6_wouldRefuse_40 : decode cX6_wouldRefuse 40 = .ok (.ireturn, 1) := by decide +kernel
set_option maxRecDepth 20000 in
theorem ggX6_ticksLeft_X3_at : GoodIn wsX6_ticksLeft wsX3_at := goodIn_r _ [7, 8, 191] (by decide +kernel) (by decide +kernel)
set_option maxRecDepth 20000 in
theorem gX6_ticksLeft_X3_at : GoodIn wsX6_ticksLeft (wsV RX6 51 RX3 yX3_at wsX3_at) := goodIn_app (goodIn_of _ (by decide +kernel)) ggX6_ticksLeft_X3_at
set_option maxRecDepth 20000 in
theorem ggX6_ticksLeft_X6_ticksOfTrial : GoodIn wsX6_ticksLeft wsX6_ticksOfTrial := goodIn_r _ [13, 14, 15, 16, 17, 18, 19, 12, 20, 1, 2, 21, 22, 23, 24, 25, 26, 27, 28, 29, 30, 31, 32, 33, 34, 35, 36, 37, 38, 6, 39, 8, 40, 41, 42, 43, 44, 45, 46, 47, 48, 49, 50, 51, 52, 53, 54, 55, 56, 57, 58, 59, 60, 61, 62, 63, 64, 65, 66, 67, 68, 69, 70, 71, 72, 73, 74, 75, 76, 77, 78, 79, 80, 81, 82, 83, 84, 85, 86, 87, 88, 4, 5, 7, 89, 90, 91, 92, 93, 94, 95, 96, 97, 98, 99, 100, 101, 102, 103, 104, 105, 106, 107, 108, 109, 110, 111, 112, 113, 114, 115, 116, 117, 118, 119, 120, 121, 122, 123, 124, 125, 126, 127, 128, 129, 130, 131, 132, 133, 134, 135, 136, 137, 138, 139, 140, 141, 142, 143, 144, 145, 146, 147, 148, 149, 150, 151, 152, 153, 154, 155, 156, 157, 158, 159, 160, 161, 162, 163, 164, 165, 166, 167, 168, 169, 170, 171, 172, 173, 174, 175, 176, 177, 178, 179, 180, 181, 182, 183, 184, 185, 186, 187, 188, 189, 190, 191, 192, 193, 194, 195, 196, 197, 198, 199, 200, 201, 202, 203, 204, 205, 206, 207, 208, 209] (by decide +kernel) (by decide +kernel)
set_option maxRecDepth 20000 in
theorem gX6_ticksLeft_X6_ticksOfTrial : GoodIn wsX6_ticksLeft (wsV RX6 179 RX6 yX6_ticksOfTrial wsX6_ticksOfTrial) := goodIn_app (goodIn_of _ (by decide +kernel)) ggX6_ticksLeft_X6_ticksOfTrial
theorem dX6_ticksLeft_0 : decode cX6_ticksLeft 0 = .ok (.aload_n 0, 1) := by decide +kernel
theorem dX6_ticksLeft_1 : decode cX6_ticksLeft 1 = .ok (.aload_n 0, 1) := by decide +kernel
theorem dX6_ticksLeft_2 : decode cX6_ticksLeft 2 = .ok (.getfield 10, 3) := by decide +kernel
theorem dX6_ticksLeft_5 : decode cX6_ticksLeft 5 = .ok (.getfield 47, 3) := by decide +kernel
theorem dX6_ticksLeft_8 : decode cX6_ticksLeft 8 = .ok (.iconst 0, 1) := by decide +kernel
theorem dX6_ticksLeft_9 : decode cX6_ticksLeft 9 = .ok (.invokevirtual 51, 3) := by decide +kernel
theorem dX6_ticksLeft_12 : decode cX6_ticksLeft 12 = .ok (.invokevirtual 179, 3) := by decide +kernel
theorem dX6_ticksLeft_15 : decode cX6_ticksLeft 15 = .ok (.ireturn, 1) := by decide +kernel
set_option maxRecDepth 20000 in
theorem ggX6_ticksIf_X6_isServerValue : GoodIn wsX6_ticksIf wsX6_isServerValue := goodIn_r _ [5, 6, 7, 4, 8] (by decide +kernel) (by decide +kernel)
set_option maxRecDepth 20000 in
theorem gX6_ticksIf_X6_isServerValue : GoodIn wsX6_ticksIf (va_wsS RX6 38 yX6_isServerValue wsX6_isServerValue) := goodIn_app (goodIn_of _ (by decide +kernel)) ggX6_ticksIf_X6_isServerValue
set_option maxRecDepth 20000 in
theorem ggX6_ticksIf_X6_ticksOfTrial : GoodIn wsX6_ticksIf wsX6_ticksOfTrial := goodIn_r _ [12, 13, 14, 15, 16, 17, 18, 4, 19, 20, 21, 22, 23, 24, 25, 26, 27, 28, 29, 30, 31, 32, 33, 34, 35, 36, 37, 38, 39, 40, 41, 42, 43, 44, 45, 46, 47, 48, 49, 50, 51, 52, 53, 54, 55, 56, 57, 58, 59, 60, 61, 62, 63, 64, 65, 66, 67, 68, 69, 70, 71, 72, 73, 74, 75, 76, 77, 78, 79, 80, 81, 82, 83, 84, 85, 86, 87, 88, 89, 90, 91, 92, 93, 94, 95, 96, 97, 98, 99, 100, 101, 102, 103, 104, 105, 106, 107, 108, 109, 110, 111, 112, 113, 114, 115, 116, 117, 118, 119, 120, 121, 122, 123, 124, 125, 126, 127, 128, 129, 130, 131, 132, 133, 134, 135, 136, 137, 138, 139, 140, 141, 142, 143, 144, 145, 146, 147, 148, 149, 150, 151, 152, 153, 154, 155, 156, 157, 158, 159, 160, 161, 162, 163, 164, 165, 166, 167, 168, 169, 170, 171, 172, 173, 174, 175, 176, 177, 178, 179, 180, 181, 182, 183, 184, 185, 186, 187, 188, 189, 190, 191, 192, 193, 194, 195, 196, 197, 198, 199, 200, 201, 202, 203, 204, 205, 206, 207, 208, 209, 210, 211, 212, 213, 214, 215] (by decide +kernel) (by decide +kernel)
set_option maxRecDepth 20000 in
theorem gX6_ticksIf_X6_ticksOfTrial : GoodIn wsX6_ticksIf (wsV RX6 179 RX6 yX6_ticksOfTrial wsX6_ticksOfTrial) := goodIn_app (goodIn_of _ (by decide +kernel)) ggX6_ticksIf_X6_ticksOfTrial
theorem dX6_ticksIf_0 : decode cX6_ticksIf 0 = .ok (.iconst 0, 1) := by decide +kernel
theorem dX6_ticksIf_1 : decode cX6_ticksIf 1 = .ok (.iload_n 1, 1) := by decide +kernel
theorem dX6_ticksIf_2 : decode cX6_ticksIf 2 = .ok (.invokestatic 38, 3) := by decide +kernel
theorem dX6_ticksIf_5 : decode cX6_ticksIf 5 = .ok (.ifCond .ne 6, 3) := by decide +kernel
theorem dX6_ticksIf_8 : decode cX6_ticksIf 8 = .ok (.ldc 42, 2) := by decide +kernel
theorem dX6_ticksIf_10 : decode cX6_ticksIf 10 = .ok (.ireturn, 1) := by decide +kernel
theorem dX6_ticksIf_11 : decode cX6_ticksIf 11 = .ok (.aload_n 0, 1) := by decide +kernel
theorem dX6_ticksIf_12 : decode cX6_ticksIf 12 = .ok (.iload_n 1, 1) := by decide +kernel
theorem dX6_ticksIf_13 : decode cX6_ticksIf 13 = .ok (.invokevirtual 179, 3) := by decide +kernel
theorem dX6_ticksIf_16 : decode cX6_ticksIf 16 = .ok (.ireturn, 1) := by decide +kernel
set_option maxRecDepth 20000 in
theorem ggX6_leastCapacity_X6_trialEndsWithoutRejection : GoodIn wsX6_leastCapacity wsX6_trialEndsWithoutRejection := goodIn_r _ [6, 7, 8, 9, 10, 11, 12, 13, 5, 14, 15, 16, 17, 18, 19, 20, 21, 22, 23, 24, 25, 26, 27, 28, 29, 30, 31, 32, 33, 34, 35, 36, 37, 38, 39, 40, 41, 42, 43, 44, 45, 46, 47, 48, 49, 50, 51, 52, 53, 54, 55, 56, 57, 58, 59, 60, 61, 62, 63, 64, 65, 66, 67, 68, 69, 70, 71, 72, 73, 74, 75, 76, 77, 78, 79, 80, 81, 82, 83, 84, 85, 86, 87, 88, 89, 90, 91, 92, 93, 94, 95, 96, 97, 98, 99, 100, 101, 102, 103, 104, 105, 106, 107, 108, 109, 110, 111, 112, 113, 114, 115, 116, 117, 118, 119, 120, 121, 122, 123, 124, 125, 126, 127, 128, 129, 130, 131, 132, 133, 134, 135, 136, 137, 138, 139, 140, 141, 142, 143, 144, 145, 146, 147, 148, 149, 150, 151, 152, 153, 154, 155, 156, 157, 158, 159, 160, 161, 162, 163, 164, 165, 166, 167, 168, 169, 170, 171, 172, 173, 174, 175, 176, 177, 178, 179, 180, 181, 182, 183, 184, 185, 186, 187, 188, 189, 190, 191, 192, 193, 194, 195, 196, 197, 198, 199, 200, 201, 202, 203, 204, 205, 206, 207, 208, 209] (by decide +kernel) (by decide +kernel)
set_option maxRecDepth 20000 in
theorem gX6_leastCapacity_X6_trialEndsWithoutRejection : GoodIn wsX6_leastCapacity (wsV RX6 182 RX6 yX6_trialEndsWithoutRejection wsX6_trialEndsWithoutRejection) := goodIn_app (goodIn_of _ (by decide +kernel)) ggX6_leastCapacity_X6_trialEndsWithoutRejection
theorem dX6_leastCapacity_0 : decode cX6_leastCapacity 0 = .ok (.iconst 1, 1) := by decide +kernel
theorem dX6_leastCapacity_1 : decode cX6_leastCapacity 1 = .ok (.istore_n 1, 1) := by decide +kernel
theorem dX6_leastCapacity_2 : decode cX6_leastCapacity 2 = .ok (.iload_n 1, 1) := by decide +kernel
theorem dX6_leastCapacity_3 : decode cX6_leastCapacity 3 = .ok (.bipush 20, 2) := by decide +kernel
theorem dX6_leastCapacity_5 : decode cX6_leastCapacity 5 = .ok (.if_icmp .gt 19, 3) := by decide +kernel
theorem dX6_leastCapacity_8 : decode cX6_leastCapacity 8 = .ok (.aload_n 0, 1) := by decide +kernel
theorem dX6_leastCapacity_9 : decode cX6_leastCapacity 9 = .ok (.iload_n 1, 1) := by decide +kernel
theorem dX6_leastCapacity_10 : decode cX6_leastCapacity 10 = .ok (.invokevirtual 182, 3) := by decide +kernel
theorem dX6_leastCapacity_13 : decode cX6_leastCapacity 13 = .ok (.ifCond .eq 5, 3) := by decide +kernel
theorem dX6_leastCapacity_16 : decode cX6_leastCapacity 16 = .ok (.iload_n 1, 1) := by decide +kernel
theorem dX6_leastCapacity_17 : decode cX6_leastCapacity 17 = .ok (.ireturn, 1) := by decide +kernel
theorem dX6_leastCapacity_18 : decode cX6_leastCapacity 18 = .ok (.iinc 1 1, 3) := by decide +kernel
theorem dX6_leastCapacity_21 : decode cX6_leastCapacity 21 = .ok (.goto (-19), 3) := by decide +kernel
theorem dX6_leastCapacity_24 : decode cX6_leastCapacity 24 = .ok (.ldc 100, 2) := by decide +kernel
theorem dX6_leastCapacity_26 : decode cX6_leastCapacity 26 = .ok (.ireturn, 1) := by decide +kernel
set_option maxRecDepth 20000 in
theorem ggX6_finish_X4_copyFrom : GoodIn wsX6_finish wsX4_copyFrom := goodIn_r _ [11, 12, 13, 14, 15, 16, 17, 18, 19, 20, 21, 22, 23, 24, 25, 26, 27, 28, 29, 30, 31, 32, 33, 34, 35, 36, 37, 38, 39, 40, 41, 42, 43, 10, 44, 45, 46, 47, 48, 49, 50, 51, 52, 53, 54, 55, 56, 57, 58, 59, 60, 187, 188, 189, 190, 191, 192, 193, 194, 195, 196, 197, 198, 199, 200, 201, 202, 203, 204, 205, 176, 177, 178, 179, 180, 181, 182, 183, 184, 185, 186] (by decide +kernel) (by decide +kernel)
set_option maxRecDepth 20000 in
theorem gX6_finish_X4_copyFrom : GoodIn wsX6_finish (wsV RX6 185 RX4 yX4_copyFrom wsX4_copyFrom) := goodIn_app (goodIn_of _ (by decide +kernel)) ggX6_finish_X4_copyFrom
set_option maxRecDepth 20000 in
theorem ggX6_finish_X4_find : GoodIn wsX6_finish wsX4_find := goodIn_r _ [44, 17, 45, 187, 188, 189, 190, 191, 192, 193, 194, 195, 196, 197] (by decide +kernel) (by decide +kernel)
set_option maxRecDepth 20000 in
theorem gX6_finish_X4_find : GoodIn wsX6_finish (wsV RX6 150 RX4 yX4_find wsX4_find) := goodIn_app (goodIn_of _ (by decide +kernel)) ggX6_finish_X4_find
set_option maxRecDepth 20000 in
theorem ggX6_finish_X2_isSettled : GoodIn wsX6_finish wsX2_isSettled := goodIn_r _ [65, 54, 176, 177, 178, 179, 180, 181, 182, 183, 184, 185, 186] (by decide +kernel) (by decide +kernel)
set_option maxRecDepth 20000 in
theorem gX6_finish_X2_isSettled : GoodIn wsX6_finish (wsV RX6 188 RX2 yX2_isSettled wsX2_isSettled) := goodIn_app (goodIn_of _ (by decide +kernel)) ggX6_finish_X2_isSettled
set_option maxRecDepth 20000 in
theorem ggX6_finish_X4_tick : GoodIn wsX6_finish wsX4_tick := goodIn_r _ [69, 70, 17, 71, 72, 20, 12, 73, 74, 75, 10, 76, 14, 15, 16, 77, 78, 79, 25, 80, 27, 81, 82, 83, 31, 84, 33, 37, 85, 86, 87, 88, 89, 41, 42, 43, 44, 45, 90, 91, 92, 93, 94, 95, 96, 97, 98, 99, 100, 101, 13, 102, 103, 104, 105, 106, 107, 108, 109, 110, 111, 112, 113, 114, 115, 116, 117, 118, 119, 120, 121, 122, 123, 124, 125, 126, 127, 128, 129, 130, 131, 132, 133, 134, 36, 35, 135, 136, 137, 138, 139, 140, 141, 142, 143, 144, 18, 19, 145, 146, 147, 148, 149, 150, 151, 152, 153, 154, 155, 156, 157, 158, 159, 160, 161, 21, 162, 163, 164, 165, 166, 167, 168, 169, 170, 171, 199, 200, 201, 202, 203, 204, 205, 187, 188, 189, 190, 191, 192, 193, 194, 195, 196, 197, 176, 177, 178, 179, 180, 181, 182, 183, 184, 185, 186, 198] (by decide +kernel) (by decide +kernel)
set_option maxRecDepth 20000 in
theorem gX6_finish_X4_tick : GoodIn wsX6_finish (wsV RX6 192 RX4 yX4_tick wsX4_tick) := goodIn_app (goodIn_of _ (by decide +kernel)) ggX6_finish_X4_tick
theorem dX6_finish_0 : decode cX6_finish 0 = .ok (.aload_n 0, 1) := by decide +kernel
theorem dX6_finish_1 : decode cX6_finish 1 = .ok (.getfield 16, 3) := by decide +kernel
theorem dX6_finish_4 : decode cX6_finish 4 = .ok (.aload_n 0, 1) := by decide +kernel
theorem dX6_finish_5 : decode cX6_finish 5 = .ok (.getfield 10, 3) := by decide +kernel
theorem dX6_finish_8 : decode cX6_finish 8 = .ok (.invokevirtual 185, 3) := by decide +kernel
theorem dX6_finish_11 : decode cX6_finish 11 = .ok (.aload_n 0, 1) := by decide +kernel
theorem dX6_finish_12 : decode cX6_finish 12 = .ok (.getfield 16, 3) := by decide +kernel
theorem dX6_finish_15 : decode cX6_finish 15 = .ok (.iload_n 1, 1) := by decide +kernel
theorem dX6_finish_16 : decode cX6_finish 16 = .ok (.invokevirtual 150, 3) := by decide +kernel
theorem dX6_finish_19 : decode cX6_finish 19 = .ok (.astore_n 2, 1) := by decide +kernel
theorem dX6_finish_20 : decode cX6_finish 20 = .ok (.aload_n 2, 1) := by decide +kernel
theorem dX6_finish_21 : decode cX6_finish 21 = .ok (.ifnonnull 6, 3) := by decide +kernel
theorem dX6_finish_24 : decode cX6_finish 24 = .ok (.ldc 37, 2) := by decide +kernel
theorem dX6_finish_26 : decode cX6_finish 26 = .ok (.ireturn, 1) := by decide +kernel
theorem dX6_finish_27 : decode cX6_finish 27 = .ok (.iconst 0, 1) := by decide +kernel
theorem dX6_finish_28 : decode cX6_finish 28 = .ok (.istore_n 3, 1) := by decide +kernel
theorem dX6_finish_29 : decode cX6_finish 29 = .ok (.iload_n 3, 1) := by decide +kernel
theorem dX6_finish_30 : decode cX6_finish 30 = .ok (.sipush 400, 3) := by decide +kernel
theorem dX6_finish_33 : decode cX6_finish 33 = .ok (.if_icmp .ge 24, 3) := by decide +kernel
theorem dX6_finish_36 : decode cX6_finish 36 = .ok (.aload_n 2, 1) := by decide +kernel
theorem dX6_finish_37 : decode cX6_finish 37 = .ok (.invokevirtual 188, 3) := by decide +kernel
theorem dX6_finish_40 : decode cX6_finish 40 = .ok (.ifCond .ne 17, 3) := by decide +kernel
theorem dX6_finish_43 : decode cX6_finish 43 = .ok (.aload_n 0, 1) := by decide +kernel
theorem dX6_finish_44 : decode cX6_finish 44 = .ok (.getfield 16, 3) := by decide +kernel
theorem dX6_finish_47 : decode cX6_finish 47 = .ok (.invokevirtual 192, 3) := by decide +kernel
theorem dX6_finish_50 : decode cX6_finish 50 = .ok (.pop, 1) := by decide +kernel
theorem dX6_finish_51 : decode cX6_finish 51 = .ok (.iinc 3 1, 3) := by decide +kernel
theorem dX6_finish_54 : decode cX6_finish 54 = .ok (.goto (-25), 3) := by decide +kernel
theorem dX6_finish_57 : decode cX6_finish 57 = .ok (.aload_n 2, 1) := by decide +kernel
theorem dX6_finish_58 : decode cX6_finish 58 = .ok (.getfield 154, 3) := by decide +kernel
theorem dX6_finish_61 : decode cX6_finish 61 = .ok (.iconst 2, 1) := by decide +kernel
theorem dX6_finish_62 : decode cX6_finish 62 = .ok (.if_icmp .ne 10, 3) := by decide +kernel
theorem dX6_finish_65 : decode cX6_finish 65 = .ok (.aload_n 2, 1) := by decide +kernel
theorem dX6_finish_66 : decode cX6_finish 66 = .ok (.getfield 169, 3) := by decide +kernel
theorem dX6_finish_69 : decode cX6_finish 69 = .ok (.goto 5, 3) := by decide +kernel
theorem dX6_finish_72 : decode cX6_finish 72 = .ok (.ldc 100, 2) := by decide +kernel
theorem dX6_finish_74 : decode cX6_finish 74 = .ok (.ireturn, 1) := by decide +kernel
theorem dX6_isKind_0 : decode cX6_isKind 0 = .ok (.iload_n 0, 1) := by decide +kernel
theorem dX6_isKind_1 : decode cX6_isKind 1 = .ok (.ifCond .lt 12, 3) := by decide +kernel
theorem dX6_isKind_4 : decode cX6_isKind 4 = .ok (.iload_n 0, 1) := by decide +kernel
theorem dX6_isKind_5 : decode cX6_isKind 5 = .ok (.iconst 3, 1) := by decide +kernel
theorem dX6_isKind_6 : decode cX6_isKind 6 = .ok (.if_icmp .ge 7, 3) := by decide +kernel
theorem dX6_isKind_9 : decode cX6_isKind 9 = .ok (.iconst 1, 1) := by decide +kernel
theorem dX6_isKind_10 : decode cX6_isKind 10 = .ok (.goto 4, 3) := by decide +kernel
theorem dX6_isKind_13 : decode cX6_isKind 13 = .ok (.iconst 0, 1) := by decide +kernel
theorem dX6_isKind_14 : decode cX6_isKind 14 = .ok (.ireturn, 1) := by decide +kernel
theorem dX6_isShape_0 : decode cX6_isShape 0 = .ok (.iload_n 0, 1) := by decide +kernel
theorem dX6_isShape_1 : decode cX6_isShape 1 = .ok (.ifCond .lt 12, 3) := by decide +kernel
theorem dX6_isShape_4 : decode cX6_isShape 4 = .ok (.iload_n 0, 1) := by decide +kernel
theorem dX6_isShape_5 : decode cX6_isShape 5 = .ok (.iconst 5, 1) := by decide +kernel
theorem dX6_isShape_6 : decode cX6_isShape 6 = .ok (.if_icmp .ge 7, 3) := by decide +kernel
theorem dX6_isShape_9 : decode cX6_isShape 9 = .ok (.iconst 1, 1) := by decide +kernel
theorem dX6_isShape_10 : decode cX6_isShape 10 = .ok (.goto 4, 3) := by decide +kernel
theorem dX6_isShape_13 : decode cX6_isShape 13 = .ok (.iconst 0, 1) := by decide +kernel
theorem dX6_isShape_14 : decode cX6_isShape 14 = .ok (.ireturn, 1) := by decide +kernel
theorem dX6_isSetting_0 : decode cX6_isSetting 0 = .ok (.iload_n 0, 1) := by decide +kernel
theorem dX6_isSetting_1 : decode cX6_isSetting 1 = .ok (.ifCond .lt 12, 3) := by decide +kernel
theorem dX6_isSetting_4 : decode cX6_isSetting 4 = .ok (.iload_n 0, 1) := by decide +kernel
theorem dX6_isSetting_5 : decode cX6_isSetting 5 = .ok (.iconst 4, 1) := by decide +kernel
theorem dX6_isSetting_6 : decode cX6_isSetting 6 = .ok (.if_icmp .ge 7, 3) := by decide +kernel
theorem dX6_isSetting_9 : decode cX6_isSetting 9 = .ok (.iconst 1, 1) := by decide +kernel
theorem dX6_isSetting_10 : decode cX6_isSetting 10 = .ok (.goto 4, 3) := by decide +kernel
theorem dX6_isSetting_13 : decode cX6_isSetting 13 = .ok (.iconst 0, 1) := by decide +kernel
theorem dX6_isSetting_14 : decode cX6_isSetting 14 = .ok (.ireturn, 1) := by decide +kernel
theorem dX6_isBetween_0 : decode cX6_isBetween 0 = .ok (.iload_n 0, 1) := by decide +kernel
theorem dX6_isBetween_1 : decode cX6_isBetween 1 = .ok (.iload_n 1, 1) := by decide +kernel
theorem dX6_isBetween_2 : decode cX6_isBetween 2 = .ok (.if_icmp .gt 12, 3) := by decide +kernel
theorem dX6_isBetween_5 : decode cX6_isBetween 5 = .ok (.iload_n 1, 1) := by decide +kernel
theorem dX6_isBetween_6 : decode cX6_isBetween 6 = .ok (.iload_n 2, 1) := by decide +kernel
theorem dX6_isBetween_7 : decode cX6_isBetween 7 = .ok (.if_icmp .gt 7, 3) := by decide +kernel
theorem dX6_isBetween_10 : decode cX6_isBetween 10 = .ok (.iconst 1, 1) := by decide +kernel
theorem dX6_isBetween_11 : decode cX6_isBetween 11 = .ok (.goto 4, 3) := by decide +kernel
theorem dX6_isBetween_14 : decode cX6_isBetween 14 = .ok (.iconst 0, 1) := by decide +kernel
theorem dX6_isBetween_15 : decode cX6_isBetween 15 = .ok (.ireturn, 1) := by decide +kernel
set_option maxRecDepth 20000 in
theorem ggX6_isServerValue_X6_isBetween : GoodIn wsX6_isServerValue wsX6_isBetween := goodIn_r _ [4] (by decide +kernel) (by decide +kernel)
set_option maxRecDepth 20000 in
theorem gX6_isServerValue_X6_isBetween : GoodIn wsX6_isServerValue (va_wsS RX6 194 yX6_isBetween wsX6_isBetween) := goodIn_app (goodIn_of _ (by decide +kernel)) ggX6_isServerValue_X6_isBetween
theorem dX6_isServerValue_0 : decode cX6_isServerValue 0 = .ok (.iload_n 0, 1) := by decide +kernel
theorem dX6_isServerValue_1 : decode cX6_isServerValue 1 = .ok (.tableswitch 62 0 3 #[31, 39, 47, 55], 31) := by decide +kernel
theorem dX6_isServerValue_32 : decode cX6_isServerValue 32 = .ok (.iconst 1, 1) := by decide +kernel
theorem dX6_isServerValue_33 : decode cX6_isServerValue 33 = .ok (.iload_n 1, 1) := by decide +kernel
theorem dX6_isServerValue_34 : decode cX6_isServerValue 34 = .ok (.bipush 20, 2) := by decide +kernel
theorem dX6_isServerValue_36 : decode cX6_isServerValue 36 = .ok (.invokestatic 194, 3) := by decide +kernel
theorem dX6_isServerValue_39 : decode cX6_isServerValue 39 = .ok (.ireturn, 1) := by decide +kernel
theorem dX6_isServerValue_40 : decode cX6_isServerValue 40 = .ok (.iconst 1, 1) := by decide +kernel
theorem dX6_isServerValue_41 : decode cX6_isServerValue 41 = .ok (.iload_n 1, 1) := by decide +kernel
theorem dX6_isServerValue_42 : decode cX6_isServerValue 42 = .ok (.bipush 60, 2) := by decide +kernel
theorem dX6_isServerValue_44 : decode cX6_isServerValue 44 = .ok (.invokestatic 194, 3) := by decide +kernel
theorem dX6_isServerValue_47 : decode cX6_isServerValue 47 = .ok (.ireturn, 1) := by decide +kernel
theorem dX6_isServerValue_48 : decode cX6_isServerValue 48 = .ok (.iconst 1, 1) := by decide +kernel
theorem dX6_isServerValue_49 : decode cX6_isServerValue 49 = .ok (.iload_n 1, 1) := by decide +kernel
theorem dX6_isServerValue_50 : decode cX6_isServerValue 50 = .ok (.bipush 20, 2) := by decide +kernel
theorem dX6_isServerValue_52 : decode cX6_isServerValue 52 = .ok (.invokestatic 194, 3) := by decide +kernel
theorem dX6_isServerValue_55 : decode cX6_isServerValue 55 = .ok (.ireturn, 1) := by decide +kernel
theorem dX6_isServerValue_56 : decode cX6_isServerValue 56 = .ok (.iconst 0, 1) := by decide +kernel
theorem dX6_isServerValue_57 : decode cX6_isServerValue 57 = .ok (.iload_n 1, 1) := by decide +kernel
theorem dX6_isServerValue_58 : decode cX6_isServerValue 58 = .ok (.iconst 4, 1) := by decide +kernel
theorem dX6_isServerValue_59 : decode cX6_isServerValue 59 = .ok (.invokestatic 194, 3) := by decide +kernel
theorem dX6_isServerValue_62 : decode cX6_isServerValue 62 = .ok (.ireturn, 1) := by decide +kernel
theorem dX6_isServerValue_63 : decode cX6_isServerValue 63 = .ok (.iconst 0, 1) := by decide +kernel
theorem dX6_isServerValue_64 : decode cX6_isServerValue 64 = .ok (.ireturn, 1) := by decide +kernel
set_option maxRecDepth 20000 in
theorem ggX6_isClassValue_X6_isBetween : GoodIn wsX6_isClassValue wsX6_isBetween := goodIn_r _ [4] (by decide +kernel) (by decide +kernel)
set_option maxRecDepth 20000 in
theorem gX6_isClassValue_X6_isBetween : GoodIn wsX6_isClassValue (va_wsS RX6 194 yX6_isBetween wsX6_isBetween) := goodIn_app (goodIn_of _ (by decide +kernel)) ggX6_isClassValue_X6_isBetween
theorem dX6_isClassValue_0 : decode cX6_isClassValue 0 = .ok (.iload_n 0, 1) := by decide +kernel
theorem dX6_isClassValue_1 : decode cX6_isClassValue 1 = .ok (.tableswitch 55 0 3 #[31, 39, 47, 47], 31) := by decide +kernel
theorem dX6_isClassValue_32 : decode cX6_isClassValue 32 = .ok (.iconst 1, 1) := by decide +kernel
theorem dX6_isClassValue_33 : decode cX6_isClassValue 33 = .ok (.iload_n 1, 1) := by decide +kernel
theorem dX6_isClassValue_34 : decode cX6_isClassValue 34 = .ok (.bipush 9, 2) := by decide +kernel
theorem dX6_isClassValue_36 : decode cX6_isClassValue 36 = .ok (.invokestatic 194, 3) := by decide +kernel
theorem dX6_isClassValue_39 : decode cX6_isClassValue 39 = .ok (.ireturn, 1) := by decide +kernel
theorem dX6_isClassValue_40 : decode cX6_isClassValue 40 = .ok (.iconst 0, 1) := by decide +kernel
theorem dX6_isClassValue_41 : decode cX6_isClassValue 41 = .ok (.iload_n 1, 1) := by decide +kernel
theorem dX6_isClassValue_42 : decode cX6_isClassValue 42 = .ok (.bipush 20, 2) := by decide +kernel
theorem dX6_isClassValue_44 : decode cX6_isClassValue 44 = .ok (.invokestatic 194, 3) := by decide +kernel
theorem dX6_isClassValue_47 : decode cX6_isClassValue 47 = .ok (.ireturn, 1) := by decide +kernel
theorem dX6_isClassValue_48 : decode cX6_isClassValue 48 = .ok (.iconst 1, 1) := by decide +kernel
theorem dX6_isClassValue_49 : decode cX6_isClassValue 49 = .ok (.iload_n 1, 1) := by decide +kernel
theorem dX6_isClassValue_50 : decode cX6_isClassValue 50 = .ok (.bipush 99, 2) := by decide +kernel
theorem dX6_isClassValue_52 : decode cX6_isClassValue 52 = .ok (.invokestatic 194, 3) := by decide +kernel
theorem dX6_isClassValue_55 : decode cX6_isClassValue 55 = .ok (.ireturn, 1) := by decide +kernel
theorem dX6_isClassValue_56 : decode cX6_isClassValue 56 = .ok (.iconst 0, 1) := by decide +kernel
theorem dX6_isClassValue_57 : decode cX6_isClassValue 57 = .ok (.ireturn, 1) := by decide +kernel
theorem dX6_quotient_0 : decode cX6_quotient 0 = .ok (.iload_n 1, 1) := by decide +kernel
theorem dX6_quotient_1 : decode cX6_quotient 1 = .ok (.iconst 1, 1) := by decide +kernel
theorem dX6_quotient_2 : decode cX6_quotient 2 = .ok (.if_icmp .ge 7, 3) := by decide +kernel
end
section
theorem dX6_quotient_5 : decode cX6_quotient 5 = .ok (.iconst 0, 1) := by decide +kernel
theorem dX6_quotient_6 : decode cX6_quotient 6 = .ok (.goto 6, 3) := by decide +kernel
theorem dX6_quotient_9 : decode cX6_quotient 9 = .ok (.iload_n 0, 1) := by decide +kernel
theorem dX6_quotient_10 : decode cX6_quotient 10 = .ok (.iload_n 1, 1) := by decide +kernel
theorem dX6_quotient_11 : decode cX6_quotient 11 = .ok (.idiv, 1) := by decide +kernel
theorem dX6_quotient_12 : decode cX6_quotient 12 = .ok (.ireturn, 1) := by decide +kernel
set_option maxRecDepth 20000 in
theorem ggX6_takeStep_X3_at : GoodIn wsX6_takeStep wsX3_at := goodIn_r _ [8, 9, 188] (by decide +kernel) (by decide +kernel)
set_option maxRecDepth 20000 in
theorem gX6_takeStep_X3_at : GoodIn wsX6_takeStep (wsV RX6 51 RX3 yX3_at wsX3_at) := goodIn_app (goodIn_of _ (by decide +kernel)) ggX6_takeStep_X3_at
set_option maxRecDepth 20000 in
theorem ggX6_takeStep_X5_numberAt : GoodIn wsX6_takeStep wsX5_numberAt := goodIn_r _ [14, 15, 16, 17, 5, 6, 7, 8, 9, 18, 19, 20, 186, 187, 188] (by decide +kernel) (by decide +kernel)
set_option maxRecDepth 20000 in
theorem gX6_takeStep_X5_numberAt : GoodIn wsX6_takeStep (wsV RX6 201 RX5 yX5_numberAt wsX5_numberAt) := goodIn_app (goodIn_of _ (by decide +kernel)) ggX6_takeStep_X5_numberAt
set_option maxRecDepth 20000 in
theorem ggX6_takeStep_X4_errorOfTicks : GoodIn wsX6_takeStep wsX4_errorOfTicks := goodIn_r _ [25, 26, 27, 28, 18, 19, 20, 189, 190, 191, 192, 193, 194, 195, 196, 197, 198, 199] (by decide +kernel) (by decide +kernel)
set_option maxRecDepth 20000 in
theorem gX6_takeStep_X4_errorOfTicks : GoodIn wsX6_takeStep (wsV RX6 81 RX4 yX4_errorOfTicks wsX4_errorOfTicks) := goodIn_app (goodIn_of _ (by decide +kernel)) ggX6_takeStep_X4_errorOfTicks
set_option maxRecDepth 20000 in
theorem ggX6_takeStep_X4_letPass : GoodIn wsX6_takeStep wsX4_letPass := goodIn_r _ [32, 33, 34, 35, 24, 36, 37, 38, 39, 40, 27, 41, 42, 43, 44, 45, 46, 47, 48, 49, 5, 6, 7, 8, 9, 50, 51, 52, 53, 54, 55, 56, 57, 58, 59, 60, 61, 62, 63, 64, 65, 66, 67, 68, 69, 70, 71, 72, 73, 74, 75, 76, 77, 78, 79, 80, 81, 82, 83, 84, 85, 86, 87, 88, 89, 90, 91, 92, 93, 94, 95, 19, 96, 97, 98, 99, 100, 101, 102, 103, 104, 105, 106, 107, 108, 109, 110, 111, 112, 113, 114, 115, 116, 117, 118, 119, 120, 121, 122, 123, 124, 125, 126, 127, 128, 129, 130, 131, 132, 133, 134, 135, 136, 137, 138, 139, 140, 141, 142, 143, 144, 145, 146, 147, 148, 149, 150, 151, 152, 153, 200, 201, 202, 203, 204, 205, 206, 189, 190, 191, 192, 193, 194, 195, 196, 197, 198, 199, 207, 208, 209, 210, 211, 212, 213, 214, 215, 216, 217, 188] (by decide +kernel) (by decide +kernel)
set_option maxRecDepth 20000 in
theorem gX6_takeStep_X4_letPass : GoodIn wsX6_takeStep (wsV RX6 84 RX4 yX4_letPass wsX4_letPass) := goodIn_app (goodIn_of _ (by decide +kernel)) ggX6_takeStep_X4_letPass
set_option maxRecDepth 20000 in
theorem ggX6_takeStep_X4_errorOfOffer : GoodIn wsX6_takeStep wsX4_errorOfOffer := goodIn_r _ [157, 158, 26, 38, 28, 159, 19, 160, 161, 162, 18, 20, 189, 190, 191, 192, 193, 194, 195, 196, 197, 198, 199] (by decide +kernel) (by decide +kernel)
set_option maxRecDepth 20000 in
theorem gX6_takeStep_X4_errorOfOffer : GoodIn wsX6_takeStep (wsV RX6 74 RX4 yX4_errorOfOffer wsX4_errorOfOffer) := goodIn_app (goodIn_of _ (by decide +kernel)) ggX6_takeStep_X4_errorOfOffer
set_option maxRecDepth 20000 in
theorem ggX6_takeStep_X4_offerNew : GoodIn wsX6_takeStep wsX4_offerNew := goodIn_r _ [166, 38, 66, 28, 124, 167, 168, 169, 170, 171, 172, 173, 174, 175, 176, 177, 178, 179, 180, 181, 67, 68, 69, 24, 70, 71, 72, 73, 74, 75, 76, 77, 78, 79, 80, 81, 59, 82, 49, 5, 6, 7, 8, 9, 42, 43, 44, 45, 46, 47, 48, 83, 84, 85, 86, 37, 87, 41, 88, 89, 90, 91, 92, 93, 94, 62, 63, 64, 65, 95, 19, 96, 97, 98, 99, 100, 101, 39, 27, 102, 103, 104, 105, 106, 107, 108, 109, 110, 53, 111, 112, 113, 114, 115, 116, 117, 118, 119, 120, 121, 122, 123, 40, 125, 126, 189, 190, 191, 192, 193, 194, 195, 196, 197, 198, 199, 207, 208, 209, 210, 211, 212, 213, 214, 215, 216, 217, 188, 200, 201, 202, 203, 204, 205, 206] (by decide +kernel) (by decide +kernel)
set_option maxRecDepth 20000 in
theorem gX6_takeStep_X4_offerNew : GoodIn wsX6_takeStep (wsV RX6 78 RX4 yX4_offerNew wsX4_offerNew) := goodIn_app (goodIn_of _ (by decide +kernel)) ggX6_takeStep_X4_offerNew
theorem dX6_takeStep_0 : decode cX6_takeStep 0 = .ok (.aload_n 0, 1) := by decide +kernel
theorem dX6_takeStep_1 : decode cX6_takeStep 1 = .ok (.getfield 29, 3) := by decide +kernel
theorem dX6_takeStep_4 : decode cX6_takeStep 4 = .ok (.getfield 198, 3) := by decide +kernel
theorem dX6_takeStep_7 : decode cX6_takeStep 7 = .ok (.iload_n 1, 1) := by decide +kernel
theorem dX6_takeStep_8 : decode cX6_takeStep 8 = .ok (.invokevirtual 51, 3) := by decide +kernel
theorem dX6_takeStep_11 : decode cX6_takeStep 11 = .ok (.bipush 43, 2) := by decide +kernel
theorem dX6_takeStep_13 : decode cX6_takeStep 13 = .ok (.if_icmp .ne 38, 3) := by decide +kernel
theorem dX6_takeStep_16 : decode cX6_takeStep 16 = .ok (.aload_n 0, 1) := by decide +kernel
theorem dX6_takeStep_17 : decode cX6_takeStep 17 = .ok (.getfield 29, 3) := by decide +kernel
theorem dX6_takeStep_20 : decode cX6_takeStep 20 = .ok (.iload_n 1, 1) := by decide +kernel
theorem dX6_takeStep_21 : decode cX6_takeStep 21 = .ok (.iconst 1, 1) := by decide +kernel
theorem dX6_takeStep_22 : decode cX6_takeStep 22 = .ok (.iadd, 1) := by decide +kernel
theorem dX6_takeStep_23 : decode cX6_takeStep 23 = .ok (.invokevirtual 201, 3) := by decide +kernel
theorem dX6_takeStep_26 : decode cX6_takeStep 26 = .ok (.istore_n 2, 1) := by decide +kernel
theorem dX6_takeStep_27 : decode cX6_takeStep 27 = .ok (.aload_n 0, 1) := by decide +kernel
theorem dX6_takeStep_28 : decode cX6_takeStep 28 = .ok (.getfield 10, 3) := by decide +kernel
theorem dX6_takeStep_31 : decode cX6_takeStep 31 = .ok (.iload_n 2, 1) := by decide +kernel
theorem dX6_takeStep_32 : decode cX6_takeStep 32 = .ok (.invokevirtual 81, 3) := by decide +kernel
theorem dX6_takeStep_35 : decode cX6_takeStep 35 = .ok (.ifCond .eq 5, 3) := by decide +kernel
theorem dX6_takeStep_38 : decode cX6_takeStep 38 = .ok (.iconst 0, 1) := by decide +kernel
theorem dX6_takeStep_39 : decode cX6_takeStep 39 = .ok (.ireturn, 1) := by decide +kernel
theorem dX6_takeStep_40 : decode cX6_takeStep 40 = .ok (.aload_n 0, 1) := by decide +kernel
theorem dX6_takeStep_41 : decode cX6_takeStep 41 = .ok (.getfield 10, 3) := by decide +kernel
theorem dX6_takeStep_44 : decode cX6_takeStep 44 = .ok (.iload_n 2, 1) := by decide +kernel
theorem dX6_takeStep_45 : decode cX6_takeStep 45 = .ok (.invokevirtual 84, 3) := by decide +kernel
theorem dX6_takeStep_48 : decode cX6_takeStep 48 = .ok (.pop, 1) := by decide +kernel
theorem dX6_takeStep_49 : decode cX6_takeStep 49 = .ok (.iconst 1, 1) := by decide +kernel
theorem dX6_takeStep_50 : decode cX6_takeStep 50 = .ok (.ireturn, 1) := by decide +kernel
theorem dX6_takeStep_51 : decode cX6_takeStep 51 = .ok (.aload_n 0, 1) := by decide +kernel
theorem dX6_takeStep_52 : decode cX6_takeStep 52 = .ok (.getfield 29, 3) := by decide +kernel
theorem dX6_takeStep_55 : decode cX6_takeStep 55 = .ok (.getfield 198, 3) := by decide +kernel
theorem dX6_takeStep_58 : decode cX6_takeStep 58 = .ok (.iload_n 1, 1) := by decide +kernel
theorem dX6_takeStep_59 : decode cX6_takeStep 59 = .ok (.invokevirtual 51, 3) := by decide +kernel
theorem dX6_takeStep_62 : decode cX6_takeStep 62 = .ok (.bipush 48, 2) := by decide +kernel
theorem dX6_takeStep_64 : decode cX6_takeStep 64 = .ok (.isub, 1) := by decide +kernel
theorem dX6_takeStep_65 : decode cX6_takeStep 65 = .ok (.istore_n 2, 1) := by decide +kernel
theorem dX6_takeStep_66 : decode cX6_takeStep 66 = .ok (.aload_n 0, 1) := by decide +kernel
theorem dX6_takeStep_67 : decode cX6_takeStep 67 = .ok (.getfield 29, 3) := by decide +kernel
theorem dX6_takeStep_70 : decode cX6_takeStep 70 = .ok (.getfield 198, 3) := by decide +kernel
theorem dX6_takeStep_73 : decode cX6_takeStep 73 = .ok (.iload_n 1, 1) := by decide +kernel
theorem dX6_takeStep_74 : decode cX6_takeStep 74 = .ok (.iconst 1, 1) := by decide +kernel
theorem dX6_takeStep_75 : decode cX6_takeStep 75 = .ok (.iadd, 1) := by decide +kernel
theorem dX6_takeStep_76 : decode cX6_takeStep 76 = .ok (.invokevirtual 51, 3) := by decide +kernel
theorem dX6_takeStep_79 : decode cX6_takeStep 79 = .ok (.bipush 97, 2) := by decide +kernel
theorem dX6_takeStep_81 : decode cX6_takeStep 81 = .ok (.isub, 1) := by decide +kernel
theorem dX6_takeStep_82 : decode cX6_takeStep 82 = .ok (.istore_n 3, 1) := by decide +kernel
theorem dX6_takeStep_83 : decode cX6_takeStep 83 = .ok (.aload_n 0, 1) := by decide +kernel
theorem dX6_takeStep_84 : decode cX6_takeStep 84 = .ok (.getfield 29, 3) := by decide +kernel
theorem dX6_takeStep_87 : decode cX6_takeStep 87 = .ok (.iload_n 1, 1) := by decide +kernel
theorem dX6_takeStep_88 : decode cX6_takeStep 88 = .ok (.iconst 2, 1) := by decide +kernel
theorem dX6_takeStep_89 : decode cX6_takeStep 89 = .ok (.iadd, 1) := by decide +kernel
theorem dX6_takeStep_90 : decode cX6_takeStep 90 = .ok (.invokevirtual 201, 3) := by decide +kernel
theorem dX6_takeStep_93 : decode cX6_takeStep 93 = .ok (.istore 4, 2) := by decide +kernel
theorem dX6_takeStep_95 : decode cX6_takeStep 95 = .ok (.aload_n 0, 1) := by decide +kernel
theorem dX6_takeStep_96 : decode cX6_takeStep 96 = .ok (.getfield 10, 3) := by decide +kernel
theorem dX6_takeStep_99 : decode cX6_takeStep 99 = .ok (.iload_n 2, 1) := by decide +kernel
theorem dX6_takeStep_100 : decode cX6_takeStep 100 = .ok (.iload_n 3, 1) := by decide +kernel
theorem dX6_takeStep_101 : decode cX6_takeStep 101 = .ok (.iload 4, 2) := by decide +kernel
theorem dX6_takeStep_103 : decode cX6_takeStep 103 = .ok (.invokevirtual 74, 3) := by decide +kernel
theorem dX6_takeStep_106 : decode cX6_takeStep 106 = .ok (.ifCond .eq 5, 3) := by decide +kernel
theorem dX6_takeStep_109 : decode cX6_takeStep 109 = .ok (.iconst 0, 1) := by decide +kernel
theorem dX6_takeStep_110 : decode cX6_takeStep 110 = .ok (.ireturn, 1) := by decide +kernel
theorem dX6_takeStep_111 : decode cX6_takeStep 111 = .ok (.aload_n 0, 1) := by decide +kernel
theorem dX6_takeStep_112 : decode cX6_takeStep 112 = .ok (.getfield 10, 3) := by decide +kernel
theorem dX6_takeStep_115 : decode cX6_takeStep 115 = .ok (.iload_n 2, 1) := by decide +kernel
theorem dX6_takeStep_116 : decode cX6_takeStep 116 = .ok (.iload_n 3, 1) := by decide +kernel
theorem dX6_takeStep_117 : decode cX6_takeStep 117 = .ok (.iload 4, 2) := by decide +kernel
theorem dX6_takeStep_119 : decode cX6_takeStep 119 = .ok (.invokevirtual 78, 3) := by decide +kernel
theorem dX6_takeStep_122 : decode cX6_takeStep 122 = .ok (.pop, 1) := by decide +kernel
theorem dX6_takeStep_123 : decode cX6_takeStep 123 = .ok (.iconst 1, 1) := by decide +kernel
theorem dX6_takeStep_124 : decode cX6_takeStep 124 = .ok (.ireturn, 1) := by decide +kernel
set_option maxRecDepth 20000 in
theorem ggX6_beginTrial_X4_copyFrom : GoodIn wsX6_beginTrial wsX4_copyFrom := goodIn_r _ [8, 9, 10, 11, 12, 13, 14, 15, 16, 17, 18, 19, 20, 21, 22, 23, 24, 25, 26, 27, 28, 29, 30, 31, 32, 33, 34, 35, 36, 37, 38, 39, 40, 7, 41, 42, 43, 44, 45, 46, 47, 48, 49, 50, 51, 52, 53, 54, 55, 56, 57, 66, 67, 68, 69, 70, 71, 72, 73, 74, 75, 76, 77, 78, 79, 80, 81, 82, 83, 84, 85, 86, 87, 88, 89, 90, 91, 92, 93, 94, 95] (by decide +kernel) (by decide +kernel)
set_option maxRecDepth 20000 in
theorem gX6_beginTrial_X4_copyFrom : GoodIn wsX6_beginTrial (wsV RX6 185 RX4 yX4_copyFrom wsX4_copyFrom) := goodIn_app (goodIn_of _ (by decide +kernel)) ggX6_beginTrial_X4_copyFrom
set_option maxRecDepth 20000 in
theorem ggX6_beginTrial_X3_put : GoodIn wsX6_beginTrial wsX3_put := goodIn_r _ [61, 24, 77] (by decide +kernel) (by decide +kernel)
set_option maxRecDepth 20000 in
theorem gX6_beginTrial_X3_put : GoodIn wsX6_beginTrial (wsV RX6 57 RX3 yX3_put wsX3_put) := goodIn_app (goodIn_of _ (by decide +kernel)) ggX6_beginTrial_X3_put
theorem dX6_beginTrial_0 : decode cX6_beginTrial 0 = .ok (.aload_n 0, 1) := by decide +kernel
theorem dX6_beginTrial_1 : decode cX6_beginTrial 1 = .ok (.getfield 16, 3) := by decide +kernel
theorem dX6_beginTrial_4 : decode cX6_beginTrial 4 = .ok (.aload_n 0, 1) := by decide +kernel
theorem dX6_beginTrial_5 : decode cX6_beginTrial 5 = .ok (.getfield 10, 3) := by decide +kernel
theorem dX6_beginTrial_8 : decode cX6_beginTrial 8 = .ok (.invokevirtual 185, 3) := by decide +kernel
theorem dX6_beginTrial_11 : decode cX6_beginTrial 11 = .ok (.aload_n 0, 1) := by decide +kernel
theorem dX6_beginTrial_12 : decode cX6_beginTrial 12 = .ok (.getfield 16, 3) := by decide +kernel
theorem dX6_beginTrial_15 : decode cX6_beginTrial 15 = .ok (.getfield 47, 3) := by decide +kernel
theorem dX6_beginTrial_18 : decode cX6_beginTrial 18 = .ok (.iconst 0, 1) := by decide +kernel
theorem dX6_beginTrial_19 : decode cX6_beginTrial 19 = .ok (.iload_n 1, 1) := by decide +kernel
theorem dX6_beginTrial_20 : decode cX6_beginTrial 20 = .ok (.invokevirtual 57, 3) := by decide +kernel
theorem dX6_beginTrial_23 : decode cX6_beginTrial 23 = .ok (.return_, 1) := by decide +kernel
set_option maxRecDepth 20000 in
theorem ggX6_ticksOfTrial_X6_beginTrial : GoodIn wsX6_ticksOfTrial wsX6_beginTrial := goodIn_r _ [8, 1, 9, 10, 11, 12, 13, 14, 15, 16, 17, 18, 19, 20, 21, 22, 23, 24, 25, 26, 27, 28, 29, 30, 31, 32, 33, 34, 35, 36, 37, 38, 39, 40, 41, 42, 43, 44, 45, 46, 47, 48, 49, 50, 51, 52, 53, 54, 55, 56, 57, 58, 59, 60, 61, 62, 63, 64, 65, 66, 67, 68, 171, 172, 173, 174, 175, 176, 177, 178, 179, 180, 181, 182, 183, 184, 185, 186, 187, 188, 189, 190, 191, 192, 193, 194, 195, 196, 197, 198, 199, 200, 201, 202, 203, 204] (by decide +kernel) (by decide +kernel)
set_option maxRecDepth 20000 in
theorem gX6_ticksOfTrial_X6_beginTrial : GoodIn wsX6_ticksOfTrial (wsV RX6 204 RX6 yX6_beginTrial wsX6_beginTrial) := goodIn_app (goodIn_of _ (by decide +kernel)) ggX6_ticksOfTrial_X6_beginTrial
set_option maxRecDepth 20000 in
theorem ggX6_ticksOfTrial_X4_tick : GoodIn wsX6_ticksOfTrial wsX4_tick := goodIn_r _ [72, 73, 21, 74, 75, 24, 16, 76, 77, 78, 14, 79, 18, 19, 20, 80, 81, 82, 29, 83, 31, 84, 85, 86, 35, 87, 37, 41, 88, 89, 90, 91, 92, 45, 46, 47, 48, 49, 93, 94, 95, 96, 97, 98, 99, 100, 101, 102, 103, 104, 17, 105, 106, 107, 108, 109, 110, 111, 112, 113, 114, 115, 116, 117, 118, 119, 120, 7, 121, 122, 123, 124, 125, 126, 127, 128, 129, 130, 131, 132, 133, 134, 135, 136, 40, 39, 137, 66, 67, 68, 138, 139, 140, 141, 142, 143, 22, 23, 144, 145, 146, 147, 148, 149, 150, 151, 152, 153, 154, 155, 156, 157, 158, 159, 160, 25, 161, 162, 163, 164, 165, 166, 167, 168, 169, 170, 187, 188, 189, 190, 191, 192, 193, 175, 176, 177, 178, 179, 180, 181, 182, 183, 184, 185, 194, 195, 196, 197, 198, 199, 200, 201, 202, 203, 204, 186] (by decide +kernel) (by decide +kernel)
set_option maxRecDepth 20000 in
theorem gX6_ticksOfTrial_X4_tick : GoodIn wsX6_ticksOfTrial (wsV RX6 192 RX4 yX4_tick wsX4_tick) := goodIn_app (goodIn_of _ (by decide +kernel)) ggX6_ticksOfTrial_X4_tick
theorem dX6_ticksOfTrial_0 : decode cX6_ticksOfTrial 0 = .ok (.aload_n 0, 1) := by decide +kernel
theorem dX6_ticksOfTrial_1 : decode cX6_ticksOfTrial 1 = .ok (.iload_n 1, 1) := by decide +kernel
theorem dX6_ticksOfTrial_2 : decode cX6_ticksOfTrial 2 = .ok (.invokevirtual 204, 3) := by decide +kernel
theorem dX6_ticksOfTrial_5 : decode cX6_ticksOfTrial 5 = .ok (.iconst 0, 1) := by decide +kernel
theorem dX6_ticksOfTrial_6 : decode cX6_ticksOfTrial 6 = .ok (.istore_n 2, 1) := by decide +kernel
theorem dX6_ticksOfTrial_7 : decode cX6_ticksOfTrial 7 = .ok (.iload_n 2, 1) := by decide +kernel
theorem dX6_ticksOfTrial_8 : decode cX6_ticksOfTrial 8 = .ok (.sipush 400, 3) := by decide +kernel
theorem dX6_ticksOfTrial_11 : decode cX6_ticksOfTrial 11 = .ok (.if_icmp .ge 27, 3) := by decide +kernel
theorem dX6_ticksOfTrial_14 : decode cX6_ticksOfTrial 14 = .ok (.aload_n 0, 1) := by decide +kernel
theorem dX6_ticksOfTrial_15 : decode cX6_ticksOfTrial 15 = .ok (.getfield 16, 3) := by decide +kernel
theorem dX6_ticksOfTrial_18 : decode cX6_ticksOfTrial 18 = .ok (.getfield 207, 3) := by decide +kernel
theorem dX6_ticksOfTrial_21 : decode cX6_ticksOfTrial 21 = .ok (.ifCond .le 17, 3) := by decide +kernel
theorem dX6_ticksOfTrial_24 : decode cX6_ticksOfTrial 24 = .ok (.aload_n 0, 1) := by decide +kernel
theorem dX6_ticksOfTrial_25 : decode cX6_ticksOfTrial 25 = .ok (.getfield 16, 3) := by decide +kernel
theorem dX6_ticksOfTrial_28 : decode cX6_ticksOfTrial 28 = .ok (.invokevirtual 192, 3) := by decide +kernel
theorem dX6_ticksOfTrial_31 : decode cX6_ticksOfTrial 31 = .ok (.pop, 1) := by decide +kernel
theorem dX6_ticksOfTrial_32 : decode cX6_ticksOfTrial 32 = .ok (.iinc 2 1, 3) := by decide +kernel
theorem dX6_ticksOfTrial_35 : decode cX6_ticksOfTrial 35 = .ok (.goto (-28), 3) := by decide +kernel
theorem dX6_ticksOfTrial_38 : decode cX6_ticksOfTrial 38 = .ok (.aload_n 0, 1) := by decide +kernel
theorem dX6_ticksOfTrial_39 : decode cX6_ticksOfTrial 39 = .ok (.getfield 16, 3) := by decide +kernel
theorem dX6_ticksOfTrial_42 : decode cX6_ticksOfTrial 42 = .ok (.getfield 207, 3) := by decide +kernel
theorem dX6_ticksOfTrial_45 : decode cX6_ticksOfTrial 45 = .ok (.ifCond .ne 7, 3) := by decide +kernel
theorem dX6_ticksOfTrial_48 : decode cX6_ticksOfTrial 48 = .ok (.iload_n 2, 1) := by decide +kernel
theorem dX6_ticksOfTrial_49 : decode cX6_ticksOfTrial 49 = .ok (.goto 5, 3) := by decide +kernel
theorem dX6_ticksOfTrial_52 : decode cX6_ticksOfTrial 52 = .ok (.ldc 100, 2) := by decide +kernel
theorem dX6_ticksOfTrial_54 : decode cX6_ticksOfTrial 54 = .ok (.ireturn, 1) := by decide +kernel
set_option maxRecDepth 20000 in
theorem ggX6_trialEndsWithoutRejection_X6_beginTrial : GoodIn wsX6_trialEndsWithoutRejection wsX6_beginTrial := goodIn_r _ [9, 1, 4, 10, 11, 12, 13, 14, 15, 16, 17, 18, 19, 20, 21, 22, 23, 24, 25, 26, 27, 28, 29, 30, 31, 32, 33, 34, 35, 36, 37, 38, 39, 40, 41, 42, 43, 44, 45, 46, 47, 48, 49, 50, 51, 52, 53, 54, 55, 56, 57, 58, 59, 60, 61, 62, 63, 64, 65, 66, 67, 68, 171, 172, 173, 174, 175, 176, 177, 178, 179, 180, 181, 182, 183, 184, 185, 186, 187, 188, 189, 190, 191, 192, 193, 194, 195, 196, 197, 198, 199, 200, 201, 202, 203, 204] (by decide +kernel) (by decide +kernel)
set_option maxRecDepth 20000 in
theorem gX6_trialEndsWithoutRejection_X6_beginTrial : GoodIn wsX6_trialEndsWithoutRejection (wsV RX6 204 RX6 yX6_beginTrial wsX6_beginTrial) := goodIn_app (goodIn_of _ (by decide +kernel)) ggX6_trialEndsWithoutRejection_X6_beginTrial
set_option maxRecDepth 20000 in
theorem ggX6_trialEndsWithoutRejection_X4_tick : GoodIn wsX6_trialEndsWithoutRejection wsX4_tick := goodIn_r _ [72, 73, 21, 74, 75, 24, 16, 76, 77, 78, 14, 79, 18, 19, 20, 80, 81, 82, 29, 83, 31, 84, 85, 86, 35, 87, 37, 41, 88, 89, 90, 91, 92, 45, 46, 47, 48, 49, 93, 94, 95, 96, 97, 98, 99, 100, 101, 102, 103, 104, 17, 105, 106, 107, 108, 109, 110, 111, 112, 113, 114, 115, 116, 117, 118, 119, 120, 8, 121, 122, 123, 124, 125, 126, 127, 128, 129, 130, 131, 132, 133, 134, 135, 136, 40, 39, 137, 66, 67, 68, 138, 139, 140, 141, 142, 143, 22, 23, 144, 145, 146, 147, 148, 149, 150, 151, 152, 153, 154, 155, 156, 157, 158, 159, 160, 25, 161, 162, 163, 164, 165, 166, 167, 168, 169, 170, 187, 188, 189, 190, 191, 192, 193, 175, 176, 177, 178, 179, 180, 181, 182, 183, 184, 185, 194, 195, 196, 197, 198, 199, 200, 201, 202, 203, 204, 186] (by decide +kernel) (by decide +kernel)
set_option maxRecDepth 20000 in
theorem gX6_trialEndsWithoutRejection_X4_tick : GoodIn wsX6_trialEndsWithoutRejection (wsV RX6 192 RX4 yX4_tick wsX4_tick) := goodIn_app (goodIn_of _ (by decide +kernel)) ggX6_trialEndsWithoutRejection_X4_tick
theorem dX6_trialEndsWithoutRejection_0 : decode cX6_trialEndsWithoutRejection 0 = .ok (.aload_n 0, 1) := by decide +kernel
theorem dX6_trialEndsWithoutRejection_1 : decode cX6_trialEndsWithoutRejection 1 = .ok (.iload_n 1, 1) := by decide +kernel
theorem dX6_trialEndsWithoutRejection_2 : decode cX6_trialEndsWithoutRejection 2 = .ok (.invokevirtual 204, 3) := by decide +kernel
theorem dX6_trialEndsWithoutRejection_5 : decode cX6_trialEndsWithoutRejection 5 = .ok (.iconst 0, 1) := by decide +kernel
theorem dX6_trialEndsWithoutRejection_6 : decode cX6_trialEndsWithoutRejection 6 = .ok (.istore_n 2, 1) := by decide +kernel
theorem dX6_trialEndsWithoutRejection_7 : decode cX6_trialEndsWithoutRejection 7 = .ok (.iload_n 2, 1) := by decide +kernel
theorem dX6_trialEndsWithoutRejection_8 : decode cX6_trialEndsWithoutRejection 8 = .ok (.sipush 400, 3) := by decide +kernel
theorem dX6_trialEndsWithoutRejection_11 : decode cX6_trialEndsWithoutRejection 11 = .ok (.if_icmp .ge 44, 3) := by decide +kernel
theorem dX6_trialEndsWithoutRejection_14 : decode cX6_trialEndsWithoutRejection 14 = .ok (.aload_n 0, 1) := by decide +kernel
theorem dX6_trialEndsWithoutRejection_15 : decode cX6_trialEndsWithoutRejection 15 = .ok (.getfield 16, 3) := by decide +kernel
theorem dX6_trialEndsWithoutRejection_18 : decode cX6_trialEndsWithoutRejection 18 = .ok (.getfield 207, 3) := by decide +kernel
theorem dX6_trialEndsWithoutRejection_21 : decode cX6_trialEndsWithoutRejection 21 = .ok (.ifCond .le 34, 3) := by decide +kernel
theorem dX6_trialEndsWithoutRejection_24 : decode cX6_trialEndsWithoutRejection 24 = .ok (.aload_n 0, 1) := by decide +kernel
theorem dX6_trialEndsWithoutRejection_25 : decode cX6_trialEndsWithoutRejection 25 = .ok (.getfield 16, 3) := by decide +kernel
theorem dX6_trialEndsWithoutRejection_28 : decode cX6_trialEndsWithoutRejection 28 = .ok (.getfield 210, 3) := by decide +kernel
theorem dX6_trialEndsWithoutRejection_31 : decode cX6_trialEndsWithoutRejection 31 = .ok (.aload_n 0, 1) := by decide +kernel
theorem dX6_trialEndsWithoutRejection_32 : decode cX6_trialEndsWithoutRejection 32 = .ok (.getfield 10, 3) := by decide +kernel
theorem dX6_trialEndsWithoutRejection_35 : decode cX6_trialEndsWithoutRejection 35 = .ok (.getfield 210, 3) := by decide +kernel
theorem dX6_trialEndsWithoutRejection_38 : decode cX6_trialEndsWithoutRejection 38 = .ok (.if_icmp .ne 17, 3) := by decide +kernel
theorem dX6_trialEndsWithoutRejection_41 : decode cX6_trialEndsWithoutRejection 41 = .ok (.aload_n 0, 1) := by decide +kernel
theorem dX6_trialEndsWithoutRejection_42 : decode cX6_trialEndsWithoutRejection 42 = .ok (.getfield 16, 3) := by decide +kernel
theorem dX6_trialEndsWithoutRejection_45 : decode cX6_trialEndsWithoutRejection 45 = .ok (.invokevirtual 192, 3) := by decide +kernel
theorem dX6_trialEndsWithoutRejection_48 : decode cX6_trialEndsWithoutRejection 48 = .ok (.pop, 1) := by decide +kernel
theorem dX6_trialEndsWithoutRejection_49 : decode cX6_trialEndsWithoutRejection 49 = .ok (.iinc 2 1, 3) := by decide +kernel
theorem dX6_trialEndsWithoutRejection_52 : decode cX6_trialEndsWithoutRejection 52 = .ok (.goto (-45), 3) := by decide +kernel
theorem dX6_trialEndsWithoutRejection_55 : decode cX6_trialEndsWithoutRejection 55 = .ok (.aload_n 0, 1) := by decide +kernel
theorem dX6_trialEndsWithoutRejection_56 : decode cX6_trialEndsWithoutRejection 56 = .ok (.getfield 16, 3) := by decide +kernel
theorem dX6_trialEndsWithoutRejection_59 : decode cX6_trialEndsWithoutRejection 59 = .ok (.getfield 207, 3) := by decide +kernel
theorem dX6_trialEndsWithoutRejection_62 : decode cX6_trialEndsWithoutRejection 62 = .ok (.ifCond .ne 24, 3) := by decide +kernel
theorem dX6_trialEndsWithoutRejection_65 : decode cX6_trialEndsWithoutRejection 65 = .ok (.aload_n 0, 1) := by decide +kernel
theorem dX6_trialEndsWithoutRejection_66 : decode cX6_trialEndsWithoutRejection 66 = .ok (.getfield 16, 3) := by decide +kernel
theorem dX6_trialEndsWithoutRejection_69 : decode cX6_trialEndsWithoutRejection 69 = .ok (.getfield 210, 3) := by decide +kernel
theorem dX6_trialEndsWithoutRejection_72 : decode cX6_trialEndsWithoutRejection 72 = .ok (.aload_n 0, 1) := by decide +kernel
theorem dX6_trialEndsWithoutRejection_73 : decode cX6_trialEndsWithoutRejection 73 = .ok (.getfield 10, 3) := by decide +kernel
theorem dX6_trialEndsWithoutRejection_76 : decode cX6_trialEndsWithoutRejection 76 = .ok (.getfield 210, 3) := by decide +kernel
theorem dX6_trialEndsWithoutRejection_79 : decode cX6_trialEndsWithoutRejection 79 = .ok (.if_icmp .ne 7, 3) := by decide +kernel
theorem dX6_trialEndsWithoutRejection_82 : decode cX6_trialEndsWithoutRejection 82 = .ok (.iconst 1, 1) := by decide +kernel
theorem dX6_trialEndsWithoutRejection_83 : decode cX6_trialEndsWithoutRejection 83 = .ok (.goto 4, 3) := by decide +kernel
theorem dX6_trialEndsWithoutRejection_86 : decode cX6_trialEndsWithoutRejection 86 = .ok (.iconst 0, 1) := by decide +kernel
theorem dX6_trialEndsWithoutRejection_87 : decode cX6_trialEndsWithoutRejection 87 = .ok (.ireturn, 1) := by decide +kernel
theorem dX7_init_0 : decode cX7_init 0 = .ok (.aload_n 0, 1) := by decide +kernel
theorem dX7_init_1 : decode cX7_init 1 = .ok (.invokespecial 1, 3) := by decide +kernel
theorem dX7_init_4 : decode cX7_init 4 = .ok (.aload_n 0, 1) := by decide +kernel
theorem dX7_init_5 : decode cX7_init 5 = .ok (.sipush 395, 3) := by decide +kernel
theorem dX7_init_8 : decode cX7_init 8 = .ok (.newarray .int, 2) := by decide +kernel
theorem dX7_init_10 : decode cX7_init 10 = .ok (.putfield 7, 3) := by decide +kernel
theorem dX7_init_13 : decode cX7_init 13 = .ok (.aload_n 0, 1) := by decide +kernel
theorem dX7_init_14 : decode cX7_init 14 = .ok (.sipush 395, 3) := by decide +kernel
theorem dX7_init_17 : decode cX7_init 17 = .ok (.newarray .int, 2) := by decide +kernel
theorem dX7_init_19 : decode cX7_init 19 = .ok (.putfield 13, 3) := by decide +kernel
theorem dX7_init_22 : decode cX7_init 22 = .ok (.aload_n 0, 1) := by decide +kernel
theorem dX7_init_23 : decode cX7_init 23 = .ok (.sipush 1580, 3) := by decide +kernel
theorem dX7_init_26 : decode cX7_init 26 = .ok (.newarray .int, 2) := by decide +kernel
theorem dX7_init_28 : decode cX7_init 28 = .ok (.putfield 16, 3) := by decide +kernel
theorem dX7_init_31 : decode cX7_init 31 = .ok (.aload_n 0, 1) := by decide +kernel
theorem dX7_init_32 : decode cX7_init 32 = .ok (.bipush 80, 2) := by decide +kernel
theorem dX7_init_34 : decode cX7_init 34 = .ok (.newarray .int, 2) := by decide +kernel
theorem dX7_init_36 : decode cX7_init 36 = .ok (.putfield 19, 3) := by decide +kernel
theorem dX7_init_39 : decode cX7_init 39 = .ok (.aload_n 0, 1) := by decide +kernel
theorem dX7_init_40 : decode cX7_init 40 = .ok (.getfield 7, 3) := by decide +kernel
theorem dX7_init_43 : decode cX7_init 43 = .ok (.iconst 0, 1) := by decide +kernel
theorem dX7_init_44 : decode cX7_init 44 = .ok (.iconst 4, 1) := by decide +kernel
theorem dX7_init_45 : decode cX7_init 45 = .ok (.iastore, 1) := by decide +kernel
theorem dX7_init_46 : decode cX7_init 46 = .ok (.aload_n 0, 1) := by decide +kernel
theorem dX7_init_47 : decode cX7_init 47 = .ok (.getfield 7, 3) := by decide +kernel
theorem dX7_init_50 : decode cX7_init 50 = .ok (.iconst 1, 1) := by decide +kernel
theorem dX7_init_51 : decode cX7_init 51 = .ok (.bipush 20, 2) := by decide +kernel
theorem dX7_init_53 : decode cX7_init 53 = .ok (.iastore, 1) := by decide +kernel
theorem dX7_init_54 : decode cX7_init 54 = .ok (.aload_n 0, 1) := by decide +kernel
theorem dX7_init_55 : decode cX7_init 55 = .ok (.getfield 7, 3) := by decide +kernel
theorem dX7_init_58 : decode cX7_init 58 = .ok (.iconst 2, 1) := by decide +kernel
theorem dX7_init_59 : decode cX7_init 59 = .ok (.iconst 3, 1) := by decide +kernel
theorem dX7_init_60 : decode cX7_init 60 = .ok (.iastore, 1) := by decide +kernel
theorem dX7_init_61 : decode cX7_init 61 = .ok (.aload_n 0, 1) := by decide +kernel
theorem dX7_init_62 : decode cX7_init 62 = .ok (.getfield 7, 3) := by decide +kernel
theorem dX7_init_65 : decode cX7_init 65 = .ok (.iconst 3, 1) := by decide +kernel
theorem dX7_init_66 : decode cX7_init 66 = .ok (.iconst 1, 1) := by decide +kernel
theorem dX7_init_67 : decode cX7_init 67 = .ok (.iastore, 1) := by decide +kernel
theorem dX7_init_68 : decode cX7_init 68 = .ok (.iconst 0, 1) := by decide +kernel
theorem dX7_init_69 : decode cX7_init 69 = .ok (.istore_n 1, 1) := by decide +kernel
theorem dX7_init_70 : decode cX7_init 70 = .ok (.iload_n 1, 1) := by decide +kernel
theorem dX7_init_71 : decode cX7_init 71 = .ok (.iconst 3, 1) := by decide +kernel
theorem dX7_init_72 : decode cX7_init 72 = .ok (.if_icmp .ge 74, 3) := by decide +kernel
theorem dX7_init_75 : decode cX7_init 75 = .ok (.aload_n 0, 1) := by decide +kernel
theorem dX7_init_76 : decode cX7_init 76 = .ok (.getfield 7, 3) := by decide +kernel
theorem dX7_init_79 : decode cX7_init 79 = .ok (.iconst 4, 1) := by decide +kernel
theorem dX7_init_80 : decode cX7_init 80 = .ok (.iconst 4, 1) := by decide +kernel
theorem dX7_init_81 : decode cX7_init 81 = .ok (.iload_n 1, 1) := by decide +kernel
theorem dX7_init_82 : decode cX7_init 82 = .ok (.imul, 1) := by decide +kernel
theorem dX7_init_83 : decode cX7_init 83 = .ok (.iadd, 1) := by decide +kernel
theorem dX7_init_84 : decode cX7_init 84 = .ok (.iconst 0, 1) := by decide +kernel
theorem dX7_init_85 : decode cX7_init 85 = .ok (.iadd, 1) := by decide +kernel
theorem dX7_init_86 : decode cX7_init 86 = .ok (.iconst 1, 1) := by decide +kernel
theorem dX7_init_87 : decode cX7_init 87 = .ok (.iastore, 1) := by decide +kernel
theorem dX7_init_88 : decode cX7_init 88 = .ok (.aload_n 0, 1) := by decide +kernel
theorem dX7_init_89 : decode cX7_init 89 = .ok (.getfield 7, 3) := by decide +kernel
theorem dX7_init_92 : decode cX7_init 92 = .ok (.iconst 4, 1) := by decide +kernel
theorem dX7_init_93 : decode cX7_init 93 = .ok (.iconst 4, 1) := by decide +kernel
theorem dX7_init_94 : decode cX7_init 94 = .ok (.iload_n 1, 1) := by decide +kernel
theorem dX7_init_95 : decode cX7_init 95 = .ok (.imul, 1) := by decide +kernel
theorem dX7_init_96 : decode cX7_init 96 = .ok (.iadd, 1) := by decide +kernel
theorem dX7_init_97 : decode cX7_init 97 = .ok (.iconst 1, 1) := by decide +kernel
theorem dX7_init_98 : decode cX7_init 98 = .ok (.iadd, 1) := by decide +kernel
theorem dX7_init_99 : decode cX7_init 99 = .ok (.iconst 2, 1) := by decide +kernel
theorem dX7_init_100 : decode cX7_init 100 = .ok (.iastore, 1) := by decide +kernel
theorem dX7_init_101 : decode cX7_init 101 = .ok (.aload_n 0, 1) := by decide +kernel
theorem dX7_init_102 : decode cX7_init 102 = .ok (.getfield 7, 3) := by decide +kernel
theorem dX7_init_105 : decode cX7_init 105 = .ok (.iconst 4, 1) := by decide +kernel
theorem dX7_init_106 : decode cX7_init 106 = .ok (.iconst 4, 1) := by decide +kernel
theorem dX7_init_107 : decode cX7_init 107 = .ok (.iload_n 1, 1) := by decide +kernel
theorem dX7_init_108 : decode cX7_init 108 = .ok (.imul, 1) := by decide +kernel
theorem dX7_init_109 : decode cX7_init 109 = .ok (.iadd, 1) := by decide +kernel
theorem dX7_init_110 : decode cX7_init 110 = .ok (.iconst 2, 1) := by decide +kernel
theorem dX7_init_111 : decode cX7_init 111 = .ok (.iadd, 1) := by decide +kernel
theorem dX7_init_112 : decode cX7_init 112 = .ok (.bipush 30, 2) := by decide +kernel
theorem dX7_init_114 : decode cX7_init 114 = .ok (.iastore, 1) := by decide +kernel
theorem dX7_init_115 : decode cX7_init 115 = .ok (.aload_n 0, 1) := by decide +kernel
theorem dX7_init_116 : decode cX7_init 116 = .ok (.getfield 7, 3) := by decide +kernel
theorem dX7_init_119 : decode cX7_init 119 = .ok (.iconst 4, 1) := by decide +kernel
theorem dX7_init_120 : decode cX7_init 120 = .ok (.iconst 4, 1) := by decide +kernel
theorem dX7_init_121 : decode cX7_init 121 = .ok (.iload_n 1, 1) := by decide +kernel
theorem dX7_init_122 : decode cX7_init 122 = .ok (.imul, 1) := by decide +kernel
theorem dX7_init_123 : decode cX7_init 123 = .ok (.iadd, 1) := by decide +kernel
theorem dX7_init_124 : decode cX7_init 124 = .ok (.iconst 3, 1) := by decide +kernel
theorem dX7_init_125 : decode cX7_init 125 = .ok (.iadd, 1) := by decide +kernel
theorem dX7_init_126 : decode cX7_init 126 = .ok (.bipush 40, 2) := by decide +kernel
theorem dX7_init_128 : decode cX7_init 128 = .ok (.iastore, 1) := by decide +kernel
theorem dX7_init_129 : decode cX7_init 129 = .ok (.aload_n 0, 1) := by decide +kernel
theorem dX7_init_130 : decode cX7_init 130 = .ok (.getfield 7, 3) := by decide +kernel
theorem dX7_init_133 : decode cX7_init 133 = .ok (.bipush 16, 2) := by decide +kernel
theorem dX7_init_135 : decode cX7_init 135 = .ok (.iload_n 1, 1) := by decide +kernel
theorem dX7_init_136 : decode cX7_init 136 = .ok (.iadd, 1) := by decide +kernel
theorem dX7_init_137 : decode cX7_init 137 = .ok (.bipush 30, 2) := by decide +kernel
theorem dX7_init_139 : decode cX7_init 139 = .ok (.iastore, 1) := by decide +kernel
theorem dX7_init_140 : decode cX7_init 140 = .ok (.iinc 1 1, 3) := by decide +kernel
theorem dX7_init_143 : decode cX7_init 143 = .ok (.goto (-73), 3) := by decide +kernel
theorem dX7_init_146 : decode cX7_init 146 = .ok (.iconst 0, 1) := by decide +kernel
theorem dX7_init_147 : decode cX7_init 147 = .ok (.istore_n 1, 1) := by decide +kernel
theorem dX7_init_148 : decode cX7_init 148 = .ok (.iload_n 1, 1) := by decide +kernel
theorem dX7_init_149 : decode cX7_init 149 = .ok (.iconst 5, 1) := by decide +kernel
theorem dX7_init_150 : decode cX7_init 150 = .ok (.if_icmp .ge 21, 3) := by decide +kernel
theorem dX7_init_153 : decode cX7_init 153 = .ok (.aload_n 0, 1) := by decide +kernel
theorem dX7_init_154 : decode cX7_init 154 = .ok (.getfield 7, 3) := by decide +kernel
theorem dX7_init_157 : decode cX7_init 157 = .ok (.bipush 70, 2) := by decide +kernel
theorem dX7_init_159 : decode cX7_init 159 = .ok (.iload_n 1, 1) := by decide +kernel
theorem dX7_init_160 : decode cX7_init 160 = .ok (.iadd, 1) := by decide +kernel
theorem dX7_init_161 : decode cX7_init 161 = .ok (.sipush 128, 3) := by decide +kernel
theorem dX7_init_164 : decode cX7_init 164 = .ok (.iastore, 1) := by decide +kernel
theorem dX7_init_165 : decode cX7_init 165 = .ok (.iinc 1 1, 3) := by decide +kernel
theorem dX7_init_168 : decode cX7_init 168 = .ok (.goto (-20), 3) := by decide +kernel
theorem dX7_init_171 : decode cX7_init 171 = .ok (.return_, 1) := by decide +kernel
theorem dX7_in_0 : decode cX7_in 0 = .ok (.iload_n 0, 1) := by decide +kernel
theorem dX7_in_1 : decode cX7_in 1 = .ok (.iload_n 1, 1) := by decide +kernel
theorem dX7_in_2 : decode cX7_in 2 = .ok (.if_icmp .lt 12, 3) := by decide +kernel
theorem dX7_in_5 : decode cX7_in 5 = .ok (.iload_n 0, 1) := by decide +kernel
theorem dX7_in_6 : decode cX7_in 6 = .ok (.iload_n 2, 1) := by decide +kernel
theorem dX7_in_7 : decode cX7_in 7 = .ok (.if_icmp .gt 7, 3) := by decide +kernel
theorem dX7_in_10 : decode cX7_in 10 = .ok (.iconst 1, 1) := by decide +kernel
theorem dX7_in_11 : decode cX7_in 11 = .ok (.goto 4, 3) := by decide +kernel
theorem dX7_in_14 : decode cX7_in 14 = .ok (.iconst 0, 1) := by decide +kernel
theorem dX7_in_15 : decode cX7_in 15 = .ok (.ireturn, 1) := by decide +kernel
set_option maxRecDepth 20000 in
theorem ggX7_isClass_X7_in : GoodIn wsX7_isClass wsX7_in := goodIn_r _ [4] (by decide +kernel) (by decide +kernel)
set_option maxRecDepth 20000 in
theorem gX7_isClass_X7_in : GoodIn wsX7_isClass (va_wsS RX7 22 yX7_in wsX7_in) := goodIn_app (goodIn_of _ (by decide +kernel)) ggX7_isClass_X7_in
theorem dX7_isClass_0 : decode cX7_isClass 0 = .ok (.iload_n 0, 1) := by decide +kernel
theorem dX7_isClass_1 : decode cX7_isClass 1 = .ok (.iconst 0, 1) := by decide +kernel
theorem dX7_isClass_2 : decode cX7_isClass 2 = .ok (.iconst 2, 1) := by decide +kernel
theorem dX7_isClass_3 : decode cX7_isClass 3 = .ok (.invokestatic 22, 3) := by decide +kernel
theorem dX7_isClass_6 : decode cX7_isClass 6 = .ok (.ireturn, 1) := by decide +kernel
set_option maxRecDepth 20000 in
theorem ggX7_isShape_X7_in : GoodIn wsX7_isShape wsX7_in := goodIn_r _ [4] (by decide +kernel) (by decide +kernel)
set_option maxRecDepth 20000 in
theorem gX7_isShape_X7_in : GoodIn wsX7_isShape (va_wsS RX7 22 yX7_in wsX7_in) := goodIn_app (goodIn_of _ (by decide +kernel)) ggX7_isShape_X7_in
theorem dX7_isShape_0 : decode cX7_isShape 0 = .ok (.iload_n 0, 1) := by decide +kernel
theorem dX7_isShape_1 : decode cX7_isShape 1 = .ok (.iconst 0, 1) := by decide +kernel
theorem dX7_isShape_2 : decode cX7_isShape 2 = .ok (.iconst 4, 1) := by decide +kernel
theorem dX7_isShape_3 : decode cX7_isShape 3 = .ok (.invokestatic 22, 3) := by decide +kernel
theorem dX7_isShape_6 : decode cX7_isShape 6 = .ok (.ireturn, 1) := by decide +kernel
set_option maxRecDepth 20000 in
theorem ggX7_isRequest_X7_in : GoodIn wsX7_isRequest wsX7_in := goodIn_r _ [5] (by decide +kernel) (by decide +kernel)
set_option maxRecDepth 20000 in
theorem gX7_isRequest_X7_in : GoodIn wsX7_isRequest (va_wsS RX7 22 yX7_in wsX7_in) := goodIn_app (goodIn_of _ (by decide +kernel)) ggX7_isRequest_X7_in
theorem dX7_isRequest_0 : decode cX7_isRequest 0 = .ok (.iload_n 1, 1) := by decide +kernel
theorem dX7_isRequest_1 : decode cX7_isRequest 1 = .ok (.iconst 0, 1) := by decide +kernel
theorem dX7_isRequest_2 : decode cX7_isRequest 2 = .ok (.aload_n 0, 1) := by decide +kernel
theorem dX7_isRequest_3 : decode cX7_isRequest 3 = .ok (.getfield 7, 3) := by decide +kernel
theorem dX7_isRequest_6 : decode cX7_isRequest 6 = .ok (.bipush 69, 2) := by decide +kernel
theorem dX7_isRequest_8 : decode cX7_isRequest 8 = .ok (.iaload, 1) := by decide +kernel
theorem dX7_isRequest_9 : decode cX7_isRequest 9 = .ok (.iconst 1, 1) := by decide +kernel
theorem dX7_isRequest_10 : decode cX7_isRequest 10 = .ok (.isub, 1) := by decide +kernel
theorem dX7_isRequest_11 : decode cX7_isRequest 11 = .ok (.invokestatic 22, 3) := by decide +kernel
theorem dX7_isRequest_14 : decode cX7_isRequest 14 = .ok (.ireturn, 1) := by decide +kernel
theorem dX7_ofClass_0 : decode cX7_ofClass 0 = .ok (.aload_n 0, 1) := by decide +kernel
theorem dX7_ofClass_1 : decode cX7_ofClass 1 = .ok (.getfield 7, 3) := by decide +kernel
theorem dX7_ofClass_4 : decode cX7_ofClass 4 = .ok (.iconst 4, 1) := by decide +kernel
theorem dX7_ofClass_5 : decode cX7_ofClass 5 = .ok (.iconst 4, 1) := by decide +kernel
theorem dX7_ofClass_6 : decode cX7_ofClass 6 = .ok (.iload_n 1, 1) := by decide +kernel
theorem dX7_ofClass_7 : decode cX7_ofClass 7 = .ok (.imul, 1) := by decide +kernel
theorem dX7_ofClass_8 : decode cX7_ofClass 8 = .ok (.iadd, 1) := by decide +kernel
theorem dX7_ofClass_9 : decode cX7_ofClass 9 = .ok (.iload_n 2, 1) := by decide +kernel
theorem dX7_ofClass_10 : decode cX7_ofClass 10 = .ok (.iadd, 1) := by decide +kernel
theorem dX7_ofClass_11 : decode cX7_ofClass 11 = .ok (.iaload, 1) := by decide +kernel
theorem dX7_ofClass_12 : decode cX7_ofClass 12 = .ok (.ireturn, 1) := by decide +kernel
theorem dX7_of_0 : decode cX7_of 0 = .ok (.aload_n 0, 1) := by decide +kernel
theorem dX7_of_1 : decode cX7_of 1 = .ok (.getfield 7, 3) := by decide +kernel
theorem dX7_of_4 : decode cX7_of 4 = .ok (.bipush 75, 2) := by decide +kernel
theorem dX7_of_6 : decode cX7_of 6 = .ok (.bipush 10, 2) := by decide +kernel
theorem dX7_of_8 : decode cX7_of 8 = .ok (.iload_n 1, 1) := by decide +kernel
theorem dX7_of_9 : decode cX7_of 9 = .ok (.imul, 1) := by decide +kernel
theorem dX7_of_10 : decode cX7_of 10 = .ok (.iadd, 1) := by decide +kernel
theorem dX7_of_11 : decode cX7_of 11 = .ok (.iload_n 2, 1) := by decide +kernel
theorem dX7_of_12 : decode cX7_of 12 = .ok (.iadd, 1) := by decide +kernel
theorem dX7_of_13 : decode cX7_of 13 = .ok (.iaload, 1) := by decide +kernel
theorem dX7_of_14 : decode cX7_of 14 = .ok (.ireturn, 1) := by decide +kernel
theorem dX7_put_0 : decode cX7_put 0 = .ok (.aload_n 0, 1) := by decide +kernel
theorem dX7_put_1 : decode cX7_put 1 = .ok (.getfield 7, 3) := by decide +kernel
theorem dX7_put_4 : decode cX7_put 4 = .ok (.bipush 75, 2) := by decide +kernel
theorem dX7_put_6 : decode cX7_put 6 = .ok (.bipush 10, 2) := by decide +kernel
theorem dX7_put_8 : decode cX7_put 8 = .ok (.iload_n 1, 1) := by decide +kernel
theorem dX7_put_9 : decode cX7_put 9 = .ok (.imul, 1) := by decide +kernel
theorem dX7_put_10 : decode cX7_put 10 = .ok (.iadd, 1) := by decide +kernel
theorem dX7_put_11 : decode cX7_put 11 = .ok (.iload_n 2, 1) := by decide +kernel
theorem dX7_put_12 : decode cX7_put 12 = .ok (.iadd, 1) := by decide +kernel
theorem dX7_put_13 : decode cX7_put 13 = .ok (.iload_n 3, 1) := by decide +kernel
theorem dX7_put_14 : decode cX7_put 14 = .ok (.iastore, 1) := by decide +kernel
theorem dX7_put_15 : decode cX7_put 15 = .ok (.return_, 1) := by decide +kernel
theorem dX7_inQueue_0 : decode cX7_inQueue 0 = .ok (.aload_n 0, 1) := by decide +kernel
theorem dX7_inQueue_1 : decode cX7_inQueue 1 = .ok (.getfield 7, 3) := by decide +kernel
theorem dX7_inQueue_4 : decode cX7_inQueue 4 = .ok (.bipush 28, 2) := by decide +kernel
theorem dX7_inQueue_6 : decode cX7_inQueue 6 = .ok (.bipush 8, 2) := by decide +kernel
theorem dX7_inQueue_8 : decode cX7_inQueue 8 = .ok (.iload_n 1, 1) := by decide +kernel
theorem dX7_inQueue_9 : decode cX7_inQueue 9 = .ok (.imul, 1) := by decide +kernel
theorem dX7_inQueue_10 : decode cX7_inQueue 10 = .ok (.iadd, 1) := by decide +kernel
theorem dX7_inQueue_11 : decode cX7_inQueue 11 = .ok (.iload_n 2, 1) := by decide +kernel
theorem dX7_inQueue_12 : decode cX7_inQueue 12 = .ok (.iadd, 1) := by decide +kernel
theorem dX7_inQueue_13 : decode cX7_inQueue 13 = .ok (.iaload, 1) := by decide +kernel
theorem dX7_inQueue_14 : decode cX7_inQueue 14 = .ok (.ireturn, 1) := by decide +kernel
theorem dX7_record_0 : decode cX7_record 0 = .ok (.aload_n 0, 1) := by decide +kernel
theorem dX7_record_1 : decode cX7_record 1 = .ok (.getfield 26, 3) := by decide +kernel
theorem dX7_record_4 : decode cX7_record 4 = .ok (.iconst 4, 1) := by decide +kernel
theorem dX7_record_5 : decode cX7_record 5 = .ok (.if_icmp .ne 44, 3) := by decide +kernel
theorem dX7_record_8 : decode cX7_record 8 = .ok (.iconst 0, 1) := by decide +kernel
theorem dX7_record_9 : decode cX7_record 9 = .ok (.istore_n 1, 1) := by decide +kernel
theorem dX7_record_10 : decode cX7_record 10 = .ok (.iload_n 1, 1) := by decide +kernel
theorem dX7_record_11 : decode cX7_record 11 = .ok (.sipush 1185, 3) := by decide +kernel
theorem dX7_record_14 : decode cX7_record 14 = .ok (.if_icmp .ge 25, 3) := by decide +kernel
theorem dX7_record_17 : decode cX7_record 17 = .ok (.aload_n 0, 1) := by decide +kernel
theorem dX7_record_18 : decode cX7_record 18 = .ok (.getfield 16, 3) := by decide +kernel
theorem dX7_record_21 : decode cX7_record 21 = .ok (.iload_n 1, 1) := by decide +kernel
theorem dX7_record_22 : decode cX7_record 22 = .ok (.aload_n 0, 1) := by decide +kernel
theorem dX7_record_23 : decode cX7_record 23 = .ok (.getfield 16, 3) := by decide +kernel
theorem dX7_record_26 : decode cX7_record 26 = .ok (.sipush 395, 3) := by decide +kernel
theorem dX7_record_29 : decode cX7_record 29 = .ok (.iload_n 1, 1) := by decide +kernel
theorem dX7_record_30 : decode cX7_record 30 = .ok (.iadd, 1) := by decide +kernel
theorem dX7_record_31 : decode cX7_record 31 = .ok (.iaload, 1) := by decide +kernel
theorem dX7_record_32 : decode cX7_record 32 = .ok (.iastore, 1) := by decide +kernel
theorem dX7_record_33 : decode cX7_record 33 = .ok (.iinc 1 1, 3) := by decide +kernel
theorem dX7_record_36 : decode cX7_record 36 = .ok (.goto (-26), 3) := by decide +kernel
theorem dX7_record_39 : decode cX7_record 39 = .ok (.aload_n 0, 1) := by decide +kernel
theorem dX7_record_40 : decode cX7_record 40 = .ok (.dup, 1) := by decide +kernel
theorem dX7_record_41 : decode cX7_record 41 = .ok (.getfield 26, 3) := by decide +kernel
theorem dX7_record_44 : decode cX7_record 44 = .ok (.iconst 1, 1) := by decide +kernel
theorem dX7_record_45 : decode cX7_record 45 = .ok (.isub, 1) := by decide +kernel
theorem dX7_record_46 : decode cX7_record 46 = .ok (.putfield 26, 3) := by decide +kernel
theorem dX7_record_49 : decode cX7_record 49 = .ok (.iconst 0, 1) := by decide +kernel
theorem dX7_record_50 : decode cX7_record 50 = .ok (.istore_n 1, 1) := by decide +kernel
theorem dX7_record_51 : decode cX7_record 51 = .ok (.iload_n 1, 1) := by decide +kernel
theorem dX7_record_52 : decode cX7_record 52 = .ok (.sipush 395, 3) := by decide +kernel
theorem dX7_record_55 : decode cX7_record 55 = .ok (.if_icmp .ge 30, 3) := by decide +kernel
theorem dX7_record_58 : decode cX7_record 58 = .ok (.aload_n 0, 1) := by decide +kernel
theorem dX7_record_59 : decode cX7_record 59 = .ok (.getfield 16, 3) := by decide +kernel
theorem dX7_record_62 : decode cX7_record 62 = .ok (.sipush 395, 3) := by decide +kernel
theorem dX7_record_65 : decode cX7_record 65 = .ok (.aload_n 0, 1) := by decide +kernel
theorem dX7_record_66 : decode cX7_record 66 = .ok (.getfield 26, 3) := by decide +kernel
theorem dX7_record_69 : decode cX7_record 69 = .ok (.imul, 1) := by decide +kernel
theorem dX7_record_70 : decode cX7_record 70 = .ok (.iload_n 1, 1) := by decide +kernel
theorem dX7_record_71 : decode cX7_record 71 = .ok (.iadd, 1) := by decide +kernel
theorem dX7_record_72 : decode cX7_record 72 = .ok (.aload_n 0, 1) := by decide +kernel
theorem dX7_record_73 : decode cX7_record 73 = .ok (.getfield 7, 3) := by decide +kernel
theorem dX7_record_76 : decode cX7_record 76 = .ok (.iload_n 1, 1) := by decide +kernel
theorem dX7_record_77 : decode cX7_record 77 = .ok (.iaload, 1) := by decide +kernel
theorem dX7_record_78 : decode cX7_record 78 = .ok (.iastore, 1) := by decide +kernel
theorem dX7_record_79 : decode cX7_record 79 = .ok (.iinc 1 1, 3) := by decide +kernel
theorem dX7_record_82 : decode cX7_record 82 = .ok (.goto (-31), 3) := by decide +kernel
theorem dX7_record_85 : decode cX7_record 85 = .ok (.aload_n 0, 1) := by decide +kernel
theorem dX7_record_86 : decode cX7_record 86 = .ok (.dup, 1) := by decide +kernel
theorem dX7_record_87 : decode cX7_record 87 = .ok (.getfield 26, 3) := by decide +kernel
theorem dX7_record_90 : decode cX7_record 90 = .ok (.iconst 1, 1) := by decide +kernel
theorem dX7_record_91 : decode cX7_record 91 = .ok (.iadd, 1) := by decide +kernel
theorem dX7_record_92 : decode cX7_record 92 = .ok (.putfield 26, 3) := by decide +kernel
theorem dX7_record_95 : decode cX7_record 95 = .ok (.return_, 1) := by decide +kernel
theorem dX7_undo_0 : decode cX7_undo 0 = .ok (.aload_n 0, 1) := by decide +kernel
theorem dX7_undo_1 : decode cX7_undo 1 = .ok (.getfield 26, 3) := by decide +kernel
theorem dX7_undo_4 : decode cX7_undo 4 = .ok (.ifCond .ne 6, 3) := by decide +kernel
theorem dX7_undo_7 : decode cX7_undo 7 = .ok (.ldc 30, 2) := by decide +kernel
theorem dX7_undo_9 : decode cX7_undo 9 = .ok (.ireturn, 1) := by decide +kernel
theorem dX7_undo_10 : decode cX7_undo 10 = .ok (.aload_n 0, 1) := by decide +kernel
theorem dX7_undo_11 : decode cX7_undo 11 = .ok (.dup, 1) := by decide +kernel
theorem dX7_undo_12 : decode cX7_undo 12 = .ok (.getfield 26, 3) := by decide +kernel
theorem dX7_undo_15 : decode cX7_undo 15 = .ok (.iconst 1, 1) := by decide +kernel
theorem dX7_undo_16 : decode cX7_undo 16 = .ok (.isub, 1) := by decide +kernel
theorem dX7_undo_17 : decode cX7_undo 17 = .ok (.putfield 26, 3) := by decide +kernel
theorem dX7_undo_20 : decode cX7_undo 20 = .ok (.iconst 0, 1) := by decide +kernel
theorem dX7_undo_21 : decode cX7_undo 21 = .ok (.istore_n 1, 1) := by decide +kernel
theorem dX7_undo_22 : decode cX7_undo 22 = .ok (.iload_n 1, 1) := by decide +kernel
theorem dX7_undo_23 : decode cX7_undo 23 = .ok (.sipush 395, 3) := by decide +kernel
theorem dX7_undo_26 : decode cX7_undo 26 = .ok (.if_icmp .ge 30, 3) := by decide +kernel
theorem dX7_undo_29 : decode cX7_undo 29 = .ok (.aload_n 0, 1) := by decide +kernel
theorem dX7_undo_30 : decode cX7_undo 30 = .ok (.getfield 7, 3) := by decide +kernel
theorem dX7_undo_33 : decode cX7_undo 33 = .ok (.iload_n 1, 1) := by decide +kernel
theorem dX7_undo_34 : decode cX7_undo 34 = .ok (.aload_n 0, 1) := by decide +kernel
theorem dX7_undo_35 : decode cX7_undo 35 = .ok (.getfield 16, 3) := by decide +kernel
theorem dX7_undo_38 : decode cX7_undo 38 = .ok (.sipush 395, 3) := by decide +kernel
theorem dX7_undo_41 : decode cX7_undo 41 = .ok (.aload_n 0, 1) := by decide +kernel
theorem dX7_undo_42 : decode cX7_undo 42 = .ok (.getfield 26, 3) := by decide +kernel
theorem dX7_undo_45 : decode cX7_undo 45 = .ok (.imul, 1) := by decide +kernel
theorem dX7_undo_46 : decode cX7_undo 46 = .ok (.iload_n 1, 1) := by decide +kernel
theorem dX7_undo_47 : decode cX7_undo 47 = .ok (.iadd, 1) := by decide +kernel
theorem dX7_undo_48 : decode cX7_undo 48 = .ok (.iaload, 1) := by decide +kernel
theorem dX7_undo_49 : decode cX7_undo 49 = .ok (.iastore, 1) := by decide +kernel
theorem dX7_undo_50 : decode cX7_undo 50 = .ok (.iinc 1 1, 3) := by decide +kernel
theorem dX7_undo_53 : decode cX7_undo 53 = .ok (.goto (-31), 3) := by decide +kernel
theorem dX7_undo_56 : decode cX7_undo 56 = .ok (.aload_n 0, 1) := by decide +kernel
theorem dX7_undo_57 : decode cX7_undo 57 = .ok (.getfield 26, 3) := by decide +kernel
theorem dX7_undo_60 : decode cX7_undo 60 = .ok (.ireturn, 1) := by decide +kernel
theorem dX7_putAside_0 : decode cX7_putAside 0 = .ok (.iconst 0, 1) := by decide +kernel
theorem dX7_putAside_1 : decode cX7_putAside 1 = .ok (.istore_n 1, 1) := by decide +kernel
theorem dX7_putAside_2 : decode cX7_putAside 2 = .ok (.iload_n 1, 1) := by decide +kernel
theorem dX7_putAside_3 : decode cX7_putAside 3 = .ok (.sipush 395, 3) := by decide +kernel
theorem dX7_putAside_6 : decode cX7_putAside 6 = .ok (.if_icmp .ge 21, 3) := by decide +kernel
theorem dX7_putAside_9 : decode cX7_putAside 9 = .ok (.aload_n 0, 1) := by decide +kernel
theorem dX7_putAside_10 : decode cX7_putAside 10 = .ok (.getfield 13, 3) := by decide +kernel
theorem dX7_putAside_13 : decode cX7_putAside 13 = .ok (.iload_n 1, 1) := by decide +kernel
theorem dX7_putAside_14 : decode cX7_putAside 14 = .ok (.aload_n 0, 1) := by decide +kernel
theorem dX7_putAside_15 : decode cX7_putAside 15 = .ok (.getfield 7, 3) := by decide +kernel
theorem dX7_putAside_18 : decode cX7_putAside 18 = .ok (.iload_n 1, 1) := by decide +kernel
theorem dX7_putAside_19 : decode cX7_putAside 19 = .ok (.iaload, 1) := by decide +kernel
theorem dX7_putAside_20 : decode cX7_putAside 20 = .ok (.iastore, 1) := by decide +kernel
theorem dX7_putAside_21 : decode cX7_putAside 21 = .ok (.iinc 1 1, 3) := by decide +kernel
theorem dX7_putAside_24 : decode cX7_putAside 24 = .ok (.goto (-22), 3) := by decide +kernel
theorem dX7_putAside_27 : decode cX7_putAside 27 = .ok (.return_, 1) := by decide +kernel
theorem dX7_putBack_0 : decode cX7_putBack 0 = .ok (.iconst 0, 1) := by decide +kernel
theorem dX7_putBack_1 : decode cX7_putBack 1 = .ok (.istore_n 1, 1) := by decide +kernel
theorem dX7_putBack_2 : decode cX7_putBack 2 = .ok (.iload_n 1, 1) := by decide +kernel
theorem dX7_putBack_3 : decode cX7_putBack 3 = .ok (.sipush 395, 3) := by decide +kernel
theorem dX7_putBack_6 : decode cX7_putBack 6 = .ok (.if_icmp .ge 21, 3) := by decide +kernel
theorem dX7_putBack_9 : decode cX7_putBack 9 = .ok (.aload_n 0, 1) := by decide +kernel
theorem dX7_putBack_10 : decode cX7_putBack 10 = .ok (.getfield 7, 3) := by decide +kernel
theorem dX7_putBack_13 : decode cX7_putBack 13 = .ok (.iload_n 1, 1) := by decide +kernel
theorem dX7_putBack_14 : decode cX7_putBack 14 = .ok (.aload_n 0, 1) := by decide +kernel
theorem dX7_putBack_15 : decode cX7_putBack 15 = .ok (.getfield 13, 3) := by decide +kernel
theorem dX7_putBack_18 : decode cX7_putBack 18 = .ok (.iload_n 1, 1) := by decide +kernel
theorem dX7_putBack_19 : decode cX7_putBack 19 = .ok (.iaload, 1) := by decide +kernel
theorem dX7_putBack_20 : decode cX7_putBack 20 = .ok (.iastore, 1) := by decide +kernel
theorem dX7_putBack_21 : decode cX7_putBack 21 = .ok (.iinc 1 1, 3) := by decide +kernel
theorem dX7_putBack_24 : decode cX7_putBack 24 = .ok (.goto (-22), 3) := by decide +kernel
theorem dX7_putBack_27 : decode cX7_putBack 27 = .ok (.return_, 1) := by decide +kernel
theorem dX7_expectedCost_0 : decode cX7_expectedCost 0 = .ok (.aload_n 0, 1) := by decide +kernel
theorem dX7_expectedCost_1 : decode cX7_expectedCost 1 = .ok (.getfield 7, 3) := by decide +kernel
theorem dX7_expectedCost_4 : decode cX7_expectedCost 4 = .ok (.bipush 70, 2) := by decide +kernel
theorem dX7_expectedCost_6 : decode cX7_expectedCost 6 = .ok (.iload_n 1, 1) := by decide +kernel
theorem dX7_expectedCost_7 : decode cX7_expectedCost 7 = .ok (.iadd, 1) := by decide +kernel
theorem dX7_expectedCost_8 : decode cX7_expectedCost 8 = .ok (.iaload, 1) := by decide +kernel
theorem dX7_expectedCost_9 : decode cX7_expectedCost 9 = .ok (.bipush 16, 2) := by decide +kernel
theorem dX7_expectedCost_11 : decode cX7_expectedCost 11 = .ok (.idiv, 1) := by decide +kernel
theorem dX7_expectedCost_12 : decode cX7_expectedCost 12 = .ok (.istore_n 2, 1) := by decide +kernel
theorem dX7_expectedCost_13 : decode cX7_expectedCost 13 = .ok (.iload_n 2, 1) := by decide +kernel
theorem dX7_expectedCost_14 : decode cX7_expectedCost 14 = .ok (.iconst 1, 1) := by decide +kernel
theorem dX7_expectedCost_15 : decode cX7_expectedCost 15 = .ok (.if_icmp .ge 7, 3) := by decide +kernel
theorem dX7_expectedCost_18 : decode cX7_expectedCost 18 = .ok (.iconst 1, 1) := by decide +kernel
theorem dX7_expectedCost_19 : decode cX7_expectedCost 19 = .ok (.goto 4, 3) := by decide +kernel
theorem dX7_expectedCost_22 : decode cX7_expectedCost 22 = .ok (.iload_n 2, 1) := by decide +kernel
theorem dX7_expectedCost_23 : decode cX7_expectedCost 23 = .ok (.ireturn, 1) := by decide +kernel
set_option maxRecDepth 20000 in
theorem ggX7_backlogOf_X7_inQueue : GoodIn wsX7_backlogOf wsX7_inQueue := goodIn_r _ [6, 1, 11, 12, 13, 14, 15, 16, 17, 18, 19] (by decide +kernel) (by decide +kernel)
set_option maxRecDepth 20000 in
theorem gX7_backlogOf_X7_inQueue : GoodIn wsX7_backlogOf (wsV RX7 31 RX7 yX7_inQueue wsX7_inQueue) := goodIn_app (goodIn_of _ (by decide +kernel)) ggX7_backlogOf_X7_inQueue
set_option maxRecDepth 20000 in
theorem ggX7_backlogOf_X7_of : GoodIn wsX7_backlogOf wsX7_of := goodIn_r _ [10, 1, 11, 12, 13, 14, 15, 16, 17, 18, 19] (by decide +kernel) (by decide +kernel)
set_option maxRecDepth 20000 in
theorem gX7_backlogOf_X7_of : GoodIn wsX7_backlogOf (wsV RX7 35 RX7 yX7_of wsX7_of) := goodIn_app (goodIn_of _ (by decide +kernel)) ggX7_backlogOf_X7_of
theorem dX7_backlogOf_0 : decode cX7_backlogOf 0 = .ok (.iconst 0, 1) := by decide +kernel
theorem dX7_backlogOf_1 : decode cX7_backlogOf 1 = .ok (.istore_n 2, 1) := by decide +kernel
theorem dX7_backlogOf_2 : decode cX7_backlogOf 2 = .ok (.iconst 0, 1) := by decide +kernel
theorem dX7_backlogOf_3 : decode cX7_backlogOf 3 = .ok (.istore_n 3, 1) := by decide +kernel
theorem dX7_backlogOf_4 : decode cX7_backlogOf 4 = .ok (.iload_n 3, 1) := by decide +kernel
theorem dX7_backlogOf_5 : decode cX7_backlogOf 5 = .ok (.aload_n 0, 1) := by decide +kernel
theorem dX7_backlogOf_6 : decode cX7_backlogOf 6 = .ok (.getfield 7, 3) := by decide +kernel
theorem dX7_backlogOf_9 : decode cX7_backlogOf 9 = .ok (.bipush 25, 2) := by decide +kernel
theorem dX7_backlogOf_11 : decode cX7_backlogOf 11 = .ok (.iload_n 1, 1) := by decide +kernel
theorem dX7_backlogOf_12 : decode cX7_backlogOf 12 = .ok (.iadd, 1) := by decide +kernel
theorem dX7_backlogOf_13 : decode cX7_backlogOf 13 = .ok (.iaload, 1) := by decide +kernel
theorem dX7_backlogOf_14 : decode cX7_backlogOf 14 = .ok (.if_icmp .ge 49, 3) := by decide +kernel
theorem dX7_backlogOf_17 : decode cX7_backlogOf 17 = .ok (.aload_n 0, 1) := by decide +kernel
theorem dX7_backlogOf_18 : decode cX7_backlogOf 18 = .ok (.aload_n 0, 1) := by decide +kernel
theorem dX7_backlogOf_19 : decode cX7_backlogOf 19 = .ok (.iload_n 1, 1) := by decide +kernel
theorem dX7_backlogOf_20 : decode cX7_backlogOf 20 = .ok (.iload_n 3, 1) := by decide +kernel
theorem dX7_backlogOf_21 : decode cX7_backlogOf 21 = .ok (.invokevirtual 31, 3) := by decide +kernel
theorem dX7_backlogOf_24 : decode cX7_backlogOf 24 = .ok (.iconst 4, 1) := by decide +kernel
theorem dX7_backlogOf_25 : decode cX7_backlogOf 25 = .ok (.invokevirtual 35, 3) := by decide +kernel
theorem dX7_backlogOf_28 : decode cX7_backlogOf 28 = .ok (.aload_n 0, 1) := by decide +kernel
theorem dX7_backlogOf_29 : decode cX7_backlogOf 29 = .ok (.aload_n 0, 1) := by decide +kernel
theorem dX7_backlogOf_30 : decode cX7_backlogOf 30 = .ok (.iload_n 1, 1) := by decide +kernel
theorem dX7_backlogOf_31 : decode cX7_backlogOf 31 = .ok (.iload_n 3, 1) := by decide +kernel
theorem dX7_backlogOf_32 : decode cX7_backlogOf 32 = .ok (.invokevirtual 31, 3) := by decide +kernel
theorem dX7_backlogOf_35 : decode cX7_backlogOf 35 = .ok (.iconst 5, 1) := by decide +kernel
theorem dX7_backlogOf_36 : decode cX7_backlogOf 36 = .ok (.invokevirtual 35, 3) := by decide +kernel
theorem dX7_backlogOf_39 : decode cX7_backlogOf 39 = .ok (.isub, 1) := by decide +kernel
theorem dX7_backlogOf_40 : decode cX7_backlogOf 40 = .ok (.istore 4, 2) := by decide +kernel
theorem dX7_backlogOf_42 : decode cX7_backlogOf 42 = .ok (.iload_n 2, 1) := by decide +kernel
theorem dX7_backlogOf_43 : decode cX7_backlogOf 43 = .ok (.iload 4, 2) := by decide +kernel
theorem dX7_backlogOf_45 : decode cX7_backlogOf 45 = .ok (.iconst 1, 1) := by decide +kernel
theorem dX7_backlogOf_46 : decode cX7_backlogOf 46 = .ok (.if_icmp .ge 7, 3) := by decide +kernel
theorem dX7_backlogOf_49 : decode cX7_backlogOf 49 = .ok (.iconst 1, 1) := by decide +kernel
theorem dX7_backlogOf_50 : decode cX7_backlogOf 50 = .ok (.goto 5, 3) := by decide +kernel
theorem dX7_backlogOf_53 : decode cX7_backlogOf 53 = .ok (.iload 4, 2) := by decide +kernel
theorem dX7_backlogOf_55 : decode cX7_backlogOf 55 = .ok (.iadd, 1) := by decide +kernel
theorem dX7_backlogOf_56 : decode cX7_backlogOf 56 = .ok (.istore_n 2, 1) := by decide +kernel
theorem dX7_backlogOf_57 : decode cX7_backlogOf 57 = .ok (.iinc 3 1, 3) := by decide +kernel
theorem dX7_backlogOf_60 : decode cX7_backlogOf 60 = .ok (.goto (-56), 3) := by decide +kernel
theorem dX7_backlogOf_63 : decode cX7_backlogOf 63 = .ok (.iload_n 2, 1) := by decide +kernel
theorem dX7_backlogOf_64 : decode cX7_backlogOf 64 = .ok (.ireturn, 1) := by decide +kernel
set_option maxRecDepth 20000 in
theorem ggX7_whyRefused_X7_ofClass : GoodIn wsX7_whyRefused wsX7_ofClass := goodIn_r _ [6, 1, 19, 20, 21, 22, 23, 24, 25, 26, 27] (by decide +kernel) (by decide +kernel)
set_option maxRecDepth 20000 in
theorem gX7_whyRefused_X7_ofClass : GoodIn wsX7_whyRefused (wsV RX7 38 RX7 yX7_ofClass wsX7_ofClass) := goodIn_app (goodIn_of _ (by decide +kernel)) ggX7_whyRefused_X7_ofClass
set_option maxRecDepth 20000 in
theorem ggX7_whyRefused_X7_backlogOf : GoodIn wsX7_whyRefused wsX7_backlogOf := goodIn_r _ [10, 1, 11, 12, 13, 5, 14, 15, 16, 17, 18, 19, 20, 21, 22, 23, 24, 25, 26, 27] (by decide +kernel) (by decide +kernel)
set_option maxRecDepth 20000 in
theorem gX7_whyRefused_X7_backlogOf : GoodIn wsX7_whyRefused (wsV RX7 41 RX7 yX7_backlogOf wsX7_backlogOf) := goodIn_app (goodIn_of _ (by decide +kernel)) ggX7_whyRefused_X7_backlogOf
theorem dX7_whyRefused_0 : decode cX7_whyRefused 0 = .ok (.iload_n 2, 1) := by decide +kernel
theorem dX7_whyRefused_1 : decode cX7_whyRefused 1 = .ok (.aload_n 0, 1) := by decide +kernel
theorem dX7_whyRefused_2 : decode cX7_whyRefused 2 = .ok (.iload_n 1, 1) := by decide +kernel
theorem dX7_whyRefused_3 : decode cX7_whyRefused 3 = .ok (.iconst 3, 1) := by decide +kernel
theorem dX7_whyRefused_4 : decode cX7_whyRefused 4 = .ok (.invokevirtual 38, 3) := by decide +kernel
theorem dX7_whyRefused_7 : decode cX7_whyRefused 7 = .ok (.if_icmp .le 5, 3) := by decide +kernel
theorem dX7_whyRefused_10 : decode cX7_whyRefused 10 = .ok (.iconst 1, 1) := by decide +kernel
theorem dX7_whyRefused_11 : decode cX7_whyRefused 11 = .ok (.ireturn, 1) := by decide +kernel
theorem dX7_whyRefused_12 : decode cX7_whyRefused 12 = .ok (.aload_n 0, 1) := by decide +kernel
theorem dX7_whyRefused_13 : decode cX7_whyRefused 13 = .ok (.getfield 7, 3) := by decide +kernel
theorem dX7_whyRefused_16 : decode cX7_whyRefused 16 = .ok (.bipush 25, 2) := by decide +kernel
theorem dX7_whyRefused_18 : decode cX7_whyRefused 18 = .ok (.iload_n 1, 1) := by decide +kernel
theorem dX7_whyRefused_19 : decode cX7_whyRefused 19 = .ok (.iadd, 1) := by decide +kernel
theorem dX7_whyRefused_20 : decode cX7_whyRefused 20 = .ok (.iaload, 1) := by decide +kernel
theorem dX7_whyRefused_21 : decode cX7_whyRefused 21 = .ok (.bipush 8, 2) := by decide +kernel
theorem dX7_whyRefused_23 : decode cX7_whyRefused 23 = .ok (.if_icmp .ne 5, 3) := by decide +kernel
theorem dX7_whyRefused_26 : decode cX7_whyRefused 26 = .ok (.iconst 2, 1) := by decide +kernel
theorem dX7_whyRefused_27 : decode cX7_whyRefused 27 = .ok (.ireturn, 1) := by decide +kernel
theorem dX7_whyRefused_28 : decode cX7_whyRefused 28 = .ok (.aload_n 0, 1) := by decide +kernel
theorem dX7_whyRefused_29 : decode cX7_whyRefused 29 = .ok (.iconst 0, 1) := by decide +kernel
theorem dX7_whyRefused_30 : decode cX7_whyRefused 30 = .ok (.iconst 0, 1) := by decide +kernel
theorem dX7_whyRefused_31 : decode cX7_whyRefused 31 = .ok (.invokevirtual 38, 3) := by decide +kernel
theorem dX7_whyRefused_34 : decode cX7_whyRefused 34 = .ok (.aload_n 0, 1) := by decide +kernel
theorem dX7_whyRefused_35 : decode cX7_whyRefused 35 = .ok (.iconst 1, 1) := by decide +kernel
theorem dX7_whyRefused_36 : decode cX7_whyRefused 36 = .ok (.iconst 0, 1) := by decide +kernel
theorem dX7_whyRefused_37 : decode cX7_whyRefused 37 = .ok (.invokevirtual 38, 3) := by decide +kernel
theorem dX7_whyRefused_40 : decode cX7_whyRefused 40 = .ok (.iadd, 1) := by decide +kernel
theorem dX7_whyRefused_41 : decode cX7_whyRefused 41 = .ok (.aload_n 0, 1) := by decide +kernel
theorem dX7_whyRefused_42 : decode cX7_whyRefused 42 = .ok (.iconst 2, 1) := by decide +kernel
theorem dX7_whyRefused_43 : decode cX7_whyRefused 43 = .ok (.iconst 0, 1) := by decide +kernel
theorem dX7_whyRefused_44 : decode cX7_whyRefused 44 = .ok (.invokevirtual 38, 3) := by decide +kernel
theorem dX7_whyRefused_47 : decode cX7_whyRefused 47 = .ok (.iadd, 1) := by decide +kernel
theorem dX7_whyRefused_48 : decode cX7_whyRefused 48 = .ok (.istore_n 3, 1) := by decide +kernel
theorem dX7_whyRefused_49 : decode cX7_whyRefused 49 = .ok (.aload_n 0, 1) := by decide +kernel
theorem dX7_whyRefused_50 : decode cX7_whyRefused 50 = .ok (.iload_n 1, 1) := by decide +kernel
theorem dX7_whyRefused_51 : decode cX7_whyRefused 51 = .ok (.invokevirtual 41, 3) := by decide +kernel
theorem dX7_whyRefused_54 : decode cX7_whyRefused 54 = .ok (.iload_n 2, 1) := by decide +kernel
theorem dX7_whyRefused_55 : decode cX7_whyRefused 55 = .ok (.iadd, 1) := by decide +kernel
theorem dX7_whyRefused_56 : decode cX7_whyRefused 56 = .ok (.iload_n 3, 1) := by decide +kernel
theorem dX7_whyRefused_57 : decode cX7_whyRefused 57 = .ok (.imul, 1) := by decide +kernel
theorem dX7_whyRefused_58 : decode cX7_whyRefused 58 = .ok (.aload_n 0, 1) := by decide +kernel
theorem dX7_whyRefused_59 : decode cX7_whyRefused 59 = .ok (.iload_n 1, 1) := by decide +kernel
theorem dX7_whyRefused_60 : decode cX7_whyRefused 60 = .ok (.iconst 0, 1) := by decide +kernel
theorem dX7_whyRefused_61 : decode cX7_whyRefused 61 = .ok (.invokevirtual 38, 3) := by decide +kernel
theorem dX7_whyRefused_64 : decode cX7_whyRefused 64 = .ok (.aload_n 0, 1) := by decide +kernel
theorem dX7_whyRefused_65 : decode cX7_whyRefused 65 = .ok (.getfield 7, 3) := by decide +kernel
theorem dX7_whyRefused_68 : decode cX7_whyRefused 68 = .ok (.iconst 0, 1) := by decide +kernel
theorem dX7_whyRefused_69 : decode cX7_whyRefused 69 = .ok (.iaload, 1) := by decide +kernel
theorem dX7_whyRefused_70 : decode cX7_whyRefused 70 = .ok (.imul, 1) := by decide +kernel
theorem dX7_whyRefused_71 : decode cX7_whyRefused 71 = .ok (.idiv, 1) := by decide +kernel
theorem dX7_whyRefused_72 : decode cX7_whyRefused 72 = .ok (.istore 4, 2) := by decide +kernel
theorem dX7_whyRefused_74 : decode cX7_whyRefused 74 = .ok (.iload 4, 2) := by decide +kernel
theorem dX7_whyRefused_76 : decode cX7_whyRefused 76 = .ok (.aload_n 0, 1) := by decide +kernel
theorem dX7_whyRefused_77 : decode cX7_whyRefused 77 = .ok (.getfield 7, 3) := by decide +kernel
theorem dX7_whyRefused_80 : decode cX7_whyRefused 80 = .ok (.iconst 1, 1) := by decide +kernel
theorem dX7_whyRefused_81 : decode cX7_whyRefused 81 = .ok (.iaload, 1) := by decide +kernel
theorem dX7_whyRefused_82 : decode cX7_whyRefused 82 = .ok (.if_icmp .le 5, 3) := by decide +kernel
theorem dX7_whyRefused_85 : decode cX7_whyRefused 85 = .ok (.iconst 3, 1) := by decide +kernel
theorem dX7_whyRefused_86 : decode cX7_whyRefused 86 = .ok (.ireturn, 1) := by decide +kernel
theorem dX7_whyRefused_87 : decode cX7_whyRefused 87 = .ok (.aload_n 0, 1) := by decide +kernel
theorem dX7_whyRefused_88 : decode cX7_whyRefused 88 = .ok (.getfield 7, 3) := by decide +kernel
theorem dX7_whyRefused_91 : decode cX7_whyRefused 91 = .ok (.bipush 16, 2) := by decide +kernel
theorem dX7_whyRefused_93 : decode cX7_whyRefused 93 = .ok (.iload_n 1, 1) := by decide +kernel
theorem dX7_whyRefused_94 : decode cX7_whyRefused 94 = .ok (.iadd, 1) := by decide +kernel
theorem dX7_whyRefused_95 : decode cX7_whyRefused 95 = .ok (.iaload, 1) := by decide +kernel
theorem dX7_whyRefused_96 : decode cX7_whyRefused 96 = .ok (.iload_n 2, 1) := by decide +kernel
theorem dX7_whyRefused_97 : decode cX7_whyRefused 97 = .ok (.if_icmp .ge 7, 3) := by decide +kernel
theorem dX7_whyRefused_100 : decode cX7_whyRefused 100 = .ok (.iconst 4, 1) := by decide +kernel
theorem dX7_whyRefused_101 : decode cX7_whyRefused 101 = .ok (.goto 4, 3) := by decide +kernel
theorem dX7_whyRefused_104 : decode cX7_whyRefused 104 = .ok (.iconst 0, 1) := by decide +kernel
theorem dX7_whyRefused_105 : decode cX7_whyRefused 105 = .ok (.ireturn, 1) := by decide +kernel
set_option maxRecDepth 20000 in
theorem ggX7_addTokens_X7_ofClass : GoodIn wsX7_addTokens wsX7_ofClass := goodIn_r _ [6, 1, 7, 8, 9, 10, 11, 12, 13, 14, 15] (by decide +kernel) (by decide +kernel)
set_option maxRecDepth 20000 in
theorem gX7_addTokens_X7_ofClass : GoodIn wsX7_addTokens (wsV RX7 38 RX7 yX7_ofClass wsX7_ofClass) := goodIn_app (goodIn_of _ (by decide +kernel)) ggX7_addTokens_X7_ofClass
theorem dX7_addTokens_0 : decode cX7_addTokens 0 = .ok (.aload_n 0, 1) := by decide +kernel
theorem dX7_addTokens_1 : decode cX7_addTokens 1 = .ok (.getfield 7, 3) := by decide +kernel
theorem dX7_addTokens_4 : decode cX7_addTokens 4 = .ok (.bipush 16, 2) := by decide +kernel
theorem dX7_addTokens_6 : decode cX7_addTokens 6 = .ok (.iload_n 1, 1) := by decide +kernel
theorem dX7_addTokens_7 : decode cX7_addTokens 7 = .ok (.iadd, 1) := by decide +kernel
theorem dX7_addTokens_8 : decode cX7_addTokens 8 = .ok (.iaload, 1) := by decide +kernel
theorem dX7_addTokens_9 : decode cX7_addTokens 9 = .ok (.istore_n 3, 1) := by decide +kernel
theorem dX7_addTokens_10 : decode cX7_addTokens 10 = .ok (.aload_n 0, 1) := by decide +kernel
theorem dX7_addTokens_11 : decode cX7_addTokens 11 = .ok (.iload_n 1, 1) := by decide +kernel
theorem dX7_addTokens_12 : decode cX7_addTokens 12 = .ok (.iconst 2, 1) := by decide +kernel
theorem dX7_addTokens_13 : decode cX7_addTokens 13 = .ok (.invokevirtual 38, 3) := by decide +kernel
theorem dX7_addTokens_16 : decode cX7_addTokens 16 = .ok (.istore 4, 2) := by decide +kernel
theorem dX7_addTokens_18 : decode cX7_addTokens 18 = .ok (.iload_n 3, 1) := by decide +kernel
theorem dX7_addTokens_19 : decode cX7_addTokens 19 = .ok (.iload_n 2, 1) := by decide +kernel
theorem dX7_addTokens_20 : decode cX7_addTokens 20 = .ok (.iadd, 1) := by decide +kernel
theorem dX7_addTokens_21 : decode cX7_addTokens 21 = .ok (.iload 4, 2) := by decide +kernel
theorem dX7_addTokens_23 : decode cX7_addTokens 23 = .ok (.if_icmp .ge 9, 3) := by decide +kernel
theorem dX7_addTokens_26 : decode cX7_addTokens 26 = .ok (.iload_n 3, 1) := by decide +kernel
theorem dX7_addTokens_27 : decode cX7_addTokens 27 = .ok (.iload_n 2, 1) := by decide +kernel
theorem dX7_addTokens_28 : decode cX7_addTokens 28 = .ok (.iadd, 1) := by decide +kernel
theorem dX7_addTokens_29 : decode cX7_addTokens 29 = .ok (.goto 5, 3) := by decide +kernel
theorem dX7_addTokens_32 : decode cX7_addTokens 32 = .ok (.iload 4, 2) := by decide +kernel
theorem dX7_addTokens_34 : decode cX7_addTokens 34 = .ok (.istore 5, 2) := by decide +kernel
theorem dX7_addTokens_36 : decode cX7_addTokens 36 = .ok (.aload_n 0, 1) := by decide +kernel
theorem dX7_addTokens_37 : decode cX7_addTokens 37 = .ok (.getfield 7, 3) := by decide +kernel
theorem dX7_addTokens_40 : decode cX7_addTokens 40 = .ok (.bipush 16, 2) := by decide +kernel
theorem dX7_addTokens_42 : decode cX7_addTokens 42 = .ok (.iload_n 1, 1) := by decide +kernel
theorem dX7_addTokens_43 : decode cX7_addTokens 43 = .ok (.iadd, 1) := by decide +kernel
theorem dX7_addTokens_44 : decode cX7_addTokens 44 = .ok (.iload_n 3, 1) := by decide +kernel
theorem dX7_addTokens_45 : decode cX7_addTokens 45 = .ok (.iload 4, 2) := by decide +kernel
theorem dX7_addTokens_47 : decode cX7_addTokens 47 = .ok (.if_icmp .le 7, 3) := by decide +kernel
theorem dX7_addTokens_50 : decode cX7_addTokens 50 = .ok (.iload_n 3, 1) := by decide +kernel
theorem dX7_addTokens_51 : decode cX7_addTokens 51 = .ok (.goto 5, 3) := by decide +kernel
theorem dX7_addTokens_54 : decode cX7_addTokens 54 = .ok (.iload 5, 2) := by decide +kernel
theorem dX7_addTokens_56 : decode cX7_addTokens 56 = .ok (.iastore, 1) := by decide +kernel
theorem dX7_addTokens_57 : decode cX7_addTokens 57 = .ok (.return_, 1) := by decide +kernel
set_option maxRecDepth 20000 in
theorem ggX7_refuse_X7_of : GoodIn wsX7_refuse wsX7_of := goodIn_r _ [7, 1, 12, 13, 14, 15, 16, 17, 18, 19, 20] (by decide +kernel) (by decide +kernel)
set_option maxRecDepth 20000 in
theorem gX7_refuse_X7_of : GoodIn wsX7_refuse (wsV RX7 35 RX7 yX7_of wsX7_of) := goodIn_app (goodIn_of _ (by decide +kernel)) ggX7_refuse_X7_of
set_option maxRecDepth 20000 in
theorem ggX7_refuse_X7_put : GoodIn wsX7_refuse wsX7_put := goodIn_r _ [11, 1, 12, 13, 14, 15, 16, 17, 18, 19, 20] (by decide +kernel) (by decide +kernel)
set_option maxRecDepth 20000 in
theorem gX7_refuse_X7_put : GoodIn wsX7_refuse (wsV RX7 45 RX7 yX7_put wsX7_put) := goodIn_app (goodIn_of _ (by decide +kernel)) ggX7_refuse_X7_put
theorem dX7_refuse_0 : decode cX7_refuse 0 = .ok (.aload_n 0, 1) := by decide +kernel
theorem dX7_refuse_1 : decode cX7_refuse 1 = .ok (.iload_n 1, 1) := by decide +kernel
theorem dX7_refuse_2 : decode cX7_refuse 2 = .ok (.bipush 6, 2) := by decide +kernel
theorem dX7_refuse_4 : decode cX7_refuse 4 = .ok (.invokevirtual 35, 3) := by decide +kernel
theorem dX7_refuse_7 : decode cX7_refuse 7 = .ok (.istore_n 3, 1) := by decide +kernel
theorem dX7_refuse_8 : decode cX7_refuse 8 = .ok (.aload_n 0, 1) := by decide +kernel
theorem dX7_refuse_9 : decode cX7_refuse 9 = .ok (.getfield 7, 3) := by decide +kernel
theorem dX7_refuse_12 : decode cX7_refuse 12 = .ok (.bipush 52, 2) := by decide +kernel
theorem dX7_refuse_14 : decode cX7_refuse 14 = .ok (.iconst 5, 1) := by decide +kernel
theorem dX7_refuse_15 : decode cX7_refuse 15 = .ok (.aload_n 0, 1) := by decide +kernel
theorem dX7_refuse_16 : decode cX7_refuse 16 = .ok (.iload_n 1, 1) := by decide +kernel
theorem dX7_refuse_17 : decode cX7_refuse 17 = .ok (.iconst 0, 1) := by decide +kernel
theorem dX7_refuse_18 : decode cX7_refuse 18 = .ok (.invokevirtual 35, 3) := by decide +kernel
theorem dX7_refuse_21 : decode cX7_refuse 21 = .ok (.imul, 1) := by decide +kernel
theorem dX7_refuse_22 : decode cX7_refuse 22 = .ok (.iadd, 1) := by decide +kernel
theorem dX7_refuse_23 : decode cX7_refuse 23 = .ok (.iload_n 2, 1) := by decide +kernel
theorem dX7_refuse_24 : decode cX7_refuse 24 = .ok (.iadd, 1) := by decide +kernel
theorem dX7_refuse_25 : decode cX7_refuse 25 = .ok (.iconst 1, 1) := by decide +kernel
theorem dX7_refuse_26 : decode cX7_refuse 26 = .ok (.isub, 1) := by decide +kernel
theorem dX7_refuse_27 : decode cX7_refuse 27 = .ok (.dup2, 1) := by decide +kernel
theorem dX7_refuse_28 : decode cX7_refuse 28 = .ok (.iaload, 1) := by decide +kernel
theorem dX7_refuse_29 : decode cX7_refuse 29 = .ok (.iconst 1, 1) := by decide +kernel
theorem dX7_refuse_30 : decode cX7_refuse 30 = .ok (.iadd, 1) := by decide +kernel
theorem dX7_refuse_31 : decode cX7_refuse 31 = .ok (.iastore, 1) := by decide +kernel
theorem dX7_refuse_32 : decode cX7_refuse 32 = .ok (.aload_n 0, 1) := by decide +kernel
theorem dX7_refuse_33 : decode cX7_refuse 33 = .ok (.iload_n 1, 1) := by decide +kernel
theorem dX7_refuse_34 : decode cX7_refuse 34 = .ok (.bipush 7, 2) := by decide +kernel
theorem dX7_refuse_36 : decode cX7_refuse 36 = .ok (.iload_n 2, 1) := by decide +kernel
theorem dX7_refuse_37 : decode cX7_refuse 37 = .ok (.invokevirtual 45, 3) := by decide +kernel
theorem dX7_refuse_40 : decode cX7_refuse 40 = .ok (.iload_n 3, 1) := by decide +kernel
theorem dX7_refuse_41 : decode cX7_refuse 41 = .ok (.aload_n 0, 1) := by decide +kernel
theorem dX7_refuse_42 : decode cX7_refuse 42 = .ok (.getfield 7, 3) := by decide +kernel
theorem dX7_refuse_45 : decode cX7_refuse 45 = .ok (.iconst 3, 1) := by decide +kernel
theorem dX7_refuse_46 : decode cX7_refuse 46 = .ok (.iaload, 1) := by decide +kernel
theorem dX7_refuse_47 : decode cX7_refuse 47 = .ok (.if_icmp .gt 7, 3) := by decide +kernel
theorem dX7_refuse_50 : decode cX7_refuse 50 = .ok (.iconst 1, 1) := by decide +kernel
theorem dX7_refuse_51 : decode cX7_refuse 51 = .ok (.goto 4, 3) := by decide +kernel
theorem dX7_refuse_54 : decode cX7_refuse 54 = .ok (.iconst 0, 1) := by decide +kernel
theorem dX7_refuse_55 : decode cX7_refuse 55 = .ok (.istore 4, 2) := by decide +kernel
theorem dX7_refuse_57 : decode cX7_refuse 57 = .ok (.aload_n 0, 1) := by decide +kernel
theorem dX7_refuse_58 : decode cX7_refuse 58 = .ok (.iload_n 1, 1) := by decide +kernel
theorem dX7_refuse_59 : decode cX7_refuse 59 = .ok (.iconst 3, 1) := by decide +kernel
theorem dX7_refuse_60 : decode cX7_refuse 60 = .ok (.iload 4, 2) := by decide +kernel
theorem dX7_refuse_62 : decode cX7_refuse 62 = .ok (.ifCond .eq 7, 3) := by decide +kernel
theorem dX7_refuse_65 : decode cX7_refuse 65 = .ok (.iconst 3, 1) := by decide +kernel
theorem dX7_refuse_66 : decode cX7_refuse 66 = .ok (.goto 4, 3) := by decide +kernel
theorem dX7_refuse_69 : decode cX7_refuse 69 = .ok (.iconst 4, 1) := by decide +kernel
theorem dX7_refuse_70 : decode cX7_refuse 70 = .ok (.invokevirtual 45, 3) := by decide +kernel
theorem dX7_refuse_73 : decode cX7_refuse 73 = .ok (.aload_n 0, 1) := by decide +kernel
theorem dX7_refuse_74 : decode cX7_refuse 74 = .ok (.iload_n 1, 1) := by decide +kernel
theorem dX7_refuse_75 : decode cX7_refuse 75 = .ok (.bipush 8, 2) := by decide +kernel
theorem dX7_refuse_77 : decode cX7_refuse 77 = .ok (.iload 4, 2) := by decide +kernel
theorem dX7_refuse_79 : decode cX7_refuse 79 = .ok (.ifCond .eq 24, 3) := by decide +kernel
theorem dX7_refuse_82 : decode cX7_refuse 82 = .ok (.aload_n 0, 1) := by decide +kernel
theorem dX7_refuse_83 : decode cX7_refuse 83 = .ok (.getfield 7, 3) := by decide +kernel
theorem dX7_refuse_86 : decode cX7_refuse 86 = .ok (.bipush 67, 2) := by decide +kernel
theorem dX7_refuse_88 : decode cX7_refuse 88 = .ok (.iaload, 1) := by decide +kernel
theorem dX7_refuse_89 : decode cX7_refuse 89 = .ok (.aload_n 0, 1) := by decide +kernel
theorem dX7_refuse_90 : decode cX7_refuse 90 = .ok (.getfield 7, 3) := by decide +kernel
theorem dX7_refuse_93 : decode cX7_refuse 93 = .ok (.iconst 2, 1) := by decide +kernel
theorem dX7_refuse_94 : decode cX7_refuse 94 = .ok (.iaload, 1) := by decide +kernel
theorem dX7_refuse_95 : decode cX7_refuse 95 = .ok (.iload_n 3, 1) := by decide +kernel
theorem dX7_refuse_96 : decode cX7_refuse 96 = .ok (.iconst 1, 1) := by decide +kernel
theorem dX7_refuse_97 : decode cX7_refuse 97 = .ok (.isub, 1) := by decide +kernel
theorem dX7_refuse_98 : decode cX7_refuse 98 = .ok (.ishl, 1) := by decide +kernel
theorem dX7_refuse_99 : decode cX7_refuse 99 = .ok (.iadd, 1) := by decide +kernel
theorem dX7_refuse_100 : decode cX7_refuse 100 = .ok (.goto 5, 3) := by decide +kernel
theorem dX7_refuse_103 : decode cX7_refuse 103 = .ok (.ldc 30, 2) := by decide +kernel
theorem dX7_refuse_105 : decode cX7_refuse 105 = .ok (.invokevirtual 45, 3) := by decide +kernel
theorem dX7_refuse_108 : decode cX7_refuse 108 = .ok (.return_, 1) := by decide +kernel
set_option maxRecDepth 20000 in
theorem ggX7_admit_X7_of : GoodIn wsX7_admit wsX7_of := goodIn_r _ [7, 1, 12, 13, 14, 15, 16, 17, 18, 19, 20] (by decide +kernel) (by decide +kernel)
set_option maxRecDepth 20000 in
theorem gX7_admit_X7_of : GoodIn wsX7_admit (wsV RX7 35 RX7 yX7_of wsX7_of) := goodIn_app (goodIn_of _ (by decide +kernel)) ggX7_admit_X7_of
set_option maxRecDepth 20000 in
theorem ggX7_admit_X7_put : GoodIn wsX7_admit wsX7_put := goodIn_r _ [11, 1, 12, 13, 14, 15, 16, 17, 18, 19, 20] (by decide +kernel) (by decide +kernel)
set_option maxRecDepth 20000 in
theorem gX7_admit_X7_put : GoodIn wsX7_admit (wsV RX7 45 RX7 yX7_put wsX7_put) := goodIn_app (goodIn_of _ (by decide +kernel)) ggX7_admit_X7_put
theorem dX7_admit_0 : decode cX7_admit 0 = .ok (.aload_n 0, 1) := by decide +kernel
theorem dX7_admit_1 : decode cX7_admit 1 = .ok (.iload_n 1, 1) := by decide +kernel
theorem dX7_admit_2 : decode cX7_admit 2 = .ok (.iconst 0, 1) := by decide +kernel
theorem dX7_admit_3 : decode cX7_admit 3 = .ok (.invokevirtual 35, 3) := by decide +kernel
theorem dX7_admit_6 : decode cX7_admit 6 = .ok (.istore_n 2, 1) := by decide +kernel
theorem dX7_admit_7 : decode cX7_admit 7 = .ok (.aload_n 0, 1) := by decide +kernel
theorem dX7_admit_8 : decode cX7_admit 8 = .ok (.getfield 7, 3) := by decide +kernel
theorem dX7_admit_11 : decode cX7_admit 11 = .ok (.bipush 16, 2) := by decide +kernel
theorem dX7_admit_13 : decode cX7_admit 13 = .ok (.iload_n 2, 1) := by decide +kernel
theorem dX7_admit_14 : decode cX7_admit 14 = .ok (.iadd, 1) := by decide +kernel
theorem dX7_admit_15 : decode cX7_admit 15 = .ok (.dup2, 1) := by decide +kernel
theorem dX7_admit_16 : decode cX7_admit 16 = .ok (.iaload, 1) := by decide +kernel
theorem dX7_admit_17 : decode cX7_admit 17 = .ok (.aload_n 0, 1) := by decide +kernel
theorem dX7_admit_18 : decode cX7_admit 18 = .ok (.iload_n 1, 1) := by decide +kernel
theorem dX7_admit_19 : decode cX7_admit 19 = .ok (.iconst 4, 1) := by decide +kernel
theorem dX7_admit_20 : decode cX7_admit 20 = .ok (.invokevirtual 35, 3) := by decide +kernel
theorem dX7_admit_23 : decode cX7_admit 23 = .ok (.isub, 1) := by decide +kernel
theorem dX7_admit_24 : decode cX7_admit 24 = .ok (.iastore, 1) := by decide +kernel
theorem dX7_admit_25 : decode cX7_admit 25 = .ok (.ldc 30, 2) := by decide +kernel
theorem dX7_admit_27 : decode cX7_admit 27 = .ok (.istore_n 3, 1) := by decide +kernel
theorem dX7_admit_28 : decode cX7_admit 28 = .ok (.iconst 0, 1) := by decide +kernel
theorem dX7_admit_29 : decode cX7_admit 29 = .ok (.istore 4, 2) := by decide +kernel
theorem dX7_admit_31 : decode cX7_admit 31 = .ok (.iload 4, 2) := by decide +kernel
theorem dX7_admit_33 : decode cX7_admit 33 = .ok (.iconst 3, 1) := by decide +kernel
theorem dX7_admit_34 : decode cX7_admit 34 = .ok (.if_icmp .ge 73, 3) := by decide +kernel
theorem dX7_admit_37 : decode cX7_admit 37 = .ok (.iload 4, 2) := by decide +kernel
theorem dX7_admit_39 : decode cX7_admit 39 = .ok (.iload_n 2, 1) := by decide +kernel
theorem dX7_admit_40 : decode cX7_admit 40 = .ok (.if_icmp .eq 20, 3) := by decide +kernel
theorem dX7_admit_43 : decode cX7_admit 43 = .ok (.aload_n 0, 1) := by decide +kernel
theorem dX7_admit_44 : decode cX7_admit 44 = .ok (.getfield 7, 3) := by decide +kernel
theorem dX7_admit_47 : decode cX7_admit 47 = .ok (.bipush 25, 2) := by decide +kernel
theorem dX7_admit_49 : decode cX7_admit 49 = .ok (.iload 4, 2) := by decide +kernel
theorem dX7_admit_51 : decode cX7_admit 51 = .ok (.iadd, 1) := by decide +kernel
theorem dX7_admit_52 : decode cX7_admit 52 = .ok (.iaload, 1) := by decide +kernel
theorem dX7_admit_53 : decode cX7_admit 53 = .ok (.ifCond .le 7, 3) := by decide +kernel
theorem dX7_admit_56 : decode cX7_admit 56 = .ok (.iconst 1, 1) := by decide +kernel
theorem dX7_admit_57 : decode cX7_admit 57 = .ok (.goto 4, 3) := by decide +kernel
theorem dX7_admit_60 : decode cX7_admit 60 = .ok (.iconst 0, 1) := by decide +kernel
theorem dX7_admit_61 : decode cX7_admit 61 = .ok (.istore 5, 2) := by decide +kernel
theorem dX7_admit_63 : decode cX7_admit 63 = .ok (.iload 5, 2) := by decide +kernel
theorem dX7_admit_65 : decode cX7_admit 65 = .ok (.ifCond .eq 34, 3) := by decide +kernel
theorem dX7_admit_68 : decode cX7_admit 68 = .ok (.iload_n 3, 1) := by decide +kernel
theorem dX7_admit_69 : decode cX7_admit 69 = .ok (.ifCond .lt 17, 3) := by decide +kernel
theorem dX7_admit_72 : decode cX7_admit 72 = .ok (.aload_n 0, 1) := by decide +kernel
theorem dX7_admit_73 : decode cX7_admit 73 = .ok (.getfield 7, 3) := by decide +kernel
theorem dX7_admit_76 : decode cX7_admit 76 = .ok (.bipush 19, 2) := by decide +kernel
theorem dX7_admit_78 : decode cX7_admit 78 = .ok (.iload 4, 2) := by decide +kernel
theorem dX7_admit_80 : decode cX7_admit 80 = .ok (.iadd, 1) := by decide +kernel
theorem dX7_admit_81 : decode cX7_admit 81 = .ok (.iaload, 1) := by decide +kernel
theorem dX7_admit_82 : decode cX7_admit 82 = .ok (.iload_n 3, 1) := by decide +kernel
theorem dX7_admit_83 : decode cX7_admit 83 = .ok (.if_icmp .ge 16, 3) := by decide +kernel
theorem dX7_admit_86 : decode cX7_admit 86 = .ok (.aload_n 0, 1) := by decide +kernel
theorem dX7_admit_87 : decode cX7_admit 87 = .ok (.getfield 7, 3) := by decide +kernel
theorem dX7_admit_90 : decode cX7_admit 90 = .ok (.bipush 19, 2) := by decide +kernel
theorem dX7_admit_92 : decode cX7_admit 92 = .ok (.iload 4, 2) := by decide +kernel
theorem dX7_admit_94 : decode cX7_admit 94 = .ok (.iadd, 1) := by decide +kernel
theorem dX7_admit_95 : decode cX7_admit 95 = .ok (.iaload, 1) := by decide +kernel
theorem dX7_admit_96 : decode cX7_admit 96 = .ok (.goto 4, 3) := by decide +kernel
theorem dX7_admit_99 : decode cX7_admit 99 = .ok (.iload_n 3, 1) := by decide +kernel
theorem dX7_admit_100 : decode cX7_admit 100 = .ok (.istore_n 3, 1) := by decide +kernel
theorem dX7_admit_101 : decode cX7_admit 101 = .ok (.iinc 4 1, 3) := by decide +kernel
theorem dX7_admit_104 : decode cX7_admit 104 = .ok (.goto (-73), 3) := by decide +kernel
theorem dX7_admit_107 : decode cX7_admit 107 = .ok (.aload_n 0, 1) := by decide +kernel
theorem dX7_admit_108 : decode cX7_admit 108 = .ok (.getfield 7, 3) := by decide +kernel
theorem dX7_admit_111 : decode cX7_admit 111 = .ok (.bipush 25, 2) := by decide +kernel
theorem dX7_admit_113 : decode cX7_admit 113 = .ok (.iload_n 2, 1) := by decide +kernel
theorem dX7_admit_114 : decode cX7_admit 114 = .ok (.iadd, 1) := by decide +kernel
theorem dX7_admit_115 : decode cX7_admit 115 = .ok (.iaload, 1) := by decide +kernel
theorem dX7_admit_116 : decode cX7_admit 116 = .ok (.ifCond .ne 26, 3) := by decide +kernel
theorem dX7_admit_119 : decode cX7_admit 119 = .ok (.iload_n 3, 1) := by decide +kernel
theorem dX7_admit_120 : decode cX7_admit 120 = .ok (.aload_n 0, 1) := by decide +kernel
theorem dX7_admit_121 : decode cX7_admit 121 = .ok (.getfield 7, 3) := by decide +kernel
theorem dX7_admit_124 : decode cX7_admit 124 = .ok (.bipush 19, 2) := by decide +kernel
theorem dX7_admit_126 : decode cX7_admit 126 = .ok (.iload_n 2, 1) := by decide +kernel
theorem dX7_admit_127 : decode cX7_admit 127 = .ok (.iadd, 1) := by decide +kernel
theorem dX7_admit_128 : decode cX7_admit 128 = .ok (.iaload, 1) := by decide +kernel
theorem dX7_admit_129 : decode cX7_admit 129 = .ok (.if_icmp .le 13, 3) := by decide +kernel
theorem dX7_admit_132 : decode cX7_admit 132 = .ok (.aload_n 0, 1) := by decide +kernel
theorem dX7_admit_133 : decode cX7_admit 133 = .ok (.getfield 7, 3) := by decide +kernel
theorem dX7_admit_136 : decode cX7_admit 136 = .ok (.bipush 19, 2) := by decide +kernel
theorem dX7_admit_138 : decode cX7_admit 138 = .ok (.iload_n 2, 1) := by decide +kernel
theorem dX7_admit_139 : decode cX7_admit 139 = .ok (.iadd, 1) := by decide +kernel
theorem dX7_admit_140 : decode cX7_admit 140 = .ok (.iload_n 3, 1) := by decide +kernel
theorem dX7_admit_141 : decode cX7_admit 141 = .ok (.iastore, 1) := by decide +kernel
theorem dX7_admit_142 : decode cX7_admit 142 = .ok (.aload_n 0, 1) := by decide +kernel
theorem dX7_admit_143 : decode cX7_admit 143 = .ok (.getfield 7, 3) := by decide +kernel
theorem dX7_admit_146 : decode cX7_admit 146 = .ok (.bipush 28, 2) := by decide +kernel
theorem dX7_admit_148 : decode cX7_admit 148 = .ok (.bipush 8, 2) := by decide +kernel
theorem dX7_admit_150 : decode cX7_admit 150 = .ok (.iload_n 2, 1) := by decide +kernel
theorem dX7_admit_151 : decode cX7_admit 151 = .ok (.imul, 1) := by decide +kernel
theorem dX7_admit_152 : decode cX7_admit 152 = .ok (.iadd, 1) := by decide +kernel
theorem dX7_admit_153 : decode cX7_admit 153 = .ok (.aload_n 0, 1) := by decide +kernel
theorem dX7_admit_154 : decode cX7_admit 154 = .ok (.getfield 7, 3) := by decide +kernel
theorem dX7_admit_157 : decode cX7_admit 157 = .ok (.bipush 25, 2) := by decide +kernel
theorem dX7_admit_159 : decode cX7_admit 159 = .ok (.iload_n 2, 1) := by decide +kernel
theorem dX7_admit_160 : decode cX7_admit 160 = .ok (.iadd, 1) := by decide +kernel
theorem dX7_admit_161 : decode cX7_admit 161 = .ok (.iaload, 1) := by decide +kernel
theorem dX7_admit_162 : decode cX7_admit 162 = .ok (.iadd, 1) := by decide +kernel
theorem dX7_admit_163 : decode cX7_admit 163 = .ok (.iload_n 1, 1) := by decide +kernel
theorem dX7_admit_164 : decode cX7_admit 164 = .ok (.iastore, 1) := by decide +kernel
theorem dX7_admit_165 : decode cX7_admit 165 = .ok (.aload_n 0, 1) := by decide +kernel
theorem dX7_admit_166 : decode cX7_admit 166 = .ok (.getfield 7, 3) := by decide +kernel
theorem dX7_admit_169 : decode cX7_admit 169 = .ok (.bipush 25, 2) := by decide +kernel
theorem dX7_admit_171 : decode cX7_admit 171 = .ok (.iload_n 2, 1) := by decide +kernel
theorem dX7_admit_172 : decode cX7_admit 172 = .ok (.iadd, 1) := by decide +kernel
theorem dX7_admit_173 : decode cX7_admit 173 = .ok (.dup2, 1) := by decide +kernel
theorem dX7_admit_174 : decode cX7_admit 174 = .ok (.iaload, 1) := by decide +kernel
theorem dX7_admit_175 : decode cX7_admit 175 = .ok (.iconst 1, 1) := by decide +kernel
theorem dX7_admit_176 : decode cX7_admit 176 = .ok (.iadd, 1) := by decide +kernel
theorem dX7_admit_177 : decode cX7_admit 177 = .ok (.iastore, 1) := by decide +kernel
theorem dX7_admit_178 : decode cX7_admit 178 = .ok (.aload_n 0, 1) := by decide +kernel
theorem dX7_admit_179 : decode cX7_admit 179 = .ok (.iload_n 1, 1) := by decide +kernel
theorem dX7_admit_180 : decode cX7_admit 180 = .ok (.iconst 3, 1) := by decide +kernel
theorem dX7_admit_181 : decode cX7_admit 181 = .ok (.iconst 0, 1) := by decide +kernel
theorem dX7_admit_182 : decode cX7_admit 182 = .ok (.invokevirtual 45, 3) := by decide +kernel
theorem dX7_admit_185 : decode cX7_admit 185 = .ok (.aload_n 0, 1) := by decide +kernel
theorem dX7_admit_186 : decode cX7_admit 186 = .ok (.iload_n 1, 1) := by decide +kernel
theorem dX7_admit_187 : decode cX7_admit 187 = .ok (.bipush 9, 2) := by decide +kernel
end
section
theorem dX7_admit_189 : decode cX7_admit 189 = .ok (.aload_n 0, 1) := by decide +kernel
theorem dX7_admit_190 : decode cX7_admit 190 = .ok (.getfield 7, 3) := by decide +kernel
theorem dX7_admit_193 : decode cX7_admit 193 = .ok (.bipush 67, 2) := by decide +kernel
theorem dX7_admit_195 : decode cX7_admit 195 = .ok (.iaload, 1) := by decide +kernel
theorem dX7_admit_196 : decode cX7_admit 196 = .ok (.invokevirtual 45, 3) := by decide +kernel
theorem dX7_admit_199 : decode cX7_admit 199 = .ok (.aload_n 0, 1) := by decide +kernel
theorem dX7_admit_200 : decode cX7_admit 200 = .ok (.iload_n 1, 1) := by decide +kernel
theorem dX7_admit_201 : decode cX7_admit 201 = .ok (.bipush 8, 2) := by decide +kernel
theorem dX7_admit_203 : decode cX7_admit 203 = .ok (.ldc 30, 2) := by decide +kernel
theorem dX7_admit_205 : decode cX7_admit 205 = .ok (.invokevirtual 45, 3) := by decide +kernel
theorem dX7_admit_208 : decode cX7_admit 208 = .ok (.return_, 1) := by decide +kernel
set_option maxRecDepth 20000 in
theorem ggX7_offerNow_X7_of : GoodIn wsX7_offerNow wsX7_of := goodIn_r _ [5, 6, 40, 41, 42, 43, 44, 45, 46, 47, 48] (by decide +kernel) (by decide +kernel)
set_option maxRecDepth 20000 in
theorem gX7_offerNow_X7_of : GoodIn wsX7_offerNow (wsV RX7 35 RX7 yX7_of wsX7_of) := goodIn_app (goodIn_of _ (by decide +kernel)) ggX7_offerNow_X7_of
set_option maxRecDepth 20000 in
theorem ggX7_offerNow_X7_put : GoodIn wsX7_offerNow wsX7_put := goodIn_r _ [10, 6, 40, 41, 42, 43, 44, 45, 46, 47, 48] (by decide +kernel) (by decide +kernel)
set_option maxRecDepth 20000 in
theorem gX7_offerNow_X7_put : GoodIn wsX7_offerNow (wsV RX7 45 RX7 yX7_put wsX7_put) := goodIn_app (goodIn_of _ (by decide +kernel)) ggX7_offerNow_X7_put
set_option maxRecDepth 20000 in
theorem ggX7_offerNow_X7_expectedCost : GoodIn wsX7_offerNow wsX7_expectedCost := goodIn_r _ [14, 6, 40, 41, 42, 43, 44, 45, 46, 47, 48] (by decide +kernel) (by decide +kernel)
set_option maxRecDepth 20000 in
theorem gX7_offerNow_X7_expectedCost : GoodIn wsX7_offerNow (wsV RX7 49 RX7 yX7_expectedCost wsX7_expectedCost) := goodIn_app (goodIn_of _ (by decide +kernel)) ggX7_offerNow_X7_expectedCost
set_option maxRecDepth 20000 in
theorem ggX7_offerNow_X7_whyRefused : GoodIn wsX7_offerNow wsX7_whyRefused := goodIn_r _ [18, 6, 19, 20, 21, 4, 22, 23, 24, 25, 26, 27, 28, 29, 30, 1, 2, 3, 5, 40, 41, 42, 43, 44, 45, 46, 47, 48] (by decide +kernel) (by decide +kernel)
set_option maxRecDepth 20000 in
theorem gX7_offerNow_X7_whyRefused : GoodIn wsX7_offerNow (wsV RX7 52 RX7 yX7_whyRefused wsX7_whyRefused) := goodIn_app (goodIn_of _ (by decide +kernel)) ggX7_offerNow_X7_whyRefused
set_option maxRecDepth 20000 in
theorem ggX7_offerNow_X7_refuse : GoodIn wsX7_offerNow wsX7_refuse := goodIn_r _ [34, 6, 35, 1, 2, 3, 4, 5, 7, 8, 9, 10, 40, 41, 42, 43, 44, 45, 46, 47, 48] (by decide +kernel) (by decide +kernel)
set_option maxRecDepth 20000 in
theorem gX7_offerNow_X7_refuse : GoodIn wsX7_offerNow (wsV RX7 55 RX7 yX7_refuse wsX7_refuse) := goodIn_app (goodIn_of _ (by decide +kernel)) ggX7_offerNow_X7_refuse
set_option maxRecDepth 20000 in
theorem ggX7_offerNow_X7_admit : GoodIn wsX7_offerNow wsX7_admit := goodIn_r _ [39, 6, 35, 1, 2, 3, 4, 5, 7, 8, 9, 10, 40, 41, 42, 43, 44, 45, 46, 47, 48] (by decide +kernel) (by decide +kernel)
set_option maxRecDepth 20000 in
theorem gX7_offerNow_X7_admit : GoodIn wsX7_offerNow (wsV RX7 59 RX7 yX7_admit wsX7_admit) := goodIn_app (goodIn_of _ (by decide +kernel)) ggX7_offerNow_X7_admit
theorem dX7_offerNow_0 : decode cX7_offerNow 0 = .ok (.aload_n 0, 1) := by decide +kernel
theorem dX7_offerNow_1 : decode cX7_offerNow 1 = .ok (.iload_n 1, 1) := by decide +kernel
theorem dX7_offerNow_2 : decode cX7_offerNow 2 = .ok (.bipush 6, 2) := by decide +kernel
theorem dX7_offerNow_4 : decode cX7_offerNow 4 = .ok (.aload_n 0, 1) := by decide +kernel
theorem dX7_offerNow_5 : decode cX7_offerNow 5 = .ok (.iload_n 1, 1) := by decide +kernel
theorem dX7_offerNow_6 : decode cX7_offerNow 6 = .ok (.bipush 6, 2) := by decide +kernel
theorem dX7_offerNow_8 : decode cX7_offerNow 8 = .ok (.invokevirtual 35, 3) := by decide +kernel
theorem dX7_offerNow_11 : decode cX7_offerNow 11 = .ok (.iconst 1, 1) := by decide +kernel
theorem dX7_offerNow_12 : decode cX7_offerNow 12 = .ok (.iadd, 1) := by decide +kernel
theorem dX7_offerNow_13 : decode cX7_offerNow 13 = .ok (.invokevirtual 45, 3) := by decide +kernel
theorem dX7_offerNow_16 : decode cX7_offerNow 16 = .ok (.aload_n 0, 1) := by decide +kernel
theorem dX7_offerNow_17 : decode cX7_offerNow 17 = .ok (.iload_n 1, 1) := by decide +kernel
theorem dX7_offerNow_18 : decode cX7_offerNow 18 = .ok (.iconst 4, 1) := by decide +kernel
theorem dX7_offerNow_19 : decode cX7_offerNow 19 = .ok (.aload_n 0, 1) := by decide +kernel
theorem dX7_offerNow_20 : decode cX7_offerNow 20 = .ok (.aload_n 0, 1) := by decide +kernel
theorem dX7_offerNow_21 : decode cX7_offerNow 21 = .ok (.iload_n 1, 1) := by decide +kernel
theorem dX7_offerNow_22 : decode cX7_offerNow 22 = .ok (.iconst 1, 1) := by decide +kernel
theorem dX7_offerNow_23 : decode cX7_offerNow 23 = .ok (.invokevirtual 35, 3) := by decide +kernel
theorem dX7_offerNow_26 : decode cX7_offerNow 26 = .ok (.invokevirtual 49, 3) := by decide +kernel
theorem dX7_offerNow_29 : decode cX7_offerNow 29 = .ok (.invokevirtual 45, 3) := by decide +kernel
theorem dX7_offerNow_32 : decode cX7_offerNow 32 = .ok (.aload_n 0, 1) := by decide +kernel
theorem dX7_offerNow_33 : decode cX7_offerNow 33 = .ok (.aload_n 0, 1) := by decide +kernel
theorem dX7_offerNow_34 : decode cX7_offerNow 34 = .ok (.iload_n 1, 1) := by decide +kernel
theorem dX7_offerNow_35 : decode cX7_offerNow 35 = .ok (.iconst 0, 1) := by decide +kernel
theorem dX7_offerNow_36 : decode cX7_offerNow 36 = .ok (.invokevirtual 35, 3) := by decide +kernel
theorem dX7_offerNow_39 : decode cX7_offerNow 39 = .ok (.aload_n 0, 1) := by decide +kernel
theorem dX7_offerNow_40 : decode cX7_offerNow 40 = .ok (.iload_n 1, 1) := by decide +kernel
theorem dX7_offerNow_41 : decode cX7_offerNow 41 = .ok (.iconst 4, 1) := by decide +kernel
theorem dX7_offerNow_42 : decode cX7_offerNow 42 = .ok (.invokevirtual 35, 3) := by decide +kernel
theorem dX7_offerNow_45 : decode cX7_offerNow 45 = .ok (.invokevirtual 52, 3) := by decide +kernel
theorem dX7_offerNow_48 : decode cX7_offerNow 48 = .ok (.istore_n 2, 1) := by decide +kernel
theorem dX7_offerNow_49 : decode cX7_offerNow 49 = .ok (.iload_n 2, 1) := by decide +kernel
theorem dX7_offerNow_50 : decode cX7_offerNow 50 = .ok (.ifCond .le 12, 3) := by decide +kernel
theorem dX7_offerNow_53 : decode cX7_offerNow 53 = .ok (.aload_n 0, 1) := by decide +kernel
theorem dX7_offerNow_54 : decode cX7_offerNow 54 = .ok (.iload_n 1, 1) := by decide +kernel
theorem dX7_offerNow_55 : decode cX7_offerNow 55 = .ok (.iload_n 2, 1) := by decide +kernel
theorem dX7_offerNow_56 : decode cX7_offerNow 56 = .ok (.invokevirtual 55, 3) := by decide +kernel
theorem dX7_offerNow_59 : decode cX7_offerNow 59 = .ok (.goto 8, 3) := by decide +kernel
theorem dX7_offerNow_62 : decode cX7_offerNow 62 = .ok (.aload_n 0, 1) := by decide +kernel
theorem dX7_offerNow_63 : decode cX7_offerNow 63 = .ok (.iload_n 1, 1) := by decide +kernel
theorem dX7_offerNow_64 : decode cX7_offerNow 64 = .ok (.invokevirtual 59, 3) := by decide +kernel
theorem dX7_offerNow_67 : decode cX7_offerNow 67 = .ok (.iload_n 2, 1) := by decide +kernel
theorem dX7_offerNow_68 : decode cX7_offerNow 68 = .ok (.ireturn, 1) := by decide +kernel
set_option maxRecDepth 20000 in
theorem ggX7_leaveQueue_X7_inQueue : GoodIn wsX7_leaveQueue wsX7_inQueue := goodIn_r _ [6, 1, 7, 8, 9, 10, 11, 12, 13, 14, 15] (by decide +kernel) (by decide +kernel)
set_option maxRecDepth 20000 in
theorem gX7_leaveQueue_X7_inQueue : GoodIn wsX7_leaveQueue (wsV RX7 31 RX7 yX7_inQueue wsX7_inQueue) := goodIn_app (goodIn_of _ (by decide +kernel)) ggX7_leaveQueue_X7_inQueue
theorem dX7_leaveQueue_0 : decode cX7_leaveQueue 0 = .ok (.aload_n 0, 1) := by decide +kernel
theorem dX7_leaveQueue_1 : decode cX7_leaveQueue 1 = .ok (.getfield 7, 3) := by decide +kernel
theorem dX7_leaveQueue_4 : decode cX7_leaveQueue 4 = .ok (.bipush 25, 2) := by decide +kernel
theorem dX7_leaveQueue_6 : decode cX7_leaveQueue 6 = .ok (.iload_n 1, 1) := by decide +kernel
theorem dX7_leaveQueue_7 : decode cX7_leaveQueue 7 = .ok (.iadd, 1) := by decide +kernel
theorem dX7_leaveQueue_8 : decode cX7_leaveQueue 8 = .ok (.dup2, 1) := by decide +kernel
theorem dX7_leaveQueue_9 : decode cX7_leaveQueue 9 = .ok (.iaload, 1) := by decide +kernel
theorem dX7_leaveQueue_10 : decode cX7_leaveQueue 10 = .ok (.iconst 1, 1) := by decide +kernel
theorem dX7_leaveQueue_11 : decode cX7_leaveQueue 11 = .ok (.isub, 1) := by decide +kernel
theorem dX7_leaveQueue_12 : decode cX7_leaveQueue 12 = .ok (.iastore, 1) := by decide +kernel
theorem dX7_leaveQueue_13 : decode cX7_leaveQueue 13 = .ok (.iload_n 2, 1) := by decide +kernel
theorem dX7_leaveQueue_14 : decode cX7_leaveQueue 14 = .ok (.istore_n 3, 1) := by decide +kernel
theorem dX7_leaveQueue_15 : decode cX7_leaveQueue 15 = .ok (.iload_n 3, 1) := by decide +kernel
theorem dX7_leaveQueue_16 : decode cX7_leaveQueue 16 = .ok (.aload_n 0, 1) := by decide +kernel
theorem dX7_leaveQueue_17 : decode cX7_leaveQueue 17 = .ok (.getfield 7, 3) := by decide +kernel
theorem dX7_leaveQueue_20 : decode cX7_leaveQueue 20 = .ok (.bipush 25, 2) := by decide +kernel
theorem dX7_leaveQueue_22 : decode cX7_leaveQueue 22 = .ok (.iload_n 1, 1) := by decide +kernel
theorem dX7_leaveQueue_23 : decode cX7_leaveQueue 23 = .ok (.iadd, 1) := by decide +kernel
theorem dX7_leaveQueue_24 : decode cX7_leaveQueue 24 = .ok (.iaload, 1) := by decide +kernel
theorem dX7_leaveQueue_25 : decode cX7_leaveQueue 25 = .ok (.if_icmp .ge 31, 3) := by decide +kernel
theorem dX7_leaveQueue_28 : decode cX7_leaveQueue 28 = .ok (.aload_n 0, 1) := by decide +kernel
theorem dX7_leaveQueue_29 : decode cX7_leaveQueue 29 = .ok (.getfield 7, 3) := by decide +kernel
theorem dX7_leaveQueue_32 : decode cX7_leaveQueue 32 = .ok (.bipush 28, 2) := by decide +kernel
theorem dX7_leaveQueue_34 : decode cX7_leaveQueue 34 = .ok (.bipush 8, 2) := by decide +kernel
theorem dX7_leaveQueue_36 : decode cX7_leaveQueue 36 = .ok (.iload_n 1, 1) := by decide +kernel
theorem dX7_leaveQueue_37 : decode cX7_leaveQueue 37 = .ok (.imul, 1) := by decide +kernel
theorem dX7_leaveQueue_38 : decode cX7_leaveQueue 38 = .ok (.iadd, 1) := by decide +kernel
theorem dX7_leaveQueue_39 : decode cX7_leaveQueue 39 = .ok (.iload_n 3, 1) := by decide +kernel
theorem dX7_leaveQueue_40 : decode cX7_leaveQueue 40 = .ok (.iadd, 1) := by decide +kernel
theorem dX7_leaveQueue_41 : decode cX7_leaveQueue 41 = .ok (.aload_n 0, 1) := by decide +kernel
theorem dX7_leaveQueue_42 : decode cX7_leaveQueue 42 = .ok (.iload_n 1, 1) := by decide +kernel
theorem dX7_leaveQueue_43 : decode cX7_leaveQueue 43 = .ok (.iload_n 3, 1) := by decide +kernel
theorem dX7_leaveQueue_44 : decode cX7_leaveQueue 44 = .ok (.iconst 1, 1) := by decide +kernel
theorem dX7_leaveQueue_45 : decode cX7_leaveQueue 45 = .ok (.iadd, 1) := by decide +kernel
theorem dX7_leaveQueue_46 : decode cX7_leaveQueue 46 = .ok (.invokevirtual 31, 3) := by decide +kernel
theorem dX7_leaveQueue_49 : decode cX7_leaveQueue 49 = .ok (.iastore, 1) := by decide +kernel
theorem dX7_leaveQueue_50 : decode cX7_leaveQueue 50 = .ok (.iinc 3 1, 3) := by decide +kernel
theorem dX7_leaveQueue_53 : decode cX7_leaveQueue 53 = .ok (.goto (-38), 3) := by decide +kernel
theorem dX7_leaveQueue_56 : decode cX7_leaveQueue 56 = .ok (.return_, 1) := by decide +kernel
set_option maxRecDepth 20000 in
theorem ggX7_refuseLate_X7_inQueue : GoodIn wsX7_refuseLate wsX7_inQueue := goodIn_r _ [6, 1, 32, 33, 34, 35, 36, 37, 38, 39, 40] (by decide +kernel) (by decide +kernel)
set_option maxRecDepth 20000 in
theorem gX7_refuseLate_X7_inQueue : GoodIn wsX7_refuseLate (wsV RX7 31 RX7 yX7_inQueue wsX7_inQueue) := goodIn_app (goodIn_of _ (by decide +kernel)) ggX7_refuseLate_X7_inQueue
set_option maxRecDepth 20000 in
theorem ggX7_refuseLate_X7_of : GoodIn wsX7_refuseLate wsX7_of := goodIn_r _ [10, 1, 32, 33, 34, 35, 36, 37, 38, 39, 40] (by decide +kernel) (by decide +kernel)
set_option maxRecDepth 20000 in
theorem gX7_refuseLate_X7_of : GoodIn wsX7_refuseLate (wsV RX7 35 RX7 yX7_of wsX7_of) := goodIn_app (goodIn_of _ (by decide +kernel)) ggX7_refuseLate_X7_of
set_option maxRecDepth 20000 in
theorem ggX7_refuseLate_X7_leaveQueue : GoodIn wsX7_refuseLate wsX7_leaveQueue := goodIn_r _ [14, 1, 2, 3, 4, 5, 6, 32, 33, 34, 35, 36, 37, 38, 39, 40] (by decide +kernel) (by decide +kernel)
set_option maxRecDepth 20000 in
theorem gX7_refuseLate_X7_leaveQueue : GoodIn wsX7_refuseLate (wsV RX7 63 RX7 yX7_leaveQueue wsX7_leaveQueue) := goodIn_app (goodIn_of _ (by decide +kernel)) ggX7_refuseLate_X7_leaveQueue
set_option maxRecDepth 20000 in
theorem ggX7_refuseLate_X7_refuse : GoodIn wsX7_refuseLate wsX7_refuse := goodIn_r _ [18, 1, 19, 7, 8, 9, 5, 10, 20, 21, 22, 23, 32, 33, 34, 35, 36, 37, 38, 39, 40] (by decide +kernel) (by decide +kernel)
set_option maxRecDepth 20000 in
theorem gX7_refuseLate_X7_refuse : GoodIn wsX7_refuseLate (wsV RX7 55 RX7 yX7_refuse wsX7_refuse) := goodIn_app (goodIn_of _ (by decide +kernel)) ggX7_refuseLate_X7_refuse
set_option maxRecDepth 20000 in
theorem ggX7_refuseLate_X7_addTokens : GoodIn wsX7_refuseLate wsX7_addTokens := goodIn_r _ [27, 1, 28, 29, 30, 5, 31, 32, 33, 34, 35, 36, 37, 38, 39, 40] (by decide +kernel) (by decide +kernel)
set_option maxRecDepth 20000 in
theorem gX7_refuseLate_X7_addTokens : GoodIn wsX7_refuseLate (wsV RX7 66 RX7 yX7_addTokens wsX7_addTokens) := goodIn_app (goodIn_of _ (by decide +kernel)) ggX7_refuseLate_X7_addTokens
theorem dX7_refuseLate_0 : decode cX7_refuseLate 0 = .ok (.iconst 0, 1) := by decide +kernel
theorem dX7_refuseLate_1 : decode cX7_refuseLate 1 = .ok (.istore_n 2, 1) := by decide +kernel
theorem dX7_refuseLate_2 : decode cX7_refuseLate 2 = .ok (.iload_n 2, 1) := by decide +kernel
theorem dX7_refuseLate_3 : decode cX7_refuseLate 3 = .ok (.aload_n 0, 1) := by decide +kernel
theorem dX7_refuseLate_4 : decode cX7_refuseLate 4 = .ok (.getfield 7, 3) := by decide +kernel
theorem dX7_refuseLate_7 : decode cX7_refuseLate 7 = .ok (.bipush 25, 2) := by decide +kernel
theorem dX7_refuseLate_9 : decode cX7_refuseLate 9 = .ok (.iload_n 1, 1) := by decide +kernel
theorem dX7_refuseLate_10 : decode cX7_refuseLate 10 = .ok (.iadd, 1) := by decide +kernel
theorem dX7_refuseLate_11 : decode cX7_refuseLate 11 = .ok (.iaload, 1) := by decide +kernel
theorem dX7_refuseLate_12 : decode cX7_refuseLate 12 = .ok (.if_icmp .ge 87, 3) := by decide +kernel
theorem dX7_refuseLate_15 : decode cX7_refuseLate 15 = .ok (.aload_n 0, 1) := by decide +kernel
theorem dX7_refuseLate_16 : decode cX7_refuseLate 16 = .ok (.iload_n 1, 1) := by decide +kernel
theorem dX7_refuseLate_17 : decode cX7_refuseLate 17 = .ok (.iload_n 2, 1) := by decide +kernel
theorem dX7_refuseLate_18 : decode cX7_refuseLate 18 = .ok (.invokevirtual 31, 3) := by decide +kernel
theorem dX7_refuseLate_21 : decode cX7_refuseLate 21 = .ok (.istore_n 3, 1) := by decide +kernel
theorem dX7_refuseLate_22 : decode cX7_refuseLate 22 = .ok (.aload_n 0, 1) := by decide +kernel
theorem dX7_refuseLate_23 : decode cX7_refuseLate 23 = .ok (.iload_n 3, 1) := by decide +kernel
theorem dX7_refuseLate_24 : decode cX7_refuseLate 24 = .ok (.iconst 3, 1) := by decide +kernel
theorem dX7_refuseLate_25 : decode cX7_refuseLate 25 = .ok (.invokevirtual 35, 3) := by decide +kernel
theorem dX7_refuseLate_28 : decode cX7_refuseLate 28 = .ok (.ifCond .ne 31, 3) := by decide +kernel
theorem dX7_refuseLate_31 : decode cX7_refuseLate 31 = .ok (.aload_n 0, 1) := by decide +kernel
theorem dX7_refuseLate_32 : decode cX7_refuseLate 32 = .ok (.getfield 7, 3) := by decide +kernel
theorem dX7_refuseLate_35 : decode cX7_refuseLate 35 = .ok (.bipush 67, 2) := by decide +kernel
theorem dX7_refuseLate_37 : decode cX7_refuseLate 37 = .ok (.iaload, 1) := by decide +kernel
theorem dX7_refuseLate_38 : decode cX7_refuseLate 38 = .ok (.aload_n 0, 1) := by decide +kernel
theorem dX7_refuseLate_39 : decode cX7_refuseLate 39 = .ok (.iload_n 3, 1) := by decide +kernel
theorem dX7_refuseLate_40 : decode cX7_refuseLate 40 = .ok (.bipush 9, 2) := by decide +kernel
theorem dX7_refuseLate_42 : decode cX7_refuseLate 42 = .ok (.invokevirtual 35, 3) := by decide +kernel
theorem dX7_refuseLate_45 : decode cX7_refuseLate 45 = .ok (.isub, 1) := by decide +kernel
theorem dX7_refuseLate_46 : decode cX7_refuseLate 46 = .ok (.aload_n 0, 1) := by decide +kernel
theorem dX7_refuseLate_47 : decode cX7_refuseLate 47 = .ok (.getfield 7, 3) := by decide +kernel
theorem dX7_refuseLate_50 : decode cX7_refuseLate 50 = .ok (.iconst 1, 1) := by decide +kernel
theorem dX7_refuseLate_51 : decode cX7_refuseLate 51 = .ok (.iaload, 1) := by decide +kernel
theorem dX7_refuseLate_52 : decode cX7_refuseLate 52 = .ok (.if_icmp .lt 7, 3) := by decide +kernel
theorem dX7_refuseLate_55 : decode cX7_refuseLate 55 = .ok (.iconst 1, 1) := by decide +kernel
theorem dX7_refuseLate_56 : decode cX7_refuseLate 56 = .ok (.goto 4, 3) := by decide +kernel
theorem dX7_refuseLate_59 : decode cX7_refuseLate 59 = .ok (.iconst 0, 1) := by decide +kernel
theorem dX7_refuseLate_60 : decode cX7_refuseLate 60 = .ok (.istore 4, 2) := by decide +kernel
theorem dX7_refuseLate_62 : decode cX7_refuseLate 62 = .ok (.iload 4, 2) := by decide +kernel
theorem dX7_refuseLate_64 : decode cX7_refuseLate 64 = .ok (.ifCond .eq 29, 3) := by decide +kernel
theorem dX7_refuseLate_67 : decode cX7_refuseLate 67 = .ok (.aload_n 0, 1) := by decide +kernel
theorem dX7_refuseLate_68 : decode cX7_refuseLate 68 = .ok (.iload_n 1, 1) := by decide +kernel
theorem dX7_refuseLate_69 : decode cX7_refuseLate 69 = .ok (.iload_n 2, 1) := by decide +kernel
theorem dX7_refuseLate_70 : decode cX7_refuseLate 70 = .ok (.invokevirtual 63, 3) := by decide +kernel
theorem dX7_refuseLate_73 : decode cX7_refuseLate 73 = .ok (.aload_n 0, 1) := by decide +kernel
theorem dX7_refuseLate_74 : decode cX7_refuseLate 74 = .ok (.iload_n 3, 1) := by decide +kernel
theorem dX7_refuseLate_75 : decode cX7_refuseLate 75 = .ok (.iconst 5, 1) := by decide +kernel
theorem dX7_refuseLate_76 : decode cX7_refuseLate 76 = .ok (.invokevirtual 55, 3) := by decide +kernel
theorem dX7_refuseLate_79 : decode cX7_refuseLate 79 = .ok (.aload_n 0, 1) := by decide +kernel
theorem dX7_refuseLate_80 : decode cX7_refuseLate 80 = .ok (.iload_n 1, 1) := by decide +kernel
theorem dX7_refuseLate_81 : decode cX7_refuseLate 81 = .ok (.aload_n 0, 1) := by decide +kernel
theorem dX7_refuseLate_82 : decode cX7_refuseLate 82 = .ok (.iload_n 3, 1) := by decide +kernel
theorem dX7_refuseLate_83 : decode cX7_refuseLate 83 = .ok (.iconst 4, 1) := by decide +kernel
theorem dX7_refuseLate_84 : decode cX7_refuseLate 84 = .ok (.invokevirtual 35, 3) := by decide +kernel
theorem dX7_refuseLate_87 : decode cX7_refuseLate 87 = .ok (.invokevirtual 66, 3) := by decide +kernel
theorem dX7_refuseLate_90 : decode cX7_refuseLate 90 = .ok (.goto 6, 3) := by decide +kernel
theorem dX7_refuseLate_93 : decode cX7_refuseLate 93 = .ok (.iinc 2 1, 3) := by decide +kernel
theorem dX7_refuseLate_96 : decode cX7_refuseLate 96 = .ok (.goto (-94), 3) := by decide +kernel
theorem dX7_refuseLate_99 : decode cX7_refuseLate 99 = .ok (.return_, 1) := by decide +kernel
theorem dX7_nextClass_0 : decode cX7_nextClass 0 = .ok (.ldc 30, 2) := by decide +kernel
theorem dX7_nextClass_2 : decode cX7_nextClass 2 = .ok (.istore_n 1, 1) := by decide +kernel
theorem dX7_nextClass_3 : decode cX7_nextClass 3 = .ok (.iconst 0, 1) := by decide +kernel
theorem dX7_nextClass_4 : decode cX7_nextClass 4 = .ok (.istore_n 2, 1) := by decide +kernel
theorem dX7_nextClass_5 : decode cX7_nextClass 5 = .ok (.iload_n 2, 1) := by decide +kernel
theorem dX7_nextClass_6 : decode cX7_nextClass 6 = .ok (.iconst 3, 1) := by decide +kernel
theorem dX7_nextClass_7 : decode cX7_nextClass 7 = .ok (.if_icmp .ge 52, 3) := by decide +kernel
theorem dX7_nextClass_10 : decode cX7_nextClass 10 = .ok (.aload_n 0, 1) := by decide +kernel
theorem dX7_nextClass_11 : decode cX7_nextClass 11 = .ok (.getfield 7, 3) := by decide +kernel
theorem dX7_nextClass_14 : decode cX7_nextClass 14 = .ok (.bipush 25, 2) := by decide +kernel
theorem dX7_nextClass_16 : decode cX7_nextClass 16 = .ok (.iload_n 2, 1) := by decide +kernel
theorem dX7_nextClass_17 : decode cX7_nextClass 17 = .ok (.iadd, 1) := by decide +kernel
theorem dX7_nextClass_18 : decode cX7_nextClass 18 = .ok (.iaload, 1) := by decide +kernel
theorem dX7_nextClass_19 : decode cX7_nextClass 19 = .ok (.ifCond .le 32, 3) := by decide +kernel
theorem dX7_nextClass_22 : decode cX7_nextClass 22 = .ok (.iload_n 1, 1) := by decide +kernel
theorem dX7_nextClass_23 : decode cX7_nextClass 23 = .ok (.ifCond .lt 24, 3) := by decide +kernel
theorem dX7_nextClass_26 : decode cX7_nextClass 26 = .ok (.aload_n 0, 1) := by decide +kernel
theorem dX7_nextClass_27 : decode cX7_nextClass 27 = .ok (.getfield 7, 3) := by decide +kernel
theorem dX7_nextClass_30 : decode cX7_nextClass 30 = .ok (.bipush 19, 2) := by decide +kernel
theorem dX7_nextClass_32 : decode cX7_nextClass 32 = .ok (.iload_n 2, 1) := by decide +kernel
theorem dX7_nextClass_33 : decode cX7_nextClass 33 = .ok (.iadd, 1) := by decide +kernel
theorem dX7_nextClass_34 : decode cX7_nextClass 34 = .ok (.iaload, 1) := by decide +kernel
theorem dX7_nextClass_35 : decode cX7_nextClass 35 = .ok (.aload_n 0, 1) := by decide +kernel
theorem dX7_nextClass_36 : decode cX7_nextClass 36 = .ok (.getfield 7, 3) := by decide +kernel
theorem dX7_nextClass_39 : decode cX7_nextClass 39 = .ok (.bipush 19, 2) := by decide +kernel
theorem dX7_nextClass_41 : decode cX7_nextClass 41 = .ok (.iload_n 1, 1) := by decide +kernel
theorem dX7_nextClass_42 : decode cX7_nextClass 42 = .ok (.iadd, 1) := by decide +kernel
theorem dX7_nextClass_43 : decode cX7_nextClass 43 = .ok (.iaload, 1) := by decide +kernel
theorem dX7_nextClass_44 : decode cX7_nextClass 44 = .ok (.if_icmp .ge 7, 3) := by decide +kernel
theorem dX7_nextClass_47 : decode cX7_nextClass 47 = .ok (.iload_n 2, 1) := by decide +kernel
theorem dX7_nextClass_48 : decode cX7_nextClass 48 = .ok (.goto 4, 3) := by decide +kernel
theorem dX7_nextClass_51 : decode cX7_nextClass 51 = .ok (.iload_n 1, 1) := by decide +kernel
theorem dX7_nextClass_52 : decode cX7_nextClass 52 = .ok (.istore_n 1, 1) := by decide +kernel
theorem dX7_nextClass_53 : decode cX7_nextClass 53 = .ok (.iinc 2 1, 3) := by decide +kernel
theorem dX7_nextClass_56 : decode cX7_nextClass 56 = .ok (.goto (-51), 3) := by decide +kernel
theorem dX7_nextClass_59 : decode cX7_nextClass 59 = .ok (.iload_n 1, 1) := by decide +kernel
theorem dX7_nextClass_60 : decode cX7_nextClass 60 = .ok (.ireturn, 1) := by decide +kernel
set_option maxRecDepth 20000 in
theorem ggX7_work_X7_inQueue : GoodIn wsX7_work wsX7_inQueue := goodIn_r _ [6, 1, 27, 28, 29, 30, 31, 32, 33, 34, 35] (by decide +kernel) (by decide +kernel)
set_option maxRecDepth 20000 in
theorem gX7_work_X7_inQueue : GoodIn wsX7_work (wsV RX7 31 RX7 yX7_inQueue wsX7_inQueue) := goodIn_app (goodIn_of _ (by decide +kernel)) ggX7_work_X7_inQueue
set_option maxRecDepth 20000 in
theorem ggX7_work_X7_put : GoodIn wsX7_work wsX7_put := goodIn_r _ [10, 1, 27, 28, 29, 30, 31, 32, 33, 34, 35] (by decide +kernel) (by decide +kernel)
set_option maxRecDepth 20000 in
theorem gX7_work_X7_put : GoodIn wsX7_work (wsV RX7 45 RX7 yX7_put wsX7_put) := goodIn_app (goodIn_of _ (by decide +kernel)) ggX7_work_X7_put
set_option maxRecDepth 20000 in
theorem ggX7_work_X7_of : GoodIn wsX7_work wsX7_of := goodIn_r _ [14, 1, 27, 28, 29, 30, 31, 32, 33, 34, 35] (by decide +kernel) (by decide +kernel)
set_option maxRecDepth 20000 in
theorem gX7_work_X7_of : GoodIn wsX7_work (wsV RX7 35 RX7 yX7_of wsX7_of) := goodIn_app (goodIn_of _ (by decide +kernel)) ggX7_work_X7_of
set_option maxRecDepth 20000 in
theorem ggX7_work_X7_ofClass : GoodIn wsX7_work wsX7_ofClass := goodIn_r _ [18, 1, 27, 28, 29, 30, 31, 32, 33, 34, 35] (by decide +kernel) (by decide +kernel)
set_option maxRecDepth 20000 in
theorem gX7_work_X7_ofClass : GoodIn wsX7_work (wsV RX7 38 RX7 yX7_ofClass wsX7_ofClass) := goodIn_app (goodIn_of _ (by decide +kernel)) ggX7_work_X7_ofClass
set_option maxRecDepth 20000 in
theorem ggX7_work_X7_leaveQueue : GoodIn wsX7_work wsX7_leaveQueue := goodIn_r _ [22, 1, 2, 3, 4, 5, 6, 27, 28, 29, 30, 31, 32, 33, 34, 35] (by decide +kernel) (by decide +kernel)
set_option maxRecDepth 20000 in
theorem gX7_work_X7_leaveQueue : GoodIn wsX7_work (wsV RX7 63 RX7 yX7_leaveQueue wsX7_leaveQueue) := goodIn_app (goodIn_of _ (by decide +kernel)) ggX7_work_X7_leaveQueue
set_option maxRecDepth 20000 in
theorem ggX7_work_X7_addTokens : GoodIn wsX7_work wsX7_addTokens := goodIn_r _ [26, 1, 15, 16, 17, 5, 18, 27, 28, 29, 30, 31, 32, 33, 34, 35] (by decide +kernel) (by decide +kernel)
set_option maxRecDepth 20000 in
theorem gX7_work_X7_addTokens : GoodIn wsX7_work (wsV RX7 66 RX7 yX7_addTokens wsX7_addTokens) := goodIn_app (goodIn_of _ (by decide +kernel)) ggX7_work_X7_addTokens
theorem dX7_work_0 : decode cX7_work 0 = .ok (.aload_n 0, 1) := by decide +kernel
theorem dX7_work_1 : decode cX7_work 1 = .ok (.iload_n 1, 1) := by decide +kernel
theorem dX7_work_2 : decode cX7_work 2 = .ok (.iconst 0, 1) := by decide +kernel
theorem dX7_work_3 : decode cX7_work 3 = .ok (.invokevirtual 31, 3) := by decide +kernel
theorem dX7_work_6 : decode cX7_work 6 = .ok (.istore_n 2, 1) := by decide +kernel
theorem dX7_work_7 : decode cX7_work 7 = .ok (.aload_n 0, 1) := by decide +kernel
theorem dX7_work_8 : decode cX7_work 8 = .ok (.iload_n 2, 1) := by decide +kernel
theorem dX7_work_9 : decode cX7_work 9 = .ok (.iconst 3, 1) := by decide +kernel
theorem dX7_work_10 : decode cX7_work 10 = .ok (.iconst 1, 1) := by decide +kernel
theorem dX7_work_11 : decode cX7_work 11 = .ok (.invokevirtual 45, 3) := by decide +kernel
theorem dX7_work_14 : decode cX7_work 14 = .ok (.aload_n 0, 1) := by decide +kernel
theorem dX7_work_15 : decode cX7_work 15 = .ok (.iload_n 2, 1) := by decide +kernel
theorem dX7_work_16 : decode cX7_work 16 = .ok (.iconst 5, 1) := by decide +kernel
theorem dX7_work_17 : decode cX7_work 17 = .ok (.aload_n 0, 1) := by decide +kernel
theorem dX7_work_18 : decode cX7_work 18 = .ok (.iload_n 2, 1) := by decide +kernel
theorem dX7_work_19 : decode cX7_work 19 = .ok (.iconst 5, 1) := by decide +kernel
theorem dX7_work_20 : decode cX7_work 20 = .ok (.invokevirtual 35, 3) := by decide +kernel
theorem dX7_work_23 : decode cX7_work 23 = .ok (.iconst 1, 1) := by decide +kernel
theorem dX7_work_24 : decode cX7_work 24 = .ok (.iadd, 1) := by decide +kernel
theorem dX7_work_25 : decode cX7_work 25 = .ok (.invokevirtual 45, 3) := by decide +kernel
theorem dX7_work_28 : decode cX7_work 28 = .ok (.aload_n 0, 1) := by decide +kernel
theorem dX7_work_29 : decode cX7_work 29 = .ok (.getfield 7, 3) := by decide +kernel
theorem dX7_work_32 : decode cX7_work 32 = .ok (.bipush 22, 2) := by decide +kernel
theorem dX7_work_34 : decode cX7_work 34 = .ok (.iload_n 1, 1) := by decide +kernel
theorem dX7_work_35 : decode cX7_work 35 = .ok (.iadd, 1) := by decide +kernel
theorem dX7_work_36 : decode cX7_work 36 = .ok (.dup2, 1) := by decide +kernel
theorem dX7_work_37 : decode cX7_work 37 = .ok (.iaload, 1) := by decide +kernel
theorem dX7_work_38 : decode cX7_work 38 = .ok (.iconst 1, 1) := by decide +kernel
theorem dX7_work_39 : decode cX7_work 39 = .ok (.iadd, 1) := by decide +kernel
theorem dX7_work_40 : decode cX7_work 40 = .ok (.iastore, 1) := by decide +kernel
theorem dX7_work_41 : decode cX7_work 41 = .ok (.aload_n 0, 1) := by decide +kernel
theorem dX7_work_42 : decode cX7_work 42 = .ok (.getfield 7, 3) := by decide +kernel
theorem dX7_work_45 : decode cX7_work 45 = .ok (.bipush 19, 2) := by decide +kernel
theorem dX7_work_47 : decode cX7_work 47 = .ok (.iload_n 1, 1) := by decide +kernel
theorem dX7_work_48 : decode cX7_work 48 = .ok (.iadd, 1) := by decide +kernel
theorem dX7_work_49 : decode cX7_work 49 = .ok (.dup2, 1) := by decide +kernel
theorem dX7_work_50 : decode cX7_work 50 = .ok (.iaload, 1) := by decide +kernel
theorem dX7_work_51 : decode cX7_work 51 = .ok (.sipush 2520, 3) := by decide +kernel
theorem dX7_work_54 : decode cX7_work 54 = .ok (.aload_n 0, 1) := by decide +kernel
theorem dX7_work_55 : decode cX7_work 55 = .ok (.iload_n 1, 1) := by decide +kernel
theorem dX7_work_56 : decode cX7_work 56 = .ok (.iconst 0, 1) := by decide +kernel
theorem dX7_work_57 : decode cX7_work 57 = .ok (.invokevirtual 38, 3) := by decide +kernel
theorem dX7_work_60 : decode cX7_work 60 = .ok (.idiv, 1) := by decide +kernel
theorem dX7_work_61 : decode cX7_work 61 = .ok (.iadd, 1) := by decide +kernel
theorem dX7_work_62 : decode cX7_work 62 = .ok (.iastore, 1) := by decide +kernel
theorem dX7_work_63 : decode cX7_work 63 = .ok (.aload_n 0, 1) := by decide +kernel
theorem dX7_work_64 : decode cX7_work 64 = .ok (.iload_n 2, 1) := by decide +kernel
theorem dX7_work_65 : decode cX7_work 65 = .ok (.iconst 5, 1) := by decide +kernel
theorem dX7_work_66 : decode cX7_work 66 = .ok (.invokevirtual 35, 3) := by decide +kernel
theorem dX7_work_69 : decode cX7_work 69 = .ok (.aload_n 0, 1) := by decide +kernel
theorem dX7_work_70 : decode cX7_work 70 = .ok (.iload_n 2, 1) := by decide +kernel
theorem dX7_work_71 : decode cX7_work 71 = .ok (.iconst 2, 1) := by decide +kernel
theorem dX7_work_72 : decode cX7_work 72 = .ok (.invokevirtual 35, 3) := by decide +kernel
theorem dX7_work_75 : decode cX7_work 75 = .ok (.if_icmp .ge 5, 3) := by decide +kernel
theorem dX7_work_78 : decode cX7_work 78 = .ok (.iconst 0, 1) := by decide +kernel
theorem dX7_work_79 : decode cX7_work 79 = .ok (.ireturn, 1) := by decide +kernel
theorem dX7_work_80 : decode cX7_work 80 = .ok (.aload_n 0, 1) := by decide +kernel
theorem dX7_work_81 : decode cX7_work 81 = .ok (.iload_n 1, 1) := by decide +kernel
theorem dX7_work_82 : decode cX7_work 82 = .ok (.iconst 0, 1) := by decide +kernel
theorem dX7_work_83 : decode cX7_work 83 = .ok (.invokevirtual 63, 3) := by decide +kernel
theorem dX7_work_86 : decode cX7_work 86 = .ok (.aload_n 0, 1) := by decide +kernel
theorem dX7_work_87 : decode cX7_work 87 = .ok (.iload_n 2, 1) := by decide +kernel
theorem dX7_work_88 : decode cX7_work 88 = .ok (.iconst 3, 1) := by decide +kernel
theorem dX7_work_89 : decode cX7_work 89 = .ok (.iconst 2, 1) := by decide +kernel
theorem dX7_work_90 : decode cX7_work 90 = .ok (.invokevirtual 45, 3) := by decide +kernel
theorem dX7_work_93 : decode cX7_work 93 = .ok (.aload_n 0, 1) := by decide +kernel
theorem dX7_work_94 : decode cX7_work 94 = .ok (.iload_n 2, 1) := by decide +kernel
theorem dX7_work_95 : decode cX7_work 95 = .ok (.bipush 8, 2) := by decide +kernel
theorem dX7_work_97 : decode cX7_work 97 = .ok (.aload_n 0, 1) := by decide +kernel
theorem dX7_work_98 : decode cX7_work 98 = .ok (.getfield 7, 3) := by decide +kernel
theorem dX7_work_101 : decode cX7_work 101 = .ok (.bipush 67, 2) := by decide +kernel
theorem dX7_work_103 : decode cX7_work 103 = .ok (.iaload, 1) := by decide +kernel
theorem dX7_work_104 : decode cX7_work 104 = .ok (.invokevirtual 45, 3) := by decide +kernel
theorem dX7_work_107 : decode cX7_work 107 = .ok (.bipush 70, 2) := by decide +kernel
theorem dX7_work_109 : decode cX7_work 109 = .ok (.aload_n 0, 1) := by decide +kernel
theorem dX7_work_110 : decode cX7_work 110 = .ok (.iload_n 2, 1) := by decide +kernel
theorem dX7_work_111 : decode cX7_work 111 = .ok (.iconst 1, 1) := by decide +kernel
theorem dX7_work_112 : decode cX7_work 112 = .ok (.invokevirtual 35, 3) := by decide +kernel
theorem dX7_work_115 : decode cX7_work 115 = .ok (.iadd, 1) := by decide +kernel
theorem dX7_work_116 : decode cX7_work 116 = .ok (.istore_n 3, 1) := by decide +kernel
theorem dX7_work_117 : decode cX7_work 117 = .ok (.aload_n 0, 1) := by decide +kernel
theorem dX7_work_118 : decode cX7_work 118 = .ok (.getfield 7, 3) := by decide +kernel
theorem dX7_work_121 : decode cX7_work 121 = .ok (.iload_n 3, 1) := by decide +kernel
theorem dX7_work_122 : decode cX7_work 122 = .ok (.dup2, 1) := by decide +kernel
theorem dX7_work_123 : decode cX7_work 123 = .ok (.iaload, 1) := by decide +kernel
theorem dX7_work_124 : decode cX7_work 124 = .ok (.bipush 16, 2) := by decide +kernel
theorem dX7_work_126 : decode cX7_work 126 = .ok (.aload_n 0, 1) := by decide +kernel
theorem dX7_work_127 : decode cX7_work 127 = .ok (.iload_n 2, 1) := by decide +kernel
theorem dX7_work_128 : decode cX7_work 128 = .ok (.iconst 2, 1) := by decide +kernel
theorem dX7_work_129 : decode cX7_work 129 = .ok (.invokevirtual 35, 3) := by decide +kernel
theorem dX7_work_132 : decode cX7_work 132 = .ok (.imul, 1) := by decide +kernel
theorem dX7_work_133 : decode cX7_work 133 = .ok (.aload_n 0, 1) := by decide +kernel
theorem dX7_work_134 : decode cX7_work 134 = .ok (.getfield 7, 3) := by decide +kernel
theorem dX7_work_137 : decode cX7_work 137 = .ok (.iload_n 3, 1) := by decide +kernel
theorem dX7_work_138 : decode cX7_work 138 = .ok (.iaload, 1) := by decide +kernel
theorem dX7_work_139 : decode cX7_work 139 = .ok (.isub, 1) := by decide +kernel
theorem dX7_work_140 : decode cX7_work 140 = .ok (.iconst 4, 1) := by decide +kernel
theorem dX7_work_141 : decode cX7_work 141 = .ok (.idiv, 1) := by decide +kernel
theorem dX7_work_142 : decode cX7_work 142 = .ok (.iadd, 1) := by decide +kernel
theorem dX7_work_143 : decode cX7_work 143 = .ok (.iastore, 1) := by decide +kernel
theorem dX7_work_144 : decode cX7_work 144 = .ok (.aload_n 0, 1) := by decide +kernel
theorem dX7_work_145 : decode cX7_work 145 = .ok (.iload_n 2, 1) := by decide +kernel
theorem dX7_work_146 : decode cX7_work 146 = .ok (.iconst 4, 1) := by decide +kernel
theorem dX7_work_147 : decode cX7_work 147 = .ok (.invokevirtual 35, 3) := by decide +kernel
theorem dX7_work_150 : decode cX7_work 150 = .ok (.aload_n 0, 1) := by decide +kernel
theorem dX7_work_151 : decode cX7_work 151 = .ok (.iload_n 2, 1) := by decide +kernel
theorem dX7_work_152 : decode cX7_work 152 = .ok (.iconst 2, 1) := by decide +kernel
theorem dX7_work_153 : decode cX7_work 153 = .ok (.invokevirtual 35, 3) := by decide +kernel
theorem dX7_work_156 : decode cX7_work 156 = .ok (.isub, 1) := by decide +kernel
theorem dX7_work_157 : decode cX7_work 157 = .ok (.istore 4, 2) := by decide +kernel
theorem dX7_work_159 : decode cX7_work 159 = .ok (.iload 4, 2) := by decide +kernel
theorem dX7_work_161 : decode cX7_work 161 = .ok (.ifCond .le 13, 3) := by decide +kernel
theorem dX7_work_164 : decode cX7_work 164 = .ok (.aload_n 0, 1) := by decide +kernel
theorem dX7_work_165 : decode cX7_work 165 = .ok (.iload_n 1, 1) := by decide +kernel
theorem dX7_work_166 : decode cX7_work 166 = .ok (.iload 4, 2) := by decide +kernel
theorem dX7_work_168 : decode cX7_work 168 = .ok (.invokevirtual 66, 3) := by decide +kernel
theorem dX7_work_171 : decode cX7_work 171 = .ok (.goto 17, 3) := by decide +kernel
theorem dX7_work_174 : decode cX7_work 174 = .ok (.aload_n 0, 1) := by decide +kernel
theorem dX7_work_175 : decode cX7_work 175 = .ok (.getfield 7, 3) := by decide +kernel
theorem dX7_work_178 : decode cX7_work 178 = .ok (.bipush 16, 2) := by decide +kernel
theorem dX7_work_180 : decode cX7_work 180 = .ok (.iload_n 1, 1) := by decide +kernel
theorem dX7_work_181 : decode cX7_work 181 = .ok (.iadd, 1) := by decide +kernel
theorem dX7_work_182 : decode cX7_work 182 = .ok (.dup2, 1) := by decide +kernel
theorem dX7_work_183 : decode cX7_work 183 = .ok (.iaload, 1) := by decide +kernel
theorem dX7_work_184 : decode cX7_work 184 = .ok (.iload 4, 2) := by decide +kernel
theorem dX7_work_186 : decode cX7_work 186 = .ok (.iadd, 1) := by decide +kernel
theorem dX7_work_187 : decode cX7_work 187 = .ok (.iastore, 1) := by decide +kernel
theorem dX7_work_188 : decode cX7_work 188 = .ok (.iconst 1, 1) := by decide +kernel
theorem dX7_work_189 : decode cX7_work 189 = .ok (.ireturn, 1) := by decide +kernel
set_option maxRecDepth 20000 in
theorem ggX7_tick_X7_ofClass : GoodIn wsX7_tick wsX7_ofClass := goodIn_r _ [6, 1, 64, 65, 66, 67, 68, 69, 70, 71, 72] (by decide +kernel) (by decide +kernel)
set_option maxRecDepth 20000 in
theorem gX7_tick_X7_ofClass : GoodIn wsX7_tick (wsV RX7 38 RX7 yX7_ofClass wsX7_ofClass) := goodIn_app (goodIn_of _ (by decide +kernel)) ggX7_tick_X7_ofClass
set_option maxRecDepth 20000 in
theorem ggX7_tick_X7_addTokens : GoodIn wsX7_tick wsX7_addTokens := goodIn_r _ [10, 1, 2, 3, 4, 5, 6, 64, 65, 66, 67, 68, 69, 70, 71, 72] (by decide +kernel) (by decide +kernel)
set_option maxRecDepth 20000 in
theorem gX7_tick_X7_addTokens : GoodIn wsX7_tick (wsV RX7 66 RX7 yX7_addTokens wsX7_addTokens) := goodIn_app (goodIn_of _ (by decide +kernel)) ggX7_tick_X7_addTokens
set_option maxRecDepth 20000 in
theorem ggX7_tick_X7_of : GoodIn wsX7_tick wsX7_of := goodIn_r _ [14, 1, 64, 65, 66, 67, 68, 69, 70, 71, 72] (by decide +kernel) (by decide +kernel)
set_option maxRecDepth 20000 in
theorem gX7_tick_X7_of : GoodIn wsX7_tick (wsV RX7 35 RX7 yX7_of wsX7_of) := goodIn_app (goodIn_of _ (by decide +kernel)) ggX7_tick_X7_of
set_option maxRecDepth 20000 in
theorem ggX7_tick_X7_offerNow : GoodIn wsX7_tick wsX7_offerNow := goodIn_r _ [18, 11, 12, 13, 5, 14, 1, 19, 20, 21, 22, 23, 24, 25, 26, 27, 28, 29, 30, 2, 3, 4, 6, 31, 32, 33, 34, 35, 36, 37, 38, 39, 40, 41, 42, 43, 44, 45, 46, 47, 64, 65, 66, 67, 68, 69, 70, 71, 72] (by decide +kernel) (by decide +kernel)
set_option maxRecDepth 20000 in
theorem gX7_tick_X7_offerNow : GoodIn wsX7_tick (wsV RX7 69 RX7 yX7_offerNow wsX7_offerNow) := goodIn_app (goodIn_of _ (by decide +kernel)) ggX7_tick_X7_offerNow
set_option maxRecDepth 20000 in
theorem ggX7_tick_X7_refuseLate : GoodIn wsX7_tick wsX7_refuseLate := goodIn_r _ [51, 1, 35, 36, 37, 5, 38, 11, 12, 13, 14, 52, 53, 54, 55, 39, 40, 41, 42, 43, 19, 20, 21, 22, 7, 8, 9, 10, 2, 3, 4, 6, 64, 65, 66, 67, 68, 69, 70, 71, 72] (by decide +kernel) (by decide +kernel)
set_option maxRecDepth 20000 in
theorem gX7_tick_X7_refuseLate : GoodIn wsX7_tick (wsV RX7 72 RX7 yX7_refuseLate wsX7_refuseLate) := goodIn_app (goodIn_of _ (by decide +kernel)) ggX7_tick_X7_refuseLate
set_option maxRecDepth 20000 in
theorem ggX7_tick_X7_nextClass : GoodIn wsX7_tick wsX7_nextClass := goodIn_r _ [59, 43, 1, 64, 65, 66, 67, 68, 69, 70, 71, 72] (by decide +kernel) (by decide +kernel)
set_option maxRecDepth 20000 in
theorem gX7_tick_X7_nextClass : GoodIn wsX7_tick (wsV RX7 75 RX7 yX7_nextClass wsX7_nextClass) := goodIn_app (goodIn_of _ (by decide +kernel)) ggX7_tick_X7_nextClass
set_option maxRecDepth 20000 in
theorem ggX7_tick_X7_work : GoodIn wsX7_tick wsX7_work := goodIn_r _ [63, 1, 35, 36, 37, 5, 38, 19, 20, 21, 22, 11, 12, 13, 14, 2, 3, 4, 6, 52, 53, 54, 55, 7, 8, 9, 10, 64, 65, 66, 67, 68, 69, 70, 71, 72] (by decide +kernel) (by decide +kernel)
set_option maxRecDepth 20000 in
theorem gX7_tick_X7_work : GoodIn wsX7_tick (wsV RX7 79 RX7 yX7_work wsX7_work) := goodIn_app (goodIn_of _ (by decide +kernel)) ggX7_tick_X7_work
theorem dX7_tick_0 : decode cX7_tick 0 = .ok (.iconst 0, 1) := by decide +kernel
theorem dX7_tick_1 : decode cX7_tick 1 = .ok (.istore_n 1, 1) := by decide +kernel
theorem dX7_tick_2 : decode cX7_tick 2 = .ok (.iload_n 1, 1) := by decide +kernel
theorem dX7_tick_3 : decode cX7_tick 3 = .ok (.iconst 3, 1) := by decide +kernel
theorem dX7_tick_4 : decode cX7_tick 4 = .ok (.if_icmp .ge 20, 3) := by decide +kernel
theorem dX7_tick_7 : decode cX7_tick 7 = .ok (.aload_n 0, 1) := by decide +kernel
theorem dX7_tick_8 : decode cX7_tick 8 = .ok (.iload_n 1, 1) := by decide +kernel
theorem dX7_tick_9 : decode cX7_tick 9 = .ok (.aload_n 0, 1) := by decide +kernel
theorem dX7_tick_10 : decode cX7_tick 10 = .ok (.iload_n 1, 1) := by decide +kernel
theorem dX7_tick_11 : decode cX7_tick 11 = .ok (.iconst 1, 1) := by decide +kernel
theorem dX7_tick_12 : decode cX7_tick 12 = .ok (.invokevirtual 38, 3) := by decide +kernel
theorem dX7_tick_15 : decode cX7_tick 15 = .ok (.invokevirtual 66, 3) := by decide +kernel
theorem dX7_tick_18 : decode cX7_tick 18 = .ok (.iinc 1 1, 3) := by decide +kernel
theorem dX7_tick_21 : decode cX7_tick 21 = .ok (.goto (-19), 3) := by decide +kernel
theorem dX7_tick_24 : decode cX7_tick 24 = .ok (.iconst 0, 1) := by decide +kernel
theorem dX7_tick_25 : decode cX7_tick 25 = .ok (.istore_n 1, 1) := by decide +kernel
theorem dX7_tick_26 : decode cX7_tick 26 = .ok (.iload_n 1, 1) := by decide +kernel
theorem dX7_tick_27 : decode cX7_tick 27 = .ok (.aload_n 0, 1) := by decide +kernel
theorem dX7_tick_28 : decode cX7_tick 28 = .ok (.getfield 7, 3) := by decide +kernel
theorem dX7_tick_31 : decode cX7_tick 31 = .ok (.bipush 69, 2) := by decide +kernel
theorem dX7_tick_33 : decode cX7_tick 33 = .ok (.iaload, 1) := by decide +kernel
theorem dX7_tick_34 : decode cX7_tick 34 = .ok (.if_icmp .ge 42, 3) := by decide +kernel
theorem dX7_tick_37 : decode cX7_tick 37 = .ok (.aload_n 0, 1) := by decide +kernel
theorem dX7_tick_38 : decode cX7_tick 38 = .ok (.iload_n 1, 1) := by decide +kernel
theorem dX7_tick_39 : decode cX7_tick 39 = .ok (.iconst 3, 1) := by decide +kernel
theorem dX7_tick_40 : decode cX7_tick 40 = .ok (.invokevirtual 35, 3) := by decide +kernel
theorem dX7_tick_43 : decode cX7_tick 43 = .ok (.iconst 3, 1) := by decide +kernel
theorem dX7_tick_44 : decode cX7_tick 44 = .ok (.if_icmp .ne 26, 3) := by decide +kernel
theorem dX7_tick_47 : decode cX7_tick 47 = .ok (.aload_n 0, 1) := by decide +kernel
theorem dX7_tick_48 : decode cX7_tick 48 = .ok (.iload_n 1, 1) := by decide +kernel
theorem dX7_tick_49 : decode cX7_tick 49 = .ok (.bipush 8, 2) := by decide +kernel
theorem dX7_tick_51 : decode cX7_tick 51 = .ok (.invokevirtual 35, 3) := by decide +kernel
theorem dX7_tick_54 : decode cX7_tick 54 = .ok (.aload_n 0, 1) := by decide +kernel
theorem dX7_tick_55 : decode cX7_tick 55 = .ok (.getfield 7, 3) := by decide +kernel
theorem dX7_tick_58 : decode cX7_tick 58 = .ok (.bipush 67, 2) := by decide +kernel
theorem dX7_tick_60 : decode cX7_tick 60 = .ok (.iaload, 1) := by decide +kernel
theorem dX7_tick_61 : decode cX7_tick 61 = .ok (.if_icmp .gt 9, 3) := by decide +kernel
theorem dX7_tick_64 : decode cX7_tick 64 = .ok (.aload_n 0, 1) := by decide +kernel
theorem dX7_tick_65 : decode cX7_tick 65 = .ok (.iload_n 1, 1) := by decide +kernel
theorem dX7_tick_66 : decode cX7_tick 66 = .ok (.invokevirtual 69, 3) := by decide +kernel
theorem dX7_tick_69 : decode cX7_tick 69 = .ok (.pop, 1) := by decide +kernel
theorem dX7_tick_70 : decode cX7_tick 70 = .ok (.iinc 1 1, 3) := by decide +kernel
theorem dX7_tick_73 : decode cX7_tick 73 = .ok (.goto (-47), 3) := by decide +kernel
theorem dX7_tick_76 : decode cX7_tick 76 = .ok (.iconst 0, 1) := by decide +kernel
theorem dX7_tick_77 : decode cX7_tick 77 = .ok (.istore_n 1, 1) := by decide +kernel
theorem dX7_tick_78 : decode cX7_tick 78 = .ok (.iload_n 1, 1) := by decide +kernel
theorem dX7_tick_79 : decode cX7_tick 79 = .ok (.iconst 3, 1) := by decide +kernel
theorem dX7_tick_80 : decode cX7_tick 80 = .ok (.if_icmp .ge 14, 3) := by decide +kernel
theorem dX7_tick_83 : decode cX7_tick 83 = .ok (.aload_n 0, 1) := by decide +kernel
theorem dX7_tick_84 : decode cX7_tick 84 = .ok (.iload_n 1, 1) := by decide +kernel
theorem dX7_tick_85 : decode cX7_tick 85 = .ok (.invokevirtual 72, 3) := by decide +kernel
theorem dX7_tick_88 : decode cX7_tick 88 = .ok (.iinc 1 1, 3) := by decide +kernel
theorem dX7_tick_91 : decode cX7_tick 91 = .ok (.goto (-13), 3) := by decide +kernel
theorem dX7_tick_94 : decode cX7_tick 94 = .ok (.iconst 0, 1) := by decide +kernel
theorem dX7_tick_95 : decode cX7_tick 95 = .ok (.istore_n 1, 1) := by decide +kernel
theorem dX7_tick_96 : decode cX7_tick 96 = .ok (.iconst 0, 1) := by decide +kernel
theorem dX7_tick_97 : decode cX7_tick 97 = .ok (.istore_n 2, 1) := by decide +kernel
theorem dX7_tick_98 : decode cX7_tick 98 = .ok (.iload_n 2, 1) := by decide +kernel
theorem dX7_tick_99 : decode cX7_tick 99 = .ok (.aload_n 0, 1) := by decide +kernel
theorem dX7_tick_100 : decode cX7_tick 100 = .ok (.getfield 7, 3) := by decide +kernel
theorem dX7_tick_103 : decode cX7_tick 103 = .ok (.iconst 0, 1) := by decide +kernel
theorem dX7_tick_104 : decode cX7_tick 104 = .ok (.iaload, 1) := by decide +kernel
theorem dX7_tick_105 : decode cX7_tick 105 = .ok (.if_icmp .ge 48, 3) := by decide +kernel
theorem dX7_tick_108 : decode cX7_tick 108 = .ok (.aload_n 0, 1) := by decide +kernel
theorem dX7_tick_109 : decode cX7_tick 109 = .ok (.invokevirtual 75, 3) := by decide +kernel
theorem dX7_tick_112 : decode cX7_tick 112 = .ok (.istore_n 3, 1) := by decide +kernel
theorem dX7_tick_113 : decode cX7_tick 113 = .ok (.iload_n 3, 1) := by decide +kernel
theorem dX7_tick_114 : decode cX7_tick 114 = .ok (.ifCond .ge 17, 3) := by decide +kernel
theorem dX7_tick_117 : decode cX7_tick 117 = .ok (.aload_n 0, 1) := by decide +kernel
theorem dX7_tick_118 : decode cX7_tick 118 = .ok (.getfield 7, 3) := by decide +kernel
theorem dX7_tick_121 : decode cX7_tick 121 = .ok (.bipush 68, 2) := by decide +kernel
theorem dX7_tick_123 : decode cX7_tick 123 = .ok (.dup2, 1) := by decide +kernel
theorem dX7_tick_124 : decode cX7_tick 124 = .ok (.iaload, 1) := by decide +kernel
theorem dX7_tick_125 : decode cX7_tick 125 = .ok (.iconst 1, 1) := by decide +kernel
theorem dX7_tick_126 : decode cX7_tick 126 = .ok (.iadd, 1) := by decide +kernel
theorem dX7_tick_127 : decode cX7_tick 127 = .ok (.iastore, 1) := by decide +kernel
theorem dX7_tick_128 : decode cX7_tick 128 = .ok (.goto 19, 3) := by decide +kernel
theorem dX7_tick_131 : decode cX7_tick 131 = .ok (.iload_n 1, 1) := by decide +kernel
theorem dX7_tick_132 : decode cX7_tick 132 = .ok (.aload_n 0, 1) := by decide +kernel
theorem dX7_tick_133 : decode cX7_tick 133 = .ok (.iload_n 3, 1) := by decide +kernel
theorem dX7_tick_134 : decode cX7_tick 134 = .ok (.invokevirtual 79, 3) := by decide +kernel
theorem dX7_tick_137 : decode cX7_tick 137 = .ok (.ifCond .eq 7, 3) := by decide +kernel
theorem dX7_tick_140 : decode cX7_tick 140 = .ok (.iconst 1, 1) := by decide +kernel
theorem dX7_tick_141 : decode cX7_tick 141 = .ok (.goto 4, 3) := by decide +kernel
theorem dX7_tick_144 : decode cX7_tick 144 = .ok (.iconst 0, 1) := by decide +kernel
theorem dX7_tick_145 : decode cX7_tick 145 = .ok (.iadd, 1) := by decide +kernel
theorem dX7_tick_146 : decode cX7_tick 146 = .ok (.istore_n 1, 1) := by decide +kernel
theorem dX7_tick_147 : decode cX7_tick 147 = .ok (.iinc 2 1, 3) := by decide +kernel
theorem dX7_tick_150 : decode cX7_tick 150 = .ok (.goto (-52), 3) := by decide +kernel
theorem dX7_tick_153 : decode cX7_tick 153 = .ok (.aload_n 0, 1) := by decide +kernel
theorem dX7_tick_154 : decode cX7_tick 154 = .ok (.getfield 7, 3) := by decide +kernel
theorem dX7_tick_157 : decode cX7_tick 157 = .ok (.bipush 67, 2) := by decide +kernel
theorem dX7_tick_159 : decode cX7_tick 159 = .ok (.dup2, 1) := by decide +kernel
theorem dX7_tick_160 : decode cX7_tick 160 = .ok (.iaload, 1) := by decide +kernel
theorem dX7_tick_161 : decode cX7_tick 161 = .ok (.iconst 1, 1) := by decide +kernel
theorem dX7_tick_162 : decode cX7_tick 162 = .ok (.iadd, 1) := by decide +kernel
theorem dX7_tick_163 : decode cX7_tick 163 = .ok (.iastore, 1) := by decide +kernel
theorem dX7_tick_164 : decode cX7_tick 164 = .ok (.iload_n 1, 1) := by decide +kernel
theorem dX7_tick_165 : decode cX7_tick 165 = .ok (.ireturn, 1) := by decide +kernel
theorem dX7_lowest_0 : decode cX7_lowest 0 = .ok (.iload_n 0, 1) := by decide +kernel
theorem dX7_lowest_1 : decode cX7_lowest 1 = .ok (.iconst 3, 1) := by decide +kernel
theorem dX7_lowest_2 : decode cX7_lowest 2 = .ok (.if_icmp .ne 7, 3) := by decide +kernel
theorem dX7_lowest_5 : decode cX7_lowest 5 = .ok (.iconst 0, 1) := by decide +kernel
theorem dX7_lowest_6 : decode cX7_lowest 6 = .ok (.goto 4, 3) := by decide +kernel
theorem dX7_lowest_9 : decode cX7_lowest 9 = .ok (.iconst 1, 1) := by decide +kernel
theorem dX7_lowest_10 : decode cX7_lowest 10 = .ok (.ireturn, 1) := by decide +kernel
theorem dX7_highest_0 : decode cX7_highest 0 = .ok (.iload_n 0, 1) := by decide +kernel
theorem dX7_highest_1 : decode cX7_highest 1 = .ok (.iconst 1, 1) := by decide +kernel
theorem dX7_highest_2 : decode cX7_highest 2 = .ok (.if_icmp .ne 8, 3) := by decide +kernel
theorem dX7_highest_5 : decode cX7_highest 5 = .ok (.bipush 60, 2) := by decide +kernel
theorem dX7_highest_7 : decode cX7_highest 7 = .ok (.goto 14, 3) := by decide +kernel
theorem dX7_highest_10 : decode cX7_highest 10 = .ok (.iload_n 0, 1) := by decide +kernel
theorem dX7_highest_11 : decode cX7_highest 11 = .ok (.iconst 3, 1) := by decide +kernel
theorem dX7_highest_12 : decode cX7_highest 12 = .ok (.if_icmp .ne 7, 3) := by decide +kernel
theorem dX7_highest_15 : decode cX7_highest 15 = .ok (.iconst 4, 1) := by decide +kernel
theorem dX7_highest_16 : decode cX7_highest 16 = .ok (.goto 5, 3) := by decide +kernel
theorem dX7_highest_19 : decode cX7_highest 19 = .ok (.bipush 20, 2) := by decide +kernel
theorem dX7_highest_21 : decode cX7_highest 21 = .ok (.ireturn, 1) := by decide +kernel
set_option maxRecDepth 20000 in
theorem ggX7_set_X7_in : GoodIn wsX7_set wsX7_in := goodIn_r _ [7] (by decide +kernel) (by decide +kernel)
set_option maxRecDepth 20000 in
theorem gX7_set_X7_in : GoodIn wsX7_set (va_wsS RX7 22 yX7_in wsX7_in) := goodIn_app (goodIn_of _ (by decide +kernel)) ggX7_set_X7_in
set_option maxRecDepth 20000 in
theorem ggX7_set_X7_lowest : GoodIn wsX7_set wsX7_lowest := goodIn_r _ [10] (by decide +kernel) (by decide +kernel)
set_option maxRecDepth 20000 in
theorem gX7_set_X7_lowest : GoodIn wsX7_set (va_wsS RX7 84 yX7_lowest wsX7_lowest) := goodIn_app (goodIn_of _ (by decide +kernel)) ggX7_set_X7_lowest
set_option maxRecDepth 20000 in
theorem ggX7_set_X7_highest : GoodIn wsX7_set wsX7_highest := goodIn_r _ [13] (by decide +kernel) (by decide +kernel)
set_option maxRecDepth 20000 in
theorem gX7_set_X7_highest : GoodIn wsX7_set (va_wsS RX7 87 yX7_highest wsX7_highest) := goodIn_app (goodIn_of _ (by decide +kernel)) ggX7_set_X7_highest
set_option maxRecDepth 20000 in
theorem ggX7_set_X7_record : GoodIn wsX7_set wsX7_record := goodIn_r _ [17, 18, 19, 3, 20, 21, 22, 23, 24, 25, 26, 27, 28] (by decide +kernel) (by decide +kernel)
set_option maxRecDepth 20000 in
theorem gX7_set_X7_record : GoodIn wsX7_set (wsV RX7 91 RX7 yX7_record wsX7_record) := goodIn_app (goodIn_of _ (by decide +kernel)) ggX7_set_X7_record
theorem dX7_set_0 : decode cX7_set 0 = .ok (.iload_n 1, 1) := by decide +kernel
theorem dX7_set_1 : decode cX7_set 1 = .ok (.iconst 0, 1) := by decide +kernel
theorem dX7_set_2 : decode cX7_set 2 = .ok (.iconst 3, 1) := by decide +kernel
theorem dX7_set_3 : decode cX7_set 3 = .ok (.invokestatic 22, 3) := by decide +kernel
theorem dX7_set_6 : decode cX7_set 6 = .ok (.ifCond .ne 6, 3) := by decide +kernel
theorem dX7_set_9 : decode cX7_set 9 = .ok (.ldc 83, 2) := by decide +kernel
theorem dX7_set_11 : decode cX7_set 11 = .ok (.ireturn, 1) := by decide +kernel
theorem dX7_set_12 : decode cX7_set 12 = .ok (.iload_n 2, 1) := by decide +kernel
theorem dX7_set_13 : decode cX7_set 13 = .ok (.iload_n 1, 1) := by decide +kernel
theorem dX7_set_14 : decode cX7_set 14 = .ok (.invokestatic 84, 3) := by decide +kernel
theorem dX7_set_17 : decode cX7_set 17 = .ok (.iload_n 1, 1) := by decide +kernel
theorem dX7_set_18 : decode cX7_set 18 = .ok (.invokestatic 87, 3) := by decide +kernel
theorem dX7_set_21 : decode cX7_set 21 = .ok (.invokestatic 22, 3) := by decide +kernel
theorem dX7_set_24 : decode cX7_set 24 = .ok (.ifCond .ne 6, 3) := by decide +kernel
theorem dX7_set_27 : decode cX7_set 27 = .ok (.ldc 90, 2) := by decide +kernel
theorem dX7_set_29 : decode cX7_set 29 = .ok (.ireturn, 1) := by decide +kernel
theorem dX7_set_30 : decode cX7_set 30 = .ok (.aload_n 0, 1) := by decide +kernel
theorem dX7_set_31 : decode cX7_set 31 = .ok (.invokevirtual 91, 3) := by decide +kernel
theorem dX7_set_34 : decode cX7_set 34 = .ok (.aload_n 0, 1) := by decide +kernel
theorem dX7_set_35 : decode cX7_set 35 = .ok (.getfield 7, 3) := by decide +kernel
theorem dX7_set_38 : decode cX7_set 38 = .ok (.iconst 0, 1) := by decide +kernel
theorem dX7_set_39 : decode cX7_set 39 = .ok (.iload_n 1, 1) := by decide +kernel
theorem dX7_set_40 : decode cX7_set 40 = .ok (.iadd, 1) := by decide +kernel
theorem dX7_set_41 : decode cX7_set 41 = .ok (.iaload, 1) := by decide +kernel
theorem dX7_set_42 : decode cX7_set 42 = .ok (.istore_n 3, 1) := by decide +kernel
theorem dX7_set_43 : decode cX7_set 43 = .ok (.aload_n 0, 1) := by decide +kernel
theorem dX7_set_44 : decode cX7_set 44 = .ok (.getfield 7, 3) := by decide +kernel
theorem dX7_set_47 : decode cX7_set 47 = .ok (.iconst 0, 1) := by decide +kernel
theorem dX7_set_48 : decode cX7_set 48 = .ok (.iload_n 1, 1) := by decide +kernel
theorem dX7_set_49 : decode cX7_set 49 = .ok (.iadd, 1) := by decide +kernel
theorem dX7_set_50 : decode cX7_set 50 = .ok (.iload_n 2, 1) := by decide +kernel
theorem dX7_set_51 : decode cX7_set 51 = .ok (.iastore, 1) := by decide +kernel
theorem dX7_set_52 : decode cX7_set 52 = .ok (.iload_n 3, 1) := by decide +kernel
theorem dX7_set_53 : decode cX7_set 53 = .ok (.ireturn, 1) := by decide +kernel
theorem dX7_highestOfClass_0 : decode cX7_highestOfClass 0 = .ok (.iload_n 0, 1) := by decide +kernel
theorem dX7_highestOfClass_1 : decode cX7_highestOfClass 1 = .ok (.ifCond .ne 8, 3) := by decide +kernel
theorem dX7_highestOfClass_4 : decode cX7_highestOfClass 4 = .ok (.bipush 9, 2) := by decide +kernel
theorem dX7_highestOfClass_6 : decode cX7_highestOfClass 6 = .ok (.goto 15, 3) := by decide +kernel
theorem dX7_highestOfClass_9 : decode cX7_highestOfClass 9 = .ok (.iload_n 0, 1) := by decide +kernel
theorem dX7_highestOfClass_10 : decode cX7_highestOfClass 10 = .ok (.iconst 1, 1) := by decide +kernel
theorem dX7_highestOfClass_11 : decode cX7_highestOfClass 11 = .ok (.if_icmp .ne 8, 3) := by decide +kernel
theorem dX7_highestOfClass_14 : decode cX7_highestOfClass 14 = .ok (.bipush 20, 2) := by decide +kernel
theorem dX7_highestOfClass_16 : decode cX7_highestOfClass 16 = .ok (.goto 5, 3) := by decide +kernel
theorem dX7_highestOfClass_19 : decode cX7_highestOfClass 19 = .ok (.bipush 99, 2) := by decide +kernel
theorem dX7_highestOfClass_21 : decode cX7_highestOfClass 21 = .ok (.ireturn, 1) := by decide +kernel
set_option maxRecDepth 20000 in
theorem ggX7_setClass_X7_isClass : GoodIn wsX7_setClass wsX7_isClass := goodIn_r _ [7, 8, 9, 6, 10] (by decide +kernel) (by decide +kernel)
set_option maxRecDepth 20000 in
theorem gX7_setClass_X7_isClass : GoodIn wsX7_setClass (va_wsS RX7 94 yX7_isClass wsX7_isClass) := goodIn_app (goodIn_of _ (by decide +kernel)) ggX7_setClass_X7_isClass
set_option maxRecDepth 20000 in
theorem ggX7_setClass_X7_in : GoodIn wsX7_setClass wsX7_in := goodIn_r _ [10] (by decide +kernel) (by decide +kernel)
set_option maxRecDepth 20000 in
theorem gX7_setClass_X7_in : GoodIn wsX7_setClass (va_wsS RX7 22 yX7_in wsX7_in) := goodIn_app (goodIn_of _ (by decide +kernel)) ggX7_setClass_X7_in
set_option maxRecDepth 20000 in
theorem ggX7_setClass_X7_highestOfClass : GoodIn wsX7_setClass wsX7_highestOfClass := goodIn_r _ [13] (by decide +kernel) (by decide +kernel)
set_option maxRecDepth 20000 in
theorem gX7_setClass_X7_highestOfClass : GoodIn wsX7_setClass (va_wsS RX7 97 yX7_highestOfClass wsX7_highestOfClass) := goodIn_app (goodIn_of _ (by decide +kernel)) ggX7_setClass_X7_highestOfClass
set_option maxRecDepth 20000 in
theorem ggX7_setClass_X7_record : GoodIn wsX7_setClass wsX7_record := goodIn_r _ [17, 18, 19, 3, 24, 25, 26, 27, 28, 29, 30, 31, 32] (by decide +kernel) (by decide +kernel)
set_option maxRecDepth 20000 in
theorem gX7_setClass_X7_record : GoodIn wsX7_setClass (wsV RX7 91 RX7 yX7_record wsX7_record) := goodIn_app (goodIn_of _ (by decide +kernel)) ggX7_setClass_X7_record
set_option maxRecDepth 20000 in
theorem ggX7_setClass_X7_ofClass : GoodIn wsX7_setClass wsX7_ofClass := goodIn_r _ [23, 3, 24, 25, 26, 27, 28, 29, 30, 31, 32] (by decide +kernel) (by decide +kernel)
set_option maxRecDepth 20000 in
theorem gX7_setClass_X7_ofClass : GoodIn wsX7_setClass (wsV RX7 38 RX7 yX7_ofClass wsX7_ofClass) := goodIn_app (goodIn_of _ (by decide +kernel)) ggX7_setClass_X7_ofClass
theorem dX7_setClass_0 : decode cX7_setClass 0 = .ok (.iload_n 1, 1) := by decide +kernel
theorem dX7_setClass_1 : decode cX7_setClass 1 = .ok (.invokestatic 94, 3) := by decide +kernel
theorem dX7_setClass_4 : decode cX7_setClass 4 = .ok (.ifCond .eq 12, 3) := by decide +kernel
theorem dX7_setClass_7 : decode cX7_setClass 7 = .ok (.iload_n 2, 1) := by decide +kernel
theorem dX7_setClass_8 : decode cX7_setClass 8 = .ok (.iconst 0, 1) := by decide +kernel
theorem dX7_setClass_9 : decode cX7_setClass 9 = .ok (.iconst 3, 1) := by decide +kernel
theorem dX7_setClass_10 : decode cX7_setClass 10 = .ok (.invokestatic 22, 3) := by decide +kernel
theorem dX7_setClass_13 : decode cX7_setClass 13 = .ok (.ifCond .ne 6, 3) := by decide +kernel
theorem dX7_setClass_16 : decode cX7_setClass 16 = .ok (.ldc 83, 2) := by decide +kernel
theorem dX7_setClass_18 : decode cX7_setClass 18 = .ok (.ireturn, 1) := by decide +kernel
theorem dX7_setClass_19 : decode cX7_setClass 19 = .ok (.iload_n 3, 1) := by decide +kernel
theorem dX7_setClass_20 : decode cX7_setClass 20 = .ok (.iload_n 2, 1) := by decide +kernel
theorem dX7_setClass_21 : decode cX7_setClass 21 = .ok (.iconst 1, 1) := by decide +kernel
theorem dX7_setClass_22 : decode cX7_setClass 22 = .ok (.if_icmp .ne 7, 3) := by decide +kernel
theorem dX7_setClass_25 : decode cX7_setClass 25 = .ok (.iconst 0, 1) := by decide +kernel
theorem dX7_setClass_26 : decode cX7_setClass 26 = .ok (.goto 4, 3) := by decide +kernel
theorem dX7_setClass_29 : decode cX7_setClass 29 = .ok (.iconst 1, 1) := by decide +kernel
theorem dX7_setClass_30 : decode cX7_setClass 30 = .ok (.iload_n 2, 1) := by decide +kernel
theorem dX7_setClass_31 : decode cX7_setClass 31 = .ok (.invokestatic 97, 3) := by decide +kernel
theorem dX7_setClass_34 : decode cX7_setClass 34 = .ok (.invokestatic 22, 3) := by decide +kernel
theorem dX7_setClass_37 : decode cX7_setClass 37 = .ok (.ifCond .ne 6, 3) := by decide +kernel
theorem dX7_setClass_40 : decode cX7_setClass 40 = .ok (.ldc 90, 2) := by decide +kernel
theorem dX7_setClass_42 : decode cX7_setClass 42 = .ok (.ireturn, 1) := by decide +kernel
theorem dX7_setClass_43 : decode cX7_setClass 43 = .ok (.aload_n 0, 1) := by decide +kernel
theorem dX7_setClass_44 : decode cX7_setClass 44 = .ok (.invokevirtual 91, 3) := by decide +kernel
theorem dX7_setClass_47 : decode cX7_setClass 47 = .ok (.aload_n 0, 1) := by decide +kernel
theorem dX7_setClass_48 : decode cX7_setClass 48 = .ok (.iload_n 1, 1) := by decide +kernel
theorem dX7_setClass_49 : decode cX7_setClass 49 = .ok (.iload_n 2, 1) := by decide +kernel
theorem dX7_setClass_50 : decode cX7_setClass 50 = .ok (.invokevirtual 38, 3) := by decide +kernel
theorem dX7_setClass_53 : decode cX7_setClass 53 = .ok (.istore 4, 2) := by decide +kernel
theorem dX7_setClass_55 : decode cX7_setClass 55 = .ok (.aload_n 0, 1) := by decide +kernel
theorem dX7_setClass_56 : decode cX7_setClass 56 = .ok (.getfield 7, 3) := by decide +kernel
theorem dX7_setClass_59 : decode cX7_setClass 59 = .ok (.iconst 4, 1) := by decide +kernel
theorem dX7_setClass_60 : decode cX7_setClass 60 = .ok (.iconst 4, 1) := by decide +kernel
theorem dX7_setClass_61 : decode cX7_setClass 61 = .ok (.iload_n 1, 1) := by decide +kernel
theorem dX7_setClass_62 : decode cX7_setClass 62 = .ok (.imul, 1) := by decide +kernel
theorem dX7_setClass_63 : decode cX7_setClass 63 = .ok (.iadd, 1) := by decide +kernel
theorem dX7_setClass_64 : decode cX7_setClass 64 = .ok (.iload_n 2, 1) := by decide +kernel
theorem dX7_setClass_65 : decode cX7_setClass 65 = .ok (.iadd, 1) := by decide +kernel
theorem dX7_setClass_66 : decode cX7_setClass 66 = .ok (.iload_n 3, 1) := by decide +kernel
theorem dX7_setClass_67 : decode cX7_setClass 67 = .ok (.iastore, 1) := by decide +kernel
theorem dX7_setClass_68 : decode cX7_setClass 68 = .ok (.iload 4, 2) := by decide +kernel
theorem dX7_setClass_70 : decode cX7_setClass 70 = .ok (.ireturn, 1) := by decide +kernel
set_option maxRecDepth 20000 in
theorem ggX7_noOffer_X7_isClass : GoodIn wsX7_noOffer wsX7_isClass := goodIn_r _ [8, 9, 10, 7, 11] (by decide +kernel) (by decide +kernel)
set_option maxRecDepth 20000 in
theorem gX7_noOffer_X7_isClass : GoodIn wsX7_noOffer (va_wsS RX7 94 yX7_isClass wsX7_isClass) := goodIn_app (goodIn_of _ (by decide +kernel)) ggX7_noOffer_X7_isClass
set_option maxRecDepth 20000 in
theorem ggX7_noOffer_X7_isShape : GoodIn wsX7_noOffer wsX7_isShape := goodIn_r _ [14, 9, 10, 7, 11] (by decide +kernel) (by decide +kernel)
set_option maxRecDepth 20000 in
theorem gX7_noOffer_X7_isShape : GoodIn wsX7_noOffer (va_wsS RX7 100 yX7_isShape wsX7_isShape) := goodIn_app (goodIn_of _ (by decide +kernel)) ggX7_noOffer_X7_isShape
set_option maxRecDepth 20000 in
theorem ggX7_noOffer_X7_in : GoodIn wsX7_noOffer wsX7_in := goodIn_r _ [11] (by decide +kernel) (by decide +kernel)
set_option maxRecDepth 20000 in
theorem gX7_noOffer_X7_in : GoodIn wsX7_noOffer (va_wsS RX7 22 yX7_in wsX7_in) := goodIn_app (goodIn_of _ (by decide +kernel)) ggX7_noOffer_X7_in
theorem dX7_noOffer_0 : decode cX7_noOffer 0 = .ok (.iload_n 1, 1) := by decide +kernel
theorem dX7_noOffer_1 : decode cX7_noOffer 1 = .ok (.invokestatic 94, 3) := by decide +kernel
theorem dX7_noOffer_4 : decode cX7_noOffer 4 = .ok (.ifCond .eq 10, 3) := by decide +kernel
theorem dX7_noOffer_7 : decode cX7_noOffer 7 = .ok (.iload_n 2, 1) := by decide +kernel
theorem dX7_noOffer_8 : decode cX7_noOffer 8 = .ok (.invokestatic 100, 3) := by decide +kernel
theorem dX7_noOffer_11 : decode cX7_noOffer 11 = .ok (.ifCond .ne 6, 3) := by decide +kernel
theorem dX7_noOffer_14 : decode cX7_noOffer 14 = .ok (.ldc 83, 2) := by decide +kernel
theorem dX7_noOffer_16 : decode cX7_noOffer 16 = .ok (.ireturn, 1) := by decide +kernel
theorem dX7_noOffer_17 : decode cX7_noOffer 17 = .ok (.iload_n 3, 1) := by decide +kernel
theorem dX7_noOffer_18 : decode cX7_noOffer 18 = .ok (.iconst 1, 1) := by decide +kernel
theorem dX7_noOffer_19 : decode cX7_noOffer 19 = .ok (.bipush 60, 2) := by decide +kernel
theorem dX7_noOffer_21 : decode cX7_noOffer 21 = .ok (.invokestatic 22, 3) := by decide +kernel
theorem dX7_noOffer_24 : decode cX7_noOffer 24 = .ok (.ifCond .ne 6, 3) := by decide +kernel
theorem dX7_noOffer_27 : decode cX7_noOffer 27 = .ok (.ldc 90, 2) := by decide +kernel
theorem dX7_noOffer_29 : decode cX7_noOffer 29 = .ok (.ireturn, 1) := by decide +kernel
theorem dX7_noOffer_30 : decode cX7_noOffer 30 = .ok (.aload_n 0, 1) := by decide +kernel
theorem dX7_noOffer_31 : decode cX7_noOffer 31 = .ok (.getfield 7, 3) := by decide +kernel
theorem dX7_noOffer_34 : decode cX7_noOffer 34 = .ok (.bipush 69, 2) := by decide +kernel
theorem dX7_noOffer_36 : decode cX7_noOffer 36 = .ok (.iaload, 1) := by decide +kernel
theorem dX7_noOffer_37 : decode cX7_noOffer 37 = .ok (.bipush 32, 2) := by decide +kernel
theorem dX7_noOffer_39 : decode cX7_noOffer 39 = .ok (.if_icmp .ne 8, 3) := by decide +kernel
theorem dX7_noOffer_42 : decode cX7_noOffer 42 = .ok (.ldc 103, 2) := by decide +kernel
theorem dX7_noOffer_44 : decode cX7_noOffer 44 = .ok (.goto 4, 3) := by decide +kernel
theorem dX7_noOffer_47 : decode cX7_noOffer 47 = .ok (.iconst 0, 1) := by decide +kernel
theorem dX7_noOffer_48 : decode cX7_noOffer 48 = .ok (.ireturn, 1) := by decide +kernel
set_option maxRecDepth 20000 in
theorem ggX7_doOffer_X7_put : GoodIn wsX7_doOffer wsX7_put := goodIn_r _ [6, 1, 44, 45, 46, 47, 48, 49, 50, 51, 52] (by decide +kernel) (by decide +kernel)
set_option maxRecDepth 20000 in
theorem gX7_doOffer_X7_put : GoodIn wsX7_doOffer (wsV RX7 45 RX7 yX7_put wsX7_put) := goodIn_app (goodIn_of _ (by decide +kernel)) ggX7_doOffer_X7_put
set_option maxRecDepth 20000 in
theorem ggX7_doOffer_X7_offerNow : GoodIn wsX7_doOffer wsX7_offerNow := goodIn_r _ [10, 11, 12, 13, 5, 14, 1, 2, 3, 4, 6, 15, 16, 17, 18, 19, 20, 21, 22, 23, 24, 25, 26, 27, 28, 29, 30, 31, 32, 33, 34, 35, 36, 37, 38, 39, 40, 41, 42, 43, 44, 45, 46, 47, 48, 49, 50, 51, 52] (by decide +kernel) (by decide +kernel)
set_option maxRecDepth 20000 in
theorem gX7_doOffer_X7_offerNow : GoodIn wsX7_doOffer (wsV RX7 69 RX7 yX7_offerNow wsX7_offerNow) := goodIn_app (goodIn_of _ (by decide +kernel)) ggX7_doOffer_X7_offerNow
theorem dX7_doOffer_0 : decode cX7_doOffer 0 = .ok (.aload_n 0, 1) := by decide +kernel
theorem dX7_doOffer_1 : decode cX7_doOffer 1 = .ok (.getfield 7, 3) := by decide +kernel
theorem dX7_doOffer_4 : decode cX7_doOffer 4 = .ok (.bipush 69, 2) := by decide +kernel
theorem dX7_doOffer_6 : decode cX7_doOffer 6 = .ok (.iaload, 1) := by decide +kernel
theorem dX7_doOffer_7 : decode cX7_doOffer 7 = .ok (.istore 4, 2) := by decide +kernel
theorem dX7_doOffer_9 : decode cX7_doOffer 9 = .ok (.aload_n 0, 1) := by decide +kernel
theorem dX7_doOffer_10 : decode cX7_doOffer 10 = .ok (.getfield 7, 3) := by decide +kernel
theorem dX7_doOffer_13 : decode cX7_doOffer 13 = .ok (.bipush 69, 2) := by decide +kernel
theorem dX7_doOffer_15 : decode cX7_doOffer 15 = .ok (.dup2, 1) := by decide +kernel
theorem dX7_doOffer_16 : decode cX7_doOffer 16 = .ok (.iaload, 1) := by decide +kernel
theorem dX7_doOffer_17 : decode cX7_doOffer 17 = .ok (.iconst 1, 1) := by decide +kernel
theorem dX7_doOffer_18 : decode cX7_doOffer 18 = .ok (.iadd, 1) := by decide +kernel
theorem dX7_doOffer_19 : decode cX7_doOffer 19 = .ok (.iastore, 1) := by decide +kernel
theorem dX7_doOffer_20 : decode cX7_doOffer 20 = .ok (.aload_n 0, 1) := by decide +kernel
theorem dX7_doOffer_21 : decode cX7_doOffer 21 = .ok (.iload 4, 2) := by decide +kernel
theorem dX7_doOffer_23 : decode cX7_doOffer 23 = .ok (.iconst 0, 1) := by decide +kernel
theorem dX7_doOffer_24 : decode cX7_doOffer 24 = .ok (.iload_n 1, 1) := by decide +kernel
theorem dX7_doOffer_25 : decode cX7_doOffer 25 = .ok (.invokevirtual 45, 3) := by decide +kernel
theorem dX7_doOffer_28 : decode cX7_doOffer 28 = .ok (.aload_n 0, 1) := by decide +kernel
theorem dX7_doOffer_29 : decode cX7_doOffer 29 = .ok (.iload 4, 2) := by decide +kernel
theorem dX7_doOffer_31 : decode cX7_doOffer 31 = .ok (.iconst 1, 1) := by decide +kernel
theorem dX7_doOffer_32 : decode cX7_doOffer 32 = .ok (.iload_n 2, 1) := by decide +kernel
theorem dX7_doOffer_33 : decode cX7_doOffer 33 = .ok (.invokevirtual 45, 3) := by decide +kernel
theorem dX7_doOffer_36 : decode cX7_doOffer 36 = .ok (.aload_n 0, 1) := by decide +kernel
theorem dX7_doOffer_37 : decode cX7_doOffer 37 = .ok (.iload 4, 2) := by decide +kernel
theorem dX7_doOffer_39 : decode cX7_doOffer 39 = .ok (.iconst 2, 1) := by decide +kernel
theorem dX7_doOffer_40 : decode cX7_doOffer 40 = .ok (.iload_n 3, 1) := by decide +kernel
theorem dX7_doOffer_41 : decode cX7_doOffer 41 = .ok (.invokevirtual 45, 3) := by decide +kernel
theorem dX7_doOffer_44 : decode cX7_doOffer 44 = .ok (.aload_n 0, 1) := by decide +kernel
theorem dX7_doOffer_45 : decode cX7_doOffer 45 = .ok (.iload 4, 2) := by decide +kernel
theorem dX7_doOffer_47 : decode cX7_doOffer 47 = .ok (.iconst 5, 1) := by decide +kernel
theorem dX7_doOffer_48 : decode cX7_doOffer 48 = .ok (.iconst 0, 1) := by decide +kernel
theorem dX7_doOffer_49 : decode cX7_doOffer 49 = .ok (.invokevirtual 45, 3) := by decide +kernel
theorem dX7_doOffer_52 : decode cX7_doOffer 52 = .ok (.aload_n 0, 1) := by decide +kernel
theorem dX7_doOffer_53 : decode cX7_doOffer 53 = .ok (.iload 4, 2) := by decide +kernel
theorem dX7_doOffer_55 : decode cX7_doOffer 55 = .ok (.bipush 6, 2) := by decide +kernel
theorem dX7_doOffer_57 : decode cX7_doOffer 57 = .ok (.iconst 0, 1) := by decide +kernel
theorem dX7_doOffer_58 : decode cX7_doOffer 58 = .ok (.invokevirtual 45, 3) := by decide +kernel
theorem dX7_doOffer_61 : decode cX7_doOffer 61 = .ok (.aload_n 0, 1) := by decide +kernel
theorem dX7_doOffer_62 : decode cX7_doOffer 62 = .ok (.iload 4, 2) := by decide +kernel
theorem dX7_doOffer_64 : decode cX7_doOffer 64 = .ok (.bipush 7, 2) := by decide +kernel
theorem dX7_doOffer_66 : decode cX7_doOffer 66 = .ok (.iconst 0, 1) := by decide +kernel
theorem dX7_doOffer_67 : decode cX7_doOffer 67 = .ok (.invokevirtual 45, 3) := by decide +kernel
theorem dX7_doOffer_70 : decode cX7_doOffer 70 = .ok (.aload_n 0, 1) := by decide +kernel
theorem dX7_doOffer_71 : decode cX7_doOffer 71 = .ok (.iload 4, 2) := by decide +kernel
theorem dX7_doOffer_73 : decode cX7_doOffer 73 = .ok (.invokevirtual 69, 3) := by decide +kernel
theorem dX7_doOffer_76 : decode cX7_doOffer 76 = .ok (.ireturn, 1) := by decide +kernel
set_option maxRecDepth 20000 in
theorem ggX7_offer_X7_noOffer : GoodIn wsX7_offer wsX7_noOffer := goodIn_r _ [5, 6, 7, 8, 9, 10, 11, 4, 12, 13, 14, 15, 16, 17, 18, 70, 71, 72, 73, 74, 75, 76, 77, 78] (by decide +kernel) (by decide +kernel)
set_option maxRecDepth 20000 in
theorem gX7_offer_X7_noOffer : GoodIn wsX7_offer (wsV RX7 104 RX7 yX7_noOffer wsX7_noOffer) := goodIn_app (goodIn_of _ (by decide +kernel)) ggX7_offer_X7_noOffer
set_option maxRecDepth 20000 in
theorem ggX7_offer_X7_record : GoodIn wsX7_offer wsX7_record := goodIn_r _ [22, 23, 24, 8, 70, 71, 72, 73, 74, 75, 76, 77, 78] (by decide +kernel) (by decide +kernel)
set_option maxRecDepth 20000 in
theorem gX7_offer_X7_record : GoodIn wsX7_offer (wsV RX7 91 RX7 yX7_record wsX7_record) := goodIn_app (goodIn_of _ (by decide +kernel)) ggX7_offer_X7_record
set_option maxRecDepth 20000 in
theorem ggX7_offer_X7_doOffer : GoodIn wsX7_offer wsX7_doOffer := goodIn_r _ [28, 8, 29, 30, 31, 4, 32, 33, 34, 35, 36, 37, 38, 39, 40, 41, 42, 43, 44, 45, 46, 47, 48, 49, 50, 51, 52, 53, 54, 55, 56, 57, 58, 59, 60, 61, 62, 63, 64, 65, 66, 67, 68, 69, 70, 71, 72, 73, 74, 75, 76, 77, 78] (by decide +kernel) (by decide +kernel)
set_option maxRecDepth 20000 in
theorem gX7_offer_X7_doOffer : GoodIn wsX7_offer (wsV RX7 108 RX7 yX7_doOffer wsX7_doOffer) := goodIn_app (goodIn_of _ (by decide +kernel)) ggX7_offer_X7_doOffer
theorem dX7_offer_0 : decode cX7_offer 0 = .ok (.aload_n 0, 1) := by decide +kernel
theorem dX7_offer_1 : decode cX7_offer 1 = .ok (.iload_n 1, 1) := by decide +kernel
theorem dX7_offer_2 : decode cX7_offer 2 = .ok (.iload_n 2, 1) := by decide +kernel
theorem dX7_offer_3 : decode cX7_offer 3 = .ok (.iload_n 3, 1) := by decide +kernel
theorem dX7_offer_4 : decode cX7_offer 4 = .ok (.invokevirtual 104, 3) := by decide +kernel
theorem dX7_offer_7 : decode cX7_offer 7 = .ok (.istore 4, 2) := by decide +kernel
theorem dX7_offer_9 : decode cX7_offer 9 = .ok (.iload 4, 2) := by decide +kernel
theorem dX7_offer_11 : decode cX7_offer 11 = .ok (.ifCond .ge 6, 3) := by decide +kernel
theorem dX7_offer_14 : decode cX7_offer 14 = .ok (.iload 4, 2) := by decide +kernel
theorem dX7_offer_16 : decode cX7_offer 16 = .ok (.ireturn, 1) := by decide +kernel
theorem dX7_offer_17 : decode cX7_offer 17 = .ok (.aload_n 0, 1) := by decide +kernel
theorem dX7_offer_18 : decode cX7_offer 18 = .ok (.invokevirtual 91, 3) := by decide +kernel
theorem dX7_offer_21 : decode cX7_offer 21 = .ok (.aload_n 0, 1) := by decide +kernel
theorem dX7_offer_22 : decode cX7_offer 22 = .ok (.iload_n 1, 1) := by decide +kernel
theorem dX7_offer_23 : decode cX7_offer 23 = .ok (.iload_n 2, 1) := by decide +kernel
theorem dX7_offer_24 : decode cX7_offer 24 = .ok (.iload_n 3, 1) := by decide +kernel
theorem dX7_offer_25 : decode cX7_offer 25 = .ok (.invokevirtual 108, 3) := by decide +kernel
theorem dX7_offer_28 : decode cX7_offer 28 = .ok (.ireturn, 1) := by decide +kernel
set_option maxRecDepth 20000 in
theorem ggX7_noAdvance_X7_in : GoodIn wsX7_noAdvance wsX7_in := goodIn_r _ [7] (by decide +kernel) (by decide +kernel)
set_option maxRecDepth 20000 in
theorem gX7_noAdvance_X7_in : GoodIn wsX7_noAdvance (va_wsS RX7 22 yX7_in wsX7_in) := goodIn_app (goodIn_of _ (by decide +kernel)) ggX7_noAdvance_X7_in
theorem dX7_noAdvance_0 : decode cX7_noAdvance 0 = .ok (.iload_n 1, 1) := by decide +kernel
theorem dX7_noAdvance_1 : decode cX7_noAdvance 1 = .ok (.iconst 1, 1) := by decide +kernel
theorem dX7_noAdvance_2 : decode cX7_noAdvance 2 = .ok (.bipush 99, 2) := by decide +kernel
theorem dX7_noAdvance_4 : decode cX7_noAdvance 4 = .ok (.invokestatic 22, 3) := by decide +kernel
theorem dX7_noAdvance_7 : decode cX7_noAdvance 7 = .ok (.ifCond .ne 8, 3) := by decide +kernel
theorem dX7_noAdvance_10 : decode cX7_noAdvance 10 = .ok (.ldc 90, 2) := by decide +kernel
theorem dX7_noAdvance_12 : decode cX7_noAdvance 12 = .ok (.goto 24, 3) := by decide +kernel
theorem dX7_noAdvance_15 : decode cX7_noAdvance 15 = .ok (.aload_n 0, 1) := by decide +kernel
theorem dX7_noAdvance_16 : decode cX7_noAdvance 16 = .ok (.getfield 7, 3) := by decide +kernel
theorem dX7_noAdvance_19 : decode cX7_noAdvance 19 = .ok (.bipush 67, 2) := by decide +kernel
theorem dX7_noAdvance_21 : decode cX7_noAdvance 21 = .ok (.iaload, 1) := by decide +kernel
theorem dX7_noAdvance_22 : decode cX7_noAdvance 22 = .ok (.iload_n 1, 1) := by decide +kernel
theorem dX7_noAdvance_23 : decode cX7_noAdvance 23 = .ok (.iadd, 1) := by decide +kernel
theorem dX7_noAdvance_24 : decode cX7_noAdvance 24 = .ok (.sipush 999, 3) := by decide +kernel
theorem dX7_noAdvance_27 : decode cX7_noAdvance 27 = .ok (.if_icmp .le 8, 3) := by decide +kernel
theorem dX7_noAdvance_30 : decode cX7_noAdvance 30 = .ok (.ldc 103, 2) := by decide +kernel
theorem dX7_noAdvance_32 : decode cX7_noAdvance 32 = .ok (.goto 4, 3) := by decide +kernel
theorem dX7_noAdvance_35 : decode cX7_noAdvance 35 = .ok (.iconst 0, 1) := by decide +kernel
theorem dX7_noAdvance_36 : decode cX7_noAdvance 36 = .ok (.ireturn, 1) := by decide +kernel
set_option maxRecDepth 20000 in
theorem ggX7_doAdvance_X7_tick : GoodIn wsX7_doAdvance wsX7_tick := goodIn_r _ [5, 6, 7, 8, 9, 4, 10, 11, 12, 13, 14, 15, 16, 17, 18, 19, 20, 21, 22, 23, 24, 25, 26, 27, 28, 29, 30, 31, 32, 33, 34, 35, 36, 37, 38, 39, 40, 41, 42, 43, 44, 45, 46, 47, 48, 49, 50, 51, 52, 53, 54, 55, 56, 57, 58, 59, 60, 61, 62, 63, 64, 65, 66, 67, 68, 69, 70, 71, 72, 73, 74, 75, 76] (by decide +kernel) (by decide +kernel)
set_option maxRecDepth 20000 in
theorem gX7_doAdvance_X7_tick : GoodIn wsX7_doAdvance (wsV RX7 111 RX7 yX7_tick wsX7_tick) := goodIn_app (goodIn_of _ (by decide +kernel)) ggX7_doAdvance_X7_tick
theorem dX7_doAdvance_0 : decode cX7_doAdvance 0 = .ok (.iconst 0, 1) := by decide +kernel
theorem dX7_doAdvance_1 : decode cX7_doAdvance 1 = .ok (.istore_n 2, 1) := by decide +kernel
theorem dX7_doAdvance_2 : decode cX7_doAdvance 2 = .ok (.iconst 0, 1) := by decide +kernel
theorem dX7_doAdvance_3 : decode cX7_doAdvance 3 = .ok (.istore_n 3, 1) := by decide +kernel
theorem dX7_doAdvance_4 : decode cX7_doAdvance 4 = .ok (.iload_n 3, 1) := by decide +kernel
theorem dX7_doAdvance_5 : decode cX7_doAdvance 5 = .ok (.iload_n 1, 1) := by decide +kernel
theorem dX7_doAdvance_6 : decode cX7_doAdvance 6 = .ok (.if_icmp .ge 16, 3) := by decide +kernel
theorem dX7_doAdvance_9 : decode cX7_doAdvance 9 = .ok (.iload_n 2, 1) := by decide +kernel
theorem dX7_doAdvance_10 : decode cX7_doAdvance 10 = .ok (.aload_n 0, 1) := by decide +kernel
theorem dX7_doAdvance_11 : decode cX7_doAdvance 11 = .ok (.invokevirtual 111, 3) := by decide +kernel
theorem dX7_doAdvance_14 : decode cX7_doAdvance 14 = .ok (.iadd, 1) := by decide +kernel
theorem dX7_doAdvance_15 : decode cX7_doAdvance 15 = .ok (.istore_n 2, 1) := by decide +kernel
theorem dX7_doAdvance_16 : decode cX7_doAdvance 16 = .ok (.iinc 3 1, 3) := by decide +kernel
theorem dX7_doAdvance_19 : decode cX7_doAdvance 19 = .ok (.goto (-15), 3) := by decide +kernel
theorem dX7_doAdvance_22 : decode cX7_doAdvance 22 = .ok (.iload_n 2, 1) := by decide +kernel
theorem dX7_doAdvance_23 : decode cX7_doAdvance 23 = .ok (.ireturn, 1) := by decide +kernel
set_option maxRecDepth 20000 in
theorem ggX7_advance_X7_noAdvance : GoodIn wsX7_advance wsX7_noAdvance := goodIn_r _ [5, 6, 7, 8, 9, 10, 4, 11, 87, 88, 89, 90, 91, 92, 93, 94, 95] (by decide +kernel) (by decide +kernel)
set_option maxRecDepth 20000 in
theorem gX7_advance_X7_noAdvance : GoodIn wsX7_advance (wsV RX7 114 RX7 yX7_noAdvance wsX7_noAdvance) := goodIn_app (goodIn_of _ (by decide +kernel)) ggX7_advance_X7_noAdvance
set_option maxRecDepth 20000 in
theorem ggX7_advance_X7_record : GoodIn wsX7_advance wsX7_record := goodIn_r _ [15, 16, 17, 7, 87, 88, 89, 90, 91, 92, 93, 94, 95] (by decide +kernel) (by decide +kernel)
set_option maxRecDepth 20000 in
theorem gX7_advance_X7_record : GoodIn wsX7_advance (wsV RX7 91 RX7 yX7_record wsX7_record) := goodIn_app (goodIn_of _ (by decide +kernel)) ggX7_advance_X7_record
set_option maxRecDepth 20000 in
theorem ggX7_advance_X7_doAdvance : GoodIn wsX7_advance wsX7_doAdvance := goodIn_r _ [21, 22, 23, 24, 4, 25, 7, 26, 27, 28, 29, 30, 31, 32, 33, 34, 35, 36, 37, 38, 39, 40, 41, 42, 43, 44, 45, 46, 47, 48, 49, 50, 51, 52, 53, 54, 55, 56, 57, 58, 59, 60, 61, 62, 63, 64, 65, 66, 67, 68, 69, 70, 71, 72, 73, 74, 75, 76, 77, 78, 79, 80, 81, 82, 83, 84, 85, 86, 87, 88, 89, 90, 91, 92, 93, 94, 95] (by decide +kernel) (by decide +kernel)
set_option maxRecDepth 20000 in
theorem gX7_advance_X7_doAdvance : GoodIn wsX7_advance (wsV RX7 117 RX7 yX7_doAdvance wsX7_doAdvance) := goodIn_app (goodIn_of _ (by decide +kernel)) ggX7_advance_X7_doAdvance
theorem dX7_advance_0 : decode cX7_advance 0 = .ok (.aload_n 0, 1) := by decide +kernel
theorem dX7_advance_1 : decode cX7_advance 1 = .ok (.iload_n 1, 1) := by decide +kernel
theorem dX7_advance_2 : decode cX7_advance 2 = .ok (.invokevirtual 114, 3) := by decide +kernel
theorem dX7_advance_5 : decode cX7_advance 5 = .ok (.istore_n 2, 1) := by decide +kernel
theorem dX7_advance_6 : decode cX7_advance 6 = .ok (.iload_n 2, 1) := by decide +kernel
theorem dX7_advance_7 : decode cX7_advance 7 = .ok (.ifCond .ge 5, 3) := by decide +kernel
theorem dX7_advance_10 : decode cX7_advance 10 = .ok (.iload_n 2, 1) := by decide +kernel
theorem dX7_advance_11 : decode cX7_advance 11 = .ok (.ireturn, 1) := by decide +kernel
theorem dX7_advance_12 : decode cX7_advance 12 = .ok (.aload_n 0, 1) := by decide +kernel
theorem dX7_advance_13 : decode cX7_advance 13 = .ok (.invokevirtual 91, 3) := by decide +kernel
theorem dX7_advance_16 : decode cX7_advance 16 = .ok (.aload_n 0, 1) := by decide +kernel
theorem dX7_advance_17 : decode cX7_advance 17 = .ok (.iload_n 1, 1) := by decide +kernel
theorem dX7_advance_18 : decode cX7_advance 18 = .ok (.invokevirtual 117, 3) := by decide +kernel
theorem dX7_advance_21 : decode cX7_advance 21 = .ok (.ireturn, 1) := by decide +kernel
set_option maxRecDepth 20000 in
theorem ggX7_append_X7_in : GoodIn wsX7_append wsX7_in := goodIn_r _ [8] (by decide +kernel) (by decide +kernel)
set_option maxRecDepth 20000 in
theorem gX7_append_X7_in : GoodIn wsX7_append (va_wsS RX7 22 yX7_in wsX7_in) := goodIn_app (goodIn_of _ (by decide +kernel)) ggX7_append_X7_in
theorem dX7_append_0 : decode cX7_append 0 = .ok (.iload_n 1, 1) := by decide +kernel
theorem dX7_append_1 : decode cX7_append 1 = .ok (.bipush 32, 2) := by decide +kernel
theorem dX7_append_3 : decode cX7_append 3 = .ok (.bipush 126, 2) := by decide +kernel
theorem dX7_append_5 : decode cX7_append 5 = .ok (.invokestatic 22, 3) := by decide +kernel
theorem dX7_append_8 : decode cX7_append 8 = .ok (.ifCond .ne 6, 3) := by decide +kernel
theorem dX7_append_11 : decode cX7_append 11 = .ok (.ldc 90, 2) := by decide +kernel
theorem dX7_append_13 : decode cX7_append 13 = .ok (.ireturn, 1) := by decide +kernel
theorem dX7_append_14 : decode cX7_append 14 = .ok (.aload_n 0, 1) := by decide +kernel
theorem dX7_append_15 : decode cX7_append 15 = .ok (.getfield 120, 3) := by decide +kernel
theorem dX7_append_18 : decode cX7_append 18 = .ok (.bipush 80, 2) := by decide +kernel
theorem dX7_append_20 : decode cX7_append 20 = .ok (.if_icmp .ne 6, 3) := by decide +kernel
theorem dX7_append_23 : decode cX7_append 23 = .ok (.ldc 103, 2) := by decide +kernel
theorem dX7_append_25 : decode cX7_append 25 = .ok (.ireturn, 1) := by decide +kernel
theorem dX7_append_26 : decode cX7_append 26 = .ok (.aload_n 0, 1) := by decide +kernel
theorem dX7_append_27 : decode cX7_append 27 = .ok (.getfield 19, 3) := by decide +kernel
theorem dX7_append_30 : decode cX7_append 30 = .ok (.aload_n 0, 1) := by decide +kernel
theorem dX7_append_31 : decode cX7_append 31 = .ok (.getfield 120, 3) := by decide +kernel
theorem dX7_append_34 : decode cX7_append 34 = .ok (.iload_n 1, 1) := by decide +kernel
theorem dX7_append_35 : decode cX7_append 35 = .ok (.iastore, 1) := by decide +kernel
theorem dX7_append_36 : decode cX7_append 36 = .ok (.aload_n 0, 1) := by decide +kernel
theorem dX7_append_37 : decode cX7_append 37 = .ok (.dup, 1) := by decide +kernel
theorem dX7_append_38 : decode cX7_append 38 = .ok (.getfield 120, 3) := by decide +kernel
theorem dX7_append_41 : decode cX7_append 41 = .ok (.iconst 1, 1) := by decide +kernel
theorem dX7_append_42 : decode cX7_append 42 = .ok (.iadd, 1) := by decide +kernel
theorem dX7_append_43 : decode cX7_append 43 = .ok (.putfield 120, 3) := by decide +kernel
theorem dX7_append_46 : decode cX7_append 46 = .ok (.aload_n 0, 1) := by decide +kernel
theorem dX7_append_47 : decode cX7_append 47 = .ok (.getfield 120, 3) := by decide +kernel
theorem dX7_append_50 : decode cX7_append 50 = .ok (.ireturn, 1) := by decide +kernel
theorem dX7_clearText_0 : decode cX7_clearText 0 = .ok (.aload_n 0, 1) := by decide +kernel
theorem dX7_clearText_1 : decode cX7_clearText 1 = .ok (.getfield 120, 3) := by decide +kernel
theorem dX7_clearText_4 : decode cX7_clearText 4 = .ok (.istore_n 1, 1) := by decide +kernel
theorem dX7_clearText_5 : decode cX7_clearText 5 = .ok (.aload_n 0, 1) := by decide +kernel
theorem dX7_clearText_6 : decode cX7_clearText 6 = .ok (.iconst 0, 1) := by decide +kernel
theorem dX7_clearText_7 : decode cX7_clearText 7 = .ok (.putfield 120, 3) := by decide +kernel
theorem dX7_clearText_10 : decode cX7_clearText 10 = .ok (.iload_n 1, 1) := by decide +kernel
theorem dX7_clearText_11 : decode cX7_clearText 11 = .ok (.ireturn, 1) := by decide +kernel
theorem dX7_at_0 : decode cX7_at 0 = .ok (.iload_n 1, 1) := by decide +kernel
theorem dX7_at_1 : decode cX7_at 1 = .ok (.aload_n 0, 1) := by decide +kernel
theorem dX7_at_2 : decode cX7_at 2 = .ok (.getfield 120, 3) := by decide +kernel
theorem dX7_at_5 : decode cX7_at 5 = .ok (.if_icmp .ge 12, 3) := by decide +kernel
theorem dX7_at_8 : decode cX7_at 8 = .ok (.aload_n 0, 1) := by decide +kernel
theorem dX7_at_9 : decode cX7_at 9 = .ok (.getfield 19, 3) := by decide +kernel
theorem dX7_at_12 : decode cX7_at 12 = .ok (.iload_n 1, 1) := by decide +kernel
theorem dX7_at_13 : decode cX7_at 13 = .ok (.iaload, 1) := by decide +kernel
theorem dX7_at_14 : decode cX7_at 14 = .ok (.goto 4, 3) := by decide +kernel
theorem dX7_at_17 : decode cX7_at 17 = .ok (.iconst 0, 1) := by decide +kernel
theorem dX7_at_18 : decode cX7_at 18 = .ok (.ireturn, 1) := by decide +kernel
set_option maxRecDepth 20000 in
theorem ggX7_readNumber_X7_at : GoodIn wsX7_readNumber wsX7_at := goodIn_r _ [6, 7, 8, 12, 13, 14, 15, 16, 17, 18, 19, 20] (by decide +kernel) (by decide +kernel)
set_option maxRecDepth 20000 in
theorem gX7_readNumber_X7_at : GoodIn wsX7_readNumber (wsV RX7 126 RX7 yX7_at wsX7_at) := goodIn_app (goodIn_of _ (by decide +kernel)) ggX7_readNumber_X7_at
set_option maxRecDepth 20000 in
theorem ggX7_readNumber_X7_in : GoodIn wsX7_readNumber wsX7_in := goodIn_r _ [11] (by decide +kernel) (by decide +kernel)
set_option maxRecDepth 20000 in
theorem gX7_readNumber_X7_in : GoodIn wsX7_readNumber (va_wsS RX7 22 yX7_in wsX7_in) := goodIn_app (goodIn_of _ (by decide +kernel)) ggX7_readNumber_X7_in
end
section
theorem dX7_readNumber_0 : decode cX7_readNumber 0 = .ok (.iload_n 1, 1) := by decide +kernel
theorem dX7_readNumber_1 : decode cX7_readNumber 1 = .ok (.istore_n 3, 1) := by decide +kernel
theorem dX7_readNumber_2 : decode cX7_readNumber 2 = .ok (.aload_n 0, 1) := by decide +kernel
theorem dX7_readNumber_3 : decode cX7_readNumber 3 = .ok (.iconst 0, 1) := by decide +kernel
theorem dX7_readNumber_4 : decode cX7_readNumber 4 = .ok (.putfield 123, 3) := by decide +kernel
theorem dX7_readNumber_7 : decode cX7_readNumber 7 = .ok (.aload_n 0, 1) := by decide +kernel
theorem dX7_readNumber_8 : decode cX7_readNumber 8 = .ok (.iload_n 3, 1) := by decide +kernel
theorem dX7_readNumber_9 : decode cX7_readNumber 9 = .ok (.invokevirtual 126, 3) := by decide +kernel
theorem dX7_readNumber_12 : decode cX7_readNumber 12 = .ok (.aload_n 0, 1) := by decide +kernel
theorem dX7_readNumber_13 : decode cX7_readNumber 13 = .ok (.getfield 123, 3) := by decide +kernel
theorem dX7_readNumber_16 : decode cX7_readNumber 16 = .ok (.ifCond .ne 8, 3) := by decide +kernel
theorem dX7_readNumber_19 : decode cX7_readNumber 19 = .ok (.bipush 49, 2) := by decide +kernel
theorem dX7_readNumber_21 : decode cX7_readNumber 21 = .ok (.goto 5, 3) := by decide +kernel
theorem dX7_readNumber_24 : decode cX7_readNumber 24 = .ok (.bipush 48, 2) := by decide +kernel
theorem dX7_readNumber_26 : decode cX7_readNumber 26 = .ok (.bipush 57, 2) := by decide +kernel
theorem dX7_readNumber_28 : decode cX7_readNumber 28 = .ok (.invokestatic 22, 3) := by decide +kernel
theorem dX7_readNumber_31 : decode cX7_readNumber 31 = .ok (.ifCond .eq 49, 3) := by decide +kernel
theorem dX7_readNumber_34 : decode cX7_readNumber 34 = .ok (.bipush 10, 2) := by decide +kernel
theorem dX7_readNumber_36 : decode cX7_readNumber 36 = .ok (.aload_n 0, 1) := by decide +kernel
theorem dX7_readNumber_37 : decode cX7_readNumber 37 = .ok (.getfield 123, 3) := by decide +kernel
theorem dX7_readNumber_40 : decode cX7_readNumber 40 = .ok (.imul, 1) := by decide +kernel
theorem dX7_readNumber_41 : decode cX7_readNumber 41 = .ok (.aload_n 0, 1) := by decide +kernel
theorem dX7_readNumber_42 : decode cX7_readNumber 42 = .ok (.iload_n 3, 1) := by decide +kernel
theorem dX7_readNumber_43 : decode cX7_readNumber 43 = .ok (.invokevirtual 126, 3) := by decide +kernel
theorem dX7_readNumber_46 : decode cX7_readNumber 46 = .ok (.iadd, 1) := by decide +kernel
theorem dX7_readNumber_47 : decode cX7_readNumber 47 = .ok (.bipush 48, 2) := by decide +kernel
theorem dX7_readNumber_49 : decode cX7_readNumber 49 = .ok (.isub, 1) := by decide +kernel
theorem dX7_readNumber_50 : decode cX7_readNumber 50 = .ok (.iload_n 2, 1) := by decide +kernel
theorem dX7_readNumber_51 : decode cX7_readNumber 51 = .ok (.if_icmp .gt 29, 3) := by decide +kernel
theorem dX7_readNumber_54 : decode cX7_readNumber 54 = .ok (.aload_n 0, 1) := by decide +kernel
theorem dX7_readNumber_55 : decode cX7_readNumber 55 = .ok (.bipush 10, 2) := by decide +kernel
theorem dX7_readNumber_57 : decode cX7_readNumber 57 = .ok (.aload_n 0, 1) := by decide +kernel
theorem dX7_readNumber_58 : decode cX7_readNumber 58 = .ok (.getfield 123, 3) := by decide +kernel
theorem dX7_readNumber_61 : decode cX7_readNumber 61 = .ok (.imul, 1) := by decide +kernel
theorem dX7_readNumber_62 : decode cX7_readNumber 62 = .ok (.aload_n 0, 1) := by decide +kernel
theorem dX7_readNumber_63 : decode cX7_readNumber 63 = .ok (.iload_n 3, 1) := by decide +kernel
theorem dX7_readNumber_64 : decode cX7_readNumber 64 = .ok (.invokevirtual 126, 3) := by decide +kernel
theorem dX7_readNumber_67 : decode cX7_readNumber 67 = .ok (.iadd, 1) := by decide +kernel
theorem dX7_readNumber_68 : decode cX7_readNumber 68 = .ok (.bipush 48, 2) := by decide +kernel
theorem dX7_readNumber_70 : decode cX7_readNumber 70 = .ok (.isub, 1) := by decide +kernel
theorem dX7_readNumber_71 : decode cX7_readNumber 71 = .ok (.putfield 123, 3) := by decide +kernel
theorem dX7_readNumber_74 : decode cX7_readNumber 74 = .ok (.iinc 3 1, 3) := by decide +kernel
theorem dX7_readNumber_77 : decode cX7_readNumber 77 = .ok (.goto (-70), 3) := by decide +kernel
theorem dX7_readNumber_80 : decode cX7_readNumber 80 = .ok (.aload_n 0, 1) := by decide +kernel
theorem dX7_readNumber_81 : decode cX7_readNumber 81 = .ok (.getfield 123, 3) := by decide +kernel
theorem dX7_readNumber_84 : decode cX7_readNumber 84 = .ok (.ifCond .ne 9, 3) := by decide +kernel
theorem dX7_readNumber_87 : decode cX7_readNumber 87 = .ok (.iconst (-1), 1) := by decide +kernel
theorem dX7_readNumber_88 : decode cX7_readNumber 88 = .ok (.iload_n 3, 1) := by decide +kernel
theorem dX7_readNumber_89 : decode cX7_readNumber 89 = .ok (.isub, 1) := by decide +kernel
theorem dX7_readNumber_90 : decode cX7_readNumber 90 = .ok (.goto 4, 3) := by decide +kernel
theorem dX7_readNumber_93 : decode cX7_readNumber 93 = .ok (.iload_n 3, 1) := by decide +kernel
theorem dX7_readNumber_94 : decode cX7_readNumber 94 = .ok (.ireturn, 1) := by decide +kernel
set_option maxRecDepth 20000 in
theorem ggX7_readStep_X7_at : GoodIn wsX7_readStep wsX7_at := goodIn_r _ [7, 8, 9, 18, 19, 20, 21, 22, 23, 24, 25, 26] (by decide +kernel) (by decide +kernel)
set_option maxRecDepth 20000 in
theorem gX7_readStep_X7_at : GoodIn wsX7_readStep (wsV RX7 126 RX7 yX7_at wsX7_at) := goodIn_app (goodIn_of _ (by decide +kernel)) ggX7_readStep_X7_at
set_option maxRecDepth 20000 in
theorem ggX7_readStep_X7_readNumber : GoodIn wsX7_readStep wsX7_readNumber := goodIn_r _ [13, 14, 3, 4, 5, 6, 7, 8, 9, 15, 16, 17, 18, 19, 20, 21, 22, 23, 24, 25, 26] (by decide +kernel) (by decide +kernel)
set_option maxRecDepth 20000 in
theorem gX7_readStep_X7_readNumber : GoodIn wsX7_readStep (wsV RX7 132 RX7 yX7_readNumber wsX7_readNumber) := goodIn_app (goodIn_of _ (by decide +kernel)) ggX7_readStep_X7_readNumber
set_option maxRecDepth 20000 in
theorem ggX7_readStep_X7_in : GoodIn wsX7_readStep wsX7_in := goodIn_r _ [17] (by decide +kernel) (by decide +kernel)
set_option maxRecDepth 20000 in
theorem gX7_readStep_X7_in : GoodIn wsX7_readStep (va_wsS RX7 22 yX7_in wsX7_in) := goodIn_app (goodIn_of _ (by decide +kernel)) ggX7_readStep_X7_in
theorem dX7_readStep_0 : decode cX7_readStep 0 = .ok (.aload_n 0, 1) := by decide +kernel
theorem dX7_readStep_1 : decode cX7_readStep 1 = .ok (.iconst (-1), 1) := by decide +kernel
theorem dX7_readStep_2 : decode cX7_readStep 2 = .ok (.putfield 129, 3) := by decide +kernel
theorem dX7_readStep_5 : decode cX7_readStep 5 = .ok (.aload_n 0, 1) := by decide +kernel
theorem dX7_readStep_6 : decode cX7_readStep 6 = .ok (.iload_n 1, 1) := by decide +kernel
theorem dX7_readStep_7 : decode cX7_readStep 7 = .ok (.invokevirtual 126, 3) := by decide +kernel
theorem dX7_readStep_10 : decode cX7_readStep 10 = .ok (.bipush 43, 2) := by decide +kernel
theorem dX7_readStep_12 : decode cX7_readStep 12 = .ok (.if_icmp .ne 13, 3) := by decide +kernel
theorem dX7_readStep_15 : decode cX7_readStep 15 = .ok (.aload_n 0, 1) := by decide +kernel
theorem dX7_readStep_16 : decode cX7_readStep 16 = .ok (.iload_n 1, 1) := by decide +kernel
theorem dX7_readStep_17 : decode cX7_readStep 17 = .ok (.iconst 1, 1) := by decide +kernel
theorem dX7_readStep_18 : decode cX7_readStep 18 = .ok (.iadd, 1) := by decide +kernel
theorem dX7_readStep_19 : decode cX7_readStep 19 = .ok (.bipush 99, 2) := by decide +kernel
theorem dX7_readStep_21 : decode cX7_readStep 21 = .ok (.invokevirtual 132, 3) := by decide +kernel
theorem dX7_readStep_24 : decode cX7_readStep 24 = .ok (.ireturn, 1) := by decide +kernel
theorem dX7_readStep_25 : decode cX7_readStep 25 = .ok (.aload_n 0, 1) := by decide +kernel
theorem dX7_readStep_26 : decode cX7_readStep 26 = .ok (.iload_n 1, 1) := by decide +kernel
theorem dX7_readStep_27 : decode cX7_readStep 27 = .ok (.invokevirtual 126, 3) := by decide +kernel
theorem dX7_readStep_30 : decode cX7_readStep 30 = .ok (.bipush 48, 2) := by decide +kernel
theorem dX7_readStep_32 : decode cX7_readStep 32 = .ok (.bipush 50, 2) := by decide +kernel
theorem dX7_readStep_34 : decode cX7_readStep 34 = .ok (.invokestatic 22, 3) := by decide +kernel
theorem dX7_readStep_37 : decode cX7_readStep 37 = .ok (.ifCond .ne 7, 3) := by decide +kernel
theorem dX7_readStep_40 : decode cX7_readStep 40 = .ok (.iconst (-1), 1) := by decide +kernel
theorem dX7_readStep_41 : decode cX7_readStep 41 = .ok (.iload_n 1, 1) := by decide +kernel
theorem dX7_readStep_42 : decode cX7_readStep 42 = .ok (.isub, 1) := by decide +kernel
theorem dX7_readStep_43 : decode cX7_readStep 43 = .ok (.ireturn, 1) := by decide +kernel
theorem dX7_readStep_44 : decode cX7_readStep 44 = .ok (.aload_n 0, 1) := by decide +kernel
theorem dX7_readStep_45 : decode cX7_readStep 45 = .ok (.iload_n 1, 1) := by decide +kernel
theorem dX7_readStep_46 : decode cX7_readStep 46 = .ok (.iconst 1, 1) := by decide +kernel
theorem dX7_readStep_47 : decode cX7_readStep 47 = .ok (.iadd, 1) := by decide +kernel
theorem dX7_readStep_48 : decode cX7_readStep 48 = .ok (.invokevirtual 126, 3) := by decide +kernel
theorem dX7_readStep_51 : decode cX7_readStep 51 = .ok (.bipush 97, 2) := by decide +kernel
theorem dX7_readStep_53 : decode cX7_readStep 53 = .ok (.bipush 101, 2) := by decide +kernel
theorem dX7_readStep_55 : decode cX7_readStep 55 = .ok (.invokestatic 22, 3) := by decide +kernel
theorem dX7_readStep_58 : decode cX7_readStep 58 = .ok (.ifCond .ne 8, 3) := by decide +kernel
theorem dX7_readStep_61 : decode cX7_readStep 61 = .ok (.bipush (-2), 2) := by decide +kernel
theorem dX7_readStep_63 : decode cX7_readStep 63 = .ok (.iload_n 1, 1) := by decide +kernel
theorem dX7_readStep_64 : decode cX7_readStep 64 = .ok (.isub, 1) := by decide +kernel
theorem dX7_readStep_65 : decode cX7_readStep 65 = .ok (.ireturn, 1) := by decide +kernel
theorem dX7_readStep_66 : decode cX7_readStep 66 = .ok (.aload_n 0, 1) := by decide +kernel
theorem dX7_readStep_67 : decode cX7_readStep 67 = .ok (.aload_n 0, 1) := by decide +kernel
theorem dX7_readStep_68 : decode cX7_readStep 68 = .ok (.iload_n 1, 1) := by decide +kernel
theorem dX7_readStep_69 : decode cX7_readStep 69 = .ok (.invokevirtual 126, 3) := by decide +kernel
theorem dX7_readStep_72 : decode cX7_readStep 72 = .ok (.bipush 48, 2) := by decide +kernel
theorem dX7_readStep_74 : decode cX7_readStep 74 = .ok (.isub, 1) := by decide +kernel
theorem dX7_readStep_75 : decode cX7_readStep 75 = .ok (.putfield 129, 3) := by decide +kernel
theorem dX7_readStep_78 : decode cX7_readStep 78 = .ok (.aload_n 0, 1) := by decide +kernel
theorem dX7_readStep_79 : decode cX7_readStep 79 = .ok (.aload_n 0, 1) := by decide +kernel
theorem dX7_readStep_80 : decode cX7_readStep 80 = .ok (.iload_n 1, 1) := by decide +kernel
theorem dX7_readStep_81 : decode cX7_readStep 81 = .ok (.iconst 1, 1) := by decide +kernel
theorem dX7_readStep_82 : decode cX7_readStep 82 = .ok (.iadd, 1) := by decide +kernel
theorem dX7_readStep_83 : decode cX7_readStep 83 = .ok (.invokevirtual 126, 3) := by decide +kernel
theorem dX7_readStep_86 : decode cX7_readStep 86 = .ok (.bipush 97, 2) := by decide +kernel
theorem dX7_readStep_88 : decode cX7_readStep 88 = .ok (.isub, 1) := by decide +kernel
theorem dX7_readStep_89 : decode cX7_readStep 89 = .ok (.putfield 135, 3) := by decide +kernel
theorem dX7_readStep_92 : decode cX7_readStep 92 = .ok (.aload_n 0, 1) := by decide +kernel
theorem dX7_readStep_93 : decode cX7_readStep 93 = .ok (.iload_n 1, 1) := by decide +kernel
theorem dX7_readStep_94 : decode cX7_readStep 94 = .ok (.iconst 2, 1) := by decide +kernel
theorem dX7_readStep_95 : decode cX7_readStep 95 = .ok (.iadd, 1) := by decide +kernel
theorem dX7_readStep_96 : decode cX7_readStep 96 = .ok (.bipush 60, 2) := by decide +kernel
theorem dX7_readStep_98 : decode cX7_readStep 98 = .ok (.invokevirtual 132, 3) := by decide +kernel
theorem dX7_readStep_101 : decode cX7_readStep 101 = .ok (.ireturn, 1) := by decide +kernel
set_option maxRecDepth 20000 in
theorem ggX7_findFault_X7_readStep : GoodIn wsX7_findFault wsX7_readStep := goodIn_r _ [8, 9, 10, 11, 12, 13, 7, 14, 1, 3, 15, 16, 17, 18, 19, 20, 21, 22, 23, 24, 25, 26, 27, 28, 29, 30, 31] (by decide +kernel) (by decide +kernel)
set_option maxRecDepth 20000 in
theorem gX7_findFault_X7_readStep : GoodIn wsX7_findFault (wsV RX7 138 RX7 yX7_readStep wsX7_readStep) := goodIn_app (goodIn_of _ (by decide +kernel)) ggX7_findFault_X7_readStep
theorem dX7_findFault_0 : decode cX7_findFault 0 = .ok (.iconst 0, 1) := by decide +kernel
theorem dX7_findFault_1 : decode cX7_findFault 1 = .ok (.istore_n 1, 1) := by decide +kernel
theorem dX7_findFault_2 : decode cX7_findFault 2 = .ok (.aload_n 0, 1) := by decide +kernel
theorem dX7_findFault_3 : decode cX7_findFault 3 = .ok (.iload_n 1, 1) := by decide +kernel
theorem dX7_findFault_4 : decode cX7_findFault 4 = .ok (.invokevirtual 138, 3) := by decide +kernel
theorem dX7_findFault_7 : decode cX7_findFault 7 = .ok (.istore_n 1, 1) := by decide +kernel
theorem dX7_findFault_8 : decode cX7_findFault 8 = .ok (.iload_n 1, 1) := by decide +kernel
theorem dX7_findFault_9 : decode cX7_findFault 9 = .ok (.ifCond .ge 7, 3) := by decide +kernel
theorem dX7_findFault_12 : decode cX7_findFault 12 = .ok (.iconst (-1), 1) := by decide +kernel
theorem dX7_findFault_13 : decode cX7_findFault 13 = .ok (.iload_n 1, 1) := by decide +kernel
theorem dX7_findFault_14 : decode cX7_findFault 14 = .ok (.isub, 1) := by decide +kernel
theorem dX7_findFault_15 : decode cX7_findFault 15 = .ok (.ireturn, 1) := by decide +kernel
theorem dX7_findFault_16 : decode cX7_findFault 16 = .ok (.iload_n 1, 1) := by decide +kernel
theorem dX7_findFault_17 : decode cX7_findFault 17 = .ok (.aload_n 0, 1) := by decide +kernel
theorem dX7_findFault_18 : decode cX7_findFault 18 = .ok (.getfield 120, 3) := by decide +kernel
theorem dX7_findFault_21 : decode cX7_findFault 21 = .ok (.if_icmp .ne 6, 3) := by decide +kernel
theorem dX7_findFault_24 : decode cX7_findFault 24 = .ok (.ldc 30, 2) := by decide +kernel
theorem dX7_findFault_26 : decode cX7_findFault 26 = .ok (.ireturn, 1) := by decide +kernel
theorem dX7_findFault_27 : decode cX7_findFault 27 = .ok (.aload_n 0, 1) := by decide +kernel
theorem dX7_findFault_28 : decode cX7_findFault 28 = .ok (.getfield 19, 3) := by decide +kernel
theorem dX7_findFault_31 : decode cX7_findFault 31 = .ok (.iload_n 1, 1) := by decide +kernel
theorem dX7_findFault_32 : decode cX7_findFault 32 = .ok (.iaload, 1) := by decide +kernel
theorem dX7_findFault_33 : decode cX7_findFault 33 = .ok (.bipush 59, 2) := by decide +kernel
theorem dX7_findFault_35 : decode cX7_findFault 35 = .ok (.if_icmp .eq 5, 3) := by decide +kernel
theorem dX7_findFault_38 : decode cX7_findFault 38 = .ok (.iload_n 1, 1) := by decide +kernel
theorem dX7_findFault_39 : decode cX7_findFault 39 = .ok (.ireturn, 1) := by decide +kernel
theorem dX7_findFault_40 : decode cX7_findFault 40 = .ok (.iinc 1 1, 3) := by decide +kernel
theorem dX7_findFault_43 : decode cX7_findFault 43 = .ok (.goto (-41), 3) := by decide +kernel
set_option maxRecDepth 20000 in
theorem ggX7_fault_X7_findFault : GoodIn wsX7_fault wsX7_findFault := goodIn_r _ [5, 6, 7, 8, 9, 10, 11, 4, 12, 13, 14, 15, 16, 17, 18, 19, 20, 21, 22, 23, 24, 25, 26, 27, 28, 29, 30, 31, 32, 33, 34, 35] (by decide +kernel) (by decide +kernel)
set_option maxRecDepth 20000 in
theorem gX7_fault_X7_findFault : GoodIn wsX7_fault (wsV RX7 141 RX7 yX7_findFault wsX7_findFault) := goodIn_app (goodIn_of _ (by decide +kernel)) ggX7_fault_X7_findFault
theorem dX7_fault_0 : decode cX7_fault 0 = .ok (.aload_n 0, 1) := by decide +kernel
theorem dX7_fault_1 : decode cX7_fault 1 = .ok (.invokevirtual 141, 3) := by decide +kernel
theorem dX7_fault_4 : decode cX7_fault 4 = .ok (.ireturn, 1) := by decide +kernel
set_option maxRecDepth 20000 in
theorem ggX7_run_X7_findFault : GoodIn wsX7_run wsX7_findFault := goodIn_r _ [10, 2, 11, 12, 13, 14, 15, 9, 16, 3, 5, 17, 18, 19, 20, 21, 22, 23, 24, 4, 25, 26, 27, 124, 125, 126, 127, 128, 129, 130, 131, 132] (by decide +kernel) (by decide +kernel)
set_option maxRecDepth 20000 in
theorem gX7_run_X7_findFault : GoodIn wsX7_run (wsV RX7 141 RX7 yX7_findFault wsX7_findFault) := goodIn_app (goodIn_of _ (by decide +kernel)) ggX7_run_X7_findFault
set_option maxRecDepth 20000 in
theorem ggX7_run_X7_record : GoodIn wsX7_run wsX7_record := goodIn_r _ [31, 32, 33, 34, 124, 125, 126, 127, 128, 129, 130, 131, 132] (by decide +kernel) (by decide +kernel)
set_option maxRecDepth 20000 in
theorem gX7_run_X7_record : GoodIn wsX7_run (wsV RX7 91 RX7 yX7_record wsX7_record) := goodIn_app (goodIn_of _ (by decide +kernel)) ggX7_run_X7_record
set_option maxRecDepth 20000 in
theorem ggX7_run_X7_readStep : GoodIn wsX7_run wsX7_readStep := goodIn_r _ [16, 3, 5, 17, 18, 19, 9, 20, 2, 12, 21, 22, 23, 24, 4, 25, 26, 27, 124, 125, 126, 127, 128, 129, 130, 131, 132] (by decide +kernel) (by decide +kernel)
set_option maxRecDepth 20000 in
theorem gX7_run_X7_readStep : GoodIn wsX7_run (wsV RX7 138 RX7 yX7_readStep wsX7_readStep) := goodIn_app (goodIn_of _ (by decide +kernel)) ggX7_run_X7_readStep
set_option maxRecDepth 20000 in
theorem ggX7_run_X7_noAdvance : GoodIn wsX7_run wsX7_noAdvance := goodIn_r _ [38, 39, 34, 40, 25, 26, 9, 27, 124, 125, 126, 127, 128, 129, 130, 131, 132] (by decide +kernel) (by decide +kernel)
set_option maxRecDepth 20000 in
theorem gX7_run_X7_noAdvance : GoodIn wsX7_run (wsV RX7 114 RX7 yX7_noAdvance wsX7_noAdvance) := goodIn_app (goodIn_of _ (by decide +kernel)) ggX7_run_X7_noAdvance
set_option maxRecDepth 20000 in
theorem ggX7_run_X7_noOffer : GoodIn wsX7_run wsX7_noOffer := goodIn_r _ [44, 45, 39, 34, 40, 46, 47, 9, 48, 25, 26, 27, 49, 50, 51, 124, 125, 126, 127, 128, 129, 130, 131, 132] (by decide +kernel) (by decide +kernel)
set_option maxRecDepth 20000 in
theorem gX7_run_X7_noOffer : GoodIn wsX7_run (wsV RX7 104 RX7 yX7_noOffer wsX7_noOffer) := goodIn_app (goodIn_of _ (by decide +kernel)) ggX7_run_X7_noOffer
set_option maxRecDepth 20000 in
theorem ggX7_run_X7_doAdvance : GoodIn wsX7_run wsX7_doAdvance := goodIn_r _ [55, 56, 57, 58, 9, 59, 34, 60, 61, 62, 63, 64, 65, 66, 67, 68, 69, 70, 71, 72, 73, 74, 75, 76, 77, 78, 79, 80, 81, 82, 83, 84, 85, 86, 87, 88, 89, 90, 91, 92, 93, 94, 95, 96, 97, 98, 99, 11, 100, 101, 102, 103, 104, 105, 106, 107, 108, 109, 110, 111, 112, 113, 114, 115, 116, 117, 118, 119, 124, 125, 126, 127, 128, 129, 130, 131, 132] (by decide +kernel) (by decide +kernel)
set_option maxRecDepth 20000 in
theorem gX7_run_X7_doAdvance : GoodIn wsX7_run (wsV RX7 117 RX7 yX7_doAdvance wsX7_doAdvance) := goodIn_app (goodIn_of _ (by decide +kernel)) ggX7_run_X7_doAdvance
set_option maxRecDepth 20000 in
theorem ggX7_run_X7_doOffer : GoodIn wsX7_run wsX7_doOffer := goodIn_r _ [123, 34, 76, 77, 78, 9, 79, 72, 73, 74, 75, 68, 69, 70, 71, 80, 81, 82, 83, 84, 85, 86, 87, 60, 61, 62, 63, 88, 89, 90, 91, 92, 93, 94, 95, 96, 97, 98, 99, 11, 100, 101, 102, 103, 124, 125, 126, 127, 128, 129, 130, 131, 132] (by decide +kernel) (by decide +kernel)
set_option maxRecDepth 20000 in
theorem gX7_run_X7_doOffer : GoodIn wsX7_run (wsV RX7 108 RX7 yX7_doOffer wsX7_doOffer) := goodIn_app (goodIn_of _ (by decide +kernel)) ggX7_run_X7_doOffer
theorem dX7_run_0 : decode cX7_run 0 = .ok (.aload_n 0, 1) := by decide +kernel
theorem dX7_run_1 : decode cX7_run 1 = .ok (.invokevirtual 141, 3) := by decide +kernel
theorem dX7_run_4 : decode cX7_run 4 = .ok (.ifCond .lt 6, 3) := by decide +kernel
theorem dX7_run_7 : decode cX7_run 7 = .ok (.ldc 144, 2) := by decide +kernel
theorem dX7_run_9 : decode cX7_run 9 = .ok (.ireturn, 1) := by decide +kernel
theorem dX7_run_10 : decode cX7_run 10 = .ok (.aload_n 0, 1) := by decide +kernel
theorem dX7_run_11 : decode cX7_run 11 = .ok (.invokevirtual 91, 3) := by decide +kernel
theorem dX7_run_14 : decode cX7_run 14 = .ok (.iconst 0, 1) := by decide +kernel
theorem dX7_run_15 : decode cX7_run 15 = .ok (.istore_n 1, 1) := by decide +kernel
theorem dX7_run_16 : decode cX7_run 16 = .ok (.iconst 0, 1) := by decide +kernel
theorem dX7_run_17 : decode cX7_run 17 = .ok (.istore_n 2, 1) := by decide +kernel
theorem dX7_run_18 : decode cX7_run 18 = .ok (.iconst 1, 1) := by decide +kernel
theorem dX7_run_19 : decode cX7_run 19 = .ok (.istore_n 3, 1) := by decide +kernel
theorem dX7_run_20 : decode cX7_run 20 = .ok (.iload_n 3, 1) := by decide +kernel
theorem dX7_run_21 : decode cX7_run 21 = .ok (.ifCond .eq 119, 3) := by decide +kernel
theorem dX7_run_24 : decode cX7_run 24 = .ok (.iload_n 2, 1) := by decide +kernel
theorem dX7_run_25 : decode cX7_run 25 = .ok (.aload_n 0, 1) := by decide +kernel
theorem dX7_run_26 : decode cX7_run 26 = .ok (.getfield 120, 3) := by decide +kernel
theorem dX7_run_29 : decode cX7_run 29 = .ok (.if_icmp .ge 111, 3) := by decide +kernel
theorem dX7_run_32 : decode cX7_run 32 = .ok (.aload_n 0, 1) := by decide +kernel
theorem dX7_run_33 : decode cX7_run 33 = .ok (.iload_n 2, 1) := by decide +kernel
theorem dX7_run_34 : decode cX7_run 34 = .ok (.invokevirtual 138, 3) := by decide +kernel
theorem dX7_run_37 : decode cX7_run 37 = .ok (.iconst 1, 1) := by decide +kernel
theorem dX7_run_38 : decode cX7_run 38 = .ok (.iadd, 1) := by decide +kernel
theorem dX7_run_39 : decode cX7_run 39 = .ok (.istore_n 2, 1) := by decide +kernel
theorem dX7_run_40 : decode cX7_run 40 = .ok (.aload_n 0, 1) := by decide +kernel
theorem dX7_run_41 : decode cX7_run 41 = .ok (.getfield 129, 3) := by decide +kernel
theorem dX7_run_44 : decode cX7_run 44 = .ok (.istore 4, 2) := by decide +kernel
theorem dX7_run_46 : decode cX7_run 46 = .ok (.iload 4, 2) := by decide +kernel
theorem dX7_run_48 : decode cX7_run 48 = .ok (.ifCond .ge 14, 3) := by decide +kernel
theorem dX7_run_51 : decode cX7_run 51 = .ok (.aload_n 0, 1) := by decide +kernel
theorem dX7_run_52 : decode cX7_run 52 = .ok (.aload_n 0, 1) := by decide +kernel
theorem dX7_run_53 : decode cX7_run 53 = .ok (.getfield 123, 3) := by decide +kernel
theorem dX7_run_56 : decode cX7_run 56 = .ok (.invokevirtual 114, 3) := by decide +kernel
theorem dX7_run_59 : decode cX7_run 59 = .ok (.goto 17, 3) := by decide +kernel
theorem dX7_run_62 : decode cX7_run 62 = .ok (.aload_n 0, 1) := by decide +kernel
theorem dX7_run_63 : decode cX7_run 63 = .ok (.iload 4, 2) := by decide +kernel
theorem dX7_run_65 : decode cX7_run 65 = .ok (.aload_n 0, 1) := by decide +kernel
theorem dX7_run_66 : decode cX7_run 66 = .ok (.getfield 135, 3) := by decide +kernel
theorem dX7_run_69 : decode cX7_run 69 = .ok (.aload_n 0, 1) := by decide +kernel
theorem dX7_run_70 : decode cX7_run 70 = .ok (.getfield 123, 3) := by decide +kernel
theorem dX7_run_73 : decode cX7_run 73 = .ok (.invokevirtual 104, 3) := by decide +kernel
theorem dX7_run_76 : decode cX7_run 76 = .ok (.ifCond .ne 7, 3) := by decide +kernel
theorem dX7_run_79 : decode cX7_run 79 = .ok (.iconst 1, 1) := by decide +kernel
theorem dX7_run_80 : decode cX7_run 80 = .ok (.goto 4, 3) := by decide +kernel
theorem dX7_run_83 : decode cX7_run 83 = .ok (.iconst 0, 1) := by decide +kernel
theorem dX7_run_84 : decode cX7_run 84 = .ok (.istore_n 3, 1) := by decide +kernel
theorem dX7_run_85 : decode cX7_run 85 = .ok (.iload_n 3, 1) := by decide +kernel
theorem dX7_run_86 : decode cX7_run 86 = .ok (.ifCond .eq 20, 3) := by decide +kernel
theorem dX7_run_89 : decode cX7_run 89 = .ok (.iload 4, 2) := by decide +kernel
theorem dX7_run_91 : decode cX7_run 91 = .ok (.ifCond .ge 15, 3) := by decide +kernel
theorem dX7_run_94 : decode cX7_run 94 = .ok (.aload_n 0, 1) := by decide +kernel
theorem dX7_run_95 : decode cX7_run 95 = .ok (.aload_n 0, 1) := by decide +kernel
theorem dX7_run_96 : decode cX7_run 96 = .ok (.getfield 123, 3) := by decide +kernel
theorem dX7_run_99 : decode cX7_run 99 = .ok (.invokevirtual 117, 3) := by decide +kernel
theorem dX7_run_102 : decode cX7_run 102 = .ok (.pop, 1) := by decide +kernel
theorem dX7_run_103 : decode cX7_run 103 = .ok (.goto 22, 3) := by decide +kernel
theorem dX7_run_106 : decode cX7_run 106 = .ok (.iload_n 3, 1) := by decide +kernel
theorem dX7_run_107 : decode cX7_run 107 = .ok (.ifCond .eq 18, 3) := by decide +kernel
theorem dX7_run_110 : decode cX7_run 110 = .ok (.aload_n 0, 1) := by decide +kernel
theorem dX7_run_111 : decode cX7_run 111 = .ok (.iload 4, 2) := by decide +kernel
theorem dX7_run_113 : decode cX7_run 113 = .ok (.aload_n 0, 1) := by decide +kernel
theorem dX7_run_114 : decode cX7_run 114 = .ok (.getfield 135, 3) := by decide +kernel
theorem dX7_run_117 : decode cX7_run 117 = .ok (.aload_n 0, 1) := by decide +kernel
theorem dX7_run_118 : decode cX7_run 118 = .ok (.getfield 123, 3) := by decide +kernel
theorem dX7_run_121 : decode cX7_run 121 = .ok (.invokevirtual 108, 3) := by decide +kernel
theorem dX7_run_124 : decode cX7_run 124 = .ok (.pop, 1) := by decide +kernel
theorem dX7_run_125 : decode cX7_run 125 = .ok (.iload_n 1, 1) := by decide +kernel
theorem dX7_run_126 : decode cX7_run 126 = .ok (.iload_n 3, 1) := by decide +kernel
theorem dX7_run_127 : decode cX7_run 127 = .ok (.ifCond .eq 7, 3) := by decide +kernel
theorem dX7_run_130 : decode cX7_run 130 = .ok (.iconst 1, 1) := by decide +kernel
theorem dX7_run_131 : decode cX7_run 131 = .ok (.goto 4, 3) := by decide +kernel
theorem dX7_run_134 : decode cX7_run 134 = .ok (.iconst 0, 1) := by decide +kernel
theorem dX7_run_135 : decode cX7_run 135 = .ok (.iadd, 1) := by decide +kernel
theorem dX7_run_136 : decode cX7_run 136 = .ok (.istore_n 1, 1) := by decide +kernel
theorem dX7_run_137 : decode cX7_run 137 = .ok (.goto (-117), 3) := by decide +kernel
theorem dX7_run_140 : decode cX7_run 140 = .ok (.iload_n 1, 1) := by decide +kernel
theorem dX7_run_141 : decode cX7_run 141 = .ok (.ireturn, 1) := by decide +kernel
set_option maxRecDepth 20000 in
theorem ggX7_setting_X7_in : GoodIn wsX7_setting wsX7_in := goodIn_r _ [6] (by decide +kernel) (by decide +kernel)
set_option maxRecDepth 20000 in
theorem gX7_setting_X7_in : GoodIn wsX7_setting (va_wsS RX7 22 yX7_in wsX7_in) := goodIn_app (goodIn_of _ (by decide +kernel)) ggX7_setting_X7_in
theorem dX7_setting_0 : decode cX7_setting 0 = .ok (.iload_n 1, 1) := by decide +kernel
theorem dX7_setting_1 : decode cX7_setting 1 = .ok (.iconst 0, 1) := by decide +kernel
theorem dX7_setting_2 : decode cX7_setting 2 = .ok (.iconst 3, 1) := by decide +kernel
theorem dX7_setting_3 : decode cX7_setting 3 = .ok (.invokestatic 22, 3) := by decide +kernel
theorem dX7_setting_6 : decode cX7_setting 6 = .ok (.ifCond .eq 14, 3) := by decide +kernel
theorem dX7_setting_9 : decode cX7_setting 9 = .ok (.aload_n 0, 1) := by decide +kernel
theorem dX7_setting_10 : decode cX7_setting 10 = .ok (.getfield 7, 3) := by decide +kernel
theorem dX7_setting_13 : decode cX7_setting 13 = .ok (.iconst 0, 1) := by decide +kernel
theorem dX7_setting_14 : decode cX7_setting 14 = .ok (.iload_n 1, 1) := by decide +kernel
theorem dX7_setting_15 : decode cX7_setting 15 = .ok (.iadd, 1) := by decide +kernel
theorem dX7_setting_16 : decode cX7_setting 16 = .ok (.iaload, 1) := by decide +kernel
theorem dX7_setting_17 : decode cX7_setting 17 = .ok (.goto 5, 3) := by decide +kernel
theorem dX7_setting_20 : decode cX7_setting 20 = .ok (.ldc 83, 2) := by decide +kernel
theorem dX7_setting_22 : decode cX7_setting 22 = .ok (.ireturn, 1) := by decide +kernel
set_option maxRecDepth 20000 in
theorem ggX7_classSetting_X7_isClass : GoodIn wsX7_classSetting wsX7_isClass := goodIn_r _ [5, 6, 7, 4, 8] (by decide +kernel) (by decide +kernel)
set_option maxRecDepth 20000 in
theorem gX7_classSetting_X7_isClass : GoodIn wsX7_classSetting (va_wsS RX7 94 yX7_isClass wsX7_isClass) := goodIn_app (goodIn_of _ (by decide +kernel)) ggX7_classSetting_X7_isClass
set_option maxRecDepth 20000 in
theorem ggX7_classSetting_X7_in : GoodIn wsX7_classSetting wsX7_in := goodIn_r _ [8] (by decide +kernel) (by decide +kernel)
set_option maxRecDepth 20000 in
theorem gX7_classSetting_X7_in : GoodIn wsX7_classSetting (va_wsS RX7 22 yX7_in wsX7_in) := goodIn_app (goodIn_of _ (by decide +kernel)) ggX7_classSetting_X7_in
set_option maxRecDepth 20000 in
theorem ggX7_classSetting_X7_ofClass : GoodIn wsX7_classSetting wsX7_ofClass := goodIn_r _ [12, 13, 14, 15, 16, 17, 18, 19, 20, 21, 22] (by decide +kernel) (by decide +kernel)
set_option maxRecDepth 20000 in
theorem gX7_classSetting_X7_ofClass : GoodIn wsX7_classSetting (wsV RX7 38 RX7 yX7_ofClass wsX7_ofClass) := goodIn_app (goodIn_of _ (by decide +kernel)) ggX7_classSetting_X7_ofClass
theorem dX7_classSetting_0 : decode cX7_classSetting 0 = .ok (.iload_n 1, 1) := by decide +kernel
theorem dX7_classSetting_1 : decode cX7_classSetting 1 = .ok (.invokestatic 94, 3) := by decide +kernel
theorem dX7_classSetting_4 : decode cX7_classSetting 4 = .ok (.ifCond .eq 21, 3) := by decide +kernel
theorem dX7_classSetting_7 : decode cX7_classSetting 7 = .ok (.iload_n 2, 1) := by decide +kernel
theorem dX7_classSetting_8 : decode cX7_classSetting 8 = .ok (.iconst 0, 1) := by decide +kernel
theorem dX7_classSetting_9 : decode cX7_classSetting 9 = .ok (.iconst 3, 1) := by decide +kernel
theorem dX7_classSetting_10 : decode cX7_classSetting 10 = .ok (.invokestatic 22, 3) := by decide +kernel
theorem dX7_classSetting_13 : decode cX7_classSetting 13 = .ok (.ifCond .eq 12, 3) := by decide +kernel
theorem dX7_classSetting_16 : decode cX7_classSetting 16 = .ok (.aload_n 0, 1) := by decide +kernel
theorem dX7_classSetting_17 : decode cX7_classSetting 17 = .ok (.iload_n 1, 1) := by decide +kernel
theorem dX7_classSetting_18 : decode cX7_classSetting 18 = .ok (.iload_n 2, 1) := by decide +kernel
theorem dX7_classSetting_19 : decode cX7_classSetting 19 = .ok (.invokevirtual 38, 3) := by decide +kernel
theorem dX7_classSetting_22 : decode cX7_classSetting 22 = .ok (.goto 5, 3) := by decide +kernel
theorem dX7_classSetting_25 : decode cX7_classSetting 25 = .ok (.ldc 83, 2) := by decide +kernel
theorem dX7_classSetting_27 : decode cX7_classSetting 27 = .ok (.ireturn, 1) := by decide +kernel
theorem dX7_clock_0 : decode cX7_clock 0 = .ok (.aload_n 0, 1) := by decide +kernel
theorem dX7_clock_1 : decode cX7_clock 1 = .ok (.getfield 7, 3) := by decide +kernel
theorem dX7_clock_4 : decode cX7_clock 4 = .ok (.bipush 67, 2) := by decide +kernel
theorem dX7_clock_6 : decode cX7_clock 6 = .ok (.iaload, 1) := by decide +kernel
theorem dX7_clock_7 : decode cX7_clock 7 = .ok (.ireturn, 1) := by decide +kernel
set_option maxRecDepth 20000 in
theorem ggX7_estimate_X7_isShape : GoodIn wsX7_estimate wsX7_isShape := goodIn_r _ [6, 7, 8, 5, 9] (by decide +kernel) (by decide +kernel)
set_option maxRecDepth 20000 in
theorem gX7_estimate_X7_isShape : GoodIn wsX7_estimate (va_wsS RX7 100 yX7_isShape wsX7_isShape) := goodIn_app (goodIn_of _ (by decide +kernel)) ggX7_estimate_X7_isShape
theorem dX7_estimate_0 : decode cX7_estimate 0 = .ok (.iload_n 1, 1) := by decide +kernel
theorem dX7_estimate_1 : decode cX7_estimate 1 = .ok (.invokestatic 100, 3) := by decide +kernel
theorem dX7_estimate_4 : decode cX7_estimate 4 = .ok (.ifCond .eq 15, 3) := by decide +kernel
theorem dX7_estimate_7 : decode cX7_estimate 7 = .ok (.aload_n 0, 1) := by decide +kernel
theorem dX7_estimate_8 : decode cX7_estimate 8 = .ok (.getfield 7, 3) := by decide +kernel
theorem dX7_estimate_11 : decode cX7_estimate 11 = .ok (.bipush 70, 2) := by decide +kernel
theorem dX7_estimate_13 : decode cX7_estimate 13 = .ok (.iload_n 1, 1) := by decide +kernel
theorem dX7_estimate_14 : decode cX7_estimate 14 = .ok (.iadd, 1) := by decide +kernel
theorem dX7_estimate_15 : decode cX7_estimate 15 = .ok (.iaload, 1) := by decide +kernel
theorem dX7_estimate_16 : decode cX7_estimate 16 = .ok (.goto 5, 3) := by decide +kernel
theorem dX7_estimate_19 : decode cX7_estimate 19 = .ok (.ldc 83, 2) := by decide +kernel
theorem dX7_estimate_21 : decode cX7_estimate 21 = .ok (.ireturn, 1) := by decide +kernel
set_option maxRecDepth 20000 in
theorem ggX7_tokens_X7_isClass : GoodIn wsX7_tokens wsX7_isClass := goodIn_r _ [6, 7, 8, 5, 9] (by decide +kernel) (by decide +kernel)
set_option maxRecDepth 20000 in
theorem gX7_tokens_X7_isClass : GoodIn wsX7_tokens (va_wsS RX7 94 yX7_isClass wsX7_isClass) := goodIn_app (goodIn_of _ (by decide +kernel)) ggX7_tokens_X7_isClass
theorem dX7_tokens_0 : decode cX7_tokens 0 = .ok (.iload_n 1, 1) := by decide +kernel
theorem dX7_tokens_1 : decode cX7_tokens 1 = .ok (.invokestatic 94, 3) := by decide +kernel
theorem dX7_tokens_4 : decode cX7_tokens 4 = .ok (.ifCond .eq 15, 3) := by decide +kernel
theorem dX7_tokens_7 : decode cX7_tokens 7 = .ok (.aload_n 0, 1) := by decide +kernel
theorem dX7_tokens_8 : decode cX7_tokens 8 = .ok (.getfield 7, 3) := by decide +kernel
theorem dX7_tokens_11 : decode cX7_tokens 11 = .ok (.bipush 16, 2) := by decide +kernel
theorem dX7_tokens_13 : decode cX7_tokens 13 = .ok (.iload_n 1, 1) := by decide +kernel
theorem dX7_tokens_14 : decode cX7_tokens 14 = .ok (.iadd, 1) := by decide +kernel
theorem dX7_tokens_15 : decode cX7_tokens 15 = .ok (.iaload, 1) := by decide +kernel
theorem dX7_tokens_16 : decode cX7_tokens 16 = .ok (.goto 5, 3) := by decide +kernel
theorem dX7_tokens_19 : decode cX7_tokens 19 = .ok (.ldc 83, 2) := by decide +kernel
theorem dX7_tokens_21 : decode cX7_tokens 21 = .ok (.ireturn, 1) := by decide +kernel
set_option maxRecDepth 20000 in
theorem ggX7_pass_X7_isClass : GoodIn wsX7_pass wsX7_isClass := goodIn_r _ [6, 7, 8, 5, 9] (by decide +kernel) (by decide +kernel)
set_option maxRecDepth 20000 in
theorem gX7_pass_X7_isClass : GoodIn wsX7_pass (va_wsS RX7 94 yX7_isClass wsX7_isClass) := goodIn_app (goodIn_of _ (by decide +kernel)) ggX7_pass_X7_isClass
theorem dX7_pass_0 : decode cX7_pass 0 = .ok (.iload_n 1, 1) := by decide +kernel
theorem dX7_pass_1 : decode cX7_pass 1 = .ok (.invokestatic 94, 3) := by decide +kernel
theorem dX7_pass_4 : decode cX7_pass 4 = .ok (.ifCond .eq 15, 3) := by decide +kernel
theorem dX7_pass_7 : decode cX7_pass 7 = .ok (.aload_n 0, 1) := by decide +kernel
theorem dX7_pass_8 : decode cX7_pass 8 = .ok (.getfield 7, 3) := by decide +kernel
theorem dX7_pass_11 : decode cX7_pass 11 = .ok (.bipush 19, 2) := by decide +kernel
theorem dX7_pass_13 : decode cX7_pass 13 = .ok (.iload_n 1, 1) := by decide +kernel
theorem dX7_pass_14 : decode cX7_pass 14 = .ok (.iadd, 1) := by decide +kernel
theorem dX7_pass_15 : decode cX7_pass 15 = .ok (.iaload, 1) := by decide +kernel
theorem dX7_pass_16 : decode cX7_pass 16 = .ok (.goto 5, 3) := by decide +kernel
theorem dX7_pass_19 : decode cX7_pass 19 = .ok (.ldc 83, 2) := by decide +kernel
theorem dX7_pass_21 : decode cX7_pass 21 = .ok (.ireturn, 1) := by decide +kernel
set_option maxRecDepth 20000 in
theorem ggX7_queued_X7_isClass : GoodIn wsX7_queued wsX7_isClass := goodIn_r _ [6, 7, 8, 5, 9] (by decide +kernel) (by decide +kernel)
set_option maxRecDepth 20000 in
theorem gX7_queued_X7_isClass : GoodIn wsX7_queued (va_wsS RX7 94 yX7_isClass wsX7_isClass) := goodIn_app (goodIn_of _ (by decide +kernel)) ggX7_queued_X7_isClass
theorem dX7_queued_0 : decode cX7_queued 0 = .ok (.iload_n 1, 1) := by decide +kernel
theorem dX7_queued_1 : decode cX7_queued 1 = .ok (.invokestatic 94, 3) := by decide +kernel
theorem dX7_queued_4 : decode cX7_queued 4 = .ok (.ifCond .eq 15, 3) := by decide +kernel
theorem dX7_queued_7 : decode cX7_queued 7 = .ok (.aload_n 0, 1) := by decide +kernel
theorem dX7_queued_8 : decode cX7_queued 8 = .ok (.getfield 7, 3) := by decide +kernel
theorem dX7_queued_11 : decode cX7_queued 11 = .ok (.bipush 25, 2) := by decide +kernel
theorem dX7_queued_13 : decode cX7_queued 13 = .ok (.iload_n 1, 1) := by decide +kernel
theorem dX7_queued_14 : decode cX7_queued 14 = .ok (.iadd, 1) := by decide +kernel
theorem dX7_queued_15 : decode cX7_queued 15 = .ok (.iaload, 1) := by decide +kernel
theorem dX7_queued_16 : decode cX7_queued 16 = .ok (.goto 5, 3) := by decide +kernel
theorem dX7_queued_19 : decode cX7_queued 19 = .ok (.ldc 83, 2) := by decide +kernel
theorem dX7_queued_21 : decode cX7_queued 21 = .ok (.ireturn, 1) := by decide +kernel
set_option maxRecDepth 20000 in
theorem ggX7_queuedAt_X7_isClass : GoodIn wsX7_queuedAt wsX7_isClass := goodIn_r _ [8, 9, 10, 7, 11] (by decide +kernel) (by decide +kernel)
set_option maxRecDepth 20000 in
theorem gX7_queuedAt_X7_isClass : GoodIn wsX7_queuedAt (va_wsS RX7 94 yX7_isClass wsX7_isClass) := goodIn_app (goodIn_of _ (by decide +kernel)) ggX7_queuedAt_X7_isClass
set_option maxRecDepth 20000 in
theorem ggX7_queuedAt_X7_inQueue : GoodIn wsX7_queuedAt wsX7_inQueue := goodIn_r _ [15, 3, 16, 17, 18, 19, 20, 21, 22, 23, 24] (by decide +kernel) (by decide +kernel)
set_option maxRecDepth 20000 in
theorem gX7_queuedAt_X7_inQueue : GoodIn wsX7_queuedAt (wsV RX7 31 RX7 yX7_inQueue wsX7_inQueue) := goodIn_app (goodIn_of _ (by decide +kernel)) ggX7_queuedAt_X7_inQueue
theorem dX7_queuedAt_0 : decode cX7_queuedAt 0 = .ok (.iload_n 1, 1) := by decide +kernel
theorem dX7_queuedAt_1 : decode cX7_queuedAt 1 = .ok (.invokestatic 94, 3) := by decide +kernel
theorem dX7_queuedAt_4 : decode cX7_queuedAt 4 = .ok (.ifCond .ne 6, 3) := by decide +kernel
theorem dX7_queuedAt_7 : decode cX7_queuedAt 7 = .ok (.ldc 83, 2) := by decide +kernel
theorem dX7_queuedAt_9 : decode cX7_queuedAt 9 = .ok (.ireturn, 1) := by decide +kernel
theorem dX7_queuedAt_10 : decode cX7_queuedAt 10 = .ok (.iload_n 2, 1) := by decide +kernel
theorem dX7_queuedAt_11 : decode cX7_queuedAt 11 = .ok (.ifCond .ge 6, 3) := by decide +kernel
theorem dX7_queuedAt_14 : decode cX7_queuedAt 14 = .ok (.ldc 90, 2) := by decide +kernel
theorem dX7_queuedAt_16 : decode cX7_queuedAt 16 = .ok (.ireturn, 1) := by decide +kernel
theorem dX7_queuedAt_17 : decode cX7_queuedAt 17 = .ok (.iload_n 2, 1) := by decide +kernel
theorem dX7_queuedAt_18 : decode cX7_queuedAt 18 = .ok (.aload_n 0, 1) := by decide +kernel
theorem dX7_queuedAt_19 : decode cX7_queuedAt 19 = .ok (.getfield 7, 3) := by decide +kernel
theorem dX7_queuedAt_22 : decode cX7_queuedAt 22 = .ok (.bipush 25, 2) := by decide +kernel
theorem dX7_queuedAt_24 : decode cX7_queuedAt 24 = .ok (.iload_n 1, 1) := by decide +kernel
theorem dX7_queuedAt_25 : decode cX7_queuedAt 25 = .ok (.iadd, 1) := by decide +kernel
theorem dX7_queuedAt_26 : decode cX7_queuedAt 26 = .ok (.iaload, 1) := by decide +kernel
theorem dX7_queuedAt_27 : decode cX7_queuedAt 27 = .ok (.if_icmp .ge 12, 3) := by decide +kernel
theorem dX7_queuedAt_30 : decode cX7_queuedAt 30 = .ok (.aload_n 0, 1) := by decide +kernel
theorem dX7_queuedAt_31 : decode cX7_queuedAt 31 = .ok (.iload_n 1, 1) := by decide +kernel
theorem dX7_queuedAt_32 : decode cX7_queuedAt 32 = .ok (.iload_n 2, 1) := by decide +kernel
theorem dX7_queuedAt_33 : decode cX7_queuedAt 33 = .ok (.invokevirtual 31, 3) := by decide +kernel
theorem dX7_queuedAt_36 : decode cX7_queuedAt 36 = .ok (.goto 5, 3) := by decide +kernel
theorem dX7_queuedAt_39 : decode cX7_queuedAt 39 = .ok (.ldc 30, 2) := by decide +kernel
theorem dX7_queuedAt_41 : decode cX7_queuedAt 41 = .ok (.ireturn, 1) := by decide +kernel
set_option maxRecDepth 20000 in
theorem ggX7_backlog_X7_isClass : GoodIn wsX7_backlog wsX7_isClass := goodIn_r _ [5, 6, 7, 4, 8] (by decide +kernel) (by decide +kernel)
set_option maxRecDepth 20000 in
theorem gX7_backlog_X7_isClass : GoodIn wsX7_backlog (va_wsS RX7 94 yX7_isClass wsX7_isClass) := goodIn_app (goodIn_of _ (by decide +kernel)) ggX7_backlog_X7_isClass
set_option maxRecDepth 20000 in
theorem ggX7_backlog_X7_backlogOf : GoodIn wsX7_backlog wsX7_backlogOf := goodIn_r _ [12, 13, 14, 15, 16, 4, 17, 18, 19, 20, 21, 22, 23, 24, 25, 26, 27, 28, 29, 30] (by decide +kernel) (by decide +kernel)
set_option maxRecDepth 20000 in
theorem gX7_backlog_X7_backlogOf : GoodIn wsX7_backlog (wsV RX7 41 RX7 yX7_backlogOf wsX7_backlogOf) := goodIn_app (goodIn_of _ (by decide +kernel)) ggX7_backlog_X7_backlogOf
theorem dX7_backlog_0 : decode cX7_backlog 0 = .ok (.iload_n 1, 1) := by decide +kernel
theorem dX7_backlog_1 : decode cX7_backlog 1 = .ok (.invokestatic 94, 3) := by decide +kernel
theorem dX7_backlog_4 : decode cX7_backlog 4 = .ok (.ifCond .eq 11, 3) := by decide +kernel
theorem dX7_backlog_7 : decode cX7_backlog 7 = .ok (.aload_n 0, 1) := by decide +kernel
theorem dX7_backlog_8 : decode cX7_backlog 8 = .ok (.iload_n 1, 1) := by decide +kernel
theorem dX7_backlog_9 : decode cX7_backlog 9 = .ok (.invokevirtual 41, 3) := by decide +kernel
theorem dX7_backlog_12 : decode cX7_backlog 12 = .ok (.goto 5, 3) := by decide +kernel
theorem dX7_backlog_15 : decode cX7_backlog 15 = .ok (.ldc 83, 2) := by decide +kernel
theorem dX7_backlog_17 : decode cX7_backlog 17 = .ok (.ireturn, 1) := by decide +kernel
set_option maxRecDepth 20000 in
theorem ggX7_worked_X7_isClass : GoodIn wsX7_worked wsX7_isClass := goodIn_r _ [6, 7, 8, 5, 9] (by decide +kernel) (by decide +kernel)
set_option maxRecDepth 20000 in
theorem gX7_worked_X7_isClass : GoodIn wsX7_worked (va_wsS RX7 94 yX7_isClass wsX7_isClass) := goodIn_app (goodIn_of _ (by decide +kernel)) ggX7_worked_X7_isClass
theorem dX7_worked_0 : decode cX7_worked 0 = .ok (.iload_n 1, 1) := by decide +kernel
theorem dX7_worked_1 : decode cX7_worked 1 = .ok (.invokestatic 94, 3) := by decide +kernel
theorem dX7_worked_4 : decode cX7_worked 4 = .ok (.ifCond .eq 15, 3) := by decide +kernel
theorem dX7_worked_7 : decode cX7_worked 7 = .ok (.aload_n 0, 1) := by decide +kernel
theorem dX7_worked_8 : decode cX7_worked 8 = .ok (.getfield 7, 3) := by decide +kernel
theorem dX7_worked_11 : decode cX7_worked 11 = .ok (.bipush 22, 2) := by decide +kernel
theorem dX7_worked_13 : decode cX7_worked 13 = .ok (.iload_n 1, 1) := by decide +kernel
theorem dX7_worked_14 : decode cX7_worked 14 = .ok (.iadd, 1) := by decide +kernel
theorem dX7_worked_15 : decode cX7_worked 15 = .ok (.iaload, 1) := by decide +kernel
theorem dX7_worked_16 : decode cX7_worked 16 = .ok (.goto 5, 3) := by decide +kernel
theorem dX7_worked_19 : decode cX7_worked 19 = .ok (.ldc 83, 2) := by decide +kernel
theorem dX7_worked_21 : decode cX7_worked 21 = .ok (.ireturn, 1) := by decide +kernel
set_option maxRecDepth 20000 in
theorem ggX7_refused_X7_isClass : GoodIn wsX7_refused wsX7_isClass := goodIn_r _ [6, 7, 8, 5, 9] (by decide +kernel) (by decide +kernel)
set_option maxRecDepth 20000 in
theorem gX7_refused_X7_isClass : GoodIn wsX7_refused (va_wsS RX7 94 yX7_isClass wsX7_isClass) := goodIn_app (goodIn_of _ (by decide +kernel)) ggX7_refused_X7_isClass
set_option maxRecDepth 20000 in
theorem ggX7_refused_X7_in : GoodIn wsX7_refused wsX7_in := goodIn_r _ [9] (by decide +kernel) (by decide +kernel)
set_option maxRecDepth 20000 in
theorem gX7_refused_X7_in : GoodIn wsX7_refused (va_wsS RX7 22 yX7_in wsX7_in) := goodIn_app (goodIn_of _ (by decide +kernel)) ggX7_refused_X7_in
theorem dX7_refused_0 : decode cX7_refused 0 = .ok (.iload_n 1, 1) := by decide +kernel
theorem dX7_refused_1 : decode cX7_refused 1 = .ok (.invokestatic 94, 3) := by decide +kernel
theorem dX7_refused_4 : decode cX7_refused 4 = .ok (.ifCond .eq 30, 3) := by decide +kernel
theorem dX7_refused_7 : decode cX7_refused 7 = .ok (.iload_n 2, 1) := by decide +kernel
theorem dX7_refused_8 : decode cX7_refused 8 = .ok (.iconst 1, 1) := by decide +kernel
theorem dX7_refused_9 : decode cX7_refused 9 = .ok (.iconst 5, 1) := by decide +kernel
theorem dX7_refused_10 : decode cX7_refused 10 = .ok (.invokestatic 22, 3) := by decide +kernel
theorem dX7_refused_13 : decode cX7_refused 13 = .ok (.ifCond .eq 21, 3) := by decide +kernel
theorem dX7_refused_16 : decode cX7_refused 16 = .ok (.aload_n 0, 1) := by decide +kernel
theorem dX7_refused_17 : decode cX7_refused 17 = .ok (.getfield 7, 3) := by decide +kernel
theorem dX7_refused_20 : decode cX7_refused 20 = .ok (.bipush 52, 2) := by decide +kernel
theorem dX7_refused_22 : decode cX7_refused 22 = .ok (.iconst 5, 1) := by decide +kernel
theorem dX7_refused_23 : decode cX7_refused 23 = .ok (.iload_n 1, 1) := by decide +kernel
theorem dX7_refused_24 : decode cX7_refused 24 = .ok (.imul, 1) := by decide +kernel
theorem dX7_refused_25 : decode cX7_refused 25 = .ok (.iadd, 1) := by decide +kernel
theorem dX7_refused_26 : decode cX7_refused 26 = .ok (.iload_n 2, 1) := by decide +kernel
theorem dX7_refused_27 : decode cX7_refused 27 = .ok (.iadd, 1) := by decide +kernel
theorem dX7_refused_28 : decode cX7_refused 28 = .ok (.iconst 1, 1) := by decide +kernel
theorem dX7_refused_29 : decode cX7_refused 29 = .ok (.isub, 1) := by decide +kernel
theorem dX7_refused_30 : decode cX7_refused 30 = .ok (.iaload, 1) := by decide +kernel
theorem dX7_refused_31 : decode cX7_refused 31 = .ok (.goto 5, 3) := by decide +kernel
theorem dX7_refused_34 : decode cX7_refused 34 = .ok (.ldc 83, 2) := by decide +kernel
theorem dX7_refused_36 : decode cX7_refused 36 = .ok (.ireturn, 1) := by decide +kernel
theorem dX7_idle_0 : decode cX7_idle 0 = .ok (.aload_n 0, 1) := by decide +kernel
theorem dX7_idle_1 : decode cX7_idle 1 = .ok (.getfield 7, 3) := by decide +kernel
theorem dX7_idle_4 : decode cX7_idle 4 = .ok (.bipush 68, 2) := by decide +kernel
theorem dX7_idle_6 : decode cX7_idle 6 = .ok (.iaload, 1) := by decide +kernel
theorem dX7_idle_7 : decode cX7_idle 7 = .ok (.ireturn, 1) := by decide +kernel
set_option maxRecDepth 20000 in
theorem ggX7_workShare_X7_isClass : GoodIn wsX7_workShare wsX7_isClass := goodIn_r _ [6, 7, 8, 5, 9] (by decide +kernel) (by decide +kernel)
set_option maxRecDepth 20000 in
theorem gX7_workShare_X7_isClass : GoodIn wsX7_workShare (va_wsS RX7 94 yX7_isClass wsX7_isClass) := goodIn_app (goodIn_of _ (by decide +kernel)) ggX7_workShare_X7_isClass
theorem dX7_workShare_0 : decode cX7_workShare 0 = .ok (.iload_n 1, 1) := by decide +kernel
theorem dX7_workShare_1 : decode cX7_workShare 1 = .ok (.invokestatic 94, 3) := by decide +kernel
theorem dX7_workShare_4 : decode cX7_workShare 4 = .ok (.ifCond .ne 6, 3) := by decide +kernel
theorem dX7_workShare_7 : decode cX7_workShare 7 = .ok (.ldc 145, 2) := by decide +kernel
theorem dX7_workShare_9 : decode cX7_workShare 9 = .ok (.freturn, 1) := by decide +kernel
theorem dX7_workShare_10 : decode cX7_workShare 10 = .ok (.aload_n 0, 1) := by decide +kernel
theorem dX7_workShare_11 : decode cX7_workShare 11 = .ok (.getfield 7, 3) := by decide +kernel
theorem dX7_workShare_14 : decode cX7_workShare 14 = .ok (.bipush 22, 2) := by decide +kernel
theorem dX7_workShare_16 : decode cX7_workShare 16 = .ok (.iaload, 1) := by decide +kernel
theorem dX7_workShare_17 : decode cX7_workShare 17 = .ok (.aload_n 0, 1) := by decide +kernel
theorem dX7_workShare_18 : decode cX7_workShare 18 = .ok (.getfield 7, 3) := by decide +kernel
theorem dX7_workShare_21 : decode cX7_workShare 21 = .ok (.bipush 23, 2) := by decide +kernel
theorem dX7_workShare_23 : decode cX7_workShare 23 = .ok (.iaload, 1) := by decide +kernel
theorem dX7_workShare_24 : decode cX7_workShare 24 = .ok (.iadd, 1) := by decide +kernel
theorem dX7_workShare_25 : decode cX7_workShare 25 = .ok (.aload_n 0, 1) := by decide +kernel
theorem dX7_workShare_26 : decode cX7_workShare 26 = .ok (.getfield 7, 3) := by decide +kernel
theorem dX7_workShare_29 : decode cX7_workShare 29 = .ok (.bipush 24, 2) := by decide +kernel
theorem dX7_workShare_31 : decode cX7_workShare 31 = .ok (.iaload, 1) := by decide +kernel
theorem dX7_workShare_32 : decode cX7_workShare 32 = .ok (.iadd, 1) := by decide +kernel
theorem dX7_workShare_33 : decode cX7_workShare 33 = .ok (.istore_n 2, 1) := by decide +kernel
theorem dX7_workShare_34 : decode cX7_workShare 34 = .ok (.iload_n 2, 1) := by decide +kernel
theorem dX7_workShare_35 : decode cX7_workShare 35 = .ok (.ifCond .ne 7, 3) := by decide +kernel
theorem dX7_workShare_38 : decode cX7_workShare 38 = .ok (.fconst 0, 1) := by decide +kernel
theorem dX7_workShare_39 : decode cX7_workShare 39 = .ok (.goto 16, 3) := by decide +kernel
theorem dX7_workShare_42 : decode cX7_workShare 42 = .ok (.aload_n 0, 1) := by decide +kernel
theorem dX7_workShare_43 : decode cX7_workShare 43 = .ok (.getfield 7, 3) := by decide +kernel
theorem dX7_workShare_46 : decode cX7_workShare 46 = .ok (.bipush 22, 2) := by decide +kernel
theorem dX7_workShare_48 : decode cX7_workShare 48 = .ok (.iload_n 1, 1) := by decide +kernel
theorem dX7_workShare_49 : decode cX7_workShare 49 = .ok (.iadd, 1) := by decide +kernel
theorem dX7_workShare_50 : decode cX7_workShare 50 = .ok (.iaload, 1) := by decide +kernel
theorem dX7_workShare_51 : decode cX7_workShare 51 = .ok (.i2f, 1) := by decide +kernel
theorem dX7_workShare_52 : decode cX7_workShare 52 = .ok (.iload_n 2, 1) := by decide +kernel
theorem dX7_workShare_53 : decode cX7_workShare 53 = .ok (.i2f, 1) := by decide +kernel
theorem dX7_workShare_54 : decode cX7_workShare 54 = .ok (.fdiv, 1) := by decide +kernel
theorem dX7_workShare_55 : decode cX7_workShare 55 = .ok (.freturn, 1) := by decide +kernel
theorem dX7_requests_0 : decode cX7_requests 0 = .ok (.aload_n 0, 1) := by decide +kernel
theorem dX7_requests_1 : decode cX7_requests 1 = .ok (.getfield 7, 3) := by decide +kernel
theorem dX7_requests_4 : decode cX7_requests 4 = .ok (.bipush 69, 2) := by decide +kernel
theorem dX7_requests_6 : decode cX7_requests 6 = .ok (.iaload, 1) := by decide +kernel
theorem dX7_requests_7 : decode cX7_requests 7 = .ok (.ireturn, 1) := by decide +kernel
set_option maxRecDepth 20000 in
theorem ggX7_told_X7_isRequest : GoodIn wsX7_told wsX7_isRequest := goodIn_r _ [6, 7, 8, 9, 5, 10, 15, 16, 17, 18, 19, 20, 21, 22, 23] (by decide +kernel) (by decide +kernel)
set_option maxRecDepth 20000 in
theorem gX7_told_X7_isRequest : GoodIn wsX7_told (wsV RX7 146 RX7 yX7_isRequest wsX7_isRequest) := goodIn_app (goodIn_of _ (by decide +kernel)) ggX7_told_X7_isRequest
set_option maxRecDepth 20000 in
theorem ggX7_told_X7_of : GoodIn wsX7_told wsX7_of := goodIn_r _ [14, 7, 15, 16, 17, 18, 19, 20, 21, 22, 23] (by decide +kernel) (by decide +kernel)
set_option maxRecDepth 20000 in
theorem gX7_told_X7_of : GoodIn wsX7_told (wsV RX7 35 RX7 yX7_of wsX7_of) := goodIn_app (goodIn_of _ (by decide +kernel)) ggX7_told_X7_of
theorem dX7_told_0 : decode cX7_told 0 = .ok (.aload_n 0, 1) := by decide +kernel
theorem dX7_told_1 : decode cX7_told 1 = .ok (.iload_n 1, 1) := by decide +kernel
theorem dX7_told_2 : decode cX7_told 2 = .ok (.invokevirtual 146, 3) := by decide +kernel
theorem dX7_told_5 : decode cX7_told 5 = .ok (.ifCond .eq 12, 3) := by decide +kernel
theorem dX7_told_8 : decode cX7_told 8 = .ok (.aload_n 0, 1) := by decide +kernel
theorem dX7_told_9 : decode cX7_told 9 = .ok (.iload_n 1, 1) := by decide +kernel
theorem dX7_told_10 : decode cX7_told 10 = .ok (.iload_n 2, 1) := by decide +kernel
theorem dX7_told_11 : decode cX7_told 11 = .ok (.invokevirtual 35, 3) := by decide +kernel
theorem dX7_told_14 : decode cX7_told 14 = .ok (.goto 5, 3) := by decide +kernel
theorem dX7_told_17 : decode cX7_told 17 = .ok (.ldc 83, 2) := by decide +kernel
theorem dX7_told_19 : decode cX7_told 19 = .ok (.ireturn, 1) := by decide +kernel
set_option maxRecDepth 20000 in
theorem ggX7_state_X7_told : GoodIn wsX7_state wsX7_told := goodIn_r _ [5, 6, 7, 8, 9, 4, 10, 11, 12, 13, 14, 15, 16, 17, 18, 19, 20, 21, 22, 23, 24, 25, 26, 27] (by decide +kernel) (by decide +kernel)
set_option maxRecDepth 20000 in
theorem gX7_state_X7_told : GoodIn wsX7_state (wsV RX7 149 RX7 yX7_told wsX7_told) := goodIn_app (goodIn_of _ (by decide +kernel)) ggX7_state_X7_told
theorem dX7_state_0 : decode cX7_state 0 = .ok (.aload_n 0, 1) := by decide +kernel
theorem dX7_state_1 : decode cX7_state 1 = .ok (.iload_n 1, 1) := by decide +kernel
theorem dX7_state_2 : decode cX7_state 2 = .ok (.iconst 3, 1) := by decide +kernel
theorem dX7_state_3 : decode cX7_state 3 = .ok (.invokevirtual 149, 3) := by decide +kernel
theorem dX7_state_6 : decode cX7_state 6 = .ok (.ireturn, 1) := by decide +kernel
set_option maxRecDepth 20000 in
theorem ggX7_price_X7_told : GoodIn wsX7_price wsX7_told := goodIn_r _ [5, 6, 7, 8, 9, 4, 10, 11, 12, 13, 14, 15, 16, 17, 18, 19, 20, 21, 22, 23, 24, 25, 26, 27] (by decide +kernel) (by decide +kernel)
set_option maxRecDepth 20000 in
theorem gX7_price_X7_told : GoodIn wsX7_price (wsV RX7 149 RX7 yX7_told wsX7_told) := goodIn_app (goodIn_of _ (by decide +kernel)) ggX7_price_X7_told
theorem dX7_price_0 : decode cX7_price 0 = .ok (.aload_n 0, 1) := by decide +kernel
theorem dX7_price_1 : decode cX7_price 1 = .ok (.iload_n 1, 1) := by decide +kernel
theorem dX7_price_2 : decode cX7_price 2 = .ok (.iconst 4, 1) := by decide +kernel
theorem dX7_price_3 : decode cX7_price 3 = .ok (.invokevirtual 149, 3) := by decide +kernel
theorem dX7_price_6 : decode cX7_price 6 = .ok (.ireturn, 1) := by decide +kernel
set_option maxRecDepth 20000 in
theorem ggX7_done_X7_told : GoodIn wsX7_done wsX7_told := goodIn_r _ [5, 6, 7, 8, 9, 4, 10, 11, 12, 13, 14, 15, 16, 17, 18, 19, 20, 21, 22, 23, 24, 25, 26, 27] (by decide +kernel) (by decide +kernel)
set_option maxRecDepth 20000 in
theorem gX7_done_X7_told : GoodIn wsX7_done (wsV RX7 149 RX7 yX7_told wsX7_told) := goodIn_app (goodIn_of _ (by decide +kernel)) ggX7_done_X7_told
theorem dX7_done_0 : decode cX7_done 0 = .ok (.aload_n 0, 1) := by decide +kernel
theorem dX7_done_1 : decode cX7_done 1 = .ok (.iload_n 1, 1) := by decide +kernel
theorem dX7_done_2 : decode cX7_done 2 = .ok (.iconst 5, 1) := by decide +kernel
theorem dX7_done_3 : decode cX7_done 3 = .ok (.invokevirtual 149, 3) := by decide +kernel
theorem dX7_done_6 : decode cX7_done 6 = .ok (.ireturn, 1) := by decide +kernel
set_option maxRecDepth 20000 in
theorem ggX7_offers_X7_told : GoodIn wsX7_offers wsX7_told := goodIn_r _ [5, 6, 7, 8, 9, 4, 10, 11, 12, 13, 14, 15, 16, 17, 18, 19, 20, 21, 22, 23, 24, 25, 26, 27] (by decide +kernel) (by decide +kernel)
set_option maxRecDepth 20000 in
theorem gX7_offers_X7_told : GoodIn wsX7_offers (wsV RX7 149 RX7 yX7_told wsX7_told) := goodIn_app (goodIn_of _ (by decide +kernel)) ggX7_offers_X7_told
theorem dX7_offers_0 : decode cX7_offers 0 = .ok (.aload_n 0, 1) := by decide +kernel
theorem dX7_offers_1 : decode cX7_offers 1 = .ok (.iload_n 1, 1) := by decide +kernel
theorem dX7_offers_2 : decode cX7_offers 2 = .ok (.bipush 6, 2) := by decide +kernel
theorem dX7_offers_4 : decode cX7_offers 4 = .ok (.invokevirtual 149, 3) := by decide +kernel
theorem dX7_offers_7 : decode cX7_offers 7 = .ok (.ireturn, 1) := by decide +kernel
set_option maxRecDepth 20000 in
theorem ggX7_reason_X7_told : GoodIn wsX7_reason wsX7_told := goodIn_r _ [5, 6, 7, 8, 9, 4, 10, 11, 12, 13, 14, 15, 16, 17, 18, 19, 20, 21, 22, 23, 24, 25, 26, 27] (by decide +kernel) (by decide +kernel)
set_option maxRecDepth 20000 in
theorem gX7_reason_X7_told : GoodIn wsX7_reason (wsV RX7 149 RX7 yX7_told wsX7_told) := goodIn_app (goodIn_of _ (by decide +kernel)) ggX7_reason_X7_told
theorem dX7_reason_0 : decode cX7_reason 0 = .ok (.aload_n 0, 1) := by decide +kernel
theorem dX7_reason_1 : decode cX7_reason 1 = .ok (.iload_n 1, 1) := by decide +kernel
theorem dX7_reason_2 : decode cX7_reason 2 = .ok (.bipush 7, 2) := by decide +kernel
theorem dX7_reason_4 : decode cX7_reason 4 = .ok (.invokevirtual 149, 3) := by decide +kernel
theorem dX7_reason_7 : decode cX7_reason 7 = .ok (.ireturn, 1) := by decide +kernel
set_option maxRecDepth 20000 in
theorem ggX7_when_X7_told : GoodIn wsX7_when wsX7_told := goodIn_r _ [5, 6, 7, 8, 9, 4, 10, 11, 12, 13, 14, 15, 16, 17, 18, 19, 20, 21, 22, 23, 24, 25, 26, 27] (by decide +kernel) (by decide +kernel)
set_option maxRecDepth 20000 in
theorem gX7_when_X7_told : GoodIn wsX7_when (wsV RX7 149 RX7 yX7_told wsX7_told) := goodIn_app (goodIn_of _ (by decide +kernel)) ggX7_when_X7_told
theorem dX7_when_0 : decode cX7_when 0 = .ok (.aload_n 0, 1) := by decide +kernel
theorem dX7_when_1 : decode cX7_when 1 = .ok (.iload_n 1, 1) := by decide +kernel
theorem dX7_when_2 : decode cX7_when 2 = .ok (.bipush 8, 2) := by decide +kernel
theorem dX7_when_4 : decode cX7_when 4 = .ok (.invokevirtual 149, 3) := by decide +kernel
theorem dX7_when_7 : decode cX7_when 7 = .ok (.ireturn, 1) := by decide +kernel
set_option maxRecDepth 20000 in
theorem ggX7_wouldRefuse_X7_isClass : GoodIn wsX7_wouldRefuse wsX7_isClass := goodIn_r _ [5, 6, 7, 4, 8] (by decide +kernel) (by decide +kernel)
set_option maxRecDepth 20000 in
theorem gX7_wouldRefuse_X7_isClass : GoodIn wsX7_wouldRefuse (va_wsS RX7 94 yX7_isClass wsX7_isClass) := goodIn_app (goodIn_of _ (by decide +kernel)) ggX7_wouldRefuse_X7_isClass
set_option maxRecDepth 20000 in
theorem ggX7_wouldRefuse_X7_isShape : GoodIn wsX7_wouldRefuse wsX7_isShape := goodIn_r _ [11, 6, 7, 4, 8] (by decide +kernel) (by decide +kernel)
set_option maxRecDepth 20000 in
theorem gX7_wouldRefuse_X7_isShape : GoodIn wsX7_wouldRefuse (va_wsS RX7 100 yX7_isShape wsX7_isShape) := goodIn_app (goodIn_of _ (by decide +kernel)) ggX7_wouldRefuse_X7_isShape
set_option maxRecDepth 20000 in
theorem ggX7_wouldRefuse_X7_expectedCost : GoodIn wsX7_wouldRefuse wsX7_expectedCost := goodIn_r _ [15, 16, 37, 38, 39, 40, 41, 42, 43, 44, 45] (by decide +kernel) (by decide +kernel)
set_option maxRecDepth 20000 in
theorem gX7_wouldRefuse_X7_expectedCost : GoodIn wsX7_wouldRefuse (wsV RX7 49 RX7 yX7_expectedCost wsX7_expectedCost) := goodIn_app (goodIn_of _ (by decide +kernel)) ggX7_wouldRefuse_X7_expectedCost
set_option maxRecDepth 20000 in
theorem ggX7_wouldRefuse_X7_whyRefused : GoodIn wsX7_wouldRefuse wsX7_whyRefused := goodIn_r _ [20, 16, 21, 22, 23, 4, 24, 25, 26, 27, 28, 29, 30, 31, 32, 33, 34, 35, 36, 37, 38, 39, 40, 41, 42, 43, 44, 45] (by decide +kernel) (by decide +kernel)
set_option maxRecDepth 20000 in
theorem gX7_wouldRefuse_X7_whyRefused : GoodIn wsX7_wouldRefuse (wsV RX7 52 RX7 yX7_whyRefused wsX7_whyRefused) := goodIn_app (goodIn_of _ (by decide +kernel)) ggX7_wouldRefuse_X7_whyRefused
theorem dX7_wouldRefuse_0 : decode cX7_wouldRefuse 0 = .ok (.iload_n 1, 1) := by decide +kernel
theorem dX7_wouldRefuse_1 : decode cX7_wouldRefuse 1 = .ok (.invokestatic 94, 3) := by decide +kernel
theorem dX7_wouldRefuse_4 : decode cX7_wouldRefuse 4 = .ok (.ifCond .eq 23, 3) := by decide +kernel
theorem dX7_wouldRefuse_7 : decode cX7_wouldRefuse 7 = .ok (.iload_n 2, 1) := by decide +kernel
theorem dX7_wouldRefuse_8 : decode cX7_wouldRefuse 8 = .ok (.invokestatic 100, 3) := by decide +kernel
theorem dX7_wouldRefuse_11 : decode cX7_wouldRefuse 11 = .ok (.ifCond .eq 16, 3) := by decide +kernel
theorem dX7_wouldRefuse_14 : decode cX7_wouldRefuse 14 = .ok (.aload_n 0, 1) := by decide +kernel
theorem dX7_wouldRefuse_15 : decode cX7_wouldRefuse 15 = .ok (.iload_n 1, 1) := by decide +kernel
theorem dX7_wouldRefuse_16 : decode cX7_wouldRefuse 16 = .ok (.aload_n 0, 1) := by decide +kernel
theorem dX7_wouldRefuse_17 : decode cX7_wouldRefuse 17 = .ok (.iload_n 2, 1) := by decide +kernel
theorem dX7_wouldRefuse_18 : decode cX7_wouldRefuse 18 = .ok (.invokevirtual 49, 3) := by decide +kernel
theorem dX7_wouldRefuse_21 : decode cX7_wouldRefuse 21 = .ok (.invokevirtual 52, 3) := by decide +kernel
theorem dX7_wouldRefuse_24 : decode cX7_wouldRefuse 24 = .ok (.goto 5, 3) := by decide +kernel
theorem dX7_wouldRefuse_27 : decode cX7_wouldRefuse 27 = .ok (.ldc 83, 2) := by decide +kernel
theorem dX7_wouldRefuse_29 : decode cX7_wouldRefuse 29 = .ok (.ireturn, 1) := by decide +kernel
set_option maxRecDepth 20000 in
theorem ggX7_inState_X7_of : GoodIn wsX7_inState wsX7_of := goodIn_r _ [6, 1, 7, 8, 9, 10, 11, 12, 13, 14, 15] (by decide +kernel) (by decide +kernel)
set_option maxRecDepth 20000 in
theorem gX7_inState_X7_of : GoodIn wsX7_inState (wsV RX7 35 RX7 yX7_of wsX7_of) := goodIn_app (goodIn_of _ (by decide +kernel)) ggX7_inState_X7_of
theorem dX7_inState_0 : decode cX7_inState 0 = .ok (.iconst 0, 1) := by decide +kernel
theorem dX7_inState_1 : decode cX7_inState 1 = .ok (.istore_n 2, 1) := by decide +kernel
theorem dX7_inState_2 : decode cX7_inState 2 = .ok (.iconst 0, 1) := by decide +kernel
theorem dX7_inState_3 : decode cX7_inState 3 = .ok (.istore_n 3, 1) := by decide +kernel
theorem dX7_inState_4 : decode cX7_inState 4 = .ok (.iload_n 3, 1) := by decide +kernel
theorem dX7_inState_5 : decode cX7_inState 5 = .ok (.aload_n 0, 1) := by decide +kernel
theorem dX7_inState_6 : decode cX7_inState 6 = .ok (.getfield 7, 3) := by decide +kernel
theorem dX7_inState_9 : decode cX7_inState 9 = .ok (.bipush 69, 2) := by decide +kernel
theorem dX7_inState_11 : decode cX7_inState 11 = .ok (.iaload, 1) := by decide +kernel
theorem dX7_inState_12 : decode cX7_inState 12 = .ok (.if_icmp .ge 27, 3) := by decide +kernel
theorem dX7_inState_15 : decode cX7_inState 15 = .ok (.iload_n 2, 1) := by decide +kernel
theorem dX7_inState_16 : decode cX7_inState 16 = .ok (.aload_n 0, 1) := by decide +kernel
theorem dX7_inState_17 : decode cX7_inState 17 = .ok (.iload_n 3, 1) := by decide +kernel
theorem dX7_inState_18 : decode cX7_inState 18 = .ok (.iconst 3, 1) := by decide +kernel
theorem dX7_inState_19 : decode cX7_inState 19 = .ok (.invokevirtual 35, 3) := by decide +kernel
theorem dX7_inState_22 : decode cX7_inState 22 = .ok (.iload_n 1, 1) := by decide +kernel
theorem dX7_inState_23 : decode cX7_inState 23 = .ok (.if_icmp .ne 7, 3) := by decide +kernel
theorem dX7_inState_26 : decode cX7_inState 26 = .ok (.iconst 1, 1) := by decide +kernel
theorem dX7_inState_27 : decode cX7_inState 27 = .ok (.goto 4, 3) := by decide +kernel
theorem dX7_inState_30 : decode cX7_inState 30 = .ok (.iconst 0, 1) := by decide +kernel
theorem dX7_inState_31 : decode cX7_inState 31 = .ok (.iadd, 1) := by decide +kernel
theorem dX7_inState_32 : decode cX7_inState 32 = .ok (.istore_n 2, 1) := by decide +kernel
theorem dX7_inState_33 : decode cX7_inState 33 = .ok (.iinc 3 1, 3) := by decide +kernel
theorem dX7_inState_36 : decode cX7_inState 36 = .ok (.goto (-32), 3) := by decide +kernel
theorem dX7_inState_39 : decode cX7_inState 39 = .ok (.iload_n 2, 1) := by decide +kernel
theorem dX7_inState_40 : decode cX7_inState 40 = .ok (.ireturn, 1) := by decide +kernel
set_option maxRecDepth 20000 in
theorem ggX7_isOver_X7_inState : GoodIn wsX7_isOver wsX7_inState := goodIn_r _ [6, 1, 7, 8, 9, 5, 10, 11, 12, 13, 14, 15, 16, 17, 18, 19] (by decide +kernel) (by decide +kernel)
set_option maxRecDepth 20000 in
theorem gX7_isOver_X7_inState : GoodIn wsX7_isOver (wsV RX7 152 RX7 yX7_inState wsX7_inState) := goodIn_app (goodIn_of _ (by decide +kernel)) ggX7_isOver_X7_inState
theorem dX7_isOver_0 : decode cX7_isOver 0 = .ok (.aload_n 0, 1) := by decide +kernel
theorem dX7_isOver_1 : decode cX7_isOver 1 = .ok (.iconst 2, 1) := by decide +kernel
theorem dX7_isOver_2 : decode cX7_isOver 2 = .ok (.invokevirtual 152, 3) := by decide +kernel
theorem dX7_isOver_5 : decode cX7_isOver 5 = .ok (.aload_n 0, 1) := by decide +kernel
theorem dX7_isOver_6 : decode cX7_isOver 6 = .ok (.iconst 4, 1) := by decide +kernel
theorem dX7_isOver_7 : decode cX7_isOver 7 = .ok (.invokevirtual 152, 3) := by decide +kernel
theorem dX7_isOver_10 : decode cX7_isOver 10 = .ok (.iadd, 1) := by decide +kernel
theorem dX7_isOver_11 : decode cX7_isOver 11 = .ok (.aload_n 0, 1) := by decide +kernel
theorem dX7_isOver_12 : decode cX7_isOver 12 = .ok (.getfield 7, 3) := by decide +kernel
theorem dX7_isOver_15 : decode cX7_isOver 15 = .ok (.bipush 69, 2) := by decide +kernel
theorem dX7_isOver_17 : decode cX7_isOver 17 = .ok (.iaload, 1) := by decide +kernel
theorem dX7_isOver_18 : decode cX7_isOver 18 = .ok (.if_icmp .ne 7, 3) := by decide +kernel
theorem dX7_isOver_21 : decode cX7_isOver 21 = .ok (.iconst 1, 1) := by decide +kernel
theorem dX7_isOver_22 : decode cX7_isOver 22 = .ok (.goto 4, 3) := by decide +kernel
theorem dX7_isOver_25 : decode cX7_isOver 25 = .ok (.iconst 0, 1) := by decide +kernel
theorem dX7_isOver_26 : decode cX7_isOver 26 = .ok (.ireturn, 1) := by decide +kernel
set_option maxRecDepth 20000 in
theorem ggX7_ticksToEnd_X7_isOver : GoodIn wsX7_ticksToEnd wsX7_isOver := goodIn_r _ [5, 6, 7, 8, 9, 4, 10, 11, 12, 13, 14, 76, 77, 78, 79, 80, 81, 82, 83, 84] (by decide +kernel) (by decide +kernel)
set_option maxRecDepth 20000 in
theorem gX7_ticksToEnd_X7_isOver : GoodIn wsX7_ticksToEnd (wsV RX7 155 RX7 yX7_isOver wsX7_isOver) := goodIn_app (goodIn_of _ (by decide +kernel)) ggX7_ticksToEnd_X7_isOver
set_option maxRecDepth 20000 in
theorem ggX7_ticksToEnd_X7_tick : GoodIn wsX7_ticksToEnd wsX7_tick := goodIn_r _ [18, 6, 19, 20, 21, 4, 22, 23, 24, 25, 26, 11, 12, 13, 14, 27, 28, 29, 30, 31, 32, 33, 34, 35, 36, 37, 38, 39, 40, 41, 42, 43, 44, 45, 46, 47, 48, 49, 50, 51, 52, 53, 54, 55, 56, 57, 58, 59, 60, 61, 62, 63, 64, 65, 66, 67, 68, 69, 70, 71, 72, 73, 74, 75, 76, 77, 78, 79, 80, 81, 82, 83, 84] (by decide +kernel) (by decide +kernel)
set_option maxRecDepth 20000 in
theorem gX7_ticksToEnd_X7_tick : GoodIn wsX7_ticksToEnd (wsV RX7 111 RX7 yX7_tick wsX7_tick) := goodIn_app (goodIn_of _ (by decide +kernel)) ggX7_ticksToEnd_X7_tick
theorem dX7_ticksToEnd_0 : decode cX7_ticksToEnd 0 = .ok (.iconst 0, 1) := by decide +kernel
theorem dX7_ticksToEnd_1 : decode cX7_ticksToEnd 1 = .ok (.istore_n 1, 1) := by decide +kernel
theorem dX7_ticksToEnd_2 : decode cX7_ticksToEnd 2 = .ok (.aload_n 0, 1) := by decide +kernel
theorem dX7_ticksToEnd_3 : decode cX7_ticksToEnd 3 = .ok (.invokevirtual 155, 3) := by decide +kernel
theorem dX7_ticksToEnd_6 : decode cX7_ticksToEnd 6 = .ok (.ifCond .ne 21, 3) := by decide +kernel
theorem dX7_ticksToEnd_9 : decode cX7_ticksToEnd 9 = .ok (.iload_n 1, 1) := by decide +kernel
theorem dX7_ticksToEnd_10 : decode cX7_ticksToEnd 10 = .ok (.sipush 400, 3) := by decide +kernel
theorem dX7_ticksToEnd_13 : decode cX7_ticksToEnd 13 = .ok (.if_icmp .gt 14, 3) := by decide +kernel
theorem dX7_ticksToEnd_16 : decode cX7_ticksToEnd 16 = .ok (.aload_n 0, 1) := by decide +kernel
theorem dX7_ticksToEnd_17 : decode cX7_ticksToEnd 17 = .ok (.invokevirtual 111, 3) := by decide +kernel
theorem dX7_ticksToEnd_20 : decode cX7_ticksToEnd 20 = .ok (.pop, 1) := by decide +kernel
theorem dX7_ticksToEnd_21 : decode cX7_ticksToEnd 21 = .ok (.iinc 1 1, 3) := by decide +kernel
theorem dX7_ticksToEnd_24 : decode cX7_ticksToEnd 24 = .ok (.goto (-22), 3) := by decide +kernel
theorem dX7_ticksToEnd_27 : decode cX7_ticksToEnd 27 = .ok (.iload_n 1, 1) := by decide +kernel
theorem dX7_ticksToEnd_28 : decode cX7_ticksToEnd 28 = .ok (.ireturn, 1) := by decide +kernel
set_option maxRecDepth 20000 in
theorem ggX7_ticksWith_X7_putAside : GoodIn wsX7_ticksWith wsX7_putAside := goodIn_r _ [7, 8, 1, 89, 90, 91, 92, 93, 94, 95, 96, 97] (by decide +kernel) (by decide +kernel)
set_option maxRecDepth 20000 in
theorem gX7_ticksWith_X7_putAside : GoodIn wsX7_ticksWith (wsV RX7 159 RX7 yX7_putAside wsX7_putAside) := goodIn_app (goodIn_of _ (by decide +kernel)) ggX7_ticksWith_X7_putAside
set_option maxRecDepth 20000 in
theorem ggX7_ticksWith_X7_ticksToEnd : GoodIn wsX7_ticksWith wsX7_ticksToEnd := goodIn_r _ [12, 13, 14, 15, 6, 16, 1, 17, 18, 19, 20, 21, 22, 23, 24, 25, 26, 27, 28, 29, 30, 31, 32, 33, 34, 35, 36, 37, 38, 39, 40, 41, 42, 43, 44, 45, 46, 47, 48, 49, 50, 51, 52, 53, 54, 55, 56, 57, 58, 59, 60, 61, 62, 63, 64, 2, 65, 66, 67, 68, 69, 70, 71, 72, 73, 74, 75, 76, 77, 78, 79, 80, 81, 82, 83, 84, 89, 90, 91, 92, 93, 94, 95, 96, 97] (by decide +kernel) (by decide +kernel)
set_option maxRecDepth 20000 in
theorem gX7_ticksWith_X7_ticksToEnd : GoodIn wsX7_ticksWith (wsV RX7 162 RX7 yX7_ticksToEnd wsX7_ticksToEnd) := goodIn_app (goodIn_of _ (by decide +kernel)) ggX7_ticksWith_X7_ticksToEnd
set_option maxRecDepth 20000 in
theorem ggX7_ticksWith_X7_putBack : GoodIn wsX7_ticksWith wsX7_putBack := goodIn_r _ [88, 1, 8, 89, 90, 91, 92, 93, 94, 95, 96, 97] (by decide +kernel) (by decide +kernel)
set_option maxRecDepth 20000 in
theorem gX7_ticksWith_X7_putBack : GoodIn wsX7_ticksWith (wsV RX7 165 RX7 yX7_putBack wsX7_putBack) := goodIn_app (goodIn_of _ (by decide +kernel)) ggX7_ticksWith_X7_putBack
theorem dX7_ticksWith_0 : decode cX7_ticksWith 0 = .ok (.aload_n 0, 1) := by decide +kernel
theorem dX7_ticksWith_1 : decode cX7_ticksWith 1 = .ok (.invokevirtual 159, 3) := by decide +kernel
theorem dX7_ticksWith_4 : decode cX7_ticksWith 4 = .ok (.aload_n 0, 1) := by decide +kernel
theorem dX7_ticksWith_5 : decode cX7_ticksWith 5 = .ok (.getfield 7, 3) := by decide +kernel
theorem dX7_ticksWith_8 : decode cX7_ticksWith 8 = .ok (.iconst 0, 1) := by decide +kernel
theorem dX7_ticksWith_9 : decode cX7_ticksWith 9 = .ok (.iload_n 1, 1) := by decide +kernel
theorem dX7_ticksWith_10 : decode cX7_ticksWith 10 = .ok (.iastore, 1) := by decide +kernel
theorem dX7_ticksWith_11 : decode cX7_ticksWith 11 = .ok (.aload_n 0, 1) := by decide +kernel
theorem dX7_ticksWith_12 : decode cX7_ticksWith 12 = .ok (.invokevirtual 162, 3) := by decide +kernel
theorem dX7_ticksWith_15 : decode cX7_ticksWith 15 = .ok (.istore_n 2, 1) := by decide +kernel
theorem dX7_ticksWith_16 : decode cX7_ticksWith 16 = .ok (.aload_n 0, 1) := by decide +kernel
theorem dX7_ticksWith_17 : decode cX7_ticksWith 17 = .ok (.invokevirtual 165, 3) := by decide +kernel
theorem dX7_ticksWith_20 : decode cX7_ticksWith 20 = .ok (.iload_n 2, 1) := by decide +kernel
theorem dX7_ticksWith_21 : decode cX7_ticksWith 21 = .ok (.sipush 400, 3) := by decide +kernel
theorem dX7_ticksWith_24 : decode cX7_ticksWith 24 = .ok (.if_icmp .le 8, 3) := by decide +kernel
theorem dX7_ticksWith_27 : decode cX7_ticksWith 27 = .ok (.ldc 30, 2) := by decide +kernel
theorem dX7_ticksWith_29 : decode cX7_ticksWith 29 = .ok (.goto 4, 3) := by decide +kernel
theorem dX7_ticksWith_32 : decode cX7_ticksWith 32 = .ok (.iload_n 2, 1) := by decide +kernel
theorem dX7_ticksWith_33 : decode cX7_ticksWith 33 = .ok (.ireturn, 1) := by decide +kernel
set_option maxRecDepth 20000 in
theorem ggX7_ticksLeft_X7_ticksWith : GoodIn wsX7_ticksLeft wsX7_ticksWith := goodIn_r _ [6, 1, 7, 8, 9, 10, 5, 11, 12, 13, 14, 15, 16, 17, 18, 19, 20, 21, 22, 23, 24, 25, 26, 27, 28, 29, 30, 31, 32, 33, 34, 35, 36, 37, 38, 39, 40, 41, 42, 43, 44, 45, 46, 47, 48, 49, 50, 51, 52, 53, 54, 55, 56, 57, 58, 59, 60, 61, 62, 63, 64, 65, 66, 67, 68, 69, 70, 71, 72, 73, 74, 75, 76, 77, 78, 79, 80, 81, 82, 83, 84, 85, 86, 87, 88, 89, 90, 91, 92, 93, 94, 95, 96, 97, 98, 99, 100, 101] (by decide +kernel) (by decide +kernel)
set_option maxRecDepth 20000 in
theorem gX7_ticksLeft_X7_ticksWith : GoodIn wsX7_ticksLeft (wsV RX7 168 RX7 yX7_ticksWith wsX7_ticksWith) := goodIn_app (goodIn_of _ (by decide +kernel)) ggX7_ticksLeft_X7_ticksWith
theorem dX7_ticksLeft_0 : decode cX7_ticksLeft 0 = .ok (.aload_n 0, 1) := by decide +kernel
theorem dX7_ticksLeft_1 : decode cX7_ticksLeft 1 = .ok (.aload_n 0, 1) := by decide +kernel
theorem dX7_ticksLeft_2 : decode cX7_ticksLeft 2 = .ok (.getfield 7, 3) := by decide +kernel
theorem dX7_ticksLeft_5 : decode cX7_ticksLeft 5 = .ok (.iconst 0, 1) := by decide +kernel
theorem dX7_ticksLeft_6 : decode cX7_ticksLeft 6 = .ok (.iaload, 1) := by decide +kernel
theorem dX7_ticksLeft_7 : decode cX7_ticksLeft 7 = .ok (.invokevirtual 168, 3) := by decide +kernel
theorem dX7_ticksLeft_10 : decode cX7_ticksLeft 10 = .ok (.ireturn, 1) := by decide +kernel
set_option maxRecDepth 20000 in
theorem ggX7_ticksIf_X7_in : GoodIn wsX7_ticksIf wsX7_in := goodIn_r _ [5] (by decide +kernel) (by decide +kernel)
set_option maxRecDepth 20000 in
theorem gX7_ticksIf_X7_in : GoodIn wsX7_ticksIf (va_wsS RX7 22 yX7_in wsX7_in) := goodIn_app (goodIn_of _ (by decide +kernel)) ggX7_ticksIf_X7_in
set_option maxRecDepth 20000 in
theorem ggX7_ticksIf_X7_ticksWith : GoodIn wsX7_ticksIf wsX7_ticksWith := goodIn_r _ [9, 10, 11, 12, 13, 14, 4, 15, 16, 17, 18, 19, 20, 21, 22, 23, 24, 25, 26, 27, 28, 29, 30, 31, 32, 33, 34, 35, 36, 37, 38, 39, 40, 41, 42, 43, 44, 45, 46, 47, 48, 49, 50, 51, 52, 53, 54, 55, 56, 57, 58, 59, 60, 61, 62, 63, 64, 65, 66, 67, 68, 69, 70, 71, 72, 73, 74, 75, 76, 77, 78, 79, 80, 81, 82, 83, 84, 85, 86, 87, 88, 89, 90, 91, 92, 93, 94, 95, 96, 97, 98, 99, 100, 101, 102, 103, 104, 105] (by decide +kernel) (by decide +kernel)
set_option maxRecDepth 20000 in
theorem gX7_ticksIf_X7_ticksWith : GoodIn wsX7_ticksIf (wsV RX7 168 RX7 yX7_ticksWith wsX7_ticksWith) := goodIn_app (goodIn_of _ (by decide +kernel)) ggX7_ticksIf_X7_ticksWith
theorem dX7_ticksIf_0 : decode cX7_ticksIf 0 = .ok (.iload_n 1, 1) := by decide +kernel
theorem dX7_ticksIf_1 : decode cX7_ticksIf 1 = .ok (.iconst 1, 1) := by decide +kernel
theorem dX7_ticksIf_2 : decode cX7_ticksIf 2 = .ok (.bipush 20, 2) := by decide +kernel
theorem dX7_ticksIf_4 : decode cX7_ticksIf 4 = .ok (.invokestatic 22, 3) := by decide +kernel
theorem dX7_ticksIf_7 : decode cX7_ticksIf 7 = .ok (.ifCond .eq 11, 3) := by decide +kernel
theorem dX7_ticksIf_10 : decode cX7_ticksIf 10 = .ok (.aload_n 0, 1) := by decide +kernel
theorem dX7_ticksIf_11 : decode cX7_ticksIf 11 = .ok (.iload_n 1, 1) := by decide +kernel
theorem dX7_ticksIf_12 : decode cX7_ticksIf 12 = .ok (.invokevirtual 168, 3) := by decide +kernel
theorem dX7_ticksIf_15 : decode cX7_ticksIf 15 = .ok (.goto 5, 3) := by decide +kernel
theorem dX7_ticksIf_18 : decode cX7_ticksIf 18 = .ok (.ldc 90, 2) := by decide +kernel
theorem dX7_ticksIf_20 : decode cX7_ticksIf 20 = .ok (.ireturn, 1) := by decide +kernel
set_option maxRecDepth 20000 in
theorem ggX7_leastCapacity_X7_putAside : GoodIn wsX7_leastCapacity wsX7_putAside := goodIn_r _ [7, 8, 2, 89, 90, 91, 92, 93, 94, 95, 96, 97] (by decide +kernel) (by decide +kernel)
set_option maxRecDepth 20000 in
theorem gX7_leastCapacity_X7_putAside : GoodIn wsX7_leastCapacity (wsV RX7 159 RX7 yX7_putAside wsX7_putAside) := goodIn_app (goodIn_of _ (by decide +kernel)) ggX7_leastCapacity_X7_putAside
set_option maxRecDepth 20000 in
theorem ggX7_leastCapacity_X7_inState : GoodIn wsX7_leastCapacity wsX7_inState := goodIn_r _ [12, 2, 13, 14, 15, 6, 16, 89, 90, 91, 92, 93, 94, 95, 96, 97] (by decide +kernel) (by decide +kernel)
set_option maxRecDepth 20000 in
theorem gX7_leastCapacity_X7_inState : GoodIn wsX7_leastCapacity (wsV RX7 152 RX7 yX7_inState wsX7_inState) := goodIn_app (goodIn_of _ (by decide +kernel)) ggX7_leastCapacity_X7_inState
set_option maxRecDepth 20000 in
theorem ggX7_leastCapacity_X7_ticksToEnd : GoodIn wsX7_leastCapacity wsX7_ticksToEnd := goodIn_r _ [20, 21, 22, 23, 6, 24, 2, 9, 10, 11, 12, 13, 14, 15, 16, 25, 26, 27, 28, 29, 30, 31, 32, 33, 34, 35, 36, 37, 38, 39, 40, 41, 42, 43, 44, 45, 46, 47, 48, 49, 50, 51, 52, 53, 54, 55, 56, 57, 58, 59, 60, 61, 62, 63, 64, 1, 65, 66, 67, 68, 69, 70, 71, 72, 73, 74, 75, 76, 77, 78, 79, 80, 81, 82, 83, 84, 89, 90, 91, 92, 93, 94, 95, 96, 97] (by decide +kernel) (by decide +kernel)
set_option maxRecDepth 20000 in
theorem gX7_leastCapacity_X7_ticksToEnd : GoodIn wsX7_leastCapacity (wsV RX7 162 RX7 yX7_ticksToEnd wsX7_ticksToEnd) := goodIn_app (goodIn_of _ (by decide +kernel)) ggX7_leastCapacity_X7_ticksToEnd
set_option maxRecDepth 20000 in
theorem ggX7_leastCapacity_X7_putBack : GoodIn wsX7_leastCapacity wsX7_putBack := goodIn_r _ [88, 2, 8, 89, 90, 91, 92, 93, 94, 95, 96, 97] (by decide +kernel) (by decide +kernel)
set_option maxRecDepth 20000 in
theorem gX7_leastCapacity_X7_putBack : GoodIn wsX7_leastCapacity (wsV RX7 165 RX7 yX7_putBack wsX7_putBack) := goodIn_app (goodIn_of _ (by decide +kernel)) ggX7_leastCapacity_X7_putBack
theorem dX7_leastCapacity_0 : decode cX7_leastCapacity 0 = .ok (.ldc 30, 2) := by decide +kernel
theorem dX7_leastCapacity_2 : decode cX7_leastCapacity 2 = .ok (.istore_n 1, 1) := by decide +kernel
theorem dX7_leastCapacity_3 : decode cX7_leastCapacity 3 = .ok (.iconst 1, 1) := by decide +kernel
theorem dX7_leastCapacity_4 : decode cX7_leastCapacity 4 = .ok (.istore_n 2, 1) := by decide +kernel
theorem dX7_leastCapacity_5 : decode cX7_leastCapacity 5 = .ok (.iload_n 2, 1) := by decide +kernel
theorem dX7_leastCapacity_6 : decode cX7_leastCapacity 6 = .ok (.bipush 20, 2) := by decide +kernel
theorem dX7_leastCapacity_8 : decode cX7_leastCapacity 8 = .ok (.if_icmp .gt 63, 3) := by decide +kernel
theorem dX7_leastCapacity_11 : decode cX7_leastCapacity 11 = .ok (.iload_n 1, 1) := by decide +kernel
theorem dX7_leastCapacity_12 : decode cX7_leastCapacity 12 = .ok (.ifCond .ge 59, 3) := by decide +kernel
theorem dX7_leastCapacity_15 : decode cX7_leastCapacity 15 = .ok (.aload_n 0, 1) := by decide +kernel
theorem dX7_leastCapacity_16 : decode cX7_leastCapacity 16 = .ok (.invokevirtual 159, 3) := by decide +kernel
theorem dX7_leastCapacity_19 : decode cX7_leastCapacity 19 = .ok (.aload_n 0, 1) := by decide +kernel
theorem dX7_leastCapacity_20 : decode cX7_leastCapacity 20 = .ok (.iconst 4, 1) := by decide +kernel
theorem dX7_leastCapacity_21 : decode cX7_leastCapacity 21 = .ok (.invokevirtual 152, 3) := by decide +kernel
theorem dX7_leastCapacity_24 : decode cX7_leastCapacity 24 = .ok (.istore_n 3, 1) := by decide +kernel
theorem dX7_leastCapacity_25 : decode cX7_leastCapacity 25 = .ok (.aload_n 0, 1) := by decide +kernel
theorem dX7_leastCapacity_26 : decode cX7_leastCapacity 26 = .ok (.getfield 7, 3) := by decide +kernel
theorem dX7_leastCapacity_29 : decode cX7_leastCapacity 29 = .ok (.iconst 0, 1) := by decide +kernel
theorem dX7_leastCapacity_30 : decode cX7_leastCapacity 30 = .ok (.iload_n 2, 1) := by decide +kernel
theorem dX7_leastCapacity_31 : decode cX7_leastCapacity 31 = .ok (.iastore, 1) := by decide +kernel
theorem dX7_leastCapacity_32 : decode cX7_leastCapacity 32 = .ok (.aload_n 0, 1) := by decide +kernel
theorem dX7_leastCapacity_33 : decode cX7_leastCapacity 33 = .ok (.invokevirtual 162, 3) := by decide +kernel
theorem dX7_leastCapacity_36 : decode cX7_leastCapacity 36 = .ok (.istore 4, 2) := by decide +kernel
theorem dX7_leastCapacity_38 : decode cX7_leastCapacity 38 = .ok (.iload 4, 2) := by decide +kernel
theorem dX7_leastCapacity_40 : decode cX7_leastCapacity 40 = .ok (.sipush 400, 3) := by decide +kernel
theorem dX7_leastCapacity_43 : decode cX7_leastCapacity 43 = .ok (.if_icmp .gt 16, 3) := by decide +kernel
theorem dX7_leastCapacity_46 : decode cX7_leastCapacity 46 = .ok (.aload_n 0, 1) := by decide +kernel
theorem dX7_leastCapacity_47 : decode cX7_leastCapacity 47 = .ok (.iconst 4, 1) := by decide +kernel
theorem dX7_leastCapacity_48 : decode cX7_leastCapacity 48 = .ok (.invokevirtual 152, 3) := by decide +kernel
theorem dX7_leastCapacity_51 : decode cX7_leastCapacity 51 = .ok (.iload_n 3, 1) := by decide +kernel
theorem dX7_leastCapacity_52 : decode cX7_leastCapacity 52 = .ok (.if_icmp .ne 7, 3) := by decide +kernel
theorem dX7_leastCapacity_55 : decode cX7_leastCapacity 55 = .ok (.iload_n 2, 1) := by decide +kernel
theorem dX7_leastCapacity_56 : decode cX7_leastCapacity 56 = .ok (.goto 4, 3) := by decide +kernel
theorem dX7_leastCapacity_59 : decode cX7_leastCapacity 59 = .ok (.iload_n 1, 1) := by decide +kernel
theorem dX7_leastCapacity_60 : decode cX7_leastCapacity 60 = .ok (.istore_n 1, 1) := by decide +kernel
theorem dX7_leastCapacity_61 : decode cX7_leastCapacity 61 = .ok (.aload_n 0, 1) := by decide +kernel
theorem dX7_leastCapacity_62 : decode cX7_leastCapacity 62 = .ok (.invokevirtual 165, 3) := by decide +kernel
theorem dX7_leastCapacity_65 : decode cX7_leastCapacity 65 = .ok (.iinc 2 1, 3) := by decide +kernel
theorem dX7_leastCapacity_68 : decode cX7_leastCapacity 68 = .ok (.goto (-63), 3) := by decide +kernel
theorem dX7_leastCapacity_71 : decode cX7_leastCapacity 71 = .ok (.iload_n 1, 1) := by decide +kernel
theorem dX7_leastCapacity_72 : decode cX7_leastCapacity 72 = .ok (.ireturn, 1) := by decide +kernel
set_option maxRecDepth 20000 in
theorem ggX7_finish_X7_isRequest : GoodIn wsX7_finish wsX7_isRequest := goodIn_r _ [7, 8, 9, 10, 6, 11, 85, 86, 87, 88, 89, 90, 91, 92, 93] (by decide +kernel) (by decide +kernel)
set_option maxRecDepth 20000 in
theorem gX7_finish_X7_isRequest : GoodIn wsX7_finish (wsV RX7 146 RX7 yX7_isRequest wsX7_isRequest) := goodIn_app (goodIn_of _ (by decide +kernel)) ggX7_finish_X7_isRequest
set_option maxRecDepth 20000 in
theorem ggX7_finish_X7_putAside : GoodIn wsX7_finish wsX7_putAside := goodIn_r _ [15, 16, 8, 85, 86, 87, 88, 89, 90, 91, 92, 93] (by decide +kernel) (by decide +kernel)
set_option maxRecDepth 20000 in
theorem gX7_finish_X7_putAside : GoodIn wsX7_finish (wsV RX7 159 RX7 yX7_putAside wsX7_putAside) := goodIn_app (goodIn_of _ (by decide +kernel)) ggX7_finish_X7_putAside
set_option maxRecDepth 20000 in
theorem ggX7_finish_X7_of : GoodIn wsX7_finish wsX7_of := goodIn_r _ [20, 8, 85, 86, 87, 88, 89, 90, 91, 92, 93] (by decide +kernel) (by decide +kernel)
set_option maxRecDepth 20000 in
theorem gX7_finish_X7_of : GoodIn wsX7_finish (wsV RX7 35 RX7 yX7_of wsX7_of) := goodIn_app (goodIn_of _ (by decide +kernel)) ggX7_finish_X7_of
set_option maxRecDepth 20000 in
theorem ggX7_finish_X7_tick : GoodIn wsX7_finish wsX7_tick := goodIn_r _ [24, 8, 25, 26, 27, 6, 28, 29, 30, 31, 32, 17, 18, 19, 20, 33, 34, 35, 36, 37, 38, 39, 40, 41, 42, 43, 44, 45, 46, 47, 48, 49, 50, 51, 52, 53, 54, 55, 56, 57, 58, 59, 60, 2, 61, 62, 63, 64, 65, 66, 67, 68, 69, 70, 71, 72, 73, 74, 75, 76, 77, 78, 79, 80, 85, 86, 87, 88, 89, 90, 91, 92, 93] (by decide +kernel) (by decide +kernel)
set_option maxRecDepth 20000 in
theorem gX7_finish_X7_tick : GoodIn wsX7_finish (wsV RX7 111 RX7 yX7_tick wsX7_tick) := goodIn_app (goodIn_of _ (by decide +kernel)) ggX7_finish_X7_tick
set_option maxRecDepth 20000 in
theorem ggX7_finish_X7_putBack : GoodIn wsX7_finish wsX7_putBack := goodIn_r _ [84, 8, 16, 85, 86, 87, 88, 89, 90, 91, 92, 93] (by decide +kernel) (by decide +kernel)
set_option maxRecDepth 20000 in
theorem gX7_finish_X7_putBack : GoodIn wsX7_finish (wsV RX7 165 RX7 yX7_putBack wsX7_putBack) := goodIn_app (goodIn_of _ (by decide +kernel)) ggX7_finish_X7_putBack
theorem dX7_finish_0 : decode cX7_finish 0 = .ok (.aload_n 0, 1) := by decide +kernel
theorem dX7_finish_1 : decode cX7_finish 1 = .ok (.iload_n 1, 1) := by decide +kernel
theorem dX7_finish_2 : decode cX7_finish 2 = .ok (.invokevirtual 146, 3) := by decide +kernel
theorem dX7_finish_5 : decode cX7_finish 5 = .ok (.ifCond .ne 6, 3) := by decide +kernel
theorem dX7_finish_8 : decode cX7_finish 8 = .ok (.ldc 83, 2) := by decide +kernel
theorem dX7_finish_10 : decode cX7_finish 10 = .ok (.ireturn, 1) := by decide +kernel
theorem dX7_finish_11 : decode cX7_finish 11 = .ok (.aload_n 0, 1) := by decide +kernel
theorem dX7_finish_12 : decode cX7_finish 12 = .ok (.invokevirtual 159, 3) := by decide +kernel
theorem dX7_finish_15 : decode cX7_finish 15 = .ok (.iconst 0, 1) := by decide +kernel
theorem dX7_finish_16 : decode cX7_finish 16 = .ok (.istore_n 2, 1) := by decide +kernel
theorem dX7_finish_17 : decode cX7_finish 17 = .ok (.iload_n 2, 1) := by decide +kernel
theorem dX7_finish_18 : decode cX7_finish 18 = .ok (.sipush 400, 3) := by decide +kernel
theorem dX7_finish_21 : decode cX7_finish 21 = .ok (.if_icmp .ge 34, 3) := by decide +kernel
theorem dX7_finish_24 : decode cX7_finish 24 = .ok (.aload_n 0, 1) := by decide +kernel
theorem dX7_finish_25 : decode cX7_finish 25 = .ok (.iload_n 1, 1) := by decide +kernel
theorem dX7_finish_26 : decode cX7_finish 26 = .ok (.iconst 3, 1) := by decide +kernel
theorem dX7_finish_27 : decode cX7_finish 27 = .ok (.invokevirtual 35, 3) := by decide +kernel
theorem dX7_finish_30 : decode cX7_finish 30 = .ok (.iconst 2, 1) := by decide +kernel
theorem dX7_finish_31 : decode cX7_finish 31 = .ok (.if_icmp .eq 24, 3) := by decide +kernel
theorem dX7_finish_34 : decode cX7_finish 34 = .ok (.aload_n 0, 1) := by decide +kernel
theorem dX7_finish_35 : decode cX7_finish 35 = .ok (.iload_n 1, 1) := by decide +kernel
theorem dX7_finish_36 : decode cX7_finish 36 = .ok (.iconst 3, 1) := by decide +kernel
theorem dX7_finish_37 : decode cX7_finish 37 = .ok (.invokevirtual 35, 3) := by decide +kernel
theorem dX7_finish_40 : decode cX7_finish 40 = .ok (.iconst 4, 1) := by decide +kernel
theorem dX7_finish_41 : decode cX7_finish 41 = .ok (.if_icmp .eq 14, 3) := by decide +kernel
theorem dX7_finish_44 : decode cX7_finish 44 = .ok (.aload_n 0, 1) := by decide +kernel
theorem dX7_finish_45 : decode cX7_finish 45 = .ok (.invokevirtual 111, 3) := by decide +kernel
theorem dX7_finish_48 : decode cX7_finish 48 = .ok (.pop, 1) := by decide +kernel
theorem dX7_finish_49 : decode cX7_finish 49 = .ok (.iinc 2 1, 3) := by decide +kernel
theorem dX7_finish_52 : decode cX7_finish 52 = .ok (.goto (-35), 3) := by decide +kernel
theorem dX7_finish_55 : decode cX7_finish 55 = .ok (.aload_n 0, 1) := by decide +kernel
theorem dX7_finish_56 : decode cX7_finish 56 = .ok (.iload_n 1, 1) := by decide +kernel
theorem dX7_finish_57 : decode cX7_finish 57 = .ok (.iconst 3, 1) := by decide +kernel
theorem dX7_finish_58 : decode cX7_finish 58 = .ok (.invokevirtual 35, 3) := by decide +kernel
theorem dX7_finish_61 : decode cX7_finish 61 = .ok (.iconst 2, 1) := by decide +kernel
theorem dX7_finish_62 : decode cX7_finish 62 = .ok (.if_icmp .ne 13, 3) := by decide +kernel
theorem dX7_finish_65 : decode cX7_finish 65 = .ok (.aload_n 0, 1) := by decide +kernel
theorem dX7_finish_66 : decode cX7_finish 66 = .ok (.iload_n 1, 1) := by decide +kernel
theorem dX7_finish_67 : decode cX7_finish 67 = .ok (.bipush 8, 2) := by decide +kernel
theorem dX7_finish_69 : decode cX7_finish 69 = .ok (.invokevirtual 35, 3) := by decide +kernel
theorem dX7_finish_72 : decode cX7_finish 72 = .ok (.goto 5, 3) := by decide +kernel
theorem dX7_finish_75 : decode cX7_finish 75 = .ok (.ldc 30, 2) := by decide +kernel
theorem dX7_finish_77 : decode cX7_finish 77 = .ok (.istore_n 2, 1) := by decide +kernel
theorem dX7_finish_78 : decode cX7_finish 78 = .ok (.aload_n 0, 1) := by decide +kernel
theorem dX7_finish_79 : decode cX7_finish 79 = .ok (.invokevirtual 165, 3) := by decide +kernel
theorem dX7_finish_82 : decode cX7_finish 82 = .ok (.iload_n 2, 1) := by decide +kernel
theorem dX7_finish_83 : decode cX7_finish 83 = .ok (.ireturn, 1) := by decide +kernel
theorem dJ9_max_7cf53_0 : decode cJ9_max_7cf53 0 = .ok (.iload_n 0, 1) := by decide +kernel
theorem dJ9_max_7cf53_1 : decode cJ9_max_7cf53 1 = .ok (.iload_n 1, 1) := by decide +kernel
theorem dJ9_max_7cf53_2 : decode cJ9_max_7cf53 2 = .ok (.if_icmp .lt 7, 3) := by decide +kernel
theorem dJ9_max_7cf53_5 : decode cJ9_max_7cf53 5 = .ok (.iload_n 0, 1) := by decide +kernel
theorem dJ9_max_7cf53_6 : decode cJ9_max_7cf53 6 = .ok (.goto 4, 3) := by decide +kernel
theorem dJ9_max_7cf53_9 : decode cJ9_max_7cf53 9 = .ok (.iload_n 1, 1) := by decide +kernel
theorem dJ9_max_7cf53_10 : decode cJ9_max_7cf53 10 = .ok (.ireturn, 1) := by decide +kernel
theorem dJ9_min_7cf53_0 : decode cJ9_min_7cf53 0 = .ok (.iload_n 0, 1) := by decide +kernel
theorem dJ9_min_7cf53_1 : decode cJ9_min_7cf53 1 = .ok (.iload_n 1, 1) := by decide +kernel
theorem dJ9_min_7cf53_2 : decode cJ9_min_7cf53 2 = .ok (.if_icmp .gt 7, 3) := by decide +kernel
theorem dJ9_min_7cf53_5 : decode cJ9_min_7cf53 5 = .ok (.iload_n 0, 1) := by decide +kernel
theorem dJ9_min_7cf53_6 : decode cJ9_min_7cf53 6 = .ok (.goto 4, 3) := by decide +kernel
theorem dJ9_min_7cf53_9 : decode cJ9_min_7cf53 9 = .ok (.iload_n 1, 1) := by decide +kernel
theorem dJ9_min_7cf53_10 : decode cJ9_min_7cf53 10 = .ok (.ireturn, 1) := by decide +kernel
end
section
abbrev vwCl : List vw_C := [(RX0, TX0, 5), (RX1, TX1, 7), (RX2, TX2, 11), (RX3, TX3, 1), (RX4, TX4, 11), (RX5, TX5, 2), (RX6, TX6, 4), (RX7, TX7, 9)]
/-! the memory: what the cell of a code holds, by its slot (a field's place, an array's index); every cell of the two objects has a code below 364, at the address 'ad code' -/
abbrev Mem : Type := Nat → Nat → Int32
def mput (m : Mem) (o k : Nat) (v : Int32) : Mem := fun a => if a = o then upd (m o) k v else m a
theorem mput_same (m : Mem) (o k : Nat) (v : Int32) : mput m o k v o = upd (m o) k v := if_pos rfl
theorem mput_other (m : Mem) {o a : Nat} (k : Nat) (v : Int32) (h : a ≠ o) : mput m o k v a = m a := if_neg h
def inb (i : Int32) (n : Nat) : Bool := decide (¬ (i < 0 ∨ n ≤ i.toNatClampNeg))
theorem inb_vp {i : Int32} {n : Nat} (h : inb i n = true) : vp_in i n := of_decide_eq_true h
/-! the words of the functions: a value with a name, a guard, a call -/
def bd {α β : Type} (x : α) (f : α → Option β) : Option β := f x
theorem bd_e {α β : Type} {x : α} {f : α → Option β} {R : β} (h : bd x f = some R) : ∃ y, y = x ∧ f y = some R := ⟨x, rfl, h⟩
def gd {β : Type} (b : Bool) (x : Option β) : Option β := match b with
  | true => x
  | false => none
theorem gd_e {β : Type} {b : Bool} {x : Option β} {R : β} (h : gd b x = some R) : b = true ∧ x = some R := by
  cases b with
  | true => exact ⟨rfl, h⟩
  | false => cases h
def ob {ρ β : Type} (x : Option (ρ × Mem)) (f : ρ → Mem → Option β) : Option β := match x with
  | some (r, m) => f r m
  | none => none
theorem ob_e {ρ β : Type} {x : Option (ρ × Mem)} {f : ρ → Mem → Option β} {R : β} (h : ob x f = some R) : ∃ r m, x = some (r, m) ∧ f r m = some R := by
  cases x with
  | none => cases h
  | some q => exact ⟨q.1, q.2, rfl, h⟩
def ov {β : Type} (x : Option Mem) (f : Mem → Option β) : Option β := match x with
  | some m => f m
  | none => none
theorem ov_e {β : Type} {x : Option Mem} {f : Mem → Option β} {R : β} (h : ov x f = some R) : ∃ m, x = some m ∧ f m = some R := by
  cases x with
  | none => cases h
  | some q => exact ⟨q, rfl, h⟩
def oq {β : Type} (x : Option (Option Nat × Mem)) (fn : Mem → Option β) (fs : Nat → Mem → Option β) : Option β := match x with
  | some (some c, m) => fs c m
  | some (none, m) => fn m
  | none => none
theorem oq_e {β : Type} {x : Option (Option Nat × Mem)} {fn : Mem → Option β} {fs : Nat → Mem → Option β} {R : β} (h : oq x fn fs = some R) : (∃ m, x = some (none, m) ∧ fn m = some R) ∨ ∃ c m, x = some (some c, m) ∧ fs c m = some R := by
  match x, h with
  | some (some c, m), h => exact Or.inr ⟨c, m, rfl, h⟩
  | some (none, m), h => exact Or.inl ⟨m, rfl, h⟩
  | none, h => cases h
/-- a reference that may be null: two ways on -/
def cq {β : Type} (x : Option Nat) (fn : Option β) (fs : Nat → Option β) : Option β := match x with
  | some c => fs c
  | none => fn
/-! the shapes -/
section SHAPES
variable (ad : Nat → Nat) (cI cR : ClassId)
def shL (b o : Nat) (row : Nat → Int32) : va_E :=
  if o = 0 then .inr (1, [.ref (ad (b + 1)), .ref (ad (b + 3)), .ref (ad (b + 5)), .int (row 3), .int (row 4), .int (row 5), .int (row 6)])
  else if o = 1 then .inr (3, [.ref (ad (b + 2))])
  else if o = 2 then .inl (cI, 4, .inl row)
  else if o = 3 then .inr (3, [.ref (ad (b + 4))])
  else if o = 4 then .inl (cI, 6, .inl row)
  else if o = 5 then .inr (3, [.ref (ad (b + 6))])
  else .inl (cI, 8, .inl row)
def shS (b o : Nat) (row : Nat → Int32) : va_E :=
  if o = 0 then .inr (4, [.ref (ad (b + 1)), .ref (ad (b + 3)), .ref (ad (b + 5)), .ref (ad (b + 12)), .ref (ad (b + 19)), .ref (ad (b + 26)), .int (row 6), .int (row 7), .int (row 8), .int (row 9), .int (row 10)])
  else if o = 1 then .inr (3, [.ref (ad (b + 2))])
  else if o = 2 then .inl (cI, 4, .inl row)
  else if o = 3 then .inr (3, [.ref (ad (b + 4))])
  else if o = 4 then .inl (cI, 5, .inl row)
  else if o < 12 then shL ad cI (b + 5) (o - 5) row
  else if o < 19 then shL ad cI (b + 12) (o - 12) row
  else if o < 26 then shL ad cI (b + 19) (o - 19) row
  else if o = 26 then .inl (cR, 32, .inr (.inr (.inr (.inr (fun i => some (ad (b + 27 + i)))))))
  else .inr (2, [.int (row 0), .int (row 1), .int (row 2), .int (row 3), .int (row 4), .int (row 5), .int (row 6), .int (row 7), .int (row 8), .int (row 9), .int (row 10)])
def sh (o : Nat) (row : Nat → Int32) : va_E :=
  if o = 0 then .inr (6, [.ref (ad 1), .ref (ad 60), .ref (ad 119), .ref (ad 356)])
  else if o < 60 then shS ad cI cR 1 (o - 1) row
  else if o < 119 then shS ad cI cR 60 (o - 60) row
  else if o = 119 then .inr (0, [.ref (ad (row 0).toNatClampNeg), .ref (ad (row 1).toNatClampNeg), .ref (ad (row 2).toNatClampNeg), .ref (ad (row 3).toNatClampNeg), .int (row 4)])
  else if o < 179 then shS ad cI cR 120 (o - 120) row
  else if o < 238 then shS ad cI cR 179 (o - 179) row
  else if o < 297 then shS ad cI cR 238 (o - 238) row
  else if o < 356 then shS ad cI cR 297 (o - 297) row
  else if o = 356 then .inr (5, [.ref (ad 357), .int (row 1)])
  else if o = 357 then .inr (3, [.ref (ad 358)])
  else if o = 358 then .inl (cI, 80, .inl row)
  else if o = 359 then .inr (7, [.ref (ad 360), .ref (ad 361), .ref (ad 362), .int (row 3), .ref (ad 363), .int (row 5), .int (row 6), .int (row 7), .int (row 8)])
  else if o = 360 then .inl (cI, 395, .inl row)
  else if o = 361 then .inl (cI, 395, .inl row)
  else if o = 362 then .inl (cI, 1580, .inl row)
  else .inl (cI, 80, .inl row)
def sArr (o n : Nat) : Prop := o < 364 ∧ ∀ row, sh ad cI cR o row = .inl (cI, n, .inl row)
def sRow (o n : Nat) : Prop := o < 364 ∧ (∀ row, sh ad cI cR o row = .inr (3, [.ref (ad (o + 1))])) ∧ sArr ad cI cR (o + 1) n
def sReq (o : Nat) : Prop := o < 364 ∧ ∀ row, sh ad cI cR o row = .inr (2, [.int (row 0), .int (row 1), .int (row 2), .int (row 3), .int (row 4), .int (row 5), .int (row 6), .int (row 7), .int (row 8), .int (row 9), .int (row 10)])
def sLane (o : Nat) : Prop := o < 364 ∧ (∀ row, sh ad cI cR o row = .inr (1, [.ref (ad (o + 1)), .ref (ad (o + 3)), .ref (ad (o + 5)), .int (row 3), .int (row 4), .int (row 5), .int (row 6)])) ∧ sRow ad cI cR (o + 1) 4 ∧ sRow ad cI cR (o + 3) 6 ∧ sRow ad cI cR (o + 5) 8
def sSlots (o r : Nat) : Prop := o < 364 ∧ (∀ row, sh ad cI cR o row = .inl (cR, 32, .inr (.inr (.inr (.inr (fun i => some (ad (r + i)))))))) ∧ ∀ i, i < 32 → sReq ad cI cR (r + i)
def sSrv (b : Nat) : Prop := b < 364 ∧ (∀ row, sh ad cI cR b row = .inr (4, [.ref (ad (b + 1)), .ref (ad (b + 3)), .ref (ad (b + 5)), .ref (ad (b + 12)), .ref (ad (b + 19)), .ref (ad (b + 26)), .int (row 6), .int (row 7), .int (row 8), .int (row 9), .int (row 10)])) ∧ sRow ad cI cR (b + 1) 4 ∧ sRow ad cI cR (b + 3) 5 ∧ sLane ad cI cR (b + 5) ∧ sLane ad cI cR (b + 12) ∧ sLane ad cI cR (b + 19) ∧ sSlots ad cI cR (b + 26) (b + 27)
def sHist (o : Nat) : Prop := o < 364 ∧ ∀ row, sh ad cI cR o row = .inr (0, [.ref (ad (row 0).toNatClampNeg), .ref (ad (row 1).toNatClampNeg), .ref (ad (row 2).toNatClampNeg), .ref (ad (row 3).toNatClampNeg), .int (row 4)])
def sText (o : Nat) : Prop := o < 364 ∧ (∀ row, sh ad cI cR o row = .inr (5, [.ref (ad (o + 1)), .int (row 1)])) ∧ sRow ad cI cR (o + 1) 80
end SHAPES
def isSb (c : Nat) : Bool := decide (c = 1 ∨ c = 60 ∨ c = 120 ∨ c = 179 ∨ c = 238 ∨ c = 297)
/-! the world of all codes -/
def cw (ad : Nat → Nat) (cI cR : ClassId) (m : Mem) : va_W := (List.range 364).map (fun i => (ad i, sh ad cI cR i (m i)))
def tyz (cI cR : ClassId) : List (ClassId × FieldType) := [(cI, .int), (cR, .object "AdmissionControl$Request")]
def inj (ad : Nat → Nat) : Prop := ∀ i j, i < 364 → j < 364 → ad i = ad j → i = j
def AA (ad : Nat → Nat) : Nat → Prop := fun q => ∃ i, i < 364 ∧ q = ad i
theorem cw_at {ad : Nat → Nat} {cI cR : ClassId} {m : Mem} {o : Nat} (ho : o < 364) : (cw ad cI cR m)[o]? = some (ad o, sh ad cI cR o (m o)) := by
  unfold cw
  rw [List.getElem?_map, List.getElem?_range ho]
  rfl
theorem cw_in {ad : Nat → Nat} {cI cR : ClassId} {m : Mem} {k : Nat} {q : Nat × va_E} (h : (cw ad cI cR m)[k]? = some q) : k < 364 ∧ q.1 = ad k := by
  have hk : k < 364 := by
    have := (List.getElem?_eq_some_iff.mp h).1
    unfold cw at this
    rw [List.length_map, List.length_range] at this
    exact this
  rw [cw_at hk] at h
  cases h
  exact ⟨hk, rfl⟩
theorem cw_D {ad : Nat → Nat} {cI cR : ClassId} {m : Mem} {A : Nat → Prop} (hi : inj ad) (hA : ∀ q, AA ad q → A q) : va_D A (cw ad cI cR m) := by
  refine ⟨fun i j p q h1 h2 e => ?_, fun k q h => ?_⟩
  · obtain ⟨a1, b1⟩ := cw_in h1
    obtain ⟨a2, b2⟩ := cw_in h2
    exact hi i j a1 a2 (b1.symm.trans (e.trans b2))
  · obtain ⟨a1, b1⟩ := cw_in h
    exact hA _ ⟨k, a1, b1⟩
theorem cw_set {ad : Nat → Nat} {cI cR : ClassId} {m : Mem} {o k : Nat} {v : Int32} {e : va_E} (ho : o < 364) (he : e = sh ad cI cR o (upd (m o) k v)) : (cw ad cI cR m).set o (ad o, e) = cw ad cI cR (mput m o k v) := by
  subst he
  refine List.ext_getElem? fun i => ?_
  rcases Nat.lt_or_ge i 364 with hi | hi
  · by_cases h : i = o
    · subst h
      rw [List.getElem?_set_self (by unfold cw; rw [List.length_map, List.length_range]; exact hi), cw_at hi, mput_same]
    · rw [List.getElem?_set_ne (Ne.symm h), cw_at hi, cw_at hi, mput_other _ _ _ h]
  · rw [List.getElem?_eq_none (by unfold cw; rw [List.length_set, List.length_map, List.length_range]; exact hi), List.getElem?_eq_none (by unfold cw; rw [List.length_map, List.length_range]; exact hi)]
/-! the links between nest mates -/
def NF (U : State) : Prop := va_Nw (.methodLinkNest RX4 77 yX6_isKind RX6) U ∧ va_Nw (.methodLinkNest RX4 81 yX6_isShape RX6) U ∧ va_Nw (.methodLinkNest RX4 85 yX6_isBetween RX6) U ∧ va_Nw (.methodLinkNest RX4 130 yX6_quotient RX6) U ∧ va_Nw (.methodLinkNest RX5 37 yX6_isBetween RX6) U
theorem NF.warm {s U : State} (hW : s.WarmedH U.vm) (h : NF s) : NF U := ⟨va_Nw.warmM hW h.1, va_Nw.warmM hW h.2.1, va_Nw.warmM hW h.2.2.1, va_Nw.warmM hW h.2.2.2.1, va_Nw.warmM hW h.2.2.2.2⟩
theorem NF.same {s U : State} (hv : s.vm = U.vm) (h : NF s) : NF U := ⟨va_Nw.same rfl hv h.1, va_Nw.same rfl hv h.2.1, va_Nw.same rfl hv h.2.2.1, va_Nw.same rfl hv h.2.2.2.1, va_Nw.same rfl hv h.2.2.2.2⟩
/-! contracts -/
def KK (D : va_G) (ad : Nat → Nat) (cI cR : ClassId) (mm : Mem) (U : State) : Prop := va_P D vwCl (cw ad cI cR mm) U.heap ∧ va_K D vwCl (tyz cI cR) U ∧ NF U
def KB (D : va_G) (ad : Nat → Nat) (cI cR : ClassId) (u : Mem) (t : State) : Prop := va_P D vwCl (cw ad cI cR u) t.heap
def MI (l : Launch) (y : MethodName) (ws : List Cond) (rm : Room) (D : va_G) (ad : Nat → Nat) (cI cR : ClassId) (as : List Value) (mm : Mem) (r : Int32) (m1 : Mem) : Prop := Met l y ws rm (va_Pc as (KK D ad cI cR mm)) (va_Qi (fun (r' : Int32) (u : Mem) => r' = r ∧ u = m1) (KB D ad cI cR) (AA ad)) 0 0 (AA ad)
def MV (l : Launch) (y : MethodName) (ws : List Cond) (rm : Room) (D : va_G) (ad : Nat → Nat) (cI cR : ClassId) (as : List Value) (mm : Mem) (m1 : Mem) : Prop := Met l y ws rm (va_Pc as (KK D ad cI cR mm)) (va_Qv (fun (u : Mem) => u = m1) (KB D ad cI cR) (AA ad)) 0 0 (AA ad)
def MO (l : Launch) (y : MethodName) (ws : List Cond) (rm : Room) (D : va_G) (ad : Nat → Nat) (cI cR : ClassId) (as : List Value) (mm : Mem) (r : Option Nat) (m1 : Mem) : Prop := Met l y ws rm (va_Pc as (KK D ad cI cR mm)) (va_Qq (fun (r' : Option Nat) (u : Mem) => r' = r.map ad ∧ u = m1) (KB D ad cI cR) (AA ad)) 0 0 (AA ad)
def MF (l : Launch) (y : MethodName) (ws : List Cond) (rm : Room) (D : va_G) (ad : Nat → Nat) (cI cR : ClassId) (as : List Value) (mm : Mem) (r : UInt32) (m1 : Mem) : Prop := Met l y ws rm (va_Pc as (KK D ad cI cR mm)) (va_Qf (fun (r' : UInt32) (u : Mem) => r' = r ∧ u = m1) (KB D ad cI cR) (AA ad)) 0 0 (AA ad)
theorem KK_blind {D : va_G} {ad : Nat → Nat} {cI cR : ClassId} {mm : Mem} {as : List Value} : FrameBlind (va_Pc as (KK D ad cI cR mm)) := fun a U g mk q => by
  obtain ⟨q0, qP, qK, qN⟩ := q
  exact ⟨q0, qP, va_K.moved (u := U) (U := U.calling g mk a) (Vm.Alike.refl U.vm) qK, NF.same (s := U) (U := U.calling g mk a) rfl qN⟩
section WROWS
variable {p : Program} {l : Launch} {e : Env} {R : Room} {s : State} {m : MethodId} {args : Array Value} {below : List Frame} {meth : Method} {c : Code} {H : Heap} {locs : List Loc} {cells slots : Nat} {Q : State → Prop}
variable {cc : ByteArray} {pc : Nat} {ls : Array Slot} {rest st0 : List Value} {D : va_G} {A : Nat → Prop} {H0 : Heap} {ad : Nat → Nat} {cI cR : ClassId} {mm m1 : Mem} {a : Array Value}
theorem w_get (hexec : p.tables.exec = Jvm.exec) (hb : c.code = cc) {own ref C : String} {T : u_T} {N ci index : Nat} {Ts : List Cond} (hts : ∀ w ∈ Ts, w.before args s = true) (hin : ∀ w ∈ u_ws C T N, w ∈ Ts) (hown : s.vm.findClass own = some m.cls) (hK : va_K D vwCl (tyz cI cR) s) (hP : va_P D vwCl (cw ad cI cR mm) H) {o : Nat} {F : (Nat → Int32) → List Value} (ho : o < 364) (hsh : ∀ row, sh ad cI cR o row = .inr (ci, F row)) (hc : vwCl[ci]? = some (C, T, N)) (k : Nat) (hk : k < N) (hlink : (Cond.fieldLink own index ref (T k).2.1 (T k).2.2.1).before args s = true) (hsame : ∀ x, s.fieldFound? (T k).1 (T k).2.1 (T k).2.2.1 = some x → s.fieldFound? ref (T k).2.1 (T k).2.2.1 = some x) {v : Value} (hv : (F (mm o))[k]? = some v) (hdg : decode cc pc = .ok (.getfield index, 3))
    (kk : W p l e R s m args below meth c H locs cells slots Q (F0 m (pc + 3) ls (v :: rest))) : W p l e R s m args below meth c H locs cells slots Q (F0 m pc ls (.ref (ad o) :: rest)) :=
  va_get hexec hb hts hin hown hK hP o ((cw_at ho).trans (by rw [hsh])) hc k hk hlink hsame hv hdg kk
theorem w_put (hexec : p.tables.exec = Jvm.exec) (hb : c.code = cc) {own ref C : String} {T : u_T} {N ci index : Nat} {Ts : List Cond} (hts : ∀ w ∈ Ts, w.before args s = true) (hin : ∀ w ∈ u_ws C T N, w ∈ Ts) (ty0 : Nat → FieldType) (hty : ∀ k, k < N → parseFieldDescriptor (T k).2.2.1 = some (ty0 k)) (hnm : ∀ a, a < N → ∀ b, b < N → a ≠ b → (T a).2.1 ≠ (T b).2.1) (hown : s.vm.findClass own = some m.cls) (hi : inj ad) (hA : ∀ q, AA ad q → A q) (hK : va_K D vwCl (tyz cI cR) s) (hP : va_P D vwCl (cw ad cI cR mm) H) (hS : va_S A H0 H locs) {o : Nat} {F : (Nat → Int32) → List Value} (ho : o < 364) (hsh : ∀ row, sh ad cI cR o row = .inr (ci, F row)) (hc : vwCl[ci]? = some (C, T, N)) (k : Nat) (hk : k < N) (hlink : (Cond.fieldLink own index ref (T k).2.1 (T k).2.2.1).before args s = true) (hsame : ∀ x, s.fieldFound? (T k).1 (T k).2.1 (T k).2.2.1 = some x → s.fieldFound? ref (T k).2.1 (T k).2.2.1 = some x) (hfin : (T k).2.2.2 = false) {x : Int32} {v : Value} (hd : parseFieldDescriptor (T k).2.2.1 = some (ty0 k)) (hn : narrow (ty0 k) v = v) (hfit : fits (ty0 k) v = true) (hl : k < (F (mm o)).length) (hF : (F (mm o)).set k v = F (upd (mm o) k x)) (hdg : decode cc pc = .ok (.putfield index, 3))
    (kk : ∀ (H1 : Heap) (locs1 : List Loc), va_P D vwCl (cw ad cI cR (mput mm o k x)) H1 → va_S A H0 H1 locs1 → W p l e R s m args below meth c H1 locs1 cells slots Q (F0 m (pc + 3) ls rest)) : W p l e R s m args below meth c H locs cells slots Q (F0 m pc ls (v :: .ref (ad o) :: rest)) := by
  have he : (cw ad cI cR mm)[o]? = some (ad o, .inr (ci, F (mm o))) := (cw_at ho).trans (by rw [hsh])
  refine va_put hexec hb hts hin ty0 hty hnm hown hK hP (cw_D hi hA) hS o he hc k hk hlink hsame hfin hd hn hfit hl hdg (fun H1 locs1 hP1 _ hS1 => ?_)
  rw [cw_set (k := k) (v := x) ho (by rw [hsh, hF])] at hP1
  exact kk H1 locs1 hP1 hS1
theorem w_ald (hexec : p.tables.exec = Jvm.exec) (hb : c.code = cc) (hK : va_K D vwCl (tyz cI cR) s) (hP : va_P D vwCl (cw ad cI cR mm) H) {o n : Nat} (hsh : sArr ad cI cR o n) {i : Int32} (hin : inb i n = true) (hdg : decode cc pc = .ok (.iaload, 1))
    (kk : W p l e R s m args below meth c H locs cells slots Q (F0 m (pc + 1) ls (.int (mm o i.toNatClampNeg) :: rest))) : W p l e R s m args below meth c H locs cells slots Q (F0 m pc ls (.int i :: .ref (ad o) :: rest)) :=
  va_iald hexec hb hK hP o 0 ((cw_at hsh.1).trans (by rw [hsh.2])) rfl (inb_vp hin) hdg kk
theorem w_ast (hexec : p.tables.exec = Jvm.exec) (hb : c.code = cc) (hi : inj ad) (hA : ∀ q, AA ad q → A q) (hK : va_K D vwCl (tyz cI cR) s) (hP : va_P D vwCl (cw ad cI cR mm) H) (hS : va_S A H0 H locs) {o n : Nat} (hsh : sArr ad cI cR o n) {i : Int32} {x : Int32} (hin : inb i n = true) (hdg : decode cc pc = .ok (.iastore, 1))
    (kk : ∀ (H1 : Heap) (locs1 : List Loc), va_P D vwCl (cw ad cI cR (mput mm o i.toNatClampNeg x)) H1 → va_S A H0 H1 locs1 → W p l e R s m args below meth c H1 locs1 cells slots Q (F0 m (pc + 1) ls rest)) : W p l e R s m args below meth c H locs cells slots Q (F0 m pc ls (.int x :: .int i :: .ref (ad o) :: rest)) := by
  have he : (cw ad cI cR mm)[o]? = some (ad o, .inl (cI, n, .inl (mm o))) := (cw_at hsh.1).trans (by rw [hsh.2])
  refine va_iast hexec hb hK hP (cw_D hi hA) hS o 0 he rfl (inb_vp hin) hdg (fun H1 locs1 hP1 _ hS1 => ?_)
  rw [cw_set (k := i.toNatClampNeg) (v := x) hsh.1 (by rw [hsh.2])] at hP1
  exact kk H1 locs1 hP1 hS1
theorem w_len (hexec : p.tables.exec = Jvm.exec) (hb : c.code = cc) (hK : va_K D vwCl (tyz cI cR) s) (hP : va_P D vwCl (cw ad cI cR mm) H) {o n : Nat} (hsh : sArr ad cI cR o n) (hdg : decode cc pc = .ok (.arraylength, 1))
    (kk : W p l e R s m args below meth c H locs cells slots Q (F0 m (pc + 1) ls (.int (nI n) :: rest))) : W p l e R s m args below meth c H locs cells slots Q (F0 m pc ls (.ref (ad o) :: rest)) :=
  va_alen hexec hb hK hP o 0 ((cw_at hsh.1).trans (by rw [hsh.2])) rfl rfl hdg kk
theorem w_lenS (hexec : p.tables.exec = Jvm.exec) (hb : c.code = cc) (hK : va_K D vwCl (tyz cI cR) s) (hP : va_P D vwCl (cw ad cI cR mm) H) {o r : Nat} (hsh : sSlots ad cI cR o r) (hdg : decode cc pc = .ok (.arraylength, 1))
    (kk : W p l e R s m args below meth c H locs cells slots Q (F0 m (pc + 1) ls (.int (nI 32) :: rest))) : W p l e R s m args below meth c H locs cells slots Q (F0 m pc ls (.ref (ad o) :: rest)) :=
  va_alen hexec hb hK hP o 1 ((cw_at hsh.1).trans (by rw [hsh.2.1])) rfl rfl hdg kk
theorem w_aldS (hexec : p.tables.exec = Jvm.exec) (hb : c.code = cc) (hK : va_K D vwCl (tyz cI cR) s) (hP : va_P D vwCl (cw ad cI cR mm) H) {o r : Nat} (hsh : sSlots ad cI cR o r) {i : Int32} (hin : inb i 32 = true) (hdg : decode cc pc = .ok (.aaload, 1))
    (kk : W p l e R s m args below meth c H locs cells slots Q (F0 m (pc + 1) ls (.ref (ad (r + i.toNatClampNeg)) :: rest))) : W p l e R s m args below meth c H locs cells slots Q (F0 m pc ls (.int i :: .ref (ad o) :: rest)) :=
  va_aldq hexec hb hK hP o 1 ((cw_at hsh.1).trans (by rw [hsh.2.1])) rfl (inb_vp hin) hdg kk
theorem w_top {x y : Int32} (h : y = x) (k : W p l e R s m args below meth c H locs cells slots Q (F0 m pc ls (.int y :: rest))) : W p l e R s m args below meth c H locs cells slots Q (F0 m pc ls (.int x :: rest)) := h ▸ k
/-- a receiver -/
theorem w_preV {As : List Value} {o : Nat} {F : (Nat → Int32) → List Value} {ci N : Nat} {C : String} {T : u_T} (hK : va_K D vwCl (tyz cI cR) s) (hP : va_P D vwCl (cw ad cI cR mm) H) (hN : NF s) (ho : o < 364) (hsh : ∀ row, sh ad cI cR o row = .inr (ci, F row)) (hc : vwCl[ci]? = some (C, T, N)) : PreV s H C (ad o) (va_Pc (.ref (ad o) :: As) (KK D ad cI cR mm)) As :=
  ⟨KK_blind, va_recv hK hP hc ((cw_at ho).trans (by rw [hsh])), fun U hU hW => ⟨rfl, by rw [hU]; exact hP, va_K.moved hW.alike hK, NF.warm hW hN⟩⟩
theorem w_preS {As : List Value} (hK : va_K D vwCl (tyz cI cR) s) (hP : va_P D vwCl (cw ad cI cR mm) H) (hN : NF s) : PreS s H (va_Pc As (KK D ad cI cR mm)) As :=
  ⟨KK_blind, fun U hU hW => ⟨rfl, by rw [hU]; exact hP, va_K.moved hW.alike hK, NF.warm hW hN⟩⟩
theorem w_ci {r : Int32} (hr : va_Run p l e R s m args below meth c H locs cells slots 0 0 (F0 m pc ls st0) rest (va_Qi (fun (r' : Int32) (u : Mem) => r' = r ∧ u = m1) (KB D ad cI cR) (AA ad) a) (AA ad)) (hA : ∀ q, AA ad q → A q) (hS : va_S A H0 H locs)
    (kk : ∀ (H1 : Heap) (locs1 : List Loc), va_P D vwCl (cw ad cI cR m1) H1 → va_S A H0 H1 locs1 → W p l e R s m args below meth c H1 locs1 cells slots Q (F0 m (pc + 3) ls (.int r :: rest))) : W p l e R s m args below meth c H locs cells slots Q (F0 m pc ls st0) :=
  va_calli hr hS (fun q _ h => hA q h) hA (fun r' u t H1 locs1 ht _ hw hB _ _ hS1 => by
    obtain ⟨rfl, rfl⟩ := hw
    unfold KB at hB
    rw [ht] at hB
    exact kk H1 locs1 hB hS1)
theorem w_cv (hr : va_Run p l e R s m args below meth c H locs cells slots 0 0 (F0 m pc ls st0) rest (va_Qv (fun (u : Mem) => u = m1) (KB D ad cI cR) (AA ad) a) (AA ad)) (hA : ∀ q, AA ad q → A q) (hS : va_S A H0 H locs)
    (kk : ∀ (H1 : Heap) (locs1 : List Loc), va_P D vwCl (cw ad cI cR m1) H1 → va_S A H0 H1 locs1 → W p l e R s m args below meth c H1 locs1 cells slots Q (F0 m (pc + 3) ls rest)) : W p l e R s m args below meth c H locs cells slots Q (F0 m pc ls st0) :=
  va_callv hr hS (fun q _ h => hA q h) hA (fun u t H1 locs1 ht _ hw hB _ _ hS1 => by
    subst hw
    unfold KB at hB
    rw [ht] at hB
    exact kk H1 locs1 hB hS1)
theorem w_cf {r : UInt32} (hr : va_Run p l e R s m args below meth c H locs cells slots 0 0 (F0 m pc ls st0) rest (va_Qf (fun (r' : UInt32) (u : Mem) => r' = r ∧ u = m1) (KB D ad cI cR) (AA ad) a) (AA ad)) (hA : ∀ q, AA ad q → A q) (hS : va_S A H0 H locs)
    (kk : ∀ (H1 : Heap) (locs1 : List Loc), va_P D vwCl (cw ad cI cR m1) H1 → va_S A H0 H1 locs1 → W p l e R s m args below meth c H1 locs1 cells slots Q (F0 m (pc + 3) ls (.float r :: rest))) : W p l e R s m args below meth c H locs cells slots Q (F0 m pc ls st0) :=
  va_callf hr hS (fun q _ h => hA q h) hA (fun r' u t H1 locs1 ht _ hw hB _ _ hS1 => by
    obtain ⟨rfl, rfl⟩ := hw
    unfold KB at hB
    rw [ht] at hB
    exact kk H1 locs1 hB hS1)
theorem w_cq {r : Option Nat} (hr : va_Run p l e R s m args below meth c H locs cells slots 0 0 (F0 m pc ls st0) rest (va_Qq (fun (r' : Option Nat) (u : Mem) => r' = r.map ad ∧ u = m1) (KB D ad cI cR) (AA ad) a) (AA ad)) (hA : ∀ q, AA ad q → A q) (hS : va_S A H0 H locs)
    (kk : ∀ (H1 : Heap) (locs1 : List Loc), va_P D vwCl (cw ad cI cR m1) H1 → va_S A H0 H1 locs1 → W p l e R s m args below meth c H1 locs1 cells slots Q (F0 m (pc + 3) ls (va_rf (r.map ad) :: rest))) : W p l e R s m args below meth c H locs cells slots Q (F0 m pc ls st0) :=
  va_callq hr hS (fun q _ h => hA q h) hA (fun r' u t H1 locs1 ht _ hw hB _ _ hS1 => by
    obtain ⟨rfl, rfl⟩ := hw
    unfold KB at hB
    rw [ht] at hB
    exact kk H1 locs1 hB hS1)
theorem w_iret {r : Int32} (hexec : p.tables.exec = Jvm.exec) (hb : c.code = cc) (hr : meth.sig.returnType = some .int) (hlocks : meth.locks = false) (hP : va_P D vwCl (cw ad cI cR m1) H) (hS : va_S (AA ad) s.heap H locs) (hdg : decode cc pc = .ok (.ireturn, 1)) : W p l e R s m args below meth c H locs 0 0 (MQ below (va_Qi (fun (r' : Int32) (u : Mem) => r' = r ∧ u = m1) (KB D ad cI cR) (AA ad)) args s 0 0 (AA ad)) (F0 m pc ls [.int r]) :=
  W.iret (v := r) hexec hb hr (fun t ht _ => ⟨⟨r, m1, rfl, ⟨rfl, rfl⟩, by unfold KB; rw [ht]; exact hP⟩, hS.F ht⟩) hS.2.2 hdg hlocks
theorem w_zret {r : Int32} (hexec : p.tables.exec = Jvm.exec) (hb : c.code = cc) (hr : meth.sig.returnType = some .boolean) (hlocks : meth.locks = false) (hn : narrow .boolean (.int r) = .int r) (hP : va_P D vwCl (cw ad cI cR m1) H) (hS : va_S (AA ad) s.heap H locs) (hdg : decode cc pc = .ok (.ireturn, 1)) : W p l e R s m args below meth c H locs 0 0 (MQ below (va_Qi (fun (r' : Int32) (u : Mem) => r' = r ∧ u = m1) (KB D ad cI cR) (AA ad)) args s 0 0 (AA ad)) (F0 m pc ls [.int r]) :=
  W.zret (v := r) hexec hb hr hn (fun t ht _ => ⟨⟨r, m1, rfl, ⟨rfl, rfl⟩, by unfold KB; rw [ht]; exact hP⟩, hS.F ht⟩) hS.2.2 hdg hlocks
theorem w_fret {r : UInt32} (hexec : p.tables.exec = Jvm.exec) (hb : c.code = cc) (hr : meth.sig.returnType = some .float) (hlocks : meth.locks = false) (hP : va_P D vwCl (cw ad cI cR m1) H) (hS : va_S (AA ad) s.heap H locs) (hdg : decode cc pc = .ok (.freturn, 1)) : W p l e R s m args below meth c H locs 0 0 (MQ below (va_Qf (fun (r' : UInt32) (u : Mem) => r' = r ∧ u = m1) (KB D ad cI cR) (AA ad)) args s 0 0 (AA ad)) (F0 m pc ls [.float r]) :=
  W.fret (v := r) hexec hb hr (fun t ht _ => ⟨⟨r, m1, rfl, ⟨rfl, rfl⟩, by unfold KB; rw [ht]; exact hP⟩, hS.F ht⟩) hS.2.2 hdg hlocks
theorem w_vret (hexec : p.tables.exec = Jvm.exec) (hb : c.code = cc) (hr : meth.sig.returnType = none) (hlocks : meth.locks = false) (hP : va_P D vwCl (cw ad cI cR m1) H) (hS : va_S (AA ad) s.heap H locs) (hdg : decode cc pc = .ok (.return_, 1)) : W p l e R s m args below meth c H locs 0 0 (MQ below (va_Qv (fun (u : Mem) => u = m1) (KB D ad cI cR) (AA ad)) args s 0 0 (AA ad)) (F0 m pc ls []) :=
  W.vret hexec hb hr (fun t ht _ => ⟨⟨m1, rfl, rfl, by unfold KB; rw [ht]; exact hP⟩, hS.F ht⟩) hS.2.2 hdg hlocks
theorem w_aret {r : Option Nat} {v : Value} {C : String} (hexec : p.tables.exec = Jvm.exec) (hb : c.code = cc) (hr : meth.sig.returnType = some (.object C)) (hlocks : meth.locks = false) (hv : v = va_rf (r.map ad)) (hP : va_P D vwCl (cw ad cI cR m1) H) (hS : va_S (AA ad) s.heap H locs) (hdg : decode cc pc = .ok (.areturn, 1)) : W p l e R s m args below meth c H locs 0 0 (MQ below (va_Qq (fun (r' : Option Nat) (u : Mem) => r' = r.map ad ∧ u = m1) (KB D ad cI cR) (AA ad)) args s 0 0 (AA ad)) (F0 m pc ls [v]) := by
  subst hv
  exact W.aret (v := va_rf (r.map ad)) hexec hb hr (Or.inl ⟨C, rfl⟩) (va_rf_or _) (fun t ht _ => ⟨⟨r.map ad, m1, rfl, ⟨rfl, rfl⟩, by unfold KB; rw [ht]; exact hP⟩, hS.F ht⟩) hS.2.2 hdg hlocks
end WROWS
end
section
theorem zz_look : (1 : Nat) = 1 := rfl
end
