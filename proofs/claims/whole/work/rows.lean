section
-- ===== PART A: goes FIRST, ahead of the names: the tables' words, and 'selects' of the private methods out of them =====
/-- a private method of a class that the tables say can be made, by its rows of tables_1 -/
def lw_okq (q : MethodName × Nat) : Prop := (q.1.cls ≠ "java/lang/invoke/MethodHandle" ∧ q.1.cls ≠ "java/lang/invoke/VarHandle") ∧ Cond.instantiable q.1.cls q.2 ∈ tables_1 ∧ Cond.privateMethod q.1 ∈ tables_1 ∧ Cond.instanceMethod q.1 ∈ tables_1
theorem lw_p0 : lw_okq (⟨"ModelSender", "senderOf", "(I)LModelSender$Sender;"⟩, 6) := ⟨⟨by decide +kernel, by decide +kernel⟩, List.mem_of_getElem? (i := 11) (by decide +kernel), List.mem_of_getElem? (i := 306) (by decide +kernel), List.mem_of_getElem? (i := 307) (by decide +kernel)⟩
theorem lw_p1 : lw_okq (⟨"ModelSender", "runTick", "()I"⟩, 6) := ⟨⟨by decide +kernel, by decide +kernel⟩, List.mem_of_getElem? (i := 11) (by decide +kernel), List.mem_of_getElem? (i := 315) (by decide +kernel), List.mem_of_getElem? (i := 316) (by decide +kernel)⟩
theorem lw_p2 : lw_okq (⟨"ModelSender$Sender", "take", "(LModelSender$Letter;I)V"⟩, 16) := ⟨⟨by decide +kernel, by decide +kernel⟩, List.mem_of_getElem? (i := 109) (by decide +kernel), List.mem_of_getElem? (i := 332) (by decide +kernel), List.mem_of_getElem? (i := 333) (by decide +kernel)⟩
theorem lw_p3 : lw_okq (⟨"ModelSender$Samples", "ringPlace", "(I)I"⟩, 5) := ⟨⟨by decide +kernel, by decide +kernel⟩, List.mem_of_getElem? (i := 132) (by decide +kernel), List.mem_of_getElem? (i := 343) (by decide +kernel), List.mem_of_getElem? (i := 344) (by decide +kernel)⟩
theorem lw_p4 : lw_okq (⟨"ModelSender$Sender", "learnRate", "(LModelSender$Letter;I)V"⟩, 16) := ⟨⟨by decide +kernel, by decide +kernel⟩, List.mem_of_getElem? (i := 109) (by decide +kernel), List.mem_of_getElem? (i := 347) (by decide +kernel), List.mem_of_getElem? (i := 348) (by decide +kernel)⟩
theorem lw_p5 : lw_okq (⟨"ModelSender$Course", "watchTop", "(I)V"⟩, 11) := ⟨⟨by decide +kernel, by decide +kernel⟩, List.mem_of_getElem? (i := 156) (by decide +kernel), List.mem_of_getElem? (i := 367) (by decide +kernel), List.mem_of_getElem? (i := 368) (by decide +kernel)⟩
theorem lw_p6 : lw_okq (⟨"ModelSender$Course", "enter", "(II)V"⟩, 11) := ⟨⟨by decide +kernel, by decide +kernel⟩, List.mem_of_getElem? (i := 156) (by decide +kernel), List.mem_of_getElem? (i := 373) (by decide +kernel), List.mem_of_getElem? (i := 374) (by decide +kernel)⟩
theorem lw_p7 : lw_okq (⟨"ModelSender$Course", "enterCruise", "(LModelSender$Sender;I)V"⟩, 11) := ⟨⟨by decide +kernel, by decide +kernel⟩, List.mem_of_getElem? (i := 156) (by decide +kernel), List.mem_of_getElem? (i := 383) (by decide +kernel), List.mem_of_getElem? (i := 384) (by decide +kernel)⟩
theorem lw_p8 : lw_okq (⟨"ModelSender$Course", "beginPhase", "(ILModelSender$Sender;I)V"⟩, 11) := ⟨⟨by decide +kernel, by decide +kernel⟩, List.mem_of_getElem? (i := 156) (by decide +kernel), List.mem_of_getElem? (i := 387) (by decide +kernel), List.mem_of_getElem? (i := 388) (by decide +kernel)⟩
theorem lw_p9 : lw_okq (⟨"ModelSender$Course", "phaseIsOver", "(LModelSender$Sender;I)Z"⟩, 11) := ⟨⟨by decide +kernel, by decide +kernel⟩, List.mem_of_getElem? (i := 156) (by decide +kernel), List.mem_of_getElem? (i := 391) (by decide +kernel), List.mem_of_getElem? (i := 392) (by decide +kernel)⟩
theorem lw_p10 : lw_okq (⟨"ModelSender$Course", "probe", "(LModelSender$Sender;I)V"⟩, 11) := ⟨⟨by decide +kernel, by decide +kernel⟩, List.mem_of_getElem? (i := 156) (by decide +kernel), List.mem_of_getElem? (i := 399) (by decide +kernel), List.mem_of_getElem? (i := 400) (by decide +kernel)⟩
theorem lw_p11 : lw_okq (⟨"ModelSender$Gate", "serveFirstWaiting", "(I)V"⟩, 12) := ⟨⟨by decide +kernel, by decide +kernel⟩, List.mem_of_getElem? (i := 19) (by decide +kernel), List.mem_of_getElem? (i := 407) (by decide +kernel), List.mem_of_getElem? (i := 408) (by decide +kernel)⟩
theorem lw_p12 : lw_okq (⟨"ModelSender$Gate", "serve", "(LModelSender$Letter;I)V"⟩, 12) := ⟨⟨by decide +kernel, by decide +kernel⟩, List.mem_of_getElem? (i := 19) (by decide +kernel), List.mem_of_getElem? (i := 411) (by decide +kernel), List.mem_of_getElem? (i := 412) (by decide +kernel)⟩
theorem lw_p13 : lw_okq (⟨"ModelSender$Sender", "isFree", "(JI)Z"⟩, 16) := ⟨⟨by decide +kernel, by decide +kernel⟩, List.mem_of_getElem? (i := 109) (by decide +kernel), List.mem_of_getElem? (i := 441) (by decide +kernel), List.mem_of_getElem? (i := 442) (by decide +kernel)⟩
theorem lw_p14 : lw_okq (⟨"ModelSender$Sender", "sendOne", "(LModelSender$Gate;I)Z"⟩, 16) := ⟨⟨by decide +kernel, by decide +kernel⟩, List.mem_of_getElem? (i := 109) (by decide +kernel), List.mem_of_getElem? (i := 445) (by decide +kernel), List.mem_of_getElem? (i := 446) (by decide +kernel)⟩
theorem lw_p15 : lw_okq (⟨"ModelSender$Sender", "putOffNext", "(I)V"⟩, 16) := ⟨⟨by decide +kernel, by decide +kernel⟩, List.mem_of_getElem? (i := 109) (by decide +kernel), List.mem_of_getElem? (i := 459) (by decide +kernel), List.mem_of_getElem? (i := 460) (by decide +kernel)⟩
def lw_privs_1 : List (MethodName × Nat) := [(⟨"ModelSender", "senderOf", "(I)LModelSender$Sender;"⟩, 6), (⟨"ModelSender", "runTick", "()I"⟩, 6), (⟨"ModelSender$Sender", "take", "(LModelSender$Letter;I)V"⟩, 16), (⟨"ModelSender$Samples", "ringPlace", "(I)I"⟩, 5), (⟨"ModelSender$Sender", "learnRate", "(LModelSender$Letter;I)V"⟩, 16), (⟨"ModelSender$Course", "watchTop", "(I)V"⟩, 11), (⟨"ModelSender$Course", "enter", "(II)V"⟩, 11), (⟨"ModelSender$Course", "enterCruise", "(LModelSender$Sender;I)V"⟩, 11), (⟨"ModelSender$Course", "beginPhase", "(ILModelSender$Sender;I)V"⟩, 11), (⟨"ModelSender$Course", "phaseIsOver", "(LModelSender$Sender;I)Z"⟩, 11), (⟨"ModelSender$Course", "probe", "(LModelSender$Sender;I)V"⟩, 11), (⟨"ModelSender$Gate", "serveFirstWaiting", "(I)V"⟩, 12), (⟨"ModelSender$Gate", "serve", "(LModelSender$Letter;I)V"⟩, 12), (⟨"ModelSender$Sender", "isFree", "(JI)Z"⟩, 16), (⟨"ModelSender$Sender", "sendOne", "(LModelSender$Gate;I)Z"⟩, 16), (⟨"ModelSender$Sender", "putOffNext", "(I)V"⟩, 16)]
theorem lw_r1 : ∀ q ∈ lw_privs_1, lw_okq q := List.forall_mem_cons.mpr ⟨lw_p0, List.forall_mem_cons.mpr ⟨lw_p1, List.forall_mem_cons.mpr ⟨lw_p2, List.forall_mem_cons.mpr ⟨lw_p3, List.forall_mem_cons.mpr ⟨lw_p4, List.forall_mem_cons.mpr ⟨lw_p5, List.forall_mem_cons.mpr ⟨lw_p6, List.forall_mem_cons.mpr ⟨lw_p7, List.forall_mem_cons.mpr ⟨lw_p8, List.forall_mem_cons.mpr ⟨lw_p9, List.forall_mem_cons.mpr ⟨lw_p10, List.forall_mem_cons.mpr ⟨lw_p11, List.forall_mem_cons.mpr ⟨lw_p12, List.forall_mem_cons.mpr ⟨lw_p13, List.forall_mem_cons.mpr ⟨lw_p14, List.forall_mem_cons.mpr ⟨lw_p15, fun _ h => absurd h List.not_mem_nil⟩⟩⟩⟩⟩⟩⟩⟩⟩⟩⟩⟩⟩⟩⟩⟩
theorem lw_p16 : lw_okq (⟨"ModelSender$Course", "turnPlace", "(I)I"⟩, 11) := ⟨⟨by decide +kernel, by decide +kernel⟩, List.mem_of_getElem? (i := 156) (by decide +kernel), List.mem_of_getElem? (i := 545) (by decide +kernel), List.mem_of_getElem? (i := 546) (by decide +kernel)⟩
theorem lw_p17 : lw_okq (⟨"ModelSenderModel", "ticks", "()V"⟩, 50) := ⟨⟨by decide +kernel, by decide +kernel⟩, List.mem_of_getElem? (i := 558) (by decide +kernel), List.mem_of_getElem? (i := 740) (by decide +kernel), List.mem_of_getElem? (i := 741) (by decide +kernel)⟩
theorem lw_p18 : lw_okq (⟨"ModelSenderModel", "takesAll", "(I)V"⟩, 50) := ⟨⟨by decide +kernel, by decide +kernel⟩, List.mem_of_getElem? (i := 558) (by decide +kernel), List.mem_of_getElem? (i := 744) (by decide +kernel), List.mem_of_getElem? (i := 745) (by decide +kernel)⟩
theorem lw_p19 : lw_okq (⟨"ModelSenderModel", "takes", "(II)V"⟩, 50) := ⟨⟨by decide +kernel, by decide +kernel⟩, List.mem_of_getElem? (i := 558) (by decide +kernel), List.mem_of_getElem? (i := 748) (by decide +kernel), List.mem_of_getElem? (i := 749) (by decide +kernel)⟩
theorem lw_p20 : lw_okq (⟨"ModelSenderModel", "takesOff", "(II)V"⟩, 50) := ⟨⟨by decide +kernel, by decide +kernel⟩, List.mem_of_getElem? (i := 558) (by decide +kernel), List.mem_of_getElem? (i := 752) (by decide +kernel), List.mem_of_getElem? (i := 753) (by decide +kernel)⟩
theorem lw_p21 : lw_okq (⟨"ModelSenderModel", "keepsSample", "(II)V"⟩, 50) := ⟨⟨by decide +kernel, by decide +kernel⟩, List.mem_of_getElem? (i := 558) (by decide +kernel), List.mem_of_getElem? (i := 756) (by decide +kernel), List.mem_of_getElem? (i := 757) (by decide +kernel)⟩
theorem lw_p22 : lw_okq (⟨"ModelSenderModel", "letsGo", "(I)V"⟩, 50) := ⟨⟨by decide +kernel, by decide +kernel⟩, List.mem_of_getElem? (i := 558) (by decide +kernel), List.mem_of_getElem? (i := 760) (by decide +kernel), List.mem_of_getElem? (i := 761) (by decide +kernel)⟩
theorem lw_p23 : lw_okq (⟨"ModelSenderModel", "greatestFrom", "(II)I"⟩, 50) := ⟨⟨by decide +kernel, by decide +kernel⟩, List.mem_of_getElem? (i := 558) (by decide +kernel), List.mem_of_getElem? (i := 764) (by decide +kernel), List.mem_of_getElem? (i := 765) (by decide +kernel)⟩
theorem lw_p24 : lw_okq (⟨"ModelSenderModel", "changesState", "(IZZZ)V"⟩, 50) := ⟨⟨by decide +kernel, by decide +kernel⟩, List.mem_of_getElem? (i := 558) (by decide +kernel), List.mem_of_getElem? (i := 768) (by decide +kernel), List.mem_of_getElem? (i := 769) (by decide +kernel)⟩
theorem lw_p25 : lw_okq (⟨"ModelSenderModel", "starts", "(IZZ)V"⟩, 50) := ⟨⟨by decide +kernel, by decide +kernel⟩, List.mem_of_getElem? (i := 558) (by decide +kernel), List.mem_of_getElem? (i := 772) (by decide +kernel), List.mem_of_getElem? (i := 773) (by decide +kernel)⟩
theorem lw_p26 : lw_okq (⟨"ModelSenderModel", "comesTo", "(II)V"⟩, 50) := ⟨⟨by decide +kernel, by decide +kernel⟩, List.mem_of_getElem? (i := 558) (by decide +kernel), List.mem_of_getElem? (i := 778) (by decide +kernel), List.mem_of_getElem? (i := 779) (by decide +kernel)⟩
theorem lw_p27 : lw_okq (⟨"ModelSenderModel", "product", "(I)J"⟩, 50) := ⟨⟨by decide +kernel, by decide +kernel⟩, List.mem_of_getElem? (i := 558) (by decide +kernel), List.mem_of_getElem? (i := 782) (by decide +kernel), List.mem_of_getElem? (i := 783) (by decide +kernel)⟩
theorem lw_p28 : lw_okq (⟨"ModelSenderModel", "comesToPhase", "(II)V"⟩, 50) := ⟨⟨by decide +kernel, by decide +kernel⟩, List.mem_of_getElem? (i := 558) (by decide +kernel), List.mem_of_getElem? (i := 787) (by decide +kernel), List.mem_of_getElem? (i := 788) (by decide +kernel)⟩
theorem lw_p29 : lw_okq (⟨"ModelSenderModel", "isPhaseOver", "(I)Z"⟩, 50) := ⟨⟨by decide +kernel, by decide +kernel⟩, List.mem_of_getElem? (i := 558) (by decide +kernel), List.mem_of_getElem? (i := 791) (by decide +kernel), List.mem_of_getElem? (i := 792) (by decide +kernel)⟩
theorem lw_p30 : lw_okq (⟨"ModelSenderModel", "probes", "(I)V"⟩, 50) := ⟨⟨by decide +kernel, by decide +kernel⟩, List.mem_of_getElem? (i := 558) (by decide +kernel), List.mem_of_getElem? (i := 797) (by decide +kernel), List.mem_of_getElem? (i := 798) (by decide +kernel)⟩
theorem lw_p31 : lw_okq (⟨"ModelSenderModel", "leaves", "()V"⟩, 50) := ⟨⟨by decide +kernel, by decide +kernel⟩, List.mem_of_getElem? (i := 558) (by decide +kernel), List.mem_of_getElem? (i := 801) (by decide +kernel), List.mem_of_getElem? (i := 802) (by decide +kernel)⟩
def lw_privs_2 : List (MethodName × Nat) := [(⟨"ModelSender$Course", "turnPlace", "(I)I"⟩, 11), (⟨"ModelSenderModel", "ticks", "()V"⟩, 50), (⟨"ModelSenderModel", "takesAll", "(I)V"⟩, 50), (⟨"ModelSenderModel", "takes", "(II)V"⟩, 50), (⟨"ModelSenderModel", "takesOff", "(II)V"⟩, 50), (⟨"ModelSenderModel", "keepsSample", "(II)V"⟩, 50), (⟨"ModelSenderModel", "letsGo", "(I)V"⟩, 50), (⟨"ModelSenderModel", "greatestFrom", "(II)I"⟩, 50), (⟨"ModelSenderModel", "changesState", "(IZZZ)V"⟩, 50), (⟨"ModelSenderModel", "starts", "(IZZ)V"⟩, 50), (⟨"ModelSenderModel", "comesTo", "(II)V"⟩, 50), (⟨"ModelSenderModel", "product", "(I)J"⟩, 50), (⟨"ModelSenderModel", "comesToPhase", "(II)V"⟩, 50), (⟨"ModelSenderModel", "isPhaseOver", "(I)Z"⟩, 50), (⟨"ModelSenderModel", "probes", "(I)V"⟩, 50), (⟨"ModelSenderModel", "leaves", "()V"⟩, 50)]
theorem lw_r2 : ∀ q ∈ lw_privs_2, lw_okq q := List.forall_mem_cons.mpr ⟨lw_p16, List.forall_mem_cons.mpr ⟨lw_p17, List.forall_mem_cons.mpr ⟨lw_p18, List.forall_mem_cons.mpr ⟨lw_p19, List.forall_mem_cons.mpr ⟨lw_p20, List.forall_mem_cons.mpr ⟨lw_p21, List.forall_mem_cons.mpr ⟨lw_p22, List.forall_mem_cons.mpr ⟨lw_p23, List.forall_mem_cons.mpr ⟨lw_p24, List.forall_mem_cons.mpr ⟨lw_p25, List.forall_mem_cons.mpr ⟨lw_p26, List.forall_mem_cons.mpr ⟨lw_p27, List.forall_mem_cons.mpr ⟨lw_p28, List.forall_mem_cons.mpr ⟨lw_p29, List.forall_mem_cons.mpr ⟨lw_p30, List.forall_mem_cons.mpr ⟨lw_p31, fun _ h => absurd h List.not_mem_nil⟩⟩⟩⟩⟩⟩⟩⟩⟩⟩⟩⟩⟩⟩⟩⟩
theorem lw_p32 : lw_okq (⟨"ModelSenderModel", "placeOf", "(II)I"⟩, 50) := ⟨⟨by decide +kernel, by decide +kernel⟩, List.mem_of_getElem? (i := 558) (by decide +kernel), List.mem_of_getElem? (i := 805) (by decide +kernel), List.mem_of_getElem? (i := 806) (by decide +kernel)⟩
theorem lw_p33 : lw_okq (⟨"ModelSenderModel", "serves", "(II)V"⟩, 50) := ⟨⟨by decide +kernel, by decide +kernel⟩, List.mem_of_getElem? (i := 558) (by decide +kernel), List.mem_of_getElem? (i := 809) (by decide +kernel), List.mem_of_getElem? (i := 810) (by decide +kernel)⟩
theorem lw_p34 : lw_okq (⟨"ModelSenderModel", "comes", "(II)Z"⟩, 50) := ⟨⟨by decide +kernel, by decide +kernel⟩, List.mem_of_getElem? (i := 558) (by decide +kernel), List.mem_of_getElem? (i := 813) (by decide +kernel), List.mem_of_getElem? (i := 814) (by decide +kernel)⟩
theorem lw_p35 : lw_okq (⟨"ModelSenderModel", "sendsAll", "(I)V"⟩, 50) := ⟨⟨by decide +kernel, by decide +kernel⟩, List.mem_of_getElem? (i := 558) (by decide +kernel), List.mem_of_getElem? (i := 817) (by decide +kernel), List.mem_of_getElem? (i := 818) (by decide +kernel)⟩
theorem lw_p36 : lw_okq (⟨"ModelSenderModel", "isOpen", "(I)Z"⟩, 50) := ⟨⟨by decide +kernel, by decide +kernel⟩, List.mem_of_getElem? (i := 558) (by decide +kernel), List.mem_of_getElem? (i := 821) (by decide +kernel), List.mem_of_getElem? (i := 822) (by decide +kernel)⟩
theorem lw_p37 : lw_okq (⟨"ModelSenderModel", "window", "(I)J"⟩, 50) := ⟨⟨by decide +kernel, by decide +kernel⟩, List.mem_of_getElem? (i := 558) (by decide +kernel), List.mem_of_getElem? (i := 825) (by decide +kernel), List.mem_of_getElem? (i := 826) (by decide +kernel)⟩
theorem lw_p38 : lw_okq (⟨"ModelSenderModel", "sends", "(I)Z"⟩, 50) := ⟨⟨by decide +kernel, by decide +kernel⟩, List.mem_of_getElem? (i := 558) (by decide +kernel), List.mem_of_getElem? (i := 832) (by decide +kernel), List.mem_of_getElem? (i := 833) (by decide +kernel)⟩
theorem lw_p39 : lw_okq (⟨"ModelSenderModel", "gain", "(I)I"⟩, 50) := ⟨⟨by decide +kernel, by decide +kernel⟩, List.mem_of_getElem? (i := 558) (by decide +kernel), List.mem_of_getElem? (i := 837) (by decide +kernel), List.mem_of_getElem? (i := 838) (by decide +kernel)⟩
theorem lw_p40 : lw_okq (⟨"ModelSenderModel", "ahead", "(I)I"⟩, 50) := ⟨⟨by decide +kernel, by decide +kernel⟩, List.mem_of_getElem? (i := 558) (by decide +kernel), List.mem_of_getElem? (i := 854) (by decide +kernel), List.mem_of_getElem? (i := 855) (by decide +kernel)⟩
theorem lw_p41 : lw_okq (⟨"ModelSenderModel", "untilEnd", "(I)I"⟩, 50) := ⟨⟨by decide +kernel, by decide +kernel⟩, List.mem_of_getElem? (i := 558) (by decide +kernel), List.mem_of_getElem? (i := 878) (by decide +kernel), List.mem_of_getElem? (i := 879) (by decide +kernel)⟩
def lw_privs_3 : List (MethodName × Nat) := [(⟨"ModelSenderModel", "placeOf", "(II)I"⟩, 50), (⟨"ModelSenderModel", "serves", "(II)V"⟩, 50), (⟨"ModelSenderModel", "comes", "(II)Z"⟩, 50), (⟨"ModelSenderModel", "sendsAll", "(I)V"⟩, 50), (⟨"ModelSenderModel", "isOpen", "(I)Z"⟩, 50), (⟨"ModelSenderModel", "window", "(I)J"⟩, 50), (⟨"ModelSenderModel", "sends", "(I)Z"⟩, 50), (⟨"ModelSenderModel", "gain", "(I)I"⟩, 50), (⟨"ModelSenderModel", "ahead", "(I)I"⟩, 50), (⟨"ModelSenderModel", "untilEnd", "(I)I"⟩, 50)]
theorem lw_r3 : ∀ q ∈ lw_privs_3, lw_okq q := List.forall_mem_cons.mpr ⟨lw_p32, List.forall_mem_cons.mpr ⟨lw_p33, List.forall_mem_cons.mpr ⟨lw_p34, List.forall_mem_cons.mpr ⟨lw_p35, List.forall_mem_cons.mpr ⟨lw_p36, List.forall_mem_cons.mpr ⟨lw_p37, List.forall_mem_cons.mpr ⟨lw_p38, List.forall_mem_cons.mpr ⟨lw_p39, List.forall_mem_cons.mpr ⟨lw_p40, List.forall_mem_cons.mpr ⟨lw_p41, fun _ h => absurd h List.not_mem_nil⟩⟩⟩⟩⟩⟩⟩⟩⟩⟩
def lw_privs : List (MethodName × Nat) := lw_privs_1 ++ (lw_privs_2 ++ (lw_privs_3))
def lw_tbl : List Cond := k2_sels lw_privs ++ tables_1
theorem lw_privs_ok : ∀ q ∈ lw_privs, lw_okq q := by
  show ∀ q ∈ lw_privs_1 ++ (lw_privs_2 ++ (lw_privs_3)), lw_okq q
  exact List.forall_mem_append.mpr ⟨lw_r1, List.forall_mem_append.mpr ⟨lw_r2, lw_r3⟩⟩
-- ===== end of PART A; then your names; then what follows =====
end
section
/-! ===== BEGIN words of one list among another's, by their places ===== -/
theorem goodIn_r {big : List Cond} (ws : List Cond) (ps : List Nat) (hp : ws = ps.filterMap (fun i => big[i]?)) (h : ws.all goodWord = true) : GoodIn big ws := by
  intro w hw
  have h1 := List.all_eq_true.mp h w hw
  rw [hp] at hw
  obtain ⟨i, -, hi⟩ := List.mem_filterMap.mp hw
  have hm : w ∈ big := by first | exact List.mem_of_getElem? hi | exact List.getElem?_mem hi
  exact ⟨hm, good_of_word h1⟩
theorem goodIn_app {big a b : List Cond} (ha : GoodIn big a) (hb : GoodIn big b) : GoodIn big (a ++ b) := fun w h => (List.mem_append.mp h).elim (ha w) (hb w)
theorem goodIn_ca {big a b : List Cond} {c : Cond} (ha : GoodIn big (c :: a)) (hb : GoodIn big b) : GoodIn big (c :: (a ++ b)) := fun w h => (List.mem_cons.mp h).elim (fun e => ha w (List.mem_cons.mpr (Or.inl e))) (fun h => (List.mem_append.mp h).elim (fun h => ha w (List.mem_cons.mpr (Or.inr h))) (hb w))
theorem goodIn_sub {big ws : List Cond} (hm : ∀ w ∈ ws, w ∈ big) (h : ws.all goodWord = true) : GoodIn big ws := fun w hw => ⟨hm w hw, good_of_word (List.all_eq_true.mp h w hw)⟩
/-! ===== END ===== -/

/-! ===== BEGIN printed: names, fields, word lists, decode rows ===== -/
def RX0 : String := "ModelSender$Course"
def TX0 : u_T := fun k => match k with
  | 0 => ("ModelSender$Course", "state", "I", false)
  | 1 => ("ModelSender$Course", "phase", "I", false)
  | 2 => ("ModelSender$Course", "since", "I", false)
  | 3 => ("ModelSender$Course", "lossesBefore", "I", false)
  | 4 => ("ModelSender$Course", "end", "I", false)
  | 5 => ("ModelSender$Course", "full", "Z", false)
  | 6 => ("ModelSender$Course", "top", "I", false)
  | 7 => ("ModelSender$Course", "flat", "I", false)
  | 8 => ("ModelSender$Course", "turns", "I", false)
  | 9 => ("ModelSender$Course", "turnTicks", "[I", true)
  | _ => ("ModelSender$Course", "turnStates", "[I", true)
def tyX0 : Nat → FieldType := fun k => match k with
  | 0 => .int
  | 1 => .int
  | 2 => .int
  | 3 => .int
  | 4 => .int
  | 5 => .boolean
  | 6 => .int
  | 7 => .int
  | 8 => .int
  | 9 => .array .int
  | _ => .array .int
abbrev wsX00 : List Cond := u_ws RX0 TX0 11
theorem nmX0 : ∀ a, a < 11 → ∀ b, b < 11 → a ≠ b → (TX0 a).2.1 ≠ (TX0 b).2.1 := by decide +kernel
theorem tyX0_ok : ∀ k, k < 11 → parseFieldDescriptor (TX0 k).2.2.1 = some (tyX0 k) := by decide +kernel
abbrev cX0_init : ByteArray := prog_2_method_1_code
def yX0_init : MethodName := ⟨RX0, "<init>", "()V"⟩
abbrev cX0_gain : ByteArray := prog_2_method_2_code
def yX0_gain : MethodName := ⟨RX0, "gain", "()I"⟩
abbrev cX0_follow : ByteArray := prog_2_method_3_code
def yX0_follow : MethodName := ⟨RX0, "follow", "(LModelSender$Sender;IZZ)V"⟩
abbrev cX0_watchTop : ByteArray := prog_2_method_4_code
def yX0_watchTop : MethodName := ⟨RX0, "watchTop", "(I)V"⟩
abbrev cX0_phaseIsOver : ByteArray := prog_2_method_5_code
def yX0_phaseIsOver : MethodName := ⟨RX0, "phaseIsOver", "(LModelSender$Sender;I)Z"⟩
abbrev cX0_probe : ByteArray := prog_2_method_6_code
def yX0_probe : MethodName := ⟨RX0, "probe", "(LModelSender$Sender;I)V"⟩
abbrev cX0_enterCruise : ByteArray := prog_2_method_7_code
def yX0_enterCruise : MethodName := ⟨RX0, "enterCruise", "(LModelSender$Sender;I)V"⟩
abbrev cX0_beginPhase : ByteArray := prog_2_method_8_code
def yX0_beginPhase : MethodName := ⟨RX0, "beginPhase", "(ILModelSender$Sender;I)V"⟩
abbrev cX0_enter : ByteArray := prog_2_method_9_code
def yX0_enter : MethodName := ⟨RX0, "enter", "(II)V"⟩
abbrev cX0_ticksToEnd : ByteArray := prog_2_method_10_code
def yX0_ticksToEnd : MethodName := ⟨RX0, "ticksToEnd", "(I)I"⟩
abbrev cX0_turnsKept : ByteArray := prog_2_method_11_code
def yX0_turnsKept : MethodName := ⟨RX0, "turnsKept", "()I"⟩
abbrev cX0_turnTickOf : ByteArray := prog_2_method_12_code
def yX0_turnTickOf : MethodName := ⟨RX0, "turnTickOf", "(I)I"⟩
abbrev cX0_turnStateOf : ByteArray := prog_2_method_13_code
def yX0_turnStateOf : MethodName := ⟨RX0, "turnStateOf", "(I)I"⟩
abbrev cX0_turnPlace : ByteArray := prog_2_method_14_code
def yX0_turnPlace : MethodName := ⟨RX0, "turnPlace", "(I)I"⟩
def RX1 : String := "ModelSender$Gate"
def TX1 : u_T := fun k => match k with
  | 0 => ("ModelSender$Gate", "service", "I", false)
  | 1 => ("ModelSender$Gate", "room", "I", false)
  | 2 => ("ModelSender$Gate", "delay", "I", false)
  | 3 => ("ModelSender$Gate", "served", "LModelSender$Letter;", false)
  | 4 => ("ModelSender$Gate", "until", "I", false)
  | 5 => ("ModelSender$Gate", "line", "[LModelSender$Letter;", true)
  | 6 => ("ModelSender$Gate", "head", "I", false)
  | 7 => ("ModelSender$Gate", "waiting", "I", false)
  | 8 => ("ModelSender$Gate", "mostWaiting", "I", false)
  | 9 => ("ModelSender$Gate", "guestsLeft", "I", false)
  | 10 => ("ModelSender$Gate", "guestsDropped", "I", false)
  | _ => ("ModelSender$Gate", "guest", "LModelSender$Letter;", true)
def tyX1 : Nat → FieldType := fun k => match k with
  | 0 => .int
  | 1 => .int
  | 2 => .int
  | 3 => .object "ModelSender$Letter"
  | 4 => .int
  | 5 => .array (.object "ModelSender$Letter")
  | 6 => .int
  | 7 => .int
  | 8 => .int
  | 9 => .int
  | 10 => .int
  | _ => .object "ModelSender$Letter"
abbrev wsX10 : List Cond := u_ws RX1 TX1 12
theorem nmX1 : ∀ a, a < 12 → ∀ b, b < 12 → a ≠ b → (TX1 a).2.1 ≠ (TX1 b).2.1 := by decide +kernel
theorem tyX1_ok : ∀ k, k < 12 → parseFieldDescriptor (TX1 k).2.2.1 = some (tyX1 k) := by decide +kernel
abbrev cX1_init : ByteArray := prog_3_method_1_code
def yX1_init : MethodName := ⟨RX1, "<init>", "()V"⟩
abbrev cX1_admitGuest : ByteArray := prog_3_method_2_code
def yX1_admitGuest : MethodName := ⟨RX1, "admitGuest", "(I)V"⟩
abbrev cX1_admit : ByteArray := prog_3_method_3_code
def yX1_admit : MethodName := ⟨RX1, "admit", "(LModelSender$Letter;I)Z"⟩
abbrev cX1_release : ByteArray := prog_3_method_4_code
def yX1_release : MethodName := ⟨RX1, "release", "(I)V"⟩
abbrev cX1_serveFirstWaiting : ByteArray := prog_3_method_5_code
def yX1_serveFirstWaiting : MethodName := ⟨RX1, "serveFirstWaiting", "(I)V"⟩
abbrev cX1_serve : ByteArray := prog_3_method_6_code
def yX1_serve : MethodName := ⟨RX1, "serve", "(LModelSender$Letter;I)V"⟩
def RX2 : String := "ModelSender$Letter"
def TX2 : u_T := fun k => match k with
  | 0 => ("ModelSender$Letter", "owner", "LModelSender$Sender;", true)
  | 1 => ("ModelSender$Letter", "number", "I", false)
  | 2 => ("ModelSender$Letter", "sent", "I", false)
  | 3 => ("ModelSender$Letter", "delivered", "I", false)
  | 4 => ("ModelSender$Letter", "at", "I", false)
  | 5 => ("ModelSender$Letter", "limited", "Z", false)
  | 6 => ("ModelSender$Letter", "hasLeft", "Z", false)
  | _ => ("ModelSender$Letter", "due", "I", false)
def tyX2 : Nat → FieldType := fun k => match k with
  | 0 => .object "ModelSender$Sender"
  | 1 => .int
  | 2 => .int
  | 3 => .int
  | 4 => .int
  | 5 => .boolean
  | 6 => .boolean
  | _ => .int
abbrev wsX20 : List Cond := u_ws RX2 TX2 8
theorem nmX2 : ∀ a, a < 8 → ∀ b, b < 8 → a ≠ b → (TX2 a).2.1 ≠ (TX2 b).2.1 := by decide +kernel
theorem tyX2_ok : ∀ k, k < 8 → parseFieldDescriptor (TX2 k).2.2.1 = some (tyX2 k) := by decide +kernel
abbrev cX2_init : ByteArray := prog_4_method_1_code
def yX2_init : MethodName := ⟨RX2, "<init>", "(LModelSender$Sender;)V"⟩
def RX3 : String := "ModelSender$OnWay"
def TX3 : u_T := fun k => match k with
  | 0 => ("ModelSender$OnWay", "letters", "[LModelSender$Letter;", true)
  | _ => ("ModelSender$OnWay", "count", "I", false)
def tyX3 : Nat → FieldType := fun k => match k with
  | 0 => .array (.object "ModelSender$Letter")
  | _ => .int
abbrev wsX30 : List Cond := u_ws RX3 TX3 2
theorem nmX3 : ∀ a, a < 2 → ∀ b, b < 2 → a ≠ b → (TX3 a).2.1 ≠ (TX3 b).2.1 := by decide +kernel
theorem tyX3_ok : ∀ k, k < 2 → parseFieldDescriptor (TX3 k).2.2.1 = some (tyX3 k) := by decide +kernel
abbrev cX3_init : ByteArray := prog_5_method_1_code
def yX3_init : MethodName := ⟨RX3, "<init>", "()V"⟩
abbrev cX3_at : ByteArray := prog_5_method_2_code
def yX3_at : MethodName := ⟨RX3, "at", "(I)LModelSender$Letter;"⟩
abbrev cX3_blank : ByteArray := prog_5_method_3_code
def yX3_blank : MethodName := ⟨RX3, "blank", "(LModelSender$Sender;)LModelSender$Letter;"⟩
abbrev cX3_add : ByteArray := prog_5_method_4_code
def yX3_add : MethodName := ⟨RX3, "add", "()V"⟩
abbrev cX3_remove : ByteArray := prog_5_method_5_code
def yX3_remove : MethodName := ⟨RX3, "remove", "(I)V"⟩
def RX4 : String := "ModelSender$Samples"
def TX4 : u_T := fun k => match k with
  | 0 => ("ModelSender$Samples", "rates", "[I", true)
  | 1 => ("ModelSender$Samples", "counts", "[I", true)
  | 2 => ("ModelSender$Samples", "greatest", "[I", true)
  | 3 => ("ModelSender$Samples", "first", "I", false)
  | _ => ("ModelSender$Samples", "count", "I", false)
def tyX4 : Nat → FieldType := fun k => match k with
  | 0 => .array .int
  | 1 => .array .int
  | 2 => .array .int
  | 3 => .int
  | _ => .int
abbrev wsX40 : List Cond := u_ws RX4 TX4 5
theorem nmX4 : ∀ a, a < 5 → ∀ b, b < 5 → a ≠ b → (TX4 a).2.1 ≠ (TX4 b).2.1 := by decide +kernel
theorem tyX4_ok : ∀ k, k < 5 → parseFieldDescriptor (TX4 k).2.2.1 = some (tyX4 k) := by decide +kernel
abbrev cX4_init : ByteArray := prog_6_method_1_code
def yX4_init : MethodName := ⟨RX4, "<init>", "()V"⟩
abbrev cX4_beginRound : ByteArray := prog_6_method_2_code
def yX4_beginRound : MethodName := ⟨RX4, "beginRound", "(I)V"⟩
abbrev cX4_keep : ByteArray := prog_6_method_3_code
def yX4_keep : MethodName := ⟨RX4, "keep", "(II)V"⟩
abbrev cX4_greatestOfAll : ByteArray := prog_6_method_4_code
def yX4_greatestOfAll : MethodName := ⟨RX4, "greatestOfAll", "()I"⟩
abbrev cX4_greatestOfLast : ByteArray := prog_6_method_5_code
def yX4_greatestOfLast : MethodName := ⟨RX4, "greatestOfLast", "(II)I"⟩
abbrev cX4_rateOf : ByteArray := prog_6_method_6_code
def yX4_rateOf : MethodName := ⟨RX4, "rateOf", "(I)I"⟩
abbrev cX4_roundsOf : ByteArray := prog_6_method_7_code
def yX4_roundsOf : MethodName := ⟨RX4, "roundsOf", "(II)I"⟩
abbrev cX4_ringPlace : ByteArray := prog_6_method_8_code
def yX4_ringPlace : MethodName := ⟨RX4, "ringPlace", "(I)I"⟩
def RX5 : String := "ModelSender$Sender"
def TX5 : u_T := fun k => match k with
  | 0 => ("ModelSender$Sender", "onWay", "LModelSender$OnWay;", true)
  | 1 => ("ModelSender$Sender", "samples", "LModelSender$Samples;", true)
  | 2 => ("ModelSender$Sender", "course", "LModelSender$Course;", true)
  | 3 => ("ModelSender$Sender", "stock", "I", false)
  | 4 => ("ModelSender$Sender", "sent", "I", false)
  | 5 => ("ModelSender$Sender", "left", "I", false)
  | 6 => ("ModelSender$Sender", "losses", "I", false)
  | 7 => ("ModelSender$Sender", "delivered", "I", false)
  | 8 => ("ModelSender$Sender", "at", "I", false)
  | 9 => ("ModelSender$Sender", "limit", "I", false)
  | 10 => ("ModelSender$Sender", "rounds", "I", false)
  | 11 => ("ModelSender$Sender", "mark", "I", false)
  | 12 => ("ModelSender$Sender", "best", "I", false)
  | 13 => ("ModelSender$Sender", "least", "I", false)
  | 14 => ("ModelSender$Sender", "leastAt", "I", false)
  | _ => ("ModelSender$Sender", "next", "J", false)
def tyX5 : Nat → FieldType := fun k => match k with
  | 0 => .object "ModelSender$OnWay"
  | 1 => .object "ModelSender$Samples"
  | 2 => .object "ModelSender$Course"
  | 3 => .int
  | 4 => .int
  | 5 => .int
  | 6 => .int
  | 7 => .int
  | 8 => .int
  | 9 => .int
  | 10 => .int
  | 11 => .int
  | 12 => .int
  | 13 => .int
  | 14 => .int
  | _ => .long
abbrev wsX50 : List Cond := u_ws RX5 TX5 16
theorem nmX5 : ∀ a, a < 16 → ∀ b, b < 16 → a ≠ b → (TX5 a).2.1 ≠ (TX5 b).2.1 := by decide +kernel
theorem tyX5_ok : ∀ k, k < 16 → parseFieldDescriptor (TX5 k).2.2.1 = some (tyX5 k) := by decide +kernel
abbrev cX5_init : ByteArray := prog_7_method_1_code
def yX5_init : MethodName := ⟨RX5, "<init>", "()V"⟩
abbrev cX5_product : ByteArray := prog_7_method_2_code
def yX5_product : MethodName := ⟨RX5, "product", "()J"⟩
abbrev cX5_window : ByteArray := prog_7_method_3_code
def yX5_window : MethodName := ⟨RX5, "window", "()J"⟩
abbrev cX5_sendAll : ByteArray := prog_7_method_4_code
def yX5_sendAll : MethodName := ⟨RX5, "sendAll", "(LModelSender$Gate;I)V"⟩
abbrev cX5_isFree : ByteArray := prog_7_method_5_code
def yX5_isFree : MethodName := ⟨RX5, "isFree", "(JI)Z"⟩
abbrev cX5_sendOne : ByteArray := prog_7_method_6_code
def yX5_sendOne : MethodName := ⟨RX5, "sendOne", "(LModelSender$Gate;I)Z"⟩
abbrev cX5_putOffNext : ByteArray := prog_7_method_7_code
def yX5_putOffNext : MethodName := ⟨RX5, "putOffNext", "(I)V"⟩
abbrev cX5_takeDue : ByteArray := prog_7_method_8_code
def yX5_takeDue : MethodName := ⟨RX5, "takeDue", "(I)I"⟩
abbrev cX5_take : ByteArray := prog_7_method_9_code
def yX5_take : MethodName := ⟨RX5, "take", "(LModelSender$Letter;I)V"⟩
abbrev cX5_learnRate : ByteArray := prog_7_method_10_code
def yX5_learnRate : MethodName := ⟨RX5, "learnRate", "(LModelSender$Letter;I)V"⟩
def RX6 : String := "ModelSender"
def TX6 : u_T := fun k => match k with
  | 0 => ("ModelSender", "way", "LModelSender$Gate;", true)
  | 1 => ("ModelSender", "zero", "LModelSender$Sender;", true)
  | 2 => ("ModelSender", "one", "LModelSender$Sender;", true)
  | 3 => ("ModelSender", "now", "I", false)
  | 4 => ("ModelSender", "every", "I", false)
  | _ => ("ModelSender", "busyTicks", "I", false)
def tyX6 : Nat → FieldType := fun k => match k with
  | 0 => .object "ModelSender$Gate"
  | 1 => .object "ModelSender$Sender"
  | 2 => .object "ModelSender$Sender"
  | 3 => .int
  | 4 => .int
  | _ => .int
abbrev wsX60 : List Cond := u_ws RX6 TX6 6
theorem nmX6 : ∀ a, a < 6 → ∀ b, b < 6 → a ≠ b → (TX6 a).2.1 ≠ (TX6 b).2.1 := by decide +kernel
theorem tyX6_ok : ∀ k, k < 6 → parseFieldDescriptor (TX6 k).2.2.1 = some (tyX6 k) := by decide +kernel
abbrev cX6_init : ByteArray := prog_1_method_1_code
def yX6_init : MethodName := ⟨RX6, "<init>", "()V"⟩
abbrev cX6_gate : ByteArray := prog_1_method_2_code
def yX6_gate : MethodName := ⟨RX6, "gate", "(III)I"⟩
abbrev cX6_guests : ByteArray := prog_1_method_3_code
def yX6_guests : MethodName := ⟨RX6, "guests", "(I)I"⟩
abbrev cX6_stock : ByteArray := prog_1_method_4_code
def yX6_stock : MethodName := ⟨RX6, "stock", "(II)I"⟩
abbrev cX6_pass : ByteArray := prog_1_method_5_code
def yX6_pass : MethodName := ⟨RX6, "pass", "(I)I"⟩
abbrev cX6_ofGate : ByteArray := prog_1_method_6_code
def yX6_ofGate : MethodName := ⟨RX6, "ofGate", "(I)I"⟩
abbrev cX6_busy : ByteArray := prog_1_method_7_code
def yX6_busy : MethodName := ⟨RX6, "busy", "(I)J"⟩
abbrev cX6_ofSender : ByteArray := prog_1_method_8_code
def yX6_ofSender : MethodName := ⟨RX6, "ofSender", "(II)I"⟩
abbrev cX6_sample : ByteArray := prog_1_method_9_code
def yX6_sample : MethodName := ⟨RX6, "sample", "(III)I"⟩
abbrev cX6_best : ByteArray := prog_1_method_10_code
def yX6_best : MethodName := ⟨RX6, "best", "(II)I"⟩
abbrev cX6_letter : ByteArray := prog_1_method_11_code
def yX6_letter : MethodName := ⟨RX6, "letter", "(III)I"⟩
abbrev cX6_phase : ByteArray := prog_1_method_12_code
def yX6_phase : MethodName := ⟨RX6, "phase", "(II)I"⟩
abbrev cX6_model : ByteArray := prog_1_method_13_code
def yX6_model : MethodName := ⟨RX6, "model", "(II)I"⟩
abbrev cX6_turn : ByteArray := prog_1_method_14_code
def yX6_turn : MethodName := ⟨RX6, "turn", "(III)I"⟩
abbrev cX6_many : ByteArray := prog_1_method_15_code
def yX6_many : MethodName := ⟨RX6, "many", "(I)I"⟩
abbrev cX6_senderOf : ByteArray := prog_1_method_16_code
def yX6_senderOf : MethodName := ⟨RX6, "senderOf", "(I)LModelSender$Sender;"⟩
abbrev cX6_runTick : ByteArray := prog_1_method_17_code
def yX6_runTick : MethodName := ⟨RX6, "runTick", "()I"⟩
abbrev cX6_within : ByteArray := prog_1_method_18_code
def yX6_within : MethodName := ⟨RX6, "within", "(III)Z"⟩
abbrev cX6_asNumber : ByteArray := prog_1_method_19_code
def yX6_asNumber : MethodName := ⟨RX6, "asNumber", "(Z)I"⟩
abbrev cX6_greatestDivisor : ByteArray := prog_1_method_20_code
def yX6_greatestDivisor : MethodName := ⟨RX6, "greatestDivisor", "(II)I"⟩
def RX7 : String := "ModelSenderModel"
def TX7 : u_T := fun k => match k with
  | 0 => ("ModelSenderModel", "now", "I", false)
  | 1 => ("ModelSenderModel", "service", "I", false)
  | 2 => ("ModelSenderModel", "room", "I", false)
  | 3 => ("ModelSenderModel", "delay", "I", false)
  | 4 => ("ModelSenderModel", "every", "I", false)
  | 5 => ("ModelSenderModel", "servedOf", "I", false)
  | 6 => ("ModelSenderModel", "servedNumber", "I", false)
  | 7 => ("ModelSenderModel", "servedTill", "I", false)
  | 8 => ("ModelSenderModel", "waiting", "I", false)
  | 9 => ("ModelSenderModel", "mostWaiting", "I", false)
  | 10 => ("ModelSenderModel", "waitsOf", "[I", true)
  | 11 => ("ModelSenderModel", "waitsNumber", "[I", true)
  | 12 => ("ModelSenderModel", "guestsDropped", "I", false)
  | 13 => ("ModelSenderModel", "leftOf", "[I", true)
  | 14 => ("ModelSenderModel", "busyTicks", "I", false)
  | 15 => ("ModelSenderModel", "taken", "I", false)
  | 16 => ("ModelSenderModel", "onWay", "[I", true)
  | 17 => ("ModelSenderModel", "numberOf", "[I", true)
  | 18 => ("ModelSenderModel", "sentAt", "[I", true)
  | 19 => ("ModelSenderModel", "deliveredThen", "[I", true)
  | 20 => ("ModelSenderModel", "atThen", "[I", true)
  | 21 => ("ModelSenderModel", "isLimited", "[Z", true)
  | 22 => ("ModelSenderModel", "dueOf", "[I", true)
  | 23 => ("ModelSenderModel", "stockOf", "[I", true)
  | 24 => ("ModelSenderModel", "sentMany", "[I", true)
  | 25 => ("ModelSenderModel", "delivered", "[I", true)
  | 26 => ("ModelSenderModel", "lastAt", "[I", true)
  | 27 => ("ModelSenderModel", "limitOf", "[I", true)
  | 28 => ("ModelSenderModel", "rounds", "[I", true)
  | 29 => ("ModelSenderModel", "markOf", "[I", true)
  | 30 => ("ModelSenderModel", "bestOf", "[I", true)
  | 31 => ("ModelSenderModel", "leastOf", "[I", true)
  | 32 => ("ModelSenderModel", "leastAt", "[I", true)
  | 33 => ("ModelSenderModel", "nextOf", "[J", true)
  | 34 => ("ModelSenderModel", "losses", "[I", true)
  | 35 => ("ModelSenderModel", "sampleFirst", "[I", true)
  | 36 => ("ModelSenderModel", "sampleMany", "[I", true)
  | 37 => ("ModelSenderModel", "sampleRounds", "[I", true)
  | 38 => ("ModelSenderModel", "sampleRate", "[I", true)
  | 39 => ("ModelSenderModel", "stateOf", "[I", true)
  | 40 => ("ModelSenderModel", "phaseOf", "[I", true)
  | 41 => ("ModelSenderModel", "since", "[I", true)
  | 42 => ("ModelSenderModel", "lossesThen", "[I", true)
  | 43 => ("ModelSenderModel", "endOf", "[I", true)
  | 44 => ("ModelSenderModel", "isFull", "[Z", true)
  | 45 => ("ModelSenderModel", "topOf", "[I", true)
  | 46 => ("ModelSenderModel", "flatOf", "[I", true)
  | 47 => ("ModelSenderModel", "turnMany", "[I", true)
  | 48 => ("ModelSenderModel", "turnTick", "[I", true)
  | _ => ("ModelSenderModel", "turnState", "[I", true)
def tyX7 : Nat → FieldType := fun k => match k with
  | 0 => .int
  | 1 => .int
  | 2 => .int
  | 3 => .int
  | 4 => .int
  | 5 => .int
  | 6 => .int
  | 7 => .int
  | 8 => .int
  | 9 => .int
  | 10 => .array .int
  | 11 => .array .int
  | 12 => .int
  | 13 => .array .int
  | 14 => .int
  | 15 => .int
  | 16 => .array .int
  | 17 => .array .int
  | 18 => .array .int
  | 19 => .array .int
  | 20 => .array .int
  | 21 => .array .boolean
  | 22 => .array .int
  | 23 => .array .int
  | 24 => .array .int
  | 25 => .array .int
  | 26 => .array .int
  | 27 => .array .int
  | 28 => .array .int
  | 29 => .array .int
  | 30 => .array .int
  | 31 => .array .int
  | 32 => .array .int
  | 33 => .array .long
  | 34 => .array .int
  | 35 => .array .int
  | 36 => .array .int
  | 37 => .array .int
  | 38 => .array .int
  | 39 => .array .int
  | 40 => .array .int
  | 41 => .array .int
  | 42 => .array .int
  | 43 => .array .int
  | 44 => .array .boolean
  | 45 => .array .int
  | 46 => .array .int
  | 47 => .array .int
  | 48 => .array .int
  | _ => .array .int
abbrev wsX70 : List Cond := u_ws RX7 TX7 50
theorem nmX7 : ∀ a, a < 50 → ∀ b, b < 50 → a ≠ b → (TX7 a).2.1 ≠ (TX7 b).2.1 := by decide +kernel
theorem tyX7_ok : ∀ k, k < 50 → parseFieldDescriptor (TX7 k).2.2.1 = some (tyX7 k) := by decide +kernel
abbrev cX7_init : ByteArray := prog_9_method_1_code
def yX7_init : MethodName := ⟨RX7, "<init>", "()V"⟩
abbrev cX7_within : ByteArray := prog_9_method_2_code
def yX7_within : MethodName := ⟨RX7, "within", "(III)Z"⟩
abbrev cX7_isSender : ByteArray := prog_9_method_3_code
def yX7_isSender : MethodName := ⟨RX7, "isSender", "(I)Z"⟩
abbrev cX7_gate : ByteArray := prog_9_method_4_code
def yX7_gate : MethodName := ⟨RX7, "gate", "(III)I"⟩
abbrev cX7_guests : ByteArray := prog_9_method_5_code
def yX7_guests : MethodName := ⟨RX7, "guests", "(I)I"⟩
abbrev cX7_serves : ByteArray := prog_9_method_6_code
def yX7_serves : MethodName := ⟨RX7, "serves", "(II)V"⟩
abbrev cX7_comes : ByteArray := prog_9_method_7_code
def yX7_comes : MethodName := ⟨RX7, "comes", "(II)Z"⟩
abbrev cX7_leaves : ByteArray := prog_9_method_8_code
def yX7_leaves : MethodName := ⟨RX7, "leaves", "()V"⟩
abbrev cX7_placeOf : ByteArray := prog_9_method_9_code
def yX7_placeOf : MethodName := ⟨RX7, "placeOf", "(II)I"⟩
abbrev cX7_takesOff : ByteArray := prog_9_method_10_code
def yX7_takesOff : MethodName := ⟨RX7, "takesOff", "(II)V"⟩
abbrev cX7_stock : ByteArray := prog_9_method_11_code
def yX7_stock : MethodName := ⟨RX7, "stock", "(II)I"⟩
abbrev cX7_product : ByteArray := prog_9_method_12_code
def yX7_product : MethodName := ⟨RX7, "product", "(I)J"⟩
abbrev cX7_window : ByteArray := prog_9_method_13_code
def yX7_window : MethodName := ⟨RX7, "window", "(I)J"⟩
abbrev cX7_gain : ByteArray := prog_9_method_14_code
def yX7_gain : MethodName := ⟨RX7, "gain", "(I)I"⟩
abbrev cX7_isOpen : ByteArray := prog_9_method_15_code
def yX7_isOpen : MethodName := ⟨RX7, "isOpen", "(I)Z"⟩
abbrev cX7_sends : ByteArray := prog_9_method_16_code
def yX7_sends : MethodName := ⟨RX7, "sends", "(I)Z"⟩
abbrev cX7_sendsAll : ByteArray := prog_9_method_17_code
def yX7_sendsAll : MethodName := ⟨RX7, "sendsAll", "(I)V"⟩
abbrev cX7_greatestFrom : ByteArray := prog_9_method_18_code
def yX7_greatestFrom : MethodName := ⟨RX7, "greatestFrom", "(II)I"⟩
abbrev cX7_keepsSample : ByteArray := prog_9_method_19_code
def yX7_keepsSample : MethodName := ⟨RX7, "keepsSample", "(II)V"⟩
abbrev cX7_letsGo : ByteArray := prog_9_method_20_code
def yX7_letsGo : MethodName := ⟨RX7, "letsGo", "(I)V"⟩
abbrev cX7_comesTo : ByteArray := prog_9_method_21_code
def yX7_comesTo : MethodName := ⟨RX7, "comesTo", "(II)V"⟩
abbrev cX7_comesToPhase : ByteArray := prog_9_method_22_code
def yX7_comesToPhase : MethodName := ⟨RX7, "comesToPhase", "(II)V"⟩
abbrev cX7_starts : ByteArray := prog_9_method_23_code
def yX7_starts : MethodName := ⟨RX7, "starts", "(IZZ)V"⟩
abbrev cX7_isPhaseOver : ByteArray := prog_9_method_24_code
def yX7_isPhaseOver : MethodName := ⟨RX7, "isPhaseOver", "(I)Z"⟩
abbrev cX7_probes : ByteArray := prog_9_method_25_code
def yX7_probes : MethodName := ⟨RX7, "probes", "(I)V"⟩
abbrev cX7_changesState : ByteArray := prog_9_method_26_code
def yX7_changesState : MethodName := ⟨RX7, "changesState", "(IZZZ)V"⟩
abbrev cX7_takes : ByteArray := prog_9_method_27_code
def yX7_takes : MethodName := ⟨RX7, "takes", "(II)V"⟩
abbrev cX7_takesAll : ByteArray := prog_9_method_28_code
def yX7_takesAll : MethodName := ⟨RX7, "takesAll", "(I)V"⟩
abbrev cX7_ticks : ByteArray := prog_9_method_29_code
def yX7_ticks : MethodName := ⟨RX7, "ticks", "()V"⟩
abbrev cX7_pass : ByteArray := prog_9_method_30_code
def yX7_pass : MethodName := ⟨RX7, "pass", "(I)I"⟩
abbrev cX7_ofGate : ByteArray := prog_9_method_31_code
def yX7_ofGate : MethodName := ⟨RX7, "ofGate", "(I)I"⟩
abbrev cX7_busy : ByteArray := prog_9_method_32_code
def yX7_busy : MethodName := ⟨RX7, "busy", "(I)J"⟩
abbrev cX7_ahead : ByteArray := prog_9_method_33_code
def yX7_ahead : MethodName := ⟨RX7, "ahead", "(I)I"⟩
abbrev cX7_ofSender : ByteArray := prog_9_method_34_code
def yX7_ofSender : MethodName := ⟨RX7, "ofSender", "(II)I"⟩
abbrev cX7_sample : ByteArray := prog_9_method_35_code
def yX7_sample : MethodName := ⟨RX7, "sample", "(III)I"⟩
abbrev cX7_best : ByteArray := prog_9_method_36_code
def yX7_best : MethodName := ⟨RX7, "best", "(II)I"⟩
abbrev cX7_letter : ByteArray := prog_9_method_37_code
def yX7_letter : MethodName := ⟨RX7, "letter", "(III)I"⟩
abbrev cX7_phase : ByteArray := prog_9_method_38_code
def yX7_phase : MethodName := ⟨RX7, "phase", "(II)I"⟩
abbrev cX7_untilEnd : ByteArray := prog_9_method_39_code
def yX7_untilEnd : MethodName := ⟨RX7, "untilEnd", "(I)I"⟩
abbrev cX7_model : ByteArray := prog_9_method_40_code
def yX7_model : MethodName := ⟨RX7, "model", "(II)I"⟩
abbrev cX7_turn : ByteArray := prog_9_method_41_code
def yX7_turn : MethodName := ⟨RX7, "turn", "(III)I"⟩
abbrev cX7_many : ByteArray := prog_9_method_42_code
def yX7_many : MethodName := ⟨RX7, "many", "(I)I"⟩
def RJ9 : String := "java/lang/Math"
def TJ9 : u_T := fun k => match k with
  | _ => ("", "", "", false)
def tyJ9 : Nat → FieldType := fun k => match k with
  | _ => .int
abbrev wsJ90 : List Cond := u_ws RJ9 TJ9 0
theorem nmJ9 : ∀ a, a < 0 → ∀ b, b < 0 → a ≠ b → (TJ9 a).2.1 ≠ (TJ9 b).2.1 := by decide +kernel
theorem tyJ9_ok : ∀ k, k < 0 → parseFieldDescriptor (TJ9 k).2.2.1 = some (tyJ9 k) := by decide +kernel
abbrev cJ9_floorMod_7cf53 : ByteArray := prog_10_method_50_code
def yJ9_floorMod_7cf53 : MethodName := ⟨RJ9, "floorMod", "(II)I"⟩
abbrev cJ9_max_7cf53 : ByteArray := prog_10_method_65_code
def yJ9_max_7cf53 : MethodName := ⟨RJ9, "max", "(II)I"⟩
abbrev cJ9_max_f86c9 : ByteArray := prog_10_method_66_code
def yJ9_max_f86c9 : MethodName := ⟨RJ9, "max", "(JJ)J"⟩
abbrev cJ9_min_7cf53 : ByteArray := prog_10_method_69_code
def yJ9_min_7cf53 : MethodName := ⟨RJ9, "min", "(II)I"⟩
def RL : String := "ModelSenderLaw"
abbrev cL_law : ByteArray := code
def yL_law : MethodName := ⟨RL, "law", "([I)Z"⟩
def wsX0_init : List Cond := .code yX0_init cX0_init 1 none :: ([.methodLink RX0 3 objectInit, .instanceMethod objectInit, .code objectInit ⟨#[0xb1]⟩ 1 none, .fieldLink RX0 9 "ModelSender$Course" "state" "I", .fieldLink RX0 15 "ModelSender$Course" "end" "I", .arrayClass .int, .fieldLink RX0 18 "ModelSender$Course" "turnTicks" "[I", .fieldLink RX0 22 "ModelSender$Course" "turnStates" "[I"] ++ wsX00)
def wsX0_gain : List Cond := .code yX0_gain cX0_gain 1 (some .int) :: ([.fieldLink RX0 9 "ModelSender$Course" "state" "I", .fieldLink RX0 25 "ModelSender$Course" "phase" "I"] ++ wsX00)
def wsX0_watchTop : List Cond := .code yX0_watchTop cX0_watchTop 2 none :: ([.constantLong RX0 76 (100), .constantLong RX0 78 (125), .fieldLink RX0 80 "ModelSender$Course" "top" "I", .fieldLink RX0 83 "ModelSender$Course" "flat" "I", .fieldLink RX0 40 "ModelSender$Course" "full" "Z"] ++ wsX00)
def wsJ9_floorMod_7cf53 : List Cond := .code yJ9_floorMod_7cf53 cJ9_floorMod_7cf53 3 (some .int) :: ([])
def wsX0_enter : List Cond := .code yX0_enter cX0_enter 4 none :: ([.fieldLink RX0 9 "ModelSender$Course" "state" "I", .fieldLink RX0 105 "ModelSender$Course" "turns" "I", .fieldLink RX0 18 "ModelSender$Course" "turnTicks" "[I", .fieldLink RX0 22 "ModelSender$Course" "turnStates" "[I", .methodLink RX0 108 yJ9_floorMod_7cf53, .static yJ9_floorMod_7cf53, .initialized RJ9, .code yJ9_floorMod_7cf53 cJ9_floorMod_7cf53 3 (some .int)] ++ wsX00)
def wsX5_product : List Cond := .code yX5_product cX5_product 1 (some .long) :: ([.fieldLink RX5 32 "ModelSender$Sender" "least" "I", .fieldLink RX5 36 "ModelSender$Sender" "best" "I", .constantLong RX5 39 (1000)] ++ wsX50)
def wsX0_beginPhase : List Cond := .code yX0_beginPhase cX0_beginPhase 4 none :: ([.fieldLink RX0 25 "ModelSender$Course" "phase" "I", .fieldLink RX0 86 "ModelSender$Course" "since" "I", .fieldLink RX0 92 "ModelSender$Sender" "losses" "I", .fieldLink RX0 95 "ModelSender$Course" "lossesBefore" "I"] ++ wsX00 ++ wsX50)
def wsX0_enterCruise : List Cond := .code yX0_enterCruise cX0_enterCruise 3 none :: ([.methodLink RX0 44 yX0_enter, .instanceMethod yX0_enter, .selects RX0 yX0_enter yX0_enter, .initialized RX0, .code yX0_enter cX0_enter 4 none, .fieldLink RX0 9 "ModelSender$Course" "state" "I", .fieldLink RX0 105 "ModelSender$Course" "turns" "I", .fieldLink RX0 18 "ModelSender$Course" "turnTicks" "[I", .fieldLink RX0 22 "ModelSender$Course" "turnStates" "[I", .methodLink RX0 108 yJ9_floorMod_7cf53, .static yJ9_floorMod_7cf53, .initialized RJ9, .code yJ9_floorMod_7cf53 cJ9_floorMod_7cf53 3 (some .int), .methodLink RX0 69 yX0_beginPhase, .instanceMethod yX0_beginPhase, .selects RX0 yX0_beginPhase yX0_beginPhase, .code yX0_beginPhase cX0_beginPhase 4 none, .fieldLink RX0 25 "ModelSender$Course" "phase" "I", .fieldLink RX0 86 "ModelSender$Course" "since" "I", .fieldLink RX0 92 "ModelSender$Sender" "losses" "I", .fieldLink RX0 95 "ModelSender$Course" "lossesBefore" "I"] ++ wsX00 ++ wsX50)
def wsX0_phaseIsOver : List Cond := .code yX0_phaseIsOver cX0_phaseIsOver 6 (some .boolean) :: ([.fieldLink RX0 86 "ModelSender$Course" "since" "I", .fieldLink RX0 89 "ModelSender$Sender" "least" "I", .fieldLink RX0 48 "ModelSender$Sender" "onWay" "LModelSender$OnWay;", .fieldLink RX0 52 "ModelSender$OnWay" "count" "I", .fieldLink RX0 25 "ModelSender$Course" "phase" "I", .fieldLink RX0 92 "ModelSender$Sender" "losses" "I", .fieldLink RX0 95 "ModelSender$Course" "lossesBefore" "I", .constantLong RX0 98 (4), .constantLong RX0 100 (5), .methodLink RX0 57 yX5_product, .instanceMethod yX5_product, .selects RX5 yX5_product yX5_product, .initialized RX5, .code yX5_product cX5_product 1 (some .long), .fieldLink RX5 32 "ModelSender$Sender" "least" "I", .fieldLink RX5 36 "ModelSender$Sender" "best" "I", .constantLong RX5 39 (1000)] ++ wsX00 ++ wsX50 ++ wsX30)
def wsX0_probe_r1 : List Cond := [Cond.fieldLink RX0 15 "ModelSender$Course" "end" "I", Cond.fieldLink RX0 48 "ModelSender$Sender" "onWay" "LModelSender$OnWay;", Cond.fieldLink RX0 52 "ModelSender$OnWay" "count" "I", Cond.fieldLink RX0 102 "ModelSender$Sender" "leastAt" "I", Cond.fieldLink RX0 40 "ModelSender$Course" "full" "Z", Cond.methodLink RX0 61 yX0_enterCruise, Cond.instanceMethod yX0_enterCruise, Cond.selects RX0 yX0_enterCruise yX0_enterCruise, Cond.initialized RX0, Cond.code yX0_enterCruise cX0_enterCruise 3 none, Cond.methodLink RX0 44 yX0_enter, Cond.instanceMethod yX0_enter, Cond.selects RX0 yX0_enter yX0_enter, Cond.code yX0_enter cX0_enter 4 none, Cond.fieldLink RX0 9 "ModelSender$Course" "state" "I", Cond.fieldLink RX0 105 "ModelSender$Course" "turns" "I", Cond.fieldLink RX0 18 "ModelSender$Course" "turnTicks" "[I", Cond.fieldLink RX0 22 "ModelSender$Course" "turnStates" "[I", Cond.methodLink RX0 108 yJ9_floorMod_7cf53, Cond.static yJ9_floorMod_7cf53, Cond.initialized RJ9, Cond.code yJ9_floorMod_7cf53 cJ9_floorMod_7cf53 3 (some .int), Cond.methodLink RX0 69 yX0_beginPhase, Cond.instanceMethod yX0_beginPhase]
def wsX0_probe_r2 : List Cond := [Cond.selects RX0 yX0_beginPhase yX0_beginPhase, Cond.code yX0_beginPhase cX0_beginPhase 4 none, Cond.fieldLink RX0 25 "ModelSender$Course" "phase" "I", Cond.fieldLink RX0 86 "ModelSender$Course" "since" "I", Cond.fieldLink RX0 92 "ModelSender$Sender" "losses" "I", Cond.fieldLink RX0 95 "ModelSender$Course" "lossesBefore" "I"]
def wsX0_probe : List Cond := .code yX0_probe cX0_probe 3 none :: ((wsX0_probe_r1 ++ wsX0_probe_r2) ++ wsX00 ++ wsX50 ++ wsX30)
def wsX0_follow_r1 : List Cond := [Cond.fieldLink RX0 9 "ModelSender$Course" "state" "I", Cond.fieldLink RX0 31 "ModelSender$Sender" "best" "I", Cond.fieldLink RX0 40 "ModelSender$Course" "full" "Z", Cond.fieldLink RX0 48 "ModelSender$Sender" "onWay" "LModelSender$OnWay;", Cond.fieldLink RX0 52 "ModelSender$OnWay" "count" "I", Cond.fieldLink RX0 25 "ModelSender$Course" "phase" "I", Cond.fieldLink RX0 15 "ModelSender$Course" "end" "I", Cond.methodLink RX0 36 yX0_watchTop, Cond.instanceMethod yX0_watchTop, Cond.selects RX0 yX0_watchTop yX0_watchTop, Cond.initialized RX0, Cond.code yX0_watchTop cX0_watchTop 2 none, Cond.constantLong RX0 76 (100), Cond.constantLong RX0 78 (125), Cond.fieldLink RX0 80 "ModelSender$Course" "top" "I", Cond.fieldLink RX0 83 "ModelSender$Course" "flat" "I", Cond.methodLink RX0 44 yX0_enter, Cond.instanceMethod yX0_enter, Cond.selects RX0 yX0_enter yX0_enter, Cond.code yX0_enter cX0_enter 4 none, Cond.fieldLink RX0 105 "ModelSender$Course" "turns" "I", Cond.fieldLink RX0 18 "ModelSender$Course" "turnTicks" "[I", Cond.fieldLink RX0 22 "ModelSender$Course" "turnStates" "[I", Cond.methodLink RX0 108 yJ9_floorMod_7cf53]
def wsX0_follow_r2 : List Cond := [Cond.static yJ9_floorMod_7cf53, Cond.initialized RJ9, Cond.code yJ9_floorMod_7cf53 cJ9_floorMod_7cf53 3 (some .int), Cond.methodLink RX0 57 yX5_product, Cond.instanceMethod yX5_product, Cond.selects RX5 yX5_product yX5_product, Cond.initialized RX5, Cond.code yX5_product cX5_product 1 (some .long), Cond.fieldLink RX5 32 "ModelSender$Sender" "least" "I", Cond.fieldLink RX5 36 "ModelSender$Sender" "best" "I", Cond.constantLong RX5 39 (1000), Cond.methodLink RX0 61 yX0_enterCruise, Cond.instanceMethod yX0_enterCruise, Cond.selects RX0 yX0_enterCruise yX0_enterCruise, Cond.code yX0_enterCruise cX0_enterCruise 3 none, Cond.methodLink RX0 69 yX0_beginPhase, Cond.instanceMethod yX0_beginPhase, Cond.selects RX0 yX0_beginPhase yX0_beginPhase, Cond.code yX0_beginPhase cX0_beginPhase 4 none, Cond.fieldLink RX0 86 "ModelSender$Course" "since" "I", Cond.fieldLink RX0 92 "ModelSender$Sender" "losses" "I", Cond.fieldLink RX0 95 "ModelSender$Course" "lossesBefore" "I", Cond.methodLink RX0 65 yX0_phaseIsOver, Cond.instanceMethod yX0_phaseIsOver]
def wsX0_follow_r3 : List Cond := [Cond.selects RX0 yX0_phaseIsOver yX0_phaseIsOver, Cond.code yX0_phaseIsOver cX0_phaseIsOver 6 (some .boolean), Cond.fieldLink RX0 89 "ModelSender$Sender" "least" "I", Cond.constantLong RX0 98 (4), Cond.constantLong RX0 100 (5), Cond.methodLink RX0 73 yX0_probe, Cond.instanceMethod yX0_probe, Cond.selects RX0 yX0_probe yX0_probe, Cond.code yX0_probe cX0_probe 3 none, Cond.fieldLink RX0 102 "ModelSender$Sender" "leastAt" "I"]
def wsX0_follow : List Cond := .code yX0_follow cX0_follow 5 none :: ((wsX0_follow_r1 ++ (wsX0_follow_r2 ++ wsX0_follow_r3)) ++ wsX00 ++ wsX50 ++ wsX30)
def wsX0_ticksToEnd : List Cond := .code yX0_ticksToEnd cX0_ticksToEnd 2 (some .int) :: ([.fieldLink RX0 9 "ModelSender$Course" "state" "I", .fieldLink RX0 15 "ModelSender$Course" "end" "I", .methodLink RX0 114 Lib.Math.max.name, .static Lib.Math.max.name, .initialized "java/lang/Math", .code Lib.Math.max.name Lib.Math.max.code 2 (some .int)] ++ wsX00)
def wsX0_turnsKept : List Cond := .code yX0_turnsKept cX0_turnsKept 1 (some .int) :: ([.fieldLink RX0 105 "ModelSender$Course" "turns" "I", .methodLink RX0 117 Lib.Math.min.name, .static Lib.Math.min.name, .initialized "java/lang/Math", .code Lib.Math.min.name Lib.Math.min.code 2 (some .int)] ++ wsX00)
def wsX0_turnPlace : List Cond := .code yX0_turnPlace cX0_turnPlace 2 (some .int) :: ([.fieldLink RX0 105 "ModelSender$Course" "turns" "I", .methodLink RX0 124 yX0_turnsKept, .instanceMethod yX0_turnsKept, .selects RX0 yX0_turnsKept yX0_turnsKept, .initialized RX0, .code yX0_turnsKept cX0_turnsKept 1 (some .int), .methodLink RX0 117 Lib.Math.min.name, .static Lib.Math.min.name, .initialized "java/lang/Math", .code Lib.Math.min.name Lib.Math.min.code 2 (some .int), .methodLink RX0 108 yJ9_floorMod_7cf53, .static yJ9_floorMod_7cf53, .initialized RJ9, .code yJ9_floorMod_7cf53 cJ9_floorMod_7cf53 3 (some .int)] ++ wsX00)
def wsX0_turnTickOf : List Cond := .code yX0_turnTickOf cX0_turnTickOf 2 (some .int) :: ([.fieldLink RX0 18 "ModelSender$Course" "turnTicks" "[I", .methodLink RX0 120 yX0_turnPlace, .instanceMethod yX0_turnPlace, .selects RX0 yX0_turnPlace yX0_turnPlace, .initialized RX0, .code yX0_turnPlace cX0_turnPlace 2 (some .int), .fieldLink RX0 105 "ModelSender$Course" "turns" "I", .methodLink RX0 124 yX0_turnsKept, .instanceMethod yX0_turnsKept, .selects RX0 yX0_turnsKept yX0_turnsKept, .code yX0_turnsKept cX0_turnsKept 1 (some .int), .methodLink RX0 117 Lib.Math.min.name, .static Lib.Math.min.name, .initialized "java/lang/Math", .code Lib.Math.min.name Lib.Math.min.code 2 (some .int), .methodLink RX0 108 yJ9_floorMod_7cf53, .static yJ9_floorMod_7cf53, .initialized RJ9, .code yJ9_floorMod_7cf53 cJ9_floorMod_7cf53 3 (some .int)] ++ wsX00)
def wsX0_turnStateOf : List Cond := .code yX0_turnStateOf cX0_turnStateOf 2 (some .int) :: ([.fieldLink RX0 22 "ModelSender$Course" "turnStates" "[I", .methodLink RX0 120 yX0_turnPlace, .instanceMethod yX0_turnPlace, .selects RX0 yX0_turnPlace yX0_turnPlace, .initialized RX0, .code yX0_turnPlace cX0_turnPlace 2 (some .int), .fieldLink RX0 105 "ModelSender$Course" "turns" "I", .methodLink RX0 124 yX0_turnsKept, .instanceMethod yX0_turnsKept, .selects RX0 yX0_turnsKept yX0_turnsKept, .code yX0_turnsKept cX0_turnsKept 1 (some .int), .methodLink RX0 117 Lib.Math.min.name, .static Lib.Math.min.name, .initialized "java/lang/Math", .code Lib.Math.min.name Lib.Math.min.code 2 (some .int), .methodLink RX0 108 yJ9_floorMod_7cf53, .static yJ9_floorMod_7cf53, .initialized RJ9, .code yJ9_floorMod_7cf53 cJ9_floorMod_7cf53 3 (some .int)] ++ wsX00)
def wsX2_init : List Cond := .code yX2_init cX2_init 2 none :: ([.methodLink RX2 1 objectInit, .instanceMethod objectInit, .code objectInit ⟨#[0xb1]⟩ 1 none, .fieldLink RX2 7 "ModelSender$Letter" "owner" "LModelSender$Sender;"] ++ wsX20)
def wsX1_init : List Cond := .code yX1_init cX1_init 1 none :: ([.methodLink RX1 3 objectInit, .instanceMethod objectInit, .code objectInit ⟨#[0xb1]⟩ 1 none, .fieldLink RX1 9 "ModelSender$Gate" "service" "I", .fieldLink RX1 15 "ModelSender$Gate" "room" "I", .fieldLink RX1 18 "ModelSender$Gate" "delay" "I", .classLink RX1 21 RX2, .fieldLink RX1 23 "ModelSender$Gate" "line" "[LModelSender$Letter;", .instantiable RX2 8, .initialized RX2, .fieldLink RX1 30 "ModelSender$Gate" "guest" "LModelSender$Letter;", .methodLink RX1 27 yX2_init, .instanceMethod yX2_init, .code yX2_init cX2_init 2 none, .methodLink RX2 1 objectInit, .fieldLink RX2 7 "ModelSender$Letter" "owner" "LModelSender$Sender;"] ++ wsX10 ++ wsX20)
def wsX1_serve : List Cond := .code yX1_serve cX1_serve 3 none :: ([.fieldLink RX1 41 "ModelSender$Gate" "served" "LModelSender$Letter;", .fieldLink RX1 9 "ModelSender$Gate" "service" "I", .fieldLink RX1 63 "ModelSender$Gate" "until" "I"] ++ wsX10)
def wsX1_admit : List Cond := .code yX1_admit cX1_admit 4 (some .boolean) :: ([.fieldLink RX1 41 "ModelSender$Gate" "served" "LModelSender$Letter;", .fieldLink RX1 48 "ModelSender$Gate" "head" "I", .fieldLink RX1 51 "ModelSender$Gate" "waiting" "I", .fieldLink RX1 23 "ModelSender$Gate" "line" "[LModelSender$Letter;", .fieldLink RX1 15 "ModelSender$Gate" "room" "I", .fieldLink RX1 54 "ModelSender$Gate" "mostWaiting" "I", .methodLink RX1 57 Lib.Math.max.name, .static Lib.Math.max.name, .initialized "java/lang/Math", .code Lib.Math.max.name Lib.Math.max.code 2 (some .int), .methodLink RX1 44 yX1_serve, .instanceMethod yX1_serve, .selects RX1 yX1_serve yX1_serve, .initialized RX1, .code yX1_serve cX1_serve 3 none, .fieldLink RX1 9 "ModelSender$Gate" "service" "I", .fieldLink RX1 63 "ModelSender$Gate" "until" "I"] ++ wsX10)
def wsX1_admitGuest : List Cond := .code yX1_admitGuest cX1_admitGuest 2 none :: ([.fieldLink RX1 30 "ModelSender$Gate" "guest" "LModelSender$Letter;", .fieldLink RX1 38 "ModelSender$Gate" "guestsDropped" "I", .methodLink RX1 34 yX1_admit, .instanceMethod yX1_admit, .selects RX1 yX1_admit yX1_admit, .initialized RX1, .code yX1_admit cX1_admit 4 (some .boolean), .fieldLink RX1 41 "ModelSender$Gate" "served" "LModelSender$Letter;", .fieldLink RX1 48 "ModelSender$Gate" "head" "I", .fieldLink RX1 51 "ModelSender$Gate" "waiting" "I", .fieldLink RX1 23 "ModelSender$Gate" "line" "[LModelSender$Letter;", .fieldLink RX1 15 "ModelSender$Gate" "room" "I", .fieldLink RX1 54 "ModelSender$Gate" "mostWaiting" "I", .methodLink RX1 57 Lib.Math.max.name, .static Lib.Math.max.name, .initialized "java/lang/Math", .code Lib.Math.max.name Lib.Math.max.code 2 (some .int), .methodLink RX1 44 yX1_serve, .instanceMethod yX1_serve, .selects RX1 yX1_serve yX1_serve, .code yX1_serve cX1_serve 3 none, .fieldLink RX1 9 "ModelSender$Gate" "service" "I", .fieldLink RX1 63 "ModelSender$Gate" "until" "I"] ++ wsX10)
def wsX1_serveFirstWaiting : List Cond := .code yX1_serveFirstWaiting cX1_serveFirstWaiting 2 none :: ([.fieldLink RX1 51 "ModelSender$Gate" "waiting" "I", .fieldLink RX1 48 "ModelSender$Gate" "head" "I", .fieldLink RX1 23 "ModelSender$Gate" "line" "[LModelSender$Letter;", .methodLink RX1 44 yX1_serve, .instanceMethod yX1_serve, .selects RX1 yX1_serve yX1_serve, .initialized RX1, .code yX1_serve cX1_serve 3 none, .fieldLink RX1 41 "ModelSender$Gate" "served" "LModelSender$Letter;", .fieldLink RX1 9 "ModelSender$Gate" "service" "I", .fieldLink RX1 63 "ModelSender$Gate" "until" "I"] ++ wsX10)
def wsX1_release : List Cond := .code yX1_release cX1_release 2 none :: ([.fieldLink RX1 41 "ModelSender$Gate" "served" "LModelSender$Letter;", .fieldLink RX1 63 "ModelSender$Gate" "until" "I", .fieldLink RX1 66 "ModelSender$Letter" "owner" "LModelSender$Sender;", .fieldLink RX1 70 "ModelSender$Gate" "guestsLeft" "I", .fieldLink RX1 73 "ModelSender$Sender" "left" "I", .fieldLink RX1 78 "ModelSender$Letter" "hasLeft" "Z", .fieldLink RX1 18 "ModelSender$Gate" "delay" "I", .fieldLink RX1 82 "ModelSender$Letter" "due" "I", .methodLink RX1 85 yX1_serveFirstWaiting, .instanceMethod yX1_serveFirstWaiting, .selects RX1 yX1_serveFirstWaiting yX1_serveFirstWaiting, .initialized RX1, .code yX1_serveFirstWaiting cX1_serveFirstWaiting 2 none, .fieldLink RX1 51 "ModelSender$Gate" "waiting" "I", .fieldLink RX1 48 "ModelSender$Gate" "head" "I", .fieldLink RX1 23 "ModelSender$Gate" "line" "[LModelSender$Letter;", .methodLink RX1 44 yX1_serve, .instanceMethod yX1_serve, .selects RX1 yX1_serve yX1_serve, .code yX1_serve cX1_serve 3 none, .fieldLink RX1 9 "ModelSender$Gate" "service" "I"] ++ wsX10 ++ wsX20 ++ wsX50)
def wsX3_init : List Cond := .code yX3_init cX3_init 1 none :: ([.methodLink RX3 3 objectInit, .instanceMethod objectInit, .code objectInit ⟨#[0xb1]⟩ 1 none, .classLink RX3 9 RX2, .fieldLink RX3 11 "ModelSender$OnWay" "letters" "[LModelSender$Letter;"] ++ wsX30)
def wsX3_at : List Cond := .code yX3_at cX3_at 2 (some (.object "ModelSender$Letter")) :: ([.fieldLink RX3 17 "ModelSender$OnWay" "count" "I", .fieldLink RX3 11 "ModelSender$OnWay" "letters" "[LModelSender$Letter;"] ++ wsX30)
def wsX3_blank : List Cond := .code yX3_blank cX3_blank 2 (some (.object "ModelSender$Letter")) :: ([.fieldLink RX3 17 "ModelSender$OnWay" "count" "I", .fieldLink RX3 11 "ModelSender$OnWay" "letters" "[LModelSender$Letter;", .classLink RX3 9 RX2, .instantiable RX2 8, .initialized RX2, .methodLink RX3 21 yX2_init, .instanceMethod yX2_init, .code yX2_init cX2_init 2 none, .methodLink RX2 1 objectInit, .instanceMethod objectInit, .code objectInit ⟨#[0xb1]⟩ 1 none, .fieldLink RX2 7 "ModelSender$Letter" "owner" "LModelSender$Sender;"] ++ wsX30 ++ wsX20)
def wsX3_add : List Cond := .code yX3_add cX3_add 1 none :: ([.fieldLink RX3 17 "ModelSender$OnWay" "count" "I", .fieldLink RX3 11 "ModelSender$OnWay" "letters" "[LModelSender$Letter;"] ++ wsX30)
def wsX3_remove : List Cond := .code yX3_remove cX3_remove 4 none :: ([.fieldLink RX3 17 "ModelSender$OnWay" "count" "I", .fieldLink RX3 11 "ModelSender$OnWay" "letters" "[LModelSender$Letter;", .methodLink RX3 24 yX3_at, .instanceMethod yX3_at, .selects RX3 yX3_at yX3_at, .initialized RX3, .code yX3_at cX3_at 2 (some (.object "ModelSender$Letter"))] ++ wsX30)
def wsX4_init : List Cond := .code yX4_init cX4_init 1 none :: ([.methodLink RX4 3 objectInit, .instanceMethod objectInit, .code objectInit ⟨#[0xb1]⟩ 1 none, .arrayClass .int, .fieldLink RX4 9 "ModelSender$Samples" "rates" "[I", .fieldLink RX4 15 "ModelSender$Samples" "counts" "[I", .fieldLink RX4 18 "ModelSender$Samples" "greatest" "[I"] ++ wsX40)
def wsX4_ringPlace : List Cond := .code yX4_ringPlace cX4_ringPlace 3 (some .int) :: ([.fieldLink RX4 31 "ModelSender$Samples" "first" "I", .fieldLink RX4 9 "ModelSender$Samples" "rates" "[I"] ++ wsX40)
def wsX4_beginRound : List Cond := .code yX4_beginRound cX4_beginRound 3 none :: ([.fieldLink RX4 15 "ModelSender$Samples" "counts" "[I", .fieldLink RX4 31 "ModelSender$Samples" "first" "I", .fieldLink RX4 35 "ModelSender$Samples" "count" "I", .fieldLink RX4 18 "ModelSender$Samples" "greatest" "[I", .methodLink RX4 21 yJ9_floorMod_7cf53, .static yJ9_floorMod_7cf53, .initialized RJ9, .code yJ9_floorMod_7cf53 cJ9_floorMod_7cf53 3 (some .int), .methodLink RX4 27 yX4_ringPlace, .instanceMethod yX4_ringPlace, .selects RX4 yX4_ringPlace yX4_ringPlace, .initialized RX4, .code yX4_ringPlace cX4_ringPlace 3 (some .int), .fieldLink RX4 9 "ModelSender$Samples" "rates" "[I"] ++ wsX40)
def wsX4_keep : List Cond := .code yX4_keep cX4_keep 5 none :: ([.fieldLink RX4 35 "ModelSender$Samples" "count" "I", .fieldLink RX4 9 "ModelSender$Samples" "rates" "[I", .fieldLink RX4 15 "ModelSender$Samples" "counts" "[I", .fieldLink RX4 18 "ModelSender$Samples" "greatest" "[I", .methodLink RX4 38 Lib.Math.max.name, .static Lib.Math.max.name, .initialized "java/lang/Math", .code Lib.Math.max.name Lib.Math.max.code 2 (some .int), .methodLink RX4 27 yX4_ringPlace, .instanceMethod yX4_ringPlace, .selects RX4 yX4_ringPlace yX4_ringPlace, .initialized RX4, .code yX4_ringPlace cX4_ringPlace 3 (some .int), .fieldLink RX4 31 "ModelSender$Samples" "first" "I", .methodLink RX4 21 yJ9_floorMod_7cf53, .static yJ9_floorMod_7cf53, .initialized RJ9, .code yJ9_floorMod_7cf53 cJ9_floorMod_7cf53 3 (some .int)] ++ wsX40)
def wsX4_greatestOfAll : List Cond := .code yX4_greatestOfAll cX4_greatestOfAll 3 (some .int) :: ([.fieldLink RX4 18 "ModelSender$Samples" "greatest" "[I", .methodLink RX4 38 Lib.Math.max.name, .static Lib.Math.max.name, .initialized "java/lang/Math", .code Lib.Math.max.name Lib.Math.max.code 2 (some .int)] ++ wsX40)
def wsX4_greatestOfLast : List Cond := .code yX4_greatestOfLast cX4_greatestOfLast 6 (some .int) :: ([.fieldLink RX4 15 "ModelSender$Samples" "counts" "[I", .fieldLink RX4 18 "ModelSender$Samples" "greatest" "[I", .methodLink RX4 38 Lib.Math.max.name, .static Lib.Math.max.name, .initialized "java/lang/Math", .code Lib.Math.max.name Lib.Math.max.code 2 (some .int), .methodLink RX4 21 yJ9_floorMod_7cf53, .static yJ9_floorMod_7cf53, .initialized RJ9, .code yJ9_floorMod_7cf53 cJ9_floorMod_7cf53 3 (some .int)] ++ wsX40)
def wsX4_rateOf : List Cond := .code yX4_rateOf cX4_rateOf 3 (some .int) :: ([.fieldLink RX4 9 "ModelSender$Samples" "rates" "[I", .methodLink RX4 27 yX4_ringPlace, .instanceMethod yX4_ringPlace, .selects RX4 yX4_ringPlace yX4_ringPlace, .initialized RX4, .code yX4_ringPlace cX4_ringPlace 3 (some .int), .fieldLink RX4 31 "ModelSender$Samples" "first" "I"] ++ wsX40)
def wsX4_roundsOf : List Cond := .code yX4_roundsOf cX4_roundsOf 5 (some .int) :: ([.fieldLink RX4 15 "ModelSender$Samples" "counts" "[I", .methodLink RX4 21 yJ9_floorMod_7cf53, .static yJ9_floorMod_7cf53, .initialized RJ9, .code yJ9_floorMod_7cf53 cJ9_floorMod_7cf53 3 (some .int)] ++ wsX40)
def wsX5_init_r1 : List Cond := [Cond.methodLink RX5 3 objectInit, Cond.instanceMethod objectInit, Cond.code objectInit ⟨#[0xb1]⟩ 1 none, Cond.classLink RX5 9 RX3, Cond.instantiable RX3 2, Cond.initialized RX3, Cond.fieldLink RX5 12 "ModelSender$Sender" "onWay" "LModelSender$OnWay;", Cond.classLink RX5 18 RX4, Cond.instantiable RX4 5, Cond.initialized RX4, Cond.fieldLink RX5 21 "ModelSender$Sender" "samples" "LModelSender$Samples;", Cond.classLink RX5 25 RX0, Cond.instantiable RX0 11, Cond.initialized RX0, Cond.fieldLink RX5 28 "ModelSender$Sender" "course" "LModelSender$Course;", Cond.fieldLink RX5 32 "ModelSender$Sender" "least" "I", Cond.instanceMethod yX3_init, Cond.code yX3_init cX3_init 1 none, Cond.methodLink RX3 3 objectInit, Cond.classLink RX3 9 RX2, Cond.fieldLink RX3 11 "ModelSender$OnWay" "letters" "[LModelSender$Letter;", Cond.instanceMethod yX4_init, Cond.code yX4_init cX4_init 1 none, Cond.methodLink RX4 3 objectInit]
def wsX5_init_r2 : List Cond := [Cond.arrayClass .int, Cond.fieldLink RX4 9 "ModelSender$Samples" "rates" "[I", Cond.fieldLink RX4 15 "ModelSender$Samples" "counts" "[I", Cond.fieldLink RX4 18 "ModelSender$Samples" "greatest" "[I", Cond.instanceMethod yX0_init, Cond.code yX0_init cX0_init 1 none, Cond.methodLink RX0 3 objectInit, Cond.fieldLink RX0 9 "ModelSender$Course" "state" "I", Cond.fieldLink RX0 15 "ModelSender$Course" "end" "I", Cond.fieldLink RX0 18 "ModelSender$Course" "turnTicks" "[I", Cond.fieldLink RX0 22 "ModelSender$Course" "turnStates" "[I"]
def wsX5_init : List Cond := .code yX5_init cX5_init 1 none :: ((wsX5_init_r1 ++ wsX5_init_r2) ++ wsX30 ++ wsX50 ++ wsX40 ++ wsX00)
def wsX5_window : List Cond := .code yX5_window cX5_window 3 (some .long) :: ([.fieldLink RX5 28 "ModelSender$Sender" "course" "LModelSender$Course;", .fieldLink RX5 41 "ModelSender$Course" "state" "I", .constantLong RX5 44 (4), .fieldLink RX5 36 "ModelSender$Sender" "best" "I", .fieldLink RX5 32 "ModelSender$Sender" "least" "I", .constantLong RX5 46 (10), .constantLong RX5 48 (2), .constantLong RX5 54 (289), .constantLong RX5 56 (100), .methodLink RX5 58 Lib.MathLoose.max_long.x, .static Lib.MathLoose.max_long.x, .initialized "java/lang/Math", .code Lib.MathLoose.max_long.x Lib.MathLoose.max_long.code 4 (some .long), .methodLink RX5 50 yX5_product, .instanceMethod yX5_product, .selects RX5 yX5_product yX5_product, .initialized RX5, .code yX5_product cX5_product 1 (some .long), .constantLong RX5 39 (1000)] ++ wsX50 ++ wsX00)
def wsX5_isFree : List Cond := .code yX5_isFree cX5_isFree 4 (some .boolean) :: ([.fieldLink RX5 12 "ModelSender$Sender" "onWay" "LModelSender$OnWay;", .fieldLink RX5 81 "ModelSender$OnWay" "count" "I", .fieldLink RX5 90 "ModelSender$Sender" "next" "J", .constantLong RX5 39 (1000)] ++ wsX50 ++ wsX30)
def wsX5_putOffNext : List Cond := .code yX5_putOffNext cX5_putOffNext 4 none :: ([.fieldLink RX5 36 "ModelSender$Sender" "best" "I", .fieldLink RX5 28 "ModelSender$Sender" "course" "LModelSender$Course;", .fieldLink RX5 90 "ModelSender$Sender" "next" "J", .constantLong RX5 39 (1000), .methodLink RX5 58 Lib.MathLoose.max_long.x, .static Lib.MathLoose.max_long.x, .initialized "java/lang/Math", .code Lib.MathLoose.max_long.x Lib.MathLoose.max_long.code 4 (some .long), .constantLong RX5 139 (100000000), .methodLink RX5 135 yX0_gain, .instanceMethod yX0_gain, .selects RX0 yX0_gain yX0_gain, .initialized RX0, .code yX0_gain cX0_gain 1 (some .int), .fieldLink RX0 9 "ModelSender$Course" "state" "I", .fieldLink RX0 25 "ModelSender$Course" "phase" "I"] ++ wsX50 ++ wsX00)
def wsX5_sendOne_r1 : List Cond := [Cond.fieldLink RX5 12 "ModelSender$Sender" "onWay" "LModelSender$OnWay;", Cond.fieldLink RX5 67 "ModelSender$Sender" "stock" "I", Cond.fieldLink RX5 81 "ModelSender$OnWay" "count" "I", Cond.fieldLink RX5 98 "ModelSender$Sender" "at" "I", Cond.fieldLink RX5 101 "ModelSender$Sender" "sent" "I", Cond.fieldLink RX5 104 "ModelSender$Letter" "number" "I", Cond.fieldLink RX5 109 "ModelSender$Letter" "sent" "I", Cond.fieldLink RX5 78 "ModelSender$Sender" "delivered" "I", Cond.fieldLink RX5 110 "ModelSender$Letter" "delivered" "I", Cond.fieldLink RX5 111 "ModelSender$Letter" "at" "I", Cond.fieldLink RX5 87 "ModelSender$Sender" "limit" "I", Cond.fieldLink RX5 112 "ModelSender$Letter" "limited" "Z", Cond.fieldLink RX5 116 "ModelSender$Letter" "hasLeft" "Z", Cond.fieldLink RX5 128 "ModelSender$Sender" "losses" "I", Cond.methodLink RX5 94 yX3_blank, Cond.instanceMethod yX3_blank, Cond.selects RX3 yX3_blank yX3_blank, Cond.initialized RX3, Cond.code yX3_blank cX3_blank 2 (some (.object "ModelSender$Letter")), Cond.fieldLink RX3 17 "ModelSender$OnWay" "count" "I", Cond.fieldLink RX3 11 "ModelSender$OnWay" "letters" "[LModelSender$Letter;", Cond.classLink RX3 9 RX2, Cond.instantiable RX2 8, Cond.initialized RX2]
def wsX5_sendOne_r2 : List Cond := [Cond.methodLink RX3 21 yX2_init, Cond.instanceMethod yX2_init, Cond.code yX2_init cX2_init 2 none, Cond.methodLink RX2 1 objectInit, Cond.instanceMethod objectInit, Cond.code objectInit ⟨#[0xb1]⟩ 1 none, Cond.fieldLink RX2 7 "ModelSender$Letter" "owner" "LModelSender$Sender;", Cond.methodLink RX5 119 yX1_admit, Cond.instanceMethod yX1_admit, Cond.selects RX1 yX1_admit yX1_admit, Cond.initialized RX1, Cond.code yX1_admit cX1_admit 4 (some .boolean), Cond.fieldLink RX1 41 "ModelSender$Gate" "served" "LModelSender$Letter;", Cond.fieldLink RX1 48 "ModelSender$Gate" "head" "I", Cond.fieldLink RX1 51 "ModelSender$Gate" "waiting" "I", Cond.fieldLink RX1 23 "ModelSender$Gate" "line" "[LModelSender$Letter;", Cond.fieldLink RX1 15 "ModelSender$Gate" "room" "I", Cond.fieldLink RX1 54 "ModelSender$Gate" "mostWaiting" "I", Cond.methodLink RX1 57 Lib.Math.max.name, Cond.static Lib.Math.max.name, Cond.initialized "java/lang/Math", Cond.code Lib.Math.max.name Lib.Math.max.code 2 (some .int), Cond.methodLink RX1 44 yX1_serve, Cond.instanceMethod yX1_serve]
def wsX5_sendOne_r3 : List Cond := [Cond.selects RX1 yX1_serve yX1_serve, Cond.code yX1_serve cX1_serve 3 none, Cond.fieldLink RX1 9 "ModelSender$Gate" "service" "I", Cond.fieldLink RX1 63 "ModelSender$Gate" "until" "I", Cond.methodLink RX5 125 yX3_add, Cond.instanceMethod yX3_add, Cond.selects RX3 yX3_add yX3_add, Cond.code yX3_add cX3_add 1 none, Cond.methodLink RX5 131 yX5_putOffNext, Cond.instanceMethod yX5_putOffNext, Cond.selects RX5 yX5_putOffNext yX5_putOffNext, Cond.initialized RX5, Cond.code yX5_putOffNext cX5_putOffNext 4 none, Cond.fieldLink RX5 36 "ModelSender$Sender" "best" "I", Cond.fieldLink RX5 28 "ModelSender$Sender" "course" "LModelSender$Course;", Cond.fieldLink RX5 90 "ModelSender$Sender" "next" "J", Cond.constantLong RX5 39 (1000), Cond.methodLink RX5 58 Lib.MathLoose.max_long.x, Cond.static Lib.MathLoose.max_long.x, Cond.code Lib.MathLoose.max_long.x Lib.MathLoose.max_long.code 4 (some .long), Cond.constantLong RX5 139 (100000000), Cond.methodLink RX5 135 yX0_gain, Cond.instanceMethod yX0_gain, Cond.selects RX0 yX0_gain yX0_gain]
def wsX5_sendOne_r4 : List Cond := [Cond.initialized RX0, Cond.code yX0_gain cX0_gain 1 (some .int), Cond.fieldLink RX0 9 "ModelSender$Course" "state" "I", Cond.fieldLink RX0 25 "ModelSender$Course" "phase" "I"]
def wsX5_sendOne : List Cond := .code yX5_sendOne cX5_sendOne 5 (some .boolean) :: ((wsX5_sendOne_r1 ++ (wsX5_sendOne_r2 ++ (wsX5_sendOne_r3 ++ wsX5_sendOne_r4))) ++ wsX50 ++ wsX30 ++ wsX20 ++ wsX10 ++ wsX00)
def wsX5_sendAll_r1 : List Cond := [Cond.fieldLink RX5 67 "ModelSender$Sender" "stock" "I", Cond.fieldLink RX5 78 "ModelSender$Sender" "delivered" "I", Cond.fieldLink RX5 12 "ModelSender$Sender" "onWay" "LModelSender$OnWay;", Cond.fieldLink RX5 81 "ModelSender$OnWay" "count" "I", Cond.methodLink RX5 84 Lib.Math.max.name, Cond.static Lib.Math.max.name, Cond.initialized "java/lang/Math", Cond.code Lib.Math.max.name Lib.Math.max.code 2 (some .int), Cond.fieldLink RX5 87 "ModelSender$Sender" "limit" "I", Cond.methodLink RX5 64 yX5_window, Cond.instanceMethod yX5_window, Cond.selects RX5 yX5_window yX5_window, Cond.initialized RX5, Cond.code yX5_window cX5_window 3 (some .long), Cond.fieldLink RX5 28 "ModelSender$Sender" "course" "LModelSender$Course;", Cond.fieldLink RX5 41 "ModelSender$Course" "state" "I", Cond.constantLong RX5 44 (4), Cond.fieldLink RX5 36 "ModelSender$Sender" "best" "I", Cond.fieldLink RX5 32 "ModelSender$Sender" "least" "I", Cond.constantLong RX5 46 (10), Cond.constantLong RX5 48 (2), Cond.constantLong RX5 54 (289), Cond.constantLong RX5 56 (100), Cond.methodLink RX5 58 Lib.MathLoose.max_long.x]
def wsX5_sendAll_r2 : List Cond := [Cond.static Lib.MathLoose.max_long.x, Cond.code Lib.MathLoose.max_long.x Lib.MathLoose.max_long.code 4 (some .long), Cond.methodLink RX5 50 yX5_product, Cond.instanceMethod yX5_product, Cond.selects RX5 yX5_product yX5_product, Cond.code yX5_product cX5_product 1 (some .long), Cond.constantLong RX5 39 (1000), Cond.methodLink RX5 70 yX5_isFree, Cond.instanceMethod yX5_isFree, Cond.selects RX5 yX5_isFree yX5_isFree, Cond.code yX5_isFree cX5_isFree 4 (some .boolean), Cond.fieldLink RX5 90 "ModelSender$Sender" "next" "J", Cond.methodLink RX5 74 yX5_sendOne, Cond.instanceMethod yX5_sendOne, Cond.selects RX5 yX5_sendOne yX5_sendOne, Cond.code yX5_sendOne cX5_sendOne 5 (some .boolean), Cond.fieldLink RX5 98 "ModelSender$Sender" "at" "I", Cond.fieldLink RX5 101 "ModelSender$Sender" "sent" "I", Cond.fieldLink RX5 104 "ModelSender$Letter" "number" "I", Cond.fieldLink RX5 109 "ModelSender$Letter" "sent" "I", Cond.fieldLink RX5 110 "ModelSender$Letter" "delivered" "I", Cond.fieldLink RX5 111 "ModelSender$Letter" "at" "I", Cond.fieldLink RX5 112 "ModelSender$Letter" "limited" "Z", Cond.fieldLink RX5 116 "ModelSender$Letter" "hasLeft" "Z"]
def wsX5_sendAll_r3 : List Cond := [Cond.fieldLink RX5 128 "ModelSender$Sender" "losses" "I", Cond.methodLink RX5 94 yX3_blank, Cond.instanceMethod yX3_blank, Cond.selects RX3 yX3_blank yX3_blank, Cond.initialized RX3, Cond.code yX3_blank cX3_blank 2 (some (.object "ModelSender$Letter")), Cond.fieldLink RX3 17 "ModelSender$OnWay" "count" "I", Cond.fieldLink RX3 11 "ModelSender$OnWay" "letters" "[LModelSender$Letter;", Cond.classLink RX3 9 RX2, Cond.instantiable RX2 8, Cond.initialized RX2, Cond.methodLink RX3 21 yX2_init, Cond.instanceMethod yX2_init, Cond.code yX2_init cX2_init 2 none, Cond.methodLink RX2 1 objectInit, Cond.instanceMethod objectInit, Cond.code objectInit ⟨#[0xb1]⟩ 1 none, Cond.fieldLink RX2 7 "ModelSender$Letter" "owner" "LModelSender$Sender;", Cond.methodLink RX5 119 yX1_admit, Cond.instanceMethod yX1_admit, Cond.selects RX1 yX1_admit yX1_admit, Cond.initialized RX1, Cond.code yX1_admit cX1_admit 4 (some .boolean), Cond.fieldLink RX1 41 "ModelSender$Gate" "served" "LModelSender$Letter;"]
def wsX5_sendAll_r4 : List Cond := [Cond.fieldLink RX1 48 "ModelSender$Gate" "head" "I", Cond.fieldLink RX1 51 "ModelSender$Gate" "waiting" "I", Cond.fieldLink RX1 23 "ModelSender$Gate" "line" "[LModelSender$Letter;", Cond.fieldLink RX1 15 "ModelSender$Gate" "room" "I", Cond.fieldLink RX1 54 "ModelSender$Gate" "mostWaiting" "I", Cond.methodLink RX1 57 Lib.Math.max.name, Cond.methodLink RX1 44 yX1_serve, Cond.instanceMethod yX1_serve, Cond.selects RX1 yX1_serve yX1_serve, Cond.code yX1_serve cX1_serve 3 none, Cond.fieldLink RX1 9 "ModelSender$Gate" "service" "I", Cond.fieldLink RX1 63 "ModelSender$Gate" "until" "I", Cond.methodLink RX5 125 yX3_add, Cond.instanceMethod yX3_add, Cond.selects RX3 yX3_add yX3_add, Cond.code yX3_add cX3_add 1 none, Cond.methodLink RX5 131 yX5_putOffNext, Cond.instanceMethod yX5_putOffNext, Cond.selects RX5 yX5_putOffNext yX5_putOffNext, Cond.code yX5_putOffNext cX5_putOffNext 4 none, Cond.constantLong RX5 139 (100000000), Cond.methodLink RX5 135 yX0_gain, Cond.instanceMethod yX0_gain, Cond.selects RX0 yX0_gain yX0_gain]
def wsX5_sendAll_r5 : List Cond := [Cond.initialized RX0, Cond.code yX0_gain cX0_gain 1 (some .int), Cond.fieldLink RX0 9 "ModelSender$Course" "state" "I", Cond.fieldLink RX0 25 "ModelSender$Course" "phase" "I"]
def wsX5_sendAll : List Cond := .code yX5_sendAll cX5_sendAll 7 none :: ((wsX5_sendAll_r1 ++ (wsX5_sendAll_r2 ++ (wsX5_sendAll_r3 ++ (wsX5_sendAll_r4 ++ wsX5_sendAll_r5)))) ++ wsX50 ++ wsX30 ++ wsX00 ++ wsX20 ++ wsX10)
def wsX5_learnRate_r1 : List Cond := [Cond.fieldLink RX5 78 "ModelSender$Sender" "delivered" "I", Cond.fieldLink RX5 110 "ModelSender$Letter" "delivered" "I", Cond.fieldLink RX5 111 "ModelSender$Letter" "at" "I", Cond.methodLink RX5 84 Lib.Math.max.name, Cond.static Lib.Math.max.name, Cond.initialized "java/lang/Math", Cond.code Lib.Math.max.name Lib.Math.max.code 2 (some .int), Cond.fieldLink RX5 112 "ModelSender$Letter" "limited" "Z", Cond.fieldLink RX5 36 "ModelSender$Sender" "best" "I", Cond.fieldLink RX5 21 "ModelSender$Sender" "samples" "LModelSender$Samples;", Cond.fieldLink RX5 157 "ModelSender$Sender" "rounds" "I", Cond.methodLink RX5 173 yX4_keep, Cond.instanceMethod yX4_keep, Cond.selects RX4 yX4_keep yX4_keep, Cond.initialized RX4, Cond.code yX4_keep cX4_keep 5 none, Cond.fieldLink RX4 35 "ModelSender$Samples" "count" "I", Cond.fieldLink RX4 9 "ModelSender$Samples" "rates" "[I", Cond.fieldLink RX4 15 "ModelSender$Samples" "counts" "[I", Cond.fieldLink RX4 18 "ModelSender$Samples" "greatest" "[I", Cond.methodLink RX4 38 Lib.Math.max.name, Cond.methodLink RX4 27 yX4_ringPlace, Cond.instanceMethod yX4_ringPlace, Cond.selects RX4 yX4_ringPlace yX4_ringPlace]
def wsX5_learnRate_r2 : List Cond := [Cond.code yX4_ringPlace cX4_ringPlace 3 (some .int), Cond.fieldLink RX4 31 "ModelSender$Samples" "first" "I", Cond.methodLink RX4 21 yJ9_floorMod_7cf53, Cond.static yJ9_floorMod_7cf53, Cond.initialized RJ9, Cond.code yJ9_floorMod_7cf53 cJ9_floorMod_7cf53 3 (some .int), Cond.methodLink RX5 177 yX4_greatestOfAll, Cond.instanceMethod yX4_greatestOfAll, Cond.selects RX4 yX4_greatestOfAll yX4_greatestOfAll, Cond.code yX4_greatestOfAll cX4_greatestOfAll 3 (some .int)]
def wsX5_learnRate : List Cond := .code yX5_learnRate cX5_learnRate 4 none :: ((wsX5_learnRate_r1 ++ wsX5_learnRate_r2) ++ wsX50 ++ wsX20 ++ wsX40)
def wsX5_take_r1 : List Cond := [Cond.fieldLink RX5 78 "ModelSender$Sender" "delivered" "I", Cond.fieldLink RX5 98 "ModelSender$Sender" "at" "I", Cond.fieldLink RX5 87 "ModelSender$Sender" "limit" "I", Cond.fieldLink RX5 110 "ModelSender$Letter" "delivered" "I", Cond.fieldLink RX5 154 "ModelSender$Sender" "mark" "I", Cond.fieldLink RX5 157 "ModelSender$Sender" "rounds" "I", Cond.fieldLink RX5 21 "ModelSender$Sender" "samples" "LModelSender$Samples;", Cond.fieldLink RX5 32 "ModelSender$Sender" "least" "I", Cond.fieldLink RX5 166 "ModelSender$Sender" "leastAt" "I", Cond.fieldLink RX5 109 "ModelSender$Letter" "sent" "I", Cond.fieldLink RX5 28 "ModelSender$Sender" "course" "LModelSender$Course;", Cond.fieldLink RX5 112 "ModelSender$Letter" "limited" "Z", Cond.methodLink RX5 160 yX4_beginRound, Cond.instanceMethod yX4_beginRound, Cond.selects RX4 yX4_beginRound yX4_beginRound, Cond.initialized RX4, Cond.code yX4_beginRound cX4_beginRound 3 none, Cond.fieldLink RX4 15 "ModelSender$Samples" "counts" "[I", Cond.fieldLink RX4 31 "ModelSender$Samples" "first" "I", Cond.fieldLink RX4 35 "ModelSender$Samples" "count" "I", Cond.fieldLink RX4 18 "ModelSender$Samples" "greatest" "[I", Cond.methodLink RX4 21 yJ9_floorMod_7cf53, Cond.static yJ9_floorMod_7cf53, Cond.initialized RJ9]
def wsX5_take_r2 : List Cond := [Cond.code yJ9_floorMod_7cf53 cJ9_floorMod_7cf53 3 (some .int), Cond.methodLink RX4 27 yX4_ringPlace, Cond.instanceMethod yX4_ringPlace, Cond.selects RX4 yX4_ringPlace yX4_ringPlace, Cond.code yX4_ringPlace cX4_ringPlace 3 (some .int), Cond.fieldLink RX4 9 "ModelSender$Samples" "rates" "[I", Cond.methodLink RX5 163 yX5_learnRate, Cond.instanceMethod yX5_learnRate, Cond.selects RX5 yX5_learnRate yX5_learnRate, Cond.initialized RX5, Cond.code yX5_learnRate cX5_learnRate 4 none, Cond.fieldLink RX5 111 "ModelSender$Letter" "at" "I", Cond.methodLink RX5 84 Lib.Math.max.name, Cond.static Lib.Math.max.name, Cond.initialized "java/lang/Math", Cond.code Lib.Math.max.name Lib.Math.max.code 2 (some .int), Cond.fieldLink RX5 36 "ModelSender$Sender" "best" "I", Cond.methodLink RX5 173 yX4_keep, Cond.instanceMethod yX4_keep, Cond.selects RX4 yX4_keep yX4_keep, Cond.code yX4_keep cX4_keep 5 none, Cond.methodLink RX4 38 Lib.Math.max.name, Cond.methodLink RX5 177 yX4_greatestOfAll, Cond.instanceMethod yX4_greatestOfAll]
def wsX5_take_r3 : List Cond := [Cond.selects RX4 yX4_greatestOfAll yX4_greatestOfAll, Cond.code yX4_greatestOfAll cX4_greatestOfAll 3 (some .int), Cond.methodLink RX5 169 yX0_follow, Cond.instanceMethod yX0_follow, Cond.selects RX0 yX0_follow yX0_follow, Cond.initialized RX0, Cond.code yX0_follow cX0_follow 5 none, Cond.fieldLink RX0 9 "ModelSender$Course" "state" "I", Cond.fieldLink RX0 31 "ModelSender$Sender" "best" "I", Cond.fieldLink RX0 40 "ModelSender$Course" "full" "Z", Cond.fieldLink RX0 48 "ModelSender$Sender" "onWay" "LModelSender$OnWay;", Cond.fieldLink RX0 52 "ModelSender$OnWay" "count" "I", Cond.fieldLink RX0 25 "ModelSender$Course" "phase" "I", Cond.fieldLink RX0 15 "ModelSender$Course" "end" "I", Cond.methodLink RX0 36 yX0_watchTop, Cond.instanceMethod yX0_watchTop, Cond.selects RX0 yX0_watchTop yX0_watchTop, Cond.code yX0_watchTop cX0_watchTop 2 none, Cond.constantLong RX0 76 (100), Cond.constantLong RX0 78 (125), Cond.fieldLink RX0 80 "ModelSender$Course" "top" "I", Cond.fieldLink RX0 83 "ModelSender$Course" "flat" "I", Cond.methodLink RX0 44 yX0_enter, Cond.instanceMethod yX0_enter]
def wsX5_take_r4 : List Cond := [Cond.selects RX0 yX0_enter yX0_enter, Cond.code yX0_enter cX0_enter 4 none, Cond.fieldLink RX0 105 "ModelSender$Course" "turns" "I", Cond.fieldLink RX0 18 "ModelSender$Course" "turnTicks" "[I", Cond.fieldLink RX0 22 "ModelSender$Course" "turnStates" "[I", Cond.methodLink RX0 108 yJ9_floorMod_7cf53, Cond.methodLink RX0 57 yX5_product, Cond.instanceMethod yX5_product, Cond.selects RX5 yX5_product yX5_product, Cond.code yX5_product cX5_product 1 (some .long), Cond.constantLong RX5 39 (1000), Cond.methodLink RX0 61 yX0_enterCruise, Cond.instanceMethod yX0_enterCruise, Cond.selects RX0 yX0_enterCruise yX0_enterCruise, Cond.code yX0_enterCruise cX0_enterCruise 3 none, Cond.methodLink RX0 69 yX0_beginPhase, Cond.instanceMethod yX0_beginPhase, Cond.selects RX0 yX0_beginPhase yX0_beginPhase, Cond.code yX0_beginPhase cX0_beginPhase 4 none, Cond.fieldLink RX0 86 "ModelSender$Course" "since" "I", Cond.fieldLink RX0 92 "ModelSender$Sender" "losses" "I", Cond.fieldLink RX0 95 "ModelSender$Course" "lossesBefore" "I", Cond.methodLink RX0 65 yX0_phaseIsOver, Cond.instanceMethod yX0_phaseIsOver]
def wsX5_take_r5 : List Cond := [Cond.selects RX0 yX0_phaseIsOver yX0_phaseIsOver, Cond.code yX0_phaseIsOver cX0_phaseIsOver 6 (some .boolean), Cond.fieldLink RX0 89 "ModelSender$Sender" "least" "I", Cond.constantLong RX0 98 (4), Cond.constantLong RX0 100 (5), Cond.methodLink RX0 73 yX0_probe, Cond.instanceMethod yX0_probe, Cond.selects RX0 yX0_probe yX0_probe, Cond.code yX0_probe cX0_probe 3 none, Cond.fieldLink RX0 102 "ModelSender$Sender" "leastAt" "I"]
def wsX5_take : List Cond := .code yX5_take cX5_take 6 none :: ((wsX5_take_r1 ++ (wsX5_take_r2 ++ (wsX5_take_r3 ++ (wsX5_take_r4 ++ wsX5_take_r5)))) ++ wsX50 ++ wsX20 ++ wsX40 ++ wsX00 ++ wsX30)
def wsX5_takeDue_r1 : List Cond := [Cond.fieldLink RX5 78 "ModelSender$Sender" "delivered" "I", Cond.fieldLink RX5 12 "ModelSender$Sender" "onWay" "LModelSender$OnWay;", Cond.fieldLink RX5 116 "ModelSender$Letter" "hasLeft" "Z", Cond.fieldLink RX5 144 "ModelSender$Letter" "due" "I", Cond.methodLink RX5 141 yX3_at, Cond.instanceMethod yX3_at, Cond.selects RX3 yX3_at yX3_at, Cond.initialized RX3, Cond.code yX3_at cX3_at 2 (some (.object "ModelSender$Letter")), Cond.fieldLink RX3 17 "ModelSender$OnWay" "count" "I", Cond.fieldLink RX3 11 "ModelSender$OnWay" "letters" "[LModelSender$Letter;", Cond.methodLink RX5 147 yX3_remove, Cond.instanceMethod yX3_remove, Cond.selects RX3 yX3_remove yX3_remove, Cond.code yX3_remove cX3_remove 4 none, Cond.methodLink RX3 24 yX3_at, Cond.methodLink RX5 150 yX5_take, Cond.instanceMethod yX5_take, Cond.selects RX5 yX5_take yX5_take, Cond.initialized RX5, Cond.code yX5_take cX5_take 6 none, Cond.fieldLink RX5 98 "ModelSender$Sender" "at" "I", Cond.fieldLink RX5 87 "ModelSender$Sender" "limit" "I", Cond.fieldLink RX5 110 "ModelSender$Letter" "delivered" "I"]
def wsX5_takeDue_r2 : List Cond := [Cond.fieldLink RX5 154 "ModelSender$Sender" "mark" "I", Cond.fieldLink RX5 157 "ModelSender$Sender" "rounds" "I", Cond.fieldLink RX5 21 "ModelSender$Sender" "samples" "LModelSender$Samples;", Cond.fieldLink RX5 32 "ModelSender$Sender" "least" "I", Cond.fieldLink RX5 166 "ModelSender$Sender" "leastAt" "I", Cond.fieldLink RX5 109 "ModelSender$Letter" "sent" "I", Cond.fieldLink RX5 28 "ModelSender$Sender" "course" "LModelSender$Course;", Cond.fieldLink RX5 112 "ModelSender$Letter" "limited" "Z", Cond.methodLink RX5 160 yX4_beginRound, Cond.instanceMethod yX4_beginRound, Cond.selects RX4 yX4_beginRound yX4_beginRound, Cond.initialized RX4, Cond.code yX4_beginRound cX4_beginRound 3 none, Cond.fieldLink RX4 15 "ModelSender$Samples" "counts" "[I", Cond.fieldLink RX4 31 "ModelSender$Samples" "first" "I", Cond.fieldLink RX4 35 "ModelSender$Samples" "count" "I", Cond.fieldLink RX4 18 "ModelSender$Samples" "greatest" "[I", Cond.methodLink RX4 21 yJ9_floorMod_7cf53, Cond.static yJ9_floorMod_7cf53, Cond.initialized RJ9, Cond.code yJ9_floorMod_7cf53 cJ9_floorMod_7cf53 3 (some .int), Cond.methodLink RX4 27 yX4_ringPlace, Cond.instanceMethod yX4_ringPlace, Cond.selects RX4 yX4_ringPlace yX4_ringPlace]
def wsX5_takeDue_r3 : List Cond := [Cond.code yX4_ringPlace cX4_ringPlace 3 (some .int), Cond.fieldLink RX4 9 "ModelSender$Samples" "rates" "[I", Cond.methodLink RX5 163 yX5_learnRate, Cond.instanceMethod yX5_learnRate, Cond.selects RX5 yX5_learnRate yX5_learnRate, Cond.code yX5_learnRate cX5_learnRate 4 none, Cond.fieldLink RX5 111 "ModelSender$Letter" "at" "I", Cond.methodLink RX5 84 Lib.Math.max.name, Cond.static Lib.Math.max.name, Cond.initialized "java/lang/Math", Cond.code Lib.Math.max.name Lib.Math.max.code 2 (some .int), Cond.fieldLink RX5 36 "ModelSender$Sender" "best" "I", Cond.methodLink RX5 173 yX4_keep, Cond.instanceMethod yX4_keep, Cond.selects RX4 yX4_keep yX4_keep, Cond.code yX4_keep cX4_keep 5 none, Cond.methodLink RX4 38 Lib.Math.max.name, Cond.methodLink RX5 177 yX4_greatestOfAll, Cond.instanceMethod yX4_greatestOfAll, Cond.selects RX4 yX4_greatestOfAll yX4_greatestOfAll, Cond.code yX4_greatestOfAll cX4_greatestOfAll 3 (some .int), Cond.methodLink RX5 169 yX0_follow, Cond.instanceMethod yX0_follow, Cond.selects RX0 yX0_follow yX0_follow]
def wsX5_takeDue_r4 : List Cond := [Cond.initialized RX0, Cond.code yX0_follow cX0_follow 5 none, Cond.fieldLink RX0 9 "ModelSender$Course" "state" "I", Cond.fieldLink RX0 31 "ModelSender$Sender" "best" "I", Cond.fieldLink RX0 40 "ModelSender$Course" "full" "Z", Cond.fieldLink RX0 48 "ModelSender$Sender" "onWay" "LModelSender$OnWay;", Cond.fieldLink RX0 52 "ModelSender$OnWay" "count" "I", Cond.fieldLink RX0 25 "ModelSender$Course" "phase" "I", Cond.fieldLink RX0 15 "ModelSender$Course" "end" "I", Cond.methodLink RX0 36 yX0_watchTop, Cond.instanceMethod yX0_watchTop, Cond.selects RX0 yX0_watchTop yX0_watchTop, Cond.code yX0_watchTop cX0_watchTop 2 none, Cond.constantLong RX0 76 (100), Cond.constantLong RX0 78 (125), Cond.fieldLink RX0 80 "ModelSender$Course" "top" "I", Cond.fieldLink RX0 83 "ModelSender$Course" "flat" "I", Cond.methodLink RX0 44 yX0_enter, Cond.instanceMethod yX0_enter, Cond.selects RX0 yX0_enter yX0_enter, Cond.code yX0_enter cX0_enter 4 none, Cond.fieldLink RX0 105 "ModelSender$Course" "turns" "I", Cond.fieldLink RX0 18 "ModelSender$Course" "turnTicks" "[I", Cond.fieldLink RX0 22 "ModelSender$Course" "turnStates" "[I"]
def wsX5_takeDue_r5 : List Cond := [Cond.methodLink RX0 108 yJ9_floorMod_7cf53, Cond.methodLink RX0 57 yX5_product, Cond.instanceMethod yX5_product, Cond.selects RX5 yX5_product yX5_product, Cond.code yX5_product cX5_product 1 (some .long), Cond.constantLong RX5 39 (1000), Cond.methodLink RX0 61 yX0_enterCruise, Cond.instanceMethod yX0_enterCruise, Cond.selects RX0 yX0_enterCruise yX0_enterCruise, Cond.code yX0_enterCruise cX0_enterCruise 3 none, Cond.methodLink RX0 69 yX0_beginPhase, Cond.instanceMethod yX0_beginPhase, Cond.selects RX0 yX0_beginPhase yX0_beginPhase, Cond.code yX0_beginPhase cX0_beginPhase 4 none, Cond.fieldLink RX0 86 "ModelSender$Course" "since" "I", Cond.fieldLink RX0 92 "ModelSender$Sender" "losses" "I", Cond.fieldLink RX0 95 "ModelSender$Course" "lossesBefore" "I", Cond.methodLink RX0 65 yX0_phaseIsOver, Cond.instanceMethod yX0_phaseIsOver, Cond.selects RX0 yX0_phaseIsOver yX0_phaseIsOver, Cond.code yX0_phaseIsOver cX0_phaseIsOver 6 (some .boolean), Cond.fieldLink RX0 89 "ModelSender$Sender" "least" "I", Cond.constantLong RX0 98 (4), Cond.constantLong RX0 100 (5)]
def wsX5_takeDue_r6 : List Cond := [Cond.methodLink RX0 73 yX0_probe, Cond.instanceMethod yX0_probe, Cond.selects RX0 yX0_probe yX0_probe, Cond.code yX0_probe cX0_probe 3 none, Cond.fieldLink RX0 102 "ModelSender$Sender" "leastAt" "I"]
def wsX5_takeDue : List Cond := .code yX5_takeDue cX5_takeDue 6 (some .int) :: ((wsX5_takeDue_r1 ++ (wsX5_takeDue_r2 ++ (wsX5_takeDue_r3 ++ (wsX5_takeDue_r4 ++ (wsX5_takeDue_r5 ++ wsX5_takeDue_r6))))) ++ wsX50 ++ wsX20 ++ wsX30 ++ wsX40 ++ wsX00)
def wsX6_init_r1 : List Cond := [Cond.methodLink RX6 5 objectInit, Cond.instanceMethod objectInit, Cond.code objectInit ⟨#[0xb1]⟩ 1 none, Cond.classLink RX6 11 RX1, Cond.instantiable RX1 12, Cond.initialized RX1, Cond.fieldLink RX6 14 "ModelSender" "way" "LModelSender$Gate;", Cond.classLink RX6 18 RX5, Cond.instantiable RX5 16, Cond.initialized RX5, Cond.fieldLink RX6 21 "ModelSender" "zero" "LModelSender$Sender;", Cond.fieldLink RX6 25 "ModelSender" "one" "LModelSender$Sender;", Cond.instanceMethod yX1_init, Cond.code yX1_init cX1_init 1 none, Cond.methodLink RX1 3 objectInit, Cond.fieldLink RX1 9 "ModelSender$Gate" "service" "I", Cond.fieldLink RX1 15 "ModelSender$Gate" "room" "I", Cond.fieldLink RX1 18 "ModelSender$Gate" "delay" "I", Cond.classLink RX1 21 RX2, Cond.fieldLink RX1 23 "ModelSender$Gate" "line" "[LModelSender$Letter;", Cond.instantiable RX2 8, Cond.initialized RX2, Cond.fieldLink RX1 30 "ModelSender$Gate" "guest" "LModelSender$Letter;", Cond.methodLink RX1 27 yX2_init]
def wsX6_init_r2 : List Cond := [Cond.instanceMethod yX2_init, Cond.code yX2_init cX2_init 2 none, Cond.methodLink RX2 1 objectInit, Cond.fieldLink RX2 7 "ModelSender$Letter" "owner" "LModelSender$Sender;", Cond.instanceMethod yX5_init, Cond.code yX5_init cX5_init 1 none, Cond.methodLink RX5 3 objectInit, Cond.classLink RX5 9 RX3, Cond.instantiable RX3 2, Cond.initialized RX3, Cond.fieldLink RX5 12 "ModelSender$Sender" "onWay" "LModelSender$OnWay;", Cond.classLink RX5 18 RX4, Cond.instantiable RX4 5, Cond.initialized RX4, Cond.fieldLink RX5 21 "ModelSender$Sender" "samples" "LModelSender$Samples;", Cond.classLink RX5 25 RX0, Cond.instantiable RX0 11, Cond.initialized RX0, Cond.fieldLink RX5 28 "ModelSender$Sender" "course" "LModelSender$Course;", Cond.fieldLink RX5 32 "ModelSender$Sender" "least" "I", Cond.instanceMethod yX3_init, Cond.code yX3_init cX3_init 1 none, Cond.methodLink RX3 3 objectInit, Cond.classLink RX3 9 RX2]
def wsX6_init_r3 : List Cond := [Cond.fieldLink RX3 11 "ModelSender$OnWay" "letters" "[LModelSender$Letter;", Cond.instanceMethod yX4_init, Cond.code yX4_init cX4_init 1 none, Cond.methodLink RX4 3 objectInit, Cond.arrayClass .int, Cond.fieldLink RX4 9 "ModelSender$Samples" "rates" "[I", Cond.fieldLink RX4 15 "ModelSender$Samples" "counts" "[I", Cond.fieldLink RX4 18 "ModelSender$Samples" "greatest" "[I", Cond.instanceMethod yX0_init, Cond.code yX0_init cX0_init 1 none, Cond.methodLink RX0 3 objectInit, Cond.fieldLink RX0 9 "ModelSender$Course" "state" "I", Cond.fieldLink RX0 15 "ModelSender$Course" "end" "I", Cond.fieldLink RX0 18 "ModelSender$Course" "turnTicks" "[I", Cond.fieldLink RX0 22 "ModelSender$Course" "turnStates" "[I"]
def wsX6_init : List Cond := .code yX6_init cX6_init 1 none :: ((wsX6_init_r1 ++ (wsX6_init_r2 ++ wsX6_init_r3)) ++ wsX10 ++ wsX60 ++ wsX50 ++ wsX20 ++ wsX30 ++ wsX40 ++ wsX00)
def wsX6_within : List Cond := .code yX6_within cX6_within 3 (some .boolean) :: ([])
def wsX6_gate : List Cond := .code yX6_gate cX6_gate 4 (some .int) :: ([.fieldLink RX6 14 "ModelSender" "way" "LModelSender$Gate;", .fieldLink RX6 32 "ModelSender$Gate" "service" "I", .fieldLink RX6 36 "ModelSender$Gate" "room" "I", .fieldLink RX6 39 "ModelSender$Gate" "delay" "I", .methodLink RX6 28 yX6_within, .static yX6_within, .initialized RX6, .code yX6_within cX6_within 3 (some .boolean)] ++ wsX60 ++ wsX10)
def wsX6_guests : List Cond := .code yX6_guests cX6_guests 3 (some .int) :: ([.fieldLink RX6 42 "ModelSender" "every" "I", .methodLink RX6 28 yX6_within, .static yX6_within, .initialized RX6, .code yX6_within cX6_within 3 (some .boolean)] ++ wsX60)
def wsX6_senderOf : List Cond := .code yX6_senderOf cX6_senderOf 2 (some (.object "ModelSender$Sender")) :: ([.fieldLink RX6 21 "ModelSender" "zero" "LModelSender$Sender;", .fieldLink RX6 25 "ModelSender" "one" "LModelSender$Sender;"] ++ wsX60)
def wsX6_stock : List Cond := .code yX6_stock cX6_stock 4 (some .int) :: ([.fieldLink RX6 49 "ModelSender$Sender" "stock" "I", .constant RX6 52 (100000), .methodLink RX6 45 yX6_senderOf, .instanceMethod yX6_senderOf, .selects RX6 yX6_senderOf yX6_senderOf, .initialized RX6, .code yX6_senderOf cX6_senderOf 2 (some (.object "ModelSender$Sender")), .fieldLink RX6 21 "ModelSender" "zero" "LModelSender$Sender;", .fieldLink RX6 25 "ModelSender" "one" "LModelSender$Sender;", .methodLink RX6 28 yX6_within, .static yX6_within, .code yX6_within cX6_within 3 (some .boolean)] ++ wsX50 ++ wsX60)
def wsX6_runTick_r1 : List Cond := [Cond.fieldLink RX6 21 "ModelSender" "zero" "LModelSender$Sender;", Cond.fieldLink RX6 85 "ModelSender" "now" "I", Cond.fieldLink RX6 25 "ModelSender" "one" "LModelSender$Sender;", Cond.fieldLink RX6 14 "ModelSender" "way" "LModelSender$Gate;", Cond.fieldLink RX6 42 "ModelSender" "every" "I", Cond.fieldLink RX6 60 "ModelSender$Gate" "served" "LModelSender$Letter;", Cond.fieldLink RX6 82 "ModelSender" "busyTicks" "I", Cond.methodLink RX6 220 yX5_takeDue, Cond.instanceMethod yX5_takeDue, Cond.selects RX5 yX5_takeDue yX5_takeDue, Cond.initialized RX5, Cond.code yX5_takeDue cX5_takeDue 6 (some .int), Cond.fieldLink RX5 78 "ModelSender$Sender" "delivered" "I", Cond.fieldLink RX5 12 "ModelSender$Sender" "onWay" "LModelSender$OnWay;", Cond.fieldLink RX5 116 "ModelSender$Letter" "hasLeft" "Z", Cond.fieldLink RX5 144 "ModelSender$Letter" "due" "I", Cond.methodLink RX5 141 yX3_at, Cond.instanceMethod yX3_at, Cond.selects RX3 yX3_at yX3_at, Cond.initialized RX3, Cond.code yX3_at cX3_at 2 (some (.object "ModelSender$Letter")), Cond.fieldLink RX3 17 "ModelSender$OnWay" "count" "I", Cond.fieldLink RX3 11 "ModelSender$OnWay" "letters" "[LModelSender$Letter;", Cond.methodLink RX5 147 yX3_remove]
def wsX6_runTick_r2 : List Cond := [Cond.instanceMethod yX3_remove, Cond.selects RX3 yX3_remove yX3_remove, Cond.code yX3_remove cX3_remove 4 none, Cond.methodLink RX3 24 yX3_at, Cond.methodLink RX5 150 yX5_take, Cond.instanceMethod yX5_take, Cond.selects RX5 yX5_take yX5_take, Cond.code yX5_take cX5_take 6 none, Cond.fieldLink RX5 98 "ModelSender$Sender" "at" "I", Cond.fieldLink RX5 87 "ModelSender$Sender" "limit" "I", Cond.fieldLink RX5 110 "ModelSender$Letter" "delivered" "I", Cond.fieldLink RX5 154 "ModelSender$Sender" "mark" "I", Cond.fieldLink RX5 157 "ModelSender$Sender" "rounds" "I", Cond.fieldLink RX5 21 "ModelSender$Sender" "samples" "LModelSender$Samples;", Cond.fieldLink RX5 32 "ModelSender$Sender" "least" "I", Cond.fieldLink RX5 166 "ModelSender$Sender" "leastAt" "I", Cond.fieldLink RX5 109 "ModelSender$Letter" "sent" "I", Cond.fieldLink RX5 28 "ModelSender$Sender" "course" "LModelSender$Course;", Cond.fieldLink RX5 112 "ModelSender$Letter" "limited" "Z", Cond.methodLink RX5 160 yX4_beginRound, Cond.instanceMethod yX4_beginRound, Cond.selects RX4 yX4_beginRound yX4_beginRound, Cond.initialized RX4, Cond.code yX4_beginRound cX4_beginRound 3 none]
def wsX6_runTick_r3 : List Cond := [Cond.fieldLink RX4 15 "ModelSender$Samples" "counts" "[I", Cond.fieldLink RX4 31 "ModelSender$Samples" "first" "I", Cond.fieldLink RX4 35 "ModelSender$Samples" "count" "I", Cond.fieldLink RX4 18 "ModelSender$Samples" "greatest" "[I", Cond.methodLink RX4 21 yJ9_floorMod_7cf53, Cond.static yJ9_floorMod_7cf53, Cond.initialized RJ9, Cond.code yJ9_floorMod_7cf53 cJ9_floorMod_7cf53 3 (some .int), Cond.methodLink RX4 27 yX4_ringPlace, Cond.instanceMethod yX4_ringPlace, Cond.selects RX4 yX4_ringPlace yX4_ringPlace, Cond.code yX4_ringPlace cX4_ringPlace 3 (some .int), Cond.fieldLink RX4 9 "ModelSender$Samples" "rates" "[I", Cond.methodLink RX5 163 yX5_learnRate, Cond.instanceMethod yX5_learnRate, Cond.selects RX5 yX5_learnRate yX5_learnRate, Cond.code yX5_learnRate cX5_learnRate 4 none, Cond.fieldLink RX5 111 "ModelSender$Letter" "at" "I", Cond.methodLink RX5 84 Lib.Math.max.name, Cond.static Lib.Math.max.name, Cond.initialized "java/lang/Math", Cond.code Lib.Math.max.name Lib.Math.max.code 2 (some .int), Cond.fieldLink RX5 36 "ModelSender$Sender" "best" "I", Cond.methodLink RX5 173 yX4_keep]
def wsX6_runTick_r4 : List Cond := [Cond.instanceMethod yX4_keep, Cond.selects RX4 yX4_keep yX4_keep, Cond.code yX4_keep cX4_keep 5 none, Cond.methodLink RX4 38 Lib.Math.max.name, Cond.methodLink RX5 177 yX4_greatestOfAll, Cond.instanceMethod yX4_greatestOfAll, Cond.selects RX4 yX4_greatestOfAll yX4_greatestOfAll, Cond.code yX4_greatestOfAll cX4_greatestOfAll 3 (some .int), Cond.methodLink RX5 169 yX0_follow, Cond.instanceMethod yX0_follow, Cond.selects RX0 yX0_follow yX0_follow, Cond.initialized RX0, Cond.code yX0_follow cX0_follow 5 none, Cond.fieldLink RX0 9 "ModelSender$Course" "state" "I", Cond.fieldLink RX0 31 "ModelSender$Sender" "best" "I", Cond.fieldLink RX0 40 "ModelSender$Course" "full" "Z", Cond.fieldLink RX0 48 "ModelSender$Sender" "onWay" "LModelSender$OnWay;", Cond.fieldLink RX0 52 "ModelSender$OnWay" "count" "I", Cond.fieldLink RX0 25 "ModelSender$Course" "phase" "I", Cond.fieldLink RX0 15 "ModelSender$Course" "end" "I", Cond.methodLink RX0 36 yX0_watchTop, Cond.instanceMethod yX0_watchTop, Cond.selects RX0 yX0_watchTop yX0_watchTop, Cond.code yX0_watchTop cX0_watchTop 2 none]
def wsX6_runTick_r5 : List Cond := [Cond.constantLong RX0 76 (100), Cond.constantLong RX0 78 (125), Cond.fieldLink RX0 80 "ModelSender$Course" "top" "I", Cond.fieldLink RX0 83 "ModelSender$Course" "flat" "I", Cond.methodLink RX0 44 yX0_enter, Cond.instanceMethod yX0_enter, Cond.selects RX0 yX0_enter yX0_enter, Cond.code yX0_enter cX0_enter 4 none, Cond.fieldLink RX0 105 "ModelSender$Course" "turns" "I", Cond.fieldLink RX0 18 "ModelSender$Course" "turnTicks" "[I", Cond.fieldLink RX0 22 "ModelSender$Course" "turnStates" "[I", Cond.methodLink RX0 108 yJ9_floorMod_7cf53, Cond.methodLink RX0 57 yX5_product, Cond.instanceMethod yX5_product, Cond.selects RX5 yX5_product yX5_product, Cond.code yX5_product cX5_product 1 (some .long), Cond.constantLong RX5 39 (1000), Cond.methodLink RX0 61 yX0_enterCruise, Cond.instanceMethod yX0_enterCruise, Cond.selects RX0 yX0_enterCruise yX0_enterCruise, Cond.code yX0_enterCruise cX0_enterCruise 3 none, Cond.methodLink RX0 69 yX0_beginPhase, Cond.instanceMethod yX0_beginPhase, Cond.selects RX0 yX0_beginPhase yX0_beginPhase]
def wsX6_runTick_r6 : List Cond := [Cond.code yX0_beginPhase cX0_beginPhase 4 none, Cond.fieldLink RX0 86 "ModelSender$Course" "since" "I", Cond.fieldLink RX0 92 "ModelSender$Sender" "losses" "I", Cond.fieldLink RX0 95 "ModelSender$Course" "lossesBefore" "I", Cond.methodLink RX0 65 yX0_phaseIsOver, Cond.instanceMethod yX0_phaseIsOver, Cond.selects RX0 yX0_phaseIsOver yX0_phaseIsOver, Cond.code yX0_phaseIsOver cX0_phaseIsOver 6 (some .boolean), Cond.fieldLink RX0 89 "ModelSender$Sender" "least" "I", Cond.constantLong RX0 98 (4), Cond.constantLong RX0 100 (5), Cond.methodLink RX0 73 yX0_probe, Cond.instanceMethod yX0_probe, Cond.selects RX0 yX0_probe yX0_probe, Cond.code yX0_probe cX0_probe 3 none, Cond.fieldLink RX0 102 "ModelSender$Sender" "leastAt" "I", Cond.methodLink RX6 223 yX1_release, Cond.instanceMethod yX1_release, Cond.selects RX1 yX1_release yX1_release, Cond.initialized RX1, Cond.code yX1_release cX1_release 2 none, Cond.fieldLink RX1 41 "ModelSender$Gate" "served" "LModelSender$Letter;", Cond.fieldLink RX1 63 "ModelSender$Gate" "until" "I", Cond.fieldLink RX1 66 "ModelSender$Letter" "owner" "LModelSender$Sender;"]
def wsX6_runTick_r7 : List Cond := [Cond.fieldLink RX1 70 "ModelSender$Gate" "guestsLeft" "I", Cond.fieldLink RX1 73 "ModelSender$Sender" "left" "I", Cond.fieldLink RX1 78 "ModelSender$Letter" "hasLeft" "Z", Cond.fieldLink RX1 18 "ModelSender$Gate" "delay" "I", Cond.fieldLink RX1 82 "ModelSender$Letter" "due" "I", Cond.methodLink RX1 85 yX1_serveFirstWaiting, Cond.instanceMethod yX1_serveFirstWaiting, Cond.selects RX1 yX1_serveFirstWaiting yX1_serveFirstWaiting, Cond.code yX1_serveFirstWaiting cX1_serveFirstWaiting 2 none, Cond.fieldLink RX1 51 "ModelSender$Gate" "waiting" "I", Cond.fieldLink RX1 48 "ModelSender$Gate" "head" "I", Cond.fieldLink RX1 23 "ModelSender$Gate" "line" "[LModelSender$Letter;", Cond.methodLink RX1 44 yX1_serve, Cond.instanceMethod yX1_serve, Cond.selects RX1 yX1_serve yX1_serve, Cond.code yX1_serve cX1_serve 3 none, Cond.fieldLink RX1 9 "ModelSender$Gate" "service" "I", Cond.methodLink RX6 227 yX1_admitGuest, Cond.instanceMethod yX1_admitGuest, Cond.selects RX1 yX1_admitGuest yX1_admitGuest, Cond.code yX1_admitGuest cX1_admitGuest 2 none, Cond.fieldLink RX1 30 "ModelSender$Gate" "guest" "LModelSender$Letter;", Cond.fieldLink RX1 38 "ModelSender$Gate" "guestsDropped" "I", Cond.methodLink RX1 34 yX1_admit]
def wsX6_runTick_r8 : List Cond := [Cond.instanceMethod yX1_admit, Cond.selects RX1 yX1_admit yX1_admit, Cond.code yX1_admit cX1_admit 4 (some .boolean), Cond.fieldLink RX1 15 "ModelSender$Gate" "room" "I", Cond.fieldLink RX1 54 "ModelSender$Gate" "mostWaiting" "I", Cond.methodLink RX1 57 Lib.Math.max.name, Cond.methodLink RX6 230 yX5_sendAll, Cond.instanceMethod yX5_sendAll, Cond.selects RX5 yX5_sendAll yX5_sendAll, Cond.code yX5_sendAll cX5_sendAll 7 none, Cond.fieldLink RX5 67 "ModelSender$Sender" "stock" "I", Cond.fieldLink RX5 81 "ModelSender$OnWay" "count" "I", Cond.methodLink RX5 64 yX5_window, Cond.instanceMethod yX5_window, Cond.selects RX5 yX5_window yX5_window, Cond.code yX5_window cX5_window 3 (some .long), Cond.fieldLink RX5 41 "ModelSender$Course" "state" "I", Cond.constantLong RX5 44 (4), Cond.constantLong RX5 46 (10), Cond.constantLong RX5 48 (2), Cond.constantLong RX5 54 (289), Cond.constantLong RX5 56 (100), Cond.methodLink RX5 58 Lib.MathLoose.max_long.x, Cond.static Lib.MathLoose.max_long.x]
def wsX6_runTick_r9 : List Cond := [Cond.code Lib.MathLoose.max_long.x Lib.MathLoose.max_long.code 4 (some .long), Cond.methodLink RX5 50 yX5_product, Cond.methodLink RX5 70 yX5_isFree, Cond.instanceMethod yX5_isFree, Cond.selects RX5 yX5_isFree yX5_isFree, Cond.code yX5_isFree cX5_isFree 4 (some .boolean), Cond.fieldLink RX5 90 "ModelSender$Sender" "next" "J", Cond.methodLink RX5 74 yX5_sendOne, Cond.instanceMethod yX5_sendOne, Cond.selects RX5 yX5_sendOne yX5_sendOne, Cond.code yX5_sendOne cX5_sendOne 5 (some .boolean), Cond.fieldLink RX5 101 "ModelSender$Sender" "sent" "I", Cond.fieldLink RX5 104 "ModelSender$Letter" "number" "I", Cond.fieldLink RX5 128 "ModelSender$Sender" "losses" "I", Cond.methodLink RX5 94 yX3_blank, Cond.instanceMethod yX3_blank, Cond.selects RX3 yX3_blank yX3_blank, Cond.code yX3_blank cX3_blank 2 (some (.object "ModelSender$Letter")), Cond.classLink RX3 9 RX2, Cond.instantiable RX2 8, Cond.initialized RX2, Cond.methodLink RX3 21 yX2_init, Cond.instanceMethod yX2_init, Cond.code yX2_init cX2_init 2 none]
def wsX6_runTick_r10 : List Cond := [Cond.methodLink RX2 1 objectInit, Cond.instanceMethod objectInit, Cond.code objectInit ⟨#[0xb1]⟩ 1 none, Cond.fieldLink RX2 7 "ModelSender$Letter" "owner" "LModelSender$Sender;", Cond.methodLink RX5 119 yX1_admit, Cond.methodLink RX5 125 yX3_add, Cond.instanceMethod yX3_add, Cond.selects RX3 yX3_add yX3_add, Cond.code yX3_add cX3_add 1 none, Cond.methodLink RX5 131 yX5_putOffNext, Cond.instanceMethod yX5_putOffNext, Cond.selects RX5 yX5_putOffNext yX5_putOffNext, Cond.code yX5_putOffNext cX5_putOffNext 4 none, Cond.constantLong RX5 139 (100000000), Cond.methodLink RX5 135 yX0_gain, Cond.instanceMethod yX0_gain, Cond.selects RX0 yX0_gain yX0_gain, Cond.code yX0_gain cX0_gain 1 (some .int)]
def wsX6_runTick : List Cond := .code yX6_runTick cX6_runTick 2 (some .int) :: ((wsX6_runTick_r1 ++ (wsX6_runTick_r2 ++ (wsX6_runTick_r3 ++ (wsX6_runTick_r4 ++ (wsX6_runTick_r5 ++ (wsX6_runTick_r6 ++ (wsX6_runTick_r7 ++ (wsX6_runTick_r8 ++ (wsX6_runTick_r9 ++ wsX6_runTick_r10))))))))) ++ wsX60 ++ wsX10 ++ wsX50 ++ wsX20 ++ wsX30 ++ wsX40 ++ wsX00)
def wsX6_pass_r1 : List Cond := [Cond.methodLink RX6 28 yX6_within, Cond.static yX6_within, Cond.initialized RX6, Cond.code yX6_within cX6_within 3 (some .boolean), Cond.methodLink RX6 53 yX6_runTick, Cond.instanceMethod yX6_runTick, Cond.selects RX6 yX6_runTick yX6_runTick, Cond.code yX6_runTick cX6_runTick 2 (some .int), Cond.fieldLink RX6 21 "ModelSender" "zero" "LModelSender$Sender;", Cond.fieldLink RX6 85 "ModelSender" "now" "I", Cond.fieldLink RX6 25 "ModelSender" "one" "LModelSender$Sender;", Cond.fieldLink RX6 14 "ModelSender" "way" "LModelSender$Gate;", Cond.fieldLink RX6 42 "ModelSender" "every" "I", Cond.fieldLink RX6 60 "ModelSender$Gate" "served" "LModelSender$Letter;", Cond.fieldLink RX6 82 "ModelSender" "busyTicks" "I", Cond.methodLink RX6 220 yX5_takeDue, Cond.instanceMethod yX5_takeDue, Cond.selects RX5 yX5_takeDue yX5_takeDue, Cond.initialized RX5, Cond.code yX5_takeDue cX5_takeDue 6 (some .int), Cond.fieldLink RX5 78 "ModelSender$Sender" "delivered" "I", Cond.fieldLink RX5 12 "ModelSender$Sender" "onWay" "LModelSender$OnWay;", Cond.fieldLink RX5 116 "ModelSender$Letter" "hasLeft" "Z", Cond.fieldLink RX5 144 "ModelSender$Letter" "due" "I"]
def wsX6_pass_r2 : List Cond := [Cond.methodLink RX5 141 yX3_at, Cond.instanceMethod yX3_at, Cond.selects RX3 yX3_at yX3_at, Cond.initialized RX3, Cond.code yX3_at cX3_at 2 (some (.object "ModelSender$Letter")), Cond.fieldLink RX3 17 "ModelSender$OnWay" "count" "I", Cond.fieldLink RX3 11 "ModelSender$OnWay" "letters" "[LModelSender$Letter;", Cond.methodLink RX5 147 yX3_remove, Cond.instanceMethod yX3_remove, Cond.selects RX3 yX3_remove yX3_remove, Cond.code yX3_remove cX3_remove 4 none, Cond.methodLink RX3 24 yX3_at, Cond.methodLink RX5 150 yX5_take, Cond.instanceMethod yX5_take, Cond.selects RX5 yX5_take yX5_take, Cond.code yX5_take cX5_take 6 none, Cond.fieldLink RX5 98 "ModelSender$Sender" "at" "I", Cond.fieldLink RX5 87 "ModelSender$Sender" "limit" "I", Cond.fieldLink RX5 110 "ModelSender$Letter" "delivered" "I", Cond.fieldLink RX5 154 "ModelSender$Sender" "mark" "I", Cond.fieldLink RX5 157 "ModelSender$Sender" "rounds" "I", Cond.fieldLink RX5 21 "ModelSender$Sender" "samples" "LModelSender$Samples;", Cond.fieldLink RX5 32 "ModelSender$Sender" "least" "I", Cond.fieldLink RX5 166 "ModelSender$Sender" "leastAt" "I"]
def wsX6_pass_r3 : List Cond := [Cond.fieldLink RX5 109 "ModelSender$Letter" "sent" "I", Cond.fieldLink RX5 28 "ModelSender$Sender" "course" "LModelSender$Course;", Cond.fieldLink RX5 112 "ModelSender$Letter" "limited" "Z", Cond.methodLink RX5 160 yX4_beginRound, Cond.instanceMethod yX4_beginRound, Cond.selects RX4 yX4_beginRound yX4_beginRound, Cond.initialized RX4, Cond.code yX4_beginRound cX4_beginRound 3 none, Cond.fieldLink RX4 15 "ModelSender$Samples" "counts" "[I", Cond.fieldLink RX4 31 "ModelSender$Samples" "first" "I", Cond.fieldLink RX4 35 "ModelSender$Samples" "count" "I", Cond.fieldLink RX4 18 "ModelSender$Samples" "greatest" "[I", Cond.methodLink RX4 21 yJ9_floorMod_7cf53, Cond.static yJ9_floorMod_7cf53, Cond.initialized RJ9, Cond.code yJ9_floorMod_7cf53 cJ9_floorMod_7cf53 3 (some .int), Cond.methodLink RX4 27 yX4_ringPlace, Cond.instanceMethod yX4_ringPlace, Cond.selects RX4 yX4_ringPlace yX4_ringPlace, Cond.code yX4_ringPlace cX4_ringPlace 3 (some .int), Cond.fieldLink RX4 9 "ModelSender$Samples" "rates" "[I", Cond.methodLink RX5 163 yX5_learnRate, Cond.instanceMethod yX5_learnRate, Cond.selects RX5 yX5_learnRate yX5_learnRate]
def wsX6_pass_r4 : List Cond := [Cond.code yX5_learnRate cX5_learnRate 4 none, Cond.fieldLink RX5 111 "ModelSender$Letter" "at" "I", Cond.methodLink RX5 84 Lib.Math.max.name, Cond.static Lib.Math.max.name, Cond.initialized "java/lang/Math", Cond.code Lib.Math.max.name Lib.Math.max.code 2 (some .int), Cond.fieldLink RX5 36 "ModelSender$Sender" "best" "I", Cond.methodLink RX5 173 yX4_keep, Cond.instanceMethod yX4_keep, Cond.selects RX4 yX4_keep yX4_keep, Cond.code yX4_keep cX4_keep 5 none, Cond.methodLink RX4 38 Lib.Math.max.name, Cond.methodLink RX5 177 yX4_greatestOfAll, Cond.instanceMethod yX4_greatestOfAll, Cond.selects RX4 yX4_greatestOfAll yX4_greatestOfAll, Cond.code yX4_greatestOfAll cX4_greatestOfAll 3 (some .int), Cond.methodLink RX5 169 yX0_follow, Cond.instanceMethod yX0_follow, Cond.selects RX0 yX0_follow yX0_follow, Cond.initialized RX0, Cond.code yX0_follow cX0_follow 5 none, Cond.fieldLink RX0 9 "ModelSender$Course" "state" "I", Cond.fieldLink RX0 31 "ModelSender$Sender" "best" "I", Cond.fieldLink RX0 40 "ModelSender$Course" "full" "Z"]
def wsX6_pass_r5 : List Cond := [Cond.fieldLink RX0 48 "ModelSender$Sender" "onWay" "LModelSender$OnWay;", Cond.fieldLink RX0 52 "ModelSender$OnWay" "count" "I", Cond.fieldLink RX0 25 "ModelSender$Course" "phase" "I", Cond.fieldLink RX0 15 "ModelSender$Course" "end" "I", Cond.methodLink RX0 36 yX0_watchTop, Cond.instanceMethod yX0_watchTop, Cond.selects RX0 yX0_watchTop yX0_watchTop, Cond.code yX0_watchTop cX0_watchTop 2 none, Cond.constantLong RX0 76 (100), Cond.constantLong RX0 78 (125), Cond.fieldLink RX0 80 "ModelSender$Course" "top" "I", Cond.fieldLink RX0 83 "ModelSender$Course" "flat" "I", Cond.methodLink RX0 44 yX0_enter, Cond.instanceMethod yX0_enter, Cond.selects RX0 yX0_enter yX0_enter, Cond.code yX0_enter cX0_enter 4 none, Cond.fieldLink RX0 105 "ModelSender$Course" "turns" "I", Cond.fieldLink RX0 18 "ModelSender$Course" "turnTicks" "[I", Cond.fieldLink RX0 22 "ModelSender$Course" "turnStates" "[I", Cond.methodLink RX0 108 yJ9_floorMod_7cf53, Cond.methodLink RX0 57 yX5_product, Cond.instanceMethod yX5_product, Cond.selects RX5 yX5_product yX5_product, Cond.code yX5_product cX5_product 1 (some .long)]
def wsX6_pass_r6 : List Cond := [Cond.constantLong RX5 39 (1000), Cond.methodLink RX0 61 yX0_enterCruise, Cond.instanceMethod yX0_enterCruise, Cond.selects RX0 yX0_enterCruise yX0_enterCruise, Cond.code yX0_enterCruise cX0_enterCruise 3 none, Cond.methodLink RX0 69 yX0_beginPhase, Cond.instanceMethod yX0_beginPhase, Cond.selects RX0 yX0_beginPhase yX0_beginPhase, Cond.code yX0_beginPhase cX0_beginPhase 4 none, Cond.fieldLink RX0 86 "ModelSender$Course" "since" "I", Cond.fieldLink RX0 92 "ModelSender$Sender" "losses" "I", Cond.fieldLink RX0 95 "ModelSender$Course" "lossesBefore" "I", Cond.methodLink RX0 65 yX0_phaseIsOver, Cond.instanceMethod yX0_phaseIsOver, Cond.selects RX0 yX0_phaseIsOver yX0_phaseIsOver, Cond.code yX0_phaseIsOver cX0_phaseIsOver 6 (some .boolean), Cond.fieldLink RX0 89 "ModelSender$Sender" "least" "I", Cond.constantLong RX0 98 (4), Cond.constantLong RX0 100 (5), Cond.methodLink RX0 73 yX0_probe, Cond.instanceMethod yX0_probe, Cond.selects RX0 yX0_probe yX0_probe, Cond.code yX0_probe cX0_probe 3 none, Cond.fieldLink RX0 102 "ModelSender$Sender" "leastAt" "I"]
def wsX6_pass_r7 : List Cond := [Cond.methodLink RX6 223 yX1_release, Cond.instanceMethod yX1_release, Cond.selects RX1 yX1_release yX1_release, Cond.initialized RX1, Cond.code yX1_release cX1_release 2 none, Cond.fieldLink RX1 41 "ModelSender$Gate" "served" "LModelSender$Letter;", Cond.fieldLink RX1 63 "ModelSender$Gate" "until" "I", Cond.fieldLink RX1 66 "ModelSender$Letter" "owner" "LModelSender$Sender;", Cond.fieldLink RX1 70 "ModelSender$Gate" "guestsLeft" "I", Cond.fieldLink RX1 73 "ModelSender$Sender" "left" "I", Cond.fieldLink RX1 78 "ModelSender$Letter" "hasLeft" "Z", Cond.fieldLink RX1 18 "ModelSender$Gate" "delay" "I", Cond.fieldLink RX1 82 "ModelSender$Letter" "due" "I", Cond.methodLink RX1 85 yX1_serveFirstWaiting, Cond.instanceMethod yX1_serveFirstWaiting, Cond.selects RX1 yX1_serveFirstWaiting yX1_serveFirstWaiting, Cond.code yX1_serveFirstWaiting cX1_serveFirstWaiting 2 none, Cond.fieldLink RX1 51 "ModelSender$Gate" "waiting" "I", Cond.fieldLink RX1 48 "ModelSender$Gate" "head" "I", Cond.fieldLink RX1 23 "ModelSender$Gate" "line" "[LModelSender$Letter;", Cond.methodLink RX1 44 yX1_serve, Cond.instanceMethod yX1_serve, Cond.selects RX1 yX1_serve yX1_serve, Cond.code yX1_serve cX1_serve 3 none]
def wsX6_pass_r8 : List Cond := [Cond.fieldLink RX1 9 "ModelSender$Gate" "service" "I", Cond.methodLink RX6 227 yX1_admitGuest, Cond.instanceMethod yX1_admitGuest, Cond.selects RX1 yX1_admitGuest yX1_admitGuest, Cond.code yX1_admitGuest cX1_admitGuest 2 none, Cond.fieldLink RX1 30 "ModelSender$Gate" "guest" "LModelSender$Letter;", Cond.fieldLink RX1 38 "ModelSender$Gate" "guestsDropped" "I", Cond.methodLink RX1 34 yX1_admit, Cond.instanceMethod yX1_admit, Cond.selects RX1 yX1_admit yX1_admit, Cond.code yX1_admit cX1_admit 4 (some .boolean), Cond.fieldLink RX1 15 "ModelSender$Gate" "room" "I", Cond.fieldLink RX1 54 "ModelSender$Gate" "mostWaiting" "I", Cond.methodLink RX1 57 Lib.Math.max.name, Cond.methodLink RX6 230 yX5_sendAll, Cond.instanceMethod yX5_sendAll, Cond.selects RX5 yX5_sendAll yX5_sendAll, Cond.code yX5_sendAll cX5_sendAll 7 none, Cond.fieldLink RX5 67 "ModelSender$Sender" "stock" "I", Cond.fieldLink RX5 81 "ModelSender$OnWay" "count" "I", Cond.methodLink RX5 64 yX5_window, Cond.instanceMethod yX5_window, Cond.selects RX5 yX5_window yX5_window, Cond.code yX5_window cX5_window 3 (some .long)]
def wsX6_pass_r9 : List Cond := [Cond.fieldLink RX5 41 "ModelSender$Course" "state" "I", Cond.constantLong RX5 44 (4), Cond.constantLong RX5 46 (10), Cond.constantLong RX5 48 (2), Cond.constantLong RX5 54 (289), Cond.constantLong RX5 56 (100), Cond.methodLink RX5 58 Lib.MathLoose.max_long.x, Cond.static Lib.MathLoose.max_long.x, Cond.code Lib.MathLoose.max_long.x Lib.MathLoose.max_long.code 4 (some .long), Cond.methodLink RX5 50 yX5_product, Cond.methodLink RX5 70 yX5_isFree, Cond.instanceMethod yX5_isFree, Cond.selects RX5 yX5_isFree yX5_isFree, Cond.code yX5_isFree cX5_isFree 4 (some .boolean), Cond.fieldLink RX5 90 "ModelSender$Sender" "next" "J", Cond.methodLink RX5 74 yX5_sendOne, Cond.instanceMethod yX5_sendOne, Cond.selects RX5 yX5_sendOne yX5_sendOne, Cond.code yX5_sendOne cX5_sendOne 5 (some .boolean), Cond.fieldLink RX5 101 "ModelSender$Sender" "sent" "I", Cond.fieldLink RX5 104 "ModelSender$Letter" "number" "I", Cond.fieldLink RX5 128 "ModelSender$Sender" "losses" "I", Cond.methodLink RX5 94 yX3_blank, Cond.instanceMethod yX3_blank]
def wsX6_pass_r10 : List Cond := [Cond.selects RX3 yX3_blank yX3_blank, Cond.code yX3_blank cX3_blank 2 (some (.object "ModelSender$Letter")), Cond.classLink RX3 9 RX2, Cond.instantiable RX2 8, Cond.initialized RX2, Cond.methodLink RX3 21 yX2_init, Cond.instanceMethod yX2_init, Cond.code yX2_init cX2_init 2 none, Cond.methodLink RX2 1 objectInit, Cond.instanceMethod objectInit, Cond.code objectInit ⟨#[0xb1]⟩ 1 none, Cond.fieldLink RX2 7 "ModelSender$Letter" "owner" "LModelSender$Sender;", Cond.methodLink RX5 119 yX1_admit, Cond.methodLink RX5 125 yX3_add, Cond.instanceMethod yX3_add, Cond.selects RX3 yX3_add yX3_add, Cond.code yX3_add cX3_add 1 none, Cond.methodLink RX5 131 yX5_putOffNext, Cond.instanceMethod yX5_putOffNext, Cond.selects RX5 yX5_putOffNext yX5_putOffNext, Cond.code yX5_putOffNext cX5_putOffNext 4 none, Cond.constantLong RX5 139 (100000000), Cond.methodLink RX5 135 yX0_gain, Cond.instanceMethod yX0_gain]
def wsX6_pass_r11 : List Cond := [Cond.selects RX0 yX0_gain yX0_gain, Cond.code yX0_gain cX0_gain 1 (some .int)]
def wsX6_pass : List Cond := .code yX6_pass cX6_pass 4 (some .int) :: ((wsX6_pass_r1 ++ (wsX6_pass_r2 ++ (wsX6_pass_r3 ++ (wsX6_pass_r4 ++ (wsX6_pass_r5 ++ (wsX6_pass_r6 ++ (wsX6_pass_r7 ++ (wsX6_pass_r8 ++ (wsX6_pass_r9 ++ (wsX6_pass_r10 ++ wsX6_pass_r11)))))))))) ++ wsX60 ++ wsX10 ++ wsX50 ++ wsX20 ++ wsX30 ++ wsX40 ++ wsX00)
def wsX6_asNumber : List Cond := .code yX6_asNumber cX6_asNumber 1 (some .int) :: ([])
def wsX6_ofGate : List Cond := .code yX6_ofGate cX6_ofGate 2 (some .int) :: ([.fieldLink RX6 14 "ModelSender" "way" "LModelSender$Gate;", .fieldLink RX6 57 "ModelSender$Gate" "waiting" "I", .fieldLink RX6 60 "ModelSender$Gate" "served" "LModelSender$Letter;", .fieldLink RX6 21 "ModelSender" "zero" "LModelSender$Sender;", .fieldLink RX6 68 "ModelSender$Sender" "left" "I", .fieldLink RX6 25 "ModelSender" "one" "LModelSender$Sender;", .fieldLink RX6 71 "ModelSender$Gate" "guestsLeft" "I", .fieldLink RX6 74 "ModelSender$Gate" "guestsDropped" "I", .fieldLink RX6 77 "ModelSender$Gate" "mostWaiting" "I", .methodLink RX6 64 yX6_asNumber, .static yX6_asNumber, .initialized RX6, .code yX6_asNumber cX6_asNumber 1 (some .int)] ++ wsX60 ++ wsX10 ++ wsX50)
def wsX6_greatestDivisor : List Cond := .code yX6_greatestDivisor cX6_greatestDivisor 6 (some .int) :: ([])
def wsX6_busy : List Cond := .code yX6_busy cX6_busy 3 (some .long) :: ([.constantLong RX6 80 (-9223372036854775808), .fieldLink RX6 82 "ModelSender" "busyTicks" "I", .fieldLink RX6 85 "ModelSender" "now" "I", .methodLink RX6 28 yX6_within, .static yX6_within, .initialized RX6, .code yX6_within cX6_within 3 (some .boolean), .methodLink RX6 88 yX6_greatestDivisor, .static yX6_greatestDivisor, .code yX6_greatestDivisor cX6_greatestDivisor 6 (some .int)] ++ wsX60)
def wsX6_ofSender_r1 : List Cond := [Cond.fieldLink RX6 92 "ModelSender$Sender" "course" "LModelSender$Course;", Cond.fieldLink RX6 96 "ModelSender$Course" "state" "I", Cond.fieldLink RX6 101 "ModelSender$Sender" "onWay" "LModelSender$OnWay;", Cond.fieldLink RX6 105 "ModelSender$OnWay" "count" "I", Cond.fieldLink RX6 110 "ModelSender$Sender" "delivered" "I", Cond.fieldLink RX6 113 "ModelSender$Sender" "best" "I", Cond.fieldLink RX6 116 "ModelSender$Sender" "least" "I", Cond.fieldLink RX6 129 "ModelSender$Sender" "rounds" "I", Cond.fieldLink RX6 132 "ModelSender$Sender" "losses" "I", Cond.fieldLink RX6 49 "ModelSender$Sender" "stock" "I", Cond.fieldLink RX6 135 "ModelSender$Sender" "limit" "I", Cond.fieldLink RX6 138 "ModelSender$Sender" "sent" "I", Cond.fieldLink RX6 141 "ModelSender$Sender" "next" "J", Cond.constantLong RX6 145 (1000), Cond.fieldLink RX6 85 "ModelSender" "now" "I", Cond.methodLink RX6 147 Lib.MathLoose.max_long.x, Cond.static Lib.MathLoose.max_long.x, Cond.initialized "java/lang/Math", Cond.code Lib.MathLoose.max_long.x Lib.MathLoose.max_long.code 4 (some .long), Cond.methodLink RX6 45 yX6_senderOf, Cond.instanceMethod yX6_senderOf, Cond.selects RX6 yX6_senderOf yX6_senderOf, Cond.initialized RX6, Cond.code yX6_senderOf cX6_senderOf 2 (some (.object "ModelSender$Sender"))]
def wsX6_ofSender_r2 : List Cond := [Cond.fieldLink RX6 21 "ModelSender" "zero" "LModelSender$Sender;", Cond.fieldLink RX6 25 "ModelSender" "one" "LModelSender$Sender;", Cond.methodLink RX6 119 yX5_product, Cond.instanceMethod yX5_product, Cond.selects RX5 yX5_product yX5_product, Cond.initialized RX5, Cond.code yX5_product cX5_product 1 (some .long), Cond.fieldLink RX5 32 "ModelSender$Sender" "least" "I", Cond.fieldLink RX5 36 "ModelSender$Sender" "best" "I", Cond.constantLong RX5 39 (1000), Cond.methodLink RX6 123 yX5_window, Cond.instanceMethod yX5_window, Cond.selects RX5 yX5_window yX5_window, Cond.code yX5_window cX5_window 3 (some .long), Cond.fieldLink RX5 28 "ModelSender$Sender" "course" "LModelSender$Course;", Cond.fieldLink RX5 41 "ModelSender$Course" "state" "I", Cond.constantLong RX5 44 (4), Cond.constantLong RX5 46 (10), Cond.constantLong RX5 48 (2), Cond.constantLong RX5 54 (289), Cond.constantLong RX5 56 (100), Cond.methodLink RX5 58 Lib.MathLoose.max_long.x, Cond.methodLink RX5 50 yX5_product, Cond.methodLink RX6 126 yX0_gain]
def wsX6_ofSender_r3 : List Cond := [Cond.instanceMethod yX0_gain, Cond.selects RX0 yX0_gain yX0_gain, Cond.initialized RX0, Cond.code yX0_gain cX0_gain 1 (some .int), Cond.fieldLink RX0 9 "ModelSender$Course" "state" "I", Cond.fieldLink RX0 25 "ModelSender$Course" "phase" "I"]
def wsX6_ofSender : List Cond := .code yX6_ofSender cX6_ofSender 4 (some .int) :: ((wsX6_ofSender_r1 ++ (wsX6_ofSender_r2 ++ wsX6_ofSender_r3)) ++ wsX50 ++ wsX00 ++ wsX30 ++ wsX60)
def wsX6_sample_r1 : List Cond := [Cond.fieldLink RX6 153 "ModelSender$Sender" "samples" "LModelSender$Samples;", Cond.fieldLink RX6 157 "ModelSender$Samples" "count" "I", Cond.fieldLink RX6 129 "ModelSender$Sender" "rounds" "I", Cond.methodLink RX6 45 yX6_senderOf, Cond.instanceMethod yX6_senderOf, Cond.selects RX6 yX6_senderOf yX6_senderOf, Cond.initialized RX6, Cond.code yX6_senderOf cX6_senderOf 2 (some (.object "ModelSender$Sender")), Cond.fieldLink RX6 21 "ModelSender" "zero" "LModelSender$Sender;", Cond.fieldLink RX6 25 "ModelSender" "one" "LModelSender$Sender;", Cond.methodLink RX6 28 yX6_within, Cond.static yX6_within, Cond.code yX6_within cX6_within 3 (some .boolean), Cond.methodLink RX6 160 yX4_roundsOf, Cond.instanceMethod yX4_roundsOf, Cond.selects RX4 yX4_roundsOf yX4_roundsOf, Cond.initialized RX4, Cond.code yX4_roundsOf cX4_roundsOf 5 (some .int), Cond.fieldLink RX4 15 "ModelSender$Samples" "counts" "[I", Cond.methodLink RX4 21 yJ9_floorMod_7cf53, Cond.static yJ9_floorMod_7cf53, Cond.initialized RJ9, Cond.code yJ9_floorMod_7cf53 cJ9_floorMod_7cf53 3 (some .int), Cond.methodLink RX6 163 yX4_rateOf]
def wsX6_sample_r2 : List Cond := [Cond.instanceMethod yX4_rateOf, Cond.selects RX4 yX4_rateOf yX4_rateOf, Cond.code yX4_rateOf cX4_rateOf 3 (some .int), Cond.fieldLink RX4 9 "ModelSender$Samples" "rates" "[I", Cond.methodLink RX4 27 yX4_ringPlace, Cond.instanceMethod yX4_ringPlace, Cond.selects RX4 yX4_ringPlace yX4_ringPlace, Cond.code yX4_ringPlace cX4_ringPlace 3 (some .int), Cond.fieldLink RX4 31 "ModelSender$Samples" "first" "I"]
def wsX6_sample : List Cond := .code yX6_sample cX6_sample 5 (some .int) :: ((wsX6_sample_r1 ++ wsX6_sample_r2) ++ wsX50 ++ wsX40 ++ wsX60)
def wsX6_best_r1 : List Cond := [Cond.fieldLink RX6 153 "ModelSender$Sender" "samples" "LModelSender$Samples;", Cond.fieldLink RX6 129 "ModelSender$Sender" "rounds" "I", Cond.methodLink RX6 45 yX6_senderOf, Cond.instanceMethod yX6_senderOf, Cond.selects RX6 yX6_senderOf yX6_senderOf, Cond.initialized RX6, Cond.code yX6_senderOf cX6_senderOf 2 (some (.object "ModelSender$Sender")), Cond.fieldLink RX6 21 "ModelSender" "zero" "LModelSender$Sender;", Cond.fieldLink RX6 25 "ModelSender" "one" "LModelSender$Sender;", Cond.methodLink RX6 28 yX6_within, Cond.static yX6_within, Cond.code yX6_within cX6_within 3 (some .boolean), Cond.methodLink RX6 167 yX4_greatestOfLast, Cond.instanceMethod yX4_greatestOfLast, Cond.selects RX4 yX4_greatestOfLast yX4_greatestOfLast, Cond.initialized RX4, Cond.code yX4_greatestOfLast cX4_greatestOfLast 6 (some .int), Cond.fieldLink RX4 15 "ModelSender$Samples" "counts" "[I", Cond.fieldLink RX4 18 "ModelSender$Samples" "greatest" "[I", Cond.methodLink RX4 38 Lib.Math.max.name, Cond.static Lib.Math.max.name, Cond.initialized "java/lang/Math", Cond.code Lib.Math.max.name Lib.Math.max.code 2 (some .int), Cond.methodLink RX4 21 yJ9_floorMod_7cf53]
def wsX6_best_r2 : List Cond := [Cond.static yJ9_floorMod_7cf53, Cond.initialized RJ9, Cond.code yJ9_floorMod_7cf53 cJ9_floorMod_7cf53 3 (some .int)]
def wsX6_best : List Cond := .code yX6_best cX6_best 4 (some .int) :: ((wsX6_best_r1 ++ wsX6_best_r2) ++ wsX50 ++ wsX60 ++ wsX40)
def wsX6_letter : List Cond := .code yX6_letter cX6_letter 6 (some .int) :: ([.fieldLink RX6 101 "ModelSender$Sender" "onWay" "LModelSender$OnWay;", .fieldLink RX6 174 "ModelSender$Letter" "number" "I", .fieldLink RX6 179 "ModelSender$Letter" "sent" "I", .fieldLink RX6 180 "ModelSender$Letter" "limited" "Z", .fieldLink RX6 184 "ModelSender$Letter" "hasLeft" "Z", .methodLink RX6 45 yX6_senderOf, .instanceMethod yX6_senderOf, .selects RX6 yX6_senderOf yX6_senderOf, .initialized RX6, .code yX6_senderOf cX6_senderOf 2 (some (.object "ModelSender$Sender")), .fieldLink RX6 21 "ModelSender" "zero" "LModelSender$Sender;", .fieldLink RX6 25 "ModelSender" "one" "LModelSender$Sender;", .methodLink RX6 170 yX3_at, .instanceMethod yX3_at, .selects RX3 yX3_at yX3_at, .initialized RX3, .code yX3_at cX3_at 2 (some (.object "ModelSender$Letter")), .fieldLink RX3 17 "ModelSender$OnWay" "count" "I", .fieldLink RX3 11 "ModelSender$OnWay" "letters" "[LModelSender$Letter;", .methodLink RX6 64 yX6_asNumber, .static yX6_asNumber, .code yX6_asNumber cX6_asNumber 1 (some .int)] ++ wsX50 ++ wsX20 ++ wsX60 ++ wsX30)
def wsX6_phase : List Cond := .code yX6_phase cX6_phase 5 (some .int) :: ([.fieldLink RX6 92 "ModelSender$Sender" "course" "LModelSender$Course;", .fieldLink RX6 96 "ModelSender$Course" "state" "I", .fieldLink RX6 187 "ModelSender$Course" "phase" "I", .fieldLink RX6 85 "ModelSender" "now" "I", .fieldLink RX6 190 "ModelSender$Course" "since" "I", .methodLink RX6 45 yX6_senderOf, .instanceMethod yX6_senderOf, .selects RX6 yX6_senderOf yX6_senderOf, .initialized RX6, .code yX6_senderOf cX6_senderOf 2 (some (.object "ModelSender$Sender")), .fieldLink RX6 21 "ModelSender" "zero" "LModelSender$Sender;", .fieldLink RX6 25 "ModelSender" "one" "LModelSender$Sender;", .methodLink RX6 28 yX6_within, .static yX6_within, .code yX6_within cX6_within 3 (some .boolean)] ++ wsX50 ++ wsX00 ++ wsX60)
def wsX6_model_r1 : List Cond := [Cond.fieldLink RX6 92 "ModelSender$Sender" "course" "LModelSender$Course;", Cond.fieldLink RX6 193 "ModelSender$Course" "full" "Z", Cond.fieldLink RX6 196 "ModelSender$Course" "top" "I", Cond.fieldLink RX6 199 "ModelSender$Course" "flat" "I", Cond.fieldLink RX6 85 "ModelSender" "now" "I", Cond.fieldLink RX6 202 "ModelSender$Sender" "leastAt" "I", Cond.methodLink RX6 45 yX6_senderOf, Cond.instanceMethod yX6_senderOf, Cond.selects RX6 yX6_senderOf yX6_senderOf, Cond.initialized RX6, Cond.code yX6_senderOf cX6_senderOf 2 (some (.object "ModelSender$Sender")), Cond.fieldLink RX6 21 "ModelSender" "zero" "LModelSender$Sender;", Cond.fieldLink RX6 25 "ModelSender" "one" "LModelSender$Sender;", Cond.methodLink RX6 64 yX6_asNumber, Cond.static yX6_asNumber, Cond.code yX6_asNumber cX6_asNumber 1 (some .int), Cond.methodLink RX6 205 yX0_ticksToEnd, Cond.instanceMethod yX0_ticksToEnd, Cond.selects RX0 yX0_ticksToEnd yX0_ticksToEnd, Cond.initialized RX0, Cond.code yX0_ticksToEnd cX0_ticksToEnd 2 (some .int), Cond.fieldLink RX0 9 "ModelSender$Course" "state" "I", Cond.fieldLink RX0 15 "ModelSender$Course" "end" "I", Cond.methodLink RX0 114 Lib.Math.max.name]
def wsX6_model_r2 : List Cond := [Cond.static Lib.Math.max.name, Cond.initialized "java/lang/Math", Cond.code Lib.Math.max.name Lib.Math.max.code 2 (some .int)]
def wsX6_model : List Cond := .code yX6_model cX6_model 4 (some .int) :: ((wsX6_model_r1 ++ wsX6_model_r2) ++ wsX50 ++ wsX00 ++ wsX60)
def wsX6_turn_r1 : List Cond := [Cond.fieldLink RX6 92 "ModelSender$Sender" "course" "LModelSender$Course;", Cond.methodLink RX6 45 yX6_senderOf, Cond.instanceMethod yX6_senderOf, Cond.selects RX6 yX6_senderOf yX6_senderOf, Cond.initialized RX6, Cond.code yX6_senderOf cX6_senderOf 2 (some (.object "ModelSender$Sender")), Cond.fieldLink RX6 21 "ModelSender" "zero" "LModelSender$Sender;", Cond.fieldLink RX6 25 "ModelSender" "one" "LModelSender$Sender;", Cond.methodLink RX6 208 yX0_turnsKept, Cond.instanceMethod yX0_turnsKept, Cond.selects RX0 yX0_turnsKept yX0_turnsKept, Cond.initialized RX0, Cond.code yX0_turnsKept cX0_turnsKept 1 (some .int), Cond.fieldLink RX0 105 "ModelSender$Course" "turns" "I", Cond.methodLink RX0 117 Lib.Math.min.name, Cond.static Lib.Math.min.name, Cond.initialized "java/lang/Math", Cond.code Lib.Math.min.name Lib.Math.min.code 2 (some .int), Cond.methodLink RX6 28 yX6_within, Cond.static yX6_within, Cond.code yX6_within cX6_within 3 (some .boolean), Cond.methodLink RX6 211 yX0_turnTickOf, Cond.instanceMethod yX0_turnTickOf, Cond.selects RX0 yX0_turnTickOf yX0_turnTickOf]
def wsX6_turn_r2 : List Cond := [Cond.code yX0_turnTickOf cX0_turnTickOf 2 (some .int), Cond.fieldLink RX0 18 "ModelSender$Course" "turnTicks" "[I", Cond.methodLink RX0 120 yX0_turnPlace, Cond.instanceMethod yX0_turnPlace, Cond.selects RX0 yX0_turnPlace yX0_turnPlace, Cond.code yX0_turnPlace cX0_turnPlace 2 (some .int), Cond.methodLink RX0 124 yX0_turnsKept, Cond.methodLink RX0 108 yJ9_floorMod_7cf53, Cond.static yJ9_floorMod_7cf53, Cond.initialized RJ9, Cond.code yJ9_floorMod_7cf53 cJ9_floorMod_7cf53 3 (some .int), Cond.methodLink RX6 214 yX0_turnStateOf, Cond.instanceMethod yX0_turnStateOf, Cond.selects RX0 yX0_turnStateOf yX0_turnStateOf, Cond.code yX0_turnStateOf cX0_turnStateOf 2 (some .int), Cond.fieldLink RX0 22 "ModelSender$Course" "turnStates" "[I"]
def wsX6_turn : List Cond := .code yX6_turn cX6_turn 5 (some .int) :: ((wsX6_turn_r1 ++ wsX6_turn_r2) ++ wsX50 ++ wsX60 ++ wsX00)
def wsX6_many : List Cond := .code yX6_many cX6_many 2 (some .int) :: ([.fieldLink RX6 85 "ModelSender" "now" "I", .fieldLink RX6 21 "ModelSender" "zero" "LModelSender$Sender;", .fieldLink RX6 110 "ModelSender$Sender" "delivered" "I", .fieldLink RX6 25 "ModelSender" "one" "LModelSender$Sender;", .fieldLink RX6 132 "ModelSender$Sender" "losses" "I", .fieldLink RX6 92 "ModelSender$Sender" "course" "LModelSender$Course;", .fieldLink RX6 217 "ModelSender$Course" "turns" "I", .fieldLink RX6 82 "ModelSender" "busyTicks" "I"] ++ wsX60 ++ wsX50 ++ wsX00)
def wsX7_init_r1 : List Cond := [Cond.methodLink RX7 1 objectInit, Cond.instanceMethod objectInit, Cond.code objectInit ⟨#[0xb1]⟩ 1 none, Cond.fieldLink RX7 7 "ModelSenderModel" "service" "I", Cond.fieldLink RX7 13 "ModelSenderModel" "room" "I", Cond.fieldLink RX7 16 "ModelSenderModel" "delay" "I", Cond.fieldLink RX7 19 "ModelSenderModel" "servedOf" "I", Cond.arrayClass .int, Cond.fieldLink RX7 22 "ModelSenderModel" "waitsOf" "[I", Cond.fieldLink RX7 26 "ModelSenderModel" "waitsNumber" "[I", Cond.fieldLink RX7 29 "ModelSenderModel" "leftOf" "[I", Cond.fieldLink RX7 32 "ModelSenderModel" "onWay" "[I", Cond.fieldLink RX7 35 "ModelSenderModel" "numberOf" "[I", Cond.fieldLink RX7 38 "ModelSenderModel" "sentAt" "[I", Cond.fieldLink RX7 41 "ModelSenderModel" "deliveredThen" "[I", Cond.fieldLink RX7 44 "ModelSenderModel" "atThen" "[I", Cond.arrayClass .boolean, Cond.fieldLink RX7 47 "ModelSenderModel" "isLimited" "[Z", Cond.fieldLink RX7 51 "ModelSenderModel" "dueOf" "[I", Cond.fieldLink RX7 54 "ModelSenderModel" "stockOf" "[I", Cond.fieldLink RX7 57 "ModelSenderModel" "sentMany" "[I", Cond.fieldLink RX7 60 "ModelSenderModel" "delivered" "[I", Cond.fieldLink RX7 63 "ModelSenderModel" "lastAt" "[I", Cond.fieldLink RX7 66 "ModelSenderModel" "limitOf" "[I"]
def wsX7_init_r2 : List Cond := [Cond.fieldLink RX7 69 "ModelSenderModel" "rounds" "[I", Cond.fieldLink RX7 72 "ModelSenderModel" "markOf" "[I", Cond.fieldLink RX7 75 "ModelSenderModel" "bestOf" "[I", Cond.fieldLink RX7 78 "ModelSenderModel" "leastOf" "[I", Cond.fieldLink RX7 81 "ModelSenderModel" "leastAt" "[I", Cond.arrayClass .long, Cond.fieldLink RX7 84 "ModelSenderModel" "nextOf" "[J", Cond.fieldLink RX7 88 "ModelSenderModel" "losses" "[I", Cond.fieldLink RX7 91 "ModelSenderModel" "sampleFirst" "[I", Cond.fieldLink RX7 94 "ModelSenderModel" "sampleMany" "[I", Cond.fieldLink RX7 97 "ModelSenderModel" "sampleRounds" "[I", Cond.fieldLink RX7 100 "ModelSenderModel" "sampleRate" "[I", Cond.fieldLink RX7 103 "ModelSenderModel" "stateOf" "[I", Cond.fieldLink RX7 106 "ModelSenderModel" "phaseOf" "[I", Cond.fieldLink RX7 109 "ModelSenderModel" "since" "[I", Cond.fieldLink RX7 112 "ModelSenderModel" "lossesThen" "[I", Cond.fieldLink RX7 115 "ModelSenderModel" "endOf" "[I", Cond.fieldLink RX7 118 "ModelSenderModel" "isFull" "[Z", Cond.fieldLink RX7 121 "ModelSenderModel" "topOf" "[I", Cond.fieldLink RX7 124 "ModelSenderModel" "flatOf" "[I", Cond.fieldLink RX7 127 "ModelSenderModel" "turnMany" "[I", Cond.fieldLink RX7 130 "ModelSenderModel" "turnTick" "[I", Cond.fieldLink RX7 133 "ModelSenderModel" "turnState" "[I"]
def wsX7_init : List Cond := .code yX7_init cX7_init 2 none :: ((wsX7_init_r1 ++ wsX7_init_r2) ++ wsX70)
def wsX7_within : List Cond := .code yX7_within cX7_within 3 (some .boolean) :: ([])
def wsX7_isSender : List Cond := .code yX7_isSender cX7_isSender 1 (some .boolean) :: ([.methodLink RX7 136 yX7_within, .static yX7_within, .initialized RX7, .code yX7_within cX7_within 3 (some .boolean)])
def wsX7_gate : List Cond := .code yX7_gate cX7_gate 4 (some .int) :: ([.fieldLink RX7 7 "ModelSenderModel" "service" "I", .fieldLink RX7 13 "ModelSenderModel" "room" "I", .fieldLink RX7 16 "ModelSenderModel" "delay" "I", .methodLink RX7 136 yX7_within, .static yX7_within, .initialized RX7, .code yX7_within cX7_within 3 (some .boolean)] ++ wsX70)
def wsX7_guests : List Cond := .code yX7_guests cX7_guests 3 (some .int) :: ([.fieldLink RX7 140 "ModelSenderModel" "every" "I", .methodLink RX7 136 yX7_within, .static yX7_within, .initialized RX7, .code yX7_within cX7_within 3 (some .boolean)] ++ wsX70)
def wsX7_serves : List Cond := .code yX7_serves cX7_serves 3 none :: ([.fieldLink RX7 19 "ModelSenderModel" "servedOf" "I", .fieldLink RX7 143 "ModelSenderModel" "servedNumber" "I", .fieldLink RX7 146 "ModelSenderModel" "now" "I", .fieldLink RX7 7 "ModelSenderModel" "service" "I", .fieldLink RX7 149 "ModelSenderModel" "servedTill" "I"] ++ wsX70)
def wsX7_comes : List Cond := .code yX7_comes cX7_comes 3 (some .boolean) :: ([.fieldLink RX7 19 "ModelSenderModel" "servedOf" "I", .fieldLink RX7 156 "ModelSenderModel" "waiting" "I", .fieldLink RX7 13 "ModelSenderModel" "room" "I", .fieldLink RX7 22 "ModelSenderModel" "waitsOf" "[I", .fieldLink RX7 26 "ModelSenderModel" "waitsNumber" "[I", .fieldLink RX7 159 "ModelSenderModel" "mostWaiting" "I", .methodLink RX7 152 yX7_serves, .instanceMethod yX7_serves, .selects RX7 yX7_serves yX7_serves, .initialized RX7, .code yX7_serves cX7_serves 3 none, .fieldLink RX7 143 "ModelSenderModel" "servedNumber" "I", .fieldLink RX7 146 "ModelSenderModel" "now" "I", .fieldLink RX7 7 "ModelSenderModel" "service" "I", .fieldLink RX7 149 "ModelSenderModel" "servedTill" "I"] ++ wsX70)
def wsX7_placeOf : List Cond := .code yX7_placeOf cX7_placeOf 4 (some .int) :: ([.fieldLink RX7 35 "ModelSenderModel" "numberOf" "[I"] ++ wsX70)
def wsX7_leaves : List Cond := .code yX7_leaves cX7_leaves 2 none :: ([.fieldLink RX7 29 "ModelSenderModel" "leftOf" "[I", .fieldLink RX7 19 "ModelSenderModel" "servedOf" "I", .fieldLink RX7 51 "ModelSenderModel" "dueOf" "[I", .fieldLink RX7 143 "ModelSenderModel" "servedNumber" "I", .fieldLink RX7 146 "ModelSenderModel" "now" "I", .fieldLink RX7 16 "ModelSenderModel" "delay" "I", .fieldLink RX7 156 "ModelSenderModel" "waiting" "I", .fieldLink RX7 22 "ModelSenderModel" "waitsOf" "[I", .fieldLink RX7 26 "ModelSenderModel" "waitsNumber" "[I", .methodLink RX7 162 yX7_placeOf, .instanceMethod yX7_placeOf, .selects RX7 yX7_placeOf yX7_placeOf, .initialized RX7, .code yX7_placeOf cX7_placeOf 4 (some .int), .fieldLink RX7 35 "ModelSenderModel" "numberOf" "[I", .methodLink RX7 152 yX7_serves, .instanceMethod yX7_serves, .selects RX7 yX7_serves yX7_serves, .code yX7_serves cX7_serves 3 none, .fieldLink RX7 7 "ModelSenderModel" "service" "I", .fieldLink RX7 149 "ModelSenderModel" "servedTill" "I"] ++ wsX70)
def wsX7_takesOff : List Cond := .code yX7_takesOff cX7_takesOff 5 none :: ([.fieldLink RX7 32 "ModelSenderModel" "onWay" "[I", .fieldLink RX7 35 "ModelSenderModel" "numberOf" "[I", .fieldLink RX7 38 "ModelSenderModel" "sentAt" "[I", .fieldLink RX7 41 "ModelSenderModel" "deliveredThen" "[I", .fieldLink RX7 44 "ModelSenderModel" "atThen" "[I", .fieldLink RX7 47 "ModelSenderModel" "isLimited" "[Z", .fieldLink RX7 51 "ModelSenderModel" "dueOf" "[I"] ++ wsX70)
def wsX7_stock : List Cond := .code yX7_stock cX7_stock 3 (some .int) :: ([.fieldLink RX7 54 "ModelSenderModel" "stockOf" "[I", .constant RX7 170 (100000), .methodLink RX7 166 yX7_isSender, .static yX7_isSender, .initialized RX7, .code yX7_isSender cX7_isSender 1 (some .boolean), .methodLink RX7 136 yX7_within, .static yX7_within, .code yX7_within cX7_within 3 (some .boolean)] ++ wsX70)
def wsX7_product : List Cond := .code yX7_product cX7_product 2 (some .long) :: ([.fieldLink RX7 78 "ModelSenderModel" "leastOf" "[I", .fieldLink RX7 75 "ModelSenderModel" "bestOf" "[I", .constantLong RX7 171 (1000)] ++ wsX70)
def wsX7_window : List Cond := .code yX7_window cX7_window 4 (some .long) :: ([.fieldLink RX7 103 "ModelSenderModel" "stateOf" "[I", .constantLong RX7 173 (4), .fieldLink RX7 75 "ModelSenderModel" "bestOf" "[I", .fieldLink RX7 78 "ModelSenderModel" "leastOf" "[I", .constantLong RX7 175 (10), .constantLong RX7 177 (2), .constantLong RX7 183 (289), .constantLong RX7 185 (100), .methodLink RX7 179 yX7_product, .instanceMethod yX7_product, .selects RX7 yX7_product yX7_product, .initialized RX7, .code yX7_product cX7_product 2 (some .long), .constantLong RX7 171 (1000)] ++ wsX70)
def wsX7_gain : List Cond := .code yX7_gain cX7_gain 2 (some .int) :: ([.fieldLink RX7 103 "ModelSenderModel" "stateOf" "[I", .fieldLink RX7 106 "ModelSenderModel" "phaseOf" "[I"] ++ wsX70)
def wsX7_isOpen : List Cond := .code yX7_isOpen cX7_isOpen 2 (some .boolean) :: ([.fieldLink RX7 32 "ModelSenderModel" "onWay" "[I", .fieldLink RX7 84 "ModelSenderModel" "nextOf" "[J", .constantLong RX7 171 (1000), .fieldLink RX7 146 "ModelSenderModel" "now" "I", .methodLink RX7 187 yX7_window, .instanceMethod yX7_window, .selects RX7 yX7_window yX7_window, .initialized RX7, .code yX7_window cX7_window 4 (some .long), .fieldLink RX7 103 "ModelSenderModel" "stateOf" "[I", .constantLong RX7 173 (4), .fieldLink RX7 75 "ModelSenderModel" "bestOf" "[I", .fieldLink RX7 78 "ModelSenderModel" "leastOf" "[I", .constantLong RX7 175 (10), .constantLong RX7 177 (2), .constantLong RX7 183 (289), .constantLong RX7 185 (100), .methodLink RX7 179 yX7_product, .instanceMethod yX7_product, .selects RX7 yX7_product yX7_product, .code yX7_product cX7_product 2 (some .long)] ++ wsX70)
def wsX7_sends_r1 : List Cond := [Cond.fieldLink RX7 54 "ModelSenderModel" "stockOf" "[I", Cond.fieldLink RX7 57 "ModelSenderModel" "sentMany" "[I", Cond.fieldLink RX7 63 "ModelSenderModel" "lastAt" "[I", Cond.fieldLink RX7 32 "ModelSenderModel" "onWay" "[I", Cond.fieldLink RX7 146 "ModelSenderModel" "now" "I", Cond.fieldLink RX7 35 "ModelSenderModel" "numberOf" "[I", Cond.fieldLink RX7 38 "ModelSenderModel" "sentAt" "[I", Cond.fieldLink RX7 41 "ModelSenderModel" "deliveredThen" "[I", Cond.fieldLink RX7 60 "ModelSenderModel" "delivered" "[I", Cond.fieldLink RX7 44 "ModelSenderModel" "atThen" "[I", Cond.fieldLink RX7 47 "ModelSenderModel" "isLimited" "[Z", Cond.fieldLink RX7 66 "ModelSenderModel" "limitOf" "[I", Cond.fieldLink RX7 51 "ModelSenderModel" "dueOf" "[I", Cond.fieldLink RX7 88 "ModelSenderModel" "losses" "[I", Cond.fieldLink RX7 75 "ModelSenderModel" "bestOf" "[I", Cond.fieldLink RX7 84 "ModelSenderModel" "nextOf" "[J", Cond.constantLong RX7 171 (1000), Cond.constantLong RX7 194 (100000000), Cond.methodLink RX7 190 yX7_comes, Cond.instanceMethod yX7_comes, Cond.selects RX7 yX7_comes yX7_comes, Cond.initialized RX7, Cond.code yX7_comes cX7_comes 3 (some .boolean), Cond.fieldLink RX7 19 "ModelSenderModel" "servedOf" "I"]
def wsX7_sends_r2 : List Cond := [Cond.fieldLink RX7 156 "ModelSenderModel" "waiting" "I", Cond.fieldLink RX7 13 "ModelSenderModel" "room" "I", Cond.fieldLink RX7 22 "ModelSenderModel" "waitsOf" "[I", Cond.fieldLink RX7 26 "ModelSenderModel" "waitsNumber" "[I", Cond.fieldLink RX7 159 "ModelSenderModel" "mostWaiting" "I", Cond.methodLink RX7 152 yX7_serves, Cond.instanceMethod yX7_serves, Cond.selects RX7 yX7_serves yX7_serves, Cond.code yX7_serves cX7_serves 3 none, Cond.fieldLink RX7 143 "ModelSenderModel" "servedNumber" "I", Cond.fieldLink RX7 7 "ModelSenderModel" "service" "I", Cond.fieldLink RX7 149 "ModelSenderModel" "servedTill" "I", Cond.methodLink RX7 196 yX7_gain, Cond.instanceMethod yX7_gain, Cond.selects RX7 yX7_gain yX7_gain, Cond.code yX7_gain cX7_gain 2 (some .int), Cond.fieldLink RX7 103 "ModelSenderModel" "stateOf" "[I", Cond.fieldLink RX7 106 "ModelSenderModel" "phaseOf" "[I"]
def wsX7_sends : List Cond := .code yX7_sends cX7_sends 6 (some .boolean) :: ((wsX7_sends_r1 ++ wsX7_sends_r2) ++ wsX70)
def wsX7_sendsAll_r1 : List Cond := [Cond.fieldLink RX7 54 "ModelSenderModel" "stockOf" "[I", Cond.fieldLink RX7 60 "ModelSenderModel" "delivered" "[I", Cond.fieldLink RX7 32 "ModelSenderModel" "onWay" "[I", Cond.fieldLink RX7 66 "ModelSenderModel" "limitOf" "[I", Cond.methodLink RX7 200 yX7_isOpen, Cond.instanceMethod yX7_isOpen, Cond.selects RX7 yX7_isOpen yX7_isOpen, Cond.initialized RX7, Cond.code yX7_isOpen cX7_isOpen 2 (some .boolean), Cond.fieldLink RX7 84 "ModelSenderModel" "nextOf" "[J", Cond.constantLong RX7 171 (1000), Cond.fieldLink RX7 146 "ModelSenderModel" "now" "I", Cond.methodLink RX7 187 yX7_window, Cond.instanceMethod yX7_window, Cond.selects RX7 yX7_window yX7_window, Cond.code yX7_window cX7_window 4 (some .long), Cond.fieldLink RX7 103 "ModelSenderModel" "stateOf" "[I", Cond.constantLong RX7 173 (4), Cond.fieldLink RX7 75 "ModelSenderModel" "bestOf" "[I", Cond.fieldLink RX7 78 "ModelSenderModel" "leastOf" "[I", Cond.constantLong RX7 175 (10), Cond.constantLong RX7 177 (2), Cond.constantLong RX7 183 (289), Cond.constantLong RX7 185 (100)]
def wsX7_sendsAll_r2 : List Cond := [Cond.methodLink RX7 179 yX7_product, Cond.instanceMethod yX7_product, Cond.selects RX7 yX7_product yX7_product, Cond.code yX7_product cX7_product 2 (some .long), Cond.methodLink RX7 203 yX7_sends, Cond.instanceMethod yX7_sends, Cond.selects RX7 yX7_sends yX7_sends, Cond.code yX7_sends cX7_sends 6 (some .boolean), Cond.fieldLink RX7 57 "ModelSenderModel" "sentMany" "[I", Cond.fieldLink RX7 63 "ModelSenderModel" "lastAt" "[I", Cond.fieldLink RX7 35 "ModelSenderModel" "numberOf" "[I", Cond.fieldLink RX7 38 "ModelSenderModel" "sentAt" "[I", Cond.fieldLink RX7 41 "ModelSenderModel" "deliveredThen" "[I", Cond.fieldLink RX7 44 "ModelSenderModel" "atThen" "[I", Cond.fieldLink RX7 47 "ModelSenderModel" "isLimited" "[Z", Cond.fieldLink RX7 51 "ModelSenderModel" "dueOf" "[I", Cond.fieldLink RX7 88 "ModelSenderModel" "losses" "[I", Cond.constantLong RX7 194 (100000000), Cond.methodLink RX7 190 yX7_comes, Cond.instanceMethod yX7_comes, Cond.selects RX7 yX7_comes yX7_comes, Cond.code yX7_comes cX7_comes 3 (some .boolean), Cond.fieldLink RX7 19 "ModelSenderModel" "servedOf" "I", Cond.fieldLink RX7 156 "ModelSenderModel" "waiting" "I"]
def wsX7_sendsAll_r3 : List Cond := [Cond.fieldLink RX7 13 "ModelSenderModel" "room" "I", Cond.fieldLink RX7 22 "ModelSenderModel" "waitsOf" "[I", Cond.fieldLink RX7 26 "ModelSenderModel" "waitsNumber" "[I", Cond.fieldLink RX7 159 "ModelSenderModel" "mostWaiting" "I", Cond.methodLink RX7 152 yX7_serves, Cond.instanceMethod yX7_serves, Cond.selects RX7 yX7_serves yX7_serves, Cond.code yX7_serves cX7_serves 3 none, Cond.fieldLink RX7 143 "ModelSenderModel" "servedNumber" "I", Cond.fieldLink RX7 7 "ModelSenderModel" "service" "I", Cond.fieldLink RX7 149 "ModelSenderModel" "servedTill" "I", Cond.methodLink RX7 196 yX7_gain, Cond.instanceMethod yX7_gain, Cond.selects RX7 yX7_gain yX7_gain, Cond.code yX7_gain cX7_gain 2 (some .int), Cond.fieldLink RX7 106 "ModelSenderModel" "phaseOf" "[I"]
def wsX7_sendsAll : List Cond := .code yX7_sendsAll cX7_sendsAll 5 none :: ((wsX7_sendsAll_r1 ++ (wsX7_sendsAll_r2 ++ wsX7_sendsAll_r3)) ++ wsX70)
def wsX7_greatestFrom : List Cond := .code yX7_greatestFrom cX7_greatestFrom 6 (some .int) :: ([.fieldLink RX7 94 "ModelSenderModel" "sampleMany" "[I", .fieldLink RX7 91 "ModelSenderModel" "sampleFirst" "[I", .fieldLink RX7 97 "ModelSenderModel" "sampleRounds" "[I", .fieldLink RX7 100 "ModelSenderModel" "sampleRate" "[I"] ++ wsX70)
def wsX7_keepsSample : List Cond := .code yX7_keepsSample cX7_keepsSample 4 none :: ([.fieldLink RX7 91 "ModelSenderModel" "sampleFirst" "[I", .fieldLink RX7 94 "ModelSenderModel" "sampleMany" "[I", .fieldLink RX7 97 "ModelSenderModel" "sampleRounds" "[I", .fieldLink RX7 69 "ModelSenderModel" "rounds" "[I", .fieldLink RX7 100 "ModelSenderModel" "sampleRate" "[I", .fieldLink RX7 75 "ModelSenderModel" "bestOf" "[I"] ++ wsX70)
def wsX7_letsGo : List Cond := .code yX7_letsGo cX7_letsGo 4 none :: ([.fieldLink RX7 94 "ModelSenderModel" "sampleMany" "[I", .fieldLink RX7 97 "ModelSenderModel" "sampleRounds" "[I", .fieldLink RX7 91 "ModelSenderModel" "sampleFirst" "[I", .fieldLink RX7 69 "ModelSenderModel" "rounds" "[I", .fieldLink RX7 100 "ModelSenderModel" "sampleRate" "[I", .fieldLink RX7 75 "ModelSenderModel" "bestOf" "[I", .methodLink RX7 206 yX7_greatestFrom, .instanceMethod yX7_greatestFrom, .selects RX7 yX7_greatestFrom yX7_greatestFrom, .initialized RX7, .code yX7_greatestFrom cX7_greatestFrom 6 (some .int)] ++ wsX70)
def wsX7_comesTo : List Cond := .code yX7_comesTo cX7_comesTo 4 none :: ([.fieldLink RX7 127 "ModelSenderModel" "turnMany" "[I", .fieldLink RX7 130 "ModelSenderModel" "turnTick" "[I", .fieldLink RX7 133 "ModelSenderModel" "turnState" "[I", .fieldLink RX7 146 "ModelSenderModel" "now" "I", .fieldLink RX7 103 "ModelSenderModel" "stateOf" "[I"] ++ wsX70)
def wsX7_comesToPhase : List Cond := .code yX7_comesToPhase cX7_comesToPhase 3 none :: ([.fieldLink RX7 106 "ModelSenderModel" "phaseOf" "[I", .fieldLink RX7 109 "ModelSenderModel" "since" "[I", .fieldLink RX7 146 "ModelSenderModel" "now" "I", .fieldLink RX7 112 "ModelSenderModel" "lossesThen" "[I", .fieldLink RX7 88 "ModelSenderModel" "losses" "[I"] ++ wsX70)
def wsX7_starts : List Cond := .code yX7_starts cX7_starts 4 none :: ([.constantLong RX7 185 (100), .fieldLink RX7 75 "ModelSenderModel" "bestOf" "[I", .constantLong RX7 209 (125), .fieldLink RX7 121 "ModelSenderModel" "topOf" "[I", .fieldLink RX7 124 "ModelSenderModel" "flatOf" "[I", .fieldLink RX7 118 "ModelSenderModel" "isFull" "[Z"] ++ wsX70)
def wsX7_isPhaseOver : List Cond := .code yX7_isPhaseOver cX7_isPhaseOver 3 (some .boolean) :: ([.fieldLink RX7 146 "ModelSenderModel" "now" "I", .fieldLink RX7 109 "ModelSenderModel" "since" "[I", .fieldLink RX7 78 "ModelSenderModel" "leastOf" "[I", .fieldLink RX7 106 "ModelSenderModel" "phaseOf" "[I", .constantLong RX7 173 (4), .fieldLink RX7 32 "ModelSenderModel" "onWay" "[I", .constantLong RX7 211 (5), .fieldLink RX7 88 "ModelSenderModel" "losses" "[I", .fieldLink RX7 112 "ModelSenderModel" "lossesThen" "[I", .methodLink RX7 179 yX7_product, .instanceMethod yX7_product, .selects RX7 yX7_product yX7_product, .initialized RX7, .code yX7_product cX7_product 2 (some .long), .fieldLink RX7 75 "ModelSenderModel" "bestOf" "[I", .constantLong RX7 171 (1000)] ++ wsX70)
def wsX7_probes : List Cond := .code yX7_probes cX7_probes 2 none :: ([.fieldLink RX7 115 "ModelSenderModel" "endOf" "[I", .fieldLink RX7 32 "ModelSenderModel" "onWay" "[I", .fieldLink RX7 146 "ModelSenderModel" "now" "I", .fieldLink RX7 81 "ModelSenderModel" "leastAt" "[I", .fieldLink RX7 118 "ModelSenderModel" "isFull" "[Z", .methodLink RX7 213 yX7_comesTo, .instanceMethod yX7_comesTo, .selects RX7 yX7_comesTo yX7_comesTo, .initialized RX7, .code yX7_comesTo cX7_comesTo 4 none, .fieldLink RX7 127 "ModelSenderModel" "turnMany" "[I", .fieldLink RX7 130 "ModelSenderModel" "turnTick" "[I", .fieldLink RX7 133 "ModelSenderModel" "turnState" "[I", .fieldLink RX7 103 "ModelSenderModel" "stateOf" "[I", .methodLink RX7 216 yX7_comesToPhase, .instanceMethod yX7_comesToPhase, .selects RX7 yX7_comesToPhase yX7_comesToPhase, .code yX7_comesToPhase cX7_comesToPhase 3 none, .fieldLink RX7 106 "ModelSenderModel" "phaseOf" "[I", .fieldLink RX7 109 "ModelSenderModel" "since" "[I", .fieldLink RX7 112 "ModelSenderModel" "lossesThen" "[I", .fieldLink RX7 88 "ModelSenderModel" "losses" "[I"] ++ wsX70)
def wsX7_changesState_r1 : List Cond := [Cond.fieldLink RX7 103 "ModelSenderModel" "stateOf" "[I", Cond.fieldLink RX7 118 "ModelSenderModel" "isFull" "[Z", Cond.fieldLink RX7 32 "ModelSenderModel" "onWay" "[I", Cond.fieldLink RX7 106 "ModelSenderModel" "phaseOf" "[I", Cond.fieldLink RX7 115 "ModelSenderModel" "endOf" "[I", Cond.methodLink RX7 219 yX7_starts, Cond.instanceMethod yX7_starts, Cond.selects RX7 yX7_starts yX7_starts, Cond.initialized RX7, Cond.code yX7_starts cX7_starts 4 none, Cond.constantLong RX7 185 (100), Cond.fieldLink RX7 75 "ModelSenderModel" "bestOf" "[I", Cond.constantLong RX7 209 (125), Cond.fieldLink RX7 121 "ModelSenderModel" "topOf" "[I", Cond.fieldLink RX7 124 "ModelSenderModel" "flatOf" "[I", Cond.methodLink RX7 213 yX7_comesTo, Cond.instanceMethod yX7_comesTo, Cond.selects RX7 yX7_comesTo yX7_comesTo, Cond.code yX7_comesTo cX7_comesTo 4 none, Cond.fieldLink RX7 127 "ModelSenderModel" "turnMany" "[I", Cond.fieldLink RX7 130 "ModelSenderModel" "turnTick" "[I", Cond.fieldLink RX7 133 "ModelSenderModel" "turnState" "[I", Cond.fieldLink RX7 146 "ModelSenderModel" "now" "I", Cond.methodLink RX7 179 yX7_product]
def wsX7_changesState_r2 : List Cond := [Cond.instanceMethod yX7_product, Cond.selects RX7 yX7_product yX7_product, Cond.code yX7_product cX7_product 2 (some .long), Cond.fieldLink RX7 78 "ModelSenderModel" "leastOf" "[I", Cond.constantLong RX7 171 (1000), Cond.methodLink RX7 216 yX7_comesToPhase, Cond.instanceMethod yX7_comesToPhase, Cond.selects RX7 yX7_comesToPhase yX7_comesToPhase, Cond.code yX7_comesToPhase cX7_comesToPhase 3 none, Cond.fieldLink RX7 109 "ModelSenderModel" "since" "[I", Cond.fieldLink RX7 112 "ModelSenderModel" "lossesThen" "[I", Cond.fieldLink RX7 88 "ModelSenderModel" "losses" "[I", Cond.methodLink RX7 223 yX7_isPhaseOver, Cond.instanceMethod yX7_isPhaseOver, Cond.selects RX7 yX7_isPhaseOver yX7_isPhaseOver, Cond.code yX7_isPhaseOver cX7_isPhaseOver 3 (some .boolean), Cond.constantLong RX7 173 (4), Cond.constantLong RX7 211 (5), Cond.methodLink RX7 226 yX7_probes, Cond.instanceMethod yX7_probes, Cond.selects RX7 yX7_probes yX7_probes, Cond.code yX7_probes cX7_probes 2 none, Cond.fieldLink RX7 81 "ModelSenderModel" "leastAt" "[I"]
def wsX7_changesState : List Cond := .code yX7_changesState cX7_changesState 5 none :: ((wsX7_changesState_r1 ++ wsX7_changesState_r2) ++ wsX70)
def wsX7_takes_r1 : List Cond := [Cond.fieldLink RX7 38 "ModelSenderModel" "sentAt" "[I", Cond.fieldLink RX7 41 "ModelSenderModel" "deliveredThen" "[I", Cond.fieldLink RX7 44 "ModelSenderModel" "atThen" "[I", Cond.fieldLink RX7 47 "ModelSenderModel" "isLimited" "[Z", Cond.fieldLink RX7 233 "ModelSenderModel" "taken" "I", Cond.fieldLink RX7 60 "ModelSenderModel" "delivered" "[I", Cond.fieldLink RX7 63 "ModelSenderModel" "lastAt" "[I", Cond.fieldLink RX7 146 "ModelSenderModel" "now" "I", Cond.fieldLink RX7 66 "ModelSenderModel" "limitOf" "[I", Cond.fieldLink RX7 72 "ModelSenderModel" "markOf" "[I", Cond.fieldLink RX7 69 "ModelSenderModel" "rounds" "[I", Cond.fieldLink RX7 75 "ModelSenderModel" "bestOf" "[I", Cond.fieldLink RX7 78 "ModelSenderModel" "leastOf" "[I", Cond.fieldLink RX7 81 "ModelSenderModel" "leastAt" "[I", Cond.methodLink RX7 230 yX7_takesOff, Cond.instanceMethod yX7_takesOff, Cond.selects RX7 yX7_takesOff yX7_takesOff, Cond.initialized RX7, Cond.code yX7_takesOff cX7_takesOff 5 none, Cond.fieldLink RX7 32 "ModelSenderModel" "onWay" "[I", Cond.fieldLink RX7 35 "ModelSenderModel" "numberOf" "[I", Cond.fieldLink RX7 51 "ModelSenderModel" "dueOf" "[I", Cond.methodLink RX7 236 yX7_keepsSample, Cond.instanceMethod yX7_keepsSample]
def wsX7_takes_r2 : List Cond := [Cond.selects RX7 yX7_keepsSample yX7_keepsSample, Cond.code yX7_keepsSample cX7_keepsSample 4 none, Cond.fieldLink RX7 91 "ModelSenderModel" "sampleFirst" "[I", Cond.fieldLink RX7 94 "ModelSenderModel" "sampleMany" "[I", Cond.fieldLink RX7 97 "ModelSenderModel" "sampleRounds" "[I", Cond.fieldLink RX7 100 "ModelSenderModel" "sampleRate" "[I", Cond.methodLink RX7 239 yX7_letsGo, Cond.instanceMethod yX7_letsGo, Cond.selects RX7 yX7_letsGo yX7_letsGo, Cond.code yX7_letsGo cX7_letsGo 4 none, Cond.methodLink RX7 206 yX7_greatestFrom, Cond.instanceMethod yX7_greatestFrom, Cond.selects RX7 yX7_greatestFrom yX7_greatestFrom, Cond.code yX7_greatestFrom cX7_greatestFrom 6 (some .int), Cond.methodLink RX7 242 yX7_changesState, Cond.instanceMethod yX7_changesState, Cond.selects RX7 yX7_changesState yX7_changesState, Cond.code yX7_changesState cX7_changesState 5 none, Cond.fieldLink RX7 103 "ModelSenderModel" "stateOf" "[I", Cond.fieldLink RX7 118 "ModelSenderModel" "isFull" "[Z", Cond.fieldLink RX7 106 "ModelSenderModel" "phaseOf" "[I", Cond.fieldLink RX7 115 "ModelSenderModel" "endOf" "[I", Cond.methodLink RX7 219 yX7_starts, Cond.instanceMethod yX7_starts]
def wsX7_takes_r3 : List Cond := [Cond.selects RX7 yX7_starts yX7_starts, Cond.code yX7_starts cX7_starts 4 none, Cond.constantLong RX7 185 (100), Cond.constantLong RX7 209 (125), Cond.fieldLink RX7 121 "ModelSenderModel" "topOf" "[I", Cond.fieldLink RX7 124 "ModelSenderModel" "flatOf" "[I", Cond.methodLink RX7 213 yX7_comesTo, Cond.instanceMethod yX7_comesTo, Cond.selects RX7 yX7_comesTo yX7_comesTo, Cond.code yX7_comesTo cX7_comesTo 4 none, Cond.fieldLink RX7 127 "ModelSenderModel" "turnMany" "[I", Cond.fieldLink RX7 130 "ModelSenderModel" "turnTick" "[I", Cond.fieldLink RX7 133 "ModelSenderModel" "turnState" "[I", Cond.methodLink RX7 179 yX7_product, Cond.instanceMethod yX7_product, Cond.selects RX7 yX7_product yX7_product, Cond.code yX7_product cX7_product 2 (some .long), Cond.constantLong RX7 171 (1000), Cond.methodLink RX7 216 yX7_comesToPhase, Cond.instanceMethod yX7_comesToPhase, Cond.selects RX7 yX7_comesToPhase yX7_comesToPhase, Cond.code yX7_comesToPhase cX7_comesToPhase 3 none, Cond.fieldLink RX7 109 "ModelSenderModel" "since" "[I", Cond.fieldLink RX7 112 "ModelSenderModel" "lossesThen" "[I"]
def wsX7_takes_r4 : List Cond := [Cond.fieldLink RX7 88 "ModelSenderModel" "losses" "[I", Cond.methodLink RX7 223 yX7_isPhaseOver, Cond.instanceMethod yX7_isPhaseOver, Cond.selects RX7 yX7_isPhaseOver yX7_isPhaseOver, Cond.code yX7_isPhaseOver cX7_isPhaseOver 3 (some .boolean), Cond.constantLong RX7 173 (4), Cond.constantLong RX7 211 (5), Cond.methodLink RX7 226 yX7_probes, Cond.instanceMethod yX7_probes, Cond.selects RX7 yX7_probes yX7_probes, Cond.code yX7_probes cX7_probes 2 none]
def wsX7_takes : List Cond := .code yX7_takes cX7_takes 12 none :: ((wsX7_takes_r1 ++ (wsX7_takes_r2 ++ (wsX7_takes_r3 ++ wsX7_takes_r4))) ++ wsX70)
def wsX7_takesAll_r1 : List Cond := [Cond.fieldLink RX7 32 "ModelSenderModel" "onWay" "[I", Cond.fieldLink RX7 51 "ModelSenderModel" "dueOf" "[I", Cond.fieldLink RX7 146 "ModelSenderModel" "now" "I", Cond.methodLink RX7 246 yX7_takes, Cond.instanceMethod yX7_takes, Cond.selects RX7 yX7_takes yX7_takes, Cond.initialized RX7, Cond.code yX7_takes cX7_takes 12 none, Cond.fieldLink RX7 38 "ModelSenderModel" "sentAt" "[I", Cond.fieldLink RX7 41 "ModelSenderModel" "deliveredThen" "[I", Cond.fieldLink RX7 44 "ModelSenderModel" "atThen" "[I", Cond.fieldLink RX7 47 "ModelSenderModel" "isLimited" "[Z", Cond.fieldLink RX7 233 "ModelSenderModel" "taken" "I", Cond.fieldLink RX7 60 "ModelSenderModel" "delivered" "[I", Cond.fieldLink RX7 63 "ModelSenderModel" "lastAt" "[I", Cond.fieldLink RX7 66 "ModelSenderModel" "limitOf" "[I", Cond.fieldLink RX7 72 "ModelSenderModel" "markOf" "[I", Cond.fieldLink RX7 69 "ModelSenderModel" "rounds" "[I", Cond.fieldLink RX7 75 "ModelSenderModel" "bestOf" "[I", Cond.fieldLink RX7 78 "ModelSenderModel" "leastOf" "[I", Cond.fieldLink RX7 81 "ModelSenderModel" "leastAt" "[I", Cond.methodLink RX7 230 yX7_takesOff, Cond.instanceMethod yX7_takesOff, Cond.selects RX7 yX7_takesOff yX7_takesOff]
def wsX7_takesAll_r2 : List Cond := [Cond.code yX7_takesOff cX7_takesOff 5 none, Cond.fieldLink RX7 35 "ModelSenderModel" "numberOf" "[I", Cond.methodLink RX7 236 yX7_keepsSample, Cond.instanceMethod yX7_keepsSample, Cond.selects RX7 yX7_keepsSample yX7_keepsSample, Cond.code yX7_keepsSample cX7_keepsSample 4 none, Cond.fieldLink RX7 91 "ModelSenderModel" "sampleFirst" "[I", Cond.fieldLink RX7 94 "ModelSenderModel" "sampleMany" "[I", Cond.fieldLink RX7 97 "ModelSenderModel" "sampleRounds" "[I", Cond.fieldLink RX7 100 "ModelSenderModel" "sampleRate" "[I", Cond.methodLink RX7 239 yX7_letsGo, Cond.instanceMethod yX7_letsGo, Cond.selects RX7 yX7_letsGo yX7_letsGo, Cond.code yX7_letsGo cX7_letsGo 4 none, Cond.methodLink RX7 206 yX7_greatestFrom, Cond.instanceMethod yX7_greatestFrom, Cond.selects RX7 yX7_greatestFrom yX7_greatestFrom, Cond.code yX7_greatestFrom cX7_greatestFrom 6 (some .int), Cond.methodLink RX7 242 yX7_changesState, Cond.instanceMethod yX7_changesState, Cond.selects RX7 yX7_changesState yX7_changesState, Cond.code yX7_changesState cX7_changesState 5 none, Cond.fieldLink RX7 103 "ModelSenderModel" "stateOf" "[I", Cond.fieldLink RX7 118 "ModelSenderModel" "isFull" "[Z"]
def wsX7_takesAll_r3 : List Cond := [Cond.fieldLink RX7 106 "ModelSenderModel" "phaseOf" "[I", Cond.fieldLink RX7 115 "ModelSenderModel" "endOf" "[I", Cond.methodLink RX7 219 yX7_starts, Cond.instanceMethod yX7_starts, Cond.selects RX7 yX7_starts yX7_starts, Cond.code yX7_starts cX7_starts 4 none, Cond.constantLong RX7 185 (100), Cond.constantLong RX7 209 (125), Cond.fieldLink RX7 121 "ModelSenderModel" "topOf" "[I", Cond.fieldLink RX7 124 "ModelSenderModel" "flatOf" "[I", Cond.methodLink RX7 213 yX7_comesTo, Cond.instanceMethod yX7_comesTo, Cond.selects RX7 yX7_comesTo yX7_comesTo, Cond.code yX7_comesTo cX7_comesTo 4 none, Cond.fieldLink RX7 127 "ModelSenderModel" "turnMany" "[I", Cond.fieldLink RX7 130 "ModelSenderModel" "turnTick" "[I", Cond.fieldLink RX7 133 "ModelSenderModel" "turnState" "[I", Cond.methodLink RX7 179 yX7_product, Cond.instanceMethod yX7_product, Cond.selects RX7 yX7_product yX7_product, Cond.code yX7_product cX7_product 2 (some .long), Cond.constantLong RX7 171 (1000), Cond.methodLink RX7 216 yX7_comesToPhase, Cond.instanceMethod yX7_comesToPhase]
def wsX7_takesAll_r4 : List Cond := [Cond.selects RX7 yX7_comesToPhase yX7_comesToPhase, Cond.code yX7_comesToPhase cX7_comesToPhase 3 none, Cond.fieldLink RX7 109 "ModelSenderModel" "since" "[I", Cond.fieldLink RX7 112 "ModelSenderModel" "lossesThen" "[I", Cond.fieldLink RX7 88 "ModelSenderModel" "losses" "[I", Cond.methodLink RX7 223 yX7_isPhaseOver, Cond.instanceMethod yX7_isPhaseOver, Cond.selects RX7 yX7_isPhaseOver yX7_isPhaseOver, Cond.code yX7_isPhaseOver cX7_isPhaseOver 3 (some .boolean), Cond.constantLong RX7 173 (4), Cond.constantLong RX7 211 (5), Cond.methodLink RX7 226 yX7_probes, Cond.instanceMethod yX7_probes, Cond.selects RX7 yX7_probes yX7_probes, Cond.code yX7_probes cX7_probes 2 none]
def wsX7_takesAll : List Cond := .code yX7_takesAll cX7_takesAll 3 none :: ((wsX7_takesAll_r1 ++ (wsX7_takesAll_r2 ++ (wsX7_takesAll_r3 ++ wsX7_takesAll_r4))) ++ wsX70)
def wsX7_ticks_r1 : List Cond := [Cond.fieldLink RX7 19 "ModelSenderModel" "servedOf" "I", Cond.fieldLink RX7 149 "ModelSenderModel" "servedTill" "I", Cond.fieldLink RX7 146 "ModelSenderModel" "now" "I", Cond.fieldLink RX7 140 "ModelSenderModel" "every" "I", Cond.fieldLink RX7 255 "ModelSenderModel" "guestsDropped" "I", Cond.fieldLink RX7 261 "ModelSenderModel" "busyTicks" "I", Cond.methodLink RX7 249 yX7_takesAll, Cond.instanceMethod yX7_takesAll, Cond.selects RX7 yX7_takesAll yX7_takesAll, Cond.initialized RX7, Cond.code yX7_takesAll cX7_takesAll 3 none, Cond.fieldLink RX7 32 "ModelSenderModel" "onWay" "[I", Cond.fieldLink RX7 51 "ModelSenderModel" "dueOf" "[I", Cond.methodLink RX7 246 yX7_takes, Cond.instanceMethod yX7_takes, Cond.selects RX7 yX7_takes yX7_takes, Cond.code yX7_takes cX7_takes 12 none, Cond.fieldLink RX7 38 "ModelSenderModel" "sentAt" "[I", Cond.fieldLink RX7 41 "ModelSenderModel" "deliveredThen" "[I", Cond.fieldLink RX7 44 "ModelSenderModel" "atThen" "[I", Cond.fieldLink RX7 47 "ModelSenderModel" "isLimited" "[Z", Cond.fieldLink RX7 233 "ModelSenderModel" "taken" "I", Cond.fieldLink RX7 60 "ModelSenderModel" "delivered" "[I", Cond.fieldLink RX7 63 "ModelSenderModel" "lastAt" "[I"]
def wsX7_ticks_r2 : List Cond := [Cond.fieldLink RX7 66 "ModelSenderModel" "limitOf" "[I", Cond.fieldLink RX7 72 "ModelSenderModel" "markOf" "[I", Cond.fieldLink RX7 69 "ModelSenderModel" "rounds" "[I", Cond.fieldLink RX7 75 "ModelSenderModel" "bestOf" "[I", Cond.fieldLink RX7 78 "ModelSenderModel" "leastOf" "[I", Cond.fieldLink RX7 81 "ModelSenderModel" "leastAt" "[I", Cond.methodLink RX7 230 yX7_takesOff, Cond.instanceMethod yX7_takesOff, Cond.selects RX7 yX7_takesOff yX7_takesOff, Cond.code yX7_takesOff cX7_takesOff 5 none, Cond.fieldLink RX7 35 "ModelSenderModel" "numberOf" "[I", Cond.methodLink RX7 236 yX7_keepsSample, Cond.instanceMethod yX7_keepsSample, Cond.selects RX7 yX7_keepsSample yX7_keepsSample, Cond.code yX7_keepsSample cX7_keepsSample 4 none, Cond.fieldLink RX7 91 "ModelSenderModel" "sampleFirst" "[I", Cond.fieldLink RX7 94 "ModelSenderModel" "sampleMany" "[I", Cond.fieldLink RX7 97 "ModelSenderModel" "sampleRounds" "[I", Cond.fieldLink RX7 100 "ModelSenderModel" "sampleRate" "[I", Cond.methodLink RX7 239 yX7_letsGo, Cond.instanceMethod yX7_letsGo, Cond.selects RX7 yX7_letsGo yX7_letsGo, Cond.code yX7_letsGo cX7_letsGo 4 none, Cond.methodLink RX7 206 yX7_greatestFrom]
def wsX7_ticks_r3 : List Cond := [Cond.instanceMethod yX7_greatestFrom, Cond.selects RX7 yX7_greatestFrom yX7_greatestFrom, Cond.code yX7_greatestFrom cX7_greatestFrom 6 (some .int), Cond.methodLink RX7 242 yX7_changesState, Cond.instanceMethod yX7_changesState, Cond.selects RX7 yX7_changesState yX7_changesState, Cond.code yX7_changesState cX7_changesState 5 none, Cond.fieldLink RX7 103 "ModelSenderModel" "stateOf" "[I", Cond.fieldLink RX7 118 "ModelSenderModel" "isFull" "[Z", Cond.fieldLink RX7 106 "ModelSenderModel" "phaseOf" "[I", Cond.fieldLink RX7 115 "ModelSenderModel" "endOf" "[I", Cond.methodLink RX7 219 yX7_starts, Cond.instanceMethod yX7_starts, Cond.selects RX7 yX7_starts yX7_starts, Cond.code yX7_starts cX7_starts 4 none, Cond.constantLong RX7 185 (100), Cond.constantLong RX7 209 (125), Cond.fieldLink RX7 121 "ModelSenderModel" "topOf" "[I", Cond.fieldLink RX7 124 "ModelSenderModel" "flatOf" "[I", Cond.methodLink RX7 213 yX7_comesTo, Cond.instanceMethod yX7_comesTo, Cond.selects RX7 yX7_comesTo yX7_comesTo, Cond.code yX7_comesTo cX7_comesTo 4 none, Cond.fieldLink RX7 127 "ModelSenderModel" "turnMany" "[I"]
def wsX7_ticks_r4 : List Cond := [Cond.fieldLink RX7 130 "ModelSenderModel" "turnTick" "[I", Cond.fieldLink RX7 133 "ModelSenderModel" "turnState" "[I", Cond.methodLink RX7 179 yX7_product, Cond.instanceMethod yX7_product, Cond.selects RX7 yX7_product yX7_product, Cond.code yX7_product cX7_product 2 (some .long), Cond.constantLong RX7 171 (1000), Cond.methodLink RX7 216 yX7_comesToPhase, Cond.instanceMethod yX7_comesToPhase, Cond.selects RX7 yX7_comesToPhase yX7_comesToPhase, Cond.code yX7_comesToPhase cX7_comesToPhase 3 none, Cond.fieldLink RX7 109 "ModelSenderModel" "since" "[I", Cond.fieldLink RX7 112 "ModelSenderModel" "lossesThen" "[I", Cond.fieldLink RX7 88 "ModelSenderModel" "losses" "[I", Cond.methodLink RX7 223 yX7_isPhaseOver, Cond.instanceMethod yX7_isPhaseOver, Cond.selects RX7 yX7_isPhaseOver yX7_isPhaseOver, Cond.code yX7_isPhaseOver cX7_isPhaseOver 3 (some .boolean), Cond.constantLong RX7 173 (4), Cond.constantLong RX7 211 (5), Cond.methodLink RX7 226 yX7_probes, Cond.instanceMethod yX7_probes, Cond.selects RX7 yX7_probes yX7_probes, Cond.code yX7_probes cX7_probes 2 none]
def wsX7_ticks_r5 : List Cond := [Cond.methodLink RX7 252 yX7_leaves, Cond.instanceMethod yX7_leaves, Cond.selects RX7 yX7_leaves yX7_leaves, Cond.code yX7_leaves cX7_leaves 2 none, Cond.fieldLink RX7 29 "ModelSenderModel" "leftOf" "[I", Cond.fieldLink RX7 143 "ModelSenderModel" "servedNumber" "I", Cond.fieldLink RX7 16 "ModelSenderModel" "delay" "I", Cond.fieldLink RX7 156 "ModelSenderModel" "waiting" "I", Cond.fieldLink RX7 22 "ModelSenderModel" "waitsOf" "[I", Cond.fieldLink RX7 26 "ModelSenderModel" "waitsNumber" "[I", Cond.methodLink RX7 162 yX7_placeOf, Cond.instanceMethod yX7_placeOf, Cond.selects RX7 yX7_placeOf yX7_placeOf, Cond.code yX7_placeOf cX7_placeOf 4 (some .int), Cond.methodLink RX7 152 yX7_serves, Cond.instanceMethod yX7_serves, Cond.selects RX7 yX7_serves yX7_serves, Cond.code yX7_serves cX7_serves 3 none, Cond.fieldLink RX7 7 "ModelSenderModel" "service" "I", Cond.methodLink RX7 190 yX7_comes, Cond.instanceMethod yX7_comes, Cond.selects RX7 yX7_comes yX7_comes, Cond.code yX7_comes cX7_comes 3 (some .boolean), Cond.fieldLink RX7 13 "ModelSenderModel" "room" "I"]
def wsX7_ticks_r6 : List Cond := [Cond.fieldLink RX7 159 "ModelSenderModel" "mostWaiting" "I", Cond.methodLink RX7 258 yX7_sendsAll, Cond.instanceMethod yX7_sendsAll, Cond.selects RX7 yX7_sendsAll yX7_sendsAll, Cond.code yX7_sendsAll cX7_sendsAll 5 none, Cond.fieldLink RX7 54 "ModelSenderModel" "stockOf" "[I", Cond.methodLink RX7 200 yX7_isOpen, Cond.instanceMethod yX7_isOpen, Cond.selects RX7 yX7_isOpen yX7_isOpen, Cond.code yX7_isOpen cX7_isOpen 2 (some .boolean), Cond.fieldLink RX7 84 "ModelSenderModel" "nextOf" "[J", Cond.methodLink RX7 187 yX7_window, Cond.instanceMethod yX7_window, Cond.selects RX7 yX7_window yX7_window, Cond.code yX7_window cX7_window 4 (some .long), Cond.constantLong RX7 175 (10), Cond.constantLong RX7 177 (2), Cond.constantLong RX7 183 (289), Cond.methodLink RX7 203 yX7_sends, Cond.instanceMethod yX7_sends, Cond.selects RX7 yX7_sends yX7_sends, Cond.code yX7_sends cX7_sends 6 (some .boolean), Cond.fieldLink RX7 57 "ModelSenderModel" "sentMany" "[I", Cond.constantLong RX7 194 (100000000)]
def wsX7_ticks_r7 : List Cond := [Cond.methodLink RX7 196 yX7_gain, Cond.instanceMethod yX7_gain, Cond.selects RX7 yX7_gain yX7_gain, Cond.code yX7_gain cX7_gain 2 (some .int)]
def wsX7_ticks : List Cond := .code yX7_ticks cX7_ticks 1 none :: ((wsX7_ticks_r1 ++ (wsX7_ticks_r2 ++ (wsX7_ticks_r3 ++ (wsX7_ticks_r4 ++ (wsX7_ticks_r5 ++ (wsX7_ticks_r6 ++ wsX7_ticks_r7)))))) ++ wsX70)
def wsX7_pass_r1 : List Cond := [Cond.fieldLink RX7 233 "ModelSenderModel" "taken" "I", Cond.methodLink RX7 136 yX7_within, Cond.static yX7_within, Cond.initialized RX7, Cond.code yX7_within cX7_within 3 (some .boolean), Cond.methodLink RX7 264 yX7_ticks, Cond.instanceMethod yX7_ticks, Cond.selects RX7 yX7_ticks yX7_ticks, Cond.code yX7_ticks cX7_ticks 1 none, Cond.fieldLink RX7 19 "ModelSenderModel" "servedOf" "I", Cond.fieldLink RX7 149 "ModelSenderModel" "servedTill" "I", Cond.fieldLink RX7 146 "ModelSenderModel" "now" "I", Cond.fieldLink RX7 140 "ModelSenderModel" "every" "I", Cond.fieldLink RX7 255 "ModelSenderModel" "guestsDropped" "I", Cond.fieldLink RX7 261 "ModelSenderModel" "busyTicks" "I", Cond.methodLink RX7 249 yX7_takesAll, Cond.instanceMethod yX7_takesAll, Cond.selects RX7 yX7_takesAll yX7_takesAll, Cond.code yX7_takesAll cX7_takesAll 3 none, Cond.fieldLink RX7 32 "ModelSenderModel" "onWay" "[I", Cond.fieldLink RX7 51 "ModelSenderModel" "dueOf" "[I", Cond.methodLink RX7 246 yX7_takes, Cond.instanceMethod yX7_takes, Cond.selects RX7 yX7_takes yX7_takes]
def wsX7_pass_r2 : List Cond := [Cond.code yX7_takes cX7_takes 12 none, Cond.fieldLink RX7 38 "ModelSenderModel" "sentAt" "[I", Cond.fieldLink RX7 41 "ModelSenderModel" "deliveredThen" "[I", Cond.fieldLink RX7 44 "ModelSenderModel" "atThen" "[I", Cond.fieldLink RX7 47 "ModelSenderModel" "isLimited" "[Z", Cond.fieldLink RX7 60 "ModelSenderModel" "delivered" "[I", Cond.fieldLink RX7 63 "ModelSenderModel" "lastAt" "[I", Cond.fieldLink RX7 66 "ModelSenderModel" "limitOf" "[I", Cond.fieldLink RX7 72 "ModelSenderModel" "markOf" "[I", Cond.fieldLink RX7 69 "ModelSenderModel" "rounds" "[I", Cond.fieldLink RX7 75 "ModelSenderModel" "bestOf" "[I", Cond.fieldLink RX7 78 "ModelSenderModel" "leastOf" "[I", Cond.fieldLink RX7 81 "ModelSenderModel" "leastAt" "[I", Cond.methodLink RX7 230 yX7_takesOff, Cond.instanceMethod yX7_takesOff, Cond.selects RX7 yX7_takesOff yX7_takesOff, Cond.code yX7_takesOff cX7_takesOff 5 none, Cond.fieldLink RX7 35 "ModelSenderModel" "numberOf" "[I", Cond.methodLink RX7 236 yX7_keepsSample, Cond.instanceMethod yX7_keepsSample, Cond.selects RX7 yX7_keepsSample yX7_keepsSample, Cond.code yX7_keepsSample cX7_keepsSample 4 none, Cond.fieldLink RX7 91 "ModelSenderModel" "sampleFirst" "[I", Cond.fieldLink RX7 94 "ModelSenderModel" "sampleMany" "[I"]
def wsX7_pass_r3 : List Cond := [Cond.fieldLink RX7 97 "ModelSenderModel" "sampleRounds" "[I", Cond.fieldLink RX7 100 "ModelSenderModel" "sampleRate" "[I", Cond.methodLink RX7 239 yX7_letsGo, Cond.instanceMethod yX7_letsGo, Cond.selects RX7 yX7_letsGo yX7_letsGo, Cond.code yX7_letsGo cX7_letsGo 4 none, Cond.methodLink RX7 206 yX7_greatestFrom, Cond.instanceMethod yX7_greatestFrom, Cond.selects RX7 yX7_greatestFrom yX7_greatestFrom, Cond.code yX7_greatestFrom cX7_greatestFrom 6 (some .int), Cond.methodLink RX7 242 yX7_changesState, Cond.instanceMethod yX7_changesState, Cond.selects RX7 yX7_changesState yX7_changesState, Cond.code yX7_changesState cX7_changesState 5 none, Cond.fieldLink RX7 103 "ModelSenderModel" "stateOf" "[I", Cond.fieldLink RX7 118 "ModelSenderModel" "isFull" "[Z", Cond.fieldLink RX7 106 "ModelSenderModel" "phaseOf" "[I", Cond.fieldLink RX7 115 "ModelSenderModel" "endOf" "[I", Cond.methodLink RX7 219 yX7_starts, Cond.instanceMethod yX7_starts, Cond.selects RX7 yX7_starts yX7_starts, Cond.code yX7_starts cX7_starts 4 none, Cond.constantLong RX7 185 (100), Cond.constantLong RX7 209 (125)]
def wsX7_pass_r4 : List Cond := [Cond.fieldLink RX7 121 "ModelSenderModel" "topOf" "[I", Cond.fieldLink RX7 124 "ModelSenderModel" "flatOf" "[I", Cond.methodLink RX7 213 yX7_comesTo, Cond.instanceMethod yX7_comesTo, Cond.selects RX7 yX7_comesTo yX7_comesTo, Cond.code yX7_comesTo cX7_comesTo 4 none, Cond.fieldLink RX7 127 "ModelSenderModel" "turnMany" "[I", Cond.fieldLink RX7 130 "ModelSenderModel" "turnTick" "[I", Cond.fieldLink RX7 133 "ModelSenderModel" "turnState" "[I", Cond.methodLink RX7 179 yX7_product, Cond.instanceMethod yX7_product, Cond.selects RX7 yX7_product yX7_product, Cond.code yX7_product cX7_product 2 (some .long), Cond.constantLong RX7 171 (1000), Cond.methodLink RX7 216 yX7_comesToPhase, Cond.instanceMethod yX7_comesToPhase, Cond.selects RX7 yX7_comesToPhase yX7_comesToPhase, Cond.code yX7_comesToPhase cX7_comesToPhase 3 none, Cond.fieldLink RX7 109 "ModelSenderModel" "since" "[I", Cond.fieldLink RX7 112 "ModelSenderModel" "lossesThen" "[I", Cond.fieldLink RX7 88 "ModelSenderModel" "losses" "[I", Cond.methodLink RX7 223 yX7_isPhaseOver, Cond.instanceMethod yX7_isPhaseOver, Cond.selects RX7 yX7_isPhaseOver yX7_isPhaseOver]
def wsX7_pass_r5 : List Cond := [Cond.code yX7_isPhaseOver cX7_isPhaseOver 3 (some .boolean), Cond.constantLong RX7 173 (4), Cond.constantLong RX7 211 (5), Cond.methodLink RX7 226 yX7_probes, Cond.instanceMethod yX7_probes, Cond.selects RX7 yX7_probes yX7_probes, Cond.code yX7_probes cX7_probes 2 none, Cond.methodLink RX7 252 yX7_leaves, Cond.instanceMethod yX7_leaves, Cond.selects RX7 yX7_leaves yX7_leaves, Cond.code yX7_leaves cX7_leaves 2 none, Cond.fieldLink RX7 29 "ModelSenderModel" "leftOf" "[I", Cond.fieldLink RX7 143 "ModelSenderModel" "servedNumber" "I", Cond.fieldLink RX7 16 "ModelSenderModel" "delay" "I", Cond.fieldLink RX7 156 "ModelSenderModel" "waiting" "I", Cond.fieldLink RX7 22 "ModelSenderModel" "waitsOf" "[I", Cond.fieldLink RX7 26 "ModelSenderModel" "waitsNumber" "[I", Cond.methodLink RX7 162 yX7_placeOf, Cond.instanceMethod yX7_placeOf, Cond.selects RX7 yX7_placeOf yX7_placeOf, Cond.code yX7_placeOf cX7_placeOf 4 (some .int), Cond.methodLink RX7 152 yX7_serves, Cond.instanceMethod yX7_serves, Cond.selects RX7 yX7_serves yX7_serves]
def wsX7_pass_r6 : List Cond := [Cond.code yX7_serves cX7_serves 3 none, Cond.fieldLink RX7 7 "ModelSenderModel" "service" "I", Cond.methodLink RX7 190 yX7_comes, Cond.instanceMethod yX7_comes, Cond.selects RX7 yX7_comes yX7_comes, Cond.code yX7_comes cX7_comes 3 (some .boolean), Cond.fieldLink RX7 13 "ModelSenderModel" "room" "I", Cond.fieldLink RX7 159 "ModelSenderModel" "mostWaiting" "I", Cond.methodLink RX7 258 yX7_sendsAll, Cond.instanceMethod yX7_sendsAll, Cond.selects RX7 yX7_sendsAll yX7_sendsAll, Cond.code yX7_sendsAll cX7_sendsAll 5 none, Cond.fieldLink RX7 54 "ModelSenderModel" "stockOf" "[I", Cond.methodLink RX7 200 yX7_isOpen, Cond.instanceMethod yX7_isOpen, Cond.selects RX7 yX7_isOpen yX7_isOpen, Cond.code yX7_isOpen cX7_isOpen 2 (some .boolean), Cond.fieldLink RX7 84 "ModelSenderModel" "nextOf" "[J", Cond.methodLink RX7 187 yX7_window, Cond.instanceMethod yX7_window, Cond.selects RX7 yX7_window yX7_window, Cond.code yX7_window cX7_window 4 (some .long), Cond.constantLong RX7 175 (10), Cond.constantLong RX7 177 (2)]
def wsX7_pass_r7 : List Cond := [Cond.constantLong RX7 183 (289), Cond.methodLink RX7 203 yX7_sends, Cond.instanceMethod yX7_sends, Cond.selects RX7 yX7_sends yX7_sends, Cond.code yX7_sends cX7_sends 6 (some .boolean), Cond.fieldLink RX7 57 "ModelSenderModel" "sentMany" "[I", Cond.constantLong RX7 194 (100000000), Cond.methodLink RX7 196 yX7_gain, Cond.instanceMethod yX7_gain, Cond.selects RX7 yX7_gain yX7_gain, Cond.code yX7_gain cX7_gain 2 (some .int)]
def wsX7_pass : List Cond := .code yX7_pass cX7_pass 4 (some .int) :: ((wsX7_pass_r1 ++ (wsX7_pass_r2 ++ (wsX7_pass_r3 ++ (wsX7_pass_r4 ++ (wsX7_pass_r5 ++ (wsX7_pass_r6 ++ wsX7_pass_r7)))))) ++ wsX70)
def wsX7_ofGate : List Cond := .code yX7_ofGate cX7_ofGate 2 (some .int) :: ([.fieldLink RX7 156 "ModelSenderModel" "waiting" "I", .fieldLink RX7 19 "ModelSenderModel" "servedOf" "I", .fieldLink RX7 29 "ModelSenderModel" "leftOf" "[I", .fieldLink RX7 255 "ModelSenderModel" "guestsDropped" "I", .fieldLink RX7 159 "ModelSenderModel" "mostWaiting" "I"] ++ wsX70)
def wsX7_busy : List Cond := .code yX7_busy cX7_busy 5 (some .long) :: ([.constantLong RX7 267 (-9223372036854775808), .fieldLink RX7 261 "ModelSenderModel" "busyTicks" "I", .fieldLink RX7 146 "ModelSenderModel" "now" "I", .methodLink RX7 136 yX7_within, .static yX7_within, .initialized RX7, .code yX7_within cX7_within 3 (some .boolean)] ++ wsX70)
def wsX7_ahead : List Cond := .code yX7_ahead cX7_ahead 4 (some .int) :: ([.fieldLink RX7 84 "ModelSenderModel" "nextOf" "[J", .constantLong RX7 171 (1000), .fieldLink RX7 146 "ModelSenderModel" "now" "I"] ++ wsX70)
def wsX7_ofSender_r1 : List Cond := [Cond.fieldLink RX7 103 "ModelSenderModel" "stateOf" "[I", Cond.fieldLink RX7 32 "ModelSenderModel" "onWay" "[I", Cond.fieldLink RX7 60 "ModelSenderModel" "delivered" "[I", Cond.fieldLink RX7 75 "ModelSenderModel" "bestOf" "[I", Cond.fieldLink RX7 78 "ModelSenderModel" "leastOf" "[I", Cond.fieldLink RX7 69 "ModelSenderModel" "rounds" "[I", Cond.fieldLink RX7 88 "ModelSenderModel" "losses" "[I", Cond.fieldLink RX7 54 "ModelSenderModel" "stockOf" "[I", Cond.fieldLink RX7 66 "ModelSenderModel" "limitOf" "[I", Cond.fieldLink RX7 57 "ModelSenderModel" "sentMany" "[I", Cond.methodLink RX7 166 yX7_isSender, Cond.static yX7_isSender, Cond.initialized RX7, Cond.code yX7_isSender cX7_isSender 1 (some .boolean), Cond.methodLink RX7 136 yX7_within, Cond.static yX7_within, Cond.code yX7_within cX7_within 3 (some .boolean), Cond.methodLink RX7 179 yX7_product, Cond.instanceMethod yX7_product, Cond.selects RX7 yX7_product yX7_product, Cond.code yX7_product cX7_product 2 (some .long), Cond.constantLong RX7 171 (1000), Cond.methodLink RX7 187 yX7_window, Cond.instanceMethod yX7_window]
def wsX7_ofSender_r2 : List Cond := [Cond.selects RX7 yX7_window yX7_window, Cond.code yX7_window cX7_window 4 (some .long), Cond.constantLong RX7 173 (4), Cond.constantLong RX7 175 (10), Cond.constantLong RX7 177 (2), Cond.constantLong RX7 183 (289), Cond.constantLong RX7 185 (100), Cond.methodLink RX7 196 yX7_gain, Cond.instanceMethod yX7_gain, Cond.selects RX7 yX7_gain yX7_gain, Cond.code yX7_gain cX7_gain 2 (some .int), Cond.fieldLink RX7 106 "ModelSenderModel" "phaseOf" "[I", Cond.methodLink RX7 269 yX7_ahead, Cond.instanceMethod yX7_ahead, Cond.selects RX7 yX7_ahead yX7_ahead, Cond.code yX7_ahead cX7_ahead 4 (some .int), Cond.fieldLink RX7 84 "ModelSenderModel" "nextOf" "[J", Cond.fieldLink RX7 146 "ModelSenderModel" "now" "I"]
def wsX7_ofSender : List Cond := .code yX7_ofSender cX7_ofSender 3 (some .int) :: ((wsX7_ofSender_r1 ++ wsX7_ofSender_r2) ++ wsX70)
def wsX7_sample : List Cond := .code yX7_sample cX7_sample 5 (some .int) :: ([.fieldLink RX7 94 "ModelSenderModel" "sampleMany" "[I", .fieldLink RX7 91 "ModelSenderModel" "sampleFirst" "[I", .fieldLink RX7 97 "ModelSenderModel" "sampleRounds" "[I", .fieldLink RX7 100 "ModelSenderModel" "sampleRate" "[I", .methodLink RX7 166 yX7_isSender, .static yX7_isSender, .initialized RX7, .code yX7_isSender cX7_isSender 1 (some .boolean), .methodLink RX7 136 yX7_within, .static yX7_within, .code yX7_within cX7_within 3 (some .boolean)] ++ wsX70)
def wsX7_best : List Cond := .code yX7_best cX7_best 3 (some .int) :: ([.fieldLink RX7 69 "ModelSenderModel" "rounds" "[I", .methodLink RX7 166 yX7_isSender, .static yX7_isSender, .initialized RX7, .code yX7_isSender cX7_isSender 1 (some .boolean), .methodLink RX7 136 yX7_within, .static yX7_within, .code yX7_within cX7_within 3 (some .boolean), .methodLink RX7 206 yX7_greatestFrom, .instanceMethod yX7_greatestFrom, .selects RX7 yX7_greatestFrom yX7_greatestFrom, .code yX7_greatestFrom cX7_greatestFrom 6 (some .int), .fieldLink RX7 94 "ModelSenderModel" "sampleMany" "[I", .fieldLink RX7 91 "ModelSenderModel" "sampleFirst" "[I", .fieldLink RX7 97 "ModelSenderModel" "sampleRounds" "[I", .fieldLink RX7 100 "ModelSenderModel" "sampleRate" "[I"] ++ wsX70)
def wsX7_letter : List Cond := .code yX7_letter cX7_letter 5 (some .int) :: ([.fieldLink RX7 32 "ModelSenderModel" "onWay" "[I", .fieldLink RX7 35 "ModelSenderModel" "numberOf" "[I", .fieldLink RX7 38 "ModelSenderModel" "sentAt" "[I", .fieldLink RX7 47 "ModelSenderModel" "isLimited" "[Z", .fieldLink RX7 51 "ModelSenderModel" "dueOf" "[I", .methodLink RX7 166 yX7_isSender, .static yX7_isSender, .initialized RX7, .code yX7_isSender cX7_isSender 1 (some .boolean), .methodLink RX7 136 yX7_within, .static yX7_within, .code yX7_within cX7_within 3 (some .boolean)] ++ wsX70)
def wsX7_phase : List Cond := .code yX7_phase cX7_phase 3 (some .int) :: ([.fieldLink RX7 103 "ModelSenderModel" "stateOf" "[I", .fieldLink RX7 106 "ModelSenderModel" "phaseOf" "[I", .fieldLink RX7 146 "ModelSenderModel" "now" "I", .fieldLink RX7 109 "ModelSenderModel" "since" "[I", .methodLink RX7 166 yX7_isSender, .static yX7_isSender, .initialized RX7, .code yX7_isSender cX7_isSender 1 (some .boolean), .methodLink RX7 136 yX7_within, .static yX7_within, .code yX7_within cX7_within 3 (some .boolean)] ++ wsX70)
def wsX7_untilEnd : List Cond := .code yX7_untilEnd cX7_untilEnd 2 (some .int) :: ([.fieldLink RX7 103 "ModelSenderModel" "stateOf" "[I", .fieldLink RX7 115 "ModelSenderModel" "endOf" "[I", .fieldLink RX7 146 "ModelSenderModel" "now" "I"] ++ wsX70)
def wsX7_model : List Cond := .code yX7_model cX7_model 3 (some .int) :: ([.fieldLink RX7 118 "ModelSenderModel" "isFull" "[Z", .fieldLink RX7 121 "ModelSenderModel" "topOf" "[I", .fieldLink RX7 124 "ModelSenderModel" "flatOf" "[I", .fieldLink RX7 146 "ModelSenderModel" "now" "I", .fieldLink RX7 81 "ModelSenderModel" "leastAt" "[I", .methodLink RX7 166 yX7_isSender, .static yX7_isSender, .initialized RX7, .code yX7_isSender cX7_isSender 1 (some .boolean), .methodLink RX7 136 yX7_within, .static yX7_within, .code yX7_within cX7_within 3 (some .boolean), .methodLink RX7 272 yX7_untilEnd, .instanceMethod yX7_untilEnd, .selects RX7 yX7_untilEnd yX7_untilEnd, .code yX7_untilEnd cX7_untilEnd 2 (some .int), .fieldLink RX7 103 "ModelSenderModel" "stateOf" "[I", .fieldLink RX7 115 "ModelSenderModel" "endOf" "[I"] ++ wsX70)
def wsX7_turn : List Cond := .code yX7_turn cX7_turn 5 (some .int) :: ([.fieldLink RX7 127 "ModelSenderModel" "turnMany" "[I", .fieldLink RX7 130 "ModelSenderModel" "turnTick" "[I", .fieldLink RX7 133 "ModelSenderModel" "turnState" "[I", .methodLink RX7 166 yX7_isSender, .static yX7_isSender, .initialized RX7, .code yX7_isSender cX7_isSender 1 (some .boolean), .methodLink RX7 136 yX7_within, .static yX7_within, .code yX7_within cX7_within 3 (some .boolean)] ++ wsX70)
def wsX7_many : List Cond := .code yX7_many cX7_many 2 (some .int) :: ([.fieldLink RX7 146 "ModelSenderModel" "now" "I", .fieldLink RX7 233 "ModelSenderModel" "taken" "I", .fieldLink RX7 88 "ModelSenderModel" "losses" "[I", .fieldLink RX7 127 "ModelSenderModel" "turnMany" "[I", .fieldLink RX7 261 "ModelSenderModel" "busyTicks" "I"] ++ wsX70)
def wsJ9_max_7cf53 : List Cond := .code yJ9_max_7cf53 cJ9_max_7cf53 2 (some .int) :: ([])
def wsJ9_max_f86c9 : List Cond := .code yJ9_max_f86c9 cJ9_max_f86c9 4 (some .long) :: ([])
def wsJ9_min_7cf53 : List Cond := .code yJ9_min_7cf53 cJ9_min_7cf53 2 (some .int) :: ([])
def wsL_law_r1 : List Cond := [Cond.classLink RL 7 RX6, Cond.instantiable RX6 6, Cond.initialized RX6, Cond.classLink RL 10 RX7, Cond.instantiable RX7 50, Cond.initialized RX7, Cond.methodLink RL 9 yX6_init, Cond.instanceMethod yX6_init, Cond.code yX6_init cX6_init 1 none, Cond.methodLink RX6 5 objectInit, Cond.instanceMethod objectInit, Cond.code objectInit ⟨#[0xb1]⟩ 1 none, Cond.classLink RX6 11 RX1, Cond.instantiable RX1 12, Cond.initialized RX1, Cond.fieldLink RX6 14 "ModelSender" "way" "LModelSender$Gate;", Cond.classLink RX6 18 RX5, Cond.instantiable RX5 16, Cond.initialized RX5, Cond.fieldLink RX6 21 "ModelSender" "zero" "LModelSender$Sender;", Cond.fieldLink RX6 25 "ModelSender" "one" "LModelSender$Sender;", Cond.instanceMethod yX1_init, Cond.code yX1_init cX1_init 1 none, Cond.methodLink RX1 3 objectInit]
def wsL_law_r2 : List Cond := [Cond.fieldLink RX1 9 "ModelSender$Gate" "service" "I", Cond.fieldLink RX1 15 "ModelSender$Gate" "room" "I", Cond.fieldLink RX1 18 "ModelSender$Gate" "delay" "I", Cond.classLink RX1 21 RX2, Cond.fieldLink RX1 23 "ModelSender$Gate" "line" "[LModelSender$Letter;", Cond.instantiable RX2 8, Cond.initialized RX2, Cond.fieldLink RX1 30 "ModelSender$Gate" "guest" "LModelSender$Letter;", Cond.methodLink RX1 27 yX2_init, Cond.instanceMethod yX2_init, Cond.code yX2_init cX2_init 2 none, Cond.methodLink RX2 1 objectInit, Cond.fieldLink RX2 7 "ModelSender$Letter" "owner" "LModelSender$Sender;", Cond.instanceMethod yX5_init, Cond.code yX5_init cX5_init 1 none, Cond.methodLink RX5 3 objectInit, Cond.classLink RX5 9 RX3, Cond.instantiable RX3 2, Cond.initialized RX3, Cond.fieldLink RX5 12 "ModelSender$Sender" "onWay" "LModelSender$OnWay;", Cond.classLink RX5 18 RX4, Cond.instantiable RX4 5, Cond.initialized RX4, Cond.fieldLink RX5 21 "ModelSender$Sender" "samples" "LModelSender$Samples;"]
def wsL_law_r3 : List Cond := [Cond.classLink RX5 25 RX0, Cond.instantiable RX0 11, Cond.initialized RX0, Cond.fieldLink RX5 28 "ModelSender$Sender" "course" "LModelSender$Course;", Cond.fieldLink RX5 32 "ModelSender$Sender" "least" "I", Cond.instanceMethod yX3_init, Cond.code yX3_init cX3_init 1 none, Cond.methodLink RX3 3 objectInit, Cond.classLink RX3 9 RX2, Cond.fieldLink RX3 11 "ModelSender$OnWay" "letters" "[LModelSender$Letter;", Cond.instanceMethod yX4_init, Cond.code yX4_init cX4_init 1 none, Cond.methodLink RX4 3 objectInit, Cond.arrayClass .int, Cond.fieldLink RX4 9 "ModelSender$Samples" "rates" "[I", Cond.fieldLink RX4 15 "ModelSender$Samples" "counts" "[I", Cond.fieldLink RX4 18 "ModelSender$Samples" "greatest" "[I", Cond.instanceMethod yX0_init, Cond.code yX0_init cX0_init 1 none, Cond.methodLink RX0 3 objectInit, Cond.fieldLink RX0 9 "ModelSender$Course" "state" "I", Cond.fieldLink RX0 15 "ModelSender$Course" "end" "I", Cond.fieldLink RX0 18 "ModelSender$Course" "turnTicks" "[I", Cond.fieldLink RX0 22 "ModelSender$Course" "turnStates" "[I"]
def wsL_law_r4 : List Cond := [Cond.methodLink RL 12 yX7_init, Cond.instanceMethod yX7_init, Cond.code yX7_init cX7_init 2 none, Cond.methodLink RX7 1 objectInit, Cond.fieldLink RX7 7 "ModelSenderModel" "service" "I", Cond.fieldLink RX7 13 "ModelSenderModel" "room" "I", Cond.fieldLink RX7 16 "ModelSenderModel" "delay" "I", Cond.fieldLink RX7 19 "ModelSenderModel" "servedOf" "I", Cond.fieldLink RX7 22 "ModelSenderModel" "waitsOf" "[I", Cond.fieldLink RX7 26 "ModelSenderModel" "waitsNumber" "[I", Cond.fieldLink RX7 29 "ModelSenderModel" "leftOf" "[I", Cond.fieldLink RX7 32 "ModelSenderModel" "onWay" "[I", Cond.fieldLink RX7 35 "ModelSenderModel" "numberOf" "[I", Cond.fieldLink RX7 38 "ModelSenderModel" "sentAt" "[I", Cond.fieldLink RX7 41 "ModelSenderModel" "deliveredThen" "[I", Cond.fieldLink RX7 44 "ModelSenderModel" "atThen" "[I", Cond.arrayClass .boolean, Cond.fieldLink RX7 47 "ModelSenderModel" "isLimited" "[Z", Cond.fieldLink RX7 51 "ModelSenderModel" "dueOf" "[I", Cond.fieldLink RX7 54 "ModelSenderModel" "stockOf" "[I", Cond.fieldLink RX7 57 "ModelSenderModel" "sentMany" "[I", Cond.fieldLink RX7 60 "ModelSenderModel" "delivered" "[I", Cond.fieldLink RX7 63 "ModelSenderModel" "lastAt" "[I", Cond.fieldLink RX7 66 "ModelSenderModel" "limitOf" "[I"]
def wsL_law_r5 : List Cond := [Cond.fieldLink RX7 69 "ModelSenderModel" "rounds" "[I", Cond.fieldLink RX7 72 "ModelSenderModel" "markOf" "[I", Cond.fieldLink RX7 75 "ModelSenderModel" "bestOf" "[I", Cond.fieldLink RX7 78 "ModelSenderModel" "leastOf" "[I", Cond.fieldLink RX7 81 "ModelSenderModel" "leastAt" "[I", Cond.arrayClass .long, Cond.fieldLink RX7 84 "ModelSenderModel" "nextOf" "[J", Cond.fieldLink RX7 88 "ModelSenderModel" "losses" "[I", Cond.fieldLink RX7 91 "ModelSenderModel" "sampleFirst" "[I", Cond.fieldLink RX7 94 "ModelSenderModel" "sampleMany" "[I", Cond.fieldLink RX7 97 "ModelSenderModel" "sampleRounds" "[I", Cond.fieldLink RX7 100 "ModelSenderModel" "sampleRate" "[I", Cond.fieldLink RX7 103 "ModelSenderModel" "stateOf" "[I", Cond.fieldLink RX7 106 "ModelSenderModel" "phaseOf" "[I", Cond.fieldLink RX7 109 "ModelSenderModel" "since" "[I", Cond.fieldLink RX7 112 "ModelSenderModel" "lossesThen" "[I", Cond.fieldLink RX7 115 "ModelSenderModel" "endOf" "[I", Cond.fieldLink RX7 118 "ModelSenderModel" "isFull" "[Z", Cond.fieldLink RX7 121 "ModelSenderModel" "topOf" "[I", Cond.fieldLink RX7 124 "ModelSenderModel" "flatOf" "[I", Cond.fieldLink RX7 127 "ModelSenderModel" "turnMany" "[I", Cond.fieldLink RX7 130 "ModelSenderModel" "turnTick" "[I", Cond.fieldLink RX7 133 "ModelSenderModel" "turnState" "[I", Cond.methodLink RL 13 yX6_gate]
def wsL_law_r6 : List Cond := [Cond.instanceMethod yX6_gate, Cond.selects RX6 yX6_gate yX6_gate, Cond.code yX6_gate cX6_gate 4 (some .int), Cond.fieldLink RX6 32 "ModelSender$Gate" "service" "I", Cond.fieldLink RX6 36 "ModelSender$Gate" "room" "I", Cond.fieldLink RX6 39 "ModelSender$Gate" "delay" "I", Cond.methodLink RX6 28 yX6_within, Cond.static yX6_within, Cond.code yX6_within cX6_within 3 (some .boolean), Cond.methodLink RL 17 yX7_gate, Cond.instanceMethod yX7_gate, Cond.selects RX7 yX7_gate yX7_gate, Cond.code yX7_gate cX7_gate 4 (some .int), Cond.methodLink RX7 136 yX7_within, Cond.static yX7_within, Cond.code yX7_within cX7_within 3 (some .boolean), Cond.methodLink RL 18 yX6_guests, Cond.instanceMethod yX6_guests, Cond.selects RX6 yX6_guests yX6_guests, Cond.code yX6_guests cX6_guests 3 (some .int), Cond.fieldLink RX6 42 "ModelSender" "every" "I", Cond.methodLink RL 22 yX7_guests, Cond.instanceMethod yX7_guests, Cond.selects RX7 yX7_guests yX7_guests]
def wsL_law_r7 : List Cond := [Cond.code yX7_guests cX7_guests 3 (some .int), Cond.fieldLink RX7 140 "ModelSenderModel" "every" "I", Cond.methodLink RL 23 yX6_stock, Cond.instanceMethod yX6_stock, Cond.selects RX6 yX6_stock yX6_stock, Cond.code yX6_stock cX6_stock 4 (some .int), Cond.fieldLink RX6 49 "ModelSender$Sender" "stock" "I", Cond.constant RX6 52 (100000), Cond.methodLink RX6 45 yX6_senderOf, Cond.instanceMethod yX6_senderOf, Cond.selects RX6 yX6_senderOf yX6_senderOf, Cond.code yX6_senderOf cX6_senderOf 2 (some (.object "ModelSender$Sender")), Cond.methodLink RL 27 yX7_stock, Cond.instanceMethod yX7_stock, Cond.selects RX7 yX7_stock yX7_stock, Cond.code yX7_stock cX7_stock 3 (some .int), Cond.constant RX7 170 (100000), Cond.methodLink RX7 166 yX7_isSender, Cond.static yX7_isSender, Cond.code yX7_isSender cX7_isSender 1 (some .boolean), Cond.methodLink RL 28 yX6_pass, Cond.instanceMethod yX6_pass, Cond.selects RX6 yX6_pass yX6_pass, Cond.code yX6_pass cX6_pass 4 (some .int)]
def wsL_law_r8 : List Cond := [Cond.methodLink RX6 53 yX6_runTick, Cond.instanceMethod yX6_runTick, Cond.selects RX6 yX6_runTick yX6_runTick, Cond.code yX6_runTick cX6_runTick 2 (some .int), Cond.fieldLink RX6 85 "ModelSender" "now" "I", Cond.fieldLink RX6 60 "ModelSender$Gate" "served" "LModelSender$Letter;", Cond.fieldLink RX6 82 "ModelSender" "busyTicks" "I", Cond.methodLink RX6 220 yX5_takeDue, Cond.instanceMethod yX5_takeDue, Cond.selects RX5 yX5_takeDue yX5_takeDue, Cond.code yX5_takeDue cX5_takeDue 6 (some .int), Cond.fieldLink RX5 78 "ModelSender$Sender" "delivered" "I", Cond.fieldLink RX5 116 "ModelSender$Letter" "hasLeft" "Z", Cond.fieldLink RX5 144 "ModelSender$Letter" "due" "I", Cond.methodLink RX5 141 yX3_at, Cond.instanceMethod yX3_at, Cond.selects RX3 yX3_at yX3_at, Cond.code yX3_at cX3_at 2 (some (.object "ModelSender$Letter")), Cond.fieldLink RX3 17 "ModelSender$OnWay" "count" "I", Cond.methodLink RX5 147 yX3_remove, Cond.instanceMethod yX3_remove, Cond.selects RX3 yX3_remove yX3_remove, Cond.code yX3_remove cX3_remove 4 none, Cond.methodLink RX3 24 yX3_at]
def wsL_law_r9 : List Cond := [Cond.methodLink RX5 150 yX5_take, Cond.instanceMethod yX5_take, Cond.selects RX5 yX5_take yX5_take, Cond.code yX5_take cX5_take 6 none, Cond.fieldLink RX5 98 "ModelSender$Sender" "at" "I", Cond.fieldLink RX5 87 "ModelSender$Sender" "limit" "I", Cond.fieldLink RX5 110 "ModelSender$Letter" "delivered" "I", Cond.fieldLink RX5 154 "ModelSender$Sender" "mark" "I", Cond.fieldLink RX5 157 "ModelSender$Sender" "rounds" "I", Cond.fieldLink RX5 166 "ModelSender$Sender" "leastAt" "I", Cond.fieldLink RX5 109 "ModelSender$Letter" "sent" "I", Cond.fieldLink RX5 112 "ModelSender$Letter" "limited" "Z", Cond.methodLink RX5 160 yX4_beginRound, Cond.instanceMethod yX4_beginRound, Cond.selects RX4 yX4_beginRound yX4_beginRound, Cond.code yX4_beginRound cX4_beginRound 3 none, Cond.fieldLink RX4 31 "ModelSender$Samples" "first" "I", Cond.fieldLink RX4 35 "ModelSender$Samples" "count" "I", Cond.methodLink RX4 21 yJ9_floorMod_7cf53, Cond.static yJ9_floorMod_7cf53, Cond.initialized RJ9, Cond.code yJ9_floorMod_7cf53 cJ9_floorMod_7cf53 3 (some .int), Cond.methodLink RX4 27 yX4_ringPlace, Cond.instanceMethod yX4_ringPlace]
def wsL_law_r10 : List Cond := [Cond.selects RX4 yX4_ringPlace yX4_ringPlace, Cond.code yX4_ringPlace cX4_ringPlace 3 (some .int), Cond.methodLink RX5 163 yX5_learnRate, Cond.instanceMethod yX5_learnRate, Cond.selects RX5 yX5_learnRate yX5_learnRate, Cond.code yX5_learnRate cX5_learnRate 4 none, Cond.fieldLink RX5 111 "ModelSender$Letter" "at" "I", Cond.methodLink RX5 84 Lib.Math.max.name, Cond.static Lib.Math.max.name, Cond.initialized "java/lang/Math", Cond.code Lib.Math.max.name Lib.Math.max.code 2 (some .int), Cond.fieldLink RX5 36 "ModelSender$Sender" "best" "I", Cond.methodLink RX5 173 yX4_keep, Cond.instanceMethod yX4_keep, Cond.selects RX4 yX4_keep yX4_keep, Cond.code yX4_keep cX4_keep 5 none, Cond.methodLink RX4 38 Lib.Math.max.name, Cond.methodLink RX5 177 yX4_greatestOfAll, Cond.instanceMethod yX4_greatestOfAll, Cond.selects RX4 yX4_greatestOfAll yX4_greatestOfAll, Cond.code yX4_greatestOfAll cX4_greatestOfAll 3 (some .int), Cond.methodLink RX5 169 yX0_follow, Cond.instanceMethod yX0_follow, Cond.selects RX0 yX0_follow yX0_follow]
def wsL_law_r11 : List Cond := [Cond.code yX0_follow cX0_follow 5 none, Cond.fieldLink RX0 31 "ModelSender$Sender" "best" "I", Cond.fieldLink RX0 40 "ModelSender$Course" "full" "Z", Cond.fieldLink RX0 48 "ModelSender$Sender" "onWay" "LModelSender$OnWay;", Cond.fieldLink RX0 52 "ModelSender$OnWay" "count" "I", Cond.fieldLink RX0 25 "ModelSender$Course" "phase" "I", Cond.methodLink RX0 36 yX0_watchTop, Cond.instanceMethod yX0_watchTop, Cond.selects RX0 yX0_watchTop yX0_watchTop, Cond.code yX0_watchTop cX0_watchTop 2 none, Cond.constantLong RX0 76 (100), Cond.constantLong RX0 78 (125), Cond.fieldLink RX0 80 "ModelSender$Course" "top" "I", Cond.fieldLink RX0 83 "ModelSender$Course" "flat" "I", Cond.methodLink RX0 44 yX0_enter, Cond.instanceMethod yX0_enter, Cond.selects RX0 yX0_enter yX0_enter, Cond.code yX0_enter cX0_enter 4 none, Cond.fieldLink RX0 105 "ModelSender$Course" "turns" "I", Cond.methodLink RX0 108 yJ9_floorMod_7cf53, Cond.methodLink RX0 57 yX5_product, Cond.instanceMethod yX5_product, Cond.selects RX5 yX5_product yX5_product, Cond.code yX5_product cX5_product 1 (some .long)]
def wsL_law_r12 : List Cond := [Cond.constantLong RX5 39 (1000), Cond.methodLink RX0 61 yX0_enterCruise, Cond.instanceMethod yX0_enterCruise, Cond.selects RX0 yX0_enterCruise yX0_enterCruise, Cond.code yX0_enterCruise cX0_enterCruise 3 none, Cond.methodLink RX0 69 yX0_beginPhase, Cond.instanceMethod yX0_beginPhase, Cond.selects RX0 yX0_beginPhase yX0_beginPhase, Cond.code yX0_beginPhase cX0_beginPhase 4 none, Cond.fieldLink RX0 86 "ModelSender$Course" "since" "I", Cond.fieldLink RX0 92 "ModelSender$Sender" "losses" "I", Cond.fieldLink RX0 95 "ModelSender$Course" "lossesBefore" "I", Cond.methodLink RX0 65 yX0_phaseIsOver, Cond.instanceMethod yX0_phaseIsOver, Cond.selects RX0 yX0_phaseIsOver yX0_phaseIsOver, Cond.code yX0_phaseIsOver cX0_phaseIsOver 6 (some .boolean), Cond.fieldLink RX0 89 "ModelSender$Sender" "least" "I", Cond.constantLong RX0 98 (4), Cond.constantLong RX0 100 (5), Cond.methodLink RX0 73 yX0_probe, Cond.instanceMethod yX0_probe, Cond.selects RX0 yX0_probe yX0_probe, Cond.code yX0_probe cX0_probe 3 none, Cond.fieldLink RX0 102 "ModelSender$Sender" "leastAt" "I"]
def wsL_law_r13 : List Cond := [Cond.methodLink RX6 223 yX1_release, Cond.instanceMethod yX1_release, Cond.selects RX1 yX1_release yX1_release, Cond.code yX1_release cX1_release 2 none, Cond.fieldLink RX1 41 "ModelSender$Gate" "served" "LModelSender$Letter;", Cond.fieldLink RX1 63 "ModelSender$Gate" "until" "I", Cond.fieldLink RX1 66 "ModelSender$Letter" "owner" "LModelSender$Sender;", Cond.fieldLink RX1 70 "ModelSender$Gate" "guestsLeft" "I", Cond.fieldLink RX1 73 "ModelSender$Sender" "left" "I", Cond.fieldLink RX1 78 "ModelSender$Letter" "hasLeft" "Z", Cond.fieldLink RX1 82 "ModelSender$Letter" "due" "I", Cond.methodLink RX1 85 yX1_serveFirstWaiting, Cond.instanceMethod yX1_serveFirstWaiting, Cond.selects RX1 yX1_serveFirstWaiting yX1_serveFirstWaiting, Cond.code yX1_serveFirstWaiting cX1_serveFirstWaiting 2 none, Cond.fieldLink RX1 51 "ModelSender$Gate" "waiting" "I", Cond.fieldLink RX1 48 "ModelSender$Gate" "head" "I", Cond.methodLink RX1 44 yX1_serve, Cond.instanceMethod yX1_serve, Cond.selects RX1 yX1_serve yX1_serve, Cond.code yX1_serve cX1_serve 3 none, Cond.methodLink RX6 227 yX1_admitGuest, Cond.instanceMethod yX1_admitGuest, Cond.selects RX1 yX1_admitGuest yX1_admitGuest]
def wsL_law_r14 : List Cond := [Cond.code yX1_admitGuest cX1_admitGuest 2 none, Cond.fieldLink RX1 38 "ModelSender$Gate" "guestsDropped" "I", Cond.methodLink RX1 34 yX1_admit, Cond.instanceMethod yX1_admit, Cond.selects RX1 yX1_admit yX1_admit, Cond.code yX1_admit cX1_admit 4 (some .boolean), Cond.fieldLink RX1 54 "ModelSender$Gate" "mostWaiting" "I", Cond.methodLink RX1 57 Lib.Math.max.name, Cond.methodLink RX6 230 yX5_sendAll, Cond.instanceMethod yX5_sendAll, Cond.selects RX5 yX5_sendAll yX5_sendAll, Cond.code yX5_sendAll cX5_sendAll 7 none, Cond.fieldLink RX5 67 "ModelSender$Sender" "stock" "I", Cond.fieldLink RX5 81 "ModelSender$OnWay" "count" "I", Cond.methodLink RX5 64 yX5_window, Cond.instanceMethod yX5_window, Cond.selects RX5 yX5_window yX5_window, Cond.code yX5_window cX5_window 3 (some .long), Cond.fieldLink RX5 41 "ModelSender$Course" "state" "I", Cond.constantLong RX5 44 (4), Cond.constantLong RX5 46 (10), Cond.constantLong RX5 48 (2), Cond.constantLong RX5 54 (289), Cond.constantLong RX5 56 (100)]
def wsL_law_r15 : List Cond := [Cond.methodLink RX5 58 Lib.MathLoose.max_long.x, Cond.static Lib.MathLoose.max_long.x, Cond.code Lib.MathLoose.max_long.x Lib.MathLoose.max_long.code 4 (some .long), Cond.methodLink RX5 50 yX5_product, Cond.methodLink RX5 70 yX5_isFree, Cond.instanceMethod yX5_isFree, Cond.selects RX5 yX5_isFree yX5_isFree, Cond.code yX5_isFree cX5_isFree 4 (some .boolean), Cond.fieldLink RX5 90 "ModelSender$Sender" "next" "J", Cond.methodLink RX5 74 yX5_sendOne, Cond.instanceMethod yX5_sendOne, Cond.selects RX5 yX5_sendOne yX5_sendOne, Cond.code yX5_sendOne cX5_sendOne 5 (some .boolean), Cond.fieldLink RX5 101 "ModelSender$Sender" "sent" "I", Cond.fieldLink RX5 104 "ModelSender$Letter" "number" "I", Cond.fieldLink RX5 128 "ModelSender$Sender" "losses" "I", Cond.methodLink RX5 94 yX3_blank, Cond.instanceMethod yX3_blank, Cond.selects RX3 yX3_blank yX3_blank, Cond.code yX3_blank cX3_blank 2 (some (.object "ModelSender$Letter")), Cond.methodLink RX3 21 yX2_init, Cond.methodLink RX5 119 yX1_admit, Cond.methodLink RX5 125 yX3_add, Cond.instanceMethod yX3_add]
def wsL_law_r16 : List Cond := [Cond.selects RX3 yX3_add yX3_add, Cond.code yX3_add cX3_add 1 none, Cond.methodLink RX5 131 yX5_putOffNext, Cond.instanceMethod yX5_putOffNext, Cond.selects RX5 yX5_putOffNext yX5_putOffNext, Cond.code yX5_putOffNext cX5_putOffNext 4 none, Cond.constantLong RX5 139 (100000000), Cond.methodLink RX5 135 yX0_gain, Cond.instanceMethod yX0_gain, Cond.selects RX0 yX0_gain yX0_gain, Cond.code yX0_gain cX0_gain 1 (some .int), Cond.methodLink RL 31 yX7_pass, Cond.instanceMethod yX7_pass, Cond.selects RX7 yX7_pass yX7_pass, Cond.code yX7_pass cX7_pass 4 (some .int), Cond.fieldLink RX7 233 "ModelSenderModel" "taken" "I", Cond.methodLink RX7 264 yX7_ticks, Cond.instanceMethod yX7_ticks, Cond.selects RX7 yX7_ticks yX7_ticks, Cond.code yX7_ticks cX7_ticks 1 none, Cond.fieldLink RX7 149 "ModelSenderModel" "servedTill" "I", Cond.fieldLink RX7 146 "ModelSenderModel" "now" "I", Cond.fieldLink RX7 255 "ModelSenderModel" "guestsDropped" "I", Cond.fieldLink RX7 261 "ModelSenderModel" "busyTicks" "I"]
def wsL_law_r17 : List Cond := [Cond.methodLink RX7 249 yX7_takesAll, Cond.instanceMethod yX7_takesAll, Cond.selects RX7 yX7_takesAll yX7_takesAll, Cond.code yX7_takesAll cX7_takesAll 3 none, Cond.methodLink RX7 246 yX7_takes, Cond.instanceMethod yX7_takes, Cond.selects RX7 yX7_takes yX7_takes, Cond.code yX7_takes cX7_takes 12 none, Cond.methodLink RX7 230 yX7_takesOff, Cond.instanceMethod yX7_takesOff, Cond.selects RX7 yX7_takesOff yX7_takesOff, Cond.code yX7_takesOff cX7_takesOff 5 none, Cond.methodLink RX7 236 yX7_keepsSample, Cond.instanceMethod yX7_keepsSample, Cond.selects RX7 yX7_keepsSample yX7_keepsSample, Cond.code yX7_keepsSample cX7_keepsSample 4 none, Cond.methodLink RX7 239 yX7_letsGo, Cond.instanceMethod yX7_letsGo, Cond.selects RX7 yX7_letsGo yX7_letsGo, Cond.code yX7_letsGo cX7_letsGo 4 none, Cond.methodLink RX7 206 yX7_greatestFrom, Cond.instanceMethod yX7_greatestFrom, Cond.selects RX7 yX7_greatestFrom yX7_greatestFrom, Cond.code yX7_greatestFrom cX7_greatestFrom 6 (some .int)]
def wsL_law_r18 : List Cond := [Cond.methodLink RX7 242 yX7_changesState, Cond.instanceMethod yX7_changesState, Cond.selects RX7 yX7_changesState yX7_changesState, Cond.code yX7_changesState cX7_changesState 5 none, Cond.methodLink RX7 219 yX7_starts, Cond.instanceMethod yX7_starts, Cond.selects RX7 yX7_starts yX7_starts, Cond.code yX7_starts cX7_starts 4 none, Cond.constantLong RX7 185 (100), Cond.constantLong RX7 209 (125), Cond.methodLink RX7 213 yX7_comesTo, Cond.instanceMethod yX7_comesTo, Cond.selects RX7 yX7_comesTo yX7_comesTo, Cond.code yX7_comesTo cX7_comesTo 4 none, Cond.methodLink RX7 179 yX7_product, Cond.instanceMethod yX7_product, Cond.selects RX7 yX7_product yX7_product, Cond.code yX7_product cX7_product 2 (some .long), Cond.constantLong RX7 171 (1000), Cond.methodLink RX7 216 yX7_comesToPhase, Cond.instanceMethod yX7_comesToPhase, Cond.selects RX7 yX7_comesToPhase yX7_comesToPhase, Cond.code yX7_comesToPhase cX7_comesToPhase 3 none, Cond.methodLink RX7 223 yX7_isPhaseOver]
def wsL_law_r19 : List Cond := [Cond.instanceMethod yX7_isPhaseOver, Cond.selects RX7 yX7_isPhaseOver yX7_isPhaseOver, Cond.code yX7_isPhaseOver cX7_isPhaseOver 3 (some .boolean), Cond.constantLong RX7 173 (4), Cond.constantLong RX7 211 (5), Cond.methodLink RX7 226 yX7_probes, Cond.instanceMethod yX7_probes, Cond.selects RX7 yX7_probes yX7_probes, Cond.code yX7_probes cX7_probes 2 none, Cond.methodLink RX7 252 yX7_leaves, Cond.instanceMethod yX7_leaves, Cond.selects RX7 yX7_leaves yX7_leaves, Cond.code yX7_leaves cX7_leaves 2 none, Cond.fieldLink RX7 143 "ModelSenderModel" "servedNumber" "I", Cond.fieldLink RX7 156 "ModelSenderModel" "waiting" "I", Cond.methodLink RX7 162 yX7_placeOf, Cond.instanceMethod yX7_placeOf, Cond.selects RX7 yX7_placeOf yX7_placeOf, Cond.code yX7_placeOf cX7_placeOf 4 (some .int), Cond.methodLink RX7 152 yX7_serves, Cond.instanceMethod yX7_serves, Cond.selects RX7 yX7_serves yX7_serves, Cond.code yX7_serves cX7_serves 3 none, Cond.methodLink RX7 190 yX7_comes]
def wsL_law_r20 : List Cond := [Cond.instanceMethod yX7_comes, Cond.selects RX7 yX7_comes yX7_comes, Cond.code yX7_comes cX7_comes 3 (some .boolean), Cond.fieldLink RX7 159 "ModelSenderModel" "mostWaiting" "I", Cond.methodLink RX7 258 yX7_sendsAll, Cond.instanceMethod yX7_sendsAll, Cond.selects RX7 yX7_sendsAll yX7_sendsAll, Cond.code yX7_sendsAll cX7_sendsAll 5 none, Cond.methodLink RX7 200 yX7_isOpen, Cond.instanceMethod yX7_isOpen, Cond.selects RX7 yX7_isOpen yX7_isOpen, Cond.code yX7_isOpen cX7_isOpen 2 (some .boolean), Cond.methodLink RX7 187 yX7_window, Cond.instanceMethod yX7_window, Cond.selects RX7 yX7_window yX7_window, Cond.code yX7_window cX7_window 4 (some .long), Cond.constantLong RX7 175 (10), Cond.constantLong RX7 177 (2), Cond.constantLong RX7 183 (289), Cond.methodLink RX7 203 yX7_sends, Cond.instanceMethod yX7_sends, Cond.selects RX7 yX7_sends yX7_sends, Cond.code yX7_sends cX7_sends 6 (some .boolean), Cond.constantLong RX7 194 (100000000)]
def wsL_law_r21 : List Cond := [Cond.methodLink RX7 196 yX7_gain, Cond.instanceMethod yX7_gain, Cond.selects RX7 yX7_gain yX7_gain, Cond.code yX7_gain cX7_gain 2 (some .int), Cond.methodLink RL 32 yX6_ofGate, Cond.instanceMethod yX6_ofGate, Cond.selects RX6 yX6_ofGate yX6_ofGate, Cond.code yX6_ofGate cX6_ofGate 2 (some .int), Cond.fieldLink RX6 57 "ModelSender$Gate" "waiting" "I", Cond.fieldLink RX6 68 "ModelSender$Sender" "left" "I", Cond.fieldLink RX6 71 "ModelSender$Gate" "guestsLeft" "I", Cond.fieldLink RX6 74 "ModelSender$Gate" "guestsDropped" "I", Cond.fieldLink RX6 77 "ModelSender$Gate" "mostWaiting" "I", Cond.methodLink RX6 64 yX6_asNumber, Cond.static yX6_asNumber, Cond.code yX6_asNumber cX6_asNumber 1 (some .int), Cond.methodLink RL 35 yX7_ofGate, Cond.instanceMethod yX7_ofGate, Cond.selects RX7 yX7_ofGate yX7_ofGate, Cond.code yX7_ofGate cX7_ofGate 2 (some .int), Cond.methodLink RL 36 yX6_busy, Cond.instanceMethod yX6_busy, Cond.selects RX6 yX6_busy yX6_busy, Cond.code yX6_busy cX6_busy 3 (some .long)]
def wsL_law_r22 : List Cond := [Cond.constantLong RX6 80 (-9223372036854775808), Cond.methodLink RX6 88 yX6_greatestDivisor, Cond.static yX6_greatestDivisor, Cond.code yX6_greatestDivisor cX6_greatestDivisor 6 (some .int), Cond.methodLink RL 40 yX7_busy, Cond.instanceMethod yX7_busy, Cond.selects RX7 yX7_busy yX7_busy, Cond.code yX7_busy cX7_busy 5 (some .long), Cond.constantLong RX7 267 (-9223372036854775808), Cond.methodLink RL 41 yX6_ofSender, Cond.instanceMethod yX6_ofSender, Cond.selects RX6 yX6_ofSender yX6_ofSender, Cond.code yX6_ofSender cX6_ofSender 4 (some .int), Cond.fieldLink RX6 92 "ModelSender$Sender" "course" "LModelSender$Course;", Cond.fieldLink RX6 96 "ModelSender$Course" "state" "I", Cond.fieldLink RX6 101 "ModelSender$Sender" "onWay" "LModelSender$OnWay;", Cond.fieldLink RX6 105 "ModelSender$OnWay" "count" "I", Cond.fieldLink RX6 110 "ModelSender$Sender" "delivered" "I", Cond.fieldLink RX6 113 "ModelSender$Sender" "best" "I", Cond.fieldLink RX6 116 "ModelSender$Sender" "least" "I", Cond.fieldLink RX6 129 "ModelSender$Sender" "rounds" "I", Cond.fieldLink RX6 132 "ModelSender$Sender" "losses" "I", Cond.fieldLink RX6 135 "ModelSender$Sender" "limit" "I", Cond.fieldLink RX6 138 "ModelSender$Sender" "sent" "I"]
def wsL_law_r23 : List Cond := [Cond.fieldLink RX6 141 "ModelSender$Sender" "next" "J", Cond.constantLong RX6 145 (1000), Cond.methodLink RX6 147 Lib.MathLoose.max_long.x, Cond.methodLink RX6 119 yX5_product, Cond.methodLink RX6 123 yX5_window, Cond.methodLink RX6 126 yX0_gain, Cond.methodLink RL 44 yX7_ofSender, Cond.instanceMethod yX7_ofSender, Cond.selects RX7 yX7_ofSender yX7_ofSender, Cond.code yX7_ofSender cX7_ofSender 3 (some .int), Cond.methodLink RX7 269 yX7_ahead, Cond.instanceMethod yX7_ahead, Cond.selects RX7 yX7_ahead yX7_ahead, Cond.code yX7_ahead cX7_ahead 4 (some .int), Cond.methodLink RL 45 yX6_sample, Cond.instanceMethod yX6_sample, Cond.selects RX6 yX6_sample yX6_sample, Cond.code yX6_sample cX6_sample 5 (some .int), Cond.fieldLink RX6 153 "ModelSender$Sender" "samples" "LModelSender$Samples;", Cond.fieldLink RX6 157 "ModelSender$Samples" "count" "I", Cond.methodLink RX6 160 yX4_roundsOf, Cond.instanceMethod yX4_roundsOf, Cond.selects RX4 yX4_roundsOf yX4_roundsOf, Cond.code yX4_roundsOf cX4_roundsOf 5 (some .int)]
def wsL_law_r24 : List Cond := [Cond.methodLink RX6 163 yX4_rateOf, Cond.instanceMethod yX4_rateOf, Cond.selects RX4 yX4_rateOf yX4_rateOf, Cond.code yX4_rateOf cX4_rateOf 3 (some .int), Cond.methodLink RL 48 yX7_sample, Cond.instanceMethod yX7_sample, Cond.selects RX7 yX7_sample yX7_sample, Cond.code yX7_sample cX7_sample 5 (some .int), Cond.methodLink RL 49 yX6_best, Cond.instanceMethod yX6_best, Cond.selects RX6 yX6_best yX6_best, Cond.code yX6_best cX6_best 4 (some .int), Cond.methodLink RX6 167 yX4_greatestOfLast, Cond.instanceMethod yX4_greatestOfLast, Cond.selects RX4 yX4_greatestOfLast yX4_greatestOfLast, Cond.code yX4_greatestOfLast cX4_greatestOfLast 6 (some .int), Cond.methodLink RL 52 yX7_best, Cond.instanceMethod yX7_best, Cond.selects RX7 yX7_best yX7_best, Cond.code yX7_best cX7_best 3 (some .int), Cond.methodLink RL 53 yX6_letter, Cond.instanceMethod yX6_letter, Cond.selects RX6 yX6_letter yX6_letter, Cond.code yX6_letter cX6_letter 6 (some .int)]
def wsL_law_r25 : List Cond := [Cond.fieldLink RX6 174 "ModelSender$Letter" "number" "I", Cond.fieldLink RX6 179 "ModelSender$Letter" "sent" "I", Cond.fieldLink RX6 180 "ModelSender$Letter" "limited" "Z", Cond.fieldLink RX6 184 "ModelSender$Letter" "hasLeft" "Z", Cond.methodLink RX6 170 yX3_at, Cond.methodLink RL 56 yX7_letter, Cond.instanceMethod yX7_letter, Cond.selects RX7 yX7_letter yX7_letter, Cond.code yX7_letter cX7_letter 5 (some .int), Cond.methodLink RL 57 yX6_phase, Cond.instanceMethod yX6_phase, Cond.selects RX6 yX6_phase yX6_phase, Cond.code yX6_phase cX6_phase 5 (some .int), Cond.fieldLink RX6 187 "ModelSender$Course" "phase" "I", Cond.fieldLink RX6 190 "ModelSender$Course" "since" "I", Cond.methodLink RL 60 yX7_phase, Cond.instanceMethod yX7_phase, Cond.selects RX7 yX7_phase yX7_phase, Cond.code yX7_phase cX7_phase 3 (some .int), Cond.methodLink RL 61 yX6_model, Cond.instanceMethod yX6_model, Cond.selects RX6 yX6_model yX6_model, Cond.code yX6_model cX6_model 4 (some .int), Cond.fieldLink RX6 193 "ModelSender$Course" "full" "Z"]
def wsL_law_r26 : List Cond := [Cond.fieldLink RX6 196 "ModelSender$Course" "top" "I", Cond.fieldLink RX6 199 "ModelSender$Course" "flat" "I", Cond.fieldLink RX6 202 "ModelSender$Sender" "leastAt" "I", Cond.methodLink RX6 205 yX0_ticksToEnd, Cond.instanceMethod yX0_ticksToEnd, Cond.selects RX0 yX0_ticksToEnd yX0_ticksToEnd, Cond.code yX0_ticksToEnd cX0_ticksToEnd 2 (some .int), Cond.methodLink RX0 114 Lib.Math.max.name, Cond.methodLink RL 64 yX7_model, Cond.instanceMethod yX7_model, Cond.selects RX7 yX7_model yX7_model, Cond.code yX7_model cX7_model 3 (some .int), Cond.methodLink RX7 272 yX7_untilEnd, Cond.instanceMethod yX7_untilEnd, Cond.selects RX7 yX7_untilEnd yX7_untilEnd, Cond.code yX7_untilEnd cX7_untilEnd 2 (some .int), Cond.methodLink RL 65 yX6_turn, Cond.instanceMethod yX6_turn, Cond.selects RX6 yX6_turn yX6_turn, Cond.code yX6_turn cX6_turn 5 (some .int), Cond.methodLink RX6 208 yX0_turnsKept, Cond.instanceMethod yX0_turnsKept, Cond.selects RX0 yX0_turnsKept yX0_turnsKept, Cond.code yX0_turnsKept cX0_turnsKept 1 (some .int)]
def wsL_law_r27 : List Cond := [Cond.methodLink RX0 117 Lib.Math.min.name, Cond.static Lib.Math.min.name, Cond.code Lib.Math.min.name Lib.Math.min.code 2 (some .int), Cond.methodLink RX6 211 yX0_turnTickOf, Cond.instanceMethod yX0_turnTickOf, Cond.selects RX0 yX0_turnTickOf yX0_turnTickOf, Cond.code yX0_turnTickOf cX0_turnTickOf 2 (some .int), Cond.methodLink RX0 120 yX0_turnPlace, Cond.instanceMethod yX0_turnPlace, Cond.selects RX0 yX0_turnPlace yX0_turnPlace, Cond.code yX0_turnPlace cX0_turnPlace 2 (some .int), Cond.methodLink RX0 124 yX0_turnsKept, Cond.methodLink RX6 214 yX0_turnStateOf, Cond.instanceMethod yX0_turnStateOf, Cond.selects RX0 yX0_turnStateOf yX0_turnStateOf, Cond.code yX0_turnStateOf cX0_turnStateOf 2 (some .int), Cond.methodLink RL 68 yX7_turn, Cond.instanceMethod yX7_turn, Cond.selects RX7 yX7_turn yX7_turn, Cond.code yX7_turn cX7_turn 5 (some .int), Cond.methodLink RL 69 yX6_many, Cond.instanceMethod yX6_many, Cond.selects RX6 yX6_many yX6_many, Cond.code yX6_many cX6_many 2 (some .int)]
def wsL_law_r28 : List Cond := [Cond.fieldLink RX6 217 "ModelSender$Course" "turns" "I", Cond.methodLink RL 72 yX7_many, Cond.instanceMethod yX7_many, Cond.selects RX7 yX7_many yX7_many, Cond.code yX7_many cX7_many 2 (some .int)]
def wsL_law : List Cond := (wsL_law_r1 ++ (wsL_law_r2 ++ (wsL_law_r3 ++ (wsL_law_r4 ++ (wsL_law_r5 ++ (wsL_law_r6 ++ (wsL_law_r7 ++ (wsL_law_r8 ++ (wsL_law_r9 ++ (wsL_law_r10 ++ (wsL_law_r11 ++ (wsL_law_r12 ++ (wsL_law_r13 ++ (wsL_law_r14 ++ (wsL_law_r15 ++ (wsL_law_r16 ++ (wsL_law_r17 ++ (wsL_law_r18 ++ (wsL_law_r19 ++ (wsL_law_r20 ++ (wsL_law_r21 ++ (wsL_law_r22 ++ (wsL_law_r23 ++ (wsL_law_r24 ++ (wsL_law_r25 ++ (wsL_law_r26 ++ (wsL_law_r27 ++ wsL_law_r28))))))))))))))))))))))))))) ++ wsX60 ++ wsX70 ++ wsX10 ++ wsX50 ++ wsX20 ++ wsX30 ++ wsX40 ++ wsX00 ++ ([] : List Cond)
end
section
set_option maxRecDepth 20000 in
theorem wsL_law_q1 : ∀ w ∈ wsL_law_r1, w ∈ lw_tbl := fun w h => (goodIn_p wsL_law_r1 [56, 59, 64] (by decide +kernel) (by decide +kernel) w h).1
set_option maxRecDepth 20000 in
theorem wsL_law_q2 : ∀ w ∈ wsL_law_r2, w ∈ lw_tbl := fun w h => (goodIn_p wsL_law_r2 [71, 154] (by decide +kernel) (by decide +kernel) w h).1
set_option maxRecDepth 20000 in
theorem wsL_law_q3 : ∀ w ∈ wsL_law_r3, w ∈ lw_tbl := fun w h => (goodIn_p wsL_law_r3 [160, 177, 201] (by decide +kernel) (by decide +kernel) w h).1
set_option maxRecDepth 20000 in
theorem wsL_law_q4 : ∀ w ∈ wsL_law_r4, w ∈ lw_tbl := fun w h => (goodIn_p wsL_law_r4 [603] (by decide +kernel) (by decide +kernel) w h).1
set_option maxRecDepth 20000 in
theorem wsL_law_q5 : ∀ w ∈ wsL_law_r5, w ∈ lw_tbl := fun w h => (goodIn_p wsL_law_r5 [] (by decide +kernel) (by decide +kernel) w h).1
set_option maxRecDepth 20000 in
theorem wsL_law_q6 : ∀ w ∈ wsL_law_r6, w ∈ lw_tbl := fun w h => (goodIn_p wsL_law_r6 [335, 338, 761, 764, 342] (by decide +kernel) (by decide +kernel) w h).1
set_option maxRecDepth 20000 in
theorem wsL_law_q7 : ∀ w ∈ wsL_law_r7, w ∈ lw_tbl := fun w h => (goodIn_p wsL_law_r7 [768, 346, 350, 772, 775, 355] (by decide +kernel) (by decide +kernel) w h).1
set_option maxRecDepth 20000 in
theorem wsL_law_q8 : ∀ w ∈ wsL_law_r8, w ∈ lw_tbl := fun w h => (goodIn_p wsL_law_r8 [359, 363, 367, 371] (by decide +kernel) (by decide +kernel) w h).1
set_option maxRecDepth 20000 in
theorem wsL_law_q9 : ∀ w ∈ wsL_law_r9, w ∈ lw_tbl := fun w h => (goodIn_p wsL_law_r9 [376, 380, 383] (by decide +kernel) (by decide +kernel) w h).1
set_option maxRecDepth 20000 in
theorem wsL_law_q10 : ∀ w ∈ wsL_law_r10, w ∈ lw_tbl := fun w h => (goodIn_p wsL_law_r10 [387, 391, 394, 398, 403] (by decide +kernel) (by decide +kernel) w h).1
set_option maxRecDepth 20000 in
theorem wsL_law_q11 : ∀ w ∈ wsL_law_r11, w ∈ lw_tbl := fun w h => (goodIn_p wsL_law_r11 [407, 411, 417, 422] (by decide +kernel) (by decide +kernel) w h).1
set_option maxRecDepth 20000 in
theorem wsL_law_q12 : ∀ w ∈ wsL_law_r12, w ∈ lw_tbl := fun w h => (goodIn_p wsL_law_r12 [427, 431, 435, 443] (by decide +kernel) (by decide +kernel) w h).1
set_option maxRecDepth 20000 in
theorem wsL_law_q13 : ∀ w ∈ wsL_law_r13, w ∈ lw_tbl := fun w h => (goodIn_p wsL_law_r13 [447, 451, 455] (by decide +kernel) (by decide +kernel) w h).1
set_option maxRecDepth 20000 in
theorem wsL_law_q14 : ∀ w ∈ wsL_law_r14, w ∈ lw_tbl := fun w h => (goodIn_p wsL_law_r14 [459, 463, 468, 472] (by decide +kernel) (by decide +kernel) w h).1
set_option maxRecDepth 20000 in
theorem wsL_law_q15 : ∀ w ∈ wsL_law_r15, w ∈ lw_tbl := fun w h => (goodIn_p wsL_law_r15 [481, 485, 489, 493] (by decide +kernel) (by decide +kernel) w h).1
set_option maxRecDepth 20000 in
theorem wsL_law_q16 : ∀ w ∈ wsL_law_r16, w ∈ lw_tbl := fun w h => (goodIn_p wsL_law_r16 [499, 503, 507, 780, 784] (by decide +kernel) (by decide +kernel) w h).1
set_option maxRecDepth 20000 in
theorem wsL_law_q17 : ∀ w ∈ wsL_law_r17, w ∈ lw_tbl := fun w h => (goodIn_p wsL_law_r17 [788, 792, 796, 800, 804, 808] (by decide +kernel) (by decide +kernel) w h).1
set_option maxRecDepth 20000 in
theorem wsL_law_q18 : ∀ w ∈ wsL_law_r18, w ∈ lw_tbl := fun w h => (goodIn_p wsL_law_r18 [812, 816, 822, 826, 831] (by decide +kernel) (by decide +kernel) w h).1
set_option maxRecDepth 20000 in
theorem wsL_law_q19 : ∀ w ∈ wsL_law_r19, w ∈ lw_tbl := fun w h => (goodIn_p wsL_law_r19 [835, 841, 845, 849, 853] (by decide +kernel) (by decide +kernel) w h).1
set_option maxRecDepth 20000 in
theorem wsL_law_q20 : ∀ w ∈ wsL_law_r20, w ∈ lw_tbl := fun w h => (goodIn_p wsL_law_r20 [857, 861, 865, 869, 876] (by decide +kernel) (by decide +kernel) w h).1
set_option maxRecDepth 20000 in
theorem wsL_law_q21 : ∀ w ∈ wsL_law_r21, w ∈ lw_tbl := fun w h => (goodIn_p wsL_law_r21 [881, 512, 515, 885, 519] (by decide +kernel) (by decide +kernel) w h).1
set_option maxRecDepth 20000 in
theorem wsL_law_q22 : ∀ w ∈ wsL_law_r22, w ∈ lw_tbl := fun w h => (goodIn_p wsL_law_r22 [523, 889, 527] (by decide +kernel) (by decide +kernel) w h).1
set_option maxRecDepth 20000 in
theorem wsL_law_q23 : ∀ w ∈ wsL_law_r23, w ∈ lw_tbl := fun w h => (goodIn_p wsL_law_r23 [894, 898, 536, 540] (by decide +kernel) (by decide +kernel) w h).1
set_option maxRecDepth 20000 in
theorem wsL_law_q24 : ∀ w ∈ wsL_law_r24, w ∈ lw_tbl := fun w h => (goodIn_p wsL_law_r24 [544, 902, 548, 552, 906, 556] (by decide +kernel) (by decide +kernel) w h).1
set_option maxRecDepth 20000 in
theorem wsL_law_q25 : ∀ w ∈ wsL_law_r25, w ∈ lw_tbl := fun w h => (goodIn_p wsL_law_r25 [910, 561, 914, 565] (by decide +kernel) (by decide +kernel) w h).1
set_option maxRecDepth 20000 in
theorem wsL_law_q26 : ∀ w ∈ wsL_law_r26, w ∈ lw_tbl := fun w h => (goodIn_p wsL_law_r26 [569, 918, 922, 574, 578] (by decide +kernel) (by decide +kernel) w h).1
set_option maxRecDepth 20000 in
theorem wsL_law_q27 : ∀ w ∈ wsL_law_r27, w ∈ lw_tbl := fun w h => (goodIn_p wsL_law_r27 [581, 585, 589, 594, 926, 598] (by decide +kernel) (by decide +kernel) w h).1
set_option maxRecDepth 20000 in
theorem wsL_law_q28 : ∀ w ∈ wsL_law_r28, w ∈ lw_tbl := fun w h => (goodIn_p wsL_law_r28 [930] (by decide +kernel) (by decide +kernel) w h).1
set_option maxRecDepth 20000 in
theorem wsL_q_wsX60 : ∀ w ∈ wsX60, w ∈ lw_tbl := by decide +kernel
set_option maxRecDepth 20000 in
theorem wsL_q_wsX70 : ∀ w ∈ wsX70, w ∈ lw_tbl := by decide +kernel
set_option maxRecDepth 20000 in
theorem wsL_q_wsX10 : ∀ w ∈ wsX10, w ∈ lw_tbl := by decide +kernel
set_option maxRecDepth 20000 in
theorem wsL_q_wsX50 : ∀ w ∈ wsX50, w ∈ lw_tbl := by decide +kernel
set_option maxRecDepth 20000 in
theorem wsL_q_wsX20 : ∀ w ∈ wsX20, w ∈ lw_tbl := by decide +kernel
set_option maxRecDepth 20000 in
theorem wsL_q_wsX30 : ∀ w ∈ wsX30, w ∈ lw_tbl := by decide +kernel
set_option maxRecDepth 20000 in
theorem wsL_q_wsX40 : ∀ w ∈ wsX40, w ∈ lw_tbl := by decide +kernel
set_option maxRecDepth 20000 in
theorem wsL_q_wsX00 : ∀ w ∈ wsX00, w ∈ lw_tbl := by decide +kernel
theorem wsL_law_in : ∀ w ∈ wsL_law, w ∈ lw_tbl := by
  show ∀ w ∈ (wsL_law_r1 ++ (wsL_law_r2 ++ (wsL_law_r3 ++ (wsL_law_r4 ++ (wsL_law_r5 ++ (wsL_law_r6 ++ (wsL_law_r7 ++ (wsL_law_r8 ++ (wsL_law_r9 ++ (wsL_law_r10 ++ (wsL_law_r11 ++ (wsL_law_r12 ++ (wsL_law_r13 ++ (wsL_law_r14 ++ (wsL_law_r15 ++ (wsL_law_r16 ++ (wsL_law_r17 ++ (wsL_law_r18 ++ (wsL_law_r19 ++ (wsL_law_r20 ++ (wsL_law_r21 ++ (wsL_law_r22 ++ (wsL_law_r23 ++ (wsL_law_r24 ++ (wsL_law_r25 ++ (wsL_law_r26 ++ (wsL_law_r27 ++ wsL_law_r28))))))))))))))))))))))))))) ++ wsX60 ++ wsX70 ++ wsX10 ++ wsX50 ++ wsX20 ++ wsX30 ++ wsX40 ++ wsX00 ++ ([] : List Cond), w ∈ lw_tbl
  exact List.forall_mem_append.mpr ⟨List.forall_mem_append.mpr ⟨List.forall_mem_append.mpr ⟨List.forall_mem_append.mpr ⟨List.forall_mem_append.mpr ⟨List.forall_mem_append.mpr ⟨List.forall_mem_append.mpr ⟨List.forall_mem_append.mpr ⟨List.forall_mem_append.mpr ⟨List.forall_mem_append.mpr ⟨wsL_law_q1, List.forall_mem_append.mpr ⟨wsL_law_q2, List.forall_mem_append.mpr ⟨wsL_law_q3, List.forall_mem_append.mpr ⟨wsL_law_q4, List.forall_mem_append.mpr ⟨wsL_law_q5, List.forall_mem_append.mpr ⟨wsL_law_q6, List.forall_mem_append.mpr ⟨wsL_law_q7, List.forall_mem_append.mpr ⟨wsL_law_q8, List.forall_mem_append.mpr ⟨wsL_law_q9, List.forall_mem_append.mpr ⟨wsL_law_q10, List.forall_mem_append.mpr ⟨wsL_law_q11, List.forall_mem_append.mpr ⟨wsL_law_q12, List.forall_mem_append.mpr ⟨wsL_law_q13, List.forall_mem_append.mpr ⟨wsL_law_q14, List.forall_mem_append.mpr ⟨wsL_law_q15, List.forall_mem_append.mpr ⟨wsL_law_q16, List.forall_mem_append.mpr ⟨wsL_law_q17, List.forall_mem_append.mpr ⟨wsL_law_q18, List.forall_mem_append.mpr ⟨wsL_law_q19, List.forall_mem_append.mpr ⟨wsL_law_q20, List.forall_mem_append.mpr ⟨wsL_law_q21, List.forall_mem_append.mpr ⟨wsL_law_q22, List.forall_mem_append.mpr ⟨wsL_law_q23, List.forall_mem_append.mpr ⟨wsL_law_q24, List.forall_mem_append.mpr ⟨wsL_law_q25, List.forall_mem_append.mpr ⟨wsL_law_q26, List.forall_mem_append.mpr ⟨wsL_law_q27, wsL_law_q28⟩⟩⟩⟩⟩⟩⟩⟩⟩⟩⟩⟩⟩⟩⟩⟩⟩⟩⟩⟩⟩⟩⟩⟩⟩⟩⟩, wsL_q_wsX60⟩, wsL_q_wsX70⟩, wsL_q_wsX10⟩, wsL_q_wsX50⟩, wsL_q_wsX20⟩, wsL_q_wsX30⟩, wsL_q_wsX40⟩, wsL_q_wsX00⟩, fun _ h => absurd h List.not_mem_nil⟩
theorem inlX0 : ∀ w ∈ wsX00, w ∈ wsL_law := fun _ h => List.mem_append_left _ (List.mem_append_right _ h)
theorem inX0 : ∀ w ∈ wsX00, w ∈ lw_tbl := fun w h => wsL_law_in w (inlX0 w h)
theorem inlX1 : ∀ w ∈ wsX10, w ∈ wsL_law := fun _ h => List.mem_append_left _ (List.mem_append_left _ (List.mem_append_left _ (List.mem_append_left _ (List.mem_append_left _ (List.mem_append_left _ (List.mem_append_right _ h))))))
theorem inX1 : ∀ w ∈ wsX10, w ∈ lw_tbl := fun w h => wsL_law_in w (inlX1 w h)
theorem inlX2 : ∀ w ∈ wsX20, w ∈ wsL_law := fun _ h => List.mem_append_left _ (List.mem_append_left _ (List.mem_append_left _ (List.mem_append_left _ (List.mem_append_right _ h))))
theorem inX2 : ∀ w ∈ wsX20, w ∈ lw_tbl := fun w h => wsL_law_in w (inlX2 w h)
theorem inlX3 : ∀ w ∈ wsX30, w ∈ wsL_law := fun _ h => List.mem_append_left _ (List.mem_append_left _ (List.mem_append_left _ (List.mem_append_right _ h)))
theorem inX3 : ∀ w ∈ wsX30, w ∈ lw_tbl := fun w h => wsL_law_in w (inlX3 w h)
theorem inlX4 : ∀ w ∈ wsX40, w ∈ wsL_law := fun _ h => List.mem_append_left _ (List.mem_append_left _ (List.mem_append_right _ h))
theorem inX4 : ∀ w ∈ wsX40, w ∈ lw_tbl := fun w h => wsL_law_in w (inlX4 w h)
theorem inlX5 : ∀ w ∈ wsX50, w ∈ wsL_law := fun _ h => List.mem_append_left _ (List.mem_append_left _ (List.mem_append_left _ (List.mem_append_left _ (List.mem_append_left _ (List.mem_append_right _ h)))))
theorem inX5 : ∀ w ∈ wsX50, w ∈ lw_tbl := fun w h => wsL_law_in w (inlX5 w h)
theorem inlX6 : ∀ w ∈ wsX60, w ∈ wsL_law := fun _ h => List.mem_append_left _ (List.mem_append_left _ (List.mem_append_left _ (List.mem_append_left _ (List.mem_append_left _ (List.mem_append_left _ (List.mem_append_left _ (List.mem_append_left _ (List.mem_append_right _ h))))))))
theorem inX6 : ∀ w ∈ wsX60, w ∈ lw_tbl := fun w h => wsL_law_in w (inlX6 w h)
theorem inlX7 : ∀ w ∈ wsX70, w ∈ wsL_law := fun _ h => List.mem_append_left _ (List.mem_append_left _ (List.mem_append_left _ (List.mem_append_left _ (List.mem_append_left _ (List.mem_append_left _ (List.mem_append_left _ (List.mem_append_right _ h)))))))
theorem inX7 : ∀ w ∈ wsX70, w ∈ lw_tbl := fun w h => wsL_law_in w (inlX7 w h)
theorem inJ9 : ∀ w ∈ wsJ90, w ∈ lw_tbl := by decide +kernel
end
section
abbrev vwCl : List vw_C := [(RX0, TX0, 11), (RX1, TX1, 12), (RX2, TX2, 8), (RX3, TX3, 2), (RX4, TX4, 5), (RX5, TX5, 16), (RX6, TX6, 6), (RX7, TX7, 50)]
end
section
/-! ===== the judgement J: the machine at pc with known locals and stack, in a world of cells; heap, places written and the locals' array are hidden in it ===== -/
def jC (p : Program) (s : State) (m : MethodId) (args : Array Value) (meth : Method) (c : Code) (cc : ByteArray) (nL : Nat) (own : String) (Ts : List Cond) (D : va_G) (tys : List (ClassId × FieldType)) (A : Nat → Prop) : Prop :=
  CallFix p m c cc nL s args Ts own ∧ va_K D vwCl tys s ∧ (∀ q, s.heap.size ≤ q → A q) ∧ meth.locks = false
def jJ (p : Program) (l : Launch) (e : Env) (R : Room) (s : State) (m : MethodId) (args : Array Value) (below : List Frame) (meth : Method) (c : Code) (cells slots : Nat) (Q : State → Prop) (D : va_G) (A : Nat → Prop) (nL : Nat) (ws : va_W) (lv : List (Nat × Value)) (pc : Nat) (st : List Value) : Prop :=
  ∀ (H : Heap) (locs : List Loc) (ls : Array Slot), va_P D vwCl ws H → va_D A ws → va_S A s.heap H locs → lv_has ls nL lv → W p l e R s m args below meth c H locs cells slots Q (F0 m pc ls st)
def jB (D : va_G) (tys : List (ClassId × FieldType)) (G : (Nat → Prop) → State → Prop) (ws : va_W) (sz : Nat) : State → Prop := fun U => U.heap.size = sz ∧ va_P D vwCl ws U.heap ∧ va_K D vwCl tys U ∧ va_D (fun _ => True) ws ∧ G (va_A ws sz) U
def jE {S : Type} (D : va_G) (tys : List (ClassId × FieldType)) (A : Nat → Prop) (F : S → va_W) : S → State → Prop := fun u t => va_P D vwCl (F u) t.heap ∧ va_K D vwCl tys t ∧ va_D A (F u)
/-- contracts: int, long, void, reference or null -/
def jMi {S : Type} (l : Launch) (D : va_G) (tys : List (ClassId × FieldType)) (G : (Nat → Prop) → State → Prop) (y : MethodName) (wy : List Cond) (rm : Room) (av : List Value) (ws : va_W) (post : Int32 → S → Prop) (F : S → va_W) (mc ms : Nat) : Prop :=
  ∀ sz : Nat, Met l y wy rm (va_Pc av (jB D tys G ws sz)) (va_Qi post (jE D tys (va_A ws sz) F) (va_A ws sz)) mc ms (va_A ws sz)
def jMl {S : Type} (l : Launch) (D : va_G) (tys : List (ClassId × FieldType)) (G : (Nat → Prop) → State → Prop) (y : MethodName) (wy : List Cond) (rm : Room) (av : List Value) (ws : va_W) (post : Int64 → S → Prop) (F : S → va_W) (mc ms : Nat) : Prop :=
  ∀ sz : Nat, Met l y wy rm (va_Pc av (jB D tys G ws sz)) (va_Ql post (jE D tys (va_A ws sz) F) (va_A ws sz)) mc ms (va_A ws sz)
def jMv {S : Type} (l : Launch) (D : va_G) (tys : List (ClassId × FieldType)) (G : (Nat → Prop) → State → Prop) (y : MethodName) (wy : List Cond) (rm : Room) (av : List Value) (ws : va_W) (post : S → Prop) (F : S → va_W) (mc ms : Nat) : Prop :=
  ∀ sz : Nat, Met l y wy rm (va_Pc av (jB D tys G ws sz)) (va_Qv post (jE D tys (va_A ws sz) F) (va_A ws sz)) mc ms (va_A ws sz)
def jMq {S : Type} (l : Launch) (D : va_G) (tys : List (ClassId × FieldType)) (G : (Nat → Prop) → State → Prop) (y : MethodName) (wy : List Cond) (rm : Room) (av : List Value) (ws : va_W) (post : Option Nat → S → Prop) (F : S → va_W) (mc ms : Nat) : Prop :=
  ∀ sz : Nat, Met l y wy rm (va_Pc av (jB D tys G ws sz)) (va_Qq post (jE D tys (va_A ws sz) F) (va_A ws sz)) mc ms (va_A ws sz)
section JR
variable {p : Program} {l : Launch} {e : Env} {R : Room} {s : State} {m : MethodId} {args : Array Value} {below : List Frame} {meth : Method} {c : Code} {cells slots : Nat} {Q : State → Prop} {D : va_G} {A : Nat → Prop} {nL : Nat} {cc : ByteArray} {own : String} {Ts : List Cond} {tys : List (ClassId × FieldType)} {ws : va_W} {lv : List (Nat × Value)} {pc : Nat} {st : List Value}
/-! locals and constants -/
theorem j_iconst (C : jC p s m args meth c cc nL own Ts D tys A) {n : Int} {v : Int32} (hdg : decode cc pc = .ok (.iconst n, 1)) (hv : Int32.ofInt n = v) (h : jJ p l e R s m args below meth c cells slots Q D A nL ws lv (pc + 1) (.int v :: st)) : jJ p l e R s m args below meth c cells slots Q D A nL ws lv pc st :=
  fun H locs ls hP hD hS hl => lv_iconst C.1.1 C.1.2.1 hdg hv (h H locs ls hP hD hS hl)
theorem j_bipush (C : jC p s m args meth c cc nL own Ts D tys A) {n : Int} {v : Int32} (hdg : decode cc pc = .ok (.bipush n, 2)) (hv : (Int8.ofInt n).toInt32 = v) (h : jJ p l e R s m args below meth c cells slots Q D A nL ws lv (pc + 2) (.int v :: st)) : jJ p l e R s m args below meth c cells slots Q D A nL ws lv pc st :=
  fun H locs ls hP hD hS hl => lv_bipush C.1.1 C.1.2.1 hdg hv (h H locs ls hP hD hS hl)
theorem j_sipush (C : jC p s m args meth c cc nL own Ts D tys A) {n : Int} {v : Int32} (hdg : decode cc pc = .ok (.sipush n, 3)) (hv : (Int16.ofInt n).toInt32 = v) (h : jJ p l e R s m args below meth c cells slots Q D A nL ws lv (pc + 3) (.int v :: st)) : jJ p l e R s m args below meth c cells slots Q D A nL ws lv pc st :=
  fun H locs ls hP hD hS hl => lv_sipush C.1.1 C.1.2.1 hdg hv (h H locs ls hP hD hS hl)
theorem j_lconst (C : jC p s m args meth c cc nL own Ts D tys A) {n : Fin 2} {v : Int64} (hdg : decode cc pc = .ok (.lconst n, 1)) (hv : Int64.ofNat (n : Nat) = v) (h : jJ p l e R s m args below meth c cells slots Q D A nL ws lv (pc + 1) (.long v :: st)) : jJ p l e R s m args below meth c cells slots Q D A nL ws lv pc st :=
  fun H locs ls hP hD hS hl => lv_lconst C.1.1 C.1.2.1 hdg hv (h H locs ls hP hD hS hl)
theorem j_ldc (C : jC p s m args meth c cc nL own Ts D tys A) {index : Nat} {v : Int32} (hdg : decode cc pc = .ok (.ldc index, 2)) (hw : Jvm.Cond.constant own index v ∈ Ts) (h : jJ p l e R s m args below meth c cells slots Q D A nL ws lv (pc + 2) (.int v :: st)) : jJ p l e R s m args below meth c cells slots Q D A nL ws lv pc st :=
  fun H locs ls hP hD hS hl => lv_ldc C.1.1 C.1.2.1 C.1.2.2.2.1 (C.1.2.2.2.2 _ hw) hdg (h H locs ls hP hD hS hl)
theorem j_ldc2 (C : jC p s m args meth c cc nL own Ts D tys A) {index : Nat} {v : Int64} (hdg : decode cc pc = .ok (.ldc2_w index, 3)) (hw : Jvm.Cond.constantLong own index v ∈ Ts) (h : jJ p l e R s m args below meth c cells slots Q D A nL ws lv (pc + 3) (.long v :: st)) : jJ p l e R s m args below meth c cells slots Q D A nL ws lv pc st :=
  fun H locs ls hP hD hS hl => lv_ldc2 C.1.1 C.1.2.1 C.1.2.2.2.1 (C.1.2.2.2.2 _ hw) hdg (h H locs ls hP hD hS hl)
theorem j_iload_n (C : jC p s m args meth c cc nL own Ts D tys A) {k : Fin 4} {i : Nat} {x : Int32} (hdg : decode cc pc = .ok (.iload_n k, 1)) (j : Nat) (hk : lv[j]? = some (i, .int x)) (hi : (k : Nat) = i) (h : jJ p l e R s m args below meth c cells slots Q D A nL ws lv (pc + 1) (.int x :: st)) : jJ p l e R s m args below meth c cells slots Q D A nL ws lv pc st :=
  fun H locs ls hP hD hS hl => lv_iload_n C.1.1 C.1.2.1 hdg hi (lv_at hl j hk) (h H locs ls hP hD hS hl)
theorem j_iload (C : jC p s m args meth c cc nL own Ts D tys A) {i : Nat} {x : Int32} (hdg : decode cc pc = .ok (.iload i, 2)) (j : Nat) (hk : lv[j]? = some (i, .int x)) (h : jJ p l e R s m args below meth c cells slots Q D A nL ws lv (pc + 2) (.int x :: st)) : jJ p l e R s m args below meth c cells slots Q D A nL ws lv pc st :=
  fun H locs ls hP hD hS hl => lv_iload C.1.1 C.1.2.1 hdg (lv_at hl j hk) (h H locs ls hP hD hS hl)
theorem j_lload_n (C : jC p s m args meth c cc nL own Ts D tys A) {k : Fin 4} {i : Nat} {x : Int64} (hdg : decode cc pc = .ok (.lload_n k, 1)) (j : Nat) (hk : lv[j]? = some (i, .long x)) (hi : (k : Nat) = i) (h : jJ p l e R s m args below meth c cells slots Q D A nL ws lv (pc + 1) (.long x :: st)) : jJ p l e R s m args below meth c cells slots Q D A nL ws lv pc st :=
  fun H locs ls hP hD hS hl => lv_lload_n C.1.1 C.1.2.1 hdg hi (lv_at hl j hk) (h H locs ls hP hD hS hl)
theorem j_lload (C : jC p s m args meth c cc nL own Ts D tys A) {i : Nat} {x : Int64} (hdg : decode cc pc = .ok (.lload i, 2)) (j : Nat) (hk : lv[j]? = some (i, .long x)) (h : jJ p l e R s m args below meth c cells slots Q D A nL ws lv (pc + 2) (.long x :: st)) : jJ p l e R s m args below meth c cells slots Q D A nL ws lv pc st :=
  fun H locs ls hP hD hS hl => lv_lload C.1.1 C.1.2.1 hdg (lv_at hl j hk) (h H locs ls hP hD hS hl)
theorem j_aload_n (C : jC p s m args meth c cc nL own Ts D tys A) {k : Fin 4} {i : Nat} {x : Nat} (hdg : decode cc pc = .ok (.aload_n k, 1)) (j : Nat) (hk : lv[j]? = some (i, .ref x)) (hi : (k : Nat) = i) (h : jJ p l e R s m args below meth c cells slots Q D A nL ws lv (pc + 1) (.ref x :: st)) : jJ p l e R s m args below meth c cells slots Q D A nL ws lv pc st :=
  fun H locs ls hP hD hS hl => lv_aload_n C.1.1 C.1.2.1 hdg hi (lv_at hl j hk) (h H locs ls hP hD hS hl)
theorem j_aload (C : jC p s m args meth c cc nL own Ts D tys A) {i : Nat} {x : Nat} (hdg : decode cc pc = .ok (.aload i, 2)) (j : Nat) (hk : lv[j]? = some (i, .ref x)) (h : jJ p l e R s m args below meth c cells slots Q D A nL ws lv (pc + 2) (.ref x :: st)) : jJ p l e R s m args below meth c cells slots Q D A nL ws lv pc st :=
  fun H locs ls hP hD hS hl => lv_aload C.1.1 C.1.2.1 hdg (lv_at hl j hk) (h H locs ls hP hD hS hl)
theorem j_aload_nN (C : jC p s m args meth c cc nL own Ts D tys A) {k : Fin 4} {i : Nat} (hdg : decode cc pc = .ok (.aload_n k, 1)) (j : Nat) (hk : lv[j]? = some (i, .null)) (hi : (k : Nat) = i) (h : jJ p l e R s m args below meth c cells slots Q D A nL ws lv (pc + 1) (.null :: st)) : jJ p l e R s m args below meth c cells slots Q D A nL ws lv pc st :=
  fun H locs ls hP hD hS hl => lv_aload_nN C.1.1 C.1.2.1 hdg hi (lv_at hl j hk) (h H locs ls hP hD hS hl)
theorem j_aloadN (C : jC p s m args meth c cc nL own Ts D tys A) {i : Nat} (hdg : decode cc pc = .ok (.aload i, 2)) (j : Nat) (hk : lv[j]? = some (i, .null)) (h : jJ p l e R s m args below meth c cells slots Q D A nL ws lv (pc + 2) (.null :: st)) : jJ p l e R s m args below meth c cells slots Q D A nL ws lv pc st :=
  fun H locs ls hP hD hS hl => lv_aloadN C.1.1 C.1.2.1 hdg (lv_at hl j hk) (h H locs ls hP hD hS hl)
theorem j_aconst_null (C : jC p s m args meth c cc nL own Ts D tys A) (hdg : decode cc pc = .ok (.aconst_null, 1)) (h : jJ p l e R s m args below meth c cells slots Q D A nL ws lv (pc + 1) (.null :: st)) : jJ p l e R s m args below meth c cells slots Q D A nL ws lv pc st :=
  fun H locs ls hP hD hS hl => lv_null C.1.1 C.1.2.1 hdg (h H locs ls hP hD hS hl)
/-! stores: the new list of locals, picked in any order -/
theorem j_istore_n (C : jC p s m args meth c cc nL own Ts D tys A) {k : Fin 4} {i : Nat} {x : Int32} {lv' : List (Nat × Value)} (ks : List Nat) (hdg : decode cc pc = .ok (.istore_n k, 1)) (hi : (k : Nat) = i) (hn : i < nL) (hl : lv_pick ((i, Value.int x) :: lv.filter (fun q => !(q.1 == i) && !(q.1 + 1 == i && q.2.category == 2))) ks = lv') (h : jJ p l e R s m args below meth c cells slots Q D A nL ws lv' (pc + 1) st) : jJ p l e R s m args below meth c cells slots Q D A nL ws lv pc (.int x :: st) :=
  fun H locs ls hP hD hS hv => lv_istore_n C.1.1 C.1.2.1 hdg hi hv hn rfl (fun ls' h' => h H locs ls' hP hD hS (lv_sub h' ks hl))
theorem j_istore (C : jC p s m args meth c cc nL own Ts D tys A) {i : Nat} {x : Int32} {lv' : List (Nat × Value)} (ks : List Nat) (hdg : decode cc pc = .ok (.istore i, 2)) (hn : i < nL) (hl : lv_pick ((i, Value.int x) :: lv.filter (fun q => !(q.1 == i) && !(q.1 + 1 == i && q.2.category == 2))) ks = lv') (h : jJ p l e R s m args below meth c cells slots Q D A nL ws lv' (pc + 2) st) : jJ p l e R s m args below meth c cells slots Q D A nL ws lv pc (.int x :: st) :=
  fun H locs ls hP hD hS hv => lv_istore C.1.1 C.1.2.1 hdg hv hn rfl (fun ls' h' => h H locs ls' hP hD hS (lv_sub h' ks hl))
theorem j_lstore_n (C : jC p s m args meth c cc nL own Ts D tys A) {k : Fin 4} {i : Nat} {x : Int64} {lv' : List (Nat × Value)} (ks : List Nat) (hdg : decode cc pc = .ok (.lstore_n k, 1)) (hi : (k : Nat) = i) (hn : i + 1 < nL) (hl : lv_pick ((i, Value.long x) :: lv.filter (fun q => !(q.1 == i) && (!(q.1 == i + 1) && !(q.1 + 1 == i && q.2.category == 2)))) ks = lv') (h : jJ p l e R s m args below meth c cells slots Q D A nL ws lv' (pc + 1) st) : jJ p l e R s m args below meth c cells slots Q D A nL ws lv pc (.long x :: st) :=
  fun H locs ls hP hD hS hv => lv_lstore_n C.1.1 C.1.2.1 hdg hi hv hn rfl (fun ls' h' => h H locs ls' hP hD hS (lv_sub h' ks hl))
theorem j_lstore (C : jC p s m args meth c cc nL own Ts D tys A) {i : Nat} {x : Int64} {lv' : List (Nat × Value)} (ks : List Nat) (hdg : decode cc pc = .ok (.lstore i, 2)) (hn : i + 1 < nL) (hl : lv_pick ((i, Value.long x) :: lv.filter (fun q => !(q.1 == i) && (!(q.1 == i + 1) && !(q.1 + 1 == i && q.2.category == 2)))) ks = lv') (h : jJ p l e R s m args below meth c cells slots Q D A nL ws lv' (pc + 2) st) : jJ p l e R s m args below meth c cells slots Q D A nL ws lv pc (.long x :: st) :=
  fun H locs ls hP hD hS hv => lv_lstore C.1.1 C.1.2.1 hdg hv hn rfl (fun ls' h' => h H locs ls' hP hD hS (lv_sub h' ks hl))
theorem j_astore_n (C : jC p s m args meth c cc nL own Ts D tys A) {k : Fin 4} {i : Nat} {x : Nat} {lv' : List (Nat × Value)} (ks : List Nat) (hdg : decode cc pc = .ok (.astore_n k, 1)) (hi : (k : Nat) = i) (hn : i < nL) (hl : lv_pick ((i, Value.ref x) :: lv.filter (fun q => !(q.1 == i) && !(q.1 + 1 == i && q.2.category == 2))) ks = lv') (h : jJ p l e R s m args below meth c cells slots Q D A nL ws lv' (pc + 1) st) : jJ p l e R s m args below meth c cells slots Q D A nL ws lv pc (.ref x :: st) :=
  fun H locs ls hP hD hS hv => lv_astore_n C.1.1 C.1.2.1 hdg hi hv hn rfl (fun ls' h' => h H locs ls' hP hD hS (lv_sub h' ks hl))
theorem j_astore (C : jC p s m args meth c cc nL own Ts D tys A) {i : Nat} {x : Nat} {lv' : List (Nat × Value)} (ks : List Nat) (hdg : decode cc pc = .ok (.astore i, 2)) (hn : i < nL) (hl : lv_pick ((i, Value.ref x) :: lv.filter (fun q => !(q.1 == i) && !(q.1 + 1 == i && q.2.category == 2))) ks = lv') (h : jJ p l e R s m args below meth c cells slots Q D A nL ws lv' (pc + 2) st) : jJ p l e R s m args below meth c cells slots Q D A nL ws lv pc (.ref x :: st) :=
  fun H locs ls hP hD hS hv => lv_astore C.1.1 C.1.2.1 hdg hv hn rfl (fun ls' h' => h H locs ls' hP hD hS (lv_sub h' ks hl))
theorem j_astore_nN (C : jC p s m args meth c cc nL own Ts D tys A) {k : Fin 4} {i : Nat} {lv' : List (Nat × Value)} (ks : List Nat) (hdg : decode cc pc = .ok (.astore_n k, 1)) (hi : (k : Nat) = i) (hn : i < nL) (hl : lv_pick ((i, Value.null) :: lv.filter (fun q => !(q.1 == i) && !(q.1 + 1 == i && q.2.category == 2))) ks = lv') (h : jJ p l e R s m args below meth c cells slots Q D A nL ws lv' (pc + 1) st) : jJ p l e R s m args below meth c cells slots Q D A nL ws lv pc (.null :: st) :=
  fun H locs ls hP hD hS hv => lv_astore_nN C.1.1 C.1.2.1 hdg hi hv hn rfl (fun ls' h' => h H locs ls' hP hD hS (lv_sub h' ks hl))
theorem j_astoreN (C : jC p s m args meth c cc nL own Ts D tys A) {i : Nat} {lv' : List (Nat × Value)} (ks : List Nat) (hdg : decode cc pc = .ok (.astore i, 2)) (hn : i < nL) (hl : lv_pick ((i, Value.null) :: lv.filter (fun q => !(q.1 == i) && !(q.1 + 1 == i && q.2.category == 2))) ks = lv') (h : jJ p l e R s m args below meth c cells slots Q D A nL ws lv' (pc + 2) st) : jJ p l e R s m args below meth c cells slots Q D A nL ws lv pc (.null :: st) :=
  fun H locs ls hP hD hS hv => lv_astoreN C.1.1 C.1.2.1 hdg hv hn rfl (fun ls' h' => h H locs ls' hP hD hS (lv_sub h' ks hl))
theorem j_iinc (C : jC p s m args meth c cc nL own Ts D tys A) {i : Nat} {n : Int} {x v : Int32} {lv' : List (Nat × Value)} (ks : List Nat) (j : Nat) (hdg : decode cc pc = .ok (.iinc i n, 3)) (hk : lv[j]? = some (i, .int x)) (hv : x + Int32.ofInt n = v) (hn : i < nL) (hl : lv_pick ((i, Value.int v) :: lv.filter (fun q => !(q.1 == i) && !(q.1 + 1 == i && q.2.category == 2))) ks = lv') (h : jJ p l e R s m args below meth c cells slots Q D A nL ws lv' (pc + 3) st) : jJ p l e R s m args below meth c cells slots Q D A nL ws lv pc st :=
  fun H locs ls hP hD hS hx => lv_iinc (v := v) C.1.1 C.1.2.1 hdg hx hk hv hn rfl (fun ls' h' => h H locs ls' hP hD hS (lv_sub h' ks hl))
/-- fewer locals, another order; a frame's pc by another sum -/
theorem j_sub {lv' : List (Nat × Value)} (ks : List Nat) (hl : lv_pick lv ks = lv') (h : jJ p l e R s m args below meth c cells slots Q D A nL ws lv' pc st) : jJ p l e R s m args below meth c cells slots Q D A nL ws lv pc st :=
  fun H locs ls hP hD hS hv => h H locs ls hP hD hS (lv_sub hv ks hl)
theorem j_ws {ws' : va_W} (he : ws = ws') (h : jJ p l e R s m args below meth c cells slots Q D A nL ws' lv pc st) : jJ p l e R s m args below meth c cells slots Q D A nL ws lv pc st := he ▸ h
theorem j_topi {x : Int32} (k : ∀ y : Int32, y = x → jJ p l e R s m args below meth c cells slots Q D A nL ws lv pc (.int y :: st)) : jJ p l e R s m args below meth c cells slots Q D A nL ws lv pc (.int x :: st) := k x rfl
theorem j_topl {x : Int64} (k : ∀ y : Int64, y = x → jJ p l e R s m args below meth c cells slots Q D A nL ws lv pc (.long y :: st)) : jJ p l e R s m args below meth c cells slots Q D A nL ws lv pc (.long x :: st) := k x rfl
end JR
end
section
section JR2
variable {p : Program} {l : Launch} {e : Env} {R : Room} {s : State} {m : MethodId} {args : Array Value} {below : List Frame} {meth : Method} {c : Code} {cells slots : Nat} {Q : State → Prop} {D : va_G} {A : Nat → Prop} {nL : Nat} {cc : ByteArray} {own : String} {Ts : List Cond} {tys : List (ClassId × FieldType)} {ws : va_W} {lv : List (Nat × Value)} {pc : Nat} {st : List Value}
theorem j_iadd (C : jC p s m args meth c cc nL own Ts D tys A) {x y : Int32} (hdg : decode cc pc = .ok (.iadd, 1)) (h : jJ p l e R s m args below meth c cells slots Q D A nL ws lv (pc + 1) (.int (x + y) :: st)) : jJ p l e R s m args below meth c cells slots Q D A nL ws lv pc (.int y :: .int x :: st) :=
  fun H locs ls hP hD hS hl => lv_iadd C.1.1 C.1.2.1 hdg (h H locs ls hP hD hS hl)
theorem j_isub (C : jC p s m args meth c cc nL own Ts D tys A) {x y : Int32} (hdg : decode cc pc = .ok (.isub, 1)) (h : jJ p l e R s m args below meth c cells slots Q D A nL ws lv (pc + 1) (.int (x - y) :: st)) : jJ p l e R s m args below meth c cells slots Q D A nL ws lv pc (.int y :: .int x :: st) :=
  fun H locs ls hP hD hS hl => lv_isub C.1.1 C.1.2.1 hdg (h H locs ls hP hD hS hl)
theorem j_imul (C : jC p s m args meth c cc nL own Ts D tys A) {x y : Int32} (hdg : decode cc pc = .ok (.imul, 1)) (h : jJ p l e R s m args below meth c cells slots Q D A nL ws lv (pc + 1) (.int (x * y) :: st)) : jJ p l e R s m args below meth c cells slots Q D A nL ws lv pc (.int y :: .int x :: st) :=
  fun H locs ls hP hD hS hl => lv_imul C.1.1 C.1.2.1 hdg (h H locs ls hP hD hS hl)
theorem j_ixor (C : jC p s m args meth c cc nL own Ts D tys A) {x y : Int32} (hdg : decode cc pc = .ok (.ixor, 1)) (h : jJ p l e R s m args below meth c cells slots Q D A nL ws lv (pc + 1) (.int (x ^^^ y) :: st)) : jJ p l e R s m args below meth c cells slots Q D A nL ws lv pc (.int y :: .int x :: st) :=
  fun H locs ls hP hD hS hl => lv_ixor C.1.1 C.1.2.1 hdg (h H locs ls hP hD hS hl)
theorem j_iand (C : jC p s m args meth c cc nL own Ts D tys A) {x y : Int32} (hdg : decode cc pc = .ok (.iand, 1)) (h : jJ p l e R s m args below meth c cells slots Q D A nL ws lv (pc + 1) (.int (x &&& y) :: st)) : jJ p l e R s m args below meth c cells slots Q D A nL ws lv pc (.int y :: .int x :: st) :=
  fun H locs ls hP hD hS hl => lv_iand C.1.1 C.1.2.1 hdg (h H locs ls hP hD hS hl)
theorem j_idiv (C : jC p s m args meth c cc nL own Ts D tys A) {x y : Int32} (hdg : decode cc pc = .ok (.idiv, 1)) (hne : ¬ y = 0) (h : jJ p l e R s m args below meth c cells slots Q D A nL ws lv (pc + 1) (.int (x / y) :: st)) : jJ p l e R s m args below meth c cells slots Q D A nL ws lv pc (.int y :: .int x :: st) :=
  fun H locs ls hP hD hS hl => lv_idiv C.1.1 C.1.2.1 hdg hne (h H locs ls hP hD hS hl)
theorem j_irem (C : jC p s m args meth c cc nL own Ts D tys A) {x y : Int32} (hdg : decode cc pc = .ok (.irem, 1)) (hne : ¬ y = 0) (h : jJ p l e R s m args below meth c cells slots Q D A nL ws lv (pc + 1) (.int (x - x / y * y) :: st)) : jJ p l e R s m args below meth c cells slots Q D A nL ws lv pc (.int y :: .int x :: st) :=
  fun H locs ls hP hD hS hl => lv_irem C.1.1 C.1.2.1 hdg hne (h H locs ls hP hD hS hl)
theorem j_ladd (C : jC p s m args meth c cc nL own Ts D tys A) {x y : Int64} (hdg : decode cc pc = .ok (.ladd, 1)) (h : jJ p l e R s m args below meth c cells slots Q D A nL ws lv (pc + 1) (.long (x + y) :: st)) : jJ p l e R s m args below meth c cells slots Q D A nL ws lv pc (.long y :: .long x :: st) :=
  fun H locs ls hP hD hS hl => lv_ladd C.1.1 C.1.2.1 hdg (h H locs ls hP hD hS hl)
theorem j_lsub (C : jC p s m args meth c cc nL own Ts D tys A) {x y : Int64} (hdg : decode cc pc = .ok (.lsub, 1)) (h : jJ p l e R s m args below meth c cells slots Q D A nL ws lv (pc + 1) (.long (x - y) :: st)) : jJ p l e R s m args below meth c cells slots Q D A nL ws lv pc (.long y :: .long x :: st) :=
  fun H locs ls hP hD hS hl => lv_lsub C.1.1 C.1.2.1 hdg (h H locs ls hP hD hS hl)
theorem j_lmul (C : jC p s m args meth c cc nL own Ts D tys A) {x y : Int64} (hdg : decode cc pc = .ok (.lmul, 1)) (h : jJ p l e R s m args below meth c cells slots Q D A nL ws lv (pc + 1) (.long (x * y) :: st)) : jJ p l e R s m args below meth c cells slots Q D A nL ws lv pc (.long y :: .long x :: st) :=
  fun H locs ls hP hD hS hl => lv_lmul C.1.1 C.1.2.1 hdg (h H locs ls hP hD hS hl)
theorem j_ldiv (C : jC p s m args meth c cc nL own Ts D tys A) {x y : Int64} (hdg : decode cc pc = .ok (.ldiv, 1)) (hne : ¬ y = 0) (h : jJ p l e R s m args below meth c cells slots Q D A nL ws lv (pc + 1) (.long (x / y) :: st)) : jJ p l e R s m args below meth c cells slots Q D A nL ws lv pc (.long y :: .long x :: st) :=
  fun H locs ls hP hD hS hl => lv_ldiv C.1.1 C.1.2.1 hdg hne (h H locs ls hP hD hS hl)
theorem j_lcmp (C : jC p s m args meth c cc nL own Ts D tys A) {x y : Int64} (hdg : decode cc pc = .ok (.lcmp, 1)) (h : jJ p l e R s m args below meth c cells slots Q D A nL ws lv (pc + 1) (.int (lg_cmp x y) :: st)) : jJ p l e R s m args below meth c cells slots Q D A nL ws lv pc (.long y :: .long x :: st) :=
  fun H locs ls hP hD hS hl => W.lcmp C.1.1 C.1.2.1 hdg (h H locs ls hP hD hS hl)
theorem j_i2l (C : jC p s m args meth c cc nL own Ts D tys A) {x : Int32} (hdg : decode cc pc = .ok (.i2l, 1)) (h : jJ p l e R s m args below meth c cells slots Q D A nL ws lv (pc + 1) (.long x.toInt64 :: st)) : jJ p l e R s m args below meth c cells slots Q D A nL ws lv pc (.int x :: st) :=
  fun H locs ls hP hD hS hl => lv_i2l C.1.1 C.1.2.1 hdg rfl (h H locs ls hP hD hS hl)
theorem j_l2i (C : jC p s m args meth c cc nL own Ts D tys A) {x : Int64} (hdg : decode cc pc = .ok (.l2i, 1)) (h : jJ p l e R s m args below meth c cells slots Q D A nL ws lv (pc + 1) (.int x.toInt32 :: st)) : jJ p l e R s m args below meth c cells slots Q D A nL ws lv pc (.long x :: st) :=
  fun H locs ls hP hD hS hl => lv_l2i C.1.1 C.1.2.1 hdg rfl (h H locs ls hP hD hS hl)
theorem j_dup (C : jC p s m args meth c cc nL own Ts D tys A) {v : Value} (hdg : decode cc pc = .ok (.dup, 1)) (hv : v.category = 1) (h : jJ p l e R s m args below meth c cells slots Q D A nL ws lv (pc + 1) (v :: v :: st)) : jJ p l e R s m args below meth c cells slots Q D A nL ws lv pc (v :: st) :=
  fun H locs ls hP hD hS hl => lv_dup C.1.1 C.1.2.1 hdg hv (h H locs ls hP hD hS hl)
theorem j_dup2 (C : jC p s m args meth c cc nL own Ts D tys A) {v w : Value} (hdg : decode cc pc = .ok (.dup2, 1)) (hv : v.category = 1) (hw : w.category = 1) (h : jJ p l e R s m args below meth c cells slots Q D A nL ws lv (pc + 1) (v :: w :: v :: w :: st)) : jJ p l e R s m args below meth c cells slots Q D A nL ws lv pc (v :: w :: st) :=
  fun H locs ls hP hD hS hl => lv_dup2_11 C.1.1 C.1.2.1 hdg hv hw (h H locs ls hP hD hS hl)
theorem j_dup_x1 (C : jC p s m args meth c cc nL own Ts D tys A) {v w : Value} (hdg : decode cc pc = .ok (.dup_x1, 1)) (hv : v.category = 1) (hw : w.category = 1) (h : jJ p l e R s m args below meth c cells slots Q D A nL ws lv (pc + 1) (v :: w :: v :: st)) : jJ p l e R s m args below meth c cells slots Q D A nL ws lv pc (v :: w :: st) :=
  fun H locs ls hP hD hS hl => lv_dup_x1 C.1.1 C.1.2.1 hdg hv hw (h H locs ls hP hD hS hl)
theorem j_pop (C : jC p s m args meth c cc nL own Ts D tys A) {v : Value} (hdg : decode cc pc = .ok (.pop, 1)) (hv : v.category = 1) (h : jJ p l e R s m args below meth c cells slots Q D A nL ws lv (pc + 1) st) : jJ p l e R s m args below meth c cells slots Q D A nL ws lv pc (v :: st) :=
  fun H locs ls hP hD hS hl => lv_pop C.1.1 C.1.2.1 hdg hv (h H locs ls hP hD hS hl)
theorem j_if_eq (C : jC p s m args meth c cc nL own Ts D tys A) {x : Int32} {off : Int} (tgt : Nat) (hdg : decode cc pc = .ok (.ifCond .eq off, 3)) (ht : (pc : Int) + off = (tgt : Int)) (kt : x = 0 → jJ p l e R s m args below meth c cells slots Q D A nL ws lv tgt st) (kf : ¬ x = 0 → jJ p l e R s m args below meth c cells slots Q D A nL ws lv (pc + 3) st) : jJ p l e R s m args below meth c cells slots Q D A nL ws lv pc (.int x :: st) :=
  fun H locs ls hP hD hS hl => lv_if_eq C.1.1 C.1.2.1 hdg ht (fun z => kt z H locs ls hP hD hS hl) (fun z => kf z H locs ls hP hD hS hl)
theorem j_icmp_eq (C : jC p s m args meth c cc nL own Ts D tys A) {x y : Int32} {off : Int} (tgt : Nat) (hdg : decode cc pc = .ok (.if_icmp .eq off, 3)) (ht : (pc : Int) + off = (tgt : Int)) (kt : x = y → jJ p l e R s m args below meth c cells slots Q D A nL ws lv tgt st) (kf : ¬ x = y → jJ p l e R s m args below meth c cells slots Q D A nL ws lv (pc + 3) st) : jJ p l e R s m args below meth c cells slots Q D A nL ws lv pc (.int y :: .int x :: st) :=
  fun H locs ls hP hD hS hl => lv_icmp_eq C.1.1 C.1.2.1 hdg ht (fun z => kt z H locs ls hP hD hS hl) (fun z => kf z H locs ls hP hD hS hl)
theorem j_if_ne (C : jC p s m args meth c cc nL own Ts D tys A) {x : Int32} {off : Int} (tgt : Nat) (hdg : decode cc pc = .ok (.ifCond .ne off, 3)) (ht : (pc : Int) + off = (tgt : Int)) (kt : ¬ x = 0 → jJ p l e R s m args below meth c cells slots Q D A nL ws lv tgt st) (kf : x = 0 → jJ p l e R s m args below meth c cells slots Q D A nL ws lv (pc + 3) st) : jJ p l e R s m args below meth c cells slots Q D A nL ws lv pc (.int x :: st) :=
  fun H locs ls hP hD hS hl => lv_if_ne C.1.1 C.1.2.1 hdg ht (fun z => kt z H locs ls hP hD hS hl) (fun z => kf z H locs ls hP hD hS hl)
theorem j_icmp_ne (C : jC p s m args meth c cc nL own Ts D tys A) {x y : Int32} {off : Int} (tgt : Nat) (hdg : decode cc pc = .ok (.if_icmp .ne off, 3)) (ht : (pc : Int) + off = (tgt : Int)) (kt : ¬ x = y → jJ p l e R s m args below meth c cells slots Q D A nL ws lv tgt st) (kf : x = y → jJ p l e R s m args below meth c cells slots Q D A nL ws lv (pc + 3) st) : jJ p l e R s m args below meth c cells slots Q D A nL ws lv pc (.int y :: .int x :: st) :=
  fun H locs ls hP hD hS hl => lv_icmp_ne C.1.1 C.1.2.1 hdg ht (fun z => kt z H locs ls hP hD hS hl) (fun z => kf z H locs ls hP hD hS hl)
theorem j_if_lt (C : jC p s m args meth c cc nL own Ts D tys A) {x : Int32} {off : Int} (tgt : Nat) (hdg : decode cc pc = .ok (.ifCond .lt off, 3)) (ht : (pc : Int) + off = (tgt : Int)) (kt : x < 0 → jJ p l e R s m args below meth c cells slots Q D A nL ws lv tgt st) (kf : ¬ x < 0 → jJ p l e R s m args below meth c cells slots Q D A nL ws lv (pc + 3) st) : jJ p l e R s m args below meth c cells slots Q D A nL ws lv pc (.int x :: st) :=
  fun H locs ls hP hD hS hl => lv_if_lt C.1.1 C.1.2.1 hdg ht (fun z => kt z H locs ls hP hD hS hl) (fun z => kf z H locs ls hP hD hS hl)
theorem j_icmp_lt (C : jC p s m args meth c cc nL own Ts D tys A) {x y : Int32} {off : Int} (tgt : Nat) (hdg : decode cc pc = .ok (.if_icmp .lt off, 3)) (ht : (pc : Int) + off = (tgt : Int)) (kt : x < y → jJ p l e R s m args below meth c cells slots Q D A nL ws lv tgt st) (kf : ¬ x < y → jJ p l e R s m args below meth c cells slots Q D A nL ws lv (pc + 3) st) : jJ p l e R s m args below meth c cells slots Q D A nL ws lv pc (.int y :: .int x :: st) :=
  fun H locs ls hP hD hS hl => lv_icmp_lt C.1.1 C.1.2.1 hdg ht (fun z => kt z H locs ls hP hD hS hl) (fun z => kf z H locs ls hP hD hS hl)
theorem j_if_ge (C : jC p s m args meth c cc nL own Ts D tys A) {x : Int32} {off : Int} (tgt : Nat) (hdg : decode cc pc = .ok (.ifCond .ge off, 3)) (ht : (pc : Int) + off = (tgt : Int)) (kt : 0 ≤ x → jJ p l e R s m args below meth c cells slots Q D A nL ws lv tgt st) (kf : ¬ 0 ≤ x → jJ p l e R s m args below meth c cells slots Q D A nL ws lv (pc + 3) st) : jJ p l e R s m args below meth c cells slots Q D A nL ws lv pc (.int x :: st) :=
  fun H locs ls hP hD hS hl => lv_if_ge C.1.1 C.1.2.1 hdg ht (fun z => kt z H locs ls hP hD hS hl) (fun z => kf z H locs ls hP hD hS hl)
theorem j_icmp_ge (C : jC p s m args meth c cc nL own Ts D tys A) {x y : Int32} {off : Int} (tgt : Nat) (hdg : decode cc pc = .ok (.if_icmp .ge off, 3)) (ht : (pc : Int) + off = (tgt : Int)) (kt : y ≤ x → jJ p l e R s m args below meth c cells slots Q D A nL ws lv tgt st) (kf : ¬ y ≤ x → jJ p l e R s m args below meth c cells slots Q D A nL ws lv (pc + 3) st) : jJ p l e R s m args below meth c cells slots Q D A nL ws lv pc (.int y :: .int x :: st) :=
  fun H locs ls hP hD hS hl => lv_icmp_ge C.1.1 C.1.2.1 hdg ht (fun z => kt z H locs ls hP hD hS hl) (fun z => kf z H locs ls hP hD hS hl)
theorem j_if_gt (C : jC p s m args meth c cc nL own Ts D tys A) {x : Int32} {off : Int} (tgt : Nat) (hdg : decode cc pc = .ok (.ifCond .gt off, 3)) (ht : (pc : Int) + off = (tgt : Int)) (kt : 0 < x → jJ p l e R s m args below meth c cells slots Q D A nL ws lv tgt st) (kf : ¬ 0 < x → jJ p l e R s m args below meth c cells slots Q D A nL ws lv (pc + 3) st) : jJ p l e R s m args below meth c cells slots Q D A nL ws lv pc (.int x :: st) :=
  fun H locs ls hP hD hS hl => lv_if_gt C.1.1 C.1.2.1 hdg ht (fun z => kt z H locs ls hP hD hS hl) (fun z => kf z H locs ls hP hD hS hl)
theorem j_icmp_gt (C : jC p s m args meth c cc nL own Ts D tys A) {x y : Int32} {off : Int} (tgt : Nat) (hdg : decode cc pc = .ok (.if_icmp .gt off, 3)) (ht : (pc : Int) + off = (tgt : Int)) (kt : y < x → jJ p l e R s m args below meth c cells slots Q D A nL ws lv tgt st) (kf : ¬ y < x → jJ p l e R s m args below meth c cells slots Q D A nL ws lv (pc + 3) st) : jJ p l e R s m args below meth c cells slots Q D A nL ws lv pc (.int y :: .int x :: st) :=
  fun H locs ls hP hD hS hl => lv_icmp_gt C.1.1 C.1.2.1 hdg ht (fun z => kt z H locs ls hP hD hS hl) (fun z => kf z H locs ls hP hD hS hl)
theorem j_if_le (C : jC p s m args meth c cc nL own Ts D tys A) {x : Int32} {off : Int} (tgt : Nat) (hdg : decode cc pc = .ok (.ifCond .le off, 3)) (ht : (pc : Int) + off = (tgt : Int)) (kt : x ≤ 0 → jJ p l e R s m args below meth c cells slots Q D A nL ws lv tgt st) (kf : ¬ x ≤ 0 → jJ p l e R s m args below meth c cells slots Q D A nL ws lv (pc + 3) st) : jJ p l e R s m args below meth c cells slots Q D A nL ws lv pc (.int x :: st) :=
  fun H locs ls hP hD hS hl => lv_if_le C.1.1 C.1.2.1 hdg ht (fun z => kt z H locs ls hP hD hS hl) (fun z => kf z H locs ls hP hD hS hl)
theorem j_icmp_le (C : jC p s m args meth c cc nL own Ts D tys A) {x y : Int32} {off : Int} (tgt : Nat) (hdg : decode cc pc = .ok (.if_icmp .le off, 3)) (ht : (pc : Int) + off = (tgt : Int)) (kt : x ≤ y → jJ p l e R s m args below meth c cells slots Q D A nL ws lv tgt st) (kf : ¬ x ≤ y → jJ p l e R s m args below meth c cells slots Q D A nL ws lv (pc + 3) st) : jJ p l e R s m args below meth c cells slots Q D A nL ws lv pc (.int y :: .int x :: st) :=
  fun H locs ls hP hD hS hl => lv_icmp_le C.1.1 C.1.2.1 hdg ht (fun z => kt z H locs ls hP hD hS hl) (fun z => kf z H locs ls hP hD hS hl)
theorem j_goto (C : jC p s m args meth c cc nL own Ts D tys A) {off : Int} (tgt : Nat) (hdg : decode cc pc = .ok (.goto off, 3)) (ht : (pc : Int) + off = (tgt : Int)) (h : jJ p l e R s m args below meth c cells slots Q D A nL ws lv tgt st) : jJ p l e R s m args below meth c cells slots Q D A nL ws lv pc st :=
  fun H locs ls hP hD hS hl => lv_goto C.1.1 C.1.2.1 hdg ht (h H locs ls hP hD hS hl)
theorem j_ifnull (C : jC p s m args meth c cc nL own Ts D tys A) {x : Nat} {off : Int} (hdg : decode cc pc = .ok (.ifnull off, 3)) (h : jJ p l e R s m args below meth c cells slots Q D A nL ws lv (pc + 3) st) : jJ p l e R s m args below meth c cells slots Q D A nL ws lv pc (.ref x :: st) :=
  fun H locs ls hP hD hS hl => lv_ifnull C.1.1 C.1.2.1 hdg (h H locs ls hP hD hS hl)
theorem j_ifnullN (C : jC p s m args meth c cc nL own Ts D tys A) {off : Int} (tgt : Nat) (hdg : decode cc pc = .ok (.ifnull off, 3)) (ht : (pc : Int) + off = (tgt : Int)) (h : jJ p l e R s m args below meth c cells slots Q D A nL ws lv tgt st) : jJ p l e R s m args below meth c cells slots Q D A nL ws lv pc (.null :: st) :=
  fun H locs ls hP hD hS hl => lv_ifnullN C.1.1 C.1.2.1 hdg ht (h H locs ls hP hD hS hl)
theorem j_ifnonnull (C : jC p s m args meth c cc nL own Ts D tys A) {x : Nat} {off : Int} (tgt : Nat) (hdg : decode cc pc = .ok (.ifnonnull off, 3)) (ht : (pc : Int) + off = (tgt : Int)) (h : jJ p l e R s m args below meth c cells slots Q D A nL ws lv tgt st) : jJ p l e R s m args below meth c cells slots Q D A nL ws lv pc (.ref x :: st) :=
  fun H locs ls hP hD hS hl => lv_ifnonnull C.1.1 C.1.2.1 hdg ht (h H locs ls hP hD hS hl)
theorem j_ifnonnullN (C : jC p s m args meth c cc nL own Ts D tys A) {off : Int} (hdg : decode cc pc = .ok (.ifnonnull off, 3)) (h : jJ p l e R s m args below meth c cells slots Q D A nL ws lv (pc + 3) st) : jJ p l e R s m args below meth c cells slots Q D A nL ws lv pc (.null :: st) :=
  fun H locs ls hP hD hS hl => lv_ifnonnullN C.1.1 C.1.2.1 hdg (h H locs ls hP hD hS hl)
theorem j_tableIn (C : jC p s m args meth c cc nL own Ts D tys A) {dflt lo hi : Int} {offs : Array Int} {len : Nat} {x : Int32} {off : Int} (tgt : Nat) (hdg : decode cc pc = .ok (.tableswitch dflt lo hi offs, len)) (h1 : ¬ x.toInt < lo) (h2 : ¬ hi < x.toInt) (ho : offs[(x.toInt - lo).toNat]? = some off) (ht : (pc : Int) + off = (tgt : Int)) (h : jJ p l e R s m args below meth c cells slots Q D A nL ws lv tgt st) : jJ p l e R s m args below meth c cells slots Q D A nL ws lv pc (.int x :: st) :=
  fun H locs ls hP hD hS hl => lv_tableIn C.1.1 C.1.2.1 hdg h1 h2 ho ht (h H locs ls hP hD hS hl)
theorem j_tableOut (C : jC p s m args meth c cc nL own Ts D tys A) {dflt lo hi : Int} {offs : Array Int} {len : Nat} {x : Int32} (tgt : Nat) (hdg : decode cc pc = .ok (.tableswitch dflt lo hi offs, len)) (h0 : x.toInt < lo ∨ hi < x.toInt) (ht : (pc : Int) + dflt = (tgt : Int)) (h : jJ p l e R s m args below meth c cells slots Q D A nL ws lv tgt st) : jJ p l e R s m args below meth c cells slots Q D A nL ws lv pc (.int x :: st) :=
  fun H locs ls hP hD hS hl => lv_tableOut C.1.1 C.1.2.1 hdg h0 ht (h H locs ls hP hD hS hl)
theorem j_lookup (C : jC p s m args meth c cc nL own Ts D tys A) {dflt : Int} {ps : Array (Int × Int)} {len : Nat} {x : Int32} {off : Int} (tgt : Nat) (hdg : decode cc pc = .ok (.lookupswitch dflt ps, len)) (hp : (ps.toList.zip (ps.toList.drop 1)).all (fun (a, next) => a.1 < next.1) = true) (ho : Op.lookupswitch.offset ps.toList dflt x.toInt = off) (ht : (pc : Int) + off = (tgt : Int)) (h : jJ p l e R s m args below meth c cells slots Q D A nL ws lv tgt st) : jJ p l e R s m args below meth c cells slots Q D A nL ws lv pc (.int x :: st) :=
  fun H locs ls hP hD hS hl => lv_lookup C.1.1 C.1.2.1 hdg hp ho ht (h H locs ls hP hD hS hl)
/-! fields and arrays by their places -/
theorem j_get (C : jC p s m args meth c cc nL own Ts D tys A) {ref K : String} {T : u_T} {N ci index a : Nat} (hin : ∀ w ∈ u_ws K T N, w ∈ Ts) (q0 : Nat) {fs : List Value} (he : ws[q0]? = some (a, .inr (ci, fs))) (hc : vwCl[ci]? = some (K, T, N)) (k : Nat) (hk : k < N) (hw : Cond.fieldLink own index (T k).1 (T k).2.1 (T k).2.2.1 ∈ Ts) {v : Value} (hv : fs[k]? = some v) (hdg : decode cc pc = .ok (.getfield index, 3)) (h : jJ p l e R s m args below meth c cells slots Q D A nL ws lv (pc + 3) (v :: st)) : jJ p l e R s m args below meth c cells slots Q D A nL ws lv pc (.ref a :: st) :=
  fun H locs ls hP hD hS hl => va_get C.1.1 C.1.2.1 C.1.2.2.2.2 hin C.1.2.2.2.1 C.2.1 hP q0 he hc k hk (C.1.2.2.2.2 _ hw) (fun _ z => z) hv hdg (h H locs ls hP hD hS hl)
theorem j_put (C : jC p s m args meth c cc nL own Ts D tys A) {K : String} {T : u_T} {N ci index a : Nat} (hin : ∀ w ∈ u_ws K T N, w ∈ Ts) (ty0 : Nat → FieldType) (hty : ∀ k, k < N → parseFieldDescriptor (T k).2.2.1 = some (ty0 k)) (hnm : ∀ a, a < N → ∀ b, b < N → a ≠ b → (T a).2.1 ≠ (T b).2.1) (q0 : Nat) {fs : List Value} (he : ws[q0]? = some (a, .inr (ci, fs))) (hc : vwCl[ci]? = some (K, T, N)) (k : Nat) (hk : k < N) (hw : Cond.fieldLink own index (T k).1 (T k).2.1 (T k).2.2.1 ∈ Ts) (hfin : (T k).2.2.2 = false) {v : Value} (hn : narrow (ty0 k) v = v) (hfit : fits (ty0 k) v = true) (hl0 : k < fs.length) (hdg : decode cc pc = .ok (.putfield index, 3)) (h : jJ p l e R s m args below meth c cells slots Q D A nL (ws.set q0 (a, .inr (ci, fs.set k v))) lv (pc + 3) st) : jJ p l e R s m args below meth c cells slots Q D A nL ws lv pc (v :: .ref a :: st) :=
  fun H locs ls hP hD hS hl => va_put C.1.1 C.1.2.1 C.1.2.2.2.2 hin ty0 hty hnm C.1.2.2.2.1 C.2.1 hP hD hS q0 he hc k hk (C.1.2.2.2.2 _ hw) (fun _ z => z) hfin (hty k hk) hn hfit hl0 hdg (fun H1 locs1 hP1 hD1 hS1 => h H1 locs1 ls hP1 hD1 hS1 hl)
theorem j_iald (C : jC p s m args meth c cc nL own Ts D tys A) (q0 t0 : Nat) {cA : ClassId} {n a : Nat} {f : Nat → Int32} (ha : ws[q0]? = some (a, .inl (cA, n, .inl f))) (ht : tys[t0]? = some (cA, .int)) {i : Int32} (hin : vp_in i n) (hdg : decode cc pc = .ok (.iaload, 1)) (h : jJ p l e R s m args below meth c cells slots Q D A nL ws lv (pc + 1) (.int (f i.toNatClampNeg) :: st)) : jJ p l e R s m args below meth c cells slots Q D A nL ws lv pc (.int i :: .ref a :: st) :=
  fun H locs ls hP hD hS hl => va_iald C.1.1 C.1.2.1 C.2.1 hP q0 t0 ha ht hin hdg (h H locs ls hP hD hS hl)
theorem j_zald (C : jC p s m args meth c cc nL own Ts D tys A) (q0 t0 : Nat) {cA : ClassId} {n a : Nat} {f : Nat → Int32} (ha : ws[q0]? = some (a, .inl (cA, n, .inl f))) (ht : tys[t0]? = some (cA, .boolean)) {i : Int32} (hin : vp_in i n) (hdg : decode cc pc = .ok (.baload, 1)) (h : jJ p l e R s m args below meth c cells slots Q D A nL ws lv (pc + 1) (.int (f i.toNatClampNeg) :: st)) : jJ p l e R s m args below meth c cells slots Q D A nL ws lv pc (.int i :: .ref a :: st) :=
  fun H locs ls hP hD hS hl => va_zald C.1.1 C.1.2.1 C.2.1 hP q0 t0 ha ht hin hdg (h H locs ls hP hD hS hl)
theorem j_lald (C : jC p s m args meth c cc nL own Ts D tys A) (q0 t0 : Nat) {cA : ClassId} {n a : Nat} {f : Nat → Int64} (ha : ws[q0]? = some (a, .inl (cA, n, .inr (.inl f)))) (ht : tys[t0]? = some (cA, .long)) {i : Int32} (hin : vp_in i n) (hdg : decode cc pc = .ok (.laload, 1)) (h : jJ p l e R s m args below meth c cells slots Q D A nL ws lv (pc + 1) (.long (f i.toNatClampNeg) :: st)) : jJ p l e R s m args below meth c cells slots Q D A nL ws lv pc (.int i :: .ref a :: st) :=
  fun H locs ls hP hD hS hl => va_lald C.1.1 C.1.2.1 C.2.1 hP q0 t0 ha ht hin hdg (h H locs ls hP hD hS hl)
theorem j_iast (C : jC p s m args meth c cc nL own Ts D tys A) (q0 t0 : Nat) {cA : ClassId} {n a : Nat} {f : Nat → Int32} (ha : ws[q0]? = some (a, .inl (cA, n, .inl f))) (ht : tys[t0]? = some (cA, .int)) {i : Int32} {x : Int32} (hin : vp_in i n) (hdg : decode cc pc = .ok (.iastore, 1)) (h : jJ p l e R s m args below meth c cells slots Q D A nL (ws.set q0 (a, .inl (cA, n, .inl (upd f i.toNatClampNeg x)))) lv (pc + 1) st) : jJ p l e R s m args below meth c cells slots Q D A nL ws lv pc (.int x :: .int i :: .ref a :: st) :=
  fun H locs ls hP hD hS hl => va_iast C.1.1 C.1.2.1 C.2.1 hP hD hS q0 t0 ha ht hin hdg (fun H1 locs1 hP1 hD1 hS1 => h H1 locs1 ls hP1 hD1 hS1 hl)
theorem j_zast (C : jC p s m args meth c cc nL own Ts D tys A) (q0 t0 : Nat) {cA : ClassId} {n a : Nat} {f : Nat → Int32} (ha : ws[q0]? = some (a, .inl (cA, n, .inl f))) (ht : tys[t0]? = some (cA, .boolean)) {i : Int32} {x : Int32} (hin : vp_in i n) (hdg : decode cc pc = .ok (.bastore, 1)) (h : jJ p l e R s m args below meth c cells slots Q D A nL (ws.set q0 (a, .inl (cA, n, .inl (upd f i.toNatClampNeg (vp_nar .boolean x))))) lv (pc + 1) st) : jJ p l e R s m args below meth c cells slots Q D A nL ws lv pc (.int x :: .int i :: .ref a :: st) :=
  fun H locs ls hP hD hS hl => va_zast C.1.1 C.1.2.1 C.2.1 hP hD hS q0 t0 ha ht hin hdg (fun H1 locs1 hP1 hD1 hS1 => h H1 locs1 ls hP1 hD1 hS1 hl)
theorem j_last (C : jC p s m args meth c cc nL own Ts D tys A) (q0 t0 : Nat) {cA : ClassId} {n a : Nat} {f : Nat → Int64} (ha : ws[q0]? = some (a, .inl (cA, n, .inr (.inl f)))) (ht : tys[t0]? = some (cA, .long)) {i : Int32} {x : Int64} (hin : vp_in i n) (hdg : decode cc pc = .ok (.lastore, 1)) (h : jJ p l e R s m args below meth c cells slots Q D A nL (ws.set q0 (a, .inl (cA, n, .inr (.inl (vp_updL f i.toNatClampNeg x))))) lv (pc + 1) st) : jJ p l e R s m args below meth c cells slots Q D A nL ws lv pc (.long x :: .int i :: .ref a :: st) :=
  fun H locs ls hP hD hS hl => va_last C.1.1 C.1.2.1 C.2.1 hP hD hS q0 t0 ha ht hin hdg (fun H1 locs1 hP1 hD1 hS1 => h H1 locs1 ls hP1 hD1 hS1 hl)
theorem j_alen (C : jC p s m args meth c cc nL own Ts D tys A) (q0 t0 : Nat) {cA : ClassId} {x : vp_A} {a : Nat} (ha : ws[q0]? = some (a, .inl (cA, x))) {ty : FieldType} (ht : tys[t0]? = some (cA, ty)) {v : Int32} (hv : Int32.ofNat x.1 = v) (hdg : decode cc pc = .ok (.arraylength, 1)) (h : jJ p l e R s m args below meth c cells slots Q D A nL ws lv (pc + 1) (.int v :: st)) : jJ p l e R s m args below meth c cells slots Q D A nL ws lv pc (.ref a :: st) :=
  fun H locs ls hP hD hS hl => va_alen C.1.1 C.1.2.1 C.2.1 hP q0 t0 ha ht hv hdg (h H locs ls hP hD hS hl)
end JR2
end
section
/-! what a method needs of the start beside its world: it holds for a callee's start too -/
def jG (G : (Nat → Prop) → State → Prop) : Prop := (∀ (A A' : Nat → Prop) (s U : State), G A s → (∀ q, A' q → A q) → s.WarmedH U.vm → (∀ q : Nat, q < s.heap.size → ¬ A q → U.heap[q]? = s.heap[q]?) → G A' U) ∧ ∀ (A : Nat → Prop) (U : State) (g : JFrame) (mk : MethodId) (a : Array Value), G A U → G A (U.calling g mk a)
def jG0 : (Nat → Prop) → State → Prop := fun _ _ => True
theorem jG0_ok : jG jG0 := ⟨fun _ _ _ _ _ _ _ _ => trivial, fun _ _ _ _ _ _ => trivial⟩
theorem j_blind {D : va_G} {tys : List (ClassId × FieldType)} {G : (Nat → Prop) → State → Prop} {ws : va_W} {sz : Nat} {av : List Value} (hGs : jG G) : FrameBlind (va_Pc av (jB D tys G ws sz)) := fun a U g mk q => by
  obtain ⟨q0, q1, qP, qK, qD, qG⟩ := q
  exact ⟨q0, q1, qP, va_K.moved (u := U) (U := U.calling g mk a) (Vm.Alike.refl U.vm) qK, qD, hGs.2 _ U g mk a qG⟩
theorem j_in {A : Nat → Prop} {ws : va_W} {H0 H : Heap} {locs : List Loc} (hD : va_D A ws) (hS : va_S A H0 H locs) (hA : ∀ q, H0.size ≤ q → A q) : ∀ q, va_A ws H.size q → A q := by
  intro q hq
  rcases hq with ⟨k, e, hk⟩ | hq
  · exact hD.2 k _ hk
  · exact hA q (Nat.le_trans hS.1 hq)
theorem j_preB {D : va_G} {tys : List (ClassId × FieldType)} {G : (Nat → Prop) → State → Prop} {A : Nat → Prop} {ws : va_W} {s : State} {H : Heap} {locs : List Loc} (hGs : jG G) (hg : G A s) (hK : va_K D vwCl tys s) (hA : ∀ q, s.heap.size ≤ q → A q) (hP : va_P D vwCl ws H) (hD : va_D A ws) (hS : va_S A s.heap H locs) (U : State) (hU : U.heap = H) (hW : s.WarmedH U.vm) : jB D tys G ws H.size U :=
  ⟨by rw [hU], by rw [hU]; exact hP, va_K.moved hW.alike hK, hD.weaken (fun _ _ _ _ => trivial), hGs.1 A _ s U hg (j_in hD hS hA) hW (fun q h1 h2 => by rw [hU]; exact hS.2.1 q h1 h2)⟩
theorem j_kept0 {D : va_G} {ws : va_W} {H H1 : Heap} (hP : va_P D vwCl ws H) (hk : ∀ q : Nat, q < H.size → ¬ va_A [] H.size q → H1[q]? = H[q]?) : va_P D vwCl ws H1 := by
  refine hP.kept (fun k x hx => ?_)
  have hlt := (hP k x hx).lt
  refine hk x.1 hlt (fun h => ?_)
  rcases h with ⟨k, e, h⟩ | h
  · simp at h
  · omega
theorem j_ofi {S : Type} {l : Launch} {D : va_G} {tys : List (ClassId × FieldType)} {G : (Nat → Prop) → State → Prop} {y : MethodName} {wy wy' : List Cond} {rm : Room} {cc : ByteArray} {maxL : Nat} {ret : Option FieldType} {av : List Value} {ws : va_W} {post : Int32 → S → Prop} {F : S → va_W} {mc ms : Nat} (hy : plainName y.cls = true) (hw : wy = Cond.code y cc maxL ret :: wy') (hlen : (lg_sl av).length ≤ maxL)
    (body : ∀ (p : Program) (e : Env) (s : State) (m : MethodId) (args : Array Value) (below : List Frame) (meth : Method) (c : Code) (A : Nat → Prop), jC p s m args meth c cc maxL y.cls wy D tys A → meth.sig.returnType = ret → meth.name = y.name → G A s → jJ p l e rm s m args below meth c 0 0 (MQ below (va_Qi post (jE D tys A F) A) args s mc ms A) D A maxL ws (lv_args 0 av) 0 []) : jMi l D tys G y wy rm av ws post F mc ms := by
  intro sz
  refine Met.ofW (cc := cc) (maxL := maxL) (ret := ret) hy hw ?_
  intro p e s m args below meth c s₁ B hml hv
  obtain ⟨rfl, rfl, hP, hK, hD0, hG⟩ := hv
  have h := body p e s m av.toArray below meth c (va_A ws s.heap.size) ⟨⟨B.exec, B.bytes, hml, findClass_of_methodNamed B.named, atoms_spec (ws := wy) B.pre⟩, hK, fun q h => Or.inr h, B.notSynchronized⟩ B.returns (name_of_methodNamed B.named B.method).1 hG
  rw [lg_entry_eq]
  exact h s.heap [] _ hP hD0.self va_S.rf (lv_entry av hlen)
theorem j_ofl {S : Type} {l : Launch} {D : va_G} {tys : List (ClassId × FieldType)} {G : (Nat → Prop) → State → Prop} {y : MethodName} {wy wy' : List Cond} {rm : Room} {cc : ByteArray} {maxL : Nat} {ret : Option FieldType} {av : List Value} {ws : va_W} {post : Int64 → S → Prop} {F : S → va_W} {mc ms : Nat} (hy : plainName y.cls = true) (hw : wy = Cond.code y cc maxL ret :: wy') (hlen : (lg_sl av).length ≤ maxL)
    (body : ∀ (p : Program) (e : Env) (s : State) (m : MethodId) (args : Array Value) (below : List Frame) (meth : Method) (c : Code) (A : Nat → Prop), jC p s m args meth c cc maxL y.cls wy D tys A → meth.sig.returnType = ret → meth.name = y.name → G A s → jJ p l e rm s m args below meth c 0 0 (MQ below (va_Ql post (jE D tys A F) A) args s mc ms A) D A maxL ws (lv_args 0 av) 0 []) : jMl l D tys G y wy rm av ws post F mc ms := by
  intro sz
  refine Met.ofW (cc := cc) (maxL := maxL) (ret := ret) hy hw ?_
  intro p e s m args below meth c s₁ B hml hv
  obtain ⟨rfl, rfl, hP, hK, hD0, hG⟩ := hv
  have h := body p e s m av.toArray below meth c (va_A ws s.heap.size) ⟨⟨B.exec, B.bytes, hml, findClass_of_methodNamed B.named, atoms_spec (ws := wy) B.pre⟩, hK, fun q h => Or.inr h, B.notSynchronized⟩ B.returns (name_of_methodNamed B.named B.method).1 hG
  rw [lg_entry_eq]
  exact h s.heap [] _ hP hD0.self va_S.rf (lv_entry av hlen)
theorem j_ofv {S : Type} {l : Launch} {D : va_G} {tys : List (ClassId × FieldType)} {G : (Nat → Prop) → State → Prop} {y : MethodName} {wy wy' : List Cond} {rm : Room} {cc : ByteArray} {maxL : Nat} {ret : Option FieldType} {av : List Value} {ws : va_W} {post : S → Prop} {F : S → va_W} {mc ms : Nat} (hy : plainName y.cls = true) (hw : wy = Cond.code y cc maxL ret :: wy') (hlen : (lg_sl av).length ≤ maxL)
    (body : ∀ (p : Program) (e : Env) (s : State) (m : MethodId) (args : Array Value) (below : List Frame) (meth : Method) (c : Code) (A : Nat → Prop), jC p s m args meth c cc maxL y.cls wy D tys A → meth.sig.returnType = ret → meth.name = y.name → G A s → jJ p l e rm s m args below meth c 0 0 (MQ below (va_Qv post (jE D tys A F) A) args s mc ms A) D A maxL ws (lv_args 0 av) 0 []) : jMv l D tys G y wy rm av ws post F mc ms := by
  intro sz
  refine Met.ofW (cc := cc) (maxL := maxL) (ret := ret) hy hw ?_
  intro p e s m args below meth c s₁ B hml hv
  obtain ⟨rfl, rfl, hP, hK, hD0, hG⟩ := hv
  have h := body p e s m av.toArray below meth c (va_A ws s.heap.size) ⟨⟨B.exec, B.bytes, hml, findClass_of_methodNamed B.named, atoms_spec (ws := wy) B.pre⟩, hK, fun q h => Or.inr h, B.notSynchronized⟩ B.returns (name_of_methodNamed B.named B.method).1 hG
  rw [lg_entry_eq]
  exact h s.heap [] _ hP hD0.self va_S.rf (lv_entry av hlen)
theorem j_ofq {S : Type} {l : Launch} {D : va_G} {tys : List (ClassId × FieldType)} {G : (Nat → Prop) → State → Prop} {y : MethodName} {wy wy' : List Cond} {rm : Room} {cc : ByteArray} {maxL : Nat} {ret : Option FieldType} {av : List Value} {ws : va_W} {post : Option Nat → S → Prop} {F : S → va_W} {mc ms : Nat} (hy : plainName y.cls = true) (hw : wy = Cond.code y cc maxL ret :: wy') (hlen : (lg_sl av).length ≤ maxL)
    (body : ∀ (p : Program) (e : Env) (s : State) (m : MethodId) (args : Array Value) (below : List Frame) (meth : Method) (c : Code) (A : Nat → Prop), jC p s m args meth c cc maxL y.cls wy D tys A → meth.sig.returnType = ret → meth.name = y.name → G A s → jJ p l e rm s m args below meth c 0 0 (MQ below (va_Qq post (jE D tys A F) A) args s mc ms A) D A maxL ws (lv_args 0 av) 0 []) : jMq l D tys G y wy rm av ws post F mc ms := by
  intro sz
  refine Met.ofW (cc := cc) (maxL := maxL) (ret := ret) hy hw ?_
  intro p e s m args below meth c s₁ B hml hv
  obtain ⟨rfl, rfl, hP, hK, hD0, hG⟩ := hv
  have h := body p e s m av.toArray below meth c (va_A ws s.heap.size) ⟨⟨B.exec, B.bytes, hml, findClass_of_methodNamed B.named, atoms_spec (ws := wy) B.pre⟩, hK, fun q h => Or.inr h, B.notSynchronized⟩ B.returns (name_of_methodNamed B.named B.method).1 hG
  rw [lg_entry_eq]
  exact h s.heap [] _ hP hD0.self va_S.rf (lv_entry av hlen)
section JR3
variable {p : Program} {l : Launch} {e : Env} {R : Room} {s : State} {m : MethodId} {args : Array Value} {below : List Frame} {meth : Method} {c : Code} {cells slots : Nat} {Q : State → Prop} {D : va_G} {A : Nat → Prop} {nL : Nat} {cc : ByteArray} {own : String} {Ts : List Cond} {tys : List (ClassId × FieldType)} {ws : va_W} {lv : List (Nat × Value)} {pc : Nat} {st : List Value}
theorem j_iret (C : jC p s m args meth c cc nL own Ts D tys A) (hr : meth.sig.returnType = some .int) {v : Int32} {S : Type} {post : Int32 → S → Prop} {F : S → va_W} (u : S) (hu : F u = ws) (hp : post v u) (hdg : decode cc pc = .ok (.ireturn, 1)) : jJ p l e R s m args below meth c cells slots (MQ below (va_Qi post (jE D tys A F) A) args s cells slots A) D A nL ws lv pc [.int v] :=
  fun H locs ls hP hD hS _ => W.iret C.1.1 C.1.2.1 hr (fun t ht hW => ⟨⟨v, u, rfl, hp, by rw [ht, hu]; exact hP, va_K.moved hW.alike C.2.1, by rw [hu]; exact hD⟩, hS.F ht⟩) hS.2.2 hdg C.2.2.2
theorem j_zret (C : jC p s m args meth c cc nL own Ts D tys A) (hr : meth.sig.returnType = some .boolean) {v : Int32} (hv : v = 0 ∨ v = 1) {S : Type} {post : Int32 → S → Prop} {F : S → va_W} (u : S) (hu : F u = ws) (hp : post v u) (hdg : decode cc pc = .ok (.ireturn, 1)) : jJ p l e R s m args below meth c cells slots (MQ below (va_Qi post (jE D tys A F) A) args s cells slots A) D A nL ws lv pc [.int v] :=
  fun H locs ls hP hD hS _ => W.zret C.1.1 C.1.2.1 hr (by rcases hv with rfl | rfl <;> rfl) (fun t ht hW => ⟨⟨v, u, rfl, hp, by rw [ht, hu]; exact hP, va_K.moved hW.alike C.2.1, by rw [hu]; exact hD⟩, hS.F ht⟩) hS.2.2 hdg C.2.2.2
theorem j_lret (C : jC p s m args meth c cc nL own Ts D tys A) (hr : meth.sig.returnType = some .long) {v : Int64} {S : Type} {post : Int64 → S → Prop} {F : S → va_W} (u : S) (hu : F u = ws) (hp : post v u) (hdg : decode cc pc = .ok (.lreturn, 1)) : jJ p l e R s m args below meth c cells slots (MQ below (va_Ql post (jE D tys A F) A) args s cells slots A) D A nL ws lv pc [.long v] :=
  fun H locs ls hP hD hS _ => W.lret C.1.1 C.1.2.1 hr (fun t ht hW => ⟨⟨v, u, rfl, hp, by rw [ht, hu]; exact hP, va_K.moved hW.alike C.2.1, by rw [hu]; exact hD⟩, hS.F ht⟩) hS.2.2 hdg C.2.2.2
theorem j_vret (C : jC p s m args meth c cc nL own Ts D tys A) (hr : meth.sig.returnType = none) {S : Type} {post : S → Prop} {F : S → va_W} (u : S) (hu : F u = ws) (hp : post u) (hdg : decode cc pc = .ok (.return_, 1)) : jJ p l e R s m args below meth c cells slots (MQ below (va_Qv post (jE D tys A F) A) args s cells slots A) D A nL ws lv pc [] :=
  fun H locs ls hP hD hS _ => W.vret C.1.1 C.1.2.1 hr (fun t ht hW => ⟨⟨u, rfl, hp, by rw [ht, hu]; exact hP, va_K.moved hW.alike C.2.1, by rw [hu]; exact hD⟩, hS.F ht⟩) hS.2.2 hdg C.2.2.2
theorem j_aret (C : jC p s m args meth c cc nL own Ts D tys A) {rt : String} (hr : meth.sig.returnType = some (.object rt)) {v : Nat} {S : Type} {post : Option Nat → S → Prop} {F : S → va_W} (u : S) (hu : F u = ws) (hp : post (some v) u) (hdg : decode cc pc = .ok (.areturn, 1)) : jJ p l e R s m args below meth c cells slots (MQ below (va_Qq post (jE D tys A F) A) args s cells slots A) D A nL ws lv pc [.ref v] :=
  fun H locs ls hP hD hS _ => W.aret C.1.1 C.1.2.1 hr (Or.inl ⟨_, rfl⟩) (Or.inr ⟨_, rfl⟩) (fun t ht hW => ⟨⟨some v, u, rfl, hp, by rw [ht, hu]; exact hP, va_K.moved hW.alike C.2.1, by rw [hu]; exact hD⟩, hS.F ht⟩) hS.2.2 hdg C.2.2.2
theorem j_aretN (C : jC p s m args meth c cc nL own Ts D tys A) {rt : String} (hr : meth.sig.returnType = some (.object rt)) {S : Type} {post : Option Nat → S → Prop} {F : S → va_W} (u : S) (hu : F u = ws) (hp : post none u) (hdg : decode cc pc = .ok (.areturn, 1)) : jJ p l e R s m args below meth c cells slots (MQ below (va_Qq post (jE D tys A F) A) args s cells slots A) D A nL ws lv pc [.null] :=
  fun H locs ls hP hD hS _ => W.aret C.1.1 C.1.2.1 hr (Or.inl ⟨_, rfl⟩) (Or.inl rfl) (fun t ht hW => ⟨⟨none, u, rfl, hp, by rw [ht, hu]; exact hP, va_K.moved hW.alike C.2.1, by rw [hu]; exact hD⟩, hS.F ht⟩) hS.2.2 hdg C.2.2.2
theorem j_widen {k n : Nat} (h1 : cells ≤ k) (h2 : slots ≤ n) (h : jJ p l e R s m args below meth c k n Q D A nL ws lv pc st) : jJ p l e R s m args below meth c cells slots Q D A nL ws lv pc st :=
  fun H locs ls hP hD hS hl => W.widen h1 h2 (h H locs ls hP hD hS hl)
theorem j_calli (C : jC p s m args meth c cc nL own Ts D tys A) {G : (Nat → Prop) → State → Prop} (hGs : jG G) (hg : G A s) {S : Type} {post : Int32 → S → Prop} {F : S → va_W} {y : MethodName} {wy wy' : List Cond} {rm : Room} {bytes : ByteArray} {maxL mc ms b : Nat} {ret : Option FieldType} {As st0 : List Value} {K : String} {T : u_T} {N ci idx : Nat} {fs : List Value} (n : Nat)
    (hM : jMi l D tys G y wy rm (.ref b :: As) ws post F mc ms) (hT : GoodIn Ts (wsV own idx K y wy)) (hw : wy = Cond.code y bytes maxL ret :: wy') (hrc : rm.cells = mc) (hrs : rm.slots = ms)
    (hd : y.cls = K ∧ y.cls ≠ "java/lang/invoke/MethodHandle" ∧ y.cls ≠ "java/lang/invoke/VarHandle" ∧ (parseMethodDescriptor y.desc).map (fun d => d.parameters.length) = some n) (hR : rm.frames + 1 ≤ R.frames ∧ 8 + (maxL + 11) + rm.locals ≤ R.locals)
    (q0 : Nat) (he : ws[q0]? = some (b, .inr (ci, fs))) (hc : vwCl[ci]? = some (K, T, N)) (hn : As.length = n) (hst : st0 = As.reverse ++ .ref b :: st) (hroom : (st.map fun v => v.category).sum ≤ 8) (hdg : decode cc pc = .ok (.invokevirtual idx, 3)) (hf : cells + mc ≤ R.cells ∧ slots + ms ≤ R.slots)
    (h : ∀ (r : Int32) (u : S), post r u → jJ p l e R s m args below meth c (cells + mc) (slots + ms) Q D A nL (F u) lv (pc + 3) (.int r :: st)) : jJ p l e R s m args below meth c cells slots Q D A nL ws lv pc st0 := by
  intro H locs ls hP hD hS hl
  subst hst
  have hFc := j_in hD hS C.2.2.1
  refine va_calli (va_runV (As := As) (rest := st) C.1 (hM H.size) (cwV n C.1.2.2.2.2 hT hw hrc hrs hd hR) ⟨j_blind hGs, va_recv C.2.1 hP hc he, fun U hU hW => ⟨rfl, j_preB hGs hg C.2.1 C.2.2.1 hP hD hS U hU hW⟩⟩ rfl hn hl.1 rfl (lv_room hroom) hdg hf) hS (fun q _ hq => hFc q hq) hFc (fun r u t H1 locs1 ht hvm hw hB hz hk hS1 => ?_)
  obtain ⟨hP1, hK1, hD1⟩ := hB
  rw [ht] at hP1
  exact h r u hw H1 locs1 ls hP1 (hD1.weaken (fun k q _ hq => hFc q.1 hq)) hS1 hl
theorem j_calll (C : jC p s m args meth c cc nL own Ts D tys A) {G : (Nat → Prop) → State → Prop} (hGs : jG G) (hg : G A s) {S : Type} {post : Int64 → S → Prop} {F : S → va_W} {y : MethodName} {wy wy' : List Cond} {rm : Room} {bytes : ByteArray} {maxL mc ms b : Nat} {ret : Option FieldType} {As st0 : List Value} {K : String} {T : u_T} {N ci idx : Nat} {fs : List Value} (n : Nat)
    (hM : jMl l D tys G y wy rm (.ref b :: As) ws post F mc ms) (hT : GoodIn Ts (wsV own idx K y wy)) (hw : wy = Cond.code y bytes maxL ret :: wy') (hrc : rm.cells = mc) (hrs : rm.slots = ms)
    (hd : y.cls = K ∧ y.cls ≠ "java/lang/invoke/MethodHandle" ∧ y.cls ≠ "java/lang/invoke/VarHandle" ∧ (parseMethodDescriptor y.desc).map (fun d => d.parameters.length) = some n) (hR : rm.frames + 1 ≤ R.frames ∧ 8 + (maxL + 11) + rm.locals ≤ R.locals)
    (q0 : Nat) (he : ws[q0]? = some (b, .inr (ci, fs))) (hc : vwCl[ci]? = some (K, T, N)) (hn : As.length = n) (hst : st0 = As.reverse ++ .ref b :: st) (hroom : (st.map fun v => v.category).sum ≤ 8) (hdg : decode cc pc = .ok (.invokevirtual idx, 3)) (hf : cells + mc ≤ R.cells ∧ slots + ms ≤ R.slots)
    (h : ∀ (r : Int64) (u : S), post r u → jJ p l e R s m args below meth c (cells + mc) (slots + ms) Q D A nL (F u) lv (pc + 3) (.long r :: st)) : jJ p l e R s m args below meth c cells slots Q D A nL ws lv pc st0 := by
  intro H locs ls hP hD hS hl
  subst hst
  have hFc := j_in hD hS C.2.2.1
  refine va_calll (va_runV (As := As) (rest := st) C.1 (hM H.size) (cwV n C.1.2.2.2.2 hT hw hrc hrs hd hR) ⟨j_blind hGs, va_recv C.2.1 hP hc he, fun U hU hW => ⟨rfl, j_preB hGs hg C.2.1 C.2.2.1 hP hD hS U hU hW⟩⟩ rfl hn hl.1 rfl (lv_room hroom) hdg hf) hS (fun q _ hq => hFc q hq) hFc (fun r u t H1 locs1 ht hvm hw hB hz hk hS1 => ?_)
  obtain ⟨hP1, hK1, hD1⟩ := hB
  rw [ht] at hP1
  exact h r u hw H1 locs1 ls hP1 (hD1.weaken (fun k q _ hq => hFc q.1 hq)) hS1 hl
theorem j_callv (C : jC p s m args meth c cc nL own Ts D tys A) {G : (Nat → Prop) → State → Prop} (hGs : jG G) (hg : G A s) {S : Type} {post : S → Prop} {F : S → va_W} {y : MethodName} {wy wy' : List Cond} {rm : Room} {bytes : ByteArray} {maxL mc ms b : Nat} {ret : Option FieldType} {As st0 : List Value} {K : String} {T : u_T} {N ci idx : Nat} {fs : List Value} (n : Nat)
    (hM : jMv l D tys G y wy rm (.ref b :: As) ws post F mc ms) (hT : GoodIn Ts (wsV own idx K y wy)) (hw : wy = Cond.code y bytes maxL ret :: wy') (hrc : rm.cells = mc) (hrs : rm.slots = ms)
    (hd : y.cls = K ∧ y.cls ≠ "java/lang/invoke/MethodHandle" ∧ y.cls ≠ "java/lang/invoke/VarHandle" ∧ (parseMethodDescriptor y.desc).map (fun d => d.parameters.length) = some n) (hR : rm.frames + 1 ≤ R.frames ∧ 8 + (maxL + 11) + rm.locals ≤ R.locals)
    (q0 : Nat) (he : ws[q0]? = some (b, .inr (ci, fs))) (hc : vwCl[ci]? = some (K, T, N)) (hn : As.length = n) (hst : st0 = As.reverse ++ .ref b :: st) (hroom : (st.map fun v => v.category).sum ≤ 8) (hdg : decode cc pc = .ok (.invokevirtual idx, 3)) (hf : cells + mc ≤ R.cells ∧ slots + ms ≤ R.slots)
    (h : ∀ (u : S), post u → jJ p l e R s m args below meth c (cells + mc) (slots + ms) Q D A nL (F u) lv (pc + 3) (st)) : jJ p l e R s m args below meth c cells slots Q D A nL ws lv pc st0 := by
  intro H locs ls hP hD hS hl
  subst hst
  have hFc := j_in hD hS C.2.2.1
  refine va_callv (va_runV (As := As) (rest := st) C.1 (hM H.size) (cwV n C.1.2.2.2.2 hT hw hrc hrs hd hR) ⟨j_blind hGs, va_recv C.2.1 hP hc he, fun U hU hW => ⟨rfl, j_preB hGs hg C.2.1 C.2.2.1 hP hD hS U hU hW⟩⟩ rfl hn hl.1 rfl (lv_room hroom) hdg hf) hS (fun q _ hq => hFc q hq) hFc (fun u t H1 locs1 ht hvm hw hB hz hk hS1 => ?_)
  obtain ⟨hP1, hK1, hD1⟩ := hB
  rw [ht] at hP1
  exact h u hw H1 locs1 ls hP1 (hD1.weaken (fun k q _ hq => hFc q.1 hq)) hS1 hl
theorem j_callq (C : jC p s m args meth c cc nL own Ts D tys A) {G : (Nat → Prop) → State → Prop} (hGs : jG G) (hg : G A s) {S : Type} {post : Option Nat → S → Prop} {F : S → va_W} {y : MethodName} {wy wy' : List Cond} {rm : Room} {bytes : ByteArray} {maxL mc ms b : Nat} {ret : Option FieldType} {As st0 : List Value} {K : String} {T : u_T} {N ci idx : Nat} {fs : List Value} (n : Nat)
    (hM : jMq l D tys G y wy rm (.ref b :: As) ws post F mc ms) (hT : GoodIn Ts (wsV own idx K y wy)) (hw : wy = Cond.code y bytes maxL ret :: wy') (hrc : rm.cells = mc) (hrs : rm.slots = ms)
    (hd : y.cls = K ∧ y.cls ≠ "java/lang/invoke/MethodHandle" ∧ y.cls ≠ "java/lang/invoke/VarHandle" ∧ (parseMethodDescriptor y.desc).map (fun d => d.parameters.length) = some n) (hR : rm.frames + 1 ≤ R.frames ∧ 8 + (maxL + 11) + rm.locals ≤ R.locals)
    (q0 : Nat) (he : ws[q0]? = some (b, .inr (ci, fs))) (hc : vwCl[ci]? = some (K, T, N)) (hn : As.length = n) (hst : st0 = As.reverse ++ .ref b :: st) (hroom : (st.map fun v => v.category).sum ≤ 8) (hdg : decode cc pc = .ok (.invokevirtual idx, 3)) (hf : cells + mc ≤ R.cells ∧ slots + ms ≤ R.slots)
    (h : ∀ (r : Option Nat) (u : S), post r u → jJ p l e R s m args below meth c (cells + mc) (slots + ms) Q D A nL (F u) lv (pc + 3) (va_rf r :: st)) : jJ p l e R s m args below meth c cells slots Q D A nL ws lv pc st0 := by
  intro H locs ls hP hD hS hl
  subst hst
  have hFc := j_in hD hS C.2.2.1
  refine va_callq (va_runV (As := As) (rest := st) C.1 (hM H.size) (cwV n C.1.2.2.2.2 hT hw hrc hrs hd hR) ⟨j_blind hGs, va_recv C.2.1 hP hc he, fun U hU hW => ⟨rfl, j_preB hGs hg C.2.1 C.2.2.1 hP hD hS U hU hW⟩⟩ rfl hn hl.1 rfl (lv_room hroom) hdg hf) hS (fun q _ hq => hFc q hq) hFc (fun r u t H1 locs1 ht hvm hw hB hz hk hS1 => ?_)
  obtain ⟨hP1, hK1, hD1⟩ := hB
  rw [ht] at hP1
  exact h r u hw H1 locs1 ls hP1 (hD1.weaken (fun k q _ hq => hFc q.1 hq)) hS1 hl
theorem j_scalli (C : jC p s m args meth c cc nL own Ts D tys A) {post : Int32 → Unit → Prop} {y : MethodName} {wy wy' : List Cond} {rm : Room} {bytes : ByteArray} {maxL : Nat} {ret : Option FieldType} {As st0 : List Value} {idx : Nat} (n : Nat)
    (hM : jMi l D tys jG0 y wy rm As [] post (fun _ : Unit => []) 0 0) (hT : GoodIn Ts (va_wsS own idx y wy)) (hw : wy = Cond.code y bytes maxL ret :: wy') (hrc : rm.cells = 0) (hrs : rm.slots = 0)
    (hd : y.cls ≠ "java/lang/invoke/MethodHandle" ∧ y.cls ≠ "java/lang/invoke/VarHandle" ∧ (parseMethodDescriptor y.desc).map (fun d => d.parameters.length) = some n) (hR : rm.frames + 1 ≤ R.frames ∧ 8 + (maxL + 11) + rm.locals ≤ R.locals)
    (hn : As.length = n) (hst : st0 = As.reverse ++ st) (hroom : (st.map fun v => v.category).sum ≤ 8) (hdg : decode cc pc = .ok (.invokestatic idx, 3)) (hf : cells ≤ R.cells ∧ slots ≤ R.slots)
    (h : ∀ r : Int32, post r () → jJ p l e R s m args below meth c cells slots Q D A nL ws lv (pc + 3) (.int r :: st)) : jJ p l e R s m args below meth c cells slots Q D A nL ws lv pc st0 := by
  intro H locs ls hP hD hS hl
  subst hst
  have hD0 : va_D A [] := ⟨fun i j p q h => by simp at h, fun k q h => by simp at h⟩
  have hP0 : va_P D vwCl [] H := fun k q h => by simp at h
  have hFc := j_in hD0 hS C.2.2.1
  refine va_calli (va_runS (As := As) (rest := st) C.1 (hM H.size) (va_cwS n C.1.2.2.2.2 hT hw hrc hrs hd hR) ⟨j_blind jG0_ok, fun U hU hW => ⟨rfl, j_preB jG0_ok (A := A) trivial C.2.1 C.2.2.1 hP0 hD0 hS U hU hW⟩⟩ rfl hn hl.1 rfl (lv_room hroom) hdg hf) hS (fun q _ hq => hFc q hq) hFc (fun r u t H1 locs1 ht hvm hw hB hz hk hS1 => ?_)
  exact h r hw H1 locs1 ls (j_kept0 hP hk) hD hS1 hl
theorem j_mmax (C : jC p s m args meth c cc nL own Ts D tys A) {index : Nat} {x y : Int32} (hw : Cond.methodLink own index Lib.Math.max.name ∈ Ts ∧ Cond.static Lib.Math.max.name ∈ Ts ∧ Cond.initialized "java/lang/Math" ∈ Ts ∧ Cond.code Lib.Math.max.name Lib.Math.max.code 2 (some .int) ∈ Ts) (hR : 1 ≤ R.frames ∧ (st.map fun v => v.category).sum + 13 ≤ R.locals) (hf : cells ≤ R.cells ∧ slots ≤ R.slots) (hdg : decode cc pc = .ok (.invokestatic index, 3)) (h : jJ p l e R s m args below meth c cells slots Q D A nL ws lv (pc + 3) (.int (if x < y then y else x) :: st)) : jJ p l e R s m args below meth c cells slots Q D A nL ws lv pc (.int y :: .int x :: st) :=
  fun H locs ls hP hD hS hl => va_mmax C.1.1 C.1.2.1 (C.1.2.2.1.trans hl.1.symm) C.1.2.2.2.1 (C.1.2.2.2.2 _ hw.1) (C.1.2.2.2.2 _ hw.2.1) (C.1.2.2.2.2 _ hw.2.2.1) (C.1.2.2.2.2 _ hw.2.2.2) hR.1 hR.2 hf.1 hf.2 hdg (h H locs ls hP hD hS hl)
theorem j_mmin (C : jC p s m args meth c cc nL own Ts D tys A) {index : Nat} {x y : Int32} (hw : Cond.methodLink own index Lib.Math.min.name ∈ Ts ∧ Cond.static Lib.Math.min.name ∈ Ts ∧ Cond.initialized "java/lang/Math" ∈ Ts ∧ Cond.code Lib.Math.min.name Lib.Math.min.code 2 (some .int) ∈ Ts) (hR : 1 ≤ R.frames ∧ (st.map fun v => v.category).sum + 13 ≤ R.locals) (hf : cells ≤ R.cells ∧ slots ≤ R.slots) (hdg : decode cc pc = .ok (.invokestatic index, 3)) (h : jJ p l e R s m args below meth c cells slots Q D A nL ws lv (pc + 3) (.int (if y < x then y else x) :: st)) : jJ p l e R s m args below meth c cells slots Q D A nL ws lv pc (.int y :: .int x :: st) :=
  fun H locs ls hP hD hS hl => va_mmin C.1.1 C.1.2.1 (C.1.2.2.1.trans hl.1.symm) C.1.2.2.2.1 (C.1.2.2.2.2 _ hw.1) (C.1.2.2.2.2 _ hw.2.1) (C.1.2.2.2.2 _ hw.2.2.1) (C.1.2.2.2.2 _ hw.2.2.2) hR.1 hR.2 hf.1 hf.2 hdg (h H locs ls hP hD hS hl)
theorem j_mmaxl (C : jC p s m args meth c cc nL own Ts D tys A) {index : Nat} {x y : Int64} (hw : Cond.methodLink own index Lib.MathLoose.max_long.x ∈ Ts ∧ Cond.static Lib.MathLoose.max_long.x ∈ Ts ∧ Cond.initialized "java/lang/Math" ∈ Ts ∧ Cond.code Lib.MathLoose.max_long.x Lib.MathLoose.max_long.code 4 (some .long) ∈ Ts) (hR : 1 ≤ R.frames ∧ (st.map fun v => v.category).sum + 15 ≤ R.locals) (hf : cells ≤ R.cells ∧ slots ≤ R.slots) (hdg : decode cc pc = .ok (.invokestatic index, 3)) (h : jJ p l e R s m args below meth c cells slots Q D A nL ws lv (pc + 3) (.long (if y < x then x else y) :: st)) : jJ p l e R s m args below meth c cells slots Q D A nL ws lv pc (.long y :: .long x :: st) :=
  fun H locs ls hP hD hS hl => va_mmax_long C.1.1 C.1.2.1 (C.1.2.2.1.trans hl.1.symm) C.1.2.2.2.1 (C.1.2.2.2.2 _ hw.1) (C.1.2.2.2.2 _ hw.2.1) (C.1.2.2.2.2 _ hw.2.2.1) (C.1.2.2.2.2 _ hw.2.2.2) hR.1 hR.2 hf.1 hf.2 hdg (h H locs ls hP hD hS hl)
end JR3
end
section
theorem j_ne {x k : Int32} (h : ¬ x = k) (n : Int) (hk : k.toInt = n) : x.toInt ≠ n := fun e => h (Int32.toInt_inj.mp (e.trans hk.symm))
section JR4
variable {p : Program} {l : Launch} {e : Env} {R : Room} {s : State} {m : MethodId} {args : Array Value} {below : List Frame} {meth : Method} {c : Code} {cells slots : Nat} {Q : State → Prop} {D : va_G} {A : Nat → Prop} {nL : Nat} {cc : ByteArray} {own : String} {Ts : List Cond} {tys : List (ClassId × FieldType)} {ws : va_W} {lv : List (Nat × Value)} {pc : Nat} {st : List Value}
theorem j_nmS {S : Type} {F : S → va_W} {u : S} (h : ∀ z : S, z = u → jJ p l e R s m args below meth c cells slots Q D A nL (F z) lv pc st) : jJ p l e R s m args below meth c cells slots Q D A nL (F u) lv pc st := h u rfl
theorem j_calli0 (C : jC p s m args meth c cc nL own Ts D tys A) {G : (Nat → Prop) → State → Prop} (hGs : jG G) (hg : G A s) {S : Type} {post : Int32 → S → Prop} {F : S → va_W} {y : MethodName} {wy wy' : List Cond} {rm : Room} {bytes : ByteArray} {maxL b : Nat} {ret : Option FieldType} {As st0 : List Value} {K : String} {T : u_T} {N ci idx : Nat} {fs : List Value} (n : Nat)
    (hM : jMi l D tys G y wy rm (.ref b :: As) ws post F 0 0) (hT : GoodIn Ts (wsV own idx K y wy)) (hw : wy = Cond.code y bytes maxL ret :: wy') (hrc : rm.cells = 0) (hrs : rm.slots = 0)
    (hd : y.cls = K ∧ y.cls ≠ "java/lang/invoke/MethodHandle" ∧ y.cls ≠ "java/lang/invoke/VarHandle" ∧ (parseMethodDescriptor y.desc).map (fun d => d.parameters.length) = some n) (hR : rm.frames + 1 ≤ R.frames ∧ 8 + (maxL + 11) + rm.locals ≤ R.locals)
    (q0 : Nat) (he : ws[q0]? = some (b, .inr (ci, fs))) (hc : vwCl[ci]? = some (K, T, N)) (hn : As.length = n) (hst : st0 = As.reverse ++ .ref b :: st) (hroom : (st.map fun v => v.category).sum ≤ 8) (hdg : decode cc pc = .ok (.invokevirtual idx, 3)) (hf : cells ≤ R.cells ∧ slots ≤ R.slots)
    (h : ∀ (r : Int32) (u : S), post r u → jJ p l e R s m args below meth c cells slots Q D A nL (F u) lv (pc + 3) (.int r :: st)) : jJ p l e R s m args below meth c cells slots Q D A nL ws lv pc st0 :=
  j_calli C hGs hg n hM hT hw hrc hrs hd hR q0 he hc hn hst hroom hdg hf h
theorem j_calll0 (C : jC p s m args meth c cc nL own Ts D tys A) {G : (Nat → Prop) → State → Prop} (hGs : jG G) (hg : G A s) {S : Type} {post : Int64 → S → Prop} {F : S → va_W} {y : MethodName} {wy wy' : List Cond} {rm : Room} {bytes : ByteArray} {maxL b : Nat} {ret : Option FieldType} {As st0 : List Value} {K : String} {T : u_T} {N ci idx : Nat} {fs : List Value} (n : Nat)
    (hM : jMl l D tys G y wy rm (.ref b :: As) ws post F 0 0) (hT : GoodIn Ts (wsV own idx K y wy)) (hw : wy = Cond.code y bytes maxL ret :: wy') (hrc : rm.cells = 0) (hrs : rm.slots = 0)
    (hd : y.cls = K ∧ y.cls ≠ "java/lang/invoke/MethodHandle" ∧ y.cls ≠ "java/lang/invoke/VarHandle" ∧ (parseMethodDescriptor y.desc).map (fun d => d.parameters.length) = some n) (hR : rm.frames + 1 ≤ R.frames ∧ 8 + (maxL + 11) + rm.locals ≤ R.locals)
    (q0 : Nat) (he : ws[q0]? = some (b, .inr (ci, fs))) (hc : vwCl[ci]? = some (K, T, N)) (hn : As.length = n) (hst : st0 = As.reverse ++ .ref b :: st) (hroom : (st.map fun v => v.category).sum ≤ 8) (hdg : decode cc pc = .ok (.invokevirtual idx, 3)) (hf : cells ≤ R.cells ∧ slots ≤ R.slots)
    (h : ∀ (r : Int64) (u : S), post r u → jJ p l e R s m args below meth c cells slots Q D A nL (F u) lv (pc + 3) (.long r :: st)) : jJ p l e R s m args below meth c cells slots Q D A nL ws lv pc st0 :=
  j_calll C hGs hg n hM hT hw hrc hrs hd hR q0 he hc hn hst hroom hdg hf h
theorem j_callv0 (C : jC p s m args meth c cc nL own Ts D tys A) {G : (Nat → Prop) → State → Prop} (hGs : jG G) (hg : G A s) {S : Type} {post : S → Prop} {F : S → va_W} {y : MethodName} {wy wy' : List Cond} {rm : Room} {bytes : ByteArray} {maxL b : Nat} {ret : Option FieldType} {As st0 : List Value} {K : String} {T : u_T} {N ci idx : Nat} {fs : List Value} (n : Nat)
    (hM : jMv l D tys G y wy rm (.ref b :: As) ws post F 0 0) (hT : GoodIn Ts (wsV own idx K y wy)) (hw : wy = Cond.code y bytes maxL ret :: wy') (hrc : rm.cells = 0) (hrs : rm.slots = 0)
    (hd : y.cls = K ∧ y.cls ≠ "java/lang/invoke/MethodHandle" ∧ y.cls ≠ "java/lang/invoke/VarHandle" ∧ (parseMethodDescriptor y.desc).map (fun d => d.parameters.length) = some n) (hR : rm.frames + 1 ≤ R.frames ∧ 8 + (maxL + 11) + rm.locals ≤ R.locals)
    (q0 : Nat) (he : ws[q0]? = some (b, .inr (ci, fs))) (hc : vwCl[ci]? = some (K, T, N)) (hn : As.length = n) (hst : st0 = As.reverse ++ .ref b :: st) (hroom : (st.map fun v => v.category).sum ≤ 8) (hdg : decode cc pc = .ok (.invokevirtual idx, 3)) (hf : cells ≤ R.cells ∧ slots ≤ R.slots)
    (h : ∀ (u : S), post u → jJ p l e R s m args below meth c cells slots Q D A nL (F u) lv (pc + 3) (st)) : jJ p l e R s m args below meth c cells slots Q D A nL ws lv pc st0 :=
  j_callv C hGs hg n hM hT hw hrc hrs hd hR q0 he hc hn hst hroom hdg hf h
theorem j_callq0 (C : jC p s m args meth c cc nL own Ts D tys A) {G : (Nat → Prop) → State → Prop} (hGs : jG G) (hg : G A s) {S : Type} {post : Option Nat → S → Prop} {F : S → va_W} {y : MethodName} {wy wy' : List Cond} {rm : Room} {bytes : ByteArray} {maxL b : Nat} {ret : Option FieldType} {As st0 : List Value} {K : String} {T : u_T} {N ci idx : Nat} {fs : List Value} (n : Nat)
    (hM : jMq l D tys G y wy rm (.ref b :: As) ws post F 0 0) (hT : GoodIn Ts (wsV own idx K y wy)) (hw : wy = Cond.code y bytes maxL ret :: wy') (hrc : rm.cells = 0) (hrs : rm.slots = 0)
    (hd : y.cls = K ∧ y.cls ≠ "java/lang/invoke/MethodHandle" ∧ y.cls ≠ "java/lang/invoke/VarHandle" ∧ (parseMethodDescriptor y.desc).map (fun d => d.parameters.length) = some n) (hR : rm.frames + 1 ≤ R.frames ∧ 8 + (maxL + 11) + rm.locals ≤ R.locals)
    (q0 : Nat) (he : ws[q0]? = some (b, .inr (ci, fs))) (hc : vwCl[ci]? = some (K, T, N)) (hn : As.length = n) (hst : st0 = As.reverse ++ .ref b :: st) (hroom : (st.map fun v => v.category).sum ≤ 8) (hdg : decode cc pc = .ok (.invokevirtual idx, 3)) (hf : cells ≤ R.cells ∧ slots ≤ R.slots)
    (h : ∀ (r : Option Nat) (u : S), post r u → jJ p l e R s m args below meth c cells slots Q D A nL (F u) lv (pc + 3) (va_rf r :: st)) : jJ p l e R s m args below meth c cells slots Q D A nL ws lv pc st0 :=
  j_callq C hGs hg n hM hT hw hrc hrs hd hR q0 he hc hn hst hroom hdg hf h
end JR4
end
section
theorem dX0_init_0 : decode cX0_init 0 = .ok (.aload_n 0, 1) := by decide +kernel
theorem dX0_init_1 : decode cX0_init 1 = .ok (.invokespecial 3, 3) := by decide +kernel
theorem dX0_init_4 : decode cX0_init 4 = .ok (.aload_n 0, 1) := by decide +kernel
theorem dX0_init_5 : decode cX0_init 5 = .ok (.iconst 0, 1) := by decide +kernel
theorem dX0_init_6 : decode cX0_init 6 = .ok (.putfield 9, 3) := by decide +kernel
theorem dX0_init_9 : decode cX0_init 9 = .ok (.aload_n 0, 1) := by decide +kernel
theorem dX0_init_10 : decode cX0_init 10 = .ok (.iconst (-1), 1) := by decide +kernel
theorem dX0_init_11 : decode cX0_init 11 = .ok (.putfield 15, 3) := by decide +kernel
theorem dX0_init_14 : decode cX0_init 14 = .ok (.aload_n 0, 1) := by decide +kernel
theorem dX0_init_15 : decode cX0_init 15 = .ok (.bipush 12, 2) := by decide +kernel
theorem dX0_init_17 : decode cX0_init 17 = .ok (.newarray .int, 2) := by decide +kernel
theorem dX0_init_19 : decode cX0_init 19 = .ok (.putfield 18, 3) := by decide +kernel
theorem dX0_init_22 : decode cX0_init 22 = .ok (.aload_n 0, 1) := by decide +kernel
theorem dX0_init_23 : decode cX0_init 23 = .ok (.bipush 12, 2) := by decide +kernel
theorem dX0_init_25 : decode cX0_init 25 = .ok (.newarray .int, 2) := by decide +kernel
theorem dX0_init_27 : decode cX0_init 27 = .ok (.putfield 22, 3) := by decide +kernel
theorem dX0_init_30 : decode cX0_init 30 = .ok (.return_, 1) := by decide +kernel
theorem dX0_gain_0 : decode cX0_gain 0 = .ok (.aload_n 0, 1) := by decide +kernel
theorem dX0_gain_1 : decode cX0_gain 1 = .ok (.getfield 9, 3) := by decide +kernel
theorem dX0_gain_4 : decode cX0_gain 4 = .ok (.tableswitch 67 0 2 #[28, 32, 35], 28) := by decide +kernel
theorem dX0_gain_32 : decode cX0_gain 32 = .ok (.sipush 289, 3) := by decide +kernel
theorem dX0_gain_35 : decode cX0_gain 35 = .ok (.ireturn, 1) := by decide +kernel
theorem dX0_gain_36 : decode cX0_gain 36 = .ok (.bipush 35, 2) := by decide +kernel
theorem dX0_gain_38 : decode cX0_gain 38 = .ok (.ireturn, 1) := by decide +kernel
theorem dX0_gain_39 : decode cX0_gain 39 = .ok (.aload_n 0, 1) := by decide +kernel
theorem dX0_gain_40 : decode cX0_gain 40 = .ok (.getfield 25, 3) := by decide +kernel
theorem dX0_gain_43 : decode cX0_gain 43 = .ok (.ifCond .lt 25, 3) := by decide +kernel
theorem dX0_gain_46 : decode cX0_gain 46 = .ok (.aload_n 0, 1) := by decide +kernel
theorem dX0_gain_47 : decode cX0_gain 47 = .ok (.getfield 25, 3) := by decide +kernel
theorem dX0_gain_50 : decode cX0_gain 50 = .ok (.getstatic 28, 3) := by decide +kernel
theorem dX0_gain_53 : decode cX0_gain 53 = .ok (.arraylength, 1) := by decide +kernel
theorem dX0_gain_54 : decode cX0_gain 54 = .ok (.if_icmp .ge 14, 3) := by decide +kernel
theorem dX0_gain_57 : decode cX0_gain 57 = .ok (.getstatic 28, 3) := by decide +kernel
theorem dX0_gain_60 : decode cX0_gain 60 = .ok (.aload_n 0, 1) := by decide +kernel
theorem dX0_gain_61 : decode cX0_gain 61 = .ok (.getfield 25, 3) := by decide +kernel
theorem dX0_gain_64 : decode cX0_gain 64 = .ok (.iaload, 1) := by decide +kernel
theorem dX0_gain_65 : decode cX0_gain 65 = .ok (.goto 5, 3) := by decide +kernel
theorem dX0_gain_68 : decode cX0_gain 68 = .ok (.bipush 100, 2) := by decide +kernel
theorem dX0_gain_70 : decode cX0_gain 70 = .ok (.ireturn, 1) := by decide +kernel
theorem dX0_gain_71 : decode cX0_gain 71 = .ok (.bipush 100, 2) := by decide +kernel
theorem dX0_gain_73 : decode cX0_gain 73 = .ok (.ireturn, 1) := by decide +kernel
set_option maxRecDepth 20000 in
theorem ggX0_follow_X0_watchTop : GoodIn wsX0_follow wsX0_watchTop := goodIn_r _ [12, 13, 14, 15, 16, 3, 59, 60, 61, 62, 63, 64, 65, 66, 67, 68, 69] (by decide +kernel) (by decide +kernel)
set_option maxRecDepth 20000 in
theorem gX0_follow_X0_watchTop : GoodIn wsX0_follow (wsV RX0 36 RX0 yX0_watchTop wsX0_watchTop) := goodIn_app (goodIn_of _ (by decide +kernel)) ggX0_follow_X0_watchTop
set_option maxRecDepth 20000 in
theorem ggX0_follow_X0_enter : GoodIn wsX0_follow wsX0_enter := goodIn_r _ [20, 1, 21, 22, 23, 24, 25, 26, 27, 59, 60, 61, 62, 63, 64, 65, 66, 67, 68, 69] (by decide +kernel) (by decide +kernel)
set_option maxRecDepth 20000 in
theorem gX0_follow_X0_enter : GoodIn wsX0_follow (wsV RX0 44 RX0 yX0_enter wsX0_enter) := goodIn_app (goodIn_of _ (by decide +kernel)) ggX0_follow_X0_enter
set_option maxRecDepth 20000 in
theorem ggX0_follow_X5_product : GoodIn wsX0_follow wsX5_product := goodIn_r _ [32, 33, 34, 35, 70, 71, 72, 73, 74, 75, 76, 77, 78, 79, 80, 81, 82, 83, 84, 85] (by decide +kernel) (by decide +kernel)
set_option maxRecDepth 20000 in
theorem gX0_follow_X5_product : GoodIn wsX0_follow (wsV RX0 57 RX5 yX5_product wsX5_product) := goodIn_app (goodIn_of _ (by decide +kernel)) ggX0_follow_X5_product
set_option maxRecDepth 20000 in
theorem ggX0_follow_X0_enterCruise : GoodIn wsX0_follow wsX0_enterCruise := goodIn_r _ [39, 17, 18, 19, 11, 20, 1, 21, 22, 23, 24, 25, 26, 27, 40, 41, 42, 43, 6, 44, 45, 46, 59, 60, 61, 62, 63, 64, 65, 66, 67, 68, 69, 70, 71, 72, 73, 74, 75, 76, 77, 78, 79, 80, 81, 82, 83, 84, 85] (by decide +kernel) (by decide +kernel)
set_option maxRecDepth 20000 in
theorem gX0_follow_X0_enterCruise : GoodIn wsX0_follow (wsV RX0 61 RX0 yX0_enterCruise wsX0_enterCruise) := goodIn_app (goodIn_of _ (by decide +kernel)) ggX0_follow_X0_enterCruise
set_option maxRecDepth 20000 in
theorem ggX0_follow_X0_phaseIsOver : GoodIn wsX0_follow wsX0_phaseIsOver := goodIn_r _ [50, 44, 51, 4, 5, 6, 45, 46, 52, 53, 28, 29, 30, 31, 32, 33, 34, 35, 59, 60, 61, 62, 63, 64, 65, 66, 67, 68, 69, 70, 71, 72, 73, 74, 75, 76, 77, 78, 79, 80, 81, 82, 83, 84, 85, 86, 87] (by decide +kernel) (by decide +kernel)
set_option maxRecDepth 20000 in
theorem gX0_follow_X0_phaseIsOver : GoodIn wsX0_follow (wsV RX0 65 RX0 yX0_phaseIsOver wsX0_phaseIsOver) := goodIn_app (goodIn_of _ (by decide +kernel)) ggX0_follow_X0_phaseIsOver
set_option maxRecDepth 20000 in
theorem ggX0_follow_X0_beginPhase : GoodIn wsX0_follow wsX0_beginPhase := goodIn_r _ [43, 6, 44, 45, 46, 59, 60, 61, 62, 63, 64, 65, 66, 67, 68, 69, 70, 71, 72, 73, 74, 75, 76, 77, 78, 79, 80, 81, 82, 83, 84, 85] (by decide +kernel) (by decide +kernel)
set_option maxRecDepth 20000 in
theorem gX0_follow_X0_beginPhase : GoodIn wsX0_follow (wsV RX0 69 RX0 yX0_beginPhase wsX0_beginPhase) := goodIn_app (goodIn_of _ (by decide +kernel)) ggX0_follow_X0_beginPhase
set_option maxRecDepth 20000 in
theorem ggX0_follow_X0_probe : GoodIn wsX0_follow wsX0_probe := goodIn_r _ [57, 7, 4, 5, 58, 3, 36, 37, 38, 11, 39, 17, 18, 19, 20, 1, 21, 22, 23, 24, 25, 26, 27, 40, 41, 42, 43, 6, 44, 45, 46, 59, 60, 61, 62, 63, 64, 65, 66, 67, 68, 69, 70, 71, 72, 73, 74, 75, 76, 77, 78, 79, 80, 81, 82, 83, 84, 85, 86, 87] (by decide +kernel) (by decide +kernel)
set_option maxRecDepth 20000 in
theorem gX0_follow_X0_probe : GoodIn wsX0_follow (wsV RX0 73 RX0 yX0_probe wsX0_probe) := goodIn_app (goodIn_of _ (by decide +kernel)) ggX0_follow_X0_probe
theorem dX0_follow_0 : decode cX0_follow 0 = .ok (.aload_n 0, 1) := by decide +kernel
theorem dX0_follow_1 : decode cX0_follow 1 = .ok (.getfield 9, 3) := by decide +kernel
theorem dX0_follow_4 : decode cX0_follow 4 = .ok (.ifCond .ne 15, 3) := by decide +kernel
theorem dX0_follow_7 : decode cX0_follow 7 = .ok (.iload_n 3, 1) := by decide +kernel
theorem dX0_follow_8 : decode cX0_follow 8 = .ok (.ifCond .eq 11, 3) := by decide +kernel
theorem dX0_follow_11 : decode cX0_follow 11 = .ok (.aload_n 0, 1) := by decide +kernel
theorem dX0_follow_12 : decode cX0_follow 12 = .ok (.aload_n 1, 1) := by decide +kernel
theorem dX0_follow_13 : decode cX0_follow 13 = .ok (.getfield 31, 3) := by decide +kernel
theorem dX0_follow_16 : decode cX0_follow 16 = .ok (.invokevirtual 36, 3) := by decide +kernel
theorem dX0_follow_19 : decode cX0_follow 19 = .ok (.aload_n 0, 1) := by decide +kernel
theorem dX0_follow_20 : decode cX0_follow 20 = .ok (.getfield 9, 3) := by decide +kernel
theorem dX0_follow_23 : decode cX0_follow 23 = .ok (.ifCond .ne 16, 3) := by decide +kernel
theorem dX0_follow_26 : decode cX0_follow 26 = .ok (.aload_n 0, 1) := by decide +kernel
theorem dX0_follow_27 : decode cX0_follow 27 = .ok (.getfield 40, 3) := by decide +kernel
theorem dX0_follow_30 : decode cX0_follow 30 = .ok (.ifCond .eq 9, 3) := by decide +kernel
theorem dX0_follow_33 : decode cX0_follow 33 = .ok (.aload_n 0, 1) := by decide +kernel
theorem dX0_follow_34 : decode cX0_follow 34 = .ok (.iconst 1, 1) := by decide +kernel
theorem dX0_follow_35 : decode cX0_follow 35 = .ok (.iload_n 2, 1) := by decide +kernel
theorem dX0_follow_36 : decode cX0_follow 36 = .ok (.invokevirtual 44, 3) := by decide +kernel
theorem dX0_follow_39 : decode cX0_follow 39 = .ok (.aload_n 0, 1) := by decide +kernel
theorem dX0_follow_40 : decode cX0_follow 40 = .ok (.getfield 9, 3) := by decide +kernel
theorem dX0_follow_43 : decode cX0_follow 43 = .ok (.iconst 1, 1) := by decide +kernel
theorem dX0_follow_44 : decode cX0_follow 44 = .ok (.if_icmp .ne 25, 3) := by decide +kernel
theorem dX0_follow_47 : decode cX0_follow 47 = .ok (.aload_n 1, 1) := by decide +kernel
theorem dX0_follow_48 : decode cX0_follow 48 = .ok (.getfield 48, 3) := by decide +kernel
theorem dX0_follow_51 : decode cX0_follow 51 = .ok (.getfield 52, 3) := by decide +kernel
theorem dX0_follow_54 : decode cX0_follow 54 = .ok (.i2l, 1) := by decide +kernel
theorem dX0_follow_55 : decode cX0_follow 55 = .ok (.aload_n 1, 1) := by decide +kernel
theorem dX0_follow_56 : decode cX0_follow 56 = .ok (.invokevirtual 57, 3) := by decide +kernel
theorem dX0_follow_59 : decode cX0_follow 59 = .ok (.lcmp, 1) := by decide +kernel
theorem dX0_follow_60 : decode cX0_follow 60 = .ok (.ifCond .gt 9, 3) := by decide +kernel
theorem dX0_follow_63 : decode cX0_follow 63 = .ok (.aload_n 0, 1) := by decide +kernel
theorem dX0_follow_64 : decode cX0_follow 64 = .ok (.aload_n 1, 1) := by decide +kernel
theorem dX0_follow_65 : decode cX0_follow 65 = .ok (.iload_n 2, 1) := by decide +kernel
theorem dX0_follow_66 : decode cX0_follow 66 = .ok (.invokevirtual 61, 3) := by decide +kernel
theorem dX0_follow_69 : decode cX0_follow 69 = .ok (.aload_n 0, 1) := by decide +kernel
theorem dX0_follow_70 : decode cX0_follow 70 = .ok (.getfield 9, 3) := by decide +kernel
theorem dX0_follow_73 : decode cX0_follow 73 = .ok (.iconst 2, 1) := by decide +kernel
theorem dX0_follow_74 : decode cX0_follow 74 = .ok (.if_icmp .ne 41, 3) := by decide +kernel
theorem dX0_follow_77 : decode cX0_follow 77 = .ok (.aload_n 0, 1) := by decide +kernel
theorem dX0_follow_78 : decode cX0_follow 78 = .ok (.aload_n 1, 1) := by decide +kernel
theorem dX0_follow_79 : decode cX0_follow 79 = .ok (.iload_n 2, 1) := by decide +kernel
theorem dX0_follow_80 : decode cX0_follow 80 = .ok (.invokevirtual 65, 3) := by decide +kernel
theorem dX0_follow_83 : decode cX0_follow 83 = .ok (.ifCond .eq 32, 3) := by decide +kernel
theorem dX0_follow_86 : decode cX0_follow 86 = .ok (.aload_n 0, 1) := by decide +kernel
theorem dX0_follow_87 : decode cX0_follow 87 = .ok (.aload_n 0, 1) := by decide +kernel
theorem dX0_follow_88 : decode cX0_follow 88 = .ok (.getfield 25, 3) := by decide +kernel
theorem dX0_follow_91 : decode cX0_follow 91 = .ok (.iconst 1, 1) := by decide +kernel
theorem dX0_follow_92 : decode cX0_follow 92 = .ok (.iadd, 1) := by decide +kernel
theorem dX0_follow_93 : decode cX0_follow 93 = .ok (.getstatic 28, 3) := by decide +kernel
theorem dX0_follow_96 : decode cX0_follow 96 = .ok (.arraylength, 1) := by decide +kernel
theorem dX0_follow_97 : decode cX0_follow 97 = .ok (.if_icmp .ge 12, 3) := by decide +kernel
theorem dX0_follow_100 : decode cX0_follow 100 = .ok (.aload_n 0, 1) := by decide +kernel
theorem dX0_follow_101 : decode cX0_follow 101 = .ok (.getfield 25, 3) := by decide +kernel
theorem dX0_follow_104 : decode cX0_follow 104 = .ok (.iconst 1, 1) := by decide +kernel
theorem dX0_follow_105 : decode cX0_follow 105 = .ok (.iadd, 1) := by decide +kernel
theorem dX0_follow_106 : decode cX0_follow 106 = .ok (.goto 4, 3) := by decide +kernel
theorem dX0_follow_109 : decode cX0_follow 109 = .ok (.iconst 0, 1) := by decide +kernel
theorem dX0_follow_110 : decode cX0_follow 110 = .ok (.aload_n 1, 1) := by decide +kernel
theorem dX0_follow_111 : decode cX0_follow 111 = .ok (.iload_n 2, 1) := by decide +kernel
theorem dX0_follow_112 : decode cX0_follow 112 = .ok (.invokevirtual 69, 3) := by decide +kernel
theorem dX0_follow_115 : decode cX0_follow 115 = .ok (.aload_n 0, 1) := by decide +kernel
theorem dX0_follow_116 : decode cX0_follow 116 = .ok (.getfield 9, 3) := by decide +kernel
theorem dX0_follow_119 : decode cX0_follow 119 = .ok (.iconst 3, 1) := by decide +kernel
theorem dX0_follow_120 : decode cX0_follow 120 = .ok (.if_icmp .ne 12, 3) := by decide +kernel
theorem dX0_follow_123 : decode cX0_follow 123 = .ok (.aload_n 0, 1) := by decide +kernel
theorem dX0_follow_124 : decode cX0_follow 124 = .ok (.aload_n 1, 1) := by decide +kernel
theorem dX0_follow_125 : decode cX0_follow 125 = .ok (.iload_n 2, 1) := by decide +kernel
theorem dX0_follow_126 : decode cX0_follow 126 = .ok (.invokevirtual 73, 3) := by decide +kernel
theorem dX0_follow_129 : decode cX0_follow 129 = .ok (.goto 19, 3) := by decide +kernel
theorem dX0_follow_132 : decode cX0_follow 132 = .ok (.iload 4, 2) := by decide +kernel
theorem dX0_follow_134 : decode cX0_follow 134 = .ok (.ifCond .eq 14, 3) := by decide +kernel
theorem dX0_follow_137 : decode cX0_follow 137 = .ok (.aload_n 0, 1) := by decide +kernel
theorem dX0_follow_138 : decode cX0_follow 138 = .ok (.iconst 3, 1) := by decide +kernel
theorem dX0_follow_139 : decode cX0_follow 139 = .ok (.iload_n 2, 1) := by decide +kernel
theorem dX0_follow_140 : decode cX0_follow 140 = .ok (.invokevirtual 44, 3) := by decide +kernel
theorem dX0_follow_143 : decode cX0_follow 143 = .ok (.aload_n 0, 1) := by decide +kernel
theorem dX0_follow_144 : decode cX0_follow 144 = .ok (.iconst (-1), 1) := by decide +kernel
theorem dX0_follow_145 : decode cX0_follow 145 = .ok (.putfield 15, 3) := by decide +kernel
theorem dX0_follow_148 : decode cX0_follow 148 = .ok (.return_, 1) := by decide +kernel
theorem dX0_watchTop_0 : decode cX0_watchTop 0 = .ok (.ldc2_w 76, 3) := by decide +kernel
theorem dX0_watchTop_3 : decode cX0_watchTop 3 = .ok (.iload_n 1, 1) := by decide +kernel
theorem dX0_watchTop_4 : decode cX0_watchTop 4 = .ok (.i2l, 1) := by decide +kernel
theorem dX0_watchTop_5 : decode cX0_watchTop 5 = .ok (.lmul, 1) := by decide +kernel
theorem dX0_watchTop_6 : decode cX0_watchTop 6 = .ok (.ldc2_w 78, 3) := by decide +kernel
theorem dX0_watchTop_9 : decode cX0_watchTop 9 = .ok (.aload_n 0, 1) := by decide +kernel
theorem dX0_watchTop_10 : decode cX0_watchTop 10 = .ok (.getfield 80, 3) := by decide +kernel
theorem dX0_watchTop_13 : decode cX0_watchTop 13 = .ok (.i2l, 1) := by decide +kernel
theorem dX0_watchTop_14 : decode cX0_watchTop 14 = .ok (.lmul, 1) := by decide +kernel
theorem dX0_watchTop_15 : decode cX0_watchTop 15 = .ok (.lcmp, 1) := by decide +kernel
theorem dX0_watchTop_16 : decode cX0_watchTop 16 = .ok (.ifCond .lt 14, 3) := by decide +kernel
theorem dX0_watchTop_19 : decode cX0_watchTop 19 = .ok (.aload_n 0, 1) := by decide +kernel
theorem dX0_watchTop_20 : decode cX0_watchTop 20 = .ok (.iload_n 1, 1) := by decide +kernel
theorem dX0_watchTop_21 : decode cX0_watchTop 21 = .ok (.putfield 80, 3) := by decide +kernel
theorem dX0_watchTop_24 : decode cX0_watchTop 24 = .ok (.aload_n 0, 1) := by decide +kernel
theorem dX0_watchTop_25 : decode cX0_watchTop 25 = .ok (.iconst 0, 1) := by decide +kernel
theorem dX0_watchTop_26 : decode cX0_watchTop 26 = .ok (.putfield 83, 3) := by decide +kernel
theorem dX0_watchTop_29 : decode cX0_watchTop 29 = .ok (.return_, 1) := by decide +kernel
theorem dX0_watchTop_30 : decode cX0_watchTop 30 = .ok (.aload_n 0, 1) := by decide +kernel
theorem dX0_watchTop_31 : decode cX0_watchTop 31 = .ok (.dup, 1) := by decide +kernel
theorem dX0_watchTop_32 : decode cX0_watchTop 32 = .ok (.getfield 83, 3) := by decide +kernel
theorem dX0_watchTop_35 : decode cX0_watchTop 35 = .ok (.iconst 1, 1) := by decide +kernel
theorem dX0_watchTop_36 : decode cX0_watchTop 36 = .ok (.iadd, 1) := by decide +kernel
theorem dX0_watchTop_37 : decode cX0_watchTop 37 = .ok (.putfield 83, 3) := by decide +kernel
theorem dX0_watchTop_40 : decode cX0_watchTop 40 = .ok (.aload_n 0, 1) := by decide +kernel
theorem dX0_watchTop_41 : decode cX0_watchTop 41 = .ok (.getfield 83, 3) := by decide +kernel
theorem dX0_watchTop_44 : decode cX0_watchTop 44 = .ok (.iconst 3, 1) := by decide +kernel
theorem dX0_watchTop_45 : decode cX0_watchTop 45 = .ok (.if_icmp .ne 8, 3) := by decide +kernel
theorem dX0_watchTop_48 : decode cX0_watchTop 48 = .ok (.aload_n 0, 1) := by decide +kernel
theorem dX0_watchTop_49 : decode cX0_watchTop 49 = .ok (.iconst 1, 1) := by decide +kernel
theorem dX0_watchTop_50 : decode cX0_watchTop 50 = .ok (.putfield 40, 3) := by decide +kernel
theorem dX0_watchTop_53 : decode cX0_watchTop 53 = .ok (.return_, 1) := by decide +kernel
set_option maxRecDepth 20000 in
theorem ggX0_phaseIsOver_X5_product : GoodIn wsX0_phaseIsOver wsX5_product := goodIn_r _ [14, 15, 16, 17, 29, 30, 31, 32, 33, 34, 35, 36, 37, 38, 39, 40, 41, 42, 43, 44] (by decide +kernel) (by decide +kernel)
set_option maxRecDepth 20000 in
theorem gX0_phaseIsOver_X5_product : GoodIn wsX0_phaseIsOver (wsV RX0 57 RX5 yX5_product wsX5_product) := goodIn_app (goodIn_of _ (by decide +kernel)) ggX0_phaseIsOver_X5_product
theorem dX0_phaseIsOver_0 : decode cX0_phaseIsOver 0 = .ok (.iload_n 2, 1) := by decide +kernel
theorem dX0_phaseIsOver_1 : decode cX0_phaseIsOver 1 = .ok (.aload_n 0, 1) := by decide +kernel
theorem dX0_phaseIsOver_2 : decode cX0_phaseIsOver 2 = .ok (.getfield 86, 3) := by decide +kernel
theorem dX0_phaseIsOver_5 : decode cX0_phaseIsOver 5 = .ok (.isub, 1) := by decide +kernel
theorem dX0_phaseIsOver_6 : decode cX0_phaseIsOver 6 = .ok (.aload_n 1, 1) := by decide +kernel
theorem dX0_phaseIsOver_7 : decode cX0_phaseIsOver 7 = .ok (.getfield 89, 3) := by decide +kernel
theorem dX0_phaseIsOver_10 : decode cX0_phaseIsOver 10 = .ok (.if_icmp .lt 7, 3) := by decide +kernel
theorem dX0_phaseIsOver_13 : decode cX0_phaseIsOver 13 = .ok (.iconst 1, 1) := by decide +kernel
theorem dX0_phaseIsOver_14 : decode cX0_phaseIsOver 14 = .ok (.goto 4, 3) := by decide +kernel
theorem dX0_phaseIsOver_17 : decode cX0_phaseIsOver 17 = .ok (.iconst 0, 1) := by decide +kernel
theorem dX0_phaseIsOver_18 : decode cX0_phaseIsOver 18 = .ok (.istore_n 3, 1) := by decide +kernel
theorem dX0_phaseIsOver_19 : decode cX0_phaseIsOver 19 = .ok (.aload_n 1, 1) := by decide +kernel
theorem dX0_phaseIsOver_20 : decode cX0_phaseIsOver 20 = .ok (.getfield 48, 3) := by decide +kernel
theorem dX0_phaseIsOver_23 : decode cX0_phaseIsOver 23 = .ok (.getfield 52, 3) := by decide +kernel
theorem dX0_phaseIsOver_26 : decode cX0_phaseIsOver 26 = .ok (.istore 4, 2) := by decide +kernel
theorem dX0_phaseIsOver_28 : decode cX0_phaseIsOver 28 = .ok (.aload_n 0, 1) := by decide +kernel
theorem dX0_phaseIsOver_29 : decode cX0_phaseIsOver 29 = .ok (.getfield 25, 3) := by decide +kernel
theorem dX0_phaseIsOver_32 : decode cX0_phaseIsOver 32 = .ok (.ifCond .ne 55, 3) := by decide +kernel
theorem dX0_phaseIsOver_35 : decode cX0_phaseIsOver 35 = .ok (.aload_n 1, 1) := by decide +kernel
theorem dX0_phaseIsOver_36 : decode cX0_phaseIsOver 36 = .ok (.getfield 92, 3) := by decide +kernel
theorem dX0_phaseIsOver_39 : decode cX0_phaseIsOver 39 = .ok (.aload_n 0, 1) := by decide +kernel
theorem dX0_phaseIsOver_40 : decode cX0_phaseIsOver 40 = .ok (.getfield 95, 3) := by decide +kernel
theorem dX0_phaseIsOver_43 : decode cX0_phaseIsOver 43 = .ok (.if_icmp .eq 7, 3) := by decide +kernel
theorem dX0_phaseIsOver_46 : decode cX0_phaseIsOver 46 = .ok (.iconst 1, 1) := by decide +kernel
theorem dX0_phaseIsOver_47 : decode cX0_phaseIsOver 47 = .ok (.goto 4, 3) := by decide +kernel
theorem dX0_phaseIsOver_50 : decode cX0_phaseIsOver 50 = .ok (.iconst 0, 1) := by decide +kernel
theorem dX0_phaseIsOver_51 : decode cX0_phaseIsOver 51 = .ok (.istore 5, 2) := by decide +kernel
theorem dX0_phaseIsOver_53 : decode cX0_phaseIsOver 53 = .ok (.iload_n 3, 1) := by decide +kernel
theorem dX0_phaseIsOver_54 : decode cX0_phaseIsOver 54 = .ok (.ifCond .eq 31, 3) := by decide +kernel
theorem dX0_phaseIsOver_57 : decode cX0_phaseIsOver 57 = .ok (.ldc2_w 98, 3) := by decide +kernel
theorem dX0_phaseIsOver_60 : decode cX0_phaseIsOver 60 = .ok (.iload 4, 2) := by decide +kernel
theorem dX0_phaseIsOver_62 : decode cX0_phaseIsOver 62 = .ok (.i2l, 1) := by decide +kernel
theorem dX0_phaseIsOver_63 : decode cX0_phaseIsOver 63 = .ok (.lmul, 1) := by decide +kernel
theorem dX0_phaseIsOver_64 : decode cX0_phaseIsOver 64 = .ok (.ldc2_w 100, 3) := by decide +kernel
theorem dX0_phaseIsOver_67 : decode cX0_phaseIsOver 67 = .ok (.aload_n 1, 1) := by decide +kernel
theorem dX0_phaseIsOver_68 : decode cX0_phaseIsOver 68 = .ok (.invokevirtual 57, 3) := by decide +kernel
theorem dX0_phaseIsOver_71 : decode cX0_phaseIsOver 71 = .ok (.lmul, 1) := by decide +kernel
theorem dX0_phaseIsOver_72 : decode cX0_phaseIsOver 72 = .ok (.lcmp, 1) := by decide +kernel
theorem dX0_phaseIsOver_73 : decode cX0_phaseIsOver 73 = .ok (.ifCond .ge 8, 3) := by decide +kernel
theorem dX0_phaseIsOver_76 : decode cX0_phaseIsOver 76 = .ok (.iload 5, 2) := by decide +kernel
theorem dX0_phaseIsOver_78 : decode cX0_phaseIsOver 78 = .ok (.ifCond .eq 7, 3) := by decide +kernel
theorem dX0_phaseIsOver_81 : decode cX0_phaseIsOver 81 = .ok (.iconst 1, 1) := by decide +kernel
theorem dX0_phaseIsOver_82 : decode cX0_phaseIsOver 82 = .ok (.goto 4, 3) := by decide +kernel
theorem dX0_phaseIsOver_85 : decode cX0_phaseIsOver 85 = .ok (.iconst 0, 1) := by decide +kernel
theorem dX0_phaseIsOver_86 : decode cX0_phaseIsOver 86 = .ok (.ireturn, 1) := by decide +kernel
theorem dX0_phaseIsOver_87 : decode cX0_phaseIsOver 87 = .ok (.aload_n 0, 1) := by decide +kernel
theorem dX0_phaseIsOver_88 : decode cX0_phaseIsOver 88 = .ok (.getfield 25, 3) := by decide +kernel
theorem dX0_phaseIsOver_91 : decode cX0_phaseIsOver 91 = .ok (.iconst 1, 1) := by decide +kernel
theorem dX0_phaseIsOver_92 : decode cX0_phaseIsOver 92 = .ok (.if_icmp .ne 24, 3) := by decide +kernel
theorem dX0_phaseIsOver_95 : decode cX0_phaseIsOver 95 = .ok (.iload_n 3, 1) := by decide +kernel
theorem dX0_phaseIsOver_96 : decode cX0_phaseIsOver 96 = .ok (.ifCond .ne 14, 3) := by decide +kernel
theorem dX0_phaseIsOver_99 : decode cX0_phaseIsOver 99 = .ok (.iload 4, 2) := by decide +kernel
theorem dX0_phaseIsOver_101 : decode cX0_phaseIsOver 101 = .ok (.i2l, 1) := by decide +kernel
theorem dX0_phaseIsOver_102 : decode cX0_phaseIsOver 102 = .ok (.aload_n 1, 1) := by decide +kernel
theorem dX0_phaseIsOver_103 : decode cX0_phaseIsOver 103 = .ok (.invokevirtual 57, 3) := by decide +kernel
theorem dX0_phaseIsOver_106 : decode cX0_phaseIsOver 106 = .ok (.lcmp, 1) := by decide +kernel
theorem dX0_phaseIsOver_107 : decode cX0_phaseIsOver 107 = .ok (.ifCond .gt 7, 3) := by decide +kernel
theorem dX0_phaseIsOver_110 : decode cX0_phaseIsOver 110 = .ok (.iconst 1, 1) := by decide +kernel
theorem dX0_phaseIsOver_111 : decode cX0_phaseIsOver 111 = .ok (.goto 4, 3) := by decide +kernel
theorem dX0_phaseIsOver_114 : decode cX0_phaseIsOver 114 = .ok (.iconst 0, 1) := by decide +kernel
theorem dX0_phaseIsOver_115 : decode cX0_phaseIsOver 115 = .ok (.ireturn, 1) := by decide +kernel
theorem dX0_phaseIsOver_116 : decode cX0_phaseIsOver 116 = .ok (.iload_n 3, 1) := by decide +kernel
theorem dX0_phaseIsOver_117 : decode cX0_phaseIsOver 117 = .ok (.ireturn, 1) := by decide +kernel
set_option maxRecDepth 20000 in
theorem ggX0_probe_X0_enterCruise : GoodIn wsX0_probe wsX0_enterCruise := goodIn_r _ [10, 11, 12, 13, 9, 14, 15, 16, 17, 18, 19, 20, 21, 22, 23, 24, 25, 26, 27, 28, 29, 30, 31, 32, 33, 34, 35, 36, 37, 38, 39, 40, 41, 42, 43, 44, 45, 46, 47, 48, 49, 50, 51, 52, 53, 54, 55, 56, 57] (by decide +kernel) (by decide +kernel)
set_option maxRecDepth 20000 in
theorem gX0_probe_X0_enterCruise : GoodIn wsX0_probe (wsV RX0 61 RX0 yX0_enterCruise wsX0_enterCruise) := goodIn_app (goodIn_of _ (by decide +kernel)) ggX0_probe_X0_enterCruise
set_option maxRecDepth 20000 in
theorem ggX0_probe_X0_enter : GoodIn wsX0_probe wsX0_enter := goodIn_r _ [14, 15, 16, 17, 18, 19, 20, 21, 22, 31, 32, 33, 34, 35, 36, 37, 38, 39, 40, 41] (by decide +kernel) (by decide +kernel)
set_option maxRecDepth 20000 in
theorem gX0_probe_X0_enter : GoodIn wsX0_probe (wsV RX0 44 RX0 yX0_enter wsX0_enter) := goodIn_app (goodIn_of _ (by decide +kernel)) ggX0_probe_X0_enter
theorem dX0_probe_0 : decode cX0_probe 0 = .ok (.aload_n 0, 1) := by decide +kernel
theorem dX0_probe_1 : decode cX0_probe 1 = .ok (.getfield 15, 3) := by decide +kernel
theorem dX0_probe_4 : decode cX0_probe 4 = .ok (.iconst (-1), 1) := by decide +kernel
theorem dX0_probe_5 : decode cX0_probe 5 = .ok (.if_icmp .ne 26, 3) := by decide +kernel
theorem dX0_probe_8 : decode cX0_probe 8 = .ok (.aload_n 1, 1) := by decide +kernel
theorem dX0_probe_9 : decode cX0_probe 9 = .ok (.getfield 48, 3) := by decide +kernel
theorem dX0_probe_12 : decode cX0_probe 12 = .ok (.getfield 52, 3) := by decide +kernel
theorem dX0_probe_15 : decode cX0_probe 15 = .ok (.iconst 4, 1) := by decide +kernel
theorem dX0_probe_16 : decode cX0_probe 16 = .ok (.if_icmp .gt 50, 3) := by decide +kernel
theorem dX0_probe_19 : decode cX0_probe 19 = .ok (.aload_n 0, 1) := by decide +kernel
theorem dX0_probe_20 : decode cX0_probe 20 = .ok (.iload_n 2, 1) := by decide +kernel
theorem dX0_probe_21 : decode cX0_probe 21 = .ok (.sipush 200, 3) := by decide +kernel
theorem dX0_probe_24 : decode cX0_probe 24 = .ok (.iadd, 1) := by decide +kernel
theorem dX0_probe_25 : decode cX0_probe 25 = .ok (.putfield 15, 3) := by decide +kernel
theorem dX0_probe_28 : decode cX0_probe 28 = .ok (.goto 38, 3) := by decide +kernel
theorem dX0_probe_31 : decode cX0_probe 31 = .ok (.iload_n 2, 1) := by decide +kernel
theorem dX0_probe_32 : decode cX0_probe 32 = .ok (.aload_n 0, 1) := by decide +kernel
theorem dX0_probe_33 : decode cX0_probe 33 = .ok (.getfield 15, 3) := by decide +kernel
theorem dX0_probe_36 : decode cX0_probe 36 = .ok (.if_icmp .lt 30, 3) := by decide +kernel
theorem dX0_probe_39 : decode cX0_probe 39 = .ok (.aload_n 1, 1) := by decide +kernel
theorem dX0_probe_40 : decode cX0_probe 40 = .ok (.iload_n 2, 1) := by decide +kernel
theorem dX0_probe_41 : decode cX0_probe 41 = .ok (.putfield 102, 3) := by decide +kernel
theorem dX0_probe_44 : decode cX0_probe 44 = .ok (.aload_n 0, 1) := by decide +kernel
theorem dX0_probe_45 : decode cX0_probe 45 = .ok (.getfield 40, 3) := by decide +kernel
theorem dX0_probe_48 : decode cX0_probe 48 = .ok (.ifCond .eq 12, 3) := by decide +kernel
theorem dX0_probe_51 : decode cX0_probe 51 = .ok (.aload_n 0, 1) := by decide +kernel
theorem dX0_probe_52 : decode cX0_probe 52 = .ok (.aload_n 1, 1) := by decide +kernel
theorem dX0_probe_53 : decode cX0_probe 53 = .ok (.iload_n 2, 1) := by decide +kernel
theorem dX0_probe_54 : decode cX0_probe 54 = .ok (.invokevirtual 61, 3) := by decide +kernel
theorem dX0_probe_57 : decode cX0_probe 57 = .ok (.goto 9, 3) := by decide +kernel
theorem dX0_probe_60 : decode cX0_probe 60 = .ok (.aload_n 0, 1) := by decide +kernel
theorem dX0_probe_61 : decode cX0_probe 61 = .ok (.iconst 0, 1) := by decide +kernel
theorem dX0_probe_62 : decode cX0_probe 62 = .ok (.iload_n 2, 1) := by decide +kernel
theorem dX0_probe_63 : decode cX0_probe 63 = .ok (.invokevirtual 44, 3) := by decide +kernel
theorem dX0_probe_66 : decode cX0_probe 66 = .ok (.return_, 1) := by decide +kernel
set_option maxRecDepth 20000 in
theorem ggX0_enterCruise_X0_enter : GoodIn wsX0_enterCruise wsX0_enter := goodIn_r _ [5, 6, 7, 8, 9, 10, 11, 12, 13, 22, 23, 24, 25, 26, 27, 28, 29, 30, 31, 32] (by decide +kernel) (by decide +kernel)
set_option maxRecDepth 20000 in
theorem gX0_enterCruise_X0_enter : GoodIn wsX0_enterCruise (wsV RX0 44 RX0 yX0_enter wsX0_enter) := goodIn_app (goodIn_of _ (by decide +kernel)) ggX0_enterCruise_X0_enter
set_option maxRecDepth 20000 in
theorem ggX0_enterCruise_X0_beginPhase : GoodIn wsX0_enterCruise wsX0_beginPhase := goodIn_r _ [17, 18, 19, 20, 21, 22, 23, 24, 25, 26, 27, 28, 29, 30, 31, 32, 33, 34, 35, 36, 37, 38, 39, 40, 41, 42, 43, 44, 45, 46, 47, 48] (by decide +kernel) (by decide +kernel)
set_option maxRecDepth 20000 in
theorem gX0_enterCruise_X0_beginPhase : GoodIn wsX0_enterCruise (wsV RX0 69 RX0 yX0_beginPhase wsX0_beginPhase) := goodIn_app (goodIn_of _ (by decide +kernel)) ggX0_enterCruise_X0_beginPhase
theorem dX0_enterCruise_0 : decode cX0_enterCruise 0 = .ok (.aload_n 0, 1) := by decide +kernel
theorem dX0_enterCruise_1 : decode cX0_enterCruise 1 = .ok (.iconst 2, 1) := by decide +kernel
theorem dX0_enterCruise_2 : decode cX0_enterCruise 2 = .ok (.iload_n 2, 1) := by decide +kernel
theorem dX0_enterCruise_3 : decode cX0_enterCruise 3 = .ok (.invokevirtual 44, 3) := by decide +kernel
theorem dX0_enterCruise_6 : decode cX0_enterCruise 6 = .ok (.aload_n 0, 1) := by decide +kernel
theorem dX0_enterCruise_7 : decode cX0_enterCruise 7 = .ok (.iconst 2, 1) := by decide +kernel
theorem dX0_enterCruise_8 : decode cX0_enterCruise 8 = .ok (.aload_n 1, 1) := by decide +kernel
theorem dX0_enterCruise_9 : decode cX0_enterCruise 9 = .ok (.iload_n 2, 1) := by decide +kernel
theorem dX0_enterCruise_10 : decode cX0_enterCruise 10 = .ok (.invokevirtual 69, 3) := by decide +kernel
theorem dX0_enterCruise_13 : decode cX0_enterCruise 13 = .ok (.return_, 1) := by decide +kernel
theorem dX0_beginPhase_0 : decode cX0_beginPhase 0 = .ok (.aload_n 0, 1) := by decide +kernel
theorem dX0_beginPhase_1 : decode cX0_beginPhase 1 = .ok (.iload_n 1, 1) := by decide +kernel
theorem dX0_beginPhase_2 : decode cX0_beginPhase 2 = .ok (.putfield 25, 3) := by decide +kernel
theorem dX0_beginPhase_5 : decode cX0_beginPhase 5 = .ok (.aload_n 0, 1) := by decide +kernel
theorem dX0_beginPhase_6 : decode cX0_beginPhase 6 = .ok (.iload_n 3, 1) := by decide +kernel
theorem dX0_beginPhase_7 : decode cX0_beginPhase 7 = .ok (.putfield 86, 3) := by decide +kernel
theorem dX0_beginPhase_10 : decode cX0_beginPhase 10 = .ok (.aload_n 0, 1) := by decide +kernel
theorem dX0_beginPhase_11 : decode cX0_beginPhase 11 = .ok (.aload_n 2, 1) := by decide +kernel
theorem dX0_beginPhase_12 : decode cX0_beginPhase 12 = .ok (.getfield 92, 3) := by decide +kernel
theorem dX0_beginPhase_15 : decode cX0_beginPhase 15 = .ok (.putfield 95, 3) := by decide +kernel
theorem dX0_beginPhase_18 : decode cX0_beginPhase 18 = .ok (.return_, 1) := by decide +kernel
set_option maxRecDepth 20000 in
theorem ggX0_enter_J9_floorMod_7cf53 : GoodIn wsX0_enter wsJ9_floorMod_7cf53 := goodIn_r _ [8] (by decide +kernel) (by decide +kernel)
set_option maxRecDepth 20000 in
theorem gX0_enter_J9_floorMod_7cf53 : GoodIn wsX0_enter (va_wsS RX0 108 yJ9_floorMod_7cf53 wsJ9_floorMod_7cf53) := goodIn_app (goodIn_of _ (by decide +kernel)) ggX0_enter_J9_floorMod_7cf53
theorem dX0_enter_0 : decode cX0_enter 0 = .ok (.aload_n 0, 1) := by decide +kernel
theorem dX0_enter_1 : decode cX0_enter 1 = .ok (.iload_n 1, 1) := by decide +kernel
theorem dX0_enter_2 : decode cX0_enter 2 = .ok (.putfield 9, 3) := by decide +kernel
theorem dX0_enter_5 : decode cX0_enter 5 = .ok (.aload_n 0, 1) := by decide +kernel
theorem dX0_enter_6 : decode cX0_enter 6 = .ok (.getfield 105, 3) := by decide +kernel
theorem dX0_enter_9 : decode cX0_enter 9 = .ok (.bipush 12, 2) := by decide +kernel
theorem dX0_enter_11 : decode cX0_enter 11 = .ok (.invokestatic 108, 3) := by decide +kernel
theorem dX0_enter_14 : decode cX0_enter 14 = .ok (.istore_n 3, 1) := by decide +kernel
theorem dX0_enter_15 : decode cX0_enter 15 = .ok (.aload_n 0, 1) := by decide +kernel
theorem dX0_enter_16 : decode cX0_enter 16 = .ok (.getfield 18, 3) := by decide +kernel
theorem dX0_enter_19 : decode cX0_enter 19 = .ok (.iload_n 3, 1) := by decide +kernel
theorem dX0_enter_20 : decode cX0_enter 20 = .ok (.iload_n 2, 1) := by decide +kernel
theorem dX0_enter_21 : decode cX0_enter 21 = .ok (.iastore, 1) := by decide +kernel
theorem dX0_enter_22 : decode cX0_enter 22 = .ok (.aload_n 0, 1) := by decide +kernel
theorem dX0_enter_23 : decode cX0_enter 23 = .ok (.getfield 22, 3) := by decide +kernel
theorem dX0_enter_26 : decode cX0_enter 26 = .ok (.iload_n 3, 1) := by decide +kernel
theorem dX0_enter_27 : decode cX0_enter 27 = .ok (.iload_n 1, 1) := by decide +kernel
theorem dX0_enter_28 : decode cX0_enter 28 = .ok (.iastore, 1) := by decide +kernel
theorem dX0_enter_29 : decode cX0_enter 29 = .ok (.aload_n 0, 1) := by decide +kernel
theorem dX0_enter_30 : decode cX0_enter 30 = .ok (.dup, 1) := by decide +kernel
theorem dX0_enter_31 : decode cX0_enter 31 = .ok (.getfield 105, 3) := by decide +kernel
theorem dX0_enter_34 : decode cX0_enter 34 = .ok (.iconst 1, 1) := by decide +kernel
theorem dX0_enter_35 : decode cX0_enter 35 = .ok (.iadd, 1) := by decide +kernel
theorem dX0_enter_36 : decode cX0_enter 36 = .ok (.putfield 105, 3) := by decide +kernel
theorem dX0_enter_39 : decode cX0_enter 39 = .ok (.return_, 1) := by decide +kernel
theorem dX0_ticksToEnd_0 : decode cX0_ticksToEnd 0 = .ok (.aload_n 0, 1) := by decide +kernel
theorem dX0_ticksToEnd_1 : decode cX0_ticksToEnd 1 = .ok (.getfield 9, 3) := by decide +kernel
theorem dX0_ticksToEnd_4 : decode cX0_ticksToEnd 4 = .ok (.iconst 3, 1) := by decide +kernel
theorem dX0_ticksToEnd_5 : decode cX0_ticksToEnd 5 = .ok (.if_icmp .ne 24, 3) := by decide +kernel
theorem dX0_ticksToEnd_8 : decode cX0_ticksToEnd 8 = .ok (.aload_n 0, 1) := by decide +kernel
theorem dX0_ticksToEnd_9 : decode cX0_ticksToEnd 9 = .ok (.getfield 15, 3) := by decide +kernel
theorem dX0_ticksToEnd_12 : decode cX0_ticksToEnd 12 = .ok (.iconst (-1), 1) := by decide +kernel
theorem dX0_ticksToEnd_13 : decode cX0_ticksToEnd 13 = .ok (.if_icmp .eq 16, 3) := by decide +kernel
theorem dX0_ticksToEnd_16 : decode cX0_ticksToEnd 16 = .ok (.iconst 0, 1) := by decide +kernel
theorem dX0_ticksToEnd_17 : decode cX0_ticksToEnd 17 = .ok (.aload_n 0, 1) := by decide +kernel
theorem dX0_ticksToEnd_18 : decode cX0_ticksToEnd 18 = .ok (.getfield 15, 3) := by decide +kernel
theorem dX0_ticksToEnd_21 : decode cX0_ticksToEnd 21 = .ok (.iload_n 1, 1) := by decide +kernel
theorem dX0_ticksToEnd_22 : decode cX0_ticksToEnd 22 = .ok (.isub, 1) := by decide +kernel
theorem dX0_ticksToEnd_23 : decode cX0_ticksToEnd 23 = .ok (.invokestatic 114, 3) := by decide +kernel
theorem dX0_ticksToEnd_26 : decode cX0_ticksToEnd 26 = .ok (.goto 5, 3) := by decide +kernel
theorem dX0_ticksToEnd_29 : decode cX0_ticksToEnd 29 = .ok (.bipush (-9), 2) := by decide +kernel
theorem dX0_ticksToEnd_31 : decode cX0_ticksToEnd 31 = .ok (.ireturn, 1) := by decide +kernel
theorem dX0_turnsKept_0 : decode cX0_turnsKept 0 = .ok (.aload_n 0, 1) := by decide +kernel
theorem dX0_turnsKept_1 : decode cX0_turnsKept 1 = .ok (.getfield 105, 3) := by decide +kernel
theorem dX0_turnsKept_4 : decode cX0_turnsKept 4 = .ok (.bipush 12, 2) := by decide +kernel
theorem dX0_turnsKept_6 : decode cX0_turnsKept 6 = .ok (.invokestatic 117, 3) := by decide +kernel
theorem dX0_turnsKept_9 : decode cX0_turnsKept 9 = .ok (.ireturn, 1) := by decide +kernel
set_option maxRecDepth 20000 in
theorem ggX0_turnTickOf_X0_turnPlace : GoodIn wsX0_turnTickOf wsX0_turnPlace := goodIn_r _ [6, 7, 8, 9, 10, 5, 11, 12, 13, 14, 15, 16, 17, 18, 19, 20, 21, 22, 23, 24, 25, 26, 27, 28, 29, 30] (by decide +kernel) (by decide +kernel)
set_option maxRecDepth 20000 in
theorem gX0_turnTickOf_X0_turnPlace : GoodIn wsX0_turnTickOf (wsV RX0 120 RX0 yX0_turnPlace wsX0_turnPlace) := goodIn_app (goodIn_of _ (by decide +kernel)) ggX0_turnTickOf_X0_turnPlace
theorem dX0_turnTickOf_0 : decode cX0_turnTickOf 0 = .ok (.aload_n 0, 1) := by decide +kernel
theorem dX0_turnTickOf_1 : decode cX0_turnTickOf 1 = .ok (.getfield 18, 3) := by decide +kernel
theorem dX0_turnTickOf_4 : decode cX0_turnTickOf 4 = .ok (.aload_n 0, 1) := by decide +kernel
theorem dX0_turnTickOf_5 : decode cX0_turnTickOf 5 = .ok (.iload_n 1, 1) := by decide +kernel
theorem dX0_turnTickOf_6 : decode cX0_turnTickOf 6 = .ok (.invokevirtual 120, 3) := by decide +kernel
theorem dX0_turnTickOf_9 : decode cX0_turnTickOf 9 = .ok (.iaload, 1) := by decide +kernel
theorem dX0_turnTickOf_10 : decode cX0_turnTickOf 10 = .ok (.ireturn, 1) := by decide +kernel
set_option maxRecDepth 20000 in
theorem ggX0_turnStateOf_X0_turnPlace : GoodIn wsX0_turnStateOf wsX0_turnPlace := goodIn_r _ [6, 7, 8, 9, 10, 5, 11, 12, 13, 14, 15, 16, 17, 18, 19, 20, 21, 22, 23, 24, 25, 26, 27, 28, 29, 30] (by decide +kernel) (by decide +kernel)
set_option maxRecDepth 20000 in
theorem gX0_turnStateOf_X0_turnPlace : GoodIn wsX0_turnStateOf (wsV RX0 120 RX0 yX0_turnPlace wsX0_turnPlace) := goodIn_app (goodIn_of _ (by decide +kernel)) ggX0_turnStateOf_X0_turnPlace
theorem dX0_turnStateOf_0 : decode cX0_turnStateOf 0 = .ok (.aload_n 0, 1) := by decide +kernel
theorem dX0_turnStateOf_1 : decode cX0_turnStateOf 1 = .ok (.getfield 22, 3) := by decide +kernel
theorem dX0_turnStateOf_4 : decode cX0_turnStateOf 4 = .ok (.aload_n 0, 1) := by decide +kernel
theorem dX0_turnStateOf_5 : decode cX0_turnStateOf 5 = .ok (.iload_n 1, 1) := by decide +kernel
theorem dX0_turnStateOf_6 : decode cX0_turnStateOf 6 = .ok (.invokevirtual 120, 3) := by decide +kernel
theorem dX0_turnStateOf_9 : decode cX0_turnStateOf 9 = .ok (.iaload, 1) := by decide +kernel
theorem dX0_turnStateOf_10 : decode cX0_turnStateOf 10 = .ok (.ireturn, 1) := by decide +kernel
set_option maxRecDepth 20000 in
theorem ggX0_turnPlace_X0_turnsKept : GoodIn wsX0_turnPlace wsX0_turnsKept := goodIn_r _ [6, 1, 7, 8, 9, 10, 15, 16, 17, 18, 19, 20, 21, 22, 23, 24, 25] (by decide +kernel) (by decide +kernel)
set_option maxRecDepth 20000 in
theorem gX0_turnPlace_X0_turnsKept : GoodIn wsX0_turnPlace (wsV RX0 124 RX0 yX0_turnsKept wsX0_turnsKept) := goodIn_app (goodIn_of _ (by decide +kernel)) ggX0_turnPlace_X0_turnsKept
set_option maxRecDepth 20000 in
theorem ggX0_turnPlace_J9_floorMod_7cf53 : GoodIn wsX0_turnPlace wsJ9_floorMod_7cf53 := goodIn_r _ [14] (by decide +kernel) (by decide +kernel)
set_option maxRecDepth 20000 in
theorem gX0_turnPlace_J9_floorMod_7cf53 : GoodIn wsX0_turnPlace (va_wsS RX0 108 yJ9_floorMod_7cf53 wsJ9_floorMod_7cf53) := goodIn_app (goodIn_of _ (by decide +kernel)) ggX0_turnPlace_J9_floorMod_7cf53
theorem dX0_turnPlace_0 : decode cX0_turnPlace 0 = .ok (.aload_n 0, 1) := by decide +kernel
theorem dX0_turnPlace_1 : decode cX0_turnPlace 1 = .ok (.getfield 105, 3) := by decide +kernel
theorem dX0_turnPlace_4 : decode cX0_turnPlace 4 = .ok (.aload_n 0, 1) := by decide +kernel
theorem dX0_turnPlace_5 : decode cX0_turnPlace 5 = .ok (.invokevirtual 124, 3) := by decide +kernel
theorem dX0_turnPlace_8 : decode cX0_turnPlace 8 = .ok (.isub, 1) := by decide +kernel
theorem dX0_turnPlace_9 : decode cX0_turnPlace 9 = .ok (.iload_n 1, 1) := by decide +kernel
theorem dX0_turnPlace_10 : decode cX0_turnPlace 10 = .ok (.iadd, 1) := by decide +kernel
theorem dX0_turnPlace_11 : decode cX0_turnPlace 11 = .ok (.bipush 12, 2) := by decide +kernel
theorem dX0_turnPlace_13 : decode cX0_turnPlace 13 = .ok (.invokestatic 108, 3) := by decide +kernel
theorem dX0_turnPlace_16 : decode cX0_turnPlace 16 = .ok (.ireturn, 1) := by decide +kernel
set_option maxRecDepth 20000 in
theorem ggX1_init_X2_init : GoodIn wsX1_init wsX2_init := goodIn_r _ [14, 15, 2, 3, 16, 29, 30, 31, 32, 33, 34, 35, 36] (by decide +kernel) (by decide +kernel)
set_option maxRecDepth 20000 in
theorem gX1_init_X2_init : GoodIn wsX1_init (wsX2_init) := ggX1_init_X2_init
theorem dX1_init_0 : decode cX1_init 0 = .ok (.aload_n 0, 1) := by decide +kernel
theorem dX1_init_1 : decode cX1_init 1 = .ok (.invokespecial 3, 3) := by decide +kernel
theorem dX1_init_4 : decode cX1_init 4 = .ok (.aload_n 0, 1) := by decide +kernel
theorem dX1_init_5 : decode cX1_init 5 = .ok (.iconst 5, 1) := by decide +kernel
theorem dX1_init_6 : decode cX1_init 6 = .ok (.putfield 9, 3) := by decide +kernel
theorem dX1_init_9 : decode cX1_init 9 = .ok (.aload_n 0, 1) := by decide +kernel
theorem dX1_init_10 : decode cX1_init 10 = .ok (.bipush 20, 2) := by decide +kernel
theorem dX1_init_12 : decode cX1_init 12 = .ok (.putfield 15, 3) := by decide +kernel
theorem dX1_init_15 : decode cX1_init 15 = .ok (.aload_n 0, 1) := by decide +kernel
theorem dX1_init_16 : decode cX1_init 16 = .ok (.bipush 30, 2) := by decide +kernel
theorem dX1_init_18 : decode cX1_init 18 = .ok (.putfield 18, 3) := by decide +kernel
theorem dX1_init_21 : decode cX1_init 21 = .ok (.aload_n 0, 1) := by decide +kernel
theorem dX1_init_22 : decode cX1_init 22 = .ok (.bipush 60, 2) := by decide +kernel
theorem dX1_init_24 : decode cX1_init 24 = .ok (.anewarray 21, 3) := by decide +kernel
theorem dX1_init_27 : decode cX1_init 27 = .ok (.putfield 23, 3) := by decide +kernel
theorem dX1_init_30 : decode cX1_init 30 = .ok (.aload_n 0, 1) := by decide +kernel
theorem dX1_init_31 : decode cX1_init 31 = .ok (.new 21, 3) := by decide +kernel
theorem dX1_init_34 : decode cX1_init 34 = .ok (.dup, 1) := by decide +kernel
theorem dX1_init_35 : decode cX1_init 35 = .ok (.aconst_null, 1) := by decide +kernel
theorem dX1_init_36 : decode cX1_init 36 = .ok (.invokespecial 27, 3) := by decide +kernel
theorem dX1_init_39 : decode cX1_init 39 = .ok (.putfield 30, 3) := by decide +kernel
theorem dX1_init_42 : decode cX1_init 42 = .ok (.return_, 1) := by decide +kernel
set_option maxRecDepth 20000 in
theorem ggX1_admitGuest_X1_admit : GoodIn wsX1_admitGuest wsX1_admit := goodIn_r _ [7, 8, 9, 10, 11, 12, 13, 14, 15, 16, 17, 18, 19, 20, 6, 21, 22, 23, 24, 25, 26, 27, 28, 29, 30, 31, 32, 33, 34, 35] (by decide +kernel) (by decide +kernel)
set_option maxRecDepth 20000 in
theorem gX1_admitGuest_X1_admit : GoodIn wsX1_admitGuest (wsV RX1 34 RX1 yX1_admit wsX1_admit) := goodIn_app (goodIn_of _ (by decide +kernel)) ggX1_admitGuest_X1_admit
theorem dX1_admitGuest_0 : decode cX1_admitGuest 0 = .ok (.aload_n 0, 1) := by decide +kernel
theorem dX1_admitGuest_1 : decode cX1_admitGuest 1 = .ok (.aload_n 0, 1) := by decide +kernel
theorem dX1_admitGuest_2 : decode cX1_admitGuest 2 = .ok (.getfield 30, 3) := by decide +kernel
theorem dX1_admitGuest_5 : decode cX1_admitGuest 5 = .ok (.iload_n 1, 1) := by decide +kernel
theorem dX1_admitGuest_6 : decode cX1_admitGuest 6 = .ok (.invokevirtual 34, 3) := by decide +kernel
theorem dX1_admitGuest_9 : decode cX1_admitGuest 9 = .ok (.ifCond .ne 13, 3) := by decide +kernel
theorem dX1_admitGuest_12 : decode cX1_admitGuest 12 = .ok (.aload_n 0, 1) := by decide +kernel
theorem dX1_admitGuest_13 : decode cX1_admitGuest 13 = .ok (.dup, 1) := by decide +kernel
theorem dX1_admitGuest_14 : decode cX1_admitGuest 14 = .ok (.getfield 38, 3) := by decide +kernel
theorem dX1_admitGuest_17 : decode cX1_admitGuest 17 = .ok (.iconst 1, 1) := by decide +kernel
theorem dX1_admitGuest_18 : decode cX1_admitGuest 18 = .ok (.iadd, 1) := by decide +kernel
theorem dX1_admitGuest_19 : decode cX1_admitGuest 19 = .ok (.putfield 38, 3) := by decide +kernel
theorem dX1_admitGuest_22 : decode cX1_admitGuest 22 = .ok (.return_, 1) := by decide +kernel
set_option maxRecDepth 20000 in
theorem ggX1_admit_X1_serve : GoodIn wsX1_admit wsX1_serve := goodIn_r _ [15, 1, 16, 17, 18, 19, 20, 21, 22, 23, 24, 25, 26, 27, 28, 29] (by decide +kernel) (by decide +kernel)
set_option maxRecDepth 20000 in
theorem gX1_admit_X1_serve : GoodIn wsX1_admit (wsV RX1 44 RX1 yX1_serve wsX1_serve) := goodIn_app (goodIn_of _ (by decide +kernel)) ggX1_admit_X1_serve
theorem dX1_admit_0 : decode cX1_admit 0 = .ok (.aload_n 0, 1) := by decide +kernel
theorem dX1_admit_1 : decode cX1_admit 1 = .ok (.getfield 41, 3) := by decide +kernel
theorem dX1_admit_4 : decode cX1_admit 4 = .ok (.ifnonnull 11, 3) := by decide +kernel
theorem dX1_admit_7 : decode cX1_admit 7 = .ok (.aload_n 0, 1) := by decide +kernel
theorem dX1_admit_8 : decode cX1_admit 8 = .ok (.aload_n 1, 1) := by decide +kernel
theorem dX1_admit_9 : decode cX1_admit 9 = .ok (.iload_n 2, 1) := by decide +kernel
theorem dX1_admit_10 : decode cX1_admit 10 = .ok (.invokevirtual 44, 3) := by decide +kernel
theorem dX1_admit_13 : decode cX1_admit 13 = .ok (.iconst 1, 1) := by decide +kernel
theorem dX1_admit_14 : decode cX1_admit 14 = .ok (.ireturn, 1) := by decide +kernel
theorem dX1_admit_15 : decode cX1_admit 15 = .ok (.aload_n 0, 1) := by decide +kernel
theorem dX1_admit_16 : decode cX1_admit 16 = .ok (.getfield 48, 3) := by decide +kernel
theorem dX1_admit_19 : decode cX1_admit 19 = .ok (.aload_n 0, 1) := by decide +kernel
theorem dX1_admit_20 : decode cX1_admit 20 = .ok (.getfield 51, 3) := by decide +kernel
theorem dX1_admit_23 : decode cX1_admit 23 = .ok (.iadd, 1) := by decide +kernel
theorem dX1_admit_24 : decode cX1_admit 24 = .ok (.istore_n 3, 1) := by decide +kernel
theorem dX1_admit_25 : decode cX1_admit 25 = .ok (.iload_n 3, 1) := by decide +kernel
theorem dX1_admit_26 : decode cX1_admit 26 = .ok (.aload_n 0, 1) := by decide +kernel
theorem dX1_admit_27 : decode cX1_admit 27 = .ok (.getfield 23, 3) := by decide +kernel
theorem dX1_admit_30 : decode cX1_admit 30 = .ok (.arraylength, 1) := by decide +kernel
theorem dX1_admit_31 : decode cX1_admit 31 = .ok (.if_icmp .lt 11, 3) := by decide +kernel
theorem dX1_admit_34 : decode cX1_admit 34 = .ok (.iload_n 3, 1) := by decide +kernel
theorem dX1_admit_35 : decode cX1_admit 35 = .ok (.aload_n 0, 1) := by decide +kernel
theorem dX1_admit_36 : decode cX1_admit 36 = .ok (.getfield 23, 3) := by decide +kernel
theorem dX1_admit_39 : decode cX1_admit 39 = .ok (.arraylength, 1) := by decide +kernel
theorem dX1_admit_40 : decode cX1_admit 40 = .ok (.isub, 1) := by decide +kernel
theorem dX1_admit_41 : decode cX1_admit 41 = .ok (.istore_n 3, 1) := by decide +kernel
theorem dX1_admit_42 : decode cX1_admit 42 = .ok (.aload_n 0, 1) := by decide +kernel
theorem dX1_admit_43 : decode cX1_admit 43 = .ok (.getfield 51, 3) := by decide +kernel
theorem dX1_admit_46 : decode cX1_admit 46 = .ok (.aload_n 0, 1) := by decide +kernel
theorem dX1_admit_47 : decode cX1_admit 47 = .ok (.getfield 15, 3) := by decide +kernel
theorem dX1_admit_50 : decode cX1_admit 50 = .ok (.if_icmp .ge 16, 3) := by decide +kernel
theorem dX1_admit_53 : decode cX1_admit 53 = .ok (.iload_n 3, 1) := by decide +kernel
theorem dX1_admit_54 : decode cX1_admit 54 = .ok (.ifCond .lt 12, 3) := by decide +kernel
theorem dX1_admit_57 : decode cX1_admit 57 = .ok (.iload_n 3, 1) := by decide +kernel
theorem dX1_admit_58 : decode cX1_admit 58 = .ok (.aload_n 0, 1) := by decide +kernel
theorem dX1_admit_59 : decode cX1_admit 59 = .ok (.getfield 23, 3) := by decide +kernel
theorem dX1_admit_62 : decode cX1_admit 62 = .ok (.arraylength, 1) := by decide +kernel
theorem dX1_admit_63 : decode cX1_admit 63 = .ok (.if_icmp .lt 5, 3) := by decide +kernel
theorem dX1_admit_66 : decode cX1_admit 66 = .ok (.iconst 0, 1) := by decide +kernel
theorem dX1_admit_67 : decode cX1_admit 67 = .ok (.ireturn, 1) := by decide +kernel
theorem dX1_admit_68 : decode cX1_admit 68 = .ok (.aload_n 0, 1) := by decide +kernel
theorem dX1_admit_69 : decode cX1_admit 69 = .ok (.getfield 23, 3) := by decide +kernel
theorem dX1_admit_72 : decode cX1_admit 72 = .ok (.iload_n 3, 1) := by decide +kernel
theorem dX1_admit_73 : decode cX1_admit 73 = .ok (.aload_n 1, 1) := by decide +kernel
theorem dX1_admit_74 : decode cX1_admit 74 = .ok (.aastore, 1) := by decide +kernel
theorem dX1_admit_75 : decode cX1_admit 75 = .ok (.aload_n 0, 1) := by decide +kernel
theorem dX1_admit_76 : decode cX1_admit 76 = .ok (.dup, 1) := by decide +kernel
theorem dX1_admit_77 : decode cX1_admit 77 = .ok (.getfield 51, 3) := by decide +kernel
theorem dX1_admit_80 : decode cX1_admit 80 = .ok (.iconst 1, 1) := by decide +kernel
theorem dX1_admit_81 : decode cX1_admit 81 = .ok (.iadd, 1) := by decide +kernel
theorem dX1_admit_82 : decode cX1_admit 82 = .ok (.putfield 51, 3) := by decide +kernel
theorem dX1_admit_85 : decode cX1_admit 85 = .ok (.aload_n 0, 1) := by decide +kernel
theorem dX1_admit_86 : decode cX1_admit 86 = .ok (.aload_n 0, 1) := by decide +kernel
theorem dX1_admit_87 : decode cX1_admit 87 = .ok (.getfield 54, 3) := by decide +kernel
theorem dX1_admit_90 : decode cX1_admit 90 = .ok (.aload_n 0, 1) := by decide +kernel
theorem dX1_admit_91 : decode cX1_admit 91 = .ok (.getfield 51, 3) := by decide +kernel
theorem dX1_admit_94 : decode cX1_admit 94 = .ok (.invokestatic 57, 3) := by decide +kernel
theorem dX1_admit_97 : decode cX1_admit 97 = .ok (.putfield 54, 3) := by decide +kernel
theorem dX1_admit_100 : decode cX1_admit 100 = .ok (.iconst 1, 1) := by decide +kernel
theorem dX1_admit_101 : decode cX1_admit 101 = .ok (.ireturn, 1) := by decide +kernel
set_option maxRecDepth 20000 in
theorem ggX1_release_X1_serveFirstWaiting : GoodIn wsX1_release wsX1_serveFirstWaiting := goodIn_r _ [13, 14, 15, 16, 17, 18, 19, 12, 20, 1, 21, 2, 22, 23, 24, 25, 26, 27, 28, 29, 30, 31, 32, 33] (by decide +kernel) (by decide +kernel)
set_option maxRecDepth 20000 in
theorem gX1_release_X1_serveFirstWaiting : GoodIn wsX1_release (wsV RX1 85 RX1 yX1_serveFirstWaiting wsX1_serveFirstWaiting) := goodIn_app (goodIn_of _ (by decide +kernel)) ggX1_release_X1_serveFirstWaiting
theorem dX1_release_0 : decode cX1_release 0 = .ok (.aload_n 0, 1) := by decide +kernel
theorem dX1_release_1 : decode cX1_release 1 = .ok (.getfield 41, 3) := by decide +kernel
theorem dX1_release_4 : decode cX1_release 4 = .ok (.ifnull 11, 3) := by decide +kernel
theorem dX1_release_7 : decode cX1_release 7 = .ok (.aload_n 0, 1) := by decide +kernel
theorem dX1_release_8 : decode cX1_release 8 = .ok (.getfield 63, 3) := by decide +kernel
theorem dX1_release_11 : decode cX1_release 11 = .ok (.iload_n 1, 1) := by decide +kernel
theorem dX1_release_12 : decode cX1_release 12 = .ok (.if_icmp .eq 4, 3) := by decide +kernel
theorem dX1_release_15 : decode cX1_release 15 = .ok (.return_, 1) := by decide +kernel
theorem dX1_release_16 : decode cX1_release 16 = .ok (.aload_n 0, 1) := by decide +kernel
theorem dX1_release_17 : decode cX1_release 17 = .ok (.getfield 41, 3) := by decide +kernel
theorem dX1_release_20 : decode cX1_release 20 = .ok (.getfield 66, 3) := by decide +kernel
theorem dX1_release_23 : decode cX1_release 23 = .ok (.ifnonnull 16, 3) := by decide +kernel
theorem dX1_release_26 : decode cX1_release 26 = .ok (.aload_n 0, 1) := by decide +kernel
theorem dX1_release_27 : decode cX1_release 27 = .ok (.dup, 1) := by decide +kernel
theorem dX1_release_28 : decode cX1_release 28 = .ok (.getfield 70, 3) := by decide +kernel
theorem dX1_release_31 : decode cX1_release 31 = .ok (.iconst 1, 1) := by decide +kernel
theorem dX1_release_32 : decode cX1_release 32 = .ok (.iadd, 1) := by decide +kernel
theorem dX1_release_33 : decode cX1_release 33 = .ok (.putfield 70, 3) := by decide +kernel
theorem dX1_release_36 : decode cX1_release 36 = .ok (.goto 40, 3) := by decide +kernel
theorem dX1_release_39 : decode cX1_release 39 = .ok (.aload_n 0, 1) := by decide +kernel
theorem dX1_release_40 : decode cX1_release 40 = .ok (.getfield 41, 3) := by decide +kernel
theorem dX1_release_43 : decode cX1_release 43 = .ok (.getfield 66, 3) := by decide +kernel
theorem dX1_release_46 : decode cX1_release 46 = .ok (.dup, 1) := by decide +kernel
theorem dX1_release_47 : decode cX1_release 47 = .ok (.getfield 73, 3) := by decide +kernel
theorem dX1_release_50 : decode cX1_release 50 = .ok (.iconst 1, 1) := by decide +kernel
theorem dX1_release_51 : decode cX1_release 51 = .ok (.iadd, 1) := by decide +kernel
theorem dX1_release_52 : decode cX1_release 52 = .ok (.putfield 73, 3) := by decide +kernel
theorem dX1_release_55 : decode cX1_release 55 = .ok (.aload_n 0, 1) := by decide +kernel
theorem dX1_release_56 : decode cX1_release 56 = .ok (.getfield 41, 3) := by decide +kernel
theorem dX1_release_59 : decode cX1_release 59 = .ok (.iconst 1, 1) := by decide +kernel
theorem dX1_release_60 : decode cX1_release 60 = .ok (.putfield 78, 3) := by decide +kernel
theorem dX1_release_63 : decode cX1_release 63 = .ok (.aload_n 0, 1) := by decide +kernel
theorem dX1_release_64 : decode cX1_release 64 = .ok (.getfield 41, 3) := by decide +kernel
theorem dX1_release_67 : decode cX1_release 67 = .ok (.iload_n 1, 1) := by decide +kernel
theorem dX1_release_68 : decode cX1_release 68 = .ok (.aload_n 0, 1) := by decide +kernel
theorem dX1_release_69 : decode cX1_release 69 = .ok (.getfield 18, 3) := by decide +kernel
theorem dX1_release_72 : decode cX1_release 72 = .ok (.iadd, 1) := by decide +kernel
theorem dX1_release_73 : decode cX1_release 73 = .ok (.putfield 82, 3) := by decide +kernel
theorem dX1_release_76 : decode cX1_release 76 = .ok (.aload_n 0, 1) := by decide +kernel
theorem dX1_release_77 : decode cX1_release 77 = .ok (.aconst_null, 1) := by decide +kernel
theorem dX1_release_78 : decode cX1_release 78 = .ok (.putfield 41, 3) := by decide +kernel
theorem dX1_release_81 : decode cX1_release 81 = .ok (.aload_n 0, 1) := by decide +kernel
theorem dX1_release_82 : decode cX1_release 82 = .ok (.iload_n 1, 1) := by decide +kernel
theorem dX1_release_83 : decode cX1_release 83 = .ok (.invokevirtual 85, 3) := by decide +kernel
theorem dX1_release_86 : decode cX1_release 86 = .ok (.return_, 1) := by decide +kernel
set_option maxRecDepth 20000 in
theorem ggX1_serveFirstWaiting_X1_serve : GoodIn wsX1_serveFirstWaiting wsX1_serve := goodIn_r _ [8, 9, 10, 11, 12, 13, 14, 15, 16, 17, 18, 19, 20, 21, 22, 23] (by decide +kernel) (by decide +kernel)
set_option maxRecDepth 20000 in
theorem gX1_serveFirstWaiting_X1_serve : GoodIn wsX1_serveFirstWaiting (wsV RX1 44 RX1 yX1_serve wsX1_serve) := goodIn_app (goodIn_of _ (by decide +kernel)) ggX1_serveFirstWaiting_X1_serve
theorem dX1_serveFirstWaiting_0 : decode cX1_serveFirstWaiting 0 = .ok (.aload_n 0, 1) := by decide +kernel
theorem dX1_serveFirstWaiting_1 : decode cX1_serveFirstWaiting 1 = .ok (.getfield 51, 3) := by decide +kernel
theorem dX1_serveFirstWaiting_4 : decode cX1_serveFirstWaiting 4 = .ok (.ifCond .le 22, 3) := by decide +kernel
theorem dX1_serveFirstWaiting_7 : decode cX1_serveFirstWaiting 7 = .ok (.aload_n 0, 1) := by decide +kernel
theorem dX1_serveFirstWaiting_8 : decode cX1_serveFirstWaiting 8 = .ok (.getfield 48, 3) := by decide +kernel
theorem dX1_serveFirstWaiting_11 : decode cX1_serveFirstWaiting 11 = .ok (.ifCond .lt 15, 3) := by decide +kernel
theorem dX1_serveFirstWaiting_14 : decode cX1_serveFirstWaiting 14 = .ok (.aload_n 0, 1) := by decide +kernel
theorem dX1_serveFirstWaiting_15 : decode cX1_serveFirstWaiting 15 = .ok (.getfield 48, 3) := by decide +kernel
theorem dX1_serveFirstWaiting_18 : decode cX1_serveFirstWaiting 18 = .ok (.aload_n 0, 1) := by decide +kernel
theorem dX1_serveFirstWaiting_19 : decode cX1_serveFirstWaiting 19 = .ok (.getfield 23, 3) := by decide +kernel
theorem dX1_serveFirstWaiting_22 : decode cX1_serveFirstWaiting 22 = .ok (.arraylength, 1) := by decide +kernel
theorem dX1_serveFirstWaiting_23 : decode cX1_serveFirstWaiting 23 = .ok (.if_icmp .lt 4, 3) := by decide +kernel
theorem dX1_serveFirstWaiting_26 : decode cX1_serveFirstWaiting 26 = .ok (.return_, 1) := by decide +kernel
theorem dX1_serveFirstWaiting_27 : decode cX1_serveFirstWaiting 27 = .ok (.aload_n 0, 1) := by decide +kernel
theorem dX1_serveFirstWaiting_28 : decode cX1_serveFirstWaiting 28 = .ok (.aload_n 0, 1) := by decide +kernel
theorem dX1_serveFirstWaiting_29 : decode cX1_serveFirstWaiting 29 = .ok (.getfield 23, 3) := by decide +kernel
theorem dX1_serveFirstWaiting_32 : decode cX1_serveFirstWaiting 32 = .ok (.aload_n 0, 1) := by decide +kernel
theorem dX1_serveFirstWaiting_33 : decode cX1_serveFirstWaiting 33 = .ok (.getfield 48, 3) := by decide +kernel
theorem dX1_serveFirstWaiting_36 : decode cX1_serveFirstWaiting 36 = .ok (.aaload, 1) := by decide +kernel
theorem dX1_serveFirstWaiting_37 : decode cX1_serveFirstWaiting 37 = .ok (.iload_n 1, 1) := by decide +kernel
theorem dX1_serveFirstWaiting_38 : decode cX1_serveFirstWaiting 38 = .ok (.invokevirtual 44, 3) := by decide +kernel
theorem dX1_serveFirstWaiting_41 : decode cX1_serveFirstWaiting 41 = .ok (.aload_n 0, 1) := by decide +kernel
theorem dX1_serveFirstWaiting_42 : decode cX1_serveFirstWaiting 42 = .ok (.getfield 23, 3) := by decide +kernel
theorem dX1_serveFirstWaiting_45 : decode cX1_serveFirstWaiting 45 = .ok (.aload_n 0, 1) := by decide +kernel
theorem dX1_serveFirstWaiting_46 : decode cX1_serveFirstWaiting 46 = .ok (.getfield 48, 3) := by decide +kernel
theorem dX1_serveFirstWaiting_49 : decode cX1_serveFirstWaiting 49 = .ok (.aconst_null, 1) := by decide +kernel
theorem dX1_serveFirstWaiting_50 : decode cX1_serveFirstWaiting 50 = .ok (.aastore, 1) := by decide +kernel
theorem dX1_serveFirstWaiting_51 : decode cX1_serveFirstWaiting 51 = .ok (.aload_n 0, 1) := by decide +kernel
theorem dX1_serveFirstWaiting_52 : decode cX1_serveFirstWaiting 52 = .ok (.aload_n 0, 1) := by decide +kernel
theorem dX1_serveFirstWaiting_53 : decode cX1_serveFirstWaiting 53 = .ok (.getfield 48, 3) := by decide +kernel
theorem dX1_serveFirstWaiting_56 : decode cX1_serveFirstWaiting 56 = .ok (.iconst 1, 1) := by decide +kernel
theorem dX1_serveFirstWaiting_57 : decode cX1_serveFirstWaiting 57 = .ok (.iadd, 1) := by decide +kernel
theorem dX1_serveFirstWaiting_58 : decode cX1_serveFirstWaiting 58 = .ok (.aload_n 0, 1) := by decide +kernel
theorem dX1_serveFirstWaiting_59 : decode cX1_serveFirstWaiting 59 = .ok (.getfield 23, 3) := by decide +kernel
theorem dX1_serveFirstWaiting_62 : decode cX1_serveFirstWaiting 62 = .ok (.arraylength, 1) := by decide +kernel
theorem dX1_serveFirstWaiting_63 : decode cX1_serveFirstWaiting 63 = .ok (.if_icmp .ge 12, 3) := by decide +kernel
theorem dX1_serveFirstWaiting_66 : decode cX1_serveFirstWaiting 66 = .ok (.aload_n 0, 1) := by decide +kernel
theorem dX1_serveFirstWaiting_67 : decode cX1_serveFirstWaiting 67 = .ok (.getfield 48, 3) := by decide +kernel
theorem dX1_serveFirstWaiting_70 : decode cX1_serveFirstWaiting 70 = .ok (.iconst 1, 1) := by decide +kernel
theorem dX1_serveFirstWaiting_71 : decode cX1_serveFirstWaiting 71 = .ok (.iadd, 1) := by decide +kernel
theorem dX1_serveFirstWaiting_72 : decode cX1_serveFirstWaiting 72 = .ok (.goto 4, 3) := by decide +kernel
theorem dX1_serveFirstWaiting_75 : decode cX1_serveFirstWaiting 75 = .ok (.iconst 0, 1) := by decide +kernel
theorem dX1_serveFirstWaiting_76 : decode cX1_serveFirstWaiting 76 = .ok (.putfield 48, 3) := by decide +kernel
theorem dX1_serveFirstWaiting_79 : decode cX1_serveFirstWaiting 79 = .ok (.aload_n 0, 1) := by decide +kernel
theorem dX1_serveFirstWaiting_80 : decode cX1_serveFirstWaiting 80 = .ok (.dup, 1) := by decide +kernel
theorem dX1_serveFirstWaiting_81 : decode cX1_serveFirstWaiting 81 = .ok (.getfield 51, 3) := by decide +kernel
theorem dX1_serveFirstWaiting_84 : decode cX1_serveFirstWaiting 84 = .ok (.iconst 1, 1) := by decide +kernel
theorem dX1_serveFirstWaiting_85 : decode cX1_serveFirstWaiting 85 = .ok (.isub, 1) := by decide +kernel
theorem dX1_serveFirstWaiting_86 : decode cX1_serveFirstWaiting 86 = .ok (.putfield 51, 3) := by decide +kernel
theorem dX1_serveFirstWaiting_89 : decode cX1_serveFirstWaiting 89 = .ok (.return_, 1) := by decide +kernel
theorem dX1_serve_0 : decode cX1_serve 0 = .ok (.aload_n 0, 1) := by decide +kernel
theorem dX1_serve_1 : decode cX1_serve 1 = .ok (.aload_n 1, 1) := by decide +kernel
theorem dX1_serve_2 : decode cX1_serve 2 = .ok (.putfield 41, 3) := by decide +kernel
theorem dX1_serve_5 : decode cX1_serve 5 = .ok (.aload_n 0, 1) := by decide +kernel
theorem dX1_serve_6 : decode cX1_serve 6 = .ok (.iload_n 2, 1) := by decide +kernel
theorem dX1_serve_7 : decode cX1_serve 7 = .ok (.aload_n 0, 1) := by decide +kernel
theorem dX1_serve_8 : decode cX1_serve 8 = .ok (.getfield 9, 3) := by decide +kernel
theorem dX1_serve_11 : decode cX1_serve 11 = .ok (.iadd, 1) := by decide +kernel
theorem dX1_serve_12 : decode cX1_serve 12 = .ok (.putfield 63, 3) := by decide +kernel
theorem dX1_serve_15 : decode cX1_serve 15 = .ok (.return_, 1) := by decide +kernel
theorem dX2_init_0 : decode cX2_init 0 = .ok (.aload_n 0, 1) := by decide +kernel
theorem dX2_init_1 : decode cX2_init 1 = .ok (.invokespecial 1, 3) := by decide +kernel
theorem dX2_init_4 : decode cX2_init 4 = .ok (.aload_n 0, 1) := by decide +kernel
theorem dX2_init_5 : decode cX2_init 5 = .ok (.aload_n 1, 1) := by decide +kernel
theorem dX2_init_6 : decode cX2_init 6 = .ok (.putfield 7, 3) := by decide +kernel
theorem dX2_init_9 : decode cX2_init 9 = .ok (.return_, 1) := by decide +kernel
theorem dX3_init_0 : decode cX3_init 0 = .ok (.aload_n 0, 1) := by decide +kernel
theorem dX3_init_1 : decode cX3_init 1 = .ok (.invokespecial 3, 3) := by decide +kernel
theorem dX3_init_4 : decode cX3_init 4 = .ok (.aload_n 0, 1) := by decide +kernel
theorem dX3_init_5 : decode cX3_init 5 = .ok (.sipush 262, 3) := by decide +kernel
theorem dX3_init_8 : decode cX3_init 8 = .ok (.anewarray 9, 3) := by decide +kernel
theorem dX3_init_11 : decode cX3_init 11 = .ok (.putfield 11, 3) := by decide +kernel
theorem dX3_init_14 : decode cX3_init 14 = .ok (.return_, 1) := by decide +kernel
theorem dX3_at_0 : decode cX3_at 0 = .ok (.iload_n 1, 1) := by decide +kernel
theorem dX3_at_1 : decode cX3_at 1 = .ok (.ifCond .lt 29, 3) := by decide +kernel
theorem dX3_at_4 : decode cX3_at 4 = .ok (.iload_n 1, 1) := by decide +kernel
theorem dX3_at_5 : decode cX3_at 5 = .ok (.aload_n 0, 1) := by decide +kernel
theorem dX3_at_6 : decode cX3_at 6 = .ok (.getfield 17, 3) := by decide +kernel
theorem dX3_at_9 : decode cX3_at 9 = .ok (.if_icmp .ge 21, 3) := by decide +kernel
theorem dX3_at_12 : decode cX3_at 12 = .ok (.iload_n 1, 1) := by decide +kernel
theorem dX3_at_13 : decode cX3_at 13 = .ok (.aload_n 0, 1) := by decide +kernel
theorem dX3_at_14 : decode cX3_at 14 = .ok (.getfield 11, 3) := by decide +kernel
theorem dX3_at_17 : decode cX3_at 17 = .ok (.arraylength, 1) := by decide +kernel
theorem dX3_at_18 : decode cX3_at 18 = .ok (.if_icmp .ge 12, 3) := by decide +kernel
theorem dX3_at_21 : decode cX3_at 21 = .ok (.aload_n 0, 1) := by decide +kernel
theorem dX3_at_22 : decode cX3_at 22 = .ok (.getfield 11, 3) := by decide +kernel
theorem dX3_at_25 : decode cX3_at 25 = .ok (.iload_n 1, 1) := by decide +kernel
theorem dX3_at_26 : decode cX3_at 26 = .ok (.aaload, 1) := by decide +kernel
theorem dX3_at_27 : decode cX3_at 27 = .ok (.goto 4, 3) := by decide +kernel
theorem dX3_at_30 : decode cX3_at 30 = .ok (.aconst_null, 1) := by decide +kernel
theorem dX3_at_31 : decode cX3_at 31 = .ok (.areturn, 1) := by decide +kernel
set_option maxRecDepth 20000 in
theorem ggX3_blank_X2_init : GoodIn wsX3_blank wsX2_init := goodIn_r _ [8, 9, 10, 11, 12, 15, 16, 17, 18, 19, 20, 21, 22] (by decide +kernel) (by decide +kernel)
set_option maxRecDepth 20000 in
theorem gX3_blank_X2_init : GoodIn wsX3_blank (wsX2_init) := ggX3_blank_X2_init
theorem dX3_blank_0 : decode cX3_blank 0 = .ok (.aload_n 0, 1) := by decide +kernel
theorem dX3_blank_1 : decode cX3_blank 1 = .ok (.getfield 17, 3) := by decide +kernel
theorem dX3_blank_4 : decode cX3_blank 4 = .ok (.ifCond .lt 15, 3) := by decide +kernel
theorem dX3_blank_7 : decode cX3_blank 7 = .ok (.aload_n 0, 1) := by decide +kernel
theorem dX3_blank_8 : decode cX3_blank 8 = .ok (.getfield 17, 3) := by decide +kernel
theorem dX3_blank_11 : decode cX3_blank 11 = .ok (.aload_n 0, 1) := by decide +kernel
theorem dX3_blank_12 : decode cX3_blank 12 = .ok (.getfield 11, 3) := by decide +kernel
theorem dX3_blank_15 : decode cX3_blank 15 = .ok (.arraylength, 1) := by decide +kernel
theorem dX3_blank_16 : decode cX3_blank 16 = .ok (.if_icmp .lt 5, 3) := by decide +kernel
theorem dX3_blank_19 : decode cX3_blank 19 = .ok (.aconst_null, 1) := by decide +kernel
theorem dX3_blank_20 : decode cX3_blank 20 = .ok (.areturn, 1) := by decide +kernel
theorem dX3_blank_21 : decode cX3_blank 21 = .ok (.aload_n 0, 1) := by decide +kernel
theorem dX3_blank_22 : decode cX3_blank 22 = .ok (.getfield 11, 3) := by decide +kernel
theorem dX3_blank_25 : decode cX3_blank 25 = .ok (.aload_n 0, 1) := by decide +kernel
theorem dX3_blank_26 : decode cX3_blank 26 = .ok (.getfield 17, 3) := by decide +kernel
theorem dX3_blank_29 : decode cX3_blank 29 = .ok (.aaload, 1) := by decide +kernel
theorem dX3_blank_30 : decode cX3_blank 30 = .ok (.ifnonnull 20, 3) := by decide +kernel
theorem dX3_blank_33 : decode cX3_blank 33 = .ok (.aload_n 0, 1) := by decide +kernel
theorem dX3_blank_34 : decode cX3_blank 34 = .ok (.getfield 11, 3) := by decide +kernel
theorem dX3_blank_37 : decode cX3_blank 37 = .ok (.aload_n 0, 1) := by decide +kernel
theorem dX3_blank_38 : decode cX3_blank 38 = .ok (.getfield 17, 3) := by decide +kernel
theorem dX3_blank_41 : decode cX3_blank 41 = .ok (.new 9, 3) := by decide +kernel
theorem dX3_blank_44 : decode cX3_blank 44 = .ok (.dup, 1) := by decide +kernel
theorem dX3_blank_45 : decode cX3_blank 45 = .ok (.aload_n 1, 1) := by decide +kernel
theorem dX3_blank_46 : decode cX3_blank 46 = .ok (.invokespecial 21, 3) := by decide +kernel
theorem dX3_blank_49 : decode cX3_blank 49 = .ok (.aastore, 1) := by decide +kernel
theorem dX3_blank_50 : decode cX3_blank 50 = .ok (.aload_n 0, 1) := by decide +kernel
theorem dX3_blank_51 : decode cX3_blank 51 = .ok (.getfield 11, 3) := by decide +kernel
theorem dX3_blank_54 : decode cX3_blank 54 = .ok (.aload_n 0, 1) := by decide +kernel
theorem dX3_blank_55 : decode cX3_blank 55 = .ok (.getfield 17, 3) := by decide +kernel
theorem dX3_blank_58 : decode cX3_blank 58 = .ok (.aaload, 1) := by decide +kernel
theorem dX3_blank_59 : decode cX3_blank 59 = .ok (.areturn, 1) := by decide +kernel
theorem dX3_add_0 : decode cX3_add 0 = .ok (.aload_n 0, 1) := by decide +kernel
theorem dX3_add_1 : decode cX3_add 1 = .ok (.getfield 17, 3) := by decide +kernel
theorem dX3_add_4 : decode cX3_add 4 = .ok (.aload_n 0, 1) := by decide +kernel
theorem dX3_add_5 : decode cX3_add 5 = .ok (.getfield 11, 3) := by decide +kernel
theorem dX3_add_8 : decode cX3_add 8 = .ok (.arraylength, 1) := by decide +kernel
theorem dX3_add_9 : decode cX3_add 9 = .ok (.if_icmp .ge 13, 3) := by decide +kernel
theorem dX3_add_12 : decode cX3_add 12 = .ok (.aload_n 0, 1) := by decide +kernel
theorem dX3_add_13 : decode cX3_add 13 = .ok (.dup, 1) := by decide +kernel
theorem dX3_add_14 : decode cX3_add 14 = .ok (.getfield 17, 3) := by decide +kernel
theorem dX3_add_17 : decode cX3_add 17 = .ok (.iconst 1, 1) := by decide +kernel
theorem dX3_add_18 : decode cX3_add 18 = .ok (.iadd, 1) := by decide +kernel
theorem dX3_add_19 : decode cX3_add 19 = .ok (.putfield 17, 3) := by decide +kernel
theorem dX3_add_22 : decode cX3_add 22 = .ok (.return_, 1) := by decide +kernel
set_option maxRecDepth 20000 in
theorem ggX3_remove_X3_at : GoodIn wsX3_remove wsX3_at := goodIn_r _ [7, 1, 2, 8, 9] (by decide +kernel) (by decide +kernel)
set_option maxRecDepth 20000 in
theorem gX3_remove_X3_at : GoodIn wsX3_remove (wsV RX3 24 RX3 yX3_at wsX3_at) := goodIn_app (goodIn_of _ (by decide +kernel)) ggX3_remove_X3_at
theorem dX3_remove_0 : decode cX3_remove 0 = .ok (.aload_n 0, 1) := by decide +kernel
theorem dX3_remove_1 : decode cX3_remove 1 = .ok (.iload_n 1, 1) := by decide +kernel
theorem dX3_remove_2 : decode cX3_remove 2 = .ok (.invokevirtual 24, 3) := by decide +kernel
theorem dX3_remove_5 : decode cX3_remove 5 = .ok (.astore_n 2, 1) := by decide +kernel
theorem dX3_remove_6 : decode cX3_remove 6 = .ok (.aload_n 2, 1) := by decide +kernel
theorem dX3_remove_7 : decode cX3_remove 7 = .ok (.ifnonnull 4, 3) := by decide +kernel
theorem dX3_remove_10 : decode cX3_remove 10 = .ok (.return_, 1) := by decide +kernel
theorem dX3_remove_11 : decode cX3_remove 11 = .ok (.iload_n 1, 1) := by decide +kernel
theorem dX3_remove_12 : decode cX3_remove 12 = .ok (.istore_n 3, 1) := by decide +kernel
theorem dX3_remove_13 : decode cX3_remove 13 = .ok (.iload_n 3, 1) := by decide +kernel
theorem dX3_remove_14 : decode cX3_remove 14 = .ok (.iconst 1, 1) := by decide +kernel
theorem dX3_remove_15 : decode cX3_remove 15 = .ok (.iadd, 1) := by decide +kernel
theorem dX3_remove_16 : decode cX3_remove 16 = .ok (.aload_n 0, 1) := by decide +kernel
theorem dX3_remove_17 : decode cX3_remove 17 = .ok (.getfield 17, 3) := by decide +kernel
theorem dX3_remove_20 : decode cX3_remove 20 = .ok (.if_icmp .ge 34, 3) := by decide +kernel
theorem dX3_remove_23 : decode cX3_remove 23 = .ok (.iload_n 3, 1) := by decide +kernel
theorem dX3_remove_24 : decode cX3_remove 24 = .ok (.iconst 1, 1) := by decide +kernel
theorem dX3_remove_25 : decode cX3_remove 25 = .ok (.iadd, 1) := by decide +kernel
theorem dX3_remove_26 : decode cX3_remove 26 = .ok (.aload_n 0, 1) := by decide +kernel
theorem dX3_remove_27 : decode cX3_remove 27 = .ok (.getfield 11, 3) := by decide +kernel
theorem dX3_remove_30 : decode cX3_remove 30 = .ok (.arraylength, 1) := by decide +kernel
theorem dX3_remove_31 : decode cX3_remove 31 = .ok (.if_icmp .ge 23, 3) := by decide +kernel
theorem dX3_remove_34 : decode cX3_remove 34 = .ok (.aload_n 0, 1) := by decide +kernel
theorem dX3_remove_35 : decode cX3_remove 35 = .ok (.getfield 11, 3) := by decide +kernel
theorem dX3_remove_38 : decode cX3_remove 38 = .ok (.iload_n 3, 1) := by decide +kernel
theorem dX3_remove_39 : decode cX3_remove 39 = .ok (.aload_n 0, 1) := by decide +kernel
theorem dX3_remove_40 : decode cX3_remove 40 = .ok (.getfield 11, 3) := by decide +kernel
theorem dX3_remove_43 : decode cX3_remove 43 = .ok (.iload_n 3, 1) := by decide +kernel
theorem dX3_remove_44 : decode cX3_remove 44 = .ok (.iconst 1, 1) := by decide +kernel
theorem dX3_remove_45 : decode cX3_remove 45 = .ok (.iadd, 1) := by decide +kernel
theorem dX3_remove_46 : decode cX3_remove 46 = .ok (.aaload, 1) := by decide +kernel
theorem dX3_remove_47 : decode cX3_remove 47 = .ok (.aastore, 1) := by decide +kernel
theorem dX3_remove_48 : decode cX3_remove 48 = .ok (.iinc 3 1, 3) := by decide +kernel
theorem dX3_remove_51 : decode cX3_remove 51 = .ok (.goto (-38), 3) := by decide +kernel
theorem dX3_remove_54 : decode cX3_remove 54 = .ok (.aload_n 0, 1) := by decide +kernel
theorem dX3_remove_55 : decode cX3_remove 55 = .ok (.dup, 1) := by decide +kernel
theorem dX3_remove_56 : decode cX3_remove 56 = .ok (.getfield 17, 3) := by decide +kernel
theorem dX3_remove_59 : decode cX3_remove 59 = .ok (.iconst 1, 1) := by decide +kernel
theorem dX3_remove_60 : decode cX3_remove 60 = .ok (.isub, 1) := by decide +kernel
theorem dX3_remove_61 : decode cX3_remove 61 = .ok (.putfield 17, 3) := by decide +kernel
theorem dX3_remove_64 : decode cX3_remove 64 = .ok (.aload_n 0, 1) := by decide +kernel
theorem dX3_remove_65 : decode cX3_remove 65 = .ok (.getfield 11, 3) := by decide +kernel
theorem dX3_remove_68 : decode cX3_remove 68 = .ok (.aload_n 0, 1) := by decide +kernel
theorem dX3_remove_69 : decode cX3_remove 69 = .ok (.getfield 17, 3) := by decide +kernel
theorem dX3_remove_72 : decode cX3_remove 72 = .ok (.aload_n 2, 1) := by decide +kernel
theorem dX3_remove_73 : decode cX3_remove 73 = .ok (.aastore, 1) := by decide +kernel
theorem dX3_remove_74 : decode cX3_remove 74 = .ok (.return_, 1) := by decide +kernel
theorem dX4_init_0 : decode cX4_init 0 = .ok (.aload_n 0, 1) := by decide +kernel
theorem dX4_init_1 : decode cX4_init 1 = .ok (.invokespecial 3, 3) := by decide +kernel
theorem dX4_init_4 : decode cX4_init 4 = .ok (.aload_n 0, 1) := by decide +kernel
theorem dX4_init_5 : decode cX4_init 5 = .ok (.sipush 2610, 3) := by decide +kernel
theorem dX4_init_8 : decode cX4_init 8 = .ok (.newarray .int, 2) := by decide +kernel
theorem dX4_init_10 : decode cX4_init 10 = .ok (.putfield 9, 3) := by decide +kernel
theorem dX4_init_13 : decode cX4_init 13 = .ok (.aload_n 0, 1) := by decide +kernel
theorem dX4_init_14 : decode cX4_init 14 = .ok (.bipush 10, 2) := by decide +kernel
theorem dX4_init_16 : decode cX4_init 16 = .ok (.newarray .int, 2) := by decide +kernel
theorem dX4_init_18 : decode cX4_init 18 = .ok (.putfield 15, 3) := by decide +kernel
theorem dX4_init_21 : decode cX4_init 21 = .ok (.aload_n 0, 1) := by decide +kernel
theorem dX4_init_22 : decode cX4_init 22 = .ok (.bipush 10, 2) := by decide +kernel
theorem dX4_init_24 : decode cX4_init 24 = .ok (.newarray .int, 2) := by decide +kernel
theorem dX4_init_26 : decode cX4_init 26 = .ok (.putfield 18, 3) := by decide +kernel
theorem dX4_init_29 : decode cX4_init 29 = .ok (.return_, 1) := by decide +kernel
set_option maxRecDepth 20000 in
theorem ggX4_beginRound_J9_floorMod_7cf53 : GoodIn wsX4_beginRound wsJ9_floorMod_7cf53 := goodIn_r _ [8] (by decide +kernel) (by decide +kernel)
set_option maxRecDepth 20000 in
theorem gX4_beginRound_J9_floorMod_7cf53 : GoodIn wsX4_beginRound (va_wsS RX4 21 yJ9_floorMod_7cf53 wsJ9_floorMod_7cf53) := goodIn_app (goodIn_of _ (by decide +kernel)) ggX4_beginRound_J9_floorMod_7cf53
set_option maxRecDepth 20000 in
theorem ggX4_beginRound_X4_ringPlace : GoodIn wsX4_beginRound wsX4_ringPlace := goodIn_r _ [13, 2, 14, 15, 16, 17, 18, 19] (by decide +kernel) (by decide +kernel)
set_option maxRecDepth 20000 in
theorem gX4_beginRound_X4_ringPlace : GoodIn wsX4_beginRound (wsV RX4 27 RX4 yX4_ringPlace wsX4_ringPlace) := goodIn_app (goodIn_of _ (by decide +kernel)) ggX4_beginRound_X4_ringPlace
theorem dX4_beginRound_0 : decode cX4_beginRound 0 = .ok (.iload_n 1, 1) := by decide +kernel
theorem dX4_beginRound_1 : decode cX4_beginRound 1 = .ok (.bipush 10, 2) := by decide +kernel
theorem dX4_beginRound_3 : decode cX4_beginRound 3 = .ok (.invokestatic 21, 3) := by decide +kernel
theorem dX4_beginRound_6 : decode cX4_beginRound 6 = .ok (.istore_n 2, 1) := by decide +kernel
theorem dX4_beginRound_7 : decode cX4_beginRound 7 = .ok (.aload_n 0, 1) := by decide +kernel
theorem dX4_beginRound_8 : decode cX4_beginRound 8 = .ok (.aload_n 0, 1) := by decide +kernel
theorem dX4_beginRound_9 : decode cX4_beginRound 9 = .ok (.aload_n 0, 1) := by decide +kernel
theorem dX4_beginRound_10 : decode cX4_beginRound 10 = .ok (.getfield 15, 3) := by decide +kernel
theorem dX4_beginRound_13 : decode cX4_beginRound 13 = .ok (.iload_n 2, 1) := by decide +kernel
theorem dX4_beginRound_14 : decode cX4_beginRound 14 = .ok (.iaload, 1) := by decide +kernel
theorem dX4_beginRound_15 : decode cX4_beginRound 15 = .ok (.invokevirtual 27, 3) := by decide +kernel
theorem dX4_beginRound_18 : decode cX4_beginRound 18 = .ok (.putfield 31, 3) := by decide +kernel
theorem dX4_beginRound_21 : decode cX4_beginRound 21 = .ok (.aload_n 0, 1) := by decide +kernel
theorem dX4_beginRound_22 : decode cX4_beginRound 22 = .ok (.dup, 1) := by decide +kernel
theorem dX4_beginRound_23 : decode cX4_beginRound 23 = .ok (.getfield 35, 3) := by decide +kernel
theorem dX4_beginRound_26 : decode cX4_beginRound 26 = .ok (.aload_n 0, 1) := by decide +kernel
theorem dX4_beginRound_27 : decode cX4_beginRound 27 = .ok (.getfield 15, 3) := by decide +kernel
theorem dX4_beginRound_30 : decode cX4_beginRound 30 = .ok (.iload_n 2, 1) := by decide +kernel
theorem dX4_beginRound_31 : decode cX4_beginRound 31 = .ok (.iaload, 1) := by decide +kernel
theorem dX4_beginRound_32 : decode cX4_beginRound 32 = .ok (.isub, 1) := by decide +kernel
theorem dX4_beginRound_33 : decode cX4_beginRound 33 = .ok (.putfield 35, 3) := by decide +kernel
theorem dX4_beginRound_36 : decode cX4_beginRound 36 = .ok (.aload_n 0, 1) := by decide +kernel
theorem dX4_beginRound_37 : decode cX4_beginRound 37 = .ok (.getfield 15, 3) := by decide +kernel
theorem dX4_beginRound_40 : decode cX4_beginRound 40 = .ok (.iload_n 2, 1) := by decide +kernel
theorem dX4_beginRound_41 : decode cX4_beginRound 41 = .ok (.iconst 0, 1) := by decide +kernel
theorem dX4_beginRound_42 : decode cX4_beginRound 42 = .ok (.iastore, 1) := by decide +kernel
theorem dX4_beginRound_43 : decode cX4_beginRound 43 = .ok (.aload_n 0, 1) := by decide +kernel
theorem dX4_beginRound_44 : decode cX4_beginRound 44 = .ok (.getfield 18, 3) := by decide +kernel
theorem dX4_beginRound_47 : decode cX4_beginRound 47 = .ok (.iload_n 2, 1) := by decide +kernel
theorem dX4_beginRound_48 : decode cX4_beginRound 48 = .ok (.iconst 0, 1) := by decide +kernel
theorem dX4_beginRound_49 : decode cX4_beginRound 49 = .ok (.iastore, 1) := by decide +kernel
theorem dX4_beginRound_50 : decode cX4_beginRound 50 = .ok (.return_, 1) := by decide +kernel
set_option maxRecDepth 20000 in
theorem ggX4_keep_X4_ringPlace : GoodIn wsX4_keep wsX4_ringPlace := goodIn_r _ [13, 14, 2, 19, 20, 21, 22, 23] (by decide +kernel) (by decide +kernel)
set_option maxRecDepth 20000 in
theorem gX4_keep_X4_ringPlace : GoodIn wsX4_keep (wsV RX4 27 RX4 yX4_ringPlace wsX4_ringPlace) := goodIn_app (goodIn_of _ (by decide +kernel)) ggX4_keep_X4_ringPlace
set_option maxRecDepth 20000 in
theorem ggX4_keep_J9_floorMod_7cf53 : GoodIn wsX4_keep wsJ9_floorMod_7cf53 := goodIn_r _ [18] (by decide +kernel) (by decide +kernel)
set_option maxRecDepth 20000 in
theorem gX4_keep_J9_floorMod_7cf53 : GoodIn wsX4_keep (va_wsS RX4 21 yJ9_floorMod_7cf53 wsJ9_floorMod_7cf53) := goodIn_app (goodIn_of _ (by decide +kernel)) ggX4_keep_J9_floorMod_7cf53
theorem dX4_keep_0 : decode cX4_keep 0 = .ok (.aload_n 0, 1) := by decide +kernel
theorem dX4_keep_1 : decode cX4_keep 1 = .ok (.aload_n 0, 1) := by decide +kernel
theorem dX4_keep_2 : decode cX4_keep 2 = .ok (.getfield 35, 3) := by decide +kernel
theorem dX4_keep_5 : decode cX4_keep 5 = .ok (.invokevirtual 27, 3) := by decide +kernel
theorem dX4_keep_8 : decode cX4_keep 8 = .ok (.istore_n 3, 1) := by decide +kernel
theorem dX4_keep_9 : decode cX4_keep 9 = .ok (.aload_n 0, 1) := by decide +kernel
theorem dX4_keep_10 : decode cX4_keep 10 = .ok (.getfield 35, 3) := by decide +kernel
theorem dX4_keep_13 : decode cX4_keep 13 = .ok (.aload_n 0, 1) := by decide +kernel
theorem dX4_keep_14 : decode cX4_keep 14 = .ok (.getfield 9, 3) := by decide +kernel
theorem dX4_keep_17 : decode cX4_keep 17 = .ok (.arraylength, 1) := by decide +kernel
theorem dX4_keep_18 : decode cX4_keep 18 = .ok (.if_icmp .ge 16, 3) := by decide +kernel
theorem dX4_keep_21 : decode cX4_keep 21 = .ok (.iload_n 3, 1) := by decide +kernel
theorem dX4_keep_22 : decode cX4_keep 22 = .ok (.ifCond .lt 12, 3) := by decide +kernel
theorem dX4_keep_25 : decode cX4_keep 25 = .ok (.iload_n 3, 1) := by decide +kernel
theorem dX4_keep_26 : decode cX4_keep 26 = .ok (.aload_n 0, 1) := by decide +kernel
theorem dX4_keep_27 : decode cX4_keep 27 = .ok (.getfield 9, 3) := by decide +kernel
theorem dX4_keep_30 : decode cX4_keep 30 = .ok (.arraylength, 1) := by decide +kernel
theorem dX4_keep_31 : decode cX4_keep 31 = .ok (.if_icmp .lt 4, 3) := by decide +kernel
theorem dX4_keep_34 : decode cX4_keep 34 = .ok (.return_, 1) := by decide +kernel
theorem dX4_keep_35 : decode cX4_keep 35 = .ok (.aload_n 0, 1) := by decide +kernel
theorem dX4_keep_36 : decode cX4_keep 36 = .ok (.getfield 9, 3) := by decide +kernel
theorem dX4_keep_39 : decode cX4_keep 39 = .ok (.iload_n 3, 1) := by decide +kernel
theorem dX4_keep_40 : decode cX4_keep 40 = .ok (.iload_n 2, 1) := by decide +kernel
theorem dX4_keep_41 : decode cX4_keep 41 = .ok (.iastore, 1) := by decide +kernel
theorem dX4_keep_42 : decode cX4_keep 42 = .ok (.aload_n 0, 1) := by decide +kernel
theorem dX4_keep_43 : decode cX4_keep 43 = .ok (.dup, 1) := by decide +kernel
theorem dX4_keep_44 : decode cX4_keep 44 = .ok (.getfield 35, 3) := by decide +kernel
theorem dX4_keep_47 : decode cX4_keep 47 = .ok (.iconst 1, 1) := by decide +kernel
theorem dX4_keep_48 : decode cX4_keep 48 = .ok (.iadd, 1) := by decide +kernel
theorem dX4_keep_49 : decode cX4_keep 49 = .ok (.putfield 35, 3) := by decide +kernel
theorem dX4_keep_52 : decode cX4_keep 52 = .ok (.iload_n 1, 1) := by decide +kernel
theorem dX4_keep_53 : decode cX4_keep 53 = .ok (.bipush 10, 2) := by decide +kernel
theorem dX4_keep_55 : decode cX4_keep 55 = .ok (.invokestatic 21, 3) := by decide +kernel
theorem dX4_keep_58 : decode cX4_keep 58 = .ok (.istore 4, 2) := by decide +kernel
theorem dX4_keep_60 : decode cX4_keep 60 = .ok (.aload_n 0, 1) := by decide +kernel
theorem dX4_keep_61 : decode cX4_keep 61 = .ok (.getfield 15, 3) := by decide +kernel
theorem dX4_keep_64 : decode cX4_keep 64 = .ok (.iload 4, 2) := by decide +kernel
theorem dX4_keep_66 : decode cX4_keep 66 = .ok (.dup2, 1) := by decide +kernel
theorem dX4_keep_67 : decode cX4_keep 67 = .ok (.iaload, 1) := by decide +kernel
theorem dX4_keep_68 : decode cX4_keep 68 = .ok (.iconst 1, 1) := by decide +kernel
theorem dX4_keep_69 : decode cX4_keep 69 = .ok (.iadd, 1) := by decide +kernel
theorem dX4_keep_70 : decode cX4_keep 70 = .ok (.iastore, 1) := by decide +kernel
theorem dX4_keep_71 : decode cX4_keep 71 = .ok (.aload_n 0, 1) := by decide +kernel
theorem dX4_keep_72 : decode cX4_keep 72 = .ok (.getfield 18, 3) := by decide +kernel
theorem dX4_keep_75 : decode cX4_keep 75 = .ok (.iload 4, 2) := by decide +kernel
theorem dX4_keep_77 : decode cX4_keep 77 = .ok (.aload_n 0, 1) := by decide +kernel
theorem dX4_keep_78 : decode cX4_keep 78 = .ok (.getfield 18, 3) := by decide +kernel
theorem dX4_keep_81 : decode cX4_keep 81 = .ok (.iload 4, 2) := by decide +kernel
theorem dX4_keep_83 : decode cX4_keep 83 = .ok (.iaload, 1) := by decide +kernel
theorem dX4_keep_84 : decode cX4_keep 84 = .ok (.iload_n 2, 1) := by decide +kernel
theorem dX4_keep_85 : decode cX4_keep 85 = .ok (.invokestatic 38, 3) := by decide +kernel
theorem dX4_keep_88 : decode cX4_keep 88 = .ok (.iastore, 1) := by decide +kernel
theorem dX4_keep_89 : decode cX4_keep 89 = .ok (.return_, 1) := by decide +kernel
theorem dX4_greatestOfAll_0 : decode cX4_greatestOfAll 0 = .ok (.iconst 0, 1) := by decide +kernel
theorem dX4_greatestOfAll_1 : decode cX4_greatestOfAll 1 = .ok (.istore_n 1, 1) := by decide +kernel
theorem dX4_greatestOfAll_2 : decode cX4_greatestOfAll 2 = .ok (.iconst 0, 1) := by decide +kernel
theorem dX4_greatestOfAll_3 : decode cX4_greatestOfAll 3 = .ok (.istore_n 2, 1) := by decide +kernel
theorem dX4_greatestOfAll_4 : decode cX4_greatestOfAll 4 = .ok (.iload_n 2, 1) := by decide +kernel
theorem dX4_greatestOfAll_5 : decode cX4_greatestOfAll 5 = .ok (.aload_n 0, 1) := by decide +kernel
theorem dX4_greatestOfAll_6 : decode cX4_greatestOfAll 6 = .ok (.getfield 18, 3) := by decide +kernel
theorem dX4_greatestOfAll_9 : decode cX4_greatestOfAll 9 = .ok (.arraylength, 1) := by decide +kernel
theorem dX4_greatestOfAll_10 : decode cX4_greatestOfAll 10 = .ok (.if_icmp .ge 20, 3) := by decide +kernel
theorem dX4_greatestOfAll_13 : decode cX4_greatestOfAll 13 = .ok (.iload_n 1, 1) := by decide +kernel
theorem dX4_greatestOfAll_14 : decode cX4_greatestOfAll 14 = .ok (.aload_n 0, 1) := by decide +kernel
theorem dX4_greatestOfAll_15 : decode cX4_greatestOfAll 15 = .ok (.getfield 18, 3) := by decide +kernel
theorem dX4_greatestOfAll_18 : decode cX4_greatestOfAll 18 = .ok (.iload_n 2, 1) := by decide +kernel
theorem dX4_greatestOfAll_19 : decode cX4_greatestOfAll 19 = .ok (.iaload, 1) := by decide +kernel
theorem dX4_greatestOfAll_20 : decode cX4_greatestOfAll 20 = .ok (.invokestatic 38, 3) := by decide +kernel
theorem dX4_greatestOfAll_23 : decode cX4_greatestOfAll 23 = .ok (.istore_n 1, 1) := by decide +kernel
theorem dX4_greatestOfAll_24 : decode cX4_greatestOfAll 24 = .ok (.iinc 2 1, 3) := by decide +kernel
theorem dX4_greatestOfAll_27 : decode cX4_greatestOfAll 27 = .ok (.goto (-23), 3) := by decide +kernel
theorem dX4_greatestOfAll_30 : decode cX4_greatestOfAll 30 = .ok (.iload_n 1, 1) := by decide +kernel
theorem dX4_greatestOfAll_31 : decode cX4_greatestOfAll 31 = .ok (.ireturn, 1) := by decide +kernel
set_option maxRecDepth 20000 in
theorem ggX4_greatestOfLast_J9_floorMod_7cf53 : GoodIn wsX4_greatestOfLast wsJ9_floorMod_7cf53 := goodIn_r _ [10] (by decide +kernel) (by decide +kernel)
set_option maxRecDepth 20000 in
theorem gX4_greatestOfLast_J9_floorMod_7cf53 : GoodIn wsX4_greatestOfLast (va_wsS RX4 21 yJ9_floorMod_7cf53 wsJ9_floorMod_7cf53) := goodIn_app (goodIn_of _ (by decide +kernel)) ggX4_greatestOfLast_J9_floorMod_7cf53
theorem dX4_greatestOfLast_0 : decode cX4_greatestOfLast 0 = .ok (.bipush (-9), 2) := by decide +kernel
theorem dX4_greatestOfLast_2 : decode cX4_greatestOfLast 2 = .ok (.istore_n 3, 1) := by decide +kernel
theorem dX4_greatestOfLast_3 : decode cX4_greatestOfLast 3 = .ok (.iconst 0, 1) := by decide +kernel
theorem dX4_greatestOfLast_4 : decode cX4_greatestOfLast 4 = .ok (.istore 4, 2) := by decide +kernel
theorem dX4_greatestOfLast_6 : decode cX4_greatestOfLast 6 = .ok (.iload 4, 2) := by decide +kernel
theorem dX4_greatestOfLast_8 : decode cX4_greatestOfLast 8 = .ok (.iload_n 1, 1) := by decide +kernel
theorem dX4_greatestOfLast_9 : decode cX4_greatestOfLast 9 = .ok (.if_icmp .ge 49, 3) := by decide +kernel
theorem dX4_greatestOfLast_12 : decode cX4_greatestOfLast 12 = .ok (.iload 4, 2) := by decide +kernel
theorem dX4_greatestOfLast_14 : decode cX4_greatestOfLast 14 = .ok (.bipush 10, 2) := by decide +kernel
theorem dX4_greatestOfLast_16 : decode cX4_greatestOfLast 16 = .ok (.if_icmp .ge 42, 3) := by decide +kernel
theorem dX4_greatestOfLast_19 : decode cX4_greatestOfLast 19 = .ok (.iload_n 2, 1) := by decide +kernel
theorem dX4_greatestOfLast_20 : decode cX4_greatestOfLast 20 = .ok (.iload 4, 2) := by decide +kernel
theorem dX4_greatestOfLast_22 : decode cX4_greatestOfLast 22 = .ok (.isub, 1) := by decide +kernel
theorem dX4_greatestOfLast_23 : decode cX4_greatestOfLast 23 = .ok (.bipush 10, 2) := by decide +kernel
theorem dX4_greatestOfLast_25 : decode cX4_greatestOfLast 25 = .ok (.invokestatic 21, 3) := by decide +kernel
theorem dX4_greatestOfLast_28 : decode cX4_greatestOfLast 28 = .ok (.istore 5, 2) := by decide +kernel
theorem dX4_greatestOfLast_30 : decode cX4_greatestOfLast 30 = .ok (.aload_n 0, 1) := by decide +kernel
theorem dX4_greatestOfLast_31 : decode cX4_greatestOfLast 31 = .ok (.getfield 15, 3) := by decide +kernel
theorem dX4_greatestOfLast_34 : decode cX4_greatestOfLast 34 = .ok (.iload 5, 2) := by decide +kernel
theorem dX4_greatestOfLast_36 : decode cX4_greatestOfLast 36 = .ok (.iaload, 1) := by decide +kernel
theorem dX4_greatestOfLast_37 : decode cX4_greatestOfLast 37 = .ok (.ifCond .le 15, 3) := by decide +kernel
theorem dX4_greatestOfLast_40 : decode cX4_greatestOfLast 40 = .ok (.iload_n 3, 1) := by decide +kernel
theorem dX4_greatestOfLast_41 : decode cX4_greatestOfLast 41 = .ok (.aload_n 0, 1) := by decide +kernel
theorem dX4_greatestOfLast_42 : decode cX4_greatestOfLast 42 = .ok (.getfield 18, 3) := by decide +kernel
theorem dX4_greatestOfLast_45 : decode cX4_greatestOfLast 45 = .ok (.iload 5, 2) := by decide +kernel
theorem dX4_greatestOfLast_47 : decode cX4_greatestOfLast 47 = .ok (.iaload, 1) := by decide +kernel
theorem dX4_greatestOfLast_48 : decode cX4_greatestOfLast 48 = .ok (.invokestatic 38, 3) := by decide +kernel
theorem dX4_greatestOfLast_51 : decode cX4_greatestOfLast 51 = .ok (.istore_n 3, 1) := by decide +kernel
theorem dX4_greatestOfLast_52 : decode cX4_greatestOfLast 52 = .ok (.iinc 4 1, 3) := by decide +kernel
theorem dX4_greatestOfLast_55 : decode cX4_greatestOfLast 55 = .ok (.goto (-49), 3) := by decide +kernel
theorem dX4_greatestOfLast_58 : decode cX4_greatestOfLast 58 = .ok (.iload_n 3, 1) := by decide +kernel
theorem dX4_greatestOfLast_59 : decode cX4_greatestOfLast 59 = .ok (.ireturn, 1) := by decide +kernel
set_option maxRecDepth 20000 in
theorem ggX4_rateOf_X4_ringPlace : GoodIn wsX4_rateOf wsX4_ringPlace := goodIn_r _ [6, 7, 1, 8, 9, 10, 11, 12] (by decide +kernel) (by decide +kernel)
set_option maxRecDepth 20000 in
theorem gX4_rateOf_X4_ringPlace : GoodIn wsX4_rateOf (wsV RX4 27 RX4 yX4_ringPlace wsX4_ringPlace) := goodIn_app (goodIn_of _ (by decide +kernel)) ggX4_rateOf_X4_ringPlace
theorem dX4_rateOf_0 : decode cX4_rateOf 0 = .ok (.aload_n 0, 1) := by decide +kernel
theorem dX4_rateOf_1 : decode cX4_rateOf 1 = .ok (.iload_n 1, 1) := by decide +kernel
theorem dX4_rateOf_2 : decode cX4_rateOf 2 = .ok (.invokevirtual 27, 3) := by decide +kernel
theorem dX4_rateOf_5 : decode cX4_rateOf 5 = .ok (.istore_n 2, 1) := by decide +kernel
theorem dX4_rateOf_6 : decode cX4_rateOf 6 = .ok (.iload_n 2, 1) := by decide +kernel
theorem dX4_rateOf_7 : decode cX4_rateOf 7 = .ok (.ifCond .lt 21, 3) := by decide +kernel
theorem dX4_rateOf_10 : decode cX4_rateOf 10 = .ok (.iload_n 2, 1) := by decide +kernel
theorem dX4_rateOf_11 : decode cX4_rateOf 11 = .ok (.aload_n 0, 1) := by decide +kernel
theorem dX4_rateOf_12 : decode cX4_rateOf 12 = .ok (.getfield 9, 3) := by decide +kernel
theorem dX4_rateOf_15 : decode cX4_rateOf 15 = .ok (.arraylength, 1) := by decide +kernel
theorem dX4_rateOf_16 : decode cX4_rateOf 16 = .ok (.if_icmp .ge 12, 3) := by decide +kernel
theorem dX4_rateOf_19 : decode cX4_rateOf 19 = .ok (.aload_n 0, 1) := by decide +kernel
theorem dX4_rateOf_20 : decode cX4_rateOf 20 = .ok (.getfield 9, 3) := by decide +kernel
theorem dX4_rateOf_23 : decode cX4_rateOf 23 = .ok (.iload_n 2, 1) := by decide +kernel
theorem dX4_rateOf_24 : decode cX4_rateOf 24 = .ok (.iaload, 1) := by decide +kernel
theorem dX4_rateOf_25 : decode cX4_rateOf 25 = .ok (.goto 4, 3) := by decide +kernel
theorem dX4_rateOf_28 : decode cX4_rateOf 28 = .ok (.iconst (-1), 1) := by decide +kernel
theorem dX4_rateOf_29 : decode cX4_rateOf 29 = .ok (.ireturn, 1) := by decide +kernel
set_option maxRecDepth 20000 in
theorem ggX4_roundsOf_J9_floorMod_7cf53 : GoodIn wsX4_roundsOf wsJ9_floorMod_7cf53 := goodIn_r _ [5] (by decide +kernel) (by decide +kernel)
set_option maxRecDepth 20000 in
theorem gX4_roundsOf_J9_floorMod_7cf53 : GoodIn wsX4_roundsOf (va_wsS RX4 21 yJ9_floorMod_7cf53 wsJ9_floorMod_7cf53) := goodIn_app (goodIn_of _ (by decide +kernel)) ggX4_roundsOf_J9_floorMod_7cf53
theorem dX4_roundsOf_0 : decode cX4_roundsOf 0 = .ok (.iconst 0, 1) := by decide +kernel
theorem dX4_roundsOf_1 : decode cX4_roundsOf 1 = .ok (.istore_n 3, 1) := by decide +kernel
theorem dX4_roundsOf_2 : decode cX4_roundsOf 2 = .ok (.bipush 9, 2) := by decide +kernel
theorem dX4_roundsOf_4 : decode cX4_roundsOf 4 = .ok (.istore 4, 2) := by decide +kernel
theorem dX4_roundsOf_6 : decode cX4_roundsOf 6 = .ok (.iload 4, 2) := by decide +kernel
theorem dX4_roundsOf_8 : decode cX4_roundsOf 8 = .ok (.ifCond .lt 36, 3) := by decide +kernel
theorem dX4_roundsOf_11 : decode cX4_roundsOf 11 = .ok (.iload_n 3, 1) := by decide +kernel
theorem dX4_roundsOf_12 : decode cX4_roundsOf 12 = .ok (.aload_n 0, 1) := by decide +kernel
theorem dX4_roundsOf_13 : decode cX4_roundsOf 13 = .ok (.getfield 15, 3) := by decide +kernel
theorem dX4_roundsOf_16 : decode cX4_roundsOf 16 = .ok (.iload_n 2, 1) := by decide +kernel
theorem dX4_roundsOf_17 : decode cX4_roundsOf 17 = .ok (.iload 4, 2) := by decide +kernel
theorem dX4_roundsOf_19 : decode cX4_roundsOf 19 = .ok (.isub, 1) := by decide +kernel
theorem dX4_roundsOf_20 : decode cX4_roundsOf 20 = .ok (.bipush 10, 2) := by decide +kernel
theorem dX4_roundsOf_22 : decode cX4_roundsOf 22 = .ok (.invokestatic 21, 3) := by decide +kernel
theorem dX4_roundsOf_25 : decode cX4_roundsOf 25 = .ok (.iaload, 1) := by decide +kernel
theorem dX4_roundsOf_26 : decode cX4_roundsOf 26 = .ok (.iadd, 1) := by decide +kernel
theorem dX4_roundsOf_27 : decode cX4_roundsOf 27 = .ok (.istore_n 3, 1) := by decide +kernel
theorem dX4_roundsOf_28 : decode cX4_roundsOf 28 = .ok (.iload_n 1, 1) := by decide +kernel
theorem dX4_roundsOf_29 : decode cX4_roundsOf 29 = .ok (.iload_n 3, 1) := by decide +kernel
theorem dX4_roundsOf_30 : decode cX4_roundsOf 30 = .ok (.if_icmp .ge 8, 3) := by decide +kernel
theorem dX4_roundsOf_33 : decode cX4_roundsOf 33 = .ok (.iload_n 2, 1) := by decide +kernel
theorem dX4_roundsOf_34 : decode cX4_roundsOf 34 = .ok (.iload 4, 2) := by decide +kernel
theorem dX4_roundsOf_36 : decode cX4_roundsOf 36 = .ok (.isub, 1) := by decide +kernel
theorem dX4_roundsOf_37 : decode cX4_roundsOf 37 = .ok (.ireturn, 1) := by decide +kernel
theorem dX4_roundsOf_38 : decode cX4_roundsOf 38 = .ok (.iinc 4 (-1), 3) := by decide +kernel
theorem dX4_roundsOf_41 : decode cX4_roundsOf 41 = .ok (.goto (-35), 3) := by decide +kernel
theorem dX4_roundsOf_44 : decode cX4_roundsOf 44 = .ok (.iconst (-1), 1) := by decide +kernel
theorem dX4_roundsOf_45 : decode cX4_roundsOf 45 = .ok (.ireturn, 1) := by decide +kernel
theorem dX4_ringPlace_0 : decode cX4_ringPlace 0 = .ok (.aload_n 0, 1) := by decide +kernel
theorem dX4_ringPlace_1 : decode cX4_ringPlace 1 = .ok (.getfield 31, 3) := by decide +kernel
theorem dX4_ringPlace_4 : decode cX4_ringPlace 4 = .ok (.iload_n 1, 1) := by decide +kernel
theorem dX4_ringPlace_5 : decode cX4_ringPlace 5 = .ok (.iadd, 1) := by decide +kernel
theorem dX4_ringPlace_6 : decode cX4_ringPlace 6 = .ok (.istore_n 2, 1) := by decide +kernel
theorem dX4_ringPlace_7 : decode cX4_ringPlace 7 = .ok (.iload_n 2, 1) := by decide +kernel
theorem dX4_ringPlace_8 : decode cX4_ringPlace 8 = .ok (.aload_n 0, 1) := by decide +kernel
theorem dX4_ringPlace_9 : decode cX4_ringPlace 9 = .ok (.getfield 9, 3) := by decide +kernel
theorem dX4_ringPlace_12 : decode cX4_ringPlace 12 = .ok (.arraylength, 1) := by decide +kernel
theorem dX4_ringPlace_13 : decode cX4_ringPlace 13 = .ok (.if_icmp .lt 13, 3) := by decide +kernel
theorem dX4_ringPlace_16 : decode cX4_ringPlace 16 = .ok (.iload_n 2, 1) := by decide +kernel
theorem dX4_ringPlace_17 : decode cX4_ringPlace 17 = .ok (.aload_n 0, 1) := by decide +kernel
theorem dX4_ringPlace_18 : decode cX4_ringPlace 18 = .ok (.getfield 9, 3) := by decide +kernel
theorem dX4_ringPlace_21 : decode cX4_ringPlace 21 = .ok (.arraylength, 1) := by decide +kernel
theorem dX4_ringPlace_22 : decode cX4_ringPlace 22 = .ok (.isub, 1) := by decide +kernel
theorem dX4_ringPlace_23 : decode cX4_ringPlace 23 = .ok (.goto 4, 3) := by decide +kernel
theorem dX4_ringPlace_26 : decode cX4_ringPlace 26 = .ok (.iload_n 2, 1) := by decide +kernel
theorem dX4_ringPlace_27 : decode cX4_ringPlace 27 = .ok (.ireturn, 1) := by decide +kernel
set_option maxRecDepth 20000 in
theorem ggX5_init_X3_init : GoodIn wsX5_init wsX3_init := goodIn_r _ [18, 19, 2, 3, 20, 21, 36, 37] (by decide +kernel) (by decide +kernel)
set_option maxRecDepth 20000 in
theorem gX5_init_X3_init_n11 : GoodIn wsX5_init (wsX3_init) := ggX5_init_X3_init
set_option maxRecDepth 20000 in
theorem ggX5_init_X4_init : GoodIn wsX5_init wsX4_init := goodIn_r _ [23, 24, 2, 3, 25, 26, 27, 28, 54, 55, 56, 57, 58] (by decide +kernel) (by decide +kernel)
set_option maxRecDepth 20000 in
theorem gX5_init_X4_init_n20 : GoodIn wsX5_init (wsX4_init) := ggX5_init_X4_init
set_option maxRecDepth 20000 in
theorem ggX5_init_X0_init : GoodIn wsX5_init wsX0_init := goodIn_r _ [30, 31, 2, 3, 32, 33, 25, 34, 35, 59, 60, 61, 62, 63, 64, 65, 66, 67, 68, 69] (by decide +kernel) (by decide +kernel)
set_option maxRecDepth 20000 in
theorem gX5_init_X0_init_n27 : GoodIn wsX5_init (wsX0_init) := ggX5_init_X0_init
theorem dX5_init_0 : decode cX5_init 0 = .ok (.aload_n 0, 1) := by decide +kernel
theorem dX5_init_1 : decode cX5_init 1 = .ok (.invokespecial 3, 3) := by decide +kernel
theorem dX5_init_4 : decode cX5_init 4 = .ok (.aload_n 0, 1) := by decide +kernel
theorem dX5_init_5 : decode cX5_init 5 = .ok (.new 9, 3) := by decide +kernel
theorem dX5_init_8 : decode cX5_init 8 = .ok (.dup, 1) := by decide +kernel
theorem dX5_init_9 : decode cX5_init 9 = .ok (.invokespecial 11, 3) := by decide +kernel
theorem dX5_init_12 : decode cX5_init 12 = .ok (.putfield 12, 3) := by decide +kernel
theorem dX5_init_15 : decode cX5_init 15 = .ok (.aload_n 0, 1) := by decide +kernel
theorem dX5_init_16 : decode cX5_init 16 = .ok (.new 18, 3) := by decide +kernel
theorem dX5_init_19 : decode cX5_init 19 = .ok (.dup, 1) := by decide +kernel
theorem dX5_init_20 : decode cX5_init 20 = .ok (.invokespecial 20, 3) := by decide +kernel
theorem dX5_init_23 : decode cX5_init 23 = .ok (.putfield 21, 3) := by decide +kernel
theorem dX5_init_26 : decode cX5_init 26 = .ok (.aload_n 0, 1) := by decide +kernel
theorem dX5_init_27 : decode cX5_init 27 = .ok (.new 25, 3) := by decide +kernel
theorem dX5_init_30 : decode cX5_init 30 = .ok (.dup, 1) := by decide +kernel
theorem dX5_init_31 : decode cX5_init 31 = .ok (.invokespecial 27, 3) := by decide +kernel
theorem dX5_init_34 : decode cX5_init 34 = .ok (.putfield 28, 3) := by decide +kernel
theorem dX5_init_37 : decode cX5_init 37 = .ok (.aload_n 0, 1) := by decide +kernel
theorem dX5_init_38 : decode cX5_init 38 = .ok (.bipush (-9), 2) := by decide +kernel
theorem dX5_init_40 : decode cX5_init 40 = .ok (.putfield 32, 3) := by decide +kernel
theorem dX5_init_43 : decode cX5_init 43 = .ok (.return_, 1) := by decide +kernel
theorem dX5_product_0 : decode cX5_product 0 = .ok (.aload_n 0, 1) := by decide +kernel
theorem dX5_product_1 : decode cX5_product 1 = .ok (.getfield 32, 3) := by decide +kernel
theorem dX5_product_4 : decode cX5_product 4 = .ok (.bipush (-9), 2) := by decide +kernel
theorem dX5_product_6 : decode cX5_product 6 = .ok (.if_icmp .ne 7, 3) := by decide +kernel
theorem dX5_product_9 : decode cX5_product 9 = .ok (.lconst 0, 1) := by decide +kernel
theorem dX5_product_10 : decode cX5_product 10 = .ok (.goto 18, 3) := by decide +kernel
theorem dX5_product_13 : decode cX5_product 13 = .ok (.aload_n 0, 1) := by decide +kernel
theorem dX5_product_14 : decode cX5_product 14 = .ok (.getfield 36, 3) := by decide +kernel
theorem dX5_product_17 : decode cX5_product 17 = .ok (.i2l, 1) := by decide +kernel
theorem dX5_product_18 : decode cX5_product 18 = .ok (.aload_n 0, 1) := by decide +kernel
theorem dX5_product_19 : decode cX5_product 19 = .ok (.getfield 32, 3) := by decide +kernel
theorem dX5_product_22 : decode cX5_product 22 = .ok (.i2l, 1) := by decide +kernel
theorem dX5_product_23 : decode cX5_product 23 = .ok (.lmul, 1) := by decide +kernel
theorem dX5_product_24 : decode cX5_product 24 = .ok (.ldc2_w 39, 3) := by decide +kernel
theorem dX5_product_27 : decode cX5_product 27 = .ok (.ldiv, 1) := by decide +kernel
theorem dX5_product_28 : decode cX5_product 28 = .ok (.lreturn, 1) := by decide +kernel
set_option maxRecDepth 20000 in
theorem ggX5_window_X5_product : GoodIn wsX5_window wsX5_product := goodIn_r _ [18, 5, 4, 19, 20, 21, 22, 23, 24, 25, 26, 27, 28, 29, 30, 31, 32, 33, 34, 35] (by decide +kernel) (by decide +kernel)
set_option maxRecDepth 20000 in
theorem gX5_window_X5_product : GoodIn wsX5_window (wsV RX5 50 RX5 yX5_product wsX5_product) := goodIn_app (goodIn_of _ (by decide +kernel)) ggX5_window_X5_product
theorem dX5_window_0 : decode cX5_window 0 = .ok (.aload_n 0, 1) := by decide +kernel
theorem dX5_window_1 : decode cX5_window 1 = .ok (.getfield 28, 3) := by decide +kernel
theorem dX5_window_4 : decode cX5_window 4 = .ok (.getfield 41, 3) := by decide +kernel
theorem dX5_window_7 : decode cX5_window 7 = .ok (.iconst 3, 1) := by decide +kernel
theorem dX5_window_8 : decode cX5_window 8 = .ok (.if_icmp .ne 7, 3) := by decide +kernel
theorem dX5_window_11 : decode cX5_window 11 = .ok (.ldc2_w 44, 3) := by decide +kernel
theorem dX5_window_14 : decode cX5_window 14 = .ok (.lreturn, 1) := by decide +kernel
theorem dX5_window_15 : decode cX5_window 15 = .ok (.aload_n 0, 1) := by decide +kernel
theorem dX5_window_16 : decode cX5_window 16 = .ok (.getfield 36, 3) := by decide +kernel
theorem dX5_window_19 : decode cX5_window 19 = .ok (.ifCond .eq 12, 3) := by decide +kernel
theorem dX5_window_22 : decode cX5_window 22 = .ok (.aload_n 0, 1) := by decide +kernel
theorem dX5_window_23 : decode cX5_window 23 = .ok (.getfield 32, 3) := by decide +kernel
theorem dX5_window_26 : decode cX5_window 26 = .ok (.bipush (-9), 2) := by decide +kernel
theorem dX5_window_28 : decode cX5_window 28 = .ok (.if_icmp .ne 7, 3) := by decide +kernel
theorem dX5_window_31 : decode cX5_window 31 = .ok (.ldc2_w 46, 3) := by decide +kernel
theorem dX5_window_34 : decode cX5_window 34 = .ok (.lreturn, 1) := by decide +kernel
theorem dX5_window_35 : decode cX5_window 35 = .ok (.aload_n 0, 1) := by decide +kernel
theorem dX5_window_36 : decode cX5_window 36 = .ok (.getfield 28, 3) := by decide +kernel
theorem dX5_window_39 : decode cX5_window 39 = .ok (.getfield 41, 3) := by decide +kernel
theorem dX5_window_42 : decode cX5_window 42 = .ok (.iconst 2, 1) := by decide +kernel
theorem dX5_window_43 : decode cX5_window 43 = .ok (.if_icmp .ne 14, 3) := by decide +kernel
theorem dX5_window_46 : decode cX5_window 46 = .ok (.ldc2_w 48, 3) := by decide +kernel
theorem dX5_window_49 : decode cX5_window 49 = .ok (.aload_n 0, 1) := by decide +kernel
theorem dX5_window_50 : decode cX5_window 50 = .ok (.invokevirtual 50, 3) := by decide +kernel
theorem dX5_window_53 : decode cX5_window 53 = .ok (.lmul, 1) := by decide +kernel
theorem dX5_window_54 : decode cX5_window 54 = .ok (.goto 15, 3) := by decide +kernel
theorem dX5_window_57 : decode cX5_window 57 = .ok (.ldc2_w 54, 3) := by decide +kernel
theorem dX5_window_60 : decode cX5_window 60 = .ok (.aload_n 0, 1) := by decide +kernel
theorem dX5_window_61 : decode cX5_window 61 = .ok (.invokevirtual 50, 3) := by decide +kernel
theorem dX5_window_64 : decode cX5_window 64 = .ok (.lmul, 1) := by decide +kernel
theorem dX5_window_65 : decode cX5_window 65 = .ok (.ldc2_w 56, 3) := by decide +kernel
theorem dX5_window_68 : decode cX5_window 68 = .ok (.ldiv, 1) := by decide +kernel
theorem dX5_window_69 : decode cX5_window 69 = .ok (.lstore_n 1, 1) := by decide +kernel
theorem dX5_window_70 : decode cX5_window 70 = .ok (.ldc2_w 44, 3) := by decide +kernel
theorem dX5_window_73 : decode cX5_window 73 = .ok (.lload_n 1, 1) := by decide +kernel
theorem dX5_window_74 : decode cX5_window 74 = .ok (.invokestatic 58, 3) := by decide +kernel
theorem dX5_window_77 : decode cX5_window 77 = .ok (.lreturn, 1) := by decide +kernel
set_option maxRecDepth 20000 in
theorem ggX5_sendAll_X5_window : GoodIn wsX5_sendAll wsX5_window := goodIn_r _ [14, 15, 16, 17, 18, 19, 20, 21, 22, 23, 24, 25, 7, 26, 27, 28, 29, 13, 30, 31, 101, 102, 103, 104, 105, 106, 107, 108, 109, 110, 111, 112, 113, 114, 115, 116, 119, 120, 121, 122, 123, 124, 125, 126, 127, 128, 129] (by decide +kernel) (by decide +kernel)
set_option maxRecDepth 20000 in
theorem gX5_sendAll_X5_window : GoodIn wsX5_sendAll (wsV RX5 64 RX5 yX5_window wsX5_window) := goodIn_app (goodIn_of _ (by decide +kernel)) ggX5_sendAll_X5_window
set_option maxRecDepth 20000 in
theorem ggX5_sendAll_X5_isFree : GoodIn wsX5_sendAll wsX5_isFree := goodIn_r _ [35, 3, 4, 36, 31, 101, 102, 103, 104, 105, 106, 107, 108, 109, 110, 111, 112, 113, 114, 115, 116, 117, 118] (by decide +kernel) (by decide +kernel)
set_option maxRecDepth 20000 in
theorem gX5_sendAll_X5_isFree : GoodIn wsX5_sendAll (wsV RX5 70 RX5 yX5_isFree wsX5_isFree) := goodIn_app (goodIn_of _ (by decide +kernel)) ggX5_sendAll_X5_isFree
set_option maxRecDepth 20000 in
theorem ggX5_sendAll_X5_sendOne : GoodIn wsX5_sendAll wsX5_sendOne := goodIn_r _ [40, 3, 1, 4, 41, 42, 43, 44, 2, 45, 46, 9, 47, 48, 49, 50, 51, 52, 53, 54, 55, 56, 57, 58, 59, 60, 61, 62, 63, 64, 65, 66, 67, 68, 69, 70, 71, 72, 73, 74, 75, 76, 77, 78, 6, 7, 8, 79, 80, 81, 82, 83, 84, 85, 86, 87, 88, 89, 90, 91, 13, 92, 18, 15, 36, 31, 24, 25, 26, 93, 94, 95, 96, 97, 98, 99, 100, 101, 102, 103, 104, 105, 106, 107, 108, 109, 110, 111, 112, 113, 114, 115, 116, 117, 118, 130, 131, 132, 133, 134, 135, 136, 137, 138, 139, 140, 141, 142, 143, 144, 145, 146, 147, 148, 149, 119, 120, 121, 122, 123, 124, 125, 126, 127, 128, 129] (by decide +kernel) (by decide +kernel)
set_option maxRecDepth 20000 in
theorem gX5_sendAll_X5_sendOne : GoodIn wsX5_sendAll (wsV RX5 74 RX5 yX5_sendOne wsX5_sendOne) := goodIn_app (goodIn_of _ (by decide +kernel)) ggX5_sendAll_X5_sendOne
theorem dX5_sendAll_0 : decode cX5_sendAll 0 = .ok (.aload_n 0, 1) := by decide +kernel
theorem dX5_sendAll_1 : decode cX5_sendAll 1 = .ok (.invokevirtual 64, 3) := by decide +kernel
theorem dX5_sendAll_4 : decode cX5_sendAll 4 = .ok (.lstore_n 3, 1) := by decide +kernel
theorem dX5_sendAll_5 : decode cX5_sendAll 5 = .ok (.iconst 1, 1) := by decide +kernel
theorem dX5_sendAll_6 : decode cX5_sendAll 6 = .ok (.istore 5, 2) := by decide +kernel
theorem dX5_sendAll_8 : decode cX5_sendAll 8 = .ok (.iconst 0, 1) := by decide +kernel
theorem dX5_sendAll_9 : decode cX5_sendAll 9 = .ok (.istore 6, 2) := by decide +kernel
theorem dX5_sendAll_11 : decode cX5_sendAll 11 = .ok (.iload 6, 2) := by decide +kernel
theorem dX5_sendAll_13 : decode cX5_sendAll 13 = .ok (.bipush 8, 2) := by decide +kernel
theorem dX5_sendAll_15 : decode cX5_sendAll 15 = .ok (.if_icmp .ge 38, 3) := by decide +kernel
theorem dX5_sendAll_18 : decode cX5_sendAll 18 = .ok (.iload 5, 2) := by decide +kernel
theorem dX5_sendAll_20 : decode cX5_sendAll 20 = .ok (.ifCond .eq 33, 3) := by decide +kernel
theorem dX5_sendAll_23 : decode cX5_sendAll 23 = .ok (.aload_n 0, 1) := by decide +kernel
theorem dX5_sendAll_24 : decode cX5_sendAll 24 = .ok (.getfield 67, 3) := by decide +kernel
theorem dX5_sendAll_27 : decode cX5_sendAll 27 = .ok (.ifCond .le 26, 3) := by decide +kernel
theorem dX5_sendAll_30 : decode cX5_sendAll 30 = .ok (.aload_n 0, 1) := by decide +kernel
theorem dX5_sendAll_31 : decode cX5_sendAll 31 = .ok (.lload_n 3, 1) := by decide +kernel
theorem dX5_sendAll_32 : decode cX5_sendAll 32 = .ok (.iload_n 2, 1) := by decide +kernel
theorem dX5_sendAll_33 : decode cX5_sendAll 33 = .ok (.invokevirtual 70, 3) := by decide +kernel
theorem dX5_sendAll_36 : decode cX5_sendAll 36 = .ok (.ifCond .eq 17, 3) := by decide +kernel
theorem dX5_sendAll_39 : decode cX5_sendAll 39 = .ok (.aload_n 0, 1) := by decide +kernel
theorem dX5_sendAll_40 : decode cX5_sendAll 40 = .ok (.aload_n 1, 1) := by decide +kernel
theorem dX5_sendAll_41 : decode cX5_sendAll 41 = .ok (.iload_n 2, 1) := by decide +kernel
theorem dX5_sendAll_42 : decode cX5_sendAll 42 = .ok (.invokevirtual 74, 3) := by decide +kernel
theorem dX5_sendAll_45 : decode cX5_sendAll 45 = .ok (.istore 5, 2) := by decide +kernel
theorem dX5_sendAll_47 : decode cX5_sendAll 47 = .ok (.iinc 6 1, 3) := by decide +kernel
theorem dX5_sendAll_50 : decode cX5_sendAll 50 = .ok (.goto (-39), 3) := by decide +kernel
theorem dX5_sendAll_53 : decode cX5_sendAll 53 = .ok (.aload_n 0, 1) := by decide +kernel
theorem dX5_sendAll_54 : decode cX5_sendAll 54 = .ok (.getfield 67, 3) := by decide +kernel
theorem dX5_sendAll_57 : decode cX5_sendAll 57 = .ok (.ifCond .ne 32, 3) := by decide +kernel
theorem dX5_sendAll_60 : decode cX5_sendAll 60 = .ok (.aload_n 0, 1) := by decide +kernel
theorem dX5_sendAll_61 : decode cX5_sendAll 61 = .ok (.lload_n 3, 1) := by decide +kernel
theorem dX5_sendAll_62 : decode cX5_sendAll 62 = .ok (.iload_n 2, 1) := by decide +kernel
theorem dX5_sendAll_63 : decode cX5_sendAll 63 = .ok (.invokevirtual 70, 3) := by decide +kernel
theorem dX5_sendAll_66 : decode cX5_sendAll 66 = .ok (.ifCond .eq 23, 3) := by decide +kernel
theorem dX5_sendAll_69 : decode cX5_sendAll 69 = .ok (.aload_n 0, 1) := by decide +kernel
theorem dX5_sendAll_70 : decode cX5_sendAll 70 = .ok (.iconst 1, 1) := by decide +kernel
theorem dX5_sendAll_71 : decode cX5_sendAll 71 = .ok (.aload_n 0, 1) := by decide +kernel
theorem dX5_sendAll_72 : decode cX5_sendAll 72 = .ok (.getfield 78, 3) := by decide +kernel
theorem dX5_sendAll_75 : decode cX5_sendAll 75 = .ok (.aload_n 0, 1) := by decide +kernel
theorem dX5_sendAll_76 : decode cX5_sendAll 76 = .ok (.getfield 12, 3) := by decide +kernel
theorem dX5_sendAll_79 : decode cX5_sendAll 79 = .ok (.getfield 81, 3) := by decide +kernel
theorem dX5_sendAll_82 : decode cX5_sendAll 82 = .ok (.iadd, 1) := by decide +kernel
theorem dX5_sendAll_83 : decode cX5_sendAll 83 = .ok (.invokestatic 84, 3) := by decide +kernel
theorem dX5_sendAll_86 : decode cX5_sendAll 86 = .ok (.putfield 87, 3) := by decide +kernel
theorem dX5_sendAll_89 : decode cX5_sendAll 89 = .ok (.return_, 1) := by decide +kernel
theorem dX5_isFree_0 : decode cX5_isFree 0 = .ok (.aload_n 0, 1) := by decide +kernel
theorem dX5_isFree_1 : decode cX5_isFree 1 = .ok (.getfield 12, 3) := by decide +kernel
theorem dX5_isFree_4 : decode cX5_isFree 4 = .ok (.getfield 81, 3) := by decide +kernel
theorem dX5_isFree_7 : decode cX5_isFree 7 = .ok (.i2l, 1) := by decide +kernel
theorem dX5_isFree_8 : decode cX5_isFree 8 = .ok (.lload_n 1, 1) := by decide +kernel
theorem dX5_isFree_9 : decode cX5_isFree 9 = .ok (.lcmp, 1) := by decide +kernel
theorem dX5_isFree_10 : decode cX5_isFree 10 = .ok (.ifCond .ge 21, 3) := by decide +kernel
theorem dX5_isFree_13 : decode cX5_isFree 13 = .ok (.aload_n 0, 1) := by decide +kernel
theorem dX5_isFree_14 : decode cX5_isFree 14 = .ok (.getfield 90, 3) := by decide +kernel
theorem dX5_isFree_17 : decode cX5_isFree 17 = .ok (.ldc2_w 39, 3) := by decide +kernel
theorem dX5_isFree_20 : decode cX5_isFree 20 = .ok (.iload_n 3, 1) := by decide +kernel
theorem dX5_isFree_21 : decode cX5_isFree 21 = .ok (.i2l, 1) := by decide +kernel
theorem dX5_isFree_22 : decode cX5_isFree 22 = .ok (.lmul, 1) := by decide +kernel
theorem dX5_isFree_23 : decode cX5_isFree 23 = .ok (.lcmp, 1) := by decide +kernel
theorem dX5_isFree_24 : decode cX5_isFree 24 = .ok (.ifCond .gt 7, 3) := by decide +kernel
theorem dX5_isFree_27 : decode cX5_isFree 27 = .ok (.iconst 1, 1) := by decide +kernel
theorem dX5_isFree_28 : decode cX5_isFree 28 = .ok (.goto 4, 3) := by decide +kernel
theorem dX5_isFree_31 : decode cX5_isFree 31 = .ok (.iconst 0, 1) := by decide +kernel
theorem dX5_isFree_32 : decode cX5_isFree 32 = .ok (.ireturn, 1) := by decide +kernel
set_option maxRecDepth 20000 in
theorem ggX5_sendOne_X3_blank : GoodIn wsX5_sendOne wsX3_blank := goodIn_r _ [19, 20, 21, 22, 23, 24, 25, 26, 27, 28, 29, 30, 31, 93, 94, 95, 96, 97, 98, 99, 100, 101, 102] (by decide +kernel) (by decide +kernel)
set_option maxRecDepth 20000 in
theorem gX5_sendOne_X3_blank : GoodIn wsX5_sendOne (wsV RX5 94 RX3 yX3_blank wsX3_blank) := goodIn_app (goodIn_of _ (by decide +kernel)) ggX5_sendOne_X3_blank
set_option maxRecDepth 20000 in
theorem ggX5_sendOne_X1_admit : GoodIn wsX5_sendOne wsX1_admit := goodIn_r _ [36, 37, 38, 39, 40, 41, 42, 43, 44, 45, 46, 47, 48, 49, 35, 50, 51, 52, 103, 104, 105, 106, 107, 108, 109, 110, 111, 112, 113, 114] (by decide +kernel) (by decide +kernel)
set_option maxRecDepth 20000 in
theorem gX5_sendOne_X1_admit : GoodIn wsX5_sendOne (wsV RX5 119 RX1 yX1_admit wsX1_admit) := goodIn_app (goodIn_of _ (by decide +kernel)) ggX5_sendOne_X1_admit
set_option maxRecDepth 20000 in
theorem ggX5_sendOne_X3_add : GoodIn wsX5_sendOne wsX3_add := goodIn_r _ [56, 20, 21, 93, 94] (by decide +kernel) (by decide +kernel)
set_option maxRecDepth 20000 in
theorem gX5_sendOne_X3_add : GoodIn wsX5_sendOne (wsV RX5 125 RX3 yX3_add wsX3_add) := goodIn_app (goodIn_of _ (by decide +kernel)) ggX5_sendOne_X3_add
set_option maxRecDepth 20000 in
theorem ggX5_sendOne_X5_putOffNext : GoodIn wsX5_sendOne wsX5_putOffNext := goodIn_r _ [61, 62, 63, 64, 65, 66, 67, 45, 68, 69, 70, 71, 72, 73, 74, 75, 76, 77, 78, 79, 80, 81, 82, 83, 84, 85, 86, 87, 88, 89, 90, 91, 92, 115, 116, 117, 118, 119, 120, 121, 122, 123, 124, 125] (by decide +kernel) (by decide +kernel)
set_option maxRecDepth 20000 in
theorem gX5_sendOne_X5_putOffNext : GoodIn wsX5_sendOne (wsV RX5 131 RX5 yX5_putOffNext wsX5_putOffNext) := goodIn_app (goodIn_of _ (by decide +kernel)) ggX5_sendOne_X5_putOffNext
theorem dX5_sendOne_0 : decode cX5_sendOne 0 = .ok (.aload_n 0, 1) := by decide +kernel
theorem dX5_sendOne_1 : decode cX5_sendOne 1 = .ok (.getfield 12, 3) := by decide +kernel
theorem dX5_sendOne_4 : decode cX5_sendOne 4 = .ok (.aload_n 0, 1) := by decide +kernel
theorem dX5_sendOne_5 : decode cX5_sendOne 5 = .ok (.invokevirtual 94, 3) := by decide +kernel
theorem dX5_sendOne_8 : decode cX5_sendOne 8 = .ok (.astore_n 3, 1) := by decide +kernel
theorem dX5_sendOne_9 : decode cX5_sendOne 9 = .ok (.aload_n 3, 1) := by decide +kernel
theorem dX5_sendOne_10 : decode cX5_sendOne 10 = .ok (.ifnonnull 5, 3) := by decide +kernel
theorem dX5_sendOne_13 : decode cX5_sendOne 13 = .ok (.iconst 0, 1) := by decide +kernel
theorem dX5_sendOne_14 : decode cX5_sendOne 14 = .ok (.ireturn, 1) := by decide +kernel
theorem dX5_sendOne_15 : decode cX5_sendOne 15 = .ok (.aload_n 0, 1) := by decide +kernel
theorem dX5_sendOne_16 : decode cX5_sendOne 16 = .ok (.dup, 1) := by decide +kernel
theorem dX5_sendOne_17 : decode cX5_sendOne 17 = .ok (.getfield 67, 3) := by decide +kernel
theorem dX5_sendOne_20 : decode cX5_sendOne 20 = .ok (.iconst 1, 1) := by decide +kernel
theorem dX5_sendOne_21 : decode cX5_sendOne 21 = .ok (.isub, 1) := by decide +kernel
theorem dX5_sendOne_22 : decode cX5_sendOne 22 = .ok (.putfield 67, 3) := by decide +kernel
theorem dX5_sendOne_25 : decode cX5_sendOne 25 = .ok (.aload_n 0, 1) := by decide +kernel
theorem dX5_sendOne_26 : decode cX5_sendOne 26 = .ok (.getfield 12, 3) := by decide +kernel
theorem dX5_sendOne_29 : decode cX5_sendOne 29 = .ok (.getfield 81, 3) := by decide +kernel
theorem dX5_sendOne_32 : decode cX5_sendOne 32 = .ok (.ifCond .ne 8, 3) := by decide +kernel
theorem dX5_sendOne_35 : decode cX5_sendOne 35 = .ok (.aload_n 0, 1) := by decide +kernel
theorem dX5_sendOne_36 : decode cX5_sendOne 36 = .ok (.iload_n 2, 1) := by decide +kernel
theorem dX5_sendOne_37 : decode cX5_sendOne 37 = .ok (.putfield 98, 3) := by decide +kernel
theorem dX5_sendOne_40 : decode cX5_sendOne 40 = .ok (.aload_n 3, 1) := by decide +kernel
theorem dX5_sendOne_41 : decode cX5_sendOne 41 = .ok (.aload_n 0, 1) := by decide +kernel
theorem dX5_sendOne_42 : decode cX5_sendOne 42 = .ok (.getfield 101, 3) := by decide +kernel
theorem dX5_sendOne_45 : decode cX5_sendOne 45 = .ok (.putfield 104, 3) := by decide +kernel
theorem dX5_sendOne_48 : decode cX5_sendOne 48 = .ok (.aload_n 3, 1) := by decide +kernel
theorem dX5_sendOne_49 : decode cX5_sendOne 49 = .ok (.iload_n 2, 1) := by decide +kernel
theorem dX5_sendOne_50 : decode cX5_sendOne 50 = .ok (.putfield 109, 3) := by decide +kernel
theorem dX5_sendOne_53 : decode cX5_sendOne 53 = .ok (.aload_n 3, 1) := by decide +kernel
theorem dX5_sendOne_54 : decode cX5_sendOne 54 = .ok (.aload_n 0, 1) := by decide +kernel
theorem dX5_sendOne_55 : decode cX5_sendOne 55 = .ok (.getfield 78, 3) := by decide +kernel
theorem dX5_sendOne_58 : decode cX5_sendOne 58 = .ok (.putfield 110, 3) := by decide +kernel
theorem dX5_sendOne_61 : decode cX5_sendOne 61 = .ok (.aload_n 3, 1) := by decide +kernel
theorem dX5_sendOne_62 : decode cX5_sendOne 62 = .ok (.aload_n 0, 1) := by decide +kernel
theorem dX5_sendOne_63 : decode cX5_sendOne 63 = .ok (.getfield 98, 3) := by decide +kernel
theorem dX5_sendOne_66 : decode cX5_sendOne 66 = .ok (.putfield 111, 3) := by decide +kernel
theorem dX5_sendOne_69 : decode cX5_sendOne 69 = .ok (.aload_n 3, 1) := by decide +kernel
theorem dX5_sendOne_70 : decode cX5_sendOne 70 = .ok (.aload_n 0, 1) := by decide +kernel
theorem dX5_sendOne_71 : decode cX5_sendOne 71 = .ok (.getfield 87, 3) := by decide +kernel
theorem dX5_sendOne_74 : decode cX5_sendOne 74 = .ok (.ifCond .le 7, 3) := by decide +kernel
theorem dX5_sendOne_77 : decode cX5_sendOne 77 = .ok (.iconst 1, 1) := by decide +kernel
theorem dX5_sendOne_78 : decode cX5_sendOne 78 = .ok (.goto 4, 3) := by decide +kernel
theorem dX5_sendOne_81 : decode cX5_sendOne 81 = .ok (.iconst 0, 1) := by decide +kernel
theorem dX5_sendOne_82 : decode cX5_sendOne 82 = .ok (.putfield 112, 3) := by decide +kernel
theorem dX5_sendOne_85 : decode cX5_sendOne 85 = .ok (.aload_n 3, 1) := by decide +kernel
theorem dX5_sendOne_86 : decode cX5_sendOne 86 = .ok (.iconst 0, 1) := by decide +kernel
theorem dX5_sendOne_87 : decode cX5_sendOne 87 = .ok (.putfield 116, 3) := by decide +kernel
theorem dX5_sendOne_90 : decode cX5_sendOne 90 = .ok (.aload_n 0, 1) := by decide +kernel
theorem dX5_sendOne_91 : decode cX5_sendOne 91 = .ok (.dup, 1) := by decide +kernel
theorem dX5_sendOne_92 : decode cX5_sendOne 92 = .ok (.getfield 101, 3) := by decide +kernel
theorem dX5_sendOne_95 : decode cX5_sendOne 95 = .ok (.iconst 1, 1) := by decide +kernel
theorem dX5_sendOne_96 : decode cX5_sendOne 96 = .ok (.iadd, 1) := by decide +kernel
theorem dX5_sendOne_97 : decode cX5_sendOne 97 = .ok (.putfield 101, 3) := by decide +kernel
theorem dX5_sendOne_100 : decode cX5_sendOne 100 = .ok (.aload_n 1, 1) := by decide +kernel
theorem dX5_sendOne_101 : decode cX5_sendOne 101 = .ok (.aload_n 3, 1) := by decide +kernel
theorem dX5_sendOne_102 : decode cX5_sendOne 102 = .ok (.iload_n 2, 1) := by decide +kernel
theorem dX5_sendOne_103 : decode cX5_sendOne 103 = .ok (.invokevirtual 119, 3) := by decide +kernel
theorem dX5_sendOne_106 : decode cX5_sendOne 106 = .ok (.istore 4, 2) := by decide +kernel
theorem dX5_sendOne_108 : decode cX5_sendOne 108 = .ok (.iload 4, 2) := by decide +kernel
theorem dX5_sendOne_110 : decode cX5_sendOne 110 = .ok (.ifCond .eq 13, 3) := by decide +kernel
theorem dX5_sendOne_113 : decode cX5_sendOne 113 = .ok (.aload_n 0, 1) := by decide +kernel
theorem dX5_sendOne_114 : decode cX5_sendOne 114 = .ok (.getfield 12, 3) := by decide +kernel
theorem dX5_sendOne_117 : decode cX5_sendOne 117 = .ok (.invokevirtual 125, 3) := by decide +kernel
theorem dX5_sendOne_120 : decode cX5_sendOne 120 = .ok (.goto 13, 3) := by decide +kernel
theorem dX5_sendOne_123 : decode cX5_sendOne 123 = .ok (.aload_n 0, 1) := by decide +kernel
theorem dX5_sendOne_124 : decode cX5_sendOne 124 = .ok (.dup, 1) := by decide +kernel
theorem dX5_sendOne_125 : decode cX5_sendOne 125 = .ok (.getfield 128, 3) := by decide +kernel
theorem dX5_sendOne_128 : decode cX5_sendOne 128 = .ok (.iconst 1, 1) := by decide +kernel
theorem dX5_sendOne_129 : decode cX5_sendOne 129 = .ok (.iadd, 1) := by decide +kernel
theorem dX5_sendOne_130 : decode cX5_sendOne 130 = .ok (.putfield 128, 3) := by decide +kernel
theorem dX5_sendOne_133 : decode cX5_sendOne 133 = .ok (.aload_n 0, 1) := by decide +kernel
theorem dX5_sendOne_134 : decode cX5_sendOne 134 = .ok (.iload_n 2, 1) := by decide +kernel
theorem dX5_sendOne_135 : decode cX5_sendOne 135 = .ok (.invokevirtual 131, 3) := by decide +kernel
theorem dX5_sendOne_138 : decode cX5_sendOne 138 = .ok (.iload 4, 2) := by decide +kernel
theorem dX5_sendOne_140 : decode cX5_sendOne 140 = .ok (.ireturn, 1) := by decide +kernel
set_option maxRecDepth 20000 in
theorem ggX5_putOffNext_X0_gain : GoodIn wsX5_putOffNext wsX0_gain := goodIn_r _ [14, 15, 16, 33, 34, 35, 36, 37, 38, 39, 40, 41, 42, 43] (by decide +kernel) (by decide +kernel)
set_option maxRecDepth 20000 in
theorem gX5_putOffNext_X0_gain : GoodIn wsX5_putOffNext (wsV RX5 135 RX0 yX0_gain wsX0_gain) := goodIn_app (goodIn_of _ (by decide +kernel)) ggX5_putOffNext_X0_gain
theorem dX5_putOffNext_0 : decode cX5_putOffNext 0 = .ok (.aload_n 0, 1) := by decide +kernel
theorem dX5_putOffNext_1 : decode cX5_putOffNext 1 = .ok (.getfield 36, 3) := by decide +kernel
theorem dX5_putOffNext_4 : decode cX5_putOffNext 4 = .ok (.i2l, 1) := by decide +kernel
theorem dX5_putOffNext_5 : decode cX5_putOffNext 5 = .ok (.aload_n 0, 1) := by decide +kernel
theorem dX5_putOffNext_6 : decode cX5_putOffNext 6 = .ok (.getfield 28, 3) := by decide +kernel
theorem dX5_putOffNext_9 : decode cX5_putOffNext 9 = .ok (.invokevirtual 135, 3) := by decide +kernel
theorem dX5_putOffNext_12 : decode cX5_putOffNext 12 = .ok (.i2l, 1) := by decide +kernel
theorem dX5_putOffNext_13 : decode cX5_putOffNext 13 = .ok (.lmul, 1) := by decide +kernel
theorem dX5_putOffNext_14 : decode cX5_putOffNext 14 = .ok (.lstore_n 2, 1) := by decide +kernel
theorem dX5_putOffNext_15 : decode cX5_putOffNext 15 = .ok (.lload_n 2, 1) := by decide +kernel
theorem dX5_putOffNext_16 : decode cX5_putOffNext 16 = .ok (.lconst 0, 1) := by decide +kernel
theorem dX5_putOffNext_17 : decode cX5_putOffNext 17 = .ok (.lcmp, 1) := by decide +kernel
theorem dX5_putOffNext_18 : decode cX5_putOffNext 18 = .ok (.ifCond .le 26, 3) := by decide +kernel
theorem dX5_putOffNext_21 : decode cX5_putOffNext 21 = .ok (.aload_n 0, 1) := by decide +kernel
theorem dX5_putOffNext_22 : decode cX5_putOffNext 22 = .ok (.aload_n 0, 1) := by decide +kernel
theorem dX5_putOffNext_23 : decode cX5_putOffNext 23 = .ok (.getfield 90, 3) := by decide +kernel
theorem dX5_putOffNext_26 : decode cX5_putOffNext 26 = .ok (.ldc2_w 39, 3) := by decide +kernel
theorem dX5_putOffNext_29 : decode cX5_putOffNext 29 = .ok (.iload_n 1, 1) := by decide +kernel
theorem dX5_putOffNext_30 : decode cX5_putOffNext 30 = .ok (.i2l, 1) := by decide +kernel
theorem dX5_putOffNext_31 : decode cX5_putOffNext 31 = .ok (.lmul, 1) := by decide +kernel
theorem dX5_putOffNext_32 : decode cX5_putOffNext 32 = .ok (.invokestatic 58, 3) := by decide +kernel
theorem dX5_putOffNext_35 : decode cX5_putOffNext 35 = .ok (.ldc2_w 139, 3) := by decide +kernel
theorem dX5_putOffNext_38 : decode cX5_putOffNext 38 = .ok (.lload_n 2, 1) := by decide +kernel
theorem dX5_putOffNext_39 : decode cX5_putOffNext 39 = .ok (.ldiv, 1) := by decide +kernel
theorem dX5_putOffNext_40 : decode cX5_putOffNext 40 = .ok (.ladd, 1) := by decide +kernel
theorem dX5_putOffNext_41 : decode cX5_putOffNext 41 = .ok (.putfield 90, 3) := by decide +kernel
theorem dX5_putOffNext_44 : decode cX5_putOffNext 44 = .ok (.return_, 1) := by decide +kernel
set_option maxRecDepth 20000 in
theorem ggX5_takeDue_X3_at : GoodIn wsX5_takeDue wsX3_at := goodIn_r _ [9, 10, 11, 150, 151] (by decide +kernel) (by decide +kernel)
set_option maxRecDepth 20000 in
theorem gX5_takeDue_X3_at : GoodIn wsX5_takeDue (wsV RX5 141 RX3 yX3_at wsX3_at) := goodIn_app (goodIn_of _ (by decide +kernel)) ggX5_takeDue_X3_at
set_option maxRecDepth 20000 in
theorem ggX5_takeDue_X3_remove : GoodIn wsX5_takeDue wsX3_remove := goodIn_r _ [15, 10, 11, 16, 6, 7, 8, 9, 150, 151] (by decide +kernel) (by decide +kernel)
set_option maxRecDepth 20000 in
theorem gX5_takeDue_X3_remove : GoodIn wsX5_takeDue (wsV RX5 147 RX3 yX3_remove wsX3_remove) := goodIn_app (goodIn_of _ (by decide +kernel)) ggX5_takeDue_X3_remove
set_option maxRecDepth 20000 in
theorem ggX5_takeDue_X5_take : GoodIn wsX5_takeDue wsX5_take := goodIn_r _ [21, 1, 22, 23, 24, 25, 26, 27, 28, 29, 30, 31, 32, 33, 34, 35, 36, 37, 38, 39, 40, 41, 42, 43, 44, 45, 46, 47, 48, 49, 50, 51, 52, 53, 20, 54, 55, 56, 57, 58, 59, 60, 61, 62, 63, 64, 65, 66, 67, 68, 69, 70, 71, 72, 73, 74, 75, 76, 77, 78, 79, 80, 81, 82, 83, 84, 85, 86, 87, 88, 89, 90, 91, 92, 93, 94, 95, 96, 97, 98, 99, 100, 101, 102, 103, 104, 105, 106, 107, 108, 109, 110, 111, 112, 113, 114, 115, 116, 117, 118, 119, 120, 121, 122, 123, 124, 125, 126, 127, 128, 129, 130, 131, 132, 133, 134, 135, 136, 137, 138, 139, 140, 141, 142, 143, 144, 145, 146, 147, 148, 149, 152, 153, 154, 155, 156, 157, 158, 159, 160, 161, 162, 163, 164, 165, 166, 167, 150, 151] (by decide +kernel) (by decide +kernel)
set_option maxRecDepth 20000 in
theorem gX5_takeDue_X5_take : GoodIn wsX5_takeDue (wsV RX5 150 RX5 yX5_take wsX5_take) := goodIn_app (goodIn_of _ (by decide +kernel)) ggX5_takeDue_X5_take
theorem dX5_takeDue_0 : decode cX5_takeDue 0 = .ok (.aload_n 0, 1) := by decide +kernel
theorem dX5_takeDue_1 : decode cX5_takeDue 1 = .ok (.getfield 78, 3) := by decide +kernel
theorem dX5_takeDue_4 : decode cX5_takeDue 4 = .ok (.istore_n 2, 1) := by decide +kernel
theorem dX5_takeDue_5 : decode cX5_takeDue 5 = .ok (.iconst 0, 1) := by decide +kernel
theorem dX5_takeDue_6 : decode cX5_takeDue 6 = .ok (.istore_n 3, 1) := by decide +kernel
theorem dX5_takeDue_7 : decode cX5_takeDue 7 = .ok (.iconst 0, 1) := by decide +kernel
theorem dX5_takeDue_8 : decode cX5_takeDue 8 = .ok (.istore 4, 2) := by decide +kernel
theorem dX5_takeDue_10 : decode cX5_takeDue 10 = .ok (.iload 4, 2) := by decide +kernel
theorem dX5_takeDue_12 : decode cX5_takeDue 12 = .ok (.sipush 261, 3) := by decide +kernel
theorem dX5_takeDue_15 : decode cX5_takeDue 15 = .ok (.if_icmp .ge 65, 3) := by decide +kernel
theorem dX5_takeDue_18 : decode cX5_takeDue 18 = .ok (.aload_n 0, 1) := by decide +kernel
theorem dX5_takeDue_19 : decode cX5_takeDue 19 = .ok (.getfield 12, 3) := by decide +kernel
theorem dX5_takeDue_22 : decode cX5_takeDue 22 = .ok (.iload_n 3, 1) := by decide +kernel
theorem dX5_takeDue_23 : decode cX5_takeDue 23 = .ok (.invokevirtual 141, 3) := by decide +kernel
theorem dX5_takeDue_26 : decode cX5_takeDue 26 = .ok (.astore 5, 2) := by decide +kernel
theorem dX5_takeDue_28 : decode cX5_takeDue 28 = .ok (.aload 5, 2) := by decide +kernel
theorem dX5_takeDue_30 : decode cX5_takeDue 30 = .ok (.ifnull 50, 3) := by decide +kernel
theorem dX5_takeDue_33 : decode cX5_takeDue 33 = .ok (.aload 5, 2) := by decide +kernel
theorem dX5_takeDue_35 : decode cX5_takeDue 35 = .ok (.getfield 116, 3) := by decide +kernel
theorem dX5_takeDue_38 : decode cX5_takeDue 38 = .ok (.ifCond .ne 6, 3) := by decide +kernel
theorem dX5_takeDue_41 : decode cX5_takeDue 41 = .ok (.goto 39, 3) := by decide +kernel
theorem dX5_takeDue_44 : decode cX5_takeDue 44 = .ok (.aload 5, 2) := by decide +kernel
theorem dX5_takeDue_46 : decode cX5_takeDue 46 = .ok (.getfield 144, 3) := by decide +kernel
theorem dX5_takeDue_49 : decode cX5_takeDue 49 = .ok (.iload_n 1, 1) := by decide +kernel
theorem dX5_takeDue_50 : decode cX5_takeDue 50 = .ok (.if_icmp .ne 21, 3) := by decide +kernel
theorem dX5_takeDue_53 : decode cX5_takeDue 53 = .ok (.aload_n 0, 1) := by decide +kernel
theorem dX5_takeDue_54 : decode cX5_takeDue 54 = .ok (.getfield 12, 3) := by decide +kernel
theorem dX5_takeDue_57 : decode cX5_takeDue 57 = .ok (.iload_n 3, 1) := by decide +kernel
theorem dX5_takeDue_58 : decode cX5_takeDue 58 = .ok (.invokevirtual 147, 3) := by decide +kernel
theorem dX5_takeDue_61 : decode cX5_takeDue 61 = .ok (.aload_n 0, 1) := by decide +kernel
theorem dX5_takeDue_62 : decode cX5_takeDue 62 = .ok (.aload 5, 2) := by decide +kernel
theorem dX5_takeDue_64 : decode cX5_takeDue 64 = .ok (.iload_n 1, 1) := by decide +kernel
theorem dX5_takeDue_65 : decode cX5_takeDue 65 = .ok (.invokevirtual 150, 3) := by decide +kernel
theorem dX5_takeDue_68 : decode cX5_takeDue 68 = .ok (.goto 6, 3) := by decide +kernel
theorem dX5_takeDue_71 : decode cX5_takeDue 71 = .ok (.iinc 3 1, 3) := by decide +kernel
theorem dX5_takeDue_74 : decode cX5_takeDue 74 = .ok (.iinc 4 1, 3) := by decide +kernel
theorem dX5_takeDue_77 : decode cX5_takeDue 77 = .ok (.goto (-67), 3) := by decide +kernel
theorem dX5_takeDue_80 : decode cX5_takeDue 80 = .ok (.aload_n 0, 1) := by decide +kernel
theorem dX5_takeDue_81 : decode cX5_takeDue 81 = .ok (.getfield 78, 3) := by decide +kernel
theorem dX5_takeDue_84 : decode cX5_takeDue 84 = .ok (.iload_n 2, 1) := by decide +kernel
theorem dX5_takeDue_85 : decode cX5_takeDue 85 = .ok (.isub, 1) := by decide +kernel
theorem dX5_takeDue_86 : decode cX5_takeDue 86 = .ok (.ireturn, 1) := by decide +kernel
set_option maxRecDepth 20000 in
theorem ggX5_take_X4_beginRound : GoodIn wsX5_take wsX4_beginRound := goodIn_r _ [17, 18, 19, 20, 21, 22, 23, 24, 25, 26, 27, 28, 16, 29, 30, 131, 132, 133, 134, 135] (by decide +kernel) (by decide +kernel)
set_option maxRecDepth 20000 in
theorem gX5_take_X4_beginRound : GoodIn wsX5_take (wsV RX5 160 RX4 yX4_beginRound wsX4_beginRound) := goodIn_app (goodIn_of _ (by decide +kernel)) ggX5_take_X4_beginRound
set_option maxRecDepth 20000 in
theorem ggX5_take_X5_learnRate : GoodIn wsX5_take wsX5_learnRate := goodIn_r _ [35, 1, 4, 36, 37, 38, 39, 40, 12, 41, 7, 6, 42, 43, 44, 16, 45, 20, 30, 18, 21, 46, 26, 27, 28, 29, 19, 22, 23, 24, 25, 47, 48, 49, 50, 107, 108, 109, 110, 111, 112, 113, 114, 115, 116, 117, 118, 119, 120, 121, 122, 123, 124, 125, 126, 127, 128, 129, 130, 131, 132, 133, 134, 135] (by decide +kernel) (by decide +kernel)
set_option maxRecDepth 20000 in
theorem gX5_take_X5_learnRate : GoodIn wsX5_take (wsV RX5 163 RX5 yX5_learnRate wsX5_learnRate) := goodIn_app (goodIn_of _ (by decide +kernel)) ggX5_take_X5_learnRate
set_option maxRecDepth 20000 in
theorem ggX5_take_X0_follow : GoodIn wsX5_take wsX0_follow := goodIn_r _ [55, 56, 57, 58, 59, 60, 61, 62, 63, 64, 65, 54, 66, 67, 68, 69, 70, 71, 72, 73, 74, 75, 76, 77, 78, 23, 24, 25, 79, 80, 81, 34, 82, 8, 41, 83, 84, 85, 86, 87, 88, 89, 90, 91, 92, 93, 94, 95, 96, 97, 98, 99, 100, 101, 102, 103, 104, 105, 106, 136, 137, 138, 139, 140, 141, 142, 143, 144, 145, 146, 107, 108, 109, 110, 111, 112, 113, 114, 115, 116, 117, 118, 119, 120, 121, 122, 147, 148] (by decide +kernel) (by decide +kernel)
set_option maxRecDepth 20000 in
theorem gX5_take_X0_follow : GoodIn wsX5_take (wsV RX5 169 RX0 yX0_follow wsX0_follow) := goodIn_app (goodIn_of _ (by decide +kernel)) ggX5_take_X0_follow
theorem dX5_take_0 : decode cX5_take 0 = .ok (.aload_n 0, 1) := by decide +kernel
theorem dX5_take_1 : decode cX5_take 1 = .ok (.dup, 1) := by decide +kernel
theorem dX5_take_2 : decode cX5_take 2 = .ok (.getfield 78, 3) := by decide +kernel
theorem dX5_take_5 : decode cX5_take 5 = .ok (.iconst 1, 1) := by decide +kernel
theorem dX5_take_6 : decode cX5_take 6 = .ok (.iadd, 1) := by decide +kernel
theorem dX5_take_7 : decode cX5_take 7 = .ok (.putfield 78, 3) := by decide +kernel
theorem dX5_take_10 : decode cX5_take 10 = .ok (.aload_n 0, 1) := by decide +kernel
theorem dX5_take_11 : decode cX5_take 11 = .ok (.iload_n 2, 1) := by decide +kernel
theorem dX5_take_12 : decode cX5_take 12 = .ok (.putfield 98, 3) := by decide +kernel
theorem dX5_take_15 : decode cX5_take 15 = .ok (.aload_n 0, 1) := by decide +kernel
theorem dX5_take_16 : decode cX5_take 16 = .ok (.getfield 87, 3) := by decide +kernel
theorem dX5_take_19 : decode cX5_take 19 = .ok (.ifCond .le 19, 3) := by decide +kernel
theorem dX5_take_22 : decode cX5_take 22 = .ok (.aload_n 0, 1) := by decide +kernel
theorem dX5_take_23 : decode cX5_take 23 = .ok (.getfield 78, 3) := by decide +kernel
theorem dX5_take_26 : decode cX5_take 26 = .ok (.aload_n 0, 1) := by decide +kernel
theorem dX5_take_27 : decode cX5_take 27 = .ok (.getfield 87, 3) := by decide +kernel
theorem dX5_take_30 : decode cX5_take 30 = .ok (.if_icmp .le 8, 3) := by decide +kernel
theorem dX5_take_33 : decode cX5_take 33 = .ok (.aload_n 0, 1) := by decide +kernel
theorem dX5_take_34 : decode cX5_take 34 = .ok (.iconst 0, 1) := by decide +kernel
theorem dX5_take_35 : decode cX5_take 35 = .ok (.putfield 87, 3) := by decide +kernel
theorem dX5_take_38 : decode cX5_take 38 = .ok (.aload_n 1, 1) := by decide +kernel
theorem dX5_take_39 : decode cX5_take 39 = .ok (.getfield 110, 3) := by decide +kernel
theorem dX5_take_42 : decode cX5_take 42 = .ok (.aload_n 0, 1) := by decide +kernel
theorem dX5_take_43 : decode cX5_take 43 = .ok (.getfield 154, 3) := by decide +kernel
theorem dX5_take_46 : decode cX5_take 46 = .ok (.if_icmp .lt 7, 3) := by decide +kernel
theorem dX5_take_49 : decode cX5_take 49 = .ok (.iconst 1, 1) := by decide +kernel
theorem dX5_take_50 : decode cX5_take 50 = .ok (.goto 4, 3) := by decide +kernel
theorem dX5_take_53 : decode cX5_take 53 = .ok (.iconst 0, 1) := by decide +kernel
theorem dX5_take_54 : decode cX5_take 54 = .ok (.istore_n 3, 1) := by decide +kernel
theorem dX5_take_55 : decode cX5_take 55 = .ok (.iload_n 3, 1) := by decide +kernel
theorem dX5_take_56 : decode cX5_take 56 = .ok (.ifCond .eq 32, 3) := by decide +kernel
theorem dX5_take_59 : decode cX5_take 59 = .ok (.aload_n 0, 1) := by decide +kernel
theorem dX5_take_60 : decode cX5_take 60 = .ok (.dup, 1) := by decide +kernel
theorem dX5_take_61 : decode cX5_take 61 = .ok (.getfield 157, 3) := by decide +kernel
theorem dX5_take_64 : decode cX5_take 64 = .ok (.iconst 1, 1) := by decide +kernel
theorem dX5_take_65 : decode cX5_take 65 = .ok (.iadd, 1) := by decide +kernel
theorem dX5_take_66 : decode cX5_take 66 = .ok (.putfield 157, 3) := by decide +kernel
theorem dX5_take_69 : decode cX5_take 69 = .ok (.aload_n 0, 1) := by decide +kernel
theorem dX5_take_70 : decode cX5_take 70 = .ok (.aload_n 0, 1) := by decide +kernel
theorem dX5_take_71 : decode cX5_take 71 = .ok (.getfield 78, 3) := by decide +kernel
theorem dX5_take_74 : decode cX5_take 74 = .ok (.putfield 154, 3) := by decide +kernel
theorem dX5_take_77 : decode cX5_take 77 = .ok (.aload_n 0, 1) := by decide +kernel
theorem dX5_take_78 : decode cX5_take 78 = .ok (.getfield 21, 3) := by decide +kernel
theorem dX5_take_81 : decode cX5_take 81 = .ok (.aload_n 0, 1) := by decide +kernel
theorem dX5_take_82 : decode cX5_take 82 = .ok (.getfield 157, 3) := by decide +kernel
theorem dX5_take_85 : decode cX5_take 85 = .ok (.invokevirtual 160, 3) := by decide +kernel
theorem dX5_take_88 : decode cX5_take 88 = .ok (.aload_n 0, 1) := by decide +kernel
theorem dX5_take_89 : decode cX5_take 89 = .ok (.aload_n 1, 1) := by decide +kernel
theorem dX5_take_90 : decode cX5_take 90 = .ok (.iload_n 2, 1) := by decide +kernel
theorem dX5_take_91 : decode cX5_take 91 = .ok (.invokevirtual 163, 3) := by decide +kernel
theorem dX5_take_94 : decode cX5_take 94 = .ok (.aload_n 0, 1) := by decide +kernel
theorem dX5_take_95 : decode cX5_take 95 = .ok (.getfield 32, 3) := by decide +kernel
theorem dX5_take_98 : decode cX5_take 98 = .ok (.bipush (-9), 2) := by decide +kernel
theorem dX5_take_100 : decode cX5_take 100 = .ok (.if_icmp .eq 19, 3) := by decide +kernel
theorem dX5_take_103 : decode cX5_take 103 = .ok (.iload_n 2, 1) := by decide +kernel
theorem dX5_take_104 : decode cX5_take 104 = .ok (.aload_n 0, 1) := by decide +kernel
theorem dX5_take_105 : decode cX5_take 105 = .ok (.getfield 166, 3) := by decide +kernel
theorem dX5_take_108 : decode cX5_take 108 = .ok (.isub, 1) := by decide +kernel
theorem dX5_take_109 : decode cX5_take 109 = .ok (.sipush 1000, 3) := by decide +kernel
theorem dX5_take_112 : decode cX5_take 112 = .ok (.if_icmp .le 7, 3) := by decide +kernel
theorem dX5_take_115 : decode cX5_take 115 = .ok (.iconst 1, 1) := by decide +kernel
theorem dX5_take_116 : decode cX5_take 116 = .ok (.goto 4, 3) := by decide +kernel
theorem dX5_take_119 : decode cX5_take 119 = .ok (.iconst 0, 1) := by decide +kernel
theorem dX5_take_120 : decode cX5_take 120 = .ok (.istore 4, 2) := by decide +kernel
theorem dX5_take_122 : decode cX5_take 122 = .ok (.iload_n 2, 1) := by decide +kernel
theorem dX5_take_123 : decode cX5_take 123 = .ok (.aload_n 1, 1) := by decide +kernel
theorem dX5_take_124 : decode cX5_take 124 = .ok (.getfield 109, 3) := by decide +kernel
theorem dX5_take_127 : decode cX5_take 127 = .ok (.isub, 1) := by decide +kernel
theorem dX5_take_128 : decode cX5_take 128 = .ok (.istore 5, 2) := by decide +kernel
theorem dX5_take_130 : decode cX5_take 130 = .ok (.aload_n 0, 1) := by decide +kernel
theorem dX5_take_131 : decode cX5_take 131 = .ok (.getfield 32, 3) := by decide +kernel
theorem dX5_take_134 : decode cX5_take 134 = .ok (.bipush (-9), 2) := by decide +kernel
theorem dX5_take_136 : decode cX5_take 136 = .ok (.if_icmp .eq 17, 3) := by decide +kernel
theorem dX5_take_139 : decode cX5_take 139 = .ok (.iload 4, 2) := by decide +kernel
theorem dX5_take_141 : decode cX5_take 141 = .ok (.ifCond .ne 12, 3) := by decide +kernel
theorem dX5_take_144 : decode cX5_take 144 = .ok (.iload 5, 2) := by decide +kernel
theorem dX5_take_146 : decode cX5_take 146 = .ok (.aload_n 0, 1) := by decide +kernel
theorem dX5_take_147 : decode cX5_take 147 = .ok (.getfield 32, 3) := by decide +kernel
theorem dX5_take_150 : decode cX5_take 150 = .ok (.if_icmp .gt 14, 3) := by decide +kernel
theorem dX5_take_153 : decode cX5_take 153 = .ok (.aload_n 0, 1) := by decide +kernel
theorem dX5_take_154 : decode cX5_take 154 = .ok (.iload 5, 2) := by decide +kernel
theorem dX5_take_156 : decode cX5_take 156 = .ok (.putfield 32, 3) := by decide +kernel
theorem dX5_take_159 : decode cX5_take 159 = .ok (.aload_n 0, 1) := by decide +kernel
theorem dX5_take_160 : decode cX5_take 160 = .ok (.iload_n 2, 1) := by decide +kernel
theorem dX5_take_161 : decode cX5_take 161 = .ok (.putfield 166, 3) := by decide +kernel
theorem dX5_take_164 : decode cX5_take 164 = .ok (.aload_n 0, 1) := by decide +kernel
theorem dX5_take_165 : decode cX5_take 165 = .ok (.getfield 28, 3) := by decide +kernel
theorem dX5_take_168 : decode cX5_take 168 = .ok (.aload_n 0, 1) := by decide +kernel
theorem dX5_take_169 : decode cX5_take 169 = .ok (.iload_n 2, 1) := by decide +kernel
theorem dX5_take_170 : decode cX5_take 170 = .ok (.iload_n 3, 1) := by decide +kernel
theorem dX5_take_171 : decode cX5_take 171 = .ok (.ifCond .eq 14, 3) := by decide +kernel
theorem dX5_take_174 : decode cX5_take 174 = .ok (.aload_n 1, 1) := by decide +kernel
theorem dX5_take_175 : decode cX5_take 175 = .ok (.getfield 112, 3) := by decide +kernel
theorem dX5_take_178 : decode cX5_take 178 = .ok (.ifCond .ne 7, 3) := by decide +kernel
theorem dX5_take_181 : decode cX5_take 181 = .ok (.iconst 1, 1) := by decide +kernel
theorem dX5_take_182 : decode cX5_take 182 = .ok (.goto 4, 3) := by decide +kernel
theorem dX5_take_185 : decode cX5_take 185 = .ok (.iconst 0, 1) := by decide +kernel
theorem dX5_take_186 : decode cX5_take 186 = .ok (.iload 4, 2) := by decide +kernel
theorem dX5_take_188 : decode cX5_take 188 = .ok (.invokevirtual 169, 3) := by decide +kernel
theorem dX5_take_191 : decode cX5_take 191 = .ok (.return_, 1) := by decide +kernel
set_option maxRecDepth 20000 in
theorem ggX5_learnRate_X4_keep : GoodIn wsX5_learnRate wsX4_keep := goodIn_r _ [16, 17, 18, 19, 20, 21, 5, 6, 7, 22, 23, 24, 15, 25, 26, 27, 28, 29, 30, 59, 60, 61, 62, 63] (by decide +kernel) (by decide +kernel)
set_option maxRecDepth 20000 in
theorem gX5_learnRate_X4_keep : GoodIn wsX5_learnRate (wsV RX5 173 RX4 yX4_keep wsX4_keep) := goodIn_app (goodIn_of _ (by decide +kernel)) ggX5_learnRate_X4_keep
set_option maxRecDepth 20000 in
theorem ggX5_learnRate_X4_greatestOfAll : GoodIn wsX5_learnRate wsX4_greatestOfAll := goodIn_r _ [34, 20, 21, 5, 6, 7, 59, 60, 61, 62, 63] (by decide +kernel) (by decide +kernel)
set_option maxRecDepth 20000 in
theorem gX5_learnRate_X4_greatestOfAll : GoodIn wsX5_learnRate (wsV RX5 177 RX4 yX4_greatestOfAll wsX4_greatestOfAll) := goodIn_app (goodIn_of _ (by decide +kernel)) ggX5_learnRate_X4_greatestOfAll
theorem dX5_learnRate_0 : decode cX5_learnRate 0 = .ok (.sipush 1000, 3) := by decide +kernel
theorem dX5_learnRate_3 : decode cX5_learnRate 3 = .ok (.aload_n 0, 1) := by decide +kernel
theorem dX5_learnRate_4 : decode cX5_learnRate 4 = .ok (.getfield 78, 3) := by decide +kernel
theorem dX5_learnRate_7 : decode cX5_learnRate 7 = .ok (.aload_n 1, 1) := by decide +kernel
theorem dX5_learnRate_8 : decode cX5_learnRate 8 = .ok (.getfield 110, 3) := by decide +kernel
theorem dX5_learnRate_11 : decode cX5_learnRate 11 = .ok (.isub, 1) := by decide +kernel
theorem dX5_learnRate_12 : decode cX5_learnRate 12 = .ok (.imul, 1) := by decide +kernel
theorem dX5_learnRate_13 : decode cX5_learnRate 13 = .ok (.iconst 1, 1) := by decide +kernel
theorem dX5_learnRate_14 : decode cX5_learnRate 14 = .ok (.iload_n 2, 1) := by decide +kernel
theorem dX5_learnRate_15 : decode cX5_learnRate 15 = .ok (.aload_n 1, 1) := by decide +kernel
theorem dX5_learnRate_16 : decode cX5_learnRate 16 = .ok (.getfield 111, 3) := by decide +kernel
theorem dX5_learnRate_19 : decode cX5_learnRate 19 = .ok (.isub, 1) := by decide +kernel
theorem dX5_learnRate_20 : decode cX5_learnRate 20 = .ok (.invokestatic 84, 3) := by decide +kernel
theorem dX5_learnRate_23 : decode cX5_learnRate 23 = .ok (.idiv, 1) := by decide +kernel
theorem dX5_learnRate_24 : decode cX5_learnRate 24 = .ok (.istore_n 3, 1) := by decide +kernel
theorem dX5_learnRate_25 : decode cX5_learnRate 25 = .ok (.aload_n 1, 1) := by decide +kernel
theorem dX5_learnRate_26 : decode cX5_learnRate 26 = .ok (.getfield 112, 3) := by decide +kernel
theorem dX5_learnRate_29 : decode cX5_learnRate 29 = .ok (.ifCond .eq 11, 3) := by decide +kernel
theorem dX5_learnRate_32 : decode cX5_learnRate 32 = .ok (.iload_n 3, 1) := by decide +kernel
theorem dX5_learnRate_33 : decode cX5_learnRate 33 = .ok (.aload_n 0, 1) := by decide +kernel
theorem dX5_learnRate_34 : decode cX5_learnRate 34 = .ok (.getfield 36, 3) := by decide +kernel
theorem dX5_learnRate_37 : decode cX5_learnRate 37 = .ok (.if_icmp .lt 15, 3) := by decide +kernel
theorem dX5_learnRate_40 : decode cX5_learnRate 40 = .ok (.aload_n 0, 1) := by decide +kernel
theorem dX5_learnRate_41 : decode cX5_learnRate 41 = .ok (.getfield 21, 3) := by decide +kernel
theorem dX5_learnRate_44 : decode cX5_learnRate 44 = .ok (.aload_n 0, 1) := by decide +kernel
theorem dX5_learnRate_45 : decode cX5_learnRate 45 = .ok (.getfield 157, 3) := by decide +kernel
theorem dX5_learnRate_48 : decode cX5_learnRate 48 = .ok (.iload_n 3, 1) := by decide +kernel
theorem dX5_learnRate_49 : decode cX5_learnRate 49 = .ok (.invokevirtual 173, 3) := by decide +kernel
theorem dX5_learnRate_52 : decode cX5_learnRate 52 = .ok (.aload_n 0, 1) := by decide +kernel
theorem dX5_learnRate_53 : decode cX5_learnRate 53 = .ok (.aload_n 0, 1) := by decide +kernel
theorem dX5_learnRate_54 : decode cX5_learnRate 54 = .ok (.getfield 21, 3) := by decide +kernel
theorem dX5_learnRate_57 : decode cX5_learnRate 57 = .ok (.invokevirtual 177, 3) := by decide +kernel
theorem dX5_learnRate_60 : decode cX5_learnRate 60 = .ok (.putfield 36, 3) := by decide +kernel
theorem dX5_learnRate_63 : decode cX5_learnRate 63 = .ok (.return_, 1) := by decide +kernel
set_option maxRecDepth 20000 in
theorem ggX6_init_X1_init : GoodIn wsX6_init wsX1_init := goodIn_r _ [14, 15, 2, 3, 16, 17, 18, 19, 20, 21, 22, 23, 24, 25, 26, 27, 28, 64, 65, 66, 67, 68, 69, 70, 71, 72, 73, 74, 75, 98, 99, 100, 101, 102, 103, 104, 105] (by decide +kernel) (by decide +kernel)
set_option maxRecDepth 20000 in
theorem gX6_init_X1_init_n13 : GoodIn wsX6_init (wsX1_init) := ggX6_init_X1_init
set_option maxRecDepth 20000 in
theorem ggX6_init_X5_init : GoodIn wsX6_init wsX5_init := goodIn_r _ [30, 31, 2, 3, 32, 33, 34, 35, 36, 37, 38, 39, 40, 41, 42, 43, 44, 45, 46, 47, 48, 49, 50, 51, 52, 53, 54, 55, 56, 57, 58, 59, 60, 61, 62, 63, 106, 107, 82, 83, 84, 85, 86, 87, 88, 89, 90, 91, 92, 93, 94, 95, 96, 97, 108, 109, 110, 111, 112, 113, 114, 115, 116, 117, 118, 119, 120, 121, 122, 123] (by decide +kernel) (by decide +kernel)
set_option maxRecDepth 20000 in
theorem gX6_init_X5_init_n20 : GoodIn wsX6_init (wsX5_init) := ggX6_init_X5_init
theorem dX6_init_0 : decode cX6_init 0 = .ok (.aload_n 0, 1) := by decide +kernel
theorem dX6_init_1 : decode cX6_init 1 = .ok (.invokespecial 5, 3) := by decide +kernel
theorem dX6_init_4 : decode cX6_init 4 = .ok (.aload_n 0, 1) := by decide +kernel
theorem dX6_init_5 : decode cX6_init 5 = .ok (.new 11, 3) := by decide +kernel
theorem dX6_init_8 : decode cX6_init 8 = .ok (.dup, 1) := by decide +kernel
theorem dX6_init_9 : decode cX6_init 9 = .ok (.invokespecial 13, 3) := by decide +kernel
theorem dX6_init_12 : decode cX6_init 12 = .ok (.putfield 14, 3) := by decide +kernel
theorem dX6_init_15 : decode cX6_init 15 = .ok (.aload_n 0, 1) := by decide +kernel
theorem dX6_init_16 : decode cX6_init 16 = .ok (.new 18, 3) := by decide +kernel
theorem dX6_init_19 : decode cX6_init 19 = .ok (.dup, 1) := by decide +kernel
theorem dX6_init_20 : decode cX6_init 20 = .ok (.invokespecial 20, 3) := by decide +kernel
theorem dX6_init_23 : decode cX6_init 23 = .ok (.putfield 21, 3) := by decide +kernel
theorem dX6_init_26 : decode cX6_init 26 = .ok (.aload_n 0, 1) := by decide +kernel
theorem dX6_init_27 : decode cX6_init 27 = .ok (.new 18, 3) := by decide +kernel
theorem dX6_init_30 : decode cX6_init 30 = .ok (.dup, 1) := by decide +kernel
theorem dX6_init_31 : decode cX6_init 31 = .ok (.invokespecial 20, 3) := by decide +kernel
theorem dX6_init_34 : decode cX6_init 34 = .ok (.putfield 25, 3) := by decide +kernel
theorem dX6_init_37 : decode cX6_init 37 = .ok (.return_, 1) := by decide +kernel
set_option maxRecDepth 20000 in
theorem ggX6_gate_X6_within : GoodIn wsX6_gate wsX6_within := goodIn_r _ [8] (by decide +kernel) (by decide +kernel)
set_option maxRecDepth 20000 in
theorem gX6_gate_X6_within : GoodIn wsX6_gate (va_wsS RX6 28 yX6_within wsX6_within) := goodIn_app (goodIn_of _ (by decide +kernel)) ggX6_gate_X6_within
theorem dX6_gate_0 : decode cX6_gate 0 = .ok (.iload_n 1, 1) := by decide +kernel
theorem dX6_gate_1 : decode cX6_gate 1 = .ok (.iconst 1, 1) := by decide +kernel
theorem dX6_gate_2 : decode cX6_gate 2 = .ok (.bipush 40, 2) := by decide +kernel
theorem dX6_gate_4 : decode cX6_gate 4 = .ok (.invokestatic 28, 3) := by decide +kernel
theorem dX6_gate_7 : decode cX6_gate 7 = .ok (.ifCond .eq 24, 3) := by decide +kernel
theorem dX6_gate_10 : decode cX6_gate 10 = .ok (.iload_n 2, 1) := by decide +kernel
theorem dX6_gate_11 : decode cX6_gate 11 = .ok (.iconst 1, 1) := by decide +kernel
theorem dX6_gate_12 : decode cX6_gate 12 = .ok (.bipush 60, 2) := by decide +kernel
theorem dX6_gate_14 : decode cX6_gate 14 = .ok (.invokestatic 28, 3) := by decide +kernel
theorem dX6_gate_17 : decode cX6_gate 17 = .ok (.ifCond .eq 14, 3) := by decide +kernel
theorem dX6_gate_20 : decode cX6_gate 20 = .ok (.iload_n 3, 1) := by decide +kernel
theorem dX6_gate_21 : decode cX6_gate 21 = .ok (.iconst 1, 1) := by decide +kernel
theorem dX6_gate_22 : decode cX6_gate 22 = .ok (.sipush 200, 3) := by decide +kernel
theorem dX6_gate_25 : decode cX6_gate 25 = .ok (.invokestatic 28, 3) := by decide +kernel
theorem dX6_gate_28 : decode cX6_gate 28 = .ok (.ifCond .ne 6, 3) := by decide +kernel
theorem dX6_gate_31 : decode cX6_gate 31 = .ok (.bipush (-2), 2) := by decide +kernel
theorem dX6_gate_33 : decode cX6_gate 33 = .ok (.ireturn, 1) := by decide +kernel
theorem dX6_gate_34 : decode cX6_gate 34 = .ok (.aload_n 0, 1) := by decide +kernel
theorem dX6_gate_35 : decode cX6_gate 35 = .ok (.getfield 14, 3) := by decide +kernel
theorem dX6_gate_38 : decode cX6_gate 38 = .ok (.iload_n 1, 1) := by decide +kernel
theorem dX6_gate_39 : decode cX6_gate 39 = .ok (.putfield 32, 3) := by decide +kernel
theorem dX6_gate_42 : decode cX6_gate 42 = .ok (.aload_n 0, 1) := by decide +kernel
theorem dX6_gate_43 : decode cX6_gate 43 = .ok (.getfield 14, 3) := by decide +kernel
theorem dX6_gate_46 : decode cX6_gate 46 = .ok (.iload_n 2, 1) := by decide +kernel
theorem dX6_gate_47 : decode cX6_gate 47 = .ok (.putfield 36, 3) := by decide +kernel
theorem dX6_gate_50 : decode cX6_gate 50 = .ok (.aload_n 0, 1) := by decide +kernel
theorem dX6_gate_51 : decode cX6_gate 51 = .ok (.getfield 14, 3) := by decide +kernel
theorem dX6_gate_54 : decode cX6_gate 54 = .ok (.iload_n 3, 1) := by decide +kernel
theorem dX6_gate_55 : decode cX6_gate 55 = .ok (.putfield 39, 3) := by decide +kernel
theorem dX6_gate_58 : decode cX6_gate 58 = .ok (.iconst 1, 1) := by decide +kernel
theorem dX6_gate_59 : decode cX6_gate 59 = .ok (.ireturn, 1) := by decide +kernel
set_option maxRecDepth 20000 in
theorem ggX6_guests_X6_within : GoodIn wsX6_guests wsX6_within := goodIn_r _ [5] (by decide +kernel) (by decide +kernel)
set_option maxRecDepth 20000 in
theorem gX6_guests_X6_within : GoodIn wsX6_guests (va_wsS RX6 28 yX6_within wsX6_within) := goodIn_app (goodIn_of _ (by decide +kernel)) ggX6_guests_X6_within
theorem dX6_guests_0 : decode cX6_guests 0 = .ok (.iload_n 1, 1) := by decide +kernel
theorem dX6_guests_1 : decode cX6_guests 1 = .ok (.iconst 0, 1) := by decide +kernel
theorem dX6_guests_2 : decode cX6_guests 2 = .ok (.sipush 200, 3) := by decide +kernel
theorem dX6_guests_5 : decode cX6_guests 5 = .ok (.invokestatic 28, 3) := by decide +kernel
theorem dX6_guests_8 : decode cX6_guests 8 = .ok (.ifCond .ne 6, 3) := by decide +kernel
theorem dX6_guests_11 : decode cX6_guests 11 = .ok (.bipush (-2), 2) := by decide +kernel
theorem dX6_guests_13 : decode cX6_guests 13 = .ok (.ireturn, 1) := by decide +kernel
theorem dX6_guests_14 : decode cX6_guests 14 = .ok (.aload_n 0, 1) := by decide +kernel
theorem dX6_guests_15 : decode cX6_guests 15 = .ok (.getfield 42, 3) := by decide +kernel
theorem dX6_guests_18 : decode cX6_guests 18 = .ok (.istore_n 2, 1) := by decide +kernel
theorem dX6_guests_19 : decode cX6_guests 19 = .ok (.aload_n 0, 1) := by decide +kernel
theorem dX6_guests_20 : decode cX6_guests 20 = .ok (.iload_n 1, 1) := by decide +kernel
theorem dX6_guests_21 : decode cX6_guests 21 = .ok (.putfield 42, 3) := by decide +kernel
theorem dX6_guests_24 : decode cX6_guests 24 = .ok (.iload_n 2, 1) := by decide +kernel
theorem dX6_guests_25 : decode cX6_guests 25 = .ok (.ireturn, 1) := by decide +kernel
set_option maxRecDepth 20000 in
theorem ggX6_stock_X6_senderOf : GoodIn wsX6_stock wsX6_senderOf := goodIn_r _ [7, 8, 9, 29, 30, 31, 32, 33, 34] (by decide +kernel) (by decide +kernel)
set_option maxRecDepth 20000 in
theorem gX6_stock_X6_senderOf : GoodIn wsX6_stock (wsV RX6 45 RX6 yX6_senderOf wsX6_senderOf) := goodIn_app (goodIn_of _ (by decide +kernel)) ggX6_stock_X6_senderOf
set_option maxRecDepth 20000 in
theorem ggX6_stock_X6_within : GoodIn wsX6_stock wsX6_within := goodIn_r _ [12] (by decide +kernel) (by decide +kernel)
set_option maxRecDepth 20000 in
theorem gX6_stock_X6_within : GoodIn wsX6_stock (va_wsS RX6 28 yX6_within wsX6_within) := goodIn_app (goodIn_of _ (by decide +kernel)) ggX6_stock_X6_within
theorem dX6_stock_0 : decode cX6_stock 0 = .ok (.aload_n 0, 1) := by decide +kernel
theorem dX6_stock_1 : decode cX6_stock 1 = .ok (.iload_n 1, 1) := by decide +kernel
theorem dX6_stock_2 : decode cX6_stock 2 = .ok (.invokevirtual 45, 3) := by decide +kernel
theorem dX6_stock_5 : decode cX6_stock 5 = .ok (.astore_n 3, 1) := by decide +kernel
theorem dX6_stock_6 : decode cX6_stock 6 = .ok (.aload_n 3, 1) := by decide +kernel
theorem dX6_stock_7 : decode cX6_stock 7 = .ok (.ifnonnull 5, 3) := by decide +kernel
theorem dX6_stock_10 : decode cX6_stock 10 = .ok (.iconst (-1), 1) := by decide +kernel
theorem dX6_stock_11 : decode cX6_stock 11 = .ok (.ireturn, 1) := by decide +kernel
theorem dX6_stock_12 : decode cX6_stock 12 = .ok (.iload_n 2, 1) := by decide +kernel
theorem dX6_stock_13 : decode cX6_stock 13 = .ok (.iconst 1, 1) := by decide +kernel
theorem dX6_stock_14 : decode cX6_stock 14 = .ok (.sipush 5000, 3) := by decide +kernel
theorem dX6_stock_17 : decode cX6_stock 17 = .ok (.invokestatic 28, 3) := by decide +kernel
theorem dX6_stock_20 : decode cX6_stock 20 = .ok (.ifCond .ne 6, 3) := by decide +kernel
theorem dX6_stock_23 : decode cX6_stock 23 = .ok (.bipush (-2), 2) := by decide +kernel
theorem dX6_stock_25 : decode cX6_stock 25 = .ok (.ireturn, 1) := by decide +kernel
theorem dX6_stock_26 : decode cX6_stock 26 = .ok (.aload_n 3, 1) := by decide +kernel
theorem dX6_stock_27 : decode cX6_stock 27 = .ok (.getfield 49, 3) := by decide +kernel
theorem dX6_stock_30 : decode cX6_stock 30 = .ok (.iload_n 2, 1) := by decide +kernel
theorem dX6_stock_31 : decode cX6_stock 31 = .ok (.iadd, 1) := by decide +kernel
theorem dX6_stock_32 : decode cX6_stock 32 = .ok (.ldc 52, 2) := by decide +kernel
theorem dX6_stock_34 : decode cX6_stock 34 = .ok (.if_icmp .le 6, 3) := by decide +kernel
theorem dX6_stock_37 : decode cX6_stock 37 = .ok (.bipush (-4), 2) := by decide +kernel
theorem dX6_stock_39 : decode cX6_stock 39 = .ok (.ireturn, 1) := by decide +kernel
theorem dX6_stock_40 : decode cX6_stock 40 = .ok (.aload_n 3, 1) := by decide +kernel
theorem dX6_stock_41 : decode cX6_stock 41 = .ok (.dup, 1) := by decide +kernel
theorem dX6_stock_42 : decode cX6_stock 42 = .ok (.getfield 49, 3) := by decide +kernel
theorem dX6_stock_45 : decode cX6_stock 45 = .ok (.iload_n 2, 1) := by decide +kernel
theorem dX6_stock_46 : decode cX6_stock 46 = .ok (.iadd, 1) := by decide +kernel
theorem dX6_stock_47 : decode cX6_stock 47 = .ok (.putfield 49, 3) := by decide +kernel
theorem dX6_stock_50 : decode cX6_stock 50 = .ok (.aload_n 3, 1) := by decide +kernel
theorem dX6_stock_51 : decode cX6_stock 51 = .ok (.getfield 49, 3) := by decide +kernel
theorem dX6_stock_54 : decode cX6_stock 54 = .ok (.ireturn, 1) := by decide +kernel
set_option maxRecDepth 20000 in
theorem ggX6_pass_X6_within : GoodIn wsX6_pass wsX6_within := goodIn_r _ [4] (by decide +kernel) (by decide +kernel)
set_option maxRecDepth 20000 in
theorem gX6_pass_X6_within : GoodIn wsX6_pass (va_wsS RX6 28 yX6_within wsX6_within) := goodIn_app (goodIn_of _ (by decide +kernel)) ggX6_pass_X6_within
set_option maxRecDepth 20000 in
theorem ggX6_pass_X6_runTick : GoodIn wsX6_pass wsX6_runTick := goodIn_r _ [8, 9, 10, 11, 12, 13, 14, 15, 16, 17, 18, 19, 20, 21, 22, 23, 24, 25, 26, 27, 28, 29, 30, 31, 32, 33, 34, 35, 36, 37, 38, 39, 40, 41, 42, 43, 44, 45, 46, 47, 48, 49, 50, 51, 52, 53, 54, 55, 56, 57, 58, 59, 60, 61, 62, 63, 64, 65, 66, 67, 68, 69, 70, 71, 72, 73, 74, 75, 76, 77, 78, 79, 80, 81, 82, 83, 84, 85, 86, 87, 88, 89, 90, 91, 92, 93, 94, 95, 96, 97, 98, 99, 100, 101, 102, 103, 104, 105, 106, 107, 108, 109, 110, 111, 112, 113, 114, 115, 116, 117, 118, 119, 120, 121, 122, 123, 124, 125, 126, 127, 128, 129, 130, 131, 132, 133, 134, 135, 136, 137, 138, 139, 140, 141, 142, 143, 144, 145, 146, 147, 148, 149, 150, 151, 152, 153, 154, 155, 156, 157, 158, 159, 160, 161, 162, 163, 164, 165, 166, 167, 168, 169, 170, 171, 172, 173, 174, 175, 176, 177, 178, 179, 180, 181, 182, 183, 184, 185, 186, 187, 188, 189, 190, 191, 192, 193, 194, 195, 196, 197, 198, 199, 200, 201, 202, 203, 204, 205, 206, 207, 208, 209, 210, 211, 212, 213, 214, 215, 216, 217, 218, 219, 220, 221, 222, 223, 224, 225, 226, 227, 228, 229, 230, 231, 232, 233, 234, 235, 236, 237, 238, 239, 240, 241, 242, 243, 244, 245, 246, 247, 248, 249, 250, 251, 252, 253, 254, 255, 256, 257, 258, 259, 260, 261, 262, 263, 264, 265, 266, 267, 268, 269, 270, 271, 272, 273, 274, 275, 276, 277, 278, 279, 280, 281, 282, 283, 284, 285, 286, 287, 288, 289, 290, 291, 292, 293, 294, 295, 296, 297, 298, 299, 300, 301, 302] (by decide +kernel) (by decide +kernel)
set_option maxRecDepth 20000 in
theorem gX6_pass_X6_runTick : GoodIn wsX6_pass (wsV RX6 53 RX6 yX6_runTick wsX6_runTick) := goodIn_app (goodIn_of _ (by decide +kernel)) ggX6_pass_X6_runTick
theorem dX6_pass_0 : decode cX6_pass 0 = .ok (.iload_n 1, 1) := by decide +kernel
theorem dX6_pass_1 : decode cX6_pass 1 = .ok (.iconst 1, 1) := by decide +kernel
theorem dX6_pass_2 : decode cX6_pass 2 = .ok (.sipush 2000, 3) := by decide +kernel
theorem dX6_pass_5 : decode cX6_pass 5 = .ok (.invokestatic 28, 3) := by decide +kernel
theorem dX6_pass_8 : decode cX6_pass 8 = .ok (.ifCond .ne 6, 3) := by decide +kernel
theorem dX6_pass_11 : decode cX6_pass 11 = .ok (.bipush (-2), 2) := by decide +kernel
theorem dX6_pass_13 : decode cX6_pass 13 = .ok (.ireturn, 1) := by decide +kernel
theorem dX6_pass_14 : decode cX6_pass 14 = .ok (.iconst 0, 1) := by decide +kernel
theorem dX6_pass_15 : decode cX6_pass 15 = .ok (.istore_n 2, 1) := by decide +kernel
theorem dX6_pass_16 : decode cX6_pass 16 = .ok (.iconst 0, 1) := by decide +kernel
theorem dX6_pass_17 : decode cX6_pass 17 = .ok (.istore_n 3, 1) := by decide +kernel
theorem dX6_pass_18 : decode cX6_pass 18 = .ok (.iload_n 3, 1) := by decide +kernel
theorem dX6_pass_19 : decode cX6_pass 19 = .ok (.iload_n 1, 1) := by decide +kernel
theorem dX6_pass_20 : decode cX6_pass 20 = .ok (.if_icmp .ge 16, 3) := by decide +kernel
theorem dX6_pass_23 : decode cX6_pass 23 = .ok (.iload_n 2, 1) := by decide +kernel
theorem dX6_pass_24 : decode cX6_pass 24 = .ok (.aload_n 0, 1) := by decide +kernel
theorem dX6_pass_25 : decode cX6_pass 25 = .ok (.invokevirtual 53, 3) := by decide +kernel
theorem dX6_pass_28 : decode cX6_pass 28 = .ok (.iadd, 1) := by decide +kernel
theorem dX6_pass_29 : decode cX6_pass 29 = .ok (.istore_n 2, 1) := by decide +kernel
theorem dX6_pass_30 : decode cX6_pass 30 = .ok (.iinc 3 1, 3) := by decide +kernel
theorem dX6_pass_33 : decode cX6_pass 33 = .ok (.goto (-15), 3) := by decide +kernel
theorem dX6_pass_36 : decode cX6_pass 36 = .ok (.iload_n 2, 1) := by decide +kernel
theorem dX6_pass_37 : decode cX6_pass 37 = .ok (.ireturn, 1) := by decide +kernel
set_option maxRecDepth 20000 in
theorem ggX6_ofGate_X6_asNumber : GoodIn wsX6_ofGate wsX6_asNumber := goodIn_r _ [13] (by decide +kernel) (by decide +kernel)
set_option maxRecDepth 20000 in
theorem gX6_ofGate_X6_asNumber : GoodIn wsX6_ofGate (va_wsS RX6 64 yX6_asNumber wsX6_asNumber) := goodIn_app (goodIn_of _ (by decide +kernel)) ggX6_ofGate_X6_asNumber
theorem dX6_ofGate_0 : decode cX6_ofGate 0 = .ok (.iload_n 1, 1) := by decide +kernel
theorem dX6_ofGate_1 : decode cX6_ofGate 1 = .ok (.tableswitch 110 0 6 #[43, 51, 70, 78, 86, 94, 102], 43) := by decide +kernel
theorem dX6_ofGate_44 : decode cX6_ofGate 44 = .ok (.aload_n 0, 1) := by decide +kernel
theorem dX6_ofGate_45 : decode cX6_ofGate 45 = .ok (.getfield 14, 3) := by decide +kernel
theorem dX6_ofGate_48 : decode cX6_ofGate 48 = .ok (.getfield 57, 3) := by decide +kernel
theorem dX6_ofGate_51 : decode cX6_ofGate 51 = .ok (.ireturn, 1) := by decide +kernel
theorem dX6_ofGate_52 : decode cX6_ofGate 52 = .ok (.aload_n 0, 1) := by decide +kernel
theorem dX6_ofGate_53 : decode cX6_ofGate 53 = .ok (.getfield 14, 3) := by decide +kernel
theorem dX6_ofGate_56 : decode cX6_ofGate 56 = .ok (.getfield 60, 3) := by decide +kernel
theorem dX6_ofGate_59 : decode cX6_ofGate 59 = .ok (.ifnull 7, 3) := by decide +kernel
theorem dX6_ofGate_62 : decode cX6_ofGate 62 = .ok (.iconst 1, 1) := by decide +kernel
theorem dX6_ofGate_63 : decode cX6_ofGate 63 = .ok (.goto 4, 3) := by decide +kernel
theorem dX6_ofGate_66 : decode cX6_ofGate 66 = .ok (.iconst 0, 1) := by decide +kernel
theorem dX6_ofGate_67 : decode cX6_ofGate 67 = .ok (.invokestatic 64, 3) := by decide +kernel
theorem dX6_ofGate_70 : decode cX6_ofGate 70 = .ok (.ireturn, 1) := by decide +kernel
theorem dX6_ofGate_71 : decode cX6_ofGate 71 = .ok (.aload_n 0, 1) := by decide +kernel
theorem dX6_ofGate_72 : decode cX6_ofGate 72 = .ok (.getfield 21, 3) := by decide +kernel
theorem dX6_ofGate_75 : decode cX6_ofGate 75 = .ok (.getfield 68, 3) := by decide +kernel
theorem dX6_ofGate_78 : decode cX6_ofGate 78 = .ok (.ireturn, 1) := by decide +kernel
theorem dX6_ofGate_79 : decode cX6_ofGate 79 = .ok (.aload_n 0, 1) := by decide +kernel
theorem dX6_ofGate_80 : decode cX6_ofGate 80 = .ok (.getfield 25, 3) := by decide +kernel
theorem dX6_ofGate_83 : decode cX6_ofGate 83 = .ok (.getfield 68, 3) := by decide +kernel
theorem dX6_ofGate_86 : decode cX6_ofGate 86 = .ok (.ireturn, 1) := by decide +kernel
theorem dX6_ofGate_87 : decode cX6_ofGate 87 = .ok (.aload_n 0, 1) := by decide +kernel
theorem dX6_ofGate_88 : decode cX6_ofGate 88 = .ok (.getfield 14, 3) := by decide +kernel
theorem dX6_ofGate_91 : decode cX6_ofGate 91 = .ok (.getfield 71, 3) := by decide +kernel
theorem dX6_ofGate_94 : decode cX6_ofGate 94 = .ok (.ireturn, 1) := by decide +kernel
theorem dX6_ofGate_95 : decode cX6_ofGate 95 = .ok (.aload_n 0, 1) := by decide +kernel
theorem dX6_ofGate_96 : decode cX6_ofGate 96 = .ok (.getfield 14, 3) := by decide +kernel
theorem dX6_ofGate_99 : decode cX6_ofGate 99 = .ok (.getfield 74, 3) := by decide +kernel
theorem dX6_ofGate_102 : decode cX6_ofGate 102 = .ok (.ireturn, 1) := by decide +kernel
theorem dX6_ofGate_103 : decode cX6_ofGate 103 = .ok (.aload_n 0, 1) := by decide +kernel
theorem dX6_ofGate_104 : decode cX6_ofGate 104 = .ok (.getfield 14, 3) := by decide +kernel
theorem dX6_ofGate_107 : decode cX6_ofGate 107 = .ok (.getfield 77, 3) := by decide +kernel
theorem dX6_ofGate_110 : decode cX6_ofGate 110 = .ok (.ireturn, 1) := by decide +kernel
theorem dX6_ofGate_111 : decode cX6_ofGate 111 = .ok (.bipush (-2), 2) := by decide +kernel
theorem dX6_ofGate_113 : decode cX6_ofGate 113 = .ok (.ireturn, 1) := by decide +kernel
set_option maxRecDepth 20000 in
theorem ggX6_busy_X6_within : GoodIn wsX6_busy wsX6_within := goodIn_r _ [7] (by decide +kernel) (by decide +kernel)
set_option maxRecDepth 20000 in
theorem gX6_busy_X6_within : GoodIn wsX6_busy (va_wsS RX6 28 yX6_within wsX6_within) := goodIn_app (goodIn_of _ (by decide +kernel)) ggX6_busy_X6_within
set_option maxRecDepth 20000 in
theorem ggX6_busy_X6_greatestDivisor : GoodIn wsX6_busy wsX6_greatestDivisor := goodIn_r _ [10] (by decide +kernel) (by decide +kernel)
set_option maxRecDepth 20000 in
theorem gX6_busy_X6_greatestDivisor : GoodIn wsX6_busy (va_wsS RX6 88 yX6_greatestDivisor wsX6_greatestDivisor) := goodIn_app (goodIn_of _ (by decide +kernel)) ggX6_busy_X6_greatestDivisor
theorem dX6_busy_0 : decode cX6_busy 0 = .ok (.iload_n 1, 1) := by decide +kernel
theorem dX6_busy_1 : decode cX6_busy 1 = .ok (.iconst 0, 1) := by decide +kernel
theorem dX6_busy_2 : decode cX6_busy 2 = .ok (.iconst 1, 1) := by decide +kernel
theorem dX6_busy_3 : decode cX6_busy 3 = .ok (.invokestatic 28, 3) := by decide +kernel
theorem dX6_busy_6 : decode cX6_busy 6 = .ok (.ifCond .ne 7, 3) := by decide +kernel
theorem dX6_busy_9 : decode cX6_busy 9 = .ok (.ldc2_w 80, 3) := by decide +kernel
theorem dX6_busy_12 : decode cX6_busy 12 = .ok (.lreturn, 1) := by decide +kernel
theorem dX6_busy_13 : decode cX6_busy 13 = .ok (.aload_n 0, 1) := by decide +kernel
theorem dX6_busy_14 : decode cX6_busy 14 = .ok (.getfield 82, 3) := by decide +kernel
theorem dX6_busy_17 : decode cX6_busy 17 = .ok (.aload_n 0, 1) := by decide +kernel
theorem dX6_busy_18 : decode cX6_busy 18 = .ok (.getfield 85, 3) := by decide +kernel
theorem dX6_busy_21 : decode cX6_busy 21 = .ok (.invokestatic 88, 3) := by decide +kernel
theorem dX6_busy_24 : decode cX6_busy 24 = .ok (.istore_n 2, 1) := by decide +kernel
theorem dX6_busy_25 : decode cX6_busy 25 = .ok (.iload_n 2, 1) := by decide +kernel
theorem dX6_busy_26 : decode cX6_busy 26 = .ok (.ifCond .ne 6, 3) := by decide +kernel
theorem dX6_busy_29 : decode cX6_busy 29 = .ok (.iload_n 1, 1) := by decide +kernel
theorem dX6_busy_30 : decode cX6_busy 30 = .ok (.i2l, 1) := by decide +kernel
theorem dX6_busy_31 : decode cX6_busy 31 = .ok (.lreturn, 1) := by decide +kernel
theorem dX6_busy_32 : decode cX6_busy 32 = .ok (.iload_n 1, 1) := by decide +kernel
theorem dX6_busy_33 : decode cX6_busy 33 = .ok (.ifCond .ne 10, 3) := by decide +kernel
theorem dX6_busy_36 : decode cX6_busy 36 = .ok (.aload_n 0, 1) := by decide +kernel
theorem dX6_busy_37 : decode cX6_busy 37 = .ok (.getfield 82, 3) := by decide +kernel
theorem dX6_busy_40 : decode cX6_busy 40 = .ok (.goto 7, 3) := by decide +kernel
theorem dX6_busy_43 : decode cX6_busy 43 = .ok (.aload_n 0, 1) := by decide +kernel
theorem dX6_busy_44 : decode cX6_busy 44 = .ok (.getfield 85, 3) := by decide +kernel
theorem dX6_busy_47 : decode cX6_busy 47 = .ok (.iload_n 2, 1) := by decide +kernel
theorem dX6_busy_48 : decode cX6_busy 48 = .ok (.idiv, 1) := by decide +kernel
theorem dX6_busy_49 : decode cX6_busy 49 = .ok (.i2l, 1) := by decide +kernel
theorem dX6_busy_50 : decode cX6_busy 50 = .ok (.lreturn, 1) := by decide +kernel
set_option maxRecDepth 20000 in
theorem ggX6_ofSender_X6_senderOf : GoodIn wsX6_ofSender wsX6_senderOf := goodIn_r _ [24, 25, 26, 84, 85, 86, 87, 88, 89] (by decide +kernel) (by decide +kernel)
set_option maxRecDepth 20000 in
theorem gX6_ofSender_X6_senderOf : GoodIn wsX6_ofSender (wsV RX6 45 RX6 yX6_senderOf wsX6_senderOf) := goodIn_app (goodIn_of _ (by decide +kernel)) ggX6_ofSender_X6_senderOf
set_option maxRecDepth 20000 in
theorem ggX6_ofSender_X5_product : GoodIn wsX6_ofSender wsX5_product := goodIn_r _ [31, 32, 33, 34, 55, 56, 57, 58, 59, 60, 61, 62, 63, 64, 65, 66, 67, 68, 69, 70] (by decide +kernel) (by decide +kernel)
set_option maxRecDepth 20000 in
theorem gX6_ofSender_X5_product : GoodIn wsX6_ofSender (wsV RX6 119 RX5 yX5_product wsX5_product) := goodIn_app (goodIn_of _ (by decide +kernel)) ggX6_ofSender_X5_product
set_option maxRecDepth 20000 in
theorem ggX6_ofSender_X5_window : GoodIn wsX6_ofSender wsX5_window := goodIn_r _ [38, 39, 40, 41, 33, 32, 42, 43, 44, 45, 46, 17, 18, 19, 47, 28, 29, 30, 31, 34, 55, 56, 57, 58, 59, 60, 61, 62, 63, 64, 65, 66, 67, 68, 69, 70, 71, 72, 73, 74, 75, 76, 77, 78, 79, 80, 81] (by decide +kernel) (by decide +kernel)
set_option maxRecDepth 20000 in
theorem gX6_ofSender_X5_window : GoodIn wsX6_ofSender (wsV RX6 123 RX5 yX5_window wsX5_window) := goodIn_app (goodIn_of _ (by decide +kernel)) ggX6_ofSender_X5_window
set_option maxRecDepth 20000 in
theorem ggX6_ofSender_X0_gain : GoodIn wsX6_ofSender wsX0_gain := goodIn_r _ [52, 53, 54, 71, 72, 73, 74, 75, 76, 77, 78, 79, 80, 81] (by decide +kernel) (by decide +kernel)
set_option maxRecDepth 20000 in
theorem gX6_ofSender_X0_gain : GoodIn wsX6_ofSender (wsV RX6 126 RX0 yX0_gain wsX0_gain) := goodIn_app (goodIn_of _ (by decide +kernel)) ggX6_ofSender_X0_gain
theorem dX6_ofSender_0 : decode cX6_ofSender 0 = .ok (.aload_n 0, 1) := by decide +kernel
theorem dX6_ofSender_1 : decode cX6_ofSender 1 = .ok (.iload_n 1, 1) := by decide +kernel
theorem dX6_ofSender_2 : decode cX6_ofSender 2 = .ok (.invokevirtual 45, 3) := by decide +kernel
theorem dX6_ofSender_5 : decode cX6_ofSender 5 = .ok (.astore_n 3, 1) := by decide +kernel
theorem dX6_ofSender_6 : decode cX6_ofSender 6 = .ok (.aload_n 3, 1) := by decide +kernel
theorem dX6_ofSender_7 : decode cX6_ofSender 7 = .ok (.ifnonnull 5, 3) := by decide +kernel
theorem dX6_ofSender_10 : decode cX6_ofSender 10 = .ok (.iconst (-1), 1) := by decide +kernel
theorem dX6_ofSender_11 : decode cX6_ofSender 11 = .ok (.ireturn, 1) := by decide +kernel
theorem dX6_ofSender_12 : decode cX6_ofSender 12 = .ok (.iload_n 2, 1) := by decide +kernel
theorem dX6_ofSender_13 : decode cX6_ofSender 13 = .ok (.tableswitch 167 0 13 #[71, 79, 87, 92, 97, 102, 108, 114, 122, 127, 132, 137, 142, 147], 71) := by decide +kernel
theorem dX6_ofSender_84 : decode cX6_ofSender 84 = .ok (.aload_n 3, 1) := by decide +kernel
theorem dX6_ofSender_85 : decode cX6_ofSender 85 = .ok (.getfield 92, 3) := by decide +kernel
theorem dX6_ofSender_88 : decode cX6_ofSender 88 = .ok (.getfield 96, 3) := by decide +kernel
theorem dX6_ofSender_91 : decode cX6_ofSender 91 = .ok (.ireturn, 1) := by decide +kernel
theorem dX6_ofSender_92 : decode cX6_ofSender 92 = .ok (.aload_n 3, 1) := by decide +kernel
theorem dX6_ofSender_93 : decode cX6_ofSender 93 = .ok (.getfield 101, 3) := by decide +kernel
theorem dX6_ofSender_96 : decode cX6_ofSender 96 = .ok (.getfield 105, 3) := by decide +kernel
theorem dX6_ofSender_99 : decode cX6_ofSender 99 = .ok (.ireturn, 1) := by decide +kernel
theorem dX6_ofSender_100 : decode cX6_ofSender 100 = .ok (.aload_n 3, 1) := by decide +kernel
theorem dX6_ofSender_101 : decode cX6_ofSender 101 = .ok (.getfield 110, 3) := by decide +kernel
theorem dX6_ofSender_104 : decode cX6_ofSender 104 = .ok (.ireturn, 1) := by decide +kernel
theorem dX6_ofSender_105 : decode cX6_ofSender 105 = .ok (.aload_n 3, 1) := by decide +kernel
theorem dX6_ofSender_106 : decode cX6_ofSender 106 = .ok (.getfield 113, 3) := by decide +kernel
theorem dX6_ofSender_109 : decode cX6_ofSender 109 = .ok (.ireturn, 1) := by decide +kernel
theorem dX6_ofSender_110 : decode cX6_ofSender 110 = .ok (.aload_n 3, 1) := by decide +kernel
theorem dX6_ofSender_111 : decode cX6_ofSender 111 = .ok (.getfield 116, 3) := by decide +kernel
theorem dX6_ofSender_114 : decode cX6_ofSender 114 = .ok (.ireturn, 1) := by decide +kernel
theorem dX6_ofSender_115 : decode cX6_ofSender 115 = .ok (.aload_n 3, 1) := by decide +kernel
theorem dX6_ofSender_116 : decode cX6_ofSender 116 = .ok (.invokevirtual 119, 3) := by decide +kernel
theorem dX6_ofSender_119 : decode cX6_ofSender 119 = .ok (.l2i, 1) := by decide +kernel
theorem dX6_ofSender_120 : decode cX6_ofSender 120 = .ok (.ireturn, 1) := by decide +kernel
theorem dX6_ofSender_121 : decode cX6_ofSender 121 = .ok (.aload_n 3, 1) := by decide +kernel
theorem dX6_ofSender_122 : decode cX6_ofSender 122 = .ok (.invokevirtual 123, 3) := by decide +kernel
theorem dX6_ofSender_125 : decode cX6_ofSender 125 = .ok (.l2i, 1) := by decide +kernel
theorem dX6_ofSender_126 : decode cX6_ofSender 126 = .ok (.ireturn, 1) := by decide +kernel
theorem dX6_ofSender_127 : decode cX6_ofSender 127 = .ok (.aload_n 3, 1) := by decide +kernel
theorem dX6_ofSender_128 : decode cX6_ofSender 128 = .ok (.getfield 92, 3) := by decide +kernel
theorem dX6_ofSender_131 : decode cX6_ofSender 131 = .ok (.invokevirtual 126, 3) := by decide +kernel
theorem dX6_ofSender_134 : decode cX6_ofSender 134 = .ok (.ireturn, 1) := by decide +kernel
theorem dX6_ofSender_135 : decode cX6_ofSender 135 = .ok (.aload_n 3, 1) := by decide +kernel
theorem dX6_ofSender_136 : decode cX6_ofSender 136 = .ok (.getfield 129, 3) := by decide +kernel
theorem dX6_ofSender_139 : decode cX6_ofSender 139 = .ok (.ireturn, 1) := by decide +kernel
theorem dX6_ofSender_140 : decode cX6_ofSender 140 = .ok (.aload_n 3, 1) := by decide +kernel
theorem dX6_ofSender_141 : decode cX6_ofSender 141 = .ok (.getfield 132, 3) := by decide +kernel
theorem dX6_ofSender_144 : decode cX6_ofSender 144 = .ok (.ireturn, 1) := by decide +kernel
theorem dX6_ofSender_145 : decode cX6_ofSender 145 = .ok (.aload_n 3, 1) := by decide +kernel
theorem dX6_ofSender_146 : decode cX6_ofSender 146 = .ok (.getfield 49, 3) := by decide +kernel
theorem dX6_ofSender_149 : decode cX6_ofSender 149 = .ok (.ireturn, 1) := by decide +kernel
theorem dX6_ofSender_150 : decode cX6_ofSender 150 = .ok (.aload_n 3, 1) := by decide +kernel
theorem dX6_ofSender_151 : decode cX6_ofSender 151 = .ok (.getfield 135, 3) := by decide +kernel
theorem dX6_ofSender_154 : decode cX6_ofSender 154 = .ok (.ireturn, 1) := by decide +kernel
theorem dX6_ofSender_155 : decode cX6_ofSender 155 = .ok (.aload_n 3, 1) := by decide +kernel
theorem dX6_ofSender_156 : decode cX6_ofSender 156 = .ok (.getfield 138, 3) := by decide +kernel
theorem dX6_ofSender_159 : decode cX6_ofSender 159 = .ok (.ireturn, 1) := by decide +kernel
theorem dX6_ofSender_160 : decode cX6_ofSender 160 = .ok (.lconst 0, 1) := by decide +kernel
theorem dX6_ofSender_161 : decode cX6_ofSender 161 = .ok (.aload_n 3, 1) := by decide +kernel
theorem dX6_ofSender_162 : decode cX6_ofSender 162 = .ok (.getfield 141, 3) := by decide +kernel
theorem dX6_ofSender_165 : decode cX6_ofSender 165 = .ok (.ldc2_w 145, 3) := by decide +kernel
theorem dX6_ofSender_168 : decode cX6_ofSender 168 = .ok (.aload_n 0, 1) := by decide +kernel
theorem dX6_ofSender_169 : decode cX6_ofSender 169 = .ok (.getfield 85, 3) := by decide +kernel
theorem dX6_ofSender_172 : decode cX6_ofSender 172 = .ok (.i2l, 1) := by decide +kernel
theorem dX6_ofSender_173 : decode cX6_ofSender 173 = .ok (.lmul, 1) := by decide +kernel
theorem dX6_ofSender_174 : decode cX6_ofSender 174 = .ok (.lsub, 1) := by decide +kernel
theorem dX6_ofSender_175 : decode cX6_ofSender 175 = .ok (.invokestatic 147, 3) := by decide +kernel
theorem dX6_ofSender_178 : decode cX6_ofSender 178 = .ok (.l2i, 1) := by decide +kernel
theorem dX6_ofSender_179 : decode cX6_ofSender 179 = .ok (.ireturn, 1) := by decide +kernel
theorem dX6_ofSender_180 : decode cX6_ofSender 180 = .ok (.bipush (-2), 2) := by decide +kernel
theorem dX6_ofSender_182 : decode cX6_ofSender 182 = .ok (.ireturn, 1) := by decide +kernel
set_option maxRecDepth 20000 in
theorem ggX6_sample_X6_senderOf : GoodIn wsX6_sample wsX6_senderOf := goodIn_r _ [8, 9, 10, 55, 56, 57, 58, 59, 60] (by decide +kernel) (by decide +kernel)
set_option maxRecDepth 20000 in
theorem gX6_sample_X6_senderOf : GoodIn wsX6_sample (wsV RX6 45 RX6 yX6_senderOf wsX6_senderOf) := goodIn_app (goodIn_of _ (by decide +kernel)) ggX6_sample_X6_senderOf
set_option maxRecDepth 20000 in
theorem ggX6_sample_X6_within : GoodIn wsX6_sample wsX6_within := goodIn_r _ [13] (by decide +kernel) (by decide +kernel)
set_option maxRecDepth 20000 in
theorem gX6_sample_X6_within : GoodIn wsX6_sample (va_wsS RX6 28 yX6_within wsX6_within) := goodIn_app (goodIn_of _ (by decide +kernel)) ggX6_sample_X6_within
set_option maxRecDepth 20000 in
theorem ggX6_sample_X4_roundsOf : GoodIn wsX6_sample wsX4_roundsOf := goodIn_r _ [18, 19, 20, 21, 22, 23, 50, 51, 52, 53, 54] (by decide +kernel) (by decide +kernel)
set_option maxRecDepth 20000 in
theorem gX6_sample_X4_roundsOf : GoodIn wsX6_sample (wsV RX6 160 RX4 yX4_roundsOf wsX4_roundsOf) := goodIn_app (goodIn_of _ (by decide +kernel)) ggX6_sample_X4_roundsOf
set_option maxRecDepth 20000 in
theorem ggX6_sample_X4_rateOf : GoodIn wsX6_sample wsX4_rateOf := goodIn_r _ [27, 28, 29, 30, 31, 17, 32, 33, 50, 51, 52, 53, 54] (by decide +kernel) (by decide +kernel)
set_option maxRecDepth 20000 in
theorem gX6_sample_X4_rateOf : GoodIn wsX6_sample (wsV RX6 163 RX4 yX4_rateOf wsX4_rateOf) := goodIn_app (goodIn_of _ (by decide +kernel)) ggX6_sample_X4_rateOf
theorem dX6_sample_0 : decode cX6_sample 0 = .ok (.aload_n 0, 1) := by decide +kernel
theorem dX6_sample_1 : decode cX6_sample 1 = .ok (.iload_n 1, 1) := by decide +kernel
theorem dX6_sample_2 : decode cX6_sample 2 = .ok (.invokevirtual 45, 3) := by decide +kernel
theorem dX6_sample_5 : decode cX6_sample 5 = .ok (.astore 4, 2) := by decide +kernel
theorem dX6_sample_7 : decode cX6_sample 7 = .ok (.aload 4, 2) := by decide +kernel
theorem dX6_sample_9 : decode cX6_sample 9 = .ok (.ifnull 21, 3) := by decide +kernel
theorem dX6_sample_12 : decode cX6_sample 12 = .ok (.iload_n 2, 1) := by decide +kernel
theorem dX6_sample_13 : decode cX6_sample 13 = .ok (.iconst 0, 1) := by decide +kernel
theorem dX6_sample_14 : decode cX6_sample 14 = .ok (.aload 4, 2) := by decide +kernel
theorem dX6_sample_16 : decode cX6_sample 16 = .ok (.getfield 153, 3) := by decide +kernel
theorem dX6_sample_19 : decode cX6_sample 19 = .ok (.getfield 157, 3) := by decide +kernel
theorem dX6_sample_22 : decode cX6_sample 22 = .ok (.iconst 1, 1) := by decide +kernel
theorem dX6_sample_23 : decode cX6_sample 23 = .ok (.isub, 1) := by decide +kernel
theorem dX6_sample_24 : decode cX6_sample 24 = .ok (.invokestatic 28, 3) := by decide +kernel
theorem dX6_sample_27 : decode cX6_sample 27 = .ok (.ifCond .ne 5, 3) := by decide +kernel
theorem dX6_sample_30 : decode cX6_sample 30 = .ok (.iconst (-1), 1) := by decide +kernel
theorem dX6_sample_31 : decode cX6_sample 31 = .ok (.ireturn, 1) := by decide +kernel
theorem dX6_sample_32 : decode cX6_sample 32 = .ok (.iload_n 3, 1) := by decide +kernel
theorem dX6_sample_33 : decode cX6_sample 33 = .ok (.lookupswitch 52 #[(0, 27), (1, 42)], 27) := by decide +kernel
theorem dX6_sample_60 : decode cX6_sample 60 = .ok (.aload 4, 2) := by decide +kernel
theorem dX6_sample_62 : decode cX6_sample 62 = .ok (.getfield 153, 3) := by decide +kernel
theorem dX6_sample_65 : decode cX6_sample 65 = .ok (.iload_n 2, 1) := by decide +kernel
theorem dX6_sample_66 : decode cX6_sample 66 = .ok (.aload 4, 2) := by decide +kernel
theorem dX6_sample_68 : decode cX6_sample 68 = .ok (.getfield 129, 3) := by decide +kernel
theorem dX6_sample_71 : decode cX6_sample 71 = .ok (.invokevirtual 160, 3) := by decide +kernel
theorem dX6_sample_74 : decode cX6_sample 74 = .ok (.ireturn, 1) := by decide +kernel
theorem dX6_sample_75 : decode cX6_sample 75 = .ok (.aload 4, 2) := by decide +kernel
theorem dX6_sample_77 : decode cX6_sample 77 = .ok (.getfield 153, 3) := by decide +kernel
theorem dX6_sample_80 : decode cX6_sample 80 = .ok (.iload_n 2, 1) := by decide +kernel
theorem dX6_sample_81 : decode cX6_sample 81 = .ok (.invokevirtual 163, 3) := by decide +kernel
theorem dX6_sample_84 : decode cX6_sample 84 = .ok (.ireturn, 1) := by decide +kernel
theorem dX6_sample_85 : decode cX6_sample 85 = .ok (.bipush (-2), 2) := by decide +kernel
theorem dX6_sample_87 : decode cX6_sample 87 = .ok (.ireturn, 1) := by decide +kernel
set_option maxRecDepth 20000 in
theorem ggX6_best_X6_senderOf : GoodIn wsX6_best wsX6_senderOf := goodIn_r _ [7, 8, 9, 44, 45, 46, 47, 48, 49] (by decide +kernel) (by decide +kernel)
set_option maxRecDepth 20000 in
theorem gX6_best_X6_senderOf : GoodIn wsX6_best (wsV RX6 45 RX6 yX6_senderOf wsX6_senderOf) := goodIn_app (goodIn_of _ (by decide +kernel)) ggX6_best_X6_senderOf
set_option maxRecDepth 20000 in
theorem ggX6_best_X6_within : GoodIn wsX6_best wsX6_within := goodIn_r _ [12] (by decide +kernel) (by decide +kernel)
set_option maxRecDepth 20000 in
theorem gX6_best_X6_within : GoodIn wsX6_best (va_wsS RX6 28 yX6_within wsX6_within) := goodIn_app (goodIn_of _ (by decide +kernel)) ggX6_best_X6_within
set_option maxRecDepth 20000 in
theorem ggX6_best_X4_greatestOfLast : GoodIn wsX6_best wsX4_greatestOfLast := goodIn_r _ [17, 18, 19, 20, 21, 22, 23, 24, 25, 26, 27, 50, 51, 52, 53, 54] (by decide +kernel) (by decide +kernel)
set_option maxRecDepth 20000 in
theorem gX6_best_X4_greatestOfLast : GoodIn wsX6_best (wsV RX6 167 RX4 yX4_greatestOfLast wsX4_greatestOfLast) := goodIn_app (goodIn_of _ (by decide +kernel)) ggX6_best_X4_greatestOfLast
theorem dX6_best_0 : decode cX6_best 0 = .ok (.aload_n 0, 1) := by decide +kernel
theorem dX6_best_1 : decode cX6_best 1 = .ok (.iload_n 1, 1) := by decide +kernel
theorem dX6_best_2 : decode cX6_best 2 = .ok (.invokevirtual 45, 3) := by decide +kernel
theorem dX6_best_5 : decode cX6_best 5 = .ok (.astore_n 3, 1) := by decide +kernel
theorem dX6_best_6 : decode cX6_best 6 = .ok (.aload_n 3, 1) := by decide +kernel
theorem dX6_best_7 : decode cX6_best 7 = .ok (.ifnonnull 5, 3) := by decide +kernel
theorem dX6_best_10 : decode cX6_best 10 = .ok (.iconst (-1), 1) := by decide +kernel
theorem dX6_best_11 : decode cX6_best 11 = .ok (.ireturn, 1) := by decide +kernel
theorem dX6_best_12 : decode cX6_best 12 = .ok (.iload_n 2, 1) := by decide +kernel
theorem dX6_best_13 : decode cX6_best 13 = .ok (.iconst 1, 1) := by decide +kernel
theorem dX6_best_14 : decode cX6_best 14 = .ok (.bipush 10, 2) := by decide +kernel
theorem dX6_best_16 : decode cX6_best 16 = .ok (.invokestatic 28, 3) := by decide +kernel
theorem dX6_best_19 : decode cX6_best 19 = .ok (.ifCond .ne 6, 3) := by decide +kernel
theorem dX6_best_22 : decode cX6_best 22 = .ok (.bipush (-2), 2) := by decide +kernel
theorem dX6_best_24 : decode cX6_best 24 = .ok (.ireturn, 1) := by decide +kernel
theorem dX6_best_25 : decode cX6_best 25 = .ok (.aload_n 3, 1) := by decide +kernel
theorem dX6_best_26 : decode cX6_best 26 = .ok (.getfield 153, 3) := by decide +kernel
theorem dX6_best_29 : decode cX6_best 29 = .ok (.iload_n 2, 1) := by decide +kernel
theorem dX6_best_30 : decode cX6_best 30 = .ok (.aload_n 3, 1) := by decide +kernel
theorem dX6_best_31 : decode cX6_best 31 = .ok (.getfield 129, 3) := by decide +kernel
theorem dX6_best_34 : decode cX6_best 34 = .ok (.invokevirtual 167, 3) := by decide +kernel
theorem dX6_best_37 : decode cX6_best 37 = .ok (.ireturn, 1) := by decide +kernel
set_option maxRecDepth 20000 in
theorem ggX6_letter_X6_senderOf : GoodIn wsX6_letter wsX6_senderOf := goodIn_r _ [10, 11, 12, 47, 48, 49, 50, 51, 52] (by decide +kernel) (by decide +kernel)
set_option maxRecDepth 20000 in
theorem gX6_letter_X6_senderOf : GoodIn wsX6_letter (wsV RX6 45 RX6 yX6_senderOf wsX6_senderOf) := goodIn_app (goodIn_of _ (by decide +kernel)) ggX6_letter_X6_senderOf
set_option maxRecDepth 20000 in
theorem ggX6_letter_X3_at : GoodIn wsX6_letter wsX3_at := goodIn_r _ [17, 18, 19, 53, 54] (by decide +kernel) (by decide +kernel)
set_option maxRecDepth 20000 in
theorem gX6_letter_X3_at : GoodIn wsX6_letter (wsV RX6 170 RX3 yX3_at wsX3_at) := goodIn_app (goodIn_of _ (by decide +kernel)) ggX6_letter_X3_at
set_option maxRecDepth 20000 in
theorem ggX6_letter_X6_asNumber : GoodIn wsX6_letter wsX6_asNumber := goodIn_r _ [22] (by decide +kernel) (by decide +kernel)
set_option maxRecDepth 20000 in
theorem gX6_letter_X6_asNumber : GoodIn wsX6_letter (va_wsS RX6 64 yX6_asNumber wsX6_asNumber) := goodIn_app (goodIn_of _ (by decide +kernel)) ggX6_letter_X6_asNumber
theorem dX6_letter_0 : decode cX6_letter 0 = .ok (.aload_n 0, 1) := by decide +kernel
theorem dX6_letter_1 : decode cX6_letter 1 = .ok (.iload_n 1, 1) := by decide +kernel
theorem dX6_letter_2 : decode cX6_letter 2 = .ok (.invokevirtual 45, 3) := by decide +kernel
theorem dX6_letter_5 : decode cX6_letter 5 = .ok (.astore 4, 2) := by decide +kernel
theorem dX6_letter_7 : decode cX6_letter 7 = .ok (.aload 4, 2) := by decide +kernel
theorem dX6_letter_9 : decode cX6_letter 9 = .ok (.ifnonnull 7, 3) := by decide +kernel
theorem dX6_letter_12 : decode cX6_letter 12 = .ok (.aconst_null, 1) := by decide +kernel
theorem dX6_letter_13 : decode cX6_letter 13 = .ok (.goto 12, 3) := by decide +kernel
theorem dX6_letter_16 : decode cX6_letter 16 = .ok (.aload 4, 2) := by decide +kernel
theorem dX6_letter_18 : decode cX6_letter 18 = .ok (.getfield 101, 3) := by decide +kernel
theorem dX6_letter_21 : decode cX6_letter 21 = .ok (.iload_n 2, 1) := by decide +kernel
theorem dX6_letter_22 : decode cX6_letter 22 = .ok (.invokevirtual 170, 3) := by decide +kernel
theorem dX6_letter_25 : decode cX6_letter 25 = .ok (.astore 5, 2) := by decide +kernel
theorem dX6_letter_27 : decode cX6_letter 27 = .ok (.aload 5, 2) := by decide +kernel
theorem dX6_letter_29 : decode cX6_letter 29 = .ok (.ifnonnull 5, 3) := by decide +kernel
theorem dX6_letter_32 : decode cX6_letter 32 = .ok (.iconst (-1), 1) := by decide +kernel
theorem dX6_letter_33 : decode cX6_letter 33 = .ok (.ireturn, 1) := by decide +kernel
theorem dX6_letter_34 : decode cX6_letter 34 = .ok (.iload_n 3, 1) := by decide +kernel
theorem dX6_letter_35 : decode cX6_letter 35 = .ok (.tableswitch 59 0 3 #[29, 35, 41, 50], 29) := by decide +kernel
theorem dX6_letter_64 : decode cX6_letter 64 = .ok (.aload 5, 2) := by decide +kernel
theorem dX6_letter_66 : decode cX6_letter 66 = .ok (.getfield 174, 3) := by decide +kernel
theorem dX6_letter_69 : decode cX6_letter 69 = .ok (.ireturn, 1) := by decide +kernel
theorem dX6_letter_70 : decode cX6_letter 70 = .ok (.aload 5, 2) := by decide +kernel
theorem dX6_letter_72 : decode cX6_letter 72 = .ok (.getfield 179, 3) := by decide +kernel
theorem dX6_letter_75 : decode cX6_letter 75 = .ok (.ireturn, 1) := by decide +kernel
theorem dX6_letter_76 : decode cX6_letter 76 = .ok (.aload 5, 2) := by decide +kernel
theorem dX6_letter_78 : decode cX6_letter 78 = .ok (.getfield 180, 3) := by decide +kernel
theorem dX6_letter_81 : decode cX6_letter 81 = .ok (.invokestatic 64, 3) := by decide +kernel
theorem dX6_letter_84 : decode cX6_letter 84 = .ok (.ireturn, 1) := by decide +kernel
theorem dX6_letter_85 : decode cX6_letter 85 = .ok (.aload 5, 2) := by decide +kernel
theorem dX6_letter_87 : decode cX6_letter 87 = .ok (.getfield 184, 3) := by decide +kernel
theorem dX6_letter_90 : decode cX6_letter 90 = .ok (.invokestatic 64, 3) := by decide +kernel
theorem dX6_letter_93 : decode cX6_letter 93 = .ok (.ireturn, 1) := by decide +kernel
theorem dX6_letter_94 : decode cX6_letter 94 = .ok (.bipush (-2), 2) := by decide +kernel
theorem dX6_letter_96 : decode cX6_letter 96 = .ok (.ireturn, 1) := by decide +kernel
set_option maxRecDepth 20000 in
theorem ggX6_phase_X6_senderOf : GoodIn wsX6_phase wsX6_senderOf := goodIn_r _ [10, 11, 12, 43, 44, 45, 46, 47, 48] (by decide +kernel) (by decide +kernel)
set_option maxRecDepth 20000 in
theorem gX6_phase_X6_senderOf : GoodIn wsX6_phase (wsV RX6 45 RX6 yX6_senderOf wsX6_senderOf) := goodIn_app (goodIn_of _ (by decide +kernel)) ggX6_phase_X6_senderOf
set_option maxRecDepth 20000 in
theorem ggX6_phase_X6_within : GoodIn wsX6_phase wsX6_within := goodIn_r _ [15] (by decide +kernel) (by decide +kernel)
set_option maxRecDepth 20000 in
theorem gX6_phase_X6_within : GoodIn wsX6_phase (va_wsS RX6 28 yX6_within wsX6_within) := goodIn_app (goodIn_of _ (by decide +kernel)) ggX6_phase_X6_within
theorem dX6_phase_0 : decode cX6_phase 0 = .ok (.aload_n 0, 1) := by decide +kernel
theorem dX6_phase_1 : decode cX6_phase 1 = .ok (.iload_n 1, 1) := by decide +kernel
theorem dX6_phase_2 : decode cX6_phase 2 = .ok (.invokevirtual 45, 3) := by decide +kernel
theorem dX6_phase_5 : decode cX6_phase 5 = .ok (.astore_n 3, 1) := by decide +kernel
theorem dX6_phase_6 : decode cX6_phase 6 = .ok (.aload_n 3, 1) := by decide +kernel
theorem dX6_phase_7 : decode cX6_phase 7 = .ok (.ifnonnull 5, 3) := by decide +kernel
theorem dX6_phase_10 : decode cX6_phase 10 = .ok (.iconst (-1), 1) := by decide +kernel
theorem dX6_phase_11 : decode cX6_phase 11 = .ok (.ireturn, 1) := by decide +kernel
theorem dX6_phase_12 : decode cX6_phase 12 = .ok (.iload_n 2, 1) := by decide +kernel
theorem dX6_phase_13 : decode cX6_phase 13 = .ok (.iconst 0, 1) := by decide +kernel
theorem dX6_phase_14 : decode cX6_phase 14 = .ok (.iconst 1, 1) := by decide +kernel
theorem dX6_phase_15 : decode cX6_phase 15 = .ok (.invokestatic 28, 3) := by decide +kernel
theorem dX6_phase_18 : decode cX6_phase 18 = .ok (.ifCond .ne 6, 3) := by decide +kernel
theorem dX6_phase_21 : decode cX6_phase 21 = .ok (.bipush (-2), 2) := by decide +kernel
theorem dX6_phase_23 : decode cX6_phase 23 = .ok (.ireturn, 1) := by decide +kernel
theorem dX6_phase_24 : decode cX6_phase 24 = .ok (.aload_n 3, 1) := by decide +kernel
theorem dX6_phase_25 : decode cX6_phase 25 = .ok (.getfield 92, 3) := by decide +kernel
theorem dX6_phase_28 : decode cX6_phase 28 = .ok (.astore 4, 2) := by decide +kernel
theorem dX6_phase_30 : decode cX6_phase 30 = .ok (.aload 4, 2) := by decide +kernel
theorem dX6_phase_32 : decode cX6_phase 32 = .ok (.getfield 96, 3) := by decide +kernel
theorem dX6_phase_35 : decode cX6_phase 35 = .ok (.iconst 2, 1) := by decide +kernel
theorem dX6_phase_36 : decode cX6_phase 36 = .ok (.if_icmp .eq 6, 3) := by decide +kernel
theorem dX6_phase_39 : decode cX6_phase 39 = .ok (.bipush (-9), 2) := by decide +kernel
theorem dX6_phase_41 : decode cX6_phase 41 = .ok (.ireturn, 1) := by decide +kernel
theorem dX6_phase_42 : decode cX6_phase 42 = .ok (.iload_n 2, 1) := by decide +kernel
theorem dX6_phase_43 : decode cX6_phase 43 = .ok (.ifCond .ne 11, 3) := by decide +kernel
theorem dX6_phase_46 : decode cX6_phase 46 = .ok (.aload 4, 2) := by decide +kernel
theorem dX6_phase_48 : decode cX6_phase 48 = .ok (.getfield 187, 3) := by decide +kernel
theorem dX6_phase_51 : decode cX6_phase 51 = .ok (.goto 13, 3) := by decide +kernel
theorem dX6_phase_54 : decode cX6_phase 54 = .ok (.aload_n 0, 1) := by decide +kernel
theorem dX6_phase_55 : decode cX6_phase 55 = .ok (.getfield 85, 3) := by decide +kernel
theorem dX6_phase_58 : decode cX6_phase 58 = .ok (.aload 4, 2) := by decide +kernel
theorem dX6_phase_60 : decode cX6_phase 60 = .ok (.getfield 190, 3) := by decide +kernel
theorem dX6_phase_63 : decode cX6_phase 63 = .ok (.isub, 1) := by decide +kernel
theorem dX6_phase_64 : decode cX6_phase 64 = .ok (.ireturn, 1) := by decide +kernel
set_option maxRecDepth 20000 in
theorem ggX6_model_X6_senderOf : GoodIn wsX6_model wsX6_senderOf := goodIn_r _ [11, 12, 13, 55, 56, 57, 58, 59, 60] (by decide +kernel) (by decide +kernel)
set_option maxRecDepth 20000 in
theorem gX6_model_X6_senderOf : GoodIn wsX6_model (wsV RX6 45 RX6 yX6_senderOf wsX6_senderOf) := goodIn_app (goodIn_of _ (by decide +kernel)) ggX6_model_X6_senderOf
set_option maxRecDepth 20000 in
theorem ggX6_model_X6_asNumber : GoodIn wsX6_model wsX6_asNumber := goodIn_r _ [16] (by decide +kernel) (by decide +kernel)
set_option maxRecDepth 20000 in
theorem gX6_model_X6_asNumber : GoodIn wsX6_model (va_wsS RX6 64 yX6_asNumber wsX6_asNumber) := goodIn_app (goodIn_of _ (by decide +kernel)) ggX6_model_X6_asNumber
set_option maxRecDepth 20000 in
theorem ggX6_model_X0_ticksToEnd : GoodIn wsX6_model wsX0_ticksToEnd := goodIn_r _ [21, 22, 23, 24, 25, 26, 27, 44, 45, 46, 47, 48, 49, 50, 51, 52, 53, 54] (by decide +kernel) (by decide +kernel)
set_option maxRecDepth 20000 in
theorem gX6_model_X0_ticksToEnd : GoodIn wsX6_model (wsV RX6 205 RX0 yX0_ticksToEnd wsX0_ticksToEnd) := goodIn_app (goodIn_of _ (by decide +kernel)) ggX6_model_X0_ticksToEnd
theorem dX6_model_0 : decode cX6_model 0 = .ok (.aload_n 0, 1) := by decide +kernel
theorem dX6_model_1 : decode cX6_model 1 = .ok (.iload_n 1, 1) := by decide +kernel
theorem dX6_model_2 : decode cX6_model 2 = .ok (.invokevirtual 45, 3) := by decide +kernel
theorem dX6_model_5 : decode cX6_model 5 = .ok (.astore_n 3, 1) := by decide +kernel
theorem dX6_model_6 : decode cX6_model 6 = .ok (.aload_n 3, 1) := by decide +kernel
theorem dX6_model_7 : decode cX6_model 7 = .ok (.ifnonnull 5, 3) := by decide +kernel
theorem dX6_model_10 : decode cX6_model 10 = .ok (.iconst (-1), 1) := by decide +kernel
theorem dX6_model_11 : decode cX6_model 11 = .ok (.ireturn, 1) := by decide +kernel
theorem dX6_model_12 : decode cX6_model 12 = .ok (.iload_n 2, 1) := by decide +kernel
theorem dX6_model_13 : decode cX6_model 13 = .ok (.tableswitch 84 0 4 #[35, 46, 54, 62, 72], 35) := by decide +kernel
theorem dX6_model_48 : decode cX6_model 48 = .ok (.aload_n 3, 1) := by decide +kernel
theorem dX6_model_49 : decode cX6_model 49 = .ok (.getfield 92, 3) := by decide +kernel
theorem dX6_model_52 : decode cX6_model 52 = .ok (.getfield 193, 3) := by decide +kernel
theorem dX6_model_55 : decode cX6_model 55 = .ok (.invokestatic 64, 3) := by decide +kernel
theorem dX6_model_58 : decode cX6_model 58 = .ok (.ireturn, 1) := by decide +kernel
theorem dX6_model_59 : decode cX6_model 59 = .ok (.aload_n 3, 1) := by decide +kernel
theorem dX6_model_60 : decode cX6_model 60 = .ok (.getfield 92, 3) := by decide +kernel
theorem dX6_model_63 : decode cX6_model 63 = .ok (.getfield 196, 3) := by decide +kernel
theorem dX6_model_66 : decode cX6_model 66 = .ok (.ireturn, 1) := by decide +kernel
theorem dX6_model_67 : decode cX6_model 67 = .ok (.aload_n 3, 1) := by decide +kernel
theorem dX6_model_68 : decode cX6_model 68 = .ok (.getfield 92, 3) := by decide +kernel
theorem dX6_model_71 : decode cX6_model 71 = .ok (.getfield 199, 3) := by decide +kernel
theorem dX6_model_74 : decode cX6_model 74 = .ok (.ireturn, 1) := by decide +kernel
theorem dX6_model_75 : decode cX6_model 75 = .ok (.aload_n 0, 1) := by decide +kernel
theorem dX6_model_76 : decode cX6_model 76 = .ok (.getfield 85, 3) := by decide +kernel
theorem dX6_model_79 : decode cX6_model 79 = .ok (.aload_n 3, 1) := by decide +kernel
theorem dX6_model_80 : decode cX6_model 80 = .ok (.getfield 202, 3) := by decide +kernel
theorem dX6_model_83 : decode cX6_model 83 = .ok (.isub, 1) := by decide +kernel
theorem dX6_model_84 : decode cX6_model 84 = .ok (.ireturn, 1) := by decide +kernel
theorem dX6_model_85 : decode cX6_model 85 = .ok (.aload_n 3, 1) := by decide +kernel
theorem dX6_model_86 : decode cX6_model 86 = .ok (.getfield 92, 3) := by decide +kernel
theorem dX6_model_89 : decode cX6_model 89 = .ok (.aload_n 0, 1) := by decide +kernel
theorem dX6_model_90 : decode cX6_model 90 = .ok (.getfield 85, 3) := by decide +kernel
theorem dX6_model_93 : decode cX6_model 93 = .ok (.invokevirtual 205, 3) := by decide +kernel
theorem dX6_model_96 : decode cX6_model 96 = .ok (.ireturn, 1) := by decide +kernel
theorem dX6_model_97 : decode cX6_model 97 = .ok (.bipush (-2), 2) := by decide +kernel
theorem dX6_model_99 : decode cX6_model 99 = .ok (.ireturn, 1) := by decide +kernel
set_option maxRecDepth 20000 in
theorem ggX6_turn_X6_senderOf : GoodIn wsX6_turn wsX6_senderOf := goodIn_r _ [6, 7, 8, 57, 58, 59, 60, 61, 62] (by decide +kernel) (by decide +kernel)
set_option maxRecDepth 20000 in
theorem gX6_turn_X6_senderOf : GoodIn wsX6_turn (wsV RX6 45 RX6 yX6_senderOf wsX6_senderOf) := goodIn_app (goodIn_of _ (by decide +kernel)) ggX6_turn_X6_senderOf
set_option maxRecDepth 20000 in
theorem ggX6_turn_X0_turnsKept : GoodIn wsX6_turn wsX0_turnsKept := goodIn_r _ [13, 14, 15, 16, 17, 18, 63, 64, 65, 66, 67, 68, 69, 70, 71, 72, 73] (by decide +kernel) (by decide +kernel)
set_option maxRecDepth 20000 in
theorem gX6_turn_X0_turnsKept : GoodIn wsX6_turn (wsV RX6 208 RX0 yX0_turnsKept wsX0_turnsKept) := goodIn_app (goodIn_of _ (by decide +kernel)) ggX6_turn_X0_turnsKept
set_option maxRecDepth 20000 in
theorem ggX6_turn_X6_within : GoodIn wsX6_turn wsX6_within := goodIn_r _ [21] (by decide +kernel) (by decide +kernel)
set_option maxRecDepth 20000 in
theorem gX6_turn_X6_within : GoodIn wsX6_turn (va_wsS RX6 28 yX6_within wsX6_within) := goodIn_app (goodIn_of _ (by decide +kernel)) ggX6_turn_X6_within
set_option maxRecDepth 20000 in
theorem ggX6_turn_X0_turnTickOf : GoodIn wsX6_turn wsX0_turnTickOf := goodIn_r _ [25, 26, 27, 28, 29, 12, 30, 14, 31, 10, 11, 13, 15, 16, 17, 18, 32, 33, 34, 35, 63, 64, 65, 66, 67, 68, 69, 70, 71, 72, 73] (by decide +kernel) (by decide +kernel)
set_option maxRecDepth 20000 in
theorem gX6_turn_X0_turnTickOf : GoodIn wsX6_turn (wsV RX6 211 RX0 yX0_turnTickOf wsX0_turnTickOf) := goodIn_app (goodIn_of _ (by decide +kernel)) ggX6_turn_X0_turnTickOf
set_option maxRecDepth 20000 in
theorem ggX6_turn_X0_turnStateOf : GoodIn wsX6_turn wsX0_turnStateOf := goodIn_r _ [39, 40, 27, 28, 29, 12, 30, 14, 31, 10, 11, 13, 15, 16, 17, 18, 32, 33, 34, 35, 63, 64, 65, 66, 67, 68, 69, 70, 71, 72, 73] (by decide +kernel) (by decide +kernel)
set_option maxRecDepth 20000 in
theorem gX6_turn_X0_turnStateOf : GoodIn wsX6_turn (wsV RX6 214 RX0 yX0_turnStateOf wsX0_turnStateOf) := goodIn_app (goodIn_of _ (by decide +kernel)) ggX6_turn_X0_turnStateOf
theorem dX6_turn_0 : decode cX6_turn 0 = .ok (.aload_n 0, 1) := by decide +kernel
theorem dX6_turn_1 : decode cX6_turn 1 = .ok (.iload_n 1, 1) := by decide +kernel
theorem dX6_turn_2 : decode cX6_turn 2 = .ok (.invokevirtual 45, 3) := by decide +kernel
theorem dX6_turn_5 : decode cX6_turn 5 = .ok (.astore 4, 2) := by decide +kernel
theorem dX6_turn_7 : decode cX6_turn 7 = .ok (.aload 4, 2) := by decide +kernel
theorem dX6_turn_9 : decode cX6_turn 9 = .ok (.ifnull 21, 3) := by decide +kernel
theorem dX6_turn_12 : decode cX6_turn 12 = .ok (.iload_n 2, 1) := by decide +kernel
theorem dX6_turn_13 : decode cX6_turn 13 = .ok (.iconst 0, 1) := by decide +kernel
theorem dX6_turn_14 : decode cX6_turn 14 = .ok (.aload 4, 2) := by decide +kernel
theorem dX6_turn_16 : decode cX6_turn 16 = .ok (.getfield 92, 3) := by decide +kernel
theorem dX6_turn_19 : decode cX6_turn 19 = .ok (.invokevirtual 208, 3) := by decide +kernel
theorem dX6_turn_22 : decode cX6_turn 22 = .ok (.iconst 1, 1) := by decide +kernel
theorem dX6_turn_23 : decode cX6_turn 23 = .ok (.isub, 1) := by decide +kernel
theorem dX6_turn_24 : decode cX6_turn 24 = .ok (.invokestatic 28, 3) := by decide +kernel
theorem dX6_turn_27 : decode cX6_turn 27 = .ok (.ifCond .ne 5, 3) := by decide +kernel
theorem dX6_turn_30 : decode cX6_turn 30 = .ok (.iconst (-1), 1) := by decide +kernel
theorem dX6_turn_31 : decode cX6_turn 31 = .ok (.ireturn, 1) := by decide +kernel
theorem dX6_turn_32 : decode cX6_turn 32 = .ok (.iload_n 3, 1) := by decide +kernel
theorem dX6_turn_33 : decode cX6_turn 33 = .ok (.lookupswitch 47 #[(0, 27), (1, 37)], 27) := by decide +kernel
theorem dX6_turn_60 : decode cX6_turn 60 = .ok (.aload 4, 2) := by decide +kernel
theorem dX6_turn_62 : decode cX6_turn 62 = .ok (.getfield 92, 3) := by decide +kernel
theorem dX6_turn_65 : decode cX6_turn 65 = .ok (.iload_n 2, 1) := by decide +kernel
theorem dX6_turn_66 : decode cX6_turn 66 = .ok (.invokevirtual 211, 3) := by decide +kernel
theorem dX6_turn_69 : decode cX6_turn 69 = .ok (.ireturn, 1) := by decide +kernel
theorem dX6_turn_70 : decode cX6_turn 70 = .ok (.aload 4, 2) := by decide +kernel
theorem dX6_turn_72 : decode cX6_turn 72 = .ok (.getfield 92, 3) := by decide +kernel
theorem dX6_turn_75 : decode cX6_turn 75 = .ok (.iload_n 2, 1) := by decide +kernel
theorem dX6_turn_76 : decode cX6_turn 76 = .ok (.invokevirtual 214, 3) := by decide +kernel
theorem dX6_turn_79 : decode cX6_turn 79 = .ok (.ireturn, 1) := by decide +kernel
theorem dX6_turn_80 : decode cX6_turn 80 = .ok (.bipush (-2), 2) := by decide +kernel
theorem dX6_turn_82 : decode cX6_turn 82 = .ok (.ireturn, 1) := by decide +kernel
theorem dX6_many_0 : decode cX6_many 0 = .ok (.iload_n 1, 1) := by decide +kernel
theorem dX6_many_1 : decode cX6_many 1 = .ok (.tableswitch 99 0 4 #[35, 40, 56, 72, 94], 35) := by decide +kernel
theorem dX6_many_36 : decode cX6_many 36 = .ok (.aload_n 0, 1) := by decide +kernel
theorem dX6_many_37 : decode cX6_many 37 = .ok (.getfield 85, 3) := by decide +kernel
theorem dX6_many_40 : decode cX6_many 40 = .ok (.ireturn, 1) := by decide +kernel
theorem dX6_many_41 : decode cX6_many 41 = .ok (.aload_n 0, 1) := by decide +kernel
theorem dX6_many_42 : decode cX6_many 42 = .ok (.getfield 21, 3) := by decide +kernel
theorem dX6_many_45 : decode cX6_many 45 = .ok (.getfield 110, 3) := by decide +kernel
theorem dX6_many_48 : decode cX6_many 48 = .ok (.aload_n 0, 1) := by decide +kernel
theorem dX6_many_49 : decode cX6_many 49 = .ok (.getfield 25, 3) := by decide +kernel
theorem dX6_many_52 : decode cX6_many 52 = .ok (.getfield 110, 3) := by decide +kernel
theorem dX6_many_55 : decode cX6_many 55 = .ok (.iadd, 1) := by decide +kernel
theorem dX6_many_56 : decode cX6_many 56 = .ok (.ireturn, 1) := by decide +kernel
theorem dX6_many_57 : decode cX6_many 57 = .ok (.aload_n 0, 1) := by decide +kernel
theorem dX6_many_58 : decode cX6_many 58 = .ok (.getfield 21, 3) := by decide +kernel
theorem dX6_many_61 : decode cX6_many 61 = .ok (.getfield 132, 3) := by decide +kernel
theorem dX6_many_64 : decode cX6_many 64 = .ok (.aload_n 0, 1) := by decide +kernel
theorem dX6_many_65 : decode cX6_many 65 = .ok (.getfield 25, 3) := by decide +kernel
theorem dX6_many_68 : decode cX6_many 68 = .ok (.getfield 132, 3) := by decide +kernel
theorem dX6_many_71 : decode cX6_many 71 = .ok (.iadd, 1) := by decide +kernel
theorem dX6_many_72 : decode cX6_many 72 = .ok (.ireturn, 1) := by decide +kernel
theorem dX6_many_73 : decode cX6_many 73 = .ok (.aload_n 0, 1) := by decide +kernel
theorem dX6_many_74 : decode cX6_many 74 = .ok (.getfield 21, 3) := by decide +kernel
theorem dX6_many_77 : decode cX6_many 77 = .ok (.getfield 92, 3) := by decide +kernel
theorem dX6_many_80 : decode cX6_many 80 = .ok (.getfield 217, 3) := by decide +kernel
theorem dX6_many_83 : decode cX6_many 83 = .ok (.aload_n 0, 1) := by decide +kernel
theorem dX6_many_84 : decode cX6_many 84 = .ok (.getfield 25, 3) := by decide +kernel
theorem dX6_many_87 : decode cX6_many 87 = .ok (.getfield 92, 3) := by decide +kernel
theorem dX6_many_90 : decode cX6_many 90 = .ok (.getfield 217, 3) := by decide +kernel
theorem dX6_many_93 : decode cX6_many 93 = .ok (.iadd, 1) := by decide +kernel
theorem dX6_many_94 : decode cX6_many 94 = .ok (.ireturn, 1) := by decide +kernel
theorem dX6_many_95 : decode cX6_many 95 = .ok (.aload_n 0, 1) := by decide +kernel
theorem dX6_many_96 : decode cX6_many 96 = .ok (.getfield 82, 3) := by decide +kernel
theorem dX6_many_99 : decode cX6_many 99 = .ok (.ireturn, 1) := by decide +kernel
theorem dX6_many_100 : decode cX6_many 100 = .ok (.bipush (-2), 2) := by decide +kernel
theorem dX6_many_102 : decode cX6_many 102 = .ok (.ireturn, 1) := by decide +kernel
theorem dX6_senderOf_0 : decode cX6_senderOf 0 = .ok (.iload_n 1, 1) := by decide +kernel
theorem dX6_senderOf_1 : decode cX6_senderOf 1 = .ok (.ifCond .ne 8, 3) := by decide +kernel
theorem dX6_senderOf_4 : decode cX6_senderOf 4 = .ok (.aload_n 0, 1) := by decide +kernel
theorem dX6_senderOf_5 : decode cX6_senderOf 5 = .ok (.getfield 21, 3) := by decide +kernel
theorem dX6_senderOf_8 : decode cX6_senderOf 8 = .ok (.areturn, 1) := by decide +kernel
theorem dX6_senderOf_9 : decode cX6_senderOf 9 = .ok (.iload_n 1, 1) := by decide +kernel
theorem dX6_senderOf_10 : decode cX6_senderOf 10 = .ok (.iconst 1, 1) := by decide +kernel
theorem dX6_senderOf_11 : decode cX6_senderOf 11 = .ok (.if_icmp .ne 10, 3) := by decide +kernel
theorem dX6_senderOf_14 : decode cX6_senderOf 14 = .ok (.aload_n 0, 1) := by decide +kernel
theorem dX6_senderOf_15 : decode cX6_senderOf 15 = .ok (.getfield 25, 3) := by decide +kernel
theorem dX6_senderOf_18 : decode cX6_senderOf 18 = .ok (.goto 4, 3) := by decide +kernel
theorem dX6_senderOf_21 : decode cX6_senderOf 21 = .ok (.aconst_null, 1) := by decide +kernel
theorem dX6_senderOf_22 : decode cX6_senderOf 22 = .ok (.areturn, 1) := by decide +kernel
set_option maxRecDepth 20000 in
theorem ggX6_runTick_X5_takeDue : GoodIn wsX6_runTick wsX5_takeDue := goodIn_r _ [12, 13, 14, 15, 16, 17, 18, 19, 20, 21, 22, 23, 24, 25, 26, 27, 28, 29, 30, 31, 11, 32, 33, 34, 35, 36, 37, 38, 39, 40, 41, 42, 43, 44, 45, 46, 47, 48, 49, 50, 51, 52, 53, 54, 55, 56, 57, 58, 59, 60, 61, 62, 63, 64, 65, 66, 67, 68, 69, 70, 71, 72, 73, 74, 75, 76, 77, 78, 79, 80, 81, 82, 83, 84, 85, 86, 87, 88, 89, 90, 91, 92, 93, 94, 95, 96, 97, 98, 99, 100, 101, 102, 103, 104, 105, 106, 107, 108, 109, 110, 111, 112, 113, 114, 115, 116, 117, 118, 119, 120, 121, 122, 123, 124, 125, 126, 127, 128, 129, 130, 131, 132, 133, 134, 135, 136, 253, 254, 255, 256, 257, 258, 259, 260, 261, 262, 263, 264, 265, 266, 267, 268, 269, 270, 271, 272, 273, 274, 275, 276, 277, 278, 279, 280, 281, 282, 283, 284, 285, 286, 287, 288, 289, 290, 291, 292, 293, 294] (by decide +kernel) (by decide +kernel)
set_option maxRecDepth 20000 in
theorem gX6_runTick_X5_takeDue : GoodIn wsX6_runTick (wsV RX6 220 RX5 yX5_takeDue wsX5_takeDue) := goodIn_app (goodIn_of _ (by decide +kernel)) ggX6_runTick_X5_takeDue
set_option maxRecDepth 20000 in
theorem ggX6_runTick_X1_release : GoodIn wsX6_runTick wsX1_release := goodIn_r _ [141, 142, 143, 144, 145, 146, 147, 148, 149, 150, 151, 152, 140, 153, 154, 155, 156, 157, 158, 159, 160, 161, 241, 242, 243, 244, 245, 246, 247, 248, 249, 250, 251, 252, 269, 270, 271, 272, 273, 274, 275, 276, 253, 254, 255, 256, 257, 258, 259, 260, 261, 262, 263, 264, 265, 266, 267, 268] (by decide +kernel) (by decide +kernel)
set_option maxRecDepth 20000 in
theorem gX6_runTick_X1_release : GoodIn wsX6_runTick (wsV RX6 223 RX1 yX1_release wsX1_release) := goodIn_app (goodIn_of _ (by decide +kernel)) ggX6_runTick_X1_release
set_option maxRecDepth 20000 in
theorem ggX6_runTick_X1_admitGuest : GoodIn wsX6_runTick wsX1_admitGuest := goodIn_r _ [165, 166, 167, 168, 169, 170, 140, 171, 142, 155, 154, 156, 172, 173, 174, 68, 69, 70, 157, 158, 159, 160, 161, 143, 241, 242, 243, 244, 245, 246, 247, 248, 249, 250, 251, 252] (by decide +kernel) (by decide +kernel)
set_option maxRecDepth 20000 in
theorem gX6_runTick_X1_admitGuest : GoodIn wsX6_runTick (wsV RX6 227 RX1 yX1_admitGuest wsX1_admitGuest) := goodIn_app (goodIn_of _ (by decide +kernel)) ggX6_runTick_X1_admitGuest
set_option maxRecDepth 20000 in
theorem ggX6_runTick_X5_sendAll : GoodIn wsX6_runTick wsX5_sendAll := goodIn_r _ [178, 179, 13, 14, 180, 67, 68, 69, 70, 34, 181, 182, 183, 11, 184, 42, 185, 186, 71, 39, 187, 188, 189, 190, 191, 192, 193, 194, 110, 111, 112, 113, 195, 196, 197, 198, 199, 200, 201, 202, 203, 33, 204, 205, 41, 35, 66, 43, 15, 206, 207, 208, 209, 20, 210, 22, 23, 211, 212, 213, 214, 215, 216, 217, 218, 219, 220, 221, 169, 170, 140, 171, 142, 155, 154, 156, 172, 173, 174, 157, 158, 159, 160, 161, 143, 222, 223, 224, 225, 226, 227, 228, 229, 230, 231, 232, 233, 84, 234, 86, 91, 253, 254, 255, 256, 257, 258, 259, 260, 261, 262, 263, 264, 265, 266, 267, 268, 277, 278, 284, 285, 286, 287, 288, 289, 290, 291, 292, 293, 294, 269, 270, 271, 272, 273, 274, 275, 276, 241, 242, 243, 244, 245, 246, 247, 248, 249, 250, 251, 252] (by decide +kernel) (by decide +kernel)
set_option maxRecDepth 20000 in
theorem gX6_runTick_X5_sendAll : GoodIn wsX6_runTick (wsV RX6 230 RX5 yX5_sendAll wsX5_sendAll) := goodIn_app (goodIn_of _ (by decide +kernel)) ggX6_runTick_X5_sendAll
theorem dX6_runTick_0 : decode cX6_runTick 0 = .ok (.aload_n 0, 1) := by decide +kernel
theorem dX6_runTick_1 : decode cX6_runTick 1 = .ok (.getfield 21, 3) := by decide +kernel
theorem dX6_runTick_4 : decode cX6_runTick 4 = .ok (.aload_n 0, 1) := by decide +kernel
theorem dX6_runTick_5 : decode cX6_runTick 5 = .ok (.getfield 85, 3) := by decide +kernel
theorem dX6_runTick_8 : decode cX6_runTick 8 = .ok (.invokevirtual 220, 3) := by decide +kernel
theorem dX6_runTick_11 : decode cX6_runTick 11 = .ok (.aload_n 0, 1) := by decide +kernel
theorem dX6_runTick_12 : decode cX6_runTick 12 = .ok (.getfield 25, 3) := by decide +kernel
theorem dX6_runTick_15 : decode cX6_runTick 15 = .ok (.aload_n 0, 1) := by decide +kernel
theorem dX6_runTick_16 : decode cX6_runTick 16 = .ok (.getfield 85, 3) := by decide +kernel
theorem dX6_runTick_19 : decode cX6_runTick 19 = .ok (.invokevirtual 220, 3) := by decide +kernel
theorem dX6_runTick_22 : decode cX6_runTick 22 = .ok (.iadd, 1) := by decide +kernel
theorem dX6_runTick_23 : decode cX6_runTick 23 = .ok (.istore_n 1, 1) := by decide +kernel
theorem dX6_runTick_24 : decode cX6_runTick 24 = .ok (.aload_n 0, 1) := by decide +kernel
theorem dX6_runTick_25 : decode cX6_runTick 25 = .ok (.getfield 14, 3) := by decide +kernel
theorem dX6_runTick_28 : decode cX6_runTick 28 = .ok (.aload_n 0, 1) := by decide +kernel
theorem dX6_runTick_29 : decode cX6_runTick 29 = .ok (.getfield 85, 3) := by decide +kernel
theorem dX6_runTick_32 : decode cX6_runTick 32 = .ok (.invokevirtual 223, 3) := by decide +kernel
theorem dX6_runTick_35 : decode cX6_runTick 35 = .ok (.aload_n 0, 1) := by decide +kernel
theorem dX6_runTick_36 : decode cX6_runTick 36 = .ok (.getfield 42, 3) := by decide +kernel
theorem dX6_runTick_39 : decode cX6_runTick 39 = .ok (.ifCond .le 26, 3) := by decide +kernel
theorem dX6_runTick_42 : decode cX6_runTick 42 = .ok (.aload_n 0, 1) := by decide +kernel
theorem dX6_runTick_43 : decode cX6_runTick 43 = .ok (.getfield 85, 3) := by decide +kernel
theorem dX6_runTick_46 : decode cX6_runTick 46 = .ok (.aload_n 0, 1) := by decide +kernel
theorem dX6_runTick_47 : decode cX6_runTick 47 = .ok (.getfield 42, 3) := by decide +kernel
theorem dX6_runTick_50 : decode cX6_runTick 50 = .ok (.irem, 1) := by decide +kernel
theorem dX6_runTick_51 : decode cX6_runTick 51 = .ok (.ifCond .ne 14, 3) := by decide +kernel
theorem dX6_runTick_54 : decode cX6_runTick 54 = .ok (.aload_n 0, 1) := by decide +kernel
theorem dX6_runTick_55 : decode cX6_runTick 55 = .ok (.getfield 14, 3) := by decide +kernel
theorem dX6_runTick_58 : decode cX6_runTick 58 = .ok (.aload_n 0, 1) := by decide +kernel
theorem dX6_runTick_59 : decode cX6_runTick 59 = .ok (.getfield 85, 3) := by decide +kernel
theorem dX6_runTick_62 : decode cX6_runTick 62 = .ok (.invokevirtual 227, 3) := by decide +kernel
theorem dX6_runTick_65 : decode cX6_runTick 65 = .ok (.aload_n 0, 1) := by decide +kernel
theorem dX6_runTick_66 : decode cX6_runTick 66 = .ok (.getfield 21, 3) := by decide +kernel
theorem dX6_runTick_69 : decode cX6_runTick 69 = .ok (.aload_n 0, 1) := by decide +kernel
theorem dX6_runTick_70 : decode cX6_runTick 70 = .ok (.getfield 14, 3) := by decide +kernel
theorem dX6_runTick_73 : decode cX6_runTick 73 = .ok (.aload_n 0, 1) := by decide +kernel
theorem dX6_runTick_74 : decode cX6_runTick 74 = .ok (.getfield 85, 3) := by decide +kernel
theorem dX6_runTick_77 : decode cX6_runTick 77 = .ok (.invokevirtual 230, 3) := by decide +kernel
theorem dX6_runTick_80 : decode cX6_runTick 80 = .ok (.aload_n 0, 1) := by decide +kernel
theorem dX6_runTick_81 : decode cX6_runTick 81 = .ok (.getfield 25, 3) := by decide +kernel
theorem dX6_runTick_84 : decode cX6_runTick 84 = .ok (.aload_n 0, 1) := by decide +kernel
theorem dX6_runTick_85 : decode cX6_runTick 85 = .ok (.getfield 14, 3) := by decide +kernel
theorem dX6_runTick_88 : decode cX6_runTick 88 = .ok (.aload_n 0, 1) := by decide +kernel
theorem dX6_runTick_89 : decode cX6_runTick 89 = .ok (.getfield 85, 3) := by decide +kernel
theorem dX6_runTick_92 : decode cX6_runTick 92 = .ok (.invokevirtual 230, 3) := by decide +kernel
theorem dX6_runTick_95 : decode cX6_runTick 95 = .ok (.aload_n 0, 1) := by decide +kernel
theorem dX6_runTick_96 : decode cX6_runTick 96 = .ok (.getfield 14, 3) := by decide +kernel
theorem dX6_runTick_99 : decode cX6_runTick 99 = .ok (.getfield 60, 3) := by decide +kernel
theorem dX6_runTick_102 : decode cX6_runTick 102 = .ok (.ifnull 13, 3) := by decide +kernel
theorem dX6_runTick_105 : decode cX6_runTick 105 = .ok (.aload_n 0, 1) := by decide +kernel
theorem dX6_runTick_106 : decode cX6_runTick 106 = .ok (.dup, 1) := by decide +kernel
theorem dX6_runTick_107 : decode cX6_runTick 107 = .ok (.getfield 82, 3) := by decide +kernel
theorem dX6_runTick_110 : decode cX6_runTick 110 = .ok (.iconst 1, 1) := by decide +kernel
theorem dX6_runTick_111 : decode cX6_runTick 111 = .ok (.iadd, 1) := by decide +kernel
theorem dX6_runTick_112 : decode cX6_runTick 112 = .ok (.putfield 82, 3) := by decide +kernel
theorem dX6_runTick_115 : decode cX6_runTick 115 = .ok (.aload_n 0, 1) := by decide +kernel
theorem dX6_runTick_116 : decode cX6_runTick 116 = .ok (.dup, 1) := by decide +kernel
theorem dX6_runTick_117 : decode cX6_runTick 117 = .ok (.getfield 85, 3) := by decide +kernel
theorem dX6_runTick_120 : decode cX6_runTick 120 = .ok (.iconst 1, 1) := by decide +kernel
theorem dX6_runTick_121 : decode cX6_runTick 121 = .ok (.iadd, 1) := by decide +kernel
theorem dX6_runTick_122 : decode cX6_runTick 122 = .ok (.putfield 85, 3) := by decide +kernel
theorem dX6_runTick_125 : decode cX6_runTick 125 = .ok (.iload_n 1, 1) := by decide +kernel
theorem dX6_runTick_126 : decode cX6_runTick 126 = .ok (.ireturn, 1) := by decide +kernel
theorem dX6_within_0 : decode cX6_within 0 = .ok (.iload_n 0, 1) := by decide +kernel
theorem dX6_within_1 : decode cX6_within 1 = .ok (.iload_n 1, 1) := by decide +kernel
theorem dX6_within_2 : decode cX6_within 2 = .ok (.if_icmp .lt 12, 3) := by decide +kernel
theorem dX6_within_5 : decode cX6_within 5 = .ok (.iload_n 0, 1) := by decide +kernel
theorem dX6_within_6 : decode cX6_within 6 = .ok (.iload_n 2, 1) := by decide +kernel
theorem dX6_within_7 : decode cX6_within 7 = .ok (.if_icmp .gt 7, 3) := by decide +kernel
theorem dX6_within_10 : decode cX6_within 10 = .ok (.iconst 1, 1) := by decide +kernel
theorem dX6_within_11 : decode cX6_within 11 = .ok (.goto 4, 3) := by decide +kernel
theorem dX6_within_14 : decode cX6_within 14 = .ok (.iconst 0, 1) := by decide +kernel
theorem dX6_within_15 : decode cX6_within 15 = .ok (.ireturn, 1) := by decide +kernel
theorem dX6_asNumber_0 : decode cX6_asNumber 0 = .ok (.iload_n 0, 1) := by decide +kernel
theorem dX6_asNumber_1 : decode cX6_asNumber 1 = .ok (.ifCond .eq 7, 3) := by decide +kernel
theorem dX6_asNumber_4 : decode cX6_asNumber 4 = .ok (.iconst 1, 1) := by decide +kernel
theorem dX6_asNumber_5 : decode cX6_asNumber 5 = .ok (.goto 4, 3) := by decide +kernel
theorem dX6_asNumber_8 : decode cX6_asNumber 8 = .ok (.iconst 0, 1) := by decide +kernel
theorem dX6_asNumber_9 : decode cX6_asNumber 9 = .ok (.ireturn, 1) := by decide +kernel
theorem dX6_greatestDivisor_0 : decode cX6_greatestDivisor 0 = .ok (.iload_n 0, 1) := by decide +kernel
theorem dX6_greatestDivisor_1 : decode cX6_greatestDivisor 1 = .ok (.istore_n 2, 1) := by decide +kernel
theorem dX6_greatestDivisor_2 : decode cX6_greatestDivisor 2 = .ok (.iload_n 1, 1) := by decide +kernel
theorem dX6_greatestDivisor_3 : decode cX6_greatestDivisor 3 = .ok (.istore_n 3, 1) := by decide +kernel
theorem dX6_greatestDivisor_4 : decode cX6_greatestDivisor 4 = .ok (.iconst 0, 1) := by decide +kernel
theorem dX6_greatestDivisor_5 : decode cX6_greatestDivisor 5 = .ok (.istore 4, 2) := by decide +kernel
theorem dX6_greatestDivisor_7 : decode cX6_greatestDivisor 7 = .ok (.iload 4, 2) := by decide +kernel
theorem dX6_greatestDivisor_9 : decode cX6_greatestDivisor 9 = .ok (.bipush 64, 2) := by decide +kernel
theorem dX6_greatestDivisor_11 : decode cX6_greatestDivisor 11 = .ok (.if_icmp .ge 23, 3) := by decide +kernel
theorem dX6_greatestDivisor_14 : decode cX6_greatestDivisor 14 = .ok (.iload_n 3, 1) := by decide +kernel
theorem dX6_greatestDivisor_15 : decode cX6_greatestDivisor 15 = .ok (.ifCond .eq 19, 3) := by decide +kernel
theorem dX6_greatestDivisor_18 : decode cX6_greatestDivisor 18 = .ok (.iload_n 2, 1) := by decide +kernel
theorem dX6_greatestDivisor_19 : decode cX6_greatestDivisor 19 = .ok (.iload_n 3, 1) := by decide +kernel
theorem dX6_greatestDivisor_20 : decode cX6_greatestDivisor 20 = .ok (.irem, 1) := by decide +kernel
theorem dX6_greatestDivisor_21 : decode cX6_greatestDivisor 21 = .ok (.istore 5, 2) := by decide +kernel
theorem dX6_greatestDivisor_23 : decode cX6_greatestDivisor 23 = .ok (.iload_n 3, 1) := by decide +kernel
theorem dX6_greatestDivisor_24 : decode cX6_greatestDivisor 24 = .ok (.istore_n 2, 1) := by decide +kernel
theorem dX6_greatestDivisor_25 : decode cX6_greatestDivisor 25 = .ok (.iload 5, 2) := by decide +kernel
theorem dX6_greatestDivisor_27 : decode cX6_greatestDivisor 27 = .ok (.istore_n 3, 1) := by decide +kernel
theorem dX6_greatestDivisor_28 : decode cX6_greatestDivisor 28 = .ok (.iinc 4 1, 3) := by decide +kernel
theorem dX6_greatestDivisor_31 : decode cX6_greatestDivisor 31 = .ok (.goto (-24), 3) := by decide +kernel
theorem dX6_greatestDivisor_34 : decode cX6_greatestDivisor 34 = .ok (.iload_n 2, 1) := by decide +kernel
theorem dX6_greatestDivisor_35 : decode cX6_greatestDivisor 35 = .ok (.ireturn, 1) := by decide +kernel
theorem dX7_init_0 : decode cX7_init 0 = .ok (.aload_n 0, 1) := by decide +kernel
theorem dX7_init_1 : decode cX7_init 1 = .ok (.invokespecial 1, 3) := by decide +kernel
theorem dX7_init_4 : decode cX7_init 4 = .ok (.aload_n 0, 1) := by decide +kernel
theorem dX7_init_5 : decode cX7_init 5 = .ok (.iconst 5, 1) := by decide +kernel
theorem dX7_init_6 : decode cX7_init 6 = .ok (.putfield 7, 3) := by decide +kernel
theorem dX7_init_9 : decode cX7_init 9 = .ok (.aload_n 0, 1) := by decide +kernel
theorem dX7_init_10 : decode cX7_init 10 = .ok (.bipush 20, 2) := by decide +kernel
theorem dX7_init_12 : decode cX7_init 12 = .ok (.putfield 13, 3) := by decide +kernel
theorem dX7_init_15 : decode cX7_init 15 = .ok (.aload_n 0, 1) := by decide +kernel
theorem dX7_init_16 : decode cX7_init 16 = .ok (.bipush 30, 2) := by decide +kernel
theorem dX7_init_18 : decode cX7_init 18 = .ok (.putfield 16, 3) := by decide +kernel
theorem dX7_init_21 : decode cX7_init 21 = .ok (.aload_n 0, 1) := by decide +kernel
theorem dX7_init_22 : decode cX7_init 22 = .ok (.iconst 3, 1) := by decide +kernel
theorem dX7_init_23 : decode cX7_init 23 = .ok (.putfield 19, 3) := by decide +kernel
theorem dX7_init_26 : decode cX7_init 26 = .ok (.aload_n 0, 1) := by decide +kernel
theorem dX7_init_27 : decode cX7_init 27 = .ok (.bipush 64, 2) := by decide +kernel
theorem dX7_init_29 : decode cX7_init 29 = .ok (.newarray .int, 2) := by decide +kernel
theorem dX7_init_31 : decode cX7_init 31 = .ok (.putfield 22, 3) := by decide +kernel
theorem dX7_init_34 : decode cX7_init 34 = .ok (.aload_n 0, 1) := by decide +kernel
theorem dX7_init_35 : decode cX7_init 35 = .ok (.bipush 64, 2) := by decide +kernel
theorem dX7_init_37 : decode cX7_init 37 = .ok (.newarray .int, 2) := by decide +kernel
theorem dX7_init_39 : decode cX7_init 39 = .ok (.putfield 26, 3) := by decide +kernel
theorem dX7_init_42 : decode cX7_init 42 = .ok (.aload_n 0, 1) := by decide +kernel
theorem dX7_init_43 : decode cX7_init 43 = .ok (.iconst 3, 1) := by decide +kernel
theorem dX7_init_44 : decode cX7_init 44 = .ok (.newarray .int, 2) := by decide +kernel
theorem dX7_init_46 : decode cX7_init 46 = .ok (.putfield 29, 3) := by decide +kernel
theorem dX7_init_49 : decode cX7_init 49 = .ok (.aload_n 0, 1) := by decide +kernel
theorem dX7_init_50 : decode cX7_init 50 = .ok (.iconst 2, 1) := by decide +kernel
theorem dX7_init_51 : decode cX7_init 51 = .ok (.newarray .int, 2) := by decide +kernel
theorem dX7_init_53 : decode cX7_init 53 = .ok (.putfield 32, 3) := by decide +kernel
theorem dX7_init_56 : decode cX7_init 56 = .ok (.aload_n 0, 1) := by decide +kernel
theorem dX7_init_57 : decode cX7_init 57 = .ok (.sipush 1024, 3) := by decide +kernel
theorem dX7_init_60 : decode cX7_init 60 = .ok (.newarray .int, 2) := by decide +kernel
theorem dX7_init_62 : decode cX7_init 62 = .ok (.putfield 35, 3) := by decide +kernel
theorem dX7_init_65 : decode cX7_init 65 = .ok (.aload_n 0, 1) := by decide +kernel
theorem dX7_init_66 : decode cX7_init 66 = .ok (.sipush 1024, 3) := by decide +kernel
theorem dX7_init_69 : decode cX7_init 69 = .ok (.newarray .int, 2) := by decide +kernel
theorem dX7_init_71 : decode cX7_init 71 = .ok (.putfield 38, 3) := by decide +kernel
theorem dX7_init_74 : decode cX7_init 74 = .ok (.aload_n 0, 1) := by decide +kernel
theorem dX7_init_75 : decode cX7_init 75 = .ok (.sipush 1024, 3) := by decide +kernel
theorem dX7_init_78 : decode cX7_init 78 = .ok (.newarray .int, 2) := by decide +kernel
theorem dX7_init_80 : decode cX7_init 80 = .ok (.putfield 41, 3) := by decide +kernel
theorem dX7_init_83 : decode cX7_init 83 = .ok (.aload_n 0, 1) := by decide +kernel
theorem dX7_init_84 : decode cX7_init 84 = .ok (.sipush 1024, 3) := by decide +kernel
theorem dX7_init_87 : decode cX7_init 87 = .ok (.newarray .int, 2) := by decide +kernel
theorem dX7_init_89 : decode cX7_init 89 = .ok (.putfield 44, 3) := by decide +kernel
theorem dX7_init_92 : decode cX7_init 92 = .ok (.aload_n 0, 1) := by decide +kernel
theorem dX7_init_93 : decode cX7_init 93 = .ok (.sipush 1024, 3) := by decide +kernel
theorem dX7_init_96 : decode cX7_init 96 = .ok (.newarray .boolean, 2) := by decide +kernel
theorem dX7_init_98 : decode cX7_init 98 = .ok (.putfield 47, 3) := by decide +kernel
theorem dX7_init_101 : decode cX7_init 101 = .ok (.aload_n 0, 1) := by decide +kernel
theorem dX7_init_102 : decode cX7_init 102 = .ok (.sipush 1024, 3) := by decide +kernel
theorem dX7_init_105 : decode cX7_init 105 = .ok (.newarray .int, 2) := by decide +kernel
theorem dX7_init_107 : decode cX7_init 107 = .ok (.putfield 51, 3) := by decide +kernel
theorem dX7_init_110 : decode cX7_init 110 = .ok (.aload_n 0, 1) := by decide +kernel
theorem dX7_init_111 : decode cX7_init 111 = .ok (.iconst 2, 1) := by decide +kernel
theorem dX7_init_112 : decode cX7_init 112 = .ok (.newarray .int, 2) := by decide +kernel
theorem dX7_init_114 : decode cX7_init 114 = .ok (.putfield 54, 3) := by decide +kernel
theorem dX7_init_117 : decode cX7_init 117 = .ok (.aload_n 0, 1) := by decide +kernel
theorem dX7_init_118 : decode cX7_init 118 = .ok (.iconst 2, 1) := by decide +kernel
theorem dX7_init_119 : decode cX7_init 119 = .ok (.newarray .int, 2) := by decide +kernel
theorem dX7_init_121 : decode cX7_init 121 = .ok (.putfield 57, 3) := by decide +kernel
theorem dX7_init_124 : decode cX7_init 124 = .ok (.aload_n 0, 1) := by decide +kernel
theorem dX7_init_125 : decode cX7_init 125 = .ok (.iconst 2, 1) := by decide +kernel
theorem dX7_init_126 : decode cX7_init 126 = .ok (.newarray .int, 2) := by decide +kernel
theorem dX7_init_128 : decode cX7_init 128 = .ok (.putfield 60, 3) := by decide +kernel
theorem dX7_init_131 : decode cX7_init 131 = .ok (.aload_n 0, 1) := by decide +kernel
theorem dX7_init_132 : decode cX7_init 132 = .ok (.iconst 2, 1) := by decide +kernel
theorem dX7_init_133 : decode cX7_init 133 = .ok (.newarray .int, 2) := by decide +kernel
theorem dX7_init_135 : decode cX7_init 135 = .ok (.putfield 63, 3) := by decide +kernel
theorem dX7_init_138 : decode cX7_init 138 = .ok (.aload_n 0, 1) := by decide +kernel
theorem dX7_init_139 : decode cX7_init 139 = .ok (.iconst 2, 1) := by decide +kernel
theorem dX7_init_140 : decode cX7_init 140 = .ok (.newarray .int, 2) := by decide +kernel
theorem dX7_init_142 : decode cX7_init 142 = .ok (.putfield 66, 3) := by decide +kernel
theorem dX7_init_145 : decode cX7_init 145 = .ok (.aload_n 0, 1) := by decide +kernel
theorem dX7_init_146 : decode cX7_init 146 = .ok (.iconst 2, 1) := by decide +kernel
theorem dX7_init_147 : decode cX7_init 147 = .ok (.newarray .int, 2) := by decide +kernel
theorem dX7_init_149 : decode cX7_init 149 = .ok (.putfield 69, 3) := by decide +kernel
theorem dX7_init_152 : decode cX7_init 152 = .ok (.aload_n 0, 1) := by decide +kernel
theorem dX7_init_153 : decode cX7_init 153 = .ok (.iconst 2, 1) := by decide +kernel
theorem dX7_init_154 : decode cX7_init 154 = .ok (.newarray .int, 2) := by decide +kernel
theorem dX7_init_156 : decode cX7_init 156 = .ok (.putfield 72, 3) := by decide +kernel
theorem dX7_init_159 : decode cX7_init 159 = .ok (.aload_n 0, 1) := by decide +kernel
theorem dX7_init_160 : decode cX7_init 160 = .ok (.iconst 2, 1) := by decide +kernel
theorem dX7_init_161 : decode cX7_init 161 = .ok (.newarray .int, 2) := by decide +kernel
theorem dX7_init_163 : decode cX7_init 163 = .ok (.putfield 75, 3) := by decide +kernel
theorem dX7_init_166 : decode cX7_init 166 = .ok (.aload_n 0, 1) := by decide +kernel
theorem dX7_init_167 : decode cX7_init 167 = .ok (.iconst 2, 1) := by decide +kernel
theorem dX7_init_168 : decode cX7_init 168 = .ok (.newarray .int, 2) := by decide +kernel
theorem dX7_init_170 : decode cX7_init 170 = .ok (.putfield 78, 3) := by decide +kernel
theorem dX7_init_173 : decode cX7_init 173 = .ok (.aload_n 0, 1) := by decide +kernel
theorem dX7_init_174 : decode cX7_init 174 = .ok (.iconst 2, 1) := by decide +kernel
theorem dX7_init_175 : decode cX7_init 175 = .ok (.newarray .int, 2) := by decide +kernel
theorem dX7_init_177 : decode cX7_init 177 = .ok (.putfield 81, 3) := by decide +kernel
theorem dX7_init_180 : decode cX7_init 180 = .ok (.aload_n 0, 1) := by decide +kernel
theorem dX7_init_181 : decode cX7_init 181 = .ok (.iconst 2, 1) := by decide +kernel
theorem dX7_init_182 : decode cX7_init 182 = .ok (.newarray .long, 2) := by decide +kernel
theorem dX7_init_184 : decode cX7_init 184 = .ok (.putfield 84, 3) := by decide +kernel
theorem dX7_init_187 : decode cX7_init 187 = .ok (.aload_n 0, 1) := by decide +kernel
theorem dX7_init_188 : decode cX7_init 188 = .ok (.iconst 2, 1) := by decide +kernel
theorem dX7_init_189 : decode cX7_init 189 = .ok (.newarray .int, 2) := by decide +kernel
theorem dX7_init_191 : decode cX7_init 191 = .ok (.putfield 88, 3) := by decide +kernel
theorem dX7_init_194 : decode cX7_init 194 = .ok (.aload_n 0, 1) := by decide +kernel
theorem dX7_init_195 : decode cX7_init 195 = .ok (.iconst 2, 1) := by decide +kernel
theorem dX7_init_196 : decode cX7_init 196 = .ok (.newarray .int, 2) := by decide +kernel
theorem dX7_init_198 : decode cX7_init 198 = .ok (.putfield 91, 3) := by decide +kernel
theorem dX7_init_201 : decode cX7_init 201 = .ok (.aload_n 0, 1) := by decide +kernel
theorem dX7_init_202 : decode cX7_init 202 = .ok (.iconst 2, 1) := by decide +kernel
theorem dX7_init_203 : decode cX7_init 203 = .ok (.newarray .int, 2) := by decide +kernel
theorem dX7_init_205 : decode cX7_init 205 = .ok (.putfield 94, 3) := by decide +kernel
theorem dX7_init_208 : decode cX7_init 208 = .ok (.aload_n 0, 1) := by decide +kernel
theorem dX7_init_209 : decode cX7_init 209 = .ok (.sipush 16384, 3) := by decide +kernel
theorem dX7_init_212 : decode cX7_init 212 = .ok (.newarray .int, 2) := by decide +kernel
theorem dX7_init_214 : decode cX7_init 214 = .ok (.putfield 97, 3) := by decide +kernel
theorem dX7_init_217 : decode cX7_init 217 = .ok (.aload_n 0, 1) := by decide +kernel
theorem dX7_init_218 : decode cX7_init 218 = .ok (.sipush 16384, 3) := by decide +kernel
theorem dX7_init_221 : decode cX7_init 221 = .ok (.newarray .int, 2) := by decide +kernel
theorem dX7_init_223 : decode cX7_init 223 = .ok (.putfield 100, 3) := by decide +kernel
theorem dX7_init_226 : decode cX7_init 226 = .ok (.aload_n 0, 1) := by decide +kernel
theorem dX7_init_227 : decode cX7_init 227 = .ok (.iconst 2, 1) := by decide +kernel
theorem dX7_init_228 : decode cX7_init 228 = .ok (.newarray .int, 2) := by decide +kernel
theorem dX7_init_230 : decode cX7_init 230 = .ok (.putfield 103, 3) := by decide +kernel
theorem dX7_init_233 : decode cX7_init 233 = .ok (.aload_n 0, 1) := by decide +kernel
theorem dX7_init_234 : decode cX7_init 234 = .ok (.iconst 2, 1) := by decide +kernel
theorem dX7_init_235 : decode cX7_init 235 = .ok (.newarray .int, 2) := by decide +kernel
theorem dX7_init_237 : decode cX7_init 237 = .ok (.putfield 106, 3) := by decide +kernel
theorem dX7_init_240 : decode cX7_init 240 = .ok (.aload_n 0, 1) := by decide +kernel
theorem dX7_init_241 : decode cX7_init 241 = .ok (.iconst 2, 1) := by decide +kernel
theorem dX7_init_242 : decode cX7_init 242 = .ok (.newarray .int, 2) := by decide +kernel
theorem dX7_init_244 : decode cX7_init 244 = .ok (.putfield 109, 3) := by decide +kernel
theorem dX7_init_247 : decode cX7_init 247 = .ok (.aload_n 0, 1) := by decide +kernel
theorem dX7_init_248 : decode cX7_init 248 = .ok (.iconst 2, 1) := by decide +kernel
theorem dX7_init_249 : decode cX7_init 249 = .ok (.newarray .int, 2) := by decide +kernel
theorem dX7_init_251 : decode cX7_init 251 = .ok (.putfield 112, 3) := by decide +kernel
theorem dX7_init_254 : decode cX7_init 254 = .ok (.aload_n 0, 1) := by decide +kernel
theorem dX7_init_255 : decode cX7_init 255 = .ok (.iconst 2, 1) := by decide +kernel
theorem dX7_init_256 : decode cX7_init 256 = .ok (.newarray .int, 2) := by decide +kernel
theorem dX7_init_258 : decode cX7_init 258 = .ok (.putfield 115, 3) := by decide +kernel
theorem dX7_init_261 : decode cX7_init 261 = .ok (.aload_n 0, 1) := by decide +kernel
theorem dX7_init_262 : decode cX7_init 262 = .ok (.iconst 2, 1) := by decide +kernel
theorem dX7_init_263 : decode cX7_init 263 = .ok (.newarray .boolean, 2) := by decide +kernel
theorem dX7_init_265 : decode cX7_init 265 = .ok (.putfield 118, 3) := by decide +kernel
theorem dX7_init_268 : decode cX7_init 268 = .ok (.aload_n 0, 1) := by decide +kernel
theorem dX7_init_269 : decode cX7_init 269 = .ok (.iconst 2, 1) := by decide +kernel
theorem dX7_init_270 : decode cX7_init 270 = .ok (.newarray .int, 2) := by decide +kernel
theorem dX7_init_272 : decode cX7_init 272 = .ok (.putfield 121, 3) := by decide +kernel
theorem dX7_init_275 : decode cX7_init 275 = .ok (.aload_n 0, 1) := by decide +kernel
theorem dX7_init_276 : decode cX7_init 276 = .ok (.iconst 2, 1) := by decide +kernel
theorem dX7_init_277 : decode cX7_init 277 = .ok (.newarray .int, 2) := by decide +kernel
theorem dX7_init_279 : decode cX7_init 279 = .ok (.putfield 124, 3) := by decide +kernel
theorem dX7_init_282 : decode cX7_init 282 = .ok (.aload_n 0, 1) := by decide +kernel
theorem dX7_init_283 : decode cX7_init 283 = .ok (.iconst 2, 1) := by decide +kernel
theorem dX7_init_284 : decode cX7_init 284 = .ok (.newarray .int, 2) := by decide +kernel
theorem dX7_init_286 : decode cX7_init 286 = .ok (.putfield 127, 3) := by decide +kernel
theorem dX7_init_289 : decode cX7_init 289 = .ok (.aload_n 0, 1) := by decide +kernel
theorem dX7_init_290 : decode cX7_init 290 = .ok (.bipush 24, 2) := by decide +kernel
theorem dX7_init_292 : decode cX7_init 292 = .ok (.newarray .int, 2) := by decide +kernel
theorem dX7_init_294 : decode cX7_init 294 = .ok (.putfield 130, 3) := by decide +kernel
theorem dX7_init_297 : decode cX7_init 297 = .ok (.aload_n 0, 1) := by decide +kernel
theorem dX7_init_298 : decode cX7_init 298 = .ok (.bipush 24, 2) := by decide +kernel
theorem dX7_init_300 : decode cX7_init 300 = .ok (.newarray .int, 2) := by decide +kernel
theorem dX7_init_302 : decode cX7_init 302 = .ok (.putfield 133, 3) := by decide +kernel
theorem dX7_init_305 : decode cX7_init 305 = .ok (.iconst 0, 1) := by decide +kernel
theorem dX7_init_306 : decode cX7_init 306 = .ok (.istore_n 1, 1) := by decide +kernel
theorem dX7_init_307 : decode cX7_init 307 = .ok (.iload_n 1, 1) := by decide +kernel
theorem dX7_init_308 : decode cX7_init 308 = .ok (.iconst 2, 1) := by decide +kernel
theorem dX7_init_309 : decode cX7_init 309 = .ok (.if_icmp .ge 25, 3) := by decide +kernel
theorem dX7_init_312 : decode cX7_init 312 = .ok (.aload_n 0, 1) := by decide +kernel
theorem dX7_init_313 : decode cX7_init 313 = .ok (.getfield 78, 3) := by decide +kernel
theorem dX7_init_316 : decode cX7_init 316 = .ok (.iload_n 1, 1) := by decide +kernel
theorem dX7_init_317 : decode cX7_init 317 = .ok (.bipush (-9), 2) := by decide +kernel
theorem dX7_init_319 : decode cX7_init 319 = .ok (.iastore, 1) := by decide +kernel
theorem dX7_init_320 : decode cX7_init 320 = .ok (.aload_n 0, 1) := by decide +kernel
theorem dX7_init_321 : decode cX7_init 321 = .ok (.getfield 115, 3) := by decide +kernel
theorem dX7_init_324 : decode cX7_init 324 = .ok (.iload_n 1, 1) := by decide +kernel
end
section
theorem dX7_init_325 : decode cX7_init 325 = .ok (.bipush (-9), 2) := by decide +kernel
theorem dX7_init_327 : decode cX7_init 327 = .ok (.iastore, 1) := by decide +kernel
theorem dX7_init_328 : decode cX7_init 328 = .ok (.iinc 1 1, 3) := by decide +kernel
theorem dX7_init_331 : decode cX7_init 331 = .ok (.goto (-24), 3) := by decide +kernel
theorem dX7_init_334 : decode cX7_init 334 = .ok (.return_, 1) := by decide +kernel
theorem dX7_within_0 : decode cX7_within 0 = .ok (.iload_n 0, 1) := by decide +kernel
theorem dX7_within_1 : decode cX7_within 1 = .ok (.iload_n 1, 1) := by decide +kernel
theorem dX7_within_2 : decode cX7_within 2 = .ok (.if_icmp .lt 12, 3) := by decide +kernel
theorem dX7_within_5 : decode cX7_within 5 = .ok (.iload_n 0, 1) := by decide +kernel
theorem dX7_within_6 : decode cX7_within 6 = .ok (.iload_n 2, 1) := by decide +kernel
theorem dX7_within_7 : decode cX7_within 7 = .ok (.if_icmp .gt 7, 3) := by decide +kernel
theorem dX7_within_10 : decode cX7_within 10 = .ok (.iconst 1, 1) := by decide +kernel
theorem dX7_within_11 : decode cX7_within 11 = .ok (.goto 4, 3) := by decide +kernel
theorem dX7_within_14 : decode cX7_within 14 = .ok (.iconst 0, 1) := by decide +kernel
theorem dX7_within_15 : decode cX7_within 15 = .ok (.ireturn, 1) := by decide +kernel
set_option maxRecDepth 20000 in
theorem ggX7_isSender_X7_within : GoodIn wsX7_isSender wsX7_within := goodIn_r _ [4] (by decide +kernel) (by decide +kernel)
set_option maxRecDepth 20000 in
theorem gX7_isSender_X7_within : GoodIn wsX7_isSender (va_wsS RX7 136 yX7_within wsX7_within) := goodIn_app (goodIn_of _ (by decide +kernel)) ggX7_isSender_X7_within
theorem dX7_isSender_0 : decode cX7_isSender 0 = .ok (.iload_n 0, 1) := by decide +kernel
theorem dX7_isSender_1 : decode cX7_isSender 1 = .ok (.iconst 0, 1) := by decide +kernel
theorem dX7_isSender_2 : decode cX7_isSender 2 = .ok (.iconst 1, 1) := by decide +kernel
theorem dX7_isSender_3 : decode cX7_isSender 3 = .ok (.invokestatic 136, 3) := by decide +kernel
theorem dX7_isSender_6 : decode cX7_isSender 6 = .ok (.ireturn, 1) := by decide +kernel
set_option maxRecDepth 20000 in
theorem ggX7_gate_X7_within : GoodIn wsX7_gate wsX7_within := goodIn_r _ [7] (by decide +kernel) (by decide +kernel)
set_option maxRecDepth 20000 in
theorem gX7_gate_X7_within : GoodIn wsX7_gate (va_wsS RX7 136 yX7_within wsX7_within) := goodIn_app (goodIn_of _ (by decide +kernel)) ggX7_gate_X7_within
theorem dX7_gate_0 : decode cX7_gate 0 = .ok (.iload_n 1, 1) := by decide +kernel
theorem dX7_gate_1 : decode cX7_gate 1 = .ok (.iconst 1, 1) := by decide +kernel
theorem dX7_gate_2 : decode cX7_gate 2 = .ok (.bipush 40, 2) := by decide +kernel
theorem dX7_gate_4 : decode cX7_gate 4 = .ok (.invokestatic 136, 3) := by decide +kernel
theorem dX7_gate_7 : decode cX7_gate 7 = .ok (.ifCond .eq 24, 3) := by decide +kernel
theorem dX7_gate_10 : decode cX7_gate 10 = .ok (.iload_n 2, 1) := by decide +kernel
theorem dX7_gate_11 : decode cX7_gate 11 = .ok (.iconst 1, 1) := by decide +kernel
theorem dX7_gate_12 : decode cX7_gate 12 = .ok (.bipush 60, 2) := by decide +kernel
theorem dX7_gate_14 : decode cX7_gate 14 = .ok (.invokestatic 136, 3) := by decide +kernel
theorem dX7_gate_17 : decode cX7_gate 17 = .ok (.ifCond .eq 14, 3) := by decide +kernel
theorem dX7_gate_20 : decode cX7_gate 20 = .ok (.iload_n 3, 1) := by decide +kernel
theorem dX7_gate_21 : decode cX7_gate 21 = .ok (.iconst 1, 1) := by decide +kernel
theorem dX7_gate_22 : decode cX7_gate 22 = .ok (.sipush 200, 3) := by decide +kernel
theorem dX7_gate_25 : decode cX7_gate 25 = .ok (.invokestatic 136, 3) := by decide +kernel
theorem dX7_gate_28 : decode cX7_gate 28 = .ok (.ifCond .ne 6, 3) := by decide +kernel
theorem dX7_gate_31 : decode cX7_gate 31 = .ok (.bipush (-2), 2) := by decide +kernel
theorem dX7_gate_33 : decode cX7_gate 33 = .ok (.ireturn, 1) := by decide +kernel
theorem dX7_gate_34 : decode cX7_gate 34 = .ok (.aload_n 0, 1) := by decide +kernel
theorem dX7_gate_35 : decode cX7_gate 35 = .ok (.iload_n 1, 1) := by decide +kernel
theorem dX7_gate_36 : decode cX7_gate 36 = .ok (.putfield 7, 3) := by decide +kernel
theorem dX7_gate_39 : decode cX7_gate 39 = .ok (.aload_n 0, 1) := by decide +kernel
theorem dX7_gate_40 : decode cX7_gate 40 = .ok (.iload_n 2, 1) := by decide +kernel
theorem dX7_gate_41 : decode cX7_gate 41 = .ok (.putfield 13, 3) := by decide +kernel
theorem dX7_gate_44 : decode cX7_gate 44 = .ok (.aload_n 0, 1) := by decide +kernel
theorem dX7_gate_45 : decode cX7_gate 45 = .ok (.iload_n 3, 1) := by decide +kernel
theorem dX7_gate_46 : decode cX7_gate 46 = .ok (.putfield 16, 3) := by decide +kernel
theorem dX7_gate_49 : decode cX7_gate 49 = .ok (.iconst 1, 1) := by decide +kernel
theorem dX7_gate_50 : decode cX7_gate 50 = .ok (.ireturn, 1) := by decide +kernel
set_option maxRecDepth 20000 in
theorem ggX7_guests_X7_within : GoodIn wsX7_guests wsX7_within := goodIn_r _ [5] (by decide +kernel) (by decide +kernel)
set_option maxRecDepth 20000 in
theorem gX7_guests_X7_within : GoodIn wsX7_guests (va_wsS RX7 136 yX7_within wsX7_within) := goodIn_app (goodIn_of _ (by decide +kernel)) ggX7_guests_X7_within
theorem dX7_guests_0 : decode cX7_guests 0 = .ok (.iload_n 1, 1) := by decide +kernel
theorem dX7_guests_1 : decode cX7_guests 1 = .ok (.iconst 0, 1) := by decide +kernel
theorem dX7_guests_2 : decode cX7_guests 2 = .ok (.sipush 200, 3) := by decide +kernel
theorem dX7_guests_5 : decode cX7_guests 5 = .ok (.invokestatic 136, 3) := by decide +kernel
theorem dX7_guests_8 : decode cX7_guests 8 = .ok (.ifCond .ne 6, 3) := by decide +kernel
theorem dX7_guests_11 : decode cX7_guests 11 = .ok (.bipush (-2), 2) := by decide +kernel
theorem dX7_guests_13 : decode cX7_guests 13 = .ok (.ireturn, 1) := by decide +kernel
theorem dX7_guests_14 : decode cX7_guests 14 = .ok (.aload_n 0, 1) := by decide +kernel
theorem dX7_guests_15 : decode cX7_guests 15 = .ok (.getfield 140, 3) := by decide +kernel
theorem dX7_guests_18 : decode cX7_guests 18 = .ok (.istore_n 2, 1) := by decide +kernel
theorem dX7_guests_19 : decode cX7_guests 19 = .ok (.aload_n 0, 1) := by decide +kernel
theorem dX7_guests_20 : decode cX7_guests 20 = .ok (.iload_n 1, 1) := by decide +kernel
theorem dX7_guests_21 : decode cX7_guests 21 = .ok (.putfield 140, 3) := by decide +kernel
theorem dX7_guests_24 : decode cX7_guests 24 = .ok (.iload_n 2, 1) := by decide +kernel
theorem dX7_guests_25 : decode cX7_guests 25 = .ok (.ireturn, 1) := by decide +kernel
theorem dX7_serves_0 : decode cX7_serves 0 = .ok (.aload_n 0, 1) := by decide +kernel
theorem dX7_serves_1 : decode cX7_serves 1 = .ok (.iload_n 1, 1) := by decide +kernel
theorem dX7_serves_2 : decode cX7_serves 2 = .ok (.putfield 19, 3) := by decide +kernel
theorem dX7_serves_5 : decode cX7_serves 5 = .ok (.aload_n 0, 1) := by decide +kernel
theorem dX7_serves_6 : decode cX7_serves 6 = .ok (.iload_n 2, 1) := by decide +kernel
theorem dX7_serves_7 : decode cX7_serves 7 = .ok (.putfield 143, 3) := by decide +kernel
theorem dX7_serves_10 : decode cX7_serves 10 = .ok (.aload_n 0, 1) := by decide +kernel
theorem dX7_serves_11 : decode cX7_serves 11 = .ok (.aload_n 0, 1) := by decide +kernel
theorem dX7_serves_12 : decode cX7_serves 12 = .ok (.getfield 146, 3) := by decide +kernel
theorem dX7_serves_15 : decode cX7_serves 15 = .ok (.aload_n 0, 1) := by decide +kernel
theorem dX7_serves_16 : decode cX7_serves 16 = .ok (.getfield 7, 3) := by decide +kernel
theorem dX7_serves_19 : decode cX7_serves 19 = .ok (.iadd, 1) := by decide +kernel
theorem dX7_serves_20 : decode cX7_serves 20 = .ok (.putfield 149, 3) := by decide +kernel
theorem dX7_serves_23 : decode cX7_serves 23 = .ok (.return_, 1) := by decide +kernel
set_option maxRecDepth 20000 in
theorem ggX7_comes_X7_serves : GoodIn wsX7_comes wsX7_serves := goodIn_r _ [11, 1, 12, 13, 14, 15, 16, 17, 18, 19, 20, 21, 22, 23, 24, 25, 26, 27, 28, 29, 30, 31, 32, 33, 34, 35, 36, 37, 38, 39, 40, 41, 42, 43, 44, 45, 46, 47, 48, 49, 50, 51, 52, 53, 54, 55, 56, 57, 58, 59, 60, 61, 62, 63, 64, 65] (by decide +kernel) (by decide +kernel)
set_option maxRecDepth 20000 in
theorem gX7_comes_X7_serves : GoodIn wsX7_comes (wsV RX7 152 RX7 yX7_serves wsX7_serves) := goodIn_app (goodIn_of _ (by decide +kernel)) ggX7_comes_X7_serves
theorem dX7_comes_0 : decode cX7_comes 0 = .ok (.aload_n 0, 1) := by decide +kernel
theorem dX7_comes_1 : decode cX7_comes 1 = .ok (.getfield 19, 3) := by decide +kernel
theorem dX7_comes_4 : decode cX7_comes 4 = .ok (.iconst 3, 1) := by decide +kernel
theorem dX7_comes_5 : decode cX7_comes 5 = .ok (.if_icmp .ne 11, 3) := by decide +kernel
theorem dX7_comes_8 : decode cX7_comes 8 = .ok (.aload_n 0, 1) := by decide +kernel
theorem dX7_comes_9 : decode cX7_comes 9 = .ok (.iload_n 1, 1) := by decide +kernel
theorem dX7_comes_10 : decode cX7_comes 10 = .ok (.iload_n 2, 1) := by decide +kernel
theorem dX7_comes_11 : decode cX7_comes 11 = .ok (.invokevirtual 152, 3) := by decide +kernel
theorem dX7_comes_14 : decode cX7_comes 14 = .ok (.iconst 1, 1) := by decide +kernel
theorem dX7_comes_15 : decode cX7_comes 15 = .ok (.ireturn, 1) := by decide +kernel
theorem dX7_comes_16 : decode cX7_comes 16 = .ok (.aload_n 0, 1) := by decide +kernel
theorem dX7_comes_17 : decode cX7_comes 17 = .ok (.getfield 156, 3) := by decide +kernel
theorem dX7_comes_20 : decode cX7_comes 20 = .ok (.aload_n 0, 1) := by decide +kernel
theorem dX7_comes_21 : decode cX7_comes 21 = .ok (.getfield 13, 3) := by decide +kernel
theorem dX7_comes_24 : decode cX7_comes 24 = .ok (.if_icmp .lt 5, 3) := by decide +kernel
theorem dX7_comes_27 : decode cX7_comes 27 = .ok (.iconst 0, 1) := by decide +kernel
theorem dX7_comes_28 : decode cX7_comes 28 = .ok (.ireturn, 1) := by decide +kernel
theorem dX7_comes_29 : decode cX7_comes 29 = .ok (.aload_n 0, 1) := by decide +kernel
theorem dX7_comes_30 : decode cX7_comes 30 = .ok (.getfield 22, 3) := by decide +kernel
theorem dX7_comes_33 : decode cX7_comes 33 = .ok (.aload_n 0, 1) := by decide +kernel
theorem dX7_comes_34 : decode cX7_comes 34 = .ok (.getfield 156, 3) := by decide +kernel
theorem dX7_comes_37 : decode cX7_comes 37 = .ok (.iload_n 1, 1) := by decide +kernel
theorem dX7_comes_38 : decode cX7_comes 38 = .ok (.iastore, 1) := by decide +kernel
theorem dX7_comes_39 : decode cX7_comes 39 = .ok (.aload_n 0, 1) := by decide +kernel
theorem dX7_comes_40 : decode cX7_comes 40 = .ok (.getfield 26, 3) := by decide +kernel
theorem dX7_comes_43 : decode cX7_comes 43 = .ok (.aload_n 0, 1) := by decide +kernel
theorem dX7_comes_44 : decode cX7_comes 44 = .ok (.getfield 156, 3) := by decide +kernel
theorem dX7_comes_47 : decode cX7_comes 47 = .ok (.iload_n 2, 1) := by decide +kernel
theorem dX7_comes_48 : decode cX7_comes 48 = .ok (.iastore, 1) := by decide +kernel
theorem dX7_comes_49 : decode cX7_comes 49 = .ok (.aload_n 0, 1) := by decide +kernel
theorem dX7_comes_50 : decode cX7_comes 50 = .ok (.dup, 1) := by decide +kernel
theorem dX7_comes_51 : decode cX7_comes 51 = .ok (.getfield 156, 3) := by decide +kernel
theorem dX7_comes_54 : decode cX7_comes 54 = .ok (.iconst 1, 1) := by decide +kernel
theorem dX7_comes_55 : decode cX7_comes 55 = .ok (.iadd, 1) := by decide +kernel
theorem dX7_comes_56 : decode cX7_comes 56 = .ok (.putfield 156, 3) := by decide +kernel
theorem dX7_comes_59 : decode cX7_comes 59 = .ok (.aload_n 0, 1) := by decide +kernel
theorem dX7_comes_60 : decode cX7_comes 60 = .ok (.aload_n 0, 1) := by decide +kernel
theorem dX7_comes_61 : decode cX7_comes 61 = .ok (.getfield 156, 3) := by decide +kernel
theorem dX7_comes_64 : decode cX7_comes 64 = .ok (.aload_n 0, 1) := by decide +kernel
theorem dX7_comes_65 : decode cX7_comes 65 = .ok (.getfield 159, 3) := by decide +kernel
theorem dX7_comes_68 : decode cX7_comes 68 = .ok (.if_icmp .le 10, 3) := by decide +kernel
theorem dX7_comes_71 : decode cX7_comes 71 = .ok (.aload_n 0, 1) := by decide +kernel
theorem dX7_comes_72 : decode cX7_comes 72 = .ok (.getfield 156, 3) := by decide +kernel
theorem dX7_comes_75 : decode cX7_comes 75 = .ok (.goto 7, 3) := by decide +kernel
theorem dX7_comes_78 : decode cX7_comes 78 = .ok (.aload_n 0, 1) := by decide +kernel
theorem dX7_comes_79 : decode cX7_comes 79 = .ok (.getfield 159, 3) := by decide +kernel
theorem dX7_comes_82 : decode cX7_comes 82 = .ok (.putfield 159, 3) := by decide +kernel
theorem dX7_comes_85 : decode cX7_comes 85 = .ok (.iconst 1, 1) := by decide +kernel
theorem dX7_comes_86 : decode cX7_comes 86 = .ok (.ireturn, 1) := by decide +kernel
set_option maxRecDepth 20000 in
theorem ggX7_leaves_X7_placeOf : GoodIn wsX7_leaves wsX7_placeOf := goodIn_r _ [14, 15, 22, 23, 24, 25, 26, 27, 28, 29, 30, 31, 32, 33, 34, 35, 36, 37, 38, 39, 40, 41, 42, 43, 44, 45, 46, 47, 48, 49, 50, 51, 52, 53, 54, 55, 56, 57, 58, 59, 60, 61, 62, 63, 64, 65, 66, 67, 68, 69, 70, 71] (by decide +kernel) (by decide +kernel)
set_option maxRecDepth 20000 in
theorem gX7_leaves_X7_placeOf : GoodIn wsX7_leaves (wsV RX7 162 RX7 yX7_placeOf wsX7_placeOf) := goodIn_app (goodIn_of _ (by decide +kernel)) ggX7_leaves_X7_placeOf
set_option maxRecDepth 20000 in
theorem ggX7_leaves_X7_serves : GoodIn wsX7_leaves wsX7_serves := goodIn_r _ [19, 2, 4, 5, 20, 21, 22, 23, 24, 25, 26, 27, 28, 29, 30, 31, 32, 33, 34, 35, 36, 37, 38, 39, 40, 41, 42, 43, 44, 45, 46, 47, 48, 49, 50, 51, 52, 53, 54, 55, 56, 57, 58, 59, 60, 61, 62, 63, 64, 65, 66, 67, 68, 69, 70, 71] (by decide +kernel) (by decide +kernel)
set_option maxRecDepth 20000 in
theorem gX7_leaves_X7_serves : GoodIn wsX7_leaves (wsV RX7 152 RX7 yX7_serves wsX7_serves) := goodIn_app (goodIn_of _ (by decide +kernel)) ggX7_leaves_X7_serves
theorem dX7_leaves_0 : decode cX7_leaves 0 = .ok (.aload_n 0, 1) := by decide +kernel
theorem dX7_leaves_1 : decode cX7_leaves 1 = .ok (.getfield 29, 3) := by decide +kernel
theorem dX7_leaves_4 : decode cX7_leaves 4 = .ok (.aload_n 0, 1) := by decide +kernel
theorem dX7_leaves_5 : decode cX7_leaves 5 = .ok (.getfield 19, 3) := by decide +kernel
theorem dX7_leaves_8 : decode cX7_leaves 8 = .ok (.dup2, 1) := by decide +kernel
theorem dX7_leaves_9 : decode cX7_leaves 9 = .ok (.iaload, 1) := by decide +kernel
theorem dX7_leaves_10 : decode cX7_leaves 10 = .ok (.iconst 1, 1) := by decide +kernel
theorem dX7_leaves_11 : decode cX7_leaves 11 = .ok (.iadd, 1) := by decide +kernel
theorem dX7_leaves_12 : decode cX7_leaves 12 = .ok (.iastore, 1) := by decide +kernel
theorem dX7_leaves_13 : decode cX7_leaves 13 = .ok (.aload_n 0, 1) := by decide +kernel
theorem dX7_leaves_14 : decode cX7_leaves 14 = .ok (.getfield 19, 3) := by decide +kernel
theorem dX7_leaves_17 : decode cX7_leaves 17 = .ok (.iconst 2, 1) := by decide +kernel
theorem dX7_leaves_18 : decode cX7_leaves 18 = .ok (.if_icmp .eq 38, 3) := by decide +kernel
theorem dX7_leaves_21 : decode cX7_leaves 21 = .ok (.aload_n 0, 1) := by decide +kernel
theorem dX7_leaves_22 : decode cX7_leaves 22 = .ok (.getfield 51, 3) := by decide +kernel
theorem dX7_leaves_25 : decode cX7_leaves 25 = .ok (.sipush 512, 3) := by decide +kernel
theorem dX7_leaves_28 : decode cX7_leaves 28 = .ok (.aload_n 0, 1) := by decide +kernel
theorem dX7_leaves_29 : decode cX7_leaves 29 = .ok (.getfield 19, 3) := by decide +kernel
theorem dX7_leaves_32 : decode cX7_leaves 32 = .ok (.imul, 1) := by decide +kernel
theorem dX7_leaves_33 : decode cX7_leaves 33 = .ok (.aload_n 0, 1) := by decide +kernel
theorem dX7_leaves_34 : decode cX7_leaves 34 = .ok (.aload_n 0, 1) := by decide +kernel
theorem dX7_leaves_35 : decode cX7_leaves 35 = .ok (.getfield 19, 3) := by decide +kernel
theorem dX7_leaves_38 : decode cX7_leaves 38 = .ok (.aload_n 0, 1) := by decide +kernel
theorem dX7_leaves_39 : decode cX7_leaves 39 = .ok (.getfield 143, 3) := by decide +kernel
theorem dX7_leaves_42 : decode cX7_leaves 42 = .ok (.invokevirtual 162, 3) := by decide +kernel
theorem dX7_leaves_45 : decode cX7_leaves 45 = .ok (.iadd, 1) := by decide +kernel
theorem dX7_leaves_46 : decode cX7_leaves 46 = .ok (.aload_n 0, 1) := by decide +kernel
theorem dX7_leaves_47 : decode cX7_leaves 47 = .ok (.getfield 146, 3) := by decide +kernel
theorem dX7_leaves_50 : decode cX7_leaves 50 = .ok (.aload_n 0, 1) := by decide +kernel
theorem dX7_leaves_51 : decode cX7_leaves 51 = .ok (.getfield 16, 3) := by decide +kernel
theorem dX7_leaves_54 : decode cX7_leaves 54 = .ok (.iadd, 1) := by decide +kernel
theorem dX7_leaves_55 : decode cX7_leaves 55 = .ok (.iastore, 1) := by decide +kernel
theorem dX7_leaves_56 : decode cX7_leaves 56 = .ok (.aload_n 0, 1) := by decide +kernel
theorem dX7_leaves_57 : decode cX7_leaves 57 = .ok (.iconst 3, 1) := by decide +kernel
theorem dX7_leaves_58 : decode cX7_leaves 58 = .ok (.putfield 19, 3) := by decide +kernel
theorem dX7_leaves_61 : decode cX7_leaves 61 = .ok (.aload_n 0, 1) := by decide +kernel
theorem dX7_leaves_62 : decode cX7_leaves 62 = .ok (.getfield 156, 3) := by decide +kernel
theorem dX7_leaves_65 : decode cX7_leaves 65 = .ok (.ifCond .le 73, 3) := by decide +kernel
theorem dX7_leaves_68 : decode cX7_leaves 68 = .ok (.aload_n 0, 1) := by decide +kernel
theorem dX7_leaves_69 : decode cX7_leaves 69 = .ok (.aload_n 0, 1) := by decide +kernel
theorem dX7_leaves_70 : decode cX7_leaves 70 = .ok (.getfield 22, 3) := by decide +kernel
theorem dX7_leaves_73 : decode cX7_leaves 73 = .ok (.iconst 0, 1) := by decide +kernel
theorem dX7_leaves_74 : decode cX7_leaves 74 = .ok (.iaload, 1) := by decide +kernel
theorem dX7_leaves_75 : decode cX7_leaves 75 = .ok (.aload_n 0, 1) := by decide +kernel
theorem dX7_leaves_76 : decode cX7_leaves 76 = .ok (.getfield 26, 3) := by decide +kernel
theorem dX7_leaves_79 : decode cX7_leaves 79 = .ok (.iconst 0, 1) := by decide +kernel
theorem dX7_leaves_80 : decode cX7_leaves 80 = .ok (.iaload, 1) := by decide +kernel
theorem dX7_leaves_81 : decode cX7_leaves 81 = .ok (.invokevirtual 152, 3) := by decide +kernel
theorem dX7_leaves_84 : decode cX7_leaves 84 = .ok (.aload_n 0, 1) := by decide +kernel
theorem dX7_leaves_85 : decode cX7_leaves 85 = .ok (.dup, 1) := by decide +kernel
theorem dX7_leaves_86 : decode cX7_leaves 86 = .ok (.getfield 156, 3) := by decide +kernel
theorem dX7_leaves_89 : decode cX7_leaves 89 = .ok (.iconst 1, 1) := by decide +kernel
theorem dX7_leaves_90 : decode cX7_leaves 90 = .ok (.isub, 1) := by decide +kernel
theorem dX7_leaves_91 : decode cX7_leaves 91 = .ok (.putfield 156, 3) := by decide +kernel
theorem dX7_leaves_94 : decode cX7_leaves 94 = .ok (.iconst 0, 1) := by decide +kernel
theorem dX7_leaves_95 : decode cX7_leaves 95 = .ok (.istore_n 1, 1) := by decide +kernel
theorem dX7_leaves_96 : decode cX7_leaves 96 = .ok (.iload_n 1, 1) := by decide +kernel
theorem dX7_leaves_97 : decode cX7_leaves 97 = .ok (.aload_n 0, 1) := by decide +kernel
theorem dX7_leaves_98 : decode cX7_leaves 98 = .ok (.getfield 156, 3) := by decide +kernel
theorem dX7_leaves_101 : decode cX7_leaves 101 = .ok (.if_icmp .ge 37, 3) := by decide +kernel
theorem dX7_leaves_104 : decode cX7_leaves 104 = .ok (.aload_n 0, 1) := by decide +kernel
theorem dX7_leaves_105 : decode cX7_leaves 105 = .ok (.getfield 22, 3) := by decide +kernel
theorem dX7_leaves_108 : decode cX7_leaves 108 = .ok (.iload_n 1, 1) := by decide +kernel
theorem dX7_leaves_109 : decode cX7_leaves 109 = .ok (.aload_n 0, 1) := by decide +kernel
theorem dX7_leaves_110 : decode cX7_leaves 110 = .ok (.getfield 22, 3) := by decide +kernel
theorem dX7_leaves_113 : decode cX7_leaves 113 = .ok (.iload_n 1, 1) := by decide +kernel
theorem dX7_leaves_114 : decode cX7_leaves 114 = .ok (.iconst 1, 1) := by decide +kernel
theorem dX7_leaves_115 : decode cX7_leaves 115 = .ok (.iadd, 1) := by decide +kernel
theorem dX7_leaves_116 : decode cX7_leaves 116 = .ok (.iaload, 1) := by decide +kernel
theorem dX7_leaves_117 : decode cX7_leaves 117 = .ok (.iastore, 1) := by decide +kernel
theorem dX7_leaves_118 : decode cX7_leaves 118 = .ok (.aload_n 0, 1) := by decide +kernel
theorem dX7_leaves_119 : decode cX7_leaves 119 = .ok (.getfield 26, 3) := by decide +kernel
theorem dX7_leaves_122 : decode cX7_leaves 122 = .ok (.iload_n 1, 1) := by decide +kernel
theorem dX7_leaves_123 : decode cX7_leaves 123 = .ok (.aload_n 0, 1) := by decide +kernel
theorem dX7_leaves_124 : decode cX7_leaves 124 = .ok (.getfield 26, 3) := by decide +kernel
theorem dX7_leaves_127 : decode cX7_leaves 127 = .ok (.iload_n 1, 1) := by decide +kernel
theorem dX7_leaves_128 : decode cX7_leaves 128 = .ok (.iconst 1, 1) := by decide +kernel
theorem dX7_leaves_129 : decode cX7_leaves 129 = .ok (.iadd, 1) := by decide +kernel
theorem dX7_leaves_130 : decode cX7_leaves 130 = .ok (.iaload, 1) := by decide +kernel
theorem dX7_leaves_131 : decode cX7_leaves 131 = .ok (.iastore, 1) := by decide +kernel
theorem dX7_leaves_132 : decode cX7_leaves 132 = .ok (.iinc 1 1, 3) := by decide +kernel
theorem dX7_leaves_135 : decode cX7_leaves 135 = .ok (.goto (-39), 3) := by decide +kernel
theorem dX7_leaves_138 : decode cX7_leaves 138 = .ok (.return_, 1) := by decide +kernel
theorem dX7_placeOf_0 : decode cX7_placeOf 0 = .ok (.iconst 0, 1) := by decide +kernel
theorem dX7_placeOf_1 : decode cX7_placeOf 1 = .ok (.istore_n 3, 1) := by decide +kernel
theorem dX7_placeOf_2 : decode cX7_placeOf 2 = .ok (.aload_n 0, 1) := by decide +kernel
theorem dX7_placeOf_3 : decode cX7_placeOf 3 = .ok (.getfield 35, 3) := by decide +kernel
theorem dX7_placeOf_6 : decode cX7_placeOf 6 = .ok (.sipush 512, 3) := by decide +kernel
theorem dX7_placeOf_9 : decode cX7_placeOf 9 = .ok (.iload_n 1, 1) := by decide +kernel
theorem dX7_placeOf_10 : decode cX7_placeOf 10 = .ok (.imul, 1) := by decide +kernel
theorem dX7_placeOf_11 : decode cX7_placeOf 11 = .ok (.iload_n 3, 1) := by decide +kernel
theorem dX7_placeOf_12 : decode cX7_placeOf 12 = .ok (.iadd, 1) := by decide +kernel
theorem dX7_placeOf_13 : decode cX7_placeOf 13 = .ok (.iaload, 1) := by decide +kernel
theorem dX7_placeOf_14 : decode cX7_placeOf 14 = .ok (.iload_n 2, 1) := by decide +kernel
theorem dX7_placeOf_15 : decode cX7_placeOf 15 = .ok (.if_icmp .eq 9, 3) := by decide +kernel
theorem dX7_placeOf_18 : decode cX7_placeOf 18 = .ok (.iinc 3 1, 3) := by decide +kernel
theorem dX7_placeOf_21 : decode cX7_placeOf 21 = .ok (.goto (-19), 3) := by decide +kernel
theorem dX7_placeOf_24 : decode cX7_placeOf 24 = .ok (.iload_n 3, 1) := by decide +kernel
theorem dX7_placeOf_25 : decode cX7_placeOf 25 = .ok (.ireturn, 1) := by decide +kernel
theorem dX7_takesOff_0 : decode cX7_takesOff 0 = .ok (.aload_n 0, 1) := by decide +kernel
theorem dX7_takesOff_1 : decode cX7_takesOff 1 = .ok (.getfield 32, 3) := by decide +kernel
theorem dX7_takesOff_4 : decode cX7_takesOff 4 = .ok (.iload_n 1, 1) := by decide +kernel
theorem dX7_takesOff_5 : decode cX7_takesOff 5 = .ok (.dup2, 1) := by decide +kernel
theorem dX7_takesOff_6 : decode cX7_takesOff 6 = .ok (.iaload, 1) := by decide +kernel
theorem dX7_takesOff_7 : decode cX7_takesOff 7 = .ok (.iconst 1, 1) := by decide +kernel
theorem dX7_takesOff_8 : decode cX7_takesOff 8 = .ok (.isub, 1) := by decide +kernel
theorem dX7_takesOff_9 : decode cX7_takesOff 9 = .ok (.iastore, 1) := by decide +kernel
theorem dX7_takesOff_10 : decode cX7_takesOff 10 = .ok (.iload_n 2, 1) := by decide +kernel
theorem dX7_takesOff_11 : decode cX7_takesOff 11 = .ok (.istore_n 3, 1) := by decide +kernel
theorem dX7_takesOff_12 : decode cX7_takesOff 12 = .ok (.iload_n 3, 1) := by decide +kernel
theorem dX7_takesOff_13 : decode cX7_takesOff 13 = .ok (.aload_n 0, 1) := by decide +kernel
theorem dX7_takesOff_14 : decode cX7_takesOff 14 = .ok (.getfield 32, 3) := by decide +kernel
theorem dX7_takesOff_17 : decode cX7_takesOff 17 = .ok (.iload_n 1, 1) := by decide +kernel
theorem dX7_takesOff_18 : decode cX7_takesOff 18 = .ok (.iaload, 1) := by decide +kernel
theorem dX7_takesOff_19 : decode cX7_takesOff 19 = .ok (.if_icmp .ge 114, 3) := by decide +kernel
theorem dX7_takesOff_22 : decode cX7_takesOff 22 = .ok (.sipush 512, 3) := by decide +kernel
theorem dX7_takesOff_25 : decode cX7_takesOff 25 = .ok (.iload_n 1, 1) := by decide +kernel
theorem dX7_takesOff_26 : decode cX7_takesOff 26 = .ok (.imul, 1) := by decide +kernel
theorem dX7_takesOff_27 : decode cX7_takesOff 27 = .ok (.iload_n 3, 1) := by decide +kernel
theorem dX7_takesOff_28 : decode cX7_takesOff 28 = .ok (.iadd, 1) := by decide +kernel
theorem dX7_takesOff_29 : decode cX7_takesOff 29 = .ok (.istore 4, 2) := by decide +kernel
theorem dX7_takesOff_31 : decode cX7_takesOff 31 = .ok (.aload_n 0, 1) := by decide +kernel
theorem dX7_takesOff_32 : decode cX7_takesOff 32 = .ok (.getfield 35, 3) := by decide +kernel
theorem dX7_takesOff_35 : decode cX7_takesOff 35 = .ok (.iload 4, 2) := by decide +kernel
theorem dX7_takesOff_37 : decode cX7_takesOff 37 = .ok (.aload_n 0, 1) := by decide +kernel
theorem dX7_takesOff_38 : decode cX7_takesOff 38 = .ok (.getfield 35, 3) := by decide +kernel
theorem dX7_takesOff_41 : decode cX7_takesOff 41 = .ok (.iload 4, 2) := by decide +kernel
theorem dX7_takesOff_43 : decode cX7_takesOff 43 = .ok (.iconst 1, 1) := by decide +kernel
theorem dX7_takesOff_44 : decode cX7_takesOff 44 = .ok (.iadd, 1) := by decide +kernel
theorem dX7_takesOff_45 : decode cX7_takesOff 45 = .ok (.iaload, 1) := by decide +kernel
theorem dX7_takesOff_46 : decode cX7_takesOff 46 = .ok (.iastore, 1) := by decide +kernel
theorem dX7_takesOff_47 : decode cX7_takesOff 47 = .ok (.aload_n 0, 1) := by decide +kernel
theorem dX7_takesOff_48 : decode cX7_takesOff 48 = .ok (.getfield 38, 3) := by decide +kernel
theorem dX7_takesOff_51 : decode cX7_takesOff 51 = .ok (.iload 4, 2) := by decide +kernel
theorem dX7_takesOff_53 : decode cX7_takesOff 53 = .ok (.aload_n 0, 1) := by decide +kernel
theorem dX7_takesOff_54 : decode cX7_takesOff 54 = .ok (.getfield 38, 3) := by decide +kernel
theorem dX7_takesOff_57 : decode cX7_takesOff 57 = .ok (.iload 4, 2) := by decide +kernel
theorem dX7_takesOff_59 : decode cX7_takesOff 59 = .ok (.iconst 1, 1) := by decide +kernel
theorem dX7_takesOff_60 : decode cX7_takesOff 60 = .ok (.iadd, 1) := by decide +kernel
theorem dX7_takesOff_61 : decode cX7_takesOff 61 = .ok (.iaload, 1) := by decide +kernel
theorem dX7_takesOff_62 : decode cX7_takesOff 62 = .ok (.iastore, 1) := by decide +kernel
theorem dX7_takesOff_63 : decode cX7_takesOff 63 = .ok (.aload_n 0, 1) := by decide +kernel
theorem dX7_takesOff_64 : decode cX7_takesOff 64 = .ok (.getfield 41, 3) := by decide +kernel
theorem dX7_takesOff_67 : decode cX7_takesOff 67 = .ok (.iload 4, 2) := by decide +kernel
theorem dX7_takesOff_69 : decode cX7_takesOff 69 = .ok (.aload_n 0, 1) := by decide +kernel
theorem dX7_takesOff_70 : decode cX7_takesOff 70 = .ok (.getfield 41, 3) := by decide +kernel
theorem dX7_takesOff_73 : decode cX7_takesOff 73 = .ok (.iload 4, 2) := by decide +kernel
theorem dX7_takesOff_75 : decode cX7_takesOff 75 = .ok (.iconst 1, 1) := by decide +kernel
theorem dX7_takesOff_76 : decode cX7_takesOff 76 = .ok (.iadd, 1) := by decide +kernel
theorem dX7_takesOff_77 : decode cX7_takesOff 77 = .ok (.iaload, 1) := by decide +kernel
theorem dX7_takesOff_78 : decode cX7_takesOff 78 = .ok (.iastore, 1) := by decide +kernel
theorem dX7_takesOff_79 : decode cX7_takesOff 79 = .ok (.aload_n 0, 1) := by decide +kernel
theorem dX7_takesOff_80 : decode cX7_takesOff 80 = .ok (.getfield 44, 3) := by decide +kernel
theorem dX7_takesOff_83 : decode cX7_takesOff 83 = .ok (.iload 4, 2) := by decide +kernel
theorem dX7_takesOff_85 : decode cX7_takesOff 85 = .ok (.aload_n 0, 1) := by decide +kernel
theorem dX7_takesOff_86 : decode cX7_takesOff 86 = .ok (.getfield 44, 3) := by decide +kernel
theorem dX7_takesOff_89 : decode cX7_takesOff 89 = .ok (.iload 4, 2) := by decide +kernel
theorem dX7_takesOff_91 : decode cX7_takesOff 91 = .ok (.iconst 1, 1) := by decide +kernel
theorem dX7_takesOff_92 : decode cX7_takesOff 92 = .ok (.iadd, 1) := by decide +kernel
theorem dX7_takesOff_93 : decode cX7_takesOff 93 = .ok (.iaload, 1) := by decide +kernel
theorem dX7_takesOff_94 : decode cX7_takesOff 94 = .ok (.iastore, 1) := by decide +kernel
theorem dX7_takesOff_95 : decode cX7_takesOff 95 = .ok (.aload_n 0, 1) := by decide +kernel
theorem dX7_takesOff_96 : decode cX7_takesOff 96 = .ok (.getfield 47, 3) := by decide +kernel
theorem dX7_takesOff_99 : decode cX7_takesOff 99 = .ok (.iload 4, 2) := by decide +kernel
theorem dX7_takesOff_101 : decode cX7_takesOff 101 = .ok (.aload_n 0, 1) := by decide +kernel
theorem dX7_takesOff_102 : decode cX7_takesOff 102 = .ok (.getfield 47, 3) := by decide +kernel
theorem dX7_takesOff_105 : decode cX7_takesOff 105 = .ok (.iload 4, 2) := by decide +kernel
theorem dX7_takesOff_107 : decode cX7_takesOff 107 = .ok (.iconst 1, 1) := by decide +kernel
theorem dX7_takesOff_108 : decode cX7_takesOff 108 = .ok (.iadd, 1) := by decide +kernel
theorem dX7_takesOff_109 : decode cX7_takesOff 109 = .ok (.baload, 1) := by decide +kernel
theorem dX7_takesOff_110 : decode cX7_takesOff 110 = .ok (.bastore, 1) := by decide +kernel
theorem dX7_takesOff_111 : decode cX7_takesOff 111 = .ok (.aload_n 0, 1) := by decide +kernel
theorem dX7_takesOff_112 : decode cX7_takesOff 112 = .ok (.getfield 51, 3) := by decide +kernel
theorem dX7_takesOff_115 : decode cX7_takesOff 115 = .ok (.iload 4, 2) := by decide +kernel
theorem dX7_takesOff_117 : decode cX7_takesOff 117 = .ok (.aload_n 0, 1) := by decide +kernel
theorem dX7_takesOff_118 : decode cX7_takesOff 118 = .ok (.getfield 51, 3) := by decide +kernel
theorem dX7_takesOff_121 : decode cX7_takesOff 121 = .ok (.iload 4, 2) := by decide +kernel
theorem dX7_takesOff_123 : decode cX7_takesOff 123 = .ok (.iconst 1, 1) := by decide +kernel
theorem dX7_takesOff_124 : decode cX7_takesOff 124 = .ok (.iadd, 1) := by decide +kernel
theorem dX7_takesOff_125 : decode cX7_takesOff 125 = .ok (.iaload, 1) := by decide +kernel
theorem dX7_takesOff_126 : decode cX7_takesOff 126 = .ok (.iastore, 1) := by decide +kernel
theorem dX7_takesOff_127 : decode cX7_takesOff 127 = .ok (.iinc 3 1, 3) := by decide +kernel
theorem dX7_takesOff_130 : decode cX7_takesOff 130 = .ok (.goto (-118), 3) := by decide +kernel
theorem dX7_takesOff_133 : decode cX7_takesOff 133 = .ok (.return_, 1) := by decide +kernel
set_option maxRecDepth 20000 in
theorem ggX7_stock_X7_isSender : GoodIn wsX7_stock wsX7_isSender := goodIn_r _ [6, 7, 8, 5, 9] (by decide +kernel) (by decide +kernel)
set_option maxRecDepth 20000 in
theorem gX7_stock_X7_isSender : GoodIn wsX7_stock (va_wsS RX7 166 yX7_isSender wsX7_isSender) := goodIn_app (goodIn_of _ (by decide +kernel)) ggX7_stock_X7_isSender
set_option maxRecDepth 20000 in
theorem ggX7_stock_X7_within : GoodIn wsX7_stock wsX7_within := goodIn_r _ [9] (by decide +kernel) (by decide +kernel)
set_option maxRecDepth 20000 in
theorem gX7_stock_X7_within : GoodIn wsX7_stock (va_wsS RX7 136 yX7_within wsX7_within) := goodIn_app (goodIn_of _ (by decide +kernel)) ggX7_stock_X7_within
theorem dX7_stock_0 : decode cX7_stock 0 = .ok (.iload_n 1, 1) := by decide +kernel
theorem dX7_stock_1 : decode cX7_stock 1 = .ok (.invokestatic 166, 3) := by decide +kernel
theorem dX7_stock_4 : decode cX7_stock 4 = .ok (.ifCond .ne 5, 3) := by decide +kernel
theorem dX7_stock_7 : decode cX7_stock 7 = .ok (.iconst (-1), 1) := by decide +kernel
theorem dX7_stock_8 : decode cX7_stock 8 = .ok (.ireturn, 1) := by decide +kernel
theorem dX7_stock_9 : decode cX7_stock 9 = .ok (.iload_n 2, 1) := by decide +kernel
theorem dX7_stock_10 : decode cX7_stock 10 = .ok (.iconst 1, 1) := by decide +kernel
theorem dX7_stock_11 : decode cX7_stock 11 = .ok (.sipush 5000, 3) := by decide +kernel
theorem dX7_stock_14 : decode cX7_stock 14 = .ok (.invokestatic 136, 3) := by decide +kernel
theorem dX7_stock_17 : decode cX7_stock 17 = .ok (.ifCond .ne 6, 3) := by decide +kernel
theorem dX7_stock_20 : decode cX7_stock 20 = .ok (.bipush (-2), 2) := by decide +kernel
theorem dX7_stock_22 : decode cX7_stock 22 = .ok (.ireturn, 1) := by decide +kernel
theorem dX7_stock_23 : decode cX7_stock 23 = .ok (.aload_n 0, 1) := by decide +kernel
theorem dX7_stock_24 : decode cX7_stock 24 = .ok (.getfield 54, 3) := by decide +kernel
theorem dX7_stock_27 : decode cX7_stock 27 = .ok (.iload_n 1, 1) := by decide +kernel
theorem dX7_stock_28 : decode cX7_stock 28 = .ok (.iaload, 1) := by decide +kernel
theorem dX7_stock_29 : decode cX7_stock 29 = .ok (.iload_n 2, 1) := by decide +kernel
theorem dX7_stock_30 : decode cX7_stock 30 = .ok (.iadd, 1) := by decide +kernel
theorem dX7_stock_31 : decode cX7_stock 31 = .ok (.ldc 170, 2) := by decide +kernel
theorem dX7_stock_33 : decode cX7_stock 33 = .ok (.if_icmp .le 6, 3) := by decide +kernel
theorem dX7_stock_36 : decode cX7_stock 36 = .ok (.bipush (-4), 2) := by decide +kernel
theorem dX7_stock_38 : decode cX7_stock 38 = .ok (.ireturn, 1) := by decide +kernel
theorem dX7_stock_39 : decode cX7_stock 39 = .ok (.aload_n 0, 1) := by decide +kernel
theorem dX7_stock_40 : decode cX7_stock 40 = .ok (.getfield 54, 3) := by decide +kernel
theorem dX7_stock_43 : decode cX7_stock 43 = .ok (.iload_n 1, 1) := by decide +kernel
theorem dX7_stock_44 : decode cX7_stock 44 = .ok (.dup2, 1) := by decide +kernel
theorem dX7_stock_45 : decode cX7_stock 45 = .ok (.iaload, 1) := by decide +kernel
theorem dX7_stock_46 : decode cX7_stock 46 = .ok (.iload_n 2, 1) := by decide +kernel
theorem dX7_stock_47 : decode cX7_stock 47 = .ok (.iadd, 1) := by decide +kernel
theorem dX7_stock_48 : decode cX7_stock 48 = .ok (.iastore, 1) := by decide +kernel
theorem dX7_stock_49 : decode cX7_stock 49 = .ok (.aload_n 0, 1) := by decide +kernel
theorem dX7_stock_50 : decode cX7_stock 50 = .ok (.getfield 54, 3) := by decide +kernel
theorem dX7_stock_53 : decode cX7_stock 53 = .ok (.iload_n 1, 1) := by decide +kernel
theorem dX7_stock_54 : decode cX7_stock 54 = .ok (.iaload, 1) := by decide +kernel
theorem dX7_stock_55 : decode cX7_stock 55 = .ok (.ireturn, 1) := by decide +kernel
theorem dX7_product_0 : decode cX7_product 0 = .ok (.aload_n 0, 1) := by decide +kernel
theorem dX7_product_1 : decode cX7_product 1 = .ok (.getfield 78, 3) := by decide +kernel
theorem dX7_product_4 : decode cX7_product 4 = .ok (.iload_n 1, 1) := by decide +kernel
theorem dX7_product_5 : decode cX7_product 5 = .ok (.iaload, 1) := by decide +kernel
theorem dX7_product_6 : decode cX7_product 6 = .ok (.bipush (-9), 2) := by decide +kernel
theorem dX7_product_8 : decode cX7_product 8 = .ok (.if_icmp .ne 7, 3) := by decide +kernel
theorem dX7_product_11 : decode cX7_product 11 = .ok (.lconst 0, 1) := by decide +kernel
theorem dX7_product_12 : decode cX7_product 12 = .ok (.goto 22, 3) := by decide +kernel
theorem dX7_product_15 : decode cX7_product 15 = .ok (.aload_n 0, 1) := by decide +kernel
theorem dX7_product_16 : decode cX7_product 16 = .ok (.getfield 75, 3) := by decide +kernel
theorem dX7_product_19 : decode cX7_product 19 = .ok (.iload_n 1, 1) := by decide +kernel
theorem dX7_product_20 : decode cX7_product 20 = .ok (.iaload, 1) := by decide +kernel
theorem dX7_product_21 : decode cX7_product 21 = .ok (.i2l, 1) := by decide +kernel
theorem dX7_product_22 : decode cX7_product 22 = .ok (.aload_n 0, 1) := by decide +kernel
theorem dX7_product_23 : decode cX7_product 23 = .ok (.getfield 78, 3) := by decide +kernel
theorem dX7_product_26 : decode cX7_product 26 = .ok (.iload_n 1, 1) := by decide +kernel
theorem dX7_product_27 : decode cX7_product 27 = .ok (.iaload, 1) := by decide +kernel
theorem dX7_product_28 : decode cX7_product 28 = .ok (.i2l, 1) := by decide +kernel
theorem dX7_product_29 : decode cX7_product 29 = .ok (.lmul, 1) := by decide +kernel
theorem dX7_product_30 : decode cX7_product 30 = .ok (.ldc2_w 171, 3) := by decide +kernel
theorem dX7_product_33 : decode cX7_product 33 = .ok (.ldiv, 1) := by decide +kernel
theorem dX7_product_34 : decode cX7_product 34 = .ok (.lreturn, 1) := by decide +kernel
set_option maxRecDepth 20000 in
theorem ggX7_window_X7_product : GoodIn wsX7_window wsX7_product := goodIn_r _ [13, 4, 3, 14, 15, 16, 17, 18, 19, 20, 21, 22, 23, 24, 25, 26, 27, 28, 29, 30, 31, 32, 33, 34, 35, 36, 37, 38, 39, 40, 41, 42, 43, 44, 45, 46, 47, 48, 49, 50, 51, 52, 53, 54, 55, 56, 57, 58, 59, 60, 61, 62, 63, 64] (by decide +kernel) (by decide +kernel)
set_option maxRecDepth 20000 in
theorem gX7_window_X7_product : GoodIn wsX7_window (wsV RX7 179 RX7 yX7_product wsX7_product) := goodIn_app (goodIn_of _ (by decide +kernel)) ggX7_window_X7_product
theorem dX7_window_0 : decode cX7_window 0 = .ok (.aload_n 0, 1) := by decide +kernel
theorem dX7_window_1 : decode cX7_window 1 = .ok (.getfield 103, 3) := by decide +kernel
theorem dX7_window_4 : decode cX7_window 4 = .ok (.iload_n 1, 1) := by decide +kernel
theorem dX7_window_5 : decode cX7_window 5 = .ok (.iaload, 1) := by decide +kernel
theorem dX7_window_6 : decode cX7_window 6 = .ok (.iconst 3, 1) := by decide +kernel
theorem dX7_window_7 : decode cX7_window 7 = .ok (.if_icmp .ne 7, 3) := by decide +kernel
theorem dX7_window_10 : decode cX7_window 10 = .ok (.ldc2_w 173, 3) := by decide +kernel
theorem dX7_window_13 : decode cX7_window 13 = .ok (.lreturn, 1) := by decide +kernel
theorem dX7_window_14 : decode cX7_window 14 = .ok (.aload_n 0, 1) := by decide +kernel
theorem dX7_window_15 : decode cX7_window 15 = .ok (.getfield 75, 3) := by decide +kernel
theorem dX7_window_18 : decode cX7_window 18 = .ok (.iload_n 1, 1) := by decide +kernel
theorem dX7_window_19 : decode cX7_window 19 = .ok (.iaload, 1) := by decide +kernel
theorem dX7_window_20 : decode cX7_window 20 = .ok (.ifCond .eq 14, 3) := by decide +kernel
theorem dX7_window_23 : decode cX7_window 23 = .ok (.aload_n 0, 1) := by decide +kernel
theorem dX7_window_24 : decode cX7_window 24 = .ok (.getfield 78, 3) := by decide +kernel
theorem dX7_window_27 : decode cX7_window 27 = .ok (.iload_n 1, 1) := by decide +kernel
theorem dX7_window_28 : decode cX7_window 28 = .ok (.iaload, 1) := by decide +kernel
theorem dX7_window_29 : decode cX7_window 29 = .ok (.bipush (-9), 2) := by decide +kernel
theorem dX7_window_31 : decode cX7_window 31 = .ok (.if_icmp .ne 7, 3) := by decide +kernel
theorem dX7_window_34 : decode cX7_window 34 = .ok (.ldc2_w 175, 3) := by decide +kernel
theorem dX7_window_37 : decode cX7_window 37 = .ok (.lreturn, 1) := by decide +kernel
theorem dX7_window_38 : decode cX7_window 38 = .ok (.aload_n 0, 1) := by decide +kernel
theorem dX7_window_39 : decode cX7_window 39 = .ok (.getfield 103, 3) := by decide +kernel
theorem dX7_window_42 : decode cX7_window 42 = .ok (.iload_n 1, 1) := by decide +kernel
theorem dX7_window_43 : decode cX7_window 43 = .ok (.iaload, 1) := by decide +kernel
theorem dX7_window_44 : decode cX7_window 44 = .ok (.iconst 2, 1) := by decide +kernel
theorem dX7_window_45 : decode cX7_window 45 = .ok (.if_icmp .ne 15, 3) := by decide +kernel
theorem dX7_window_48 : decode cX7_window 48 = .ok (.ldc2_w 177, 3) := by decide +kernel
theorem dX7_window_51 : decode cX7_window 51 = .ok (.aload_n 0, 1) := by decide +kernel
theorem dX7_window_52 : decode cX7_window 52 = .ok (.iload_n 1, 1) := by decide +kernel
theorem dX7_window_53 : decode cX7_window 53 = .ok (.invokevirtual 179, 3) := by decide +kernel
theorem dX7_window_56 : decode cX7_window 56 = .ok (.lmul, 1) := by decide +kernel
theorem dX7_window_57 : decode cX7_window 57 = .ok (.goto 16, 3) := by decide +kernel
theorem dX7_window_60 : decode cX7_window 60 = .ok (.ldc2_w 183, 3) := by decide +kernel
theorem dX7_window_63 : decode cX7_window 63 = .ok (.aload_n 0, 1) := by decide +kernel
theorem dX7_window_64 : decode cX7_window 64 = .ok (.iload_n 1, 1) := by decide +kernel
theorem dX7_window_65 : decode cX7_window 65 = .ok (.invokevirtual 179, 3) := by decide +kernel
theorem dX7_window_68 : decode cX7_window 68 = .ok (.lmul, 1) := by decide +kernel
theorem dX7_window_69 : decode cX7_window 69 = .ok (.ldc2_w 185, 3) := by decide +kernel
theorem dX7_window_72 : decode cX7_window 72 = .ok (.ldiv, 1) := by decide +kernel
theorem dX7_window_73 : decode cX7_window 73 = .ok (.lstore_n 2, 1) := by decide +kernel
theorem dX7_window_74 : decode cX7_window 74 = .ok (.lload_n 2, 1) := by decide +kernel
theorem dX7_window_75 : decode cX7_window 75 = .ok (.ldc2_w 173, 3) := by decide +kernel
theorem dX7_window_78 : decode cX7_window 78 = .ok (.lcmp, 1) := by decide +kernel
theorem dX7_window_79 : decode cX7_window 79 = .ok (.ifCond .ge 9, 3) := by decide +kernel
theorem dX7_window_82 : decode cX7_window 82 = .ok (.ldc2_w 173, 3) := by decide +kernel
theorem dX7_window_85 : decode cX7_window 85 = .ok (.goto 4, 3) := by decide +kernel
theorem dX7_window_88 : decode cX7_window 88 = .ok (.lload_n 2, 1) := by decide +kernel
theorem dX7_window_89 : decode cX7_window 89 = .ok (.lreturn, 1) := by decide +kernel
theorem dX7_gain_0 : decode cX7_gain 0 = .ok (.aload_n 0, 1) := by decide +kernel
theorem dX7_gain_1 : decode cX7_gain 1 = .ok (.getfield 103, 3) := by decide +kernel
theorem dX7_gain_4 : decode cX7_gain 4 = .ok (.iload_n 1, 1) := by decide +kernel
theorem dX7_gain_5 : decode cX7_gain 5 = .ok (.iaload, 1) := by decide +kernel
theorem dX7_gain_6 : decode cX7_gain 6 = .ok (.tableswitch 40 0 3 #[30, 34, 40, 37], 30) := by decide +kernel
theorem dX7_gain_36 : decode cX7_gain 36 = .ok (.sipush 289, 3) := by decide +kernel
theorem dX7_gain_39 : decode cX7_gain 39 = .ok (.ireturn, 1) := by decide +kernel
theorem dX7_gain_40 : decode cX7_gain 40 = .ok (.bipush 35, 2) := by decide +kernel
theorem dX7_gain_42 : decode cX7_gain 42 = .ok (.ireturn, 1) := by decide +kernel
theorem dX7_gain_43 : decode cX7_gain 43 = .ok (.bipush 100, 2) := by decide +kernel
theorem dX7_gain_45 : decode cX7_gain 45 = .ok (.ireturn, 1) := by decide +kernel
theorem dX7_gain_46 : decode cX7_gain 46 = .ok (.aload_n 0, 1) := by decide +kernel
theorem dX7_gain_47 : decode cX7_gain 47 = .ok (.getfield 106, 3) := by decide +kernel
theorem dX7_gain_50 : decode cX7_gain 50 = .ok (.iload_n 1, 1) := by decide +kernel
theorem dX7_gain_51 : decode cX7_gain 51 = .ok (.iaload, 1) := by decide +kernel
theorem dX7_gain_52 : decode cX7_gain 52 = .ok (.ifCond .ne 8, 3) := by decide +kernel
theorem dX7_gain_55 : decode cX7_gain 55 = .ok (.bipush 125, 2) := by decide +kernel
theorem dX7_gain_57 : decode cX7_gain 57 = .ok (.goto 20, 3) := by decide +kernel
theorem dX7_gain_60 : decode cX7_gain 60 = .ok (.aload_n 0, 1) := by decide +kernel
theorem dX7_gain_61 : decode cX7_gain 61 = .ok (.getfield 106, 3) := by decide +kernel
theorem dX7_gain_64 : decode cX7_gain 64 = .ok (.iload_n 1, 1) := by decide +kernel
theorem dX7_gain_65 : decode cX7_gain 65 = .ok (.iaload, 1) := by decide +kernel
theorem dX7_gain_66 : decode cX7_gain 66 = .ok (.iconst 1, 1) := by decide +kernel
theorem dX7_gain_67 : decode cX7_gain 67 = .ok (.if_icmp .ne 8, 3) := by decide +kernel
theorem dX7_gain_70 : decode cX7_gain 70 = .ok (.bipush 75, 2) := by decide +kernel
theorem dX7_gain_72 : decode cX7_gain 72 = .ok (.goto 5, 3) := by decide +kernel
theorem dX7_gain_75 : decode cX7_gain 75 = .ok (.bipush 100, 2) := by decide +kernel
theorem dX7_gain_77 : decode cX7_gain 77 = .ok (.ireturn, 1) := by decide +kernel
set_option maxRecDepth 20000 in
theorem ggX7_isOpen_X7_window : GoodIn wsX7_isOpen wsX7_window := goodIn_r _ [9, 10, 11, 12, 13, 14, 15, 16, 17, 18, 19, 20, 8, 21, 3, 22, 23, 24, 25, 26, 27, 28, 29, 30, 31, 32, 33, 34, 35, 36, 37, 38, 39, 40, 41, 42, 43, 44, 45, 46, 47, 48, 49, 50, 51, 52, 53, 54, 55, 56, 57, 58, 59, 60, 61, 62, 63, 64, 65, 66, 67, 68, 69, 70, 71] (by decide +kernel) (by decide +kernel)
set_option maxRecDepth 20000 in
theorem gX7_isOpen_X7_window : GoodIn wsX7_isOpen (wsV RX7 187 RX7 yX7_window wsX7_window) := goodIn_app (goodIn_of _ (by decide +kernel)) ggX7_isOpen_X7_window
theorem dX7_isOpen_0 : decode cX7_isOpen 0 = .ok (.aload_n 0, 1) := by decide +kernel
theorem dX7_isOpen_1 : decode cX7_isOpen 1 = .ok (.getfield 32, 3) := by decide +kernel
theorem dX7_isOpen_4 : decode cX7_isOpen 4 = .ok (.iload_n 1, 1) := by decide +kernel
theorem dX7_isOpen_5 : decode cX7_isOpen 5 = .ok (.iaload, 1) := by decide +kernel
theorem dX7_isOpen_6 : decode cX7_isOpen 6 = .ok (.i2l, 1) := by decide +kernel
theorem dX7_isOpen_7 : decode cX7_isOpen 7 = .ok (.aload_n 0, 1) := by decide +kernel
theorem dX7_isOpen_8 : decode cX7_isOpen 8 = .ok (.iload_n 1, 1) := by decide +kernel
theorem dX7_isOpen_9 : decode cX7_isOpen 9 = .ok (.invokevirtual 187, 3) := by decide +kernel
theorem dX7_isOpen_12 : decode cX7_isOpen 12 = .ok (.lcmp, 1) := by decide +kernel
theorem dX7_isOpen_13 : decode cX7_isOpen 13 = .ok (.ifCond .ge 26, 3) := by decide +kernel
theorem dX7_isOpen_16 : decode cX7_isOpen 16 = .ok (.aload_n 0, 1) := by decide +kernel
theorem dX7_isOpen_17 : decode cX7_isOpen 17 = .ok (.getfield 84, 3) := by decide +kernel
theorem dX7_isOpen_20 : decode cX7_isOpen 20 = .ok (.iload_n 1, 1) := by decide +kernel
theorem dX7_isOpen_21 : decode cX7_isOpen 21 = .ok (.laload, 1) := by decide +kernel
theorem dX7_isOpen_22 : decode cX7_isOpen 22 = .ok (.ldc2_w 171, 3) := by decide +kernel
theorem dX7_isOpen_25 : decode cX7_isOpen 25 = .ok (.aload_n 0, 1) := by decide +kernel
theorem dX7_isOpen_26 : decode cX7_isOpen 26 = .ok (.getfield 146, 3) := by decide +kernel
theorem dX7_isOpen_29 : decode cX7_isOpen 29 = .ok (.i2l, 1) := by decide +kernel
theorem dX7_isOpen_30 : decode cX7_isOpen 30 = .ok (.lmul, 1) := by decide +kernel
theorem dX7_isOpen_31 : decode cX7_isOpen 31 = .ok (.lcmp, 1) := by decide +kernel
theorem dX7_isOpen_32 : decode cX7_isOpen 32 = .ok (.ifCond .gt 7, 3) := by decide +kernel
theorem dX7_isOpen_35 : decode cX7_isOpen 35 = .ok (.iconst 1, 1) := by decide +kernel
theorem dX7_isOpen_36 : decode cX7_isOpen 36 = .ok (.goto 4, 3) := by decide +kernel
theorem dX7_isOpen_39 : decode cX7_isOpen 39 = .ok (.iconst 0, 1) := by decide +kernel
theorem dX7_isOpen_40 : decode cX7_isOpen 40 = .ok (.ireturn, 1) := by decide +kernel
set_option maxRecDepth 20000 in
theorem ggX7_sends_X7_comes : GoodIn wsX7_sends wsX7_comes := goodIn_r _ [23, 24, 25, 26, 27, 28, 29, 30, 31, 32, 22, 33, 34, 5, 35, 36, 43, 44, 45, 46, 47, 48, 49, 50, 51, 52, 53, 54, 55, 56, 57, 58, 59, 60, 61, 62, 63, 64, 65, 66, 67, 68, 69, 70, 71, 72, 73, 74, 75, 76, 77, 78, 79, 80, 81, 82, 83, 84, 85, 86, 87, 88, 89, 90, 91, 92] (by decide +kernel) (by decide +kernel)
set_option maxRecDepth 20000 in
theorem gX7_sends_X7_comes : GoodIn wsX7_sends (wsV RX7 190 RX7 yX7_comes wsX7_comes) := goodIn_app (goodIn_of _ (by decide +kernel)) ggX7_sends_X7_comes
set_option maxRecDepth 20000 in
theorem ggX7_sends_X7_gain : GoodIn wsX7_sends wsX7_gain := goodIn_r _ [40, 41, 42, 43, 44, 45, 46, 47, 48, 49, 50, 51, 52, 53, 54, 55, 56, 57, 58, 59, 60, 61, 62, 63, 64, 65, 66, 67, 68, 69, 70, 71, 72, 73, 74, 75, 76, 77, 78, 79, 80, 81, 82, 83, 84, 85, 86, 87, 88, 89, 90, 91, 92] (by decide +kernel) (by decide +kernel)
set_option maxRecDepth 20000 in
theorem gX7_sends_X7_gain : GoodIn wsX7_sends (wsV RX7 196 RX7 yX7_gain wsX7_gain) := goodIn_app (goodIn_of _ (by decide +kernel)) ggX7_sends_X7_gain
theorem dX7_sends_0 : decode cX7_sends 0 = .ok (.aload_n 0, 1) := by decide +kernel
theorem dX7_sends_1 : decode cX7_sends 1 = .ok (.getfield 54, 3) := by decide +kernel
theorem dX7_sends_4 : decode cX7_sends 4 = .ok (.iload_n 1, 1) := by decide +kernel
theorem dX7_sends_5 : decode cX7_sends 5 = .ok (.dup2, 1) := by decide +kernel
theorem dX7_sends_6 : decode cX7_sends 6 = .ok (.iaload, 1) := by decide +kernel
theorem dX7_sends_7 : decode cX7_sends 7 = .ok (.iconst 1, 1) := by decide +kernel
theorem dX7_sends_8 : decode cX7_sends 8 = .ok (.isub, 1) := by decide +kernel
theorem dX7_sends_9 : decode cX7_sends 9 = .ok (.iastore, 1) := by decide +kernel
theorem dX7_sends_10 : decode cX7_sends 10 = .ok (.aload_n 0, 1) := by decide +kernel
theorem dX7_sends_11 : decode cX7_sends 11 = .ok (.getfield 57, 3) := by decide +kernel
theorem dX7_sends_14 : decode cX7_sends 14 = .ok (.iload_n 1, 1) := by decide +kernel
theorem dX7_sends_15 : decode cX7_sends 15 = .ok (.iaload, 1) := by decide +kernel
theorem dX7_sends_16 : decode cX7_sends 16 = .ok (.istore_n 2, 1) := by decide +kernel
theorem dX7_sends_17 : decode cX7_sends 17 = .ok (.aload_n 0, 1) := by decide +kernel
theorem dX7_sends_18 : decode cX7_sends 18 = .ok (.getfield 57, 3) := by decide +kernel
theorem dX7_sends_21 : decode cX7_sends 21 = .ok (.iload_n 1, 1) := by decide +kernel
theorem dX7_sends_22 : decode cX7_sends 22 = .ok (.dup2, 1) := by decide +kernel
theorem dX7_sends_23 : decode cX7_sends 23 = .ok (.iaload, 1) := by decide +kernel
theorem dX7_sends_24 : decode cX7_sends 24 = .ok (.iconst 1, 1) := by decide +kernel
theorem dX7_sends_25 : decode cX7_sends 25 = .ok (.iadd, 1) := by decide +kernel
theorem dX7_sends_26 : decode cX7_sends 26 = .ok (.iastore, 1) := by decide +kernel
theorem dX7_sends_27 : decode cX7_sends 27 = .ok (.aload_n 0, 1) := by decide +kernel
theorem dX7_sends_28 : decode cX7_sends 28 = .ok (.getfield 63, 3) := by decide +kernel
theorem dX7_sends_31 : decode cX7_sends 31 = .ok (.iload_n 1, 1) := by decide +kernel
theorem dX7_sends_32 : decode cX7_sends 32 = .ok (.aload_n 0, 1) := by decide +kernel
theorem dX7_sends_33 : decode cX7_sends 33 = .ok (.getfield 32, 3) := by decide +kernel
theorem dX7_sends_36 : decode cX7_sends 36 = .ok (.iload_n 1, 1) := by decide +kernel
theorem dX7_sends_37 : decode cX7_sends 37 = .ok (.iaload, 1) := by decide +kernel
theorem dX7_sends_38 : decode cX7_sends 38 = .ok (.ifCond .ne 10, 3) := by decide +kernel
theorem dX7_sends_41 : decode cX7_sends 41 = .ok (.aload_n 0, 1) := by decide +kernel
theorem dX7_sends_42 : decode cX7_sends 42 = .ok (.getfield 146, 3) := by decide +kernel
theorem dX7_sends_45 : decode cX7_sends 45 = .ok (.goto 9, 3) := by decide +kernel
theorem dX7_sends_48 : decode cX7_sends 48 = .ok (.aload_n 0, 1) := by decide +kernel
theorem dX7_sends_49 : decode cX7_sends 49 = .ok (.getfield 63, 3) := by decide +kernel
theorem dX7_sends_52 : decode cX7_sends 52 = .ok (.iload_n 1, 1) := by decide +kernel
theorem dX7_sends_53 : decode cX7_sends 53 = .ok (.iaload, 1) := by decide +kernel
theorem dX7_sends_54 : decode cX7_sends 54 = .ok (.iastore, 1) := by decide +kernel
theorem dX7_sends_55 : decode cX7_sends 55 = .ok (.aload_n 0, 1) := by decide +kernel
theorem dX7_sends_56 : decode cX7_sends 56 = .ok (.iload_n 1, 1) := by decide +kernel
theorem dX7_sends_57 : decode cX7_sends 57 = .ok (.iload_n 2, 1) := by decide +kernel
theorem dX7_sends_58 : decode cX7_sends 58 = .ok (.invokevirtual 190, 3) := by decide +kernel
theorem dX7_sends_61 : decode cX7_sends 61 = .ok (.istore_n 3, 1) := by decide +kernel
theorem dX7_sends_62 : decode cX7_sends 62 = .ok (.iload_n 3, 1) := by decide +kernel
theorem dX7_sends_63 : decode cX7_sends 63 = .ok (.ifCond .eq 105, 3) := by decide +kernel
theorem dX7_sends_66 : decode cX7_sends 66 = .ok (.sipush 512, 3) := by decide +kernel
theorem dX7_sends_69 : decode cX7_sends 69 = .ok (.iload_n 1, 1) := by decide +kernel
theorem dX7_sends_70 : decode cX7_sends 70 = .ok (.imul, 1) := by decide +kernel
theorem dX7_sends_71 : decode cX7_sends 71 = .ok (.aload_n 0, 1) := by decide +kernel
theorem dX7_sends_72 : decode cX7_sends 72 = .ok (.getfield 32, 3) := by decide +kernel
theorem dX7_sends_75 : decode cX7_sends 75 = .ok (.iload_n 1, 1) := by decide +kernel
theorem dX7_sends_76 : decode cX7_sends 76 = .ok (.iaload, 1) := by decide +kernel
theorem dX7_sends_77 : decode cX7_sends 77 = .ok (.iadd, 1) := by decide +kernel
theorem dX7_sends_78 : decode cX7_sends 78 = .ok (.istore 4, 2) := by decide +kernel
theorem dX7_sends_80 : decode cX7_sends 80 = .ok (.aload_n 0, 1) := by decide +kernel
theorem dX7_sends_81 : decode cX7_sends 81 = .ok (.getfield 35, 3) := by decide +kernel
theorem dX7_sends_84 : decode cX7_sends 84 = .ok (.iload 4, 2) := by decide +kernel
theorem dX7_sends_86 : decode cX7_sends 86 = .ok (.iload_n 2, 1) := by decide +kernel
theorem dX7_sends_87 : decode cX7_sends 87 = .ok (.iastore, 1) := by decide +kernel
theorem dX7_sends_88 : decode cX7_sends 88 = .ok (.aload_n 0, 1) := by decide +kernel
theorem dX7_sends_89 : decode cX7_sends 89 = .ok (.getfield 38, 3) := by decide +kernel
theorem dX7_sends_92 : decode cX7_sends 92 = .ok (.iload 4, 2) := by decide +kernel
theorem dX7_sends_94 : decode cX7_sends 94 = .ok (.aload_n 0, 1) := by decide +kernel
theorem dX7_sends_95 : decode cX7_sends 95 = .ok (.getfield 146, 3) := by decide +kernel
theorem dX7_sends_98 : decode cX7_sends 98 = .ok (.iastore, 1) := by decide +kernel
theorem dX7_sends_99 : decode cX7_sends 99 = .ok (.aload_n 0, 1) := by decide +kernel
theorem dX7_sends_100 : decode cX7_sends 100 = .ok (.getfield 41, 3) := by decide +kernel
theorem dX7_sends_103 : decode cX7_sends 103 = .ok (.iload 4, 2) := by decide +kernel
theorem dX7_sends_105 : decode cX7_sends 105 = .ok (.aload_n 0, 1) := by decide +kernel
theorem dX7_sends_106 : decode cX7_sends 106 = .ok (.getfield 60, 3) := by decide +kernel
theorem dX7_sends_109 : decode cX7_sends 109 = .ok (.iload_n 1, 1) := by decide +kernel
theorem dX7_sends_110 : decode cX7_sends 110 = .ok (.iaload, 1) := by decide +kernel
theorem dX7_sends_111 : decode cX7_sends 111 = .ok (.iastore, 1) := by decide +kernel
theorem dX7_sends_112 : decode cX7_sends 112 = .ok (.aload_n 0, 1) := by decide +kernel
theorem dX7_sends_113 : decode cX7_sends 113 = .ok (.getfield 44, 3) := by decide +kernel
theorem dX7_sends_116 : decode cX7_sends 116 = .ok (.iload 4, 2) := by decide +kernel
theorem dX7_sends_118 : decode cX7_sends 118 = .ok (.aload_n 0, 1) := by decide +kernel
theorem dX7_sends_119 : decode cX7_sends 119 = .ok (.getfield 63, 3) := by decide +kernel
theorem dX7_sends_122 : decode cX7_sends 122 = .ok (.iload_n 1, 1) := by decide +kernel
theorem dX7_sends_123 : decode cX7_sends 123 = .ok (.iaload, 1) := by decide +kernel
theorem dX7_sends_124 : decode cX7_sends 124 = .ok (.iastore, 1) := by decide +kernel
theorem dX7_sends_125 : decode cX7_sends 125 = .ok (.aload_n 0, 1) := by decide +kernel
theorem dX7_sends_126 : decode cX7_sends 126 = .ok (.getfield 47, 3) := by decide +kernel
theorem dX7_sends_129 : decode cX7_sends 129 = .ok (.iload 4, 2) := by decide +kernel
theorem dX7_sends_131 : decode cX7_sends 131 = .ok (.aload_n 0, 1) := by decide +kernel
theorem dX7_sends_132 : decode cX7_sends 132 = .ok (.getfield 66, 3) := by decide +kernel
theorem dX7_sends_135 : decode cX7_sends 135 = .ok (.iload_n 1, 1) := by decide +kernel
theorem dX7_sends_136 : decode cX7_sends 136 = .ok (.iaload, 1) := by decide +kernel
theorem dX7_sends_137 : decode cX7_sends 137 = .ok (.ifCond .le 7, 3) := by decide +kernel
theorem dX7_sends_140 : decode cX7_sends 140 = .ok (.iconst 1, 1) := by decide +kernel
theorem dX7_sends_141 : decode cX7_sends 141 = .ok (.goto 4, 3) := by decide +kernel
theorem dX7_sends_144 : decode cX7_sends 144 = .ok (.iconst 0, 1) := by decide +kernel
theorem dX7_sends_145 : decode cX7_sends 145 = .ok (.bastore, 1) := by decide +kernel
theorem dX7_sends_146 : decode cX7_sends 146 = .ok (.aload_n 0, 1) := by decide +kernel
theorem dX7_sends_147 : decode cX7_sends 147 = .ok (.getfield 51, 3) := by decide +kernel
theorem dX7_sends_150 : decode cX7_sends 150 = .ok (.iload 4, 2) := by decide +kernel
theorem dX7_sends_152 : decode cX7_sends 152 = .ok (.bipush (-9), 2) := by decide +kernel
theorem dX7_sends_154 : decode cX7_sends 154 = .ok (.iastore, 1) := by decide +kernel
theorem dX7_sends_155 : decode cX7_sends 155 = .ok (.aload_n 0, 1) := by decide +kernel
theorem dX7_sends_156 : decode cX7_sends 156 = .ok (.getfield 32, 3) := by decide +kernel
theorem dX7_sends_159 : decode cX7_sends 159 = .ok (.iload_n 1, 1) := by decide +kernel
theorem dX7_sends_160 : decode cX7_sends 160 = .ok (.dup2, 1) := by decide +kernel
theorem dX7_sends_161 : decode cX7_sends 161 = .ok (.iaload, 1) := by decide +kernel
theorem dX7_sends_162 : decode cX7_sends 162 = .ok (.iconst 1, 1) := by decide +kernel
theorem dX7_sends_163 : decode cX7_sends 163 = .ok (.iadd, 1) := by decide +kernel
theorem dX7_sends_164 : decode cX7_sends 164 = .ok (.iastore, 1) := by decide +kernel
theorem dX7_sends_165 : decode cX7_sends 165 = .ok (.goto 13, 3) := by decide +kernel
theorem dX7_sends_168 : decode cX7_sends 168 = .ok (.aload_n 0, 1) := by decide +kernel
theorem dX7_sends_169 : decode cX7_sends 169 = .ok (.getfield 88, 3) := by decide +kernel
theorem dX7_sends_172 : decode cX7_sends 172 = .ok (.iload_n 1, 1) := by decide +kernel
theorem dX7_sends_173 : decode cX7_sends 173 = .ok (.dup2, 1) := by decide +kernel
theorem dX7_sends_174 : decode cX7_sends 174 = .ok (.iaload, 1) := by decide +kernel
theorem dX7_sends_175 : decode cX7_sends 175 = .ok (.iconst 1, 1) := by decide +kernel
theorem dX7_sends_176 : decode cX7_sends 176 = .ok (.iadd, 1) := by decide +kernel
theorem dX7_sends_177 : decode cX7_sends 177 = .ok (.iastore, 1) := by decide +kernel
theorem dX7_sends_178 : decode cX7_sends 178 = .ok (.aload_n 0, 1) := by decide +kernel
theorem dX7_sends_179 : decode cX7_sends 179 = .ok (.getfield 75, 3) := by decide +kernel
theorem dX7_sends_182 : decode cX7_sends 182 = .ok (.iload_n 1, 1) := by decide +kernel
theorem dX7_sends_183 : decode cX7_sends 183 = .ok (.iaload, 1) := by decide +kernel
theorem dX7_sends_184 : decode cX7_sends 184 = .ok (.ifCond .le 69, 3) := by decide +kernel
theorem dX7_sends_187 : decode cX7_sends 187 = .ok (.aload_n 0, 1) := by decide +kernel
theorem dX7_sends_188 : decode cX7_sends 188 = .ok (.getfield 84, 3) := by decide +kernel
theorem dX7_sends_191 : decode cX7_sends 191 = .ok (.iload_n 1, 1) := by decide +kernel
theorem dX7_sends_192 : decode cX7_sends 192 = .ok (.laload, 1) := by decide +kernel
theorem dX7_sends_193 : decode cX7_sends 193 = .ok (.ldc2_w 171, 3) := by decide +kernel
theorem dX7_sends_196 : decode cX7_sends 196 = .ok (.aload_n 0, 1) := by decide +kernel
theorem dX7_sends_197 : decode cX7_sends 197 = .ok (.getfield 146, 3) := by decide +kernel
theorem dX7_sends_200 : decode cX7_sends 200 = .ok (.i2l, 1) := by decide +kernel
theorem dX7_sends_201 : decode cX7_sends 201 = .ok (.lmul, 1) := by decide +kernel
theorem dX7_sends_202 : decode cX7_sends 202 = .ok (.lcmp, 1) := by decide +kernel
theorem dX7_sends_203 : decode cX7_sends 203 = .ok (.ifCond .le 12, 3) := by decide +kernel
theorem dX7_sends_206 : decode cX7_sends 206 = .ok (.aload_n 0, 1) := by decide +kernel
theorem dX7_sends_207 : decode cX7_sends 207 = .ok (.getfield 84, 3) := by decide +kernel
theorem dX7_sends_210 : decode cX7_sends 210 = .ok (.iload_n 1, 1) := by decide +kernel
theorem dX7_sends_211 : decode cX7_sends 211 = .ok (.laload, 1) := by decide +kernel
theorem dX7_sends_212 : decode cX7_sends 212 = .ok (.goto 12, 3) := by decide +kernel
theorem dX7_sends_215 : decode cX7_sends 215 = .ok (.ldc2_w 171, 3) := by decide +kernel
theorem dX7_sends_218 : decode cX7_sends 218 = .ok (.aload_n 0, 1) := by decide +kernel
theorem dX7_sends_219 : decode cX7_sends 219 = .ok (.getfield 146, 3) := by decide +kernel
theorem dX7_sends_222 : decode cX7_sends 222 = .ok (.i2l, 1) := by decide +kernel
theorem dX7_sends_223 : decode cX7_sends 223 = .ok (.lmul, 1) := by decide +kernel
theorem dX7_sends_224 : decode cX7_sends 224 = .ok (.lstore 4, 2) := by decide +kernel
theorem dX7_sends_226 : decode cX7_sends 226 = .ok (.aload_n 0, 1) := by decide +kernel
theorem dX7_sends_227 : decode cX7_sends 227 = .ok (.getfield 84, 3) := by decide +kernel
theorem dX7_sends_230 : decode cX7_sends 230 = .ok (.iload_n 1, 1) := by decide +kernel
theorem dX7_sends_231 : decode cX7_sends 231 = .ok (.lload 4, 2) := by decide +kernel
theorem dX7_sends_233 : decode cX7_sends 233 = .ok (.ldc2_w 194, 3) := by decide +kernel
theorem dX7_sends_236 : decode cX7_sends 236 = .ok (.aload_n 0, 1) := by decide +kernel
theorem dX7_sends_237 : decode cX7_sends 237 = .ok (.getfield 75, 3) := by decide +kernel
theorem dX7_sends_240 : decode cX7_sends 240 = .ok (.iload_n 1, 1) := by decide +kernel
theorem dX7_sends_241 : decode cX7_sends 241 = .ok (.iaload, 1) := by decide +kernel
theorem dX7_sends_242 : decode cX7_sends 242 = .ok (.i2l, 1) := by decide +kernel
theorem dX7_sends_243 : decode cX7_sends 243 = .ok (.aload_n 0, 1) := by decide +kernel
theorem dX7_sends_244 : decode cX7_sends 244 = .ok (.iload_n 1, 1) := by decide +kernel
theorem dX7_sends_245 : decode cX7_sends 245 = .ok (.invokevirtual 196, 3) := by decide +kernel
theorem dX7_sends_248 : decode cX7_sends 248 = .ok (.i2l, 1) := by decide +kernel
theorem dX7_sends_249 : decode cX7_sends 249 = .ok (.lmul, 1) := by decide +kernel
theorem dX7_sends_250 : decode cX7_sends 250 = .ok (.ldiv, 1) := by decide +kernel
theorem dX7_sends_251 : decode cX7_sends 251 = .ok (.ladd, 1) := by decide +kernel
theorem dX7_sends_252 : decode cX7_sends 252 = .ok (.lastore, 1) := by decide +kernel
theorem dX7_sends_253 : decode cX7_sends 253 = .ok (.iload_n 3, 1) := by decide +kernel
theorem dX7_sends_254 : decode cX7_sends 254 = .ok (.ireturn, 1) := by decide +kernel
set_option maxRecDepth 20000 in
theorem ggX7_sendsAll_X7_isOpen : GoodIn wsX7_sendsAll wsX7_isOpen := goodIn_r _ [9, 3, 10, 11, 12, 13, 14, 15, 8, 16, 17, 18, 19, 20, 21, 22, 23, 24, 25, 26, 27, 28, 65, 66, 67, 68, 69, 70, 71, 72, 73, 74, 75, 76, 77, 78, 79, 80, 81, 82, 83, 84, 85, 86, 87, 88, 89, 90, 91, 92, 93, 94, 95, 96, 97, 98, 99, 100, 101, 102, 103, 104, 105, 106, 107, 108, 109, 110, 111, 112, 113, 114] (by decide +kernel) (by decide +kernel)
set_option maxRecDepth 20000 in
theorem gX7_sendsAll_X7_isOpen : GoodIn wsX7_sendsAll (wsV RX7 200 RX7 yX7_isOpen wsX7_isOpen) := goodIn_app (goodIn_of _ (by decide +kernel)) ggX7_sendsAll_X7_isOpen
set_option maxRecDepth 20000 in
theorem ggX7_sendsAll_X7_sends : GoodIn wsX7_sendsAll wsX7_sends := goodIn_r _ [32, 1, 33, 34, 3, 12, 35, 36, 37, 2, 38, 39, 4, 40, 41, 19, 10, 11, 42, 43, 44, 45, 8, 46, 47, 48, 49, 50, 51, 52, 53, 54, 55, 56, 57, 58, 59, 60, 61, 62, 63, 17, 64, 65, 66, 67, 68, 69, 70, 71, 72, 73, 74, 75, 76, 77, 78, 79, 80, 81, 82, 83, 84, 85, 86, 87, 88, 89, 90, 91, 92, 93, 94, 95, 96, 97, 98, 99, 100, 101, 102, 103, 104, 105, 106, 107, 108, 109, 110, 111, 112, 113, 114] (by decide +kernel) (by decide +kernel)
set_option maxRecDepth 20000 in
theorem gX7_sendsAll_X7_sends : GoodIn wsX7_sendsAll (wsV RX7 203 RX7 yX7_sends wsX7_sends) := goodIn_app (goodIn_of _ (by decide +kernel)) ggX7_sendsAll_X7_sends
theorem dX7_sendsAll_0 : decode cX7_sendsAll 0 = .ok (.iconst 0, 1) := by decide +kernel
theorem dX7_sendsAll_1 : decode cX7_sendsAll 1 = .ok (.istore_n 2, 1) := by decide +kernel
theorem dX7_sendsAll_2 : decode cX7_sendsAll 2 = .ok (.iconst 1, 1) := by decide +kernel
theorem dX7_sendsAll_3 : decode cX7_sendsAll 3 = .ok (.istore_n 3, 1) := by decide +kernel
theorem dX7_sendsAll_4 : decode cX7_sendsAll 4 = .ok (.iload_n 3, 1) := by decide +kernel
theorem dX7_sendsAll_5 : decode cX7_sendsAll 5 = .ok (.ifCond .eq 38, 3) := by decide +kernel
theorem dX7_sendsAll_8 : decode cX7_sendsAll 8 = .ok (.iload_n 2, 1) := by decide +kernel
theorem dX7_sendsAll_9 : decode cX7_sendsAll 9 = .ok (.bipush 8, 2) := by decide +kernel
theorem dX7_sendsAll_11 : decode cX7_sendsAll 11 = .ok (.if_icmp .ge 32, 3) := by decide +kernel
theorem dX7_sendsAll_14 : decode cX7_sendsAll 14 = .ok (.aload_n 0, 1) := by decide +kernel
theorem dX7_sendsAll_15 : decode cX7_sendsAll 15 = .ok (.getfield 54, 3) := by decide +kernel
theorem dX7_sendsAll_18 : decode cX7_sendsAll 18 = .ok (.iload_n 1, 1) := by decide +kernel
theorem dX7_sendsAll_19 : decode cX7_sendsAll 19 = .ok (.iaload, 1) := by decide +kernel
theorem dX7_sendsAll_20 : decode cX7_sendsAll 20 = .ok (.ifCond .le 23, 3) := by decide +kernel
theorem dX7_sendsAll_23 : decode cX7_sendsAll 23 = .ok (.aload_n 0, 1) := by decide +kernel
theorem dX7_sendsAll_24 : decode cX7_sendsAll 24 = .ok (.iload_n 1, 1) := by decide +kernel
theorem dX7_sendsAll_25 : decode cX7_sendsAll 25 = .ok (.invokevirtual 200, 3) := by decide +kernel
theorem dX7_sendsAll_28 : decode cX7_sendsAll 28 = .ok (.ifCond .eq 15, 3) := by decide +kernel
theorem dX7_sendsAll_31 : decode cX7_sendsAll 31 = .ok (.aload_n 0, 1) := by decide +kernel
theorem dX7_sendsAll_32 : decode cX7_sendsAll 32 = .ok (.iload_n 1, 1) := by decide +kernel
theorem dX7_sendsAll_33 : decode cX7_sendsAll 33 = .ok (.invokevirtual 203, 3) := by decide +kernel
theorem dX7_sendsAll_36 : decode cX7_sendsAll 36 = .ok (.istore_n 3, 1) := by decide +kernel
theorem dX7_sendsAll_37 : decode cX7_sendsAll 37 = .ok (.iinc 2 1, 3) := by decide +kernel
theorem dX7_sendsAll_40 : decode cX7_sendsAll 40 = .ok (.goto (-36), 3) := by decide +kernel
theorem dX7_sendsAll_43 : decode cX7_sendsAll 43 = .ok (.aload_n 0, 1) := by decide +kernel
theorem dX7_sendsAll_44 : decode cX7_sendsAll 44 = .ok (.getfield 54, 3) := by decide +kernel
theorem dX7_sendsAll_47 : decode cX7_sendsAll 47 = .ok (.iload_n 1, 1) := by decide +kernel
theorem dX7_sendsAll_48 : decode cX7_sendsAll 48 = .ok (.iaload, 1) := by decide +kernel
theorem dX7_sendsAll_49 : decode cX7_sendsAll 49 = .ok (.ifCond .ne 44, 3) := by decide +kernel
theorem dX7_sendsAll_52 : decode cX7_sendsAll 52 = .ok (.aload_n 0, 1) := by decide +kernel
theorem dX7_sendsAll_53 : decode cX7_sendsAll 53 = .ok (.iload_n 1, 1) := by decide +kernel
theorem dX7_sendsAll_54 : decode cX7_sendsAll 54 = .ok (.invokevirtual 200, 3) := by decide +kernel
theorem dX7_sendsAll_57 : decode cX7_sendsAll 57 = .ok (.ifCond .eq 36, 3) := by decide +kernel
theorem dX7_sendsAll_60 : decode cX7_sendsAll 60 = .ok (.aload_n 0, 1) := by decide +kernel
theorem dX7_sendsAll_61 : decode cX7_sendsAll 61 = .ok (.getfield 60, 3) := by decide +kernel
theorem dX7_sendsAll_64 : decode cX7_sendsAll 64 = .ok (.iload_n 1, 1) := by decide +kernel
theorem dX7_sendsAll_65 : decode cX7_sendsAll 65 = .ok (.iaload, 1) := by decide +kernel
theorem dX7_sendsAll_66 : decode cX7_sendsAll 66 = .ok (.aload_n 0, 1) := by decide +kernel
theorem dX7_sendsAll_67 : decode cX7_sendsAll 67 = .ok (.getfield 32, 3) := by decide +kernel
theorem dX7_sendsAll_70 : decode cX7_sendsAll 70 = .ok (.iload_n 1, 1) := by decide +kernel
theorem dX7_sendsAll_71 : decode cX7_sendsAll 71 = .ok (.iaload, 1) := by decide +kernel
theorem dX7_sendsAll_72 : decode cX7_sendsAll 72 = .ok (.iadd, 1) := by decide +kernel
theorem dX7_sendsAll_73 : decode cX7_sendsAll 73 = .ok (.istore 4, 2) := by decide +kernel
theorem dX7_sendsAll_75 : decode cX7_sendsAll 75 = .ok (.aload_n 0, 1) := by decide +kernel
theorem dX7_sendsAll_76 : decode cX7_sendsAll 76 = .ok (.getfield 66, 3) := by decide +kernel
theorem dX7_sendsAll_79 : decode cX7_sendsAll 79 = .ok (.iload_n 1, 1) := by decide +kernel
theorem dX7_sendsAll_80 : decode cX7_sendsAll 80 = .ok (.iload 4, 2) := by decide +kernel
theorem dX7_sendsAll_82 : decode cX7_sendsAll 82 = .ok (.iconst 1, 1) := by decide +kernel
theorem dX7_sendsAll_83 : decode cX7_sendsAll 83 = .ok (.if_icmp .ge 7, 3) := by decide +kernel
theorem dX7_sendsAll_86 : decode cX7_sendsAll 86 = .ok (.iconst 1, 1) := by decide +kernel
theorem dX7_sendsAll_87 : decode cX7_sendsAll 87 = .ok (.goto 5, 3) := by decide +kernel
theorem dX7_sendsAll_90 : decode cX7_sendsAll 90 = .ok (.iload 4, 2) := by decide +kernel
theorem dX7_sendsAll_92 : decode cX7_sendsAll 92 = .ok (.iastore, 1) := by decide +kernel
theorem dX7_sendsAll_93 : decode cX7_sendsAll 93 = .ok (.return_, 1) := by decide +kernel
theorem dX7_greatestFrom_0 : decode cX7_greatestFrom 0 = .ok (.bipush (-9), 2) := by decide +kernel
theorem dX7_greatestFrom_2 : decode cX7_greatestFrom 2 = .ok (.istore_n 3, 1) := by decide +kernel
theorem dX7_greatestFrom_3 : decode cX7_greatestFrom 3 = .ok (.iconst 0, 1) := by decide +kernel
theorem dX7_greatestFrom_4 : decode cX7_greatestFrom 4 = .ok (.istore 4, 2) := by decide +kernel
theorem dX7_greatestFrom_6 : decode cX7_greatestFrom 6 = .ok (.iload 4, 2) := by decide +kernel
theorem dX7_greatestFrom_8 : decode cX7_greatestFrom 8 = .ok (.aload_n 0, 1) := by decide +kernel
theorem dX7_greatestFrom_9 : decode cX7_greatestFrom 9 = .ok (.getfield 94, 3) := by decide +kernel
theorem dX7_greatestFrom_12 : decode cX7_greatestFrom 12 = .ok (.iload_n 1, 1) := by decide +kernel
theorem dX7_greatestFrom_13 : decode cX7_greatestFrom 13 = .ok (.iaload, 1) := by decide +kernel
theorem dX7_greatestFrom_14 : decode cX7_greatestFrom 14 = .ok (.if_icmp .ge 64, 3) := by decide +kernel
theorem dX7_greatestFrom_17 : decode cX7_greatestFrom 17 = .ok (.sipush 8192, 3) := by decide +kernel
theorem dX7_greatestFrom_20 : decode cX7_greatestFrom 20 = .ok (.iload_n 1, 1) := by decide +kernel
theorem dX7_greatestFrom_21 : decode cX7_greatestFrom 21 = .ok (.imul, 1) := by decide +kernel
theorem dX7_greatestFrom_22 : decode cX7_greatestFrom 22 = .ok (.aload_n 0, 1) := by decide +kernel
theorem dX7_greatestFrom_23 : decode cX7_greatestFrom 23 = .ok (.getfield 91, 3) := by decide +kernel
theorem dX7_greatestFrom_26 : decode cX7_greatestFrom 26 = .ok (.iload_n 1, 1) := by decide +kernel
theorem dX7_greatestFrom_27 : decode cX7_greatestFrom 27 = .ok (.iaload, 1) := by decide +kernel
theorem dX7_greatestFrom_28 : decode cX7_greatestFrom 28 = .ok (.iload 4, 2) := by decide +kernel
theorem dX7_greatestFrom_30 : decode cX7_greatestFrom 30 = .ok (.iadd, 1) := by decide +kernel
theorem dX7_greatestFrom_31 : decode cX7_greatestFrom 31 = .ok (.sipush 8192, 3) := by decide +kernel
theorem dX7_greatestFrom_34 : decode cX7_greatestFrom 34 = .ok (.irem, 1) := by decide +kernel
theorem dX7_greatestFrom_35 : decode cX7_greatestFrom 35 = .ok (.iadd, 1) := by decide +kernel
theorem dX7_greatestFrom_36 : decode cX7_greatestFrom 36 = .ok (.istore 5, 2) := by decide +kernel
theorem dX7_greatestFrom_38 : decode cX7_greatestFrom 38 = .ok (.aload_n 0, 1) := by decide +kernel
theorem dX7_greatestFrom_39 : decode cX7_greatestFrom 39 = .ok (.getfield 97, 3) := by decide +kernel
theorem dX7_greatestFrom_42 : decode cX7_greatestFrom 42 = .ok (.iload 5, 2) := by decide +kernel
theorem dX7_greatestFrom_44 : decode cX7_greatestFrom 44 = .ok (.iaload, 1) := by decide +kernel
theorem dX7_greatestFrom_45 : decode cX7_greatestFrom 45 = .ok (.iload_n 2, 1) := by decide +kernel
theorem dX7_greatestFrom_46 : decode cX7_greatestFrom 46 = .ok (.if_icmp .lt 24, 3) := by decide +kernel
theorem dX7_greatestFrom_49 : decode cX7_greatestFrom 49 = .ok (.aload_n 0, 1) := by decide +kernel
theorem dX7_greatestFrom_50 : decode cX7_greatestFrom 50 = .ok (.getfield 100, 3) := by decide +kernel
theorem dX7_greatestFrom_53 : decode cX7_greatestFrom 53 = .ok (.iload 5, 2) := by decide +kernel
theorem dX7_greatestFrom_55 : decode cX7_greatestFrom 55 = .ok (.iaload, 1) := by decide +kernel
theorem dX7_greatestFrom_56 : decode cX7_greatestFrom 56 = .ok (.iload_n 3, 1) := by decide +kernel
theorem dX7_greatestFrom_57 : decode cX7_greatestFrom 57 = .ok (.if_icmp .le 13, 3) := by decide +kernel
theorem dX7_greatestFrom_60 : decode cX7_greatestFrom 60 = .ok (.aload_n 0, 1) := by decide +kernel
theorem dX7_greatestFrom_61 : decode cX7_greatestFrom 61 = .ok (.getfield 100, 3) := by decide +kernel
theorem dX7_greatestFrom_64 : decode cX7_greatestFrom 64 = .ok (.iload 5, 2) := by decide +kernel
theorem dX7_greatestFrom_66 : decode cX7_greatestFrom 66 = .ok (.iaload, 1) := by decide +kernel
theorem dX7_greatestFrom_67 : decode cX7_greatestFrom 67 = .ok (.goto 4, 3) := by decide +kernel
theorem dX7_greatestFrom_70 : decode cX7_greatestFrom 70 = .ok (.iload_n 3, 1) := by decide +kernel
theorem dX7_greatestFrom_71 : decode cX7_greatestFrom 71 = .ok (.istore_n 3, 1) := by decide +kernel
theorem dX7_greatestFrom_72 : decode cX7_greatestFrom 72 = .ok (.iinc 4 1, 3) := by decide +kernel
theorem dX7_greatestFrom_75 : decode cX7_greatestFrom 75 = .ok (.goto (-69), 3) := by decide +kernel
theorem dX7_greatestFrom_78 : decode cX7_greatestFrom 78 = .ok (.iload_n 3, 1) := by decide +kernel
theorem dX7_greatestFrom_79 : decode cX7_greatestFrom 79 = .ok (.ireturn, 1) := by decide +kernel
theorem dX7_keepsSample_0 : decode cX7_keepsSample 0 = .ok (.sipush 8192, 3) := by decide +kernel
theorem dX7_keepsSample_3 : decode cX7_keepsSample 3 = .ok (.iload_n 1, 1) := by decide +kernel
theorem dX7_keepsSample_4 : decode cX7_keepsSample 4 = .ok (.imul, 1) := by decide +kernel
theorem dX7_keepsSample_5 : decode cX7_keepsSample 5 = .ok (.aload_n 0, 1) := by decide +kernel
theorem dX7_keepsSample_6 : decode cX7_keepsSample 6 = .ok (.getfield 91, 3) := by decide +kernel
theorem dX7_keepsSample_9 : decode cX7_keepsSample 9 = .ok (.iload_n 1, 1) := by decide +kernel
theorem dX7_keepsSample_10 : decode cX7_keepsSample 10 = .ok (.iaload, 1) := by decide +kernel
theorem dX7_keepsSample_11 : decode cX7_keepsSample 11 = .ok (.aload_n 0, 1) := by decide +kernel
theorem dX7_keepsSample_12 : decode cX7_keepsSample 12 = .ok (.getfield 94, 3) := by decide +kernel
theorem dX7_keepsSample_15 : decode cX7_keepsSample 15 = .ok (.iload_n 1, 1) := by decide +kernel
theorem dX7_keepsSample_16 : decode cX7_keepsSample 16 = .ok (.iaload, 1) := by decide +kernel
theorem dX7_keepsSample_17 : decode cX7_keepsSample 17 = .ok (.iadd, 1) := by decide +kernel
theorem dX7_keepsSample_18 : decode cX7_keepsSample 18 = .ok (.sipush 8192, 3) := by decide +kernel
theorem dX7_keepsSample_21 : decode cX7_keepsSample 21 = .ok (.irem, 1) := by decide +kernel
theorem dX7_keepsSample_22 : decode cX7_keepsSample 22 = .ok (.iadd, 1) := by decide +kernel
theorem dX7_keepsSample_23 : decode cX7_keepsSample 23 = .ok (.istore_n 3, 1) := by decide +kernel
theorem dX7_keepsSample_24 : decode cX7_keepsSample 24 = .ok (.aload_n 0, 1) := by decide +kernel
theorem dX7_keepsSample_25 : decode cX7_keepsSample 25 = .ok (.getfield 97, 3) := by decide +kernel
theorem dX7_keepsSample_28 : decode cX7_keepsSample 28 = .ok (.iload_n 3, 1) := by decide +kernel
theorem dX7_keepsSample_29 : decode cX7_keepsSample 29 = .ok (.aload_n 0, 1) := by decide +kernel
theorem dX7_keepsSample_30 : decode cX7_keepsSample 30 = .ok (.getfield 69, 3) := by decide +kernel
theorem dX7_keepsSample_33 : decode cX7_keepsSample 33 = .ok (.iload_n 1, 1) := by decide +kernel
theorem dX7_keepsSample_34 : decode cX7_keepsSample 34 = .ok (.iaload, 1) := by decide +kernel
theorem dX7_keepsSample_35 : decode cX7_keepsSample 35 = .ok (.iastore, 1) := by decide +kernel
theorem dX7_keepsSample_36 : decode cX7_keepsSample 36 = .ok (.aload_n 0, 1) := by decide +kernel
theorem dX7_keepsSample_37 : decode cX7_keepsSample 37 = .ok (.getfield 100, 3) := by decide +kernel
theorem dX7_keepsSample_40 : decode cX7_keepsSample 40 = .ok (.iload_n 3, 1) := by decide +kernel
theorem dX7_keepsSample_41 : decode cX7_keepsSample 41 = .ok (.iload_n 2, 1) := by decide +kernel
theorem dX7_keepsSample_42 : decode cX7_keepsSample 42 = .ok (.iastore, 1) := by decide +kernel
theorem dX7_keepsSample_43 : decode cX7_keepsSample 43 = .ok (.aload_n 0, 1) := by decide +kernel
theorem dX7_keepsSample_44 : decode cX7_keepsSample 44 = .ok (.getfield 94, 3) := by decide +kernel
theorem dX7_keepsSample_47 : decode cX7_keepsSample 47 = .ok (.iload_n 1, 1) := by decide +kernel
theorem dX7_keepsSample_48 : decode cX7_keepsSample 48 = .ok (.dup2, 1) := by decide +kernel
theorem dX7_keepsSample_49 : decode cX7_keepsSample 49 = .ok (.iaload, 1) := by decide +kernel
theorem dX7_keepsSample_50 : decode cX7_keepsSample 50 = .ok (.iconst 1, 1) := by decide +kernel
theorem dX7_keepsSample_51 : decode cX7_keepsSample 51 = .ok (.iadd, 1) := by decide +kernel
theorem dX7_keepsSample_52 : decode cX7_keepsSample 52 = .ok (.iastore, 1) := by decide +kernel
theorem dX7_keepsSample_53 : decode cX7_keepsSample 53 = .ok (.aload_n 0, 1) := by decide +kernel
theorem dX7_keepsSample_54 : decode cX7_keepsSample 54 = .ok (.getfield 75, 3) := by decide +kernel
theorem dX7_keepsSample_57 : decode cX7_keepsSample 57 = .ok (.iload_n 1, 1) := by decide +kernel
theorem dX7_keepsSample_58 : decode cX7_keepsSample 58 = .ok (.iload_n 2, 1) := by decide +kernel
theorem dX7_keepsSample_59 : decode cX7_keepsSample 59 = .ok (.aload_n 0, 1) := by decide +kernel
theorem dX7_keepsSample_60 : decode cX7_keepsSample 60 = .ok (.getfield 75, 3) := by decide +kernel
theorem dX7_keepsSample_63 : decode cX7_keepsSample 63 = .ok (.iload_n 1, 1) := by decide +kernel
theorem dX7_keepsSample_64 : decode cX7_keepsSample 64 = .ok (.iaload, 1) := by decide +kernel
theorem dX7_keepsSample_65 : decode cX7_keepsSample 65 = .ok (.if_icmp .le 7, 3) := by decide +kernel
theorem dX7_keepsSample_68 : decode cX7_keepsSample 68 = .ok (.iload_n 2, 1) := by decide +kernel
theorem dX7_keepsSample_69 : decode cX7_keepsSample 69 = .ok (.goto 9, 3) := by decide +kernel
theorem dX7_keepsSample_72 : decode cX7_keepsSample 72 = .ok (.aload_n 0, 1) := by decide +kernel
theorem dX7_keepsSample_73 : decode cX7_keepsSample 73 = .ok (.getfield 75, 3) := by decide +kernel
theorem dX7_keepsSample_76 : decode cX7_keepsSample 76 = .ok (.iload_n 1, 1) := by decide +kernel
theorem dX7_keepsSample_77 : decode cX7_keepsSample 77 = .ok (.iaload, 1) := by decide +kernel
theorem dX7_keepsSample_78 : decode cX7_keepsSample 78 = .ok (.iastore, 1) := by decide +kernel
theorem dX7_keepsSample_79 : decode cX7_keepsSample 79 = .ok (.return_, 1) := by decide +kernel
set_option maxRecDepth 20000 in
theorem ggX7_letsGo_X7_greatestFrom : GoodIn wsX7_letsGo wsX7_greatestFrom := goodIn_r _ [11, 1, 3, 2, 5, 12, 13, 14, 15, 16, 17, 18, 19, 20, 21, 22, 23, 24, 25, 26, 27, 28, 29, 30, 31, 32, 33, 34, 35, 36, 37, 38, 39, 40, 41, 42, 43, 44, 45, 46, 47, 48, 49, 50, 51, 52, 53, 54, 55, 56, 57, 58, 59, 60, 61] (by decide +kernel) (by decide +kernel)
set_option maxRecDepth 20000 in
theorem gX7_letsGo_X7_greatestFrom : GoodIn wsX7_letsGo (wsV RX7 206 RX7 yX7_greatestFrom wsX7_greatestFrom) := goodIn_app (goodIn_of _ (by decide +kernel)) ggX7_letsGo_X7_greatestFrom
theorem dX7_letsGo_0 : decode cX7_letsGo 0 = .ok (.iconst 0, 1) := by decide +kernel
theorem dX7_letsGo_1 : decode cX7_letsGo 1 = .ok (.istore_n 2, 1) := by decide +kernel
theorem dX7_letsGo_2 : decode cX7_letsGo 2 = .ok (.aload_n 0, 1) := by decide +kernel
theorem dX7_letsGo_3 : decode cX7_letsGo 3 = .ok (.getfield 94, 3) := by decide +kernel
theorem dX7_letsGo_6 : decode cX7_letsGo 6 = .ok (.iload_n 1, 1) := by decide +kernel
theorem dX7_letsGo_7 : decode cX7_letsGo 7 = .ok (.iaload, 1) := by decide +kernel
theorem dX7_letsGo_8 : decode cX7_letsGo 8 = .ok (.ifCond .le 99, 3) := by decide +kernel
theorem dX7_letsGo_11 : decode cX7_letsGo 11 = .ok (.aload_n 0, 1) := by decide +kernel
theorem dX7_letsGo_12 : decode cX7_letsGo 12 = .ok (.getfield 97, 3) := by decide +kernel
theorem dX7_letsGo_15 : decode cX7_letsGo 15 = .ok (.sipush 8192, 3) := by decide +kernel
theorem dX7_letsGo_18 : decode cX7_letsGo 18 = .ok (.iload_n 1, 1) := by decide +kernel
theorem dX7_letsGo_19 : decode cX7_letsGo 19 = .ok (.imul, 1) := by decide +kernel
theorem dX7_letsGo_20 : decode cX7_letsGo 20 = .ok (.aload_n 0, 1) := by decide +kernel
theorem dX7_letsGo_21 : decode cX7_letsGo 21 = .ok (.getfield 91, 3) := by decide +kernel
theorem dX7_letsGo_24 : decode cX7_letsGo 24 = .ok (.iload_n 1, 1) := by decide +kernel
theorem dX7_letsGo_25 : decode cX7_letsGo 25 = .ok (.iaload, 1) := by decide +kernel
theorem dX7_letsGo_26 : decode cX7_letsGo 26 = .ok (.iadd, 1) := by decide +kernel
theorem dX7_letsGo_27 : decode cX7_letsGo 27 = .ok (.iaload, 1) := by decide +kernel
theorem dX7_letsGo_28 : decode cX7_letsGo 28 = .ok (.aload_n 0, 1) := by decide +kernel
theorem dX7_letsGo_29 : decode cX7_letsGo 29 = .ok (.getfield 69, 3) := by decide +kernel
theorem dX7_letsGo_32 : decode cX7_letsGo 32 = .ok (.iload_n 1, 1) := by decide +kernel
theorem dX7_letsGo_33 : decode cX7_letsGo 33 = .ok (.iaload, 1) := by decide +kernel
theorem dX7_letsGo_34 : decode cX7_letsGo 34 = .ok (.bipush 10, 2) := by decide +kernel
theorem dX7_letsGo_36 : decode cX7_letsGo 36 = .ok (.isub, 1) := by decide +kernel
theorem dX7_letsGo_37 : decode cX7_letsGo 37 = .ok (.if_icmp .gt 70, 3) := by decide +kernel
theorem dX7_letsGo_40 : decode cX7_letsGo 40 = .ok (.iload_n 2, 1) := by decide +kernel
theorem dX7_letsGo_41 : decode cX7_letsGo 41 = .ok (.ifCond .ne 29, 3) := by decide +kernel
theorem dX7_letsGo_44 : decode cX7_letsGo 44 = .ok (.aload_n 0, 1) := by decide +kernel
theorem dX7_letsGo_45 : decode cX7_letsGo 45 = .ok (.getfield 100, 3) := by decide +kernel
theorem dX7_letsGo_48 : decode cX7_letsGo 48 = .ok (.sipush 8192, 3) := by decide +kernel
theorem dX7_letsGo_51 : decode cX7_letsGo 51 = .ok (.iload_n 1, 1) := by decide +kernel
theorem dX7_letsGo_52 : decode cX7_letsGo 52 = .ok (.imul, 1) := by decide +kernel
theorem dX7_letsGo_53 : decode cX7_letsGo 53 = .ok (.aload_n 0, 1) := by decide +kernel
theorem dX7_letsGo_54 : decode cX7_letsGo 54 = .ok (.getfield 91, 3) := by decide +kernel
theorem dX7_letsGo_57 : decode cX7_letsGo 57 = .ok (.iload_n 1, 1) := by decide +kernel
theorem dX7_letsGo_58 : decode cX7_letsGo 58 = .ok (.iaload, 1) := by decide +kernel
theorem dX7_letsGo_59 : decode cX7_letsGo 59 = .ok (.iadd, 1) := by decide +kernel
theorem dX7_letsGo_60 : decode cX7_letsGo 60 = .ok (.iaload, 1) := by decide +kernel
theorem dX7_letsGo_61 : decode cX7_letsGo 61 = .ok (.aload_n 0, 1) := by decide +kernel
theorem dX7_letsGo_62 : decode cX7_letsGo 62 = .ok (.getfield 75, 3) := by decide +kernel
theorem dX7_letsGo_65 : decode cX7_letsGo 65 = .ok (.iload_n 1, 1) := by decide +kernel
theorem dX7_letsGo_66 : decode cX7_letsGo 66 = .ok (.iaload, 1) := by decide +kernel
theorem dX7_letsGo_67 : decode cX7_letsGo 67 = .ok (.if_icmp .lt 7, 3) := by decide +kernel
theorem dX7_letsGo_70 : decode cX7_letsGo 70 = .ok (.iconst 1, 1) := by decide +kernel
theorem dX7_letsGo_71 : decode cX7_letsGo 71 = .ok (.goto 4, 3) := by decide +kernel
theorem dX7_letsGo_74 : decode cX7_letsGo 74 = .ok (.iconst 0, 1) := by decide +kernel
theorem dX7_letsGo_75 : decode cX7_letsGo 75 = .ok (.istore_n 2, 1) := by decide +kernel
theorem dX7_letsGo_76 : decode cX7_letsGo 76 = .ok (.aload_n 0, 1) := by decide +kernel
theorem dX7_letsGo_77 : decode cX7_letsGo 77 = .ok (.getfield 91, 3) := by decide +kernel
theorem dX7_letsGo_80 : decode cX7_letsGo 80 = .ok (.iload_n 1, 1) := by decide +kernel
theorem dX7_letsGo_81 : decode cX7_letsGo 81 = .ok (.aload_n 0, 1) := by decide +kernel
theorem dX7_letsGo_82 : decode cX7_letsGo 82 = .ok (.getfield 91, 3) := by decide +kernel
theorem dX7_letsGo_85 : decode cX7_letsGo 85 = .ok (.iload_n 1, 1) := by decide +kernel
theorem dX7_letsGo_86 : decode cX7_letsGo 86 = .ok (.iaload, 1) := by decide +kernel
theorem dX7_letsGo_87 : decode cX7_letsGo 87 = .ok (.iconst 1, 1) := by decide +kernel
theorem dX7_letsGo_88 : decode cX7_letsGo 88 = .ok (.iadd, 1) := by decide +kernel
theorem dX7_letsGo_89 : decode cX7_letsGo 89 = .ok (.sipush 8192, 3) := by decide +kernel
theorem dX7_letsGo_92 : decode cX7_letsGo 92 = .ok (.irem, 1) := by decide +kernel
theorem dX7_letsGo_93 : decode cX7_letsGo 93 = .ok (.iastore, 1) := by decide +kernel
theorem dX7_letsGo_94 : decode cX7_letsGo 94 = .ok (.aload_n 0, 1) := by decide +kernel
theorem dX7_letsGo_95 : decode cX7_letsGo 95 = .ok (.getfield 94, 3) := by decide +kernel
theorem dX7_letsGo_98 : decode cX7_letsGo 98 = .ok (.iload_n 1, 1) := by decide +kernel
theorem dX7_letsGo_99 : decode cX7_letsGo 99 = .ok (.dup2, 1) := by decide +kernel
theorem dX7_letsGo_100 : decode cX7_letsGo 100 = .ok (.iaload, 1) := by decide +kernel
theorem dX7_letsGo_101 : decode cX7_letsGo 101 = .ok (.iconst 1, 1) := by decide +kernel
theorem dX7_letsGo_102 : decode cX7_letsGo 102 = .ok (.isub, 1) := by decide +kernel
theorem dX7_letsGo_103 : decode cX7_letsGo 103 = .ok (.iastore, 1) := by decide +kernel
theorem dX7_letsGo_104 : decode cX7_letsGo 104 = .ok (.goto (-102), 3) := by decide +kernel
theorem dX7_letsGo_107 : decode cX7_letsGo 107 = .ok (.iload_n 2, 1) := by decide +kernel
theorem dX7_letsGo_108 : decode cX7_letsGo 108 = .ok (.ifCond .eq 27, 3) := by decide +kernel
theorem dX7_letsGo_111 : decode cX7_letsGo 111 = .ok (.aload_n 0, 1) := by decide +kernel
theorem dX7_letsGo_112 : decode cX7_letsGo 112 = .ok (.iload_n 1, 1) := by decide +kernel
theorem dX7_letsGo_113 : decode cX7_letsGo 113 = .ok (.iconst 0, 1) := by decide +kernel
theorem dX7_letsGo_114 : decode cX7_letsGo 114 = .ok (.invokevirtual 206, 3) := by decide +kernel
theorem dX7_letsGo_117 : decode cX7_letsGo 117 = .ok (.istore_n 3, 1) := by decide +kernel
theorem dX7_letsGo_118 : decode cX7_letsGo 118 = .ok (.aload_n 0, 1) := by decide +kernel
theorem dX7_letsGo_119 : decode cX7_letsGo 119 = .ok (.getfield 75, 3) := by decide +kernel
theorem dX7_letsGo_122 : decode cX7_letsGo 122 = .ok (.iload_n 1, 1) := by decide +kernel
theorem dX7_letsGo_123 : decode cX7_letsGo 123 = .ok (.iload_n 3, 1) := by decide +kernel
theorem dX7_letsGo_124 : decode cX7_letsGo 124 = .ok (.bipush (-9), 2) := by decide +kernel
theorem dX7_letsGo_126 : decode cX7_letsGo 126 = .ok (.if_icmp .ne 7, 3) := by decide +kernel
theorem dX7_letsGo_129 : decode cX7_letsGo 129 = .ok (.iconst 0, 1) := by decide +kernel
theorem dX7_letsGo_130 : decode cX7_letsGo 130 = .ok (.goto 4, 3) := by decide +kernel
theorem dX7_letsGo_133 : decode cX7_letsGo 133 = .ok (.iload_n 3, 1) := by decide +kernel
theorem dX7_letsGo_134 : decode cX7_letsGo 134 = .ok (.iastore, 1) := by decide +kernel
theorem dX7_letsGo_135 : decode cX7_letsGo 135 = .ok (.return_, 1) := by decide +kernel
theorem dX7_comesTo_0 : decode cX7_comesTo 0 = .ok (.aload_n 0, 1) := by decide +kernel
theorem dX7_comesTo_1 : decode cX7_comesTo 1 = .ok (.getfield 127, 3) := by decide +kernel
theorem dX7_comesTo_4 : decode cX7_comesTo 4 = .ok (.iload_n 1, 1) := by decide +kernel
theorem dX7_comesTo_5 : decode cX7_comesTo 5 = .ok (.iaload, 1) := by decide +kernel
theorem dX7_comesTo_6 : decode cX7_comesTo 6 = .ok (.bipush 12, 2) := by decide +kernel
theorem dX7_comesTo_8 : decode cX7_comesTo 8 = .ok (.if_icmp .lt 65, 3) := by decide +kernel
theorem dX7_comesTo_11 : decode cX7_comesTo 11 = .ok (.iconst 0, 1) := by decide +kernel
theorem dX7_comesTo_12 : decode cX7_comesTo 12 = .ok (.istore_n 3, 1) := by decide +kernel
theorem dX7_comesTo_13 : decode cX7_comesTo 13 = .ok (.iload_n 3, 1) := by decide +kernel
theorem dX7_comesTo_14 : decode cX7_comesTo 14 = .ok (.bipush 11, 2) := by decide +kernel
theorem dX7_comesTo_16 : decode cX7_comesTo 16 = .ok (.if_icmp .ge 57, 3) := by decide +kernel
theorem dX7_comesTo_19 : decode cX7_comesTo 19 = .ok (.aload_n 0, 1) := by decide +kernel
theorem dX7_comesTo_20 : decode cX7_comesTo 20 = .ok (.getfield 130, 3) := by decide +kernel
theorem dX7_comesTo_23 : decode cX7_comesTo 23 = .ok (.bipush 12, 2) := by decide +kernel
theorem dX7_comesTo_25 : decode cX7_comesTo 25 = .ok (.iload_n 1, 1) := by decide +kernel
theorem dX7_comesTo_26 : decode cX7_comesTo 26 = .ok (.imul, 1) := by decide +kernel
theorem dX7_comesTo_27 : decode cX7_comesTo 27 = .ok (.iload_n 3, 1) := by decide +kernel
theorem dX7_comesTo_28 : decode cX7_comesTo 28 = .ok (.iadd, 1) := by decide +kernel
theorem dX7_comesTo_29 : decode cX7_comesTo 29 = .ok (.aload_n 0, 1) := by decide +kernel
theorem dX7_comesTo_30 : decode cX7_comesTo 30 = .ok (.getfield 130, 3) := by decide +kernel
theorem dX7_comesTo_33 : decode cX7_comesTo 33 = .ok (.bipush 12, 2) := by decide +kernel
theorem dX7_comesTo_35 : decode cX7_comesTo 35 = .ok (.iload_n 1, 1) := by decide +kernel
theorem dX7_comesTo_36 : decode cX7_comesTo 36 = .ok (.imul, 1) := by decide +kernel
theorem dX7_comesTo_37 : decode cX7_comesTo 37 = .ok (.iload_n 3, 1) := by decide +kernel
theorem dX7_comesTo_38 : decode cX7_comesTo 38 = .ok (.iadd, 1) := by decide +kernel
theorem dX7_comesTo_39 : decode cX7_comesTo 39 = .ok (.iconst 1, 1) := by decide +kernel
theorem dX7_comesTo_40 : decode cX7_comesTo 40 = .ok (.iadd, 1) := by decide +kernel
theorem dX7_comesTo_41 : decode cX7_comesTo 41 = .ok (.iaload, 1) := by decide +kernel
theorem dX7_comesTo_42 : decode cX7_comesTo 42 = .ok (.iastore, 1) := by decide +kernel
theorem dX7_comesTo_43 : decode cX7_comesTo 43 = .ok (.aload_n 0, 1) := by decide +kernel
theorem dX7_comesTo_44 : decode cX7_comesTo 44 = .ok (.getfield 133, 3) := by decide +kernel
theorem dX7_comesTo_47 : decode cX7_comesTo 47 = .ok (.bipush 12, 2) := by decide +kernel
theorem dX7_comesTo_49 : decode cX7_comesTo 49 = .ok (.iload_n 1, 1) := by decide +kernel
theorem dX7_comesTo_50 : decode cX7_comesTo 50 = .ok (.imul, 1) := by decide +kernel
theorem dX7_comesTo_51 : decode cX7_comesTo 51 = .ok (.iload_n 3, 1) := by decide +kernel
theorem dX7_comesTo_52 : decode cX7_comesTo 52 = .ok (.iadd, 1) := by decide +kernel
theorem dX7_comesTo_53 : decode cX7_comesTo 53 = .ok (.aload_n 0, 1) := by decide +kernel
theorem dX7_comesTo_54 : decode cX7_comesTo 54 = .ok (.getfield 133, 3) := by decide +kernel
theorem dX7_comesTo_57 : decode cX7_comesTo 57 = .ok (.bipush 12, 2) := by decide +kernel
theorem dX7_comesTo_59 : decode cX7_comesTo 59 = .ok (.iload_n 1, 1) := by decide +kernel
theorem dX7_comesTo_60 : decode cX7_comesTo 60 = .ok (.imul, 1) := by decide +kernel
theorem dX7_comesTo_61 : decode cX7_comesTo 61 = .ok (.iload_n 3, 1) := by decide +kernel
theorem dX7_comesTo_62 : decode cX7_comesTo 62 = .ok (.iadd, 1) := by decide +kernel
theorem dX7_comesTo_63 : decode cX7_comesTo 63 = .ok (.iconst 1, 1) := by decide +kernel
theorem dX7_comesTo_64 : decode cX7_comesTo 64 = .ok (.iadd, 1) := by decide +kernel
theorem dX7_comesTo_65 : decode cX7_comesTo 65 = .ok (.iaload, 1) := by decide +kernel
theorem dX7_comesTo_66 : decode cX7_comesTo 66 = .ok (.iastore, 1) := by decide +kernel
theorem dX7_comesTo_67 : decode cX7_comesTo 67 = .ok (.iinc 3 1, 3) := by decide +kernel
theorem dX7_comesTo_70 : decode cX7_comesTo 70 = .ok (.goto (-57), 3) := by decide +kernel
theorem dX7_comesTo_73 : decode cX7_comesTo 73 = .ok (.bipush 12, 2) := by decide +kernel
theorem dX7_comesTo_75 : decode cX7_comesTo 75 = .ok (.iload_n 1, 1) := by decide +kernel
theorem dX7_comesTo_76 : decode cX7_comesTo 76 = .ok (.imul, 1) := by decide +kernel
theorem dX7_comesTo_77 : decode cX7_comesTo 77 = .ok (.aload_n 0, 1) := by decide +kernel
theorem dX7_comesTo_78 : decode cX7_comesTo 78 = .ok (.getfield 127, 3) := by decide +kernel
theorem dX7_comesTo_81 : decode cX7_comesTo 81 = .ok (.iload_n 1, 1) := by decide +kernel
theorem dX7_comesTo_82 : decode cX7_comesTo 82 = .ok (.iaload, 1) := by decide +kernel
theorem dX7_comesTo_83 : decode cX7_comesTo 83 = .ok (.bipush 12, 2) := by decide +kernel
theorem dX7_comesTo_85 : decode cX7_comesTo 85 = .ok (.if_icmp .ge 12, 3) := by decide +kernel
theorem dX7_comesTo_88 : decode cX7_comesTo 88 = .ok (.aload_n 0, 1) := by decide +kernel
theorem dX7_comesTo_89 : decode cX7_comesTo 89 = .ok (.getfield 127, 3) := by decide +kernel
theorem dX7_comesTo_92 : decode cX7_comesTo 92 = .ok (.iload_n 1, 1) := by decide +kernel
theorem dX7_comesTo_93 : decode cX7_comesTo 93 = .ok (.iaload, 1) := by decide +kernel
theorem dX7_comesTo_94 : decode cX7_comesTo 94 = .ok (.goto 5, 3) := by decide +kernel
theorem dX7_comesTo_97 : decode cX7_comesTo 97 = .ok (.bipush 11, 2) := by decide +kernel
theorem dX7_comesTo_99 : decode cX7_comesTo 99 = .ok (.iadd, 1) := by decide +kernel
theorem dX7_comesTo_100 : decode cX7_comesTo 100 = .ok (.istore_n 3, 1) := by decide +kernel
theorem dX7_comesTo_101 : decode cX7_comesTo 101 = .ok (.aload_n 0, 1) := by decide +kernel
theorem dX7_comesTo_102 : decode cX7_comesTo 102 = .ok (.getfield 130, 3) := by decide +kernel
theorem dX7_comesTo_105 : decode cX7_comesTo 105 = .ok (.iload_n 3, 1) := by decide +kernel
theorem dX7_comesTo_106 : decode cX7_comesTo 106 = .ok (.aload_n 0, 1) := by decide +kernel
theorem dX7_comesTo_107 : decode cX7_comesTo 107 = .ok (.getfield 146, 3) := by decide +kernel
theorem dX7_comesTo_110 : decode cX7_comesTo 110 = .ok (.iastore, 1) := by decide +kernel
theorem dX7_comesTo_111 : decode cX7_comesTo 111 = .ok (.aload_n 0, 1) := by decide +kernel
theorem dX7_comesTo_112 : decode cX7_comesTo 112 = .ok (.getfield 133, 3) := by decide +kernel
theorem dX7_comesTo_115 : decode cX7_comesTo 115 = .ok (.iload_n 3, 1) := by decide +kernel
theorem dX7_comesTo_116 : decode cX7_comesTo 116 = .ok (.iload_n 2, 1) := by decide +kernel
theorem dX7_comesTo_117 : decode cX7_comesTo 117 = .ok (.iastore, 1) := by decide +kernel
theorem dX7_comesTo_118 : decode cX7_comesTo 118 = .ok (.aload_n 0, 1) := by decide +kernel
theorem dX7_comesTo_119 : decode cX7_comesTo 119 = .ok (.getfield 127, 3) := by decide +kernel
theorem dX7_comesTo_122 : decode cX7_comesTo 122 = .ok (.iload_n 1, 1) := by decide +kernel
theorem dX7_comesTo_123 : decode cX7_comesTo 123 = .ok (.dup2, 1) := by decide +kernel
theorem dX7_comesTo_124 : decode cX7_comesTo 124 = .ok (.iaload, 1) := by decide +kernel
theorem dX7_comesTo_125 : decode cX7_comesTo 125 = .ok (.iconst 1, 1) := by decide +kernel
theorem dX7_comesTo_126 : decode cX7_comesTo 126 = .ok (.iadd, 1) := by decide +kernel
theorem dX7_comesTo_127 : decode cX7_comesTo 127 = .ok (.iastore, 1) := by decide +kernel
theorem dX7_comesTo_128 : decode cX7_comesTo 128 = .ok (.aload_n 0, 1) := by decide +kernel
theorem dX7_comesTo_129 : decode cX7_comesTo 129 = .ok (.getfield 103, 3) := by decide +kernel
theorem dX7_comesTo_132 : decode cX7_comesTo 132 = .ok (.iload_n 1, 1) := by decide +kernel
theorem dX7_comesTo_133 : decode cX7_comesTo 133 = .ok (.iload_n 2, 1) := by decide +kernel
theorem dX7_comesTo_134 : decode cX7_comesTo 134 = .ok (.iastore, 1) := by decide +kernel
theorem dX7_comesTo_135 : decode cX7_comesTo 135 = .ok (.return_, 1) := by decide +kernel
theorem dX7_comesToPhase_0 : decode cX7_comesToPhase 0 = .ok (.aload_n 0, 1) := by decide +kernel
theorem dX7_comesToPhase_1 : decode cX7_comesToPhase 1 = .ok (.getfield 106, 3) := by decide +kernel
theorem dX7_comesToPhase_4 : decode cX7_comesToPhase 4 = .ok (.iload_n 1, 1) := by decide +kernel
theorem dX7_comesToPhase_5 : decode cX7_comesToPhase 5 = .ok (.iload_n 2, 1) := by decide +kernel
theorem dX7_comesToPhase_6 : decode cX7_comesToPhase 6 = .ok (.iastore, 1) := by decide +kernel
theorem dX7_comesToPhase_7 : decode cX7_comesToPhase 7 = .ok (.aload_n 0, 1) := by decide +kernel
theorem dX7_comesToPhase_8 : decode cX7_comesToPhase 8 = .ok (.getfield 109, 3) := by decide +kernel
theorem dX7_comesToPhase_11 : decode cX7_comesToPhase 11 = .ok (.iload_n 1, 1) := by decide +kernel
theorem dX7_comesToPhase_12 : decode cX7_comesToPhase 12 = .ok (.aload_n 0, 1) := by decide +kernel
theorem dX7_comesToPhase_13 : decode cX7_comesToPhase 13 = .ok (.getfield 146, 3) := by decide +kernel
theorem dX7_comesToPhase_16 : decode cX7_comesToPhase 16 = .ok (.iastore, 1) := by decide +kernel
theorem dX7_comesToPhase_17 : decode cX7_comesToPhase 17 = .ok (.aload_n 0, 1) := by decide +kernel
theorem dX7_comesToPhase_18 : decode cX7_comesToPhase 18 = .ok (.getfield 112, 3) := by decide +kernel
theorem dX7_comesToPhase_21 : decode cX7_comesToPhase 21 = .ok (.iload_n 1, 1) := by decide +kernel
theorem dX7_comesToPhase_22 : decode cX7_comesToPhase 22 = .ok (.aload_n 0, 1) := by decide +kernel
theorem dX7_comesToPhase_23 : decode cX7_comesToPhase 23 = .ok (.getfield 88, 3) := by decide +kernel
theorem dX7_comesToPhase_26 : decode cX7_comesToPhase 26 = .ok (.iload_n 1, 1) := by decide +kernel
theorem dX7_comesToPhase_27 : decode cX7_comesToPhase 27 = .ok (.iaload, 1) := by decide +kernel
theorem dX7_comesToPhase_28 : decode cX7_comesToPhase 28 = .ok (.iastore, 1) := by decide +kernel
theorem dX7_comesToPhase_29 : decode cX7_comesToPhase 29 = .ok (.return_, 1) := by decide +kernel
theorem dX7_starts_0 : decode cX7_starts 0 = .ok (.iload_n 2, 1) := by decide +kernel
theorem dX7_starts_1 : decode cX7_starts 1 = .ok (.ifCond .eq 7, 3) := by decide +kernel
theorem dX7_starts_4 : decode cX7_starts 4 = .ok (.iload_n 3, 1) := by decide +kernel
theorem dX7_starts_5 : decode cX7_starts 5 = .ok (.ifCond .eq 4, 3) := by decide +kernel
theorem dX7_starts_8 : decode cX7_starts 8 = .ok (.return_, 1) := by decide +kernel
theorem dX7_starts_9 : decode cX7_starts 9 = .ok (.ldc2_w 185, 3) := by decide +kernel
theorem dX7_starts_12 : decode cX7_starts 12 = .ok (.aload_n 0, 1) := by decide +kernel
theorem dX7_starts_13 : decode cX7_starts 13 = .ok (.getfield 75, 3) := by decide +kernel
theorem dX7_starts_16 : decode cX7_starts 16 = .ok (.iload_n 1, 1) := by decide +kernel
theorem dX7_starts_17 : decode cX7_starts 17 = .ok (.iaload, 1) := by decide +kernel
theorem dX7_starts_18 : decode cX7_starts 18 = .ok (.i2l, 1) := by decide +kernel
theorem dX7_starts_19 : decode cX7_starts 19 = .ok (.lmul, 1) := by decide +kernel
theorem dX7_starts_20 : decode cX7_starts 20 = .ok (.ldc2_w 209, 3) := by decide +kernel
theorem dX7_starts_23 : decode cX7_starts 23 = .ok (.aload_n 0, 1) := by decide +kernel
theorem dX7_starts_24 : decode cX7_starts 24 = .ok (.getfield 121, 3) := by decide +kernel
theorem dX7_starts_27 : decode cX7_starts 27 = .ok (.iload_n 1, 1) := by decide +kernel
theorem dX7_starts_28 : decode cX7_starts 28 = .ok (.iaload, 1) := by decide +kernel
theorem dX7_starts_29 : decode cX7_starts 29 = .ok (.i2l, 1) := by decide +kernel
theorem dX7_starts_30 : decode cX7_starts 30 = .ok (.lmul, 1) := by decide +kernel
theorem dX7_starts_31 : decode cX7_starts 31 = .ok (.lcmp, 1) := by decide +kernel
theorem dX7_starts_32 : decode cX7_starts 32 = .ok (.ifCond .lt 25, 3) := by decide +kernel
theorem dX7_starts_35 : decode cX7_starts 35 = .ok (.aload_n 0, 1) := by decide +kernel
theorem dX7_starts_36 : decode cX7_starts 36 = .ok (.getfield 121, 3) := by decide +kernel
theorem dX7_starts_39 : decode cX7_starts 39 = .ok (.iload_n 1, 1) := by decide +kernel
theorem dX7_starts_40 : decode cX7_starts 40 = .ok (.aload_n 0, 1) := by decide +kernel
theorem dX7_starts_41 : decode cX7_starts 41 = .ok (.getfield 75, 3) := by decide +kernel
theorem dX7_starts_44 : decode cX7_starts 44 = .ok (.iload_n 1, 1) := by decide +kernel
theorem dX7_starts_45 : decode cX7_starts 45 = .ok (.iaload, 1) := by decide +kernel
theorem dX7_starts_46 : decode cX7_starts 46 = .ok (.iastore, 1) := by decide +kernel
theorem dX7_starts_47 : decode cX7_starts 47 = .ok (.aload_n 0, 1) := by decide +kernel
theorem dX7_starts_48 : decode cX7_starts 48 = .ok (.getfield 124, 3) := by decide +kernel
theorem dX7_starts_51 : decode cX7_starts 51 = .ok (.iload_n 1, 1) := by decide +kernel
theorem dX7_starts_52 : decode cX7_starts 52 = .ok (.iconst 0, 1) := by decide +kernel
theorem dX7_starts_53 : decode cX7_starts 53 = .ok (.iastore, 1) := by decide +kernel
theorem dX7_starts_54 : decode cX7_starts 54 = .ok (.goto 43, 3) := by decide +kernel
theorem dX7_starts_57 : decode cX7_starts 57 = .ok (.aload_n 0, 1) := by decide +kernel
theorem dX7_starts_58 : decode cX7_starts 58 = .ok (.getfield 124, 3) := by decide +kernel
theorem dX7_starts_61 : decode cX7_starts 61 = .ok (.iload_n 1, 1) := by decide +kernel
theorem dX7_starts_62 : decode cX7_starts 62 = .ok (.dup2, 1) := by decide +kernel
theorem dX7_starts_63 : decode cX7_starts 63 = .ok (.iaload, 1) := by decide +kernel
theorem dX7_starts_64 : decode cX7_starts 64 = .ok (.iconst 1, 1) := by decide +kernel
theorem dX7_starts_65 : decode cX7_starts 65 = .ok (.iadd, 1) := by decide +kernel
theorem dX7_starts_66 : decode cX7_starts 66 = .ok (.iastore, 1) := by decide +kernel
theorem dX7_starts_67 : decode cX7_starts 67 = .ok (.aload_n 0, 1) := by decide +kernel
theorem dX7_starts_68 : decode cX7_starts 68 = .ok (.getfield 118, 3) := by decide +kernel
theorem dX7_starts_71 : decode cX7_starts 71 = .ok (.iload_n 1, 1) := by decide +kernel
theorem dX7_starts_72 : decode cX7_starts 72 = .ok (.aload_n 0, 1) := by decide +kernel
theorem dX7_starts_73 : decode cX7_starts 73 = .ok (.getfield 118, 3) := by decide +kernel
theorem dX7_starts_76 : decode cX7_starts 76 = .ok (.iload_n 1, 1) := by decide +kernel
theorem dX7_starts_77 : decode cX7_starts 77 = .ok (.baload, 1) := by decide +kernel
theorem dX7_starts_78 : decode cX7_starts 78 = .ok (.ifCond .ne 13, 3) := by decide +kernel
theorem dX7_starts_81 : decode cX7_starts 81 = .ok (.aload_n 0, 1) := by decide +kernel
theorem dX7_starts_82 : decode cX7_starts 82 = .ok (.getfield 124, 3) := by decide +kernel
theorem dX7_starts_85 : decode cX7_starts 85 = .ok (.iload_n 1, 1) := by decide +kernel
theorem dX7_starts_86 : decode cX7_starts 86 = .ok (.iaload, 1) := by decide +kernel
theorem dX7_starts_87 : decode cX7_starts 87 = .ok (.iconst 3, 1) := by decide +kernel
theorem dX7_starts_88 : decode cX7_starts 88 = .ok (.if_icmp .ne 7, 3) := by decide +kernel
theorem dX7_starts_91 : decode cX7_starts 91 = .ok (.iconst 1, 1) := by decide +kernel
theorem dX7_starts_92 : decode cX7_starts 92 = .ok (.goto 4, 3) := by decide +kernel
theorem dX7_starts_95 : decode cX7_starts 95 = .ok (.iconst 0, 1) := by decide +kernel
theorem dX7_starts_96 : decode cX7_starts 96 = .ok (.bastore, 1) := by decide +kernel
theorem dX7_starts_97 : decode cX7_starts 97 = .ok (.return_, 1) := by decide +kernel
set_option maxRecDepth 20000 in
theorem ggX7_isPhaseOver_X7_product : GoodIn wsX7_isPhaseOver wsX7_product := goodIn_r _ [14, 3, 15, 16, 17, 18, 19, 20, 21, 22, 23, 24, 25, 26, 27, 28, 29, 30, 31, 32, 33, 34, 35, 36, 37, 38, 39, 40, 41, 42, 43, 44, 45, 46, 47, 48, 49, 50, 51, 52, 53, 54, 55, 56, 57, 58, 59, 60, 61, 62, 63, 64, 65, 66] (by decide +kernel) (by decide +kernel)
set_option maxRecDepth 20000 in
theorem gX7_isPhaseOver_X7_product : GoodIn wsX7_isPhaseOver (wsV RX7 179 RX7 yX7_product wsX7_product) := goodIn_app (goodIn_of _ (by decide +kernel)) ggX7_isPhaseOver_X7_product
theorem dX7_isPhaseOver_0 : decode cX7_isPhaseOver 0 = .ok (.aload_n 0, 1) := by decide +kernel
theorem dX7_isPhaseOver_1 : decode cX7_isPhaseOver 1 = .ok (.getfield 146, 3) := by decide +kernel
theorem dX7_isPhaseOver_4 : decode cX7_isPhaseOver 4 = .ok (.aload_n 0, 1) := by decide +kernel
theorem dX7_isPhaseOver_5 : decode cX7_isPhaseOver 5 = .ok (.getfield 109, 3) := by decide +kernel
theorem dX7_isPhaseOver_8 : decode cX7_isPhaseOver 8 = .ok (.iload_n 1, 1) := by decide +kernel
theorem dX7_isPhaseOver_9 : decode cX7_isPhaseOver 9 = .ok (.iaload, 1) := by decide +kernel
theorem dX7_isPhaseOver_10 : decode cX7_isPhaseOver 10 = .ok (.isub, 1) := by decide +kernel
theorem dX7_isPhaseOver_11 : decode cX7_isPhaseOver 11 = .ok (.aload_n 0, 1) := by decide +kernel
theorem dX7_isPhaseOver_12 : decode cX7_isPhaseOver 12 = .ok (.getfield 78, 3) := by decide +kernel
theorem dX7_isPhaseOver_15 : decode cX7_isPhaseOver 15 = .ok (.iload_n 1, 1) := by decide +kernel
theorem dX7_isPhaseOver_16 : decode cX7_isPhaseOver 16 = .ok (.iaload, 1) := by decide +kernel
theorem dX7_isPhaseOver_17 : decode cX7_isPhaseOver 17 = .ok (.if_icmp .lt 7, 3) := by decide +kernel
theorem dX7_isPhaseOver_20 : decode cX7_isPhaseOver 20 = .ok (.iconst 1, 1) := by decide +kernel
theorem dX7_isPhaseOver_21 : decode cX7_isPhaseOver 21 = .ok (.goto 4, 3) := by decide +kernel
theorem dX7_isPhaseOver_24 : decode cX7_isPhaseOver 24 = .ok (.iconst 0, 1) := by decide +kernel
theorem dX7_isPhaseOver_25 : decode cX7_isPhaseOver 25 = .ok (.istore_n 2, 1) := by decide +kernel
theorem dX7_isPhaseOver_26 : decode cX7_isPhaseOver 26 = .ok (.aload_n 0, 1) := by decide +kernel
theorem dX7_isPhaseOver_27 : decode cX7_isPhaseOver 27 = .ok (.getfield 106, 3) := by decide +kernel
theorem dX7_isPhaseOver_30 : decode cX7_isPhaseOver 30 = .ok (.iload_n 1, 1) := by decide +kernel
theorem dX7_isPhaseOver_31 : decode cX7_isPhaseOver 31 = .ok (.iaload, 1) := by decide +kernel
theorem dX7_isPhaseOver_32 : decode cX7_isPhaseOver 32 = .ok (.ifCond .ne 52, 3) := by decide +kernel
theorem dX7_isPhaseOver_35 : decode cX7_isPhaseOver 35 = .ok (.iload_n 2, 1) := by decide +kernel
theorem dX7_isPhaseOver_36 : decode cX7_isPhaseOver 36 = .ok (.ifCond .eq 46, 3) := by decide +kernel
theorem dX7_isPhaseOver_39 : decode cX7_isPhaseOver 39 = .ok (.ldc2_w 173, 3) := by decide +kernel
theorem dX7_isPhaseOver_42 : decode cX7_isPhaseOver 42 = .ok (.aload_n 0, 1) := by decide +kernel
theorem dX7_isPhaseOver_43 : decode cX7_isPhaseOver 43 = .ok (.getfield 32, 3) := by decide +kernel
theorem dX7_isPhaseOver_46 : decode cX7_isPhaseOver 46 = .ok (.iload_n 1, 1) := by decide +kernel
theorem dX7_isPhaseOver_47 : decode cX7_isPhaseOver 47 = .ok (.iaload, 1) := by decide +kernel
theorem dX7_isPhaseOver_48 : decode cX7_isPhaseOver 48 = .ok (.i2l, 1) := by decide +kernel
theorem dX7_isPhaseOver_49 : decode cX7_isPhaseOver 49 = .ok (.lmul, 1) := by decide +kernel
theorem dX7_isPhaseOver_50 : decode cX7_isPhaseOver 50 = .ok (.ldc2_w 211, 3) := by decide +kernel
theorem dX7_isPhaseOver_53 : decode cX7_isPhaseOver 53 = .ok (.aload_n 0, 1) := by decide +kernel
theorem dX7_isPhaseOver_54 : decode cX7_isPhaseOver 54 = .ok (.iload_n 1, 1) := by decide +kernel
theorem dX7_isPhaseOver_55 : decode cX7_isPhaseOver 55 = .ok (.invokevirtual 179, 3) := by decide +kernel
theorem dX7_isPhaseOver_58 : decode cX7_isPhaseOver 58 = .ok (.lmul, 1) := by decide +kernel
theorem dX7_isPhaseOver_59 : decode cX7_isPhaseOver 59 = .ok (.lcmp, 1) := by decide +kernel
theorem dX7_isPhaseOver_60 : decode cX7_isPhaseOver 60 = .ok (.ifCond .ge 18, 3) := by decide +kernel
theorem dX7_isPhaseOver_63 : decode cX7_isPhaseOver 63 = .ok (.aload_n 0, 1) := by decide +kernel
theorem dX7_isPhaseOver_64 : decode cX7_isPhaseOver 64 = .ok (.getfield 88, 3) := by decide +kernel
theorem dX7_isPhaseOver_67 : decode cX7_isPhaseOver 67 = .ok (.iload_n 1, 1) := by decide +kernel
theorem dX7_isPhaseOver_68 : decode cX7_isPhaseOver 68 = .ok (.iaload, 1) := by decide +kernel
theorem dX7_isPhaseOver_69 : decode cX7_isPhaseOver 69 = .ok (.aload_n 0, 1) := by decide +kernel
theorem dX7_isPhaseOver_70 : decode cX7_isPhaseOver 70 = .ok (.getfield 112, 3) := by decide +kernel
theorem dX7_isPhaseOver_73 : decode cX7_isPhaseOver 73 = .ok (.iload_n 1, 1) := by decide +kernel
theorem dX7_isPhaseOver_74 : decode cX7_isPhaseOver 74 = .ok (.iaload, 1) := by decide +kernel
theorem dX7_isPhaseOver_75 : decode cX7_isPhaseOver 75 = .ok (.if_icmp .le 7, 3) := by decide +kernel
theorem dX7_isPhaseOver_78 : decode cX7_isPhaseOver 78 = .ok (.iconst 1, 1) := by decide +kernel
theorem dX7_isPhaseOver_79 : decode cX7_isPhaseOver 79 = .ok (.goto 4, 3) := by decide +kernel
theorem dX7_isPhaseOver_82 : decode cX7_isPhaseOver 82 = .ok (.iconst 0, 1) := by decide +kernel
theorem dX7_isPhaseOver_83 : decode cX7_isPhaseOver 83 = .ok (.ireturn, 1) := by decide +kernel
theorem dX7_isPhaseOver_84 : decode cX7_isPhaseOver 84 = .ok (.iload_n 2, 1) := by decide +kernel
theorem dX7_isPhaseOver_85 : decode cX7_isPhaseOver 85 = .ok (.ifCond .ne 29, 3) := by decide +kernel
theorem dX7_isPhaseOver_88 : decode cX7_isPhaseOver 88 = .ok (.aload_n 0, 1) := by decide +kernel
theorem dX7_isPhaseOver_89 : decode cX7_isPhaseOver 89 = .ok (.getfield 106, 3) := by decide +kernel
theorem dX7_isPhaseOver_92 : decode cX7_isPhaseOver 92 = .ok (.iload_n 1, 1) := by decide +kernel
theorem dX7_isPhaseOver_93 : decode cX7_isPhaseOver 93 = .ok (.iaload, 1) := by decide +kernel
theorem dX7_isPhaseOver_94 : decode cX7_isPhaseOver 94 = .ok (.iconst 1, 1) := by decide +kernel
theorem dX7_isPhaseOver_95 : decode cX7_isPhaseOver 95 = .ok (.if_icmp .ne 23, 3) := by decide +kernel
theorem dX7_isPhaseOver_98 : decode cX7_isPhaseOver 98 = .ok (.aload_n 0, 1) := by decide +kernel
theorem dX7_isPhaseOver_99 : decode cX7_isPhaseOver 99 = .ok (.getfield 32, 3) := by decide +kernel
theorem dX7_isPhaseOver_102 : decode cX7_isPhaseOver 102 = .ok (.iload_n 1, 1) := by decide +kernel
theorem dX7_isPhaseOver_103 : decode cX7_isPhaseOver 103 = .ok (.iaload, 1) := by decide +kernel
theorem dX7_isPhaseOver_104 : decode cX7_isPhaseOver 104 = .ok (.i2l, 1) := by decide +kernel
theorem dX7_isPhaseOver_105 : decode cX7_isPhaseOver 105 = .ok (.aload_n 0, 1) := by decide +kernel
theorem dX7_isPhaseOver_106 : decode cX7_isPhaseOver 106 = .ok (.iload_n 1, 1) := by decide +kernel
theorem dX7_isPhaseOver_107 : decode cX7_isPhaseOver 107 = .ok (.invokevirtual 179, 3) := by decide +kernel
theorem dX7_isPhaseOver_110 : decode cX7_isPhaseOver 110 = .ok (.lcmp, 1) := by decide +kernel
theorem dX7_isPhaseOver_111 : decode cX7_isPhaseOver 111 = .ok (.ifCond .gt 7, 3) := by decide +kernel
theorem dX7_isPhaseOver_114 : decode cX7_isPhaseOver 114 = .ok (.iconst 1, 1) := by decide +kernel
theorem dX7_isPhaseOver_115 : decode cX7_isPhaseOver 115 = .ok (.goto 4, 3) := by decide +kernel
theorem dX7_isPhaseOver_118 : decode cX7_isPhaseOver 118 = .ok (.iconst 0, 1) := by decide +kernel
theorem dX7_isPhaseOver_119 : decode cX7_isPhaseOver 119 = .ok (.ireturn, 1) := by decide +kernel
set_option maxRecDepth 20000 in
theorem ggX7_probes_X7_comesTo : GoodIn wsX7_probes wsX7_comesTo := goodIn_r _ [10, 11, 12, 13, 3, 14, 23, 24, 25, 26, 27, 28, 29, 30, 31, 32, 33, 34, 35, 36, 37, 38, 39, 40, 41, 42, 43, 44, 45, 46, 47, 48, 49, 50, 51, 52, 53, 54, 55, 56, 57, 58, 59, 60, 61, 62, 63, 64, 65, 66, 67, 68, 69, 70, 71, 72] (by decide +kernel) (by decide +kernel)
set_option maxRecDepth 20000 in
theorem gX7_probes_X7_comesTo : GoodIn wsX7_probes (wsV RX7 213 RX7 yX7_comesTo wsX7_comesTo) := goodIn_app (goodIn_of _ (by decide +kernel)) ggX7_probes_X7_comesTo
set_option maxRecDepth 20000 in
theorem ggX7_probes_X7_comesToPhase : GoodIn wsX7_probes wsX7_comesToPhase := goodIn_r _ [18, 19, 20, 3, 21, 22, 23, 24, 25, 26, 27, 28, 29, 30, 31, 32, 33, 34, 35, 36, 37, 38, 39, 40, 41, 42, 43, 44, 45, 46, 47, 48, 49, 50, 51, 52, 53, 54, 55, 56, 57, 58, 59, 60, 61, 62, 63, 64, 65, 66, 67, 68, 69, 70, 71, 72] (by decide +kernel) (by decide +kernel)
set_option maxRecDepth 20000 in
theorem gX7_probes_X7_comesToPhase : GoodIn wsX7_probes (wsV RX7 216 RX7 yX7_comesToPhase wsX7_comesToPhase) := goodIn_app (goodIn_of _ (by decide +kernel)) ggX7_probes_X7_comesToPhase
theorem dX7_probes_0 : decode cX7_probes 0 = .ok (.aload_n 0, 1) := by decide +kernel
theorem dX7_probes_1 : decode cX7_probes 1 = .ok (.getfield 115, 3) := by decide +kernel
theorem dX7_probes_4 : decode cX7_probes 4 = .ok (.iload_n 1, 1) := by decide +kernel
theorem dX7_probes_5 : decode cX7_probes 5 = .ok (.iaload, 1) := by decide +kernel
theorem dX7_probes_6 : decode cX7_probes 6 = .ok (.bipush (-9), 2) := by decide +kernel
theorem dX7_probes_8 : decode cX7_probes 8 = .ok (.if_icmp .ne 35, 3) := by decide +kernel
theorem dX7_probes_11 : decode cX7_probes 11 = .ok (.aload_n 0, 1) := by decide +kernel
theorem dX7_probes_12 : decode cX7_probes 12 = .ok (.getfield 115, 3) := by decide +kernel
theorem dX7_probes_15 : decode cX7_probes 15 = .ok (.iload_n 1, 1) := by decide +kernel
theorem dX7_probes_16 : decode cX7_probes 16 = .ok (.aload_n 0, 1) := by decide +kernel
theorem dX7_probes_17 : decode cX7_probes 17 = .ok (.getfield 32, 3) := by decide +kernel
theorem dX7_probes_20 : decode cX7_probes 20 = .ok (.iload_n 1, 1) := by decide +kernel
theorem dX7_probes_21 : decode cX7_probes 21 = .ok (.iaload, 1) := by decide +kernel
theorem dX7_probes_22 : decode cX7_probes 22 = .ok (.iconst 4, 1) := by decide +kernel
theorem dX7_probes_23 : decode cX7_probes 23 = .ok (.if_icmp .gt 14, 3) := by decide +kernel
theorem dX7_probes_26 : decode cX7_probes 26 = .ok (.aload_n 0, 1) := by decide +kernel
theorem dX7_probes_27 : decode cX7_probes 27 = .ok (.getfield 146, 3) := by decide +kernel
theorem dX7_probes_30 : decode cX7_probes 30 = .ok (.sipush 200, 3) := by decide +kernel
theorem dX7_probes_33 : decode cX7_probes 33 = .ok (.iadd, 1) := by decide +kernel
theorem dX7_probes_34 : decode cX7_probes 34 = .ok (.goto 5, 3) := by decide +kernel
theorem dX7_probes_37 : decode cX7_probes 37 = .ok (.bipush (-9), 2) := by decide +kernel
theorem dX7_probes_39 : decode cX7_probes 39 = .ok (.iastore, 1) := by decide +kernel
theorem dX7_probes_40 : decode cX7_probes 40 = .ok (.goto 64, 3) := by decide +kernel
theorem dX7_probes_43 : decode cX7_probes 43 = .ok (.aload_n 0, 1) := by decide +kernel
theorem dX7_probes_44 : decode cX7_probes 44 = .ok (.getfield 146, 3) := by decide +kernel
theorem dX7_probes_47 : decode cX7_probes 47 = .ok (.aload_n 0, 1) := by decide +kernel
theorem dX7_probes_48 : decode cX7_probes 48 = .ok (.getfield 115, 3) := by decide +kernel
theorem dX7_probes_51 : decode cX7_probes 51 = .ok (.iload_n 1, 1) := by decide +kernel
theorem dX7_probes_52 : decode cX7_probes 52 = .ok (.iaload, 1) := by decide +kernel
theorem dX7_probes_53 : decode cX7_probes 53 = .ok (.if_icmp .lt 51, 3) := by decide +kernel
theorem dX7_probes_56 : decode cX7_probes 56 = .ok (.aload_n 0, 1) := by decide +kernel
theorem dX7_probes_57 : decode cX7_probes 57 = .ok (.getfield 81, 3) := by decide +kernel
theorem dX7_probes_60 : decode cX7_probes 60 = .ok (.iload_n 1, 1) := by decide +kernel
theorem dX7_probes_61 : decode cX7_probes 61 = .ok (.aload_n 0, 1) := by decide +kernel
theorem dX7_probes_62 : decode cX7_probes 62 = .ok (.getfield 146, 3) := by decide +kernel
theorem dX7_probes_65 : decode cX7_probes 65 = .ok (.iastore, 1) := by decide +kernel
theorem dX7_probes_66 : decode cX7_probes 66 = .ok (.aload_n 0, 1) := by decide +kernel
theorem dX7_probes_67 : decode cX7_probes 67 = .ok (.getfield 115, 3) := by decide +kernel
theorem dX7_probes_70 : decode cX7_probes 70 = .ok (.iload_n 1, 1) := by decide +kernel
theorem dX7_probes_71 : decode cX7_probes 71 = .ok (.bipush (-9), 2) := by decide +kernel
theorem dX7_probes_73 : decode cX7_probes 73 = .ok (.iastore, 1) := by decide +kernel
theorem dX7_probes_74 : decode cX7_probes 74 = .ok (.aload_n 0, 1) := by decide +kernel
theorem dX7_probes_75 : decode cX7_probes 75 = .ok (.getfield 118, 3) := by decide +kernel
theorem dX7_probes_78 : decode cX7_probes 78 = .ok (.iload_n 1, 1) := by decide +kernel
theorem dX7_probes_79 : decode cX7_probes 79 = .ok (.baload, 1) := by decide +kernel
theorem dX7_probes_80 : decode cX7_probes 80 = .ok (.ifCond .eq 18, 3) := by decide +kernel
theorem dX7_probes_83 : decode cX7_probes 83 = .ok (.aload_n 0, 1) := by decide +kernel
theorem dX7_probes_84 : decode cX7_probes 84 = .ok (.iload_n 1, 1) := by decide +kernel
theorem dX7_probes_85 : decode cX7_probes 85 = .ok (.iconst 2, 1) := by decide +kernel
theorem dX7_probes_86 : decode cX7_probes 86 = .ok (.invokevirtual 213, 3) := by decide +kernel
theorem dX7_probes_89 : decode cX7_probes 89 = .ok (.aload_n 0, 1) := by decide +kernel
theorem dX7_probes_90 : decode cX7_probes 90 = .ok (.iload_n 1, 1) := by decide +kernel
theorem dX7_probes_91 : decode cX7_probes 91 = .ok (.iconst 2, 1) := by decide +kernel
theorem dX7_probes_92 : decode cX7_probes 92 = .ok (.invokevirtual 216, 3) := by decide +kernel
theorem dX7_probes_95 : decode cX7_probes 95 = .ok (.goto 9, 3) := by decide +kernel
theorem dX7_probes_98 : decode cX7_probes 98 = .ok (.aload_n 0, 1) := by decide +kernel
theorem dX7_probes_99 : decode cX7_probes 99 = .ok (.iload_n 1, 1) := by decide +kernel
theorem dX7_probes_100 : decode cX7_probes 100 = .ok (.iconst 0, 1) := by decide +kernel
theorem dX7_probes_101 : decode cX7_probes 101 = .ok (.invokevirtual 213, 3) := by decide +kernel
theorem dX7_probes_104 : decode cX7_probes 104 = .ok (.return_, 1) := by decide +kernel
set_option maxRecDepth 20000 in
theorem ggX7_changesState_X7_starts : GoodIn wsX7_changesState wsX7_starts := goodIn_r _ [10, 11, 12, 13, 14, 15, 2, 48, 49, 50, 51, 52, 53, 54, 55, 56, 57, 58, 59, 60, 61, 62, 63, 64, 65, 66, 67, 68, 69, 70, 71, 72, 73, 74, 75, 76, 77, 78, 79, 80, 81, 82, 83, 84, 85, 86, 87, 88, 89, 90, 91, 92, 93, 94, 95, 96, 97] (by decide +kernel) (by decide +kernel)
set_option maxRecDepth 20000 in
theorem gX7_changesState_X7_starts : GoodIn wsX7_changesState (wsV RX7 219 RX7 yX7_starts wsX7_starts) := goodIn_app (goodIn_of _ (by decide +kernel)) ggX7_changesState_X7_starts
set_option maxRecDepth 20000 in
theorem ggX7_changesState_X7_comesTo : GoodIn wsX7_changesState wsX7_comesTo := goodIn_r _ [19, 20, 21, 22, 23, 1, 48, 49, 50, 51, 52, 53, 54, 55, 56, 57, 58, 59, 60, 61, 62, 63, 64, 65, 66, 67, 68, 69, 70, 71, 72, 73, 74, 75, 76, 77, 78, 79, 80, 81, 82, 83, 84, 85, 86, 87, 88, 89, 90, 91, 92, 93, 94, 95, 96, 97] (by decide +kernel) (by decide +kernel)
set_option maxRecDepth 20000 in
theorem gX7_changesState_X7_comesTo : GoodIn wsX7_changesState (wsV RX7 213 RX7 yX7_comesTo wsX7_comesTo) := goodIn_app (goodIn_of _ (by decide +kernel)) ggX7_changesState_X7_comesTo
set_option maxRecDepth 20000 in
theorem ggX7_changesState_X7_product : GoodIn wsX7_changesState wsX7_product := goodIn_r _ [27, 28, 12, 29, 48, 49, 50, 51, 52, 53, 54, 55, 56, 57, 58, 59, 60, 61, 62, 63, 64, 65, 66, 67, 68, 69, 70, 71, 72, 73, 74, 75, 76, 77, 78, 79, 80, 81, 82, 83, 84, 85, 86, 87, 88, 89, 90, 91, 92, 93, 94, 95, 96, 97] (by decide +kernel) (by decide +kernel)
set_option maxRecDepth 20000 in
theorem gX7_changesState_X7_product : GoodIn wsX7_changesState (wsV RX7 179 RX7 yX7_product wsX7_product) := goodIn_app (goodIn_of _ (by decide +kernel)) ggX7_changesState_X7_product
set_option maxRecDepth 20000 in
theorem ggX7_changesState_X7_comesToPhase : GoodIn wsX7_changesState wsX7_comesToPhase := goodIn_r _ [33, 4, 34, 23, 35, 36, 48, 49, 50, 51, 52, 53, 54, 55, 56, 57, 58, 59, 60, 61, 62, 63, 64, 65, 66, 67, 68, 69, 70, 71, 72, 73, 74, 75, 76, 77, 78, 79, 80, 81, 82, 83, 84, 85, 86, 87, 88, 89, 90, 91, 92, 93, 94, 95, 96, 97] (by decide +kernel) (by decide +kernel)
set_option maxRecDepth 20000 in
theorem gX7_changesState_X7_comesToPhase : GoodIn wsX7_changesState (wsV RX7 216 RX7 yX7_comesToPhase wsX7_comesToPhase) := goodIn_app (goodIn_of _ (by decide +kernel)) ggX7_changesState_X7_comesToPhase
set_option maxRecDepth 20000 in
theorem ggX7_changesState_X7_isPhaseOver : GoodIn wsX7_changesState wsX7_isPhaseOver := goodIn_r _ [40, 23, 34, 28, 4, 41, 3, 42, 36, 35, 24, 25, 26, 9, 27, 12, 29, 48, 49, 50, 51, 52, 53, 54, 55, 56, 57, 58, 59, 60, 61, 62, 63, 64, 65, 66, 67, 68, 69, 70, 71, 72, 73, 74, 75, 76, 77, 78, 79, 80, 81, 82, 83, 84, 85, 86, 87, 88, 89, 90, 91, 92, 93, 94, 95, 96, 97] (by decide +kernel) (by decide +kernel)
set_option maxRecDepth 20000 in
theorem gX7_changesState_X7_isPhaseOver : GoodIn wsX7_changesState (wsV RX7 223 RX7 yX7_isPhaseOver wsX7_isPhaseOver) := goodIn_app (goodIn_of _ (by decide +kernel)) ggX7_changesState_X7_isPhaseOver
set_option maxRecDepth 20000 in
theorem ggX7_changesState_X7_probes : GoodIn wsX7_changesState wsX7_probes := goodIn_r _ [46, 5, 3, 23, 47, 2, 16, 17, 18, 9, 19, 20, 21, 22, 1, 30, 31, 32, 33, 4, 34, 35, 36, 48, 49, 50, 51, 52, 53, 54, 55, 56, 57, 58, 59, 60, 61, 62, 63, 64, 65, 66, 67, 68, 69, 70, 71, 72, 73, 74, 75, 76, 77, 78, 79, 80, 81, 82, 83, 84, 85, 86, 87, 88, 89, 90, 91, 92, 93, 94, 95, 96, 97] (by decide +kernel) (by decide +kernel)
set_option maxRecDepth 20000 in
theorem gX7_changesState_X7_probes : GoodIn wsX7_changesState (wsV RX7 226 RX7 yX7_probes wsX7_probes) := goodIn_app (goodIn_of _ (by decide +kernel)) ggX7_changesState_X7_probes
theorem dX7_changesState_0 : decode cX7_changesState 0 = .ok (.aload_n 0, 1) := by decide +kernel
theorem dX7_changesState_1 : decode cX7_changesState 1 = .ok (.getfield 103, 3) := by decide +kernel
theorem dX7_changesState_4 : decode cX7_changesState 4 = .ok (.iload_n 1, 1) := by decide +kernel
theorem dX7_changesState_5 : decode cX7_changesState 5 = .ok (.iaload, 1) := by decide +kernel
theorem dX7_changesState_6 : decode cX7_changesState 6 = .ok (.ifCond .ne 10, 3) := by decide +kernel
theorem dX7_changesState_9 : decode cX7_changesState 9 = .ok (.aload_n 0, 1) := by decide +kernel
theorem dX7_changesState_10 : decode cX7_changesState 10 = .ok (.iload_n 1, 1) := by decide +kernel
theorem dX7_changesState_11 : decode cX7_changesState 11 = .ok (.iload_n 2, 1) := by decide +kernel
theorem dX7_changesState_12 : decode cX7_changesState 12 = .ok (.iload_n 3, 1) := by decide +kernel
theorem dX7_changesState_13 : decode cX7_changesState 13 = .ok (.invokevirtual 219, 3) := by decide +kernel
theorem dX7_changesState_16 : decode cX7_changesState 16 = .ok (.aload_n 0, 1) := by decide +kernel
theorem dX7_changesState_17 : decode cX7_changesState 17 = .ok (.getfield 103, 3) := by decide +kernel
theorem dX7_changesState_20 : decode cX7_changesState 20 = .ok (.iload_n 1, 1) := by decide +kernel
theorem dX7_changesState_21 : decode cX7_changesState 21 = .ok (.iaload, 1) := by decide +kernel
theorem dX7_changesState_22 : decode cX7_changesState 22 = .ok (.ifCond .ne 18, 3) := by decide +kernel
theorem dX7_changesState_25 : decode cX7_changesState 25 = .ok (.aload_n 0, 1) := by decide +kernel
theorem dX7_changesState_26 : decode cX7_changesState 26 = .ok (.getfield 118, 3) := by decide +kernel
theorem dX7_changesState_29 : decode cX7_changesState 29 = .ok (.iload_n 1, 1) := by decide +kernel
theorem dX7_changesState_30 : decode cX7_changesState 30 = .ok (.baload, 1) := by decide +kernel
theorem dX7_changesState_31 : decode cX7_changesState 31 = .ok (.ifCond .eq 9, 3) := by decide +kernel
theorem dX7_changesState_34 : decode cX7_changesState 34 = .ok (.aload_n 0, 1) := by decide +kernel
theorem dX7_changesState_35 : decode cX7_changesState 35 = .ok (.iload_n 1, 1) := by decide +kernel
theorem dX7_changesState_36 : decode cX7_changesState 36 = .ok (.iconst 1, 1) := by decide +kernel
theorem dX7_changesState_37 : decode cX7_changesState 37 = .ok (.invokevirtual 213, 3) := by decide +kernel
theorem dX7_changesState_40 : decode cX7_changesState 40 = .ok (.aload_n 0, 1) := by decide +kernel
theorem dX7_changesState_41 : decode cX7_changesState 41 = .ok (.getfield 103, 3) := by decide +kernel
theorem dX7_changesState_44 : decode cX7_changesState 44 = .ok (.iload_n 1, 1) := by decide +kernel
theorem dX7_changesState_45 : decode cX7_changesState 45 = .ok (.iaload, 1) := by decide +kernel
theorem dX7_changesState_46 : decode cX7_changesState 46 = .ok (.iconst 1, 1) := by decide +kernel
theorem dX7_changesState_47 : decode cX7_changesState 47 = .ok (.if_icmp .ne 31, 3) := by decide +kernel
theorem dX7_changesState_50 : decode cX7_changesState 50 = .ok (.aload_n 0, 1) := by decide +kernel
theorem dX7_changesState_51 : decode cX7_changesState 51 = .ok (.getfield 32, 3) := by decide +kernel
theorem dX7_changesState_54 : decode cX7_changesState 54 = .ok (.iload_n 1, 1) := by decide +kernel
theorem dX7_changesState_55 : decode cX7_changesState 55 = .ok (.iaload, 1) := by decide +kernel
theorem dX7_changesState_56 : decode cX7_changesState 56 = .ok (.i2l, 1) := by decide +kernel
theorem dX7_changesState_57 : decode cX7_changesState 57 = .ok (.aload_n 0, 1) := by decide +kernel
theorem dX7_changesState_58 : decode cX7_changesState 58 = .ok (.iload_n 1, 1) := by decide +kernel
theorem dX7_changesState_59 : decode cX7_changesState 59 = .ok (.invokevirtual 179, 3) := by decide +kernel
theorem dX7_changesState_62 : decode cX7_changesState 62 = .ok (.lcmp, 1) := by decide +kernel
theorem dX7_changesState_63 : decode cX7_changesState 63 = .ok (.ifCond .gt 15, 3) := by decide +kernel
theorem dX7_changesState_66 : decode cX7_changesState 66 = .ok (.aload_n 0, 1) := by decide +kernel
theorem dX7_changesState_67 : decode cX7_changesState 67 = .ok (.iload_n 1, 1) := by decide +kernel
theorem dX7_changesState_68 : decode cX7_changesState 68 = .ok (.iconst 2, 1) := by decide +kernel
theorem dX7_changesState_69 : decode cX7_changesState 69 = .ok (.invokevirtual 213, 3) := by decide +kernel
theorem dX7_changesState_72 : decode cX7_changesState 72 = .ok (.aload_n 0, 1) := by decide +kernel
theorem dX7_changesState_73 : decode cX7_changesState 73 = .ok (.iload_n 1, 1) := by decide +kernel
theorem dX7_changesState_74 : decode cX7_changesState 74 = .ok (.iconst 2, 1) := by decide +kernel
theorem dX7_changesState_75 : decode cX7_changesState 75 = .ok (.invokevirtual 216, 3) := by decide +kernel
theorem dX7_changesState_78 : decode cX7_changesState 78 = .ok (.aload_n 0, 1) := by decide +kernel
theorem dX7_changesState_79 : decode cX7_changesState 79 = .ok (.getfield 103, 3) := by decide +kernel
theorem dX7_changesState_82 : decode cX7_changesState 82 = .ok (.iload_n 1, 1) := by decide +kernel
theorem dX7_changesState_83 : decode cX7_changesState 83 = .ok (.iaload, 1) := by decide +kernel
theorem dX7_changesState_84 : decode cX7_changesState 84 = .ok (.iconst 2, 1) := by decide +kernel
theorem dX7_changesState_85 : decode cX7_changesState 85 = .ok (.if_icmp .ne 27, 3) := by decide +kernel
theorem dX7_changesState_88 : decode cX7_changesState 88 = .ok (.aload_n 0, 1) := by decide +kernel
theorem dX7_changesState_89 : decode cX7_changesState 89 = .ok (.iload_n 1, 1) := by decide +kernel
theorem dX7_changesState_90 : decode cX7_changesState 90 = .ok (.invokevirtual 223, 3) := by decide +kernel
theorem dX7_changesState_93 : decode cX7_changesState 93 = .ok (.ifCond .eq 19, 3) := by decide +kernel
theorem dX7_changesState_96 : decode cX7_changesState 96 = .ok (.aload_n 0, 1) := by decide +kernel
theorem dX7_changesState_97 : decode cX7_changesState 97 = .ok (.iload_n 1, 1) := by decide +kernel
theorem dX7_changesState_98 : decode cX7_changesState 98 = .ok (.aload_n 0, 1) := by decide +kernel
theorem dX7_changesState_99 : decode cX7_changesState 99 = .ok (.getfield 106, 3) := by decide +kernel
theorem dX7_changesState_102 : decode cX7_changesState 102 = .ok (.iload_n 1, 1) := by decide +kernel
theorem dX7_changesState_103 : decode cX7_changesState 103 = .ok (.iaload, 1) := by decide +kernel
theorem dX7_changesState_104 : decode cX7_changesState 104 = .ok (.iconst 1, 1) := by decide +kernel
theorem dX7_changesState_105 : decode cX7_changesState 105 = .ok (.iadd, 1) := by decide +kernel
theorem dX7_changesState_106 : decode cX7_changesState 106 = .ok (.bipush 8, 2) := by decide +kernel
theorem dX7_changesState_108 : decode cX7_changesState 108 = .ok (.irem, 1) := by decide +kernel
theorem dX7_changesState_109 : decode cX7_changesState 109 = .ok (.invokevirtual 216, 3) := by decide +kernel
theorem dX7_changesState_112 : decode cX7_changesState 112 = .ok (.aload_n 0, 1) := by decide +kernel
theorem dX7_changesState_113 : decode cX7_changesState 113 = .ok (.getfield 103, 3) := by decide +kernel
theorem dX7_changesState_116 : decode cX7_changesState 116 = .ok (.iload_n 1, 1) := by decide +kernel
theorem dX7_changesState_117 : decode cX7_changesState 117 = .ok (.iaload, 1) := by decide +kernel
theorem dX7_changesState_118 : decode cX7_changesState 118 = .ok (.iconst 3, 1) := by decide +kernel
theorem dX7_changesState_119 : decode cX7_changesState 119 = .ok (.if_icmp .ne 11, 3) := by decide +kernel
theorem dX7_changesState_122 : decode cX7_changesState 122 = .ok (.aload_n 0, 1) := by decide +kernel
theorem dX7_changesState_123 : decode cX7_changesState 123 = .ok (.iload_n 1, 1) := by decide +kernel
theorem dX7_changesState_124 : decode cX7_changesState 124 = .ok (.invokevirtual 226, 3) := by decide +kernel
theorem dX7_changesState_127 : decode cX7_changesState 127 = .ok (.goto 22, 3) := by decide +kernel
theorem dX7_changesState_130 : decode cX7_changesState 130 = .ok (.iload 4, 2) := by decide +kernel
theorem dX7_changesState_132 : decode cX7_changesState 132 = .ok (.ifCond .eq 17, 3) := by decide +kernel
theorem dX7_changesState_135 : decode cX7_changesState 135 = .ok (.aload_n 0, 1) := by decide +kernel
theorem dX7_changesState_136 : decode cX7_changesState 136 = .ok (.iload_n 1, 1) := by decide +kernel
theorem dX7_changesState_137 : decode cX7_changesState 137 = .ok (.iconst 3, 1) := by decide +kernel
theorem dX7_changesState_138 : decode cX7_changesState 138 = .ok (.invokevirtual 213, 3) := by decide +kernel
theorem dX7_changesState_141 : decode cX7_changesState 141 = .ok (.aload_n 0, 1) := by decide +kernel
theorem dX7_changesState_142 : decode cX7_changesState 142 = .ok (.getfield 115, 3) := by decide +kernel
theorem dX7_changesState_145 : decode cX7_changesState 145 = .ok (.iload_n 1, 1) := by decide +kernel
theorem dX7_changesState_146 : decode cX7_changesState 146 = .ok (.bipush (-9), 2) := by decide +kernel
theorem dX7_changesState_148 : decode cX7_changesState 148 = .ok (.iastore, 1) := by decide +kernel
theorem dX7_changesState_149 : decode cX7_changesState 149 = .ok (.return_, 1) := by decide +kernel
set_option maxRecDepth 20000 in
theorem ggX7_takes_X7_takesOff : GoodIn wsX7_takes wsX7_takesOff := goodIn_r _ [19, 20, 21, 1, 2, 3, 4, 22, 84, 85, 86, 87, 88, 89, 90, 91, 92, 93, 94, 95, 96, 97, 98, 99, 100, 101, 102, 103, 104, 105, 106, 107, 108, 109, 110, 111, 112, 113, 114, 115, 116, 117, 118, 119, 120, 121, 122, 123, 124, 125, 126, 127, 128, 129, 130, 131, 132, 133] (by decide +kernel) (by decide +kernel)
set_option maxRecDepth 20000 in
theorem gX7_takes_X7_takesOff : GoodIn wsX7_takes (wsV RX7 230 RX7 yX7_takesOff wsX7_takesOff) := goodIn_app (goodIn_of _ (by decide +kernel)) ggX7_takes_X7_takesOff
set_option maxRecDepth 20000 in
theorem ggX7_takes_X7_keepsSample : GoodIn wsX7_takes wsX7_keepsSample := goodIn_r _ [26, 27, 28, 29, 11, 30, 12, 84, 85, 86, 87, 88, 89, 90, 91, 92, 93, 94, 95, 96, 97, 98, 99, 100, 101, 102, 103, 104, 105, 106, 107, 108, 109, 110, 111, 112, 113, 114, 115, 116, 117, 118, 119, 120, 121, 122, 123, 124, 125, 126, 127, 128, 129, 130, 131, 132, 133] (by decide +kernel) (by decide +kernel)
set_option maxRecDepth 20000 in
theorem gX7_takes_X7_keepsSample : GoodIn wsX7_takes (wsV RX7 236 RX7 yX7_keepsSample wsX7_keepsSample) := goodIn_app (goodIn_of _ (by decide +kernel)) ggX7_takes_X7_keepsSample
set_option maxRecDepth 20000 in
theorem ggX7_takes_X7_letsGo : GoodIn wsX7_takes wsX7_letsGo := goodIn_r _ [34, 28, 29, 27, 11, 30, 12, 35, 36, 37, 18, 38, 84, 85, 86, 87, 88, 89, 90, 91, 92, 93, 94, 95, 96, 97, 98, 99, 100, 101, 102, 103, 104, 105, 106, 107, 108, 109, 110, 111, 112, 113, 114, 115, 116, 117, 118, 119, 120, 121, 122, 123, 124, 125, 126, 127, 128, 129, 130, 131, 132, 133] (by decide +kernel) (by decide +kernel)
set_option maxRecDepth 20000 in
theorem gX7_takes_X7_letsGo : GoodIn wsX7_takes (wsV RX7 239 RX7 yX7_letsGo wsX7_letsGo) := goodIn_app (goodIn_of _ (by decide +kernel)) ggX7_takes_X7_letsGo
set_option maxRecDepth 20000 in
theorem ggX7_takes_X7_changesState : GoodIn wsX7_takes wsX7_changesState := goodIn_r _ [42, 43, 44, 20, 45, 46, 47, 48, 49, 18, 50, 51, 12, 52, 53, 54, 55, 56, 57, 58, 59, 60, 61, 8, 62, 63, 64, 65, 13, 66, 67, 68, 69, 70, 71, 72, 73, 74, 75, 76, 77, 78, 79, 80, 81, 82, 83, 14, 84, 85, 86, 87, 88, 89, 90, 91, 92, 93, 94, 95, 96, 97, 98, 99, 100, 101, 102, 103, 104, 105, 106, 107, 108, 109, 110, 111, 112, 113, 114, 115, 116, 117, 118, 119, 120, 121, 122, 123, 124, 125, 126, 127, 128, 129, 130, 131, 132, 133] (by decide +kernel) (by decide +kernel)
set_option maxRecDepth 20000 in
theorem gX7_takes_X7_changesState : GoodIn wsX7_takes (wsV RX7 242 RX7 yX7_changesState wsX7_changesState) := goodIn_app (goodIn_of _ (by decide +kernel)) ggX7_takes_X7_changesState
theorem dX7_takes_0 : decode cX7_takes 0 = .ok (.sipush 512, 3) := by decide +kernel
theorem dX7_takes_3 : decode cX7_takes 3 = .ok (.iload_n 1, 1) := by decide +kernel
theorem dX7_takes_4 : decode cX7_takes 4 = .ok (.imul, 1) := by decide +kernel
theorem dX7_takes_5 : decode cX7_takes 5 = .ok (.iload_n 2, 1) := by decide +kernel
theorem dX7_takes_6 : decode cX7_takes 6 = .ok (.iadd, 1) := by decide +kernel
theorem dX7_takes_7 : decode cX7_takes 7 = .ok (.istore_n 3, 1) := by decide +kernel
theorem dX7_takes_8 : decode cX7_takes 8 = .ok (.aload_n 0, 1) := by decide +kernel
theorem dX7_takes_9 : decode cX7_takes 9 = .ok (.getfield 38, 3) := by decide +kernel
theorem dX7_takes_12 : decode cX7_takes 12 = .ok (.iload_n 3, 1) := by decide +kernel
theorem dX7_takes_13 : decode cX7_takes 13 = .ok (.iaload, 1) := by decide +kernel
theorem dX7_takes_14 : decode cX7_takes 14 = .ok (.istore 4, 2) := by decide +kernel
theorem dX7_takes_16 : decode cX7_takes 16 = .ok (.aload_n 0, 1) := by decide +kernel
theorem dX7_takes_17 : decode cX7_takes 17 = .ok (.getfield 41, 3) := by decide +kernel
theorem dX7_takes_20 : decode cX7_takes 20 = .ok (.iload_n 3, 1) := by decide +kernel
theorem dX7_takes_21 : decode cX7_takes 21 = .ok (.iaload, 1) := by decide +kernel
theorem dX7_takes_22 : decode cX7_takes 22 = .ok (.istore 5, 2) := by decide +kernel
theorem dX7_takes_24 : decode cX7_takes 24 = .ok (.aload_n 0, 1) := by decide +kernel
theorem dX7_takes_25 : decode cX7_takes 25 = .ok (.getfield 44, 3) := by decide +kernel
theorem dX7_takes_28 : decode cX7_takes 28 = .ok (.iload_n 3, 1) := by decide +kernel
theorem dX7_takes_29 : decode cX7_takes 29 = .ok (.iaload, 1) := by decide +kernel
theorem dX7_takes_30 : decode cX7_takes 30 = .ok (.istore 6, 2) := by decide +kernel
theorem dX7_takes_32 : decode cX7_takes 32 = .ok (.aload_n 0, 1) := by decide +kernel
theorem dX7_takes_33 : decode cX7_takes 33 = .ok (.getfield 47, 3) := by decide +kernel
theorem dX7_takes_36 : decode cX7_takes 36 = .ok (.iload_n 3, 1) := by decide +kernel
theorem dX7_takes_37 : decode cX7_takes 37 = .ok (.baload, 1) := by decide +kernel
theorem dX7_takes_38 : decode cX7_takes 38 = .ok (.istore 7, 2) := by decide +kernel
theorem dX7_takes_40 : decode cX7_takes 40 = .ok (.aload_n 0, 1) := by decide +kernel
theorem dX7_takes_41 : decode cX7_takes 41 = .ok (.iload_n 1, 1) := by decide +kernel
theorem dX7_takes_42 : decode cX7_takes 42 = .ok (.iload_n 2, 1) := by decide +kernel
theorem dX7_takes_43 : decode cX7_takes 43 = .ok (.invokevirtual 230, 3) := by decide +kernel
theorem dX7_takes_46 : decode cX7_takes 46 = .ok (.aload_n 0, 1) := by decide +kernel
theorem dX7_takes_47 : decode cX7_takes 47 = .ok (.dup, 1) := by decide +kernel
theorem dX7_takes_48 : decode cX7_takes 48 = .ok (.getfield 233, 3) := by decide +kernel
theorem dX7_takes_51 : decode cX7_takes 51 = .ok (.iconst 1, 1) := by decide +kernel
theorem dX7_takes_52 : decode cX7_takes 52 = .ok (.iadd, 1) := by decide +kernel
theorem dX7_takes_53 : decode cX7_takes 53 = .ok (.putfield 233, 3) := by decide +kernel
theorem dX7_takes_56 : decode cX7_takes 56 = .ok (.aload_n 0, 1) := by decide +kernel
theorem dX7_takes_57 : decode cX7_takes 57 = .ok (.getfield 60, 3) := by decide +kernel
theorem dX7_takes_60 : decode cX7_takes 60 = .ok (.iload_n 1, 1) := by decide +kernel
theorem dX7_takes_61 : decode cX7_takes 61 = .ok (.dup2, 1) := by decide +kernel
theorem dX7_takes_62 : decode cX7_takes 62 = .ok (.iaload, 1) := by decide +kernel
theorem dX7_takes_63 : decode cX7_takes 63 = .ok (.iconst 1, 1) := by decide +kernel
theorem dX7_takes_64 : decode cX7_takes 64 = .ok (.iadd, 1) := by decide +kernel
theorem dX7_takes_65 : decode cX7_takes 65 = .ok (.iastore, 1) := by decide +kernel
theorem dX7_takes_66 : decode cX7_takes 66 = .ok (.aload_n 0, 1) := by decide +kernel
theorem dX7_takes_67 : decode cX7_takes 67 = .ok (.getfield 63, 3) := by decide +kernel
theorem dX7_takes_70 : decode cX7_takes 70 = .ok (.iload_n 1, 1) := by decide +kernel
theorem dX7_takes_71 : decode cX7_takes 71 = .ok (.aload_n 0, 1) := by decide +kernel
theorem dX7_takes_72 : decode cX7_takes 72 = .ok (.getfield 146, 3) := by decide +kernel
theorem dX7_takes_75 : decode cX7_takes 75 = .ok (.iastore, 1) := by decide +kernel
theorem dX7_takes_76 : decode cX7_takes 76 = .ok (.aload_n 0, 1) := by decide +kernel
theorem dX7_takes_77 : decode cX7_takes 77 = .ok (.getfield 66, 3) := by decide +kernel
theorem dX7_takes_80 : decode cX7_takes 80 = .ok (.iload_n 1, 1) := by decide +kernel
theorem dX7_takes_81 : decode cX7_takes 81 = .ok (.aload_n 0, 1) := by decide +kernel
theorem dX7_takes_82 : decode cX7_takes 82 = .ok (.getfield 60, 3) := by decide +kernel
theorem dX7_takes_85 : decode cX7_takes 85 = .ok (.iload_n 1, 1) := by decide +kernel
theorem dX7_takes_86 : decode cX7_takes 86 = .ok (.iaload, 1) := by decide +kernel
theorem dX7_takes_87 : decode cX7_takes 87 = .ok (.aload_n 0, 1) := by decide +kernel
theorem dX7_takes_88 : decode cX7_takes 88 = .ok (.getfield 66, 3) := by decide +kernel
theorem dX7_takes_91 : decode cX7_takes 91 = .ok (.iload_n 1, 1) := by decide +kernel
theorem dX7_takes_92 : decode cX7_takes 92 = .ok (.iaload, 1) := by decide +kernel
theorem dX7_takes_93 : decode cX7_takes 93 = .ok (.if_icmp .le 7, 3) := by decide +kernel
theorem dX7_takes_96 : decode cX7_takes 96 = .ok (.iconst 0, 1) := by decide +kernel
theorem dX7_takes_97 : decode cX7_takes 97 = .ok (.goto 9, 3) := by decide +kernel
theorem dX7_takes_100 : decode cX7_takes 100 = .ok (.aload_n 0, 1) := by decide +kernel
theorem dX7_takes_101 : decode cX7_takes 101 = .ok (.getfield 66, 3) := by decide +kernel
theorem dX7_takes_104 : decode cX7_takes 104 = .ok (.iload_n 1, 1) := by decide +kernel
theorem dX7_takes_105 : decode cX7_takes 105 = .ok (.iaload, 1) := by decide +kernel
theorem dX7_takes_106 : decode cX7_takes 106 = .ok (.iastore, 1) := by decide +kernel
theorem dX7_takes_107 : decode cX7_takes 107 = .ok (.iload 5, 2) := by decide +kernel
theorem dX7_takes_109 : decode cX7_takes 109 = .ok (.aload_n 0, 1) := by decide +kernel
theorem dX7_takes_110 : decode cX7_takes 110 = .ok (.getfield 72, 3) := by decide +kernel
theorem dX7_takes_113 : decode cX7_takes 113 = .ok (.iload_n 1, 1) := by decide +kernel
theorem dX7_takes_114 : decode cX7_takes 114 = .ok (.iaload, 1) := by decide +kernel
theorem dX7_takes_115 : decode cX7_takes 115 = .ok (.if_icmp .lt 7, 3) := by decide +kernel
theorem dX7_takes_118 : decode cX7_takes 118 = .ok (.iconst 1, 1) := by decide +kernel
theorem dX7_takes_119 : decode cX7_takes 119 = .ok (.goto 4, 3) := by decide +kernel
theorem dX7_takes_122 : decode cX7_takes 122 = .ok (.iconst 0, 1) := by decide +kernel
theorem dX7_takes_123 : decode cX7_takes 123 = .ok (.istore 8, 2) := by decide +kernel
theorem dX7_takes_125 : decode cX7_takes 125 = .ok (.iload 8, 2) := by decide +kernel
theorem dX7_takes_127 : decode cX7_takes 127 = .ok (.ifCond .eq 25, 3) := by decide +kernel
theorem dX7_takes_130 : decode cX7_takes 130 = .ok (.aload_n 0, 1) := by decide +kernel
theorem dX7_takes_131 : decode cX7_takes 131 = .ok (.getfield 69, 3) := by decide +kernel
theorem dX7_takes_134 : decode cX7_takes 134 = .ok (.iload_n 1, 1) := by decide +kernel
theorem dX7_takes_135 : decode cX7_takes 135 = .ok (.dup2, 1) := by decide +kernel
theorem dX7_takes_136 : decode cX7_takes 136 = .ok (.iaload, 1) := by decide +kernel
theorem dX7_takes_137 : decode cX7_takes 137 = .ok (.iconst 1, 1) := by decide +kernel
theorem dX7_takes_138 : decode cX7_takes 138 = .ok (.iadd, 1) := by decide +kernel
theorem dX7_takes_139 : decode cX7_takes 139 = .ok (.iastore, 1) := by decide +kernel
theorem dX7_takes_140 : decode cX7_takes 140 = .ok (.aload_n 0, 1) := by decide +kernel
theorem dX7_takes_141 : decode cX7_takes 141 = .ok (.getfield 72, 3) := by decide +kernel
theorem dX7_takes_144 : decode cX7_takes 144 = .ok (.iload_n 1, 1) := by decide +kernel
theorem dX7_takes_145 : decode cX7_takes 145 = .ok (.aload_n 0, 1) := by decide +kernel
theorem dX7_takes_146 : decode cX7_takes 146 = .ok (.getfield 60, 3) := by decide +kernel
theorem dX7_takes_149 : decode cX7_takes 149 = .ok (.iload_n 1, 1) := by decide +kernel
theorem dX7_takes_150 : decode cX7_takes 150 = .ok (.iaload, 1) := by decide +kernel
theorem dX7_takes_151 : decode cX7_takes 151 = .ok (.iastore, 1) := by decide +kernel
theorem dX7_takes_152 : decode cX7_takes 152 = .ok (.aload_n 0, 1) := by decide +kernel
theorem dX7_takes_153 : decode cX7_takes 153 = .ok (.getfield 146, 3) := by decide +kernel
theorem dX7_takes_156 : decode cX7_takes 156 = .ok (.iload 6, 2) := by decide +kernel
theorem dX7_takes_158 : decode cX7_takes 158 = .ok (.isub, 1) := by decide +kernel
theorem dX7_takes_159 : decode cX7_takes 159 = .ok (.iconst 1, 1) := by decide +kernel
theorem dX7_takes_160 : decode cX7_takes 160 = .ok (.if_icmp .ge 7, 3) := by decide +kernel
theorem dX7_takes_163 : decode cX7_takes 163 = .ok (.iconst 1, 1) := by decide +kernel
theorem dX7_takes_164 : decode cX7_takes 164 = .ok (.goto 10, 3) := by decide +kernel
theorem dX7_takes_167 : decode cX7_takes 167 = .ok (.aload_n 0, 1) := by decide +kernel
theorem dX7_takes_168 : decode cX7_takes 168 = .ok (.getfield 146, 3) := by decide +kernel
theorem dX7_takes_171 : decode cX7_takes 171 = .ok (.iload 6, 2) := by decide +kernel
theorem dX7_takes_173 : decode cX7_takes 173 = .ok (.isub, 1) := by decide +kernel
theorem dX7_takes_174 : decode cX7_takes 174 = .ok (.istore 9, 2) := by decide +kernel
theorem dX7_takes_176 : decode cX7_takes 176 = .ok (.sipush 1000, 3) := by decide +kernel
theorem dX7_takes_179 : decode cX7_takes 179 = .ok (.aload_n 0, 1) := by decide +kernel
theorem dX7_takes_180 : decode cX7_takes 180 = .ok (.getfield 60, 3) := by decide +kernel
theorem dX7_takes_183 : decode cX7_takes 183 = .ok (.iload_n 1, 1) := by decide +kernel
theorem dX7_takes_184 : decode cX7_takes 184 = .ok (.iaload, 1) := by decide +kernel
theorem dX7_takes_185 : decode cX7_takes 185 = .ok (.iload 5, 2) := by decide +kernel
theorem dX7_takes_187 : decode cX7_takes 187 = .ok (.isub, 1) := by decide +kernel
theorem dX7_takes_188 : decode cX7_takes 188 = .ok (.imul, 1) := by decide +kernel
theorem dX7_takes_189 : decode cX7_takes 189 = .ok (.iload 9, 2) := by decide +kernel
theorem dX7_takes_191 : decode cX7_takes 191 = .ok (.idiv, 1) := by decide +kernel
theorem dX7_takes_192 : decode cX7_takes 192 = .ok (.istore 10, 2) := by decide +kernel
theorem dX7_takes_194 : decode cX7_takes 194 = .ok (.iload 7, 2) := by decide +kernel
theorem dX7_takes_196 : decode cX7_takes 196 = .ok (.ifCond .eq 14, 3) := by decide +kernel
theorem dX7_takes_199 : decode cX7_takes 199 = .ok (.iload 10, 2) := by decide +kernel
theorem dX7_takes_201 : decode cX7_takes 201 = .ok (.aload_n 0, 1) := by decide +kernel
theorem dX7_takes_202 : decode cX7_takes 202 = .ok (.getfield 75, 3) := by decide +kernel
theorem dX7_takes_205 : decode cX7_takes 205 = .ok (.iload_n 1, 1) := by decide +kernel
theorem dX7_takes_206 : decode cX7_takes 206 = .ok (.iaload, 1) := by decide +kernel
theorem dX7_takes_207 : decode cX7_takes 207 = .ok (.if_icmp .lt 10, 3) := by decide +kernel
theorem dX7_takes_210 : decode cX7_takes 210 = .ok (.aload_n 0, 1) := by decide +kernel
theorem dX7_takes_211 : decode cX7_takes 211 = .ok (.iload_n 1, 1) := by decide +kernel
theorem dX7_takes_212 : decode cX7_takes 212 = .ok (.iload 10, 2) := by decide +kernel
theorem dX7_takes_214 : decode cX7_takes 214 = .ok (.invokevirtual 236, 3) := by decide +kernel
theorem dX7_takes_217 : decode cX7_takes 217 = .ok (.aload_n 0, 1) := by decide +kernel
theorem dX7_takes_218 : decode cX7_takes 218 = .ok (.iload_n 1, 1) := by decide +kernel
theorem dX7_takes_219 : decode cX7_takes 219 = .ok (.invokevirtual 239, 3) := by decide +kernel
theorem dX7_takes_222 : decode cX7_takes 222 = .ok (.aload_n 0, 1) := by decide +kernel
theorem dX7_takes_223 : decode cX7_takes 223 = .ok (.getfield 78, 3) := by decide +kernel
theorem dX7_takes_226 : decode cX7_takes 226 = .ok (.iload_n 1, 1) := by decide +kernel
theorem dX7_takes_227 : decode cX7_takes 227 = .ok (.iaload, 1) := by decide +kernel
theorem dX7_takes_228 : decode cX7_takes 228 = .ok (.bipush (-9), 2) := by decide +kernel
theorem dX7_takes_230 : decode cX7_takes 230 = .ok (.if_icmp .eq 24, 3) := by decide +kernel
theorem dX7_takes_233 : decode cX7_takes 233 = .ok (.aload_n 0, 1) := by decide +kernel
theorem dX7_takes_234 : decode cX7_takes 234 = .ok (.getfield 146, 3) := by decide +kernel
theorem dX7_takes_237 : decode cX7_takes 237 = .ok (.aload_n 0, 1) := by decide +kernel
theorem dX7_takes_238 : decode cX7_takes 238 = .ok (.getfield 81, 3) := by decide +kernel
theorem dX7_takes_241 : decode cX7_takes 241 = .ok (.iload_n 1, 1) := by decide +kernel
theorem dX7_takes_242 : decode cX7_takes 242 = .ok (.iaload, 1) := by decide +kernel
theorem dX7_takes_243 : decode cX7_takes 243 = .ok (.isub, 1) := by decide +kernel
theorem dX7_takes_244 : decode cX7_takes 244 = .ok (.sipush 1000, 3) := by decide +kernel
theorem dX7_takes_247 : decode cX7_takes 247 = .ok (.if_icmp .le 7, 3) := by decide +kernel
theorem dX7_takes_250 : decode cX7_takes 250 = .ok (.iconst 1, 1) := by decide +kernel
theorem dX7_takes_251 : decode cX7_takes 251 = .ok (.goto 4, 3) := by decide +kernel
theorem dX7_takes_254 : decode cX7_takes 254 = .ok (.iconst 0, 1) := by decide +kernel
theorem dX7_takes_255 : decode cX7_takes 255 = .ok (.istore 11, 2) := by decide +kernel
theorem dX7_takes_257 : decode cX7_takes 257 = .ok (.aload_n 0, 1) := by decide +kernel
theorem dX7_takes_258 : decode cX7_takes 258 = .ok (.getfield 78, 3) := by decide +kernel
theorem dX7_takes_261 : decode cX7_takes 261 = .ok (.iload_n 1, 1) := by decide +kernel
theorem dX7_takes_262 : decode cX7_takes 262 = .ok (.iaload, 1) := by decide +kernel
theorem dX7_takes_263 : decode cX7_takes 263 = .ok (.bipush (-9), 2) := by decide +kernel
theorem dX7_takes_265 : decode cX7_takes 265 = .ok (.if_icmp .eq 24, 3) := by decide +kernel
theorem dX7_takes_268 : decode cX7_takes 268 = .ok (.iload 11, 2) := by decide +kernel
theorem dX7_takes_270 : decode cX7_takes 270 = .ok (.ifCond .ne 19, 3) := by decide +kernel
theorem dX7_takes_273 : decode cX7_takes 273 = .ok (.aload_n 0, 1) := by decide +kernel
theorem dX7_takes_274 : decode cX7_takes 274 = .ok (.getfield 146, 3) := by decide +kernel
theorem dX7_takes_277 : decode cX7_takes 277 = .ok (.iload 4, 2) := by decide +kernel
theorem dX7_takes_279 : decode cX7_takes 279 = .ok (.isub, 1) := by decide +kernel
theorem dX7_takes_280 : decode cX7_takes 280 = .ok (.aload_n 0, 1) := by decide +kernel
theorem dX7_takes_281 : decode cX7_takes 281 = .ok (.getfield 78, 3) := by decide +kernel
theorem dX7_takes_284 : decode cX7_takes 284 = .ok (.iload_n 1, 1) := by decide +kernel
theorem dX7_takes_285 : decode cX7_takes 285 = .ok (.iaload, 1) := by decide +kernel
theorem dX7_takes_286 : decode cX7_takes 286 = .ok (.if_icmp .gt 26, 3) := by decide +kernel
theorem dX7_takes_289 : decode cX7_takes 289 = .ok (.aload_n 0, 1) := by decide +kernel
theorem dX7_takes_290 : decode cX7_takes 290 = .ok (.getfield 78, 3) := by decide +kernel
theorem dX7_takes_293 : decode cX7_takes 293 = .ok (.iload_n 1, 1) := by decide +kernel
theorem dX7_takes_294 : decode cX7_takes 294 = .ok (.aload_n 0, 1) := by decide +kernel
theorem dX7_takes_295 : decode cX7_takes 295 = .ok (.getfield 146, 3) := by decide +kernel
theorem dX7_takes_298 : decode cX7_takes 298 = .ok (.iload 4, 2) := by decide +kernel
theorem dX7_takes_300 : decode cX7_takes 300 = .ok (.isub, 1) := by decide +kernel
theorem dX7_takes_301 : decode cX7_takes 301 = .ok (.iastore, 1) := by decide +kernel
theorem dX7_takes_302 : decode cX7_takes 302 = .ok (.aload_n 0, 1) := by decide +kernel
theorem dX7_takes_303 : decode cX7_takes 303 = .ok (.getfield 81, 3) := by decide +kernel
theorem dX7_takes_306 : decode cX7_takes 306 = .ok (.iload_n 1, 1) := by decide +kernel
theorem dX7_takes_307 : decode cX7_takes 307 = .ok (.aload_n 0, 1) := by decide +kernel
theorem dX7_takes_308 : decode cX7_takes 308 = .ok (.getfield 146, 3) := by decide +kernel
theorem dX7_takes_311 : decode cX7_takes 311 = .ok (.iastore, 1) := by decide +kernel
theorem dX7_takes_312 : decode cX7_takes 312 = .ok (.aload_n 0, 1) := by decide +kernel
theorem dX7_takes_313 : decode cX7_takes 313 = .ok (.iload_n 1, 1) := by decide +kernel
theorem dX7_takes_314 : decode cX7_takes 314 = .ok (.iload 8, 2) := by decide +kernel
theorem dX7_takes_316 : decode cX7_takes 316 = .ok (.iload 7, 2) := by decide +kernel
theorem dX7_takes_318 : decode cX7_takes 318 = .ok (.iload 11, 2) := by decide +kernel
theorem dX7_takes_320 : decode cX7_takes 320 = .ok (.invokevirtual 242, 3) := by decide +kernel
theorem dX7_takes_323 : decode cX7_takes 323 = .ok (.return_, 1) := by decide +kernel
set_option maxRecDepth 20000 in
theorem ggX7_takesAll_X7_takes : GoodIn wsX7_takesAll wsX7_takes := goodIn_r _ [8, 9, 10, 11, 12, 13, 14, 15, 3, 16, 17, 18, 19, 20, 21, 22, 23, 24, 7, 25, 1, 26, 2, 27, 28, 29, 30, 31, 32, 33, 34, 35, 36, 37, 38, 39, 40, 41, 42, 43, 44, 45, 46, 47, 48, 49, 50, 51, 52, 53, 54, 55, 56, 57, 58, 59, 60, 61, 62, 63, 64, 65, 66, 67, 68, 69, 70, 71, 72, 73, 74, 75, 76, 77, 78, 79, 80, 81, 82, 83, 84, 85, 86, 87, 88, 89, 90, 91, 92, 93, 94, 95, 96, 97, 98, 99, 100, 101, 102, 103, 104, 105, 106, 107, 108, 109, 110, 111, 112, 113, 114, 115, 116, 117, 118, 119, 120, 121, 122, 123, 124, 125, 126, 127, 128, 129, 130, 131, 132, 133, 134, 135, 136, 137] (by decide +kernel) (by decide +kernel)
set_option maxRecDepth 20000 in
theorem gX7_takesAll_X7_takes : GoodIn wsX7_takesAll (wsV RX7 246 RX7 yX7_takes wsX7_takes) := goodIn_app (goodIn_of _ (by decide +kernel)) ggX7_takesAll_X7_takes
theorem dX7_takesAll_0 : decode cX7_takesAll 0 = .ok (.iconst 0, 1) := by decide +kernel
theorem dX7_takesAll_1 : decode cX7_takesAll 1 = .ok (.istore_n 2, 1) := by decide +kernel
theorem dX7_takesAll_2 : decode cX7_takesAll 2 = .ok (.iload_n 2, 1) := by decide +kernel
theorem dX7_takesAll_3 : decode cX7_takesAll 3 = .ok (.aload_n 0, 1) := by decide +kernel
theorem dX7_takesAll_4 : decode cX7_takesAll 4 = .ok (.getfield 32, 3) := by decide +kernel
theorem dX7_takesAll_7 : decode cX7_takesAll 7 = .ok (.iload_n 1, 1) := by decide +kernel
theorem dX7_takesAll_8 : decode cX7_takesAll 8 = .ok (.iaload, 1) := by decide +kernel
theorem dX7_takesAll_9 : decode cX7_takesAll 9 = .ok (.if_icmp .ge 37, 3) := by decide +kernel
theorem dX7_takesAll_12 : decode cX7_takesAll 12 = .ok (.aload_n 0, 1) := by decide +kernel
theorem dX7_takesAll_13 : decode cX7_takesAll 13 = .ok (.getfield 51, 3) := by decide +kernel
theorem dX7_takesAll_16 : decode cX7_takesAll 16 = .ok (.sipush 512, 3) := by decide +kernel
theorem dX7_takesAll_19 : decode cX7_takesAll 19 = .ok (.iload_n 1, 1) := by decide +kernel
theorem dX7_takesAll_20 : decode cX7_takesAll 20 = .ok (.imul, 1) := by decide +kernel
theorem dX7_takesAll_21 : decode cX7_takesAll 21 = .ok (.iload_n 2, 1) := by decide +kernel
theorem dX7_takesAll_22 : decode cX7_takesAll 22 = .ok (.iadd, 1) := by decide +kernel
theorem dX7_takesAll_23 : decode cX7_takesAll 23 = .ok (.iaload, 1) := by decide +kernel
theorem dX7_takesAll_24 : decode cX7_takesAll 24 = .ok (.aload_n 0, 1) := by decide +kernel
theorem dX7_takesAll_25 : decode cX7_takesAll 25 = .ok (.getfield 146, 3) := by decide +kernel
theorem dX7_takesAll_28 : decode cX7_takesAll 28 = .ok (.if_icmp .ne 12, 3) := by decide +kernel
theorem dX7_takesAll_31 : decode cX7_takesAll 31 = .ok (.aload_n 0, 1) := by decide +kernel
theorem dX7_takesAll_32 : decode cX7_takesAll 32 = .ok (.iload_n 1, 1) := by decide +kernel
theorem dX7_takesAll_33 : decode cX7_takesAll 33 = .ok (.iload_n 2, 1) := by decide +kernel
theorem dX7_takesAll_34 : decode cX7_takesAll 34 = .ok (.invokevirtual 246, 3) := by decide +kernel
theorem dX7_takesAll_37 : decode cX7_takesAll 37 = .ok (.goto (-35), 3) := by decide +kernel
theorem dX7_takesAll_40 : decode cX7_takesAll 40 = .ok (.iinc 2 1, 3) := by decide +kernel
theorem dX7_takesAll_43 : decode cX7_takesAll 43 = .ok (.goto (-41), 3) := by decide +kernel
theorem dX7_takesAll_46 : decode cX7_takesAll 46 = .ok (.return_, 1) := by decide +kernel
set_option maxRecDepth 20000 in
theorem ggX7_ticks_X7_takesAll : GoodIn wsX7_ticks wsX7_takesAll := goodIn_r _ [11, 12, 13, 3, 14, 15, 16, 10, 17, 18, 19, 20, 21, 22, 23, 24, 25, 26, 27, 28, 29, 30, 31, 32, 33, 34, 35, 36, 37, 38, 39, 40, 41, 42, 43, 44, 45, 46, 47, 48, 49, 50, 51, 52, 53, 54, 55, 56, 57, 58, 59, 60, 61, 62, 63, 64, 65, 66, 67, 68, 69, 70, 71, 72, 73, 74, 75, 76, 77, 78, 79, 80, 81, 82, 83, 84, 85, 86, 87, 88, 89, 90, 91, 92, 93, 94, 95, 96, 149, 150, 151, 152, 153, 154, 155, 156, 157, 158, 159, 160, 161, 162, 163, 164, 165, 166, 167, 168, 169, 170, 171, 172, 173, 174, 175, 176, 177, 178, 179, 180, 181, 182, 183, 184, 185, 186, 187, 188, 189, 190, 191, 192, 193, 194, 195, 196, 197, 198] (by decide +kernel) (by decide +kernel)
set_option maxRecDepth 20000 in
theorem gX7_ticks_X7_takesAll : GoodIn wsX7_ticks (wsV RX7 249 RX7 yX7_takesAll wsX7_takesAll) := goodIn_app (goodIn_of _ (by decide +kernel)) ggX7_ticks_X7_takesAll
set_option maxRecDepth 20000 in
theorem ggX7_ticks_X7_leaves : GoodIn wsX7_ticks wsX7_leaves := goodIn_r _ [100, 101, 1, 13, 102, 3, 103, 104, 105, 106, 107, 108, 109, 10, 110, 35, 111, 112, 113, 114, 115, 2, 149, 150, 151, 152, 153, 154, 155, 156, 157, 158, 159, 160, 161, 162, 163, 164, 165, 166, 167, 168, 169, 170, 171, 172, 173, 174, 175, 176, 177, 178, 179, 180, 181, 182, 183, 184, 185, 186, 187, 188, 189, 190, 191, 192, 193, 194, 195, 196, 197, 198] (by decide +kernel) (by decide +kernel)
set_option maxRecDepth 20000 in
theorem gX7_ticks_X7_leaves : GoodIn wsX7_ticks (wsV RX7 252 RX7 yX7_leaves wsX7_leaves) := goodIn_app (goodIn_of _ (by decide +kernel)) ggX7_ticks_X7_leaves
set_option maxRecDepth 20000 in
theorem ggX7_ticks_X7_comes : GoodIn wsX7_ticks wsX7_comes := goodIn_r _ [119, 1, 104, 120, 105, 106, 121, 111, 112, 113, 10, 114, 102, 3, 115, 2, 149, 150, 151, 152, 153, 154, 155, 156, 157, 158, 159, 160, 161, 162, 163, 164, 165, 166, 167, 168, 169, 170, 171, 172, 173, 174, 175, 176, 177, 178, 179, 180, 181, 182, 183, 184, 185, 186, 187, 188, 189, 190, 191, 192, 193, 194, 195, 196, 197, 198] (by decide +kernel) (by decide +kernel)
set_option maxRecDepth 20000 in
theorem gX7_ticks_X7_comes : GoodIn wsX7_ticks (wsV RX7 190 RX7 yX7_comes wsX7_comes) := goodIn_app (goodIn_of _ (by decide +kernel)) ggX7_ticks_X7_comes
set_option maxRecDepth 20000 in
theorem ggX7_ticks_X7_sendsAll : GoodIn wsX7_ticks wsX7_sendsAll := goodIn_r _ [125, 126, 23, 12, 25, 127, 128, 129, 10, 130, 131, 79, 3, 132, 133, 134, 135, 56, 91, 28, 29, 136, 137, 138, 64, 75, 76, 77, 78, 139, 140, 141, 142, 143, 24, 35, 18, 19, 20, 21, 13, 86, 144, 116, 117, 118, 119, 1, 104, 120, 105, 106, 121, 111, 112, 113, 114, 102, 115, 2, 145, 146, 147, 148, 58, 149, 150, 151, 152, 153, 154, 155, 156, 157, 158, 159, 160, 161, 162, 163, 164, 165, 166, 167, 168, 169, 170, 171, 172, 173, 174, 175, 176, 177, 178, 179, 180, 181, 182, 183, 184, 185, 186, 187, 188, 189, 190, 191, 192, 193, 194, 195, 196, 197, 198] (by decide +kernel) (by decide +kernel)
set_option maxRecDepth 20000 in
theorem gX7_ticks_X7_sendsAll : GoodIn wsX7_ticks (wsV RX7 258 RX7 yX7_sendsAll wsX7_sendsAll) := goodIn_app (goodIn_of _ (by decide +kernel)) ggX7_ticks_X7_sendsAll
theorem dX7_ticks_0 : decode cX7_ticks 0 = .ok (.aload_n 0, 1) := by decide +kernel
theorem dX7_ticks_1 : decode cX7_ticks 1 = .ok (.iconst 0, 1) := by decide +kernel
theorem dX7_ticks_2 : decode cX7_ticks 2 = .ok (.invokevirtual 249, 3) := by decide +kernel
theorem dX7_ticks_5 : decode cX7_ticks 5 = .ok (.aload_n 0, 1) := by decide +kernel
theorem dX7_ticks_6 : decode cX7_ticks 6 = .ok (.iconst 1, 1) := by decide +kernel
theorem dX7_ticks_7 : decode cX7_ticks 7 = .ok (.invokevirtual 249, 3) := by decide +kernel
theorem dX7_ticks_10 : decode cX7_ticks 10 = .ok (.aload_n 0, 1) := by decide +kernel
theorem dX7_ticks_11 : decode cX7_ticks 11 = .ok (.getfield 19, 3) := by decide +kernel
theorem dX7_ticks_14 : decode cX7_ticks 14 = .ok (.iconst 3, 1) := by decide +kernel
theorem dX7_ticks_15 : decode cX7_ticks 15 = .ok (.if_icmp .eq 18, 3) := by decide +kernel
theorem dX7_ticks_18 : decode cX7_ticks 18 = .ok (.aload_n 0, 1) := by decide +kernel
theorem dX7_ticks_19 : decode cX7_ticks 19 = .ok (.getfield 149, 3) := by decide +kernel
theorem dX7_ticks_22 : decode cX7_ticks 22 = .ok (.aload_n 0, 1) := by decide +kernel
theorem dX7_ticks_23 : decode cX7_ticks 23 = .ok (.getfield 146, 3) := by decide +kernel
theorem dX7_ticks_26 : decode cX7_ticks 26 = .ok (.if_icmp .ne 7, 3) := by decide +kernel
theorem dX7_ticks_29 : decode cX7_ticks 29 = .ok (.aload_n 0, 1) := by decide +kernel
theorem dX7_ticks_30 : decode cX7_ticks 30 = .ok (.invokevirtual 252, 3) := by decide +kernel
theorem dX7_ticks_33 : decode cX7_ticks 33 = .ok (.aload_n 0, 1) := by decide +kernel
theorem dX7_ticks_34 : decode cX7_ticks 34 = .ok (.getfield 140, 3) := by decide +kernel
theorem dX7_ticks_37 : decode cX7_ticks 37 = .ok (.ifCond .le 38, 3) := by decide +kernel
theorem dX7_ticks_40 : decode cX7_ticks 40 = .ok (.aload_n 0, 1) := by decide +kernel
theorem dX7_ticks_41 : decode cX7_ticks 41 = .ok (.getfield 146, 3) := by decide +kernel
theorem dX7_ticks_44 : decode cX7_ticks 44 = .ok (.aload_n 0, 1) := by decide +kernel
theorem dX7_ticks_45 : decode cX7_ticks 45 = .ok (.getfield 140, 3) := by decide +kernel
theorem dX7_ticks_48 : decode cX7_ticks 48 = .ok (.irem, 1) := by decide +kernel
theorem dX7_ticks_49 : decode cX7_ticks 49 = .ok (.ifCond .ne 26, 3) := by decide +kernel
theorem dX7_ticks_52 : decode cX7_ticks 52 = .ok (.aload_n 0, 1) := by decide +kernel
theorem dX7_ticks_53 : decode cX7_ticks 53 = .ok (.dup, 1) := by decide +kernel
theorem dX7_ticks_54 : decode cX7_ticks 54 = .ok (.getfield 255, 3) := by decide +kernel
theorem dX7_ticks_57 : decode cX7_ticks 57 = .ok (.aload_n 0, 1) := by decide +kernel
theorem dX7_ticks_58 : decode cX7_ticks 58 = .ok (.iconst 2, 1) := by decide +kernel
theorem dX7_ticks_59 : decode cX7_ticks 59 = .ok (.iconst 0, 1) := by decide +kernel
theorem dX7_ticks_60 : decode cX7_ticks 60 = .ok (.invokevirtual 190, 3) := by decide +kernel
theorem dX7_ticks_63 : decode cX7_ticks 63 = .ok (.ifCond .eq 7, 3) := by decide +kernel
theorem dX7_ticks_66 : decode cX7_ticks 66 = .ok (.iconst 0, 1) := by decide +kernel
theorem dX7_ticks_67 : decode cX7_ticks 67 = .ok (.goto 4, 3) := by decide +kernel
theorem dX7_ticks_70 : decode cX7_ticks 70 = .ok (.iconst 1, 1) := by decide +kernel
theorem dX7_ticks_71 : decode cX7_ticks 71 = .ok (.iadd, 1) := by decide +kernel
theorem dX7_ticks_72 : decode cX7_ticks 72 = .ok (.putfield 255, 3) := by decide +kernel
theorem dX7_ticks_75 : decode cX7_ticks 75 = .ok (.aload_n 0, 1) := by decide +kernel
theorem dX7_ticks_76 : decode cX7_ticks 76 = .ok (.iconst 0, 1) := by decide +kernel
theorem dX7_ticks_77 : decode cX7_ticks 77 = .ok (.invokevirtual 258, 3) := by decide +kernel
theorem dX7_ticks_80 : decode cX7_ticks 80 = .ok (.aload_n 0, 1) := by decide +kernel
theorem dX7_ticks_81 : decode cX7_ticks 81 = .ok (.iconst 1, 1) := by decide +kernel
theorem dX7_ticks_82 : decode cX7_ticks 82 = .ok (.invokevirtual 258, 3) := by decide +kernel
theorem dX7_ticks_85 : decode cX7_ticks 85 = .ok (.aload_n 0, 1) := by decide +kernel
theorem dX7_ticks_86 : decode cX7_ticks 86 = .ok (.dup, 1) := by decide +kernel
theorem dX7_ticks_87 : decode cX7_ticks 87 = .ok (.getfield 261, 3) := by decide +kernel
theorem dX7_ticks_90 : decode cX7_ticks 90 = .ok (.aload_n 0, 1) := by decide +kernel
theorem dX7_ticks_91 : decode cX7_ticks 91 = .ok (.getfield 19, 3) := by decide +kernel
theorem dX7_ticks_94 : decode cX7_ticks 94 = .ok (.iconst 3, 1) := by decide +kernel
theorem dX7_ticks_95 : decode cX7_ticks 95 = .ok (.if_icmp .eq 7, 3) := by decide +kernel
theorem dX7_ticks_98 : decode cX7_ticks 98 = .ok (.iconst 1, 1) := by decide +kernel
theorem dX7_ticks_99 : decode cX7_ticks 99 = .ok (.goto 4, 3) := by decide +kernel
theorem dX7_ticks_102 : decode cX7_ticks 102 = .ok (.iconst 0, 1) := by decide +kernel
theorem dX7_ticks_103 : decode cX7_ticks 103 = .ok (.iadd, 1) := by decide +kernel
theorem dX7_ticks_104 : decode cX7_ticks 104 = .ok (.putfield 261, 3) := by decide +kernel
theorem dX7_ticks_107 : decode cX7_ticks 107 = .ok (.aload_n 0, 1) := by decide +kernel
theorem dX7_ticks_108 : decode cX7_ticks 108 = .ok (.dup, 1) := by decide +kernel
theorem dX7_ticks_109 : decode cX7_ticks 109 = .ok (.getfield 146, 3) := by decide +kernel
theorem dX7_ticks_112 : decode cX7_ticks 112 = .ok (.iconst 1, 1) := by decide +kernel
theorem dX7_ticks_113 : decode cX7_ticks 113 = .ok (.iadd, 1) := by decide +kernel
theorem dX7_ticks_114 : decode cX7_ticks 114 = .ok (.putfield 146, 3) := by decide +kernel
theorem dX7_ticks_117 : decode cX7_ticks 117 = .ok (.return_, 1) := by decide +kernel
set_option maxRecDepth 20000 in
theorem ggX7_pass_X7_within : GoodIn wsX7_pass wsX7_within := goodIn_r _ [5] (by decide +kernel) (by decide +kernel)
set_option maxRecDepth 20000 in
theorem gX7_pass_X7_within : GoodIn wsX7_pass (va_wsS RX7 136 yX7_within wsX7_within) := goodIn_app (goodIn_of _ (by decide +kernel)) ggX7_pass_X7_within
set_option maxRecDepth 20000 in
theorem ggX7_pass_X7_ticks : GoodIn wsX7_pass wsX7_ticks := goodIn_r _ [9, 10, 11, 12, 13, 14, 15, 16, 17, 18, 4, 19, 20, 21, 22, 23, 24, 25, 26, 27, 28, 29, 1, 30, 31, 32, 33, 34, 35, 36, 37, 38, 39, 40, 41, 42, 43, 44, 45, 46, 47, 48, 49, 50, 51, 52, 53, 54, 55, 56, 57, 58, 59, 60, 61, 62, 63, 64, 65, 66, 67, 68, 69, 70, 71, 72, 73, 74, 75, 76, 77, 78, 79, 80, 81, 82, 83, 84, 85, 86, 87, 88, 89, 90, 91, 92, 93, 94, 95, 96, 97, 98, 99, 100, 101, 102, 103, 104, 105, 106, 107, 108, 109, 110, 111, 112, 113, 114, 115, 116, 117, 118, 119, 120, 121, 122, 123, 124, 125, 126, 127, 128, 129, 130, 131, 132, 133, 134, 135, 136, 137, 138, 139, 140, 141, 142, 143, 144, 145, 146, 147, 148, 149, 150, 151, 152, 153, 154, 155, 156, 157, 158, 159, 160, 161, 162, 163, 164, 165, 166, 167, 168, 169, 170, 171, 172, 173, 174, 175, 176, 177, 178, 179, 180, 181, 182, 183, 184, 185, 186, 187, 188, 189, 190, 191, 192, 193, 194, 195, 196, 197, 198, 199, 200, 201, 202, 203, 204, 205] (by decide +kernel) (by decide +kernel)
set_option maxRecDepth 20000 in
theorem gX7_pass_X7_ticks : GoodIn wsX7_pass (wsV RX7 264 RX7 yX7_ticks wsX7_ticks) := goodIn_app (goodIn_of _ (by decide +kernel)) ggX7_pass_X7_ticks
theorem dX7_pass_0 : decode cX7_pass 0 = .ok (.iload_n 1, 1) := by decide +kernel
theorem dX7_pass_1 : decode cX7_pass 1 = .ok (.iconst 1, 1) := by decide +kernel
theorem dX7_pass_2 : decode cX7_pass 2 = .ok (.sipush 2000, 3) := by decide +kernel
theorem dX7_pass_5 : decode cX7_pass 5 = .ok (.invokestatic 136, 3) := by decide +kernel
theorem dX7_pass_8 : decode cX7_pass 8 = .ok (.ifCond .ne 6, 3) := by decide +kernel
theorem dX7_pass_11 : decode cX7_pass 11 = .ok (.bipush (-2), 2) := by decide +kernel
theorem dX7_pass_13 : decode cX7_pass 13 = .ok (.ireturn, 1) := by decide +kernel
theorem dX7_pass_14 : decode cX7_pass 14 = .ok (.aload_n 0, 1) := by decide +kernel
theorem dX7_pass_15 : decode cX7_pass 15 = .ok (.getfield 233, 3) := by decide +kernel
theorem dX7_pass_18 : decode cX7_pass 18 = .ok (.istore_n 2, 1) := by decide +kernel
theorem dX7_pass_19 : decode cX7_pass 19 = .ok (.iconst 0, 1) := by decide +kernel
theorem dX7_pass_20 : decode cX7_pass 20 = .ok (.istore_n 3, 1) := by decide +kernel
theorem dX7_pass_21 : decode cX7_pass 21 = .ok (.iload_n 3, 1) := by decide +kernel
theorem dX7_pass_22 : decode cX7_pass 22 = .ok (.iload_n 1, 1) := by decide +kernel
theorem dX7_pass_23 : decode cX7_pass 23 = .ok (.if_icmp .ge 13, 3) := by decide +kernel
theorem dX7_pass_26 : decode cX7_pass 26 = .ok (.aload_n 0, 1) := by decide +kernel
theorem dX7_pass_27 : decode cX7_pass 27 = .ok (.invokevirtual 264, 3) := by decide +kernel
theorem dX7_pass_30 : decode cX7_pass 30 = .ok (.iinc 3 1, 3) := by decide +kernel
theorem dX7_pass_33 : decode cX7_pass 33 = .ok (.goto (-12), 3) := by decide +kernel
theorem dX7_pass_36 : decode cX7_pass 36 = .ok (.aload_n 0, 1) := by decide +kernel
theorem dX7_pass_37 : decode cX7_pass 37 = .ok (.getfield 233, 3) := by decide +kernel
theorem dX7_pass_40 : decode cX7_pass 40 = .ok (.iload_n 2, 1) := by decide +kernel
theorem dX7_pass_41 : decode cX7_pass 41 = .ok (.isub, 1) := by decide +kernel
theorem dX7_pass_42 : decode cX7_pass 42 = .ok (.ireturn, 1) := by decide +kernel
theorem dX7_ofGate_0 : decode cX7_ofGate 0 = .ok (.iload_n 1, 1) := by decide +kernel
theorem dX7_ofGate_1 : decode cX7_ofGate 1 = .ok (.tableswitch 81 0 6 #[43, 48, 62, 62, 62, 71, 76], 43) := by decide +kernel
theorem dX7_ofGate_44 : decode cX7_ofGate 44 = .ok (.aload_n 0, 1) := by decide +kernel
theorem dX7_ofGate_45 : decode cX7_ofGate 45 = .ok (.getfield 156, 3) := by decide +kernel
theorem dX7_ofGate_48 : decode cX7_ofGate 48 = .ok (.ireturn, 1) := by decide +kernel
theorem dX7_ofGate_49 : decode cX7_ofGate 49 = .ok (.aload_n 0, 1) := by decide +kernel
theorem dX7_ofGate_50 : decode cX7_ofGate 50 = .ok (.getfield 19, 3) := by decide +kernel
theorem dX7_ofGate_53 : decode cX7_ofGate 53 = .ok (.iconst 3, 1) := by decide +kernel
theorem dX7_ofGate_54 : decode cX7_ofGate 54 = .ok (.if_icmp .eq 7, 3) := by decide +kernel
theorem dX7_ofGate_57 : decode cX7_ofGate 57 = .ok (.iconst 1, 1) := by decide +kernel
theorem dX7_ofGate_58 : decode cX7_ofGate 58 = .ok (.goto 4, 3) := by decide +kernel
theorem dX7_ofGate_61 : decode cX7_ofGate 61 = .ok (.iconst 0, 1) := by decide +kernel
theorem dX7_ofGate_62 : decode cX7_ofGate 62 = .ok (.ireturn, 1) := by decide +kernel
theorem dX7_ofGate_63 : decode cX7_ofGate 63 = .ok (.aload_n 0, 1) := by decide +kernel
theorem dX7_ofGate_64 : decode cX7_ofGate 64 = .ok (.getfield 29, 3) := by decide +kernel
theorem dX7_ofGate_67 : decode cX7_ofGate 67 = .ok (.iload_n 1, 1) := by decide +kernel
theorem dX7_ofGate_68 : decode cX7_ofGate 68 = .ok (.iconst 2, 1) := by decide +kernel
theorem dX7_ofGate_69 : decode cX7_ofGate 69 = .ok (.isub, 1) := by decide +kernel
theorem dX7_ofGate_70 : decode cX7_ofGate 70 = .ok (.iaload, 1) := by decide +kernel
theorem dX7_ofGate_71 : decode cX7_ofGate 71 = .ok (.ireturn, 1) := by decide +kernel
theorem dX7_ofGate_72 : decode cX7_ofGate 72 = .ok (.aload_n 0, 1) := by decide +kernel
theorem dX7_ofGate_73 : decode cX7_ofGate 73 = .ok (.getfield 255, 3) := by decide +kernel
theorem dX7_ofGate_76 : decode cX7_ofGate 76 = .ok (.ireturn, 1) := by decide +kernel
theorem dX7_ofGate_77 : decode cX7_ofGate 77 = .ok (.aload_n 0, 1) := by decide +kernel
theorem dX7_ofGate_78 : decode cX7_ofGate 78 = .ok (.getfield 159, 3) := by decide +kernel
theorem dX7_ofGate_81 : decode cX7_ofGate 81 = .ok (.ireturn, 1) := by decide +kernel
theorem dX7_ofGate_82 : decode cX7_ofGate 82 = .ok (.bipush (-2), 2) := by decide +kernel
theorem dX7_ofGate_84 : decode cX7_ofGate 84 = .ok (.ireturn, 1) := by decide +kernel
set_option maxRecDepth 20000 in
theorem ggX7_busy_X7_within : GoodIn wsX7_busy wsX7_within := goodIn_r _ [7] (by decide +kernel) (by decide +kernel)
set_option maxRecDepth 20000 in
theorem gX7_busy_X7_within : GoodIn wsX7_busy (va_wsS RX7 136 yX7_within wsX7_within) := goodIn_app (goodIn_of _ (by decide +kernel)) ggX7_busy_X7_within
theorem dX7_busy_0 : decode cX7_busy 0 = .ok (.iload_n 1, 1) := by decide +kernel
theorem dX7_busy_1 : decode cX7_busy 1 = .ok (.iconst 0, 1) := by decide +kernel
theorem dX7_busy_2 : decode cX7_busy 2 = .ok (.iconst 1, 1) := by decide +kernel
theorem dX7_busy_3 : decode cX7_busy 3 = .ok (.invokestatic 136, 3) := by decide +kernel
theorem dX7_busy_6 : decode cX7_busy 6 = .ok (.ifCond .ne 7, 3) := by decide +kernel
theorem dX7_busy_9 : decode cX7_busy 9 = .ok (.ldc2_w 267, 3) := by decide +kernel
theorem dX7_busy_12 : decode cX7_busy 12 = .ok (.lreturn, 1) := by decide +kernel
theorem dX7_busy_13 : decode cX7_busy 13 = .ok (.aload_n 0, 1) := by decide +kernel
theorem dX7_busy_14 : decode cX7_busy 14 = .ok (.getfield 261, 3) := by decide +kernel
theorem dX7_busy_17 : decode cX7_busy 17 = .ok (.istore_n 2, 1) := by decide +kernel
theorem dX7_busy_18 : decode cX7_busy 18 = .ok (.aload_n 0, 1) := by decide +kernel
theorem dX7_busy_19 : decode cX7_busy 19 = .ok (.getfield 146, 3) := by decide +kernel
theorem dX7_busy_22 : decode cX7_busy 22 = .ok (.istore_n 3, 1) := by decide +kernel
theorem dX7_busy_23 : decode cX7_busy 23 = .ok (.iload_n 3, 1) := by decide +kernel
theorem dX7_busy_24 : decode cX7_busy 24 = .ok (.ifCond .le 16, 3) := by decide +kernel
theorem dX7_busy_27 : decode cX7_busy 27 = .ok (.iload_n 2, 1) := by decide +kernel
theorem dX7_busy_28 : decode cX7_busy 28 = .ok (.iload_n 3, 1) := by decide +kernel
theorem dX7_busy_29 : decode cX7_busy 29 = .ok (.irem, 1) := by decide +kernel
theorem dX7_busy_30 : decode cX7_busy 30 = .ok (.istore 4, 2) := by decide +kernel
theorem dX7_busy_32 : decode cX7_busy 32 = .ok (.iload_n 3, 1) := by decide +kernel
theorem dX7_busy_33 : decode cX7_busy 33 = .ok (.istore_n 2, 1) := by decide +kernel
theorem dX7_busy_34 : decode cX7_busy 34 = .ok (.iload 4, 2) := by decide +kernel
theorem dX7_busy_36 : decode cX7_busy 36 = .ok (.istore_n 3, 1) := by decide +kernel
theorem dX7_busy_37 : decode cX7_busy 37 = .ok (.goto (-14), 3) := by decide +kernel
theorem dX7_busy_40 : decode cX7_busy 40 = .ok (.aload_n 0, 1) := by decide +kernel
theorem dX7_busy_41 : decode cX7_busy 41 = .ok (.getfield 146, 3) := by decide +kernel
theorem dX7_busy_44 : decode cX7_busy 44 = .ok (.ifCond .ne 6, 3) := by decide +kernel
theorem dX7_busy_47 : decode cX7_busy 47 = .ok (.iload_n 1, 1) := by decide +kernel
theorem dX7_busy_48 : decode cX7_busy 48 = .ok (.i2l, 1) := by decide +kernel
theorem dX7_busy_49 : decode cX7_busy 49 = .ok (.lreturn, 1) := by decide +kernel
theorem dX7_busy_50 : decode cX7_busy 50 = .ok (.iload_n 1, 1) := by decide +kernel
theorem dX7_busy_51 : decode cX7_busy 51 = .ok (.ifCond .ne 13, 3) := by decide +kernel
theorem dX7_busy_54 : decode cX7_busy 54 = .ok (.aload_n 0, 1) := by decide +kernel
theorem dX7_busy_55 : decode cX7_busy 55 = .ok (.getfield 261, 3) := by decide +kernel
theorem dX7_busy_58 : decode cX7_busy 58 = .ok (.iload_n 2, 1) := by decide +kernel
theorem dX7_busy_59 : decode cX7_busy 59 = .ok (.idiv, 1) := by decide +kernel
theorem dX7_busy_60 : decode cX7_busy 60 = .ok (.i2l, 1) := by decide +kernel
theorem dX7_busy_61 : decode cX7_busy 61 = .ok (.goto 10, 3) := by decide +kernel
theorem dX7_busy_64 : decode cX7_busy 64 = .ok (.aload_n 0, 1) := by decide +kernel
theorem dX7_busy_65 : decode cX7_busy 65 = .ok (.getfield 146, 3) := by decide +kernel
theorem dX7_busy_68 : decode cX7_busy 68 = .ok (.iload_n 2, 1) := by decide +kernel
theorem dX7_busy_69 : decode cX7_busy 69 = .ok (.idiv, 1) := by decide +kernel
theorem dX7_busy_70 : decode cX7_busy 70 = .ok (.i2l, 1) := by decide +kernel
theorem dX7_busy_71 : decode cX7_busy 71 = .ok (.lreturn, 1) := by decide +kernel
theorem dX7_ahead_0 : decode cX7_ahead 0 = .ok (.aload_n 0, 1) := by decide +kernel
theorem dX7_ahead_1 : decode cX7_ahead 1 = .ok (.getfield 84, 3) := by decide +kernel
theorem dX7_ahead_4 : decode cX7_ahead 4 = .ok (.iload_n 1, 1) := by decide +kernel
theorem dX7_ahead_5 : decode cX7_ahead 5 = .ok (.laload, 1) := by decide +kernel
theorem dX7_ahead_6 : decode cX7_ahead 6 = .ok (.ldc2_w 171, 3) := by decide +kernel
theorem dX7_ahead_9 : decode cX7_ahead 9 = .ok (.aload_n 0, 1) := by decide +kernel
theorem dX7_ahead_10 : decode cX7_ahead 10 = .ok (.getfield 146, 3) := by decide +kernel
theorem dX7_ahead_13 : decode cX7_ahead 13 = .ok (.i2l, 1) := by decide +kernel
theorem dX7_ahead_14 : decode cX7_ahead 14 = .ok (.lmul, 1) := by decide +kernel
theorem dX7_ahead_15 : decode cX7_ahead 15 = .ok (.lsub, 1) := by decide +kernel
theorem dX7_ahead_16 : decode cX7_ahead 16 = .ok (.lstore_n 2, 1) := by decide +kernel
theorem dX7_ahead_17 : decode cX7_ahead 17 = .ok (.lload_n 2, 1) := by decide +kernel
theorem dX7_ahead_18 : decode cX7_ahead 18 = .ok (.lconst 0, 1) := by decide +kernel
theorem dX7_ahead_19 : decode cX7_ahead 19 = .ok (.lcmp, 1) := by decide +kernel
theorem dX7_ahead_20 : decode cX7_ahead 20 = .ok (.ifCond .le 8, 3) := by decide +kernel
theorem dX7_ahead_23 : decode cX7_ahead 23 = .ok (.lload_n 2, 1) := by decide +kernel
theorem dX7_ahead_24 : decode cX7_ahead 24 = .ok (.l2i, 1) := by decide +kernel
theorem dX7_ahead_25 : decode cX7_ahead 25 = .ok (.goto 4, 3) := by decide +kernel
theorem dX7_ahead_28 : decode cX7_ahead 28 = .ok (.iconst 0, 1) := by decide +kernel
theorem dX7_ahead_29 : decode cX7_ahead 29 = .ok (.ireturn, 1) := by decide +kernel
set_option maxRecDepth 20000 in
theorem ggX7_ofSender_X7_isSender : GoodIn wsX7_ofSender wsX7_isSender := goodIn_r _ [14, 15, 16, 13, 17] (by decide +kernel) (by decide +kernel)
set_option maxRecDepth 20000 in
theorem gX7_ofSender_X7_isSender : GoodIn wsX7_ofSender (va_wsS RX7 166 yX7_isSender wsX7_isSender) := goodIn_app (goodIn_of _ (by decide +kernel)) ggX7_ofSender_X7_isSender
set_option maxRecDepth 20000 in
theorem ggX7_ofSender_X7_product : GoodIn wsX7_ofSender wsX7_product := goodIn_r _ [21, 5, 4, 22, 43, 44, 45, 46, 47, 48, 49, 50, 51, 52, 53, 54, 55, 56, 57, 58, 59, 60, 61, 62, 63, 64, 65, 66, 67, 68, 69, 70, 71, 72, 73, 74, 75, 76, 77, 78, 79, 80, 81, 82, 83, 84, 85, 86, 87, 88, 89, 90, 91, 92] (by decide +kernel) (by decide +kernel)
set_option maxRecDepth 20000 in
theorem gX7_ofSender_X7_product : GoodIn wsX7_ofSender (wsV RX7 179 RX7 yX7_product wsX7_product) := goodIn_app (goodIn_of _ (by decide +kernel)) ggX7_ofSender_X7_product
set_option maxRecDepth 20000 in
theorem ggX7_ofSender_X7_window : GoodIn wsX7_ofSender wsX7_window := goodIn_r _ [26, 1, 27, 4, 5, 28, 29, 30, 31, 18, 19, 20, 13, 21, 22, 43, 44, 45, 46, 47, 48, 49, 50, 51, 52, 53, 54, 55, 56, 57, 58, 59, 60, 61, 62, 63, 64, 65, 66, 67, 68, 69, 70, 71, 72, 73, 74, 75, 76, 77, 78, 79, 80, 81, 82, 83, 84, 85, 86, 87, 88, 89, 90, 91, 92] (by decide +kernel) (by decide +kernel)
set_option maxRecDepth 20000 in
theorem gX7_ofSender_X7_window : GoodIn wsX7_ofSender (wsV RX7 187 RX7 yX7_window wsX7_window) := goodIn_app (goodIn_of _ (by decide +kernel)) ggX7_ofSender_X7_window
set_option maxRecDepth 20000 in
theorem ggX7_ofSender_X7_gain : GoodIn wsX7_ofSender wsX7_gain := goodIn_r _ [35, 1, 36, 43, 44, 45, 46, 47, 48, 49, 50, 51, 52, 53, 54, 55, 56, 57, 58, 59, 60, 61, 62, 63, 64, 65, 66, 67, 68, 69, 70, 71, 72, 73, 74, 75, 76, 77, 78, 79, 80, 81, 82, 83, 84, 85, 86, 87, 88, 89, 90, 91, 92] (by decide +kernel) (by decide +kernel)
set_option maxRecDepth 20000 in
theorem gX7_ofSender_X7_gain : GoodIn wsX7_ofSender (wsV RX7 196 RX7 yX7_gain wsX7_gain) := goodIn_app (goodIn_of _ (by decide +kernel)) ggX7_ofSender_X7_gain
set_option maxRecDepth 20000 in
theorem ggX7_ofSender_X7_ahead : GoodIn wsX7_ofSender wsX7_ahead := goodIn_r _ [40, 41, 22, 42, 43, 44, 45, 46, 47, 48, 49, 50, 51, 52, 53, 54, 55, 56, 57, 58, 59, 60, 61, 62, 63, 64, 65, 66, 67, 68, 69, 70, 71, 72, 73, 74, 75, 76, 77, 78, 79, 80, 81, 82, 83, 84, 85, 86, 87, 88, 89, 90, 91, 92] (by decide +kernel) (by decide +kernel)
set_option maxRecDepth 20000 in
theorem gX7_ofSender_X7_ahead : GoodIn wsX7_ofSender (wsV RX7 269 RX7 yX7_ahead wsX7_ahead) := goodIn_app (goodIn_of _ (by decide +kernel)) ggX7_ofSender_X7_ahead
theorem dX7_ofSender_0 : decode cX7_ofSender 0 = .ok (.iload_n 1, 1) := by decide +kernel
theorem dX7_ofSender_1 : decode cX7_ofSender 1 = .ok (.invokestatic 166, 3) := by decide +kernel
theorem dX7_ofSender_4 : decode cX7_ofSender 4 = .ok (.ifCond .ne 5, 3) := by decide +kernel
theorem dX7_ofSender_7 : decode cX7_ofSender 7 = .ok (.iconst (-1), 1) := by decide +kernel
theorem dX7_ofSender_8 : decode cX7_ofSender 8 = .ok (.ireturn, 1) := by decide +kernel
theorem dX7_ofSender_9 : decode cX7_ofSender 9 = .ok (.iload_n 2, 1) := by decide +kernel
theorem dX7_ofSender_10 : decode cX7_ofSender 10 = .ok (.tableswitch 166 0 13 #[70, 77, 84, 91, 98, 105, 112, 119, 125, 132, 139, 146, 153, 160], 70) := by decide +kernel
theorem dX7_ofSender_80 : decode cX7_ofSender 80 = .ok (.aload_n 0, 1) := by decide +kernel
theorem dX7_ofSender_81 : decode cX7_ofSender 81 = .ok (.getfield 103, 3) := by decide +kernel
theorem dX7_ofSender_84 : decode cX7_ofSender 84 = .ok (.iload_n 1, 1) := by decide +kernel
theorem dX7_ofSender_85 : decode cX7_ofSender 85 = .ok (.iaload, 1) := by decide +kernel
theorem dX7_ofSender_86 : decode cX7_ofSender 86 = .ok (.ireturn, 1) := by decide +kernel
theorem dX7_ofSender_87 : decode cX7_ofSender 87 = .ok (.aload_n 0, 1) := by decide +kernel
theorem dX7_ofSender_88 : decode cX7_ofSender 88 = .ok (.getfield 32, 3) := by decide +kernel
theorem dX7_ofSender_91 : decode cX7_ofSender 91 = .ok (.iload_n 1, 1) := by decide +kernel
theorem dX7_ofSender_92 : decode cX7_ofSender 92 = .ok (.iaload, 1) := by decide +kernel
theorem dX7_ofSender_93 : decode cX7_ofSender 93 = .ok (.ireturn, 1) := by decide +kernel
theorem dX7_ofSender_94 : decode cX7_ofSender 94 = .ok (.aload_n 0, 1) := by decide +kernel
theorem dX7_ofSender_95 : decode cX7_ofSender 95 = .ok (.getfield 60, 3) := by decide +kernel
theorem dX7_ofSender_98 : decode cX7_ofSender 98 = .ok (.iload_n 1, 1) := by decide +kernel
theorem dX7_ofSender_99 : decode cX7_ofSender 99 = .ok (.iaload, 1) := by decide +kernel
theorem dX7_ofSender_100 : decode cX7_ofSender 100 = .ok (.ireturn, 1) := by decide +kernel
theorem dX7_ofSender_101 : decode cX7_ofSender 101 = .ok (.aload_n 0, 1) := by decide +kernel
theorem dX7_ofSender_102 : decode cX7_ofSender 102 = .ok (.getfield 75, 3) := by decide +kernel
theorem dX7_ofSender_105 : decode cX7_ofSender 105 = .ok (.iload_n 1, 1) := by decide +kernel
theorem dX7_ofSender_106 : decode cX7_ofSender 106 = .ok (.iaload, 1) := by decide +kernel
theorem dX7_ofSender_107 : decode cX7_ofSender 107 = .ok (.ireturn, 1) := by decide +kernel
theorem dX7_ofSender_108 : decode cX7_ofSender 108 = .ok (.aload_n 0, 1) := by decide +kernel
theorem dX7_ofSender_109 : decode cX7_ofSender 109 = .ok (.getfield 78, 3) := by decide +kernel
theorem dX7_ofSender_112 : decode cX7_ofSender 112 = .ok (.iload_n 1, 1) := by decide +kernel
theorem dX7_ofSender_113 : decode cX7_ofSender 113 = .ok (.iaload, 1) := by decide +kernel
theorem dX7_ofSender_114 : decode cX7_ofSender 114 = .ok (.ireturn, 1) := by decide +kernel
theorem dX7_ofSender_115 : decode cX7_ofSender 115 = .ok (.aload_n 0, 1) := by decide +kernel
theorem dX7_ofSender_116 : decode cX7_ofSender 116 = .ok (.iload_n 1, 1) := by decide +kernel
theorem dX7_ofSender_117 : decode cX7_ofSender 117 = .ok (.invokevirtual 179, 3) := by decide +kernel
theorem dX7_ofSender_120 : decode cX7_ofSender 120 = .ok (.l2i, 1) := by decide +kernel
theorem dX7_ofSender_121 : decode cX7_ofSender 121 = .ok (.ireturn, 1) := by decide +kernel
theorem dX7_ofSender_122 : decode cX7_ofSender 122 = .ok (.aload_n 0, 1) := by decide +kernel
theorem dX7_ofSender_123 : decode cX7_ofSender 123 = .ok (.iload_n 1, 1) := by decide +kernel
theorem dX7_ofSender_124 : decode cX7_ofSender 124 = .ok (.invokevirtual 187, 3) := by decide +kernel
theorem dX7_ofSender_127 : decode cX7_ofSender 127 = .ok (.l2i, 1) := by decide +kernel
theorem dX7_ofSender_128 : decode cX7_ofSender 128 = .ok (.ireturn, 1) := by decide +kernel
theorem dX7_ofSender_129 : decode cX7_ofSender 129 = .ok (.aload_n 0, 1) := by decide +kernel
theorem dX7_ofSender_130 : decode cX7_ofSender 130 = .ok (.iload_n 1, 1) := by decide +kernel
theorem dX7_ofSender_131 : decode cX7_ofSender 131 = .ok (.invokevirtual 196, 3) := by decide +kernel
theorem dX7_ofSender_134 : decode cX7_ofSender 134 = .ok (.ireturn, 1) := by decide +kernel
theorem dX7_ofSender_135 : decode cX7_ofSender 135 = .ok (.aload_n 0, 1) := by decide +kernel
theorem dX7_ofSender_136 : decode cX7_ofSender 136 = .ok (.getfield 69, 3) := by decide +kernel
theorem dX7_ofSender_139 : decode cX7_ofSender 139 = .ok (.iload_n 1, 1) := by decide +kernel
theorem dX7_ofSender_140 : decode cX7_ofSender 140 = .ok (.iaload, 1) := by decide +kernel
theorem dX7_ofSender_141 : decode cX7_ofSender 141 = .ok (.ireturn, 1) := by decide +kernel
theorem dX7_ofSender_142 : decode cX7_ofSender 142 = .ok (.aload_n 0, 1) := by decide +kernel
theorem dX7_ofSender_143 : decode cX7_ofSender 143 = .ok (.getfield 88, 3) := by decide +kernel
theorem dX7_ofSender_146 : decode cX7_ofSender 146 = .ok (.iload_n 1, 1) := by decide +kernel
theorem dX7_ofSender_147 : decode cX7_ofSender 147 = .ok (.iaload, 1) := by decide +kernel
theorem dX7_ofSender_148 : decode cX7_ofSender 148 = .ok (.ireturn, 1) := by decide +kernel
theorem dX7_ofSender_149 : decode cX7_ofSender 149 = .ok (.aload_n 0, 1) := by decide +kernel
theorem dX7_ofSender_150 : decode cX7_ofSender 150 = .ok (.getfield 54, 3) := by decide +kernel
theorem dX7_ofSender_153 : decode cX7_ofSender 153 = .ok (.iload_n 1, 1) := by decide +kernel
theorem dX7_ofSender_154 : decode cX7_ofSender 154 = .ok (.iaload, 1) := by decide +kernel
theorem dX7_ofSender_155 : decode cX7_ofSender 155 = .ok (.ireturn, 1) := by decide +kernel
theorem dX7_ofSender_156 : decode cX7_ofSender 156 = .ok (.aload_n 0, 1) := by decide +kernel
theorem dX7_ofSender_157 : decode cX7_ofSender 157 = .ok (.getfield 66, 3) := by decide +kernel
theorem dX7_ofSender_160 : decode cX7_ofSender 160 = .ok (.iload_n 1, 1) := by decide +kernel
theorem dX7_ofSender_161 : decode cX7_ofSender 161 = .ok (.iaload, 1) := by decide +kernel
theorem dX7_ofSender_162 : decode cX7_ofSender 162 = .ok (.ireturn, 1) := by decide +kernel
theorem dX7_ofSender_163 : decode cX7_ofSender 163 = .ok (.aload_n 0, 1) := by decide +kernel
theorem dX7_ofSender_164 : decode cX7_ofSender 164 = .ok (.getfield 57, 3) := by decide +kernel
theorem dX7_ofSender_167 : decode cX7_ofSender 167 = .ok (.iload_n 1, 1) := by decide +kernel
theorem dX7_ofSender_168 : decode cX7_ofSender 168 = .ok (.iaload, 1) := by decide +kernel
theorem dX7_ofSender_169 : decode cX7_ofSender 169 = .ok (.ireturn, 1) := by decide +kernel
theorem dX7_ofSender_170 : decode cX7_ofSender 170 = .ok (.aload_n 0, 1) := by decide +kernel
theorem dX7_ofSender_171 : decode cX7_ofSender 171 = .ok (.iload_n 1, 1) := by decide +kernel
theorem dX7_ofSender_172 : decode cX7_ofSender 172 = .ok (.invokevirtual 269, 3) := by decide +kernel
theorem dX7_ofSender_175 : decode cX7_ofSender 175 = .ok (.ireturn, 1) := by decide +kernel
theorem dX7_ofSender_176 : decode cX7_ofSender 176 = .ok (.bipush (-2), 2) := by decide +kernel
theorem dX7_ofSender_178 : decode cX7_ofSender 178 = .ok (.ireturn, 1) := by decide +kernel
set_option maxRecDepth 20000 in
theorem ggX7_sample_X7_isSender : GoodIn wsX7_sample wsX7_isSender := goodIn_r _ [8, 9, 10, 7, 11] (by decide +kernel) (by decide +kernel)
set_option maxRecDepth 20000 in
theorem gX7_sample_X7_isSender : GoodIn wsX7_sample (va_wsS RX7 166 yX7_isSender wsX7_isSender) := goodIn_app (goodIn_of _ (by decide +kernel)) ggX7_sample_X7_isSender
set_option maxRecDepth 20000 in
theorem ggX7_sample_X7_within : GoodIn wsX7_sample wsX7_within := goodIn_r _ [11] (by decide +kernel) (by decide +kernel)
set_option maxRecDepth 20000 in
theorem gX7_sample_X7_within : GoodIn wsX7_sample (va_wsS RX7 136 yX7_within wsX7_within) := goodIn_app (goodIn_of _ (by decide +kernel)) ggX7_sample_X7_within
theorem dX7_sample_0 : decode cX7_sample 0 = .ok (.iload_n 1, 1) := by decide +kernel
theorem dX7_sample_1 : decode cX7_sample 1 = .ok (.invokestatic 166, 3) := by decide +kernel
theorem dX7_sample_4 : decode cX7_sample 4 = .ok (.ifCond .eq 19, 3) := by decide +kernel
theorem dX7_sample_7 : decode cX7_sample 7 = .ok (.iload_n 2, 1) := by decide +kernel
theorem dX7_sample_8 : decode cX7_sample 8 = .ok (.iconst 0, 1) := by decide +kernel
theorem dX7_sample_9 : decode cX7_sample 9 = .ok (.aload_n 0, 1) := by decide +kernel
theorem dX7_sample_10 : decode cX7_sample 10 = .ok (.getfield 94, 3) := by decide +kernel
theorem dX7_sample_13 : decode cX7_sample 13 = .ok (.iload_n 1, 1) := by decide +kernel
theorem dX7_sample_14 : decode cX7_sample 14 = .ok (.iaload, 1) := by decide +kernel
theorem dX7_sample_15 : decode cX7_sample 15 = .ok (.iconst 1, 1) := by decide +kernel
theorem dX7_sample_16 : decode cX7_sample 16 = .ok (.isub, 1) := by decide +kernel
theorem dX7_sample_17 : decode cX7_sample 17 = .ok (.invokestatic 136, 3) := by decide +kernel
theorem dX7_sample_20 : decode cX7_sample 20 = .ok (.ifCond .ne 5, 3) := by decide +kernel
theorem dX7_sample_23 : decode cX7_sample 23 = .ok (.iconst (-1), 1) := by decide +kernel
theorem dX7_sample_24 : decode cX7_sample 24 = .ok (.ireturn, 1) := by decide +kernel
theorem dX7_sample_25 : decode cX7_sample 25 = .ok (.sipush 8192, 3) := by decide +kernel
theorem dX7_sample_28 : decode cX7_sample 28 = .ok (.iload_n 1, 1) := by decide +kernel
theorem dX7_sample_29 : decode cX7_sample 29 = .ok (.imul, 1) := by decide +kernel
theorem dX7_sample_30 : decode cX7_sample 30 = .ok (.aload_n 0, 1) := by decide +kernel
theorem dX7_sample_31 : decode cX7_sample 31 = .ok (.getfield 91, 3) := by decide +kernel
theorem dX7_sample_34 : decode cX7_sample 34 = .ok (.iload_n 1, 1) := by decide +kernel
theorem dX7_sample_35 : decode cX7_sample 35 = .ok (.iaload, 1) := by decide +kernel
theorem dX7_sample_36 : decode cX7_sample 36 = .ok (.iload_n 2, 1) := by decide +kernel
theorem dX7_sample_37 : decode cX7_sample 37 = .ok (.iadd, 1) := by decide +kernel
theorem dX7_sample_38 : decode cX7_sample 38 = .ok (.sipush 8192, 3) := by decide +kernel
theorem dX7_sample_41 : decode cX7_sample 41 = .ok (.irem, 1) := by decide +kernel
theorem dX7_sample_42 : decode cX7_sample 42 = .ok (.iadd, 1) := by decide +kernel
theorem dX7_sample_43 : decode cX7_sample 43 = .ok (.istore 4, 2) := by decide +kernel
theorem dX7_sample_45 : decode cX7_sample 45 = .ok (.iload_n 3, 1) := by decide +kernel
theorem dX7_sample_46 : decode cX7_sample 46 = .ok (.ifCond .ne 13, 3) := by decide +kernel
theorem dX7_sample_49 : decode cX7_sample 49 = .ok (.aload_n 0, 1) := by decide +kernel
theorem dX7_sample_50 : decode cX7_sample 50 = .ok (.getfield 97, 3) := by decide +kernel
theorem dX7_sample_53 : decode cX7_sample 53 = .ok (.iload 4, 2) := by decide +kernel
theorem dX7_sample_55 : decode cX7_sample 55 = .ok (.iaload, 1) := by decide +kernel
theorem dX7_sample_56 : decode cX7_sample 56 = .ok (.goto 20, 3) := by decide +kernel
theorem dX7_sample_59 : decode cX7_sample 59 = .ok (.iload_n 3, 1) := by decide +kernel
theorem dX7_sample_60 : decode cX7_sample 60 = .ok (.iconst 1, 1) := by decide +kernel
theorem dX7_sample_61 : decode cX7_sample 61 = .ok (.if_icmp .ne 13, 3) := by decide +kernel
theorem dX7_sample_64 : decode cX7_sample 64 = .ok (.aload_n 0, 1) := by decide +kernel
theorem dX7_sample_65 : decode cX7_sample 65 = .ok (.getfield 100, 3) := by decide +kernel
theorem dX7_sample_68 : decode cX7_sample 68 = .ok (.iload 4, 2) := by decide +kernel
theorem dX7_sample_70 : decode cX7_sample 70 = .ok (.iaload, 1) := by decide +kernel
theorem dX7_sample_71 : decode cX7_sample 71 = .ok (.goto 5, 3) := by decide +kernel
theorem dX7_sample_74 : decode cX7_sample 74 = .ok (.bipush (-2), 2) := by decide +kernel
theorem dX7_sample_76 : decode cX7_sample 76 = .ok (.ireturn, 1) := by decide +kernel
set_option maxRecDepth 20000 in
theorem ggX7_best_X7_isSender : GoodIn wsX7_best wsX7_isSender := goodIn_r _ [5, 6, 7, 4, 8] (by decide +kernel) (by decide +kernel)
set_option maxRecDepth 20000 in
theorem gX7_best_X7_isSender : GoodIn wsX7_best (va_wsS RX7 166 yX7_isSender wsX7_isSender) := goodIn_app (goodIn_of _ (by decide +kernel)) ggX7_best_X7_isSender
set_option maxRecDepth 20000 in
theorem ggX7_best_X7_within : GoodIn wsX7_best wsX7_within := goodIn_r _ [8] (by decide +kernel) (by decide +kernel)
set_option maxRecDepth 20000 in
theorem gX7_best_X7_within : GoodIn wsX7_best (va_wsS RX7 136 yX7_within wsX7_within) := goodIn_app (goodIn_of _ (by decide +kernel)) ggX7_best_X7_within
set_option maxRecDepth 20000 in
theorem ggX7_best_X7_greatestFrom : GoodIn wsX7_best wsX7_greatestFrom := goodIn_r _ [12, 13, 14, 15, 16, 17, 18, 19, 20, 21, 22, 23, 24, 25, 26, 27, 28, 29, 30, 31, 32, 33, 34, 35, 36, 37, 38, 39, 40, 41, 42, 43, 44, 45, 46, 47, 48, 49, 50, 51, 52, 53, 54, 55, 56, 57, 58, 59, 60, 61, 62, 63, 64, 65, 66] (by decide +kernel) (by decide +kernel)
set_option maxRecDepth 20000 in
theorem gX7_best_X7_greatestFrom : GoodIn wsX7_best (wsV RX7 206 RX7 yX7_greatestFrom wsX7_greatestFrom) := goodIn_app (goodIn_of _ (by decide +kernel)) ggX7_best_X7_greatestFrom
theorem dX7_best_0 : decode cX7_best 0 = .ok (.iload_n 1, 1) := by decide +kernel
theorem dX7_best_1 : decode cX7_best 1 = .ok (.invokestatic 166, 3) := by decide +kernel
theorem dX7_best_4 : decode cX7_best 4 = .ok (.ifCond .ne 5, 3) := by decide +kernel
theorem dX7_best_7 : decode cX7_best 7 = .ok (.iconst (-1), 1) := by decide +kernel
theorem dX7_best_8 : decode cX7_best 8 = .ok (.ireturn, 1) := by decide +kernel
theorem dX7_best_9 : decode cX7_best 9 = .ok (.iload_n 2, 1) := by decide +kernel
theorem dX7_best_10 : decode cX7_best 10 = .ok (.iconst 1, 1) := by decide +kernel
theorem dX7_best_11 : decode cX7_best 11 = .ok (.bipush 10, 2) := by decide +kernel
theorem dX7_best_13 : decode cX7_best 13 = .ok (.invokestatic 136, 3) := by decide +kernel
theorem dX7_best_16 : decode cX7_best 16 = .ok (.ifCond .eq 21, 3) := by decide +kernel
theorem dX7_best_19 : decode cX7_best 19 = .ok (.aload_n 0, 1) := by decide +kernel
theorem dX7_best_20 : decode cX7_best 20 = .ok (.iload_n 1, 1) := by decide +kernel
theorem dX7_best_21 : decode cX7_best 21 = .ok (.aload_n 0, 1) := by decide +kernel
theorem dX7_best_22 : decode cX7_best 22 = .ok (.getfield 69, 3) := by decide +kernel
theorem dX7_best_25 : decode cX7_best 25 = .ok (.iload_n 1, 1) := by decide +kernel
theorem dX7_best_26 : decode cX7_best 26 = .ok (.iaload, 1) := by decide +kernel
theorem dX7_best_27 : decode cX7_best 27 = .ok (.iload_n 2, 1) := by decide +kernel
theorem dX7_best_28 : decode cX7_best 28 = .ok (.isub, 1) := by decide +kernel
theorem dX7_best_29 : decode cX7_best 29 = .ok (.iconst 1, 1) := by decide +kernel
theorem dX7_best_30 : decode cX7_best 30 = .ok (.iadd, 1) := by decide +kernel
theorem dX7_best_31 : decode cX7_best 31 = .ok (.invokevirtual 206, 3) := by decide +kernel
theorem dX7_best_34 : decode cX7_best 34 = .ok (.goto 5, 3) := by decide +kernel
theorem dX7_best_37 : decode cX7_best 37 = .ok (.bipush (-2), 2) := by decide +kernel
theorem dX7_best_39 : decode cX7_best 39 = .ok (.ireturn, 1) := by decide +kernel
set_option maxRecDepth 20000 in
theorem ggX7_letter_X7_isSender : GoodIn wsX7_letter wsX7_isSender := goodIn_r _ [9, 10, 11, 8, 12] (by decide +kernel) (by decide +kernel)
set_option maxRecDepth 20000 in
theorem gX7_letter_X7_isSender : GoodIn wsX7_letter (va_wsS RX7 166 yX7_isSender wsX7_isSender) := goodIn_app (goodIn_of _ (by decide +kernel)) ggX7_letter_X7_isSender
set_option maxRecDepth 20000 in
theorem ggX7_letter_X7_within : GoodIn wsX7_letter wsX7_within := goodIn_r _ [12] (by decide +kernel) (by decide +kernel)
set_option maxRecDepth 20000 in
theorem gX7_letter_X7_within : GoodIn wsX7_letter (va_wsS RX7 136 yX7_within wsX7_within) := goodIn_app (goodIn_of _ (by decide +kernel)) ggX7_letter_X7_within
theorem dX7_letter_0 : decode cX7_letter 0 = .ok (.iload_n 1, 1) := by decide +kernel
theorem dX7_letter_1 : decode cX7_letter 1 = .ok (.invokestatic 166, 3) := by decide +kernel
theorem dX7_letter_4 : decode cX7_letter 4 = .ok (.ifCond .eq 19, 3) := by decide +kernel
theorem dX7_letter_7 : decode cX7_letter 7 = .ok (.iload_n 2, 1) := by decide +kernel
theorem dX7_letter_8 : decode cX7_letter 8 = .ok (.iconst 0, 1) := by decide +kernel
theorem dX7_letter_9 : decode cX7_letter 9 = .ok (.aload_n 0, 1) := by decide +kernel
theorem dX7_letter_10 : decode cX7_letter 10 = .ok (.getfield 32, 3) := by decide +kernel
theorem dX7_letter_13 : decode cX7_letter 13 = .ok (.iload_n 1, 1) := by decide +kernel
theorem dX7_letter_14 : decode cX7_letter 14 = .ok (.iaload, 1) := by decide +kernel
theorem dX7_letter_15 : decode cX7_letter 15 = .ok (.iconst 1, 1) := by decide +kernel
theorem dX7_letter_16 : decode cX7_letter 16 = .ok (.isub, 1) := by decide +kernel
theorem dX7_letter_17 : decode cX7_letter 17 = .ok (.invokestatic 136, 3) := by decide +kernel
theorem dX7_letter_20 : decode cX7_letter 20 = .ok (.ifCond .ne 5, 3) := by decide +kernel
theorem dX7_letter_23 : decode cX7_letter 23 = .ok (.iconst (-1), 1) := by decide +kernel
theorem dX7_letter_24 : decode cX7_letter 24 = .ok (.ireturn, 1) := by decide +kernel
theorem dX7_letter_25 : decode cX7_letter 25 = .ok (.sipush 512, 3) := by decide +kernel
theorem dX7_letter_28 : decode cX7_letter 28 = .ok (.iload_n 1, 1) := by decide +kernel
theorem dX7_letter_29 : decode cX7_letter 29 = .ok (.imul, 1) := by decide +kernel
theorem dX7_letter_30 : decode cX7_letter 30 = .ok (.iload_n 2, 1) := by decide +kernel
theorem dX7_letter_31 : decode cX7_letter 31 = .ok (.iadd, 1) := by decide +kernel
theorem dX7_letter_32 : decode cX7_letter 32 = .ok (.istore 4, 2) := by decide +kernel
theorem dX7_letter_34 : decode cX7_letter 34 = .ok (.iload_n 3, 1) := by decide +kernel
theorem dX7_letter_35 : decode cX7_letter 35 = .ok (.tableswitch 79 0 3 #[29, 37, 45, 61], 29) := by decide +kernel
theorem dX7_letter_64 : decode cX7_letter 64 = .ok (.aload_n 0, 1) := by decide +kernel
theorem dX7_letter_65 : decode cX7_letter 65 = .ok (.getfield 35, 3) := by decide +kernel
theorem dX7_letter_68 : decode cX7_letter 68 = .ok (.iload 4, 2) := by decide +kernel
theorem dX7_letter_70 : decode cX7_letter 70 = .ok (.iaload, 1) := by decide +kernel
theorem dX7_letter_71 : decode cX7_letter 71 = .ok (.ireturn, 1) := by decide +kernel
theorem dX7_letter_72 : decode cX7_letter 72 = .ok (.aload_n 0, 1) := by decide +kernel
theorem dX7_letter_73 : decode cX7_letter 73 = .ok (.getfield 38, 3) := by decide +kernel
theorem dX7_letter_76 : decode cX7_letter 76 = .ok (.iload 4, 2) := by decide +kernel
theorem dX7_letter_78 : decode cX7_letter 78 = .ok (.iaload, 1) := by decide +kernel
theorem dX7_letter_79 : decode cX7_letter 79 = .ok (.ireturn, 1) := by decide +kernel
theorem dX7_letter_80 : decode cX7_letter 80 = .ok (.aload_n 0, 1) := by decide +kernel
theorem dX7_letter_81 : decode cX7_letter 81 = .ok (.getfield 47, 3) := by decide +kernel
theorem dX7_letter_84 : decode cX7_letter 84 = .ok (.iload 4, 2) := by decide +kernel
theorem dX7_letter_86 : decode cX7_letter 86 = .ok (.baload, 1) := by decide +kernel
theorem dX7_letter_87 : decode cX7_letter 87 = .ok (.ifCond .eq 7, 3) := by decide +kernel
theorem dX7_letter_90 : decode cX7_letter 90 = .ok (.iconst 1, 1) := by decide +kernel
theorem dX7_letter_91 : decode cX7_letter 91 = .ok (.goto 4, 3) := by decide +kernel
theorem dX7_letter_94 : decode cX7_letter 94 = .ok (.iconst 0, 1) := by decide +kernel
theorem dX7_letter_95 : decode cX7_letter 95 = .ok (.ireturn, 1) := by decide +kernel
theorem dX7_letter_96 : decode cX7_letter 96 = .ok (.aload_n 0, 1) := by decide +kernel
theorem dX7_letter_97 : decode cX7_letter 97 = .ok (.getfield 51, 3) := by decide +kernel
theorem dX7_letter_100 : decode cX7_letter 100 = .ok (.iload 4, 2) := by decide +kernel
theorem dX7_letter_102 : decode cX7_letter 102 = .ok (.iaload, 1) := by decide +kernel
theorem dX7_letter_103 : decode cX7_letter 103 = .ok (.bipush (-9), 2) := by decide +kernel
theorem dX7_letter_105 : decode cX7_letter 105 = .ok (.if_icmp .eq 7, 3) := by decide +kernel
theorem dX7_letter_108 : decode cX7_letter 108 = .ok (.iconst 1, 1) := by decide +kernel
theorem dX7_letter_109 : decode cX7_letter 109 = .ok (.goto 4, 3) := by decide +kernel
theorem dX7_letter_112 : decode cX7_letter 112 = .ok (.iconst 0, 1) := by decide +kernel
theorem dX7_letter_113 : decode cX7_letter 113 = .ok (.ireturn, 1) := by decide +kernel
theorem dX7_letter_114 : decode cX7_letter 114 = .ok (.bipush (-2), 2) := by decide +kernel
theorem dX7_letter_116 : decode cX7_letter 116 = .ok (.ireturn, 1) := by decide +kernel
set_option maxRecDepth 20000 in
theorem ggX7_phase_X7_isSender : GoodIn wsX7_phase wsX7_isSender := goodIn_r _ [8, 9, 10, 7, 11] (by decide +kernel) (by decide +kernel)
set_option maxRecDepth 20000 in
theorem gX7_phase_X7_isSender : GoodIn wsX7_phase (va_wsS RX7 166 yX7_isSender wsX7_isSender) := goodIn_app (goodIn_of _ (by decide +kernel)) ggX7_phase_X7_isSender
set_option maxRecDepth 20000 in
theorem ggX7_phase_X7_within : GoodIn wsX7_phase wsX7_within := goodIn_r _ [11] (by decide +kernel) (by decide +kernel)
set_option maxRecDepth 20000 in
theorem gX7_phase_X7_within : GoodIn wsX7_phase (va_wsS RX7 136 yX7_within wsX7_within) := goodIn_app (goodIn_of _ (by decide +kernel)) ggX7_phase_X7_within
theorem dX7_phase_0 : decode cX7_phase 0 = .ok (.iload_n 1, 1) := by decide +kernel
theorem dX7_phase_1 : decode cX7_phase 1 = .ok (.invokestatic 166, 3) := by decide +kernel
theorem dX7_phase_4 : decode cX7_phase 4 = .ok (.ifCond .ne 5, 3) := by decide +kernel
theorem dX7_phase_7 : decode cX7_phase 7 = .ok (.iconst (-1), 1) := by decide +kernel
theorem dX7_phase_8 : decode cX7_phase 8 = .ok (.ireturn, 1) := by decide +kernel
theorem dX7_phase_9 : decode cX7_phase 9 = .ok (.iload_n 2, 1) := by decide +kernel
theorem dX7_phase_10 : decode cX7_phase 10 = .ok (.iconst 0, 1) := by decide +kernel
theorem dX7_phase_11 : decode cX7_phase 11 = .ok (.iconst 1, 1) := by decide +kernel
theorem dX7_phase_12 : decode cX7_phase 12 = .ok (.invokestatic 136, 3) := by decide +kernel
theorem dX7_phase_15 : decode cX7_phase 15 = .ok (.ifCond .ne 6, 3) := by decide +kernel
theorem dX7_phase_18 : decode cX7_phase 18 = .ok (.bipush (-2), 2) := by decide +kernel
theorem dX7_phase_20 : decode cX7_phase 20 = .ok (.ireturn, 1) := by decide +kernel
theorem dX7_phase_21 : decode cX7_phase 21 = .ok (.aload_n 0, 1) := by decide +kernel
theorem dX7_phase_22 : decode cX7_phase 22 = .ok (.getfield 103, 3) := by decide +kernel
theorem dX7_phase_25 : decode cX7_phase 25 = .ok (.iload_n 1, 1) := by decide +kernel
theorem dX7_phase_26 : decode cX7_phase 26 = .ok (.iaload, 1) := by decide +kernel
theorem dX7_phase_27 : decode cX7_phase 27 = .ok (.iconst 2, 1) := by decide +kernel
theorem dX7_phase_28 : decode cX7_phase 28 = .ok (.if_icmp .eq 6, 3) := by decide +kernel
theorem dX7_phase_31 : decode cX7_phase 31 = .ok (.bipush (-9), 2) := by decide +kernel
theorem dX7_phase_33 : decode cX7_phase 33 = .ok (.ireturn, 1) := by decide +kernel
theorem dX7_phase_34 : decode cX7_phase 34 = .ok (.iload_n 2, 1) := by decide +kernel
theorem dX7_phase_35 : decode cX7_phase 35 = .ok (.ifCond .ne 12, 3) := by decide +kernel
theorem dX7_phase_38 : decode cX7_phase 38 = .ok (.aload_n 0, 1) := by decide +kernel
theorem dX7_phase_39 : decode cX7_phase 39 = .ok (.getfield 106, 3) := by decide +kernel
theorem dX7_phase_42 : decode cX7_phase 42 = .ok (.iload_n 1, 1) := by decide +kernel
theorem dX7_phase_43 : decode cX7_phase 43 = .ok (.iaload, 1) := by decide +kernel
theorem dX7_phase_44 : decode cX7_phase 44 = .ok (.goto 14, 3) := by decide +kernel
theorem dX7_phase_47 : decode cX7_phase 47 = .ok (.aload_n 0, 1) := by decide +kernel
theorem dX7_phase_48 : decode cX7_phase 48 = .ok (.getfield 146, 3) := by decide +kernel
theorem dX7_phase_51 : decode cX7_phase 51 = .ok (.aload_n 0, 1) := by decide +kernel
theorem dX7_phase_52 : decode cX7_phase 52 = .ok (.getfield 109, 3) := by decide +kernel
theorem dX7_phase_55 : decode cX7_phase 55 = .ok (.iload_n 1, 1) := by decide +kernel
theorem dX7_phase_56 : decode cX7_phase 56 = .ok (.iaload, 1) := by decide +kernel
theorem dX7_phase_57 : decode cX7_phase 57 = .ok (.isub, 1) := by decide +kernel
theorem dX7_phase_58 : decode cX7_phase 58 = .ok (.ireturn, 1) := by decide +kernel
theorem dX7_untilEnd_0 : decode cX7_untilEnd 0 = .ok (.aload_n 0, 1) := by decide +kernel
theorem dX7_untilEnd_1 : decode cX7_untilEnd 1 = .ok (.getfield 103, 3) := by decide +kernel
theorem dX7_untilEnd_4 : decode cX7_untilEnd 4 = .ok (.iload_n 1, 1) := by decide +kernel
theorem dX7_untilEnd_5 : decode cX7_untilEnd 5 = .ok (.iaload, 1) := by decide +kernel
theorem dX7_untilEnd_6 : decode cX7_untilEnd 6 = .ok (.iconst 3, 1) := by decide +kernel
theorem dX7_untilEnd_7 : decode cX7_untilEnd 7 = .ok (.if_icmp .ne 14, 3) := by decide +kernel
theorem dX7_untilEnd_10 : decode cX7_untilEnd 10 = .ok (.aload_n 0, 1) := by decide +kernel
theorem dX7_untilEnd_11 : decode cX7_untilEnd 11 = .ok (.getfield 115, 3) := by decide +kernel
theorem dX7_untilEnd_14 : decode cX7_untilEnd 14 = .ok (.iload_n 1, 1) := by decide +kernel
theorem dX7_untilEnd_15 : decode cX7_untilEnd 15 = .ok (.iaload, 1) := by decide +kernel
theorem dX7_untilEnd_16 : decode cX7_untilEnd 16 = .ok (.bipush (-9), 2) := by decide +kernel
theorem dX7_untilEnd_18 : decode cX7_untilEnd 18 = .ok (.if_icmp .ne 6, 3) := by decide +kernel
theorem dX7_untilEnd_21 : decode cX7_untilEnd 21 = .ok (.bipush (-9), 2) := by decide +kernel
theorem dX7_untilEnd_23 : decode cX7_untilEnd 23 = .ok (.ireturn, 1) := by decide +kernel
theorem dX7_untilEnd_24 : decode cX7_untilEnd 24 = .ok (.aload_n 0, 1) := by decide +kernel
theorem dX7_untilEnd_25 : decode cX7_untilEnd 25 = .ok (.getfield 115, 3) := by decide +kernel
theorem dX7_untilEnd_28 : decode cX7_untilEnd 28 = .ok (.iload_n 1, 1) := by decide +kernel
theorem dX7_untilEnd_29 : decode cX7_untilEnd 29 = .ok (.iaload, 1) := by decide +kernel
theorem dX7_untilEnd_30 : decode cX7_untilEnd 30 = .ok (.aload_n 0, 1) := by decide +kernel
theorem dX7_untilEnd_31 : decode cX7_untilEnd 31 = .ok (.getfield 146, 3) := by decide +kernel
theorem dX7_untilEnd_34 : decode cX7_untilEnd 34 = .ok (.if_icmp .le 17, 3) := by decide +kernel
theorem dX7_untilEnd_37 : decode cX7_untilEnd 37 = .ok (.aload_n 0, 1) := by decide +kernel
theorem dX7_untilEnd_38 : decode cX7_untilEnd 38 = .ok (.getfield 115, 3) := by decide +kernel
theorem dX7_untilEnd_41 : decode cX7_untilEnd 41 = .ok (.iload_n 1, 1) := by decide +kernel
theorem dX7_untilEnd_42 : decode cX7_untilEnd 42 = .ok (.iaload, 1) := by decide +kernel
theorem dX7_untilEnd_43 : decode cX7_untilEnd 43 = .ok (.aload_n 0, 1) := by decide +kernel
theorem dX7_untilEnd_44 : decode cX7_untilEnd 44 = .ok (.getfield 146, 3) := by decide +kernel
theorem dX7_untilEnd_47 : decode cX7_untilEnd 47 = .ok (.isub, 1) := by decide +kernel
theorem dX7_untilEnd_48 : decode cX7_untilEnd 48 = .ok (.goto 4, 3) := by decide +kernel
theorem dX7_untilEnd_51 : decode cX7_untilEnd 51 = .ok (.iconst 0, 1) := by decide +kernel
theorem dX7_untilEnd_52 : decode cX7_untilEnd 52 = .ok (.ireturn, 1) := by decide +kernel
set_option maxRecDepth 20000 in
theorem ggX7_model_X7_isSender : GoodIn wsX7_model wsX7_isSender := goodIn_r _ [9, 10, 11, 8, 12] (by decide +kernel) (by decide +kernel)
set_option maxRecDepth 20000 in
theorem gX7_model_X7_isSender : GoodIn wsX7_model (va_wsS RX7 166 yX7_isSender wsX7_isSender) := goodIn_app (goodIn_of _ (by decide +kernel)) ggX7_model_X7_isSender
set_option maxRecDepth 20000 in
theorem ggX7_model_X7_untilEnd : GoodIn wsX7_model wsX7_untilEnd := goodIn_r _ [16, 17, 18, 4, 19, 20, 21, 22, 23, 24, 25, 26, 27, 28, 29, 30, 31, 32, 33, 34, 35, 36, 37, 38, 39, 40, 41, 42, 43, 44, 45, 46, 47, 48, 49, 50, 51, 52, 53, 54, 55, 56, 57, 58, 59, 60, 61, 62, 63, 64, 65, 66, 67, 68] (by decide +kernel) (by decide +kernel)
set_option maxRecDepth 20000 in
theorem gX7_model_X7_untilEnd : GoodIn wsX7_model (wsV RX7 272 RX7 yX7_untilEnd wsX7_untilEnd) := goodIn_app (goodIn_of _ (by decide +kernel)) ggX7_model_X7_untilEnd
theorem dX7_model_0 : decode cX7_model 0 = .ok (.iload_n 1, 1) := by decide +kernel
theorem dX7_model_1 : decode cX7_model 1 = .ok (.invokestatic 166, 3) := by decide +kernel
theorem dX7_model_4 : decode cX7_model 4 = .ok (.ifCond .ne 5, 3) := by decide +kernel
theorem dX7_model_7 : decode cX7_model 7 = .ok (.iconst (-1), 1) := by decide +kernel
theorem dX7_model_8 : decode cX7_model 8 = .ok (.ireturn, 1) := by decide +kernel
theorem dX7_model_9 : decode cX7_model 9 = .ok (.iload_n 2, 1) := by decide +kernel
theorem dX7_model_10 : decode cX7_model 10 = .ok (.tableswitch 81 0 4 #[34, 49, 56, 63, 75], 34) := by decide +kernel
theorem dX7_model_44 : decode cX7_model 44 = .ok (.aload_n 0, 1) := by decide +kernel
theorem dX7_model_45 : decode cX7_model 45 = .ok (.getfield 118, 3) := by decide +kernel
theorem dX7_model_48 : decode cX7_model 48 = .ok (.iload_n 1, 1) := by decide +kernel
theorem dX7_model_49 : decode cX7_model 49 = .ok (.baload, 1) := by decide +kernel
theorem dX7_model_50 : decode cX7_model 50 = .ok (.ifCond .eq 7, 3) := by decide +kernel
theorem dX7_model_53 : decode cX7_model 53 = .ok (.iconst 1, 1) := by decide +kernel
theorem dX7_model_54 : decode cX7_model 54 = .ok (.goto 4, 3) := by decide +kernel
theorem dX7_model_57 : decode cX7_model 57 = .ok (.iconst 0, 1) := by decide +kernel
theorem dX7_model_58 : decode cX7_model 58 = .ok (.ireturn, 1) := by decide +kernel
theorem dX7_model_59 : decode cX7_model 59 = .ok (.aload_n 0, 1) := by decide +kernel
theorem dX7_model_60 : decode cX7_model 60 = .ok (.getfield 121, 3) := by decide +kernel
theorem dX7_model_63 : decode cX7_model 63 = .ok (.iload_n 1, 1) := by decide +kernel
theorem dX7_model_64 : decode cX7_model 64 = .ok (.iaload, 1) := by decide +kernel
theorem dX7_model_65 : decode cX7_model 65 = .ok (.ireturn, 1) := by decide +kernel
theorem dX7_model_66 : decode cX7_model 66 = .ok (.aload_n 0, 1) := by decide +kernel
theorem dX7_model_67 : decode cX7_model 67 = .ok (.getfield 124, 3) := by decide +kernel
theorem dX7_model_70 : decode cX7_model 70 = .ok (.iload_n 1, 1) := by decide +kernel
theorem dX7_model_71 : decode cX7_model 71 = .ok (.iaload, 1) := by decide +kernel
theorem dX7_model_72 : decode cX7_model 72 = .ok (.ireturn, 1) := by decide +kernel
theorem dX7_model_73 : decode cX7_model 73 = .ok (.aload_n 0, 1) := by decide +kernel
theorem dX7_model_74 : decode cX7_model 74 = .ok (.getfield 146, 3) := by decide +kernel
theorem dX7_model_77 : decode cX7_model 77 = .ok (.aload_n 0, 1) := by decide +kernel
theorem dX7_model_78 : decode cX7_model 78 = .ok (.getfield 81, 3) := by decide +kernel
theorem dX7_model_81 : decode cX7_model 81 = .ok (.iload_n 1, 1) := by decide +kernel
theorem dX7_model_82 : decode cX7_model 82 = .ok (.iaload, 1) := by decide +kernel
theorem dX7_model_83 : decode cX7_model 83 = .ok (.isub, 1) := by decide +kernel
theorem dX7_model_84 : decode cX7_model 84 = .ok (.ireturn, 1) := by decide +kernel
theorem dX7_model_85 : decode cX7_model 85 = .ok (.aload_n 0, 1) := by decide +kernel
theorem dX7_model_86 : decode cX7_model 86 = .ok (.iload_n 1, 1) := by decide +kernel
theorem dX7_model_87 : decode cX7_model 87 = .ok (.invokevirtual 272, 3) := by decide +kernel
theorem dX7_model_90 : decode cX7_model 90 = .ok (.ireturn, 1) := by decide +kernel
theorem dX7_model_91 : decode cX7_model 91 = .ok (.bipush (-2), 2) := by decide +kernel
theorem dX7_model_93 : decode cX7_model 93 = .ok (.ireturn, 1) := by decide +kernel
set_option maxRecDepth 20000 in
theorem ggX7_turn_X7_isSender : GoodIn wsX7_turn wsX7_isSender := goodIn_r _ [7, 8, 9, 6, 10] (by decide +kernel) (by decide +kernel)
set_option maxRecDepth 20000 in
theorem gX7_turn_X7_isSender : GoodIn wsX7_turn (va_wsS RX7 166 yX7_isSender wsX7_isSender) := goodIn_app (goodIn_of _ (by decide +kernel)) ggX7_turn_X7_isSender
set_option maxRecDepth 20000 in
theorem ggX7_turn_X7_within : GoodIn wsX7_turn wsX7_within := goodIn_r _ [10] (by decide +kernel) (by decide +kernel)
set_option maxRecDepth 20000 in
theorem gX7_turn_X7_within : GoodIn wsX7_turn (va_wsS RX7 136 yX7_within wsX7_within) := goodIn_app (goodIn_of _ (by decide +kernel)) ggX7_turn_X7_within
theorem dX7_turn_0 : decode cX7_turn 0 = .ok (.iload_n 1, 1) := by decide +kernel
theorem dX7_turn_1 : decode cX7_turn 1 = .ok (.invokestatic 166, 3) := by decide +kernel
theorem dX7_turn_4 : decode cX7_turn 4 = .ok (.ifCond .eq 23, 3) := by decide +kernel
theorem dX7_turn_7 : decode cX7_turn 7 = .ok (.aload_n 0, 1) := by decide +kernel
theorem dX7_turn_8 : decode cX7_turn 8 = .ok (.getfield 127, 3) := by decide +kernel
theorem dX7_turn_11 : decode cX7_turn 11 = .ok (.iload_n 1, 1) := by decide +kernel
theorem dX7_turn_12 : decode cX7_turn 12 = .ok (.iaload, 1) := by decide +kernel
theorem dX7_turn_13 : decode cX7_turn 13 = .ok (.bipush 12, 2) := by decide +kernel
theorem dX7_turn_15 : decode cX7_turn 15 = .ok (.if_icmp .ge 12, 3) := by decide +kernel
theorem dX7_turn_18 : decode cX7_turn 18 = .ok (.aload_n 0, 1) := by decide +kernel
theorem dX7_turn_19 : decode cX7_turn 19 = .ok (.getfield 127, 3) := by decide +kernel
theorem dX7_turn_22 : decode cX7_turn 22 = .ok (.iload_n 1, 1) := by decide +kernel
theorem dX7_turn_23 : decode cX7_turn 23 = .ok (.iaload, 1) := by decide +kernel
theorem dX7_turn_24 : decode cX7_turn 24 = .ok (.goto 5, 3) := by decide +kernel
theorem dX7_turn_27 : decode cX7_turn 27 = .ok (.bipush 12, 2) := by decide +kernel
theorem dX7_turn_29 : decode cX7_turn 29 = .ok (.istore 4, 2) := by decide +kernel
theorem dX7_turn_31 : decode cX7_turn 31 = .ok (.iload_n 1, 1) := by decide +kernel
theorem dX7_turn_32 : decode cX7_turn 32 = .ok (.invokestatic 166, 3) := by decide +kernel
theorem dX7_turn_35 : decode cX7_turn 35 = .ok (.ifCond .eq 15, 3) := by decide +kernel
theorem dX7_turn_38 : decode cX7_turn 38 = .ok (.iload_n 2, 1) := by decide +kernel
theorem dX7_turn_39 : decode cX7_turn 39 = .ok (.iconst 0, 1) := by decide +kernel
theorem dX7_turn_40 : decode cX7_turn 40 = .ok (.iload 4, 2) := by decide +kernel
theorem dX7_turn_42 : decode cX7_turn 42 = .ok (.iconst 1, 1) := by decide +kernel
theorem dX7_turn_43 : decode cX7_turn 43 = .ok (.isub, 1) := by decide +kernel
theorem dX7_turn_44 : decode cX7_turn 44 = .ok (.invokestatic 136, 3) := by decide +kernel
theorem dX7_turn_47 : decode cX7_turn 47 = .ok (.ifCond .ne 5, 3) := by decide +kernel
theorem dX7_turn_50 : decode cX7_turn 50 = .ok (.iconst (-1), 1) := by decide +kernel
theorem dX7_turn_51 : decode cX7_turn 51 = .ok (.ireturn, 1) := by decide +kernel
theorem dX7_turn_52 : decode cX7_turn 52 = .ok (.iload_n 3, 1) := by decide +kernel
theorem dX7_turn_53 : decode cX7_turn 53 = .ok (.ifCond .ne 17, 3) := by decide +kernel
theorem dX7_turn_56 : decode cX7_turn 56 = .ok (.aload_n 0, 1) := by decide +kernel
theorem dX7_turn_57 : decode cX7_turn 57 = .ok (.getfield 130, 3) := by decide +kernel
theorem dX7_turn_60 : decode cX7_turn 60 = .ok (.bipush 12, 2) := by decide +kernel
theorem dX7_turn_62 : decode cX7_turn 62 = .ok (.iload_n 1, 1) := by decide +kernel
theorem dX7_turn_63 : decode cX7_turn 63 = .ok (.imul, 1) := by decide +kernel
theorem dX7_turn_64 : decode cX7_turn 64 = .ok (.iload_n 2, 1) := by decide +kernel
theorem dX7_turn_65 : decode cX7_turn 65 = .ok (.iadd, 1) := by decide +kernel
theorem dX7_turn_66 : decode cX7_turn 66 = .ok (.iaload, 1) := by decide +kernel
theorem dX7_turn_67 : decode cX7_turn 67 = .ok (.goto 24, 3) := by decide +kernel
theorem dX7_turn_70 : decode cX7_turn 70 = .ok (.iload_n 3, 1) := by decide +kernel
theorem dX7_turn_71 : decode cX7_turn 71 = .ok (.iconst 1, 1) := by decide +kernel
theorem dX7_turn_72 : decode cX7_turn 72 = .ok (.if_icmp .ne 17, 3) := by decide +kernel
theorem dX7_turn_75 : decode cX7_turn 75 = .ok (.aload_n 0, 1) := by decide +kernel
theorem dX7_turn_76 : decode cX7_turn 76 = .ok (.getfield 133, 3) := by decide +kernel
theorem dX7_turn_79 : decode cX7_turn 79 = .ok (.bipush 12, 2) := by decide +kernel
theorem dX7_turn_81 : decode cX7_turn 81 = .ok (.iload_n 1, 1) := by decide +kernel
theorem dX7_turn_82 : decode cX7_turn 82 = .ok (.imul, 1) := by decide +kernel
theorem dX7_turn_83 : decode cX7_turn 83 = .ok (.iload_n 2, 1) := by decide +kernel
theorem dX7_turn_84 : decode cX7_turn 84 = .ok (.iadd, 1) := by decide +kernel
theorem dX7_turn_85 : decode cX7_turn 85 = .ok (.iaload, 1) := by decide +kernel
theorem dX7_turn_86 : decode cX7_turn 86 = .ok (.goto 5, 3) := by decide +kernel
theorem dX7_turn_89 : decode cX7_turn 89 = .ok (.bipush (-2), 2) := by decide +kernel
theorem dX7_turn_91 : decode cX7_turn 91 = .ok (.ireturn, 1) := by decide +kernel
theorem dX7_many_0 : decode cX7_many 0 = .ok (.iload_n 1, 1) := by decide +kernel
theorem dX7_many_1 : decode cX7_many 1 = .ok (.tableswitch 78 0 4 #[35, 40, 45, 59, 73], 35) := by decide +kernel
theorem dX7_many_36 : decode cX7_many 36 = .ok (.aload_n 0, 1) := by decide +kernel
theorem dX7_many_37 : decode cX7_many 37 = .ok (.getfield 146, 3) := by decide +kernel
theorem dX7_many_40 : decode cX7_many 40 = .ok (.ireturn, 1) := by decide +kernel
theorem dX7_many_41 : decode cX7_many 41 = .ok (.aload_n 0, 1) := by decide +kernel
theorem dX7_many_42 : decode cX7_many 42 = .ok (.getfield 233, 3) := by decide +kernel
theorem dX7_many_45 : decode cX7_many 45 = .ok (.ireturn, 1) := by decide +kernel
theorem dX7_many_46 : decode cX7_many 46 = .ok (.aload_n 0, 1) := by decide +kernel
theorem dX7_many_47 : decode cX7_many 47 = .ok (.getfield 88, 3) := by decide +kernel
theorem dX7_many_50 : decode cX7_many 50 = .ok (.iconst 0, 1) := by decide +kernel
theorem dX7_many_51 : decode cX7_many 51 = .ok (.iaload, 1) := by decide +kernel
theorem dX7_many_52 : decode cX7_many 52 = .ok (.aload_n 0, 1) := by decide +kernel
theorem dX7_many_53 : decode cX7_many 53 = .ok (.getfield 88, 3) := by decide +kernel
theorem dX7_many_56 : decode cX7_many 56 = .ok (.iconst 1, 1) := by decide +kernel
theorem dX7_many_57 : decode cX7_many 57 = .ok (.iaload, 1) := by decide +kernel
theorem dX7_many_58 : decode cX7_many 58 = .ok (.iadd, 1) := by decide +kernel
theorem dX7_many_59 : decode cX7_many 59 = .ok (.ireturn, 1) := by decide +kernel
theorem dX7_many_60 : decode cX7_many 60 = .ok (.aload_n 0, 1) := by decide +kernel
theorem dX7_many_61 : decode cX7_many 61 = .ok (.getfield 127, 3) := by decide +kernel
theorem dX7_many_64 : decode cX7_many 64 = .ok (.iconst 0, 1) := by decide +kernel
theorem dX7_many_65 : decode cX7_many 65 = .ok (.iaload, 1) := by decide +kernel
theorem dX7_many_66 : decode cX7_many 66 = .ok (.aload_n 0, 1) := by decide +kernel
theorem dX7_many_67 : decode cX7_many 67 = .ok (.getfield 127, 3) := by decide +kernel
theorem dX7_many_70 : decode cX7_many 70 = .ok (.iconst 1, 1) := by decide +kernel
theorem dX7_many_71 : decode cX7_many 71 = .ok (.iaload, 1) := by decide +kernel
theorem dX7_many_72 : decode cX7_many 72 = .ok (.iadd, 1) := by decide +kernel
theorem dX7_many_73 : decode cX7_many 73 = .ok (.ireturn, 1) := by decide +kernel
theorem dX7_many_74 : decode cX7_many 74 = .ok (.aload_n 0, 1) := by decide +kernel
theorem dX7_many_75 : decode cX7_many 75 = .ok (.getfield 261, 3) := by decide +kernel
theorem dX7_many_78 : decode cX7_many 78 = .ok (.ireturn, 1) := by decide +kernel
theorem dX7_many_79 : decode cX7_many 79 = .ok (.bipush (-2), 2) := by decide +kernel
theorem dX7_many_81 : decode cX7_many 81 = .ok (.ireturn, 1) := by decide +kernel
theorem dJ9_floorMod_7cf53_0 : decode cJ9_floorMod_7cf53 0 = .ok (.iload_n 0, 1) := by decide +kernel
theorem dJ9_floorMod_7cf53_1 : decode cJ9_floorMod_7cf53 1 = .ok (.iload_n 1, 1) := by decide +kernel
theorem dJ9_floorMod_7cf53_2 : decode cJ9_floorMod_7cf53 2 = .ok (.irem, 1) := by decide +kernel
theorem dJ9_floorMod_7cf53_3 : decode cJ9_floorMod_7cf53 3 = .ok (.istore_n 2, 1) := by decide +kernel
theorem dJ9_floorMod_7cf53_4 : decode cJ9_floorMod_7cf53 4 = .ok (.iload_n 0, 1) := by decide +kernel
theorem dJ9_floorMod_7cf53_5 : decode cJ9_floorMod_7cf53 5 = .ok (.iload_n 1, 1) := by decide +kernel
theorem dJ9_floorMod_7cf53_6 : decode cJ9_floorMod_7cf53 6 = .ok (.ixor, 1) := by decide +kernel
theorem dJ9_floorMod_7cf53_7 : decode cJ9_floorMod_7cf53 7 = .ok (.ifCond .ge 11, 3) := by decide +kernel
theorem dJ9_floorMod_7cf53_10 : decode cJ9_floorMod_7cf53 10 = .ok (.iload_n 2, 1) := by decide +kernel
theorem dJ9_floorMod_7cf53_11 : decode cJ9_floorMod_7cf53 11 = .ok (.ifCond .eq 7, 3) := by decide +kernel
theorem dJ9_floorMod_7cf53_14 : decode cJ9_floorMod_7cf53 14 = .ok (.iload_n 2, 1) := by decide +kernel
theorem dJ9_floorMod_7cf53_15 : decode cJ9_floorMod_7cf53 15 = .ok (.iload_n 1, 1) := by decide +kernel
theorem dJ9_floorMod_7cf53_16 : decode cJ9_floorMod_7cf53 16 = .ok (.iadd, 1) := by decide +kernel
theorem dJ9_floorMod_7cf53_17 : decode cJ9_floorMod_7cf53 17 = .ok (.ireturn, 1) := by decide +kernel
theorem dJ9_floorMod_7cf53_18 : decode cJ9_floorMod_7cf53 18 = .ok (.iload_n 2, 1) := by decide +kernel
theorem dJ9_floorMod_7cf53_19 : decode cJ9_floorMod_7cf53 19 = .ok (.ireturn, 1) := by decide +kernel
theorem dJ9_max_7cf53_0 : decode cJ9_max_7cf53 0 = .ok (.iload_n 0, 1) := by decide +kernel
theorem dJ9_max_7cf53_1 : decode cJ9_max_7cf53 1 = .ok (.iload_n 1, 1) := by decide +kernel
theorem dJ9_max_7cf53_2 : decode cJ9_max_7cf53 2 = .ok (.if_icmp .lt 7, 3) := by decide +kernel
theorem dJ9_max_7cf53_5 : decode cJ9_max_7cf53 5 = .ok (.iload_n 0, 1) := by decide +kernel
theorem dJ9_max_7cf53_6 : decode cJ9_max_7cf53 6 = .ok (.goto 4, 3) := by decide +kernel
theorem dJ9_max_7cf53_9 : decode cJ9_max_7cf53 9 = .ok (.iload_n 1, 1) := by decide +kernel
theorem dJ9_max_7cf53_10 : decode cJ9_max_7cf53 10 = .ok (.ireturn, 1) := by decide +kernel
theorem dJ9_max_f86c9_0 : decode cJ9_max_f86c9 0 = .ok (.lload_n 0, 1) := by decide +kernel
theorem dJ9_max_f86c9_1 : decode cJ9_max_f86c9 1 = .ok (.lload_n 2, 1) := by decide +kernel
theorem dJ9_max_f86c9_2 : decode cJ9_max_f86c9 2 = .ok (.lcmp, 1) := by decide +kernel
theorem dJ9_max_f86c9_3 : decode cJ9_max_f86c9 3 = .ok (.ifCond .lt 7, 3) := by decide +kernel
theorem dJ9_max_f86c9_6 : decode cJ9_max_f86c9 6 = .ok (.lload_n 0, 1) := by decide +kernel
theorem dJ9_max_f86c9_7 : decode cJ9_max_f86c9 7 = .ok (.goto 4, 3) := by decide +kernel
theorem dJ9_max_f86c9_10 : decode cJ9_max_f86c9 10 = .ok (.lload_n 2, 1) := by decide +kernel
theorem dJ9_max_f86c9_11 : decode cJ9_max_f86c9 11 = .ok (.lreturn, 1) := by decide +kernel
theorem dJ9_min_7cf53_0 : decode cJ9_min_7cf53 0 = .ok (.iload_n 0, 1) := by decide +kernel
theorem dJ9_min_7cf53_1 : decode cJ9_min_7cf53 1 = .ok (.iload_n 1, 1) := by decide +kernel
theorem dJ9_min_7cf53_2 : decode cJ9_min_7cf53 2 = .ok (.if_icmp .gt 7, 3) := by decide +kernel
theorem dJ9_min_7cf53_5 : decode cJ9_min_7cf53 5 = .ok (.iload_n 0, 1) := by decide +kernel
theorem dJ9_min_7cf53_6 : decode cJ9_min_7cf53 6 = .ok (.goto 4, 3) := by decide +kernel
theorem dJ9_min_7cf53_9 : decode cJ9_min_7cf53 9 = .ok (.iload_n 1, 1) := by decide +kernel
theorem dJ9_min_7cf53_10 : decode cJ9_min_7cf53 10 = .ok (.ireturn, 1) := by decide +kernel
end
section
/-! ===== the reference's world: one object, row 0 by its slots; arrays by the slots that hold them; nextOf apart ===== -/
abbrev jRS : Type := (Nat → Nat → Int32) × (Nat → Int64)
def pt (f : Nat → Nat → Int32) (k j : Nat) (x : Int32) : Nat → Nat → Int32 := fun i => if i = k then upd (f k) j x else f i
def rP (σ : jRS) (k j : Nat) (x : Int32) : jRS := (pt σ.1 k j x, σ.2)
def rL (σ : jRS) (j : Nat) (x : Int64) : jRS := (σ.1, vp_updL σ.2 j x)
abbrev jT (cI cJ cZ cO : ClassId) : List (ClassId × FieldType) := [(cI, .int), (cJ, .long), (cZ, .boolean), (cO, .object "ModelSender$Letter")]
def rflds (a : Nat → Nat) (σ : jRS) : List Value := [.int (σ.1 0 0), .int (σ.1 0 1), .int (σ.1 0 2), .int (σ.1 0 3), .int (σ.1 0 4), .int (σ.1 0 5), .int (σ.1 0 6), .int (σ.1 0 7), .int (σ.1 0 8), .int (σ.1 0 9), .ref (a 10), .ref (a 11), .int (σ.1 0 12), .ref (a 13), .int (σ.1 0 14), .int (σ.1 0 15), .ref (a 16), .ref (a 17), .ref (a 18), .ref (a 19), .ref (a 20), .ref (a 21), .ref (a 22), .ref (a 23), .ref (a 24), .ref (a 25), .ref (a 26), .ref (a 27), .ref (a 28), .ref (a 29), .ref (a 30), .ref (a 31), .ref (a 32), .ref (a 33), .ref (a 34), .ref (a 35), .ref (a 36), .ref (a 37), .ref (a 38), .ref (a 39), .ref (a 40), .ref (a 41), .ref (a 42), .ref (a 43), .ref (a 44), .ref (a 45), .ref (a 46), .ref (a 47), .ref (a 48), .ref (a 49)]
def rcells (a : Nat → Nat) (cI cJ cZ : ClassId) (σ : jRS) : va_W := [(a 0, .inr (7, rflds a σ)), (a 10, .inl (cI, 64, .inl (σ.1 10))), (a 11, .inl (cI, 64, .inl (σ.1 11))), (a 13, .inl (cI, 3, .inl (σ.1 13))), (a 16, .inl (cI, 2, .inl (σ.1 16))), (a 17, .inl (cI, 1024, .inl (σ.1 17))), (a 18, .inl (cI, 1024, .inl (σ.1 18))), (a 19, .inl (cI, 1024, .inl (σ.1 19))), (a 20, .inl (cI, 1024, .inl (σ.1 20))), (a 21, .inl (cZ, 1024, .inl (σ.1 21))), (a 22, .inl (cI, 1024, .inl (σ.1 22))), (a 23, .inl (cI, 2, .inl (σ.1 23))), (a 24, .inl (cI, 2, .inl (σ.1 24))), (a 25, .inl (cI, 2, .inl (σ.1 25))), (a 26, .inl (cI, 2, .inl (σ.1 26))), (a 27, .inl (cI, 2, .inl (σ.1 27))), (a 28, .inl (cI, 2, .inl (σ.1 28))), (a 29, .inl (cI, 2, .inl (σ.1 29))), (a 30, .inl (cI, 2, .inl (σ.1 30))), (a 31, .inl (cI, 2, .inl (σ.1 31))), (a 32, .inl (cI, 2, .inl (σ.1 32))), (a 33, .inl (cJ, 2, .inr (.inl σ.2))), (a 34, .inl (cI, 2, .inl (σ.1 34))), (a 35, .inl (cI, 2, .inl (σ.1 35))), (a 36, .inl (cI, 2, .inl (σ.1 36))), (a 37, .inl (cI, 16384, .inl (σ.1 37))), (a 38, .inl (cI, 16384, .inl (σ.1 38))), (a 39, .inl (cI, 2, .inl (σ.1 39))), (a 40, .inl (cI, 2, .inl (σ.1 40))), (a 41, .inl (cI, 2, .inl (σ.1 41))), (a 42, .inl (cI, 2, .inl (σ.1 42))), (a 43, .inl (cI, 2, .inl (σ.1 43))), (a 44, .inl (cZ, 2, .inl (σ.1 44))), (a 45, .inl (cI, 2, .inl (σ.1 45))), (a 46, .inl (cI, 2, .inl (σ.1 46))), (a 47, .inl (cI, 2, .inl (σ.1 47))), (a 48, .inl (cI, 24, .inl (σ.1 48))), (a 49, .inl (cI, 24, .inl (σ.1 49)))]
theorem r_at0 (a : Nat → Nat) (cI cJ cZ : ClassId) (σ : jRS) : (rcells a cI cJ cZ σ)[0]? = some (a 0, .inr (7, rflds a σ)) := rfl
theorem r_fl0 (a : Nat → Nat) (σ : jRS) : (rflds a σ)[0]? = some (.int (σ.1 0 0)) := rfl
theorem r_s0_0 (a : Nat → Nat) (cI cJ cZ : ClassId) (σ : jRS) (x : Int32) : (rcells a cI cJ cZ σ).set 0 (a 0, .inr (7, (rflds a σ).set 0 (.int x))) = rcells a cI cJ cZ (rP σ 0 0 x) := rfl
theorem r_fl1 (a : Nat → Nat) (σ : jRS) : (rflds a σ)[1]? = some (.int (σ.1 0 1)) := rfl
theorem r_s0_1 (a : Nat → Nat) (cI cJ cZ : ClassId) (σ : jRS) (x : Int32) : (rcells a cI cJ cZ σ).set 0 (a 0, .inr (7, (rflds a σ).set 1 (.int x))) = rcells a cI cJ cZ (rP σ 0 1 x) := rfl
theorem r_fl2 (a : Nat → Nat) (σ : jRS) : (rflds a σ)[2]? = some (.int (σ.1 0 2)) := rfl
theorem r_s0_2 (a : Nat → Nat) (cI cJ cZ : ClassId) (σ : jRS) (x : Int32) : (rcells a cI cJ cZ σ).set 0 (a 0, .inr (7, (rflds a σ).set 2 (.int x))) = rcells a cI cJ cZ (rP σ 0 2 x) := rfl
theorem r_fl3 (a : Nat → Nat) (σ : jRS) : (rflds a σ)[3]? = some (.int (σ.1 0 3)) := rfl
theorem r_s0_3 (a : Nat → Nat) (cI cJ cZ : ClassId) (σ : jRS) (x : Int32) : (rcells a cI cJ cZ σ).set 0 (a 0, .inr (7, (rflds a σ).set 3 (.int x))) = rcells a cI cJ cZ (rP σ 0 3 x) := rfl
theorem r_fl4 (a : Nat → Nat) (σ : jRS) : (rflds a σ)[4]? = some (.int (σ.1 0 4)) := rfl
theorem r_s0_4 (a : Nat → Nat) (cI cJ cZ : ClassId) (σ : jRS) (x : Int32) : (rcells a cI cJ cZ σ).set 0 (a 0, .inr (7, (rflds a σ).set 4 (.int x))) = rcells a cI cJ cZ (rP σ 0 4 x) := rfl
theorem r_fl5 (a : Nat → Nat) (σ : jRS) : (rflds a σ)[5]? = some (.int (σ.1 0 5)) := rfl
theorem r_s0_5 (a : Nat → Nat) (cI cJ cZ : ClassId) (σ : jRS) (x : Int32) : (rcells a cI cJ cZ σ).set 0 (a 0, .inr (7, (rflds a σ).set 5 (.int x))) = rcells a cI cJ cZ (rP σ 0 5 x) := rfl
theorem r_fl6 (a : Nat → Nat) (σ : jRS) : (rflds a σ)[6]? = some (.int (σ.1 0 6)) := rfl
theorem r_s0_6 (a : Nat → Nat) (cI cJ cZ : ClassId) (σ : jRS) (x : Int32) : (rcells a cI cJ cZ σ).set 0 (a 0, .inr (7, (rflds a σ).set 6 (.int x))) = rcells a cI cJ cZ (rP σ 0 6 x) := rfl
theorem r_fl7 (a : Nat → Nat) (σ : jRS) : (rflds a σ)[7]? = some (.int (σ.1 0 7)) := rfl
theorem r_s0_7 (a : Nat → Nat) (cI cJ cZ : ClassId) (σ : jRS) (x : Int32) : (rcells a cI cJ cZ σ).set 0 (a 0, .inr (7, (rflds a σ).set 7 (.int x))) = rcells a cI cJ cZ (rP σ 0 7 x) := rfl
theorem r_fl8 (a : Nat → Nat) (σ : jRS) : (rflds a σ)[8]? = some (.int (σ.1 0 8)) := rfl
theorem r_s0_8 (a : Nat → Nat) (cI cJ cZ : ClassId) (σ : jRS) (x : Int32) : (rcells a cI cJ cZ σ).set 0 (a 0, .inr (7, (rflds a σ).set 8 (.int x))) = rcells a cI cJ cZ (rP σ 0 8 x) := rfl
theorem r_fl9 (a : Nat → Nat) (σ : jRS) : (rflds a σ)[9]? = some (.int (σ.1 0 9)) := rfl
theorem r_s0_9 (a : Nat → Nat) (cI cJ cZ : ClassId) (σ : jRS) (x : Int32) : (rcells a cI cJ cZ σ).set 0 (a 0, .inr (7, (rflds a σ).set 9 (.int x))) = rcells a cI cJ cZ (rP σ 0 9 x) := rfl
theorem r_fl10 (a : Nat → Nat) (σ : jRS) : (rflds a σ)[10]? = some (.ref (a 10)) := rfl
theorem r_fl11 (a : Nat → Nat) (σ : jRS) : (rflds a σ)[11]? = some (.ref (a 11)) := rfl
theorem r_fl12 (a : Nat → Nat) (σ : jRS) : (rflds a σ)[12]? = some (.int (σ.1 0 12)) := rfl
theorem r_s0_12 (a : Nat → Nat) (cI cJ cZ : ClassId) (σ : jRS) (x : Int32) : (rcells a cI cJ cZ σ).set 0 (a 0, .inr (7, (rflds a σ).set 12 (.int x))) = rcells a cI cJ cZ (rP σ 0 12 x) := rfl
theorem r_fl13 (a : Nat → Nat) (σ : jRS) : (rflds a σ)[13]? = some (.ref (a 13)) := rfl
theorem r_fl14 (a : Nat → Nat) (σ : jRS) : (rflds a σ)[14]? = some (.int (σ.1 0 14)) := rfl
theorem r_s0_14 (a : Nat → Nat) (cI cJ cZ : ClassId) (σ : jRS) (x : Int32) : (rcells a cI cJ cZ σ).set 0 (a 0, .inr (7, (rflds a σ).set 14 (.int x))) = rcells a cI cJ cZ (rP σ 0 14 x) := rfl
theorem r_fl15 (a : Nat → Nat) (σ : jRS) : (rflds a σ)[15]? = some (.int (σ.1 0 15)) := rfl
theorem r_s0_15 (a : Nat → Nat) (cI cJ cZ : ClassId) (σ : jRS) (x : Int32) : (rcells a cI cJ cZ σ).set 0 (a 0, .inr (7, (rflds a σ).set 15 (.int x))) = rcells a cI cJ cZ (rP σ 0 15 x) := rfl
theorem r_fl16 (a : Nat → Nat) (σ : jRS) : (rflds a σ)[16]? = some (.ref (a 16)) := rfl
theorem r_fl17 (a : Nat → Nat) (σ : jRS) : (rflds a σ)[17]? = some (.ref (a 17)) := rfl
theorem r_fl18 (a : Nat → Nat) (σ : jRS) : (rflds a σ)[18]? = some (.ref (a 18)) := rfl
theorem r_fl19 (a : Nat → Nat) (σ : jRS) : (rflds a σ)[19]? = some (.ref (a 19)) := rfl
theorem r_fl20 (a : Nat → Nat) (σ : jRS) : (rflds a σ)[20]? = some (.ref (a 20)) := rfl
theorem r_fl21 (a : Nat → Nat) (σ : jRS) : (rflds a σ)[21]? = some (.ref (a 21)) := rfl
theorem r_fl22 (a : Nat → Nat) (σ : jRS) : (rflds a σ)[22]? = some (.ref (a 22)) := rfl
theorem r_fl23 (a : Nat → Nat) (σ : jRS) : (rflds a σ)[23]? = some (.ref (a 23)) := rfl
theorem r_fl24 (a : Nat → Nat) (σ : jRS) : (rflds a σ)[24]? = some (.ref (a 24)) := rfl
theorem r_fl25 (a : Nat → Nat) (σ : jRS) : (rflds a σ)[25]? = some (.ref (a 25)) := rfl
theorem r_fl26 (a : Nat → Nat) (σ : jRS) : (rflds a σ)[26]? = some (.ref (a 26)) := rfl
theorem r_fl27 (a : Nat → Nat) (σ : jRS) : (rflds a σ)[27]? = some (.ref (a 27)) := rfl
theorem r_fl28 (a : Nat → Nat) (σ : jRS) : (rflds a σ)[28]? = some (.ref (a 28)) := rfl
theorem r_fl29 (a : Nat → Nat) (σ : jRS) : (rflds a σ)[29]? = some (.ref (a 29)) := rfl
theorem r_fl30 (a : Nat → Nat) (σ : jRS) : (rflds a σ)[30]? = some (.ref (a 30)) := rfl
theorem r_fl31 (a : Nat → Nat) (σ : jRS) : (rflds a σ)[31]? = some (.ref (a 31)) := rfl
theorem r_fl32 (a : Nat → Nat) (σ : jRS) : (rflds a σ)[32]? = some (.ref (a 32)) := rfl
theorem r_fl33 (a : Nat → Nat) (σ : jRS) : (rflds a σ)[33]? = some (.ref (a 33)) := rfl
theorem r_fl34 (a : Nat → Nat) (σ : jRS) : (rflds a σ)[34]? = some (.ref (a 34)) := rfl
theorem r_fl35 (a : Nat → Nat) (σ : jRS) : (rflds a σ)[35]? = some (.ref (a 35)) := rfl
theorem r_fl36 (a : Nat → Nat) (σ : jRS) : (rflds a σ)[36]? = some (.ref (a 36)) := rfl
theorem r_fl37 (a : Nat → Nat) (σ : jRS) : (rflds a σ)[37]? = some (.ref (a 37)) := rfl
theorem r_fl38 (a : Nat → Nat) (σ : jRS) : (rflds a σ)[38]? = some (.ref (a 38)) := rfl
theorem r_fl39 (a : Nat → Nat) (σ : jRS) : (rflds a σ)[39]? = some (.ref (a 39)) := rfl
theorem r_fl40 (a : Nat → Nat) (σ : jRS) : (rflds a σ)[40]? = some (.ref (a 40)) := rfl
theorem r_fl41 (a : Nat → Nat) (σ : jRS) : (rflds a σ)[41]? = some (.ref (a 41)) := rfl
theorem r_fl42 (a : Nat → Nat) (σ : jRS) : (rflds a σ)[42]? = some (.ref (a 42)) := rfl
theorem r_fl43 (a : Nat → Nat) (σ : jRS) : (rflds a σ)[43]? = some (.ref (a 43)) := rfl
theorem r_fl44 (a : Nat → Nat) (σ : jRS) : (rflds a σ)[44]? = some (.ref (a 44)) := rfl
theorem r_fl45 (a : Nat → Nat) (σ : jRS) : (rflds a σ)[45]? = some (.ref (a 45)) := rfl
theorem r_fl46 (a : Nat → Nat) (σ : jRS) : (rflds a σ)[46]? = some (.ref (a 46)) := rfl
theorem r_fl47 (a : Nat → Nat) (σ : jRS) : (rflds a σ)[47]? = some (.ref (a 47)) := rfl
theorem r_fl48 (a : Nat → Nat) (σ : jRS) : (rflds a σ)[48]? = some (.ref (a 48)) := rfl
theorem r_fl49 (a : Nat → Nat) (σ : jRS) : (rflds a σ)[49]? = some (.ref (a 49)) := rfl
theorem r_at10 (a : Nat → Nat) (cI cJ cZ : ClassId) (σ : jRS) : (rcells a cI cJ cZ σ)[1]? = some (a 10, .inl (cI, 64, .inl (σ.1 10))) := rfl
theorem r_s10 (a : Nat → Nat) (cI cJ cZ : ClassId) (σ : jRS) (j : Nat) (x : Int32) : (rcells a cI cJ cZ σ).set 1 (a 10, .inl (cI, 64, .inl (upd (σ.1 10) j x))) = rcells a cI cJ cZ (rP σ 10 j x) := rfl
theorem r_at11 (a : Nat → Nat) (cI cJ cZ : ClassId) (σ : jRS) : (rcells a cI cJ cZ σ)[2]? = some (a 11, .inl (cI, 64, .inl (σ.1 11))) := rfl
theorem r_s11 (a : Nat → Nat) (cI cJ cZ : ClassId) (σ : jRS) (j : Nat) (x : Int32) : (rcells a cI cJ cZ σ).set 2 (a 11, .inl (cI, 64, .inl (upd (σ.1 11) j x))) = rcells a cI cJ cZ (rP σ 11 j x) := rfl
theorem r_at13 (a : Nat → Nat) (cI cJ cZ : ClassId) (σ : jRS) : (rcells a cI cJ cZ σ)[3]? = some (a 13, .inl (cI, 3, .inl (σ.1 13))) := rfl
theorem r_s13 (a : Nat → Nat) (cI cJ cZ : ClassId) (σ : jRS) (j : Nat) (x : Int32) : (rcells a cI cJ cZ σ).set 3 (a 13, .inl (cI, 3, .inl (upd (σ.1 13) j x))) = rcells a cI cJ cZ (rP σ 13 j x) := rfl
theorem r_at16 (a : Nat → Nat) (cI cJ cZ : ClassId) (σ : jRS) : (rcells a cI cJ cZ σ)[4]? = some (a 16, .inl (cI, 2, .inl (σ.1 16))) := rfl
theorem r_s16 (a : Nat → Nat) (cI cJ cZ : ClassId) (σ : jRS) (j : Nat) (x : Int32) : (rcells a cI cJ cZ σ).set 4 (a 16, .inl (cI, 2, .inl (upd (σ.1 16) j x))) = rcells a cI cJ cZ (rP σ 16 j x) := rfl
theorem r_at17 (a : Nat → Nat) (cI cJ cZ : ClassId) (σ : jRS) : (rcells a cI cJ cZ σ)[5]? = some (a 17, .inl (cI, 1024, .inl (σ.1 17))) := rfl
theorem r_s17 (a : Nat → Nat) (cI cJ cZ : ClassId) (σ : jRS) (j : Nat) (x : Int32) : (rcells a cI cJ cZ σ).set 5 (a 17, .inl (cI, 1024, .inl (upd (σ.1 17) j x))) = rcells a cI cJ cZ (rP σ 17 j x) := rfl
theorem r_at18 (a : Nat → Nat) (cI cJ cZ : ClassId) (σ : jRS) : (rcells a cI cJ cZ σ)[6]? = some (a 18, .inl (cI, 1024, .inl (σ.1 18))) := rfl
theorem r_s18 (a : Nat → Nat) (cI cJ cZ : ClassId) (σ : jRS) (j : Nat) (x : Int32) : (rcells a cI cJ cZ σ).set 6 (a 18, .inl (cI, 1024, .inl (upd (σ.1 18) j x))) = rcells a cI cJ cZ (rP σ 18 j x) := rfl
theorem r_at19 (a : Nat → Nat) (cI cJ cZ : ClassId) (σ : jRS) : (rcells a cI cJ cZ σ)[7]? = some (a 19, .inl (cI, 1024, .inl (σ.1 19))) := rfl
theorem r_s19 (a : Nat → Nat) (cI cJ cZ : ClassId) (σ : jRS) (j : Nat) (x : Int32) : (rcells a cI cJ cZ σ).set 7 (a 19, .inl (cI, 1024, .inl (upd (σ.1 19) j x))) = rcells a cI cJ cZ (rP σ 19 j x) := rfl
theorem r_at20 (a : Nat → Nat) (cI cJ cZ : ClassId) (σ : jRS) : (rcells a cI cJ cZ σ)[8]? = some (a 20, .inl (cI, 1024, .inl (σ.1 20))) := rfl
theorem r_s20 (a : Nat → Nat) (cI cJ cZ : ClassId) (σ : jRS) (j : Nat) (x : Int32) : (rcells a cI cJ cZ σ).set 8 (a 20, .inl (cI, 1024, .inl (upd (σ.1 20) j x))) = rcells a cI cJ cZ (rP σ 20 j x) := rfl
theorem r_at21 (a : Nat → Nat) (cI cJ cZ : ClassId) (σ : jRS) : (rcells a cI cJ cZ σ)[9]? = some (a 21, .inl (cZ, 1024, .inl (σ.1 21))) := rfl
theorem r_s21 (a : Nat → Nat) (cI cJ cZ : ClassId) (σ : jRS) (j : Nat) (x : Int32) : (rcells a cI cJ cZ σ).set 9 (a 21, .inl (cZ, 1024, .inl (upd (σ.1 21) j x))) = rcells a cI cJ cZ (rP σ 21 j x) := rfl
theorem r_at22 (a : Nat → Nat) (cI cJ cZ : ClassId) (σ : jRS) : (rcells a cI cJ cZ σ)[10]? = some (a 22, .inl (cI, 1024, .inl (σ.1 22))) := rfl
theorem r_s22 (a : Nat → Nat) (cI cJ cZ : ClassId) (σ : jRS) (j : Nat) (x : Int32) : (rcells a cI cJ cZ σ).set 10 (a 22, .inl (cI, 1024, .inl (upd (σ.1 22) j x))) = rcells a cI cJ cZ (rP σ 22 j x) := rfl
theorem r_at23 (a : Nat → Nat) (cI cJ cZ : ClassId) (σ : jRS) : (rcells a cI cJ cZ σ)[11]? = some (a 23, .inl (cI, 2, .inl (σ.1 23))) := rfl
theorem r_s23 (a : Nat → Nat) (cI cJ cZ : ClassId) (σ : jRS) (j : Nat) (x : Int32) : (rcells a cI cJ cZ σ).set 11 (a 23, .inl (cI, 2, .inl (upd (σ.1 23) j x))) = rcells a cI cJ cZ (rP σ 23 j x) := rfl
theorem r_at24 (a : Nat → Nat) (cI cJ cZ : ClassId) (σ : jRS) : (rcells a cI cJ cZ σ)[12]? = some (a 24, .inl (cI, 2, .inl (σ.1 24))) := rfl
theorem r_s24 (a : Nat → Nat) (cI cJ cZ : ClassId) (σ : jRS) (j : Nat) (x : Int32) : (rcells a cI cJ cZ σ).set 12 (a 24, .inl (cI, 2, .inl (upd (σ.1 24) j x))) = rcells a cI cJ cZ (rP σ 24 j x) := rfl
theorem r_at25 (a : Nat → Nat) (cI cJ cZ : ClassId) (σ : jRS) : (rcells a cI cJ cZ σ)[13]? = some (a 25, .inl (cI, 2, .inl (σ.1 25))) := rfl
theorem r_s25 (a : Nat → Nat) (cI cJ cZ : ClassId) (σ : jRS) (j : Nat) (x : Int32) : (rcells a cI cJ cZ σ).set 13 (a 25, .inl (cI, 2, .inl (upd (σ.1 25) j x))) = rcells a cI cJ cZ (rP σ 25 j x) := rfl
theorem r_at26 (a : Nat → Nat) (cI cJ cZ : ClassId) (σ : jRS) : (rcells a cI cJ cZ σ)[14]? = some (a 26, .inl (cI, 2, .inl (σ.1 26))) := rfl
theorem r_s26 (a : Nat → Nat) (cI cJ cZ : ClassId) (σ : jRS) (j : Nat) (x : Int32) : (rcells a cI cJ cZ σ).set 14 (a 26, .inl (cI, 2, .inl (upd (σ.1 26) j x))) = rcells a cI cJ cZ (rP σ 26 j x) := rfl
theorem r_at27 (a : Nat → Nat) (cI cJ cZ : ClassId) (σ : jRS) : (rcells a cI cJ cZ σ)[15]? = some (a 27, .inl (cI, 2, .inl (σ.1 27))) := rfl
theorem r_s27 (a : Nat → Nat) (cI cJ cZ : ClassId) (σ : jRS) (j : Nat) (x : Int32) : (rcells a cI cJ cZ σ).set 15 (a 27, .inl (cI, 2, .inl (upd (σ.1 27) j x))) = rcells a cI cJ cZ (rP σ 27 j x) := rfl
theorem r_at28 (a : Nat → Nat) (cI cJ cZ : ClassId) (σ : jRS) : (rcells a cI cJ cZ σ)[16]? = some (a 28, .inl (cI, 2, .inl (σ.1 28))) := rfl
theorem r_s28 (a : Nat → Nat) (cI cJ cZ : ClassId) (σ : jRS) (j : Nat) (x : Int32) : (rcells a cI cJ cZ σ).set 16 (a 28, .inl (cI, 2, .inl (upd (σ.1 28) j x))) = rcells a cI cJ cZ (rP σ 28 j x) := rfl
theorem r_at29 (a : Nat → Nat) (cI cJ cZ : ClassId) (σ : jRS) : (rcells a cI cJ cZ σ)[17]? = some (a 29, .inl (cI, 2, .inl (σ.1 29))) := rfl
theorem r_s29 (a : Nat → Nat) (cI cJ cZ : ClassId) (σ : jRS) (j : Nat) (x : Int32) : (rcells a cI cJ cZ σ).set 17 (a 29, .inl (cI, 2, .inl (upd (σ.1 29) j x))) = rcells a cI cJ cZ (rP σ 29 j x) := rfl
theorem r_at30 (a : Nat → Nat) (cI cJ cZ : ClassId) (σ : jRS) : (rcells a cI cJ cZ σ)[18]? = some (a 30, .inl (cI, 2, .inl (σ.1 30))) := rfl
theorem r_s30 (a : Nat → Nat) (cI cJ cZ : ClassId) (σ : jRS) (j : Nat) (x : Int32) : (rcells a cI cJ cZ σ).set 18 (a 30, .inl (cI, 2, .inl (upd (σ.1 30) j x))) = rcells a cI cJ cZ (rP σ 30 j x) := rfl
theorem r_at31 (a : Nat → Nat) (cI cJ cZ : ClassId) (σ : jRS) : (rcells a cI cJ cZ σ)[19]? = some (a 31, .inl (cI, 2, .inl (σ.1 31))) := rfl
theorem r_s31 (a : Nat → Nat) (cI cJ cZ : ClassId) (σ : jRS) (j : Nat) (x : Int32) : (rcells a cI cJ cZ σ).set 19 (a 31, .inl (cI, 2, .inl (upd (σ.1 31) j x))) = rcells a cI cJ cZ (rP σ 31 j x) := rfl
theorem r_at32 (a : Nat → Nat) (cI cJ cZ : ClassId) (σ : jRS) : (rcells a cI cJ cZ σ)[20]? = some (a 32, .inl (cI, 2, .inl (σ.1 32))) := rfl
theorem r_s32 (a : Nat → Nat) (cI cJ cZ : ClassId) (σ : jRS) (j : Nat) (x : Int32) : (rcells a cI cJ cZ σ).set 20 (a 32, .inl (cI, 2, .inl (upd (σ.1 32) j x))) = rcells a cI cJ cZ (rP σ 32 j x) := rfl
theorem r_at33 (a : Nat → Nat) (cI cJ cZ : ClassId) (σ : jRS) : (rcells a cI cJ cZ σ)[21]? = some (a 33, .inl (cJ, 2, .inr (.inl σ.2))) := rfl
theorem r_s33 (a : Nat → Nat) (cI cJ cZ : ClassId) (σ : jRS) (j : Nat) (x : Int64) : (rcells a cI cJ cZ σ).set 21 (a 33, .inl (cJ, 2, .inr (.inl (vp_updL σ.2 j x)))) = rcells a cI cJ cZ (rL σ j x) := rfl
theorem r_at34 (a : Nat → Nat) (cI cJ cZ : ClassId) (σ : jRS) : (rcells a cI cJ cZ σ)[22]? = some (a 34, .inl (cI, 2, .inl (σ.1 34))) := rfl
theorem r_s34 (a : Nat → Nat) (cI cJ cZ : ClassId) (σ : jRS) (j : Nat) (x : Int32) : (rcells a cI cJ cZ σ).set 22 (a 34, .inl (cI, 2, .inl (upd (σ.1 34) j x))) = rcells a cI cJ cZ (rP σ 34 j x) := rfl
theorem r_at35 (a : Nat → Nat) (cI cJ cZ : ClassId) (σ : jRS) : (rcells a cI cJ cZ σ)[23]? = some (a 35, .inl (cI, 2, .inl (σ.1 35))) := rfl
theorem r_s35 (a : Nat → Nat) (cI cJ cZ : ClassId) (σ : jRS) (j : Nat) (x : Int32) : (rcells a cI cJ cZ σ).set 23 (a 35, .inl (cI, 2, .inl (upd (σ.1 35) j x))) = rcells a cI cJ cZ (rP σ 35 j x) := rfl
theorem r_at36 (a : Nat → Nat) (cI cJ cZ : ClassId) (σ : jRS) : (rcells a cI cJ cZ σ)[24]? = some (a 36, .inl (cI, 2, .inl (σ.1 36))) := rfl
theorem r_s36 (a : Nat → Nat) (cI cJ cZ : ClassId) (σ : jRS) (j : Nat) (x : Int32) : (rcells a cI cJ cZ σ).set 24 (a 36, .inl (cI, 2, .inl (upd (σ.1 36) j x))) = rcells a cI cJ cZ (rP σ 36 j x) := rfl
theorem r_at37 (a : Nat → Nat) (cI cJ cZ : ClassId) (σ : jRS) : (rcells a cI cJ cZ σ)[25]? = some (a 37, .inl (cI, 16384, .inl (σ.1 37))) := rfl
theorem r_s37 (a : Nat → Nat) (cI cJ cZ : ClassId) (σ : jRS) (j : Nat) (x : Int32) : (rcells a cI cJ cZ σ).set 25 (a 37, .inl (cI, 16384, .inl (upd (σ.1 37) j x))) = rcells a cI cJ cZ (rP σ 37 j x) := rfl
theorem r_at38 (a : Nat → Nat) (cI cJ cZ : ClassId) (σ : jRS) : (rcells a cI cJ cZ σ)[26]? = some (a 38, .inl (cI, 16384, .inl (σ.1 38))) := rfl
theorem r_s38 (a : Nat → Nat) (cI cJ cZ : ClassId) (σ : jRS) (j : Nat) (x : Int32) : (rcells a cI cJ cZ σ).set 26 (a 38, .inl (cI, 16384, .inl (upd (σ.1 38) j x))) = rcells a cI cJ cZ (rP σ 38 j x) := rfl
theorem r_at39 (a : Nat → Nat) (cI cJ cZ : ClassId) (σ : jRS) : (rcells a cI cJ cZ σ)[27]? = some (a 39, .inl (cI, 2, .inl (σ.1 39))) := rfl
theorem r_s39 (a : Nat → Nat) (cI cJ cZ : ClassId) (σ : jRS) (j : Nat) (x : Int32) : (rcells a cI cJ cZ σ).set 27 (a 39, .inl (cI, 2, .inl (upd (σ.1 39) j x))) = rcells a cI cJ cZ (rP σ 39 j x) := rfl
theorem r_at40 (a : Nat → Nat) (cI cJ cZ : ClassId) (σ : jRS) : (rcells a cI cJ cZ σ)[28]? = some (a 40, .inl (cI, 2, .inl (σ.1 40))) := rfl
theorem r_s40 (a : Nat → Nat) (cI cJ cZ : ClassId) (σ : jRS) (j : Nat) (x : Int32) : (rcells a cI cJ cZ σ).set 28 (a 40, .inl (cI, 2, .inl (upd (σ.1 40) j x))) = rcells a cI cJ cZ (rP σ 40 j x) := rfl
theorem r_at41 (a : Nat → Nat) (cI cJ cZ : ClassId) (σ : jRS) : (rcells a cI cJ cZ σ)[29]? = some (a 41, .inl (cI, 2, .inl (σ.1 41))) := rfl
theorem r_s41 (a : Nat → Nat) (cI cJ cZ : ClassId) (σ : jRS) (j : Nat) (x : Int32) : (rcells a cI cJ cZ σ).set 29 (a 41, .inl (cI, 2, .inl (upd (σ.1 41) j x))) = rcells a cI cJ cZ (rP σ 41 j x) := rfl
theorem r_at42 (a : Nat → Nat) (cI cJ cZ : ClassId) (σ : jRS) : (rcells a cI cJ cZ σ)[30]? = some (a 42, .inl (cI, 2, .inl (σ.1 42))) := rfl
theorem r_s42 (a : Nat → Nat) (cI cJ cZ : ClassId) (σ : jRS) (j : Nat) (x : Int32) : (rcells a cI cJ cZ σ).set 30 (a 42, .inl (cI, 2, .inl (upd (σ.1 42) j x))) = rcells a cI cJ cZ (rP σ 42 j x) := rfl
theorem r_at43 (a : Nat → Nat) (cI cJ cZ : ClassId) (σ : jRS) : (rcells a cI cJ cZ σ)[31]? = some (a 43, .inl (cI, 2, .inl (σ.1 43))) := rfl
theorem r_s43 (a : Nat → Nat) (cI cJ cZ : ClassId) (σ : jRS) (j : Nat) (x : Int32) : (rcells a cI cJ cZ σ).set 31 (a 43, .inl (cI, 2, .inl (upd (σ.1 43) j x))) = rcells a cI cJ cZ (rP σ 43 j x) := rfl
theorem r_at44 (a : Nat → Nat) (cI cJ cZ : ClassId) (σ : jRS) : (rcells a cI cJ cZ σ)[32]? = some (a 44, .inl (cZ, 2, .inl (σ.1 44))) := rfl
theorem r_s44 (a : Nat → Nat) (cI cJ cZ : ClassId) (σ : jRS) (j : Nat) (x : Int32) : (rcells a cI cJ cZ σ).set 32 (a 44, .inl (cZ, 2, .inl (upd (σ.1 44) j x))) = rcells a cI cJ cZ (rP σ 44 j x) := rfl
theorem r_at45 (a : Nat → Nat) (cI cJ cZ : ClassId) (σ : jRS) : (rcells a cI cJ cZ σ)[33]? = some (a 45, .inl (cI, 2, .inl (σ.1 45))) := rfl
theorem r_s45 (a : Nat → Nat) (cI cJ cZ : ClassId) (σ : jRS) (j : Nat) (x : Int32) : (rcells a cI cJ cZ σ).set 33 (a 45, .inl (cI, 2, .inl (upd (σ.1 45) j x))) = rcells a cI cJ cZ (rP σ 45 j x) := rfl
theorem r_at46 (a : Nat → Nat) (cI cJ cZ : ClassId) (σ : jRS) : (rcells a cI cJ cZ σ)[34]? = some (a 46, .inl (cI, 2, .inl (σ.1 46))) := rfl
theorem r_s46 (a : Nat → Nat) (cI cJ cZ : ClassId) (σ : jRS) (j : Nat) (x : Int32) : (rcells a cI cJ cZ σ).set 34 (a 46, .inl (cI, 2, .inl (upd (σ.1 46) j x))) = rcells a cI cJ cZ (rP σ 46 j x) := rfl
theorem r_at47 (a : Nat → Nat) (cI cJ cZ : ClassId) (σ : jRS) : (rcells a cI cJ cZ σ)[35]? = some (a 47, .inl (cI, 2, .inl (σ.1 47))) := rfl
theorem r_s47 (a : Nat → Nat) (cI cJ cZ : ClassId) (σ : jRS) (j : Nat) (x : Int32) : (rcells a cI cJ cZ σ).set 35 (a 47, .inl (cI, 2, .inl (upd (σ.1 47) j x))) = rcells a cI cJ cZ (rP σ 47 j x) := rfl
theorem r_at48 (a : Nat → Nat) (cI cJ cZ : ClassId) (σ : jRS) : (rcells a cI cJ cZ σ)[36]? = some (a 48, .inl (cI, 24, .inl (σ.1 48))) := rfl
theorem r_s48 (a : Nat → Nat) (cI cJ cZ : ClassId) (σ : jRS) (j : Nat) (x : Int32) : (rcells a cI cJ cZ σ).set 36 (a 48, .inl (cI, 24, .inl (upd (σ.1 48) j x))) = rcells a cI cJ cZ (rP σ 48 j x) := rfl
theorem r_at49 (a : Nat → Nat) (cI cJ cZ : ClassId) (σ : jRS) : (rcells a cI cJ cZ σ)[37]? = some (a 49, .inl (cI, 24, .inl (σ.1 49))) := rfl
theorem r_s49 (a : Nat → Nat) (cI cJ cZ : ClassId) (σ : jRS) (j : Nat) (x : Int32) : (rcells a cI cJ cZ σ).set 37 (a 49, .inl (cI, 24, .inl (upd (σ.1 49) j x))) = rcells a cI cJ cZ (rP σ 49 j x) := rfl
end
section
/-! a method of the JDK whose class has native rows, but not this one -/
theorem met_ofWF {l : Launch} {y : MethodName} {ws ws' : List Cond} {rm : Room} {Pc : Array Value → State → Prop} {Qc : Array Value → State → Outcome → State → Prop} {mc ms : Nat} {free : Addr → Prop} {cc : ByteArray} {maxL : Nat} {ret : Option FieldType}
    (hy : plainFor y = true) (hw : ws = Cond.code y cc maxL ret :: ws')
    (body : ∀ p e s m args below meth c s₁, BodyLoose p l y (headSpec ws rm) cc maxL ret e s m args below meth c s₁ → c.maxLocals = maxL → Pc args s →
      W p l e (headSpec ws rm).room s m args below meth c s.heap [] 0 0 (MQ below Qc args s mc ms free) (entryFrame m args maxL)) : Met l y ws rm Pc Qc mc ms free := by
  refine MetFree.of_bodySF (code := cc) (maxLocals := maxL) (ret := ret) hy ?_ ?_
  · intro args s m h hn
    obtain ⟨meth, c, h1, h2, h3, h4, h5, h6, -, -⟩ := Cond.code_spec hn (atoms_spec (ws := ws) h _ (by rw [hw]; exact List.mem_cons_self))
    exact ⟨meth, c, h1, h2, h3, h4, h5, h6⟩
  · intro p e s m args below meth c s₁ B hml hP _
    have hh0 : s₁.heap = s.heap := by rw [B.state]; rfl
    obtain ⟨t, a1, o, b1, b2, b3⟩ := body p e s m args below meth c s₁ B hml hP s₁ hh0 (Stand.of_body B)
    exact ⟨t, o, a1, b1, b2, ⟨b3.1, b3.2⟩⟩
theorem j_ofiF {S : Type} {l : Launch} {D : va_G} {tys : List (ClassId × FieldType)} {G : (Nat → Prop) → State → Prop} {y : MethodName} {wy wy' : List Cond} {rm : Room} {cc : ByteArray} {maxL : Nat} {ret : Option FieldType} {av : List Value} {ws : va_W} {post : Int32 → S → Prop} {F : S → va_W} {mc ms : Nat} (hy : plainFor y = true) (hw : wy = Cond.code y cc maxL ret :: wy') (hlen : (lg_sl av).length ≤ maxL)
    (body : ∀ (p : Program) (e : Env) (s : State) (m : MethodId) (args : Array Value) (below : List Frame) (meth : Method) (c : Code) (A : Nat → Prop), jC p s m args meth c cc maxL y.cls wy D tys A → meth.sig.returnType = ret → meth.name = y.name → G A s → jJ p l e rm s m args below meth c 0 0 (MQ below (va_Qi post (jE D tys A F) A) args s mc ms A) D A maxL ws (lv_args 0 av) 0 []) : jMi l D tys G y wy rm av ws post F mc ms := by
  intro sz
  refine met_ofWF (cc := cc) (maxL := maxL) (ret := ret) hy hw ?_
  intro p e s m args below meth c s₁ B hml hv
  obtain ⟨rfl, rfl, hP, hK, hD0, hG⟩ := hv
  have h := body p e s m av.toArray below meth c (va_A ws s.heap.size) ⟨⟨B.exec, B.bytes, hml, findClass_of_methodNamed B.named, atoms_spec (ws := wy) B.pre⟩, hK, fun q h => Or.inr h, B.notSynchronized⟩ B.returns (name_of_methodNamed B.named B.method).1 hG
  rw [lg_entry_eq]
  exact h s.heap [] _ hP hD0.self va_S.rf (lv_entry av hlen)
/-! ===== static methods of ints alone ===== -/
def jwithin (v lo hi : Int32) : Int32 := if v < lo then 0 else if hi < v then 0 else 1
def jisSender (v : Int32) : Int32 := jwithin v 0 1
def jfloorMod (x y : Int32) : Int32 := if 0 ≤ (x ^^^ y) then x - x / y * y else if x - x / y * y = 0 then x - x / y * y else x - x / y * y + y
theorem jwithin_or (v lo hi : Int32) : jwithin v lo hi = 0 ∨ jwithin v lo hi = 1 := by
  unfold jwithin
  by_cases h1 : v < lo
  · simp [h1]
  · by_cases h2 : hi < v
    · simp [h1, h2]
    · simp [h1, h2]
def rmX7_within : Room := { frames := 0, cells := 0, slots := 0, locals := 0 }
def wX7_within (x0 : Int32) (x1 : Int32) (x2 : Int32) (post : Int32 → Unit → Prop) : Prop := ((x0 < x1) → (post 0 ())) ∧ ((¬ x0 < x1) → (((x2 < x0) → (post 0 ())) ∧ ((¬ x2 < x0) → (post 1 ()))))
set_option maxHeartbeats 4000000 in
set_option maxRecDepth 100000 in
theorem qX7_within {l : Launch} {D : va_G} {tys : List (ClassId × FieldType)} {x0 x1 x2 : Int32} {post : Int32 → Unit → Prop} (hw : wX7_within x0 x1 x2 post) : jMi l D tys jG0 yX7_within wsX7_within rmX7_within [.int x0, .int x1, .int x2] [] post (fun _ : Unit => []) 0 0 := by
  refine j_ofi (cc := cX7_within) (maxL := 3) (ret := (some .boolean)) (by decide) rfl (Nat.le_of_ble_eq_true rfl) ?_
  intro p e s m args below meth c A C hr hnm hG
  refine j_sub (lv' := [(0, .int x0), (1, .int x1), (2, .int x2)]) [0, 1, 2] rfl ?_
  unfold wX7_within at hw
  refine j_iload_n (pc := 0) C dX7_within_0 0 rfl rfl ?_
  refine j_iload_n (pc := 1) C dX7_within_1 1 rfl rfl ?_
  refine j_icmp_lt (pc := 2) C 14 dX7_within_2 (by decide) (fun z_1 => ?_) (fun z_1 => ?_)
  · have hw := hw.1 z_1
    refine j_iconst (pc := 14) (v := 0) C dX7_within_14 (by decide) ?_
    exact j_zret (pc := 15) C hr (by decide) () rfl hw dX7_within_15
  · have hw := hw.2 z_1
    refine j_iload_n (pc := 5) C dX7_within_5 0 rfl rfl ?_
    refine j_iload_n (pc := 6) C dX7_within_6 2 rfl rfl ?_
    refine j_icmp_gt (pc := 7) C 14 dX7_within_7 (by decide) (fun z_2 => ?_) (fun z_2 => ?_)
    · have hw := hw.1 z_2
      refine j_iconst (pc := 14) (v := 0) C dX7_within_14 (by decide) ?_
      exact j_zret (pc := 15) C hr (by decide) () rfl hw dX7_within_15
    · have hw := hw.2 z_2
      refine j_iconst (pc := 10) (v := 1) C dX7_within_10 (by decide) ?_
      refine j_goto (pc := 11) C 15 dX7_within_11 (by decide) ?_
      exact j_zret (pc := 15) C hr (by decide) () rfl hw dX7_within_15
theorem mX7_within {l : Launch} {D : va_G} {tys : List (ClassId × FieldType)} (x0 x1 x2 : Int32) : jMi l D tys jG0 yX7_within wsX7_within rmX7_within [.int x0, .int x1, .int x2] [] (fun r _ => r = jwithin x0 x1 x2) (fun _ : Unit => []) 0 0 :=
  qX7_within ⟨fun h => by simp [jwithin, h], fun h => ⟨fun h2 => by simp [jwithin, h, h2], fun h2 => by simp [jwithin, h, h2]⟩⟩
def rmX7_isSender : Room := { frames := 1, cells := 0, slots := 0, locals := 22 }
def wX7_isSender (x0 : Int32) (post : Int32 → Unit → Prop) : Prop := ∀ r_1 : Int32, r_1 = jwithin x0 0 1 → (r_1 = 0 ∨ r_1 = 1) ∧ post r_1 ()
set_option maxHeartbeats 4000000 in
set_option maxRecDepth 100000 in
theorem qX7_isSender {l : Launch} {D : va_G} {tys : List (ClassId × FieldType)} {x0 : Int32} {post : Int32 → Unit → Prop} (hw : wX7_isSender x0 post) : jMi l D tys jG0 yX7_isSender wsX7_isSender rmX7_isSender [.int x0] [] post (fun _ : Unit => []) 0 0 := by
  refine j_ofi (cc := cX7_isSender) (maxL := 1) (ret := (some .boolean)) (by decide) rfl (Nat.le_of_ble_eq_true rfl) ?_
  intro p e s m args below meth c A C hr hnm hG
  refine j_sub (lv' := [(0, .int x0)]) [0] rfl ?_
  unfold wX7_isSender at hw
  refine j_iload_n (pc := 0) C dX7_isSender_0 0 rfl rfl ?_
  refine j_iconst (pc := 1) (v := 0) C dX7_isSender_1 (by decide) ?_
  refine j_iconst (pc := 2) (v := 1) C dX7_isSender_2 (by decide) ?_
  refine j_scalli (pc := 3) C 3 (mX7_within x0 0 1) gX7_isSender_X7_within rfl rfl rfl (by decide +kernel) ⟨by decide, by decide⟩ rfl rfl (Nat.le_of_ble_eq_true rfl) dX7_isSender_3 ⟨Nat.le_refl _, Nat.le_refl _⟩ (fun r_1 er_1 => ?_)
  have hw := hw r_1 er_1
  exact j_zret (pc := 6) C hr hw.1 () rfl hw.2 dX7_isSender_6
theorem mX7_isSender {l : Launch} {D : va_G} {tys : List (ClassId × FieldType)} (x0 : Int32) : jMi l D tys jG0 yX7_isSender wsX7_isSender rmX7_isSender [.int x0] [] (fun r _ => r = jisSender x0) (fun _ : Unit => []) 0 0 :=
  qX7_isSender (fun r hr => ⟨by rw [hr]; exact jwithin_or _ _ _, hr⟩)
def rmX6_within : Room := { frames := 0, cells := 0, slots := 0, locals := 0 }
def wX6_within (x0 : Int32) (x1 : Int32) (x2 : Int32) (post : Int32 → Unit → Prop) : Prop := ((x0 < x1) → (post 0 ())) ∧ ((¬ x0 < x1) → (((x2 < x0) → (post 0 ())) ∧ ((¬ x2 < x0) → (post 1 ()))))
set_option maxHeartbeats 4000000 in
set_option maxRecDepth 100000 in
theorem qX6_within {l : Launch} {D : va_G} {tys : List (ClassId × FieldType)} {x0 x1 x2 : Int32} {post : Int32 → Unit → Prop} (hw : wX6_within x0 x1 x2 post) : jMi l D tys jG0 yX6_within wsX6_within rmX6_within [.int x0, .int x1, .int x2] [] post (fun _ : Unit => []) 0 0 := by
  refine j_ofi (cc := cX6_within) (maxL := 3) (ret := (some .boolean)) (by decide) rfl (Nat.le_of_ble_eq_true rfl) ?_
  intro p e s m args below meth c A C hr hnm hG
  refine j_sub (lv' := [(0, .int x0), (1, .int x1), (2, .int x2)]) [0, 1, 2] rfl ?_
  unfold wX6_within at hw
  refine j_iload_n (pc := 0) C dX6_within_0 0 rfl rfl ?_
  refine j_iload_n (pc := 1) C dX6_within_1 1 rfl rfl ?_
  refine j_icmp_lt (pc := 2) C 14 dX6_within_2 (by decide) (fun z_1 => ?_) (fun z_1 => ?_)
  · have hw := hw.1 z_1
    refine j_iconst (pc := 14) (v := 0) C dX6_within_14 (by decide) ?_
    exact j_zret (pc := 15) C hr (by decide) () rfl hw dX6_within_15
  · have hw := hw.2 z_1
    refine j_iload_n (pc := 5) C dX6_within_5 0 rfl rfl ?_
    refine j_iload_n (pc := 6) C dX6_within_6 2 rfl rfl ?_
    refine j_icmp_gt (pc := 7) C 14 dX6_within_7 (by decide) (fun z_2 => ?_) (fun z_2 => ?_)
    · have hw := hw.1 z_2
      refine j_iconst (pc := 14) (v := 0) C dX6_within_14 (by decide) ?_
      exact j_zret (pc := 15) C hr (by decide) () rfl hw dX6_within_15
    · have hw := hw.2 z_2
      refine j_iconst (pc := 10) (v := 1) C dX6_within_10 (by decide) ?_
      refine j_goto (pc := 11) C 15 dX6_within_11 (by decide) ?_
      exact j_zret (pc := 15) C hr (by decide) () rfl hw dX6_within_15
theorem mX6_within {l : Launch} {D : va_G} {tys : List (ClassId × FieldType)} (x0 x1 x2 : Int32) : jMi l D tys jG0 yX6_within wsX6_within rmX6_within [.int x0, .int x1, .int x2] [] (fun r _ => r = jwithin x0 x1 x2) (fun _ : Unit => []) 0 0 :=
  qX6_within ⟨fun h => by simp [jwithin, h], fun h => ⟨fun h2 => by simp [jwithin, h, h2], fun h2 => by simp [jwithin, h, h2]⟩⟩
def rmJ9_floorMod_7cf53 : Room := { frames := 0, cells := 0, slots := 0, locals := 0 }
def wJ9_floorMod_7cf53 (x0 : Int32) (x1 : Int32) (post : Int32 → Unit → Prop) : Prop := (¬ x1 = 0) ∧ ∀ x2_2 : Int32, x2_2 = x0 - x0 / x1 * x1 → ((0 ≤ (x0 ^^^ x1)) → (post x2_2 ())) ∧ ((¬ 0 ≤ (x0 ^^^ x1)) → (((x2_2 = 0) → (post x2_2 ())) ∧ ((¬ x2_2 = 0) → (post (x2_2 + x1) ()))))
set_option maxHeartbeats 4000000 in
set_option maxRecDepth 100000 in
theorem qJ9_floorMod_7cf53 {l : Launch} {D : va_G} {tys : List (ClassId × FieldType)} {x0 x1 : Int32} {post : Int32 → Unit → Prop} (hw : wJ9_floorMod_7cf53 x0 x1 post) : jMi l D tys jG0 yJ9_floorMod_7cf53 wsJ9_floorMod_7cf53 rmJ9_floorMod_7cf53 [.int x0, .int x1] [] post (fun _ : Unit => []) 0 0 := by
  refine j_ofiF (cc := cJ9_floorMod_7cf53) (maxL := 3) (ret := (some .int)) (by decide +kernel) rfl (Nat.le_of_ble_eq_true rfl) ?_
  intro p e s m args below meth c A C hr hnm hG
  refine j_sub (lv' := [(0, .int x0), (1, .int x1)]) [0, 1] rfl ?_
  unfold wJ9_floorMod_7cf53 at hw
  refine j_iload_n (pc := 0) C dJ9_floorMod_7cf53_0 0 rfl rfl ?_
  refine j_iload_n (pc := 1) C dJ9_floorMod_7cf53_1 1 rfl rfl ?_
  obtain ⟨h_1, hw⟩ := hw
  refine j_irem (pc := 2) C dJ9_floorMod_7cf53_2 h_1 ?_
  refine j_topi (fun x2_2 ex2_2 => ?_)
  have hw := hw x2_2 ex2_2
  refine j_istore_n (pc := 3) (lv' := [(0, .int x0), (1, .int x1), (2, .int x2_2)]) C [1, 2, 0] dJ9_floorMod_7cf53_3 rfl (by decide) rfl ?_
  refine j_iload_n (pc := 4) C dJ9_floorMod_7cf53_4 0 rfl rfl ?_
  refine j_iload_n (pc := 5) C dJ9_floorMod_7cf53_5 1 rfl rfl ?_
  refine j_ixor (pc := 6) C dJ9_floorMod_7cf53_6 ?_
  refine j_if_ge (pc := 7) C 18 dJ9_floorMod_7cf53_7 (by decide) (fun z_3 => ?_) (fun z_3 => ?_)
  · have hw := hw.1 z_3
    refine j_iload_n (pc := 18) C dJ9_floorMod_7cf53_18 2 rfl rfl ?_
    exact j_iret (pc := 19) C hr () rfl hw dJ9_floorMod_7cf53_19
  · have hw := hw.2 z_3
    refine j_iload_n (pc := 10) C dJ9_floorMod_7cf53_10 2 rfl rfl ?_
    refine j_if_eq (pc := 11) C 18 dJ9_floorMod_7cf53_11 (by decide) (fun z_4 => ?_) (fun z_4 => ?_)
    · have hw := hw.1 z_4
      refine j_iload_n (pc := 18) C dJ9_floorMod_7cf53_18 2 rfl rfl ?_
      exact j_iret (pc := 19) C hr () rfl hw dJ9_floorMod_7cf53_19
    · have hw := hw.2 z_4
      refine j_iload_n (pc := 14) C dJ9_floorMod_7cf53_14 2 rfl rfl ?_
      refine j_iload_n (pc := 15) C dJ9_floorMod_7cf53_15 1 rfl rfl ?_
      refine j_iadd (pc := 16) C dJ9_floorMod_7cf53_16 ?_
      exact j_iret (pc := 17) C hr () rfl hw dJ9_floorMod_7cf53_17
theorem mJ9_floorMod_7cf53 {l : Launch} {D : va_G} {tys : List (ClassId × FieldType)} (x0 x1 : Int32) (h0 : ¬ x1 = 0) : jMi l D tys jG0 yJ9_floorMod_7cf53 wsJ9_floorMod_7cf53 rmJ9_floorMod_7cf53 [.int x0, .int x1] [] (fun r _ => r = jfloorMod x0 x1) (fun _ : Unit => []) 0 0 :=
  qJ9_floorMod_7cf53 ⟨h0, fun r hr => ⟨fun h => by simp [jfloorMod, h, hr], fun h => ⟨fun h2 => by rw [hr] at h2; simp [jfloorMod, h, h2, hr], fun h2 => by rw [hr] at h2; simp [jfloorMod, h, h2, hr]⟩⟩⟩
def rmX6_asNumber : Room := { frames := 0, cells := 0, slots := 0, locals := 0 }
def wX6_asNumber (x0 : Int32) (post : Int32 → Unit → Prop) : Prop := ((x0 = 0) → (post 0 ())) ∧ ((¬ x0 = 0) → (post 1 ()))
set_option maxHeartbeats 4000000 in
set_option maxRecDepth 100000 in
theorem qX6_asNumber {l : Launch} {D : va_G} {tys : List (ClassId × FieldType)} {x0 : Int32} {post : Int32 → Unit → Prop} (hw : wX6_asNumber x0 post) : jMi l D tys jG0 yX6_asNumber wsX6_asNumber rmX6_asNumber [.int x0] [] post (fun _ : Unit => []) 0 0 := by
  refine j_ofi (cc := cX6_asNumber) (maxL := 1) (ret := (some .int)) (by decide) rfl (Nat.le_of_ble_eq_true rfl) ?_
  intro p e s m args below meth c A C hr hnm hG
  refine j_sub (lv' := [(0, .int x0)]) [0] rfl ?_
  unfold wX6_asNumber at hw
  refine j_iload_n (pc := 0) C dX6_asNumber_0 0 rfl rfl ?_
  refine j_if_eq (pc := 1) C 8 dX6_asNumber_1 (by decide) (fun z_1 => ?_) (fun z_1 => ?_)
  · have hw := hw.1 z_1
    refine j_iconst (pc := 8) (v := 0) C dX6_asNumber_8 (by decide) ?_
    exact j_iret (pc := 9) C hr () rfl hw dX6_asNumber_9
  · have hw := hw.2 z_1
    refine j_iconst (pc := 4) (v := 1) C dX6_asNumber_4 (by decide) ?_
    refine j_goto (pc := 5) C 9 dX6_asNumber_5 (by decide) ?_
    exact j_iret (pc := 9) C hr () rfl hw dX6_asNumber_9
def jasNumber (v : Int32) : Int32 := if v = 0 then 0 else 1
theorem mX6_asNumber {l : Launch} {D : va_G} {tys : List (ClassId × FieldType)} (x0 : Int32) : jMi l D tys jG0 yX6_asNumber wsX6_asNumber rmX6_asNumber [.int x0] [] (fun r _ => r = jasNumber x0) (fun _ : Unit => []) 0 0 :=
  qX6_asNumber ⟨fun h => by simp [jasNumber, h], fun h => by simp [jasNumber, h]⟩
end
section
def rmX7_serves : Room := { frames := 0, cells := 0, slots := 0, locals := 0 }
theorem hiX7_serves : ∀ w ∈ u_ws RX7 TX7 50, w ∈ wsX7_serves := fun w h => List.mem_cons_of_mem _ (List.mem_append_right _ h)
theorem lkX7_serves_19 : Cond.fieldLink yX7_serves.cls 19 (TX7 5).1 (TX7 5).2.1 (TX7 5).2.2.1 ∈ wsX7_serves := by decide +kernel
theorem lkX7_serves_143 : Cond.fieldLink yX7_serves.cls 143 (TX7 6).1 (TX7 6).2.1 (TX7 6).2.2.1 ∈ wsX7_serves := by decide +kernel
theorem lkX7_serves_146 : Cond.fieldLink yX7_serves.cls 146 (TX7 0).1 (TX7 0).2.1 (TX7 0).2.2.1 ∈ wsX7_serves := by decide +kernel
theorem lkX7_serves_7 : Cond.fieldLink yX7_serves.cls 7 (TX7 1).1 (TX7 1).2.1 (TX7 1).2.2.1 ∈ wsX7_serves := by decide +kernel
theorem lkX7_serves_149 : Cond.fieldLink yX7_serves.cls 149 (TX7 7).1 (TX7 7).2.1 (TX7 7).2.2.1 ∈ wsX7_serves := by decide +kernel
def wX7_serves (N : Nat) (σ : jRS) (x1 : Int32) (x2 : Int32) (post : jRS → Prop) : Prop := ∀ s_5 : jRS, s_5 = rP σ 0 5 x1 → ∀ s_6 : jRS, s_6 = rP s_5 0 6 x2 → ∀ v_7 : Int32, v_7 = (s_6.1 0 0) + (s_6.1 0 1) → ∀ s_8 : jRS, s_8 = rP s_6 0 7 v_7 → post s_8
set_option maxHeartbeats 4000000 in
set_option maxRecDepth 100000 in
theorem mX7_serves {l : Launch} {D : va_G} {cI cJ cZ cO : ClassId} {a : Nat → Nat} {N : Nat} {σ : jRS} {x1 x2 : Int32} {post : jRS → Prop} (hw : wX7_serves N σ x1 x2 post) : jMv l D (jT cI cJ cZ cO) jG0 yX7_serves wsX7_serves rmX7_serves [.ref (a 0), .int x1, .int x2] (rcells a cI cJ cZ σ) post (rcells a cI cJ cZ) 0 0 := by
  refine j_ofv (cc := cX7_serves) (maxL := 3) (ret := none) (by decide) rfl (Nat.le_of_ble_eq_true rfl) ?_
  intro p e s m args below meth c A C hr hnm hG
  refine j_sub (lv' := [(0, .ref (a 0)), (1, .int x1), (2, .int x2)]) [0, 1, 2] rfl ?_
  unfold wX7_serves at hw
  refine j_aload_n (pc := 0) C dX7_serves_0 0 rfl rfl ?_
  refine j_iload_n (pc := 1) C dX7_serves_1 1 rfl rfl ?_
  refine j_put (pc := 2) C hiX7_serves tyX7 tyX7_ok nmX7 0 (r_at0 a cI cJ cZ σ) rfl 5 (by decide) lkX7_serves_19 rfl rfl rfl (Nat.le_of_ble_eq_true rfl) dX7_serves_2 (j_ws (r_s0_5 a cI cJ cZ σ x1) ?_)
  refine j_nmS (F := rcells a cI cJ cZ) (fun s_5 es_5 => ?_)
  have hw := hw s_5 es_5
  refine j_aload_n (pc := 5) C dX7_serves_5 0 rfl rfl ?_
  refine j_iload_n (pc := 6) C dX7_serves_6 2 rfl rfl ?_
  refine j_put (pc := 7) C hiX7_serves tyX7 tyX7_ok nmX7 0 (r_at0 a cI cJ cZ s_5) rfl 6 (by decide) lkX7_serves_143 rfl rfl rfl (Nat.le_of_ble_eq_true rfl) dX7_serves_7 (j_ws (r_s0_6 a cI cJ cZ s_5 x2) ?_)
  refine j_nmS (F := rcells a cI cJ cZ) (fun s_6 es_6 => ?_)
  have hw := hw s_6 es_6
  refine j_aload_n (pc := 10) C dX7_serves_10 0 rfl rfl ?_
  refine j_aload_n (pc := 11) C dX7_serves_11 0 rfl rfl ?_
  refine j_get (ref := RX7) (pc := 12) C hiX7_serves 0 (r_at0 a cI cJ cZ s_6) rfl 0 (by decide) lkX7_serves_146 (r_fl0 a s_6) dX7_serves_12 ?_
  refine j_aload_n (pc := 15) C dX7_serves_15 0 rfl rfl ?_
  refine j_get (ref := RX7) (pc := 16) C hiX7_serves 0 (r_at0 a cI cJ cZ s_6) rfl 1 (by decide) lkX7_serves_7 (r_fl1 a s_6) dX7_serves_16 ?_
  refine j_iadd (pc := 19) C dX7_serves_19 ?_
  refine j_topi (fun v_7 ev_7 => ?_)
  have hw := hw v_7 ev_7
  refine j_put (pc := 20) C hiX7_serves tyX7 tyX7_ok nmX7 0 (r_at0 a cI cJ cZ s_6) rfl 7 (by decide) lkX7_serves_149 rfl rfl rfl (Nat.le_of_ble_eq_true rfl) dX7_serves_20 (j_ws (r_s0_7 a cI cJ cZ s_6 v_7) ?_)
  refine j_nmS (F := rcells a cI cJ cZ) (fun s_8 es_8 => ?_)
  have hw := hw s_8 es_8
  exact j_vret (pc := 23) C hr s_8 rfl hw dX7_serves_23
def rmX7_comes : Room := { frames := 1, cells := 0, slots := 0, locals := 22 }
theorem hiX7_comes : ∀ w ∈ u_ws RX7 TX7 50, w ∈ wsX7_comes := fun w h => List.mem_cons_of_mem _ (List.mem_append_right _ h)
theorem lkX7_comes_19 : Cond.fieldLink yX7_comes.cls 19 (TX7 5).1 (TX7 5).2.1 (TX7 5).2.2.1 ∈ wsX7_comes := by decide +kernel
theorem lkX7_comes_156 : Cond.fieldLink yX7_comes.cls 156 (TX7 8).1 (TX7 8).2.1 (TX7 8).2.2.1 ∈ wsX7_comes := by decide +kernel
theorem lkX7_comes_13 : Cond.fieldLink yX7_comes.cls 13 (TX7 2).1 (TX7 2).2.1 (TX7 2).2.2.1 ∈ wsX7_comes := by decide +kernel
theorem lkX7_comes_22 : Cond.fieldLink yX7_comes.cls 22 (TX7 10).1 (TX7 10).2.1 (TX7 10).2.2.1 ∈ wsX7_comes := by decide +kernel
theorem lkX7_comes_26 : Cond.fieldLink yX7_comes.cls 26 (TX7 11).1 (TX7 11).2.1 (TX7 11).2.2.1 ∈ wsX7_comes := by decide +kernel
theorem lkX7_comes_159 : Cond.fieldLink yX7_comes.cls 159 (TX7 9).1 (TX7 9).2.1 (TX7 9).2.2.1 ∈ wsX7_comes := by decide +kernel
def wX7_comes_82 (N : Nat) (σ : jRS) (y0 : Int32) (post : Int32 → jRS → Prop) : Prop := ∀ s_13 : jRS, s_13 = rP σ 0 9 y0 → post 1 s_13
set_option maxHeartbeats 4000000 in
set_option maxRecDepth 100000 in
theorem kX7_comes_82 {p : Program} {l : Launch} {e : Env} {s : State} {m : MethodId} {args : Array Value} {below : List Frame} {meth : Method} {c : Code} {D : va_G} {cI cJ cZ cO : ClassId} {a : Nat → Nat} {A : Nat → Prop} {N : Nat} {post : Int32 → jRS → Prop} (C : jC p s m args meth c cX7_comes 3 yX7_comes.cls wsX7_comes D (jT cI cJ cZ cO) A) (hr : meth.sig.returnType = (some .boolean)) (hG : jG0 A s) (σ : jRS) (y0 : Int32) (hw : wX7_comes_82 N σ y0 post) : jJ p l e rmX7_comes s m args below meth c 0 0 (MQ below (va_Qi post (jE D (jT cI cJ cZ cO) A (rcells a cI cJ cZ)) A) args s 0 0 A) D A 3 (rcells a cI cJ cZ σ) [] 82 [.int y0, .ref (a 0)] := by
  unfold wX7_comes_82 at hw
  refine j_put (pc := 82) C hiX7_comes tyX7 tyX7_ok nmX7 0 (r_at0 a cI cJ cZ σ) rfl 9 (by decide) lkX7_comes_159 rfl rfl rfl (Nat.le_of_ble_eq_true rfl) dX7_comes_82 (j_ws (r_s0_9 a cI cJ cZ σ y0) ?_)
  refine j_nmS (F := rcells a cI cJ cZ) (fun s_13 es_13 => ?_)
  have hw := hw s_13 es_13
  refine j_iconst (pc := 85) (v := 1) C dX7_comes_85 (by decide) ?_
  exact j_zret (pc := 86) C hr (by decide) s_13 rfl hw dX7_comes_86
def wX7_comes (N : Nat) (σ : jRS) (x1 : Int32) (x2 : Int32) (post : Int32 → jRS → Prop) : Prop := ((¬ (σ.1 0 5) = 3) → ((((σ.1 0 8) < (σ.1 0 2)) → (vp_in (σ.1 0 8) 64 ∧ ∀ s_17 : jRS, s_17 = rP σ 10 (σ.1 0 8).toNatClampNeg x1 → vp_in (s_17.1 0 8) 64 ∧ ∀ s_19 : jRS, s_19 = rP s_17 11 (s_17.1 0 8).toNatClampNeg x2 → ∀ v_20 : Int32, v_20 = (s_19.1 0 8) + 1 → ∀ s_21 : jRS, s_21 = rP s_19 0 8 v_20 → (((s_21.1 0 8) ≤ (s_21.1 0 9)) → (wX7_comes_82 N s_21 (s_21.1 0 9) post)) ∧ ((¬ (s_21.1 0 8) ≤ (s_21.1 0 9)) → (wX7_comes_82 N s_21 (s_21.1 0 8) post)))) ∧ ((¬ (σ.1 0 8) < (σ.1 0 2)) → (post 0 σ)))) ∧ (((σ.1 0 5) = 3) → (wX7_serves N σ x1 x2 (fun s_24 => post 1 s_24)))
set_option maxHeartbeats 4000000 in
set_option maxRecDepth 100000 in
theorem mX7_comes {l : Launch} {D : va_G} {cI cJ cZ cO : ClassId} {a : Nat → Nat} {N : Nat} {σ : jRS} {x1 x2 : Int32} {post : Int32 → jRS → Prop} (hw : wX7_comes N σ x1 x2 post) : jMi l D (jT cI cJ cZ cO) jG0 yX7_comes wsX7_comes rmX7_comes [.ref (a 0), .int x1, .int x2] (rcells a cI cJ cZ σ) post (rcells a cI cJ cZ) 0 0 := by
  refine j_ofi (cc := cX7_comes) (maxL := 3) (ret := (some .boolean)) (by decide) rfl (Nat.le_of_ble_eq_true rfl) ?_
  intro p e s m args below meth c A C hr hnm hG
  refine j_sub (lv' := [(0, .ref (a 0)), (1, .int x1), (2, .int x2)]) [0, 1, 2] rfl ?_
  unfold wX7_comes at hw
  refine j_aload_n (pc := 0) C dX7_comes_0 0 rfl rfl ?_
  refine j_get (ref := RX7) (pc := 1) C hiX7_comes 0 (r_at0 a cI cJ cZ σ) rfl 5 (by decide) lkX7_comes_19 (r_fl5 a σ) dX7_comes_1 ?_
  refine j_iconst (pc := 4) (v := 3) C dX7_comes_4 (by decide) ?_
  refine j_icmp_ne (pc := 5) C 16 dX7_comes_5 (by decide) (fun z_14 => ?_) (fun z_14 => ?_)
  · have hw := hw.1 z_14
    refine j_aload_n (pc := 16) C dX7_comes_16 0 rfl rfl ?_
    refine j_get (ref := RX7) (pc := 17) C hiX7_comes 0 (r_at0 a cI cJ cZ σ) rfl 8 (by decide) lkX7_comes_156 (r_fl8 a σ) dX7_comes_17 ?_
    refine j_aload_n (pc := 20) C dX7_comes_20 0 rfl rfl ?_
    refine j_get (ref := RX7) (pc := 21) C hiX7_comes 0 (r_at0 a cI cJ cZ σ) rfl 2 (by decide) lkX7_comes_13 (r_fl2 a σ) dX7_comes_21 ?_
    refine j_icmp_lt (pc := 24) C 29 dX7_comes_24 (by decide) (fun z_15 => ?_) (fun z_15 => ?_)
    · have hw := hw.1 z_15
      refine j_aload_n (pc := 29) C dX7_comes_29 0 rfl rfl ?_
      refine j_get (ref := RX7) (pc := 30) C hiX7_comes 0 (r_at0 a cI cJ cZ σ) rfl 10 (by decide) lkX7_comes_22 (r_fl10 a σ) dX7_comes_30 ?_
      refine j_aload_n (pc := 33) C dX7_comes_33 0 rfl rfl ?_
      refine j_get (ref := RX7) (pc := 34) C hiX7_comes 0 (r_at0 a cI cJ cZ σ) rfl 8 (by decide) lkX7_comes_156 (r_fl8 a σ) dX7_comes_34 ?_
      refine j_iload_n (pc := 37) C dX7_comes_37 1 rfl rfl ?_
      obtain ⟨h_16, hw⟩ := hw
      refine j_iast (pc := 38) C 1 0 (r_at10 a cI cJ cZ σ) rfl h_16 dX7_comes_38 (j_ws (r_s10 a cI cJ cZ σ (σ.1 0 8).toNatClampNeg x1) ?_)
      refine j_nmS (F := rcells a cI cJ cZ) (fun s_17 es_17 => ?_)
      have hw := hw s_17 es_17
      refine j_aload_n (pc := 39) C dX7_comes_39 0 rfl rfl ?_
      refine j_get (ref := RX7) (pc := 40) C hiX7_comes 0 (r_at0 a cI cJ cZ s_17) rfl 11 (by decide) lkX7_comes_26 (r_fl11 a s_17) dX7_comes_40 ?_
      refine j_aload_n (pc := 43) C dX7_comes_43 0 rfl rfl ?_
      refine j_get (ref := RX7) (pc := 44) C hiX7_comes 0 (r_at0 a cI cJ cZ s_17) rfl 8 (by decide) lkX7_comes_156 (r_fl8 a s_17) dX7_comes_44 ?_
      refine j_iload_n (pc := 47) C dX7_comes_47 2 rfl rfl ?_
      obtain ⟨h_18, hw⟩ := hw
      refine j_iast (pc := 48) C 2 0 (r_at11 a cI cJ cZ s_17) rfl h_18 dX7_comes_48 (j_ws (r_s11 a cI cJ cZ s_17 (s_17.1 0 8).toNatClampNeg x2) ?_)
      refine j_nmS (F := rcells a cI cJ cZ) (fun s_19 es_19 => ?_)
      have hw := hw s_19 es_19
      refine j_aload_n (pc := 49) C dX7_comes_49 0 rfl rfl ?_
      refine j_dup (pc := 50) C dX7_comes_50 rfl ?_
      refine j_get (ref := RX7) (pc := 51) C hiX7_comes 0 (r_at0 a cI cJ cZ s_19) rfl 8 (by decide) lkX7_comes_156 (r_fl8 a s_19) dX7_comes_51 ?_
      refine j_iconst (pc := 54) (v := 1) C dX7_comes_54 (by decide) ?_
      refine j_iadd (pc := 55) C dX7_comes_55 ?_
      refine j_topi (fun v_20 ev_20 => ?_)
      have hw := hw v_20 ev_20
      refine j_put (pc := 56) C hiX7_comes tyX7 tyX7_ok nmX7 0 (r_at0 a cI cJ cZ s_19) rfl 8 (by decide) lkX7_comes_156 rfl rfl rfl (Nat.le_of_ble_eq_true rfl) dX7_comes_56 (j_ws (r_s0_8 a cI cJ cZ s_19 v_20) ?_)
      refine j_nmS (F := rcells a cI cJ cZ) (fun s_21 es_21 => ?_)
      have hw := hw s_21 es_21
      refine j_aload_n (pc := 59) C dX7_comes_59 0 rfl rfl ?_
      refine j_aload_n (pc := 60) C dX7_comes_60 0 rfl rfl ?_
      refine j_get (ref := RX7) (pc := 61) C hiX7_comes 0 (r_at0 a cI cJ cZ s_21) rfl 8 (by decide) lkX7_comes_156 (r_fl8 a s_21) dX7_comes_61 ?_
      refine j_aload_n (pc := 64) C dX7_comes_64 0 rfl rfl ?_
      refine j_get (ref := RX7) (pc := 65) C hiX7_comes 0 (r_at0 a cI cJ cZ s_21) rfl 9 (by decide) lkX7_comes_159 (r_fl9 a s_21) dX7_comes_65 ?_
      refine j_icmp_le (pc := 68) C 78 dX7_comes_68 (by decide) (fun z_22 => ?_) (fun z_22 => ?_)
      · have hw := hw.1 z_22
        refine j_aload_n (pc := 78) C dX7_comes_78 0 rfl rfl ?_
        refine j_get (ref := RX7) (pc := 79) C hiX7_comes 0 (r_at0 a cI cJ cZ s_21) rfl 9 (by decide) lkX7_comes_159 (r_fl9 a s_21) dX7_comes_79 ?_
        refine j_sub [] rfl ?_
        exact kX7_comes_82 C hr hG _ _ hw
      · have hw := hw.2 z_22
        refine j_aload_n (pc := 71) C dX7_comes_71 0 rfl rfl ?_
        refine j_get (ref := RX7) (pc := 72) C hiX7_comes 0 (r_at0 a cI cJ cZ s_21) rfl 8 (by decide) lkX7_comes_156 (r_fl8 a s_21) dX7_comes_72 ?_
        refine j_goto (pc := 75) C 82 dX7_comes_75 (by decide) ?_
        refine j_sub [] rfl ?_
        exact kX7_comes_82 C hr hG _ _ hw
    · have hw := hw.2 z_15
      refine j_iconst (pc := 27) (v := 0) C dX7_comes_27 (by decide) ?_
      exact j_zret (pc := 28) C hr (by decide) σ rfl hw dX7_comes_28
  · have hw := hw.2 z_14
    refine j_aload_n (pc := 8) C dX7_comes_8 0 rfl rfl ?_
    refine j_iload_n (pc := 9) C dX7_comes_9 1 rfl rfl ?_
    refine j_iload_n (pc := 10) C dX7_comes_10 2 rfl rfl ?_
    refine j_callv0 (pc := 11) C jG0_ok trivial 2 (mX7_serves hw) gX7_comes_X7_serves rfl rfl rfl (by decide +kernel) ⟨by decide, by decide⟩ 0 (r_at0 a cI cJ cZ σ) rfl rfl rfl (Nat.le_of_ble_eq_true rfl) dX7_comes_11 ⟨Nat.le_refl _, Nat.le_refl _⟩ (fun s_24 hw => ?_)
    refine j_iconst (pc := 14) (v := 1) C dX7_comes_14 (by decide) ?_
    exact j_zret (pc := 15) C hr (by decide) s_24 rfl hw dX7_comes_15
def rmX7_placeOf : Room := { frames := 0, cells := 0, slots := 0, locals := 0 }
theorem hiX7_placeOf : ∀ w ∈ u_ws RX7 TX7 50, w ∈ wsX7_placeOf := fun w h => List.mem_cons_of_mem _ (List.mem_append_right _ h)
theorem lkX7_placeOf_35 : Cond.fieldLink yX7_placeOf.cls 35 (TX7 17).1 (TX7 17).2.1 (TX7 17).2.2.1 ∈ wsX7_placeOf := by decide +kernel
def wX7_placeOf_2 (N : Nat) : Nat → jRS → Int32 → Int32 → Int32 → (Int32 → jRS → Prop) → Prop
  | 0, _, _, _, _, _ => False
  | n + 1, σ, x1, x2, x3, post => vp_in ((512 * x1) + x3) 1024 ∧ (((σ.1 17 ((512 * x1) + x3).toNatClampNeg) = x2) → (post x3 σ)) ∧ ((¬ (σ.1 17 ((512 * x1) + x3).toNatClampNeg) = x2) → (∀ x3_6 : Int32, x3_6 = x3 + 1 → wX7_placeOf_2 N n σ x1 x2 x3_6 post))
set_option maxHeartbeats 4000000 in
set_option maxRecDepth 100000 in
theorem kX7_placeOf_2 {p : Program} {l : Launch} {e : Env} {s : State} {m : MethodId} {args : Array Value} {below : List Frame} {meth : Method} {c : Code} {D : va_G} {cI cJ cZ cO : ClassId} {a : Nat → Nat} {A : Nat → Prop} {N : Nat} {post : Int32 → jRS → Prop} (C : jC p s m args meth c cX7_placeOf 4 yX7_placeOf.cls wsX7_placeOf D (jT cI cJ cZ cO) A) (hr : meth.sig.returnType = (some .int)) (hG : jG0 A s) : ∀ (n : Nat) (σ : jRS) (x1 : Int32) (x2 : Int32) (x3 : Int32), wX7_placeOf_2 N n σ x1 x2 x3 post → jJ p l e rmX7_placeOf s m args below meth c 0 0 (MQ below (va_Qi post (jE D (jT cI cJ cZ cO) A (rcells a cI cJ cZ)) A) args s 0 0 A) D A 4 (rcells a cI cJ cZ σ) [(0, .ref (a 0)), (1, .int x1), (2, .int x2), (3, .int x3)] 2 [] := by
  intro n
  induction n with
  | zero =>
    intro σ x1 x2 x3 hw
    exact False.elim hw
  | succ n ih =>
    intro σ x1 x2 x3 hw
    unfold wX7_placeOf_2 at hw
    refine j_aload_n (pc := 2) C dX7_placeOf_2 0 rfl rfl ?_
    refine j_get (ref := RX7) (pc := 3) C hiX7_placeOf 0 (r_at0 a cI cJ cZ σ) rfl 17 (by decide) lkX7_placeOf_35 (r_fl17 a σ) dX7_placeOf_3 ?_
    refine j_sipush (pc := 6) (v := 512) C dX7_placeOf_6 (by decide) ?_
    refine j_iload_n (pc := 9) C dX7_placeOf_9 1 rfl rfl ?_
    refine j_imul (pc := 10) C dX7_placeOf_10 ?_
    refine j_iload_n (pc := 11) C dX7_placeOf_11 3 rfl rfl ?_
    refine j_iadd (pc := 12) C dX7_placeOf_12 ?_
    obtain ⟨h_4, hw⟩ := hw
    refine j_iald (pc := 13) C 5 0 (r_at17 a cI cJ cZ σ) rfl h_4 dX7_placeOf_13 ?_
    refine j_iload_n (pc := 14) C dX7_placeOf_14 2 rfl rfl ?_
    refine j_icmp_eq (pc := 15) C 24 dX7_placeOf_15 (by decide) (fun z_5 => ?_) (fun z_5 => ?_)
    · have hw := hw.1 z_5
      refine j_iload_n (pc := 24) C dX7_placeOf_24 3 rfl rfl ?_
      exact j_iret (pc := 25) C hr σ rfl hw dX7_placeOf_25
    · have hw := hw.2 z_5
      obtain ⟨x3_6, ex3_6⟩ : ∃ y : Int32, y = x3 + 1 := ⟨_, rfl⟩
      have hw := hw x3_6 ex3_6
      refine j_iinc (pc := 18) (v := x3_6) (lv' := [(0, .ref (a 0)), (1, .int x1), (2, .int x2), (3, .int x3_6)]) C [1, 2, 3, 0] 3 dX7_placeOf_18 rfl (by rw [ex3_6]; rfl) (by decide) rfl ?_
      refine j_goto (pc := 21) C 2 dX7_placeOf_21 (by decide) ?_
      exact ih _ _ _ _ hw
def wX7_placeOf (N : Nat) (σ : jRS) (x1 : Int32) (x2 : Int32) (post : Int32 → jRS → Prop) : Prop := wX7_placeOf_2 N N σ x1 x2 0 post
set_option maxHeartbeats 4000000 in
set_option maxRecDepth 100000 in
theorem mX7_placeOf {l : Launch} {D : va_G} {cI cJ cZ cO : ClassId} {a : Nat → Nat} {N : Nat} {σ : jRS} {x1 x2 : Int32} {post : Int32 → jRS → Prop} (hw : wX7_placeOf N σ x1 x2 post) : jMi l D (jT cI cJ cZ cO) jG0 yX7_placeOf wsX7_placeOf rmX7_placeOf [.ref (a 0), .int x1, .int x2] (rcells a cI cJ cZ σ) post (rcells a cI cJ cZ) 0 0 := by
  refine j_ofi (cc := cX7_placeOf) (maxL := 4) (ret := (some .int)) (by decide) rfl (Nat.le_of_ble_eq_true rfl) ?_
  intro p e s m args below meth c A C hr hnm hG
  refine j_sub (lv' := [(0, .ref (a 0)), (1, .int x1), (2, .int x2)]) [0, 1, 2] rfl ?_
  unfold wX7_placeOf at hw
  refine j_iconst (pc := 0) (v := 0) C dX7_placeOf_0 (by decide) ?_
  refine j_istore_n (pc := 1) (lv' := [(0, .ref (a 0)), (1, .int x1), (2, .int x2), (3, .int 0)]) C [1, 2, 3, 0] dX7_placeOf_1 rfl (by decide) rfl ?_
  exact kX7_placeOf_2 C hr hG N _ _ _ _ hw
def rmX7_takesOff : Room := { frames := 0, cells := 0, slots := 0, locals := 0 }
theorem hiX7_takesOff : ∀ w ∈ u_ws RX7 TX7 50, w ∈ wsX7_takesOff := fun w h => List.mem_cons_of_mem _ (List.mem_append_right _ h)
theorem lkX7_takesOff_32 : Cond.fieldLink yX7_takesOff.cls 32 (TX7 16).1 (TX7 16).2.1 (TX7 16).2.2.1 ∈ wsX7_takesOff := by decide +kernel
theorem lkX7_takesOff_35 : Cond.fieldLink yX7_takesOff.cls 35 (TX7 17).1 (TX7 17).2.1 (TX7 17).2.2.1 ∈ wsX7_takesOff := by decide +kernel
theorem lkX7_takesOff_38 : Cond.fieldLink yX7_takesOff.cls 38 (TX7 18).1 (TX7 18).2.1 (TX7 18).2.2.1 ∈ wsX7_takesOff := by decide +kernel
theorem lkX7_takesOff_41 : Cond.fieldLink yX7_takesOff.cls 41 (TX7 19).1 (TX7 19).2.1 (TX7 19).2.2.1 ∈ wsX7_takesOff := by decide +kernel
theorem lkX7_takesOff_44 : Cond.fieldLink yX7_takesOff.cls 44 (TX7 20).1 (TX7 20).2.1 (TX7 20).2.2.1 ∈ wsX7_takesOff := by decide +kernel
theorem lkX7_takesOff_47 : Cond.fieldLink yX7_takesOff.cls 47 (TX7 21).1 (TX7 21).2.1 (TX7 21).2.2.1 ∈ wsX7_takesOff := by decide +kernel
theorem lkX7_takesOff_51 : Cond.fieldLink yX7_takesOff.cls 51 (TX7 22).1 (TX7 22).2.1 (TX7 22).2.2.1 ∈ wsX7_takesOff := by decide +kernel
def wX7_takesOff_12 (N : Nat) : Nat → jRS → Int32 → Int32 → (jRS → Prop) → Prop
  | 0, _, _, _, _ => False
  | n + 1, σ, x1, x3, post => vp_in x1 2 ∧ (((σ.1 16 x1.toNatClampNeg) ≤ x3) → (post σ)) ∧ ((¬ (σ.1 16 x1.toNatClampNeg) ≤ x3) → (∀ x4_35 : Int32, x4_35 = (512 * x1) + x3 → vp_in (x4_35 + 1) 1024 ∧ ∀ v_37 : Int32, v_37 = σ.1 17 (x4_35 + 1).toNatClampNeg → vp_in x4_35 1024 ∧ ∀ s_39 : jRS, s_39 = rP σ 17 x4_35.toNatClampNeg v_37 → vp_in (x4_35 + 1) 1024 ∧ ∀ v_41 : Int32, v_41 = s_39.1 18 (x4_35 + 1).toNatClampNeg → vp_in x4_35 1024 ∧ ∀ s_43 : jRS, s_43 = rP s_39 18 x4_35.toNatClampNeg v_41 → vp_in (x4_35 + 1) 1024 ∧ ∀ v_45 : Int32, v_45 = s_43.1 19 (x4_35 + 1).toNatClampNeg → vp_in x4_35 1024 ∧ ∀ s_47 : jRS, s_47 = rP s_43 19 x4_35.toNatClampNeg v_45 → vp_in (x4_35 + 1) 1024 ∧ ∀ v_49 : Int32, v_49 = s_47.1 20 (x4_35 + 1).toNatClampNeg → vp_in x4_35 1024 ∧ ∀ s_51 : jRS, s_51 = rP s_47 20 x4_35.toNatClampNeg v_49 → vp_in (x4_35 + 1) 1024 ∧ ∀ v_53 : Int32, v_53 = s_51.1 21 (x4_35 + 1).toNatClampNeg → vp_in x4_35 1024 ∧ ∀ s_55 : jRS, s_55 = rP s_51 21 x4_35.toNatClampNeg (vp_nar .boolean v_53) → vp_in (x4_35 + 1) 1024 ∧ ∀ v_57 : Int32, v_57 = s_55.1 22 (x4_35 + 1).toNatClampNeg → vp_in x4_35 1024 ∧ ∀ s_59 : jRS, s_59 = rP s_55 22 x4_35.toNatClampNeg v_57 → ∀ x3_60 : Int32, x3_60 = x3 + 1 → wX7_takesOff_12 N n s_59 x1 x3_60 post))
set_option maxHeartbeats 4000000 in
set_option maxRecDepth 100000 in
theorem kX7_takesOff_12 {p : Program} {l : Launch} {e : Env} {s : State} {m : MethodId} {args : Array Value} {below : List Frame} {meth : Method} {c : Code} {D : va_G} {cI cJ cZ cO : ClassId} {a : Nat → Nat} {A : Nat → Prop} {N : Nat} {post : jRS → Prop} (C : jC p s m args meth c cX7_takesOff 5 yX7_takesOff.cls wsX7_takesOff D (jT cI cJ cZ cO) A) (hr : meth.sig.returnType = none) (hG : jG0 A s) : ∀ (n : Nat) (σ : jRS) (x1 : Int32) (x3 : Int32), wX7_takesOff_12 N n σ x1 x3 post → jJ p l e rmX7_takesOff s m args below meth c 0 0 (MQ below (va_Qv post (jE D (jT cI cJ cZ cO) A (rcells a cI cJ cZ)) A) args s 0 0 A) D A 5 (rcells a cI cJ cZ σ) [(0, .ref (a 0)), (1, .int x1), (3, .int x3)] 12 [] := by
  intro n
  induction n with
  | zero =>
    intro σ x1 x3 hw
    exact False.elim hw
  | succ n ih =>
    intro σ x1 x3 hw
    unfold wX7_takesOff_12 at hw
    refine j_iload_n (pc := 12) C dX7_takesOff_12 2 rfl rfl ?_
    refine j_aload_n (pc := 13) C dX7_takesOff_13 0 rfl rfl ?_
    refine j_get (ref := RX7) (pc := 14) C hiX7_takesOff 0 (r_at0 a cI cJ cZ σ) rfl 16 (by decide) lkX7_takesOff_32 (r_fl16 a σ) dX7_takesOff_14 ?_
    refine j_iload_n (pc := 17) C dX7_takesOff_17 1 rfl rfl ?_
    obtain ⟨h_33, hw⟩ := hw
    refine j_iald (pc := 18) C 4 0 (r_at16 a cI cJ cZ σ) rfl h_33 dX7_takesOff_18 ?_
    refine j_icmp_ge (pc := 19) C 133 dX7_takesOff_19 (by decide) (fun z_34 => ?_) (fun z_34 => ?_)
    · have hw := hw.1 z_34
      exact j_vret (pc := 133) C hr σ rfl hw dX7_takesOff_133
    · have hw := hw.2 z_34
      refine j_sipush (pc := 22) (v := 512) C dX7_takesOff_22 (by decide) ?_
      refine j_iload_n (pc := 25) C dX7_takesOff_25 1 rfl rfl ?_
      refine j_imul (pc := 26) C dX7_takesOff_26 ?_
      refine j_iload_n (pc := 27) C dX7_takesOff_27 2 rfl rfl ?_
      refine j_iadd (pc := 28) C dX7_takesOff_28 ?_
      refine j_topi (fun x4_35 ex4_35 => ?_)
      have hw := hw x4_35 ex4_35
      refine j_istore (pc := 29) (lv' := [(0, .ref (a 0)), (1, .int x1), (3, .int x3), (4, .int x4_35)]) C [1, 2, 3, 0] dX7_takesOff_29 (by decide) rfl ?_
      refine j_aload_n (pc := 31) C dX7_takesOff_31 0 rfl rfl ?_
      refine j_get (ref := RX7) (pc := 32) C hiX7_takesOff 0 (r_at0 a cI cJ cZ σ) rfl 17 (by decide) lkX7_takesOff_35 (r_fl17 a σ) dX7_takesOff_32 ?_
      refine j_iload (pc := 35) C dX7_takesOff_35 3 rfl ?_
      refine j_aload_n (pc := 37) C dX7_takesOff_37 0 rfl rfl ?_
      refine j_get (ref := RX7) (pc := 38) C hiX7_takesOff 0 (r_at0 a cI cJ cZ σ) rfl 17 (by decide) lkX7_takesOff_35 (r_fl17 a σ) dX7_takesOff_38 ?_
      refine j_iload (pc := 41) C dX7_takesOff_41 3 rfl ?_
      refine j_iconst (pc := 43) (v := 1) C dX7_takesOff_43 (by decide) ?_
      refine j_iadd (pc := 44) C dX7_takesOff_44 ?_
      obtain ⟨h_36, hw⟩ := hw
      refine j_iald (pc := 45) C 5 0 (r_at17 a cI cJ cZ σ) rfl h_36 dX7_takesOff_45 ?_
      refine j_topi (fun v_37 ev_37 => ?_)
      have hw := hw v_37 ev_37
      obtain ⟨h_38, hw⟩ := hw
      refine j_iast (pc := 46) C 5 0 (r_at17 a cI cJ cZ σ) rfl h_38 dX7_takesOff_46 (j_ws (r_s17 a cI cJ cZ σ x4_35.toNatClampNeg v_37) ?_)
      refine j_nmS (F := rcells a cI cJ cZ) (fun s_39 es_39 => ?_)
      have hw := hw s_39 es_39
      refine j_aload_n (pc := 47) C dX7_takesOff_47 0 rfl rfl ?_
      refine j_get (ref := RX7) (pc := 48) C hiX7_takesOff 0 (r_at0 a cI cJ cZ s_39) rfl 18 (by decide) lkX7_takesOff_38 (r_fl18 a s_39) dX7_takesOff_48 ?_
      refine j_iload (pc := 51) C dX7_takesOff_51 3 rfl ?_
      refine j_aload_n (pc := 53) C dX7_takesOff_53 0 rfl rfl ?_
      refine j_get (ref := RX7) (pc := 54) C hiX7_takesOff 0 (r_at0 a cI cJ cZ s_39) rfl 18 (by decide) lkX7_takesOff_38 (r_fl18 a s_39) dX7_takesOff_54 ?_
      refine j_iload (pc := 57) C dX7_takesOff_57 3 rfl ?_
      refine j_iconst (pc := 59) (v := 1) C dX7_takesOff_59 (by decide) ?_
      refine j_iadd (pc := 60) C dX7_takesOff_60 ?_
      obtain ⟨h_40, hw⟩ := hw
      refine j_iald (pc := 61) C 6 0 (r_at18 a cI cJ cZ s_39) rfl h_40 dX7_takesOff_61 ?_
      refine j_topi (fun v_41 ev_41 => ?_)
      have hw := hw v_41 ev_41
      obtain ⟨h_42, hw⟩ := hw
      refine j_iast (pc := 62) C 6 0 (r_at18 a cI cJ cZ s_39) rfl h_42 dX7_takesOff_62 (j_ws (r_s18 a cI cJ cZ s_39 x4_35.toNatClampNeg v_41) ?_)
      refine j_nmS (F := rcells a cI cJ cZ) (fun s_43 es_43 => ?_)
      have hw := hw s_43 es_43
      refine j_aload_n (pc := 63) C dX7_takesOff_63 0 rfl rfl ?_
      refine j_get (ref := RX7) (pc := 64) C hiX7_takesOff 0 (r_at0 a cI cJ cZ s_43) rfl 19 (by decide) lkX7_takesOff_41 (r_fl19 a s_43) dX7_takesOff_64 ?_
      refine j_iload (pc := 67) C dX7_takesOff_67 3 rfl ?_
      refine j_aload_n (pc := 69) C dX7_takesOff_69 0 rfl rfl ?_
      refine j_get (ref := RX7) (pc := 70) C hiX7_takesOff 0 (r_at0 a cI cJ cZ s_43) rfl 19 (by decide) lkX7_takesOff_41 (r_fl19 a s_43) dX7_takesOff_70 ?_
      refine j_iload (pc := 73) C dX7_takesOff_73 3 rfl ?_
      refine j_iconst (pc := 75) (v := 1) C dX7_takesOff_75 (by decide) ?_
      refine j_iadd (pc := 76) C dX7_takesOff_76 ?_
      obtain ⟨h_44, hw⟩ := hw
      refine j_iald (pc := 77) C 7 0 (r_at19 a cI cJ cZ s_43) rfl h_44 dX7_takesOff_77 ?_
      refine j_topi (fun v_45 ev_45 => ?_)
      have hw := hw v_45 ev_45
      obtain ⟨h_46, hw⟩ := hw
      refine j_iast (pc := 78) C 7 0 (r_at19 a cI cJ cZ s_43) rfl h_46 dX7_takesOff_78 (j_ws (r_s19 a cI cJ cZ s_43 x4_35.toNatClampNeg v_45) ?_)
      refine j_nmS (F := rcells a cI cJ cZ) (fun s_47 es_47 => ?_)
      have hw := hw s_47 es_47
      refine j_aload_n (pc := 79) C dX7_takesOff_79 0 rfl rfl ?_
      refine j_get (ref := RX7) (pc := 80) C hiX7_takesOff 0 (r_at0 a cI cJ cZ s_47) rfl 20 (by decide) lkX7_takesOff_44 (r_fl20 a s_47) dX7_takesOff_80 ?_
      refine j_iload (pc := 83) C dX7_takesOff_83 3 rfl ?_
      refine j_aload_n (pc := 85) C dX7_takesOff_85 0 rfl rfl ?_
      refine j_get (ref := RX7) (pc := 86) C hiX7_takesOff 0 (r_at0 a cI cJ cZ s_47) rfl 20 (by decide) lkX7_takesOff_44 (r_fl20 a s_47) dX7_takesOff_86 ?_
      refine j_iload (pc := 89) C dX7_takesOff_89 3 rfl ?_
      refine j_iconst (pc := 91) (v := 1) C dX7_takesOff_91 (by decide) ?_
      refine j_iadd (pc := 92) C dX7_takesOff_92 ?_
      obtain ⟨h_48, hw⟩ := hw
      refine j_iald (pc := 93) C 8 0 (r_at20 a cI cJ cZ s_47) rfl h_48 dX7_takesOff_93 ?_
      refine j_topi (fun v_49 ev_49 => ?_)
      have hw := hw v_49 ev_49
      obtain ⟨h_50, hw⟩ := hw
      refine j_iast (pc := 94) C 8 0 (r_at20 a cI cJ cZ s_47) rfl h_50 dX7_takesOff_94 (j_ws (r_s20 a cI cJ cZ s_47 x4_35.toNatClampNeg v_49) ?_)
      refine j_nmS (F := rcells a cI cJ cZ) (fun s_51 es_51 => ?_)
      have hw := hw s_51 es_51
      refine j_aload_n (pc := 95) C dX7_takesOff_95 0 rfl rfl ?_
      refine j_get (ref := RX7) (pc := 96) C hiX7_takesOff 0 (r_at0 a cI cJ cZ s_51) rfl 21 (by decide) lkX7_takesOff_47 (r_fl21 a s_51) dX7_takesOff_96 ?_
      refine j_iload (pc := 99) C dX7_takesOff_99 3 rfl ?_
      refine j_aload_n (pc := 101) C dX7_takesOff_101 0 rfl rfl ?_
      refine j_get (ref := RX7) (pc := 102) C hiX7_takesOff 0 (r_at0 a cI cJ cZ s_51) rfl 21 (by decide) lkX7_takesOff_47 (r_fl21 a s_51) dX7_takesOff_102 ?_
      refine j_iload (pc := 105) C dX7_takesOff_105 3 rfl ?_
      refine j_iconst (pc := 107) (v := 1) C dX7_takesOff_107 (by decide) ?_
      refine j_iadd (pc := 108) C dX7_takesOff_108 ?_
      obtain ⟨h_52, hw⟩ := hw
      refine j_zald (pc := 109) C 9 2 (r_at21 a cI cJ cZ s_51) rfl h_52 dX7_takesOff_109 ?_
      refine j_topi (fun v_53 ev_53 => ?_)
      have hw := hw v_53 ev_53
      obtain ⟨h_54, hw⟩ := hw
      refine j_zast (pc := 110) C 9 2 (r_at21 a cI cJ cZ s_51) rfl h_54 dX7_takesOff_110 (j_ws (r_s21 a cI cJ cZ s_51 x4_35.toNatClampNeg (vp_nar .boolean v_53)) ?_)
      refine j_nmS (F := rcells a cI cJ cZ) (fun s_55 es_55 => ?_)
      have hw := hw s_55 es_55
      refine j_aload_n (pc := 111) C dX7_takesOff_111 0 rfl rfl ?_
      refine j_get (ref := RX7) (pc := 112) C hiX7_takesOff 0 (r_at0 a cI cJ cZ s_55) rfl 22 (by decide) lkX7_takesOff_51 (r_fl22 a s_55) dX7_takesOff_112 ?_
      refine j_iload (pc := 115) C dX7_takesOff_115 3 rfl ?_
      refine j_aload_n (pc := 117) C dX7_takesOff_117 0 rfl rfl ?_
      refine j_get (ref := RX7) (pc := 118) C hiX7_takesOff 0 (r_at0 a cI cJ cZ s_55) rfl 22 (by decide) lkX7_takesOff_51 (r_fl22 a s_55) dX7_takesOff_118 ?_
      refine j_iload (pc := 121) C dX7_takesOff_121 3 rfl ?_
      refine j_iconst (pc := 123) (v := 1) C dX7_takesOff_123 (by decide) ?_
      refine j_iadd (pc := 124) C dX7_takesOff_124 ?_
      obtain ⟨h_56, hw⟩ := hw
      refine j_iald (pc := 125) C 10 0 (r_at22 a cI cJ cZ s_55) rfl h_56 dX7_takesOff_125 ?_
      refine j_topi (fun v_57 ev_57 => ?_)
      have hw := hw v_57 ev_57
      obtain ⟨h_58, hw⟩ := hw
      refine j_iast (pc := 126) C 10 0 (r_at22 a cI cJ cZ s_55) rfl h_58 dX7_takesOff_126 (j_ws (r_s22 a cI cJ cZ s_55 x4_35.toNatClampNeg v_57) ?_)
      refine j_nmS (F := rcells a cI cJ cZ) (fun s_59 es_59 => ?_)
      have hw := hw s_59 es_59
      obtain ⟨x3_60, ex3_60⟩ : ∃ y : Int32, y = x3 + 1 := ⟨_, rfl⟩
      have hw := hw x3_60 ex3_60
      refine j_iinc (pc := 127) (v := x3_60) (lv' := [(0, .ref (a 0)), (1, .int x1), (3, .int x3_60), (4, .int x4_35)]) C [1, 2, 0, 3] 2 dX7_takesOff_127 rfl (by rw [ex3_60]; rfl) (by decide) rfl ?_
      refine j_goto (pc := 130) C 12 dX7_takesOff_130 (by decide) ?_
      refine j_sub [0, 1, 2] rfl ?_
      exact ih _ _ _ hw
def wX7_takesOff (N : Nat) (σ : jRS) (x1 : Int32) (x2 : Int32) (post : jRS → Prop) : Prop := vp_in x1 2 ∧ ∀ v_62 : Int32, v_62 = (σ.1 16 x1.toNatClampNeg) - 1 → vp_in x1 2 ∧ ∀ s_64 : jRS, s_64 = rP σ 16 x1.toNatClampNeg v_62 → wX7_takesOff_12 N N s_64 x1 x2 post
set_option maxHeartbeats 4000000 in
set_option maxRecDepth 100000 in
theorem mX7_takesOff {l : Launch} {D : va_G} {cI cJ cZ cO : ClassId} {a : Nat → Nat} {N : Nat} {σ : jRS} {x1 x2 : Int32} {post : jRS → Prop} (hw : wX7_takesOff N σ x1 x2 post) : jMv l D (jT cI cJ cZ cO) jG0 yX7_takesOff wsX7_takesOff rmX7_takesOff [.ref (a 0), .int x1, .int x2] (rcells a cI cJ cZ σ) post (rcells a cI cJ cZ) 0 0 := by
  refine j_ofv (cc := cX7_takesOff) (maxL := 5) (ret := none) (by decide) rfl (Nat.le_of_ble_eq_true rfl) ?_
  intro p e s m args below meth c A C hr hnm hG
  refine j_sub (lv' := [(0, .ref (a 0)), (1, .int x1), (2, .int x2)]) [0, 1, 2] rfl ?_
  unfold wX7_takesOff at hw
  refine j_aload_n (pc := 0) C dX7_takesOff_0 0 rfl rfl ?_
  refine j_get (ref := RX7) (pc := 1) C hiX7_takesOff 0 (r_at0 a cI cJ cZ σ) rfl 16 (by decide) lkX7_takesOff_32 (r_fl16 a σ) dX7_takesOff_1 ?_
  refine j_iload_n (pc := 4) C dX7_takesOff_4 1 rfl rfl ?_
  refine j_dup2 (pc := 5) C dX7_takesOff_5 rfl rfl ?_
  obtain ⟨h_61, hw⟩ := hw
  refine j_iald (pc := 6) C 4 0 (r_at16 a cI cJ cZ σ) rfl h_61 dX7_takesOff_6 ?_
  refine j_iconst (pc := 7) (v := 1) C dX7_takesOff_7 (by decide) ?_
  refine j_isub (pc := 8) C dX7_takesOff_8 ?_
  refine j_topi (fun v_62 ev_62 => ?_)
  have hw := hw v_62 ev_62
  obtain ⟨h_63, hw⟩ := hw
  refine j_iast (pc := 9) C 4 0 (r_at16 a cI cJ cZ σ) rfl h_63 dX7_takesOff_9 (j_ws (r_s16 a cI cJ cZ σ x1.toNatClampNeg v_62) ?_)
  refine j_nmS (F := rcells a cI cJ cZ) (fun s_64 es_64 => ?_)
  have hw := hw s_64 es_64
  refine j_iload_n (pc := 10) C dX7_takesOff_10 2 rfl rfl ?_
  refine j_istore_n (pc := 11) (lv' := [(0, .ref (a 0)), (1, .int x1), (2, .int x2), (3, .int x2)]) C [1, 2, 3, 0] dX7_takesOff_11 rfl (by decide) rfl ?_
  refine j_sub [0, 1, 3] rfl ?_
  exact kX7_takesOff_12 C hr hG N _ _ _ hw
def rmX7_gate : Room := { frames := 1, cells := 0, slots := 0, locals := 22 }
theorem hiX7_gate : ∀ w ∈ u_ws RX7 TX7 50, w ∈ wsX7_gate := fun w h => List.mem_cons_of_mem _ (List.mem_append_right _ h)
theorem lkX7_gate_7 : Cond.fieldLink yX7_gate.cls 7 (TX7 1).1 (TX7 1).2.1 (TX7 1).2.2.1 ∈ wsX7_gate := by decide +kernel
theorem lkX7_gate_13 : Cond.fieldLink yX7_gate.cls 13 (TX7 2).1 (TX7 2).2.1 (TX7 2).2.2.1 ∈ wsX7_gate := by decide +kernel
theorem lkX7_gate_16 : Cond.fieldLink yX7_gate.cls 16 (TX7 3).1 (TX7 3).2.1 (TX7 3).2.2.1 ∈ wsX7_gate := by decide +kernel
def wX7_gate (N : Nat) (σ : jRS) (x1 : Int32) (x2 : Int32) (x3 : Int32) (post : Int32 → jRS → Prop) : Prop := ∀ r_10 : Int32, r_10 = jwithin x1 1 40 → ((r_10 = 0) → (post ((-2)) σ)) ∧ ((¬ r_10 = 0) → (∀ r_12 : Int32, r_12 = jwithin x2 1 60 → ((r_12 = 0) → (post ((-2)) σ)) ∧ ((¬ r_12 = 0) → (∀ r_14 : Int32, r_14 = jwithin x3 1 200 → ((¬ r_14 = 0) → (∀ s_16 : jRS, s_16 = rP σ 0 1 x1 → ∀ s_17 : jRS, s_17 = rP s_16 0 2 x2 → ∀ s_18 : jRS, s_18 = rP s_17 0 3 x3 → post 1 s_18)) ∧ ((r_14 = 0) → (post ((-2)) σ))))))
set_option maxHeartbeats 4000000 in
set_option maxRecDepth 100000 in
theorem mX7_gate {l : Launch} {D : va_G} {cI cJ cZ cO : ClassId} {a : Nat → Nat} {N : Nat} {σ : jRS} {x1 x2 x3 : Int32} {post : Int32 → jRS → Prop} (hw : wX7_gate N σ x1 x2 x3 post) : jMi l D (jT cI cJ cZ cO) jG0 yX7_gate wsX7_gate rmX7_gate [.ref (a 0), .int x1, .int x2, .int x3] (rcells a cI cJ cZ σ) post (rcells a cI cJ cZ) 0 0 := by
  refine j_ofi (cc := cX7_gate) (maxL := 4) (ret := (some .int)) (by decide) rfl (Nat.le_of_ble_eq_true rfl) ?_
  intro p e s m args below meth c A C hr hnm hG
  refine j_sub (lv' := [(0, .ref (a 0)), (1, .int x1), (2, .int x2), (3, .int x3)]) [0, 1, 2, 3] rfl ?_
  unfold wX7_gate at hw
  refine j_iload_n (pc := 0) C dX7_gate_0 1 rfl rfl ?_
  refine j_iconst (pc := 1) (v := 1) C dX7_gate_1 (by decide) ?_
  refine j_bipush (pc := 2) (v := 40) C dX7_gate_2 (by decide) ?_
  refine j_scalli (pc := 4) C 3 (mX7_within x1 1 40) gX7_gate_X7_within rfl rfl rfl (by decide +kernel) ⟨by decide, by decide⟩ rfl rfl (Nat.le_of_ble_eq_true rfl) dX7_gate_4 ⟨Nat.le_refl _, Nat.le_refl _⟩ (fun r_10 er_10 => ?_)
  have hw := hw r_10 er_10
  refine j_if_eq (pc := 7) C 31 dX7_gate_7 (by decide) (fun z_11 => ?_) (fun z_11 => ?_)
  · have hw := hw.1 z_11
    refine j_bipush (pc := 31) (v := (-2)) C dX7_gate_31 (by decide) ?_
    exact j_iret (pc := 33) C hr σ rfl hw dX7_gate_33
  · have hw := hw.2 z_11
    refine j_iload_n (pc := 10) C dX7_gate_10 2 rfl rfl ?_
    refine j_iconst (pc := 11) (v := 1) C dX7_gate_11 (by decide) ?_
    refine j_bipush (pc := 12) (v := 60) C dX7_gate_12 (by decide) ?_
    refine j_scalli (pc := 14) C 3 (mX7_within x2 1 60) gX7_gate_X7_within rfl rfl rfl (by decide +kernel) ⟨by decide, by decide⟩ rfl rfl (Nat.le_of_ble_eq_true rfl) dX7_gate_14 ⟨Nat.le_refl _, Nat.le_refl _⟩ (fun r_12 er_12 => ?_)
    have hw := hw r_12 er_12
    refine j_if_eq (pc := 17) C 31 dX7_gate_17 (by decide) (fun z_13 => ?_) (fun z_13 => ?_)
    · have hw := hw.1 z_13
      refine j_bipush (pc := 31) (v := (-2)) C dX7_gate_31 (by decide) ?_
      exact j_iret (pc := 33) C hr σ rfl hw dX7_gate_33
    · have hw := hw.2 z_13
      refine j_iload_n (pc := 20) C dX7_gate_20 3 rfl rfl ?_
      refine j_iconst (pc := 21) (v := 1) C dX7_gate_21 (by decide) ?_
      refine j_sipush (pc := 22) (v := 200) C dX7_gate_22 (by decide) ?_
      refine j_scalli (pc := 25) C 3 (mX7_within x3 1 200) gX7_gate_X7_within rfl rfl rfl (by decide +kernel) ⟨by decide, by decide⟩ rfl rfl (Nat.le_of_ble_eq_true rfl) dX7_gate_25 ⟨Nat.le_refl _, Nat.le_refl _⟩ (fun r_14 er_14 => ?_)
      have hw := hw r_14 er_14
      refine j_if_ne (pc := 28) C 34 dX7_gate_28 (by decide) (fun z_15 => ?_) (fun z_15 => ?_)
      · have hw := hw.1 z_15
        refine j_aload_n (pc := 34) C dX7_gate_34 0 rfl rfl ?_
        refine j_iload_n (pc := 35) C dX7_gate_35 1 rfl rfl ?_
        refine j_put (pc := 36) C hiX7_gate tyX7 tyX7_ok nmX7 0 (r_at0 a cI cJ cZ σ) rfl 1 (by decide) lkX7_gate_7 rfl rfl rfl (Nat.le_of_ble_eq_true rfl) dX7_gate_36 (j_ws (r_s0_1 a cI cJ cZ σ x1) ?_)
        refine j_nmS (F := rcells a cI cJ cZ) (fun s_16 es_16 => ?_)
        have hw := hw s_16 es_16
        refine j_aload_n (pc := 39) C dX7_gate_39 0 rfl rfl ?_
        refine j_iload_n (pc := 40) C dX7_gate_40 2 rfl rfl ?_
        refine j_put (pc := 41) C hiX7_gate tyX7 tyX7_ok nmX7 0 (r_at0 a cI cJ cZ s_16) rfl 2 (by decide) lkX7_gate_13 rfl rfl rfl (Nat.le_of_ble_eq_true rfl) dX7_gate_41 (j_ws (r_s0_2 a cI cJ cZ s_16 x2) ?_)
        refine j_nmS (F := rcells a cI cJ cZ) (fun s_17 es_17 => ?_)
        have hw := hw s_17 es_17
        refine j_aload_n (pc := 44) C dX7_gate_44 0 rfl rfl ?_
        refine j_iload_n (pc := 45) C dX7_gate_45 3 rfl rfl ?_
        refine j_put (pc := 46) C hiX7_gate tyX7 tyX7_ok nmX7 0 (r_at0 a cI cJ cZ s_17) rfl 3 (by decide) lkX7_gate_16 rfl rfl rfl (Nat.le_of_ble_eq_true rfl) dX7_gate_46 (j_ws (r_s0_3 a cI cJ cZ s_17 x3) ?_)
        refine j_nmS (F := rcells a cI cJ cZ) (fun s_18 es_18 => ?_)
        have hw := hw s_18 es_18
        refine j_iconst (pc := 49) (v := 1) C dX7_gate_49 (by decide) ?_
        exact j_iret (pc := 50) C hr s_18 rfl hw dX7_gate_50
      · have hw := hw.2 z_15
        refine j_bipush (pc := 31) (v := (-2)) C dX7_gate_31 (by decide) ?_
        exact j_iret (pc := 33) C hr σ rfl hw dX7_gate_33
def rmX7_guests : Room := { frames := 1, cells := 0, slots := 0, locals := 22 }
theorem hiX7_guests : ∀ w ∈ u_ws RX7 TX7 50, w ∈ wsX7_guests := fun w h => List.mem_cons_of_mem _ (List.mem_append_right _ h)
theorem lkX7_guests_140 : Cond.fieldLink yX7_guests.cls 140 (TX7 4).1 (TX7 4).2.1 (TX7 4).2.2.1 ∈ wsX7_guests := by decide +kernel
def wX7_guests (N : Nat) (σ : jRS) (x1 : Int32) (post : Int32 → jRS → Prop) : Prop := ∀ r_5 : Int32, r_5 = jwithin x1 0 200 → ((¬ r_5 = 0) → (∀ x2_7 : Int32, x2_7 = σ.1 0 4 → ∀ s_8 : jRS, s_8 = rP σ 0 4 x1 → post x2_7 s_8)) ∧ ((r_5 = 0) → (post ((-2)) σ))
set_option maxHeartbeats 4000000 in
set_option maxRecDepth 100000 in
theorem mX7_guests {l : Launch} {D : va_G} {cI cJ cZ cO : ClassId} {a : Nat → Nat} {N : Nat} {σ : jRS} {x1 : Int32} {post : Int32 → jRS → Prop} (hw : wX7_guests N σ x1 post) : jMi l D (jT cI cJ cZ cO) jG0 yX7_guests wsX7_guests rmX7_guests [.ref (a 0), .int x1] (rcells a cI cJ cZ σ) post (rcells a cI cJ cZ) 0 0 := by
  refine j_ofi (cc := cX7_guests) (maxL := 3) (ret := (some .int)) (by decide) rfl (Nat.le_of_ble_eq_true rfl) ?_
  intro p e s m args below meth c A C hr hnm hG
  refine j_sub (lv' := [(0, .ref (a 0)), (1, .int x1)]) [0, 1] rfl ?_
  unfold wX7_guests at hw
  refine j_iload_n (pc := 0) C dX7_guests_0 1 rfl rfl ?_
  refine j_iconst (pc := 1) (v := 0) C dX7_guests_1 (by decide) ?_
  refine j_sipush (pc := 2) (v := 200) C dX7_guests_2 (by decide) ?_
  refine j_scalli (pc := 5) C 3 (mX7_within x1 0 200) gX7_guests_X7_within rfl rfl rfl (by decide +kernel) ⟨by decide, by decide⟩ rfl rfl (Nat.le_of_ble_eq_true rfl) dX7_guests_5 ⟨Nat.le_refl _, Nat.le_refl _⟩ (fun r_5 er_5 => ?_)
  have hw := hw r_5 er_5
  refine j_if_ne (pc := 8) C 14 dX7_guests_8 (by decide) (fun z_6 => ?_) (fun z_6 => ?_)
  · have hw := hw.1 z_6
    refine j_aload_n (pc := 14) C dX7_guests_14 0 rfl rfl ?_
    refine j_get (ref := RX7) (pc := 15) C hiX7_guests 0 (r_at0 a cI cJ cZ σ) rfl 4 (by decide) lkX7_guests_140 (r_fl4 a σ) dX7_guests_15 ?_
    refine j_topi (fun x2_7 ex2_7 => ?_)
    have hw := hw x2_7 ex2_7
    refine j_istore_n (pc := 18) (lv' := [(0, .ref (a 0)), (1, .int x1), (2, .int x2_7)]) C [1, 2, 0] dX7_guests_18 rfl (by decide) rfl ?_
    refine j_aload_n (pc := 19) C dX7_guests_19 0 rfl rfl ?_
    refine j_iload_n (pc := 20) C dX7_guests_20 1 rfl rfl ?_
    refine j_put (pc := 21) C hiX7_guests tyX7 tyX7_ok nmX7 0 (r_at0 a cI cJ cZ σ) rfl 4 (by decide) lkX7_guests_140 rfl rfl rfl (Nat.le_of_ble_eq_true rfl) dX7_guests_21 (j_ws (r_s0_4 a cI cJ cZ σ x1) ?_)
    refine j_nmS (F := rcells a cI cJ cZ) (fun s_8 es_8 => ?_)
    have hw := hw s_8 es_8
    refine j_iload_n (pc := 24) C dX7_guests_24 2 rfl rfl ?_
    exact j_iret (pc := 25) C hr s_8 rfl hw dX7_guests_25
  · have hw := hw.2 z_6
    refine j_bipush (pc := 11) (v := (-2)) C dX7_guests_11 (by decide) ?_
    exact j_iret (pc := 13) C hr σ rfl hw dX7_guests_13
end
