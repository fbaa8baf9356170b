section
/-! began as PART A of the skeleton and the printed names -/
/-- a private method of a class that the tables say can be made, by its rows of tables_1 -/
def lw_okq (q : MethodName × Nat) : Prop := (q.1.cls ≠ "java/lang/invoke/MethodHandle" ∧ q.1.cls ≠ "java/lang/invoke/VarHandle") ∧ Cond.instantiable q.1.cls q.2 ∈ tables_1 ∧ Cond.privateMethod q.1 ∈ tables_1 ∧ Cond.instanceMethod q.1 ∈ tables_1
theorem lw_p0 : lw_okq (⟨"MarkedSteps$Machine", "isWalked", "()Z"⟩, 16) := ⟨⟨by decide +kernel, by decide +kernel⟩, List.mem_of_getElem? (i := 24) (by decide +kernel), List.mem_of_getElem? (i := 286) (by decide +kernel), List.mem_of_getElem? (i := 287) (by decide +kernel)⟩
theorem lw_p1 : lw_okq (⟨"MarkedSteps$Machine", "lacksMember", "(I)Z"⟩, 16) := ⟨⟨by decide +kernel, by decide +kernel⟩, List.mem_of_getElem? (i := 24) (by decide +kernel), List.mem_of_getElem? (i := 294) (by decide +kernel), List.mem_of_getElem? (i := 295) (by decide +kernel)⟩
theorem lw_p2 : lw_okq (⟨"MarkedSteps$Member", "addAct", "(IIII)I"⟩, 12) := ⟨⟨by decide +kernel, by decide +kernel⟩, List.mem_of_getElem? (i := 95) (by decide +kernel), List.mem_of_getElem? (i := 308) (by decide +kernel), List.mem_of_getElem? (i := 309) (by decide +kernel)⟩
theorem lw_p3 : lw_okq (⟨"MarkedSteps$Member", "addHandler", "(IIII)I"⟩, 12) := ⟨⟨by decide +kernel, by decide +kernel⟩, List.mem_of_getElem? (i := 95) (by decide +kernel), List.mem_of_getElem? (i := 316) (by decide +kernel), List.mem_of_getElem? (i := 317) (by decide +kernel)⟩
theorem lw_p4 : lw_okq (⟨"MarkedSteps$Verifier", "leastActThatLooksAtUnset", "(LMarkedSteps$Machine;LMarkedSteps$Member;)I"⟩, 1) := ⟨⟨by decide +kernel, by decide +kernel⟩, List.mem_of_getElem? (i := 257) (by decide +kernel), List.mem_of_getElem? (i := 332) (by decide +kernel), List.mem_of_getElem? (i := 333) (by decide +kernel)⟩
theorem lw_p5 : lw_okq (⟨"MarkedSteps$Verifier", "comeTo", "(LMarkedSteps$Member;II)Z"⟩, 1) := ⟨⟨by decide +kernel, by decide +kernel⟩, List.mem_of_getElem? (i := 257) (by decide +kernel), List.mem_of_getElem? (i := 336) (by decide +kernel), List.mem_of_getElem? (i := 337) (by decide +kernel)⟩
theorem lw_p6 : lw_okq (⟨"MarkedSteps$Verifier", "passOver", "(LMarkedSteps$Member;)Z"⟩, 1) := ⟨⟨by decide +kernel, by decide +kernel⟩, List.mem_of_getElem? (i := 257) (by decide +kernel), List.mem_of_getElem? (i := 340) (by decide +kernel), List.mem_of_getElem? (i := 341) (by decide +kernel)⟩
theorem lw_p7 : lw_okq (⟨"MarkedSteps$Verifier", "goOn", "(LMarkedSteps$Member;I)Z"⟩, 1) := ⟨⟨by decide +kernel, by decide +kernel⟩, List.mem_of_getElem? (i := 257) (by decide +kernel), List.mem_of_getElem? (i := 344) (by decide +kernel), List.mem_of_getElem? (i := 345) (by decide +kernel)⟩
theorem lw_p8 : lw_okq (⟨"MarkedSteps$Verifier", "goToHandlers", "(LMarkedSteps$Member;I)Z"⟩, 1) := ⟨⟨by decide +kernel, by decide +kernel⟩, List.mem_of_getElem? (i := 257) (by decide +kernel), List.mem_of_getElem? (i := 349) (by decide +kernel), List.mem_of_getElem? (i := 350) (by decide +kernel)⟩
theorem lw_p9 : lw_okq (⟨"MarkedSteps$Member", "handlerHas", "(II)Z"⟩, 12) := ⟨⟨by decide +kernel, by decide +kernel⟩, List.mem_of_getElem? (i := 95) (by decide +kernel), List.mem_of_getElem? (i := 353) (by decide +kernel), List.mem_of_getElem? (i := 354) (by decide +kernel)⟩
theorem lw_p10 : lw_okq (⟨"MarkedSteps$Slot", "becomeNothing", "()V"⟩, 4) := ⟨⟨by decide +kernel, by decide +kernel⟩, List.mem_of_getElem? (i := 68) (by decide +kernel), List.mem_of_getElem? (i := 381) (by decide +kernel), List.mem_of_getElem? (i := 382) (by decide +kernel)⟩
theorem lw_p11 : lw_okq (⟨"MarkedSteps$Slot", "becomeNumber", "(I)V"⟩, 4) := ⟨⟨by decide +kernel, by decide +kernel⟩, List.mem_of_getElem? (i := 68) (by decide +kernel), List.mem_of_getElem? (i := 385) (by decide +kernel), List.mem_of_getElem? (i := 386) (by decide +kernel)⟩
theorem lw_p12 : lw_okq (⟨"MarkedSteps$Slot", "copy", "(LMarkedSteps$Slot;)V"⟩, 4) := ⟨⟨by decide +kernel, by decide +kernel⟩, List.mem_of_getElem? (i := 68) (by decide +kernel), List.mem_of_getElem? (i := 390) (by decide +kernel), List.mem_of_getElem? (i := 391) (by decide +kernel)⟩
theorem lw_p13 : lw_okq (⟨"MarkedSteps", "refusalToBegin", "(II)I"⟩, 3) := ⟨⟨by decide +kernel, by decide +kernel⟩, List.mem_of_getElem? (i := 16) (by decide +kernel), List.mem_of_getElem? (i := 398) (by decide +kernel), List.mem_of_getElem? (i := 399) (by decide +kernel)⟩
theorem lw_p14 : lw_okq (⟨"MarkedSteps$Machine", "begin", "(II[LMarkedSteps$Slot;)I"⟩, 16) := ⟨⟨by decide +kernel, by decide +kernel⟩, List.mem_of_getElem? (i := 24) (by decide +kernel), List.mem_of_getElem? (i := 402) (by decide +kernel), List.mem_of_getElem? (i := 403) (by decide +kernel)⟩
theorem lw_p15 : lw_okq (⟨"MarkedSteps$Purse", "open", "(I)V"⟩, 4) := ⟨⟨by decide +kernel, by decide +kernel⟩, List.mem_of_getElem? (i := 32) (by decide +kernel), List.mem_of_getElem? (i := 406) (by decide +kernel), List.mem_of_getElem? (i := 407) (by decide +kernel)⟩
def lw_privs_1 : List (MethodName × Nat) := [(⟨"MarkedSteps$Machine", "isWalked", "()Z"⟩, 16), (⟨"MarkedSteps$Machine", "lacksMember", "(I)Z"⟩, 16), (⟨"MarkedSteps$Member", "addAct", "(IIII)I"⟩, 12), (⟨"MarkedSteps$Member", "addHandler", "(IIII)I"⟩, 12), (⟨"MarkedSteps$Verifier", "leastActThatLooksAtUnset", "(LMarkedSteps$Machine;LMarkedSteps$Member;)I"⟩, 1), (⟨"MarkedSteps$Verifier", "comeTo", "(LMarkedSteps$Member;II)Z"⟩, 1), (⟨"MarkedSteps$Verifier", "passOver", "(LMarkedSteps$Member;)Z"⟩, 1), (⟨"MarkedSteps$Verifier", "goOn", "(LMarkedSteps$Member;I)Z"⟩, 1), (⟨"MarkedSteps$Verifier", "goToHandlers", "(LMarkedSteps$Member;I)Z"⟩, 1), (⟨"MarkedSteps$Member", "handlerHas", "(II)Z"⟩, 12), (⟨"MarkedSteps$Slot", "becomeNothing", "()V"⟩, 4), (⟨"MarkedSteps$Slot", "becomeNumber", "(I)V"⟩, 4), (⟨"MarkedSteps$Slot", "copy", "(LMarkedSteps$Slot;)V"⟩, 4), (⟨"MarkedSteps", "refusalToBegin", "(II)I"⟩, 3), (⟨"MarkedSteps$Machine", "begin", "(II[LMarkedSteps$Slot;)I"⟩, 16), (⟨"MarkedSteps$Purse", "open", "(I)V"⟩, 4)]
theorem lw_r1 : ∀ q ∈ lw_privs_1, lw_okq q := List.forall_mem_cons.mpr ⟨lw_p0, List.forall_mem_cons.mpr ⟨lw_p1, List.forall_mem_cons.mpr ⟨lw_p2, List.forall_mem_cons.mpr ⟨lw_p3, List.forall_mem_cons.mpr ⟨lw_p4, List.forall_mem_cons.mpr ⟨lw_p5, List.forall_mem_cons.mpr ⟨lw_p6, List.forall_mem_cons.mpr ⟨lw_p7, List.forall_mem_cons.mpr ⟨lw_p8, List.forall_mem_cons.mpr ⟨lw_p9, List.forall_mem_cons.mpr ⟨lw_p10, List.forall_mem_cons.mpr ⟨lw_p11, List.forall_mem_cons.mpr ⟨lw_p12, List.forall_mem_cons.mpr ⟨lw_p13, List.forall_mem_cons.mpr ⟨lw_p14, List.forall_mem_cons.mpr ⟨lw_p15, fun _ h => absurd h List.not_mem_nil⟩⟩⟩⟩⟩⟩⟩⟩⟩⟩⟩⟩⟩⟩⟩⟩
theorem lw_p16 : lw_okq (⟨"MarkedSteps$Machine", "beginFrame", "(I[LMarkedSteps$Slot;I)Z"⟩, 16) := ⟨⟨by decide +kernel, by decide +kernel⟩, List.mem_of_getElem? (i := 24) (by decide +kernel), List.mem_of_getElem? (i := 414) (by decide +kernel), List.mem_of_getElem? (i := 415) (by decide +kernel)⟩
theorem lw_p17 : lw_okq (⟨"MarkedSteps$Purse", "paysFor", "(I)Z"⟩, 4) := ⟨⟨by decide +kernel, by decide +kernel⟩, List.mem_of_getElem? (i := 32) (by decide +kernel), List.mem_of_getElem? (i := 418) (by decide +kernel), List.mem_of_getElem? (i := 419) (by decide +kernel)⟩
theorem lw_p18 : lw_okq (⟨"MarkedSteps$Purse", "takes", "(J)Z"⟩, 4) := ⟨⟨by decide +kernel, by decide +kernel⟩, List.mem_of_getElem? (i := 32) (by decide +kernel), List.mem_of_getElem? (i := 422) (by decide +kernel), List.mem_of_getElem? (i := 423) (by decide +kernel)⟩
theorem lw_p19 : lw_okq (⟨"MarkedSteps$Frame", "begin", "(LMarkedSteps$Member;I[LMarkedSteps$Slot;I)V"⟩, 7) := ⟨⟨by decide +kernel, by decide +kernel⟩, List.mem_of_getElem? (i := 156) (by decide +kernel), List.mem_of_getElem? (i := 426) (by decide +kernel), List.mem_of_getElem? (i := 427) (by decide +kernel)⟩
theorem lw_p20 : lw_okq (⟨"MarkedSteps$Machine", "keepTrace", "(I)V"⟩, 16) := ⟨⟨by decide +kernel, by decide +kernel⟩, List.mem_of_getElem? (i := 24) (by decide +kernel), List.mem_of_getElem? (i := 435) (by decide +kernel), List.mem_of_getElem? (i := 436) (by decide +kernel)⟩
theorem lw_p21 : lw_okq (⟨"MarkedSteps$Machine", "endFramesBehindTheirActs", "()I"⟩, 16) := ⟨⟨by decide +kernel, by decide +kernel⟩, List.mem_of_getElem? (i := 24) (by decide +kernel), List.mem_of_getElem? (i := 439) (by decide +kernel), List.mem_of_getElem? (i := 440) (by decide +kernel)⟩
theorem lw_p22 : lw_okq (⟨"MarkedSteps$Machine", "top", "()LMarkedSteps$Frame;"⟩, 16) := ⟨⟨by decide +kernel, by decide +kernel⟩, List.mem_of_getElem? (i := 24) (by decide +kernel), List.mem_of_getElem? (i := 443) (by decide +kernel), List.mem_of_getElem? (i := 444) (by decide +kernel)⟩
theorem lw_p23 : lw_okq (⟨"MarkedSteps$Frame", "isBehindItsActs", "()Z"⟩, 7) := ⟨⟨by decide +kernel, by decide +kernel⟩, List.mem_of_getElem? (i := 156) (by decide +kernel), List.mem_of_getElem? (i := 447) (by decide +kernel), List.mem_of_getElem? (i := 448) (by decide +kernel)⟩
theorem lw_p24 : lw_okq (⟨"MarkedSteps$Machine", "endFrame", "()V"⟩, 16) := ⟨⟨by decide +kernel, by decide +kernel⟩, List.mem_of_getElem? (i := 24) (by decide +kernel), List.mem_of_getElem? (i := 451) (by decide +kernel), List.mem_of_getElem? (i := 452) (by decide +kernel)⟩
theorem lw_p25 : lw_okq (⟨"MarkedSteps$Monitors", "leaveAll", "(LMarkedSteps$Frame;)V"⟩, 1) := ⟨⟨by decide +kernel, by decide +kernel⟩, List.mem_of_getElem? (i := 56) (by decide +kernel), List.mem_of_getElem? (i := 455) (by decide +kernel), List.mem_of_getElem? (i := 456) (by decide +kernel)⟩
theorem lw_p26 : lw_okq (⟨"MarkedSteps$Frame", "takeGiven", "(LMarkedSteps$Slot;)V"⟩, 7) := ⟨⟨by decide +kernel, by decide +kernel⟩, List.mem_of_getElem? (i := 156) (by decide +kernel), List.mem_of_getElem? (i := 459) (by decide +kernel), List.mem_of_getElem? (i := 460) (by decide +kernel)⟩
theorem lw_p27 : lw_okq (⟨"MarkedSteps$Frame", "named", "(I)LMarkedSteps$Slot;"⟩, 7) := ⟨⟨by decide +kernel, by decide +kernel⟩, List.mem_of_getElem? (i := 156) (by decide +kernel), List.mem_of_getElem? (i := 464) (by decide +kernel), List.mem_of_getElem? (i := 465) (by decide +kernel)⟩
theorem lw_p28 : lw_okq (⟨"MarkedSteps$Machine", "stop", "()I"⟩, 16) := ⟨⟨by decide +kernel, by decide +kernel⟩, List.mem_of_getElem? (i := 24) (by decide +kernel), List.mem_of_getElem? (i := 469) (by decide +kernel), List.mem_of_getElem? (i := 470) (by decide +kernel)⟩
theorem lw_p29 : lw_okq (⟨"MarkedSteps$Machine", "doActs", "(I)I"⟩, 16) := ⟨⟨by decide +kernel, by decide +kernel⟩, List.mem_of_getElem? (i := 24) (by decide +kernel), List.mem_of_getElem? (i := 474) (by decide +kernel), List.mem_of_getElem? (i := 475) (by decide +kernel)⟩
theorem lw_p30 : lw_okq (⟨"MarkedSteps$Machine", "doOneAct", "()I"⟩, 16) := ⟨⟨by decide +kernel, by decide +kernel⟩, List.mem_of_getElem? (i := 24) (by decide +kernel), List.mem_of_getElem? (i := 478) (by decide +kernel), List.mem_of_getElem? (i := 479) (by decide +kernel)⟩
theorem lw_p31 : lw_okq (⟨"MarkedSteps$Machine", "perform", "(LMarkedSteps$Frame;)I"⟩, 16) := ⟨⟨by decide +kernel, by decide +kernel⟩, List.mem_of_getElem? (i := 24) (by decide +kernel), List.mem_of_getElem? (i := 482) (by decide +kernel), List.mem_of_getElem? (i := 483) (by decide +kernel)⟩
def lw_privs_2 : List (MethodName × Nat) := [(⟨"MarkedSteps$Machine", "beginFrame", "(I[LMarkedSteps$Slot;I)Z"⟩, 16), (⟨"MarkedSteps$Purse", "paysFor", "(I)Z"⟩, 4), (⟨"MarkedSteps$Purse", "takes", "(J)Z"⟩, 4), (⟨"MarkedSteps$Frame", "begin", "(LMarkedSteps$Member;I[LMarkedSteps$Slot;I)V"⟩, 7), (⟨"MarkedSteps$Machine", "keepTrace", "(I)V"⟩, 16), (⟨"MarkedSteps$Machine", "endFramesBehindTheirActs", "()I"⟩, 16), (⟨"MarkedSteps$Machine", "top", "()LMarkedSteps$Frame;"⟩, 16), (⟨"MarkedSteps$Frame", "isBehindItsActs", "()Z"⟩, 7), (⟨"MarkedSteps$Machine", "endFrame", "()V"⟩, 16), (⟨"MarkedSteps$Monitors", "leaveAll", "(LMarkedSteps$Frame;)V"⟩, 1), (⟨"MarkedSteps$Frame", "takeGiven", "(LMarkedSteps$Slot;)V"⟩, 7), (⟨"MarkedSteps$Frame", "named", "(I)LMarkedSteps$Slot;"⟩, 7), (⟨"MarkedSteps$Machine", "stop", "()I"⟩, 16), (⟨"MarkedSteps$Machine", "doActs", "(I)I"⟩, 16), (⟨"MarkedSteps$Machine", "doOneAct", "()I"⟩, 16), (⟨"MarkedSteps$Machine", "perform", "(LMarkedSteps$Frame;)I"⟩, 16)]
theorem lw_r2 : ∀ q ∈ lw_privs_2, lw_okq q := List.forall_mem_cons.mpr ⟨lw_p16, List.forall_mem_cons.mpr ⟨lw_p17, List.forall_mem_cons.mpr ⟨lw_p18, List.forall_mem_cons.mpr ⟨lw_p19, List.forall_mem_cons.mpr ⟨lw_p20, List.forall_mem_cons.mpr ⟨lw_p21, List.forall_mem_cons.mpr ⟨lw_p22, List.forall_mem_cons.mpr ⟨lw_p23, List.forall_mem_cons.mpr ⟨lw_p24, List.forall_mem_cons.mpr ⟨lw_p25, List.forall_mem_cons.mpr ⟨lw_p26, List.forall_mem_cons.mpr ⟨lw_p27, List.forall_mem_cons.mpr ⟨lw_p28, List.forall_mem_cons.mpr ⟨lw_p29, List.forall_mem_cons.mpr ⟨lw_p30, List.forall_mem_cons.mpr ⟨lw_p31, fun _ h => absurd h List.not_mem_nil⟩⟩⟩⟩⟩⟩⟩⟩⟩⟩⟩⟩⟩⟩⟩⟩
theorem lw_p32 : lw_okq (⟨"MarkedSteps$Slot", "isSameAs", "(LMarkedSteps$Slot;)Z"⟩, 4) := ⟨⟨by decide +kernel, by decide +kernel⟩, List.mem_of_getElem? (i := 68) (by decide +kernel), List.mem_of_getElem? (i := 488) (by decide +kernel), List.mem_of_getElem? (i := 489) (by decide +kernel)⟩
theorem lw_p33 : lw_okq (⟨"MarkedSteps$Machine", "goTo", "(LMarkedSteps$Frame;I)I"⟩, 16) := ⟨⟨by decide +kernel, by decide +kernel⟩, List.mem_of_getElem? (i := 24) (by decide +kernel), List.mem_of_getElem? (i := 492) (by decide +kernel), List.mem_of_getElem? (i := 493) (by decide +kernel)⟩
theorem lw_p34 : lw_okq (⟨"MarkedSteps$Machine", "branch", "(LMarkedSteps$Frame;LMarkedSteps$Slot;I)I"⟩, 16) := ⟨⟨by decide +kernel, by decide +kernel⟩, List.mem_of_getElem? (i := 24) (by decide +kernel), List.mem_of_getElem? (i := 496) (by decide +kernel), List.mem_of_getElem? (i := 497) (by decide +kernel)⟩
theorem lw_p35 : lw_okq (⟨"MarkedSteps$Slot", "misfitAsNumber", "()I"⟩, 4) := ⟨⟨by decide +kernel, by decide +kernel⟩, List.mem_of_getElem? (i := 68) (by decide +kernel), List.mem_of_getElem? (i := 500) (by decide +kernel), List.mem_of_getElem? (i := 501) (by decide +kernel)⟩
theorem lw_p36 : lw_okq (⟨"MarkedSteps$Slot", "misfit", "()I"⟩, 4) := ⟨⟨by decide +kernel, by decide +kernel⟩, List.mem_of_getElem? (i := 68) (by decide +kernel), List.mem_of_getElem? (i := 504) (by decide +kernel), List.mem_of_getElem? (i := 505) (by decide +kernel)⟩
theorem lw_p37 : lw_okq (⟨"MarkedSteps$Machine", "makeRow", "(LMarkedSteps$Slot;LMarkedSteps$Slot;I)I"⟩, 16) := ⟨⟨by decide +kernel, by decide +kernel⟩, List.mem_of_getElem? (i := 24) (by decide +kernel), List.mem_of_getElem? (i := 508) (by decide +kernel), List.mem_of_getElem? (i := 509) (by decide +kernel)⟩
theorem lw_p38 : lw_okq (⟨"MarkedSteps$Purse", "paysForRow", "(I)Z"⟩, 4) := ⟨⟨by decide +kernel, by decide +kernel⟩, List.mem_of_getElem? (i := 32) (by decide +kernel), List.mem_of_getElem? (i := 512) (by decide +kernel), List.mem_of_getElem? (i := 513) (by decide +kernel)⟩
theorem lw_p39 : lw_okq (⟨"MarkedSteps$Slot", "becomeRow", "(LMarkedSteps$Row;)V"⟩, 4) := ⟨⟨by decide +kernel, by decide +kernel⟩, List.mem_of_getElem? (i := 68) (by decide +kernel), List.mem_of_getElem? (i := 543) (by decide +kernel), List.mem_of_getElem? (i := 544) (by decide +kernel)⟩
theorem lw_p40 : lw_okq (⟨"MarkedSteps$Machine", "makeCell", "(LMarkedSteps$Slot;I)I"⟩, 16) := ⟨⟨by decide +kernel, by decide +kernel⟩, List.mem_of_getElem? (i := 24) (by decide +kernel), List.mem_of_getElem? (i := 547) (by decide +kernel), List.mem_of_getElem? (i := 548) (by decide +kernel)⟩
theorem lw_p41 : lw_okq (⟨"MarkedSteps$Slot", "becomeCell", "(LMarkedSteps$Cell;)V"⟩, 4) := ⟨⟨by decide +kernel, by decide +kernel⟩, List.mem_of_getElem? (i := 68) (by decide +kernel), List.mem_of_getElem? (i := 578) (by decide +kernel), List.mem_of_getElem? (i := 579) (by decide +kernel)⟩
theorem lw_p42 : lw_okq (⟨"MarkedSteps$Row", "misfitInCell", "(LMarkedSteps$Slot;)I"⟩, 4) := ⟨⟨by decide +kernel, by decide +kernel⟩, List.mem_of_getElem? (i := 516) (by decide +kernel), List.mem_of_getElem? (i := 586) (by decide +kernel), List.mem_of_getElem? (i := 587) (by decide +kernel)⟩
theorem lw_p43 : lw_okq (⟨"MarkedSteps$Slot", "isNothing", "()Z"⟩, 4) := ⟨⟨by decide +kernel, by decide +kernel⟩, List.mem_of_getElem? (i := 68) (by decide +kernel), List.mem_of_getElem? (i := 591) (by decide +kernel), List.mem_of_getElem? (i := 592) (by decide +kernel)⟩
theorem lw_p44 : lw_okq (⟨"MarkedSteps$Row", "lacksCell", "(I)Z"⟩, 4) := ⟨⟨by decide +kernel, by decide +kernel⟩, List.mem_of_getElem? (i := 516) (by decide +kernel), List.mem_of_getElem? (i := 595) (by decide +kernel), List.mem_of_getElem? (i := 596) (by decide +kernel)⟩
theorem lw_p45 : lw_okq (⟨"MarkedSteps$Row", "copyFrom", "(LMarkedSteps$Slot;I)V"⟩, 4) := ⟨⟨by decide +kernel, by decide +kernel⟩, List.mem_of_getElem? (i := 516) (by decide +kernel), List.mem_of_getElem? (i := 599) (by decide +kernel), List.mem_of_getElem? (i := 600) (by decide +kernel)⟩
theorem lw_p46 : lw_okq (⟨"MarkedSteps$Row", "narrowed", "(I)I"⟩, 4) := ⟨⟨by decide +kernel, by decide +kernel⟩, List.mem_of_getElem? (i := 516) (by decide +kernel), List.mem_of_getElem? (i := 603) (by decide +kernel), List.mem_of_getElem? (i := 604) (by decide +kernel)⟩
theorem lw_p47 : lw_okq (⟨"MarkedSteps$Row", "copyTo", "(LMarkedSteps$Slot;I)V"⟩, 4) := ⟨⟨by decide +kernel, by decide +kernel⟩, List.mem_of_getElem? (i := 516) (by decide +kernel), List.mem_of_getElem? (i := 611) (by decide +kernel), List.mem_of_getElem? (i := 612) (by decide +kernel)⟩
def lw_privs_3 : List (MethodName × Nat) := [(⟨"MarkedSteps$Slot", "isSameAs", "(LMarkedSteps$Slot;)Z"⟩, 4), (⟨"MarkedSteps$Machine", "goTo", "(LMarkedSteps$Frame;I)I"⟩, 16), (⟨"MarkedSteps$Machine", "branch", "(LMarkedSteps$Frame;LMarkedSteps$Slot;I)I"⟩, 16), (⟨"MarkedSteps$Slot", "misfitAsNumber", "()I"⟩, 4), (⟨"MarkedSteps$Slot", "misfit", "()I"⟩, 4), (⟨"MarkedSteps$Machine", "makeRow", "(LMarkedSteps$Slot;LMarkedSteps$Slot;I)I"⟩, 16), (⟨"MarkedSteps$Purse", "paysForRow", "(I)Z"⟩, 4), (⟨"MarkedSteps$Slot", "becomeRow", "(LMarkedSteps$Row;)V"⟩, 4), (⟨"MarkedSteps$Machine", "makeCell", "(LMarkedSteps$Slot;I)I"⟩, 16), (⟨"MarkedSteps$Slot", "becomeCell", "(LMarkedSteps$Cell;)V"⟩, 4), (⟨"MarkedSteps$Row", "misfitInCell", "(LMarkedSteps$Slot;)I"⟩, 4), (⟨"MarkedSteps$Slot", "isNothing", "()Z"⟩, 4), (⟨"MarkedSteps$Row", "lacksCell", "(I)Z"⟩, 4), (⟨"MarkedSteps$Row", "copyFrom", "(LMarkedSteps$Slot;I)V"⟩, 4), (⟨"MarkedSteps$Row", "narrowed", "(I)I"⟩, 4), (⟨"MarkedSteps$Row", "copyTo", "(LMarkedSteps$Slot;I)V"⟩, 4)]
theorem lw_r3 : ∀ q ∈ lw_privs_3, lw_okq q := List.forall_mem_cons.mpr ⟨lw_p32, List.forall_mem_cons.mpr ⟨lw_p33, List.forall_mem_cons.mpr ⟨lw_p34, List.forall_mem_cons.mpr ⟨lw_p35, List.forall_mem_cons.mpr ⟨lw_p36, List.forall_mem_cons.mpr ⟨lw_p37, List.forall_mem_cons.mpr ⟨lw_p38, List.forall_mem_cons.mpr ⟨lw_p39, List.forall_mem_cons.mpr ⟨lw_p40, List.forall_mem_cons.mpr ⟨lw_p41, List.forall_mem_cons.mpr ⟨lw_p42, List.forall_mem_cons.mpr ⟨lw_p43, List.forall_mem_cons.mpr ⟨lw_p44, List.forall_mem_cons.mpr ⟨lw_p45, List.forall_mem_cons.mpr ⟨lw_p46, List.forall_mem_cons.mpr ⟨lw_p47, fun _ h => absurd h List.not_mem_nil⟩⟩⟩⟩⟩⟩⟩⟩⟩⟩⟩⟩⟩⟩⟩⟩
theorem lw_p48 : lw_okq (⟨"MarkedSteps$Cell", "otherMark", "()I"⟩, 4) := ⟨⟨by decide +kernel, by decide +kernel⟩, List.mem_of_getElem? (i := 551) (by decide +kernel), List.mem_of_getElem? (i := 624) (by decide +kernel), List.mem_of_getElem? (i := 625) (by decide +kernel)⟩
theorem lw_p49 : lw_okq (⟨"MarkedSteps$Slot", "isOf", "(I)Z"⟩, 4) := ⟨⟨by decide +kernel, by decide +kernel⟩, List.mem_of_getElem? (i := 68) (by decide +kernel), List.mem_of_getElem? (i := 631) (by decide +kernel), List.mem_of_getElem? (i := 632) (by decide +kernel)⟩
theorem lw_p50 : lw_okq (⟨"MarkedSteps$Machine", "enter", "(LMarkedSteps$Frame;LMarkedSteps$Slot;)I"⟩, 16) := ⟨⟨by decide +kernel, by decide +kernel⟩, List.mem_of_getElem? (i := 24) (by decide +kernel), List.mem_of_getElem? (i := 637) (by decide +kernel), List.mem_of_getElem? (i := 638) (by decide +kernel)⟩
theorem lw_p51 : lw_okq (⟨"MarkedSteps$Monitors", "enter", "(LMarkedSteps$Frame;LMarkedSteps$Cell;)V"⟩, 1) := ⟨⟨by decide +kernel, by decide +kernel⟩, List.mem_of_getElem? (i := 56) (by decide +kernel), List.mem_of_getElem? (i := 641) (by decide +kernel), List.mem_of_getElem? (i := 642) (by decide +kernel)⟩
theorem lw_p52 : lw_okq (⟨"MarkedSteps$Monitors", "newHold", "(LMarkedSteps$Frame;LMarkedSteps$Cell;)LMarkedSteps$Hold;"⟩, 1) := ⟨⟨by decide +kernel, by decide +kernel⟩, List.mem_of_getElem? (i := 56) (by decide +kernel), List.mem_of_getElem? (i := 645) (by decide +kernel), List.mem_of_getElem? (i := 646) (by decide +kernel)⟩
theorem lw_p53 : lw_okq (⟨"MarkedSteps$Machine", "leave", "(LMarkedSteps$Frame;LMarkedSteps$Slot;)I"⟩, 16) := ⟨⟨by decide +kernel, by decide +kernel⟩, List.mem_of_getElem? (i := 24) (by decide +kernel), List.mem_of_getElem? (i := 673) (by decide +kernel), List.mem_of_getElem? (i := 674) (by decide +kernel)⟩
theorem lw_p54 : lw_okq (⟨"MarkedSteps$Monitors", "leave", "(LMarkedSteps$Frame;LMarkedSteps$Cell;)Z"⟩, 1) := ⟨⟨by decide +kernel, by decide +kernel⟩, List.mem_of_getElem? (i := 56) (by decide +kernel), List.mem_of_getElem? (i := 677) (by decide +kernel), List.mem_of_getElem? (i := 678) (by decide +kernel)⟩
theorem lw_p55 : lw_okq (⟨"MarkedSteps$Machine", "throwOwn", "(LMarkedSteps$Slot;)I"⟩, 16) := ⟨⟨by decide +kernel, by decide +kernel⟩, List.mem_of_getElem? (i := 24) (by decide +kernel), List.mem_of_getElem? (i := 681) (by decide +kernel), List.mem_of_getElem? (i := 682) (by decide +kernel)⟩
theorem lw_p56 : lw_okq (⟨"MarkedSteps$Machine", "call", "(LMarkedSteps$Frame;II)I"⟩, 16) := ⟨⟨by decide +kernel, by decide +kernel⟩, List.mem_of_getElem? (i := 24) (by decide +kernel), List.mem_of_getElem? (i := 685) (by decide +kernel), List.mem_of_getElem? (i := 686) (by decide +kernel)⟩
theorem lw_p57 : lw_okq (⟨"MarkedSteps$Frame", "give", "(LMarkedSteps$Slot;)V"⟩, 7) := ⟨⟨by decide +kernel, by decide +kernel⟩, List.mem_of_getElem? (i := 156) (by decide +kernel), List.mem_of_getElem? (i := 690) (by decide +kernel), List.mem_of_getElem? (i := 691) (by decide +kernel)⟩
theorem lw_p58 : lw_okq (⟨"MarkedSteps$Machine", "note", "(LMarkedSteps$Slot;LMarkedSteps$Slot;)I"⟩, 16) := ⟨⟨by decide +kernel, by decide +kernel⟩, List.mem_of_getElem? (i := 24) (by decide +kernel), List.mem_of_getElem? (i := 694) (by decide +kernel), List.mem_of_getElem? (i := 695) (by decide +kernel)⟩
theorem lw_p59 : lw_okq (⟨"MarkedSteps$Machine", "ask", "(LMarkedSteps$Slot;LMarkedSteps$Slot;)I"⟩, 16) := ⟨⟨by decide +kernel, by decide +kernel⟩, List.mem_of_getElem? (i := 24) (by decide +kernel), List.mem_of_getElem? (i := 702) (by decide +kernel), List.mem_of_getElem? (i := 703) (by decide +kernel)⟩
theorem lw_p60 : lw_okq (⟨"MarkedSteps$Machine", "weigh", "(LMarkedSteps$Slot;LMarkedSteps$Slot;)I"⟩, 16) := ⟨⟨by decide +kernel, by decide +kernel⟩, List.mem_of_getElem? (i := 24) (by decide +kernel), List.mem_of_getElem? (i := 706) (by decide +kernel), List.mem_of_getElem? (i := 707) (by decide +kernel)⟩
theorem lw_p61 : lw_okq (⟨"MarkedSteps$Cell", "bodiesOfWeight", "()I"⟩, 4) := ⟨⟨by decide +kernel, by decide +kernel⟩, List.mem_of_getElem? (i := 551) (by decide +kernel), List.mem_of_getElem? (i := 710) (by decide +kernel), List.mem_of_getElem? (i := 711) (by decide +kernel)⟩
theorem lw_p62 : lw_okq (⟨"MarkedSteps$Cell", "weight", "()I"⟩, 4) := ⟨⟨by decide +kernel, by decide +kernel⟩, List.mem_of_getElem? (i := 551) (by decide +kernel), List.mem_of_getElem? (i := 714) (by decide +kernel), List.mem_of_getElem? (i := 715) (by decide +kernel)⟩
theorem lw_p63 : lw_okq (⟨"MarkedSteps$Machine", "goToHandler", "(I)I"⟩, 16) := ⟨⟨by decide +kernel, by decide +kernel⟩, List.mem_of_getElem? (i := 24) (by decide +kernel), List.mem_of_getElem? (i := 721) (by decide +kernel), List.mem_of_getElem? (i := 722) (by decide +kernel)⟩
def lw_privs_4 : List (MethodName × Nat) := [(⟨"MarkedSteps$Cell", "otherMark", "()I"⟩, 4), (⟨"MarkedSteps$Slot", "isOf", "(I)Z"⟩, 4), (⟨"MarkedSteps$Machine", "enter", "(LMarkedSteps$Frame;LMarkedSteps$Slot;)I"⟩, 16), (⟨"MarkedSteps$Monitors", "enter", "(LMarkedSteps$Frame;LMarkedSteps$Cell;)V"⟩, 1), (⟨"MarkedSteps$Monitors", "newHold", "(LMarkedSteps$Frame;LMarkedSteps$Cell;)LMarkedSteps$Hold;"⟩, 1), (⟨"MarkedSteps$Machine", "leave", "(LMarkedSteps$Frame;LMarkedSteps$Slot;)I"⟩, 16), (⟨"MarkedSteps$Monitors", "leave", "(LMarkedSteps$Frame;LMarkedSteps$Cell;)Z"⟩, 1), (⟨"MarkedSteps$Machine", "throwOwn", "(LMarkedSteps$Slot;)I"⟩, 16), (⟨"MarkedSteps$Machine", "call", "(LMarkedSteps$Frame;II)I"⟩, 16), (⟨"MarkedSteps$Frame", "give", "(LMarkedSteps$Slot;)V"⟩, 7), (⟨"MarkedSteps$Machine", "note", "(LMarkedSteps$Slot;LMarkedSteps$Slot;)I"⟩, 16), (⟨"MarkedSteps$Machine", "ask", "(LMarkedSteps$Slot;LMarkedSteps$Slot;)I"⟩, 16), (⟨"MarkedSteps$Machine", "weigh", "(LMarkedSteps$Slot;LMarkedSteps$Slot;)I"⟩, 16), (⟨"MarkedSteps$Cell", "bodiesOfWeight", "()I"⟩, 4), (⟨"MarkedSteps$Cell", "weight", "()I"⟩, 4), (⟨"MarkedSteps$Machine", "goToHandler", "(I)I"⟩, 16)]
theorem lw_r4 : ∀ q ∈ lw_privs_4, lw_okq q := List.forall_mem_cons.mpr ⟨lw_p48, List.forall_mem_cons.mpr ⟨lw_p49, List.forall_mem_cons.mpr ⟨lw_p50, List.forall_mem_cons.mpr ⟨lw_p51, List.forall_mem_cons.mpr ⟨lw_p52, List.forall_mem_cons.mpr ⟨lw_p53, List.forall_mem_cons.mpr ⟨lw_p54, List.forall_mem_cons.mpr ⟨lw_p55, List.forall_mem_cons.mpr ⟨lw_p56, List.forall_mem_cons.mpr ⟨lw_p57, List.forall_mem_cons.mpr ⟨lw_p58, List.forall_mem_cons.mpr ⟨lw_p59, List.forall_mem_cons.mpr ⟨lw_p60, List.forall_mem_cons.mpr ⟨lw_p61, List.forall_mem_cons.mpr ⟨lw_p62, List.forall_mem_cons.mpr ⟨lw_p63, fun _ h => absurd h List.not_mem_nil⟩⟩⟩⟩⟩⟩⟩⟩⟩⟩⟩⟩⟩⟩⟩⟩
theorem lw_p64 : lw_okq (⟨"MarkedSteps$Member", "firstHandlerOf", "(II)I"⟩, 12) := ⟨⟨by decide +kernel, by decide +kernel⟩, List.mem_of_getElem? (i := 95) (by decide +kernel), List.mem_of_getElem? (i := 725) (by decide +kernel), List.mem_of_getElem? (i := 726) (by decide +kernel)⟩
theorem lw_p65 : lw_okq (⟨"MarkedSteps$Machine", "beginHandler", "(LMarkedSteps$Frame;II)I"⟩, 16) := ⟨⟨by decide +kernel, by decide +kernel⟩, List.mem_of_getElem? (i := 24) (by decide +kernel), List.mem_of_getElem? (i := 730) (by decide +kernel), List.mem_of_getElem? (i := 731) (by decide +kernel)⟩
theorem lw_p66 : lw_okq (⟨"MarkedSteps$Slot", "measure", "()I"⟩, 4) := ⟨⟨by decide +kernel, by decide +kernel⟩, List.mem_of_getElem? (i := 68) (by decide +kernel), List.mem_of_getElem? (i := 738) (by decide +kernel), List.mem_of_getElem? (i := 739) (by decide +kernel)⟩
theorem lw_p67 : lw_okq (⟨"MarkedSteps$Cell", "timesHeld", "()I"⟩, 4) := ⟨⟨by decide +kernel, by decide +kernel⟩, List.mem_of_getElem? (i := 551) (by decide +kernel), List.mem_of_getElem? (i := 742) (by decide +kernel), List.mem_of_getElem? (i := 743) (by decide +kernel)⟩
theorem lw_p68 : lw_okq (⟨"MarkedSteps$Machine", "holdings", "()I"⟩, 16) := ⟨⟨by decide +kernel, by decide +kernel⟩, List.mem_of_getElem? (i := 24) (by decide +kernel), List.mem_of_getElem? (i := 781) (by decide +kernel), List.mem_of_getElem? (i := 782) (by decide +kernel)⟩
theorem lw_p69 : lw_okq (⟨"MarkedStepsModel", "isMember", "(I)Z"⟩, 49) := ⟨⟨by decide +kernel, by decide +kernel⟩, List.mem_of_getElem? (i := 798) (by decide +kernel), List.mem_of_getElem? (i := 964) (by decide +kernel), List.mem_of_getElem? (i := 965) (by decide +kernel)⟩
theorem lw_p70 : lw_okq (⟨"MarkedStepsModel", "spread", "(II)V"⟩, 49) := ⟨⟨by decide +kernel, by decide +kernel⟩, List.mem_of_getElem? (i := 798) (by decide +kernel), List.mem_of_getElem? (i := 990) (by decide +kernel), List.mem_of_getElem? (i := 991) (by decide +kernel)⟩
theorem lw_p71 : lw_okq (⟨"MarkedStepsModel", "makes", "(I)I"⟩, 49) := ⟨⟨by decide +kernel, by decide +kernel⟩, List.mem_of_getElem? (i := 798) (by decide +kernel), List.mem_of_getElem? (i := 994) (by decide +kernel), List.mem_of_getElem? (i := 995) (by decide +kernel)⟩
theorem lw_p72 : lw_okq (⟨"MarkedStepsModel", "comes", "(II)V"⟩, 49) := ⟨⟨by decide +kernel, by decide +kernel⟩, List.mem_of_getElem? (i := 798) (by decide +kernel), List.mem_of_getElem? (i := 998) (by decide +kernel), List.mem_of_getElem? (i := 999) (by decide +kernel)⟩
theorem lw_p73 : lw_okq (⟨"MarkedStepsModel", "looked", "(I)I"⟩, 49) := ⟨⟨by decide +kernel, by decide +kernel⟩, List.mem_of_getElem? (i := 798) (by decide +kernel), List.mem_of_getElem? (i := 1002) (by decide +kernel), List.mem_of_getElem? (i := 1003) (by decide +kernel)⟩
theorem lw_p74 : lw_okq (⟨"MarkedStepsModel", "start", "(II)V"⟩, 49) := ⟨⟨by decide +kernel, by decide +kernel⟩, List.mem_of_getElem? (i := 798) (by decide +kernel), List.mem_of_getElem? (i := 1026) (by decide +kernel), List.mem_of_getElem? (i := 1027) (by decide +kernel)⟩
theorem lw_p75 : lw_okq (⟨"MarkedStepsModel", "begins", "(II)Z"⟩, 49) := ⟨⟨by decide +kernel, by decide +kernel⟩, List.mem_of_getElem? (i := 798) (by decide +kernel), List.mem_of_getElem? (i := 1030) (by decide +kernel), List.mem_of_getElem? (i := 1031) (by decide +kernel)⟩
theorem lw_p76 : lw_okq (⟨"MarkedStepsModel", "pays", "(J)Z"⟩, 49) := ⟨⟨by decide +kernel, by decide +kernel⟩, List.mem_of_getElem? (i := 798) (by decide +kernel), List.mem_of_getElem? (i := 1034) (by decide +kernel), List.mem_of_getElem? (i := 1035) (by decide +kernel)⟩
theorem lw_p77 : lw_okq (⟨"MarkedStepsModel", "traces", "(I)V"⟩, 49) := ⟨⟨by decide +kernel, by decide +kernel⟩, List.mem_of_getElem? (i := 798) (by decide +kernel), List.mem_of_getElem? (i := 1038) (by decide +kernel), List.mem_of_getElem? (i := 1039) (by decide +kernel)⟩
theorem lw_p78 : lw_okq (⟨"MarkedStepsModel", "stops", "()V"⟩, 49) := ⟨⟨by decide +kernel, by decide +kernel⟩, List.mem_of_getElem? (i := 798) (by decide +kernel), List.mem_of_getElem? (i := 1042) (by decide +kernel), List.mem_of_getElem? (i := 1043) (by decide +kernel)⟩
theorem lw_p79 : lw_okq (⟨"MarkedStepsModel", "release", "(I)V"⟩, 49) := ⟨⟨by decide +kernel, by decide +kernel⟩, List.mem_of_getElem? (i := 798) (by decide +kernel), List.mem_of_getElem? (i := 1046) (by decide +kernel), List.mem_of_getElem? (i := 1047) (by decide +kernel)⟩
def lw_privs_5 : List (MethodName × Nat) := [(⟨"MarkedSteps$Member", "firstHandlerOf", "(II)I"⟩, 12), (⟨"MarkedSteps$Machine", "beginHandler", "(LMarkedSteps$Frame;II)I"⟩, 16), (⟨"MarkedSteps$Slot", "measure", "()I"⟩, 4), (⟨"MarkedSteps$Cell", "timesHeld", "()I"⟩, 4), (⟨"MarkedSteps$Machine", "holdings", "()I"⟩, 16), (⟨"MarkedStepsModel", "isMember", "(I)Z"⟩, 49), (⟨"MarkedStepsModel", "spread", "(II)V"⟩, 49), (⟨"MarkedStepsModel", "makes", "(I)I"⟩, 49), (⟨"MarkedStepsModel", "comes", "(II)V"⟩, 49), (⟨"MarkedStepsModel", "looked", "(I)I"⟩, 49), (⟨"MarkedStepsModel", "start", "(II)V"⟩, 49), (⟨"MarkedStepsModel", "begins", "(II)Z"⟩, 49), (⟨"MarkedStepsModel", "pays", "(J)Z"⟩, 49), (⟨"MarkedStepsModel", "traces", "(I)V"⟩, 49), (⟨"MarkedStepsModel", "stops", "()V"⟩, 49), (⟨"MarkedStepsModel", "release", "(I)V"⟩, 49)]
theorem lw_r5 : ∀ q ∈ lw_privs_5, lw_okq q := List.forall_mem_cons.mpr ⟨lw_p64, List.forall_mem_cons.mpr ⟨lw_p65, List.forall_mem_cons.mpr ⟨lw_p66, List.forall_mem_cons.mpr ⟨lw_p67, List.forall_mem_cons.mpr ⟨lw_p68, List.forall_mem_cons.mpr ⟨lw_p69, List.forall_mem_cons.mpr ⟨lw_p70, List.forall_mem_cons.mpr ⟨lw_p71, List.forall_mem_cons.mpr ⟨lw_p72, List.forall_mem_cons.mpr ⟨lw_p73, List.forall_mem_cons.mpr ⟨lw_p74, List.forall_mem_cons.mpr ⟨lw_p75, List.forall_mem_cons.mpr ⟨lw_p76, List.forall_mem_cons.mpr ⟨lw_p77, List.forall_mem_cons.mpr ⟨lw_p78, List.forall_mem_cons.mpr ⟨lw_p79, fun _ h => absurd h List.not_mem_nil⟩⟩⟩⟩⟩⟩⟩⟩⟩⟩⟩⟩⟩⟩⟩⟩
theorem lw_p80 : lw_okq (⟨"MarkedStepsModel", "settle", "()V"⟩, 49) := ⟨⟨by decide +kernel, by decide +kernel⟩, List.mem_of_getElem? (i := 798) (by decide +kernel), List.mem_of_getElem? (i := 1050) (by decide +kernel), List.mem_of_getElem? (i := 1051) (by decide +kernel)⟩
theorem lw_p81 : lw_okq (⟨"MarkedStepsModel", "gives", "(II)V"⟩, 49) := ⟨⟨by decide +kernel, by decide +kernel⟩, List.mem_of_getElem? (i := 798) (by decide +kernel), List.mem_of_getElem? (i := 1054) (by decide +kernel), List.mem_of_getElem? (i := 1055) (by decide +kernel)⟩
theorem lw_p82 : lw_okq (⟨"MarkedStepsModel", "goOn", "()V"⟩, 49) := ⟨⟨by decide +kernel, by decide +kernel⟩, List.mem_of_getElem? (i := 798) (by decide +kernel), List.mem_of_getElem? (i := 1058) (by decide +kernel), List.mem_of_getElem? (i := 1059) (by decide +kernel)⟩
theorem lw_p83 : lw_okq (⟨"MarkedStepsModel", "does", "(I)I"⟩, 49) := ⟨⟨by decide +kernel, by decide +kernel⟩, List.mem_of_getElem? (i := 798) (by decide +kernel), List.mem_of_getElem? (i := 1062) (by decide +kernel), List.mem_of_getElem? (i := 1063) (by decide +kernel)⟩
theorem lw_p84 : lw_okq (⟨"MarkedStepsModel", "makes", "(II)V"⟩, 49) := ⟨⟨by decide +kernel, by decide +kernel⟩, List.mem_of_getElem? (i := 798) (by decide +kernel), List.mem_of_getElem? (i := 1066) (by decide +kernel), List.mem_of_getElem? (i := 1067) (by decide +kernel)⟩
theorem lw_p85 : lw_okq (⟨"MarkedStepsModel", "same", "()I"⟩, 49) := ⟨⟨by decide +kernel, by decide +kernel⟩, List.mem_of_getElem? (i := 798) (by decide +kernel), List.mem_of_getElem? (i := 1070) (by decide +kernel), List.mem_of_getElem? (i := 1071) (by decide +kernel)⟩
theorem lw_p86 : lw_okq (⟨"MarkedStepsModel", "value", "(I)I"⟩, 49) := ⟨⟨by decide +kernel, by decide +kernel⟩, List.mem_of_getElem? (i := 798) (by decide +kernel), List.mem_of_getElem? (i := 1074) (by decide +kernel), List.mem_of_getElem? (i := 1075) (by decide +kernel)⟩
theorem lw_p87 : lw_okq (⟨"MarkedStepsModel", "goes", "(I)I"⟩, 49) := ⟨⟨by decide +kernel, by decide +kernel⟩, List.mem_of_getElem? (i := 798) (by decide +kernel), List.mem_of_getElem? (i := 1078) (by decide +kernel), List.mem_of_getElem? (i := 1079) (by decide +kernel)⟩
theorem lw_p88 : lw_okq (⟨"MarkedStepsModel", "branch", "()I"⟩, 49) := ⟨⟨by decide +kernel, by decide +kernel⟩, List.mem_of_getElem? (i := 798) (by decide +kernel), List.mem_of_getElem? (i := 1082) (by decide +kernel), List.mem_of_getElem? (i := 1083) (by decide +kernel)⟩
theorem lw_p89 : lw_okq (⟨"MarkedStepsModel", "against", "(II)I"⟩, 49) := ⟨⟨by decide +kernel, by decide +kernel⟩, List.mem_of_getElem? (i := 798) (by decide +kernel), List.mem_of_getElem? (i := 1086) (by decide +kernel), List.mem_of_getElem? (i := 1087) (by decide +kernel)⟩
theorem lw_p90 : lw_okq (⟨"MarkedStepsModel", "newRow", "()I"⟩, 49) := ⟨⟨by decide +kernel, by decide +kernel⟩, List.mem_of_getElem? (i := 798) (by decide +kernel), List.mem_of_getElem? (i := 1090) (by decide +kernel), List.mem_of_getElem? (i := 1091) (by decide +kernel)⟩
theorem lw_p91 : lw_okq (⟨"MarkedStepsModel", "newCell", "()I"⟩, 49) := ⟨⟨by decide +kernel, by decide +kernel⟩, List.mem_of_getElem? (i := 798) (by decide +kernel), List.mem_of_getElem? (i := 1094) (by decide +kernel), List.mem_of_getElem? (i := 1095) (by decide +kernel)⟩
theorem lw_p92 : lw_okq (⟨"MarkedStepsModel", "put", "()I"⟩, 49) := ⟨⟨by decide +kernel, by decide +kernel⟩, List.mem_of_getElem? (i := 798) (by decide +kernel), List.mem_of_getElem? (i := 1098) (by decide +kernel), List.mem_of_getElem? (i := 1099) (by decide +kernel)⟩
theorem lw_p93 : lw_okq (⟨"MarkedStepsModel", "get", "()I"⟩, 49) := ⟨⟨by decide +kernel, by decide +kernel⟩, List.mem_of_getElem? (i := 798) (by decide +kernel), List.mem_of_getElem? (i := 1106) (by decide +kernel), List.mem_of_getElem? (i := 1107) (by decide +kernel)⟩
theorem lw_p94 : lw_okq (⟨"MarkedStepsModel", "length", "()I"⟩, 49) := ⟨⟨by decide +kernel, by decide +kernel⟩, List.mem_of_getElem? (i := 798) (by decide +kernel), List.mem_of_getElem? (i := 1110) (by decide +kernel), List.mem_of_getElem? (i := 1111) (by decide +kernel)⟩
theorem lw_p95 : lw_okq (⟨"MarkedStepsModel", "field", "()I"⟩, 49) := ⟨⟨by decide +kernel, by decide +kernel⟩, List.mem_of_getElem? (i := 798) (by decide +kernel), List.mem_of_getElem? (i := 1114) (by decide +kernel), List.mem_of_getElem? (i := 1115) (by decide +kernel)⟩
def lw_privs_6 : List (MethodName × Nat) := [(⟨"MarkedStepsModel", "settle", "()V"⟩, 49), (⟨"MarkedStepsModel", "gives", "(II)V"⟩, 49), (⟨"MarkedStepsModel", "goOn", "()V"⟩, 49), (⟨"MarkedStepsModel", "does", "(I)I"⟩, 49), (⟨"MarkedStepsModel", "makes", "(II)V"⟩, 49), (⟨"MarkedStepsModel", "same", "()I"⟩, 49), (⟨"MarkedStepsModel", "value", "(I)I"⟩, 49), (⟨"MarkedStepsModel", "goes", "(I)I"⟩, 49), (⟨"MarkedStepsModel", "branch", "()I"⟩, 49), (⟨"MarkedStepsModel", "against", "(II)I"⟩, 49), (⟨"MarkedStepsModel", "newRow", "()I"⟩, 49), (⟨"MarkedStepsModel", "newCell", "()I"⟩, 49), (⟨"MarkedStepsModel", "put", "()I"⟩, 49), (⟨"MarkedStepsModel", "get", "()I"⟩, 49), (⟨"MarkedStepsModel", "length", "()I"⟩, 49), (⟨"MarkedStepsModel", "field", "()I"⟩, 49)]
theorem lw_r6 : ∀ q ∈ lw_privs_6, lw_okq q := List.forall_mem_cons.mpr ⟨lw_p80, List.forall_mem_cons.mpr ⟨lw_p81, List.forall_mem_cons.mpr ⟨lw_p82, List.forall_mem_cons.mpr ⟨lw_p83, List.forall_mem_cons.mpr ⟨lw_p84, List.forall_mem_cons.mpr ⟨lw_p85, List.forall_mem_cons.mpr ⟨lw_p86, List.forall_mem_cons.mpr ⟨lw_p87, List.forall_mem_cons.mpr ⟨lw_p88, List.forall_mem_cons.mpr ⟨lw_p89, List.forall_mem_cons.mpr ⟨lw_p90, List.forall_mem_cons.mpr ⟨lw_p91, List.forall_mem_cons.mpr ⟨lw_p92, List.forall_mem_cons.mpr ⟨lw_p93, List.forall_mem_cons.mpr ⟨lw_p94, List.forall_mem_cons.mpr ⟨lw_p95, fun _ h => absurd h List.not_mem_nil⟩⟩⟩⟩⟩⟩⟩⟩⟩⟩⟩⟩⟩⟩⟩⟩
theorem lw_p96 : lw_okq (⟨"MarkedStepsModel", "fill", "()I"⟩, 49) := ⟨⟨by decide +kernel, by decide +kernel⟩, List.mem_of_getElem? (i := 798) (by decide +kernel), List.mem_of_getElem? (i := 1118) (by decide +kernel), List.mem_of_getElem? (i := 1119) (by decide +kernel)⟩
theorem lw_p97 : lw_okq (⟨"MarkedStepsModel", "isOf", "(III)Z"⟩, 49) := ⟨⟨by decide +kernel, by decide +kernel⟩, List.mem_of_getElem? (i := 798) (by decide +kernel), List.mem_of_getElem? (i := 1122) (by decide +kernel), List.mem_of_getElem? (i := 1123) (by decide +kernel)⟩
theorem lw_p98 : lw_okq (⟨"MarkedStepsModel", "kindOf", "(II)I"⟩, 49) := ⟨⟨by decide +kernel, by decide +kernel⟩, List.mem_of_getElem? (i := 798) (by decide +kernel), List.mem_of_getElem? (i := 1126) (by decide +kernel), List.mem_of_getElem? (i := 1127) (by decide +kernel)⟩
theorem lw_p99 : lw_okq (⟨"MarkedStepsModel", "monitor", "(Z)I"⟩, 49) := ⟨⟨by decide +kernel, by decide +kernel⟩, List.mem_of_getElem? (i := 798) (by decide +kernel), List.mem_of_getElem? (i := 1130) (by decide +kernel), List.mem_of_getElem? (i := 1131) (by decide +kernel)⟩
theorem lw_p100 : lw_okq (⟨"MarkedStepsModel", "call", "()I"⟩, 49) := ⟨⟨by decide +kernel, by decide +kernel⟩, List.mem_of_getElem? (i := 798) (by decide +kernel), List.mem_of_getElem? (i := 1134) (by decide +kernel), List.mem_of_getElem? (i := 1135) (by decide +kernel)⟩
theorem lw_p101 : lw_okq (⟨"MarkedStepsModel", "note", "()I"⟩, 49) := ⟨⟨by decide +kernel, by decide +kernel⟩, List.mem_of_getElem? (i := 798) (by decide +kernel), List.mem_of_getElem? (i := 1138) (by decide +kernel), List.mem_of_getElem? (i := 1139) (by decide +kernel)⟩
theorem lw_p102 : lw_okq (⟨"MarkedStepsModel", "ask", "()I"⟩, 49) := ⟨⟨by decide +kernel, by decide +kernel⟩, List.mem_of_getElem? (i := 798) (by decide +kernel), List.mem_of_getElem? (i := 1142) (by decide +kernel), List.mem_of_getElem? (i := 1143) (by decide +kernel)⟩
theorem lw_p103 : lw_okq (⟨"MarkedStepsModel", "weigh", "()I"⟩, 49) := ⟨⟨by decide +kernel, by decide +kernel⟩, List.mem_of_getElem? (i := 798) (by decide +kernel), List.mem_of_getElem? (i := 1146) (by decide +kernel), List.mem_of_getElem? (i := 1147) (by decide +kernel)⟩
theorem lw_p104 : lw_okq (⟨"MarkedStepsModel", "reckon", "(I)I"⟩, 49) := ⟨⟨by decide +kernel, by decide +kernel⟩, List.mem_of_getElem? (i := 798) (by decide +kernel), List.mem_of_getElem? (i := 1150) (by decide +kernel), List.mem_of_getElem? (i := 1151) (by decide +kernel)⟩
theorem lw_p105 : lw_okq (⟨"MarkedStepsModel", "againstBoth", "()I"⟩, 49) := ⟨⟨by decide +kernel, by decide +kernel⟩, List.mem_of_getElem? (i := 798) (by decide +kernel), List.mem_of_getElem? (i := 1154) (by decide +kernel), List.mem_of_getElem? (i := 1155) (by decide +kernel)⟩
theorem lw_p106 : lw_okq (⟨"MarkedStepsModel", "throwsIt", "(I)V"⟩, 49) := ⟨⟨by decide +kernel, by decide +kernel⟩, List.mem_of_getElem? (i := 798) (by decide +kernel), List.mem_of_getElem? (i := 1158) (by decide +kernel), List.mem_of_getElem? (i := 1159) (by decide +kernel)⟩
theorem lw_p107 : lw_okq (⟨"MarkedStepsModel", "toldOf", "(II)I"⟩, 49) := ⟨⟨by decide +kernel, by decide +kernel⟩, List.mem_of_getElem? (i := 798) (by decide +kernel), List.mem_of_getElem? (i := 1166) (by decide +kernel), List.mem_of_getElem? (i := 1167) (by decide +kernel)⟩
def lw_privs_7 : List (MethodName × Nat) := [(⟨"MarkedStepsModel", "fill", "()I"⟩, 49), (⟨"MarkedStepsModel", "isOf", "(III)Z"⟩, 49), (⟨"MarkedStepsModel", "kindOf", "(II)I"⟩, 49), (⟨"MarkedStepsModel", "monitor", "(Z)I"⟩, 49), (⟨"MarkedStepsModel", "call", "()I"⟩, 49), (⟨"MarkedStepsModel", "note", "()I"⟩, 49), (⟨"MarkedStepsModel", "ask", "()I"⟩, 49), (⟨"MarkedStepsModel", "weigh", "()I"⟩, 49), (⟨"MarkedStepsModel", "reckon", "(I)I"⟩, 49), (⟨"MarkedStepsModel", "againstBoth", "()I"⟩, 49), (⟨"MarkedStepsModel", "throwsIt", "(I)V"⟩, 49), (⟨"MarkedStepsModel", "toldOf", "(II)I"⟩, 49)]
theorem lw_r7 : ∀ q ∈ lw_privs_7, lw_okq q := List.forall_mem_cons.mpr ⟨lw_p96, List.forall_mem_cons.mpr ⟨lw_p97, List.forall_mem_cons.mpr ⟨lw_p98, List.forall_mem_cons.mpr ⟨lw_p99, List.forall_mem_cons.mpr ⟨lw_p100, List.forall_mem_cons.mpr ⟨lw_p101, List.forall_mem_cons.mpr ⟨lw_p102, List.forall_mem_cons.mpr ⟨lw_p103, List.forall_mem_cons.mpr ⟨lw_p104, List.forall_mem_cons.mpr ⟨lw_p105, List.forall_mem_cons.mpr ⟨lw_p106, List.forall_mem_cons.mpr ⟨lw_p107, fun _ h => absurd h List.not_mem_nil⟩⟩⟩⟩⟩⟩⟩⟩⟩⟩⟩⟩
def lw_privs : List (MethodName × Nat) := lw_privs_1 ++ (lw_privs_2 ++ (lw_privs_3 ++ (lw_privs_4 ++ (lw_privs_5 ++ (lw_privs_6 ++ (lw_privs_7))))))
def lw_tbl : List Cond := k2_sels lw_privs ++ tables_1
theorem lw_privs_ok : ∀ q ∈ lw_privs, lw_okq q := by
  show ∀ q ∈ lw_privs_1 ++ (lw_privs_2 ++ (lw_privs_3 ++ (lw_privs_4 ++ (lw_privs_5 ++ (lw_privs_6 ++ (lw_privs_7)))))), lw_okq q
  exact List.forall_mem_append.mpr ⟨lw_r1, List.forall_mem_append.mpr ⟨lw_r2, List.forall_mem_append.mpr ⟨lw_r3, List.forall_mem_append.mpr ⟨lw_r4, List.forall_mem_append.mpr ⟨lw_r5, List.forall_mem_append.mpr ⟨lw_r6, lw_r7⟩⟩⟩⟩⟩⟩
def RX0 : String := "MarkedSteps$Cell"
def TX0 : u_T := fun k => match k with
  | 0 => ("MarkedSteps$Cell", "sort", "I", true)
  | 1 => ("MarkedSteps$Cell", "next", "LMarkedSteps$Slot;", true)
  | 2 => ("MarkedSteps$Cell", "v", "I", false)
  | _ => ("MarkedSteps$Cell", "latestHold", "LMarkedSteps$Hold;", false)
def tyX0 : Nat → FieldType := fun k => match k with
  | 0 => .int
  | 1 => .object "MarkedSteps$Slot"
  | 2 => .int
  | _ => .object "MarkedSteps$Hold"
abbrev wsX00 : List Cond := u_ws RX0 TX0 4
theorem nmX0 : ∀ a, a < 4 → ∀ b, b < 4 → a ≠ b → (TX0 a).2.1 ≠ (TX0 b).2.1 := by decide +kernel
theorem tyX0_ok : ∀ k, k < 4 → parseFieldDescriptor (TX0 k).2.2.1 = some (tyX0 k) := by decide +kernel
abbrev cX0_init : ByteArray := prog_2_method_1_code
def yX0_init : MethodName := ⟨RX0, "<init>", "(I)V"⟩
abbrev cX0_otherMark : ByteArray := prog_2_method_2_code
def yX0_otherMark : MethodName := ⟨RX0, "otherMark", "()I"⟩
abbrev cX0_timesHeld : ByteArray := prog_2_method_3_code
def yX0_timesHeld : MethodName := ⟨RX0, "timesHeld", "()I"⟩
abbrev cX0_bodiesOfWeight : ByteArray := prog_2_method_4_code
def yX0_bodiesOfWeight : MethodName := ⟨RX0, "bodiesOfWeight", "()I"⟩
abbrev cX0_weight : ByteArray := prog_2_method_5_code
def yX0_weight : MethodName := ⟨RX0, "weight", "()I"⟩
def RX1 : String := "MarkedSteps$Frame"
def TX1 : u_T := fun k => match k with
  | 0 => ("MarkedSteps$Frame", "registers", "[LMarkedSteps$Slot;", true)
  | 1 => ("MarkedSteps$Frame", "given", "LMarkedSteps$Slot;", true)
  | 2 => ("MarkedSteps$Frame", "code", "LMarkedSteps$Member;", false)
  | 3 => ("MarkedSteps$Frame", "number", "I", false)
  | 4 => ("MarkedSteps$Frame", "at", "I", false)
  | 5 => ("MarkedSteps$Frame", "holds", "LMarkedSteps$Hold;", false)
  | _ => ("MarkedSteps$Frame", "holdings", "I", false)
def tyX1 : Nat → FieldType := fun k => match k with
  | 0 => .array (.object "MarkedSteps$Slot")
  | 1 => .object "MarkedSteps$Slot"
  | 2 => .object "MarkedSteps$Member"
  | 3 => .int
  | 4 => .int
  | 5 => .object "MarkedSteps$Hold"
  | _ => .int
abbrev wsX10 : List Cond := u_ws RX1 TX1 7
theorem nmX1 : ∀ a, a < 7 → ∀ b, b < 7 → a ≠ b → (TX1 a).2.1 ≠ (TX1 b).2.1 := by decide +kernel
theorem tyX1_ok : ∀ k, k < 7 → parseFieldDescriptor (TX1 k).2.2.1 = some (tyX1 k) := by decide +kernel
abbrev cX1_init : ByteArray := prog_3_method_1_code
def yX1_init : MethodName := ⟨RX1, "<init>", "(LMarkedSteps$Member;)V"⟩
abbrev cX1_begin : ByteArray := prog_3_method_2_code
def yX1_begin : MethodName := ⟨RX1, "begin", "(LMarkedSteps$Member;I[LMarkedSteps$Slot;I)V"⟩
abbrev cX1_named : ByteArray := prog_3_method_3_code
def yX1_named : MethodName := ⟨RX1, "named", "(I)LMarkedSteps$Slot;"⟩
abbrev cX1_isBehindItsActs : ByteArray := prog_3_method_4_code
def yX1_isBehindItsActs : MethodName := ⟨RX1, "isBehindItsActs", "()Z"⟩
abbrev cX1_give : ByteArray := prog_3_method_5_code
def yX1_give : MethodName := ⟨RX1, "give", "(LMarkedSteps$Slot;)V"⟩
abbrev cX1_takeGiven : ByteArray := prog_3_method_6_code
def yX1_takeGiven : MethodName := ⟨RX1, "takeGiven", "(LMarkedSteps$Slot;)V"⟩
def RX2 : String := "MarkedSteps$Hold"
def TX2 : u_T := fun k => match k with
  | 0 => ("MarkedSteps$Hold", "cell", "LMarkedSteps$Cell;", false)
  | 1 => ("MarkedSteps$Hold", "frame", "LMarkedSteps$Frame;", false)
  | 2 => ("MarkedSteps$Hold", "times", "I", false)
  | 3 => ("MarkedSteps$Hold", "under", "LMarkedSteps$Hold;", false)
  | _ => ("MarkedSteps$Hold", "beside", "LMarkedSteps$Hold;", false)
def tyX2 : Nat → FieldType := fun k => match k with
  | 0 => .object "MarkedSteps$Cell"
  | 1 => .object "MarkedSteps$Frame"
  | 2 => .int
  | 3 => .object "MarkedSteps$Hold"
  | _ => .object "MarkedSteps$Hold"
abbrev wsX20 : List Cond := u_ws RX2 TX2 5
theorem nmX2 : ∀ a, a < 5 → ∀ b, b < 5 → a ≠ b → (TX2 a).2.1 ≠ (TX2 b).2.1 := by decide +kernel
theorem tyX2_ok : ∀ k, k < 5 → parseFieldDescriptor (TX2 k).2.2.1 = some (tyX2 k) := by decide +kernel
abbrev cX2_init : ByteArray := prog_4_method_1_code
def yX2_init : MethodName := ⟨RX2, "<init>", "()V"⟩
def RX3 : String := "MarkedSteps$Machine"
def TX3 : u_T := fun k => match k with
  | 0 => ("MarkedSteps$Machine", "members", "[LMarkedSteps$Member;", true)
  | 1 => ("MarkedSteps$Machine", "memberCount", "I", false)
  | 2 => ("MarkedSteps$Machine", "purse", "LMarkedSteps$Purse;", true)
  | 3 => ("MarkedSteps$Machine", "monitors", "LMarkedSteps$Monitors;", true)
  | 4 => ("MarkedSteps$Machine", "plan", "[I", true)
  | 5 => ("MarkedSteps$Machine", "planAhead", "[I", true)
  | 6 => ("MarkedSteps$Machine", "frames", "[LMarkedSteps$Frame;", true)
  | 7 => ("MarkedSteps$Machine", "depth", "I", false)
  | 8 => ("MarkedSteps$Machine", "result", "LMarkedSteps$Slot;", true)
  | 9 => ("MarkedSteps$Machine", "thrownNumber", "I", false)
  | 10 => ("MarkedSteps$Machine", "traced", "[I", true)
  | 11 => ("MarkedSteps$Machine", "tracedCount", "I", false)
  | 12 => ("MarkedSteps$Machine", "begun", "I", false)
  | 13 => ("MarkedSteps$Machine", "stopped", "I", false)
  | 14 => ("MarkedSteps$Machine", "threw", "I", false)
  | _ => ("MarkedSteps$Machine", "gave", "I", false)
def tyX3 : Nat → FieldType := fun k => match k with
  | 0 => .array (.object "MarkedSteps$Member")
  | 1 => .int
  | 2 => .object "MarkedSteps$Purse"
  | 3 => .object "MarkedSteps$Monitors"
  | 4 => .array .int
  | 5 => .array .int
  | 6 => .array (.object "MarkedSteps$Frame")
  | 7 => .int
  | 8 => .object "MarkedSteps$Slot"
  | 9 => .int
  | 10 => .array .int
  | 11 => .int
  | 12 => .int
  | 13 => .int
  | 14 => .int
  | _ => .int
abbrev wsX30 : List Cond := u_ws RX3 TX3 16
theorem nmX3 : ∀ a, a < 16 → ∀ b, b < 16 → a ≠ b → (TX3 a).2.1 ≠ (TX3 b).2.1 := by decide +kernel
theorem tyX3_ok : ∀ k, k < 16 → parseFieldDescriptor (TX3 k).2.2.1 = some (tyX3 k) := by decide +kernel
abbrev cX3_init : ByteArray := prog_5_method_1_code
def yX3_init : MethodName := ⟨RX3, "<init>", "()V"⟩
abbrev cX3_lacksMember : ByteArray := prog_5_method_2_code
def yX3_lacksMember : MethodName := ⟨RX3, "lacksMember", "(I)Z"⟩
abbrev cX3_isWalked : ByteArray := prog_5_method_3_code
def yX3_isWalked : MethodName := ⟨RX3, "isWalked", "()Z"⟩
abbrev cX3_top : ByteArray := prog_5_method_4_code
def yX3_top : MethodName := ⟨RX3, "top", "()LMarkedSteps$Frame;"⟩
abbrev cX3_holdings : ByteArray := prog_5_method_5_code
def yX3_holdings : MethodName := ⟨RX3, "holdings", "()I"⟩
abbrev cX3_begin : ByteArray := prog_5_method_6_code
def yX3_begin : MethodName := ⟨RX3, "begin", "(II[LMarkedSteps$Slot;)I"⟩
abbrev cX3_doActs : ByteArray := prog_5_method_7_code
def yX3_doActs : MethodName := ⟨RX3, "doActs", "(I)I"⟩
abbrev cX3_doOneAct : ByteArray := prog_5_method_8_code
def yX3_doOneAct : MethodName := ⟨RX3, "doOneAct", "()I"⟩
abbrev cX3_beginFrame : ByteArray := prog_5_method_9_code
def yX3_beginFrame : MethodName := ⟨RX3, "beginFrame", "(I[LMarkedSteps$Slot;I)Z"⟩
abbrev cX3_endFrame : ByteArray := prog_5_method_10_code
def yX3_endFrame : MethodName := ⟨RX3, "endFrame", "()V"⟩
abbrev cX3_endFramesBehindTheirActs : ByteArray := prog_5_method_11_code
def yX3_endFramesBehindTheirActs : MethodName := ⟨RX3, "endFramesBehindTheirActs", "()I"⟩
abbrev cX3_goToHandler : ByteArray := prog_5_method_12_code
def yX3_goToHandler : MethodName := ⟨RX3, "goToHandler", "(I)I"⟩
abbrev cX3_beginHandler : ByteArray := prog_5_method_13_code
def yX3_beginHandler : MethodName := ⟨RX3, "beginHandler", "(LMarkedSteps$Frame;II)I"⟩
abbrev cX3_stop : ByteArray := prog_5_method_14_code
def yX3_stop : MethodName := ⟨RX3, "stop", "()I"⟩
abbrev cX3_keepTrace : ByteArray := prog_5_method_15_code
def yX3_keepTrace : MethodName := ⟨RX3, "keepTrace", "(I)V"⟩
abbrev cX3_perform : ByteArray := prog_5_method_16_code
def yX3_perform : MethodName := ⟨RX3, "perform", "(LMarkedSteps$Frame;)I"⟩
abbrev cX3_misfitAsNumbers : ByteArray := prog_5_method_17_code
def yX3_misfitAsNumbers : MethodName := ⟨RX3, "misfitAsNumbers", "(LMarkedSteps$Slot;LMarkedSteps$Slot;)I"⟩
abbrev cX3_reckon : ByteArray := prog_5_method_18_code
def yX3_reckon : MethodName := ⟨RX3, "reckon", "(ILMarkedSteps$Slot;LMarkedSteps$Slot;LMarkedSteps$Slot;)I"⟩
abbrev cX3_goTo : ByteArray := prog_5_method_19_code
def yX3_goTo : MethodName := ⟨RX3, "goTo", "(LMarkedSteps$Frame;I)I"⟩
abbrev cX3_branch : ByteArray := prog_5_method_20_code
def yX3_branch : MethodName := ⟨RX3, "branch", "(LMarkedSteps$Frame;LMarkedSteps$Slot;I)I"⟩
abbrev cX3_makeRow : ByteArray := prog_5_method_21_code
def yX3_makeRow : MethodName := ⟨RX3, "makeRow", "(LMarkedSteps$Slot;LMarkedSteps$Slot;I)I"⟩
abbrev cX3_makeCell : ByteArray := prog_5_method_22_code
def yX3_makeCell : MethodName := ⟨RX3, "makeCell", "(LMarkedSteps$Slot;I)I"⟩
abbrev cX3_put : ByteArray := prog_5_method_23_code
def yX3_put : MethodName := ⟨RX3, "put", "(LMarkedSteps$Slot;LMarkedSteps$Slot;LMarkedSteps$Slot;)I"⟩
abbrev cX3_get : ByteArray := prog_5_method_24_code
def yX3_get : MethodName := ⟨RX3, "get", "(LMarkedSteps$Slot;LMarkedSteps$Slot;LMarkedSteps$Slot;)I"⟩
abbrev cX3_length : ByteArray := prog_5_method_25_code
def yX3_length : MethodName := ⟨RX3, "length", "(LMarkedSteps$Slot;LMarkedSteps$Slot;)I"⟩
abbrev cX3_field : ByteArray := prog_5_method_26_code
def yX3_field : MethodName := ⟨RX3, "field", "(LMarkedSteps$Slot;LMarkedSteps$Slot;I)I"⟩
abbrev cX3_fill : ByteArray := prog_5_method_27_code
def yX3_fill : MethodName := ⟨RX3, "fill", "(LMarkedSteps$Slot;ILMarkedSteps$Slot;)I"⟩
abbrev cX3_enter : ByteArray := prog_5_method_28_code
def yX3_enter : MethodName := ⟨RX3, "enter", "(LMarkedSteps$Frame;LMarkedSteps$Slot;)I"⟩
abbrev cX3_leave : ByteArray := prog_5_method_29_code
def yX3_leave : MethodName := ⟨RX3, "leave", "(LMarkedSteps$Frame;LMarkedSteps$Slot;)I"⟩
abbrev cX3_throwOwn : ByteArray := prog_5_method_30_code
def yX3_throwOwn : MethodName := ⟨RX3, "throwOwn", "(LMarkedSteps$Slot;)I"⟩
abbrev cX3_call : ByteArray := prog_5_method_31_code
def yX3_call : MethodName := ⟨RX3, "call", "(LMarkedSteps$Frame;II)I"⟩
abbrev cX3_note : ByteArray := prog_5_method_32_code
def yX3_note : MethodName := ⟨RX3, "note", "(LMarkedSteps$Slot;LMarkedSteps$Slot;)I"⟩
abbrev cX3_ask : ByteArray := prog_5_method_33_code
def yX3_ask : MethodName := ⟨RX3, "ask", "(LMarkedSteps$Slot;LMarkedSteps$Slot;)I"⟩
abbrev cX3_weigh : ByteArray := prog_5_method_34_code
def yX3_weigh : MethodName := ⟨RX3, "weigh", "(LMarkedSteps$Slot;LMarkedSteps$Slot;)I"⟩
def RX4 : String := "MarkedSteps$Member"
def TX4 : u_T := fun k => match k with
  | 0 => ("MarkedSteps$Member", "wants", "I", false)
  | 1 => ("MarkedSteps$Member", "framesBegun", "I", false)
  | 2 => ("MarkedSteps$Member", "actCount", "I", false)
  | 3 => ("MarkedSteps$Member", "ops", "[I", true)
  | 4 => ("MarkedSteps$Member", "as", "[I", true)
  | 5 => ("MarkedSteps$Member", "bs", "[I", true)
  | 6 => ("MarkedSteps$Member", "cs", "[I", true)
  | 7 => ("MarkedSteps$Member", "handlerCount", "I", false)
  | 8 => ("MarkedSteps$Member", "froms", "[I", true)
  | 9 => ("MarkedSteps$Member", "tos", "[I", true)
  | 10 => ("MarkedSteps$Member", "kinds", "[I", true)
  | _ => ("MarkedSteps$Member", "ats", "[I", true)
def tyX4 : Nat → FieldType := fun k => match k with
  | 0 => .int
  | 1 => .int
  | 2 => .int
  | 3 => .array .int
  | 4 => .array .int
  | 5 => .array .int
  | 6 => .array .int
  | 7 => .int
  | 8 => .array .int
  | 9 => .array .int
  | 10 => .array .int
  | _ => .array .int
abbrev wsX40 : List Cond := u_ws RX4 TX4 12
theorem nmX4 : ∀ a, a < 12 → ∀ b, b < 12 → a ≠ b → (TX4 a).2.1 ≠ (TX4 b).2.1 := by decide +kernel
theorem tyX4_ok : ∀ k, k < 12 → parseFieldDescriptor (TX4 k).2.2.1 = some (tyX4 k) := by decide +kernel
abbrev cX4_init : ByteArray := prog_6_method_1_code
def yX4_init : MethodName := ⟨RX4, "<init>", "()V"⟩
abbrev cX4_addAct : ByteArray := prog_6_method_2_code
def yX4_addAct : MethodName := ⟨RX4, "addAct", "(IIII)I"⟩
abbrev cX4_addHandler : ByteArray := prog_6_method_3_code
def yX4_addHandler : MethodName := ⟨RX4, "addHandler", "(IIII)I"⟩
abbrev cX4_handlerHas : ByteArray := prog_6_method_4_code
def yX4_handlerHas : MethodName := ⟨RX4, "handlerHas", "(II)Z"⟩
abbrev cX4_firstHandlerOf : ByteArray := prog_6_method_5_code
def yX4_firstHandlerOf : MethodName := ⟨RX4, "firstHandlerOf", "(II)I"⟩
def RX5 : String := "MarkedSteps$Monitors"
def TX5 : u_T := fun k => match k with
  | _ => ("MarkedSteps$Monitors", "spare", "LMarkedSteps$Hold;", false)
def tyX5 : Nat → FieldType := fun k => match k with
  | _ => .object "MarkedSteps$Hold"
abbrev wsX50 : List Cond := u_ws RX5 TX5 1
theorem nmX5 : ∀ a, a < 1 → ∀ b, b < 1 → a ≠ b → (TX5 a).2.1 ≠ (TX5 b).2.1 := by decide +kernel
theorem tyX5_ok : ∀ k, k < 1 → parseFieldDescriptor (TX5 k).2.2.1 = some (tyX5 k) := by decide +kernel
abbrev cX5_init : ByteArray := prog_7_method_1_code
def yX5_init : MethodName := ⟨RX5, "<init>", "()V"⟩
abbrev cX5_enter : ByteArray := prog_7_method_2_code
def yX5_enter : MethodName := ⟨RX5, "enter", "(LMarkedSteps$Frame;LMarkedSteps$Cell;)V"⟩
abbrev cX5_leave : ByteArray := prog_7_method_3_code
def yX5_leave : MethodName := ⟨RX5, "leave", "(LMarkedSteps$Frame;LMarkedSteps$Cell;)Z"⟩
abbrev cX5_newHold : ByteArray := prog_7_method_4_code
def yX5_newHold : MethodName := ⟨RX5, "newHold", "(LMarkedSteps$Frame;LMarkedSteps$Cell;)LMarkedSteps$Hold;"⟩
abbrev cX5_leaveAll : ByteArray := prog_7_method_5_code
def yX5_leaveAll : MethodName := ⟨RX5, "leaveAll", "(LMarkedSteps$Frame;)V"⟩
def RX6 : String := "MarkedSteps$Purse"
def TX6 : u_T := fun k => match k with
  | 0 => ("MarkedSteps$Purse", "prices", "[I", true)
  | 1 => ("MarkedSteps$Purse", "counts", "[I", true)
  | 2 => ("MarkedSteps$Purse", "budget", "I", false)
  | _ => ("MarkedSteps$Purse", "house", "I", false)
def tyX6 : Nat → FieldType := fun k => match k with
  | 0 => .array .int
  | 1 => .array .int
  | 2 => .int
  | _ => .int
abbrev wsX60 : List Cond := u_ws RX6 TX6 4
theorem nmX6 : ∀ a, a < 4 → ∀ b, b < 4 → a ≠ b → (TX6 a).2.1 ≠ (TX6 b).2.1 := by decide +kernel
theorem tyX6_ok : ∀ k, k < 4 → parseFieldDescriptor (TX6 k).2.2.1 = some (tyX6 k) := by decide +kernel
abbrev cX6_init : ByteArray := prog_8_method_1_code
def yX6_init : MethodName := ⟨RX6, "<init>", "()V"⟩
abbrev cX6_open : ByteArray := prog_8_method_2_code
def yX6_open : MethodName := ⟨RX6, "open", "(I)V"⟩
abbrev cX6_takes : ByteArray := prog_8_method_3_code
def yX6_takes : MethodName := ⟨RX6, "takes", "(J)Z"⟩
abbrev cX6_paysFor : ByteArray := prog_8_method_4_code
def yX6_paysFor : MethodName := ⟨RX6, "paysFor", "(I)Z"⟩
abbrev cX6_paysForRow : ByteArray := prog_8_method_5_code
def yX6_paysForRow : MethodName := ⟨RX6, "paysForRow", "(I)Z"⟩
def RX7 : String := "MarkedSteps$Row"
def TX7 : u_T := fun k => match k with
  | 0 => ("MarkedSteps$Row", "lane", "I", true)
  | 1 => ("MarkedSteps$Row", "size", "I", true)
  | 2 => ("MarkedSteps$Row", "numbers", "[I", true)
  | _ => ("MarkedSteps$Row", "rows", "[LMarkedSteps$Row;", true)
def tyX7 : Nat → FieldType := fun k => match k with
  | 0 => .int
  | 1 => .int
  | 2 => .array .int
  | _ => .array (.object "MarkedSteps$Row")
abbrev wsX70 : List Cond := u_ws RX7 TX7 4
theorem nmX7 : ∀ a, a < 4 → ∀ b, b < 4 → a ≠ b → (TX7 a).2.1 ≠ (TX7 b).2.1 := by decide +kernel
theorem tyX7_ok : ∀ k, k < 4 → parseFieldDescriptor (TX7 k).2.2.1 = some (tyX7 k) := by decide +kernel
abbrev cX7_init : ByteArray := prog_9_method_1_code
def yX7_init : MethodName := ⟨RX7, "<init>", "(II)V"⟩
abbrev cX7_lacksCell : ByteArray := prog_9_method_2_code
def yX7_lacksCell : MethodName := ⟨RX7, "lacksCell", "(I)Z"⟩
abbrev cX7_narrowed : ByteArray := prog_9_method_3_code
def yX7_narrowed : MethodName := ⟨RX7, "narrowed", "(I)I"⟩
abbrev cX7_misfitInCell : ByteArray := prog_9_method_4_code
def yX7_misfitInCell : MethodName := ⟨RX7, "misfitInCell", "(LMarkedSteps$Slot;)I"⟩
abbrev cX7_copyFrom : ByteArray := prog_9_method_5_code
def yX7_copyFrom : MethodName := ⟨RX7, "copyFrom", "(LMarkedSteps$Slot;I)V"⟩
abbrev cX7_copyTo : ByteArray := prog_9_method_6_code
def yX7_copyTo : MethodName := ⟨RX7, "copyTo", "(LMarkedSteps$Slot;I)V"⟩
def RX8 : String := "MarkedSteps$Slot"
def TX8 : u_T := fun k => match k with
  | 0 => ("MarkedSteps$Slot", "kind", "I", false)
  | 1 => ("MarkedSteps$Slot", "number", "I", false)
  | 2 => ("MarkedSteps$Slot", "cell", "LMarkedSteps$Cell;", false)
  | _ => ("MarkedSteps$Slot", "row", "LMarkedSteps$Row;", false)
def tyX8 : Nat → FieldType := fun k => match k with
  | 0 => .int
  | 1 => .int
  | 2 => .object "MarkedSteps$Cell"
  | _ => .object "MarkedSteps$Row"
abbrev wsX80 : List Cond := u_ws RX8 TX8 4
theorem nmX8 : ∀ a, a < 4 → ∀ b, b < 4 → a ≠ b → (TX8 a).2.1 ≠ (TX8 b).2.1 := by decide +kernel
theorem tyX8_ok : ∀ k, k < 4 → parseFieldDescriptor (TX8 k).2.2.1 = some (tyX8 k) := by decide +kernel
abbrev cX8_init : ByteArray := prog_10_method_1_code
def yX8_init : MethodName := ⟨RX8, "<init>", "()V"⟩
abbrev cX8_becomeNothing : ByteArray := prog_10_method_2_code
def yX8_becomeNothing : MethodName := ⟨RX8, "becomeNothing", "()V"⟩
abbrev cX8_becomeNumber : ByteArray := prog_10_method_3_code
def yX8_becomeNumber : MethodName := ⟨RX8, "becomeNumber", "(I)V"⟩
abbrev cX8_becomeCell : ByteArray := prog_10_method_4_code
def yX8_becomeCell : MethodName := ⟨RX8, "becomeCell", "(LMarkedSteps$Cell;)V"⟩
abbrev cX8_becomeRow : ByteArray := prog_10_method_5_code
def yX8_becomeRow : MethodName := ⟨RX8, "becomeRow", "(LMarkedSteps$Row;)V"⟩
abbrev cX8_copy : ByteArray := prog_10_method_6_code
def yX8_copy : MethodName := ⟨RX8, "copy", "(LMarkedSteps$Slot;)V"⟩
abbrev cX8_isNothing : ByteArray := prog_10_method_7_code
def yX8_isNothing : MethodName := ⟨RX8, "isNothing", "()Z"⟩
abbrev cX8_isOf : ByteArray := prog_10_method_8_code
def yX8_isOf : MethodName := ⟨RX8, "isOf", "(I)Z"⟩
abbrev cX8_isSameAs : ByteArray := prog_10_method_9_code
def yX8_isSameAs : MethodName := ⟨RX8, "isSameAs", "(LMarkedSteps$Slot;)Z"⟩
abbrev cX8_measure : ByteArray := prog_10_method_10_code
def yX8_measure : MethodName := ⟨RX8, "measure", "()I"⟩
abbrev cX8_misfit : ByteArray := prog_10_method_11_code
def yX8_misfit : MethodName := ⟨RX8, "misfit", "()I"⟩
abbrev cX8_misfitAsNumber : ByteArray := prog_10_method_12_code
def yX8_misfitAsNumber : MethodName := ⟨RX8, "misfitAsNumber", "()I"⟩
def RX9 : String := "MarkedSteps$Verifier"
def TX9 : u_T := fun k => match k with
  | _ => ("MarkedSteps$Verifier", "made", "[I", true)
def tyX9 : Nat → FieldType := fun k => match k with
  | _ => .array .int
abbrev wsX90 : List Cond := u_ws RX9 TX9 1
theorem nmX9 : ∀ a, a < 1 → ∀ b, b < 1 → a ≠ b → (TX9 a).2.1 ≠ (TX9 b).2.1 := by decide +kernel
theorem tyX9_ok : ∀ k, k < 1 → parseFieldDescriptor (TX9 k).2.2.1 = some (tyX9 k) := by decide +kernel
abbrev cX9_init : ByteArray := prog_11_method_1_code
def yX9_init : MethodName := ⟨RX9, "<init>", "()V"⟩
abbrev cX9_leastActThatLooksAtUnset : ByteArray := prog_11_method_2_code
def yX9_leastActThatLooksAtUnset : MethodName := ⟨RX9, "leastActThatLooksAtUnset", "(LMarkedSteps$Machine;LMarkedSteps$Member;)I"⟩
abbrev cX9_passOver : ByteArray := prog_11_method_3_code
def yX9_passOver : MethodName := ⟨RX9, "passOver", "(LMarkedSteps$Member;)Z"⟩
abbrev cX9_goOn : ByteArray := prog_11_method_4_code
def yX9_goOn : MethodName := ⟨RX9, "goOn", "(LMarkedSteps$Member;I)Z"⟩
abbrev cX9_goToHandlers : ByteArray := prog_11_method_5_code
def yX9_goToHandlers : MethodName := ⟨RX9, "goToHandlers", "(LMarkedSteps$Member;I)Z"⟩
abbrev cX9_comeTo : ByteArray := prog_11_method_6_code
def yX9_comeTo : MethodName := ⟨RX9, "comeTo", "(LMarkedSteps$Member;II)Z"⟩
abbrev cX9_lookedAt : ByteArray := prog_11_method_7_code
def yX9_lookedAt : MethodName := ⟨RX9, "lookedAt", "(LMarkedSteps$Machine;LMarkedSteps$Member;I)I"⟩
abbrev cX9_passedOn : ByteArray := prog_11_method_8_code
def yX9_passedOn : MethodName := ⟨RX9, "passedOn", "(II)I"⟩
def RX10 : String := "MarkedSteps"
def TX10 : u_T := fun k => match k with
  | 0 => ("MarkedSteps", "machine", "LMarkedSteps$Machine;", true)
  | 1 => ("MarkedSteps", "verifier", "LMarkedSteps$Verifier;", true)
  | _ => ("MarkedSteps", "arguments", "[LMarkedSteps$Slot;", true)
def tyX10 : Nat → FieldType := fun k => match k with
  | 0 => .object "MarkedSteps$Machine"
  | 1 => .object "MarkedSteps$Verifier"
  | _ => .array (.object "MarkedSteps$Slot")
abbrev wsX100 : List Cond := u_ws RX10 TX10 3
theorem nmX10 : ∀ a, a < 3 → ∀ b, b < 3 → a ≠ b → (TX10 a).2.1 ≠ (TX10 b).2.1 := by decide +kernel
theorem tyX10_ok : ∀ k, k < 3 → parseFieldDescriptor (TX10 k).2.2.1 = some (tyX10 k) := by decide +kernel
abbrev cX10_init : ByteArray := prog_1_method_1_code
def yX10_init : MethodName := ⟨RX10, "<init>", "()V"⟩
abbrev cX10_member : ByteArray := prog_1_method_2_code
def yX10_member : MethodName := ⟨RX10, "member", "(I)I"⟩
abbrev cX10_act : ByteArray := prog_1_method_3_code
def yX10_act : MethodName := ⟨RX10, "act", "(IIIII)I"⟩
abbrev cX10_handler : ByteArray := prog_1_method_4_code
def yX10_handler : MethodName := ⟨RX10, "handler", "(IIIII)I"⟩
abbrev cX10_cut : ByteArray := prog_1_method_5_code
def yX10_cut : MethodName := ⟨RX10, "cut", "(I)I"⟩
abbrev cX10_price : ByteArray := prog_1_method_6_code
def yX10_price : MethodName := ⟨RX10, "price", "(II)I"⟩
abbrev cX10_verify : ByteArray := prog_1_method_7_code
def yX10_verify : MethodName := ⟨RX10, "verify", "(I)I"⟩
abbrev cX10_info : ByteArray := prog_1_method_8_code
def yX10_info : MethodName := ⟨RX10, "info", "(II)I"⟩
abbrev cX10_set : ByteArray := prog_1_method_9_code
def yX10_set : MethodName := ⟨RX10, "set", "(II)I"⟩
abbrev cX10_plan : ByteArray := prog_1_method_10_code
def yX10_plan : MethodName := ⟨RX10, "plan", "(I)I"⟩
abbrev cX10_argument : ByteArray := prog_1_method_11_code
def yX10_argument : MethodName := ⟨RX10, "argument", "(III)I"⟩
abbrev cX10_run : ByteArray := prog_1_method_12_code
def yX10_run : MethodName := ⟨RX10, "run", "(II)I"⟩
abbrev cX10_result : ByteArray := prog_1_method_13_code
def yX10_result : MethodName := ⟨RX10, "result", "(I)I"⟩
abbrev cX10_into : ByteArray := prog_1_method_14_code
def yX10_into : MethodName := ⟨RX10, "into", "(I)I"⟩
abbrev cX10_cell : ByteArray := prog_1_method_15_code
def yX10_cell : MethodName := ⟨RX10, "cell", "(I)I"⟩
abbrev cX10_counted : ByteArray := prog_1_method_16_code
def yX10_counted : MethodName := ⟨RX10, "counted", "(I)I"⟩
abbrev cX10_trace : ByteArray := prog_1_method_17_code
def yX10_trace : MethodName := ⟨RX10, "trace", "(I)I"⟩
abbrev cX10_left : ByteArray := prog_1_method_18_code
def yX10_left : MethodName := ⟨RX10, "left", "()I"⟩
abbrev cX10_walk : ByteArray := prog_1_method_19_code
def yX10_walk : MethodName := ⟨RX10, "walk", "(II)I"⟩
abbrev cX10_step : ByteArray := prog_1_method_20_code
def yX10_step : MethodName := ⟨RX10, "step", "(I)I"⟩
abbrev cX10_frame : ByteArray := prog_1_method_21_code
def yX10_frame : MethodName := ⟨RX10, "frame", "(I)I"⟩
abbrev cX10_register : ByteArray := prog_1_method_22_code
def yX10_register : MethodName := ⟨RX10, "register", "(II)I"⟩
abbrev cX10_drop : ByteArray := prog_1_method_23_code
def yX10_drop : MethodName := ⟨RX10, "drop", "()I"⟩
abbrev cX10_told : ByteArray := prog_1_method_24_code
def yX10_told : MethodName := ⟨RX10, "told", "(I)I"⟩
abbrev cX10_refusalToBegin : ByteArray := prog_1_method_25_code
def yX10_refusalToBegin : MethodName := ⟨RX10, "refusalToBegin", "(II)I"⟩
abbrev cX10_isOutside : ByteArray := prog_1_method_26_code
def yX10_isOutside : MethodName := ⟨RX10, "isOutside", "(III)Z"⟩
abbrev cX10_namesWrongRegister : ByteArray := prog_1_method_27_code
def yX10_namesWrongRegister : MethodName := ⟨RX10, "namesWrongRegister", "(IIII)Z"⟩
abbrev cX10_namesWrongNumber : ByteArray := prog_1_method_28_code
def yX10_namesWrongNumber : MethodName := ⟨RX10, "namesWrongNumber", "(IIII)Z"⟩
def RX11 : String := "MarkedStepsModel"
def TX11 : u_T := fun k => match k with
  | 0 => ("MarkedStepsModel", "members", "I", false)
  | 1 => ("MarkedStepsModel", "wanted", "[I", true)
  | 2 => ("MarkedStepsModel", "acts", "[I", true)
  | 3 => ("MarkedStepsModel", "code", "[I", true)
  | 4 => ("MarkedStepsModel", "handlers", "[I", true)
  | 5 => ("MarkedStepsModel", "catching", "[I", true)
  | 6 => ("MarkedStepsModel", "begun", "[I", true)
  | 7 => ("MarkedStepsModel", "price", "[I", true)
  | 8 => ("MarkedStepsModel", "isWalk", "Z", false)
  | 9 => ("MarkedStepsModel", "unset", "[I", true)
  | 10 => ("MarkedStepsModel", "spreads", "Z", false)
  | 11 => ("MarkedStepsModel", "plan", "[I", true)
  | 12 => ("MarkedStepsModel", "planWas", "[I", true)
  | 13 => ("MarkedStepsModel", "argKind", "[I", true)
  | 14 => ("MarkedStepsModel", "argValue", "[I", true)
  | 15 => ("MarkedStepsModel", "gaveKind", "I", false)
  | 16 => ("MarkedStepsModel", "gave", "I", false)
  | 17 => ("MarkedStepsModel", "cells", "I", false)
  | 18 => ("MarkedStepsModel", "sort", "[I", true)
  | 19 => ("MarkedStepsModel", "v", "[I", true)
  | 20 => ("MarkedStepsModel", "nextKind", "[I", true)
  | 21 => ("MarkedStepsModel", "nextValue", "[I", true)
  | 22 => ("MarkedStepsModel", "holdings", "[I", true)
  | 23 => ("MarkedStepsModel", "rows", "I", false)
  | 24 => ("MarkedStepsModel", "laneOf", "[I", true)
  | 25 => ("MarkedStepsModel", "begins", "[I", true)
  | 26 => ("MarkedStepsModel", "size", "[I", true)
  | 27 => ("MarkedStepsModel", "content", "[I", true)
  | 28 => ("MarkedStepsModel", "contents", "I", false)
  | 29 => ("MarkedStepsModel", "frames", "I", false)
  | 30 => ("MarkedStepsModel", "running", "[I", true)
  | 31 => ("MarkedStepsModel", "next", "[I", true)
  | 32 => ("MarkedStepsModel", "givesTo", "[I", true)
  | 33 => ("MarkedStepsModel", "regKind", "[I", true)
  | 34 => ("MarkedStepsModel", "regValue", "[I", true)
  | 35 => ("MarkedStepsModel", "holds", "[I", true)
  | 36 => ("MarkedStepsModel", "heldBy", "[I", true)
  | 37 => ("MarkedStepsModel", "budget", "I", false)
  | 38 => ("MarkedStepsModel", "left", "I", false)
  | 39 => ("MarkedStepsModel", "counted", "[I", true)
  | 40 => ("MarkedStepsModel", "trace", "[I", true)
  | 41 => ("MarkedStepsModel", "traced", "I", false)
  | 42 => ("MarkedStepsModel", "number", "I", false)
  | 43 => ("MarkedStepsModel", "told", "[I", true)
  | 44 => ("MarkedStepsModel", "over", "I", false)
  | 45 => ("MarkedStepsModel", "base", "I", false)
  | 46 => ("MarkedStepsModel", "a", "I", false)
  | 47 => ("MarkedStepsModel", "b", "I", false)
  | _ => ("MarkedStepsModel", "c", "I", false)
def tyX11 : Nat → FieldType := fun k => match k with
  | 0 => .int
  | 1 => .array .int
  | 2 => .array .int
  | 3 => .array .int
  | 4 => .array .int
  | 5 => .array .int
  | 6 => .array .int
  | 7 => .array .int
  | 8 => .boolean
  | 9 => .array .int
  | 10 => .boolean
  | 11 => .array .int
  | 12 => .array .int
  | 13 => .array .int
  | 14 => .array .int
  | 15 => .int
  | 16 => .int
  | 17 => .int
  | 18 => .array .int
  | 19 => .array .int
  | 20 => .array .int
  | 21 => .array .int
  | 22 => .array .int
  | 23 => .int
  | 24 => .array .int
  | 25 => .array .int
  | 26 => .array .int
  | 27 => .array .int
  | 28 => .int
  | 29 => .int
  | 30 => .array .int
  | 31 => .array .int
  | 32 => .array .int
  | 33 => .array .int
  | 34 => .array .int
  | 35 => .array .int
  | 36 => .array .int
  | 37 => .int
  | 38 => .int
  | 39 => .array .int
  | 40 => .array .int
  | 41 => .int
  | 42 => .int
  | 43 => .array .int
  | 44 => .int
  | 45 => .int
  | 46 => .int
  | 47 => .int
  | _ => .int
abbrev wsX110 : List Cond := u_ws RX11 TX11 49
theorem nmX11 : ∀ a, a < 49 → ∀ b, b < 49 → a ≠ b → (TX11 a).2.1 ≠ (TX11 b).2.1 := by decide +kernel
theorem tyX11_ok : ∀ k, k < 49 → parseFieldDescriptor (TX11 k).2.2.1 = some (tyX11 k) := by decide +kernel
abbrev cX11_init : ByteArray := prog_13_method_1_code
def yX11_init : MethodName := ⟨RX11, "<init>", "()V"⟩
abbrev cX11_in : ByteArray := prog_13_method_2_code
def yX11_in : MethodName := ⟨RX11, "in", "(III)Z"⟩
abbrev cX11_isMember : ByteArray := prog_13_method_3_code
def yX11_isMember : MethodName := ⟨RX11, "isMember", "(I)Z"⟩
abbrev cX11_member : ByteArray := prog_13_method_4_code
def yX11_member : MethodName := ⟨RX11, "member", "(I)I"⟩
abbrev cX11_named : ByteArray := prog_13_method_5_code
def yX11_named : MethodName := ⟨RX11, "named", "(I)I"⟩
abbrev cX11_isGood : ByteArray := prog_13_method_6_code
def yX11_isGood : MethodName := ⟨RX11, "isGood", "(IIII)Z"⟩
abbrev cX11_act : ByteArray := prog_13_method_7_code
def yX11_act : MethodName := ⟨RX11, "act", "(IIIII)I"⟩
abbrev cX11_handler : ByteArray := prog_13_method_8_code
def yX11_handler : MethodName := ⟨RX11, "handler", "(IIIII)I"⟩
abbrev cX11_cut : ByteArray := prog_13_method_9_code
def yX11_cut : MethodName := ⟨RX11, "cut", "(I)I"⟩
abbrev cX11_price : ByteArray := prog_13_method_10_code
def yX11_price : MethodName := ⟨RX11, "price", "(II)I"⟩
abbrev cX11_comes : ByteArray := prog_13_method_11_code
def yX11_comes : MethodName := ⟨RX11, "comes", "(II)V"⟩
abbrev cX11_looked : ByteArray := prog_13_method_12_code
def yX11_looked : MethodName := ⟨RX11, "looked", "(I)I"⟩
abbrev cX11_makes : ByteArray := prog_13_method_13_code
def yX11_makes : MethodName := ⟨RX11, "makes", "(I)I"⟩
abbrev cX11_spread : ByteArray := prog_13_method_14_code
def yX11_spread : MethodName := ⟨RX11, "spread", "(II)V"⟩
abbrev cX11_verify : ByteArray := prog_13_method_15_code
def yX11_verify : MethodName := ⟨RX11, "verify", "(I)I"⟩
abbrev cX11_info : ByteArray := prog_13_method_16_code
def yX11_info : MethodName := ⟨RX11, "info", "(II)I"⟩
abbrev cX11_set : ByteArray := prog_13_method_17_code
def yX11_set : MethodName := ⟨RX11, "set", "(II)I"⟩
abbrev cX11_plan : ByteArray := prog_13_method_18_code
def yX11_plan : MethodName := ⟨RX11, "plan", "(I)I"⟩
abbrev cX11_argument : ByteArray := prog_13_method_19_code
def yX11_argument : MethodName := ⟨RX11, "argument", "(III)I"⟩
abbrev cX11_kindOf : ByteArray := prog_13_method_20_code
def yX11_kindOf : MethodName := ⟨RX11, "kindOf", "(II)I"⟩
abbrev cX11_toldOf : ByteArray := prog_13_method_21_code
def yX11_toldOf : MethodName := ⟨RX11, "toldOf", "(II)I"⟩
abbrev cX11_isOf : ByteArray := prog_13_method_22_code
def yX11_isOf : MethodName := ⟨RX11, "isOf", "(III)Z"⟩
abbrev cX11_pays : ByteArray := prog_13_method_23_code
def yX11_pays : MethodName := ⟨RX11, "pays", "(J)Z"⟩
abbrev cX11_traces : ByteArray := prog_13_method_24_code
def yX11_traces : MethodName := ⟨RX11, "traces", "(I)V"⟩
abbrev cX11_release : ByteArray := prog_13_method_25_code
def yX11_release : MethodName := ⟨RX11, "release", "(I)V"⟩
abbrev cX11_begins : ByteArray := prog_13_method_26_code
def yX11_begins : MethodName := ⟨RX11, "begins", "(II)Z"⟩
abbrev cX11_stops : ByteArray := prog_13_method_27_code
def yX11_stops : MethodName := ⟨RX11, "stops", "()V"⟩
abbrev cX11_gives : ByteArray := prog_13_method_28_code
def yX11_gives : MethodName := ⟨RX11, "gives", "(II)V"⟩
abbrev cX11_throwsIt : ByteArray := prog_13_method_29_code
def yX11_throwsIt : MethodName := ⟨RX11, "throwsIt", "(I)V"⟩
abbrev cX11_makes_ : ByteArray := prog_13_method_30_code
def yX11_makes_ : MethodName := ⟨RX11, "makes", "(II)V"⟩
abbrev cX11_against : ByteArray := prog_13_method_31_code
def yX11_against : MethodName := ⟨RX11, "against", "(II)I"⟩
abbrev cX11_value : ByteArray := prog_13_method_32_code
def yX11_value : MethodName := ⟨RX11, "value", "(I)I"⟩
abbrev cX11_againstBoth : ByteArray := prog_13_method_33_code
def yX11_againstBoth : MethodName := ⟨RX11, "againstBoth", "()I"⟩
abbrev cX11_reckon : ByteArray := prog_13_method_34_code
def yX11_reckon : MethodName := ⟨RX11, "reckon", "(I)I"⟩
abbrev cX11_goes : ByteArray := prog_13_method_35_code
def yX11_goes : MethodName := ⟨RX11, "goes", "(I)I"⟩
abbrev cX11_newRow : ByteArray := prog_13_method_36_code
def yX11_newRow : MethodName := ⟨RX11, "newRow", "()I"⟩
abbrev cX11_newCell : ByteArray := prog_13_method_37_code
def yX11_newCell : MethodName := ⟨RX11, "newCell", "()I"⟩
abbrev cX11_cut_ : ByteArray := prog_13_method_38_code
def yX11_cut_ : MethodName := ⟨RX11, "cut", "(II)I"⟩
abbrev cX11_put : ByteArray := prog_13_method_39_code
def yX11_put : MethodName := ⟨RX11, "put", "()I"⟩
abbrev cX11_get : ByteArray := prog_13_method_40_code
def yX11_get : MethodName := ⟨RX11, "get", "()I"⟩
abbrev cX11_field : ByteArray := prog_13_method_41_code
def yX11_field : MethodName := ⟨RX11, "field", "()I"⟩
abbrev cX11_fill : ByteArray := prog_13_method_42_code
def yX11_fill : MethodName := ⟨RX11, "fill", "()I"⟩
abbrev cX11_monitor : ByteArray := prog_13_method_43_code
def yX11_monitor : MethodName := ⟨RX11, "monitor", "(Z)I"⟩
abbrev cX11_call : ByteArray := prog_13_method_44_code
def yX11_call : MethodName := ⟨RX11, "call", "()I"⟩
abbrev cX11_note : ByteArray := prog_13_method_45_code
def yX11_note : MethodName := ⟨RX11, "note", "()I"⟩
abbrev cX11_ask : ByteArray := prog_13_method_46_code
def yX11_ask : MethodName := ⟨RX11, "ask", "()I"⟩
abbrev cX11_weigh : ByteArray := prog_13_method_47_code
def yX11_weigh : MethodName := ⟨RX11, "weigh", "()I"⟩
abbrev cX11_same : ByteArray := prog_13_method_48_code
def yX11_same : MethodName := ⟨RX11, "same", "()I"⟩
abbrev cX11_branch : ByteArray := prog_13_method_49_code
def yX11_branch : MethodName := ⟨RX11, "branch", "()I"⟩
abbrev cX11_length : ByteArray := prog_13_method_50_code
def yX11_length : MethodName := ⟨RX11, "length", "()I"⟩
abbrev cX11_does : ByteArray := prog_13_method_51_code
def yX11_does : MethodName := ⟨RX11, "does", "(I)I"⟩
abbrev cX11_settle : ByteArray := prog_13_method_52_code
def yX11_settle : MethodName := ⟨RX11, "settle", "()V"⟩
abbrev cX11_goOn : ByteArray := prog_13_method_53_code
def yX11_goOn : MethodName := ⟨RX11, "goOn", "()V"⟩
abbrev cX11_start : ByteArray := prog_13_method_54_code
def yX11_start : MethodName := ⟨RX11, "start", "(II)V"⟩
abbrev cX11_run : ByteArray := prog_13_method_55_code
def yX11_run : MethodName := ⟨RX11, "run", "(II)I"⟩
abbrev cX11_result : ByteArray := prog_13_method_56_code
def yX11_result : MethodName := ⟨RX11, "result", "(I)I"⟩
abbrev cX11_into : ByteArray := prog_13_method_57_code
def yX11_into : MethodName := ⟨RX11, "into", "(I)I"⟩
abbrev cX11_cell : ByteArray := prog_13_method_58_code
def yX11_cell : MethodName := ⟨RX11, "cell", "(I)I"⟩
abbrev cX11_counted : ByteArray := prog_13_method_59_code
def yX11_counted : MethodName := ⟨RX11, "counted", "(I)I"⟩
abbrev cX11_trace : ByteArray := prog_13_method_60_code
def yX11_trace : MethodName := ⟨RX11, "trace", "(I)I"⟩
abbrev cX11_left : ByteArray := prog_13_method_61_code
def yX11_left : MethodName := ⟨RX11, "left", "()I"⟩
abbrev cX11_walk : ByteArray := prog_13_method_62_code
def yX11_walk : MethodName := ⟨RX11, "walk", "(II)I"⟩
abbrev cX11_step : ByteArray := prog_13_method_63_code
def yX11_step : MethodName := ⟨RX11, "step", "(I)I"⟩
abbrev cX11_frame : ByteArray := prog_13_method_64_code
def yX11_frame : MethodName := ⟨RX11, "frame", "(I)I"⟩
abbrev cX11_register : ByteArray := prog_13_method_65_code
def yX11_register : MethodName := ⟨RX11, "register", "(II)I"⟩
abbrev cX11_drop : ByteArray := prog_13_method_66_code
def yX11_drop : MethodName := ⟨RX11, "drop", "()I"⟩
abbrev cX11_told : ByteArray := prog_13_method_67_code
def yX11_told : MethodName := ⟨RX11, "told", "(I)I"⟩
end
section
/-! THE TABLES: by program out of the claim's own names and words. A method's number: 100 * its class + its place. -/
def tbF : Nat → List (Nat × (Nat × Nat × Bool) × Nat) := fun own => match own with
  | 0 => [(12, (0, 1, false), 668), (18, (0, 0, false), 666), (22, (0, 3, false), 675), (26, (2, 2, true), 765), (31, (2, 3, true), 766), (34, (0, 2, false), 671)]
  | 1 => [(11, (1, 0, false), 272), (18, (1, 1, false), 275), (22, (1, 2, false), 277), (26, (1, 3, false), 279), (30, (1, 4, false), 281), (36, (4, 0, true), 209), (45, (4, 2, true), 216), (52, (4, 4, true), 222)]
  | 3 => [(11, (3, 0, false), 302), (20, (3, 2, false), 307), (27, (3, 3, false), 309), (31, (3, 4, false), 310), (35, (3, 5, false), 312), (40, (3, 6, false), 313), (47, (3, 8, false), 316), (51, (3, 10, false), 319), (58, (3, 1, false), 305), (62, (3, 7, false), 314), (71, (1, 6, true), 286), (74, (3, 12, false), 323), (81, (3, 11, false), 321), (119, (1, 4, true), 282), (130, (4, 1, true), 212), (133, (6, 1, true), 148), (147, (1, 1, true), 276), (160, (3, 15, false), 329), (163, (1, 2, true), 278), (174, (3, 14, false), 327), (177, (1, 0, true), 273), (181, (3, 9, false), 318), (187, (4, 11, true), 238), (190, (3, 13, false), 325), (193, (4, 3, true), 219), (196, (4, 5, true), 226), (199, (4, 6, true), 229), (202, (4, 4, true), 223), (289, (8, 1, true), 186), (312, (8, 3, true), 193), (332, (7, 1, true), 637), (335, (8, 2, true), 189), (339, (0, 2, true), 673), (342, (0, 1, true), 670)]
  | 4 => [(9, (4, 3, false), 217), (15, (4, 4, false), 220), (18, (4, 5, false), 224), (21, (4, 6, false), 227), (24, (4, 8, false), 233), (27, (4, 9, false), 234), (30, (4, 10, false), 235), (33, (4, 11, false), 236), (36, (4, 2, false), 213), (40, (4, 7, false), 230)]
  | 5 => [(7, (0, 3, true), 674), (13, (2, 1, true), 763), (25, (2, 2, true), 764), (29, (1, 6, true), 285), (34, (5, 0, false), 169), (38, (2, 4, true), 768), (41, (2, 0, true), 762), (45, (2, 3, true), 767), (48, (1, 5, true), 284)]
  | 6 => [(9, (6, 0, false), 145), (15, (6, 1, false), 147), (18, (6, 3, false), 151), (22, (6, 2, false), 150)]
  | 7 => [(9, (7, 0, false), 632), (21, (7, 1, false), 635), (24, (7, 2, false), 638), (28, (7, 3, false), 640), (43, (8, 0, true), 182), (46, (8, 3, true), 191), (50, (8, 1, true), 185)]
  | 8 => [(9, (8, 0, false), 181), (15, (8, 1, false), 184), (18, (8, 2, false), 187), (22, (8, 3, false), 190), (29, (0, 0, true), 667), (34, (7, 0, true), 633), (43, (0, 2, true), 672), (46, (7, 1, true), 636)]
  | 9 => [(9, (9, 0, false), 370), (15, (4, 0, true), 208), (29, (4, 2, true), 214), (43, (4, 3, true), 218), (49, (4, 4, true), 221), (52, (4, 5, true), 225), (55, (4, 7, true), 232), (62, (4, 11, true), 237), (71, (4, 6, true), 228), (74, (3, 0, true), 304)]
  | 10 => [(10, (10, 0, false), 376), (19, (10, 1, false), 377), (25, (10, 2, false), 378), (38, (3, 1, true), 306), (42, (3, 0, true), 303), (46, (4, 0, true), 210), (62, (4, 2, true), 215), (69, (4, 7, true), 231), (75, (3, 2, true), 308), (79, (6, 0, true), 146), (89, (4, 1, true), 211), (92, (3, 4, true), 311), (102, (3, 8, true), 317), (123, (8, 0, true), 183), (130, (8, 2, true), 188), (139, (0, 1, true), 669), (142, (8, 3, true), 192), (146, (7, 0, true), 634), (158, (7, 2, true), 639), (161, (6, 1, true), 149), (164, (3, 11, true), 322), (167, (3, 10, true), 320), (170, (6, 3, true), 152), (177, (3, 7, true), 315), (180, (1, 3, true), 280), (185, (1, 4, true), 283), (191, (1, 0, true), 274), (197, (3, 12, true), 324), (200, (3, 13, true), 326), (203, (3, 14, true), 328), (206, (3, 15, true), 330)]
  | 11 => [(7, (11, 1, false), 913), (13, (11, 2, false), 914), (16, (11, 3, false), 915), (19, (11, 4, false), 916), (22, (11, 5, false), 917), (25, (11, 6, false), 918), (28, (11, 7, false), 919), (31, (11, 9, false), 921), (34, (11, 11, false), 923), (37, (11, 12, false), 924), (40, (11, 13, false), 925), (43, (11, 14, false), 926), (46, (11, 18, false), 930), (49, (11, 19, false), 931), (52, (11, 20, false), 932), (55, (11, 21, false), 933), (58, (11, 22, false), 934), (61, (11, 24, false), 936), (64, (11, 25, false), 937), (67, (11, 26, false), 938), (70, (11, 27, false), 939), (73, (11, 30, false), 942), (76, (11, 31, false), 943), (79, (11, 32, false), 944), (82, (11, 33, false), 945), (85, (11, 34, false), 946), (88, (11, 35, false), 947), (92, (11, 36, false), 948), (95, (11, 39, false), 951), (98, (11, 40, false), 952), (101, (11, 43, false), 955), (104, (11, 38, false), 950), (108, (11, 0, false), 912), (115, (11, 8, false), 920), (131, (11, 10, false), 922), (147, (11, 15, false), 927), (150, (11, 16, false), 928), (157, (11, 37, false), 949), (160, (11, 41, false), 953), (163, (11, 17, false), 929), (174, (11, 29, false), 941), (180, (11, 44, false), 956), (186, (11, 42, false), 954), (189, (11, 45, false), 957), (192, (11, 46, false), 958), (195, (11, 47, false), 959), (201, (11, 48, false), 960), (213, (11, 23, false), 935), (216, (11, 28, false), 940)]
  | _ => []
def tbS : Nat → List (Nat × (Nat × Bool) × Nat) := fun own => match own with
  | 9 => [(46, (3, true), 455), (82, (2, true), 471)]
  | 10 => [(209, (2, false), 408), (212, (3, false), 410)]
  | _ => []
def tbM : Nat → List (Nat × (Nat × Bool) × Nat) := fun own => match own with
  | 0 => [(3, (9000, false), 663), (11, (800, true), 665)]
  | 1 => [(3, (9000, false), 268), (17, (800, true), 271), (33, (801, true), 537), (41, (805, true), 538), (48, (103, false), 570), (56, (102, false), 571)]
  | 2 => [(1, (9000, false), 761)]
  | 3 => [(3, (9000, false), 136), (19, (600, true), 141), (26, (500, true), 165), (46, (800, true), 177), (54, (400, true), 204), (55, (100, true), 265), (65, (9001, false), 539), (77, (601, true), 513), (84, (801, true), 517), (87, (9002, false), 518), (93, (308, false), 521), (97, (310, false), 546), (101, (313, false), 576), (104, (307, false), 585), (107, (303, false), 550), (111, (315, false), 589), (115, (311, false), 828), (122, (603, true), 525), (126, (101, true), 533), (136, (314, false), 542), (139, (504, true), 562), (143, (103, true), 554), (150, (309, false), 558), (153, (105, true), 566), (157, (805, true), 575), (167, (404, true), 832), (170, (312, false), 837), (184, (802, true), 594), (205, (102, true), 593), (209, (808, true), 595), (213, (318, false), 599), (217, (319, false), 603), (221, (320, false), 615), (225, (321, false), 654), (229, (322, false), 689), (233, (323, false), 715), (236, (324, false), 725), (240, (325, false), 728), (243, (326, false), 735), (247, (807, true), 738), (250, (806, true), 743), (253, (327, false), 744), (257, (328, false), 780), (260, (329, false), 788), (264, (330, false), 792), (267, (104, true), 797), (270, (331, false), 801), (273, (332, false), 809), (276, (333, false), 813), (279, (317, false), 825), (283, (811, true), 607), (286, (316, false), 805), (292, (604, true), 619), (297, (700, true), 625), (300, (804, true), 650), (306, (0, true), 660), (308, (803, true), 685), (316, (810, true), 692), (319, (703, true), 693), (322, (701, true), 702), (325, (704, true), 706), (329, (705, true), 718), (345, (1, true), 731), (348, (501, true), 748), (351, (502, true), 784), (354, (301, false), 796), (357, (1025, true), 808), (361, (3, true), 817), (364, (4, true), 821)]
  | 4 => [(3, (9000, false), 207), (43, (403, false), 836)]
  | 5 => [(1, (9000, false), 168), (19, (503, false), 752), (37, (200, true), 758)]
  | 6 => [(3, (9000, false), 144), (25, (602, false), 529)]
  | 7 => [(3, (9000, false), 628), (15, (9001, false), 629), (33, (811, true), 697), (39, (806, true), 698), (53, (702, false), 710), (57, (802, true), 722), (61, (801, true), 723), (64, (804, true), 724)]
  | 8 => [(3, (9000, false), 180), (26, (801, false), 496), (39, (806, false), 742), (49, (810, false), 611)]
  | 9 => [(3, (9000, false), 369), (21, (905, false), 443), (25, (902, false), 447), (32, (906, false), 464), (36, (903, false), 451), (40, (904, false), 456), (58, (403, true), 460), (65, (301, true), 467), (78, (907, false), 468)]
  | 10 => [(1, (9000, false), 128), (9, (300, true), 133), (18, (900, true), 366), (29, (800, true), 375), (30, (1025, false), 390), (34, (302, true), 393), (51, (301, true), 401), (55, (1026, false), 405), (59, (1027, false), 412), (65, (401, true), 415), (72, (402, true), 423), (85, (901, true), 439), (95, (801, true), 488), (98, (802, true), 492), (106, (805, true), 497), (110, (1024, false), 505), (114, (305, true), 509), (119, (306, true), 581), (126, (809, true), 845), (134, (2, true), 849), (151, (701, true), 857), (154, (705, true), 858), (173, (303, true), 887), (188, (304, true), 888), (194, (313, true), 900)]
  | 11 => [(1, (9000, false), 910), (111, (1101, false), 1064), (119, (1104, false), 1078), (123, (1102, false), 1071), (127, (1105, false), 1075), (134, (1112, false), 1101), (137, (1110, false), 1105), (141, (1113, false), 1097), (144, (1111, false), 1109), (153, (1119, false), 1233), (166, (1122, false), 1141), (170, (1123, false), 1145), (177, (1124, false), 1153), (183, (1126, false), 1149), (198, (1130, false), 1193), (204, (1132, false), 1261), (208, (1131, false), 1181), (211, (1129, false), 1173), (220, (1137, false), 1209), (223, (1125, false), 1137), (226, (1134, false), 1185), (229, (1147, false), 1177), (232, (1148, false), 1189), (235, (1135, false), 1197), (238, (1136, false), 1201), (241, (1138, false), 1205), (244, (1139, false), 1213), (247, (1149, false), 1217), (250, (1140, false), 1221), (253, (1141, false), 1225), (256, (1121, false), 1229), (259, (1142, false), 1237), (263, (1143, false), 1241), (266, (1144, false), 1245), (269, (1145, false), 1249), (272, (1146, false), 1253), (275, (1133, false), 1257), (278, (1127, false), 1161), (281, (1150, false), 1169), (284, (1128, false), 1265), (287, (1151, false), 1157), (290, (1153, false), 1133), (293, (1152, false), 1165), (296, (1120, false), 1273)]
  | 12 => [(9, (1000, false), 125), (12, (1100, false), 907), (13, (1001, false), 386), (17, (1103, false), 1060), (18, (1002, false), 397), (22, (1106, false), 1067), (23, (1003, false), 419), (26, (1107, false), 1081), (27, (1004, false), 427), (30, (1108, false), 1085), (31, (1005, false), 431), (35, (1109, false), 1089), (36, (1006, false), 435), (39, (1114, false), 1093), (40, (1007, false), 472), (43, (1115, false), 1113), (44, (1008, false), 476), (47, (1116, false), 1117), (48, (1009, false), 480), (51, (1117, false), 1121), (52, (1010, false), 484), (56, (1118, false), 1125), (57, (1011, false), 501), (60, (1154, false), 1129), (61, (1012, false), 841), (64, (1155, false), 1269), (65, (1013, false), 853), (68, (1156, false), 1277), (69, (1014, false), 859), (72, (1157, false), 1281), (73, (1015, false), 863), (76, (1158, false), 1285), (77, (1016, false), 867), (80, (1159, false), 1289), (81, (1017, false), 871), (85, (1160, false), 1293), (86, (1018, false), 875), (89, (1161, false), 1297), (90, (1019, false), 879), (93, (1162, false), 1301), (94, (1020, false), 883), (97, (1163, false), 1305), (98, (1021, false), 892), (101, (1164, false), 1309), (102, (1022, false), 896), (105, (1165, false), 1313), (106, (1023, false), 901), (109, (1166, false), 1317)]
  | _ => []
def tbK : Nat → List (Nat × Nat × Nat) := fun own => match own with
  | 0 => [(9, 8, 664)]
  | 1 => [(9, 8, 269)]
  | 3 => [(9, 4, 137), (17, 6, 139), (24, 5, 163), (38, 1, 173), (44, 8, 175), (295, 7, 623), (304, 0, 658)]
  | 5 => [(14, 2, 756)]
  | 7 => [(10, 7, 630)]
  | 10 => [(7, 3, 131), (16, 9, 364), (23, 8, 374)]
  | 12 => [(7, 10, 123), (10, 11, 905)]
  | _ => []
def tbC : Nat → List (Nat × Int32 × Nat) := fun own => match own with
  | 7 => [(32, 65535, 714)]
  | 10 => [(118, 1000000, 580)]
  | 11 => [(91, 72000, 911), (219, 65535, 1212)]
  | _ => []
def lkF (own idx : Nat) : Option (Nat × Nat × Bool) := ((tbF own).find? (fun e => e.1 == idx)).map (fun e => e.2.1)
def lkS (own idx : Nat) : Option (Nat × Bool) := ((tbS own).find? (fun e => e.1 == idx)).map (fun e => e.2.1)
def lkM (own idx : Nat) : Option (Nat × Bool) := ((tbM own).find? (fun e => e.1 == idx)).map (fun e => e.2.1)
def lkK (own idx : Nat) : Option (Nat) := ((tbK own).find? (fun e => e.1 == idx)).map (fun e => e.2.1)
def lkC (own idx : Nat) : Option (Int32) := ((tbC own).find? (fun e => e.1 == idx)).map (fun e => e.2.1)
def cname : Nat → String := fun c => match c with
  | 0 => RX0
  | 1 => RX1
  | 2 => RX2
  | 3 => RX3
  | 4 => RX4
  | 5 => RX5
  | 6 => RX6
  | 7 => RX7
  | 8 => RX8
  | 9 => RX9
  | 10 => RX10
  | 11 => RX11
  | _ => "MarkedStepsLaw"
def fnum : Nat → Nat := fun c => match c with
  | 0 => 4
  | 1 => 7
  | 2 => 5
  | 3 => 16
  | 4 => 12
  | 5 => 1
  | 6 => 4
  | 7 => 4
  | 8 => 4
  | 9 => 1
  | 10 => 3
  | 11 => 49
  | _ => 0
def ftab : Nat → u_T := fun c => match c with
  | 0 => TX0
  | 1 => TX1
  | 2 => TX2
  | 3 => TX3
  | 4 => TX4
  | 5 => TX5
  | 6 => TX6
  | 7 => TX7
  | 8 => TX8
  | 9 => TX9
  | 10 => TX10
  | _ => TX11
def fty : Nat → Nat → FieldType := fun c => match c with
  | 0 => tyX0
  | 1 => tyX1
  | 2 => tyX2
  | 3 => tyX3
  | 4 => tyX4
  | 5 => tyX5
  | 6 => tyX6
  | 7 => tyX7
  | 8 => tyX8
  | 9 => tyX9
  | 10 => tyX10
  | _ => tyX11
def ffin (c k : Nat) : Bool := (ftab c k).2.2.2
/-- classes of which there are arrays: class, place of the word -/
def tbO : List (Nat × Nat) := [(1, 174), (4, 138), (7, 631), (8, 270)]
def lkO (ci : Nat) : Bool := tbO.any (fun e => e.1 == ci)
abbrev MRow : Type := ByteArray × Nat × Nat × Nat × Option FieldType × Nat × Nat × Bool × MethodName × Nat × Nat × Nat
def tbY0 : List MRow := [
  (cX0_init, 2, 2, 2, none, 2, 60, false, yX0_init, 662, 661, 0),
  (cX0_otherMark, 1, 0, 1, some .int, 1, 40, false, yX0_otherMark, 734, 733, 48),
  (cX0_timesHeld, 3, 0, 1, some .int, 1, 40, false, yX0_timesHeld, 852, 851, 67),
  (cX0_bodiesOfWeight, 1, 0, 1, some .int, 1, 40, false, yX0_bodiesOfWeight, 820, 819, 61),
  (cX0_weight, 3, 0, 1, some .int, 1, 40, false, yX0_weight, 824, 823, 62)]
def tbY1 : List MRow := [
  (cX1_init, 3, 2, 2, none, 2, 60, false, yX1_init, 267, 266, 0),
  (cX1_begin, 6, 0, 5, none, 2, 61, false, yX1_begin, 536, 535, 19),
  (cX1_named, 2, 0, 2, some (.object "MarkedSteps$Slot"), 1, 40, false, yX1_named, 574, 573, 27),
  (cX1_isBehindItsActs, 1, 0, 1, some .boolean, 1, 40, false, yX1_isBehindItsActs, 557, 556, 23),
  (cX1_give, 2, 0, 2, none, 2, 61, false, yX1_give, 800, 799, 57),
  (cX1_takeGiven, 2, 0, 2, none, 2, 61, false, yX1_takeGiven, 569, 568, 26)]
def tbY2 : List MRow := [
  (cX2_init, 1, 2, 1, none, 1, 40, false, yX2_init, 760, 759, 0)]
def tbY3 : List MRow := [
  (cX3_init, 2, 2, 1, none, 3, 82, false, yX3_init, 135, 134, 0),
  (cX3_lacksMember, 2, 0, 2, some .boolean, 1, 40, false, yX3_lacksMember, 404, 403, 1),
  (cX3_isWalked, 1, 0, 1, some .boolean, 1, 40, false, yX3_isWalked, 396, 395, 0),
  (cX3_top, 1, 0, 1, some (.object "MarkedSteps$Frame"), 1, 40, false, yX3_top, 553, 552, 22),
  (cX3_holdings, 3, 0, 1, some .int, 1, 40, false, yX3_holdings, 891, 890, 68),
  (cX3_begin, 4, 0, 4, some .int, 4, 110, false, yX3_begin, 512, 511, 14),
  (cX3_doActs, 4, 0, 2, some .int, 7, 183, false, yX3_doActs, 584, 583, 29),
  (cX3_doOneAct, 3, 0, 1, some .int, 6, 161, false, yX3_doOneAct, 588, 587, 30),
  (cX3_beginFrame, 5, 0, 4, some .boolean, 3, 86, false, yX3_beginFrame, 524, 523, 16),
  (cX3_endFrame, 2, 0, 1, none, 2, 63, false, yX3_endFrame, 561, 560, 24),
  (cX3_endFramesBehindTheirActs, 3, 0, 1, some .int, 3, 84, false, yX3_endFramesBehindTheirActs, 549, 548, 21),
  (cX3_goToHandler, 5, 0, 2, some .int, 4, 106, false, yX3_goToHandler, 831, 830, 63),
  (cX3_beginHandler, 4, 0, 4, some .int, 3, 83, false, yX3_beginHandler, 840, 839, 65),
  (cX3_stop, 2, 0, 1, some .int, 3, 84, false, yX3_stop, 579, 578, 28),
  (cX3_keepTrace, 2, 0, 2, none, 1, 40, false, yX3_keepTrace, 545, 544, 20),
  (cX3_perform, 9, 0, 2, some .int, 5, 133, false, yX3_perform, 592, 591, 31),
  (cX3_misfitAsNumbers, 3, 1, 2, some .int, 3, 80, false, yX3_misfitAsNumbers, 807, 806, 0),
  (cX3_reckon, 7, 1, 4, some .int, 4, 102, false, yX3_reckon, 827, 826, 0),
  (cX3_goTo, 3, 0, 3, some .int, 3, 83, false, yX3_goTo, 602, 601, 33),
  (cX3_branch, 5, 0, 4, some .int, 4, 105, false, yX3_branch, 606, 605, 34),
  (cX3_makeRow, 6, 0, 4, some .int, 3, 83, false, yX3_makeRow, 618, 617, 37),
  (cX3_makeCell, 3, 0, 3, some .int, 3, 83, false, yX3_makeCell, 657, 656, 40),
  (cX3_put, 5, 1, 3, some .int, 4, 101, false, yX3_put, 691, 690, 0),
  (cX3_get, 5, 1, 3, some .int, 4, 103, false, yX3_get, 717, 716, 0),
  (cX3_length, 3, 1, 2, some .int, 3, 81, false, yX3_length, 727, 726, 0),
  (cX3_field, 4, 1, 3, some .int, 3, 81, false, yX3_field, 730, 729, 0),
  (cX3_fill, 5, 1, 3, some .int, 3, 80, false, yX3_fill, 737, 736, 0),
  (cX3_enter, 4, 0, 3, some .int, 4, 106, false, yX3_enter, 747, 746, 50),
  (cX3_leave, 4, 0, 3, some .int, 2, 63, false, yX3_leave, 783, 782, 53),
  (cX3_throwOwn, 3, 0, 2, some .int, 3, 80, false, yX3_throwOwn, 791, 790, 55),
  (cX3_call, 4, 0, 4, some .int, 4, 110, false, yX3_call, 795, 794, 56),
  (cX3_note, 4, 0, 3, some .int, 4, 102, false, yX3_note, 804, 803, 58),
  (cX3_ask, 4, 0, 3, some .int, 3, 81, false, yX3_ask, 812, 811, 59),
  (cX3_weigh, 6, 0, 3, some .int, 3, 83, false, yX3_weigh, 816, 815, 60)]
def tbY4 : List MRow := [
  (cX4_init, 1, 2, 1, none, 1, 40, false, yX4_init, 206, 205, 0),
  (cX4_addAct, 5, 0, 5, some .int, 1, 40, false, yX4_addAct, 418, 417, 2),
  (cX4_addHandler, 5, 0, 5, some .int, 1, 40, false, yX4_addHandler, 426, 425, 3),
  (cX4_handlerHas, 3, 0, 3, some .boolean, 1, 40, false, yX4_handlerHas, 463, 462, 9),
  (cX4_firstHandlerOf, 4, 0, 3, some .int, 2, 62, false, yX4_firstHandlerOf, 835, 834, 64)]
def tbY5 : List MRow := [
  (cX5_init, 1, 2, 1, none, 1, 40, false, yX5_init, 167, 166, 0),
  (cX5_enter, 4, 0, 3, none, 3, 83, false, yX5_enter, 751, 750, 51),
  (cX5_leave, 4, 0, 3, some .boolean, 1, 40, false, yX5_leave, 787, 786, 54),
  (cX5_newHold, 4, 0, 3, some (.object "MarkedSteps$Hold"), 2, 60, false, yX5_newHold, 755, 754, 52),
  (cX5_leaveAll, 4, 0, 2, none, 1, 40, false, yX5_leaveAll, 565, 564, 25)]
def tbY6 : List MRow := [
  (cX6_init, 1, 2, 1, none, 1, 40, false, yX6_init, 143, 142, 0),
  (cX6_open, 3, 0, 2, none, 1, 40, false, yX6_open, 516, 515, 15),
  (cX6_takes, 3, 0, 2, some .boolean, 1, 40, true, yX6_takes, 532, 531, 18),
  (cX6_paysFor, 2, 0, 2, some .boolean, 2, 62, false, yX6_paysFor, 528, 527, 17),
  (cX6_paysForRow, 2, 0, 2, some .boolean, 2, 62, false, yX6_paysForRow, 622, 621, 38)]
def tbY7 : List MRow := [
  (cX7_init, 3, 2, 3, none, 1, 40, false, yX7_init, 627, 626, 0),
  (cX7_lacksCell, 2, 0, 2, some .boolean, 1, 40, false, yX7_lacksCell, 705, 704, 44),
  (cX7_narrowed, 2, 0, 2, some .int, 1, 40, false, yX7_narrowed, 713, 712, 46),
  (cX7_misfitInCell, 2, 0, 2, some .int, 3, 80, false, yX7_misfitInCell, 696, 695, 42),
  (cX7_copyFrom, 3, 0, 3, none, 2, 61, false, yX7_copyFrom, 709, 708, 45),
  (cX7_copyTo, 3, 0, 3, none, 3, 81, false, yX7_copyTo, 721, 720, 47)]
def tbY8 : List MRow := [
  (cX8_init, 1, 2, 1, none, 1, 40, false, yX8_init, 179, 178, 0),
  (cX8_becomeNothing, 1, 0, 1, none, 1, 40, false, yX8_becomeNothing, 491, 490, 10),
  (cX8_becomeNumber, 2, 0, 2, none, 2, 60, false, yX8_becomeNumber, 495, 494, 11),
  (cX8_becomeCell, 2, 0, 2, none, 2, 60, false, yX8_becomeCell, 688, 687, 41),
  (cX8_becomeRow, 2, 0, 2, none, 2, 60, false, yX8_becomeRow, 653, 652, 39),
  (cX8_copy, 2, 0, 2, none, 1, 40, false, yX8_copy, 500, 499, 12),
  (cX8_isNothing, 1, 0, 1, some .boolean, 1, 40, false, yX8_isNothing, 701, 700, 43),
  (cX8_isOf, 2, 0, 2, some .boolean, 2, 60, false, yX8_isOf, 741, 740, 49),
  (cX8_isSameAs, 2, 0, 2, some .boolean, 1, 40, false, yX8_isSameAs, 598, 597, 32),
  (cX8_measure, 1, 0, 1, some .int, 1, 40, false, yX8_measure, 848, 847, 66),
  (cX8_misfit, 1, 0, 1, some .int, 1, 40, false, yX8_misfit, 614, 613, 36),
  (cX8_misfitAsNumber, 1, 0, 1, some .int, 2, 60, false, yX8_misfitAsNumber, 610, 609, 35)]
def tbY9 : List MRow := [
  (cX9_init, 1, 2, 1, none, 1, 40, false, yX9_init, 368, 367, 0),
  (cX9_leastActThatLooksAtUnset, 5, 0, 3, some .int, 4, 111, false, yX9_leastActThatLooksAtUnset, 442, 441, 4),
  (cX9_passOver, 4, 0, 2, some .boolean, 3, 88, false, yX9_passOver, 450, 449, 6),
  (cX9_goOn, 5, 0, 3, some .boolean, 2, 64, false, yX9_goOn, 454, 453, 7),
  (cX9_goToHandlers, 5, 0, 3, some .boolean, 2, 64, false, yX9_goToHandlers, 459, 458, 8),
  (cX9_comeTo, 5, 0, 4, some .boolean, 1, 40, false, yX9_comeTo, 446, 445, 5),
  (cX9_lookedAt, 5, 1, 3, some .int, 2, 62, false, yX9_lookedAt, 466, 465, 0),
  (cX9_passedOn, 3, 1, 2, some .int, 1, 40, false, yX9_passedOn, 470, 469, 0)]
def tbY10 : List MRow := [
  (cX10_init, 2, 2, 1, none, 4, 103, false, yX10_init, 127, 126, 0),
  (cX10_member, 3, 0, 2, some .int, 2, 62, false, yX10_member, 389, 387, 388),
  (cX10_act, 7, 0, 6, some .int, 3, 86, false, yX10_act, 400, 398, 399),
  (cX10_handler, 7, 0, 6, some .int, 2, 64, false, yX10_handler, 422, 420, 421),
  (cX10_cut, 3, 0, 2, some .int, 2, 61, false, yX10_cut, 430, 428, 429),
  (cX10_price, 4, 0, 3, some .int, 2, 62, false, yX10_price, 434, 432, 433),
  (cX10_verify, 2, 0, 2, some .int, 5, 135, false, yX10_verify, 438, 436, 437),
  (cX10_info, 4, 0, 3, some .int, 2, 61, false, yX10_info, 475, 473, 474),
  (cX10_set, 4, 0, 3, some .int, 2, 62, false, yX10_set, 479, 477, 478),
  (cX10_plan, 2, 0, 2, some .int, 2, 62, false, yX10_plan, 483, 481, 482),
  (cX10_argument, 4, 0, 4, some .int, 3, 81, false, yX10_argument, 487, 485, 486),
  (cX10_run, 5, 0, 3, some .int, 8, 206, false, yX10_run, 504, 502, 503),
  (cX10_result, 3, 0, 2, some .int, 2, 62, false, yX10_result, 844, 842, 843),
  (cX10_into, 5, 0, 2, some .int, 4, 103, false, yX10_into, 856, 854, 855),
  (cX10_cell, 3, 0, 2, some .int, 2, 61, false, yX10_cell, 862, 860, 861),
  (cX10_counted, 2, 0, 2, some .int, 2, 62, false, yX10_counted, 866, 864, 865),
  (cX10_trace, 2, 0, 2, some .int, 1, 40, false, yX10_trace, 870, 868, 869),
  (cX10_left, 1, 0, 1, some .int, 1, 40, false, yX10_left, 874, 872, 873),
  (cX10_walk, 4, 0, 3, some .int, 5, 133, false, yX10_walk, 878, 876, 877),
  (cX10_step, 2, 0, 2, some .int, 8, 206, false, yX10_step, 882, 880, 881),
  (cX10_frame, 3, 0, 2, some .int, 2, 62, false, yX10_frame, 886, 884, 885),
  (cX10_register, 4, 0, 3, some .int, 2, 62, false, yX10_register, 895, 893, 894),
  (cX10_drop, 1, 0, 1, some .int, 4, 105, false, yX10_drop, 899, 897, 898),
  (cX10_told, 2, 0, 2, some .int, 2, 60, false, yX10_told, 904, 902, 903),
  (cX10_refusalToBegin, 3, 0, 3, some .int, 2, 62, false, yX10_refusalToBegin, 508, 507, 13),
  (cX10_isOutside, 3, 1, 3, some .boolean, 1, 40, false, yX10_isOutside, 392, 391, 0),
  (cX10_namesWrongRegister, 5, 1, 4, some .boolean, 2, 62, false, yX10_namesWrongRegister, 407, 406, 0),
  (cX10_namesWrongNumber, 4, 1, 4, some .boolean, 2, 62, false, yX10_namesWrongNumber, 414, 413, 0)]
def tbY11 : List MRow := [
  (cX11_init, 2, 2, 1, none, 1, 40, false, yX11_init, 909, 908, 0),
  (cX11_in, 3, 1, 3, some .boolean, 1, 40, false, yX11_in, 1066, 1065, 0),
  (cX11_isMember, 2, 0, 2, some .boolean, 2, 62, false, yX11_isMember, 1074, 1073, 69),
  (cX11_member, 2, 0, 2, some .int, 2, 62, false, yX11_member, 1063, 1061, 1062),
  (cX11_named, 1, 1, 1, some .int, 1, 40, false, yX11_named, 1080, 1079, 0),
  (cX11_isGood, 5, 1, 4, some .boolean, 2, 62, false, yX11_isGood, 1077, 1076, 0),
  (cX11_act, 7, 0, 6, some .int, 3, 86, false, yX11_act, 1070, 1068, 1069),
  (cX11_handler, 7, 0, 6, some .int, 3, 83, false, yX11_handler, 1084, 1082, 1083),
  (cX11_cut, 2, 0, 2, some .int, 3, 83, false, yX11_cut, 1088, 1086, 1087),
  (cX11_price, 4, 0, 3, some .int, 2, 62, false, yX11_price, 1092, 1090, 1091),
  (cX11_comes, 3, 0, 3, none, 1, 40, false, yX11_comes, 1108, 1107, 72),
  (cX11_looked, 9, 0, 2, some .int, 3, 83, false, yX11_looked, 1112, 1111, 73),
  (cX11_makes, 4, 0, 2, some .int, 1, 40, false, yX11_makes, 1104, 1103, 71),
  (cX11_spread, 8, 0, 3, none, 2, 63, false, yX11_spread, 1100, 1099, 70),
  (cX11_verify, 3, 0, 2, some .int, 4, 111, false, yX11_verify, 1096, 1094, 1095),
  (cX11_info, 3, 0, 3, some .int, 3, 83, false, yX11_info, 1116, 1114, 1115),
  (cX11_set, 4, 0, 3, some .int, 2, 62, false, yX11_set, 1120, 1118, 1119),
  (cX11_plan, 2, 0, 2, some .int, 2, 62, false, yX11_plan, 1124, 1122, 1123),
  (cX11_argument, 4, 0, 4, some .int, 2, 62, false, yX11_argument, 1128, 1126, 1127),
  (cX11_kindOf, 3, 0, 3, some .int, 1, 40, false, yX11_kindOf, 1236, 1235, 98),
  (cX11_toldOf, 3, 0, 3, some .int, 1, 40, false, yX11_toldOf, 1276, 1275, 107),
  (cX11_isOf, 5, 0, 4, some .boolean, 2, 62, false, yX11_isOf, 1232, 1231, 97),
  (cX11_pays, 3, 0, 2, some .boolean, 1, 40, true, yX11_pays, 1144, 1143, 76),
  (cX11_traces, 2, 0, 2, none, 1, 40, false, yX11_traces, 1148, 1147, 77),
  (cX11_release, 3, 0, 2, none, 1, 40, false, yX11_release, 1156, 1155, 79),
  (cX11_begins, 3, 0, 3, some .boolean, 2, 62, false, yX11_begins, 1140, 1139, 75),
  (cX11_stops, 2, 0, 1, none, 2, 62, false, yX11_stops, 1152, 1151, 78),
  (cX11_gives, 4, 0, 3, none, 2, 62, false, yX11_gives, 1164, 1163, 81),
  (cX11_throwsIt, 5, 0, 2, none, 3, 83, false, yX11_throwsIt, 1268, 1267, 106),
  (cX11_makes_, 3, 0, 3, none, 1, 40, false, yX11_makes_, 1176, 1175, 84),
  (cX11_against, 3, 0, 3, some .int, 1, 40, false, yX11_against, 1196, 1195, 89),
  (cX11_value, 2, 0, 2, some .int, 1, 40, false, yX11_value, 1184, 1183, 86),
  (cX11_againstBoth, 2, 0, 1, some .int, 2, 62, false, yX11_againstBoth, 1264, 1263, 105),
  (cX11_reckon, 5, 0, 2, some .int, 3, 83, false, yX11_reckon, 1260, 1259, 104),
  (cX11_goes, 3, 0, 2, some .int, 2, 62, false, yX11_goes, 1188, 1187, 87),
  (cX11_newRow, 3, 0, 1, some .int, 2, 62, false, yX11_newRow, 1200, 1199, 90),
  (cX11_newCell, 1, 0, 1, some .int, 2, 62, false, yX11_newCell, 1204, 1203, 91),
  (cX11_cut_, 2, 1, 2, some .int, 1, 40, false, yX11_cut_, 1211, 1210, 0),
  (cX11_put, 3, 0, 1, some .int, 2, 62, false, yX11_put, 1208, 1207, 92),
  (cX11_get, 4, 0, 1, some .int, 2, 62, false, yX11_get, 1216, 1215, 93),
  (cX11_field, 3, 0, 1, some .int, 2, 62, false, yX11_field, 1224, 1223, 95),
  (cX11_fill, 3, 0, 1, some .int, 2, 62, false, yX11_fill, 1228, 1227, 96),
  (cX11_monitor, 6, 0, 2, some .int, 2, 62, false, yX11_monitor, 1240, 1239, 99),
  (cX11_call, 4, 0, 1, some .int, 3, 84, false, yX11_call, 1244, 1243, 100),
  (cX11_note, 2, 0, 1, some .int, 2, 62, false, yX11_note, 1248, 1247, 101),
  (cX11_ask, 2, 0, 1, some .int, 2, 62, false, yX11_ask, 1252, 1251, 102),
  (cX11_weigh, 5, 0, 1, some .int, 2, 62, false, yX11_weigh, 1256, 1255, 103),
  (cX11_same, 2, 0, 1, some .int, 2, 62, false, yX11_same, 1180, 1179, 85),
  (cX11_branch, 2, 0, 1, some .int, 3, 84, false, yX11_branch, 1192, 1191, 88),
  (cX11_length, 2, 0, 1, some .int, 2, 62, false, yX11_length, 1220, 1219, 94),
  (cX11_does, 3, 0, 2, some .int, 4, 107, false, yX11_does, 1172, 1171, 83),
  (cX11_settle, 1, 0, 1, none, 3, 85, false, yX11_settle, 1160, 1159, 80),
  (cX11_goOn, 4, 0, 1, none, 5, 129, false, yX11_goOn, 1168, 1167, 82),
  (cX11_start, 4, 0, 3, none, 4, 105, false, yX11_start, 1136, 1135, 74),
  (cX11_run, 3, 0, 3, some .int, 6, 152, false, yX11_run, 1132, 1130, 1131),
  (cX11_result, 2, 0, 2, some .int, 2, 62, false, yX11_result, 1272, 1270, 1271),
  (cX11_into, 3, 0, 2, some .int, 2, 62, false, yX11_into, 1280, 1278, 1279),
  (cX11_cell, 2, 0, 2, some .int, 2, 62, false, yX11_cell, 1284, 1282, 1283),
  (cX11_counted, 2, 0, 2, some .int, 2, 62, false, yX11_counted, 1288, 1286, 1287),
  (cX11_trace, 2, 0, 2, some .int, 2, 62, false, yX11_trace, 1292, 1290, 1291),
  (cX11_left, 1, 0, 1, some .int, 1, 40, false, yX11_left, 1296, 1294, 1295),
  (cX11_walk, 3, 0, 3, some .int, 5, 128, false, yX11_walk, 1300, 1298, 1299),
  (cX11_step, 3, 0, 2, some .int, 6, 152, false, yX11_step, 1304, 1302, 1303),
  (cX11_frame, 4, 0, 2, some .int, 2, 62, false, yX11_frame, 1308, 1306, 1307),
  (cX11_register, 4, 0, 3, some .int, 2, 62, false, yX11_register, 1312, 1310, 1311),
  (cX11_drop, 1, 0, 1, some .int, 3, 83, false, yX11_drop, 1316, 1314, 1315),
  (cX11_told, 2, 0, 2, some .int, 2, 62, false, yX11_told, 1320, 1318, 1319)]
def tbY12 : List MRow := [
  (code, 4, 1, 1, some .boolean, 9, 230, false, ⟨"MarkedStepsLaw", "law", "([I)Z"⟩, 0, 0, 0)]
def tbY : Nat → List MRow := fun c => match c with
  | 0 => tbY0
  | 1 => tbY1
  | 2 => tbY2
  | 3 => tbY3
  | 4 => tbY4
  | 5 => tbY5
  | 6 => tbY6
  | 7 => tbY7
  | 8 => tbY8
  | 9 => tbY9
  | 10 => tbY10
  | 11 => tbY11
  | 12 => tbY12
  | _ => []
def mrow (m : Nat) : MRow := (tbY (m / 100)).getD (m % 100) (⟨#[]⟩, 0, 9, 0, none, 0, 0, true, ⟨"", "", ""⟩, 0, 0, 0)
def mcl (m : Nat) : Nat := m / 100
def mb (m : Nat) : ByteArray := (mrow m).1
def mxl (m : Nat) : Nat := (mrow m).2.1
def mkd (m : Nat) : Nat := (mrow m).2.2.1
def mnp (m : Nat) : Nat := (mrow m).2.2.2.1
def mret (m : Nat) : Option FieldType := (mrow m).2.2.2.2.1
def mrf (m : Nat) : Nat := (mrow m).2.2.2.2.2.1
def mrl (m : Nat) : Nat := (mrow m).2.2.2.2.2.2.1
def mlong (m : Nat) : Bool := (mrow m).2.2.2.2.2.2.2.1
def my (m : Nat) : MethodName := (mrow m).2.2.2.2.2.2.2.2.1
/-- who is called must be an object of the method's own class -/
def rcv (m : Nat) (as : List Value) (k : Nat → Nat) : Bool := match mkd m == 1 with
  | true => true
  | false => match as with
    | .ref a :: _ => k a == mcl m + 1
    | _ => false
def mini (m : Nat) : Bool := mkd m == 2
def mrra (m : Nat) : Bool := match mret m with
  | some (.object _) => true
  | some (.array _) => true
  | _ => false
end
section
/-! THE PURE MACHINE: a flat heap of numbers, and a bytecode interpreter over it.
Values: .int, .long, .ref a (a = 0: null; 0 < a < 4: an array that was there before; 4 ≤ a: a cell that was made), .retAddr 0: a local that isn't set.
Heap: next address, slots used, tags, lengths, ints, references. Tags: ci + 1 an object of class ci; 99 an int array of before; 100 an int array; 200 + ci an array of references to objects of class ci. -/
abbrev HP : Type := Nat × Nat × (Nat → Nat) × (Nat → Nat) × (Nat → Nat → Int32) × (Nat → Nat → Nat)
def hp_n (h : HP) : Nat := h.1
def hp_s (h : HP) : Nat := h.2.1
def hp_k (h : HP) : Nat → Nat := h.2.2.1
def hp_l (h : HP) : Nat → Nat := h.2.2.2.1
def hp_i (h : HP) : Nat → Nat → Int32 := h.2.2.2.2.1
def hp_a (h : HP) : Nat → Nat → Nat := h.2.2.2.2.2
def hp_u {α : Type} (f : Nat → Nat → α) (a k : Nat) (v : α) : Nat → Nat → α := fun b j => if b = a ∧ j = k then v else f b j
def hp_wi (h : HP) (a k : Nat) (v : Int32) : HP := (hp_n h, hp_s h, hp_k h, hp_l h, hp_u (hp_i h) a k v, hp_a h)
def hp_wa (h : HP) (a k : Nat) (v : Nat) : HP := (hp_n h, hp_s h, hp_k h, hp_l h, hp_i h, hp_u (hp_a h) a k v)
/-- a new cell of tag t, of length n, of s slots -/
def hp_mk (h : HP) (t n s : Nat) : HP := (hp_n h + 1, hp_s h + s, fun b => if b = hp_n h then t else hp_k h b, fun b => if b = hp_n h then n else hp_l h b, fun b j => if b = hp_n h then 0 else hp_i h b j, fun b j => if b = hp_n h then 0 else hp_a h b j)
/-- System.arraycopy of ints -/
def hp_cp (h : HP) (a sp b dp n : Nat) : HP := (hp_n h, hp_s h, hp_k h, hp_l h, fun c j => if c = b ∧ dp ≤ j ∧ j < dp + n then hp_i h a (sp + (j - dp)) else hp_i h c j, hp_a h)
theorem hp_n_wi (h : HP) (a k : Nat) (v : Int32) : hp_n (hp_wi h a k v) = hp_n h := rfl
theorem hp_s_wi (h : HP) (a k : Nat) (v : Int32) : hp_s (hp_wi h a k v) = hp_s h := rfl
theorem hp_k_wi (h : HP) (a k : Nat) (v : Int32) : hp_k (hp_wi h a k v) = hp_k h := rfl
theorem hp_l_wi (h : HP) (a k : Nat) (v : Int32) : hp_l (hp_wi h a k v) = hp_l h := rfl
theorem hp_i_wi (h : HP) (a k : Nat) (v : Int32) (b j : Nat) : hp_i (hp_wi h a k v) b j = if b = a ∧ j = k then v else hp_i h b j := rfl
theorem hp_a_wi (h : HP) (a k : Nat) (v : Int32) : hp_a (hp_wi h a k v) = hp_a h := rfl
theorem hp_n_wa (h : HP) (a k : Nat) (v : Nat) : hp_n (hp_wa h a k v) = hp_n h := rfl
theorem hp_s_wa (h : HP) (a k : Nat) (v : Nat) : hp_s (hp_wa h a k v) = hp_s h := rfl
theorem hp_k_wa (h : HP) (a k : Nat) (v : Nat) : hp_k (hp_wa h a k v) = hp_k h := rfl
theorem hp_l_wa (h : HP) (a k : Nat) (v : Nat) : hp_l (hp_wa h a k v) = hp_l h := rfl
theorem hp_i_wa (h : HP) (a k : Nat) (v : Nat) : hp_i (hp_wa h a k v) = hp_i h := rfl
theorem hp_a_wa (h : HP) (a k : Nat) (v : Nat) (b j : Nat) : hp_a (hp_wa h a k v) b j = if b = a ∧ j = k then v else hp_a h b j := rfl
theorem hp_n_mk (h : HP) (t n s : Nat) : hp_n (hp_mk h t n s) = hp_n h + 1 := rfl
theorem hp_s_mk (h : HP) (t n s : Nat) : hp_s (hp_mk h t n s) = hp_s h + s := rfl
theorem hp_k_mk (h : HP) (t n s : Nat) (b : Nat) : hp_k (hp_mk h t n s) b = if b = hp_n h then t else hp_k h b := rfl
theorem hp_l_mk (h : HP) (t n s : Nat) (b : Nat) : hp_l (hp_mk h t n s) b = if b = hp_n h then n else hp_l h b := rfl
theorem hp_i_mk (h : HP) (t n s : Nat) (b j : Nat) : hp_i (hp_mk h t n s) b j = if b = hp_n h then 0 else hp_i h b j := rfl
theorem hp_a_mk (h : HP) (t n s : Nat) (b j : Nat) : hp_a (hp_mk h t n s) b j = if b = hp_n h then 0 else hp_a h b j := rfl
theorem hp_n_cp (h : HP) (a sp b dp n : Nat) : hp_n (hp_cp h a sp b dp n) = hp_n h := rfl
theorem hp_s_cp (h : HP) (a sp b dp n : Nat) : hp_s (hp_cp h a sp b dp n) = hp_s h := rfl
theorem hp_k_cp (h : HP) (a sp b dp n : Nat) : hp_k (hp_cp h a sp b dp n) = hp_k h := rfl
theorem hp_l_cp (h : HP) (a sp b dp n : Nat) : hp_l (hp_cp h a sp b dp n) = hp_l h := rfl
theorem hp_i_cp (h : HP) (a sp b dp n : Nat) (c j : Nat) : hp_i (hp_cp h a sp b dp n) c j = if c = b ∧ dp ≤ j ∧ j < dp + n then hp_i h a (sp + (j - dp)) else hp_i h c j := rfl
theorem hp_a_cp (h : HP) (a sp b dp n : Nat) : hp_a (hp_cp h a sp b dp n) = hp_a h := rfl
/-- operands, top first -/
def s_i {α : Type} (S : List Value) (f : Int32 → List Value → Option α) : Option α := match S with
  | .int x :: S => f x S
  | _ => none
def s_j {α : Type} (S : List Value) (f : Int64 → List Value → Option α) : Option α := match S with
  | .long x :: S => f x S
  | _ => none
def s_a {α : Type} (S : List Value) (f : Nat → List Value → Option α) : Option α := match S with
  | .ref x :: S => f x S
  | _ => none
def s_v {α : Type} (S : List Value) (f : Value → List Value → Option α) : Option α := match S with
  | x :: S => f x S
  | _ => none
theorem s_i_some {α : Type} {S : List Value} {f : Int32 → List Value → Option α} {r : α} (h : s_i S f = some r) : ∃ x S', S = .int x :: S' ∧ f x S' = some r := by
  unfold s_i at h
  split at h
  · exact ⟨_, _, rfl, h⟩
  · cases h
theorem s_j_some {α : Type} {S : List Value} {f : Int64 → List Value → Option α} {r : α} (h : s_j S f = some r) : ∃ x S', S = .long x :: S' ∧ f x S' = some r := by
  unfold s_j at h
  split at h
  · exact ⟨_, _, rfl, h⟩
  · cases h
theorem s_a_some {α : Type} {S : List Value} {f : Nat → List Value → Option α} {r : α} (h : s_a S f = some r) : ∃ x S', S = .ref x :: S' ∧ f x S' = some r := by
  unfold s_a at h
  split at h
  · exact ⟨_, _, rfl, h⟩
  · cases h
theorem s_v_some {α : Type} {S : List Value} {f : Value → List Value → Option α} {r : α} (h : s_v S f = some r) : ∃ x S', S = x :: S' ∧ f x S' = some r := by
  unfold s_v at h
  split at h
  · exact ⟨_, _, rfl, h⟩
  · cases h
def gd {α : Type} (b : Bool) (x : Option α) : Option α := match b with
  | true => x
  | false => none
theorem gd_some {α : Type} {b : Bool} {x : Option α} {r : α} (h : gd b x = some r) : b = true ∧ x = some r := by
  cases b
  · cases h
  · exact ⟨rfl, h⟩
def isI (v : Value) : Bool := match v with
  | .int _ => true
  | _ => false
def isJ (v : Value) : Bool := match v with
  | .long _ => true
  | _ => false
def isA (v : Value) : Bool := match v with
  | .ref _ => true
  | _ => false
def lget (L : List Value) (k : Nat) : Value := L.getD k (.retAddr 0)
abbrev ix (j : Int32) : Nat := j.toNatClampNeg
/-- an index within -/
def inb (j : Int32) (n : Nat) : Bool := decide (0 ≤ j) && decide (ix j < n)
def okr (a : Nat) : Bool := a == 0 || decide (4 ≤ a)
def cnd (c : Jvm.ClassFile.Cond) (x y : Int32) : Bool := match c with
  | .eq => decide (x = y)
  | .ne => decide (¬ x = y)
  | .lt => decide (x < y)
  | .ge => decide (y ≤ x)
  | .gt => decide (y < x)
  | .le => decide (x ≤ y)
/-- a jump -/
def jmp (pc : Nat) (off : Int) (L S : List Value) (h : HP) : Option (Nat × List Value × List Value × HP) := gd (decide (0 ≤ (pc : Int) + off)) (some (((pc : Int) + off).toNat, L, S, h))
def jif (b : Bool) (pc : Nat) (off : Int) (L S : List Value) (h : HP) : Option (Nat × List Value × List Value × HP) := match b with
  | true => jmp pc off L S h
  | false => some (pc + 3, L, S, h)
def fval (ty : FieldType) (h : HP) (a k : Nat) : Value := match ty with
  | .int => .int (hp_i h a k)
  | .boolean => .int (hp_i h a k)
  | _ => .ref (hp_a h a k)
/-- what a field of a type may take, and the heap behind it -/
def fput (ty : FieldType) (h : HP) (a k : Nat) (v : Value) : Option HP := match ty, v with
  | .int, .int x => some (hp_wi h a k x)
  | .boolean, .int x => gd (x == 0 || x == 1) (some (hp_wi h a k x))
  | .object _, .ref b => some (hp_wa h a k b)
  | .array _, .ref b => some (hp_wa h a k b)
  | _, _ => none
def ld (t : Value → Bool) (L : List Value) (k pc : Nat) (S : List Value) (h : HP) : Option (Nat × List Value × List Value × HP) := gd (t (lget L k)) (some (pc, L, lget L k :: S, h))
def sto (m : Nat) (t : Value → Bool) (L : List Value) (k pc : Nat) (S : List Value) (h : HP) : Option (Nat × List Value × List Value × HP) := s_v S fun v S => gd (t v && !(mlong m) && decide (k < L.length)) (some (pc, L.set k v, S, h))
def ari (pc : Nat) (L S : List Value) (h : HP) (f : Int32 → Int32 → Int32) : Option (Nat × List Value × List Value × HP) := s_i S fun y S => s_i S fun x S => some (pc + 1, L, .int (f x y) :: S, h)
def arj (pc : Nat) (L S : List Value) (h : HP) (f : Int64 → Int64 → Value) : Option (Nat × List Value × List Value × HP) := s_j S fun y S => s_j S fun x S => some (pc + 1, L, f x y :: S, h)
/-- one instruction that is no call and no return -/
def stp (m pc : Nat) (i : Instr) (len : Nat) (L S : List Value) (h : HP) : Option (Nat × List Value × List Value × HP) := match i with
  | .iconst n => gd (len == 1) (some (pc + 1, L, .int (Int32.ofInt n) :: S, h))
  | .bipush n => gd (len == 2) (some (pc + 2, L, .int (Int8.ofInt n).toInt32 :: S, h))
  | .sipush n => gd (len == 3) (some (pc + 3, L, .int (Int16.ofInt n).toInt32 :: S, h))
  | .ldc idx => gd (len == 2) ((lkC (mcl m) idx).bind fun v => some (pc + 2, L, .int v :: S, h))
  | .aconst_null => gd (len == 1) (some (pc + 1, L, .ref 0 :: S, h))
  | .iload k => gd (len == 2) (ld isI L k (pc + 2) S h)
  | .iload_n k => gd (len == 1) (ld isI L k (pc + 1) S h)
  | .aload k => gd (len == 2) (ld isA L k (pc + 2) S h)
  | .aload_n k => gd (len == 1) (ld isA L k (pc + 1) S h)
  | .lload_n k => gd (len == 1) (ld isJ L k (pc + 1) S h)
  | .istore k => gd (len == 2) (sto m isI L k (pc + 2) S h)
  | .istore_n k => gd (len == 1) (sto m isI L k (pc + 1) S h)
  | .astore k => gd (len == 2) (sto m isA L k (pc + 2) S h)
  | .astore_n k => gd (len == 1) (sto m isA L k (pc + 1) S h)
  | .iinc k n => gd (len == 3 && !(mlong m) && decide (k < L.length)) (match lget L k with
    | .int x => some (pc + 3, L.set k (.int (x + Int32.ofInt n)), S, h)
    | _ => none)
  | .iadd => gd (len == 1) (ari pc L S h (fun x y => x + y))
  | .isub => gd (len == 1) (ari pc L S h (fun x y => x - y))
  | .imul => gd (len == 1) (ari pc L S h (fun x y => x * y))
  | .iand => gd (len == 1) (ari pc L S h (fun x y => x &&& y))
  | .ior => gd (len == 1) (ari pc L S h (fun x y => x ||| y))
  | .ixor => gd (len == 1) (ari pc L S h (fun x y => x ^^^ y))
  | .ishl => gd (len == 1) (ari pc L S h (fun x y => x <<< (y &&& 31)))
  | .idiv => gd (len == 1) (s_i S fun y S => s_i S fun x S => gd (!(y == 0)) (some (pc + 1, L, .int (x / y) :: S, h)))
  | .irem => gd (len == 1) (s_i S fun y S => s_i S fun x S => gd (!(y == 0)) (some (pc + 1, L, .int (x - x / y * y) :: S, h)))
  | .i2l => gd (len == 1) (s_i S fun x S => some (pc + 1, L, .long x.toInt64 :: S, h))
  | .l2i => gd (len == 1) (s_j S fun x S => some (pc + 1, L, .int x.toInt32 :: S, h))
  | .i2b => gd (len == 1) (s_i S fun x S => some (pc + 1, L, .int x.toInt8.toInt32 :: S, h))
  | .ladd => gd (len == 1) (arj pc L S h (fun x y => .long (x + y)))
  | .lmul => gd (len == 1) (arj pc L S h (fun x y => .long (x * y)))
  | .lcmp => gd (len == 1) (arj pc L S h (fun x y => .int (lg_cmp x y)))
  | .dup => gd (len == 1) (s_v S fun v S => gd (v.category == 1) (some (pc + 1, L, v :: v :: S, h)))
  | .pop => gd (len == 1) (s_v S fun v S => gd (v.category == 1) (some (pc + 1, L, S, h)))
  | .dup2 => gd (len == 1) (s_v S fun v S => s_v S fun w S => gd (v.category == 1 && w.category == 1) (some (pc + 1, L, v :: w :: v :: w :: S, h)))
  | .ifCond c off => gd (len == 3) (s_i S fun x S => jif (cnd c x 0) pc off L S h)
  | .if_icmp c off => gd (len == 3) (s_i S fun y S => s_i S fun x S => jif (cnd c x y) pc off L S h)
  | .ifnull off => gd (len == 3) (s_a S fun a S => jif (a == 0) pc off L S h)
  | .ifnonnull off => gd (len == 3) (s_a S fun a S => jif (!(a == 0)) pc off L S h)
  | .if_acmp .eq off => gd (len == 3) (s_a S fun b S => s_a S fun a S => gd (okr a && okr b) (jif (a == b) pc off L S h))
  | .if_acmp .ne off => gd (len == 3) (s_a S fun b S => s_a S fun a S => gd (okr a && okr b) (jif (!(a == b)) pc off L S h))
  | .goto off => gd (len == 3) (jmp pc off L S h)
  | .tableswitch d lo hi offs => s_i S fun x S => match decide (x.toInt < lo) || decide (hi < x.toInt) with
    | true => jmp pc d L S h
    | false => (offs[(x.toInt - lo).toNat]?).bind fun off => jmp pc off L S h
  | .lookupswitch d ps => s_i S fun x S => gd ((ps.toList.zip (ps.toList.drop 1)).all (fun (a, next) => a.1 < next.1)) (jmp pc (Op.lookupswitch.offset ps.toList d x.toInt) L S h)
  | .getfield idx => gd (len == 3) ((lkF (mcl m) idx).bind fun f => s_a S fun a S => gd (hp_k h a == f.1 + 1) (some (pc + 3, L, fval (fty f.1 f.2.1) h a f.2.1 :: S, h)))
  | .putfield idx => gd (len == 3) ((lkF (mcl m) idx).bind fun f => s_v S fun v S => s_a S fun a S => gd (hp_k h a == f.1 + 1 && (!(ffin f.1 f.2.1) || (mini m && mcl m == f.1 && !f.2.2))) ((fput (fty f.1 f.2.1) h a f.2.1 v).bind fun h' => some (pc + 3, L, S, h')))
  | .getstatic idx => gd (len == 3) ((lkS (mcl m) idx).bind fun f => some (pc + 3, L, .ref f.1 :: S, h))
  | .iaload => gd (len == 1) (s_i S fun j S => s_a S fun a S => gd ((hp_k h a == 100 || hp_k h a == 99) && inb j (hp_l h a)) (some (pc + 1, L, .int (hp_i h a (ix j)) :: S, h)))
  | .iastore => gd (len == 1) (s_i S fun x S => s_i S fun j S => s_a S fun a S => gd (hp_k h a == 100 && inb j (hp_l h a)) (some (pc + 1, L, S, hp_wi h a (ix j) x)))
  | .aaload => gd (len == 1) (s_i S fun j S => s_a S fun a S => gd (decide (200 ≤ hp_k h a) && inb j (hp_l h a)) (some (pc + 1, L, .ref (hp_a h a (ix j)) :: S, h)))
  | .aastore => gd (len == 1) (s_a S fun v S => s_i S fun j S => s_a S fun a S => gd (decide (200 ≤ hp_k h a) && inb j (hp_l h a) && (v == 0 || hp_k h v + 199 == hp_k h a)) (some (pc + 1, L, S, hp_wa h a (ix j) v)))
  | .arraylength => gd (len == 1) (s_a S fun a S => gd (decide (99 ≤ hp_k h a)) (some (pc + 1, L, .int (Int32.ofNat (hp_l h a)) :: S, h)))
  | .newarray .int => gd (len == 2) (s_i S fun j S => gd (decide (0 ≤ j) && decide (ix j ≤ 134217728)) (some (pc + 2, L, .ref (hp_n h) :: S, hp_mk h 100 (ix j) (ix j))))
  | .anewarray idx => gd (len == 3) ((lkK (mcl m) idx).bind fun ci => s_i S fun j S => gd (lkO ci && decide (0 ≤ j) && decide (ix j ≤ 134217728)) (some (pc + 3, L, .ref (hp_n h) :: S, hp_mk h (200 + ci) (ix j) (ix j))))
  | .new idx => gd (len == 3) ((lkK (mcl m) idx).bind fun ci => some (pc + 3, L, .ref (hp_n h) :: S, hp_mk h (ci + 1) 0 (fnum ci)))
  | .invokespecial idx => gd (len == 3) ((lkM (mcl m) idx).bind fun t => gd (t.1 == 9000 && !t.2) (s_a S fun a S => gd (!(a == 0) && decide ((S.map Value.category).sum ≤ 8)) (some (pc + 3, L, S, h))))
  | .invokestatic idx => gd (len == 3) ((lkM (mcl m) idx).bind fun t => match t.1 == 9001 with
    | true => gd (!t.2) (s_i S fun y S => s_i S fun x S => gd (decide ((S.map Value.category).sum ≤ 8)) (some (pc + 3, L, .int (if x < y then y else x) :: S, h)))
    | false => gd (t.1 == 9002 && !t.2) (s_i S fun n S => s_i S fun dp S => s_a S fun b S => s_i S fun sp S => s_a S fun a S => gd (hp_k h a == 100 && hp_k h b == 100 && decide (0 ≤ sp) && decide (0 ≤ dp) && decide (0 ≤ n) && decide (ix sp + ix n ≤ hp_l h a) && decide (ix dp + ix n ≤ hp_l h b) && decide ((S.map Value.category).sum ≤ 8)) (some (pc + 3, L, S, hp_cp h a (ix sp) b (ix dp) (ix n)))))
  | _ => none
/-- a method's end: what it answers -/
def rets (m : Nat) (i : Instr) (len : Nat) (S : List Value) : Option (Option Value) := match i, S with
  | .return_, [] => gd (len == 1 && mret m == none) (some none)
  | .ireturn, [.int x] => gd (len == 1 && (mret m == some .int || (mret m == some .boolean && (x == 0 || x == 1)))) (some (some (.int x)))
  | .areturn, [.ref a] => gd (len == 1 && mrra m) (some (some (.ref a)))
  | _, _ => none
/-- a call: who is called, with what, and what stays on the stack -/
def kcl (i : Instr) : Option (Nat × Nat) := match i with
  | .invokevirtual idx => some (0, idx)
  | .invokestatic idx => some (1, idx)
  | .invokespecial idx => some (2, idx)
  | _ => none
def call (m : Nat) (i : Instr) (len : Nat) (S : List Value) (h : HP) : Option (Nat × List Value × List Value) :=
  (kcl i).bind fun k => (lkM (mcl m) k.2).bind fun t => gd (len == 3 && decide (t.1 < 9000) && mkd t.1 == k.1 && decide (mrf t.1 < mrf m) && decide (8 + (mxl t.1 + 11) + mrl t.1 ≤ mrl m) && decide (mnp t.1 ≤ S.length) && decide (((S.drop (mnp t.1)).map Value.category).sum ≤ 8) && (mlong t.1 || (S.take (mnp t.1)).all (fun v => v.category == 1))) (gd (rcv t.1 (S.take (mnp t.1)).reverse (hp_k h)) (some (t.1, (S.take (mnp t.1)).reverse, S.drop (mnp t.1))))
/-- the locals at a method's beginning -/
def lay (as : List Value) : List Value := match as with
  | [] => []
  | .long x :: as => .long x :: .retAddr 0 :: lay as
  | v :: as => v :: lay as
def locs0 (m : Nat) (as : List Value) : List Value := lay as ++ List.replicate (mxl m - (lay as).length) (.retAddr 0)
def prun : Nat → Nat → Nat → List Value → List Value → HP → Option (Option Value × HP)
  | 0, _, _, _, _, _ => none
  | k + 1, m, pc, L, S, h => match decode (mb m) pc with
    | .error _ => none
    | .ok (i, len) => match rets m i len S with
      | some r => some (r, h)
      | none => match call m i len S h with
        | some (m', as, S') => match prun k m' 0 (locs0 m' as) [] h with
          | none => none
          | some (r, h') => prun k m (pc + 3) L (r.toList ++ S') h'
        | none => match stp m pc i len L S h with
          | none => none
          | some (pc', L', S', h') => prun k m pc' L' S' h'
end
section
/-! THE PURE MACHINE WITHOUT FUEL -/
theorem prun_succ : ∀ (k m pc : Nat) (L S : List Value) (h : HP) (r : Option Value × HP), prun k m pc L S h = some r → prun (k + 1) m pc L S h = some r := by
  intro k
  induction k with
  | zero => intro m pc L S h r e; cases e
  | succ k ih =>
    intro m pc L S h r e
    rw [prun] at e ⊢
    cases hd : decode (mb m) pc with
    | error x => rw [hd] at e; cases e
    | ok q =>
      obtain ⟨i, len⟩ := q
      rw [hd] at e
      simp only at e ⊢
      cases hr : rets m i len S with
      | some r0 => rw [hr] at e; exact e
      | none =>
        rw [hr] at e
        simp only at e ⊢
        cases hc : call m i len S h with
        | some q =>
          obtain ⟨m', as, S'⟩ := q
          rw [hc] at e
          simp only at e ⊢
          cases h1 : prun k m' 0 (locs0 m' as) [] h with
          | none => rw [h1] at e; cases e
          | some q1 =>
            obtain ⟨r1, h1'⟩ := q1
            rw [h1] at e
            rw [ih _ _ _ _ _ _ h1]
            exact ih _ _ _ _ _ _ e
        | none =>
          rw [hc] at e
          simp only at e ⊢
          cases hs : stp m pc i len L S h with
          | none => rw [hs] at e; cases e
          | some q1 =>
            obtain ⟨pc', L', S', h'⟩ := q1
            rw [hs] at e
            exact ih _ _ _ _ _ _ e
theorem prun_le {k k' m pc : Nat} {L S : List Value} {h : HP} {r : Option Value × HP} (hk : k ≤ k') (e : prun k m pc L S h = some r) : prun k' m pc L S h = some r := by
  induction hk with
  | refl => exact e
  | step _ ih => exact prun_succ _ _ _ _ _ _ _ ih
/-- what a method answers from a place on, and the heap behind it; none: it doesn't end, or something isn't as it should be -/
noncomputable def pX (m pc : Nat) (L S : List Value) (h : HP) : Option (Option Value × HP) := @dite (Option (Option Value × HP)) (∃ k r, prun k m pc L S h = some r) (Classical.propDecidable _) (fun hx => some hx.choose_spec.choose) (fun _ => none)
theorem prun_det {k k' m pc : Nat} {L S : List Value} {h : HP} {r r' : Option Value × HP} (e : prun k m pc L S h = some r) (e' : prun k' m pc L S h = some r') : r = r' := by
  have a := prun_le (Nat.le_max_left k k') e
  have b := prun_le (Nat.le_max_right k k') e'
  rw [a] at b
  exact Option.some.inj b
theorem pX_of {k m pc : Nat} {L S : List Value} {h : HP} {r : Option Value × HP} (e : prun k m pc L S h = some r) : pX m pc L S h = some r := by
  have hx : ∃ k r, prun k m pc L S h = some r := ⟨k, r, e⟩
  unfold pX
  rw [dif_pos hx]
  exact congrArg some (prun_det hx.choose_spec.choose_spec e)
theorem pX_some {m pc : Nat} {L S : List Value} {h : HP} {r : Option Value × HP} (e : pX m pc L S h = some r) : ∃ k, prun k m pc L S h = some r := by
  unfold pX at e
  split at e
  · rename_i hx
    cases Option.some.inj e
    exact ⟨_, hx.choose_spec.choose_spec⟩
  · cases e
theorem pX_congr {m pc m' pc' : Nat} {L S L' S' : List Value} {h h' : HP} (a : ∀ k r, prun k m pc L S h = some r → ∃ k', prun k' m' pc' L' S' h' = some r) (b : ∀ k r, prun k m' pc' L' S' h' = some r → ∃ k', prun k' m pc L S h = some r) : pX m pc L S h = pX m' pc' L' S' h' := by
  cases e : pX m pc L S h with
  | some r =>
    obtain ⟨k, hk⟩ := pX_some e
    obtain ⟨k', hk'⟩ := a k r hk
    exact (pX_of hk').symm
  | none =>
    cases e' : pX m' pc' L' S' h' with
    | none => rfl
    | some r =>
      obtain ⟨k, hk⟩ := pX_some e'
      obtain ⟨k', hk'⟩ := b k r hk
      rw [pX_of hk'] at e
      cases e
theorem pX_ret {m pc len : Nat} {i : Instr} {L S : List Value} {h : HP} {r : Option Value} (hd : decode (mb m) pc = .ok (i, len)) (hr : rets m i len S = some r) : pX m pc L S h = some (r, h) := by
  refine pX_of (k := 1) ?_
  rw [prun, hd]
  simp only [hr]
theorem pX_stp {m pc len : Nat} {i : Instr} {L S : List Value} {h : HP} {pc' : Nat} {L' S' : List Value} {h' : HP} (hd : decode (mb m) pc = .ok (i, len)) (hr : rets m i len S = none) (hc : call m i len S h = none) (hs : stp m pc i len L S h = some (pc', L', S', h')) : pX m pc L S h = pX m pc' L' S' h' := by
  refine pX_congr (fun k r e => ?_) (fun k r e => ⟨k + 1, ?_⟩)
  · cases k with
    | zero => cases e
    | succ k =>
      rw [prun, hd] at e
      simp only [hr, hc, hs] at e
      exact ⟨k, e⟩
  · rw [prun, hd]
    simp only [hr, hc, hs]
    exact e
theorem pX_call {m pc len : Nat} {i : Instr} {L S : List Value} {h : HP} {m' : Nat} {as S' : List Value} {r : Option Value} {h' : HP} (hd : decode (mb m) pc = .ok (i, len)) (hr : rets m i len S = none) (hc : call m i len S h = some (m', as, S')) (hx : pX m' 0 (locs0 m' as) [] h = some (r, h')) : pX m pc L S h = pX m (pc + 3) L (r.toList ++ S') h' := by
  obtain ⟨k0, hk0⟩ := pX_some hx
  refine pX_congr (fun k r1 e => ?_) (fun k r1 e => ⟨max k k0 + 1, ?_⟩)
  · cases k with
    | zero => cases e
    | succ k =>
      rw [prun, hd] at e
      simp only [hr, hc] at e
      cases h1 : prun k m' 0 (locs0 m' as) [] h with
      | none => rw [h1] at e; cases e
      | some q =>
        rw [h1] at e
        cases prun_det h1 hk0
        exact ⟨k, e⟩
  · rw [prun, hd]
    simp only [hr, hc, prun_le (Nat.le_max_right k k0) hk0]
    exact prun_le (Nat.le_max_left k k0) e
theorem pX_callb {m pc len : Nat} {i : Instr} {L S : List Value} {h : HP} {m' : Nat} {as S' : List Value} (hd : decode (mb m) pc = .ok (i, len)) (hr : rets m i len S = none) (hc : call m i len S h = some (m', as, S')) : pX m pc L S h = (pX m' 0 (locs0 m' as) [] h).bind (fun q => pX m (pc + 3) L (q.1.toList ++ S') q.2) := by
  cases hx : pX m' 0 (locs0 m' as) [] h with
  | some q => exact pX_call hd hr hc hx
  | none =>
    show _ = none
    cases e : pX m pc L S h with
    | none => rfl
    | some r =>
      obtain ⟨k, hk⟩ := pX_some e
      cases k with
      | zero => cases hk
      | succ k =>
        rw [prun, hd] at hk
        simp only [hr, hc] at hk
        cases h1 : prun k m' 0 (locs0 m' as) [] h with
        | none => rw [h1] at hk; cases hk
        | some q => rw [pX_of h1] at hx; cases hx
end
section
/-! A ROW FOR EACH KIND OF INSTRUCTION -/
theorem gd_t {α : Type} {b : Bool} {x : Option α} (hb : b = true) : gd b x = x := by subst hb; rfl
theorem gdk {α : Type} {h : HP} {a t : Nat} {x : Option α} (hk : hp_k h a = t) : gd (hp_k h a == t) x = x := gd_t (beq_iff_eq.mpr hk)
theorem beq_n {α : Type} [BEq α] [LawfulBEq α] {a b : α} (h : ¬ a = b) : (a == b) = false := by simpa using h
section Rows
variable {m pc : Nat} {L S : List Value} {h : HP}
theorem pX_iconst {n : Int} {v : Int32} (hd : decode (mb m) pc = .ok (.iconst n, 1)) (hv : Int32.ofInt n = v) : pX m pc L S h = pX m (pc + 1) L (.int v :: S) h := by
  subst hv; exact pX_stp hd rfl rfl rfl
theorem pX_bipush {n : Int} {v : Int32} (hd : decode (mb m) pc = .ok (.bipush n, 2)) (hv : (Int8.ofInt n).toInt32 = v) : pX m pc L S h = pX m (pc + 2) L (.int v :: S) h := by
  subst hv; exact pX_stp hd rfl rfl rfl
theorem pX_sipush {n : Int} {v : Int32} (hd : decode (mb m) pc = .ok (.sipush n, 3)) (hv : (Int16.ofInt n).toInt32 = v) : pX m pc L S h = pX m (pc + 3) L (.int v :: S) h := by
  subst hv; exact pX_stp hd rfl rfl rfl
theorem pX_ldc {idx : Nat} {v : Int32} (hd : decode (mb m) pc = .ok (.ldc idx, 2)) (hv : lkC (mcl m) idx = some v) : pX m pc L S h = pX m (pc + 2) L (.int v :: S) h :=
  pX_stp hd rfl rfl (by simp [stp, hv, gd])
theorem pX_iinc {k : Nat} {n : Int} {v x : Int32} {L' : List Value} (hd : decode (mb m) pc = .ok (.iinc k n, 3)) (hv : Int32.ofInt n = v) (hl : mlong m = false) (hk : k < L.length) (hg : lget L k = .int x) (hL : L.set k (.int (x + v)) = L') : pX m pc L S h = pX m (pc + 3) L' S h := by
  subst hv; subst hL; exact pX_stp hd rfl rfl (by simp [stp, hl, hk, hg, gd])
theorem pX_if {c : Jvm.ClassFile.Cond} {off : Int} {t : Nat} {x : Int32} (hd : decode (mb m) pc = .ok (.ifCond c off, 3)) (ht : (pc : Int) + off = (t : Int)) : pX m pc L (.int x :: S) h = if cnd c x 0 = true then pX m t L S h else pX m (pc + 3) L S h := by
  by_cases hc : cnd c x 0 = true
  · rw [if_pos hc]
    exact pX_stp hd rfl rfl (by simp [stp, s_i, jif, hc, jmp, gd, ht])
  · rw [if_neg hc]
    exact pX_stp hd rfl rfl (by simp [stp, s_i, jif, hc, gd])
theorem pX_icmp {c : Jvm.ClassFile.Cond} {off : Int} {t : Nat} {x y : Int32} (hd : decode (mb m) pc = .ok (.if_icmp c off, 3)) (ht : (pc : Int) + off = (t : Int)) : pX m pc L (.int y :: .int x :: S) h = if cnd c x y = true then pX m t L S h else pX m (pc + 3) L S h := by
  by_cases hc : cnd c x y = true
  · rw [if_pos hc]
    exact pX_stp hd rfl rfl (by simp [stp, s_i, jif, hc, jmp, gd, ht])
  · rw [if_neg hc]
    exact pX_stp hd rfl rfl (by simp [stp, s_i, jif, hc, gd])
theorem if_dec {α : Type} {p : Prop} [Decidable p] {a b : α} : (if decide p = true then a else b) = if p then a else b := by simp
theorem pX_if_eq {off : Int} {t : Nat} {x : Int32} (hd : decode (mb m) pc = .ok (.ifCond .eq off, 3)) (ht : (pc : Int) + off = (t : Int)) : pX m pc L (.int x :: S) h = if x = 0 then pX m t L S h else pX m (pc + 3) L S h := (pX_if hd ht).trans if_dec
theorem pX_if_ne {off : Int} {t : Nat} {x : Int32} (hd : decode (mb m) pc = .ok (.ifCond .ne off, 3)) (ht : (pc : Int) + off = (t : Int)) : pX m pc L (.int x :: S) h = if x = 0 then pX m (pc + 3) L S h else pX m t L S h := by
  rw [pX_if hd ht]; by_cases hx : x = 0 <;> simp [cnd, hx]
theorem pX_if_lt {off : Int} {t : Nat} {x : Int32} (hd : decode (mb m) pc = .ok (.ifCond .lt off, 3)) (ht : (pc : Int) + off = (t : Int)) : pX m pc L (.int x :: S) h = if x < 0 then pX m t L S h else pX m (pc + 3) L S h := (pX_if hd ht).trans if_dec
theorem pX_if_ge {off : Int} {t : Nat} {x : Int32} (hd : decode (mb m) pc = .ok (.ifCond .ge off, 3)) (ht : (pc : Int) + off = (t : Int)) : pX m pc L (.int x :: S) h = if 0 ≤ x then pX m t L S h else pX m (pc + 3) L S h := (pX_if hd ht).trans if_dec
theorem pX_if_gt {off : Int} {t : Nat} {x : Int32} (hd : decode (mb m) pc = .ok (.ifCond .gt off, 3)) (ht : (pc : Int) + off = (t : Int)) : pX m pc L (.int x :: S) h = if 0 < x then pX m t L S h else pX m (pc + 3) L S h := (pX_if hd ht).trans if_dec
theorem pX_if_le {off : Int} {t : Nat} {x : Int32} (hd : decode (mb m) pc = .ok (.ifCond .le off, 3)) (ht : (pc : Int) + off = (t : Int)) : pX m pc L (.int x :: S) h = if x ≤ 0 then pX m t L S h else pX m (pc + 3) L S h := (pX_if hd ht).trans if_dec
theorem pX_icmp_eq {off : Int} {t : Nat} {x y : Int32} (hd : decode (mb m) pc = .ok (.if_icmp .eq off, 3)) (ht : (pc : Int) + off = (t : Int)) : pX m pc L (.int y :: .int x :: S) h = if x = y then pX m t L S h else pX m (pc + 3) L S h := (pX_icmp hd ht).trans if_dec
theorem pX_icmp_ne {off : Int} {t : Nat} {x y : Int32} (hd : decode (mb m) pc = .ok (.if_icmp .ne off, 3)) (ht : (pc : Int) + off = (t : Int)) : pX m pc L (.int y :: .int x :: S) h = if x = y then pX m (pc + 3) L S h else pX m t L S h := by
  rw [pX_icmp hd ht]; by_cases hx : x = y <;> simp [cnd, hx]
theorem pX_icmp_lt {off : Int} {t : Nat} {x y : Int32} (hd : decode (mb m) pc = .ok (.if_icmp .lt off, 3)) (ht : (pc : Int) + off = (t : Int)) : pX m pc L (.int y :: .int x :: S) h = if x < y then pX m t L S h else pX m (pc + 3) L S h := (pX_icmp hd ht).trans if_dec
theorem pX_icmp_ge {off : Int} {t : Nat} {x y : Int32} (hd : decode (mb m) pc = .ok (.if_icmp .ge off, 3)) (ht : (pc : Int) + off = (t : Int)) : pX m pc L (.int y :: .int x :: S) h = if y ≤ x then pX m t L S h else pX m (pc + 3) L S h := (pX_icmp hd ht).trans if_dec
theorem pX_icmp_gt {off : Int} {t : Nat} {x y : Int32} (hd : decode (mb m) pc = .ok (.if_icmp .gt off, 3)) (ht : (pc : Int) + off = (t : Int)) : pX m pc L (.int y :: .int x :: S) h = if y < x then pX m t L S h else pX m (pc + 3) L S h := (pX_icmp hd ht).trans if_dec
theorem pX_icmp_le {off : Int} {t : Nat} {x y : Int32} (hd : decode (mb m) pc = .ok (.if_icmp .le off, 3)) (ht : (pc : Int) + off = (t : Int)) : pX m pc L (.int y :: .int x :: S) h = if x ≤ y then pX m t L S h else pX m (pc + 3) L S h := (pX_icmp hd ht).trans if_dec
theorem pX_ifnull {off : Int} {t a : Nat} (hd : decode (mb m) pc = .ok (.ifnull off, 3)) (ht : (pc : Int) + off = (t : Int)) : pX m pc L (.ref a :: S) h = if a = 0 then pX m t L S h else pX m (pc + 3) L S h := by
  by_cases hc : a = 0
  · rw [if_pos hc]
    exact pX_stp hd rfl rfl (by simp [stp, s_a, jif, hc, jmp, gd, ht])
  · rw [if_neg hc]
    exact pX_stp hd rfl rfl (by simp [stp, s_a, jif, beq_n hc, gd])
theorem pX_ifnonnull {off : Int} {t a : Nat} (hd : decode (mb m) pc = .ok (.ifnonnull off, 3)) (ht : (pc : Int) + off = (t : Int)) : pX m pc L (.ref a :: S) h = if a = 0 then pX m (pc + 3) L S h else pX m t L S h := by
  by_cases hc : a = 0
  · rw [if_pos hc]
    exact pX_stp hd rfl rfl (by simp [stp, s_a, jif, hc, gd])
  · rw [if_neg hc]
    exact pX_stp hd rfl rfl (by simp [stp, s_a, jif, beq_n hc, jmp, gd, ht])
theorem pX_acmp_eq {off : Int} {t a b : Nat} (hd : decode (mb m) pc = .ok (.if_acmp .eq off, 3)) (ht : (pc : Int) + off = (t : Int)) (ha : okr a = true) (hb : okr b = true) : pX m pc L (.ref b :: .ref a :: S) h = if a = b then pX m t L S h else pX m (pc + 3) L S h := by
  by_cases hc : a = b
  · rw [if_pos hc]
    exact pX_stp hd rfl rfl (by simp [stp, s_a, jif, ha, hb, hc, jmp, gd, ht])
  · rw [if_neg hc]
    exact pX_stp hd rfl rfl (by simp [stp, s_a, jif, ha, hb, beq_n hc, gd])
theorem pX_acmp_ne {off : Int} {t a b : Nat} (hd : decode (mb m) pc = .ok (.if_acmp .ne off, 3)) (ht : (pc : Int) + off = (t : Int)) (ha : okr a = true) (hb : okr b = true) : pX m pc L (.ref b :: .ref a :: S) h = if a = b then pX m (pc + 3) L S h else pX m t L S h := by
  by_cases hc : a = b
  · rw [if_pos hc]
    exact pX_stp hd rfl rfl (by simp [stp, s_a, jif, ha, hb, hc, gd])
  · rw [if_neg hc]
    exact pX_stp hd rfl rfl (by simp [stp, s_a, jif, ha, hb, beq_n hc, jmp, gd, ht])
theorem pX_goto {off : Int} {t : Nat} (hd : decode (mb m) pc = .ok (.goto off, 3)) (ht : (pc : Int) + off = (t : Int)) : pX m pc L S h = pX m t L S h := pX_stp hd rfl rfl (by simp [stp, jmp, gd, ht])
theorem pX_tabIn {d lo hi off : Int} {offs : Array Int} {len t : Nat} {x : Int32} (hd : decode (mb m) pc = .ok (.tableswitch d lo hi offs, len)) (h1 : ¬ x.toInt < lo) (h2 : ¬ hi < x.toInt) (ho : offs[(x.toInt - lo).toNat]? = some off) (ht : (pc : Int) + off = (t : Int)) : pX m pc L (.int x :: S) h = pX m t L S h := pX_stp hd rfl rfl (by simp [stp, s_i, jmp, gd, ht, h1, h2, ho])
theorem pX_tabOut {d lo hi : Int} {offs : Array Int} {len t : Nat} {x : Int32} (hd : decode (mb m) pc = .ok (.tableswitch d lo hi offs, len)) (h1 : x.toInt < lo ∨ hi < x.toInt) (ht : (pc : Int) + d = (t : Int)) : pX m pc L (.int x :: S) h = pX m t L S h := by
  refine pX_stp hd rfl rfl ?_
  have e : (decide (x.toInt < lo) || decide (hi < x.toInt)) = true := by simpa using h1
  simp [stp, s_i, jmp, gd, ht, e]
theorem pX_look {d off : Int} {ps : Array (Int × Int)} {len t : Nat} {x : Int32} (hd : decode (mb m) pc = .ok (.lookupswitch d ps, len)) (hp : (ps.toList.zip (ps.toList.drop 1)).all (fun (a, next) => a.1 < next.1) = true) (ho : Op.lookupswitch.offset ps.toList d x.toInt = off) (ht : (pc : Int) + off = (t : Int)) : pX m pc L (.int x :: S) h = pX m t L S h := by
  refine pX_stp hd rfl rfl ?_
  show gd _ _ = _
  rw [gd_t hp, ho]
  simp [jmp, gd, ht]
theorem pX_get {idx ci k a : Nat} {b : Bool} {v : Value} (hd : decode (mb m) pc = .ok (.getfield idx, 3)) (hf : lkF (mcl m) idx = some (ci, k, b)) (hv : fval (fty ci k) h a k = v) (hk : hp_k h a = ci + 1) : pX m pc L (.ref a :: S) h = pX m (pc + 3) L (v :: S) h := by
  subst hv; exact pX_stp hd rfl rfl (by simp [stp, s_a, hf, gd, hk])
theorem pX_put {idx ci k a : Nat} {b : Bool} {v : Value} {h' : HP} (hd : decode (mb m) pc = .ok (.putfield idx, 3)) (hf : lkF (mcl m) idx = some (ci, k, b)) (hw : (!(ffin ci k) || (mini m && mcl m == ci && !b)) = true) (hv : fput (fty ci k) h a k v = some h') (hk : hp_k h a = ci + 1) : pX m pc L (v :: .ref a :: S) h = pX m (pc + 3) L S h' := by
  refine pX_stp hd rfl rfl ?_
  show gd true _ = _
  simp only [gd, hf, Option.bind_some, s_v, s_a, hk, beq_self_eq_true, hw, Bool.true_and, hv]
theorem pX_gets {idx e : Nat} {b : Bool} (hd : decode (mb m) pc = .ok (.getstatic idx, 3)) (hf : lkS (mcl m) idx = some (e, b)) : pX m pc L S h = pX m (pc + 3) L (.ref e :: S) h := pX_stp hd rfl rfl (by simp [stp, hf, gd])
theorem pX_ild {j : Int32} {a : Nat} (hd : decode (mb m) pc = .ok (.iaload, 1)) (hk : hp_k h a = 100) (hj : inb j (hp_l h a) = true) : pX m pc L (.int j :: .ref a :: S) h = pX m (pc + 1) L (.int (hp_i h a (ix j)) :: S) h := pX_stp hd rfl rfl (by simp [stp, s_i, s_a, hk, hj, gd])
theorem pX_ildR {j : Int32} {a : Nat} (hd : decode (mb m) pc = .ok (.iaload, 1)) (hk : hp_k h a = 99) (hj : inb j (hp_l h a) = true) : pX m pc L (.int j :: .ref a :: S) h = pX m (pc + 1) L (.int (hp_i h a (ix j)) :: S) h := pX_stp hd rfl rfl (by simp [stp, s_i, s_a, hk, hj, gd])
theorem pX_ist {j x : Int32} {a : Nat} (hd : decode (mb m) pc = .ok (.iastore, 1)) (hk : hp_k h a = 100) (hj : inb j (hp_l h a) = true) : pX m pc L (.int x :: .int j :: .ref a :: S) h = pX m (pc + 1) L S (hp_wi h a (ix j) x) := pX_stp hd rfl rfl (by simp [stp, s_i, s_a, hk, hj, gd])
theorem pX_ald {j : Int32} {a : Nat} (hd : decode (mb m) pc = .ok (.aaload, 1)) (hk : 200 ≤ hp_k h a) (hj : inb j (hp_l h a) = true) : pX m pc L (.int j :: .ref a :: S) h = pX m (pc + 1) L (.ref (hp_a h a (ix j)) :: S) h := pX_stp hd rfl rfl (by simp [stp, s_i, s_a, hk, hj, gd])
theorem pX_ast {j : Int32} {a v : Nat} (hd : decode (mb m) pc = .ok (.aastore, 1)) (hk : 200 ≤ hp_k h a) (hv : v = 0 ∨ hp_k h v + 199 = hp_k h a) (hj : inb j (hp_l h a) = true) : pX m pc L (.ref v :: .int j :: .ref a :: S) h = pX m (pc + 1) L S (hp_wa h a (ix j) v) := by
  refine pX_stp hd rfl rfl ?_
  have e : (v == 0 || hp_k h v + 199 == hp_k h a) = true := by simpa using hv
  simp [stp, s_i, s_a, hk, hj, gd, e]
theorem pX_len {a : Nat} (hd : decode (mb m) pc = .ok (.arraylength, 1)) (hk : 99 ≤ hp_k h a) : pX m pc L (.ref a :: S) h = pX m (pc + 1) L (.int (Int32.ofNat (hp_l h a)) :: S) h := pX_stp hd rfl rfl (by simp [stp, s_a, hk, gd])
theorem pX_newa {j : Int32} (hd : decode (mb m) pc = .ok (.newarray .int, 2)) (h0 : 0 ≤ j) (h1 : ix j ≤ 134217728) : pX m pc L (.int j :: S) h = pX m (pc + 2) L (.ref (hp_n h) :: S) (hp_mk h 100 (ix j) (ix j)) := pX_stp hd rfl rfl (by simp [stp, s_i, h0, h1, gd])
theorem pX_anew {idx ci : Nat} {j : Int32} (hd : decode (mb m) pc = .ok (.anewarray idx, 3)) (hf : lkK (mcl m) idx = some ci) (ho : lkO ci = true) (h0 : 0 ≤ j) (h1 : ix j ≤ 134217728) : pX m pc L (.int j :: S) h = pX m (pc + 3) L (.ref (hp_n h) :: S) (hp_mk h (200 + ci) (ix j) (ix j)) := pX_stp hd rfl rfl (by simp [stp, s_i, hf, ho, h0, h1, gd])
theorem pX_new {idx ci : Nat} (hd : decode (mb m) pc = .ok (.new idx, 3)) (hf : lkK (mcl m) idx = some ci) : pX m pc L S h = pX m (pc + 3) L (.ref (hp_n h) :: S) (hp_mk h (ci + 1) 0 (fnum ci)) := pX_stp hd rfl rfl (by simp [stp, hf, gd])
theorem pX_div {x y : Int32} (hd : decode (mb m) pc = .ok (.idiv, 1)) (hy : ¬ y = 0) : pX m pc L (.int y :: .int x :: S) h = pX m (pc + 1) L (.int (x / y) :: S) h := pX_stp hd rfl rfl (by simp [stp, s_i, beq_n hy, gd])
theorem pX_rem {x y : Int32} (hd : decode (mb m) pc = .ok (.irem, 1)) (hy : ¬ y = 0) : pX m pc L (.int y :: .int x :: S) h = pX m (pc + 1) L (.int (x - x / y * y) :: S) h := pX_stp hd rfl rfl (by simp [stp, s_i, beq_n hy, gd])
theorem pX_oinit {idx a : Nat} (hd : decode (mb m) pc = .ok (.invokespecial idx, 3)) (hf : lkM (mcl m) idx = some (9000, false)) (hs : (S.map Value.category).sum ≤ 8) (ha : ¬ a = 0) : pX m pc L (.ref a :: S) h = pX m (pc + 3) L S h := by
  refine pX_stp hd rfl (by simp [call, kcl, hf, gd]) ?_
  simp only [stp, hf, Option.bind_some, s_a]
  simp [gd, beq_n ha, hs]
theorem pX_max {idx : Nat} {x y : Int32} (hd : decode (mb m) pc = .ok (.invokestatic idx, 3)) (hf : lkM (mcl m) idx = some (9001, false)) (hs : (S.map Value.category).sum ≤ 8) : pX m pc L (.int y :: .int x :: S) h = pX m (pc + 3) L (.int (if x < y then y else x) :: S) h := by
  refine pX_stp hd rfl (by simp [call, kcl, hf, gd]) ?_
  simp only [stp, hf, Option.bind_some, s_i]
  simp [gd, hs]
theorem pX_copy {idx a b : Nat} {sp dp n : Int32} (hd : decode (mb m) pc = .ok (.invokestatic idx, 3)) (hf : lkM (mcl m) idx = some (9002, false)) (hs : (S.map Value.category).sum ≤ 8) (ha : hp_k h a = 100) (hb : hp_k h b = 100) (h1 : 0 ≤ sp) (h2 : 0 ≤ dp) (h3 : 0 ≤ n) (h4 : ix sp + ix n ≤ hp_l h a) (h5 : ix dp + ix n ≤ hp_l h b) : pX m pc L (.int n :: .int dp :: .ref b :: .int sp :: .ref a :: S) h = pX m (pc + 3) L S (hp_cp h a (ix sp) b (ix dp) (ix n)) := by
  refine pX_stp hd rfl (by simp [call, kcl, hf, gd]) ?_
  simp only [stp, hf, Option.bind_some, s_i, s_a]
  simp [gd, hs, ha, hb, h1, h2, h3, h4, h5]
theorem pX_inv {i : Instr} {a t : Nat} (m' : Nat) (as S' : List Value) {L0 : List Value} (hd : decode (mb m) pc = .ok (i, 3)) (hr : rets m i 3 S = none) (hc : call m i 3 S h = gd (hp_k h a == t) (some (m', as, S'))) (hL : locs0 m' as = L0) (hk : hp_k h a = t) : pX m pc L S h = (pX m' 0 L0 [] h).bind (fun q => pX m (pc + 3) L (q.1.toList ++ S') q.2) := by
  subst hL; exact pX_callb hd hr (hc.trans (gdk hk))
theorem pX_ins {i : Instr} (m' : Nat) (as S' : List Value) {L0 : List Value} (hd : decode (mb m) pc = .ok (i, 3)) (hr : rets m i 3 S = none) (hc : call m i 3 S h = some (m', as, S')) (hL : locs0 m' as = L0) : pX m pc L S h = (pX m' 0 L0 [] h).bind (fun q => pX m (pc + 3) L (q.1.toList ++ S') q.2) := by
  subst hL; exact pX_callb hd hr hc
end Rows
end
section
theorem d800_0 : decode (mb 800) 0 = .ok (.aload_n 0, 1) := by decide +kernel
theorem d800_1 : decode (mb 800) 1 = .ok (.invokespecial 3, 3) := by decide +kernel
theorem d800_4 : decode (mb 800) 4 = .ok (.aload_n 0, 1) := by decide +kernel
theorem d800_5 : decode (mb 800) 5 = .ok (.bipush (-5), 2) := by decide +kernel
theorem d800_7 : decode (mb 800) 7 = .ok (.putfield 9, 3) := by decide +kernel
theorem d800_10 : decode (mb 800) 10 = .ok (.return_, 1) := by decide +kernel
theorem x800_0 {S : List Value} {h : HP}  {a0 : Nat} : pX 800 0 [.ref a0] S h = pX 800 1 [.ref a0] (.ref a0 :: S) h := pX_stp d800_0 rfl rfl rfl
theorem x800_1 {L : List Value} {h : HP} {a0 : Nat} (ha : ¬ a0 = 0) : pX 800 1 L [.ref a0] h = pX 800 4 L [] h := pX_oinit d800_1 rfl (Nat.le_of_ble_eq_true rfl) ha
theorem x800_4 {S : List Value} {h : HP}  {a0 : Nat} : pX 800 4 [.ref a0] S h = pX 800 5 [.ref a0] (.ref a0 :: S) h := pX_stp d800_4 rfl rfl rfl
theorem x800_5 {L S : List Value} {h : HP} : pX 800 5 L S h = pX 800 7 L (.int (-5) :: S) h := pX_bipush d800_5 (by decide)
theorem x800_7 {L S : List Value} {h : HP} {a : Nat} {x : Int32} (hk : hp_k h a = 9) : pX 800 7 L (.int x :: .ref a :: S) h = pX 800 10 L S (hp_wi h a 0 x) := pX_put d800_7 rfl rfl rfl hk
theorem x800_10 {L : List Value} {h : HP} : pX 800 10 L [] h = some (none, h) := pX_ret d800_10 rfl
theorem d801_0 : decode (mb 801) 0 = .ok (.aload_n 0, 1) := by decide +kernel
theorem d801_1 : decode (mb 801) 1 = .ok (.bipush (-5), 2) := by decide +kernel
theorem d801_3 : decode (mb 801) 3 = .ok (.putfield 9, 3) := by decide +kernel
theorem d801_6 : decode (mb 801) 6 = .ok (.aload_n 0, 1) := by decide +kernel
theorem d801_7 : decode (mb 801) 7 = .ok (.iconst 0, 1) := by decide +kernel
theorem d801_8 : decode (mb 801) 8 = .ok (.putfield 15, 3) := by decide +kernel
theorem d801_11 : decode (mb 801) 11 = .ok (.aload_n 0, 1) := by decide +kernel
theorem d801_12 : decode (mb 801) 12 = .ok (.aconst_null, 1) := by decide +kernel
theorem d801_13 : decode (mb 801) 13 = .ok (.putfield 18, 3) := by decide +kernel
theorem d801_16 : decode (mb 801) 16 = .ok (.aload_n 0, 1) := by decide +kernel
theorem d801_17 : decode (mb 801) 17 = .ok (.aconst_null, 1) := by decide +kernel
theorem d801_18 : decode (mb 801) 18 = .ok (.putfield 22, 3) := by decide +kernel
theorem d801_21 : decode (mb 801) 21 = .ok (.return_, 1) := by decide +kernel
theorem x801_0 {S : List Value} {h : HP}  {a0 : Nat} : pX 801 0 [.ref a0] S h = pX 801 1 [.ref a0] (.ref a0 :: S) h := pX_stp d801_0 rfl rfl rfl
theorem x801_1 {L S : List Value} {h : HP} : pX 801 1 L S h = pX 801 3 L (.int (-5) :: S) h := pX_bipush d801_1 (by decide)
theorem x801_3 {L S : List Value} {h : HP} {a : Nat} {x : Int32} (hk : hp_k h a = 9) : pX 801 3 L (.int x :: .ref a :: S) h = pX 801 6 L S (hp_wi h a 0 x) := pX_put d801_3 rfl rfl rfl hk
theorem x801_6 {S : List Value} {h : HP}  {a0 : Nat} : pX 801 6 [.ref a0] S h = pX 801 7 [.ref a0] (.ref a0 :: S) h := pX_stp d801_6 rfl rfl rfl
theorem x801_7 {L S : List Value} {h : HP} : pX 801 7 L S h = pX 801 8 L (.int 0 :: S) h := pX_iconst d801_7 (by decide)
theorem x801_8 {L S : List Value} {h : HP} {a : Nat} {x : Int32} (hk : hp_k h a = 9) : pX 801 8 L (.int x :: .ref a :: S) h = pX 801 11 L S (hp_wi h a 1 x) := pX_put d801_8 rfl rfl rfl hk
theorem x801_11 {S : List Value} {h : HP}  {a0 : Nat} : pX 801 11 [.ref a0] S h = pX 801 12 [.ref a0] (.ref a0 :: S) h := pX_stp d801_11 rfl rfl rfl
theorem x801_12 {L S : List Value} {h : HP} : pX 801 12 L S h = pX 801 13 L (.ref 0 :: S) h := pX_stp d801_12 rfl rfl rfl
theorem x801_13 {L S : List Value} {h : HP} {a b : Nat} (hk : hp_k h a = 9) : pX 801 13 L (.ref b :: .ref a :: S) h = pX 801 16 L S (hp_wa h a 2 b) := pX_put d801_13 rfl rfl rfl hk
theorem x801_16 {S : List Value} {h : HP}  {a0 : Nat} : pX 801 16 [.ref a0] S h = pX 801 17 [.ref a0] (.ref a0 :: S) h := pX_stp d801_16 rfl rfl rfl
theorem x801_17 {L S : List Value} {h : HP} : pX 801 17 L S h = pX 801 18 L (.ref 0 :: S) h := pX_stp d801_17 rfl rfl rfl
theorem x801_18 {L S : List Value} {h : HP} {a b : Nat} (hk : hp_k h a = 9) : pX 801 18 L (.ref b :: .ref a :: S) h = pX 801 21 L S (hp_wa h a 3 b) := pX_put d801_18 rfl rfl rfl hk
theorem x801_21 {L : List Value} {h : HP} : pX 801 21 L [] h = some (none, h) := pX_ret d801_21 rfl
theorem d802_0 : decode (mb 802) 0 = .ok (.aload_n 0, 1) := by decide +kernel
theorem d802_1 : decode (mb 802) 1 = .ok (.invokevirtual 26, 3) := by decide +kernel
theorem d802_4 : decode (mb 802) 4 = .ok (.aload_n 0, 1) := by decide +kernel
theorem d802_5 : decode (mb 802) 5 = .ok (.iconst 0, 1) := by decide +kernel
theorem d802_6 : decode (mb 802) 6 = .ok (.putfield 9, 3) := by decide +kernel
theorem d802_9 : decode (mb 802) 9 = .ok (.aload_n 0, 1) := by decide +kernel
theorem d802_10 : decode (mb 802) 10 = .ok (.iload_n 1, 1) := by decide +kernel
theorem d802_11 : decode (mb 802) 11 = .ok (.putfield 15, 3) := by decide +kernel
theorem d802_14 : decode (mb 802) 14 = .ok (.return_, 1) := by decide +kernel
theorem x802_0 {S : List Value} {h : HP} {l1 : Value} {a0 : Nat} : pX 802 0 [.ref a0, l1] S h = pX 802 1 [.ref a0, l1] (.ref a0 :: S) h := pX_stp d802_0 rfl rfl rfl
theorem x802_1 {L : List Value} {h : HP} {a0 : Nat} (hk : hp_k h a0 = 9) : pX 802 1 L [.ref a0] h = (pX 801 0 [.ref a0] [] h).bind (fun q => pX 802 4 L (q.1.toList ++ []) q.2) := pX_inv (a := a0) (t := 9) 801 [.ref a0] [] d802_1 rfl rfl rfl hk
theorem x802_4 {S : List Value} {h : HP} {l1 : Value} {a0 : Nat} : pX 802 4 [.ref a0, l1] S h = pX 802 5 [.ref a0, l1] (.ref a0 :: S) h := pX_stp d802_4 rfl rfl rfl
theorem x802_5 {L S : List Value} {h : HP} : pX 802 5 L S h = pX 802 6 L (.int 0 :: S) h := pX_iconst d802_5 (by decide)
theorem x802_6 {L S : List Value} {h : HP} {a : Nat} {x : Int32} (hk : hp_k h a = 9) : pX 802 6 L (.int x :: .ref a :: S) h = pX 802 9 L S (hp_wi h a 0 x) := pX_put d802_6 rfl rfl rfl hk
theorem x802_9 {S : List Value} {h : HP} {l1 : Value} {a0 : Nat} : pX 802 9 [.ref a0, l1] S h = pX 802 10 [.ref a0, l1] (.ref a0 :: S) h := pX_stp d802_9 rfl rfl rfl
theorem x802_10 {S : List Value} {h : HP} {l0 : Value} {x0 : Int32} : pX 802 10 [l0, .int x0] S h = pX 802 11 [l0, .int x0] (.int x0 :: S) h := pX_stp d802_10 rfl rfl rfl
theorem x802_11 {L S : List Value} {h : HP} {a : Nat} {x : Int32} (hk : hp_k h a = 9) : pX 802 11 L (.int x :: .ref a :: S) h = pX 802 14 L S (hp_wi h a 1 x) := pX_put d802_11 rfl rfl rfl hk
theorem x802_14 {L : List Value} {h : HP} : pX 802 14 L [] h = some (none, h) := pX_ret d802_14 rfl
theorem d803_0 : decode (mb 803) 0 = .ok (.aload_n 0, 1) := by decide +kernel
theorem d803_1 : decode (mb 803) 1 = .ok (.invokevirtual 26, 3) := by decide +kernel
theorem d803_4 : decode (mb 803) 4 = .ok (.aload_n 0, 1) := by decide +kernel
theorem d803_5 : decode (mb 803) 5 = .ok (.iconst 1, 1) := by decide +kernel
theorem d803_6 : decode (mb 803) 6 = .ok (.aload_n 1, 1) := by decide +kernel
theorem d803_7 : decode (mb 803) 7 = .ok (.getfield 29, 3) := by decide +kernel
theorem d803_10 : decode (mb 803) 10 = .ok (.iadd, 1) := by decide +kernel
theorem d803_11 : decode (mb 803) 11 = .ok (.putfield 9, 3) := by decide +kernel
theorem d803_14 : decode (mb 803) 14 = .ok (.aload_n 0, 1) := by decide +kernel
theorem d803_15 : decode (mb 803) 15 = .ok (.aload_n 1, 1) := by decide +kernel
theorem d803_16 : decode (mb 803) 16 = .ok (.putfield 18, 3) := by decide +kernel
theorem d803_19 : decode (mb 803) 19 = .ok (.return_, 1) := by decide +kernel
theorem x803_0 {S : List Value} {h : HP} {l1 : Value} {a0 : Nat} : pX 803 0 [.ref a0, l1] S h = pX 803 1 [.ref a0, l1] (.ref a0 :: S) h := pX_stp d803_0 rfl rfl rfl
theorem x803_1 {L : List Value} {h : HP} {a0 : Nat} (hk : hp_k h a0 = 9) : pX 803 1 L [.ref a0] h = (pX 801 0 [.ref a0] [] h).bind (fun q => pX 803 4 L (q.1.toList ++ []) q.2) := pX_inv (a := a0) (t := 9) 801 [.ref a0] [] d803_1 rfl rfl rfl hk
theorem x803_4 {S : List Value} {h : HP} {l1 : Value} {a0 : Nat} : pX 803 4 [.ref a0, l1] S h = pX 803 5 [.ref a0, l1] (.ref a0 :: S) h := pX_stp d803_4 rfl rfl rfl
theorem x803_5 {L S : List Value} {h : HP} : pX 803 5 L S h = pX 803 6 L (.int 1 :: S) h := pX_iconst d803_5 (by decide)
theorem x803_6 {S : List Value} {h : HP} {l0 : Value} {a0 : Nat} : pX 803 6 [l0, .ref a0] S h = pX 803 7 [l0, .ref a0] (.ref a0 :: S) h := pX_stp d803_6 rfl rfl rfl
theorem x803_7 {L S : List Value} {h : HP} {a : Nat} (hk : hp_k h a = 1) : pX 803 7 L (.ref a :: S) h = pX 803 10 L (.int (hp_i h a 0) :: S) h := pX_get d803_7 rfl rfl hk
theorem x803_10 {L S : List Value} {h : HP} {x y : Int32} : pX 803 10 L (.int y :: .int x :: S) h = pX 803 11 L (.int (x + y) :: S) h := pX_stp d803_10 rfl rfl rfl
theorem x803_11 {L S : List Value} {h : HP} {a : Nat} {x : Int32} (hk : hp_k h a = 9) : pX 803 11 L (.int x :: .ref a :: S) h = pX 803 14 L S (hp_wi h a 0 x) := pX_put d803_11 rfl rfl rfl hk
theorem x803_14 {S : List Value} {h : HP} {l1 : Value} {a0 : Nat} : pX 803 14 [.ref a0, l1] S h = pX 803 15 [.ref a0, l1] (.ref a0 :: S) h := pX_stp d803_14 rfl rfl rfl
theorem x803_15 {S : List Value} {h : HP} {l0 : Value} {a0 : Nat} : pX 803 15 [l0, .ref a0] S h = pX 803 16 [l0, .ref a0] (.ref a0 :: S) h := pX_stp d803_15 rfl rfl rfl
theorem x803_16 {L S : List Value} {h : HP} {a b : Nat} (hk : hp_k h a = 9) : pX 803 16 L (.ref b :: .ref a :: S) h = pX 803 19 L S (hp_wa h a 2 b) := pX_put d803_16 rfl rfl rfl hk
theorem x803_19 {L : List Value} {h : HP} : pX 803 19 L [] h = some (none, h) := pX_ret d803_19 rfl
theorem d804_0 : decode (mb 804) 0 = .ok (.aload_n 0, 1) := by decide +kernel
theorem d804_1 : decode (mb 804) 1 = .ok (.invokevirtual 26, 3) := by decide +kernel
theorem d804_4 : decode (mb 804) 4 = .ok (.aload_n 0, 1) := by decide +kernel
theorem d804_5 : decode (mb 804) 5 = .ok (.iconst 5, 1) := by decide +kernel
theorem d804_6 : decode (mb 804) 6 = .ok (.aload_n 1, 1) := by decide +kernel
theorem d804_7 : decode (mb 804) 7 = .ok (.getfield 34, 3) := by decide +kernel
theorem d804_10 : decode (mb 804) 10 = .ok (.iadd, 1) := by decide +kernel
theorem d804_11 : decode (mb 804) 11 = .ok (.putfield 9, 3) := by decide +kernel
theorem d804_14 : decode (mb 804) 14 = .ok (.aload_n 0, 1) := by decide +kernel
theorem d804_15 : decode (mb 804) 15 = .ok (.aload_n 1, 1) := by decide +kernel
theorem d804_16 : decode (mb 804) 16 = .ok (.putfield 22, 3) := by decide +kernel
theorem d804_19 : decode (mb 804) 19 = .ok (.return_, 1) := by decide +kernel
theorem x804_0 {S : List Value} {h : HP} {l1 : Value} {a0 : Nat} : pX 804 0 [.ref a0, l1] S h = pX 804 1 [.ref a0, l1] (.ref a0 :: S) h := pX_stp d804_0 rfl rfl rfl
theorem x804_1 {L : List Value} {h : HP} {a0 : Nat} (hk : hp_k h a0 = 9) : pX 804 1 L [.ref a0] h = (pX 801 0 [.ref a0] [] h).bind (fun q => pX 804 4 L (q.1.toList ++ []) q.2) := pX_inv (a := a0) (t := 9) 801 [.ref a0] [] d804_1 rfl rfl rfl hk
theorem x804_4 {S : List Value} {h : HP} {l1 : Value} {a0 : Nat} : pX 804 4 [.ref a0, l1] S h = pX 804 5 [.ref a0, l1] (.ref a0 :: S) h := pX_stp d804_4 rfl rfl rfl
theorem x804_5 {L S : List Value} {h : HP} : pX 804 5 L S h = pX 804 6 L (.int 5 :: S) h := pX_iconst d804_5 (by decide)
theorem x804_6 {S : List Value} {h : HP} {l0 : Value} {a0 : Nat} : pX 804 6 [l0, .ref a0] S h = pX 804 7 [l0, .ref a0] (.ref a0 :: S) h := pX_stp d804_6 rfl rfl rfl
theorem x804_7 {L S : List Value} {h : HP} {a : Nat} (hk : hp_k h a = 8) : pX 804 7 L (.ref a :: S) h = pX 804 10 L (.int (hp_i h a 0) :: S) h := pX_get d804_7 rfl rfl hk
theorem x804_10 {L S : List Value} {h : HP} {x y : Int32} : pX 804 10 L (.int y :: .int x :: S) h = pX 804 11 L (.int (x + y) :: S) h := pX_stp d804_10 rfl rfl rfl
theorem x804_11 {L S : List Value} {h : HP} {a : Nat} {x : Int32} (hk : hp_k h a = 9) : pX 804 11 L (.int x :: .ref a :: S) h = pX 804 14 L S (hp_wi h a 0 x) := pX_put d804_11 rfl rfl rfl hk
theorem x804_14 {S : List Value} {h : HP} {l1 : Value} {a0 : Nat} : pX 804 14 [.ref a0, l1] S h = pX 804 15 [.ref a0, l1] (.ref a0 :: S) h := pX_stp d804_14 rfl rfl rfl
theorem x804_15 {S : List Value} {h : HP} {l0 : Value} {a0 : Nat} : pX 804 15 [l0, .ref a0] S h = pX 804 16 [l0, .ref a0] (.ref a0 :: S) h := pX_stp d804_15 rfl rfl rfl
theorem x804_16 {L S : List Value} {h : HP} {a b : Nat} (hk : hp_k h a = 9) : pX 804 16 L (.ref b :: .ref a :: S) h = pX 804 19 L S (hp_wa h a 3 b) := pX_put d804_16 rfl rfl rfl hk
theorem x804_19 {L : List Value} {h : HP} : pX 804 19 L [] h = some (none, h) := pX_ret d804_19 rfl
theorem d805_0 : decode (mb 805) 0 = .ok (.aload_n 0, 1) := by decide +kernel
theorem d805_1 : decode (mb 805) 1 = .ok (.aload_n 1, 1) := by decide +kernel
theorem d805_2 : decode (mb 805) 2 = .ok (.getfield 9, 3) := by decide +kernel
theorem d805_5 : decode (mb 805) 5 = .ok (.putfield 9, 3) := by decide +kernel
theorem d805_8 : decode (mb 805) 8 = .ok (.aload_n 0, 1) := by decide +kernel
theorem d805_9 : decode (mb 805) 9 = .ok (.aload_n 1, 1) := by decide +kernel
theorem d805_10 : decode (mb 805) 10 = .ok (.getfield 15, 3) := by decide +kernel
theorem d805_13 : decode (mb 805) 13 = .ok (.putfield 15, 3) := by decide +kernel
theorem d805_16 : decode (mb 805) 16 = .ok (.aload_n 0, 1) := by decide +kernel
theorem d805_17 : decode (mb 805) 17 = .ok (.aload_n 1, 1) := by decide +kernel
theorem d805_18 : decode (mb 805) 18 = .ok (.getfield 18, 3) := by decide +kernel
theorem d805_21 : decode (mb 805) 21 = .ok (.putfield 18, 3) := by decide +kernel
theorem d805_24 : decode (mb 805) 24 = .ok (.aload_n 0, 1) := by decide +kernel
theorem d805_25 : decode (mb 805) 25 = .ok (.aload_n 1, 1) := by decide +kernel
theorem d805_26 : decode (mb 805) 26 = .ok (.getfield 22, 3) := by decide +kernel
theorem d805_29 : decode (mb 805) 29 = .ok (.putfield 22, 3) := by decide +kernel
theorem d805_32 : decode (mb 805) 32 = .ok (.return_, 1) := by decide +kernel
theorem x805_0 {S : List Value} {h : HP} {l1 : Value} {a0 : Nat} : pX 805 0 [.ref a0, l1] S h = pX 805 1 [.ref a0, l1] (.ref a0 :: S) h := pX_stp d805_0 rfl rfl rfl
theorem x805_1 {S : List Value} {h : HP} {l0 : Value} {a0 : Nat} : pX 805 1 [l0, .ref a0] S h = pX 805 2 [l0, .ref a0] (.ref a0 :: S) h := pX_stp d805_1 rfl rfl rfl
theorem x805_2 {L S : List Value} {h : HP} {a : Nat} (hk : hp_k h a = 9) : pX 805 2 L (.ref a :: S) h = pX 805 5 L (.int (hp_i h a 0) :: S) h := pX_get d805_2 rfl rfl hk
theorem x805_5 {L S : List Value} {h : HP} {a : Nat} {x : Int32} (hk : hp_k h a = 9) : pX 805 5 L (.int x :: .ref a :: S) h = pX 805 8 L S (hp_wi h a 0 x) := pX_put d805_5 rfl rfl rfl hk
theorem x805_8 {S : List Value} {h : HP} {l1 : Value} {a0 : Nat} : pX 805 8 [.ref a0, l1] S h = pX 805 9 [.ref a0, l1] (.ref a0 :: S) h := pX_stp d805_8 rfl rfl rfl
theorem x805_9 {S : List Value} {h : HP} {l0 : Value} {a0 : Nat} : pX 805 9 [l0, .ref a0] S h = pX 805 10 [l0, .ref a0] (.ref a0 :: S) h := pX_stp d805_9 rfl rfl rfl
theorem x805_10 {L S : List Value} {h : HP} {a : Nat} (hk : hp_k h a = 9) : pX 805 10 L (.ref a :: S) h = pX 805 13 L (.int (hp_i h a 1) :: S) h := pX_get d805_10 rfl rfl hk
theorem x805_13 {L S : List Value} {h : HP} {a : Nat} {x : Int32} (hk : hp_k h a = 9) : pX 805 13 L (.int x :: .ref a :: S) h = pX 805 16 L S (hp_wi h a 1 x) := pX_put d805_13 rfl rfl rfl hk
theorem x805_16 {S : List Value} {h : HP} {l1 : Value} {a0 : Nat} : pX 805 16 [.ref a0, l1] S h = pX 805 17 [.ref a0, l1] (.ref a0 :: S) h := pX_stp d805_16 rfl rfl rfl
theorem x805_17 {S : List Value} {h : HP} {l0 : Value} {a0 : Nat} : pX 805 17 [l0, .ref a0] S h = pX 805 18 [l0, .ref a0] (.ref a0 :: S) h := pX_stp d805_17 rfl rfl rfl
theorem x805_18 {L S : List Value} {h : HP} {a : Nat} (hk : hp_k h a = 9) : pX 805 18 L (.ref a :: S) h = pX 805 21 L (.ref (hp_a h a 2) :: S) h := pX_get d805_18 rfl rfl hk
theorem x805_21 {L S : List Value} {h : HP} {a b : Nat} (hk : hp_k h a = 9) : pX 805 21 L (.ref b :: .ref a :: S) h = pX 805 24 L S (hp_wa h a 2 b) := pX_put d805_21 rfl rfl rfl hk
theorem x805_24 {S : List Value} {h : HP} {l1 : Value} {a0 : Nat} : pX 805 24 [.ref a0, l1] S h = pX 805 25 [.ref a0, l1] (.ref a0 :: S) h := pX_stp d805_24 rfl rfl rfl
theorem x805_25 {S : List Value} {h : HP} {l0 : Value} {a0 : Nat} : pX 805 25 [l0, .ref a0] S h = pX 805 26 [l0, .ref a0] (.ref a0 :: S) h := pX_stp d805_25 rfl rfl rfl
theorem x805_26 {L S : List Value} {h : HP} {a : Nat} (hk : hp_k h a = 9) : pX 805 26 L (.ref a :: S) h = pX 805 29 L (.ref (hp_a h a 3) :: S) h := pX_get d805_26 rfl rfl hk
theorem x805_29 {L S : List Value} {h : HP} {a b : Nat} (hk : hp_k h a = 9) : pX 805 29 L (.ref b :: .ref a :: S) h = pX 805 32 L S (hp_wa h a 3 b) := pX_put d805_29 rfl rfl rfl hk
theorem x805_32 {L : List Value} {h : HP} : pX 805 32 L [] h = some (none, h) := pX_ret d805_32 rfl
theorem d806_0 : decode (mb 806) 0 = .ok (.aload_n 0, 1) := by decide +kernel
theorem d806_1 : decode (mb 806) 1 = .ok (.getfield 9, 3) := by decide +kernel
theorem d806_4 : decode (mb 806) 4 = .ok (.bipush (-5), 2) := by decide +kernel
theorem d806_6 : decode (mb 806) 6 = .ok (.if_icmp .ne 7, 3) := by decide +kernel
theorem d806_9 : decode (mb 806) 9 = .ok (.iconst 1, 1) := by decide +kernel
theorem d806_10 : decode (mb 806) 10 = .ok (.goto 4, 3) := by decide +kernel
theorem d806_13 : decode (mb 806) 13 = .ok (.iconst 0, 1) := by decide +kernel
theorem d806_14 : decode (mb 806) 14 = .ok (.ireturn, 1) := by decide +kernel
theorem x806_0 {S : List Value} {h : HP}  {a0 : Nat} : pX 806 0 [.ref a0] S h = pX 806 1 [.ref a0] (.ref a0 :: S) h := pX_stp d806_0 rfl rfl rfl
theorem x806_1 {L S : List Value} {h : HP} {a : Nat} (hk : hp_k h a = 9) : pX 806 1 L (.ref a :: S) h = pX 806 4 L (.int (hp_i h a 0) :: S) h := pX_get d806_1 rfl rfl hk
theorem x806_4 {L S : List Value} {h : HP} : pX 806 4 L S h = pX 806 6 L (.int (-5) :: S) h := pX_bipush d806_4 (by decide)
theorem x806_6 {L S : List Value} {h : HP} {x y : Int32} : pX 806 6 L (.int y :: .int x :: S) h = if x = y then pX 806 9 L S h else pX 806 13 L S h := pX_icmp_ne d806_6 (by decide)
theorem x806_9 {L S : List Value} {h : HP} : pX 806 9 L S h = pX 806 10 L (.int 1 :: S) h := pX_iconst d806_9 (by decide)
theorem x806_10 {L S : List Value} {h : HP} : pX 806 10 L S h = pX 806 14 L S h := pX_goto d806_10 (by decide)
theorem x806_13 {L S : List Value} {h : HP} : pX 806 13 L S h = pX 806 14 L (.int 0 :: S) h := pX_iconst d806_13 (by decide)
theorem x806_14 {L : List Value} {h : HP} {x : Int32} (hx : x = 0 ∨ x = 1) : pX 806 14 L [.int x] h = some (some (.int x), h) := pX_ret d806_14 (by rcases hx with rfl | rfl <;> rfl)
theorem d807_0 : decode (mb 807) 0 = .ok (.aload_n 0, 1) := by decide +kernel
theorem d807_1 : decode (mb 807) 1 = .ok (.invokevirtual 39, 3) := by decide +kernel
theorem d807_4 : decode (mb 807) 4 = .ok (.ifCond .eq 5, 3) := by decide +kernel
theorem d807_7 : decode (mb 807) 7 = .ok (.iconst 0, 1) := by decide +kernel
theorem d807_8 : decode (mb 807) 8 = .ok (.ireturn, 1) := by decide +kernel
theorem d807_9 : decode (mb 807) 9 = .ok (.iload_n 1, 1) := by decide +kernel
theorem d807_10 : decode (mb 807) 10 = .ok (.iconst 1, 1) := by decide +kernel
theorem d807_11 : decode (mb 807) 11 = .ok (.if_icmp .lt 29, 3) := by decide +kernel
theorem d807_14 : decode (mb 807) 14 = .ok (.iload_n 1, 1) := by decide +kernel
theorem d807_15 : decode (mb 807) 15 = .ok (.iconst 4, 1) := by decide +kernel
theorem d807_16 : decode (mb 807) 16 = .ok (.if_icmp .gt 24, 3) := by decide +kernel
theorem d807_19 : decode (mb 807) 19 = .ok (.aload_n 0, 1) := by decide +kernel
theorem d807_20 : decode (mb 807) 20 = .ok (.getfield 18, 3) := by decide +kernel
theorem d807_23 : decode (mb 807) 23 = .ok (.ifnull 15, 3) := by decide +kernel
theorem d807_26 : decode (mb 807) 26 = .ok (.aload_n 0, 1) := by decide +kernel
theorem d807_27 : decode (mb 807) 27 = .ok (.getfield 9, 3) := by decide +kernel
theorem d807_30 : decode (mb 807) 30 = .ok (.iload_n 1, 1) := by decide +kernel
theorem d807_31 : decode (mb 807) 31 = .ok (.if_icmp .lt 7, 3) := by decide +kernel
theorem d807_34 : decode (mb 807) 34 = .ok (.iconst 1, 1) := by decide +kernel
theorem d807_35 : decode (mb 807) 35 = .ok (.goto 4, 3) := by decide +kernel
theorem d807_38 : decode (mb 807) 38 = .ok (.iconst 0, 1) := by decide +kernel
theorem d807_39 : decode (mb 807) 39 = .ok (.ireturn, 1) := by decide +kernel
theorem d807_40 : decode (mb 807) 40 = .ok (.iload_n 1, 1) := by decide +kernel
theorem d807_41 : decode (mb 807) 41 = .ok (.bipush 10, 2) := by decide +kernel
theorem d807_43 : decode (mb 807) 43 = .ok (.if_icmp .ne 16, 3) := by decide +kernel
theorem d807_46 : decode (mb 807) 46 = .ok (.aload_n 0, 1) := by decide +kernel
theorem d807_47 : decode (mb 807) 47 = .ok (.getfield 22, 3) := by decide +kernel
theorem d807_50 : decode (mb 807) 50 = .ok (.ifnull 7, 3) := by decide +kernel
theorem d807_53 : decode (mb 807) 53 = .ok (.iconst 1, 1) := by decide +kernel
theorem d807_54 : decode (mb 807) 54 = .ok (.goto 4, 3) := by decide +kernel
theorem d807_57 : decode (mb 807) 57 = .ok (.iconst 0, 1) := by decide +kernel
theorem d807_58 : decode (mb 807) 58 = .ok (.ireturn, 1) := by decide +kernel
theorem d807_59 : decode (mb 807) 59 = .ok (.iload_n 1, 1) := by decide +kernel
theorem d807_60 : decode (mb 807) 60 = .ok (.bipush 11, 2) := by decide +kernel
theorem d807_62 : decode (mb 807) 62 = .ok (.if_icmp .eq 11, 3) := by decide +kernel
theorem d807_65 : decode (mb 807) 65 = .ok (.aload_n 0, 1) := by decide +kernel
theorem d807_66 : decode (mb 807) 66 = .ok (.getfield 9, 3) := by decide +kernel
theorem d807_69 : decode (mb 807) 69 = .ok (.iload_n 1, 1) := by decide +kernel
theorem d807_70 : decode (mb 807) 70 = .ok (.if_icmp .ne 7, 3) := by decide +kernel
theorem d807_73 : decode (mb 807) 73 = .ok (.iconst 1, 1) := by decide +kernel
theorem d807_74 : decode (mb 807) 74 = .ok (.goto 4, 3) := by decide +kernel
theorem d807_77 : decode (mb 807) 77 = .ok (.iconst 0, 1) := by decide +kernel
theorem d807_78 : decode (mb 807) 78 = .ok (.ireturn, 1) := by decide +kernel
theorem x807_0 {S : List Value} {h : HP} {l1 : Value} {a0 : Nat} : pX 807 0 [.ref a0, l1] S h = pX 807 1 [.ref a0, l1] (.ref a0 :: S) h := pX_stp d807_0 rfl rfl rfl
theorem x807_1 {L : List Value} {h : HP} {a0 : Nat} (hk : hp_k h a0 = 9) : pX 807 1 L [.ref a0] h = (pX 806 0 [.ref a0] [] h).bind (fun q => pX 807 4 L (q.1.toList ++ []) q.2) := pX_inv (a := a0) (t := 9) 806 [.ref a0] [] d807_1 rfl rfl rfl hk
theorem x807_4 {L S : List Value} {h : HP} {x : Int32} : pX 807 4 L (.int x :: S) h = if x = 0 then pX 807 9 L S h else pX 807 7 L S h := pX_if_eq d807_4 (by decide)
theorem x807_7 {L S : List Value} {h : HP} : pX 807 7 L S h = pX 807 8 L (.int 0 :: S) h := pX_iconst d807_7 (by decide)
theorem x807_8 {L : List Value} {h : HP} {x : Int32} (hx : x = 0 ∨ x = 1) : pX 807 8 L [.int x] h = some (some (.int x), h) := pX_ret d807_8 (by rcases hx with rfl | rfl <;> rfl)
theorem x807_9 {S : List Value} {h : HP} {l0 : Value} {x0 : Int32} : pX 807 9 [l0, .int x0] S h = pX 807 10 [l0, .int x0] (.int x0 :: S) h := pX_stp d807_9 rfl rfl rfl
theorem x807_10 {L S : List Value} {h : HP} : pX 807 10 L S h = pX 807 11 L (.int 1 :: S) h := pX_iconst d807_10 (by decide)
theorem x807_11 {L S : List Value} {h : HP} {x y : Int32} : pX 807 11 L (.int y :: .int x :: S) h = if x < y then pX 807 40 L S h else pX 807 14 L S h := pX_icmp_lt d807_11 (by decide)
theorem x807_14 {S : List Value} {h : HP} {l0 : Value} {x0 : Int32} : pX 807 14 [l0, .int x0] S h = pX 807 15 [l0, .int x0] (.int x0 :: S) h := pX_stp d807_14 rfl rfl rfl
theorem x807_15 {L S : List Value} {h : HP} : pX 807 15 L S h = pX 807 16 L (.int 4 :: S) h := pX_iconst d807_15 (by decide)
theorem x807_16 {L S : List Value} {h : HP} {x y : Int32} : pX 807 16 L (.int y :: .int x :: S) h = if y < x then pX 807 40 L S h else pX 807 19 L S h := pX_icmp_gt d807_16 (by decide)
theorem x807_19 {S : List Value} {h : HP} {l1 : Value} {a0 : Nat} : pX 807 19 [.ref a0, l1] S h = pX 807 20 [.ref a0, l1] (.ref a0 :: S) h := pX_stp d807_19 rfl rfl rfl
theorem x807_20 {L S : List Value} {h : HP} {a : Nat} (hk : hp_k h a = 9) : pX 807 20 L (.ref a :: S) h = pX 807 23 L (.ref (hp_a h a 2) :: S) h := pX_get d807_20 rfl rfl hk
theorem x807_23 {L S : List Value} {h : HP} {a : Nat} : pX 807 23 L (.ref a :: S) h = if a = 0 then pX 807 38 L S h else pX 807 26 L S h := pX_ifnull d807_23 (by decide)
theorem x807_26 {S : List Value} {h : HP} {l1 : Value} {a0 : Nat} : pX 807 26 [.ref a0, l1] S h = pX 807 27 [.ref a0, l1] (.ref a0 :: S) h := pX_stp d807_26 rfl rfl rfl
theorem x807_27 {L S : List Value} {h : HP} {a : Nat} (hk : hp_k h a = 9) : pX 807 27 L (.ref a :: S) h = pX 807 30 L (.int (hp_i h a 0) :: S) h := pX_get d807_27 rfl rfl hk
theorem x807_30 {S : List Value} {h : HP} {l0 : Value} {x0 : Int32} : pX 807 30 [l0, .int x0] S h = pX 807 31 [l0, .int x0] (.int x0 :: S) h := pX_stp d807_30 rfl rfl rfl
theorem x807_31 {L S : List Value} {h : HP} {x y : Int32} : pX 807 31 L (.int y :: .int x :: S) h = if x < y then pX 807 38 L S h else pX 807 34 L S h := pX_icmp_lt d807_31 (by decide)
theorem x807_34 {L S : List Value} {h : HP} : pX 807 34 L S h = pX 807 35 L (.int 1 :: S) h := pX_iconst d807_34 (by decide)
theorem x807_35 {L S : List Value} {h : HP} : pX 807 35 L S h = pX 807 39 L S h := pX_goto d807_35 (by decide)
theorem x807_38 {L S : List Value} {h : HP} : pX 807 38 L S h = pX 807 39 L (.int 0 :: S) h := pX_iconst d807_38 (by decide)
theorem x807_39 {L : List Value} {h : HP} {x : Int32} (hx : x = 0 ∨ x = 1) : pX 807 39 L [.int x] h = some (some (.int x), h) := pX_ret d807_39 (by rcases hx with rfl | rfl <;> rfl)
theorem x807_40 {S : List Value} {h : HP} {l0 : Value} {x0 : Int32} : pX 807 40 [l0, .int x0] S h = pX 807 41 [l0, .int x0] (.int x0 :: S) h := pX_stp d807_40 rfl rfl rfl
theorem x807_41 {L S : List Value} {h : HP} : pX 807 41 L S h = pX 807 43 L (.int 10 :: S) h := pX_bipush d807_41 (by decide)
theorem x807_43 {L S : List Value} {h : HP} {x y : Int32} : pX 807 43 L (.int y :: .int x :: S) h = if x = y then pX 807 46 L S h else pX 807 59 L S h := pX_icmp_ne d807_43 (by decide)
theorem x807_46 {S : List Value} {h : HP} {l1 : Value} {a0 : Nat} : pX 807 46 [.ref a0, l1] S h = pX 807 47 [.ref a0, l1] (.ref a0 :: S) h := pX_stp d807_46 rfl rfl rfl
theorem x807_47 {L S : List Value} {h : HP} {a : Nat} (hk : hp_k h a = 9) : pX 807 47 L (.ref a :: S) h = pX 807 50 L (.ref (hp_a h a 3) :: S) h := pX_get d807_47 rfl rfl hk
theorem x807_50 {L S : List Value} {h : HP} {a : Nat} : pX 807 50 L (.ref a :: S) h = if a = 0 then pX 807 57 L S h else pX 807 53 L S h := pX_ifnull d807_50 (by decide)
theorem x807_53 {L S : List Value} {h : HP} : pX 807 53 L S h = pX 807 54 L (.int 1 :: S) h := pX_iconst d807_53 (by decide)
theorem x807_54 {L S : List Value} {h : HP} : pX 807 54 L S h = pX 807 58 L S h := pX_goto d807_54 (by decide)
theorem x807_57 {L S : List Value} {h : HP} : pX 807 57 L S h = pX 807 58 L (.int 0 :: S) h := pX_iconst d807_57 (by decide)
theorem x807_58 {L : List Value} {h : HP} {x : Int32} (hx : x = 0 ∨ x = 1) : pX 807 58 L [.int x] h = some (some (.int x), h) := pX_ret d807_58 (by rcases hx with rfl | rfl <;> rfl)
theorem x807_59 {S : List Value} {h : HP} {l0 : Value} {x0 : Int32} : pX 807 59 [l0, .int x0] S h = pX 807 60 [l0, .int x0] (.int x0 :: S) h := pX_stp d807_59 rfl rfl rfl
theorem x807_60 {L S : List Value} {h : HP} : pX 807 60 L S h = pX 807 62 L (.int 11 :: S) h := pX_bipush d807_60 (by decide)
theorem x807_62 {L S : List Value} {h : HP} {x y : Int32} : pX 807 62 L (.int y :: .int x :: S) h = if x = y then pX 807 73 L S h else pX 807 65 L S h := pX_icmp_eq d807_62 (by decide)
theorem x807_65 {S : List Value} {h : HP} {l1 : Value} {a0 : Nat} : pX 807 65 [.ref a0, l1] S h = pX 807 66 [.ref a0, l1] (.ref a0 :: S) h := pX_stp d807_65 rfl rfl rfl
theorem x807_66 {L S : List Value} {h : HP} {a : Nat} (hk : hp_k h a = 9) : pX 807 66 L (.ref a :: S) h = pX 807 69 L (.int (hp_i h a 0) :: S) h := pX_get d807_66 rfl rfl hk
theorem x807_69 {S : List Value} {h : HP} {l0 : Value} {x0 : Int32} : pX 807 69 [l0, .int x0] S h = pX 807 70 [l0, .int x0] (.int x0 :: S) h := pX_stp d807_69 rfl rfl rfl
theorem x807_70 {L S : List Value} {h : HP} {x y : Int32} : pX 807 70 L (.int y :: .int x :: S) h = if x = y then pX 807 73 L S h else pX 807 77 L S h := pX_icmp_ne d807_70 (by decide)
theorem x807_73 {L S : List Value} {h : HP} : pX 807 73 L S h = pX 807 74 L (.int 1 :: S) h := pX_iconst d807_73 (by decide)
theorem x807_74 {L S : List Value} {h : HP} : pX 807 74 L S h = pX 807 78 L S h := pX_goto d807_74 (by decide)
theorem x807_77 {L S : List Value} {h : HP} : pX 807 77 L S h = pX 807 78 L (.int 0 :: S) h := pX_iconst d807_77 (by decide)
theorem x807_78 {L : List Value} {h : HP} {x : Int32} (hx : x = 0 ∨ x = 1) : pX 807 78 L [.int x] h = some (some (.int x), h) := pX_ret d807_78 (by rcases hx with rfl | rfl <;> rfl)
theorem d808_0 : decode (mb 808) 0 = .ok (.aload_n 0, 1) := by decide +kernel
theorem d808_1 : decode (mb 808) 1 = .ok (.getfield 9, 3) := by decide +kernel
theorem d808_4 : decode (mb 808) 4 = .ok (.aload_n 1, 1) := by decide +kernel
theorem d808_5 : decode (mb 808) 5 = .ok (.getfield 9, 3) := by decide +kernel
theorem d808_8 : decode (mb 808) 8 = .ok (.if_icmp .ne 40, 3) := by decide +kernel
theorem d808_11 : decode (mb 808) 11 = .ok (.aload_n 0, 1) := by decide +kernel
theorem d808_12 : decode (mb 808) 12 = .ok (.getfield 15, 3) := by decide +kernel
theorem d808_15 : decode (mb 808) 15 = .ok (.aload_n 1, 1) := by decide +kernel
theorem d808_16 : decode (mb 808) 16 = .ok (.getfield 15, 3) := by decide +kernel
theorem d808_19 : decode (mb 808) 19 = .ok (.if_icmp .ne 29, 3) := by decide +kernel
theorem d808_22 : decode (mb 808) 22 = .ok (.aload_n 0, 1) := by decide +kernel
theorem d808_23 : decode (mb 808) 23 = .ok (.getfield 18, 3) := by decide +kernel
theorem d808_26 : decode (mb 808) 26 = .ok (.aload_n 1, 1) := by decide +kernel
theorem d808_27 : decode (mb 808) 27 = .ok (.getfield 18, 3) := by decide +kernel
theorem d808_30 : decode (mb 808) 30 = .ok (.if_acmp .ne 18, 3) := by decide +kernel
theorem d808_33 : decode (mb 808) 33 = .ok (.aload_n 0, 1) := by decide +kernel
theorem d808_34 : decode (mb 808) 34 = .ok (.getfield 22, 3) := by decide +kernel
theorem d808_37 : decode (mb 808) 37 = .ok (.aload_n 1, 1) := by decide +kernel
theorem d808_38 : decode (mb 808) 38 = .ok (.getfield 22, 3) := by decide +kernel
theorem d808_41 : decode (mb 808) 41 = .ok (.if_acmp .ne 7, 3) := by decide +kernel
theorem d808_44 : decode (mb 808) 44 = .ok (.iconst 1, 1) := by decide +kernel
theorem d808_45 : decode (mb 808) 45 = .ok (.goto 4, 3) := by decide +kernel
theorem d808_48 : decode (mb 808) 48 = .ok (.iconst 0, 1) := by decide +kernel
theorem d808_49 : decode (mb 808) 49 = .ok (.ireturn, 1) := by decide +kernel
theorem x808_0 {S : List Value} {h : HP} {l1 : Value} {a0 : Nat} : pX 808 0 [.ref a0, l1] S h = pX 808 1 [.ref a0, l1] (.ref a0 :: S) h := pX_stp d808_0 rfl rfl rfl
theorem x808_1 {L S : List Value} {h : HP} {a : Nat} (hk : hp_k h a = 9) : pX 808 1 L (.ref a :: S) h = pX 808 4 L (.int (hp_i h a 0) :: S) h := pX_get d808_1 rfl rfl hk
theorem x808_4 {S : List Value} {h : HP} {l0 : Value} {a0 : Nat} : pX 808 4 [l0, .ref a0] S h = pX 808 5 [l0, .ref a0] (.ref a0 :: S) h := pX_stp d808_4 rfl rfl rfl
theorem x808_5 {L S : List Value} {h : HP} {a : Nat} (hk : hp_k h a = 9) : pX 808 5 L (.ref a :: S) h = pX 808 8 L (.int (hp_i h a 0) :: S) h := pX_get d808_5 rfl rfl hk
theorem x808_8 {L S : List Value} {h : HP} {x y : Int32} : pX 808 8 L (.int y :: .int x :: S) h = if x = y then pX 808 11 L S h else pX 808 48 L S h := pX_icmp_ne d808_8 (by decide)
theorem x808_11 {S : List Value} {h : HP} {l1 : Value} {a0 : Nat} : pX 808 11 [.ref a0, l1] S h = pX 808 12 [.ref a0, l1] (.ref a0 :: S) h := pX_stp d808_11 rfl rfl rfl
theorem x808_12 {L S : List Value} {h : HP} {a : Nat} (hk : hp_k h a = 9) : pX 808 12 L (.ref a :: S) h = pX 808 15 L (.int (hp_i h a 1) :: S) h := pX_get d808_12 rfl rfl hk
theorem x808_15 {S : List Value} {h : HP} {l0 : Value} {a0 : Nat} : pX 808 15 [l0, .ref a0] S h = pX 808 16 [l0, .ref a0] (.ref a0 :: S) h := pX_stp d808_15 rfl rfl rfl
theorem x808_16 {L S : List Value} {h : HP} {a : Nat} (hk : hp_k h a = 9) : pX 808 16 L (.ref a :: S) h = pX 808 19 L (.int (hp_i h a 1) :: S) h := pX_get d808_16 rfl rfl hk
theorem x808_19 {L S : List Value} {h : HP} {x y : Int32} : pX 808 19 L (.int y :: .int x :: S) h = if x = y then pX 808 22 L S h else pX 808 48 L S h := pX_icmp_ne d808_19 (by decide)
theorem x808_22 {S : List Value} {h : HP} {l1 : Value} {a0 : Nat} : pX 808 22 [.ref a0, l1] S h = pX 808 23 [.ref a0, l1] (.ref a0 :: S) h := pX_stp d808_22 rfl rfl rfl
theorem x808_23 {L S : List Value} {h : HP} {a : Nat} (hk : hp_k h a = 9) : pX 808 23 L (.ref a :: S) h = pX 808 26 L (.ref (hp_a h a 2) :: S) h := pX_get d808_23 rfl rfl hk
theorem x808_26 {S : List Value} {h : HP} {l0 : Value} {a0 : Nat} : pX 808 26 [l0, .ref a0] S h = pX 808 27 [l0, .ref a0] (.ref a0 :: S) h := pX_stp d808_26 rfl rfl rfl
theorem x808_27 {L S : List Value} {h : HP} {a : Nat} (hk : hp_k h a = 9) : pX 808 27 L (.ref a :: S) h = pX 808 30 L (.ref (hp_a h a 2) :: S) h := pX_get d808_27 rfl rfl hk
theorem x808_30 {L S : List Value} {h : HP} {a b : Nat} (ha : okr a = true) (hb : okr b = true) : pX 808 30 L (.ref b :: .ref a :: S) h = if a = b then pX 808 33 L S h else pX 808 48 L S h := pX_acmp_ne d808_30 (by decide) ha hb
theorem x808_33 {S : List Value} {h : HP} {l1 : Value} {a0 : Nat} : pX 808 33 [.ref a0, l1] S h = pX 808 34 [.ref a0, l1] (.ref a0 :: S) h := pX_stp d808_33 rfl rfl rfl
theorem x808_34 {L S : List Value} {h : HP} {a : Nat} (hk : hp_k h a = 9) : pX 808 34 L (.ref a :: S) h = pX 808 37 L (.ref (hp_a h a 3) :: S) h := pX_get d808_34 rfl rfl hk
theorem x808_37 {S : List Value} {h : HP} {l0 : Value} {a0 : Nat} : pX 808 37 [l0, .ref a0] S h = pX 808 38 [l0, .ref a0] (.ref a0 :: S) h := pX_stp d808_37 rfl rfl rfl
theorem x808_38 {L S : List Value} {h : HP} {a : Nat} (hk : hp_k h a = 9) : pX 808 38 L (.ref a :: S) h = pX 808 41 L (.ref (hp_a h a 3) :: S) h := pX_get d808_38 rfl rfl hk
theorem x808_41 {L S : List Value} {h : HP} {a b : Nat} (ha : okr a = true) (hb : okr b = true) : pX 808 41 L (.ref b :: .ref a :: S) h = if a = b then pX 808 44 L S h else pX 808 48 L S h := pX_acmp_ne d808_41 (by decide) ha hb
theorem x808_44 {L S : List Value} {h : HP} : pX 808 44 L S h = pX 808 45 L (.int 1 :: S) h := pX_iconst d808_44 (by decide)
theorem x808_45 {L S : List Value} {h : HP} : pX 808 45 L S h = pX 808 49 L S h := pX_goto d808_45 (by decide)
theorem x808_48 {L S : List Value} {h : HP} : pX 808 48 L S h = pX 808 49 L (.int 0 :: S) h := pX_iconst d808_48 (by decide)
theorem x808_49 {L : List Value} {h : HP} {x : Int32} (hx : x = 0 ∨ x = 1) : pX 808 49 L [.int x] h = some (some (.int x), h) := pX_ret d808_49 (by rcases hx with rfl | rfl <;> rfl)
theorem d809_0 : decode (mb 809) 0 = .ok (.aload_n 0, 1) := by decide +kernel
theorem d809_1 : decode (mb 809) 1 = .ok (.getfield 18, 3) := by decide +kernel
theorem d809_4 : decode (mb 809) 4 = .ok (.ifnull 11, 3) := by decide +kernel
theorem d809_7 : decode (mb 809) 7 = .ok (.aload_n 0, 1) := by decide +kernel
theorem d809_8 : decode (mb 809) 8 = .ok (.getfield 18, 3) := by decide +kernel
theorem d809_11 : decode (mb 809) 11 = .ok (.getfield 43, 3) := by decide +kernel
theorem d809_14 : decode (mb 809) 14 = .ok (.ireturn, 1) := by decide +kernel
theorem d809_15 : decode (mb 809) 15 = .ok (.aload_n 0, 1) := by decide +kernel
theorem d809_16 : decode (mb 809) 16 = .ok (.getfield 22, 3) := by decide +kernel
theorem d809_19 : decode (mb 809) 19 = .ok (.ifnull 13, 3) := by decide +kernel
theorem d809_22 : decode (mb 809) 22 = .ok (.aload_n 0, 1) := by decide +kernel
theorem d809_23 : decode (mb 809) 23 = .ok (.getfield 22, 3) := by decide +kernel
theorem d809_26 : decode (mb 809) 26 = .ok (.getfield 46, 3) := by decide +kernel
theorem d809_29 : decode (mb 809) 29 = .ok (.goto 7, 3) := by decide +kernel
theorem d809_32 : decode (mb 809) 32 = .ok (.aload_n 0, 1) := by decide +kernel
theorem d809_33 : decode (mb 809) 33 = .ok (.getfield 15, 3) := by decide +kernel
theorem d809_36 : decode (mb 809) 36 = .ok (.ireturn, 1) := by decide +kernel
theorem x809_0 {S : List Value} {h : HP}  {a0 : Nat} : pX 809 0 [.ref a0] S h = pX 809 1 [.ref a0] (.ref a0 :: S) h := pX_stp d809_0 rfl rfl rfl
theorem x809_1 {L S : List Value} {h : HP} {a : Nat} (hk : hp_k h a = 9) : pX 809 1 L (.ref a :: S) h = pX 809 4 L (.ref (hp_a h a 2) :: S) h := pX_get d809_1 rfl rfl hk
theorem x809_4 {L S : List Value} {h : HP} {a : Nat} : pX 809 4 L (.ref a :: S) h = if a = 0 then pX 809 15 L S h else pX 809 7 L S h := pX_ifnull d809_4 (by decide)
theorem x809_7 {S : List Value} {h : HP}  {a0 : Nat} : pX 809 7 [.ref a0] S h = pX 809 8 [.ref a0] (.ref a0 :: S) h := pX_stp d809_7 rfl rfl rfl
theorem x809_8 {L S : List Value} {h : HP} {a : Nat} (hk : hp_k h a = 9) : pX 809 8 L (.ref a :: S) h = pX 809 11 L (.ref (hp_a h a 2) :: S) h := pX_get d809_8 rfl rfl hk
theorem x809_11 {L S : List Value} {h : HP} {a : Nat} (hk : hp_k h a = 1) : pX 809 11 L (.ref a :: S) h = pX 809 14 L (.int (hp_i h a 2) :: S) h := pX_get d809_11 rfl rfl hk
theorem x809_14 {L : List Value} {h : HP} {x : Int32} : pX 809 14 L [.int x] h = some (some (.int x), h) := pX_ret d809_14 rfl
theorem x809_15 {S : List Value} {h : HP}  {a0 : Nat} : pX 809 15 [.ref a0] S h = pX 809 16 [.ref a0] (.ref a0 :: S) h := pX_stp d809_15 rfl rfl rfl
theorem x809_16 {L S : List Value} {h : HP} {a : Nat} (hk : hp_k h a = 9) : pX 809 16 L (.ref a :: S) h = pX 809 19 L (.ref (hp_a h a 3) :: S) h := pX_get d809_16 rfl rfl hk
theorem x809_19 {L S : List Value} {h : HP} {a : Nat} : pX 809 19 L (.ref a :: S) h = if a = 0 then pX 809 32 L S h else pX 809 22 L S h := pX_ifnull d809_19 (by decide)
theorem x809_22 {S : List Value} {h : HP}  {a0 : Nat} : pX 809 22 [.ref a0] S h = pX 809 23 [.ref a0] (.ref a0 :: S) h := pX_stp d809_22 rfl rfl rfl
theorem x809_23 {L S : List Value} {h : HP} {a : Nat} (hk : hp_k h a = 9) : pX 809 23 L (.ref a :: S) h = pX 809 26 L (.ref (hp_a h a 3) :: S) h := pX_get d809_23 rfl rfl hk
theorem x809_26 {L S : List Value} {h : HP} {a : Nat} (hk : hp_k h a = 8) : pX 809 26 L (.ref a :: S) h = pX 809 29 L (.int (hp_i h a 1) :: S) h := pX_get d809_26 rfl rfl hk
theorem x809_29 {L S : List Value} {h : HP} : pX 809 29 L S h = pX 809 36 L S h := pX_goto d809_29 (by decide)
theorem x809_32 {S : List Value} {h : HP}  {a0 : Nat} : pX 809 32 [.ref a0] S h = pX 809 33 [.ref a0] (.ref a0 :: S) h := pX_stp d809_32 rfl rfl rfl
theorem x809_33 {L S : List Value} {h : HP} {a : Nat} (hk : hp_k h a = 9) : pX 809 33 L (.ref a :: S) h = pX 809 36 L (.int (hp_i h a 1) :: S) h := pX_get d809_33 rfl rfl hk
theorem x809_36 {L : List Value} {h : HP} {x : Int32} : pX 809 36 L [.int x] h = some (some (.int x), h) := pX_ret d809_36 rfl
theorem d810_0 : decode (mb 810) 0 = .ok (.aload_n 0, 1) := by decide +kernel
theorem d810_1 : decode (mb 810) 1 = .ok (.getfield 9, 3) := by decide +kernel
theorem d810_4 : decode (mb 810) 4 = .ok (.bipush (-5), 2) := by decide +kernel
theorem d810_6 : decode (mb 810) 6 = .ok (.if_icmp .ne 7, 3) := by decide +kernel
theorem d810_9 : decode (mb 810) 9 = .ok (.iconst 1, 1) := by decide +kernel
theorem d810_10 : decode (mb 810) 10 = .ok (.goto 4, 3) := by decide +kernel
theorem d810_13 : decode (mb 810) 13 = .ok (.iconst 3, 1) := by decide +kernel
theorem d810_14 : decode (mb 810) 14 = .ok (.ireturn, 1) := by decide +kernel
theorem x810_0 {S : List Value} {h : HP}  {a0 : Nat} : pX 810 0 [.ref a0] S h = pX 810 1 [.ref a0] (.ref a0 :: S) h := pX_stp d810_0 rfl rfl rfl
theorem x810_1 {L S : List Value} {h : HP} {a : Nat} (hk : hp_k h a = 9) : pX 810 1 L (.ref a :: S) h = pX 810 4 L (.int (hp_i h a 0) :: S) h := pX_get d810_1 rfl rfl hk
theorem x810_4 {L S : List Value} {h : HP} : pX 810 4 L S h = pX 810 6 L (.int (-5) :: S) h := pX_bipush d810_4 (by decide)
theorem x810_6 {L S : List Value} {h : HP} {x y : Int32} : pX 810 6 L (.int y :: .int x :: S) h = if x = y then pX 810 9 L S h else pX 810 13 L S h := pX_icmp_ne d810_6 (by decide)
theorem x810_9 {L S : List Value} {h : HP} : pX 810 9 L S h = pX 810 10 L (.int 1 :: S) h := pX_iconst d810_9 (by decide)
theorem x810_10 {L S : List Value} {h : HP} : pX 810 10 L S h = pX 810 14 L S h := pX_goto d810_10 (by decide)
theorem x810_13 {L S : List Value} {h : HP} : pX 810 13 L S h = pX 810 14 L (.int 3 :: S) h := pX_iconst d810_13 (by decide)
theorem x810_14 {L : List Value} {h : HP} {x : Int32} : pX 810 14 L [.int x] h = some (some (.int x), h) := pX_ret d810_14 rfl
theorem d811_0 : decode (mb 811) 0 = .ok (.aload_n 0, 1) := by decide +kernel
theorem d811_1 : decode (mb 811) 1 = .ok (.getfield 9, 3) := by decide +kernel
theorem d811_4 : decode (mb 811) 4 = .ok (.ifCond .ne 7, 3) := by decide +kernel
theorem d811_7 : decode (mb 811) 7 = .ok (.iconst 0, 1) := by decide +kernel
theorem d811_8 : decode (mb 811) 8 = .ok (.goto 7, 3) := by decide +kernel
theorem d811_11 : decode (mb 811) 11 = .ok (.aload_n 0, 1) := by decide +kernel
theorem d811_12 : decode (mb 811) 12 = .ok (.invokevirtual 49, 3) := by decide +kernel
theorem d811_15 : decode (mb 811) 15 = .ok (.ireturn, 1) := by decide +kernel
theorem x811_0 {S : List Value} {h : HP}  {a0 : Nat} : pX 811 0 [.ref a0] S h = pX 811 1 [.ref a0] (.ref a0 :: S) h := pX_stp d811_0 rfl rfl rfl
theorem x811_1 {L S : List Value} {h : HP} {a : Nat} (hk : hp_k h a = 9) : pX 811 1 L (.ref a :: S) h = pX 811 4 L (.int (hp_i h a 0) :: S) h := pX_get d811_1 rfl rfl hk
theorem x811_4 {L S : List Value} {h : HP} {x : Int32} : pX 811 4 L (.int x :: S) h = if x = 0 then pX 811 7 L S h else pX 811 11 L S h := pX_if_ne d811_4 (by decide)
theorem x811_7 {L S : List Value} {h : HP} : pX 811 7 L S h = pX 811 8 L (.int 0 :: S) h := pX_iconst d811_7 (by decide)
theorem x811_8 {L S : List Value} {h : HP} : pX 811 8 L S h = pX 811 15 L S h := pX_goto d811_8 (by decide)
theorem x811_11 {S : List Value} {h : HP}  {a0 : Nat} : pX 811 11 [.ref a0] S h = pX 811 12 [.ref a0] (.ref a0 :: S) h := pX_stp d811_11 rfl rfl rfl
theorem x811_12 {L : List Value} {h : HP} {a0 : Nat} (hk : hp_k h a0 = 9) : pX 811 12 L [.ref a0] h = (pX 810 0 [.ref a0] [] h).bind (fun q => pX 811 15 L (q.1.toList ++ []) q.2) := pX_inv (a := a0) (t := 9) 810 [.ref a0] [] d811_12 rfl rfl rfl hk
theorem x811_15 {L : List Value} {h : HP} {x : Int32} : pX 811 15 L [.int x] h = some (some (.int x), h) := pX_ret d811_15 rfl
end
