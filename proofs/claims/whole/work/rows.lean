section
/-- a private method of a class that the tables say can be made, by its rows of tables_1 -/
def lw_okq (q : MethodName × Nat) : Prop := (q.1.cls ≠ "java/lang/invoke/MethodHandle" ∧ q.1.cls ≠ "java/lang/invoke/VarHandle") ∧ Cond.instantiable q.1.cls q.2 ∈ tables_1 ∧ Cond.privateMethod q.1 ∈ tables_1 ∧ Cond.instanceMethod q.1 ∈ tables_1
theorem lw_p0 : lw_okq (⟨"CheeseValleys", "failed", "(I)I"⟩, 6) := ⟨⟨by decide +kernel, by decide +kernel⟩, List.mem_of_getElem? (i := 13) (by decide +kernel), List.mem_of_getElem? (i := 196) (by decide +kernel), List.mem_of_getElem? (i := 197) (by decide +kernel)⟩
theorem lw_p1 : lw_okq (⟨"CheeseValleys$Text", "goesOnAt", "(I)Z"⟩, 3) := ⟨⟨by decide +kernel, by decide +kernel⟩, List.mem_of_getElem? (i := 200) (by decide +kernel), List.mem_of_getElem? (i := 221) (by decide +kernel), List.mem_of_getElem? (i := 222) (by decide +kernel)⟩
theorem lw_p2 : lw_okq (⟨"CheeseValleys$Text", "isDigitAt", "(III)Z"⟩, 3) := ⟨⟨by decide +kernel, by decide +kernel⟩, List.mem_of_getElem? (i := 200) (by decide +kernel), List.mem_of_getElem? (i := 229) (by decide +kernel), List.mem_of_getElem? (i := 230) (by decide +kernel)⟩
theorem lw_p3 : lw_okq (⟨"CheeseValleys$Text", "givesGoOnAt", "(II)Z"⟩, 3) := ⟨⟨by decide +kernel, by decide +kernel⟩, List.mem_of_getElem? (i := 200) (by decide +kernel), List.mem_of_getElem? (i := 237) (by decide +kernel), List.mem_of_getElem? (i := 238) (by decide +kernel)⟩
theorem lw_p4 : lw_okq (⟨"CheeseValleys$Text", "passGoesOnAt", "(II)Z"⟩, 3) := ⟨⟨by decide +kernel, by decide +kernel⟩, List.mem_of_getElem? (i := 200) (by decide +kernel), List.mem_of_getElem? (i := 241) (by decide +kernel), List.mem_of_getElem? (i := 242) (by decide +kernel)⟩
theorem lw_p5 : lw_okq (⟨"CheeseValleys", "isPass", "(I)Z"⟩, 6) := ⟨⟨by decide +kernel, by decide +kernel⟩, List.mem_of_getElem? (i := 13) (by decide +kernel), List.mem_of_getElem? (i := 269) (by decide +kernel), List.mem_of_getElem? (i := 270) (by decide +kernel)⟩
theorem lw_p6 : lw_okq (⟨"CheeseValleys$Land", "reachFrom", "(III)I"⟩, 7) := ⟨⟨by decide +kernel, by decide +kernel⟩, List.mem_of_getElem? (i := 41) (by decide +kernel), List.mem_of_getElem? (i := 307) (by decide +kernel), List.mem_of_getElem? (i := 308) (by decide +kernel)⟩
theorem lw_p7 : lw_okq (⟨"CheeseValleys$Land", "doneWith", "(III)I"⟩, 7) := ⟨⟨by decide +kernel, by decide +kernel⟩, List.mem_of_getElem? (i := 41) (by decide +kernel), List.mem_of_getElem? (i := 325) (by decide +kernel), List.mem_of_getElem? (i := 326) (by decide +kernel)⟩
theorem lw_p8 : lw_okq (⟨"CheeseValleys$Land", "firstDayIn", "(IIII)I"⟩, 7) := ⟨⟨by decide +kernel, by decide +kernel⟩, List.mem_of_getElem? (i := 41) (by decide +kernel), List.mem_of_getElem? (i := 332) (by decide +kernel), List.mem_of_getElem? (i := 333) (by decide +kernel)⟩
theorem lw_p9 : lw_okq (⟨"CheeseValleys$Land", "holesFrom", "(III)I"⟩, 7) := ⟨⟨by decide +kernel, by decide +kernel⟩, List.mem_of_getElem? (i := 41) (by decide +kernel), List.mem_of_getElem? (i := 347) (by decide +kernel), List.mem_of_getElem? (i := 348) (by decide +kernel)⟩
theorem lw_p10 : lw_okq (⟨"CheeseValleys", "refusalOfSteps", "([III)I"⟩, 6) := ⟨⟨by decide +kernel, by decide +kernel⟩, List.mem_of_getElem? (i := 13) (by decide +kernel), List.mem_of_getElem? (i := 361) (by decide +kernel), List.mem_of_getElem? (i := 362) (by decide +kernel)⟩
theorem lw_p11 : lw_okq (⟨"CheeseValleys", "firstWrong", "([III)I"⟩, 6) := ⟨⟨by decide +kernel, by decide +kernel⟩, List.mem_of_getElem? (i := 13) (by decide +kernel), List.mem_of_getElem? (i := 369) (by decide +kernel), List.mem_of_getElem? (i := 370) (by decide +kernel)⟩
theorem lw_p12 : lw_okq (⟨"CheeseValleys$Wheel", "waitsADay", "()Z"⟩, 4) := ⟨⟨by decide +kernel, by decide +kernel⟩, List.mem_of_getElem? (i := 110) (by decide +kernel), List.mem_of_getElem? (i := 378) (by decide +kernel), List.mem_of_getElem? (i := 379) (by decide +kernel)⟩
theorem lw_p13 : lw_okq (⟨"CheeseValleys$Wheel", "gets", "(IILCheeseValleys$Land;)Z"⟩, 4) := ⟨⟨by decide +kernel, by decide +kernel⟩, List.mem_of_getElem? (i := 110) (by decide +kernel), List.mem_of_getElem? (i := 382) (by decide +kernel), List.mem_of_getElem? (i := 383) (by decide +kernel)⟩
theorem lw_p14 : lw_okq (⟨"CheeseValleys$Wheel", "crosses", "(ILCheeseValleys$Land;)Z"⟩, 4) := ⟨⟨by decide +kernel, by decide +kernel⟩, List.mem_of_getElem? (i := 110) (by decide +kernel), List.mem_of_getElem? (i := 387) (by decide +kernel), List.mem_of_getElem? (i := 388) (by decide +kernel)⟩
theorem lw_p15 : lw_okq (⟨"CheeseValleys", "ofWay", "(II)I"⟩, 6) := ⟨⟨by decide +kernel, by decide +kernel⟩, List.mem_of_getElem? (i := 13) (by decide +kernel), List.mem_of_getElem? (i := 394) (by decide +kernel), List.mem_of_getElem? (i := 395) (by decide +kernel)⟩
def lw_privs_1 : List (MethodName × Nat) := [(⟨"CheeseValleys", "failed", "(I)I"⟩, 6), (⟨"CheeseValleys$Text", "goesOnAt", "(I)Z"⟩, 3), (⟨"CheeseValleys$Text", "isDigitAt", "(III)Z"⟩, 3), (⟨"CheeseValleys$Text", "givesGoOnAt", "(II)Z"⟩, 3), (⟨"CheeseValleys$Text", "passGoesOnAt", "(II)Z"⟩, 3), (⟨"CheeseValleys", "isPass", "(I)Z"⟩, 6), (⟨"CheeseValleys$Land", "reachFrom", "(III)I"⟩, 7), (⟨"CheeseValleys$Land", "doneWith", "(III)I"⟩, 7), (⟨"CheeseValleys$Land", "firstDayIn", "(IIII)I"⟩, 7), (⟨"CheeseValleys$Land", "holesFrom", "(III)I"⟩, 7), (⟨"CheeseValleys", "refusalOfSteps", "([III)I"⟩, 6), (⟨"CheeseValleys", "firstWrong", "([III)I"⟩, 6), (⟨"CheeseValleys$Wheel", "waitsADay", "()Z"⟩, 4), (⟨"CheeseValleys$Wheel", "gets", "(IILCheeseValleys$Land;)Z"⟩, 4), (⟨"CheeseValleys$Wheel", "crosses", "(ILCheeseValleys$Land;)Z"⟩, 4), (⟨"CheeseValleys", "ofWay", "(II)I"⟩, 6)]
theorem lw_r1 : ∀ q ∈ lw_privs_1, lw_okq q := List.forall_mem_cons.mpr ⟨lw_p0, List.forall_mem_cons.mpr ⟨lw_p1, List.forall_mem_cons.mpr ⟨lw_p2, List.forall_mem_cons.mpr ⟨lw_p3, List.forall_mem_cons.mpr ⟨lw_p4, List.forall_mem_cons.mpr ⟨lw_p5, List.forall_mem_cons.mpr ⟨lw_p6, List.forall_mem_cons.mpr ⟨lw_p7, List.forall_mem_cons.mpr ⟨lw_p8, List.forall_mem_cons.mpr ⟨lw_p9, List.forall_mem_cons.mpr ⟨lw_p10, List.forall_mem_cons.mpr ⟨lw_p11, List.forall_mem_cons.mpr ⟨lw_p12, List.forall_mem_cons.mpr ⟨lw_p13, List.forall_mem_cons.mpr ⟨lw_p14, List.forall_mem_cons.mpr ⟨lw_p15, fun _ h => absurd h List.not_mem_nil⟩⟩⟩⟩⟩⟩⟩⟩⟩⟩⟩⟩⟩⟩⟩⟩
theorem lw_p16 : lw_okq (⟨"CheeseValleys", "canWithout", "(III)Z"⟩, 6) := ⟨⟨by decide +kernel, by decide +kernel⟩, List.mem_of_getElem? (i := 13) (by decide +kernel), List.mem_of_getElem? (i := 419) (by decide +kernel), List.mem_of_getElem? (i := 420) (by decide +kernel)⟩
theorem lw_p17 : lw_okq (⟨"CheeseValleys", "bitIfReadingsHold", "(I)I"⟩, 6) := ⟨⟨by decide +kernel, by decide +kernel⟩, List.mem_of_getElem? (i := 13) (by decide +kernel), List.mem_of_getElem? (i := 443) (by decide +kernel), List.mem_of_getElem? (i := 444) (by decide +kernel)⟩
theorem lw_p18 : lw_okq (⟨"CheeseValleys", "steepTelling", "(LCheeseValleys$Pass;)I"⟩, 6) := ⟨⟨by decide +kernel, by decide +kernel⟩, List.mem_of_getElem? (i := 13) (by decide +kernel), List.mem_of_getElem? (i := 516) (by decide +kernel), List.mem_of_getElem? (i := 517) (by decide +kernel)⟩
theorem lw_p19 : lw_okq (⟨"CheeseValleys", "leave", "(I)V"⟩, 6) := ⟨⟨by decide +kernel, by decide +kernel⟩, List.mem_of_getElem? (i := 13) (by decide +kernel), List.mem_of_getElem? (i := 520) (by decide +kernel), List.mem_of_getElem? (i := 521) (by decide +kernel)⟩
theorem lw_p20 : lw_okq (⟨"CheeseValleys", "passTelling", "(LCheeseValleys$Pass;)I"⟩, 6) := ⟨⟨by decide +kernel, by decide +kernel⟩, List.mem_of_getElem? (i := 13) (by decide +kernel), List.mem_of_getElem? (i := 524) (by decide +kernel), List.mem_of_getElem? (i := 525) (by decide +kernel)⟩
theorem lw_p21 : lw_okq (⟨"CheeseValleys", "tunnelTelling", "(LCheeseValleys$Pass;)I"⟩, 6) := ⟨⟨by decide +kernel, by decide +kernel⟩, List.mem_of_getElem? (i := 13) (by decide +kernel), List.mem_of_getElem? (i := 528) (by decide +kernel), List.mem_of_getElem? (i := 529) (by decide +kernel)⟩
theorem lw_p22 : lw_okq (⟨"CheeseValleysModel", "against", "(IIII)I"⟩, 29) := ⟨⟨by decide +kernel, by decide +kernel⟩, List.mem_of_getElem? (i := 552) (by decide +kernel), List.mem_of_getElem? (i := 659) (by decide +kernel), List.mem_of_getElem? (i := 660) (by decide +kernel)⟩
theorem lw_p23 : lw_okq (⟨"CheeseValleysModel", "fails", "(I)I"⟩, 29) := ⟨⟨by decide +kernel, by decide +kernel⟩, List.mem_of_getElem? (i := 552) (by decide +kernel), List.mem_of_getElem? (i := 663) (by decide +kernel), List.mem_of_getElem? (i := 664) (by decide +kernel)⟩
theorem lw_p24 : lw_okq (⟨"CheeseValleysModel", "readLand", "(I)Z"⟩, 29) := ⟨⟨by decide +kernel, by decide +kernel⟩, List.mem_of_getElem? (i := 552) (by decide +kernel), List.mem_of_getElem? (i := 667) (by decide +kernel), List.mem_of_getElem? (i := 668) (by decide +kernel)⟩
theorem lw_p25 : lw_okq (⟨"CheeseValleysModel", "isSign", "(II)Z"⟩, 29) := ⟨⟨by decide +kernel, by decide +kernel⟩, List.mem_of_getElem? (i := 552) (by decide +kernel), List.mem_of_getElem? (i := 671) (by decide +kernel), List.mem_of_getElem? (i := 672) (by decide +kernel)⟩
theorem lw_p26 : lw_okq (⟨"CheeseValleysModel", "digit", "(III)I"⟩, 29) := ⟨⟨by decide +kernel, by decide +kernel⟩, List.mem_of_getElem? (i := 552) (by decide +kernel), List.mem_of_getElem? (i := 675) (by decide +kernel), List.mem_of_getElem? (i := 676) (by decide +kernel)⟩
theorem lw_p27 : lw_okq (⟨"CheeseValleysModel", "readSet", "(I)I"⟩, 29) := ⟨⟨by decide +kernel, by decide +kernel⟩, List.mem_of_getElem? (i := 552) (by decide +kernel), List.mem_of_getElem? (i := 679) (by decide +kernel), List.mem_of_getElem? (i := 680) (by decide +kernel)⟩
theorem lw_p28 : lw_okq (⟨"CheeseValleysModel", "readPass", "(I)Z"⟩, 29) := ⟨⟨by decide +kernel, by decide +kernel⟩, List.mem_of_getElem? (i := 552) (by decide +kernel), List.mem_of_getElem? (i := 683) (by decide +kernel), List.mem_of_getElem? (i := 684) (by decide +kernel)⟩
theorem lw_p29 : lw_okq (⟨"CheeseValleysModel", "takeLand", "()V"⟩, 29) := ⟨⟨by decide +kernel, by decide +kernel⟩, List.mem_of_getElem? (i := 552) (by decide +kernel), List.mem_of_getElem? (i := 687) (by decide +kernel), List.mem_of_getElem? (i := 688) (by decide +kernel)⟩
theorem lw_p30 : lw_okq (⟨"CheeseValleysModel", "isPass", "(I)Z"⟩, 29) := ⟨⟨by decide +kernel, by decide +kernel⟩, List.mem_of_getElem? (i := 552) (by decide +kernel), List.mem_of_getElem? (i := 695) (by decide +kernel), List.mem_of_getElem? (i := 696) (by decide +kernel)⟩
theorem lw_p31 : lw_okq (⟨"CheeseValleysModel", "takes", "(I)I"⟩, 29) := ⟨⟨by decide +kernel, by decide +kernel⟩, List.mem_of_getElem? (i := 552) (by decide +kernel), List.mem_of_getElem? (i := 699) (by decide +kernel), List.mem_of_getElem? (i := 700) (by decide +kernel)⟩
def lw_privs_2 : List (MethodName × Nat) := [(⟨"CheeseValleys", "canWithout", "(III)Z"⟩, 6), (⟨"CheeseValleys", "bitIfReadingsHold", "(I)I"⟩, 6), (⟨"CheeseValleys", "steepTelling", "(LCheeseValleys$Pass;)I"⟩, 6), (⟨"CheeseValleys", "leave", "(I)V"⟩, 6), (⟨"CheeseValleys", "passTelling", "(LCheeseValleys$Pass;)I"⟩, 6), (⟨"CheeseValleys", "tunnelTelling", "(LCheeseValleys$Pass;)I"⟩, 6), (⟨"CheeseValleysModel", "against", "(IIII)I"⟩, 29), (⟨"CheeseValleysModel", "fails", "(I)I"⟩, 29), (⟨"CheeseValleysModel", "readLand", "(I)Z"⟩, 29), (⟨"CheeseValleysModel", "isSign", "(II)Z"⟩, 29), (⟨"CheeseValleysModel", "digit", "(III)I"⟩, 29), (⟨"CheeseValleysModel", "readSet", "(I)I"⟩, 29), (⟨"CheeseValleysModel", "readPass", "(I)Z"⟩, 29), (⟨"CheeseValleysModel", "takeLand", "()V"⟩, 29), (⟨"CheeseValleysModel", "isPass", "(I)Z"⟩, 29), (⟨"CheeseValleysModel", "takes", "(I)I"⟩, 29)]
theorem lw_r2 : ∀ q ∈ lw_privs_2, lw_okq q := List.forall_mem_cons.mpr ⟨lw_p16, List.forall_mem_cons.mpr ⟨lw_p17, List.forall_mem_cons.mpr ⟨lw_p18, List.forall_mem_cons.mpr ⟨lw_p19, List.forall_mem_cons.mpr ⟨lw_p20, List.forall_mem_cons.mpr ⟨lw_p21, List.forall_mem_cons.mpr ⟨lw_p22, List.forall_mem_cons.mpr ⟨lw_p23, List.forall_mem_cons.mpr ⟨lw_p24, List.forall_mem_cons.mpr ⟨lw_p25, List.forall_mem_cons.mpr ⟨lw_p26, List.forall_mem_cons.mpr ⟨lw_p27, List.forall_mem_cons.mpr ⟨lw_p28, List.forall_mem_cons.mpr ⟨lw_p29, List.forall_mem_cons.mpr ⟨lw_p30, List.forall_mem_cons.mpr ⟨lw_p31, fun _ h => absurd h List.not_mem_nil⟩⟩⟩⟩⟩⟩⟩⟩⟩⟩⟩⟩⟩⟩⟩⟩
theorem lw_p32 : lw_okq (⟨"CheeseValleysModel", "isOpen", "(II)Z"⟩, 29) := ⟨⟨by decide +kernel, by decide +kernel⟩, List.mem_of_getElem? (i := 552) (by decide +kernel), List.mem_of_getElem? (i := 721) (by decide +kernel), List.mem_of_getElem? (i := 722) (by decide +kernel)⟩
theorem lw_p33 : lw_okq (⟨"CheeseValleysModel", "soonestOf", "(I)I"⟩, 29) := ⟨⟨by decide +kernel, by decide +kernel⟩, List.mem_of_getElem? (i := 552) (by decide +kernel), List.mem_of_getElem? (i := 729) (by decide +kernel), List.mem_of_getElem? (i := 730) (by decide +kernel)⟩
theorem lw_p34 : lw_okq (⟨"CheeseValleysModel", "makeWheel", "(I)V"⟩, 29) := ⟨⟨by decide +kernel, by decide +kernel⟩, List.mem_of_getElem? (i := 552) (by decide +kernel), List.mem_of_getElem? (i := 733) (by decide +kernel), List.mem_of_getElem? (i := 734) (by decide +kernel)⟩
theorem lw_p35 : lw_okq (⟨"CheeseValleysModel", "doesGive", "(II)Z"⟩, 29) := ⟨⟨by decide +kernel, by decide +kernel⟩, List.mem_of_getElem? (i := 552) (by decide +kernel), List.mem_of_getElem? (i := 737) (by decide +kernel), List.mem_of_getElem? (i := 738) (by decide +kernel)⟩
theorem lw_p36 : lw_okq (⟨"CheeseValleysModel", "comes", "(IIII)V"⟩, 29) := ⟨⟨by decide +kernel, by decide +kernel⟩, List.mem_of_getElem? (i := 552) (by decide +kernel), List.mem_of_getElem? (i := 741) (by decide +kernel), List.mem_of_getElem? (i := 742) (by decide +kernel)⟩
theorem lw_p37 : lw_okq (⟨"CheeseValleysModel", "goOn", "(III)V"⟩, 29) := ⟨⟨by decide +kernel, by decide +kernel⟩, List.mem_of_getElem? (i := 552) (by decide +kernel), List.mem_of_getElem? (i := 748) (by decide +kernel), List.mem_of_getElem? (i := 749) (by decide +kernel)⟩
theorem lw_p38 : lw_okq (⟨"CheeseValleysModel", "over", "(II)I"⟩, 29) := ⟨⟨by decide +kernel, by decide +kernel⟩, List.mem_of_getElem? (i := 552) (by decide +kernel), List.mem_of_getElem? (i := 752) (by decide +kernel), List.mem_of_getElem? (i := 753) (by decide +kernel)⟩
theorem lw_p39 : lw_okq (⟨"CheeseValleysModel", "wayOf", "(IIII)I"⟩, 29) := ⟨⟨by decide +kernel, by decide +kernel⟩, List.mem_of_getElem? (i := 552) (by decide +kernel), List.mem_of_getElem? (i := 764) (by decide +kernel), List.mem_of_getElem? (i := 765) (by decide +kernel)⟩
theorem lw_p40 : lw_okq (⟨"CheeseValleysModel", "goStep", "(I)Z"⟩, 29) := ⟨⟨by decide +kernel, by decide +kernel⟩, List.mem_of_getElem? (i := 552) (by decide +kernel), List.mem_of_getElem? (i := 768) (by decide +kernel), List.mem_of_getElem? (i := 769) (by decide +kernel)⟩
theorem lw_p41 : lw_okq (⟨"CheeseValleysModel", "canBy", "(II)Z"⟩, 29) := ⟨⟨by decide +kernel, by decide +kernel⟩, List.mem_of_getElem? (i := 552) (by decide +kernel), List.mem_of_getElem? (i := 776) (by decide +kernel), List.mem_of_getElem? (i := 777) (by decide +kernel)⟩
theorem lw_p42 : lw_okq (⟨"CheeseValleysModel", "isSafe", "(II)Z"⟩, 29) := ⟨⟨by decide +kernel, by decide +kernel⟩, List.mem_of_getElem? (i := 552) (by decide +kernel), List.mem_of_getElem? (i := 784) (by decide +kernel), List.mem_of_getElem? (i := 785) (by decide +kernel)⟩
theorem lw_p43 : lw_okq (⟨"CheeseValleysModel", "areSo", "()Z"⟩, 29) := ⟨⟨by decide +kernel, by decide +kernel⟩, List.mem_of_getElem? (i := 552) (by decide +kernel), List.mem_of_getElem? (i := 808) (by decide +kernel), List.mem_of_getElem? (i := 809) (by decide +kernel)⟩
theorem lw_p44 : lw_okq (⟨"CheeseValleysModel", "lost", "(I)J"⟩, 29) := ⟨⟨by decide +kernel, by decide +kernel⟩, List.mem_of_getElem? (i := 552) (by decide +kernel), List.mem_of_getElem? (i := 848) (by decide +kernel), List.mem_of_getElem? (i := 849) (by decide +kernel)⟩
theorem lw_p45 : lw_okq (⟨"CheeseValleysModel", "begins", "(I)V"⟩, 29) := ⟨⟨by decide +kernel, by decide +kernel⟩, List.mem_of_getElem? (i := 552) (by decide +kernel), List.mem_of_getElem? (i := 860) (by decide +kernel), List.mem_of_getElem? (i := 861) (by decide +kernel)⟩
theorem lw_p46 : lw_okq (⟨"CheeseValleysModel", "allGive", "()I"⟩, 29) := ⟨⟨by decide +kernel, by decide +kernel⟩, List.mem_of_getElem? (i := 552) (by decide +kernel), List.mem_of_getElem? (i := 884) (by decide +kernel), List.mem_of_getElem? (i := 885) (by decide +kernel)⟩
def lw_privs_3 : List (MethodName × Nat) := [(⟨"CheeseValleysModel", "isOpen", "(II)Z"⟩, 29), (⟨"CheeseValleysModel", "soonestOf", "(I)I"⟩, 29), (⟨"CheeseValleysModel", "makeWheel", "(I)V"⟩, 29), (⟨"CheeseValleysModel", "doesGive", "(II)Z"⟩, 29), (⟨"CheeseValleysModel", "comes", "(IIII)V"⟩, 29), (⟨"CheeseValleysModel", "goOn", "(III)V"⟩, 29), (⟨"CheeseValleysModel", "over", "(II)I"⟩, 29), (⟨"CheeseValleysModel", "wayOf", "(IIII)I"⟩, 29), (⟨"CheeseValleysModel", "goStep", "(I)Z"⟩, 29), (⟨"CheeseValleysModel", "canBy", "(II)Z"⟩, 29), (⟨"CheeseValleysModel", "isSafe", "(II)Z"⟩, 29), (⟨"CheeseValleysModel", "areSo", "()Z"⟩, 29), (⟨"CheeseValleysModel", "lost", "(I)J"⟩, 29), (⟨"CheeseValleysModel", "begins", "(I)V"⟩, 29), (⟨"CheeseValleysModel", "allGive", "()I"⟩, 29)]
theorem lw_r3 : ∀ q ∈ lw_privs_3, lw_okq q := List.forall_mem_cons.mpr ⟨lw_p32, List.forall_mem_cons.mpr ⟨lw_p33, List.forall_mem_cons.mpr ⟨lw_p34, List.forall_mem_cons.mpr ⟨lw_p35, List.forall_mem_cons.mpr ⟨lw_p36, List.forall_mem_cons.mpr ⟨lw_p37, List.forall_mem_cons.mpr ⟨lw_p38, List.forall_mem_cons.mpr ⟨lw_p39, List.forall_mem_cons.mpr ⟨lw_p40, List.forall_mem_cons.mpr ⟨lw_p41, List.forall_mem_cons.mpr ⟨lw_p42, List.forall_mem_cons.mpr ⟨lw_p43, List.forall_mem_cons.mpr ⟨lw_p44, List.forall_mem_cons.mpr ⟨lw_p45, List.forall_mem_cons.mpr ⟨lw_p46, fun _ h => absurd h List.not_mem_nil⟩⟩⟩⟩⟩⟩⟩⟩⟩⟩⟩⟩⟩⟩⟩
def lw_privs : List (MethodName × Nat) := lw_privs_1 ++ (lw_privs_2 ++ (lw_privs_3))
def lw_tbl : List Cond := k2_sels lw_privs ++ tables_1
theorem lw_privs_ok : ∀ q ∈ lw_privs, lw_okq q := by
  show ∀ q ∈ lw_privs_1 ++ (lw_privs_2 ++ (lw_privs_3)), lw_okq q
  exact List.forall_mem_append.mpr ⟨lw_r1, List.forall_mem_append.mpr ⟨lw_r2, lw_r3⟩⟩
end
section
/-! ===== BEGIN printed: names, fields, word lists, decode rows ===== -/
def RX0 : String := "CheeseValleys$Land"
def TX0 : u_T := fun k => match k with
  | 0 => ("CheeseValleys$Land", "passes", "[LCheeseValleys$Pass;", true)
  | 1 => ("CheeseValleys$Land", "snowOn", "[I", true)
  | 2 => ("CheeseValleys$Land", "gives", "[I", true)
  | 3 => ("CheeseValleys$Land", "reach", "[I", true)
  | 4 => ("CheeseValleys$Land", "fewest", "[I", true)
  | 5 => ("CheeseValleys$Land", "settled", "Z", false)
  | _ => ("CheeseValleys$Land", "passCount", "I", false)
def tyX0 : Nat → FieldType := fun k => match k with
  | 0 => .array (.object "CheeseValleys$Pass")
  | 1 => .array .int
  | 2 => .array .int
  | 3 => .array .int
  | 4 => .array .int
  | 5 => .boolean
  | _ => .int
abbrev wsX00 : List Cond := u_ws RX0 TX0 7
theorem nmX0 : ∀ a, a < 7 → ∀ b, b < 7 → a ≠ b → (TX0 a).2.1 ≠ (TX0 b).2.1 := by decide +kernel
theorem tyX0_ok : ∀ k, k < 7 → parseFieldDescriptor (TX0 k).2.2.1 = some (tyX0 k) := by decide +kernel
abbrev cX0_init : ByteArray := prog_2_method_1_code
def yX0_init : MethodName := ⟨RX0, "<init>", "()V"⟩
abbrev cX0_settle : ByteArray := prog_2_method_2_code
def yX0_settle : MethodName := ⟨RX0, "settle", "(LCheeseValleys$Text;)V"⟩
abbrev cX0_settlePass : ByteArray := prog_2_method_3_code
def yX0_settlePass : MethodName := ⟨RX0, "settlePass", "(LCheeseValleys$Pass;LCheeseValleys$Text;I)V"⟩
abbrev cX0_arrival : ByteArray := prog_2_method_4_code
def yX0_arrival : MethodName := ⟨RX0, "arrival", "(LCheeseValleys$Pass;II)I"⟩
abbrev cX0_chart : ByteArray := prog_2_method_5_code
def yX0_chart : MethodName := ⟨RX0, "chart", "(I)V"⟩
abbrev cX0_reachFrom : ByteArray := prog_2_method_6_code
def yX0_reachFrom : MethodName := ⟨RX0, "reachFrom", "(III)I"⟩
abbrev cX0_firstDayIn : ByteArray := prog_2_method_7_code
def yX0_firstDayIn : MethodName := ⟨RX0, "firstDayIn", "(IIII)I"⟩
abbrev cX0_doneOn : ByteArray := prog_2_method_8_code
def yX0_doneOn : MethodName := ⟨RX0, "doneOn", "(I)I"⟩
abbrev cX0_doneWith : ByteArray := prog_2_method_9_code
def yX0_doneWith : MethodName := ⟨RX0, "doneWith", "(III)I"⟩
abbrev cX0_isDoneBy : ByteArray := prog_2_method_10_code
def yX0_isDoneBy : MethodName := ⟨RX0, "isDoneBy", "(IIII)Z"⟩
abbrev cX0_isSafeBy : ByteArray := prog_2_method_11_code
def yX0_isSafeBy : MethodName := ⟨RX0, "isSafeBy", "(II)Z"⟩
abbrev cX0_daysToPeace : ByteArray := prog_2_method_12_code
def yX0_daysToPeace : MethodName := ⟨RX0, "daysToPeace", "(II)I"⟩
abbrev cX0_setsDoneBy : ByteArray := prog_2_method_13_code
def yX0_setsDoneBy : MethodName := ⟨RX0, "setsDoneBy", "(III)I"⟩
abbrev cX0_fewestHoles : ByteArray := prog_2_method_14_code
def yX0_fewestHoles : MethodName := ⟨RX0, "fewestHoles", "(I)I"⟩
abbrev cX0_holesFrom : ByteArray := prog_2_method_15_code
def yX0_holesFrom : MethodName := ⟨RX0, "holesFrom", "(III)I"⟩
abbrev cX0_placeOf : ByteArray := prog_2_method_16_code
def yX0_placeOf : MethodName := ⟨RX0, "placeOf", "(III)I"⟩
abbrev cX0_fewer : ByteArray := prog_2_method_17_code
def yX0_fewer : MethodName := ⟨RX0, "fewer", "(II)I"⟩
def RX1 : String := "CheeseValleys$Pass"
def TX1 : u_T := fun k => match k with
  | 0 => ("CheeseValleys$Pass", "kind", "I", false)
  | 1 => ("CheeseValleys$Pass", "first", "I", false)
  | 2 => ("CheeseValleys$Pass", "second", "I", false)
  | 3 => ("CheeseValleys$Pass", "length", "I", false)
  | _ => ("CheeseValleys$Pass", "height", "I", false)
def tyX1 : Nat → FieldType := fun k => match k with
  | 0 => .int
  | 1 => .int
  | 2 => .int
  | 3 => .int
  | _ => .int
abbrev wsX10 : List Cond := u_ws RX1 TX1 5
theorem nmX1 : ∀ a, a < 5 → ∀ b, b < 5 → a ≠ b → (TX1 a).2.1 ≠ (TX1 b).2.1 := by decide +kernel
theorem tyX1_ok : ∀ k, k < 5 → parseFieldDescriptor (TX1 k).2.2.1 = some (tyX1 k) := by decide +kernel
abbrev cX1_init : ByteArray := prog_3_method_1_code
def yX1_init : MethodName := ⟨RX1, "<init>", "()V"⟩
abbrev cX1_takes : ByteArray := prog_3_method_2_code
def yX1_takes : MethodName := ⟨RX1, "takes", "()I"⟩
abbrev cX1_isOpenIn : ByteArray := prog_3_method_3_code
def yX1_isOpenIn : MethodName := ⟨RX1, "isOpenIn", "(I)Z"⟩
abbrev cX1_otherEnd : ByteArray := prog_3_method_4_code
def yX1_otherEnd : MethodName := ⟨RX1, "otherEnd", "(I)I"⟩
def RX2 : String := "CheeseValleys$Readings"
def TX2 : u_T := fun k => match k with
  | 0 => ("CheeseValleys$Readings", "milkDay", "[I", true)
  | 1 => ("CheeseValleys$Readings", "doneDay", "[I", true)
  | _ => ("CheeseValleys$Readings", "count", "I", false)
def tyX2 : Nat → FieldType := fun k => match k with
  | 0 => .array .int
  | 1 => .array .int
  | _ => .int
abbrev wsX20 : List Cond := u_ws RX2 TX2 3
theorem nmX2 : ∀ a, a < 3 → ∀ b, b < 3 → a ≠ b → (TX2 a).2.1 ≠ (TX2 b).2.1 := by decide +kernel
theorem tyX2_ok : ∀ k, k < 3 → parseFieldDescriptor (TX2 k).2.2.1 = some (tyX2 k) := by decide +kernel
abbrev cX2_init : ByteArray := prog_4_method_1_code
def yX2_init : MethodName := ⟨RX2, "<init>", "()V"⟩
abbrev cX2_holdIn : ByteArray := prog_4_method_2_code
def yX2_holdIn : MethodName := ⟨RX2, "holdIn", "(LCheeseValleys$Land;)Z"⟩
def RX3 : String := "CheeseValleys$Sheet"
def TX3 : u_T := fun k => match k with
  | 0 => ("CheeseValleys$Sheet", "cells", "[I", true)
  | 1 => ("CheeseValleys$Sheet", "lane", "I", false)
  | _ => ("CheeseValleys$Sheet", "length", "I", false)
def tyX3 : Nat → FieldType := fun k => match k with
  | 0 => .array .int
  | 1 => .int
  | _ => .int
abbrev wsX30 : List Cond := u_ws RX3 TX3 3
theorem nmX3 : ∀ a, a < 3 → ∀ b, b < 3 → a ≠ b → (TX3 a).2.1 ≠ (TX3 b).2.1 := by decide +kernel
theorem tyX3_ok : ∀ k, k < 3 → parseFieldDescriptor (TX3 k).2.2.1 = some (tyX3 k) := by decide +kernel
abbrev cX3_init : ByteArray := prog_5_method_1_code
def yX3_init : MethodName := ⟨RX3, "<init>", "()V"⟩
abbrev cX3_renew : ByteArray := prog_5_method_2_code
def yX3_renew : MethodName := ⟨RX3, "renew", "(II)V"⟩
abbrev cX3_hasNothing : ByteArray := prog_5_method_3_code
def yX3_hasNothing : MethodName := ⟨RX3, "hasNothing", "()Z"⟩
abbrev cX3_hasCells : ByteArray := prog_5_method_4_code
def yX3_hasCells : MethodName := ⟨RX3, "hasCells", "(II)Z"⟩
abbrev cX3_faultOf : ByteArray := prog_5_method_5_code
def yX3_faultOf : MethodName := ⟨RX3, "faultOf", "(III)I"⟩
abbrev cX3_cut : ByteArray := prog_5_method_6_code
def yX3_cut : MethodName := ⟨RX3, "cut", "(I)I"⟩
def RX4 : String := "CheeseValleys$Text"
def TX4 : u_T := fun k => match k with
  | 0 => ("CheeseValleys$Text", "cells", "[I", true)
  | 1 => ("CheeseValleys$Text", "from", "I", true)
  | _ => ("CheeseValleys$Text", "length", "I", true)
def tyX4 : Nat → FieldType := fun k => match k with
  | 0 => .array .int
  | 1 => .int
  | _ => .int
abbrev wsX40 : List Cond := u_ws RX4 TX4 3
theorem nmX4 : ∀ a, a < 3 → ∀ b, b < 3 → a ≠ b → (TX4 a).2.1 ≠ (TX4 b).2.1 := by decide +kernel
theorem tyX4_ok : ∀ k, k < 3 → parseFieldDescriptor (TX4 k).2.2.1 = some (tyX4 k) := by decide +kernel
abbrev cX4_init : ByteArray := prog_6_method_1_code
def yX4_init : MethodName := ⟨RX4, "<init>", "([III)V"⟩
abbrev cX4_codeAt : ByteArray := prog_6_method_2_code
def yX4_codeAt : MethodName := ⟨RX4, "codeAt", "(I)I"⟩
abbrev cX4_digitAt : ByteArray := prog_6_method_3_code
def yX4_digitAt : MethodName := ⟨RX4, "digitAt", "(I)I"⟩
abbrev cX4_numberAt : ByteArray := prog_6_method_4_code
def yX4_numberAt : MethodName := ⟨RX4, "numberAt", "(I)I"⟩
abbrev cX4_kindAt : ByteArray := prog_6_method_5_code
def yX4_kindAt : MethodName := ⟨RX4, "kindAt", "(I)I"⟩
abbrev cX4_firstFault : ByteArray := prog_6_method_6_code
def yX4_firstFault : MethodName := ⟨RX4, "firstFault", "()I"⟩
abbrev cX4_goesOnAt : ByteArray := prog_6_method_7_code
def yX4_goesOnAt : MethodName := ⟨RX4, "goesOnAt", "(I)Z"⟩
abbrev cX4_givesGoOnAt : ByteArray := prog_6_method_8_code
def yX4_givesGoOnAt : MethodName := ⟨RX4, "givesGoOnAt", "(II)Z"⟩
abbrev cX4_passGoesOnAt : ByteArray := prog_6_method_9_code
def yX4_passGoesOnAt : MethodName := ⟨RX4, "passGoesOnAt", "(II)Z"⟩
abbrev cX4_isDigitAt : ByteArray := prog_6_method_10_code
def yX4_isDigitAt : MethodName := ⟨RX4, "isDigitAt", "(III)Z"⟩
def RX5 : String := "CheeseValleys$Wheel"
def TX5 : u_T := fun k => match k with
  | 0 => ("CheeseValleys$Wheel", "day", "I", false)
  | 1 => ("CheeseValleys$Wheel", "valley", "I", false)
  | 2 => ("CheeseValleys$Wheel", "stage", "I", false)
  | _ => ("CheeseValleys$Wheel", "waited", "I", false)
def tyX5 : Nat → FieldType := fun k => match k with
  | 0 => .int
  | 1 => .int
  | 2 => .int
  | _ => .int
abbrev wsX50 : List Cond := u_ws RX5 TX5 4
theorem nmX5 : ∀ a, a < 4 → ∀ b, b < 4 → a ≠ b → (TX5 a).2.1 ≠ (TX5 b).2.1 := by decide +kernel
theorem tyX5_ok : ∀ k, k < 4 → parseFieldDescriptor (TX5 k).2.2.1 = some (tyX5 k) := by decide +kernel
abbrev cX5_init : ByteArray := prog_7_method_1_code
def yX5_init : MethodName := ⟨RX5, "<init>", "()V"⟩
abbrev cX5_begin : ByteArray := prog_7_method_2_code
def yX5_begin : MethodName := ⟨RX5, "begin", "(I)V"⟩
abbrev cX5_takesStep : ByteArray := prog_7_method_3_code
def yX5_takesStep : MethodName := ⟨RX5, "takesStep", "(ILCheeseValleys$Land;)Z"⟩
abbrev cX5_waitsADay : ByteArray := prog_7_method_4_code
def yX5_waitsADay : MethodName := ⟨RX5, "waitsADay", "()Z"⟩
abbrev cX5_gets : ByteArray := prog_7_method_5_code
def yX5_gets : MethodName := ⟨RX5, "gets", "(IILCheeseValleys$Land;)Z"⟩
abbrev cX5_crosses : ByteArray := prog_7_method_6_code
def yX5_crosses : MethodName := ⟨RX5, "crosses", "(ILCheeseValleys$Land;)Z"⟩
def RX6 : String := "CheeseValleys"
def TX6 : u_T := fun k => match k with
  | 0 => ("CheeseValleys", "sheets", "[LCheeseValleys$Sheet;", true)
  | 1 => ("CheeseValleys", "valleys", "LCheeseValleys$Land;", true)
  | 2 => ("CheeseValleys", "wheel", "LCheeseValleys$Wheel;", true)
  | 3 => ("CheeseValleys", "readings", "LCheeseValleys$Readings;", true)
  | 4 => ("CheeseValleys", "traced", "I", false)
  | _ => ("CheeseValleys", "latestFault", "I", false)
def tyX6 : Nat → FieldType := fun k => match k with
  | 0 => .array (.object "CheeseValleys$Sheet")
  | 1 => .object "CheeseValleys$Land"
  | 2 => .object "CheeseValleys$Wheel"
  | 3 => .object "CheeseValleys$Readings"
  | 4 => .int
  | _ => .int
abbrev wsX60 : List Cond := u_ws RX6 TX6 6
theorem nmX6 : ∀ a, a < 6 → ∀ b, b < 6 → a ≠ b → (TX6 a).2.1 ≠ (TX6 b).2.1 := by decide +kernel
theorem tyX6_ok : ∀ k, k < 6 → parseFieldDescriptor (TX6 k).2.2.1 = some (tyX6 k) := by decide +kernel
abbrev cX6_init : ByteArray := prog_1_method_1_code
def yX6_init : MethodName := ⟨RX6, "<init>", "()V"⟩
abbrev cX6_land : ByteArray := prog_1_method_2_code
def yX6_land : MethodName := ⟨RX6, "land", "(IIII)I"⟩
abbrev cX6_ofPass : ByteArray := prog_1_method_3_code
def yX6_ofPass : MethodName := ⟨RX6, "ofPass", "(II)I"⟩
abbrev cX6_snow : ByteArray := prog_1_method_4_code
def yX6_snow : MethodName := ⟨RX6, "snow", "(II)I"⟩
abbrev cX6_give : ByteArray := prog_1_method_5_code
def yX6_give : MethodName := ⟨RX6, "give", "(II)I"⟩
abbrev cX6_open : ByteArray := prog_1_method_6_code
def yX6_open : MethodName := ⟨RX6, "open", "(I)I"⟩
abbrev cX6_soonest : ByteArray := prog_1_method_7_code
def yX6_soonest : MethodName := ⟨RX6, "soonest", "(I)I"⟩
abbrev cX6_holes : ByteArray := prog_1_method_8_code
def yX6_holes : MethodName := ⟨RX6, "holes", "(I)I"⟩
abbrev cX6_way : ByteArray := prog_1_method_9_code
def yX6_way : MethodName := ⟨RX6, "way", "(IIIIII)I"⟩
abbrev cX6_last : ByteArray := prog_1_method_10_code
def yX6_last : MethodName := ⟨RX6, "last", "(I)I"⟩
abbrev cX6_safe : ByteArray := prog_1_method_11_code
def yX6_safe : MethodName := ⟨RX6, "safe", "(I)I"⟩
abbrev cX6_hangs : ByteArray := prog_1_method_12_code
def yX6_hangs : MethodName := ⟨RX6, "hangs", "(II)I"⟩
abbrev cX6_peace : ByteArray := prog_1_method_13_code
def yX6_peace : MethodName := ⟨RX6, "peace", "(II)I"⟩
abbrev cX6_reading : ByteArray := prog_1_method_14_code
def yX6_reading : MethodName := ⟨RX6, "reading", "(II)I"⟩
abbrev cX6_back : ByteArray := prog_1_method_15_code
def yX6_back : MethodName := ⟨RX6, "back", "(I)I"⟩
abbrev cX6_snows : ByteArray := prog_1_method_16_code
def yX6_snows : MethodName := ⟨RX6, "snows", "(I)I"⟩
abbrev cX6_heights : ByteArray := prog_1_method_17_code
def yX6_heights : MethodName := ⟨RX6, "heights", "(I)I"⟩
abbrev cX6_kinds : ByteArray := prog_1_method_18_code
def yX6_kinds : MethodName := ⟨RX6, "kinds", "(I)I"⟩
abbrev cX6_gave : ByteArray := prog_1_method_19_code
def yX6_gave : MethodName := ⟨RX6, "gave", "(II)I"⟩
abbrev cX6_odds : ByteArray := prog_1_method_20_code
def yX6_odds : MethodName := ⟨RX6, "odds", "(IIII)J"⟩
abbrev cX6_sheet : ByteArray := prog_1_method_21_code
def yX6_sheet : MethodName := ⟨RX6, "sheet", "(III)I"⟩
abbrev cX6_lose : ByteArray := prog_1_method_22_code
def yX6_lose : MethodName := ⟨RX6, "lose", "(I)I"⟩
abbrev cX6_put : ByteArray := prog_1_method_23_code
def yX6_put : MethodName := ⟨RX6, "put", "(III)I"⟩
abbrev cX6_cell : ByteArray := prog_1_method_24_code
def yX6_cell : MethodName := ⟨RX6, "cell", "(III)J"⟩
abbrev cX6_copy : ByteArray := prog_1_method_25_code
def yX6_copy : MethodName := ⟨RX6, "copy", "(IIIII)I"⟩
abbrev cX6_tell : ByteArray := prog_1_method_26_code
def yX6_tell : MethodName := ⟨RX6, "tell", "(I)I"⟩
abbrev cX6_mark : ByteArray := prog_1_method_27_code
def yX6_mark : MethodName := ⟨RX6, "mark", "(I)I"⟩
abbrev cX6_as : ByteArray := prog_1_method_28_code
def yX6_as : MethodName := ⟨RX6, "as", "(II)I"⟩
abbrev cX6_trace : ByteArray := prog_1_method_29_code
def yX6_trace : MethodName := ⟨RX6, "trace", "()I"⟩
abbrev cX6_fault : ByteArray := prog_1_method_30_code
def yX6_fault : MethodName := ⟨RX6, "fault", "()I"⟩
abbrev cX6_many : ByteArray := prog_1_method_31_code
def yX6_many : MethodName := ⟨RX6, "many", "(I)I"⟩
abbrev cX6_isBelow : ByteArray := prog_1_method_32_code
def yX6_isBelow : MethodName := ⟨RX6, "isBelow", "(II)Z"⟩
abbrev cX6_isDay : ByteArray := prog_1_method_33_code
def yX6_isDay : MethodName := ⟨RX6, "isDay", "(I)Z"⟩
abbrev cX6_isValley : ByteArray := prog_1_method_34_code
def yX6_isValley : MethodName := ⟨RX6, "isValley", "(I)Z"⟩
abbrev cX6_isSheet : ByteArray := prog_1_method_35_code
def yX6_isSheet : MethodName := ⟨RX6, "isSheet", "(I)Z"⟩
abbrev cX6_isLane : ByteArray := prog_1_method_36_code
def yX6_isLane : MethodName := ⟨RX6, "isLane", "(I)Z"⟩
abbrev cX6_isPass : ByteArray := prog_1_method_37_code
def yX6_isPass : MethodName := ⟨RX6, "isPass", "(I)Z"⟩
abbrev cX6_hasDay : ByteArray := prog_1_method_38_code
def yX6_hasDay : MethodName := ⟨RX6, "hasDay", "(II)Z"⟩
abbrev cX6_failed : ByteArray := prog_1_method_39_code
def yX6_failed : MethodName := ⟨RX6, "failed", "(I)I"⟩
abbrev cX6_refusalOfSteps : ByteArray := prog_1_method_40_code
def yX6_refusalOfSteps : MethodName := ⟨RX6, "refusalOfSteps", "([III)I"⟩
abbrev cX6_firstWrong : ByteArray := prog_1_method_41_code
def yX6_firstWrong : MethodName := ⟨RX6, "firstWrong", "([III)I"⟩
abbrev cX6_ofWay : ByteArray := prog_1_method_42_code
def yX6_ofWay : MethodName := ⟨RX6, "ofWay", "(II)I"⟩
abbrev cX6_canWithout : ByteArray := prog_1_method_43_code
def yX6_canWithout : MethodName := ⟨RX6, "canWithout", "(III)Z"⟩
abbrev cX6_bitIfReadingsHold : ByteArray := prog_1_method_44_code
def yX6_bitIfReadingsHold : MethodName := ⟨RX6, "bitIfReadingsHold", "(I)I"⟩
abbrev cX6_leave : ByteArray := prog_1_method_45_code
def yX6_leave : MethodName := ⟨RX6, "leave", "(I)V"⟩
abbrev cX6_passTelling : ByteArray := prog_1_method_46_code
def yX6_passTelling : MethodName := ⟨RX6, "passTelling", "(LCheeseValleys$Pass;)I"⟩
abbrev cX6_steepTelling : ByteArray := prog_1_method_47_code
def yX6_steepTelling : MethodName := ⟨RX6, "steepTelling", "(LCheeseValleys$Pass;)I"⟩
abbrev cX6_tunnelTelling : ByteArray := prog_1_method_48_code
def yX6_tunnelTelling : MethodName := ⟨RX6, "tunnelTelling", "(LCheeseValleys$Pass;)I"⟩
def RX7 : String := "CheeseValleysModel"
def TX7 : u_T := fun k => match k with
  | 0 => ("CheeseValleysModel", "fault", "I", false)
  | 1 => ("CheeseValleysModel", "trace", "I", false)
  | 2 => ("CheeseValleysModel", "sorts", "[I", true)
  | 3 => ("CheeseValleysModel", "sheetLong", "[I", true)
  | 4 => ("CheeseValleysModel", "cells", "[I", true)
  | 5 => ("CheeseValleysModel", "passes", "I", false)
  | 6 => ("CheeseValleysModel", "snowOf", "[I", true)
  | 7 => ("CheeseValleysModel", "gives", "[I", true)
  | 8 => ("CheeseValleysModel", "kind", "[I", true)
  | 9 => ("CheeseValleysModel", "from", "[I", true)
  | 10 => ("CheeseValleysModel", "to", "[I", true)
  | 11 => ("CheeseValleysModel", "length", "[I", true)
  | 12 => ("CheeseValleysModel", "high", "[I", true)
  | 13 => ("CheeseValleysModel", "missing", "I", false)
  | 14 => ("CheeseValleysModel", "at", "I", false)
  | 15 => ("CheeseValleysModel", "readMany", "I", false)
  | 16 => ("CheeseValleysModel", "readSnow", "[I", true)
  | 17 => ("CheeseValleysModel", "readGives", "[I", true)
  | 18 => ("CheeseValleysModel", "read", "[I", true)
  | 19 => ("CheeseValleysModel", "fewest", "[I", true)
  | 20 => ("CheeseValleysModel", "doneOn", "I", false)
  | 21 => ("CheeseValleysModel", "doneHoles", "I", false)
  | 22 => ("CheeseValleysModel", "dayNow", "I", false)
  | 23 => ("CheeseValleysModel", "valleyNow", "I", false)
  | 24 => ("CheeseValleysModel", "stateNow", "I", false)
  | 25 => ("CheeseValleysModel", "holesNow", "I", false)
  | 26 => ("CheeseValleysModel", "readings", "I", false)
  | 27 => ("CheeseValleysModel", "readDay", "[I", true)
  | _ => ("CheeseValleysModel", "readDone", "[I", true)
def tyX7 : Nat → FieldType := fun k => match k with
  | 0 => .int
  | 1 => .int
  | 2 => .array .int
  | 3 => .array .int
  | 4 => .array .int
  | 5 => .int
  | 6 => .array .int
  | 7 => .array .int
  | 8 => .array .int
  | 9 => .array .int
  | 10 => .array .int
  | 11 => .array .int
  | 12 => .array .int
  | 13 => .int
  | 14 => .int
  | 15 => .int
  | 16 => .array .int
  | 17 => .array .int
  | 18 => .array .int
  | 19 => .array .int
  | 20 => .int
  | 21 => .int
  | 22 => .int
  | 23 => .int
  | 24 => .int
  | 25 => .int
  | 26 => .int
  | 27 => .array .int
  | _ => .array .int
abbrev wsX70 : List Cond := u_ws RX7 TX7 29
theorem nmX7 : ∀ a, a < 29 → ∀ b, b < 29 → a ≠ b → (TX7 a).2.1 ≠ (TX7 b).2.1 := by decide +kernel
theorem tyX7_ok : ∀ k, k < 29 → parseFieldDescriptor (TX7 k).2.2.1 = some (tyX7 k) := by decide +kernel
abbrev cX7_init : ByteArray := prog_9_method_1_code
def yX7_init : MethodName := ⟨RX7, "<init>", "()V"⟩
abbrev cX7_fails : ByteArray := prog_9_method_3_code
def yX7_fails : MethodName := ⟨RX7, "fails", "(I)I"⟩
abbrev cX7_lost : ByteArray := prog_9_method_4_code
def yX7_lost : MethodName := ⟨RX7, "lost", "(I)J"⟩
abbrev cX7_within : ByteArray := prog_9_method_5_code
def yX7_within : MethodName := ⟨RX7, "within", "(III)Z"⟩
abbrev cX7_isSheet : ByteArray := prog_9_method_6_code
def yX7_isSheet : MethodName := ⟨RX7, "isSheet", "(I)Z"⟩
abbrev cX7_isSort : ByteArray := prog_9_method_7_code
def yX7_isSort : MethodName := ⟨RX7, "isSort", "(I)Z"⟩
abbrev cX7_against : ByteArray := prog_9_method_8_code
def yX7_against : MethodName := ⟨RX7, "against", "(IIII)I"⟩
abbrev cX7_isPass : ByteArray := prog_9_method_9_code
def yX7_isPass : MethodName := ⟨RX7, "isPass", "(I)Z"⟩
abbrev cX7_isDay : ByteArray := prog_9_method_10_code
def yX7_isDay : MethodName := ⟨RX7, "isDay", "(I)Z"⟩
abbrev cX7_isValley : ByteArray := prog_9_method_11_code
def yX7_isValley : MethodName := ⟨RX7, "isValley", "(I)Z"⟩
abbrev cX7_digit : ByteArray := prog_9_method_12_code
def yX7_digit : MethodName := ⟨RX7, "digit", "(III)I"⟩
abbrev cX7_isSign : ByteArray := prog_9_method_13_code
def yX7_isSign : MethodName := ⟨RX7, "isSign", "(II)Z"⟩
abbrev cX7_readSet : ByteArray := prog_9_method_14_code
def yX7_readSet : MethodName := ⟨RX7, "readSet", "(I)I"⟩
abbrev cX7_land : ByteArray := prog_9_method_15_code
def yX7_land : MethodName := ⟨RX7, "land", "(IIII)I"⟩
abbrev cX7_takeLand : ByteArray := prog_9_method_16_code
def yX7_takeLand : MethodName := ⟨RX7, "takeLand", "()V"⟩
abbrev cX7_readLand : ByteArray := prog_9_method_17_code
def yX7_readLand : MethodName := ⟨RX7, "readLand", "(I)Z"⟩
abbrev cX7_readPass : ByteArray := prog_9_method_18_code
def yX7_readPass : MethodName := ⟨RX7, "readPass", "(I)Z"⟩
abbrev cX7_takes : ByteArray := prog_9_method_19_code
def yX7_takes : MethodName := ⟨RX7, "takes", "(I)I"⟩
abbrev cX7_ofPass : ByteArray := prog_9_method_20_code
def yX7_ofPass : MethodName := ⟨RX7, "ofPass", "(II)I"⟩
abbrev cX7_snow : ByteArray := prog_9_method_21_code
def yX7_snow : MethodName := ⟨RX7, "snow", "(II)I"⟩
abbrev cX7_give : ByteArray := prog_9_method_22_code
def yX7_give : MethodName := ⟨RX7, "give", "(II)I"⟩
abbrev cX7_isOpen : ByteArray := prog_9_method_23_code
def yX7_isOpen : MethodName := ⟨RX7, "isOpen", "(II)Z"⟩
abbrev cX7_open : ByteArray := prog_9_method_24_code
def yX7_open : MethodName := ⟨RX7, "open", "(I)I"⟩
abbrev cX7_doesGive : ByteArray := prog_9_method_25_code
def yX7_doesGive : MethodName := ⟨RX7, "doesGive", "(II)Z"⟩
abbrev cX7_over : ByteArray := prog_9_method_26_code
def yX7_over : MethodName := ⟨RX7, "over", "(II)I"⟩
abbrev cX7_spot : ByteArray := prog_9_method_27_code
def yX7_spot : MethodName := ⟨RX7, "spot", "(III)I"⟩
abbrev cX7_comes : ByteArray := prog_9_method_28_code
def yX7_comes : MethodName := ⟨RX7, "comes", "(IIII)V"⟩
abbrev cX7_goOn : ByteArray := prog_9_method_29_code
def yX7_goOn : MethodName := ⟨RX7, "goOn", "(III)V"⟩
abbrev cX7_makeWheel : ByteArray := prog_9_method_30_code
def yX7_makeWheel : MethodName := ⟨RX7, "makeWheel", "(I)V"⟩
abbrev cX7_soonestOf : ByteArray := prog_9_method_31_code
def yX7_soonestOf : MethodName := ⟨RX7, "soonestOf", "(I)I"⟩
abbrev cX7_soonest : ByteArray := prog_9_method_32_code
def yX7_soonest : MethodName := ⟨RX7, "soonest", "(I)I"⟩
abbrev cX7_holes : ByteArray := prog_9_method_33_code
def yX7_holes : MethodName := ⟨RX7, "holes", "(I)I"⟩
abbrev cX7_goStep : ByteArray := prog_9_method_34_code
def yX7_goStep : MethodName := ⟨RX7, "goStep", "(I)Z"⟩
abbrev cX7_way : ByteArray := prog_9_method_35_code
def yX7_way : MethodName := ⟨RX7, "way", "(IIIIII)I"⟩
abbrev cX7_wayOf : ByteArray := prog_9_method_36_code
def yX7_wayOf : MethodName := ⟨RX7, "wayOf", "(IIII)I"⟩
abbrev cX7_canBy : ByteArray := prog_9_method_37_code
def yX7_canBy : MethodName := ⟨RX7, "canBy", "(II)Z"⟩
abbrev cX7_last : ByteArray := prog_9_method_38_code
def yX7_last : MethodName := ⟨RX7, "last", "(I)I"⟩
abbrev cX7_isSafe : ByteArray := prog_9_method_39_code
def yX7_isSafe : MethodName := ⟨RX7, "isSafe", "(II)Z"⟩
abbrev cX7_safe : ByteArray := prog_9_method_40_code
def yX7_safe : MethodName := ⟨RX7, "safe", "(I)I"⟩
abbrev cX7_hangs : ByteArray := prog_9_method_41_code
def yX7_hangs : MethodName := ⟨RX7, "hangs", "(II)I"⟩
abbrev cX7_peace : ByteArray := prog_9_method_42_code
def yX7_peace : MethodName := ⟨RX7, "peace", "(II)I"⟩
abbrev cX7_reading : ByteArray := prog_9_method_43_code
def yX7_reading : MethodName := ⟨RX7, "reading", "(II)I"⟩
abbrev cX7_back : ByteArray := prog_9_method_44_code
def yX7_back : MethodName := ⟨RX7, "back", "(I)I"⟩
abbrev cX7_areSo : ByteArray := prog_9_method_45_code
def yX7_areSo : MethodName := ⟨RX7, "areSo", "()Z"⟩
abbrev cX7_snows : ByteArray := prog_9_method_46_code
def yX7_snows : MethodName := ⟨RX7, "snows", "(I)I"⟩
abbrev cX7_heights : ByteArray := prog_9_method_47_code
def yX7_heights : MethodName := ⟨RX7, "heights", "(I)I"⟩
abbrev cX7_kinds : ByteArray := prog_9_method_48_code
def yX7_kinds : MethodName := ⟨RX7, "kinds", "(I)I"⟩
abbrev cX7_gave : ByteArray := prog_9_method_49_code
def yX7_gave : MethodName := ⟨RX7, "gave", "(II)I"⟩
abbrev cX7_inLeastTerms : ByteArray := prog_9_method_50_code
def yX7_inLeastTerms : MethodName := ⟨RX7, "inLeastTerms", "(JJI)J"⟩
abbrev cX7_odds : ByteArray := prog_9_method_51_code
def yX7_odds : MethodName := ⟨RX7, "odds", "(IIII)J"⟩
abbrev cX7_sheet : ByteArray := prog_9_method_52_code
def yX7_sheet : MethodName := ⟨RX7, "sheet", "(III)I"⟩
abbrev cX7_lose : ByteArray := prog_9_method_53_code
def yX7_lose : MethodName := ⟨RX7, "lose", "(I)I"⟩
abbrev cX7_put : ByteArray := prog_9_method_54_code
def yX7_put : MethodName := ⟨RX7, "put", "(III)I"⟩
abbrev cX7_cell : ByteArray := prog_9_method_55_code
def yX7_cell : MethodName := ⟨RX7, "cell", "(III)J"⟩
abbrev cX7_copy : ByteArray := prog_9_method_56_code
def yX7_copy : MethodName := ⟨RX7, "copy", "(IIIII)I"⟩
abbrev cX7_begins : ByteArray := prog_9_method_57_code
def yX7_begins : MethodName := ⟨RX7, "begins", "(I)V"⟩
abbrev cX7_tell : ByteArray := prog_9_method_58_code
def yX7_tell : MethodName := ⟨RX7, "tell", "(I)I"⟩
abbrev cX7_mark : ByteArray := prog_9_method_59_code
def yX7_mark : MethodName := ⟨RX7, "mark", "(I)I"⟩
abbrev cX7_as : ByteArray := prog_9_method_60_code
def yX7_as : MethodName := ⟨RX7, "as", "(II)I"⟩
abbrev cX7_trace : ByteArray := prog_9_method_61_code
def yX7_trace : MethodName := ⟨RX7, "trace", "()I"⟩
abbrev cX7_fault : ByteArray := prog_9_method_62_code
def yX7_fault : MethodName := ⟨RX7, "fault", "()I"⟩
abbrev cX7_allGive : ByteArray := prog_9_method_63_code
def yX7_allGive : MethodName := ⟨RX7, "allGive", "()I"⟩
abbrev cX7_many : ByteArray := prog_9_method_64_code
def yX7_many : MethodName := ⟨RX7, "many", "(I)I"⟩
def RJ6 : String := "java/lang/Integer"
def TJ6 : u_T := fun k => match k with
  | _ => ("", "", "", false)
def tyJ6 : Nat → FieldType := fun k => match k with
  | _ => .int
abbrev wsJ60 : List Cond := u_ws RJ6 TJ6 0
theorem nmJ6 : ∀ a, a < 0 → ∀ b, b < 0 → a ≠ b → (TJ6 a).2.1 ≠ (TJ6 b).2.1 := by decide +kernel
theorem tyJ6_ok : ∀ k, k < 0 → parseFieldDescriptor (TJ6 k).2.2.1 = some (tyJ6 k) := by decide +kernel
abbrev cJ6_bitCount_0f7a4 : ByteArray := prog_10_method_49_code
def yJ6_bitCount_0f7a4 : MethodName := ⟨RJ6, "bitCount", "(I)I"⟩
def RJ9 : String := "java/lang/Math"
def TJ9 : u_T := fun k => match k with
  | _ => ("", "", "", false)
def tyJ9 : Nat → FieldType := fun k => match k with
  | _ => .int
abbrev wsJ90 : List Cond := u_ws RJ9 TJ9 0
theorem nmJ9 : ∀ a, a < 0 → ∀ b, b < 0 → a ≠ b → (TJ9 a).2.1 ≠ (TJ9 b).2.1 := by decide +kernel
theorem tyJ9_ok : ∀ k, k < 0 → parseFieldDescriptor (TJ9 k).2.2.1 = some (tyJ9 k) := by decide +kernel
abbrev cJ9_max_7cf53 : ByteArray := prog_11_method_65_code
def yJ9_max_7cf53 : MethodName := ⟨RJ9, "max", "(II)I"⟩
abbrev cJ9_min_7cf53 : ByteArray := prog_11_method_69_code
def yJ9_min_7cf53 : MethodName := ⟨RJ9, "min", "(II)I"⟩
def RJ10 : String := "java/lang/System"
def TJ10 : u_T := fun k => match k with
  | _ => ("", "", "", false)
def tyJ10 : Nat → FieldType := fun k => match k with
  | _ => .int
abbrev wsJ100 : List Cond := u_ws RJ10 TJ10 0
theorem nmJ10 : ∀ a, a < 0 → ∀ b, b < 0 → a ≠ b → (TJ10 a).2.1 ≠ (TJ10 b).2.1 := by decide +kernel
theorem tyJ10_ok : ∀ k, k < 0 → parseFieldDescriptor (TJ10 k).2.2.1 = some (tyJ10 k) := by decide +kernel
def RL : String := "CheeseValleysLaw"
abbrev cL_law : ByteArray := code
def yL_law : MethodName := ⟨RL, "law", "([I)Z"⟩
end
section
/-- a table of a method's instructions, held against its bytes -/
def cv_dk (b : ByteArray) (t : List (Nat × Instr × Nat)) : Bool := t.all (fun q => decide (decode b q.1 = .ok q.2))
theorem cv_dec {b : ByteArray} {t : List (Nat × Instr × Nat)} (h : cv_dk b t = true) (i : Nat) (q : Nat × Instr × Nat) (hq : t[i]? = some q) : decode b q.1 = .ok q.2 := by
  have h1 := List.all_eq_true.mp h q (List.mem_of_getElem? hq)
  exact of_decide_eq_true h1
def tbX0_init : List (Nat × Instr × Nat) := [(0, .aload_n 0, 1), (1, .invokespecial 3, 3), (4, .aload_n 0, 1), (5, .bipush 6, 2), (7, .anewarray 9, 3), (10, .putfield 11, 3), (13, .aload_n 0, 1), (14, .bipush 8, 2), (16, .newarray .int, 2), (18, .putfield 17, 3), (21, .aload_n 0, 1), (22, .iconst 3, 1), (23, .newarray .int, 2), (25, .putfield 21, 3), (28, .aload_n 0, 1), (29, .bipush 24, 2), (31, .newarray .int, 2), (33, .putfield 24, 3), (36, .aload_n 0, 1), (37, .bipush 48, 2), (39, .newarray .int, 2), (41, .putfield 27, 3), (44, .iconst 0, 1), (45, .istore_n 1, 1), (46, .iload_n 1, 1), (47, .bipush 6, 2), (49, .if_icmp .ge 22, 3), (52, .aload_n 0, 1), (53, .getfield 11, 3), (56, .iload_n 1, 1), (57, .new 9, 3), (60, .dup, 1), (61, .invokespecial 30, 3), (64, .aastore, 1), (65, .iinc 1 1, 3), (68, .goto (-22), 3), (71, .return_, 1)]
theorem dkX0_init : cv_dk cX0_init tbX0_init = true := by decide +kernel
def tbX0_settle : List (Nat × Instr × Nat) := [(0, .iconst 0, 1), (1, .istore_n 2, 1), (2, .iload_n 2, 1), (3, .bipush 8, 2), (5, .if_icmp .ge 22, 3), (8, .aload_n 0, 1), (9, .getfield 17, 3), (12, .iload_n 2, 1), (13, .aload_n 1, 1), (14, .iconst 1, 1), (15, .iload_n 2, 1), (16, .iadd, 1), (17, .invokevirtual 31, 3), (20, .iastore, 1), (21, .iinc 2 1, 3), (24, .goto (-22), 3), (27, .iconst 0, 1), (28, .istore_n 2, 1), (29, .iload_n 2, 1), (30, .iconst 3, 1), (31, .if_icmp .ge 27, 3), (34, .aload_n 0, 1), (35, .getfield 21, 3), (38, .iload_n 2, 1), (39, .aload_n 1, 1), (40, .bipush 9, 2), (42, .iconst 4, 1), (43, .iload_n 2, 1), (44, .imul, 1), (45, .iadd, 1), (46, .iconst 1, 1), (47, .iadd, 1), (48, .invokevirtual 37, 3), (51, .iastore, 1), (52, .iinc 2 1, 3), (55, .goto (-26), 3), (58, .aload_n 1, 1), (59, .getfield 40, 3), (62, .bipush 21, 2), (64, .isub, 1), (65, .bipush 6, 2), (67, .idiv, 1), (68, .istore_n 2, 1), (69, .aload_n 0, 1), (70, .iload_n 2, 1), (71, .bipush 6, 2), (73, .invokestatic 44, 3), (76, .putfield 50, 3), (79, .iconst 0, 1), (80, .istore_n 3, 1), (81, .iload_n 3, 1), (82, .aload_n 0, 1), (83, .getfield 50, 3), (86, .if_icmp .ge 26, 3), (89, .aload_n 0, 1), (90, .getfield 11, 3), (93, .iload_n 3, 1), (94, .aaload, 1), (95, .aload_n 1, 1), (96, .bipush 21, 2), (98, .bipush 6, 2), (100, .iload_n 3, 1), (101, .imul, 1), (102, .iadd, 1), (103, .invokestatic 53, 3), (106, .iinc 3 1, 3), (109, .goto (-28), 3), (112, .aload_n 0, 1), (113, .iconst 1, 1), (114, .putfield 57, 3), (117, .return_, 1)]
theorem dkX0_settle : cv_dk cX0_settle tbX0_settle = true := by decide +kernel
def tbX0_settlePass : List (Nat × Instr × Nat) := [(0, .aload_n 0, 1), (1, .aload_n 1, 1), (2, .iload_n 2, 1), (3, .iconst 1, 1), (4, .iadd, 1), (5, .invokevirtual 61, 3), (8, .putfield 64, 3), (11, .aload_n 0, 1), (12, .aload_n 1, 1), (13, .iload_n 2, 1), (14, .iconst 2, 1), (15, .iadd, 1), (16, .invokevirtual 31, 3), (19, .putfield 67, 3), (22, .aload_n 0, 1), (23, .aload_n 1, 1), (24, .iload_n 2, 1), (25, .iconst 3, 1), (26, .iadd, 1), (27, .invokevirtual 31, 3), (30, .putfield 70, 3), (33, .aload_n 0, 1), (34, .aload_n 1, 1), (35, .iload_n 2, 1), (36, .iconst 4, 1), (37, .iadd, 1), (38, .invokevirtual 31, 3), (41, .putfield 73, 3), (44, .aload_n 0, 1), (45, .aload_n 1, 1), (46, .iload_n 2, 1), (47, .iconst 5, 1), (48, .iadd, 1), (49, .invokevirtual 31, 3), (52, .putfield 74, 3), (55, .return_, 1)]
theorem dkX0_settlePass : cv_dk cX0_settlePass tbX0_settlePass = true := by decide +kernel
def tbX0_arrival : List (Nat × Instr × Nat) := [(0, .aload_n 1, 1), (1, .iload_n 2, 1), (2, .invokevirtual 77, 3), (5, .bipush (-9), 2), (7, .if_icmp .eq 16, 3), (10, .aload_n 1, 1), (11, .aload_n 0, 1), (12, .getfield 17, 3), (15, .iload_n 3, 1), (16, .iaload, 1), (17, .invokevirtual 80, 3), (20, .ifCond .ne 6, 3), (23, .bipush (-9), 2), (25, .ireturn, 1), (26, .iload_n 3, 1), (27, .aload_n 1, 1), (28, .invokevirtual 84, 3), (31, .iadd, 1), (32, .istore 4, 2), (34, .iload 4, 2), (36, .bipush 7, 2), (38, .if_icmp .gt 8, 3), (41, .iload 4, 2), (43, .goto 5, 3), (46, .bipush (-9), 2), (48, .ireturn, 1)]
theorem dkX0_arrival : cv_dk cX0_arrival tbX0_arrival = true := by decide +kernel
def tbX0_chart : List (Nat × Instr × Nat) := [(0, .bipush 7, 2), (2, .istore_n 2, 1), (3, .iload_n 2, 1), (4, .ifCond .lt 39, 3), (7, .iconst 0, 1), (8, .istore_n 3, 1), (9, .iload_n 3, 1), (10, .iconst 3, 1), (11, .if_icmp .ge 26, 3), (14, .aload_n 0, 1), (15, .getfield 24, 3), (18, .iload_n 2, 1), (19, .iconst 3, 1), (20, .imul, 1), (21, .iload_n 3, 1), (22, .iadd, 1), (23, .aload_n 0, 1), (24, .iload_n 3, 1), (25, .iload_n 2, 1), (26, .iload_n 1, 1), (27, .invokevirtual 88, 3), (30, .iastore, 1), (31, .iinc 3 1, 3), (34, .goto (-25), 3), (37, .iinc 2 (-1), 3), (40, .goto (-37), 3), (43, .return_, 1)]
theorem dkX0_chart : cv_dk cX0_chart tbX0_chart = true := by decide +kernel
def tbX0_reachFrom : List (Nat × Instr × Nat) := [(0, .iconst 1, 1), (1, .bipush 8, 2), (3, .iload_n 1, 1), (4, .imul, 1), (5, .iload_n 2, 1), (6, .iadd, 1), (7, .ishl, 1), (8, .istore 4, 2), (10, .iload_n 2, 1), (11, .bipush 7, 2), (13, .if_icmp .ge 20, 3), (16, .iload 4, 2), (18, .aload_n 0, 1), (19, .getfield 24, 3), (22, .iload_n 2, 1), (23, .iconst 1, 1), (24, .iadd, 1), (25, .iconst 3, 1), (26, .imul, 1), (27, .iload_n 1, 1), (28, .iadd, 1), (29, .iaload, 1), (30, .ior, 1), (31, .istore 4, 2), (33, .iconst 0, 1), (34, .istore 5, 2), (36, .iload 5, 2), (38, .aload_n 0, 1), (39, .getfield 50, 3), (42, .if_icmp .ge 68, 3), (45, .iload 5, 2), (47, .iload_n 3, 1), (48, .if_icmp .ne 8, 3), (51, .bipush (-9), 2), (53, .goto 16, 3), (56, .aload_n 0, 1), (57, .aload_n 0, 1), (58, .getfield 11, 3), (61, .iload 5, 2), (63, .aaload, 1), (64, .iload_n 1, 1), (65, .iload_n 2, 1), (66, .invokevirtual 92, 3), (69, .istore 6, 2), (71, .iload 6, 2), (73, .bipush (-9), 2), (75, .if_icmp .eq 29, 3), (78, .iload 4, 2), (80, .aload_n 0, 1), (81, .getfield 24, 3), (84, .iload 6, 2), (86, .iconst 3, 1), (87, .imul, 1), (88, .aload_n 0, 1), (89, .getfield 11, 3), (92, .iload 5, 2), (94, .aaload, 1), (95, .iload_n 1, 1), (96, .invokevirtual 77, 3), (99, .iadd, 1), (100, .iaload, 1), (101, .ior, 1), (102, .istore 4, 2), (104, .iinc 5 1, 3), (107, .goto (-71), 3), (110, .iload 4, 2), (112, .ireturn, 1)]
theorem dkX0_reachFrom : cv_dk cX0_reachFrom tbX0_reachFrom = true := by decide +kernel
def tbX0_firstDayIn : List (Nat × Instr × Nat) := [(0, .aload_n 0, 1), (1, .getfield 24, 3), (4, .iload_n 3, 1), (5, .iconst 3, 1), (6, .imul, 1), (7, .iload_n 2, 1), (8, .iadd, 1), (9, .iaload, 1), (10, .bipush 8, 2), (12, .iload_n 1, 1), (13, .imul, 1), (14, .ishr, 1), (15, .iload 4, 2), (17, .iand, 1), (18, .istore 5, 2), (20, .iconst 0, 1), (21, .istore 6, 2), (23, .iload 6, 2), (25, .bipush 8, 2), (27, .if_icmp .ge 22, 3), (30, .iload 5, 2), (32, .iload 6, 2), (34, .invokestatic 96, 3), (37, .ifCond .eq 6, 3), (40, .iload 6, 2), (42, .ireturn, 1), (43, .iinc 6 1, 3), (46, .goto (-23), 3), (49, .bipush (-9), 2), (51, .ireturn, 1)]
theorem dkX0_firstDayIn : cv_dk cX0_firstDayIn tbX0_firstDayIn = true := by decide +kernel
def tbX0_doneOn : List (Nat × Instr × Nat) := [(0, .aload_n 0, 1), (1, .iload_n 1, 1), (2, .aload_n 0, 1), (3, .getfield 21, 3), (6, .iconst 1, 1), (7, .iaload, 1), (8, .aload_n 0, 1), (9, .getfield 21, 3), (12, .iconst 2, 1), (13, .iaload, 1), (14, .invokevirtual 100, 3), (17, .ireturn, 1)]
theorem dkX0_doneOn : cv_dk cX0_doneOn tbX0_doneOn = true := by decide +kernel
def tbX0_doneWith : List (Nat × Instr × Nat) := [(0, .aload_n 0, 1), (1, .getfield 21, 3), (4, .iconst 0, 1), (5, .iaload, 1), (6, .iload_n 1, 1), (7, .invokestatic 96, 3), (10, .ifCond .ne 6, 3), (13, .bipush (-9), 2), (15, .ireturn, 1), (16, .aload_n 0, 1), (17, .iconst 1, 1), (18, .iconst 0, 1), (19, .iload_n 1, 1), (20, .iload_n 2, 1), (21, .invokevirtual 103, 3), (24, .istore 4, 2), (26, .iload 4, 2), (28, .bipush (-9), 2), (30, .if_icmp .ne 8, 3), (33, .bipush (-9), 2), (35, .goto 12, 3), (38, .aload_n 0, 1), (39, .iconst 2, 1), (40, .iconst 1, 1), (41, .iload 4, 2), (43, .iload_n 3, 1), (44, .invokevirtual 103, 3), (47, .ireturn, 1)]
theorem dkX0_doneWith : cv_dk cX0_doneWith tbX0_doneWith = true := by decide +kernel
def tbX0_isDoneBy : List (Nat × Instr × Nat) := [(0, .aload_n 0, 1), (1, .iload_n 2, 1), (2, .iload_n 3, 1), (3, .iload 4, 2), (5, .invokevirtual 100, 3), (8, .istore 5, 2), (10, .iload 5, 2), (12, .bipush (-9), 2), (14, .if_icmp .eq 13, 3), (17, .iload 5, 2), (19, .iload_n 1, 1), (20, .if_icmp .gt 7, 3), (23, .iconst 1, 1), (24, .goto 4, 3), (27, .iconst 0, 1), (28, .ireturn, 1)]
theorem dkX0_isDoneBy : cv_dk cX0_isDoneBy tbX0_isDoneBy = true := by decide +kernel
def tbX0_isSafeBy : List (Nat × Instr × Nat) := [(0, .iconst 0, 1), (1, .istore_n 3, 1), (2, .iload_n 3, 1), (3, .bipush 64, 2), (5, .if_icmp .ge 58, 3), (8, .aload_n 0, 1), (9, .getfield 21, 3), (12, .iconst 1, 1), (13, .iaload, 1), (14, .iconst 1, 1), (15, .iload_n 3, 1), (16, .bipush 8, 2), (18, .idiv, 1), (19, .ishl, 1), (20, .iconst (-1), 1), (21, .ixor, 1), (22, .iand, 1), (23, .istore 4, 2), (25, .aload_n 0, 1), (26, .getfield 21, 3), (29, .iconst 2, 1), (30, .iaload, 1), (31, .iconst 1, 1), (32, .iload_n 3, 1), (33, .bipush 8, 2), (35, .irem, 1), (36, .ishl, 1), (37, .iconst (-1), 1), (38, .ixor, 1), (39, .iand, 1), (40, .istore 5, 2), (42, .aload_n 0, 1), (43, .iload_n 1, 1), (44, .iload_n 2, 1), (45, .iload 4, 2), (47, .iload 5, 2), (49, .invokevirtual 107, 3), (52, .ifCond .ne 5, 3), (55, .iconst 0, 1), (56, .ireturn, 1), (57, .iinc 3 1, 3), (60, .goto (-58), 3), (63, .iconst 1, 1), (64, .ireturn, 1)]
theorem dkX0_isSafeBy : cv_dk cX0_isSafeBy tbX0_isSafeBy = true := by decide +kernel
def tbX0_daysToPeace : List (Nat × Instr × Nat) := [(0, .aload_n 0, 1), (1, .iload_n 1, 1), (2, .iload_n 2, 1), (3, .aload_n 0, 1), (4, .getfield 21, 3), (7, .iconst 1, 1), (8, .iaload, 1), (9, .aload_n 0, 1), (10, .getfield 21, 3), (13, .iconst 2, 1), (14, .iaload, 1), (15, .invokevirtual 107, 3), (18, .ifCond .eq 5, 3), (21, .iconst 0, 1), (22, .ireturn, 1), (23, .aload_n 0, 1), (24, .iload_n 1, 1), (25, .iload_n 2, 1), (26, .sipush 255, 3), (29, .aload_n 0, 1), (30, .getfield 21, 3), (33, .iconst 2, 1), (34, .iaload, 1), (35, .invokevirtual 107, 3), (38, .ifCond .ne 21, 3), (41, .aload_n 0, 1), (42, .iload_n 1, 1), (43, .iload_n 2, 1), (44, .aload_n 0, 1), (45, .getfield 21, 3), (48, .iconst 1, 1), (49, .iaload, 1), (50, .sipush 255, 3), (53, .invokevirtual 107, 3), (56, .ifCond .eq 5, 3), (59, .iconst 1, 1), (60, .ireturn, 1), (61, .aload_n 0, 1), (62, .iload_n 1, 1), (63, .iload_n 2, 1), (64, .sipush 255, 3), (67, .sipush 255, 3), (70, .invokevirtual 107, 3), (73, .ifCond .eq 7, 3), (76, .iconst 2, 1), (77, .goto 5, 3), (80, .bipush (-9), 2), (82, .ireturn, 1)]
theorem dkX0_daysToPeace : cv_dk cX0_daysToPeace tbX0_daysToPeace = true := by decide +kernel
def tbX0_setsDoneBy : List (Nat × Instr × Nat) := [(0, .iconst 0, 1), (1, .istore 4, 2), (3, .iconst 0, 1), (4, .istore 5, 2), (6, .iload 5, 2), (8, .sipush 255, 3), (11, .if_icmp .gt 87, 3), (14, .iload 5, 2), (16, .aload_n 0, 1), (17, .getfield 21, 3), (20, .iload_n 3, 1), (21, .iaload, 1), (22, .iconst (-1), 1), (23, .ixor, 1), (24, .iand, 1), (25, .ifCond .ne 7, 3), (28, .iconst 1, 1), (29, .goto 4, 3), (32, .iconst 0, 1), (33, .istore 6, 2), (35, .iload_n 3, 1), (36, .iconst 1, 1), (37, .if_icmp .ne 8, 3), (40, .iload 5, 2), (42, .goto 9, 3), (45, .aload_n 0, 1), (46, .getfield 21, 3), (49, .iconst 1, 1), (50, .iaload, 1), (51, .istore 7, 2), (53, .iload_n 3, 1), (54, .iconst 2, 1), (55, .if_icmp .ne 8, 3), (58, .iload 5, 2), (60, .goto 9, 3), (63, .aload_n 0, 1), (64, .getfield 21, 3), (67, .iconst 2, 1), (68, .iaload, 1), (69, .istore 8, 2), (71, .iload 6, 2), (73, .ifCond .eq 19, 3), (76, .aload_n 0, 1), (77, .iload_n 1, 1), (78, .iload_n 2, 1), (79, .iload 7, 2), (81, .iload 8, 2), (83, .invokevirtual 107, 3), (86, .ifCond .eq 6, 3), (89, .iinc 4 1, 3), (92, .iinc 5 1, 3), (95, .goto (-89), 3), (98, .iload 4, 2), (100, .ireturn, 1)]
theorem dkX0_setsDoneBy : cv_dk cX0_setsDoneBy tbX0_setsDoneBy = true := by decide +kernel
def tbX0_fewestHoles : List (Nat × Instr × Nat) := [(0, .aload_n 0, 1), (1, .getfield 21, 3), (4, .iconst 0, 1), (5, .iaload, 1), (6, .iload_n 1, 1), (7, .invokestatic 96, 3), (10, .ifCond .ne 6, 3), (13, .bipush (-9), 2), (15, .ireturn, 1), (16, .bipush 7, 2), (18, .istore_n 2, 1), (19, .iload_n 2, 1), (20, .iload_n 1, 1), (21, .if_icmp .lt 56, 3), (24, .iconst 1, 1), (25, .istore_n 3, 1), (26, .iload_n 3, 1), (27, .ifCond .lt 44, 3), (30, .iconst 0, 1), (31, .istore 4, 2), (33, .iload 4, 2), (35, .iconst 3, 1), (36, .if_icmp .ge 29, 3), (39, .aload_n 0, 1), (40, .getfield 27, 3), (43, .iload_n 2, 1), (44, .iload_n 3, 1), (45, .iload 4, 2), (47, .invokestatic 111, 3), (50, .aload_n 0, 1), (51, .iload_n 2, 1), (52, .iload_n 3, 1), (53, .iload 4, 2), (55, .invokevirtual 114, 3), (58, .iastore, 1), (59, .iinc 4 1, 3), (62, .goto (-29), 3), (65, .iinc 3 (-1), 3), (68, .goto (-42), 3), (71, .iinc 2 (-1), 3), (74, .goto (-55), 3), (77, .aload_n 0, 1), (78, .getfield 27, 3), (81, .iload_n 1, 1), (82, .iconst 0, 1), (83, .iconst 0, 1), (84, .invokestatic 111, 3), (87, .iaload, 1), (88, .ireturn, 1)]
theorem dkX0_fewestHoles : cv_dk cX0_fewestHoles tbX0_fewestHoles = true := by decide +kernel
def tbX0_holesFrom : List (Nat × Instr × Nat) := [(0, .iload_n 2, 1), (1, .iconst 1, 1), (2, .if_icmp .ne 23, 3), (5, .iload_n 3, 1), (6, .iconst 2, 1), (7, .if_icmp .ne 18, 3), (10, .aload_n 0, 1), (11, .getfield 21, 3), (14, .iconst 2, 1), (15, .iaload, 1), (16, .iload_n 1, 1), (17, .invokestatic 96, 3), (20, .ifCond .eq 5, 3), (23, .iconst 0, 1), (24, .ireturn, 1), (25, .bipush (-9), 2), (27, .istore 4, 2), (29, .iload_n 1, 1), (30, .bipush 7, 2), (32, .if_icmp .ge 38, 3), (35, .aload_n 0, 1), (36, .getfield 27, 3), (39, .iload_n 1, 1), (40, .iconst 1, 1), (41, .iadd, 1), (42, .iload_n 2, 1), (43, .iload_n 3, 1), (44, .invokestatic 111, 3), (47, .iaload, 1), (48, .bipush (-9), 2), (50, .if_icmp .eq 20, 3), (53, .aload_n 0, 1), (54, .getfield 27, 3), (57, .iload_n 1, 1), (58, .iconst 1, 1), (59, .iadd, 1), (60, .iload_n 2, 1), (61, .iload_n 3, 1), (62, .invokestatic 111, 3), (65, .iaload, 1), (66, .iconst 1, 1), (67, .iadd, 1), (68, .istore 4, 2), (70, .iload_n 2, 1), (71, .iconst 1, 1), (72, .if_icmp .ge 39, 3), (75, .iload_n 3, 1), (76, .iconst 1, 1), (77, .if_icmp .ne 34, 3), (80, .aload_n 0, 1), (81, .getfield 21, 3), (84, .iconst 1, 1), (85, .iaload, 1), (86, .iload_n 1, 1), (87, .invokestatic 96, 3), (90, .ifCond .eq 21, 3), (93, .iload 4, 2), (95, .aload_n 0, 1), (96, .getfield 27, 3), (99, .iload_n 1, 1), (100, .iconst 1, 1), (101, .iload_n 3, 1), (102, .invokestatic 111, 3), (105, .iaload, 1), (106, .invokestatic 117, 3), (109, .istore 4, 2), (111, .iconst 0, 1), (112, .istore 5, 2), (114, .iload 5, 2), (116, .aload_n 0, 1), (117, .getfield 50, 3), (120, .if_icmp .ge 60, 3), (123, .aload_n 0, 1), (124, .aload_n 0, 1), (125, .getfield 11, 3), (128, .iload 5, 2), (130, .aaload, 1), (131, .iload_n 3, 1), (132, .iload_n 1, 1), (133, .invokevirtual 92, 3), (136, .istore 6, 2), (138, .iload 6, 2), (140, .bipush (-9), 2), (142, .if_icmp .eq 32, 3), (145, .iload 4, 2), (147, .aload_n 0, 1), (148, .getfield 27, 3), (151, .iload 6, 2), (153, .iload_n 2, 1), (154, .aload_n 0, 1), (155, .getfield 11, 3), (158, .iload 5, 2), (160, .aaload, 1), (161, .iload_n 3, 1), (162, .invokevirtual 77, 3), (165, .invokestatic 111, 3), (168, .iaload, 1), (169, .invokestatic 117, 3), (172, .istore 4, 2), (174, .iinc 5 1, 3), (177, .goto (-63), 3), (180, .iload 4, 2), (182, .ireturn, 1)]
theorem dkX0_holesFrom : cv_dk cX0_holesFrom tbX0_holesFrom = true := by decide +kernel
def tbX0_placeOf : List (Nat × Instr × Nat) := [(0, .iload_n 0, 1), (1, .iconst 2, 1), (2, .imul, 1), (3, .iload_n 1, 1), (4, .iadd, 1), (5, .iconst 3, 1), (6, .imul, 1), (7, .iload_n 2, 1), (8, .iadd, 1), (9, .ireturn, 1)]
theorem dkX0_placeOf : cv_dk cX0_placeOf tbX0_placeOf = true := by decide +kernel
def tbX0_fewer : List (Nat × Instr × Nat) := [(0, .iload_n 0, 1), (1, .bipush (-9), 2), (3, .if_icmp .eq 9, 3), (6, .iload_n 1, 1), (7, .bipush (-9), 2), (9, .if_icmp .ne 9, 3), (12, .iload_n 0, 1), (13, .iload_n 1, 1), (14, .invokestatic 120, 3), (17, .ireturn, 1), (18, .iload_n 0, 1), (19, .iload_n 1, 1), (20, .invokestatic 44, 3), (23, .ireturn, 1)]
theorem dkX0_fewer : cv_dk cX0_fewer tbX0_fewer = true := by decide +kernel
def tbX1_init : List (Nat × Instr × Nat) := [(0, .aload_n 0, 1), (1, .invokespecial 3, 3), (4, .return_, 1)]
theorem dkX1_init : cv_dk cX1_init tbX1_init = true := by decide +kernel
def tbX1_takes : List (Nat × Instr × Nat) := [(0, .aload_n 0, 1), (1, .getfield 9, 3), (4, .lookupswitch 49 #[(1, 28), (2, 35)], 28), (32, .aload_n 0, 1), (33, .getfield 15, 3), (36, .iconst 1, 1), (37, .iadd, 1), (38, .ireturn, 1), (39, .aload_n 0, 1), (40, .getfield 15, 3), (43, .iconst 2, 1), (44, .idiv, 1), (45, .aload_n 0, 1), (46, .getfield 15, 3), (49, .iconst 2, 1), (50, .irem, 1), (51, .iadd, 1), (52, .ireturn, 1), (53, .aload_n 0, 1), (54, .getfield 15, 3), (57, .ireturn, 1)]
theorem dkX1_takes : cv_dk cX1_takes tbX1_takes = true := by decide +kernel
def tbX1_isOpenIn : List (Nat × Instr × Nat) := [(0, .aload_n 0, 1), (1, .getfield 9, 3), (4, .iconst 2, 1), (5, .if_icmp .eq 11, 3), (8, .aload_n 0, 1), (9, .getfield 18, 3), (12, .iload_n 1, 1), (13, .if_icmp .le 7, 3), (16, .iconst 1, 1), (17, .goto 4, 3), (20, .iconst 0, 1), (21, .ireturn, 1)]
theorem dkX1_isOpenIn : cv_dk cX1_isOpenIn tbX1_isOpenIn = true := by decide +kernel
def tbX1_otherEnd : List (Nat × Instr × Nat) := [(0, .iload_n 1, 1), (1, .aload_n 0, 1), (2, .getfield 21, 3), (5, .if_icmp .ne 8, 3), (8, .aload_n 0, 1), (9, .getfield 24, 3), (12, .ireturn, 1), (13, .iload_n 1, 1), (14, .aload_n 0, 1), (15, .getfield 24, 3), (18, .if_icmp .ne 10, 3), (21, .aload_n 0, 1), (22, .getfield 21, 3), (25, .goto 5, 3), (28, .bipush (-9), 2), (30, .ireturn, 1)]
theorem dkX1_otherEnd : cv_dk cX1_otherEnd tbX1_otherEnd = true := by decide +kernel
def tbX2_init : List (Nat × Instr × Nat) := [(0, .aload_n 0, 1), (1, .invokespecial 3, 3), (4, .aload_n 0, 1), (5, .bipush 8, 2), (7, .newarray .int, 2), (9, .putfield 9, 3), (12, .aload_n 0, 1), (13, .bipush 8, 2), (15, .newarray .int, 2), (17, .putfield 15, 3), (20, .return_, 1)]
theorem dkX2_init : cv_dk cX2_init tbX2_init = true := by decide +kernel
def tbX2_holdIn : List (Nat × Instr × Nat) := [(0, .iconst 0, 1), (1, .istore_n 2, 1), (2, .iload_n 2, 1), (3, .aload_n 0, 1), (4, .getfield 18, 3), (7, .if_icmp .ge 30, 3), (10, .aload_n 1, 1), (11, .aload_n 0, 1), (12, .getfield 9, 3), (15, .iload_n 2, 1), (16, .iaload, 1), (17, .invokevirtual 22, 3), (20, .aload_n 0, 1), (21, .getfield 15, 3), (24, .iload_n 2, 1), (25, .iaload, 1), (26, .if_icmp .eq 5, 3), (29, .iconst 0, 1), (30, .ireturn, 1), (31, .iinc 2 1, 3), (34, .goto (-32), 3), (37, .iconst 1, 1), (38, .ireturn, 1)]
theorem dkX2_holdIn : cv_dk cX2_holdIn tbX2_holdIn = true := by decide +kernel
def tbX3_init : List (Nat × Instr × Nat) := [(0, .aload_n 0, 1), (1, .invokespecial 3, 3), (4, .aload_n 0, 1), (5, .bipush 60, 2), (7, .newarray .int, 2), (9, .putfield 9, 3), (12, .aload_n 0, 1), (13, .iconst (-1), 1), (14, .putfield 15, 3), (17, .return_, 1)]
theorem dkX3_init : cv_dk cX3_init tbX3_init = true := by decide +kernel
def tbX3_renew : List (Nat × Instr × Nat) := [(0, .aload_n 0, 1), (1, .iload_n 1, 1), (2, .putfield 15, 3), (5, .aload_n 0, 1), (6, .iload_n 2, 1), (7, .putfield 19, 3), (10, .iconst 0, 1), (11, .istore_n 3, 1), (12, .iload_n 3, 1), (13, .bipush 60, 2), (15, .if_icmp .ge 16, 3), (18, .aload_n 0, 1), (19, .getfield 9, 3), (22, .iload_n 3, 1), (23, .iconst 0, 1), (24, .iastore, 1), (25, .iinc 3 1, 3), (28, .goto (-16), 3), (31, .return_, 1)]
theorem dkX3_renew : cv_dk cX3_renew tbX3_renew = true := by decide +kernel
def tbX3_hasNothing : List (Nat × Instr × Nat) := [(0, .aload_n 0, 1), (1, .getfield 15, 3), (4, .iconst (-1), 1), (5, .if_icmp .ne 7, 3), (8, .iconst 1, 1), (9, .goto 4, 3), (12, .iconst 0, 1), (13, .ireturn, 1)]
theorem dkX3_hasNothing : cv_dk cX3_hasNothing tbX3_hasNothing = true := by decide +kernel
def tbX3_hasCells : List (Nat × Instr × Nat) := [(0, .iload_n 1, 1), (1, .ifCond .lt 29, 3), (4, .iload_n 2, 1), (5, .ifCond .lt 25, 3), (8, .iload_n 1, 1), (9, .aload_n 0, 1), (10, .getfield 19, 3), (13, .if_icmp .gt 17, 3), (16, .iload_n 2, 1), (17, .aload_n 0, 1), (18, .getfield 19, 3), (21, .iload_n 1, 1), (22, .isub, 1), (23, .if_icmp .gt 7, 3), (26, .iconst 1, 1), (27, .goto 4, 3), (30, .iconst 0, 1), (31, .ireturn, 1)]
theorem dkX3_hasCells : cv_dk cX3_hasCells tbX3_hasCells = true := by decide +kernel
def tbX3_faultOf : List (Nat × Instr × Nat) := [(0, .aload_n 0, 1), (1, .invokevirtual 22, 3), (4, .ifCond .ne 13, 3), (7, .aload_n 0, 1), (8, .getfield 15, 3), (11, .iload_n 1, 1), (12, .if_icmp .eq 5, 3), (15, .iconst 2, 1), (16, .ireturn, 1), (17, .aload_n 0, 1), (18, .invokevirtual 22, 3), (21, .ifCond .eq 5, 3), (24, .iconst 1, 1), (25, .ireturn, 1), (26, .iload_n 3, 1), (27, .ifCond .ge 5, 3), (30, .iconst 4, 1), (31, .ireturn, 1), (32, .aload_n 0, 1), (33, .iload_n 2, 1), (34, .iload_n 3, 1), (35, .invokevirtual 26, 3), (38, .ifCond .eq 7, 3), (41, .iconst 0, 1), (42, .goto 4, 3), (45, .iconst 3, 1), (46, .ireturn, 1)]
theorem dkX3_faultOf : cv_dk cX3_faultOf tbX3_faultOf = true := by decide +kernel
def tbX3_cut : List (Nat × Instr × Nat) := [(0, .aload_n 0, 1), (1, .getfield 15, 3), (4, .lookupswitch 34 #[(0, 28), (1, 31)], 28), (32, .iload_n 1, 1), (33, .i2b, 1), (34, .ireturn, 1), (35, .iload_n 1, 1), (36, .i2s, 1), (37, .ireturn, 1), (38, .iload_n 1, 1), (39, .ireturn, 1)]
theorem dkX3_cut : cv_dk cX3_cut tbX3_cut = true := by decide +kernel
def tbX4_init : List (Nat × Instr × Nat) := [(0, .aload_n 0, 1), (1, .invokespecial 3, 3), (4, .aload_n 0, 1), (5, .aload_n 1, 1), (6, .putfield 9, 3), (9, .aload_n 0, 1), (10, .iload_n 2, 1), (11, .putfield 15, 3), (14, .aload_n 0, 1), (15, .iload_n 3, 1), (16, .putfield 19, 3), (19, .return_, 1)]
theorem dkX4_init : cv_dk cX4_init tbX4_init = true := by decide +kernel
def tbX4_codeAt : List (Nat × Instr × Nat) := [(0, .aload_n 0, 1), (1, .getfield 9, 3), (4, .aload_n 0, 1), (5, .getfield 15, 3), (8, .iload_n 1, 1), (9, .iadd, 1), (10, .iaload, 1), (11, .ireturn, 1)]
theorem dkX4_codeAt : cv_dk cX4_codeAt tbX4_codeAt = true := by decide +kernel
def tbX4_digitAt : List (Nat × Instr × Nat) := [(0, .aload_n 0, 1), (1, .iload_n 1, 1), (2, .invokevirtual 22, 3), (5, .bipush 48, 2), (7, .isub, 1), (8, .ireturn, 1)]
theorem dkX4_digitAt : cv_dk cX4_digitAt tbX4_digitAt = true := by decide +kernel
def tbX4_numberAt : List (Nat × Instr × Nat) := [(0, .aload_n 0, 1), (1, .iload_n 1, 1), (2, .invokevirtual 26, 3), (5, .bipush 100, 2), (7, .imul, 1), (8, .aload_n 0, 1), (9, .iload_n 1, 1), (10, .iconst 1, 1), (11, .iadd, 1), (12, .invokevirtual 26, 3), (15, .bipush 10, 2), (17, .imul, 1), (18, .iadd, 1), (19, .aload_n 0, 1), (20, .iload_n 1, 1), (21, .iconst 2, 1), (22, .iadd, 1), (23, .invokevirtual 26, 3), (26, .iadd, 1), (27, .ireturn, 1)]
theorem dkX4_numberAt : cv_dk cX4_numberAt tbX4_numberAt = true := by decide +kernel
def tbX4_kindAt : List (Nat × Instr × Nat) := [(0, .aload_n 0, 1), (1, .iload_n 1, 1), (2, .invokevirtual 22, 3), (5, .tableswitch 41 112 116 #[35, 41, 41, 37, 39], 35), (40, .iconst 0, 1), (41, .ireturn, 1), (42, .iconst 1, 1), (43, .ireturn, 1), (44, .iconst 2, 1), (45, .ireturn, 1), (46, .bipush (-9), 2), (48, .ireturn, 1)]
theorem dkX4_kindAt : cv_dk cX4_kindAt tbX4_kindAt = true := by decide +kernel
def tbX4_firstFault : List (Nat × Instr × Nat) := [(0, .iconst 0, 1), (1, .istore_n 1, 1), (2, .iload_n 1, 1), (3, .aload_n 0, 1), (4, .getfield 19, 3), (7, .if_icmp .ge 19, 3), (10, .aload_n 0, 1), (11, .iload_n 1, 1), (12, .invokevirtual 29, 3), (15, .ifCond .ne 5, 3), (18, .iload_n 1, 1), (19, .ireturn, 1), (20, .iinc 1 1, 3), (23, .goto (-21), 3), (26, .aload_n 0, 1), (27, .getfield 19, 3), (30, .bipush 21, 2), (32, .if_icmp .le 20, 3), (35, .aload_n 0, 1), (36, .getfield 19, 3), (39, .bipush 21, 2), (41, .isub, 1), (42, .bipush 6, 2), (44, .irem, 1), (45, .ifCond .ne 7, 3), (48, .iconst 1, 1), (49, .goto 4, 3), (52, .iconst 0, 1), (53, .istore_n 1, 1), (54, .iload_n 1, 1), (55, .ifCond .eq 8, 3), (58, .bipush (-9), 2), (60, .goto 7, 3), (63, .aload_n 0, 1), (64, .getfield 19, 3), (67, .ireturn, 1)]
theorem dkX4_firstFault : cv_dk cX4_firstFault tbX4_firstFault = true := by decide +kernel
def tbX4_goesOnAt : List (Nat × Instr × Nat) := [(0, .iload_n 1, 1), (1, .ifCond .ne 19, 3), (4, .aload_n 0, 1), (5, .iload_n 1, 1), (6, .invokevirtual 22, 3), (9, .bipush 118, 2), (11, .if_icmp .ne 7, 3), (14, .iconst 1, 1), (15, .goto 4, 3), (18, .iconst 0, 1), (19, .ireturn, 1), (20, .iload_n 1, 1), (21, .bipush 9, 2), (23, .if_icmp .ge 12, 3), (26, .aload_n 0, 1), (27, .iload_n 1, 1), (28, .iconst 0, 1), (29, .bipush 9, 2), (31, .invokevirtual 33, 3), (34, .ireturn, 1), (35, .iload_n 1, 1), (36, .bipush 21, 2), (38, .if_icmp .ge 15, 3), (41, .aload_n 0, 1), (42, .iload_n 1, 1), (43, .iload_n 1, 1), (44, .bipush 9, 2), (46, .isub, 1), (47, .iconst 4, 1), (48, .irem, 1), (49, .invokevirtual 37, 3), (52, .ireturn, 1), (53, .iload_n 1, 1), (54, .bipush 57, 2), (56, .if_icmp .ge 22, 3), (59, .aload_n 0, 1), (60, .iload_n 1, 1), (61, .iload_n 1, 1), (62, .bipush 21, 2), (64, .isub, 1), (65, .bipush 6, 2), (67, .irem, 1), (68, .invokevirtual 41, 3), (71, .ifCond .eq 7, 3), (74, .iconst 1, 1), (75, .goto 4, 3), (78, .iconst 0, 1), (79, .ireturn, 1)]
theorem dkX4_goesOnAt : cv_dk cX4_goesOnAt tbX4_goesOnAt = true := by decide +kernel
def tbX4_givesGoOnAt : List (Nat × Instr × Nat) := [(0, .iload_n 2, 1), (1, .tableswitch 75 0 2 #[27, 43, 51], 27), (28, .aload_n 0, 1), (29, .iload_n 1, 1), (30, .invokevirtual 22, 3), (33, .bipush 59, 2), (35, .if_icmp .ne 7, 3), (38, .iconst 1, 1), (39, .goto 4, 3), (42, .iconst 0, 1), (43, .ireturn, 1), (44, .aload_n 0, 1), (45, .iload_n 1, 1), (46, .iconst 0, 1), (47, .iconst 2, 1), (48, .invokevirtual 33, 3), (51, .ireturn, 1), (52, .aload_n 0, 1), (53, .iload_n 1, 1), (54, .iconst 0, 1), (55, .aload_n 0, 1), (56, .iload_n 1, 1), (57, .iconst 1, 1), (58, .isub, 1), (59, .invokevirtual 26, 3), (62, .iconst 2, 1), (63, .if_icmp .ne 7, 3), (66, .iconst 5, 1), (67, .goto 5, 3), (70, .bipush 9, 2), (72, .invokevirtual 33, 3), (75, .ireturn, 1), (76, .aload_n 0, 1), (77, .iload_n 1, 1), (78, .iconst 2, 1), (79, .isub, 1), (80, .invokevirtual 26, 3), (83, .iconst 2, 1), (84, .if_icmp .ne 18, 3), (87, .aload_n 0, 1), (88, .iload_n 1, 1), (89, .iconst 1, 1), (90, .isub, 1), (91, .invokevirtual 26, 3), (94, .iconst 5, 1), (95, .if_icmp .ne 7, 3), (98, .iconst 1, 1), (99, .goto 4, 3), (102, .iconst 0, 1), (103, .istore_n 3, 1), (104, .aload_n 0, 1), (105, .iload_n 1, 1), (106, .iconst 0, 1), (107, .iload_n 3, 1), (108, .ifCond .eq 7, 3), (111, .iconst 5, 1), (112, .goto 5, 3), (115, .bipush 9, 2), (117, .invokevirtual 33, 3), (120, .ireturn, 1)]
theorem dkX4_givesGoOnAt : cv_dk cX4_givesGoOnAt tbX4_givesGoOnAt = true := by decide +kernel
def tbX4_passGoesOnAt : List (Nat × Instr × Nat) := [(0, .iload_n 2, 1), (1, .tableswitch 114 0 4 #[35, 51, 67, 75, 106], 35), (36, .aload_n 0, 1), (37, .iload_n 1, 1), (38, .invokevirtual 22, 3), (41, .bipush 44, 2), (43, .if_icmp .ne 7, 3), (46, .iconst 1, 1), (47, .goto 4, 3), (50, .iconst 0, 1), (51, .ireturn, 1), (52, .aload_n 0, 1), (53, .iload_n 1, 1), (54, .invokevirtual 44, 3), (57, .bipush (-9), 2), (59, .if_icmp .eq 7, 3), (62, .iconst 1, 1), (63, .goto 4, 3), (66, .iconst 0, 1), (67, .ireturn, 1), (68, .aload_n 0, 1), (69, .iload_n 1, 1), (70, .iconst 0, 1), (71, .iconst 2, 1), (72, .invokevirtual 33, 3), (75, .ireturn, 1), (76, .aload_n 0, 1), (77, .iload_n 1, 1), (78, .iconst 0, 1), (79, .iconst 2, 1), (80, .invokevirtual 33, 3), (83, .ifCond .eq 22, 3), (86, .aload_n 0, 1), (87, .iload_n 1, 1), (88, .invokevirtual 22, 3), (91, .aload_n 0, 1), (92, .iload_n 1, 1), (93, .iconst 1, 1), (94, .isub, 1), (95, .invokevirtual 22, 3), (98, .if_icmp .eq 7, 3), (101, .iconst 1, 1), (102, .goto 4, 3), (105, .iconst 0, 1), (106, .ireturn, 1), (107, .aload_n 0, 1), (108, .iload_n 1, 1), (109, .iconst 1, 1), (110, .iconst 3, 1), (111, .invokevirtual 33, 3), (114, .ireturn, 1), (115, .aload_n 0, 1), (116, .iload_n 1, 1), (117, .iconst 0, 1), (118, .bipush 9, 2), (120, .invokevirtual 33, 3), (123, .ireturn, 1)]
theorem dkX4_passGoesOnAt : cv_dk cX4_passGoesOnAt tbX4_passGoesOnAt = true := by decide +kernel
def tbX4_isDigitAt : List (Nat × Instr × Nat) := [(0, .aload_n 0, 1), (1, .iload_n 1, 1), (2, .invokevirtual 26, 3), (5, .iload_n 2, 1), (6, .if_icmp .lt 16, 3), (9, .aload_n 0, 1), (10, .iload_n 1, 1), (11, .invokevirtual 26, 3), (14, .iload_n 3, 1), (15, .if_icmp .gt 7, 3), (18, .iconst 1, 1), (19, .goto 4, 3), (22, .iconst 0, 1), (23, .ireturn, 1)]
theorem dkX4_isDigitAt : cv_dk cX4_isDigitAt tbX4_isDigitAt = true := by decide +kernel
def tbX5_init : List (Nat × Instr × Nat) := [(0, .aload_n 0, 1), (1, .invokespecial 3, 3), (4, .return_, 1)]
theorem dkX5_init : cv_dk cX5_init tbX5_init = true := by decide +kernel
def tbX5_begin : List (Nat × Instr × Nat) := [(0, .aload_n 0, 1), (1, .iload_n 1, 1), (2, .putfield 9, 3), (5, .aload_n 0, 1), (6, .iconst 0, 1), (7, .putfield 15, 3), (10, .aload_n 0, 1), (11, .iconst 0, 1), (12, .putfield 18, 3), (15, .aload_n 0, 1), (16, .iconst 0, 1), (17, .putfield 21, 3), (20, .return_, 1)]
theorem dkX5_begin : cv_dk cX5_begin tbX5_begin = true := by decide +kernel
def tbX5_takesStep : List (Nat × Instr × Nat) := [(0, .aload_n 0, 1), (1, .getfield 18, 3), (4, .iconst 2, 1), (5, .if_icmp .ne 5, 3), (8, .iconst 0, 1), (9, .ireturn, 1), (10, .iload_n 1, 1), (11, .tableswitch 46 6 8 #[25, 30, 38], 25), (36, .aload_n 0, 1), (37, .invokevirtual 24, 3), (40, .ireturn, 1), (41, .aload_n 0, 1), (42, .iconst 1, 1), (43, .iconst 0, 1), (44, .aload_n 2, 1), (45, .invokevirtual 28, 3), (48, .ireturn, 1), (49, .aload_n 0, 1), (50, .iconst 2, 1), (51, .iconst 1, 1), (52, .aload_n 2, 1), (53, .invokevirtual 28, 3), (56, .ireturn, 1), (57, .aload_n 0, 1), (58, .iload_n 1, 1), (59, .aload_n 2, 1), (60, .invokevirtual 32, 3), (63, .ireturn, 1)]
theorem dkX5_takesStep : cv_dk cX5_takesStep tbX5_takesStep = true := by decide +kernel
def tbX5_waitsADay : List (Nat × Instr × Nat) := [(0, .aload_n 0, 1), (1, .getfield 9, 3), (4, .bipush 7, 2), (6, .if_icmp .lt 5, 3), (9, .iconst 0, 1), (10, .ireturn, 1), (11, .aload_n 0, 1), (12, .dup, 1), (13, .getfield 9, 3), (16, .iconst 1, 1), (17, .iadd, 1), (18, .putfield 9, 3), (21, .aload_n 0, 1), (22, .dup, 1), (23, .getfield 21, 3), (26, .iconst 1, 1), (27, .iadd, 1), (28, .putfield 21, 3), (31, .iconst 1, 1), (32, .ireturn, 1)]
theorem dkX5_waitsADay : cv_dk cX5_waitsADay tbX5_waitsADay = true := by decide +kernel
def tbX5_gets : List (Nat × Instr × Nat) := [(0, .aload_n 0, 1), (1, .getfield 15, 3), (4, .iload_n 1, 1), (5, .if_icmp .ne 27, 3), (8, .aload_n 0, 1), (9, .getfield 18, 3), (12, .iload_n 2, 1), (13, .if_icmp .ne 19, 3), (16, .aload_n 3, 1), (17, .getfield 36, 3), (20, .iload_n 1, 1), (21, .iaload, 1), (22, .aload_n 0, 1), (23, .getfield 9, 3), (26, .invokestatic 42, 3), (29, .ifCond .ne 5, 3), (32, .iconst 0, 1), (33, .ireturn, 1), (34, .aload_n 0, 1), (35, .dup, 1), (36, .getfield 18, 3), (39, .iconst 1, 1), (40, .iadd, 1), (41, .putfield 18, 3), (44, .iconst 1, 1), (45, .ireturn, 1)]
theorem dkX5_gets : cv_dk cX5_gets tbX5_gets = true := by decide +kernel
def tbX5_crosses : List (Nat × Instr × Nat) := [(0, .iload_n 1, 1), (1, .aload_n 2, 1), (2, .getfield 46, 3), (5, .invokestatic 49, 3), (8, .ifCond .ne 5, 3), (11, .iconst 0, 1), (12, .ireturn, 1), (13, .aload_n 2, 1), (14, .getfield 52, 3), (17, .iload_n 1, 1), (18, .aaload, 1), (19, .astore_n 3, 1), (20, .aload_n 2, 1), (21, .aload_n 3, 1), (22, .aload_n 0, 1), (23, .getfield 15, 3), (26, .aload_n 0, 1), (27, .getfield 9, 3), (30, .invokevirtual 56, 3), (33, .istore 4, 2), (35, .iload 4, 2), (37, .bipush (-9), 2), (39, .if_icmp .ne 5, 3), (42, .iconst 0, 1), (43, .ireturn, 1), (44, .aload_n 0, 1), (45, .iload 4, 2), (47, .putfield 9, 3), (50, .aload_n 0, 1), (51, .aload_n 3, 1), (52, .aload_n 0, 1), (53, .getfield 15, 3), (56, .invokevirtual 60, 3), (59, .putfield 15, 3), (62, .iconst 1, 1), (63, .ireturn, 1)]
theorem dkX5_crosses : cv_dk cX5_crosses tbX5_crosses = true := by decide +kernel
def tbX6_init : List (Nat × Instr × Nat) := [(0, .aload_n 0, 1), (1, .invokespecial 3, 3), (4, .aload_n 0, 1), (5, .iconst 4, 1), (6, .anewarray 11, 3), (9, .putfield 13, 3), (12, .iconst 0, 1), (13, .istore_n 1, 1), (14, .iload_n 1, 1), (15, .iconst 4, 1), (16, .if_icmp .ge 22, 3), (19, .aload_n 0, 1), (20, .getfield 13, 3), (23, .iload_n 1, 1), (24, .new 11, 3), (27, .dup, 1), (28, .invokespecial 17, 3), (31, .aastore, 1), (32, .iinc 1 1, 3), (35, .goto (-21), 3), (38, .aload_n 0, 1), (39, .new 18, 3), (42, .dup, 1), (43, .invokespecial 20, 3), (46, .putfield 21, 3), (49, .aload_n 0, 1), (50, .new 25, 3), (53, .dup, 1), (54, .invokespecial 27, 3), (57, .putfield 28, 3), (60, .aload_n 0, 1), (61, .new 32, 3), (64, .dup, 1), (65, .invokespecial 34, 3), (68, .putfield 35, 3), (71, .return_, 1)]
theorem dkX6_init : cv_dk cX6_init tbX6_init = true := by decide +kernel
def tbX6_land : List (Nat × Instr × Nat) := [(0, .aload_n 0, 1), (1, .iconst 0, 1), (2, .putfield 39, 3), (5, .iload_n 1, 1), (6, .invokestatic 43, 3), (9, .ifCond .ne 5, 3), (12, .iconst (-1), 1), (13, .ireturn, 1), (14, .iload_n 2, 1), (15, .invokestatic 47, 3), (18, .ifCond .ne 6, 3), (21, .bipush (-2), 2), (23, .ireturn, 1), (24, .aload_n 0, 1), (25, .getfield 13, 3), (28, .iload_n 1, 1), (29, .aaload, 1), (30, .iload_n 2, 1), (31, .iload_n 3, 1), (32, .iload 4, 2), (34, .invokevirtual 50, 3), (37, .istore 5, 2), (39, .iload 5, 2), (41, .ifCond .eq 10, 3), (44, .aload_n 0, 1), (45, .iload 5, 2), (47, .invokevirtual 54, 3), (50, .ireturn, 1), (51, .new 58, 3), (54, .dup, 1), (55, .aload_n 0, 1), (56, .getfield 13, 3), (59, .iload_n 1, 1), (60, .aaload, 1), (61, .getfield 60, 3), (64, .iload_n 3, 1), (65, .iload 4, 2), (67, .invokespecial 64, 3), (70, .astore 6, 2), (72, .aload 6, 2), (74, .invokevirtual 67, 3), (77, .istore 7, 2), (79, .iload 7, 2), (81, .bipush (-9), 2), (83, .if_icmp .eq 9, 3), (86, .bipush (-100), 2), (88, .iload 7, 2), (90, .isub, 1), (91, .ireturn, 1), (92, .aload_n 0, 1), (93, .getfield 21, 3), (96, .aload 6, 2), (98, .invokevirtual 71, 3), (101, .aload_n 0, 1), (102, .getfield 35, 3), (105, .iconst 0, 1), (106, .putfield 75, 3), (109, .aload_n 0, 1), (110, .getfield 21, 3), (113, .getfield 78, 3), (116, .ireturn, 1)]
theorem dkX6_land : cv_dk cX6_land tbX6_land = true := by decide +kernel
def tbX6_ofPass : List (Nat × Instr × Nat) := [(0, .aload_n 0, 1), (1, .iload_n 1, 1), (2, .invokevirtual 81, 3), (5, .ifCond .ne 5, 3), (8, .iconst (-1), 1), (9, .ireturn, 1), (10, .aload_n 0, 1), (11, .getfield 21, 3), (14, .getfield 84, 3), (17, .iload_n 1, 1), (18, .aaload, 1), (19, .astore_n 3, 1), (20, .iload_n 2, 1), (21, .tableswitch 69 0 5 #[39, 44, 49, 54, 59, 64], 39), (60, .aload_n 3, 1), (61, .getfield 88, 3), (64, .ireturn, 1), (65, .aload_n 3, 1), (66, .getfield 93, 3), (69, .ireturn, 1), (70, .aload_n 3, 1), (71, .getfield 96, 3), (74, .ireturn, 1), (75, .aload_n 3, 1), (76, .getfield 99, 3), (79, .ireturn, 1), (80, .aload_n 3, 1), (81, .getfield 102, 3), (84, .ireturn, 1), (85, .aload_n 3, 1), (86, .invokevirtual 105, 3), (89, .ireturn, 1), (90, .bipush (-2), 2), (92, .ireturn, 1)]
theorem dkX6_ofPass : cv_dk cX6_ofPass tbX6_ofPass = true := by decide +kernel
def tbX6_snow : List (Nat × Instr × Nat) := [(0, .iload_n 1, 1), (1, .invokestatic 108, 3), (4, .ifCond .eq 12, 3), (7, .iload_n 2, 1), (8, .bipush 10, 2), (10, .invokestatic 111, 3), (13, .ifCond .ne 6, 3), (16, .bipush (-2), 2), (18, .ireturn, 1), (19, .aload_n 0, 1), (20, .getfield 21, 3), (23, .getfield 115, 3), (26, .ifCond .ne 6, 3), (29, .bipush (-3), 2), (31, .ireturn, 1), (32, .aload_n 0, 1), (33, .getfield 21, 3), (36, .getfield 119, 3), (39, .iload_n 1, 1), (40, .iaload, 1), (41, .istore_n 3, 1), (42, .aload_n 0, 1), (43, .getfield 21, 3), (46, .getfield 119, 3), (49, .iload_n 1, 1), (50, .iload_n 2, 1), (51, .iastore, 1), (52, .iload_n 3, 1), (53, .ireturn, 1)]
theorem dkX6_snow : cv_dk cX6_snow tbX6_snow = true := by decide +kernel
def tbX6_give : List (Nat × Instr × Nat) := [(0, .iload_n 1, 1), (1, .invokestatic 122, 3), (4, .ifCond .ne 5, 3), (7, .iconst (-1), 1), (8, .ireturn, 1), (9, .iload_n 2, 1), (10, .sipush 256, 3), (13, .invokestatic 111, 3), (16, .ifCond .ne 6, 3), (19, .bipush (-2), 2), (21, .ireturn, 1), (22, .aload_n 0, 1), (23, .getfield 21, 3), (26, .getfield 115, 3), (29, .ifCond .ne 6, 3), (32, .bipush (-3), 2), (34, .ireturn, 1), (35, .aload_n 0, 1), (36, .getfield 21, 3), (39, .getfield 125, 3), (42, .iload_n 1, 1), (43, .iaload, 1), (44, .istore_n 3, 1), (45, .aload_n 0, 1), (46, .getfield 21, 3), (49, .getfield 125, 3), (52, .iload_n 1, 1), (53, .iload_n 2, 1), (54, .iastore, 1), (55, .iload_n 3, 1), (56, .ireturn, 1)]
theorem dkX6_give : cv_dk cX6_give tbX6_give = true := by decide +kernel
def tbX6_open : List (Nat × Instr × Nat) := [(0, .iload_n 1, 1), (1, .invokestatic 108, 3), (4, .ifCond .ne 6, 3), (7, .bipush (-2), 2), (9, .ireturn, 1), (10, .aload_n 0, 1), (11, .getfield 21, 3), (14, .getfield 115, 3), (17, .ifCond .ne 6, 3), (20, .bipush (-3), 2), (22, .ireturn, 1), (23, .iconst 0, 1), (24, .istore_n 2, 1), (25, .iconst 0, 1), (26, .istore_n 3, 1), (27, .iload_n 3, 1), (28, .aload_n 0, 1), (29, .getfield 21, 3), (32, .getfield 78, 3), (35, .if_icmp .ge 39, 3), (38, .aload_n 0, 1), (39, .getfield 21, 3), (42, .getfield 84, 3), (45, .iload_n 3, 1), (46, .aaload, 1), (47, .aload_n 0, 1), (48, .getfield 21, 3), (51, .getfield 119, 3), (54, .iload_n 1, 1), (55, .iaload, 1), (56, .invokevirtual 128, 3), (59, .ifCond .eq 9, 3), (62, .iload_n 2, 1), (63, .iconst 1, 1), (64, .iload_n 3, 1), (65, .ishl, 1), (66, .ior, 1), (67, .istore_n 2, 1), (68, .iinc 3 1, 3), (71, .goto (-44), 3), (74, .iload_n 2, 1), (75, .ireturn, 1)]
theorem dkX6_open : cv_dk cX6_open tbX6_open = true := by decide +kernel
def tbX6_soonest : List (Nat × Instr × Nat) := [(0, .iload_n 1, 1), (1, .invokestatic 108, 3), (4, .ifCond .ne 6, 3), (7, .bipush (-2), 2), (9, .ireturn, 1), (10, .aload_n 0, 1), (11, .getfield 21, 3), (14, .getfield 115, 3), (17, .ifCond .ne 6, 3), (20, .bipush (-3), 2), (22, .ireturn, 1), (23, .aload_n 0, 1), (24, .getfield 21, 3), (27, .iconst (-1), 1), (28, .invokevirtual 131, 3), (31, .aload_n 0, 1), (32, .getfield 21, 3), (35, .iload_n 1, 1), (36, .invokevirtual 135, 3), (39, .ireturn, 1)]
theorem dkX6_soonest : cv_dk cX6_soonest tbX6_soonest = true := by decide +kernel
def tbX6_holes : List (Nat × Instr × Nat) := [(0, .iload_n 1, 1), (1, .invokestatic 108, 3), (4, .ifCond .ne 6, 3), (7, .bipush (-2), 2), (9, .ireturn, 1), (10, .aload_n 0, 1), (11, .getfield 21, 3), (14, .getfield 115, 3), (17, .ifCond .ne 6, 3), (20, .bipush (-3), 2), (22, .ireturn, 1), (23, .aload_n 0, 1), (24, .getfield 21, 3), (27, .iload_n 1, 1), (28, .invokevirtual 138, 3), (31, .ireturn, 1)]
theorem dkX6_holes : cv_dk cX6_holes tbX6_holes = true := by decide +kernel
def tbX6_way : List (Nat × Instr × Nat) := [(0, .aload_n 0, 1), (1, .iconst 0, 1), (2, .putfield 39, 3), (5, .iload_n 1, 1), (6, .invokestatic 108, 3), (9, .ifCond .ne 6, 3), (12, .bipush (-2), 2), (14, .ireturn, 1), (15, .iload_n 2, 1), (16, .invokestatic 43, 3), (19, .ifCond .ne 5, 3), (22, .iconst (-1), 1), (23, .ireturn, 1), (24, .iload_n 3, 1), (25, .invokestatic 47, 3), (28, .ifCond .eq 22, 3), (31, .iload 5, 2), (33, .bipush 21, 2), (35, .invokestatic 111, 3), (38, .ifCond .eq 12, 3), (41, .iload 6, 2), (43, .iconst 5, 1), (44, .invokestatic 111, 3), (47, .ifCond .ne 6, 3), (50, .bipush (-2), 2), (52, .ireturn, 1), (53, .aload_n 0, 1), (54, .getfield 13, 3), (57, .iload_n 2, 1), (58, .aaload, 1), (59, .iload_n 3, 1), (60, .iload 4, 2), (62, .iload 5, 2), (64, .invokevirtual 50, 3), (67, .istore 7, 2), (69, .iload 7, 2), (71, .ifCond .eq 10, 3), (74, .aload_n 0, 1), (75, .iload 7, 2), (77, .invokevirtual 54, 3), (80, .ireturn, 1), (81, .aload_n 0, 1), (82, .getfield 21, 3), (85, .getfield 115, 3), (88, .ifCond .ne 6, 3), (91, .bipush (-3), 2), (93, .ireturn, 1), (94, .aload_n 0, 1), (95, .aload_n 0, 1), (96, .getfield 13, 3), (99, .iload_n 2, 1), (100, .aaload, 1), (101, .getfield 60, 3), (104, .iload 4, 2), (106, .iload 5, 2), (108, .invokevirtual 141, 3), (111, .istore 8, 2), (113, .iload 8, 2), (115, .ifCond .eq 6, 3), (118, .iload 8, 2), (120, .ireturn, 1), (121, .aload_n 0, 1), (122, .getfield 28, 3), (125, .iload_n 1, 1), (126, .invokevirtual 145, 3), (129, .aload_n 0, 1), (130, .aload_n 0, 1), (131, .aload_n 0, 1), (132, .getfield 13, 3), (135, .iload_n 2, 1), (136, .aaload, 1), (137, .getfield 60, 3), (140, .iload 4, 2), (142, .iload 5, 2), (144, .invokevirtual 148, 3), (147, .iload 6, 2), (149, .invokevirtual 151, 3), (152, .ireturn, 1)]
theorem dkX6_way : cv_dk cX6_way tbX6_way = true := by decide +kernel
def tbX6_last : List (Nat × Instr × Nat) := [(0, .iload_n 1, 1), (1, .invokestatic 108, 3), (4, .ifCond .ne 6, 3), (7, .bipush (-2), 2), (9, .ireturn, 1), (10, .aload_n 0, 1), (11, .getfield 21, 3), (14, .getfield 115, 3), (17, .ifCond .ne 6, 3), (20, .bipush (-3), 2), (22, .ireturn, 1), (23, .aload_n 0, 1), (24, .getfield 21, 3), (27, .iconst (-1), 1), (28, .invokevirtual 131, 3), (31, .bipush 7, 2), (33, .istore_n 2, 1), (34, .iload_n 2, 1), (35, .ifCond .lt 41, 3), (38, .aload_n 0, 1), (39, .getfield 21, 3), (42, .iload_n 1, 1), (43, .iload_n 2, 1), (44, .aload_n 0, 1), (45, .getfield 21, 3), (48, .getfield 125, 3), (51, .iconst 1, 1), (52, .iaload, 1), (53, .aload_n 0, 1), (54, .getfield 21, 3), (57, .getfield 125, 3), (60, .iconst 2, 1), (61, .iaload, 1), (62, .invokevirtual 155, 3), (65, .ifCond .eq 5, 3), (68, .iload_n 2, 1), (69, .ireturn, 1), (70, .iinc 2 (-1), 3), (73, .goto (-39), 3), (76, .bipush (-9), 2), (78, .ireturn, 1)]
theorem dkX6_last : cv_dk cX6_last tbX6_last = true := by decide +kernel
def tbX6_safe : List (Nat × Instr × Nat) := [(0, .iload_n 1, 1), (1, .invokestatic 108, 3), (4, .ifCond .ne 6, 3), (7, .bipush (-2), 2), (9, .ireturn, 1), (10, .aload_n 0, 1), (11, .getfield 21, 3), (14, .getfield 115, 3), (17, .ifCond .ne 6, 3), (20, .bipush (-3), 2), (22, .ireturn, 1), (23, .aload_n 0, 1), (24, .getfield 21, 3), (27, .iconst (-1), 1), (28, .invokevirtual 131, 3), (31, .bipush 7, 2), (33, .istore_n 2, 1), (34, .iload_n 2, 1), (35, .ifCond .lt 23, 3), (38, .aload_n 0, 1), (39, .getfield 21, 3), (42, .iload_n 1, 1), (43, .iload_n 2, 1), (44, .invokevirtual 159, 3), (47, .ifCond .eq 5, 3), (50, .iload_n 2, 1), (51, .ireturn, 1), (52, .iinc 2 (-1), 3), (55, .goto (-21), 3), (58, .bipush (-9), 2), (60, .ireturn, 1)]
theorem dkX6_safe : cv_dk cX6_safe tbX6_safe = true := by decide +kernel
def tbX6_hangs : List (Nat × Instr × Nat) := [(0, .iload_n 1, 1), (1, .invokestatic 108, 3), (4, .ifCond .eq 10, 3), (7, .iload_n 2, 1), (8, .invokestatic 108, 3), (11, .ifCond .ne 6, 3), (14, .bipush (-2), 2), (16, .ireturn, 1), (17, .aload_n 0, 1), (18, .getfield 21, 3), (21, .getfield 115, 3), (24, .ifCond .ne 6, 3), (27, .bipush (-3), 2), (29, .ireturn, 1), (30, .aload_n 0, 1), (31, .iconst (-1), 1), (32, .iload_n 1, 1), (33, .iload_n 2, 1), (34, .invokevirtual 162, 3), (37, .ifCond .ne 5, 3), (40, .iconst 0, 1), (41, .ireturn, 1), (42, .iconst 0, 1), (43, .istore_n 3, 1), (44, .iconst 0, 1), (45, .istore 4, 2), (47, .iload 4, 2), (49, .aload_n 0, 1), (50, .getfield 21, 3), (53, .getfield 78, 3), (56, .if_icmp .ge 27, 3), (59, .aload_n 0, 1), (60, .iload 4, 2), (62, .iload_n 1, 1), (63, .iload_n 2, 1), (64, .invokevirtual 162, 3), (67, .ifCond .ne 10, 3), (70, .iload_n 3, 1), (71, .iconst 1, 1), (72, .iload 4, 2), (74, .ishl, 1), (75, .ior, 1), (76, .istore_n 3, 1), (77, .iinc 4 1, 3), (80, .goto (-33), 3), (83, .iload_n 3, 1), (84, .ireturn, 1)]
theorem dkX6_hangs : cv_dk cX6_hangs tbX6_hangs = true := by decide +kernel
def tbX6_peace : List (Nat × Instr × Nat) := [(0, .iload_n 1, 1), (1, .invokestatic 108, 3), (4, .ifCond .eq 10, 3), (7, .iload_n 2, 1), (8, .invokestatic 108, 3), (11, .ifCond .ne 6, 3), (14, .bipush (-2), 2), (16, .ireturn, 1), (17, .aload_n 0, 1), (18, .getfield 21, 3), (21, .getfield 115, 3), (24, .ifCond .ne 6, 3), (27, .bipush (-3), 2), (29, .ireturn, 1), (30, .aload_n 0, 1), (31, .getfield 21, 3), (34, .iconst (-1), 1), (35, .invokevirtual 131, 3), (38, .aload_n 0, 1), (39, .getfield 21, 3), (42, .iload_n 2, 1), (43, .iload_n 1, 1), (44, .invokevirtual 166, 3), (47, .ireturn, 1)]
theorem dkX6_peace : cv_dk cX6_peace tbX6_peace = true := by decide +kernel
def tbX6_reading : List (Nat × Instr × Nat) := [(0, .iload_n 1, 1), (1, .invokestatic 108, 3), (4, .ifCond .eq 16, 3), (7, .iload_n 2, 1), (8, .bipush (-9), 2), (10, .if_icmp .eq 13, 3), (13, .iload_n 2, 1), (14, .invokestatic 108, 3), (17, .ifCond .ne 6, 3), (20, .bipush (-2), 2), (22, .ireturn, 1), (23, .aload_n 0, 1), (24, .getfield 21, 3), (27, .getfield 115, 3), (30, .ifCond .ne 6, 3), (33, .bipush (-3), 2), (35, .ireturn, 1), (36, .aload_n 0, 1), (37, .getfield 35, 3), (40, .getfield 75, 3), (43, .istore_n 3, 1), (44, .iload_n 3, 1), (45, .bipush 8, 2), (47, .if_icmp .lt 6, 3), (50, .bipush (-4), 2), (52, .ireturn, 1), (53, .aload_n 0, 1), (54, .getfield 35, 3), (57, .getfield 169, 3), (60, .iload_n 3, 1), (61, .iload_n 1, 1), (62, .iastore, 1), (63, .aload_n 0, 1), (64, .getfield 35, 3), (67, .getfield 172, 3), (70, .iload_n 3, 1), (71, .iload_n 2, 1), (72, .iastore, 1), (73, .aload_n 0, 1), (74, .getfield 35, 3), (77, .iload_n 3, 1), (78, .iconst 1, 1), (79, .iadd, 1), (80, .putfield 75, 3), (83, .iload_n 3, 1), (84, .ireturn, 1)]
theorem dkX6_reading : cv_dk cX6_reading tbX6_reading = true := by decide +kernel
def tbX6_back : List (Nat × Instr × Nat) := [(0, .iload_n 1, 1), (1, .ifCond .lt 14, 3), (4, .iload_n 1, 1), (5, .aload_n 0, 1), (6, .getfield 35, 3), (9, .getfield 75, 3), (12, .if_icmp .le 6, 3), (15, .bipush (-2), 2), (17, .ireturn, 1), (18, .aload_n 0, 1), (19, .getfield 35, 3), (22, .dup, 1), (23, .getfield 75, 3), (26, .iload_n 1, 1), (27, .isub, 1), (28, .putfield 75, 3), (31, .aload_n 0, 1), (32, .getfield 35, 3), (35, .getfield 75, 3), (38, .ireturn, 1)]
theorem dkX6_back : cv_dk cX6_back tbX6_back = true := by decide +kernel
end
section
def tbX6_snows : List (Nat × Instr × Nat) := [(0, .iload_n 1, 1), (1, .invokestatic 108, 3), (4, .ifCond .ne 6, 3), (7, .bipush (-2), 2), (9, .ireturn, 1), (10, .aload_n 0, 1), (11, .getfield 21, 3), (14, .getfield 115, 3), (17, .ifCond .ne 6, 3), (20, .bipush (-3), 2), (22, .ireturn, 1), (23, .aload_n 0, 1), (24, .getfield 21, 3), (27, .getfield 119, 3), (30, .iload_n 1, 1), (31, .iaload, 1), (32, .istore_n 2, 1), (33, .iconst 0, 1), (34, .istore_n 3, 1), (35, .iconst 0, 1), (36, .istore 4, 2), (38, .iload 4, 2), (40, .bipush 10, 2), (42, .if_icmp .ge 29, 3), (45, .aload_n 0, 1), (46, .getfield 21, 3), (49, .getfield 119, 3), (52, .iload_n 1, 1), (53, .iload 4, 2), (55, .iastore, 1), (56, .iload_n 3, 1), (57, .aload_n 0, 1), (58, .iload 4, 2), (60, .invokevirtual 175, 3), (63, .ior, 1), (64, .istore_n 3, 1), (65, .iinc 4 1, 3), (68, .goto (-30), 3), (71, .aload_n 0, 1), (72, .getfield 21, 3), (75, .getfield 119, 3), (78, .iload_n 1, 1), (79, .iload_n 2, 1), (80, .iastore, 1), (81, .iload_n 3, 1), (82, .ireturn, 1)]
theorem dkX6_snows : cv_dk cX6_snows tbX6_snows = true := by decide +kernel
def tbX6_heights : List (Nat × Instr × Nat) := [(0, .aload_n 0, 1), (1, .iload_n 1, 1), (2, .invokevirtual 81, 3), (5, .ifCond .ne 5, 3), (8, .iconst (-1), 1), (9, .ireturn, 1), (10, .aload_n 0, 1), (11, .getfield 21, 3), (14, .getfield 84, 3), (17, .iload_n 1, 1), (18, .aaload, 1), (19, .astore_n 2, 1), (20, .aload_n 2, 1), (21, .getfield 102, 3), (24, .istore_n 3, 1), (25, .iconst 0, 1), (26, .istore 4, 2), (28, .iconst 0, 1), (29, .istore 5, 2), (31, .iload 5, 2), (33, .bipush 10, 2), (35, .if_icmp .ge 26, 3), (38, .aload_n 2, 1), (39, .iload 5, 2), (41, .putfield 102, 3), (44, .iload 4, 2), (46, .aload_n 0, 1), (47, .iload 5, 2), (49, .invokevirtual 175, 3), (52, .ior, 1), (53, .istore 4, 2), (55, .iinc 5 1, 3), (58, .goto (-27), 3), (61, .aload_n 2, 1), (62, .iload_n 3, 1), (63, .putfield 102, 3), (66, .iload 4, 2), (68, .ireturn, 1)]
theorem dkX6_heights : cv_dk cX6_heights tbX6_heights = true := by decide +kernel
def tbX6_kinds : List (Nat × Instr × Nat) := [(0, .aload_n 0, 1), (1, .iload_n 1, 1), (2, .invokevirtual 81, 3), (5, .ifCond .ne 5, 3), (8, .iconst (-1), 1), (9, .ireturn, 1), (10, .aload_n 0, 1), (11, .getfield 21, 3), (14, .getfield 84, 3), (17, .iload_n 1, 1), (18, .aaload, 1), (19, .astore_n 2, 1), (20, .aload_n 2, 1), (21, .getfield 88, 3), (24, .istore_n 3, 1), (25, .iconst 0, 1), (26, .istore 4, 2), (28, .iconst 0, 1), (29, .istore 5, 2), (31, .iload 5, 2), (33, .iconst 3, 1), (34, .if_icmp .ge 26, 3), (37, .aload_n 2, 1), (38, .iload 5, 2), (40, .putfield 88, 3), (43, .iload 4, 2), (45, .aload_n 0, 1), (46, .iload 5, 2), (48, .invokevirtual 175, 3), (51, .ior, 1), (52, .istore 4, 2), (54, .iinc 5 1, 3), (57, .goto (-26), 3), (60, .aload_n 2, 1), (61, .iload_n 3, 1), (62, .putfield 88, 3), (65, .iload 4, 2), (67, .ireturn, 1)]
theorem dkX6_kinds : cv_dk cX6_kinds tbX6_kinds = true := by decide +kernel
def tbX6_gave : List (Nat × Instr × Nat) := [(0, .iload_n 1, 1), (1, .invokestatic 122, 3), (4, .ifCond .ne 5, 3), (7, .iconst (-1), 1), (8, .ireturn, 1), (9, .iload_n 2, 1), (10, .iconst 2, 1), (11, .invokestatic 111, 3), (14, .ifCond .ne 6, 3), (17, .bipush (-2), 2), (19, .ireturn, 1), (20, .aload_n 0, 1), (21, .getfield 21, 3), (24, .getfield 115, 3), (27, .ifCond .ne 6, 3), (30, .bipush (-3), 2), (32, .ireturn, 1), (33, .aload_n 0, 1), (34, .getfield 21, 3), (37, .iconst (-1), 1), (38, .invokevirtual 131, 3), (41, .aload_n 0, 1), (42, .getfield 21, 3), (45, .getfield 125, 3), (48, .iload_n 1, 1), (49, .iaload, 1), (50, .istore_n 3, 1), (51, .iconst 0, 1), (52, .istore 4, 2), (54, .bipush (-9), 2), (56, .istore 5, 2), (58, .sipush 255, 3), (61, .istore 6, 2), (63, .iload 6, 2), (65, .ifCond .lt 41, 3), (68, .aload_n 0, 1), (69, .getfield 21, 3), (72, .getfield 125, 3), (75, .iload_n 1, 1), (76, .iload 6, 2), (78, .iastore, 1), (79, .aload_n 0, 1), (80, .getfield 35, 3), (83, .aload_n 0, 1), (84, .getfield 21, 3), (87, .invokevirtual 178, 3), (90, .ifCond .eq 10, 3), (93, .iinc 4 1, 3), (96, .iload 6, 2), (98, .istore 5, 2), (100, .iinc 6 (-1), 3), (103, .goto (-40), 3), (106, .aload_n 0, 1), (107, .getfield 21, 3), (110, .getfield 125, 3), (113, .iload_n 1, 1), (114, .iload_n 3, 1), (115, .iastore, 1), (116, .iload_n 2, 1), (117, .ifCond .ne 8, 3), (120, .iload 4, 2), (122, .goto 5, 3), (125, .iload 5, 2), (127, .ireturn, 1)]
theorem dkX6_gave : cv_dk cX6_gave tbX6_gave = true := by decide +kernel
def tbX6_odds : List (Nat × Instr × Nat) := [(0, .iload_n 1, 1), (1, .iconst 1, 1), (2, .if_icmp .eq 8, 3), (5, .iload_n 1, 1), (6, .iconst 2, 1), (7, .if_icmp .ne 7, 3), (10, .iconst 1, 1), (11, .goto 4, 3), (14, .iconst 0, 1), (15, .istore 5, 2), (17, .iload 5, 2), (19, .ifCond .eq 36, 3), (22, .iload_n 2, 1), (23, .invokestatic 108, 3), (26, .ifCond .eq 29, 3), (29, .iload_n 3, 1), (30, .invokestatic 108, 3), (33, .ifCond .eq 22, 3), (36, .iload 4, 2), (38, .iconst 2, 1), (39, .invokestatic 111, 3), (42, .ifCond .eq 13, 3), (45, .aload_n 0, 1), (46, .getfield 21, 3), (49, .getfield 115, 3), (52, .ifCond .ne 7, 3), (55, .ldc2_w 182, 3), (58, .lreturn, 1), (59, .aload_n 0, 1), (60, .getfield 21, 3), (63, .iconst (-1), 1), (64, .invokevirtual 131, 3), (67, .aload_n 0, 1), (68, .getfield 21, 3), (71, .iload_n 3, 1), (72, .iload_n 2, 1), (73, .iload_n 1, 1), (74, .invokevirtual 184, 3), (77, .istore 6, 2), (79, .iconst 1, 1), (80, .aload_n 0, 1), (81, .getfield 21, 3), (84, .getfield 125, 3), (87, .iload_n 1, 1), (88, .iaload, 1), (89, .invokestatic 187, 3), (92, .ishl, 1), (93, .istore 7, 2), (95, .iload 7, 2), (97, .iconst 1, 1), (98, .if_icmp .le 25, 3), (101, .iload 6, 2), (103, .iconst 2, 1), (104, .irem, 1), (105, .ifCond .ne 18, 3), (108, .iload 6, 2), (110, .iconst 2, 1), (111, .idiv, 1), (112, .istore 6, 2), (114, .iload 7, 2), (116, .iconst 2, 1), (117, .idiv, 1), (118, .istore 7, 2), (120, .goto (-25), 3), (123, .iload 4, 2), (125, .ifCond .ne 9, 3), (128, .iload 6, 2), (130, .i2l, 1), (131, .goto 6, 3), (134, .iload 7, 2), (136, .i2l, 1), (137, .lreturn, 1)]
theorem dkX6_odds : cv_dk cX6_odds tbX6_odds = true := by decide +kernel
def tbX6_sheet : List (Nat × Instr × Nat) := [(0, .aload_n 0, 1), (1, .iconst 0, 1), (2, .putfield 39, 3), (5, .iload_n 1, 1), (6, .invokestatic 43, 3), (9, .ifCond .ne 5, 3), (12, .iconst (-1), 1), (13, .ireturn, 1), (14, .iload_n 2, 1), (15, .invokestatic 47, 3), (18, .ifCond .eq 9, 3), (21, .iload_n 3, 1), (22, .bipush 60, 2), (24, .if_icmp .le 6, 3), (27, .bipush (-2), 2), (29, .ireturn, 1), (30, .iload_n 3, 1), (31, .ifCond .ge 9, 3), (34, .aload_n 0, 1), (35, .iconst 4, 1), (36, .invokevirtual 54, 3), (39, .ireturn, 1), (40, .aload_n 0, 1), (41, .getfield 13, 3), (44, .iload_n 1, 1), (45, .aaload, 1), (46, .iload_n 2, 1), (47, .iload_n 3, 1), (48, .invokevirtual 192, 3), (51, .iconst 1, 1), (52, .ireturn, 1)]
theorem dkX6_sheet : cv_dk cX6_sheet tbX6_sheet = true := by decide +kernel
def tbX6_lose : List (Nat × Instr × Nat) := [(0, .iload_n 1, 1), (1, .invokestatic 43, 3), (4, .ifCond .ne 5, 3), (7, .iconst (-1), 1), (8, .ireturn, 1), (9, .aload_n 0, 1), (10, .getfield 13, 3), (13, .iload_n 1, 1), (14, .aaload, 1), (15, .invokevirtual 196, 3), (18, .ifCond .eq 7, 3), (21, .iconst 0, 1), (22, .goto 4, 3), (25, .iconst 1, 1), (26, .istore_n 2, 1), (27, .aload_n 0, 1), (28, .getfield 13, 3), (31, .iload_n 1, 1), (32, .aaload, 1), (33, .iconst (-1), 1), (34, .iconst 0, 1), (35, .invokevirtual 192, 3), (38, .iload_n 2, 1), (39, .ireturn, 1)]
theorem dkX6_lose : cv_dk cX6_lose tbX6_lose = true := by decide +kernel
def tbX6_put : List (Nat × Instr × Nat) := [(0, .aload_n 0, 1), (1, .iconst 0, 1), (2, .putfield 39, 3), (5, .iload_n 1, 1), (6, .invokestatic 43, 3), (9, .ifCond .ne 5, 3), (12, .iconst (-1), 1), (13, .ireturn, 1), (14, .aload_n 0, 1), (15, .getfield 13, 3), (18, .iload_n 1, 1), (19, .aaload, 1), (20, .astore 4, 2), (22, .aload 4, 2), (24, .aload 4, 2), (26, .getfield 200, 3), (29, .iload_n 2, 1), (30, .iconst 1, 1), (31, .invokevirtual 50, 3), (34, .istore 5, 2), (36, .iload 5, 2), (38, .ifCond .eq 10, 3), (41, .aload_n 0, 1), (42, .iload 5, 2), (44, .invokevirtual 54, 3), (47, .ireturn, 1), (48, .aload 4, 2), (50, .getfield 60, 3), (53, .iload_n 2, 1), (54, .aload 4, 2), (56, .iload_n 3, 1), (57, .invokevirtual 203, 3), (60, .iastore, 1), (61, .iconst 1, 1), (62, .ireturn, 1)]
theorem dkX6_put : cv_dk cX6_put tbX6_put = true := by decide +kernel
def tbX6_cell : List (Nat × Instr × Nat) := [(0, .aload_n 0, 1), (1, .iconst 0, 1), (2, .putfield 39, 3), (5, .iload_n 1, 1), (6, .invokestatic 43, 3), (9, .ifCond .eq 10, 3), (12, .iload_n 3, 1), (13, .invokestatic 47, 3), (16, .ifCond .ne 7, 3), (19, .ldc2_w 182, 3), (22, .lreturn, 1), (23, .aload_n 0, 1), (24, .getfield 13, 3), (27, .iload_n 1, 1), (28, .aaload, 1), (29, .iload_n 3, 1), (30, .iload_n 2, 1), (31, .iconst 1, 1), (32, .invokevirtual 50, 3), (35, .istore 4, 2), (37, .iload 4, 2), (39, .ifCond .eq 13, 3), (42, .aload_n 0, 1), (43, .iload 4, 2), (45, .putfield 39, 3), (48, .ldc2_w 182, 3), (51, .lreturn, 1), (52, .aload_n 0, 1), (53, .getfield 13, 3), (56, .iload_n 1, 1), (57, .aaload, 1), (58, .getfield 60, 3), (61, .iload_n 2, 1), (62, .iaload, 1), (63, .i2l, 1), (64, .lreturn, 1)]
theorem dkX6_cell : cv_dk cX6_cell tbX6_cell = true := by decide +kernel
def tbX6_copy : List (Nat × Instr × Nat) := [(0, .aload_n 0, 1), (1, .iconst 0, 1), (2, .putfield 39, 3), (5, .iload_n 1, 1), (6, .invokestatic 43, 3), (9, .ifCond .eq 10, 3), (12, .iload_n 3, 1), (13, .invokestatic 43, 3), (16, .ifCond .ne 5, 3), (19, .iconst (-1), 1), (20, .ireturn, 1), (21, .aload_n 0, 1), (22, .getfield 13, 3), (25, .iload_n 1, 1), (26, .aaload, 1), (27, .astore 6, 2), (29, .aload_n 0, 1), (30, .getfield 13, 3), (33, .iload_n 3, 1), (34, .aaload, 1), (35, .astore 7, 2), (37, .aload 6, 2), (39, .invokevirtual 196, 3), (42, .ifCond .ne 11, 3), (45, .aload 7, 2), (47, .invokevirtual 196, 3), (50, .ifCond .eq 9, 3), (53, .aload_n 0, 1), (54, .iconst 1, 1), (55, .invokevirtual 54, 3), (58, .ireturn, 1), (59, .aload 6, 2), (61, .getfield 200, 3), (64, .aload 7, 2), (66, .getfield 200, 3), (69, .if_icmp .eq 9, 3), (72, .aload_n 0, 1), (73, .iconst 2, 1), (74, .invokevirtual 54, 3), (77, .ireturn, 1), (78, .aload 6, 2), (80, .iload_n 2, 1), (81, .iload 5, 2), (83, .invokevirtual 206, 3), (86, .ifCond .eq 15, 3), (89, .aload 7, 2), (91, .iload 4, 2), (93, .iload 5, 2), (95, .invokevirtual 206, 3), (98, .ifCond .ne 9, 3), (101, .aload_n 0, 1), (102, .iconst 3, 1), (103, .invokevirtual 54, 3), (106, .ireturn, 1), (107, .aload 6, 2), (109, .getfield 60, 3), (112, .iload_n 2, 1), (113, .aload 7, 2), (115, .getfield 60, 3), (118, .iload 4, 2), (120, .iload 5, 2), (122, .invokestatic 209, 3), (125, .iload 5, 2), (127, .ireturn, 1)]
theorem dkX6_copy : cv_dk cX6_copy tbX6_copy = true := by decide +kernel
def tbX6_tell : List (Nat × Instr × Nat) := [(0, .aload_n 0, 1), (1, .iload_n 1, 1), (2, .invokevirtual 81, 3), (5, .ifCond .ne 5, 3), (8, .iconst (-1), 1), (9, .ireturn, 1), (10, .aload_n 0, 1), (11, .getfield 21, 3), (14, .getfield 84, 3), (17, .iload_n 1, 1), (18, .aaload, 1), (19, .astore_n 2, 1), (20, .aload_n 2, 1), (21, .getfield 88, 3), (24, .lookupswitch 40 #[(1, 28), (2, 34)], 28), (52, .aload_n 0, 1), (53, .aload_n 2, 1), (54, .invokevirtual 215, 3), (57, .ireturn, 1), (58, .aload_n 0, 1), (59, .aload_n 2, 1), (60, .invokevirtual 219, 3), (63, .ireturn, 1), (64, .aload_n 0, 1), (65, .aload_n 2, 1), (66, .invokevirtual 222, 3), (69, .ireturn, 1)]
theorem dkX6_tell : cv_dk cX6_tell tbX6_tell = true := by decide +kernel
def tbX6_mark : List (Nat × Instr × Nat) := [(0, .aload_n 0, 1), (1, .iload_n 1, 1), (2, .invokevirtual 81, 3), (5, .ifCond .ne 5, 3), (8, .iconst (-1), 1), (9, .ireturn, 1), (10, .aload_n 0, 1), (11, .getfield 21, 3), (14, .getfield 84, 3), (17, .iload_n 1, 1), (18, .aaload, 1), (19, .getfield 88, 3), (22, .iconst 2, 1), (23, .if_icmp .ne 11, 3), (26, .aload_n 0, 1), (27, .iconst 5, 1), (28, .invokevirtual 225, 3), (31, .bipush 80, 2), (33, .ireturn, 1), (34, .aload_n 0, 1), (35, .iconst 4, 1), (36, .invokevirtual 225, 3), (39, .iload_n 1, 1), (40, .ireturn, 1)]
theorem dkX6_mark : cv_dk cX6_mark tbX6_mark = true := by decide +kernel
def tbX6_as : List (Nat × Instr × Nat) := [(0, .aload_n 0, 1), (1, .iconst 0, 1), (2, .putfield 39, 3), (5, .aload_n 0, 1), (6, .iload_n 1, 1), (7, .invokevirtual 81, 3), (10, .ifCond .ne 5, 3), (13, .iconst (-1), 1), (14, .ireturn, 1), (15, .iload_n 2, 1), (16, .iconst 3, 1), (17, .invokestatic 111, 3), (20, .ifCond .ne 6, 3), (23, .bipush (-2), 2), (25, .ireturn, 1), (26, .aload_n 0, 1), (27, .getfield 21, 3), (30, .getfield 84, 3), (33, .iload_n 1, 1), (34, .aaload, 1), (35, .getfield 88, 3), (38, .iload_n 2, 1), (39, .if_icmp .ge 11, 3), (42, .aload_n 0, 1), (43, .iconst 2, 1), (44, .invokevirtual 54, 3), (47, .goto 4, 3), (50, .iconst 1, 1), (51, .ireturn, 1)]
theorem dkX6_as : cv_dk cX6_as tbX6_as = true := by decide +kernel
def tbX6_trace : List (Nat × Instr × Nat) := [(0, .aload_n 0, 1), (1, .getfield 228, 3), (4, .ireturn, 1)]
theorem dkX6_trace : cv_dk cX6_trace tbX6_trace = true := by decide +kernel
def tbX6_fault : List (Nat × Instr × Nat) := [(0, .aload_n 0, 1), (1, .getfield 39, 3), (4, .ireturn, 1)]
theorem dkX6_fault : cv_dk cX6_fault tbX6_fault = true := by decide +kernel
def tbX6_many : List (Nat × Instr × Nat) := [(0, .iload_n 1, 1), (1, .tableswitch 76 0 2 #[27, 35, 68], 27), (28, .aload_n 0, 1), (29, .getfield 21, 3), (32, .getfield 78, 3), (35, .ireturn, 1), (36, .aload_n 0, 1), (37, .getfield 21, 3), (40, .getfield 125, 3), (43, .iconst 0, 1), (44, .iaload, 1), (45, .aload_n 0, 1), (46, .getfield 21, 3), (49, .getfield 125, 3), (52, .iconst 1, 1), (53, .iaload, 1), (54, .iand, 1), (55, .aload_n 0, 1), (56, .getfield 21, 3), (59, .getfield 125, 3), (62, .iconst 2, 1), (63, .iaload, 1), (64, .iand, 1), (65, .invokestatic 187, 3), (68, .ireturn, 1), (69, .aload_n 0, 1), (70, .getfield 35, 3), (73, .getfield 75, 3), (76, .ireturn, 1), (77, .bipush (-2), 2), (79, .ireturn, 1)]
theorem dkX6_many : cv_dk cX6_many tbX6_many = true := by decide +kernel
def tbX6_isBelow : List (Nat × Instr × Nat) := [(0, .iload_n 0, 1), (1, .ifCond .lt 12, 3), (4, .iload_n 0, 1), (5, .iload_n 1, 1), (6, .if_icmp .ge 7, 3), (9, .iconst 1, 1), (10, .goto 4, 3), (13, .iconst 0, 1), (14, .ireturn, 1)]
theorem dkX6_isBelow : cv_dk cX6_isBelow tbX6_isBelow = true := by decide +kernel
def tbX6_isDay : List (Nat × Instr × Nat) := [(0, .iload_n 0, 1), (1, .bipush 8, 2), (3, .invokestatic 111, 3), (6, .ireturn, 1)]
theorem dkX6_isDay : cv_dk cX6_isDay tbX6_isDay = true := by decide +kernel
def tbX6_isValley : List (Nat × Instr × Nat) := [(0, .iload_n 0, 1), (1, .iconst 3, 1), (2, .invokestatic 111, 3), (5, .ireturn, 1)]
theorem dkX6_isValley : cv_dk cX6_isValley tbX6_isValley = true := by decide +kernel
def tbX6_isSheet : List (Nat × Instr × Nat) := [(0, .iload_n 0, 1), (1, .iconst 4, 1), (2, .invokestatic 111, 3), (5, .ireturn, 1)]
theorem dkX6_isSheet : cv_dk cX6_isSheet tbX6_isSheet = true := by decide +kernel
def tbX6_isLane : List (Nat × Instr × Nat) := [(0, .iload_n 0, 1), (1, .iconst 3, 1), (2, .invokestatic 111, 3), (5, .ireturn, 1)]
theorem dkX6_isLane : cv_dk cX6_isLane tbX6_isLane = true := by decide +kernel
def tbX6_isPass : List (Nat × Instr × Nat) := [(0, .iload_n 1, 1), (1, .aload_n 0, 1), (2, .getfield 21, 3), (5, .getfield 78, 3), (8, .invokestatic 111, 3), (11, .ireturn, 1)]
theorem dkX6_isPass : cv_dk cX6_isPass tbX6_isPass = true := by decide +kernel
def tbX6_hasDay : List (Nat × Instr × Nat) := [(0, .iload_n 0, 1), (1, .iload_n 1, 1), (2, .ishr, 1), (3, .iconst 1, 1), (4, .iand, 1), (5, .ifCond .eq 7, 3), (8, .iconst 1, 1), (9, .goto 4, 3), (12, .iconst 0, 1), (13, .ireturn, 1)]
theorem dkX6_hasDay : cv_dk cX6_hasDay tbX6_hasDay = true := by decide +kernel
def tbX6_failed : List (Nat × Instr × Nat) := [(0, .aload_n 0, 1), (1, .iload_n 1, 1), (2, .putfield 39, 3), (5, .bipush (-10), 2), (7, .iload_n 1, 1), (8, .isub, 1), (9, .ireturn, 1)]
theorem dkX6_failed : cv_dk cX6_failed tbX6_failed = true := by decide +kernel
def tbX6_refusalOfSteps : List (Nat × Instr × Nat) := [(0, .iconst 0, 1), (1, .istore 4, 2), (3, .iload 4, 2), (5, .iload_n 3, 1), (6, .if_icmp .ge 50, 3), (9, .aload_n 1, 1), (10, .iload_n 2, 1), (11, .iload 4, 2), (13, .iadd, 1), (14, .iaload, 1), (15, .istore 5, 2), (17, .iload 5, 2), (19, .ifCond .lt 10, 3), (22, .iload 5, 2), (24, .bipush 8, 2), (26, .if_icmp .le 6, 3), (29, .bipush (-2), 2), (31, .ireturn, 1), (32, .iload 5, 2), (34, .bipush 6, 2), (36, .if_icmp .ge 14, 3), (39, .aload_n 0, 1), (40, .iload 5, 2), (42, .invokevirtual 81, 3), (45, .ifCond .ne 5, 3), (48, .iconst (-1), 1), (49, .ireturn, 1), (50, .iinc 4 1, 3), (53, .goto (-50), 3), (56, .iconst 0, 1), (57, .ireturn, 1)]
theorem dkX6_refusalOfSteps : cv_dk cX6_refusalOfSteps tbX6_refusalOfSteps = true := by decide +kernel
def tbX6_firstWrong : List (Nat × Instr × Nat) := [(0, .aload_n 0, 1), (1, .getfield 21, 3), (4, .getfield 125, 3), (7, .iconst 0, 1), (8, .iaload, 1), (9, .aload_n 0, 1), (10, .getfield 28, 3), (13, .getfield 231, 3), (16, .invokestatic 234, 3), (19, .istore 4, 2), (21, .iconst 0, 1), (22, .istore 5, 2), (24, .iload 5, 2), (26, .iload_n 3, 1), (27, .if_icmp .ge 37, 3), (30, .iload 4, 2), (32, .ifCond .eq 23, 3), (35, .aload_n 0, 1), (36, .getfield 28, 3), (39, .aload_n 1, 1), (40, .iload_n 2, 1), (41, .iload 5, 2), (43, .iadd, 1), (44, .iaload, 1), (45, .aload_n 0, 1), (46, .getfield 21, 3), (49, .invokevirtual 237, 3), (52, .ifCond .ne 6, 3), (55, .iload 5, 2), (57, .ireturn, 1), (58, .iinc 5 1, 3), (61, .goto (-37), 3), (64, .bipush (-9), 2), (66, .ireturn, 1)]
theorem dkX6_firstWrong : cv_dk cX6_firstWrong tbX6_firstWrong = true := by decide +kernel
def tbX6_ofWay : List (Nat × Instr × Nat) := [(0, .iload_n 2, 1), (1, .iconst 1, 1), (2, .if_icmp .ne 5, 3), (5, .iload_n 1, 1), (6, .ireturn, 1), (7, .iload_n 1, 1), (8, .bipush (-9), 2), (10, .if_icmp .eq 8, 3), (13, .bipush (-100), 2), (15, .iload_n 1, 1), (16, .isub, 1), (17, .ireturn, 1), (18, .iload_n 2, 1), (19, .tableswitch 53 0 3 #[29, 53, 37, 45], 29), (48, .aload_n 0, 1), (49, .getfield 28, 3), (52, .getfield 231, 3), (55, .ireturn, 1), (56, .aload_n 0, 1), (57, .getfield 28, 3), (60, .getfield 241, 3), (63, .ireturn, 1), (64, .aload_n 0, 1), (65, .getfield 28, 3), (68, .getfield 244, 3), (71, .ireturn, 1), (72, .aload_n 0, 1), (73, .getfield 28, 3), (76, .getfield 247, 3), (79, .ireturn, 1)]
theorem dkX6_ofWay : cv_dk cX6_ofWay tbX6_ofWay = true := by decide +kernel
def tbX6_canWithout : List (Nat × Instr × Nat) := [(0, .aload_n 0, 1), (1, .getfield 21, 3), (4, .iload_n 1, 1), (5, .invokevirtual 131, 3), (8, .aload_n 0, 1), (9, .getfield 21, 3), (12, .iload_n 3, 1), (13, .iload_n 2, 1), (14, .aload_n 0, 1), (15, .getfield 21, 3), (18, .getfield 125, 3), (21, .iconst 1, 1), (22, .iaload, 1), (23, .aload_n 0, 1), (24, .getfield 21, 3), (27, .getfield 125, 3), (30, .iconst 2, 1), (31, .iaload, 1), (32, .invokevirtual 155, 3), (35, .ireturn, 1)]
theorem dkX6_canWithout : cv_dk cX6_canWithout tbX6_canWithout = true := by decide +kernel
def tbX6_bitIfReadingsHold : List (Nat × Instr × Nat) := [(0, .aload_n 0, 1), (1, .getfield 21, 3), (4, .iconst (-1), 1), (5, .invokevirtual 131, 3), (8, .aload_n 0, 1), (9, .getfield 35, 3), (12, .aload_n 0, 1), (13, .getfield 21, 3), (16, .invokevirtual 178, 3), (19, .ifCond .eq 9, 3), (22, .iconst 1, 1), (23, .iload_n 1, 1), (24, .ishl, 1), (25, .goto 4, 3), (28, .iconst 0, 1), (29, .ireturn, 1)]
theorem dkX6_bitIfReadingsHold : cv_dk cX6_bitIfReadingsHold tbX6_bitIfReadingsHold = true := by decide +kernel
def tbX6_leave : List (Nat × Instr × Nat) := [(0, .aload_n 0, 1), (1, .bipush 31, 2), (3, .aload_n 0, 1), (4, .getfield 228, 3), (7, .imul, 1), (8, .iload_n 1, 1), (9, .iadd, 1), (10, .putfield 228, 3), (13, .return_, 1)]
theorem dkX6_leave : cv_dk cX6_leave tbX6_leave = true := by decide +kernel
def tbX6_passTelling : List (Nat × Instr × Nat) := [(0, .aload_n 0, 1), (1, .iconst 1, 1), (2, .invokevirtual 225, 3), (5, .aload_n 1, 1), (6, .getfield 102, 3), (9, .ireturn, 1)]
theorem dkX6_passTelling : cv_dk cX6_passTelling tbX6_passTelling = true := by decide +kernel
def tbX6_steepTelling : List (Nat × Instr × Nat) := [(0, .aload_n 0, 1), (1, .iconst 2, 1), (2, .invokevirtual 225, 3), (5, .aload_n 0, 1), (6, .aload_n 1, 1), (7, .invokevirtual 222, 3), (10, .bipush 100, 2), (12, .iadd, 1), (13, .ireturn, 1)]
theorem dkX6_steepTelling : cv_dk cX6_steepTelling tbX6_steepTelling = true := by decide +kernel
def tbX6_tunnelTelling : List (Nat × Instr × Nat) := [(0, .aload_n 0, 1), (1, .iconst 3, 1), (2, .invokevirtual 225, 3), (5, .aload_n 0, 1), (6, .aload_n 1, 1), (7, .invokevirtual 215, 3), (10, .istore_n 2, 1), (11, .iload_n 2, 1), (12, .aload_n 0, 1), (13, .aload_n 1, 1), (14, .invokevirtual 222, 3), (17, .iadd, 1), (18, .ireturn, 1)]
theorem dkX6_tunnelTelling : cv_dk cX6_tunnelTelling tbX6_tunnelTelling = true := by decide +kernel
def tbX7_init : List (Nat × Instr × Nat) := [(0, .aload_n 0, 1), (1, .invokespecial 1, 3), (4, .aload_n 0, 1), (5, .iconst 4, 1), (6, .newarray .int, 2), (8, .dup, 1), (9, .iconst 0, 1), (10, .bipush (-9), 2), (12, .iastore, 1), (13, .dup, 1), (14, .iconst 1, 1), (15, .bipush (-9), 2), (17, .iastore, 1), (18, .dup, 1), (19, .iconst 2, 1), (20, .bipush (-9), 2), (22, .iastore, 1), (23, .dup, 1), (24, .iconst 3, 1), (25, .bipush (-9), 2), (27, .iastore, 1), (28, .putfield 9, 3), (31, .aload_n 0, 1), (32, .iconst 4, 1), (33, .newarray .int, 2), (35, .putfield 13, 3), (38, .aload_n 0, 1), (39, .sipush 240, 3), (42, .newarray .int, 2), (44, .putfield 16, 3), (47, .aload_n 0, 1), (48, .bipush 8, 2), (50, .newarray .int, 2), (52, .putfield 19, 3), (55, .aload_n 0, 1), (56, .iconst 3, 1), (57, .newarray .int, 2), (59, .putfield 22, 3), (62, .aload_n 0, 1), (63, .bipush 6, 2), (65, .newarray .int, 2), (67, .putfield 25, 3), (70, .aload_n 0, 1), (71, .bipush 6, 2), (73, .newarray .int, 2), (75, .putfield 28, 3), (78, .aload_n 0, 1), (79, .bipush 6, 2), (81, .newarray .int, 2), (83, .putfield 31, 3), (86, .aload_n 0, 1), (87, .bipush 6, 2), (89, .newarray .int, 2), (91, .putfield 34, 3), (94, .aload_n 0, 1), (95, .bipush 6, 2), (97, .newarray .int, 2), (99, .putfield 37, 3), (102, .aload_n 0, 1), (103, .bipush (-9), 2), (105, .putfield 40, 3), (108, .aload_n 0, 1), (109, .bipush 8, 2), (111, .newarray .int, 2), (113, .putfield 44, 3), (116, .aload_n 0, 1), (117, .iconst 3, 1), (118, .newarray .int, 2), (120, .putfield 47, 3), (123, .aload_n 0, 1), (124, .bipush 30, 2), (126, .newarray .int, 2), (128, .putfield 50, 3), (131, .aload_n 0, 1), (132, .bipush 48, 2), (134, .newarray .int, 2), (136, .putfield 53, 3), (139, .aload_n 0, 1), (140, .bipush 8, 2), (142, .newarray .int, 2), (144, .putfield 56, 3), (147, .aload_n 0, 1), (148, .bipush 8, 2), (150, .newarray .int, 2), (152, .putfield 59, 3), (155, .return_, 1)]
theorem dkX7_init : cv_dk cX7_init tbX7_init = true := by decide +kernel
def tbX7_fails : List (Nat × Instr × Nat) := [(0, .aload_n 0, 1), (1, .iload_n 1, 1), (2, .putfield 62, 3), (5, .bipush (-10), 2), (7, .iload_n 1, 1), (8, .isub, 1), (9, .ireturn, 1)]
theorem dkX7_fails : cv_dk cX7_fails tbX7_fails = true := by decide +kernel
def tbX7_lost : List (Nat × Instr × Nat) := [(0, .aload_n 0, 1), (1, .iload_n 1, 1), (2, .putfield 62, 3), (5, .ldc2_w 65, 3), (8, .lreturn, 1)]
theorem dkX7_lost : cv_dk cX7_lost tbX7_lost = true := by decide +kernel
def tbX7_within : List (Nat × Instr × Nat) := [(0, .iload_n 0, 1), (1, .iload_n 1, 1), (2, .if_icmp .lt 12, 3), (5, .iload_n 0, 1), (6, .iload_n 2, 1), (7, .if_icmp .gt 7, 3), (10, .iconst 1, 1), (11, .goto 4, 3), (14, .iconst 0, 1), (15, .ireturn, 1)]
theorem dkX7_within : cv_dk cX7_within tbX7_within = true := by decide +kernel
def tbX7_isSheet : List (Nat × Instr × Nat) := [(0, .iload_n 0, 1), (1, .iconst 0, 1), (2, .iconst 3, 1), (3, .invokestatic 67, 3), (6, .ireturn, 1)]
theorem dkX7_isSheet : cv_dk cX7_isSheet tbX7_isSheet = true := by decide +kernel
def tbX7_isSort : List (Nat × Instr × Nat) := [(0, .iload_n 0, 1), (1, .iconst 0, 1), (2, .iconst 2, 1), (3, .invokestatic 67, 3), (6, .ireturn, 1)]
theorem dkX7_isSort : cv_dk cX7_isSort tbX7_isSort = true := by decide +kernel
def tbX7_against : List (Nat × Instr × Nat) := [(0, .aload_n 0, 1), (1, .getfield 9, 3), (4, .iload_n 1, 1), (5, .iaload, 1), (6, .bipush (-9), 2), (8, .if_icmp .eq 15, 3), (11, .aload_n 0, 1), (12, .getfield 9, 3), (15, .iload_n 1, 1), (16, .iaload, 1), (17, .iload_n 2, 1), (18, .if_icmp .eq 5, 3), (21, .iconst 2, 1), (22, .ireturn, 1), (23, .aload_n 0, 1), (24, .getfield 9, 3), (27, .iload_n 1, 1), (28, .iaload, 1), (29, .bipush (-9), 2), (31, .if_icmp .ne 5, 3), (34, .iconst 1, 1), (35, .ireturn, 1), (36, .iload 4, 2), (38, .ifCond .ge 5, 3), (41, .iconst 4, 1), (42, .ireturn, 1), (43, .iload_n 3, 1), (44, .ifCond .lt 26, 3), (47, .iload_n 3, 1), (48, .aload_n 0, 1), (49, .getfield 13, 3), (52, .iload_n 1, 1), (53, .iaload, 1), (54, .if_icmp .gt 16, 3), (57, .iload 4, 2), (59, .aload_n 0, 1), (60, .getfield 13, 3), (63, .iload_n 1, 1), (64, .iaload, 1), (65, .iload_n 3, 1), (66, .isub, 1), (67, .if_icmp .le 7, 3), (70, .iconst 3, 1), (71, .goto 4, 3), (74, .iconst 0, 1), (75, .ireturn, 1)]
theorem dkX7_against : cv_dk cX7_against tbX7_against = true := by decide +kernel
def tbX7_isPass : List (Nat × Instr × Nat) := [(0, .iload_n 1, 1), (1, .ifCond .lt 15, 3), (4, .iload_n 1, 1), (5, .aload_n 0, 1), (6, .getfield 71, 3), (9, .if_icmp .ge 7, 3), (12, .iconst 1, 1), (13, .goto 4, 3), (16, .iconst 0, 1), (17, .ireturn, 1)]
theorem dkX7_isPass : cv_dk cX7_isPass tbX7_isPass = true := by decide +kernel
def tbX7_isDay : List (Nat × Instr × Nat) := [(0, .iload_n 0, 1), (1, .iconst 0, 1), (2, .bipush 7, 2), (4, .invokestatic 67, 3), (7, .ireturn, 1)]
theorem dkX7_isDay : cv_dk cX7_isDay tbX7_isDay = true := by decide +kernel
def tbX7_isValley : List (Nat × Instr × Nat) := [(0, .iload_n 0, 1), (1, .iconst 0, 1), (2, .iconst 2, 1), (3, .invokestatic 67, 3), (6, .ireturn, 1)]
theorem dkX7_isValley : cv_dk cX7_isValley tbX7_isValley = true := by decide +kernel
def tbX7_digit : List (Nat × Instr × Nat) := [(0, .aload_n 0, 1), (1, .getfield 74, 3), (4, .iload_n 1, 1), (5, .if_icmp .ge 26, 3), (8, .aload_n 0, 1), (9, .getfield 16, 3), (12, .aload_n 0, 1), (13, .getfield 74, 3), (16, .iaload, 1), (17, .bipush 48, 2), (19, .iload_n 2, 1), (20, .iadd, 1), (21, .bipush 48, 2), (23, .iload_n 3, 1), (24, .iadd, 1), (25, .invokestatic 67, 3), (28, .ifCond .ne 6, 3), (31, .bipush (-9), 2), (33, .ireturn, 1), (34, .aload_n 0, 1), (35, .dup, 1), (36, .getfield 74, 3), (39, .iconst 1, 1), (40, .iadd, 1), (41, .putfield 74, 3), (44, .aload_n 0, 1), (45, .getfield 16, 3), (48, .aload_n 0, 1), (49, .getfield 74, 3), (52, .iconst 1, 1), (53, .isub, 1), (54, .iaload, 1), (55, .bipush 48, 2), (57, .isub, 1), (58, .ireturn, 1)]
theorem dkX7_digit : cv_dk cX7_digit tbX7_digit = true := by decide +kernel
def tbX7_isSign : List (Nat × Instr × Nat) := [(0, .aload_n 0, 1), (1, .getfield 74, 3), (4, .iload_n 1, 1), (5, .if_icmp .ge 16, 3), (8, .aload_n 0, 1), (9, .getfield 16, 3), (12, .aload_n 0, 1), (13, .getfield 74, 3), (16, .iaload, 1), (17, .iload_n 2, 1), (18, .if_icmp .eq 5, 3), (21, .iconst 0, 1), (22, .ireturn, 1), (23, .aload_n 0, 1), (24, .dup, 1), (25, .getfield 74, 3), (28, .iconst 1, 1), (29, .iadd, 1), (30, .putfield 74, 3), (33, .iconst 1, 1), (34, .ireturn, 1)]
theorem dkX7_isSign : cv_dk cX7_isSign tbX7_isSign = true := by decide +kernel
def tbX7_readSet : List (Nat × Instr × Nat) := [(0, .aload_n 0, 1), (1, .iload_n 1, 1), (2, .iconst 0, 1), (3, .iconst 2, 1), (4, .invokevirtual 77, 3), (7, .istore_n 2, 1), (8, .iload_n 2, 1), (9, .bipush (-9), 2), (11, .if_icmp .ne 6, 3), (14, .bipush (-9), 2), (16, .ireturn, 1), (17, .aload_n 0, 1), (18, .iload_n 1, 1), (19, .iconst 0, 1), (20, .iload_n 2, 1), (21, .iconst 2, 1), (22, .if_icmp .ne 7, 3), (25, .iconst 5, 1), (26, .goto 5, 3), (29, .bipush 9, 2), (31, .invokevirtual 77, 3), (34, .istore_n 3, 1), (35, .iload_n 3, 1), (36, .bipush (-9), 2), (38, .if_icmp .ne 6, 3), (41, .bipush (-9), 2), (43, .ireturn, 1), (44, .aload_n 0, 1), (45, .iload_n 1, 1), (46, .iconst 0, 1), (47, .iload_n 2, 1), (48, .iconst 2, 1), (49, .if_icmp .ne 12, 3), (52, .iload_n 3, 1), (53, .iconst 5, 1), (54, .if_icmp .ne 7, 3), (57, .iconst 5, 1), (58, .goto 5, 3), (61, .bipush 9, 2), (63, .invokevirtual 77, 3), (66, .istore 4, 2), (68, .iload 4, 2), (70, .bipush (-9), 2), (72, .if_icmp .ne 8, 3), (75, .bipush (-9), 2), (77, .goto 15, 3), (80, .bipush 100, 2), (82, .iload_n 2, 1), (83, .imul, 1), (84, .bipush 10, 2), (86, .iload_n 3, 1), (87, .imul, 1), (88, .iadd, 1), (89, .iload 4, 2), (91, .iadd, 1), (92, .ireturn, 1)]
theorem dkX7_readSet : cv_dk cX7_readSet tbX7_readSet = true := by decide +kernel
def tbX7_land : List (Nat × Instr × Nat) := [(0, .aload_n 0, 1), (1, .iconst 0, 1), (2, .putfield 62, 3), (5, .iload_n 1, 1), (6, .invokestatic 81, 3), (9, .ifCond .ne 5, 3), (12, .iconst (-1), 1), (13, .ireturn, 1), (14, .iload_n 2, 1), (15, .invokestatic 85, 3), (18, .ifCond .ne 6, 3), (21, .bipush (-2), 2), (23, .ireturn, 1), (24, .aload_n 0, 1), (25, .iload_n 1, 1), (26, .iload_n 2, 1), (27, .iload_n 3, 1), (28, .iload 4, 2), (30, .invokevirtual 88, 3), (33, .istore 5, 2), (35, .iload 5, 2), (37, .ifCond .eq 10, 3), (40, .aload_n 0, 1), (41, .iload 5, 2), (43, .invokevirtual 92, 3), (46, .ireturn, 1), (47, .bipush 60, 2), (49, .iload_n 1, 1), (50, .imul, 1), (51, .iload_n 3, 1), (52, .iadd, 1), (53, .istore 6, 2), (55, .aload_n 0, 1), (56, .iload 6, 2), (58, .putfield 74, 3), (61, .aload_n 0, 1), (62, .iload 6, 2), (64, .iload 4, 2), (66, .iadd, 1), (67, .invokevirtual 96, 3), (70, .ifCond .ne 14, 3), (73, .bipush (-100), 2), (75, .aload_n 0, 1), (76, .getfield 74, 3), (79, .iload 6, 2), (81, .isub, 1), (82, .isub, 1), (83, .ireturn, 1), (84, .aload_n 0, 1), (85, .invokevirtual 99, 3), (88, .aload_n 0, 1), (89, .getfield 71, 3), (92, .ireturn, 1)]
theorem dkX7_land : cv_dk cX7_land tbX7_land = true := by decide +kernel
def tbX7_takeLand : List (Nat × Instr × Nat) := [(0, .iconst 0, 1), (1, .istore_n 1, 1), (2, .iload_n 1, 1), (3, .bipush 8, 2), (5, .if_icmp .ge 21, 3), (8, .aload_n 0, 1), (9, .getfield 19, 3), (12, .iload_n 1, 1), (13, .aload_n 0, 1), (14, .getfield 44, 3), (17, .iload_n 1, 1), (18, .iaload, 1), (19, .iastore, 1), (20, .iinc 1 1, 3), (23, .goto (-21), 3), (26, .iconst 0, 1), (27, .istore_n 1, 1), (28, .iload_n 1, 1), (29, .iconst 3, 1), (30, .if_icmp .ge 21, 3), (33, .aload_n 0, 1), (34, .getfield 22, 3), (37, .iload_n 1, 1), (38, .aload_n 0, 1), (39, .getfield 47, 3), (42, .iload_n 1, 1), (43, .iaload, 1), (44, .iastore, 1), (45, .iinc 1 1, 3), (48, .goto (-20), 3), (51, .aload_n 0, 1), (52, .aload_n 0, 1), (53, .getfield 102, 3), (56, .putfield 71, 3), (59, .iconst 0, 1), (60, .istore_n 1, 1), (61, .iload_n 1, 1), (62, .aload_n 0, 1), (63, .getfield 71, 3), (66, .if_icmp .ge 87, 3), (69, .aload_n 0, 1), (70, .getfield 25, 3), (73, .iload_n 1, 1), (74, .aload_n 0, 1), (75, .getfield 50, 3), (78, .iconst 5, 1), (79, .iload_n 1, 1), (80, .imul, 1), (81, .iaload, 1), (82, .iastore, 1), (83, .aload_n 0, 1), (84, .getfield 28, 3), (87, .iload_n 1, 1), (88, .aload_n 0, 1), (89, .getfield 50, 3), (92, .iconst 5, 1), (93, .iload_n 1, 1), (94, .imul, 1), (95, .iconst 1, 1), (96, .iadd, 1), (97, .iaload, 1), (98, .iastore, 1), (99, .aload_n 0, 1), (100, .getfield 31, 3), (103, .iload_n 1, 1), (104, .aload_n 0, 1), (105, .getfield 50, 3), (108, .iconst 5, 1), (109, .iload_n 1, 1), (110, .imul, 1), (111, .iconst 2, 1), (112, .iadd, 1), (113, .iaload, 1), (114, .iastore, 1), (115, .aload_n 0, 1), (116, .getfield 34, 3), (119, .iload_n 1, 1), (120, .aload_n 0, 1), (121, .getfield 50, 3), (124, .iconst 5, 1), (125, .iload_n 1, 1), (126, .imul, 1), (127, .iconst 3, 1), (128, .iadd, 1), (129, .iaload, 1), (130, .iastore, 1), (131, .aload_n 0, 1), (132, .getfield 37, 3), (135, .iload_n 1, 1), (136, .aload_n 0, 1), (137, .getfield 50, 3), (140, .iconst 5, 1), (141, .iload_n 1, 1), (142, .imul, 1), (143, .iconst 4, 1), (144, .iadd, 1), (145, .iaload, 1), (146, .iastore, 1), (147, .iinc 1 1, 3), (150, .goto (-89), 3), (153, .aload_n 0, 1), (154, .iconst 0, 1), (155, .putfield 105, 3), (158, .return_, 1)]
theorem dkX7_takeLand : cv_dk cX7_takeLand tbX7_takeLand = true := by decide +kernel
def tbX7_readLand : List (Nat × Instr × Nat) := [(0, .aload_n 0, 1), (1, .iconst 0, 1), (2, .putfield 102, 3), (5, .aload_n 0, 1), (6, .iload_n 1, 1), (7, .bipush 118, 2), (9, .invokevirtual 108, 3), (12, .ifCond .ne 5, 3), (15, .iconst 0, 1), (16, .ireturn, 1), (17, .iconst 0, 1), (18, .istore_n 2, 1), (19, .iload_n 2, 1), (20, .bipush 8, 2), (22, .if_icmp .ge 36, 3), (25, .aload_n 0, 1), (26, .getfield 44, 3), (29, .iload_n 2, 1), (30, .aload_n 0, 1), (31, .iload_n 1, 1), (32, .iconst 0, 1), (33, .bipush 9, 2), (35, .invokevirtual 77, 3), (38, .iastore, 1), (39, .aload_n 0, 1), (40, .getfield 44, 3), (43, .iload_n 2, 1), (44, .iaload, 1), (45, .bipush (-9), 2), (47, .if_icmp .ne 5, 3), (50, .iconst 0, 1), (51, .ireturn, 1), (52, .iinc 2 1, 3), (55, .goto (-36), 3), (58, .iconst 0, 1), (59, .istore_n 2, 1), (60, .iload_n 2, 1), (61, .iconst 3, 1), (62, .if_icmp .ge 45, 3), (65, .aload_n 0, 1), (66, .iload_n 1, 1), (67, .bipush 59, 2), (69, .invokevirtual 108, 3), (72, .ifCond .ne 5, 3), (75, .iconst 0, 1), (76, .ireturn, 1), (77, .aload_n 0, 1), (78, .getfield 47, 3), (81, .iload_n 2, 1), (82, .aload_n 0, 1), (83, .iload_n 1, 1), (84, .invokevirtual 112, 3), (87, .iastore, 1), (88, .aload_n 0, 1), (89, .getfield 47, 3), (92, .iload_n 2, 1), (93, .iaload, 1), (94, .bipush (-9), 2), (96, .if_icmp .ne 5, 3), (99, .iconst 0, 1), (100, .ireturn, 1), (101, .iinc 2 1, 3), (104, .goto (-44), 3), (107, .aload_n 0, 1), (108, .getfield 102, 3), (111, .ifCond .eq 20, 3), (114, .aload_n 0, 1), (115, .getfield 102, 3), (118, .bipush 6, 2), (120, .if_icmp .ge 31, 3), (123, .aload_n 0, 1), (124, .getfield 74, 3), (127, .iload_n 1, 1), (128, .if_icmp .ge 23, 3), (131, .aload_n 0, 1), (132, .iload_n 1, 1), (133, .bipush 44, 2), (135, .invokevirtual 108, 3), (138, .ifCond .eq 11, 3), (141, .aload_n 0, 1), (142, .iload_n 1, 1), (143, .invokevirtual 115, 3), (146, .ifCond .ne (-39), 3), (149, .iconst 0, 1), (150, .ireturn, 1), (151, .aload_n 0, 1), (152, .getfield 74, 3), (155, .iload_n 1, 1), (156, .if_icmp .ne 7, 3), (159, .iconst 1, 1), (160, .goto 4, 3), (163, .iconst 0, 1), (164, .ireturn, 1)]
theorem dkX7_readLand : cv_dk cX7_readLand tbX7_readLand = true := by decide +kernel
def tbX7_readPass : List (Nat × Instr × Nat) := [(0, .iconst 5, 1), (1, .aload_n 0, 1), (2, .getfield 102, 3), (5, .imul, 1), (6, .istore_n 2, 1), (7, .aload_n 0, 1), (8, .getfield 74, 3), (11, .iload_n 1, 1), (12, .if_icmp .ge 15, 3), (15, .aload_n 0, 1), (16, .getfield 16, 3), (19, .aload_n 0, 1), (20, .getfield 74, 3), (23, .iaload, 1), (24, .goto 4, 3), (27, .iconst 0, 1), (28, .istore_n 3, 1), (29, .aload_n 0, 1), (30, .getfield 50, 3), (33, .iload_n 2, 1), (34, .iload_n 3, 1), (35, .bipush 112, 2), (37, .if_icmp .ne 7, 3), (40, .iconst 0, 1), (41, .goto 25, 3), (44, .iload_n 3, 1), (45, .bipush 115, 2), (47, .if_icmp .ne 7, 3), (50, .iconst 1, 1), (51, .goto 15, 3), (54, .iload_n 3, 1), (55, .bipush 116, 2), (57, .if_icmp .ne 7, 3), (60, .iconst 2, 1), (61, .goto 5, 3), (64, .bipush (-9), 2), (66, .iastore, 1), (67, .aload_n 0, 1), (68, .getfield 50, 3), (71, .iload_n 2, 1), (72, .iaload, 1), (73, .bipush (-9), 2), (75, .if_icmp .ne 5, 3), (78, .iconst 0, 1), (79, .ireturn, 1), (80, .aload_n 0, 1), (81, .dup, 1), (82, .getfield 74, 3), (85, .iconst 1, 1), (86, .iadd, 1), (87, .putfield 74, 3), (90, .aload_n 0, 1), (91, .getfield 50, 3), (94, .iload_n 2, 1), (95, .iconst 1, 1), (96, .iadd, 1), (97, .aload_n 0, 1), (98, .iload_n 1, 1), (99, .iconst 0, 1), (100, .iconst 2, 1), (101, .invokevirtual 77, 3), (104, .iastore, 1), (105, .aload_n 0, 1), (106, .getfield 50, 3), (109, .iload_n 2, 1), (110, .iconst 1, 1), (111, .iadd, 1), (112, .iaload, 1), (113, .bipush (-9), 2), (115, .if_icmp .eq 34, 3), (118, .aload_n 0, 1), (119, .getfield 74, 3), (122, .iload_n 1, 1), (123, .if_icmp .ge 28, 3), (126, .aload_n 0, 1), (127, .getfield 16, 3), (130, .aload_n 0, 1), (131, .getfield 74, 3), (134, .iaload, 1), (135, .bipush 48, 2), (137, .isub, 1), (138, .aload_n 0, 1), (139, .getfield 50, 3), (142, .iload_n 2, 1), (143, .iconst 1, 1), (144, .iadd, 1), (145, .iaload, 1), (146, .if_icmp .ne 5, 3), (149, .iconst 0, 1), (150, .ireturn, 1), (151, .aload_n 0, 1), (152, .getfield 50, 3), (155, .iload_n 2, 1), (156, .iconst 2, 1), (157, .iadd, 1), (158, .aload_n 0, 1), (159, .iload_n 1, 1), (160, .iconst 0, 1), (161, .iconst 2, 1), (162, .invokevirtual 77, 3), (165, .iastore, 1), (166, .aload_n 0, 1), (167, .getfield 50, 3), (170, .iload_n 2, 1), (171, .iconst 2, 1), (172, .iadd, 1), (173, .iaload, 1), (174, .bipush (-9), 2), (176, .if_icmp .ne 5, 3), (179, .iconst 0, 1), (180, .ireturn, 1), (181, .aload_n 0, 1), (182, .getfield 50, 3), (185, .iload_n 2, 1), (186, .iconst 3, 1), (187, .iadd, 1), (188, .aload_n 0, 1), (189, .iload_n 1, 1), (190, .iconst 1, 1), (191, .iconst 3, 1), (192, .invokevirtual 77, 3), (195, .iastore, 1), (196, .aload_n 0, 1), (197, .getfield 50, 3), (200, .iload_n 2, 1), (201, .iconst 3, 1), (202, .iadd, 1), (203, .iaload, 1), (204, .bipush (-9), 2), (206, .if_icmp .ne 5, 3), (209, .iconst 0, 1), (210, .ireturn, 1), (211, .aload_n 0, 1), (212, .getfield 50, 3), (215, .iload_n 2, 1), (216, .iconst 4, 1), (217, .iadd, 1), (218, .aload_n 0, 1), (219, .iload_n 1, 1), (220, .iconst 0, 1), (221, .bipush 9, 2), (223, .invokevirtual 77, 3), (226, .iastore, 1), (227, .aload_n 0, 1), (228, .dup, 1), (229, .getfield 102, 3), (232, .iconst 1, 1), (233, .iadd, 1), (234, .putfield 102, 3), (237, .aload_n 0, 1), (238, .getfield 50, 3), (241, .iload_n 2, 1), (242, .iconst 4, 1), (243, .iadd, 1), (244, .iaload, 1), (245, .bipush (-9), 2), (247, .if_icmp .eq 7, 3), (250, .iconst 1, 1), (251, .goto 4, 3), (254, .iconst 0, 1), (255, .ireturn, 1)]
theorem dkX7_readPass : cv_dk cX7_readPass tbX7_readPass = true := by decide +kernel
def tbX7_takes : List (Nat × Instr × Nat) := [(0, .aload_n 0, 1), (1, .getfield 25, 3), (4, .iload_n 1, 1), (5, .iaload, 1), (6, .ifCond .ne 12, 3), (9, .aload_n 0, 1), (10, .getfield 34, 3), (13, .iload_n 1, 1), (14, .iaload, 1), (15, .goto 34, 3), (18, .aload_n 0, 1), (19, .getfield 25, 3), (22, .iload_n 1, 1), (23, .iaload, 1), (24, .iconst 1, 1), (25, .if_icmp .ne 14, 3), (28, .aload_n 0, 1), (29, .getfield 34, 3), (32, .iload_n 1, 1), (33, .iaload, 1), (34, .iconst 1, 1), (35, .iadd, 1), (36, .goto 13, 3), (39, .aload_n 0, 1), (40, .getfield 34, 3), (43, .iload_n 1, 1), (44, .iaload, 1), (45, .iconst 1, 1), (46, .iadd, 1), (47, .iconst 2, 1), (48, .idiv, 1), (49, .ireturn, 1)]
theorem dkX7_takes : cv_dk cX7_takes tbX7_takes = true := by decide +kernel
def tbX7_ofPass : List (Nat × Instr × Nat) := [(0, .aload_n 0, 1), (1, .iload_n 1, 1), (2, .invokevirtual 118, 3), (5, .ifCond .ne 5, 3), (8, .iconst (-1), 1), (9, .ireturn, 1), (10, .iload_n 2, 1), (11, .tableswitch 78 0 5 #[37, 44, 51, 58, 65, 72], 37), (48, .aload_n 0, 1), (49, .getfield 25, 3), (52, .iload_n 1, 1), (53, .iaload, 1), (54, .ireturn, 1), (55, .aload_n 0, 1), (56, .getfield 28, 3), (59, .iload_n 1, 1), (60, .iaload, 1), (61, .ireturn, 1), (62, .aload_n 0, 1), (63, .getfield 31, 3), (66, .iload_n 1, 1), (67, .iaload, 1), (68, .ireturn, 1), (69, .aload_n 0, 1), (70, .getfield 34, 3), (73, .iload_n 1, 1), (74, .iaload, 1), (75, .ireturn, 1), (76, .aload_n 0, 1), (77, .getfield 37, 3), (80, .iload_n 1, 1), (81, .iaload, 1), (82, .ireturn, 1), (83, .aload_n 0, 1), (84, .iload_n 1, 1), (85, .invokevirtual 121, 3), (88, .ireturn, 1), (89, .bipush (-2), 2), (91, .ireturn, 1)]
theorem dkX7_ofPass : cv_dk cX7_ofPass tbX7_ofPass = true := by decide +kernel
def tbX7_snow : List (Nat × Instr × Nat) := [(0, .iload_n 1, 1), (1, .invokestatic 124, 3), (4, .ifCond .eq 13, 3), (7, .iload_n 2, 1), (8, .iconst 0, 1), (9, .bipush 9, 2), (11, .invokestatic 67, 3), (14, .ifCond .ne 6, 3), (17, .bipush (-2), 2), (19, .ireturn, 1), (20, .aload_n 0, 1), (21, .getfield 71, 3), (24, .ifCond .ne 6, 3), (27, .bipush (-3), 2), (29, .ireturn, 1), (30, .aload_n 0, 1), (31, .getfield 19, 3), (34, .iload_n 1, 1), (35, .iaload, 1), (36, .istore_n 3, 1), (37, .aload_n 0, 1), (38, .getfield 19, 3), (41, .iload_n 1, 1), (42, .iload_n 2, 1), (43, .iastore, 1), (44, .iload_n 3, 1), (45, .ireturn, 1)]
theorem dkX7_snow : cv_dk cX7_snow tbX7_snow = true := by decide +kernel
def tbX7_give : List (Nat × Instr × Nat) := [(0, .iload_n 1, 1), (1, .invokestatic 127, 3), (4, .ifCond .ne 5, 3), (7, .iconst (-1), 1), (8, .ireturn, 1), (9, .iload_n 2, 1), (10, .iconst 0, 1), (11, .sipush 255, 3), (14, .invokestatic 67, 3), (17, .ifCond .ne 6, 3), (20, .bipush (-2), 2), (22, .ireturn, 1), (23, .aload_n 0, 1), (24, .getfield 71, 3), (27, .ifCond .ne 6, 3), (30, .bipush (-3), 2), (32, .ireturn, 1), (33, .aload_n 0, 1), (34, .getfield 22, 3), (37, .iload_n 1, 1), (38, .iaload, 1), (39, .istore_n 3, 1), (40, .aload_n 0, 1), (41, .getfield 22, 3), (44, .iload_n 1, 1), (45, .iload_n 2, 1), (46, .iastore, 1), (47, .iload_n 3, 1), (48, .ireturn, 1)]
theorem dkX7_give : cv_dk cX7_give tbX7_give = true := by decide +kernel
def tbX7_isOpen : List (Nat × Instr × Nat) := [(0, .iload_n 1, 1), (1, .aload_n 0, 1), (2, .getfield 40, 3), (5, .if_icmp .eq 32, 3), (8, .aload_n 0, 1), (9, .getfield 25, 3), (12, .iload_n 1, 1), (13, .iaload, 1), (14, .iconst 2, 1), (15, .if_icmp .eq 18, 3), (18, .aload_n 0, 1), (19, .getfield 37, 3), (22, .iload_n 1, 1), (23, .iaload, 1), (24, .aload_n 0, 1), (25, .getfield 19, 3), (28, .iload_n 2, 1), (29, .iaload, 1), (30, .if_icmp .le 7, 3), (33, .iconst 1, 1), (34, .goto 4, 3), (37, .iconst 0, 1), (38, .ireturn, 1)]
theorem dkX7_isOpen : cv_dk cX7_isOpen tbX7_isOpen = true := by decide +kernel
def tbX7_open : List (Nat × Instr × Nat) := [(0, .iload_n 1, 1), (1, .invokestatic 124, 3), (4, .ifCond .ne 6, 3), (7, .bipush (-2), 2), (9, .ireturn, 1), (10, .aload_n 0, 1), (11, .getfield 71, 3), (14, .ifCond .ne 6, 3), (17, .bipush (-3), 2), (19, .ireturn, 1), (20, .iconst 0, 1), (21, .istore_n 2, 1), (22, .iconst 0, 1), (23, .istore_n 3, 1), (24, .iload_n 3, 1), (25, .aload_n 0, 1), (26, .getfield 71, 3), (29, .if_icmp .ge 28, 3), (32, .iload_n 2, 1), (33, .aload_n 0, 1), (34, .iload_n 3, 1), (35, .iload_n 1, 1), (36, .invokevirtual 130, 3), (39, .ifCond .eq 9, 3), (42, .iconst 1, 1), (43, .iload_n 3, 1), (44, .ishl, 1), (45, .goto 4, 3), (48, .iconst 0, 1), (49, .ior, 1), (50, .istore_n 2, 1), (51, .iinc 3 1, 3), (54, .goto (-30), 3), (57, .iload_n 2, 1), (58, .ireturn, 1)]
theorem dkX7_open : cv_dk cX7_open tbX7_open = true := by decide +kernel
def tbX7_doesGive : List (Nat × Instr × Nat) := [(0, .aload_n 0, 1), (1, .getfield 22, 3), (4, .iload_n 1, 1), (5, .iaload, 1), (6, .iload_n 2, 1), (7, .ishr, 1), (8, .iconst 1, 1), (9, .iand, 1), (10, .iconst 1, 1), (11, .if_icmp .ne 7, 3), (14, .iconst 1, 1), (15, .goto 4, 3), (18, .iconst 0, 1), (19, .ireturn, 1)]
theorem dkX7_doesGive : cv_dk cX7_doesGive tbX7_doesGive = true := by decide +kernel
def tbX7_over : List (Nat × Instr × Nat) := [(0, .aload_n 0, 1), (1, .getfield 28, 3), (4, .iload_n 1, 1), (5, .iaload, 1), (6, .iload_n 2, 1), (7, .if_icmp .ne 12, 3), (10, .aload_n 0, 1), (11, .getfield 31, 3), (14, .iload_n 1, 1), (15, .iaload, 1), (16, .goto 24, 3), (19, .aload_n 0, 1), (20, .getfield 31, 3), (23, .iload_n 1, 1), (24, .iaload, 1), (25, .iload_n 2, 1), (26, .if_icmp .ne 12, 3), (29, .aload_n 0, 1), (30, .getfield 28, 3), (33, .iload_n 1, 1), (34, .iaload, 1), (35, .goto 5, 3), (38, .bipush (-9), 2), (40, .ireturn, 1)]
theorem dkX7_over : cv_dk cX7_over tbX7_over = true := by decide +kernel
def tbX7_spot : List (Nat × Instr × Nat) := [(0, .iconst 3, 1), (1, .iload_n 0, 1), (2, .imul, 1), (3, .iload_n 1, 1), (4, .iadd, 1), (5, .iconst 2, 1), (6, .imul, 1), (7, .iload_n 2, 1), (8, .iadd, 1), (9, .ireturn, 1)]
theorem dkX7_spot : cv_dk cX7_spot tbX7_spot = true := by decide +kernel
def tbX7_comes : List (Nat × Instr × Nat) := [(0, .iload_n 1, 1), (1, .bipush 8, 2), (3, .if_icmp .ge 54, 3), (6, .iload_n 1, 1), (7, .iload_n 2, 1), (8, .iload_n 3, 1), (9, .invokestatic 133, 3), (12, .istore 5, 2), (14, .aload_n 0, 1), (15, .getfield 53, 3), (18, .iload 5, 2), (20, .aload_n 0, 1), (21, .getfield 53, 3), (24, .iload 5, 2), (26, .iaload, 1), (27, .bipush (-9), 2), (29, .if_icmp .eq 15, 3), (32, .iload 4, 2), (34, .aload_n 0, 1), (35, .getfield 53, 3), (38, .iload 5, 2), (40, .iaload, 1), (41, .if_icmp .ge 8, 3), (44, .iload 4, 2), (46, .goto 10, 3), (49, .aload_n 0, 1), (50, .getfield 53, 3), (53, .iload 5, 2), (55, .iaload, 1), (56, .iastore, 1), (57, .return_, 1)]
theorem dkX7_comes : cv_dk cX7_comes tbX7_comes = true := by decide +kernel
def tbX7_goOn : List (Nat × Instr × Nat) := [(0, .aload_n 0, 1), (1, .getfield 53, 3), (4, .iload_n 1, 1), (5, .iload_n 2, 1), (6, .iload_n 3, 1), (7, .invokestatic 133, 3), (10, .iaload, 1), (11, .istore 4, 2), (13, .iload 4, 2), (15, .bipush (-9), 2), (17, .if_icmp .ne 4, 3), (20, .return_, 1), (21, .iload_n 3, 1), (22, .iconst 1, 1), (23, .if_icmp .ne 69, 3), (26, .iload_n 2, 1), (27, .iconst 2, 1), (28, .if_icmp .ne 64, 3), (31, .aload_n 0, 1), (32, .iconst 2, 1), (33, .iload_n 1, 1), (34, .invokevirtual 136, 3), (37, .ifCond .eq 55, 3), (40, .aload_n 0, 1), (41, .aload_n 0, 1), (42, .getfield 139, 3), (45, .bipush (-9), 2), (47, .if_icmp .ne 7, 3), (50, .iload_n 1, 1), (51, .goto 7, 3), (54, .aload_n 0, 1), (55, .getfield 139, 3), (58, .putfield 139, 3), (61, .aload_n 0, 1), (62, .aload_n 0, 1), (63, .getfield 142, 3), (66, .bipush (-9), 2), (68, .if_icmp .eq 12, 3), (71, .iload 4, 2), (73, .aload_n 0, 1), (74, .getfield 142, 3), (77, .if_icmp .ge 8, 3), (80, .iload 4, 2), (82, .goto 7, 3), (85, .aload_n 0, 1), (86, .getfield 142, 3), (89, .putfield 142, 3), (92, .aload_n 0, 1), (93, .iload_n 1, 1), (94, .iconst 1, 1), (95, .iadd, 1), (96, .iload_n 2, 1), (97, .iload_n 3, 1), (98, .iload 4, 2), (100, .iconst 1, 1), (101, .iadd, 1), (102, .invokevirtual 145, 3), (105, .iconst 0, 1), (106, .istore 5, 2), (108, .iload 5, 2), (110, .aload_n 0, 1), (111, .getfield 71, 3), (114, .if_icmp .ge 53, 3), (117, .aload_n 0, 1), (118, .iload 5, 2), (120, .iload_n 1, 1), (121, .invokevirtual 130, 3), (124, .ifCond .eq 37, 3), (127, .aload_n 0, 1), (128, .iload 5, 2), (130, .iload_n 2, 1), (131, .invokevirtual 149, 3), (134, .bipush (-9), 2), (136, .if_icmp .eq 25, 3), (139, .aload_n 0, 1), (140, .iload_n 1, 1), (141, .aload_n 0, 1), (142, .iload 5, 2), (144, .invokevirtual 121, 3), (147, .iadd, 1), (148, .aload_n 0, 1), (149, .iload 5, 2), (151, .iload_n 2, 1), (152, .invokevirtual 149, 3), (155, .iload_n 3, 1), (156, .iload 4, 2), (158, .invokevirtual 145, 3), (161, .iinc 5 1, 3), (164, .goto (-56), 3), (167, .return_, 1)]
theorem dkX7_goOn : cv_dk cX7_goOn tbX7_goOn = true := by decide +kernel
end
section
def tbX7_makeWheel : List (Nat × Instr × Nat) := [(0, .iconst 0, 1), (1, .istore_n 2, 1), (2, .iload_n 2, 1), (3, .bipush 48, 2), (5, .if_icmp .ge 17, 3), (8, .aload_n 0, 1), (9, .getfield 53, 3), (12, .iload_n 2, 1), (13, .bipush (-9), 2), (15, .iastore, 1), (16, .iinc 2 1, 3), (19, .goto (-17), 3), (22, .aload_n 0, 1), (23, .bipush (-9), 2), (25, .putfield 139, 3), (28, .aload_n 0, 1), (29, .bipush (-9), 2), (31, .putfield 142, 3), (34, .aload_n 0, 1), (35, .iconst 0, 1), (36, .iload_n 1, 1), (37, .invokevirtual 136, 3), (40, .ifCond .eq 11, 3), (43, .aload_n 0, 1), (44, .iload_n 1, 1), (45, .iconst 0, 1), (46, .iconst 0, 1), (47, .iconst 0, 1), (48, .invokevirtual 145, 3), (51, .iload_n 1, 1), (52, .istore_n 2, 1), (53, .iload_n 2, 1), (54, .bipush 8, 2), (56, .if_icmp .ge 73, 3), (59, .aload_n 0, 1), (60, .getfield 53, 3), (63, .iload_n 2, 1), (64, .iconst 1, 1), (65, .iconst 0, 1), (66, .invokestatic 133, 3), (69, .iaload, 1), (70, .istore_n 3, 1), (71, .iload_n 3, 1), (72, .bipush (-9), 2), (74, .if_icmp .eq 20, 3), (77, .aload_n 0, 1), (78, .iconst 1, 1), (79, .iload_n 2, 1), (80, .invokevirtual 136, 3), (83, .ifCond .eq 11, 3), (86, .aload_n 0, 1), (87, .iload_n 2, 1), (88, .iconst 1, 1), (89, .iconst 1, 1), (90, .iload_n 3, 1), (91, .invokevirtual 145, 3), (94, .iconst 0, 1), (95, .istore 4, 2), (97, .iload 4, 2), (99, .bipush 6, 2), (101, .if_icmp .ge 22, 3), (104, .aload_n 0, 1), (105, .iload_n 2, 1), (106, .iload 4, 2), (108, .iconst 2, 1), (109, .idiv, 1), (110, .iload 4, 2), (112, .iconst 2, 1), (113, .irem, 1), (114, .invokevirtual 153, 3), (117, .iinc 4 1, 3), (120, .goto (-23), 3), (123, .iinc 2 1, 3), (126, .goto (-73), 3), (129, .return_, 1)]
theorem dkX7_makeWheel : cv_dk cX7_makeWheel tbX7_makeWheel = true := by decide +kernel
def tbX7_soonestOf : List (Nat × Instr × Nat) := [(0, .aload_n 0, 1), (1, .iload_n 1, 1), (2, .invokevirtual 157, 3), (5, .aload_n 0, 1), (6, .getfield 139, 3), (9, .ireturn, 1)]
theorem dkX7_soonestOf : cv_dk cX7_soonestOf tbX7_soonestOf = true := by decide +kernel
def tbX7_soonest : List (Nat × Instr × Nat) := [(0, .iload_n 1, 1), (1, .invokestatic 124, 3), (4, .ifCond .ne 6, 3), (7, .bipush (-2), 2), (9, .ireturn, 1), (10, .aload_n 0, 1), (11, .getfield 71, 3), (14, .ifCond .ne 8, 3), (17, .bipush (-3), 2), (19, .goto 8, 3), (22, .aload_n 0, 1), (23, .iload_n 1, 1), (24, .invokevirtual 161, 3), (27, .ireturn, 1)]
theorem dkX7_soonest : cv_dk cX7_soonest tbX7_soonest = true := by decide +kernel
def tbX7_holes : List (Nat × Instr × Nat) := [(0, .iload_n 1, 1), (1, .invokestatic 124, 3), (4, .ifCond .ne 6, 3), (7, .bipush (-2), 2), (9, .ireturn, 1), (10, .aload_n 0, 1), (11, .getfield 71, 3), (14, .ifCond .ne 6, 3), (17, .bipush (-3), 2), (19, .ireturn, 1), (20, .aload_n 0, 1), (21, .iload_n 1, 1), (22, .invokevirtual 157, 3), (25, .aload_n 0, 1), (26, .getfield 142, 3), (29, .ireturn, 1)]
theorem dkX7_holes : cv_dk cX7_holes tbX7_holes = true := by decide +kernel
def tbX7_goStep : List (Nat × Instr × Nat) := [(0, .aload_n 0, 1), (1, .getfield 164, 3), (4, .iconst 2, 1), (5, .if_icmp .ne 5, 3), (8, .iconst 0, 1), (9, .ireturn, 1), (10, .iload_n 1, 1), (11, .bipush 6, 2), (13, .if_icmp .ne 38, 3), (16, .aload_n 0, 1), (17, .dup, 1), (18, .getfield 167, 3), (21, .iconst 1, 1), (22, .iadd, 1), (23, .putfield 167, 3), (26, .aload_n 0, 1), (27, .dup, 1), (28, .getfield 170, 3), (31, .iconst 1, 1), (32, .iadd, 1), (33, .putfield 170, 3), (36, .aload_n 0, 1), (37, .getfield 167, 3), (40, .bipush 8, 2), (42, .if_icmp .ge 7, 3), (45, .iconst 1, 1), (46, .goto 4, 3), (49, .iconst 0, 1), (50, .ireturn, 1), (51, .iload_n 1, 1), (52, .bipush 7, 2), (54, .if_icmp .ne 43, 3), (57, .aload_n 0, 1), (58, .getfield 173, 3), (61, .iconst 1, 1), (62, .if_icmp .ne 26, 3), (65, .aload_n 0, 1), (66, .getfield 164, 3), (69, .ifCond .ne 19, 3), (72, .aload_n 0, 1), (73, .iconst 1, 1), (74, .aload_n 0, 1), (75, .getfield 167, 3), (78, .invokevirtual 136, 3), (81, .ifCond .eq 7, 3), (84, .iconst 1, 1), (85, .goto 4, 3), (88, .iconst 0, 1), (89, .istore_n 2, 1), (90, .aload_n 0, 1), (91, .iconst 1, 1), (92, .putfield 164, 3), (95, .iload_n 2, 1), (96, .ireturn, 1), (97, .iload_n 1, 1), (98, .bipush 8, 2), (100, .if_icmp .ne 44, 3), (103, .aload_n 0, 1), (104, .getfield 173, 3), (107, .iconst 2, 1), (108, .if_icmp .ne 27, 3), (111, .aload_n 0, 1), (112, .getfield 164, 3), (115, .iconst 1, 1), (116, .if_icmp .ne 19, 3), (119, .aload_n 0, 1), (120, .iconst 2, 1), (121, .aload_n 0, 1), (122, .getfield 167, 3), (125, .invokevirtual 136, 3), (128, .ifCond .eq 7, 3), (131, .iconst 1, 1), (132, .goto 4, 3), (135, .iconst 0, 1), (136, .istore_n 2, 1), (137, .aload_n 0, 1), (138, .iconst 2, 1), (139, .putfield 164, 3), (142, .iload_n 2, 1), (143, .ireturn, 1), (144, .aload_n 0, 1), (145, .iload_n 1, 1), (146, .aload_n 0, 1), (147, .getfield 167, 3), (150, .invokevirtual 130, 3), (153, .ifCond .eq 32, 3), (156, .aload_n 0, 1), (157, .iload_n 1, 1), (158, .aload_n 0, 1), (159, .getfield 173, 3), (162, .invokevirtual 149, 3), (165, .bipush (-9), 2), (167, .if_icmp .eq 18, 3), (170, .aload_n 0, 1), (171, .getfield 167, 3), (174, .aload_n 0, 1), (175, .iload_n 1, 1), (176, .invokevirtual 121, 3), (179, .iadd, 1), (180, .bipush 8, 2), (182, .if_icmp .lt 5, 3), (185, .iconst 0, 1), (186, .ireturn, 1), (187, .aload_n 0, 1), (188, .dup, 1), (189, .getfield 167, 3), (192, .aload_n 0, 1), (193, .iload_n 1, 1), (194, .invokevirtual 121, 3), (197, .iadd, 1), (198, .putfield 167, 3), (201, .aload_n 0, 1), (202, .aload_n 0, 1), (203, .iload_n 1, 1), (204, .aload_n 0, 1), (205, .getfield 173, 3), (208, .invokevirtual 149, 3), (211, .putfield 173, 3), (214, .iconst 1, 1), (215, .ireturn, 1)]
theorem dkX7_goStep : cv_dk cX7_goStep tbX7_goStep = true := by decide +kernel
def tbX7_way : List (Nat × Instr × Nat) := [(0, .aload_n 0, 1), (1, .iconst 0, 1), (2, .putfield 62, 3), (5, .iload_n 1, 1), (6, .invokestatic 124, 3), (9, .ifCond .ne 6, 3), (12, .bipush (-2), 2), (14, .ireturn, 1), (15, .iload_n 2, 1), (16, .invokestatic 81, 3), (19, .ifCond .ne 5, 3), (22, .iconst (-1), 1), (23, .ireturn, 1), (24, .iload_n 3, 1), (25, .invokestatic 85, 3), (28, .ifCond .eq 24, 3), (31, .iload 5, 2), (33, .iconst 0, 1), (34, .bipush 20, 2), (36, .invokestatic 67, 3), (39, .ifCond .eq 13, 3), (42, .iload 6, 2), (44, .iconst 0, 1), (45, .iconst 4, 1), (46, .invokestatic 67, 3), (49, .ifCond .ne 6, 3), (52, .bipush (-2), 2), (54, .ireturn, 1), (55, .aload_n 0, 1), (56, .iload_n 2, 1), (57, .iload_n 3, 1), (58, .iload 4, 2), (60, .iload 5, 2), (62, .invokevirtual 88, 3), (65, .istore 7, 2), (67, .iload 7, 2), (69, .ifCond .eq 10, 3), (72, .aload_n 0, 1), (73, .iload 7, 2), (75, .invokevirtual 92, 3), (78, .ireturn, 1), (79, .aload_n 0, 1), (80, .getfield 71, 3), (83, .ifCond .ne 6, 3), (86, .bipush (-3), 2), (88, .ireturn, 1), (89, .bipush 60, 2), (91, .iload_n 2, 1), (92, .imul, 1), (93, .iload 4, 2), (95, .iadd, 1), (96, .istore 8, 2), (98, .iconst 0, 1), (99, .istore 9, 2), (101, .iload 9, 2), (103, .iload 5, 2), (105, .if_icmp .ge 65, 3), (108, .aload_n 0, 1), (109, .getfield 16, 3), (112, .iload 8, 2), (114, .iload 9, 2), (116, .iadd, 1), (117, .iaload, 1), (118, .iconst 0, 1), (119, .bipush 8, 2), (121, .invokestatic 67, 3), (124, .ifCond .ne 6, 3), (127, .bipush (-2), 2), (129, .ireturn, 1), (130, .aload_n 0, 1), (131, .getfield 16, 3), (134, .iload 8, 2), (136, .iload 9, 2), (138, .iadd, 1), (139, .iaload, 1), (140, .bipush 6, 2), (142, .if_icmp .ge 22, 3), (145, .aload_n 0, 1), (146, .aload_n 0, 1), (147, .getfield 16, 3), (150, .iload 8, 2), (152, .iload 9, 2), (154, .iadd, 1), (155, .iaload, 1), (156, .invokevirtual 118, 3), (159, .ifCond .ne 5, 3), (162, .iconst (-1), 1), (163, .ireturn, 1), (164, .iinc 9 1, 3), (167, .goto (-66), 3), (170, .aload_n 0, 1), (171, .iload_n 1, 1), (172, .iload 8, 2), (174, .iload 5, 2), (176, .iload 6, 2), (178, .invokevirtual 176, 3), (181, .ireturn, 1)]
theorem dkX7_way : cv_dk cX7_way tbX7_way = true := by decide +kernel
def tbX7_wayOf : List (Nat × Instr × Nat) := [(0, .aload_n 0, 1), (1, .iload_n 1, 1), (2, .putfield 167, 3), (5, .aload_n 0, 1), (6, .iconst 0, 1), (7, .putfield 173, 3), (10, .aload_n 0, 1), (11, .iconst 0, 1), (12, .putfield 164, 3), (15, .aload_n 0, 1), (16, .iconst 0, 1), (17, .putfield 170, 3), (20, .bipush (-9), 2), (22, .istore 5, 2), (24, .iconst 0, 1), (25, .istore 6, 2), (27, .iload 6, 2), (29, .iload_n 3, 1), (30, .if_icmp .ge 67, 3), (33, .iload 5, 2), (35, .bipush (-9), 2), (37, .if_icmp .ne 60, 3), (40, .iload 6, 2), (42, .ifCond .gt 12, 3), (45, .aload_n 0, 1), (46, .iconst 0, 1), (47, .iload_n 1, 1), (48, .invokevirtual 136, 3), (51, .ifCond .eq 7, 3), (54, .iconst 1, 1), (55, .goto 4, 3), (58, .iconst 0, 1), (59, .istore 7, 2), (61, .iload 7, 2), (63, .ifCond .eq 24, 3), (66, .aload_n 0, 1), (67, .aload_n 0, 1), (68, .getfield 16, 3), (71, .iload_n 2, 1), (72, .iload 6, 2), (74, .iadd, 1), (75, .iaload, 1), (76, .invokevirtual 179, 3), (79, .ifCond .eq 8, 3), (82, .bipush (-9), 2), (84, .goto 5, 3), (87, .iload 6, 2), (89, .istore 5, 2), (91, .iinc 6 1, 3), (94, .goto (-67), 3), (97, .iload 4, 2), (99, .iconst 1, 1), (100, .if_icmp .ne 6, 3), (103, .iload 5, 2), (105, .ireturn, 1), (106, .iload 5, 2), (108, .bipush (-9), 2), (110, .if_icmp .eq 9, 3), (113, .bipush (-100), 2), (115, .iload 5, 2), (117, .isub, 1), (118, .ireturn, 1), (119, .iload 4, 2), (121, .ifCond .ne 10, 3), (124, .aload_n 0, 1), (125, .getfield 167, 3), (128, .goto 33, 3), (131, .iload 4, 2), (133, .iconst 2, 1), (134, .if_icmp .ne 10, 3), (137, .aload_n 0, 1), (138, .getfield 170, 3), (141, .goto 20, 3), (144, .iload 4, 2), (146, .iconst 3, 1), (147, .if_icmp .ne 10, 3), (150, .aload_n 0, 1), (151, .getfield 173, 3), (154, .goto 7, 3), (157, .aload_n 0, 1), (158, .getfield 164, 3), (161, .ireturn, 1)]
theorem dkX7_wayOf : cv_dk cX7_wayOf tbX7_wayOf = true := by decide +kernel
def tbX7_canBy : List (Nat × Instr × Nat) := [(0, .aload_n 0, 1), (1, .iload_n 1, 1), (2, .invokevirtual 161, 3), (5, .istore_n 3, 1), (6, .iload_n 3, 1), (7, .bipush (-9), 2), (9, .if_icmp .eq 12, 3), (12, .iload_n 3, 1), (13, .iload_n 2, 1), (14, .if_icmp .gt 7, 3), (17, .iconst 1, 1), (18, .goto 4, 3), (21, .iconst 0, 1), (22, .ireturn, 1)]
theorem dkX7_canBy : cv_dk cX7_canBy tbX7_canBy = true := by decide +kernel
def tbX7_last : List (Nat × Instr × Nat) := [(0, .iload_n 1, 1), (1, .invokestatic 124, 3), (4, .ifCond .ne 6, 3), (7, .bipush (-2), 2), (9, .ireturn, 1), (10, .aload_n 0, 1), (11, .getfield 71, 3), (14, .ifCond .ne 6, 3), (17, .bipush (-3), 2), (19, .ireturn, 1), (20, .bipush (-9), 2), (22, .istore_n 2, 1), (23, .iconst 0, 1), (24, .istore_n 3, 1), (25, .iload_n 3, 1), (26, .iload_n 1, 1), (27, .if_icmp .gt 24, 3), (30, .aload_n 0, 1), (31, .iload_n 3, 1), (32, .iload_n 1, 1), (33, .invokevirtual 182, 3), (36, .ifCond .eq 7, 3), (39, .iload_n 3, 1), (40, .goto 4, 3), (43, .iload_n 2, 1), (44, .istore_n 2, 1), (45, .iinc 3 1, 3), (48, .goto (-23), 3), (51, .iload_n 2, 1), (52, .ireturn, 1)]
theorem dkX7_last : cv_dk cX7_last tbX7_last = true := by decide +kernel
def tbX7_isSafe : List (Nat × Instr × Nat) := [(0, .aload_n 0, 1), (1, .getfield 22, 3), (4, .iconst 1, 1), (5, .iaload, 1), (6, .istore_n 3, 1), (7, .aload_n 0, 1), (8, .getfield 22, 3), (11, .iconst 2, 1), (12, .iaload, 1), (13, .istore 4, 2), (15, .iconst 1, 1), (16, .istore 5, 2), (18, .iconst 0, 1), (19, .istore 6, 2), (21, .iload 6, 2), (23, .bipush 81, 2), (25, .if_icmp .ge 57, 3), (28, .iload 5, 2), (30, .ifCond .eq 52, 3), (33, .aload_n 0, 1), (34, .getfield 22, 3), (37, .iconst 1, 1), (38, .iload_n 3, 1), (39, .iconst 1, 1), (40, .iload 6, 2), (42, .bipush 9, 2), (44, .idiv, 1), (45, .ishl, 1), (46, .iconst (-1), 1), (47, .ixor, 1), (48, .iand, 1), (49, .iastore, 1), (50, .aload_n 0, 1), (51, .getfield 22, 3), (54, .iconst 2, 1), (55, .iload 4, 2), (57, .iconst 1, 1), (58, .iload 6, 2), (60, .bipush 9, 2), (62, .irem, 1), (63, .ishl, 1), (64, .iconst (-1), 1), (65, .ixor, 1), (66, .iand, 1), (67, .iastore, 1), (68, .aload_n 0, 1), (69, .iload_n 1, 1), (70, .iload_n 2, 1), (71, .invokevirtual 182, 3), (74, .istore 5, 2), (76, .iinc 6 1, 3), (79, .goto (-58), 3), (82, .aload_n 0, 1), (83, .getfield 22, 3), (86, .iconst 1, 1), (87, .iload_n 3, 1), (88, .iastore, 1), (89, .aload_n 0, 1), (90, .getfield 22, 3), (93, .iconst 2, 1), (94, .iload 4, 2), (96, .iastore, 1), (97, .iload 5, 2), (99, .ireturn, 1)]
theorem dkX7_isSafe : cv_dk cX7_isSafe tbX7_isSafe = true := by decide +kernel
def tbX7_safe : List (Nat × Instr × Nat) := [(0, .iload_n 1, 1), (1, .invokestatic 124, 3), (4, .ifCond .ne 6, 3), (7, .bipush (-2), 2), (9, .ireturn, 1), (10, .aload_n 0, 1), (11, .getfield 71, 3), (14, .ifCond .ne 6, 3), (17, .bipush (-3), 2), (19, .ireturn, 1), (20, .bipush (-9), 2), (22, .istore_n 2, 1), (23, .iconst 0, 1), (24, .istore_n 3, 1), (25, .iload_n 3, 1), (26, .iload_n 1, 1), (27, .if_icmp .gt 24, 3), (30, .aload_n 0, 1), (31, .iload_n 3, 1), (32, .iload_n 1, 1), (33, .invokevirtual 185, 3), (36, .ifCond .eq 7, 3), (39, .iload_n 3, 1), (40, .goto 4, 3), (43, .iload_n 2, 1), (44, .istore_n 2, 1), (45, .iinc 3 1, 3), (48, .goto (-23), 3), (51, .iload_n 2, 1), (52, .ireturn, 1)]
theorem dkX7_safe : cv_dk cX7_safe tbX7_safe = true := by decide +kernel
def tbX7_hangs : List (Nat × Instr × Nat) := [(0, .iload_n 1, 1), (1, .invokestatic 124, 3), (4, .ifCond .eq 10, 3), (7, .iload_n 2, 1), (8, .invokestatic 124, 3), (11, .ifCond .ne 6, 3), (14, .bipush (-2), 2), (16, .ireturn, 1), (17, .aload_n 0, 1), (18, .getfield 71, 3), (21, .ifCond .ne 6, 3), (24, .bipush (-3), 2), (26, .ireturn, 1), (27, .aload_n 0, 1), (28, .iload_n 1, 1), (29, .iload_n 2, 1), (30, .invokevirtual 182, 3), (33, .ifCond .ne 5, 3), (36, .iconst 0, 1), (37, .ireturn, 1), (38, .iconst 0, 1), (39, .istore_n 3, 1), (40, .iconst 0, 1), (41, .istore 4, 2), (43, .iload 4, 2), (45, .aload_n 0, 1), (46, .getfield 71, 3), (49, .if_icmp .ge 35, 3), (52, .aload_n 0, 1), (53, .iload 4, 2), (55, .putfield 40, 3), (58, .iload_n 3, 1), (59, .aload_n 0, 1), (60, .iload_n 1, 1), (61, .iload_n 2, 1), (62, .invokevirtual 182, 3), (65, .ifCond .eq 7, 3), (68, .iconst 0, 1), (69, .goto 7, 3), (72, .iconst 1, 1), (73, .iload 4, 2), (75, .ishl, 1), (76, .ior, 1), (77, .istore_n 3, 1), (78, .iinc 4 1, 3), (81, .goto (-38), 3), (84, .aload_n 0, 1), (85, .bipush (-9), 2), (87, .putfield 40, 3), (90, .iload_n 3, 1), (91, .ireturn, 1)]
theorem dkX7_hangs : cv_dk cX7_hangs tbX7_hangs = true := by decide +kernel
def tbX7_peace : List (Nat × Instr × Nat) := [(0, .iload_n 1, 1), (1, .invokestatic 124, 3), (4, .ifCond .eq 10, 3), (7, .iload_n 2, 1), (8, .invokestatic 124, 3), (11, .ifCond .ne 6, 3), (14, .bipush (-2), 2), (16, .ireturn, 1), (17, .aload_n 0, 1), (18, .getfield 71, 3), (21, .ifCond .ne 6, 3), (24, .bipush (-3), 2), (26, .ireturn, 1), (27, .aload_n 0, 1), (28, .getfield 22, 3), (31, .iconst 1, 1), (32, .iaload, 1), (33, .istore_n 3, 1), (34, .aload_n 0, 1), (35, .getfield 22, 3), (38, .iconst 2, 1), (39, .iaload, 1), (40, .istore 4, 2), (42, .bipush (-9), 2), (44, .istore 5, 2), (46, .iconst 0, 1), (47, .istore 6, 2), (49, .iload 6, 2), (51, .iconst 4, 1), (52, .if_icmp .ge 90, 3), (55, .iload 6, 2), (57, .iconst 2, 1), (58, .irem, 1), (59, .iload 6, 2), (61, .iconst 2, 1), (62, .idiv, 1), (63, .iadd, 1), (64, .istore 7, 2), (66, .aload_n 0, 1), (67, .getfield 22, 3), (70, .iconst 1, 1), (71, .iload 6, 2), (73, .iconst 2, 1), (74, .irem, 1), (75, .iconst 1, 1), (76, .if_icmp .ne 9, 3), (79, .sipush 255, 3), (82, .goto 4, 3), (85, .iload_n 3, 1), (86, .iastore, 1), (87, .aload_n 0, 1), (88, .getfield 22, 3), (91, .iconst 2, 1), (92, .iload 6, 2), (94, .iconst 2, 1), (95, .idiv, 1), (96, .iconst 1, 1), (97, .if_icmp .ne 9, 3), (100, .sipush 255, 3), (103, .goto 5, 3), (106, .iload 4, 2), (108, .iastore, 1), (109, .iload 5, 2), (111, .bipush (-9), 2), (113, .if_icmp .eq 10, 3), (116, .iload 7, 2), (118, .iload 5, 2), (120, .if_icmp .ge 16, 3), (123, .aload_n 0, 1), (124, .iload_n 1, 1), (125, .iload_n 2, 1), (126, .invokevirtual 182, 3), (129, .ifCond .eq 7, 3), (132, .iload 7, 2), (134, .istore 5, 2), (136, .iinc 6 1, 3), (139, .goto (-90), 3), (142, .aload_n 0, 1), (143, .getfield 22, 3), (146, .iconst 1, 1), (147, .iload_n 3, 1), (148, .iastore, 1), (149, .aload_n 0, 1), (150, .getfield 22, 3), (153, .iconst 2, 1), (154, .iload 4, 2), (156, .iastore, 1), (157, .iload 5, 2), (159, .ireturn, 1)]
theorem dkX7_peace : cv_dk cX7_peace tbX7_peace = true := by decide +kernel
def tbX7_reading : List (Nat × Instr × Nat) := [(0, .iload_n 1, 1), (1, .invokestatic 124, 3), (4, .ifCond .eq 16, 3), (7, .iload_n 2, 1), (8, .bipush (-9), 2), (10, .if_icmp .eq 13, 3), (13, .iload_n 2, 1), (14, .invokestatic 124, 3), (17, .ifCond .ne 6, 3), (20, .bipush (-2), 2), (22, .ireturn, 1), (23, .aload_n 0, 1), (24, .getfield 71, 3), (27, .ifCond .ne 6, 3), (30, .bipush (-3), 2), (32, .ireturn, 1), (33, .aload_n 0, 1), (34, .getfield 105, 3), (37, .bipush 8, 2), (39, .if_icmp .ne 6, 3), (42, .bipush (-4), 2), (44, .ireturn, 1), (45, .aload_n 0, 1), (46, .getfield 56, 3), (49, .aload_n 0, 1), (50, .getfield 105, 3), (53, .iload_n 1, 1), (54, .iastore, 1), (55, .aload_n 0, 1), (56, .getfield 59, 3), (59, .aload_n 0, 1), (60, .getfield 105, 3), (63, .iload_n 2, 1), (64, .iastore, 1), (65, .aload_n 0, 1), (66, .dup, 1), (67, .getfield 105, 3), (70, .iconst 1, 1), (71, .iadd, 1), (72, .putfield 105, 3), (75, .aload_n 0, 1), (76, .getfield 105, 3), (79, .iconst 1, 1), (80, .isub, 1), (81, .ireturn, 1)]
theorem dkX7_reading : cv_dk cX7_reading tbX7_reading = true := by decide +kernel
def tbX7_back : List (Nat × Instr × Nat) := [(0, .iload_n 1, 1), (1, .iconst 0, 1), (2, .aload_n 0, 1), (3, .getfield 105, 3), (6, .invokestatic 67, 3), (9, .ifCond .ne 6, 3), (12, .bipush (-2), 2), (14, .ireturn, 1), (15, .aload_n 0, 1), (16, .dup, 1), (17, .getfield 105, 3), (20, .iload_n 1, 1), (21, .isub, 1), (22, .putfield 105, 3), (25, .aload_n 0, 1), (26, .getfield 105, 3), (29, .ireturn, 1)]
theorem dkX7_back : cv_dk cX7_back tbX7_back = true := by decide +kernel
def tbX7_areSo : List (Nat × Instr × Nat) := [(0, .iconst 0, 1), (1, .istore_n 1, 1), (2, .iload_n 1, 1), (3, .aload_n 0, 1), (4, .getfield 105, 3), (7, .if_icmp .ge 30, 3), (10, .aload_n 0, 1), (11, .aload_n 0, 1), (12, .getfield 56, 3), (15, .iload_n 1, 1), (16, .iaload, 1), (17, .invokevirtual 161, 3), (20, .aload_n 0, 1), (21, .getfield 59, 3), (24, .iload_n 1, 1), (25, .iaload, 1), (26, .if_icmp .eq 5, 3), (29, .iconst 0, 1), (30, .ireturn, 1), (31, .iinc 1 1, 3), (34, .goto (-32), 3), (37, .iconst 1, 1), (38, .ireturn, 1)]
theorem dkX7_areSo : cv_dk cX7_areSo tbX7_areSo = true := by decide +kernel
def tbX7_snows : List (Nat × Instr × Nat) := [(0, .iload_n 1, 1), (1, .invokestatic 124, 3), (4, .ifCond .ne 6, 3), (7, .bipush (-2), 2), (9, .ireturn, 1), (10, .aload_n 0, 1), (11, .getfield 71, 3), (14, .ifCond .ne 6, 3), (17, .bipush (-3), 2), (19, .ireturn, 1), (20, .aload_n 0, 1), (21, .getfield 19, 3), (24, .iload_n 1, 1), (25, .iaload, 1), (26, .istore_n 2, 1), (27, .iconst 0, 1), (28, .istore_n 3, 1), (29, .iconst 0, 1), (30, .istore 4, 2), (32, .iload 4, 2), (34, .bipush 9, 2), (36, .if_icmp .gt 35, 3), (39, .aload_n 0, 1), (40, .getfield 19, 3), (43, .iload_n 1, 1), (44, .iload 4, 2), (46, .iastore, 1), (47, .iload_n 3, 1), (48, .aload_n 0, 1), (49, .invokevirtual 188, 3), (52, .ifCond .eq 10, 3), (55, .iconst 1, 1), (56, .iload 4, 2), (58, .ishl, 1), (59, .goto 4, 3), (62, .iconst 0, 1), (63, .ior, 1), (64, .istore_n 3, 1), (65, .iinc 4 1, 3), (68, .goto (-36), 3), (71, .aload_n 0, 1), (72, .getfield 19, 3), (75, .iload_n 1, 1), (76, .iload_n 2, 1), (77, .iastore, 1), (78, .iload_n 3, 1), (79, .ireturn, 1)]
theorem dkX7_snows : cv_dk cX7_snows tbX7_snows = true := by decide +kernel
def tbX7_heights : List (Nat × Instr × Nat) := [(0, .aload_n 0, 1), (1, .iload_n 1, 1), (2, .invokevirtual 118, 3), (5, .ifCond .ne 5, 3), (8, .iconst (-1), 1), (9, .ireturn, 1), (10, .aload_n 0, 1), (11, .getfield 37, 3), (14, .iload_n 1, 1), (15, .iaload, 1), (16, .istore_n 2, 1), (17, .iconst 0, 1), (18, .istore_n 3, 1), (19, .iconst 0, 1), (20, .istore 4, 2), (22, .iload 4, 2), (24, .bipush 9, 2), (26, .if_icmp .gt 35, 3), (29, .aload_n 0, 1), (30, .getfield 37, 3), (33, .iload_n 1, 1), (34, .iload 4, 2), (36, .iastore, 1), (37, .iload_n 3, 1), (38, .aload_n 0, 1), (39, .invokevirtual 188, 3), (42, .ifCond .eq 10, 3), (45, .iconst 1, 1), (46, .iload 4, 2), (48, .ishl, 1), (49, .goto 4, 3), (52, .iconst 0, 1), (53, .ior, 1), (54, .istore_n 3, 1), (55, .iinc 4 1, 3), (58, .goto (-36), 3), (61, .aload_n 0, 1), (62, .getfield 37, 3), (65, .iload_n 1, 1), (66, .iload_n 2, 1), (67, .iastore, 1), (68, .iload_n 3, 1), (69, .ireturn, 1)]
theorem dkX7_heights : cv_dk cX7_heights tbX7_heights = true := by decide +kernel
def tbX7_kinds : List (Nat × Instr × Nat) := [(0, .aload_n 0, 1), (1, .iload_n 1, 1), (2, .invokevirtual 118, 3), (5, .ifCond .ne 5, 3), (8, .iconst (-1), 1), (9, .ireturn, 1), (10, .aload_n 0, 1), (11, .getfield 25, 3), (14, .iload_n 1, 1), (15, .iaload, 1), (16, .istore_n 2, 1), (17, .iconst 0, 1), (18, .istore_n 3, 1), (19, .iconst 0, 1), (20, .istore 4, 2), (22, .iload 4, 2), (24, .iconst 3, 1), (25, .if_icmp .ge 35, 3), (28, .aload_n 0, 1), (29, .getfield 25, 3), (32, .iload_n 1, 1), (33, .iload 4, 2), (35, .iastore, 1), (36, .iload_n 3, 1), (37, .aload_n 0, 1), (38, .invokevirtual 188, 3), (41, .ifCond .eq 10, 3), (44, .iconst 1, 1), (45, .iload 4, 2), (47, .ishl, 1), (48, .goto 4, 3), (51, .iconst 0, 1), (52, .ior, 1), (53, .istore_n 3, 1), (54, .iinc 4 1, 3), (57, .goto (-35), 3), (60, .aload_n 0, 1), (61, .getfield 25, 3), (64, .iload_n 1, 1), (65, .iload_n 2, 1), (66, .iastore, 1), (67, .iload_n 3, 1), (68, .ireturn, 1)]
theorem dkX7_kinds : cv_dk cX7_kinds tbX7_kinds = true := by decide +kernel
def tbX7_gave : List (Nat × Instr × Nat) := [(0, .iload_n 1, 1), (1, .invokestatic 127, 3), (4, .ifCond .ne 5, 3), (7, .iconst (-1), 1), (8, .ireturn, 1), (9, .iload_n 2, 1), (10, .iconst 0, 1), (11, .iconst 1, 1), (12, .invokestatic 67, 3), (15, .ifCond .ne 6, 3), (18, .bipush (-2), 2), (20, .ireturn, 1), (21, .aload_n 0, 1), (22, .getfield 71, 3), (25, .ifCond .ne 6, 3), (28, .bipush (-3), 2), (30, .ireturn, 1), (31, .aload_n 0, 1), (32, .getfield 22, 3), (35, .iload_n 1, 1), (36, .iaload, 1), (37, .istore_n 3, 1), (38, .iconst 0, 1), (39, .istore 4, 2), (41, .bipush (-9), 2), (43, .istore 5, 2), (45, .iconst 0, 1), (46, .istore 6, 2), (48, .iload 6, 2), (50, .sipush 255, 3), (53, .if_icmp .gt 41, 3), (56, .aload_n 0, 1), (57, .getfield 22, 3), (60, .iload_n 1, 1), (61, .iload 6, 2), (63, .iastore, 1), (64, .aload_n 0, 1), (65, .invokevirtual 188, 3), (68, .ifCond .eq 20, 3), (71, .iload 4, 2), (73, .ifCond .ne 8, 3), (76, .iload 6, 2), (78, .goto 5, 3), (81, .iload 5, 2), (83, .istore 5, 2), (85, .iinc 4 1, 3), (88, .iinc 6 1, 3), (91, .goto (-43), 3), (94, .aload_n 0, 1), (95, .getfield 22, 3), (98, .iload_n 1, 1), (99, .iload_n 3, 1), (100, .iastore, 1), (101, .iload_n 2, 1), (102, .ifCond .ne 8, 3), (105, .iload 4, 2), (107, .goto 5, 3), (110, .iload 5, 2), (112, .ireturn, 1)]
theorem dkX7_gave : cv_dk cX7_gave tbX7_gave = true := by decide +kernel
def tbX7_inLeastTerms : List (Nat × Instr × Nat) := [(0, .lload_n 0, 1), (1, .lstore 5, 2), (3, .lload_n 2, 1), (4, .lstore 7, 2), (6, .lload 7, 2), (8, .lconst 0, 1), (9, .lcmp, 1), (10, .ifCond .eq 21, 3), (13, .lload 5, 2), (15, .lload 7, 2), (17, .lrem, 1), (18, .lstore 9, 2), (20, .lload 7, 2), (22, .lstore 5, 2), (24, .lload 9, 2), (26, .lstore 7, 2), (28, .goto (-22), 3), (31, .iload 4, 2), (33, .ifCond .ne 10, 3), (36, .lload_n 0, 1), (37, .lload 5, 2), (39, .ldiv, 1), (40, .goto 7, 3), (43, .lload_n 2, 1), (44, .lload 5, 2), (46, .ldiv, 1), (47, .lreturn, 1)]
theorem dkX7_inLeastTerms : cv_dk cX7_inLeastTerms tbX7_inLeastTerms = true := by decide +kernel
def tbX7_odds : List (Nat × Instr × Nat) := [(0, .iload_n 1, 1), (1, .iconst 1, 1), (2, .iconst 2, 1), (3, .invokestatic 67, 3), (6, .ifCond .eq 34, 3), (9, .iload_n 2, 1), (10, .invokestatic 124, 3), (13, .ifCond .eq 27, 3), (16, .iload_n 3, 1), (17, .invokestatic 124, 3), (20, .ifCond .eq 20, 3), (23, .iload 4, 2), (25, .iconst 0, 1), (26, .iconst 1, 1), (27, .invokestatic 67, 3), (30, .ifCond .eq 10, 3), (33, .aload_n 0, 1), (34, .getfield 71, 3), (37, .ifCond .ne 7, 3), (40, .ldc2_w 65, 3), (43, .lreturn, 1), (44, .aload_n 0, 1), (45, .getfield 22, 3), (48, .iload_n 1, 1), (49, .iaload, 1), (50, .istore 5, 2), (52, .iconst 0, 1), (53, .istore 6, 2), (55, .iconst 0, 1), (56, .istore 7, 2), (58, .iconst 0, 1), (59, .istore 8, 2), (61, .iload 8, 2), (63, .sipush 255, 3), (66, .if_icmp .gt 49, 3), (69, .iload 8, 2), (71, .iload 5, 2), (73, .iconst (-1), 1), (74, .ixor, 1), (75, .iand, 1), (76, .ifCond .ne 33, 3), (79, .aload_n 0, 1), (80, .getfield 22, 3), (83, .iload_n 1, 1), (84, .iload 8, 2), (86, .iastore, 1), (87, .iload 6, 2), (89, .aload_n 0, 1), (90, .iload_n 2, 1), (91, .iload_n 3, 1), (92, .invokevirtual 182, 3), (95, .ifCond .eq 7, 3), (98, .iconst 1, 1), (99, .goto 4, 3), (102, .iconst 0, 1), (103, .iadd, 1), (104, .istore 6, 2), (106, .iinc 7 1, 3), (109, .iinc 8 1, 3), (112, .goto (-51), 3), (115, .aload_n 0, 1), (116, .getfield 22, 3), (119, .iload_n 1, 1), (120, .iload 5, 2), (122, .iastore, 1), (123, .iload 6, 2), (125, .i2l, 1), (126, .iload 7, 2), (128, .i2l, 1), (129, .iload 4, 2), (131, .invokestatic 192, 3), (134, .lreturn, 1)]
theorem dkX7_odds : cv_dk cX7_odds tbX7_odds = true := by decide +kernel
def tbX7_sheet : List (Nat × Instr × Nat) := [(0, .aload_n 0, 1), (1, .iconst 0, 1), (2, .putfield 62, 3), (5, .iload_n 1, 1), (6, .invokestatic 81, 3), (9, .ifCond .ne 5, 3), (12, .iconst (-1), 1), (13, .ireturn, 1), (14, .iload_n 2, 1), (15, .invokestatic 85, 3), (18, .ifCond .eq 9, 3), (21, .iload_n 3, 1), (22, .bipush 60, 2), (24, .if_icmp .le 6, 3), (27, .bipush (-2), 2), (29, .ireturn, 1), (30, .iload_n 3, 1), (31, .ifCond .ge 9, 3), (34, .aload_n 0, 1), (35, .iconst 4, 1), (36, .invokevirtual 92, 3), (39, .ireturn, 1), (40, .aload_n 0, 1), (41, .getfield 9, 3), (44, .iload_n 1, 1), (45, .iload_n 2, 1), (46, .iastore, 1), (47, .aload_n 0, 1), (48, .getfield 13, 3), (51, .iload_n 1, 1), (52, .iload_n 3, 1), (53, .iastore, 1), (54, .iconst 0, 1), (55, .istore 4, 2), (57, .iload 4, 2), (59, .bipush 60, 2), (61, .if_icmp .ge 22, 3), (64, .aload_n 0, 1), (65, .getfield 16, 3), (68, .bipush 60, 2), (70, .iload_n 1, 1), (71, .imul, 1), (72, .iload 4, 2), (74, .iadd, 1), (75, .iconst 0, 1), (76, .iastore, 1), (77, .iinc 4 1, 3), (80, .goto (-23), 3), (83, .iconst 1, 1), (84, .ireturn, 1)]
theorem dkX7_sheet : cv_dk cX7_sheet tbX7_sheet = true := by decide +kernel
def tbX7_lose : List (Nat × Instr × Nat) := [(0, .iload_n 1, 1), (1, .invokestatic 81, 3), (4, .ifCond .ne 5, 3), (7, .iconst (-1), 1), (8, .ireturn, 1), (9, .aload_n 0, 1), (10, .getfield 9, 3), (13, .iload_n 1, 1), (14, .iaload, 1), (15, .bipush (-9), 2), (17, .if_icmp .ne 7, 3), (20, .iconst 0, 1), (21, .goto 4, 3), (24, .iconst 1, 1), (25, .istore_n 2, 1), (26, .aload_n 0, 1), (27, .getfield 9, 3), (30, .iload_n 1, 1), (31, .bipush (-9), 2), (33, .iastore, 1), (34, .iload_n 2, 1), (35, .ireturn, 1)]
theorem dkX7_lose : cv_dk cX7_lose tbX7_lose = true := by decide +kernel
def tbX7_put : List (Nat × Instr × Nat) := [(0, .aload_n 0, 1), (1, .iconst 0, 1), (2, .putfield 62, 3), (5, .iload_n 1, 1), (6, .invokestatic 81, 3), (9, .ifCond .ne 5, 3), (12, .iconst (-1), 1), (13, .ireturn, 1), (14, .aload_n 0, 1), (15, .getfield 9, 3), (18, .iload_n 1, 1), (19, .iaload, 1), (20, .bipush (-9), 2), (22, .if_icmp .ne 9, 3), (25, .aload_n 0, 1), (26, .iconst 1, 1), (27, .invokevirtual 92, 3), (30, .ireturn, 1), (31, .iload_n 2, 1), (32, .iconst 0, 1), (33, .aload_n 0, 1), (34, .getfield 13, 3), (37, .iload_n 1, 1), (38, .iaload, 1), (39, .iconst 1, 1), (40, .isub, 1), (41, .invokestatic 67, 3), (44, .ifCond .ne 9, 3), (47, .aload_n 0, 1), (48, .iconst 3, 1), (49, .invokevirtual 92, 3), (52, .ireturn, 1), (53, .aload_n 0, 1), (54, .getfield 16, 3), (57, .bipush 60, 2), (59, .iload_n 1, 1), (60, .imul, 1), (61, .iload_n 2, 1), (62, .iadd, 1), (63, .aload_n 0, 1), (64, .getfield 9, 3), (67, .iload_n 1, 1), (68, .iaload, 1), (69, .ifCond .ne 8, 3), (72, .iload_n 3, 1), (73, .i2b, 1), (74, .goto 19, 3), (77, .aload_n 0, 1), (78, .getfield 9, 3), (81, .iload_n 1, 1), (82, .iaload, 1), (83, .iconst 1, 1), (84, .if_icmp .ne 8, 3), (87, .iload_n 3, 1), (88, .i2s, 1), (89, .goto 4, 3), (92, .iload_n 3, 1), (93, .iastore, 1), (94, .iconst 1, 1), (95, .ireturn, 1)]
theorem dkX7_put : cv_dk cX7_put tbX7_put = true := by decide +kernel
def tbX7_cell : List (Nat × Instr × Nat) := [(0, .aload_n 0, 1), (1, .iconst 0, 1), (2, .putfield 62, 3), (5, .iload_n 1, 1), (6, .invokestatic 81, 3), (9, .ifCond .eq 10, 3), (12, .iload_n 3, 1), (13, .invokestatic 85, 3), (16, .ifCond .ne 7, 3), (19, .ldc2_w 65, 3), (22, .lreturn, 1), (23, .aload_n 0, 1), (24, .getfield 9, 3), (27, .iload_n 1, 1), (28, .iaload, 1), (29, .bipush (-9), 2), (31, .if_icmp .eq 19, 3), (34, .aload_n 0, 1), (35, .getfield 9, 3), (38, .iload_n 1, 1), (39, .iaload, 1), (40, .iload_n 3, 1), (41, .if_icmp .eq 9, 3), (44, .aload_n 0, 1), (45, .iconst 2, 1), (46, .invokevirtual 196, 3), (49, .lreturn, 1), (50, .aload_n 0, 1), (51, .getfield 9, 3), (54, .iload_n 1, 1), (55, .iaload, 1), (56, .bipush (-9), 2), (58, .if_icmp .ne 9, 3), (61, .aload_n 0, 1), (62, .iconst 1, 1), (63, .invokevirtual 196, 3), (66, .lreturn, 1), (67, .iload_n 2, 1), (68, .iconst 0, 1), (69, .aload_n 0, 1), (70, .getfield 13, 3), (73, .iload_n 1, 1), (74, .iaload, 1), (75, .iconst 1, 1), (76, .isub, 1), (77, .invokestatic 67, 3), (80, .ifCond .ne 9, 3), (83, .aload_n 0, 1), (84, .iconst 3, 1), (85, .invokevirtual 196, 3), (88, .lreturn, 1), (89, .aload_n 0, 1), (90, .getfield 16, 3), (93, .bipush 60, 2), (95, .iload_n 1, 1), (96, .imul, 1), (97, .iload_n 2, 1), (98, .iadd, 1), (99, .iaload, 1), (100, .i2l, 1), (101, .lreturn, 1)]
theorem dkX7_cell : cv_dk cX7_cell tbX7_cell = true := by decide +kernel
def tbX7_copy : List (Nat × Instr × Nat) := [(0, .aload_n 0, 1), (1, .iconst 0, 1), (2, .putfield 62, 3), (5, .iload_n 1, 1), (6, .invokestatic 81, 3), (9, .ifCond .eq 10, 3), (12, .iload_n 3, 1), (13, .invokestatic 81, 3), (16, .ifCond .ne 5, 3), (19, .iconst (-1), 1), (20, .ireturn, 1), (21, .aload_n 0, 1), (22, .getfield 9, 3), (25, .iload_n 1, 1), (26, .iaload, 1), (27, .bipush (-9), 2), (29, .if_icmp .eq 14, 3), (32, .aload_n 0, 1), (33, .getfield 9, 3), (36, .iload_n 3, 1), (37, .iaload, 1), (38, .bipush (-9), 2), (40, .if_icmp .ne 9, 3), (43, .aload_n 0, 1), (44, .iconst 1, 1), (45, .invokevirtual 92, 3), (48, .ireturn, 1), (49, .aload_n 0, 1), (50, .getfield 9, 3), (53, .iload_n 1, 1), (54, .iaload, 1), (55, .aload_n 0, 1), (56, .getfield 9, 3), (59, .iload_n 3, 1), (60, .iaload, 1), (61, .if_icmp .eq 9, 3), (64, .aload_n 0, 1), (65, .iconst 2, 1), (66, .invokevirtual 92, 3), (69, .ireturn, 1), (70, .iload_n 2, 1), (71, .ifCond .lt 38, 3), (74, .iload 4, 2), (76, .ifCond .lt 33, 3), (79, .iload 5, 2), (81, .ifCond .lt 28, 3), (84, .iload_n 2, 1), (85, .aload_n 0, 1), (86, .getfield 13, 3), (89, .iload_n 1, 1), (90, .iaload, 1), (91, .if_icmp .gt 18, 3), (94, .iload 4, 2), (96, .aload_n 0, 1), (97, .getfield 13, 3), (100, .iload_n 3, 1), (101, .iaload, 1), (102, .if_icmp .gt 7, 3), (105, .iconst 1, 1), (106, .goto 4, 3), (109, .iconst 0, 1), (110, .istore 6, 2), (112, .iload 6, 2), (114, .ifCond .eq 30, 3), (117, .iload 5, 2), (119, .aload_n 0, 1), (120, .getfield 13, 3), (123, .iload_n 1, 1), (124, .iaload, 1), (125, .iload_n 2, 1), (126, .isub, 1), (127, .if_icmp .gt 17, 3), (130, .iload 5, 2), (132, .aload_n 0, 1), (133, .getfield 13, 3), (136, .iload_n 3, 1), (137, .iaload, 1), (138, .iload 4, 2), (140, .isub, 1), (141, .if_icmp .le 9, 3), (144, .aload_n 0, 1), (145, .iconst 3, 1), (146, .invokevirtual 92, 3), (149, .ireturn, 1), (150, .iload_n 2, 1), (151, .iload 4, 2), (153, .if_icmp .ge 7, 3), (156, .iconst 1, 1), (157, .goto 4, 3), (160, .iconst 0, 1), (161, .istore 7, 2), (163, .iconst 0, 1), (164, .istore 8, 2), (166, .iload 8, 2), (168, .iload 5, 2), (170, .if_icmp .ge 57, 3), (173, .iload 7, 2), (175, .ifCond .eq 13, 3), (178, .iload 5, 2), (180, .iconst 1, 1), (181, .isub, 1), (182, .iload 8, 2), (184, .isub, 1), (185, .goto 5, 3), (188, .iload 8, 2), (190, .istore 9, 2), (192, .aload_n 0, 1), (193, .getfield 16, 3), (196, .bipush 60, 2), (198, .iload_n 3, 1), (199, .imul, 1), (200, .iload 4, 2), (202, .iadd, 1), (203, .iload 9, 2), (205, .iadd, 1), (206, .aload_n 0, 1), (207, .getfield 16, 3), (210, .bipush 60, 2), (212, .iload_n 1, 1), (213, .imul, 1), (214, .iload_n 2, 1), (215, .iadd, 1), (216, .iload 9, 2), (218, .iadd, 1), (219, .iaload, 1), (220, .iastore, 1), (221, .iinc 8 1, 3), (224, .goto (-58), 3), (227, .iload 5, 2), (229, .ireturn, 1)]
theorem dkX7_copy : cv_dk cX7_copy tbX7_copy = true := by decide +kernel
def tbX7_begins : List (Nat × Instr × Nat) := [(0, .aload_n 0, 1), (1, .bipush 31, 2), (3, .aload_n 0, 1), (4, .getfield 200, 3), (7, .imul, 1), (8, .iload_n 1, 1), (9, .iadd, 1), (10, .putfield 200, 3), (13, .return_, 1)]
theorem dkX7_begins : cv_dk cX7_begins tbX7_begins = true := by decide +kernel
def tbX7_tell : List (Nat × Instr × Nat) := [(0, .aload_n 0, 1), (1, .iload_n 1, 1), (2, .invokevirtual 118, 3), (5, .ifCond .ne 5, 3), (8, .iconst (-1), 1), (9, .ireturn, 1), (10, .aload_n 0, 1), (11, .getfield 37, 3), (14, .iload_n 1, 1), (15, .iaload, 1), (16, .istore_n 2, 1), (17, .aload_n 0, 1), (18, .getfield 25, 3), (21, .iload_n 1, 1), (22, .iaload, 1), (23, .lookupswitch 67 #[(1, 25), (2, 40)], 25), (48, .aload_n 0, 1), (49, .iconst 2, 1), (50, .invokevirtual 203, 3), (53, .aload_n 0, 1), (54, .iconst 1, 1), (55, .invokevirtual 203, 3), (58, .iload_n 2, 1), (59, .bipush 100, 2), (61, .iadd, 1), (62, .ireturn, 1), (63, .aload_n 0, 1), (64, .iconst 3, 1), (65, .invokevirtual 203, 3), (68, .aload_n 0, 1), (69, .iconst 2, 1), (70, .invokevirtual 203, 3), (73, .aload_n 0, 1), (74, .iconst 1, 1), (75, .invokevirtual 203, 3), (78, .aload_n 0, 1), (79, .iconst 1, 1), (80, .invokevirtual 203, 3), (83, .iconst 2, 1), (84, .iload_n 2, 1), (85, .imul, 1), (86, .bipush 100, 2), (88, .iadd, 1), (89, .ireturn, 1), (90, .aload_n 0, 1), (91, .iconst 1, 1), (92, .invokevirtual 203, 3), (95, .iload_n 2, 1), (96, .ireturn, 1)]
theorem dkX7_tell : cv_dk cX7_tell tbX7_tell = true := by decide +kernel
def tbX7_mark : List (Nat × Instr × Nat) := [(0, .aload_n 0, 1), (1, .iload_n 1, 1), (2, .invokevirtual 118, 3), (5, .ifCond .ne 5, 3), (8, .iconst (-1), 1), (9, .ireturn, 1), (10, .aload_n 0, 1), (11, .aload_n 0, 1), (12, .getfield 25, 3), (15, .iload_n 1, 1), (16, .iaload, 1), (17, .iconst 2, 1), (18, .if_icmp .ne 7, 3), (21, .iconst 5, 1), (22, .goto 4, 3), (25, .iconst 4, 1), (26, .invokevirtual 203, 3), (29, .aload_n 0, 1), (30, .getfield 25, 3), (33, .iload_n 1, 1), (34, .iaload, 1), (35, .iconst 2, 1), (36, .if_icmp .ne 8, 3), (39, .bipush 80, 2), (41, .goto 4, 3), (44, .iload_n 1, 1), (45, .ireturn, 1)]
theorem dkX7_mark : cv_dk cX7_mark tbX7_mark = true := by decide +kernel
def tbX7_as : List (Nat × Instr × Nat) := [(0, .aload_n 0, 1), (1, .iconst 0, 1), (2, .putfield 62, 3), (5, .aload_n 0, 1), (6, .iload_n 1, 1), (7, .invokevirtual 118, 3), (10, .ifCond .ne 5, 3), (13, .iconst (-1), 1), (14, .ireturn, 1), (15, .iload_n 2, 1), (16, .iconst 0, 1), (17, .iconst 2, 1), (18, .invokestatic 67, 3), (21, .ifCond .ne 6, 3), (24, .bipush (-2), 2), (26, .ireturn, 1), (27, .aload_n 0, 1), (28, .getfield 25, 3), (31, .iload_n 1, 1), (32, .iaload, 1), (33, .iload_n 2, 1), (34, .if_icmp .lt 7, 3), (37, .iconst 1, 1), (38, .goto 8, 3), (41, .aload_n 0, 1), (42, .iconst 2, 1), (43, .invokevirtual 92, 3), (46, .ireturn, 1)]
theorem dkX7_as : cv_dk cX7_as tbX7_as = true := by decide +kernel
def tbX7_trace : List (Nat × Instr × Nat) := [(0, .aload_n 0, 1), (1, .getfield 200, 3), (4, .ireturn, 1)]
theorem dkX7_trace : cv_dk cX7_trace tbX7_trace = true := by decide +kernel
def tbX7_fault : List (Nat × Instr × Nat) := [(0, .aload_n 0, 1), (1, .getfield 62, 3), (4, .ireturn, 1)]
theorem dkX7_fault : cv_dk cX7_fault tbX7_fault = true := by decide +kernel
def tbX7_allGive : List (Nat × Instr × Nat) := [(0, .iconst 0, 1), (1, .istore_n 1, 1), (2, .iconst 0, 1), (3, .istore_n 2, 1), (4, .iload_n 2, 1), (5, .bipush 8, 2), (7, .if_icmp .ge 44, 3), (10, .iload_n 1, 1), (11, .aload_n 0, 1), (12, .iconst 0, 1), (13, .iload_n 2, 1), (14, .invokevirtual 136, 3), (17, .ifCond .eq 25, 3), (20, .aload_n 0, 1), (21, .iconst 1, 1), (22, .iload_n 2, 1), (23, .invokevirtual 136, 3), (26, .ifCond .eq 16, 3), (29, .aload_n 0, 1), (30, .iconst 2, 1), (31, .iload_n 2, 1), (32, .invokevirtual 136, 3), (35, .ifCond .eq 7, 3), (38, .iconst 1, 1), (39, .goto 4, 3), (42, .iconst 0, 1), (43, .iadd, 1), (44, .istore_n 1, 1), (45, .iinc 2 1, 3), (48, .goto (-44), 3), (51, .iload_n 1, 1), (52, .ireturn, 1)]
theorem dkX7_allGive : cv_dk cX7_allGive tbX7_allGive = true := by decide +kernel
def tbX7_many : List (Nat × Instr × Nat) := [(0, .iload_n 1, 1), (1, .ifCond .ne 10, 3), (4, .aload_n 0, 1), (5, .getfield 71, 3), (8, .goto 29, 3), (11, .iload_n 1, 1), (12, .iconst 1, 1), (13, .if_icmp .ne 10, 3), (16, .aload_n 0, 1), (17, .invokevirtual 206, 3), (20, .goto 17, 3), (23, .iload_n 1, 1), (24, .iconst 2, 1), (25, .if_icmp .ne 10, 3), (28, .aload_n 0, 1), (29, .getfield 105, 3), (32, .goto 5, 3), (35, .bipush (-2), 2), (37, .ireturn, 1)]
theorem dkX7_many : cv_dk cX7_many tbX7_many = true := by decide +kernel
def tbJ6_bitCount_0f7a4 : List (Nat × Instr × Nat) := [(0, .iload_n 0, 1), (1, .iload_n 0, 1), (2, .iconst 1, 1), (3, .iushr, 1), (4, .ldc_w 265, 3), (7, .iand, 1), (8, .isub, 1), (9, .istore_n 0, 1), (10, .iload_n 0, 1), (11, .ldc_w 266, 3), (14, .iand, 1), (15, .iload_n 0, 1), (16, .iconst 2, 1), (17, .iushr, 1), (18, .ldc_w 266, 3), (21, .iand, 1), (22, .iadd, 1), (23, .istore_n 0, 1), (24, .iload_n 0, 1), (25, .iload_n 0, 1), (26, .iconst 4, 1), (27, .iushr, 1), (28, .iadd, 1), (29, .ldc_w 267, 3), (32, .iand, 1), (33, .istore_n 0, 1), (34, .iload_n 0, 1), (35, .iload_n 0, 1), (36, .bipush 8, 2), (38, .iushr, 1), (39, .iadd, 1), (40, .istore_n 0, 1), (41, .iload_n 0, 1), (42, .iload_n 0, 1), (43, .bipush 16, 2), (45, .iushr, 1), (46, .iadd, 1), (47, .istore_n 0, 1), (48, .iload_n 0, 1), (49, .bipush 63, 2), (51, .iand, 1), (52, .ireturn, 1)]
theorem dkJ6_bitCount_0f7a4 : cv_dk cJ6_bitCount_0f7a4 tbJ6_bitCount_0f7a4 = true := by decide +kernel
def tbJ9_max_7cf53 : List (Nat × Instr × Nat) := [(0, .iload_n 0, 1), (1, .iload_n 1, 1), (2, .if_icmp .lt 7, 3), (5, .iload_n 0, 1), (6, .goto 4, 3), (9, .iload_n 1, 1), (10, .ireturn, 1)]
theorem dkJ9_max_7cf53 : cv_dk cJ9_max_7cf53 tbJ9_max_7cf53 = true := by decide +kernel
def tbJ9_min_7cf53 : List (Nat × Instr × Nat) := [(0, .iload_n 0, 1), (1, .iload_n 1, 1), (2, .if_icmp .gt 7, 3), (5, .iload_n 0, 1), (6, .goto 4, 3), (9, .iload_n 1, 1), (10, .ireturn, 1)]
theorem dkJ9_min_7cf53 : cv_dk cJ9_min_7cf53 tbJ9_min_7cf53 = true := by decide +kernel
end
section
def tbL_law0 : List (Nat × Instr × Nat) := [(0, .new 7, 3), (3, .dup, 1), (4, .invokespecial 9, 3), (7, .astore_n 1, 1), (8, .new 10, 3), (11, .dup, 1), (12, .invokespecial 12, 3), (15, .astore_n 2, 1), (16, .iconst 0, 1), (17, .istore_n 3, 1), (18, .iload_n 3, 1), (19, .aload_n 0, 1), (20, .arraylength, 1), (21, .bipush 7, 2), (23, .isub, 1), (24, .if_icmp .gt 1114, 3), (27, .aload_n 0, 1), (28, .iload_n 3, 1), (29, .iaload, 1), (30, .bipush 31, 2), (32, .iand, 1), (33, .tableswitch 1099 0 29 #[135, 188, 221, 254, 287, 310, 333, 356, 431, 454, 477, 510, 543, 576, 599, 622, 645, 668, 701, 755, 798, 821, 864, 908, 971, 994, 1017, 1050, 1063, 1076], 135), (168, .aload_n 1, 1), (169, .aload_n 0, 1), (170, .iload_n 3, 1), (171, .iconst 1, 1), (172, .iadd, 1), (173, .iaload, 1), (174, .aload_n 0, 1), (175, .iload_n 3, 1), (176, .iconst 2, 1), (177, .iadd, 1), (178, .iaload, 1), (179, .aload_n 0, 1), (180, .iload_n 3, 1), (181, .iconst 3, 1), (182, .iadd, 1), (183, .iaload, 1), (184, .aload_n 0, 1), (185, .iload_n 3, 1), (186, .iconst 4, 1), (187, .iadd, 1), (188, .iaload, 1), (189, .invokevirtual 13, 3), (192, .aload_n 2, 1), (193, .aload_n 0, 1), (194, .iload_n 3, 1), (195, .iconst 1, 1), (196, .iadd, 1), (197, .iaload, 1), (198, .aload_n 0, 1), (199, .iload_n 3, 1), (200, .iconst 2, 1), (201, .iadd, 1), (202, .iaload, 1), (203, .aload_n 0, 1), (204, .iload_n 3, 1), (205, .iconst 3, 1), (206, .iadd, 1), (207, .iaload, 1), (208, .aload_n 0, 1), (209, .iload_n 3, 1), (210, .iconst 4, 1), (211, .iadd, 1), (212, .iaload, 1), (213, .invokevirtual 17, 3), (216, .if_icmp .eq 916, 3), (219, .iconst 0, 1), (220, .ireturn, 1), (221, .aload_n 1, 1)]
theorem dkL_law0 : cv_dk cL_law tbL_law0 = true := by decide +kernel
def tbL_law1 : List (Nat × Instr × Nat) := [(222, .aload_n 0, 1), (223, .iload_n 3, 1), (224, .iconst 1, 1), (225, .iadd, 1), (226, .iaload, 1), (227, .aload_n 0, 1), (228, .iload_n 3, 1), (229, .iconst 2, 1), (230, .iadd, 1), (231, .iaload, 1), (232, .invokevirtual 18, 3), (235, .aload_n 2, 1), (236, .aload_n 0, 1), (237, .iload_n 3, 1), (238, .iconst 1, 1), (239, .iadd, 1), (240, .iaload, 1), (241, .aload_n 0, 1), (242, .iload_n 3, 1), (243, .iconst 2, 1), (244, .iadd, 1), (245, .iaload, 1), (246, .invokevirtual 22, 3), (249, .if_icmp .eq 883, 3), (252, .iconst 0, 1), (253, .ireturn, 1), (254, .aload_n 1, 1), (255, .aload_n 0, 1), (256, .iload_n 3, 1), (257, .iconst 1, 1), (258, .iadd, 1), (259, .iaload, 1), (260, .aload_n 0, 1), (261, .iload_n 3, 1), (262, .iconst 2, 1), (263, .iadd, 1), (264, .iaload, 1), (265, .invokevirtual 23, 3), (268, .aload_n 2, 1), (269, .aload_n 0, 1), (270, .iload_n 3, 1), (271, .iconst 1, 1), (272, .iadd, 1), (273, .iaload, 1), (274, .aload_n 0, 1), (275, .iload_n 3, 1), (276, .iconst 2, 1), (277, .iadd, 1), (278, .iaload, 1), (279, .invokevirtual 26, 3), (282, .if_icmp .eq 850, 3), (285, .iconst 0, 1), (286, .ireturn, 1), (287, .aload_n 1, 1), (288, .aload_n 0, 1), (289, .iload_n 3, 1), (290, .iconst 1, 1), (291, .iadd, 1), (292, .iaload, 1), (293, .aload_n 0, 1), (294, .iload_n 3, 1), (295, .iconst 2, 1), (296, .iadd, 1), (297, .iaload, 1), (298, .invokevirtual 27, 3), (301, .aload_n 2, 1), (302, .aload_n 0, 1), (303, .iload_n 3, 1), (304, .iconst 1, 1), (305, .iadd, 1)]
theorem dkL_law1 : cv_dk cL_law tbL_law1 = true := by decide +kernel
def tbL_law2 : List (Nat × Instr × Nat) := [(306, .iaload, 1), (307, .aload_n 0, 1), (308, .iload_n 3, 1), (309, .iconst 2, 1), (310, .iadd, 1), (311, .iaload, 1), (312, .invokevirtual 30, 3), (315, .if_icmp .eq 817, 3), (318, .iconst 0, 1), (319, .ireturn, 1), (320, .aload_n 1, 1), (321, .aload_n 0, 1), (322, .iload_n 3, 1), (323, .iconst 1, 1), (324, .iadd, 1), (325, .iaload, 1), (326, .invokevirtual 31, 3), (329, .aload_n 2, 1), (330, .aload_n 0, 1), (331, .iload_n 3, 1), (332, .iconst 1, 1), (333, .iadd, 1), (334, .iaload, 1), (335, .invokevirtual 35, 3), (338, .if_icmp .eq 794, 3), (341, .iconst 0, 1), (342, .ireturn, 1), (343, .aload_n 1, 1), (344, .aload_n 0, 1), (345, .iload_n 3, 1), (346, .iconst 1, 1), (347, .iadd, 1), (348, .iaload, 1), (349, .invokevirtual 36, 3), (352, .aload_n 2, 1), (353, .aload_n 0, 1), (354, .iload_n 3, 1), (355, .iconst 1, 1), (356, .iadd, 1), (357, .iaload, 1), (358, .invokevirtual 39, 3), (361, .if_icmp .eq 771, 3), (364, .iconst 0, 1), (365, .ireturn, 1), (366, .aload_n 1, 1), (367, .aload_n 0, 1), (368, .iload_n 3, 1), (369, .iconst 1, 1), (370, .iadd, 1), (371, .iaload, 1), (372, .invokevirtual 40, 3), (375, .aload_n 2, 1), (376, .aload_n 0, 1), (377, .iload_n 3, 1), (378, .iconst 1, 1), (379, .iadd, 1), (380, .iaload, 1), (381, .invokevirtual 43, 3), (384, .if_icmp .eq 748, 3), (387, .iconst 0, 1), (388, .ireturn, 1), (389, .aload_n 1, 1), (390, .aload_n 0, 1), (391, .iload_n 3, 1), (392, .iconst 1, 1), (393, .iadd, 1), (394, .iaload, 1), (395, .aload_n 0, 1), (396, .iload_n 3, 1), (397, .iconst 2, 1)]
theorem dkL_law2 : cv_dk cL_law tbL_law2 = true := by decide +kernel
def tbL_law3 : List (Nat × Instr × Nat) := [(398, .iadd, 1), (399, .iaload, 1), (400, .aload_n 0, 1), (401, .iload_n 3, 1), (402, .iconst 3, 1), (403, .iadd, 1), (404, .iaload, 1), (405, .aload_n 0, 1), (406, .iload_n 3, 1), (407, .iconst 4, 1), (408, .iadd, 1), (409, .iaload, 1), (410, .aload_n 0, 1), (411, .iload_n 3, 1), (412, .iconst 5, 1), (413, .iadd, 1), (414, .iaload, 1), (415, .aload_n 0, 1), (416, .iload_n 3, 1), (417, .bipush 6, 2), (419, .iadd, 1), (420, .iaload, 1), (421, .invokevirtual 44, 3), (424, .aload_n 2, 1), (425, .aload_n 0, 1), (426, .iload_n 3, 1), (427, .iconst 1, 1), (428, .iadd, 1), (429, .iaload, 1), (430, .aload_n 0, 1), (431, .iload_n 3, 1), (432, .iconst 2, 1), (433, .iadd, 1), (434, .iaload, 1), (435, .aload_n 0, 1), (436, .iload_n 3, 1), (437, .iconst 3, 1), (438, .iadd, 1), (439, .iaload, 1), (440, .aload_n 0, 1), (441, .iload_n 3, 1), (442, .iconst 4, 1), (443, .iadd, 1), (444, .iaload, 1), (445, .aload_n 0, 1), (446, .iload_n 3, 1), (447, .iconst 5, 1), (448, .iadd, 1), (449, .iaload, 1), (450, .aload_n 0, 1), (451, .iload_n 3, 1), (452, .bipush 6, 2), (454, .iadd, 1), (455, .iaload, 1), (456, .invokevirtual 48, 3), (459, .if_icmp .eq 673, 3), (462, .iconst 0, 1), (463, .ireturn, 1), (464, .aload_n 1, 1), (465, .aload_n 0, 1), (466, .iload_n 3, 1), (467, .iconst 1, 1), (468, .iadd, 1), (469, .iaload, 1), (470, .invokevirtual 49, 3), (473, .aload_n 2, 1), (474, .aload_n 0, 1), (475, .iload_n 3, 1), (476, .iconst 1, 1), (477, .iadd, 1)]
theorem dkL_law3 : cv_dk cL_law tbL_law3 = true := by decide +kernel
def tbL_law4 : List (Nat × Instr × Nat) := [(478, .iaload, 1), (479, .invokevirtual 52, 3), (482, .if_icmp .eq 650, 3), (485, .iconst 0, 1), (486, .ireturn, 1), (487, .aload_n 1, 1), (488, .aload_n 0, 1), (489, .iload_n 3, 1), (490, .iconst 1, 1), (491, .iadd, 1), (492, .iaload, 1), (493, .invokevirtual 53, 3), (496, .aload_n 2, 1), (497, .aload_n 0, 1), (498, .iload_n 3, 1), (499, .iconst 1, 1), (500, .iadd, 1), (501, .iaload, 1), (502, .invokevirtual 56, 3), (505, .if_icmp .eq 627, 3), (508, .iconst 0, 1), (509, .ireturn, 1), (510, .aload_n 1, 1), (511, .aload_n 0, 1), (512, .iload_n 3, 1), (513, .iconst 1, 1), (514, .iadd, 1), (515, .iaload, 1), (516, .aload_n 0, 1), (517, .iload_n 3, 1), (518, .iconst 2, 1), (519, .iadd, 1), (520, .iaload, 1), (521, .invokevirtual 57, 3), (524, .aload_n 2, 1), (525, .aload_n 0, 1), (526, .iload_n 3, 1), (527, .iconst 1, 1), (528, .iadd, 1), (529, .iaload, 1), (530, .aload_n 0, 1), (531, .iload_n 3, 1), (532, .iconst 2, 1), (533, .iadd, 1), (534, .iaload, 1), (535, .invokevirtual 60, 3), (538, .if_icmp .eq 594, 3), (541, .iconst 0, 1), (542, .ireturn, 1), (543, .aload_n 1, 1), (544, .aload_n 0, 1), (545, .iload_n 3, 1), (546, .iconst 1, 1), (547, .iadd, 1), (548, .iaload, 1), (549, .aload_n 0, 1), (550, .iload_n 3, 1), (551, .iconst 2, 1), (552, .iadd, 1), (553, .iaload, 1), (554, .invokevirtual 61, 3), (557, .aload_n 2, 1), (558, .aload_n 0, 1), (559, .iload_n 3, 1), (560, .iconst 1, 1), (561, .iadd, 1), (562, .iaload, 1), (563, .aload_n 0, 1), (564, .iload_n 3, 1), (565, .iconst 2, 1)]
theorem dkL_law4 : cv_dk cL_law tbL_law4 = true := by decide +kernel
def tbL_law5 : List (Nat × Instr × Nat) := [(566, .iadd, 1), (567, .iaload, 1), (568, .invokevirtual 64, 3), (571, .if_icmp .eq 561, 3), (574, .iconst 0, 1), (575, .ireturn, 1), (576, .aload_n 1, 1), (577, .aload_n 0, 1), (578, .iload_n 3, 1), (579, .iconst 1, 1), (580, .iadd, 1), (581, .iaload, 1), (582, .aload_n 0, 1), (583, .iload_n 3, 1), (584, .iconst 2, 1), (585, .iadd, 1), (586, .iaload, 1), (587, .invokevirtual 65, 3), (590, .aload_n 2, 1), (591, .aload_n 0, 1), (592, .iload_n 3, 1), (593, .iconst 1, 1), (594, .iadd, 1), (595, .iaload, 1), (596, .aload_n 0, 1), (597, .iload_n 3, 1), (598, .iconst 2, 1), (599, .iadd, 1), (600, .iaload, 1), (601, .invokevirtual 68, 3), (604, .if_icmp .eq 528, 3), (607, .iconst 0, 1), (608, .ireturn, 1), (609, .aload_n 1, 1), (610, .aload_n 0, 1), (611, .iload_n 3, 1), (612, .iconst 1, 1), (613, .iadd, 1), (614, .iaload, 1), (615, .invokevirtual 69, 3), (618, .aload_n 2, 1), (619, .aload_n 0, 1), (620, .iload_n 3, 1), (621, .iconst 1, 1), (622, .iadd, 1), (623, .iaload, 1), (624, .invokevirtual 72, 3), (627, .if_icmp .eq 505, 3), (630, .iconst 0, 1), (631, .ireturn, 1), (632, .aload_n 1, 1), (633, .aload_n 0, 1), (634, .iload_n 3, 1), (635, .iconst 1, 1), (636, .iadd, 1), (637, .iaload, 1), (638, .invokevirtual 73, 3), (641, .aload_n 2, 1), (642, .aload_n 0, 1), (643, .iload_n 3, 1), (644, .iconst 1, 1), (645, .iadd, 1), (646, .iaload, 1), (647, .invokevirtual 76, 3), (650, .if_icmp .eq 482, 3), (653, .iconst 0, 1), (654, .ireturn, 1), (655, .aload_n 1, 1), (656, .aload_n 0, 1), (657, .iload_n 3, 1)]
theorem dkL_law5 : cv_dk cL_law tbL_law5 = true := by decide +kernel
end
section
def tbL_law6 : List (Nat × Instr × Nat) := [(658, .iconst 1, 1), (659, .iadd, 1), (660, .iaload, 1), (661, .invokevirtual 77, 3), (664, .aload_n 2, 1), (665, .aload_n 0, 1), (666, .iload_n 3, 1), (667, .iconst 1, 1), (668, .iadd, 1), (669, .iaload, 1), (670, .invokevirtual 80, 3), (673, .if_icmp .eq 459, 3), (676, .iconst 0, 1), (677, .ireturn, 1), (678, .aload_n 1, 1), (679, .aload_n 0, 1), (680, .iload_n 3, 1), (681, .iconst 1, 1), (682, .iadd, 1), (683, .iaload, 1), (684, .invokevirtual 81, 3), (687, .aload_n 2, 1), (688, .aload_n 0, 1), (689, .iload_n 3, 1), (690, .iconst 1, 1), (691, .iadd, 1), (692, .iaload, 1), (693, .invokevirtual 84, 3), (696, .if_icmp .eq 436, 3), (699, .iconst 0, 1), (700, .ireturn, 1), (701, .aload_n 1, 1), (702, .aload_n 0, 1), (703, .iload_n 3, 1), (704, .iconst 1, 1), (705, .iadd, 1), (706, .iaload, 1), (707, .aload_n 0, 1), (708, .iload_n 3, 1), (709, .iconst 2, 1), (710, .iadd, 1), (711, .iaload, 1), (712, .invokevirtual 85, 3), (715, .aload_n 2, 1), (716, .aload_n 0, 1), (717, .iload_n 3, 1), (718, .iconst 1, 1), (719, .iadd, 1), (720, .iaload, 1), (721, .aload_n 0, 1), (722, .iload_n 3, 1), (723, .iconst 2, 1), (724, .iadd, 1), (725, .iaload, 1), (726, .invokevirtual 88, 3), (729, .if_icmp .eq 403, 3), (732, .iconst 0, 1), (733, .ireturn, 1), (734, .aload_n 1, 1), (735, .aload_n 0, 1), (736, .iload_n 3, 1), (737, .iconst 1, 1), (738, .iadd, 1), (739, .iaload, 1), (740, .aload_n 0, 1), (741, .iload_n 3, 1), (742, .iconst 2, 1), (743, .iadd, 1), (744, .iaload, 1), (745, .aload_n 0, 1)]
theorem dkL_law6 : cv_dk cL_law tbL_law6 = true := by decide +kernel
def tbL_law7 : List (Nat × Instr × Nat) := [(746, .iload_n 3, 1), (747, .iconst 3, 1), (748, .iadd, 1), (749, .iaload, 1), (750, .aload_n 0, 1), (751, .iload_n 3, 1), (752, .iconst 4, 1), (753, .iadd, 1), (754, .iaload, 1), (755, .invokevirtual 89, 3), (758, .aload_n 2, 1), (759, .aload_n 0, 1), (760, .iload_n 3, 1), (761, .iconst 1, 1), (762, .iadd, 1), (763, .iaload, 1), (764, .aload_n 0, 1), (765, .iload_n 3, 1), (766, .iconst 2, 1), (767, .iadd, 1), (768, .iaload, 1), (769, .aload_n 0, 1), (770, .iload_n 3, 1), (771, .iconst 3, 1), (772, .iadd, 1), (773, .iaload, 1), (774, .aload_n 0, 1), (775, .iload_n 3, 1), (776, .iconst 4, 1), (777, .iadd, 1), (778, .iaload, 1), (779, .invokevirtual 93, 3), (782, .lcmp, 1), (783, .ifCond .eq 349, 3), (786, .iconst 0, 1), (787, .ireturn, 1), (788, .aload_n 1, 1), (789, .aload_n 0, 1), (790, .iload_n 3, 1), (791, .iconst 1, 1), (792, .iadd, 1), (793, .iaload, 1), (794, .aload_n 0, 1), (795, .iload_n 3, 1), (796, .iconst 2, 1), (797, .iadd, 1), (798, .iaload, 1), (799, .aload_n 0, 1), (800, .iload_n 3, 1), (801, .iconst 3, 1), (802, .iadd, 1), (803, .iaload, 1), (804, .invokevirtual 94, 3), (807, .aload_n 2, 1), (808, .aload_n 0, 1), (809, .iload_n 3, 1), (810, .iconst 1, 1), (811, .iadd, 1), (812, .iaload, 1), (813, .aload_n 0, 1), (814, .iload_n 3, 1), (815, .iconst 2, 1), (816, .iadd, 1), (817, .iaload, 1), (818, .aload_n 0, 1), (819, .iload_n 3, 1), (820, .iconst 3, 1), (821, .iadd, 1), (822, .iaload, 1), (823, .invokevirtual 98, 3)]
theorem dkL_law7 : cv_dk cL_law tbL_law7 = true := by decide +kernel
def tbL_law8 : List (Nat × Instr × Nat) := [(826, .if_icmp .eq 306, 3), (829, .iconst 0, 1), (830, .ireturn, 1), (831, .aload_n 1, 1), (832, .aload_n 0, 1), (833, .iload_n 3, 1), (834, .iconst 1, 1), (835, .iadd, 1), (836, .iaload, 1), (837, .invokevirtual 99, 3), (840, .aload_n 2, 1), (841, .aload_n 0, 1), (842, .iload_n 3, 1), (843, .iconst 1, 1), (844, .iadd, 1), (845, .iaload, 1), (846, .invokevirtual 102, 3), (849, .if_icmp .eq 283, 3), (852, .iconst 0, 1), (853, .ireturn, 1), (854, .aload_n 1, 1), (855, .aload_n 0, 1), (856, .iload_n 3, 1), (857, .iconst 1, 1), (858, .iadd, 1), (859, .iaload, 1), (860, .aload_n 0, 1), (861, .iload_n 3, 1), (862, .iconst 2, 1), (863, .iadd, 1), (864, .iaload, 1), (865, .aload_n 0, 1), (866, .iload_n 3, 1), (867, .iconst 3, 1), (868, .iadd, 1), (869, .iaload, 1), (870, .invokevirtual 103, 3), (873, .aload_n 2, 1), (874, .aload_n 0, 1), (875, .iload_n 3, 1), (876, .iconst 1, 1), (877, .iadd, 1), (878, .iaload, 1), (879, .aload_n 0, 1), (880, .iload_n 3, 1), (881, .iconst 2, 1), (882, .iadd, 1), (883, .iaload, 1), (884, .aload_n 0, 1), (885, .iload_n 3, 1), (886, .iconst 3, 1), (887, .iadd, 1), (888, .iaload, 1), (889, .invokevirtual 106, 3), (892, .if_icmp .eq 240, 3), (895, .iconst 0, 1), (896, .ireturn, 1), (897, .aload_n 1, 1), (898, .aload_n 0, 1), (899, .iload_n 3, 1), (900, .iconst 1, 1), (901, .iadd, 1), (902, .iaload, 1), (903, .aload_n 0, 1), (904, .iload_n 3, 1), (905, .iconst 2, 1), (906, .iadd, 1), (907, .iaload, 1), (908, .aload_n 0, 1), (909, .iload_n 3, 1)]
theorem dkL_law8 : cv_dk cL_law tbL_law8 = true := by decide +kernel
def tbL_law9 : List (Nat × Instr × Nat) := [(910, .iconst 3, 1), (911, .iadd, 1), (912, .iaload, 1), (913, .invokevirtual 107, 3), (916, .aload_n 2, 1), (917, .aload_n 0, 1), (918, .iload_n 3, 1), (919, .iconst 1, 1), (920, .iadd, 1), (921, .iaload, 1), (922, .aload_n 0, 1), (923, .iload_n 3, 1), (924, .iconst 2, 1), (925, .iadd, 1), (926, .iaload, 1), (927, .aload_n 0, 1), (928, .iload_n 3, 1), (929, .iconst 3, 1), (930, .iadd, 1), (931, .iaload, 1), (932, .invokevirtual 111, 3), (935, .lcmp, 1), (936, .ifCond .eq 196, 3), (939, .iconst 0, 1), (940, .ireturn, 1), (941, .aload_n 1, 1), (942, .aload_n 0, 1), (943, .iload_n 3, 1), (944, .iconst 1, 1), (945, .iadd, 1), (946, .iaload, 1), (947, .aload_n 0, 1), (948, .iload_n 3, 1), (949, .iconst 2, 1), (950, .iadd, 1), (951, .iaload, 1), (952, .aload_n 0, 1), (953, .iload_n 3, 1), (954, .iconst 3, 1), (955, .iadd, 1), (956, .iaload, 1), (957, .aload_n 0, 1), (958, .iload_n 3, 1), (959, .iconst 4, 1), (960, .iadd, 1), (961, .iaload, 1), (962, .aload_n 0, 1), (963, .iload_n 3, 1), (964, .iconst 5, 1), (965, .iadd, 1), (966, .iaload, 1), (967, .invokevirtual 112, 3), (970, .aload_n 2, 1), (971, .aload_n 0, 1), (972, .iload_n 3, 1), (973, .iconst 1, 1), (974, .iadd, 1), (975, .iaload, 1), (976, .aload_n 0, 1), (977, .iload_n 3, 1), (978, .iconst 2, 1), (979, .iadd, 1), (980, .iaload, 1), (981, .aload_n 0, 1), (982, .iload_n 3, 1), (983, .iconst 3, 1), (984, .iadd, 1), (985, .iaload, 1), (986, .aload_n 0, 1), (987, .iload_n 3, 1)]
theorem dkL_law9 : cv_dk cL_law tbL_law9 = true := by decide +kernel
def tbL_law10 : List (Nat × Instr × Nat) := [(988, .iconst 4, 1), (989, .iadd, 1), (990, .iaload, 1), (991, .aload_n 0, 1), (992, .iload_n 3, 1), (993, .iconst 5, 1), (994, .iadd, 1), (995, .iaload, 1), (996, .invokevirtual 116, 3), (999, .if_icmp .eq 133, 3), (1002, .iconst 0, 1), (1003, .ireturn, 1), (1004, .aload_n 1, 1), (1005, .aload_n 0, 1), (1006, .iload_n 3, 1), (1007, .iconst 1, 1), (1008, .iadd, 1), (1009, .iaload, 1), (1010, .invokevirtual 117, 3), (1013, .aload_n 2, 1), (1014, .aload_n 0, 1), (1015, .iload_n 3, 1), (1016, .iconst 1, 1), (1017, .iadd, 1), (1018, .iaload, 1), (1019, .invokevirtual 120, 3), (1022, .if_icmp .eq 110, 3), (1025, .iconst 0, 1), (1026, .ireturn, 1), (1027, .aload_n 1, 1), (1028, .aload_n 0, 1), (1029, .iload_n 3, 1), (1030, .iconst 1, 1), (1031, .iadd, 1), (1032, .iaload, 1), (1033, .invokevirtual 121, 3), (1036, .aload_n 2, 1), (1037, .aload_n 0, 1), (1038, .iload_n 3, 1), (1039, .iconst 1, 1), (1040, .iadd, 1), (1041, .iaload, 1), (1042, .invokevirtual 124, 3), (1045, .if_icmp .eq 87, 3), (1048, .iconst 0, 1), (1049, .ireturn, 1), (1050, .aload_n 1, 1), (1051, .aload_n 0, 1), (1052, .iload_n 3, 1), (1053, .iconst 1, 1), (1054, .iadd, 1), (1055, .iaload, 1), (1056, .aload_n 0, 1), (1057, .iload_n 3, 1), (1058, .iconst 2, 1), (1059, .iadd, 1), (1060, .iaload, 1), (1061, .invokevirtual 125, 3), (1064, .aload_n 2, 1), (1065, .aload_n 0, 1), (1066, .iload_n 3, 1), (1067, .iconst 1, 1), (1068, .iadd, 1), (1069, .iaload, 1), (1070, .aload_n 0, 1), (1071, .iload_n 3, 1), (1072, .iconst 2, 1), (1073, .iadd, 1), (1074, .iaload, 1), (1075, .invokevirtual 128, 3)]
theorem dkL_law10 : cv_dk cL_law tbL_law10 = true := by decide +kernel
def tbL_law11 : List (Nat × Instr × Nat) := [(1078, .if_icmp .eq 54, 3), (1081, .iconst 0, 1), (1082, .ireturn, 1), (1083, .aload_n 1, 1), (1084, .invokevirtual 129, 3), (1087, .aload_n 2, 1), (1088, .invokevirtual 133, 3), (1091, .if_icmp .eq 41, 3), (1094, .iconst 0, 1), (1095, .ireturn, 1), (1096, .aload_n 1, 1), (1097, .invokevirtual 134, 3), (1100, .aload_n 2, 1), (1101, .invokevirtual 137, 3), (1104, .if_icmp .eq 28, 3), (1107, .iconst 0, 1), (1108, .ireturn, 1), (1109, .aload_n 1, 1), (1110, .aload_n 0, 1), (1111, .iload_n 3, 1), (1112, .iconst 1, 1), (1113, .iadd, 1), (1114, .iaload, 1), (1115, .invokevirtual 138, 3), (1118, .aload_n 2, 1), (1119, .aload_n 0, 1), (1120, .iload_n 3, 1), (1121, .iconst 1, 1), (1122, .iadd, 1), (1123, .iaload, 1), (1124, .invokevirtual 141, 3), (1127, .if_icmp .eq 5, 3), (1130, .iconst 0, 1), (1131, .ireturn, 1), (1132, .iinc 3 7, 3), (1135, .goto (-1117), 3), (1138, .iconst 1, 1), (1139, .ireturn, 1)]
theorem dkL_law11 : cv_dk cL_law tbL_law11 = true := by decide +kernel
end
section
/-- the tables' words that a callee may take from its caller -/
def cv_BIG : List Cond := lw_tbl.filter goodWord
theorem cv_big {w : Cond} (i : Nat) (h : lw_tbl[i]? = some w) (g : goodWord w = true) : w ∈ cv_BIG := List.mem_filter.mpr ⟨List.mem_of_getElem? h, g⟩
theorem cv_l0 {w : Cond} (i : Nat) (h : (k2_sels lw_privs)[i]? = some w) : w ∈ lw_tbl := List.mem_append_left _ (List.mem_of_getElem? h)
theorem cv_l1 {w : Cond} (i : Nat) (h : tables_1_1[i]? = some w) : w ∈ lw_tbl := List.mem_append_right _ (List.mem_append_left _ (List.mem_of_getElem? h))
theorem cv_l2 {w : Cond} (i : Nat) (h : tables_1_2[i]? = some w) : w ∈ lw_tbl := List.mem_append_right _ (List.mem_append_right _ (List.mem_append_left _ (List.mem_of_getElem? h)))
theorem cv_l3 {w : Cond} (i : Nat) (h : tables_1_3[i]? = some w) : w ∈ lw_tbl := List.mem_append_right _ (List.mem_append_right _ (List.mem_append_right _ (List.mem_append_left _ (List.mem_of_getElem? h))))
theorem cv_l4 {w : Cond} (i : Nat) (h : tables_1_4[i]? = some w) : w ∈ lw_tbl := List.mem_append_right _ (List.mem_append_right _ (List.mem_append_right _ (List.mem_append_right _ (List.mem_of_getElem? h))))
theorem cv_b0 {w : Cond} (i : Nat) (h : (k2_sels lw_privs)[i]? = some w) (g : goodWord w = true) : w ∈ cv_BIG := List.mem_filter.mpr ⟨cv_l0 i h, g⟩
theorem cv_b1 {w : Cond} (i : Nat) (h : tables_1_1[i]? = some w) (g : goodWord w = true) : w ∈ cv_BIG := List.mem_filter.mpr ⟨cv_l1 i h, g⟩
theorem cv_b2 {w : Cond} (i : Nat) (h : tables_1_2[i]? = some w) (g : goodWord w = true) : w ∈ cv_BIG := List.mem_filter.mpr ⟨cv_l2 i h, g⟩
theorem cv_b3 {w : Cond} (i : Nat) (h : tables_1_3[i]? = some w) (g : goodWord w = true) : w ∈ cv_BIG := List.mem_filter.mpr ⟨cv_l3 i h, g⟩
theorem cv_b4 {w : Cond} (i : Nat) (h : tables_1_4[i]? = some w) (g : goodWord w = true) : w ∈ cv_BIG := List.mem_filter.mpr ⟨cv_l4 i h, g⟩
theorem cv_BIG_good : ∀ w ∈ cv_BIG, (w.onTables && w.keeps) = true ∨ ∃ ty, w = .arrayClass ty := fun _ h => good_of_word (List.mem_filter.mp h).2
theorem cv_BIG_in : ∀ w ∈ cv_BIG, w ∈ lw_tbl := fun _ h => (List.mem_filter.mp h).1
theorem wn_L : Cond.initialized RL ∈ cv_BIG := cv_b1 0 rfl rfl
theorem wn_X6 : Cond.initialized RX6 ∈ cv_BIG := cv_b1 1 rfl rfl
theorem wn_X3 : Cond.initialized RX3 ∈ cv_BIG := cv_b1 2 rfl rfl
theorem wn_X0 : Cond.initialized RX0 ∈ cv_BIG := cv_b1 3 rfl rfl
theorem wn_X1 : Cond.initialized RX1 ∈ cv_BIG := cv_b1 4 rfl rfl
theorem wn_X5 : Cond.initialized RX5 ∈ cv_BIG := cv_b1 5 rfl rfl
theorem wn_X2 : Cond.initialized RX2 ∈ cv_BIG := cv_b1 6 rfl rfl
theorem wn_X7 : Cond.initialized RX7 ∈ cv_BIG := cv_b1 7 rfl rfl
theorem wn_X4 : Cond.initialized RX4 ∈ cv_BIG := cv_b1 8 rfl rfl
theorem wn_J9 : Cond.initialized RJ9 ∈ cv_BIG := cv_b1 9 rfl rfl
theorem wn_J6 : Cond.initialized RJ6 ∈ cv_BIG := cv_b1 10 rfl rfl
theorem wn_J10 : Cond.initialized RJ10 ∈ cv_BIG := cv_b1 11 rfl rfl
theorem wkL_7 : Cond.classLink RL 7 RX6 ∈ cv_BIG := cv_b1 12 rfl rfl
theorem wb_X6 : Cond.instantiable RX6 6 ∈ cv_BIG := cv_b1 13 rfl rfl
theorem wmL_9 : Cond.methodLink RL 9 yX6_init ∈ cv_BIG := cv_b1 14 rfl rfl
theorem wi_yX6_init : Cond.instanceMethod yX6_init ∈ cv_BIG := cv_b1 15 rfl rfl
theorem wc_yX6_init : Cond.code yX6_init cX6_init 2 none ∈ cv_BIG := cv_b1 16 rfl rfl
theorem wmX6_3 : Cond.methodLink RX6 3 objectInit ∈ cv_BIG := cv_b1 17 rfl rfl
theorem wi_objectInit : Cond.instanceMethod objectInit ∈ cv_BIG := cv_b1 18 rfl rfl
theorem wkX6_11 : Cond.classLink RX6 11 RX3 ∈ cv_BIG := cv_b1 20 rfl rfl
theorem wo_X3 : Cond.arrayOver (.object RX3) ∈ lw_tbl := cv_l1 21 rfl
theorem wb_X3 : Cond.instantiable RX3 3 ∈ cv_BIG := cv_b1 22 rfl rfl
theorem wi_yX3_init : Cond.instanceMethod yX3_init ∈ cv_BIG := cv_b1 24 rfl rfl
theorem wc_yX3_init : Cond.code yX3_init cX3_init 1 none ∈ cv_BIG := cv_b1 25 rfl rfl
theorem wmX3_3 : Cond.methodLink RX3 3 objectInit ∈ cv_BIG := cv_b1 26 rfl rfl
theorem wfX3_9 : Cond.fieldLink RX3 9 RX3 "cells" "[I" ∈ cv_BIG := cv_b1 27 rfl rfl
theorem wfX6_60 : Cond.fieldLink RX6 60 RX3 "cells" "[I" ∈ cv_BIG := cv_b1 28 rfl rfl
theorem wfX3_15 : Cond.fieldLink RX3 15 RX3 "lane" "I" ∈ cv_BIG := cv_b1 29 rfl rfl
theorem wfX6_200 : Cond.fieldLink RX6 200 RX3 "lane" "I" ∈ cv_BIG := cv_b1 30 rfl rfl
theorem wfX3_19 : Cond.fieldLink RX3 19 RX3 "length" "I" ∈ cv_BIG := cv_b1 31 rfl rfl
theorem wa_int : Cond.arrayClass .int ∈ cv_BIG := cv_b1 39 rfl rfl
theorem wkX6_18 : Cond.classLink RX6 18 RX0 ∈ cv_BIG := cv_b1 40 rfl rfl
theorem wb_X0 : Cond.instantiable RX0 7 ∈ cv_BIG := cv_b1 41 rfl rfl
theorem wmX6_20 : Cond.methodLink RX6 20 yX0_init ∈ cv_BIG := cv_b1 42 rfl rfl
theorem wi_yX0_init : Cond.instanceMethod yX0_init ∈ cv_BIG := cv_b1 43 rfl rfl
theorem wc_yX0_init : Cond.code yX0_init cX0_init 2 none ∈ cv_BIG := cv_b1 44 rfl rfl
theorem wmX0_3 : Cond.methodLink RX0 3 objectInit ∈ cv_BIG := cv_b1 45 rfl rfl
theorem wkX0_9 : Cond.classLink RX0 9 RX1 ∈ cv_BIG := cv_b1 46 rfl rfl
theorem wo_X1 : Cond.arrayOver (.object RX1) ∈ lw_tbl := cv_l1 47 rfl
theorem wb_X1 : Cond.instantiable RX1 5 ∈ cv_BIG := cv_b1 48 rfl rfl
theorem wi_yX1_init : Cond.instanceMethod yX1_init ∈ cv_BIG := cv_b1 50 rfl rfl
theorem wc_yX1_init : Cond.code yX1_init cX1_init 1 none ∈ cv_BIG := cv_b1 51 rfl rfl
theorem wmX1_3 : Cond.methodLink RX1 3 objectInit ∈ cv_BIG := cv_b1 52 rfl rfl
theorem wfX1_9 : Cond.fieldLink RX1 9 RX1 "kind" "I" ∈ cv_BIG := cv_b1 53 rfl rfl
theorem wfX0_64 : Cond.fieldLink RX0 64 RX1 "kind" "I" ∈ cv_BIG := cv_b1 54 rfl rfl
theorem wfX6_88 : Cond.fieldLink RX6 88 RX1 "kind" "I" ∈ cv_BIG := cv_b1 55 rfl rfl
theorem wfX0_67 : Cond.fieldLink RX0 67 RX1 "first" "I" ∈ cv_BIG := cv_b1 56 rfl rfl
theorem wfX6_93 : Cond.fieldLink RX6 93 RX1 "first" "I" ∈ cv_BIG := cv_b1 57 rfl rfl
theorem wfX1_21 : Cond.fieldLink RX1 21 RX1 "first" "I" ∈ cv_BIG := cv_b1 58 rfl rfl
theorem wfX0_70 : Cond.fieldLink RX0 70 RX1 "second" "I" ∈ cv_BIG := cv_b1 59 rfl rfl
theorem wfX6_96 : Cond.fieldLink RX6 96 RX1 "second" "I" ∈ cv_BIG := cv_b1 60 rfl rfl
theorem wfX1_24 : Cond.fieldLink RX1 24 RX1 "second" "I" ∈ cv_BIG := cv_b1 61 rfl rfl
theorem wfX1_15 : Cond.fieldLink RX1 15 RX1 "length" "I" ∈ cv_BIG := cv_b1 62 rfl rfl
theorem wfX0_73 : Cond.fieldLink RX0 73 RX1 "length" "I" ∈ cv_BIG := cv_b1 63 rfl rfl
theorem wfX6_99 : Cond.fieldLink RX6 99 RX1 "length" "I" ∈ cv_BIG := cv_b1 64 rfl rfl
theorem wfX1_18 : Cond.fieldLink RX1 18 RX1 "height" "I" ∈ cv_BIG := cv_b1 65 rfl rfl
theorem wfX0_74 : Cond.fieldLink RX0 74 RX1 "height" "I" ∈ cv_BIG := cv_b1 66 rfl rfl
theorem wfX6_102 : Cond.fieldLink RX6 102 RX1 "height" "I" ∈ cv_BIG := cv_b1 67 rfl rfl
theorem wfX0_11 : Cond.fieldLink RX0 11 RX0 "passes" "[LCheeseValleys$Pass;" ∈ cv_BIG := cv_b1 79 rfl rfl
theorem wfX6_84 : Cond.fieldLink RX6 84 RX0 "passes" "[LCheeseValleys$Pass;" ∈ cv_BIG := cv_b1 80 rfl rfl
theorem wfX5_52 : Cond.fieldLink RX5 52 RX0 "passes" "[LCheeseValleys$Pass;" ∈ cv_BIG := cv_b1 81 rfl rfl
theorem wfX0_17 : Cond.fieldLink RX0 17 RX0 "snowOn" "[I" ∈ cv_BIG := cv_b1 82 rfl rfl
theorem wfX6_119 : Cond.fieldLink RX6 119 RX0 "snowOn" "[I" ∈ cv_BIG := cv_b1 83 rfl rfl
theorem wfX0_21 : Cond.fieldLink RX0 21 RX0 "gives" "[I" ∈ cv_BIG := cv_b1 84 rfl rfl
theorem wfX5_36 : Cond.fieldLink RX5 36 RX0 "gives" "[I" ∈ cv_BIG := cv_b1 85 rfl rfl
theorem wfX6_125 : Cond.fieldLink RX6 125 RX0 "gives" "[I" ∈ cv_BIG := cv_b1 86 rfl rfl
theorem wfX0_24 : Cond.fieldLink RX0 24 RX0 "reach" "[I" ∈ cv_BIG := cv_b1 87 rfl rfl
theorem wfX0_27 : Cond.fieldLink RX0 27 RX0 "fewest" "[I" ∈ cv_BIG := cv_b1 88 rfl rfl
theorem wfX0_57 : Cond.fieldLink RX0 57 RX0 "settled" "Z" ∈ cv_BIG := cv_b1 89 rfl rfl
theorem wfX6_115 : Cond.fieldLink RX6 115 RX0 "settled" "Z" ∈ cv_BIG := cv_b1 90 rfl rfl
theorem wfX0_50 : Cond.fieldLink RX0 50 RX0 "passCount" "I" ∈ cv_BIG := cv_b1 91 rfl rfl
theorem wfX6_78 : Cond.fieldLink RX6 78 RX0 "passCount" "I" ∈ cv_BIG := cv_b1 92 rfl rfl
theorem wfX5_46 : Cond.fieldLink RX5 46 RX0 "passCount" "I" ∈ cv_BIG := cv_b1 93 rfl rfl
theorem wkX6_25 : Cond.classLink RX6 25 RX5 ∈ cv_BIG := cv_b1 109 rfl rfl
theorem wb_X5 : Cond.instantiable RX5 4 ∈ cv_BIG := cv_b1 110 rfl rfl
theorem wi_yX5_init : Cond.instanceMethod yX5_init ∈ cv_BIG := cv_b1 112 rfl rfl
theorem wc_yX5_init : Cond.code yX5_init cX5_init 1 none ∈ cv_BIG := cv_b1 113 rfl rfl
theorem wmX5_3 : Cond.methodLink RX5 3 objectInit ∈ cv_BIG := cv_b1 114 rfl rfl
theorem wfX5_9 : Cond.fieldLink RX5 9 RX5 "day" "I" ∈ cv_BIG := cv_b1 115 rfl rfl
theorem wfX6_231 : Cond.fieldLink RX6 231 RX5 "day" "I" ∈ cv_BIG := cv_b1 116 rfl rfl
theorem wfX5_15 : Cond.fieldLink RX5 15 RX5 "valley" "I" ∈ cv_BIG := cv_b1 117 rfl rfl
theorem wfX6_244 : Cond.fieldLink RX6 244 RX5 "valley" "I" ∈ cv_BIG := cv_b1 118 rfl rfl
theorem wfX5_18 : Cond.fieldLink RX5 18 RX5 "stage" "I" ∈ cv_BIG := cv_b1 119 rfl rfl
theorem wfX6_247 : Cond.fieldLink RX6 247 RX5 "stage" "I" ∈ cv_BIG := cv_b1 120 rfl rfl
theorem wfX5_21 : Cond.fieldLink RX5 21 RX5 "waited" "I" ∈ cv_BIG := cv_b1 121 rfl rfl
theorem wfX6_241 : Cond.fieldLink RX6 241 RX5 "waited" "I" ∈ cv_BIG := cv_b1 122 rfl rfl
theorem wkX6_32 : Cond.classLink RX6 32 RX2 ∈ cv_BIG := cv_b1 132 rfl rfl
theorem wb_X2 : Cond.instantiable RX2 3 ∈ cv_BIG := cv_b1 133 rfl rfl
theorem wi_yX2_init : Cond.instanceMethod yX2_init ∈ cv_BIG := cv_b1 135 rfl rfl
theorem wc_yX2_init : Cond.code yX2_init cX2_init 1 none ∈ cv_BIG := cv_b1 136 rfl rfl
theorem wmX2_3 : Cond.methodLink RX2 3 objectInit ∈ cv_BIG := cv_b1 137 rfl rfl
theorem wfX2_9 : Cond.fieldLink RX2 9 RX2 "milkDay" "[I" ∈ cv_BIG := cv_b1 138 rfl rfl
theorem wfX6_169 : Cond.fieldLink RX6 169 RX2 "milkDay" "[I" ∈ cv_BIG := cv_b1 139 rfl rfl
theorem wfX2_15 : Cond.fieldLink RX2 15 RX2 "doneDay" "[I" ∈ cv_BIG := cv_b1 140 rfl rfl
theorem wfX6_172 : Cond.fieldLink RX6 172 RX2 "doneDay" "[I" ∈ cv_BIG := cv_b1 141 rfl rfl
theorem wfX2_18 : Cond.fieldLink RX2 18 RX2 "count" "I" ∈ cv_BIG := cv_b1 142 rfl rfl
theorem wfX6_75 : Cond.fieldLink RX6 75 RX2 "count" "I" ∈ cv_BIG := cv_b1 143 rfl rfl
theorem wfX6_13 : Cond.fieldLink RX6 13 RX6 "sheets" "[LCheeseValleys$Sheet;" ∈ cv_BIG := cv_b1 151 rfl rfl
theorem wfX6_21 : Cond.fieldLink RX6 21 RX6 "valleys" "LCheeseValleys$Land;" ∈ cv_BIG := cv_b1 152 rfl rfl
theorem wfX6_28 : Cond.fieldLink RX6 28 RX6 "wheel" "LCheeseValleys$Wheel;" ∈ cv_BIG := cv_b1 153 rfl rfl
theorem wfX6_35 : Cond.fieldLink RX6 35 RX6 "readings" "LCheeseValleys$Readings;" ∈ cv_BIG := cv_b1 154 rfl rfl
theorem wfX6_228 : Cond.fieldLink RX6 228 RX6 "traced" "I" ∈ cv_BIG := cv_b1 155 rfl rfl
theorem wfX6_39 : Cond.fieldLink RX6 39 RX6 "latestFault" "I" ∈ cv_BIG := cv_b1 156 rfl rfl
theorem wmL_13 : Cond.methodLink RL 13 yX6_land ∈ cv_BIG := cv_b1 170 rfl rfl
theorem wi_yX6_land : Cond.instanceMethod yX6_land ∈ cv_BIG := cv_b1 171 rfl rfl
theorem wc_yX6_land : Cond.code yX6_land cX6_land 8 (some .int) ∈ cv_BIG := cv_b1 173 rfl rfl
theorem wmX6_43 : Cond.methodLink RX6 43 yX6_isSheet ∈ cv_BIG := cv_b1 174 rfl rfl
theorem wt_yX6_isSheet : Cond.static yX6_isSheet ∈ cv_BIG := cv_b1 175 rfl rfl
theorem wc_yX6_isSheet : Cond.code yX6_isSheet cX6_isSheet 1 (some .boolean) ∈ cv_BIG := cv_b1 176 rfl rfl
theorem wmX6_111 : Cond.methodLink RX6 111 yX6_isBelow ∈ cv_BIG := cv_b1 177 rfl rfl
theorem wt_yX6_isBelow : Cond.static yX6_isBelow ∈ cv_BIG := cv_b1 178 rfl rfl
theorem wc_yX6_isBelow : Cond.code yX6_isBelow cX6_isBelow 2 (some .boolean) ∈ cv_BIG := cv_b1 179 rfl rfl
theorem wmX6_47 : Cond.methodLink RX6 47 yX6_isLane ∈ cv_BIG := cv_b1 180 rfl rfl
theorem wt_yX6_isLane : Cond.static yX6_isLane ∈ cv_BIG := cv_b1 181 rfl rfl
theorem wc_yX6_isLane : Cond.code yX6_isLane cX6_isLane 1 (some .boolean) ∈ cv_BIG := cv_b1 182 rfl rfl
theorem wmX6_50 : Cond.methodLink RX6 50 yX3_faultOf ∈ cv_BIG := cv_b1 183 rfl rfl
theorem wi_yX3_faultOf : Cond.instanceMethod yX3_faultOf ∈ cv_BIG := cv_b1 184 rfl rfl
theorem wc_yX3_faultOf : Cond.code yX3_faultOf cX3_faultOf 4 (some .int) ∈ cv_BIG := cv_b1 186 rfl rfl
theorem wmX3_22 : Cond.methodLink RX3 22 yX3_hasNothing ∈ cv_BIG := cv_b1 187 rfl rfl
theorem wi_yX3_hasNothing : Cond.instanceMethod yX3_hasNothing ∈ cv_BIG := cv_b1 188 rfl rfl
theorem wc_yX3_hasNothing : Cond.code yX3_hasNothing cX3_hasNothing 1 (some .boolean) ∈ cv_BIG := cv_b1 190 rfl rfl
theorem wmX3_26 : Cond.methodLink RX3 26 yX3_hasCells ∈ cv_BIG := cv_b1 191 rfl rfl
theorem wi_yX3_hasCells : Cond.instanceMethod yX3_hasCells ∈ cv_BIG := cv_b1 192 rfl rfl
theorem wc_yX3_hasCells : Cond.code yX3_hasCells cX3_hasCells 3 (some .boolean) ∈ cv_BIG := cv_b1 194 rfl rfl
theorem wmX6_54 : Cond.methodLink RX6 54 yX6_failed ∈ cv_BIG := cv_b1 195 rfl rfl
theorem wi_yX6_failed : Cond.instanceMethod yX6_failed ∈ cv_BIG := cv_b1 197 rfl rfl
theorem wc_yX6_failed : Cond.code yX6_failed cX6_failed 2 (some .int) ∈ cv_BIG := cv_b1 198 rfl rfl
theorem wkX6_58 : Cond.classLink RX6 58 RX4 ∈ cv_BIG := cv_b1 199 rfl rfl
theorem wb_X4 : Cond.instantiable RX4 3 ∈ cv_BIG := cv_b1 200 rfl rfl
theorem wmX6_64 : Cond.methodLink RX6 64 yX4_init ∈ cv_BIG := cv_b1 201 rfl rfl
theorem wi_yX4_init : Cond.instanceMethod yX4_init ∈ cv_BIG := cv_b1 202 rfl rfl
theorem wc_yX4_init : Cond.code yX4_init cX4_init 4 none ∈ cv_BIG := cv_b1 203 rfl rfl
theorem wmX4_3 : Cond.methodLink RX4 3 objectInit ∈ cv_BIG := cv_b1 204 rfl rfl
theorem wfX4_9 : Cond.fieldLink RX4 9 RX4 "cells" "[I" ∈ cv_BIG := cv_b1 205 rfl rfl
theorem wfX4_15 : Cond.fieldLink RX4 15 RX4 "from" "I" ∈ cv_BIG := cv_b1 206 rfl rfl
theorem wfX4_19 : Cond.fieldLink RX4 19 RX4 "length" "I" ∈ cv_BIG := cv_b1 207 rfl rfl
theorem wfX0_40 : Cond.fieldLink RX0 40 RX4 "length" "I" ∈ cv_BIG := cv_b1 208 rfl rfl
theorem wmX6_67 : Cond.methodLink RX6 67 yX4_firstFault ∈ cv_BIG := cv_b1 216 rfl rfl
theorem wi_yX4_firstFault : Cond.instanceMethod yX4_firstFault ∈ cv_BIG := cv_b1 217 rfl rfl
theorem wc_yX4_firstFault : Cond.code yX4_firstFault cX4_firstFault 2 (some .int) ∈ cv_BIG := cv_b1 219 rfl rfl
theorem wmX4_29 : Cond.methodLink RX4 29 yX4_goesOnAt ∈ cv_BIG := cv_b1 220 rfl rfl
theorem wi_yX4_goesOnAt : Cond.instanceMethod yX4_goesOnAt ∈ cv_BIG := cv_b1 222 rfl rfl
theorem wc_yX4_goesOnAt : Cond.code yX4_goesOnAt cX4_goesOnAt 2 (some .boolean) ∈ cv_BIG := cv_b1 223 rfl rfl
theorem wmX4_22 : Cond.methodLink RX4 22 yX4_codeAt ∈ cv_BIG := cv_b1 224 rfl rfl
theorem wi_yX4_codeAt : Cond.instanceMethod yX4_codeAt ∈ cv_BIG := cv_b1 225 rfl rfl
theorem wc_yX4_codeAt : Cond.code yX4_codeAt cX4_codeAt 2 (some .int) ∈ cv_BIG := cv_b1 227 rfl rfl
theorem wmX4_33 : Cond.methodLink RX4 33 yX4_isDigitAt ∈ cv_BIG := cv_b1 228 rfl rfl
theorem wi_yX4_isDigitAt : Cond.instanceMethod yX4_isDigitAt ∈ cv_BIG := cv_b1 230 rfl rfl
theorem wc_yX4_isDigitAt : Cond.code yX4_isDigitAt cX4_isDigitAt 4 (some .boolean) ∈ cv_BIG := cv_b1 231 rfl rfl
theorem wmX4_26 : Cond.methodLink RX4 26 yX4_digitAt ∈ cv_BIG := cv_b1 232 rfl rfl
theorem wi_yX4_digitAt : Cond.instanceMethod yX4_digitAt ∈ cv_BIG := cv_b1 233 rfl rfl
theorem wc_yX4_digitAt : Cond.code yX4_digitAt cX4_digitAt 2 (some .int) ∈ cv_BIG := cv_b1 235 rfl rfl
theorem wmX4_37 : Cond.methodLink RX4 37 yX4_givesGoOnAt ∈ cv_BIG := cv_b1 236 rfl rfl
theorem wi_yX4_givesGoOnAt : Cond.instanceMethod yX4_givesGoOnAt ∈ cv_BIG := cv_b1 238 rfl rfl
theorem wc_yX4_givesGoOnAt : Cond.code yX4_givesGoOnAt cX4_givesGoOnAt 4 (some .boolean) ∈ cv_BIG := cv_b1 239 rfl rfl
theorem wmX4_41 : Cond.methodLink RX4 41 yX4_passGoesOnAt ∈ cv_BIG := cv_b2 0 rfl rfl
theorem wi_yX4_passGoesOnAt : Cond.instanceMethod yX4_passGoesOnAt ∈ cv_BIG := cv_b2 2 rfl rfl
theorem wc_yX4_passGoesOnAt : Cond.code yX4_passGoesOnAt cX4_passGoesOnAt 3 (some .boolean) ∈ cv_BIG := cv_b2 3 rfl rfl
theorem wmX4_44 : Cond.methodLink RX4 44 yX4_kindAt ∈ cv_BIG := cv_b2 4 rfl rfl
theorem wi_yX4_kindAt : Cond.instanceMethod yX4_kindAt ∈ cv_BIG := cv_b2 5 rfl rfl
theorem wc_yX4_kindAt : Cond.code yX4_kindAt cX4_kindAt 2 (some .int) ∈ cv_BIG := cv_b2 7 rfl rfl
theorem wmX6_71 : Cond.methodLink RX6 71 yX0_settle ∈ cv_BIG := cv_b2 8 rfl rfl
theorem wi_yX0_settle : Cond.instanceMethod yX0_settle ∈ cv_BIG := cv_b2 9 rfl rfl
theorem wc_yX0_settle : Cond.code yX0_settle cX0_settle 4 none ∈ cv_BIG := cv_b2 11 rfl rfl
theorem wmX0_31 : Cond.methodLink RX0 31 yX4_digitAt ∈ cv_BIG := cv_b2 12 rfl rfl
theorem wmX0_37 : Cond.methodLink RX0 37 yX4_numberAt ∈ cv_BIG := cv_b2 13 rfl rfl
theorem wi_yX4_numberAt : Cond.instanceMethod yX4_numberAt ∈ cv_BIG := cv_b2 14 rfl rfl
theorem wc_yX4_numberAt : Cond.code yX4_numberAt cX4_numberAt 2 (some .int) ∈ cv_BIG := cv_b2 16 rfl rfl
theorem wmX0_44 : Cond.methodLink RX0 44 yJ9_min_7cf53 ∈ cv_BIG := cv_b2 17 rfl rfl
theorem wt_yJ9_min_7cf53 : Cond.static yJ9_min_7cf53 ∈ cv_BIG := cv_b2 18 rfl rfl
theorem wc_yJ9_min_7cf53 : Cond.code yJ9_min_7cf53 cJ9_min_7cf53 2 (some .int) ∈ cv_BIG := cv_b2 19 rfl rfl
theorem wmX0_53 : Cond.methodLink RX0 53 yX0_settlePass ∈ cv_BIG := cv_b2 20 rfl rfl
theorem wt_yX0_settlePass : Cond.static yX0_settlePass ∈ cv_BIG := cv_b2 21 rfl rfl
theorem wc_yX0_settlePass : Cond.code yX0_settlePass cX0_settlePass 3 none ∈ cv_BIG := cv_b2 22 rfl rfl
theorem wmX0_61 : Cond.methodLink RX0 61 yX4_kindAt ∈ cv_BIG := cv_b2 23 rfl rfl
theorem wmL_18 : Cond.methodLink RL 18 yX6_ofPass ∈ cv_BIG := cv_b2 24 rfl rfl
theorem wi_yX6_ofPass : Cond.instanceMethod yX6_ofPass ∈ cv_BIG := cv_b2 25 rfl rfl
theorem wc_yX6_ofPass : Cond.code yX6_ofPass cX6_ofPass 4 (some .int) ∈ cv_BIG := cv_b2 27 rfl rfl
theorem wmX6_81 : Cond.methodLink RX6 81 yX6_isPass ∈ cv_BIG := cv_b2 28 rfl rfl
theorem wi_yX6_isPass : Cond.instanceMethod yX6_isPass ∈ cv_BIG := cv_b2 30 rfl rfl
theorem wc_yX6_isPass : Cond.code yX6_isPass cX6_isPass 2 (some .boolean) ∈ cv_BIG := cv_b2 31 rfl rfl
theorem wmX6_105 : Cond.methodLink RX6 105 yX1_takes ∈ cv_BIG := cv_b2 32 rfl rfl
theorem wi_yX1_takes : Cond.instanceMethod yX1_takes ∈ cv_BIG := cv_b2 33 rfl rfl
theorem wc_yX1_takes : Cond.code yX1_takes cX1_takes 1 (some .int) ∈ cv_BIG := cv_b2 35 rfl rfl
theorem wmL_23 : Cond.methodLink RL 23 yX6_snow ∈ cv_BIG := cv_b2 36 rfl rfl
theorem wi_yX6_snow : Cond.instanceMethod yX6_snow ∈ cv_BIG := cv_b2 37 rfl rfl
theorem wc_yX6_snow : Cond.code yX6_snow cX6_snow 4 (some .int) ∈ cv_BIG := cv_b2 39 rfl rfl
theorem wmX6_108 : Cond.methodLink RX6 108 yX6_isDay ∈ cv_BIG := cv_b2 40 rfl rfl
theorem wt_yX6_isDay : Cond.static yX6_isDay ∈ cv_BIG := cv_b2 41 rfl rfl
theorem wc_yX6_isDay : Cond.code yX6_isDay cX6_isDay 1 (some .boolean) ∈ cv_BIG := cv_b2 42 rfl rfl
theorem wmL_27 : Cond.methodLink RL 27 yX6_give ∈ cv_BIG := cv_b2 43 rfl rfl
theorem wi_yX6_give : Cond.instanceMethod yX6_give ∈ cv_BIG := cv_b2 44 rfl rfl
theorem wc_yX6_give : Cond.code yX6_give cX6_give 4 (some .int) ∈ cv_BIG := cv_b2 46 rfl rfl
theorem wmX6_122 : Cond.methodLink RX6 122 yX6_isValley ∈ cv_BIG := cv_b2 47 rfl rfl
theorem wt_yX6_isValley : Cond.static yX6_isValley ∈ cv_BIG := cv_b2 48 rfl rfl
theorem wc_yX6_isValley : Cond.code yX6_isValley cX6_isValley 1 (some .boolean) ∈ cv_BIG := cv_b2 49 rfl rfl
theorem wmL_31 : Cond.methodLink RL 31 yX6_open ∈ cv_BIG := cv_b2 50 rfl rfl
theorem wi_yX6_open : Cond.instanceMethod yX6_open ∈ cv_BIG := cv_b2 51 rfl rfl
theorem wc_yX6_open : Cond.code yX6_open cX6_open 4 (some .int) ∈ cv_BIG := cv_b2 53 rfl rfl
theorem wmX6_128 : Cond.methodLink RX6 128 yX1_isOpenIn ∈ cv_BIG := cv_b2 54 rfl rfl
theorem wi_yX1_isOpenIn : Cond.instanceMethod yX1_isOpenIn ∈ cv_BIG := cv_b2 55 rfl rfl
theorem wc_yX1_isOpenIn : Cond.code yX1_isOpenIn cX1_isOpenIn 2 (some .boolean) ∈ cv_BIG := cv_b2 57 rfl rfl
theorem wmL_36 : Cond.methodLink RL 36 yX6_soonest ∈ cv_BIG := cv_b2 58 rfl rfl
theorem wi_yX6_soonest : Cond.instanceMethod yX6_soonest ∈ cv_BIG := cv_b2 59 rfl rfl
theorem wc_yX6_soonest : Cond.code yX6_soonest cX6_soonest 2 (some .int) ∈ cv_BIG := cv_b2 61 rfl rfl
theorem wmX6_131 : Cond.methodLink RX6 131 yX0_chart ∈ cv_BIG := cv_b2 62 rfl rfl
theorem wi_yX0_chart : Cond.instanceMethod yX0_chart ∈ cv_BIG := cv_b2 63 rfl rfl
theorem wc_yX0_chart : Cond.code yX0_chart cX0_chart 4 none ∈ cv_BIG := cv_b2 65 rfl rfl
theorem wmX0_88 : Cond.methodLink RX0 88 yX0_reachFrom ∈ cv_BIG := cv_b2 66 rfl rfl
theorem wi_yX0_reachFrom : Cond.instanceMethod yX0_reachFrom ∈ cv_BIG := cv_b2 68 rfl rfl
theorem wc_yX0_reachFrom : Cond.code yX0_reachFrom cX0_reachFrom 7 (some .int) ∈ cv_BIG := cv_b2 69 rfl rfl
theorem wmX0_92 : Cond.methodLink RX0 92 yX0_arrival ∈ cv_BIG := cv_b2 70 rfl rfl
theorem wi_yX0_arrival : Cond.instanceMethod yX0_arrival ∈ cv_BIG := cv_b2 71 rfl rfl
theorem wc_yX0_arrival : Cond.code yX0_arrival cX0_arrival 5 (some .int) ∈ cv_BIG := cv_b2 73 rfl rfl
theorem wmX0_77 : Cond.methodLink RX0 77 yX1_otherEnd ∈ cv_BIG := cv_b2 74 rfl rfl
theorem wi_yX1_otherEnd : Cond.instanceMethod yX1_otherEnd ∈ cv_BIG := cv_b2 75 rfl rfl
theorem wc_yX1_otherEnd : Cond.code yX1_otherEnd cX1_otherEnd 2 (some .int) ∈ cv_BIG := cv_b2 77 rfl rfl
theorem wmX0_80 : Cond.methodLink RX0 80 yX1_isOpenIn ∈ cv_BIG := cv_b2 78 rfl rfl
theorem wmX0_84 : Cond.methodLink RX0 84 yX1_takes ∈ cv_BIG := cv_b2 79 rfl rfl
theorem wmX6_135 : Cond.methodLink RX6 135 yX0_doneOn ∈ cv_BIG := cv_b2 80 rfl rfl
theorem wi_yX0_doneOn : Cond.instanceMethod yX0_doneOn ∈ cv_BIG := cv_b2 81 rfl rfl
theorem wc_yX0_doneOn : Cond.code yX0_doneOn cX0_doneOn 2 (some .int) ∈ cv_BIG := cv_b2 83 rfl rfl
theorem wmX0_100 : Cond.methodLink RX0 100 yX0_doneWith ∈ cv_BIG := cv_b2 84 rfl rfl
theorem wi_yX0_doneWith : Cond.instanceMethod yX0_doneWith ∈ cv_BIG := cv_b2 86 rfl rfl
theorem wc_yX0_doneWith : Cond.code yX0_doneWith cX0_doneWith 5 (some .int) ∈ cv_BIG := cv_b2 87 rfl rfl
theorem wt_yX6_hasDay : Cond.static yX6_hasDay ∈ cv_BIG := cv_b2 89 rfl rfl
theorem wc_yX6_hasDay : Cond.code yX6_hasDay cX6_hasDay 2 (some .boolean) ∈ cv_BIG := cv_b2 90 rfl rfl
theorem wmX0_103 : Cond.methodLink RX0 103 yX0_firstDayIn ∈ cv_BIG := cv_b2 91 rfl rfl
theorem wi_yX0_firstDayIn : Cond.instanceMethod yX0_firstDayIn ∈ cv_BIG := cv_b2 93 rfl rfl
theorem wc_yX0_firstDayIn : Cond.code yX0_firstDayIn cX0_firstDayIn 7 (some .int) ∈ cv_BIG := cv_b2 94 rfl rfl
theorem wmL_40 : Cond.methodLink RL 40 yX6_holes ∈ cv_BIG := cv_b2 95 rfl rfl
theorem wi_yX6_holes : Cond.instanceMethod yX6_holes ∈ cv_BIG := cv_b2 96 rfl rfl
theorem wc_yX6_holes : Cond.code yX6_holes cX6_holes 2 (some .int) ∈ cv_BIG := cv_b2 98 rfl rfl
theorem wmX6_138 : Cond.methodLink RX6 138 yX0_fewestHoles ∈ cv_BIG := cv_b2 99 rfl rfl
theorem wi_yX0_fewestHoles : Cond.instanceMethod yX0_fewestHoles ∈ cv_BIG := cv_b2 100 rfl rfl
theorem wc_yX0_fewestHoles : Cond.code yX0_fewestHoles cX0_fewestHoles 5 (some .int) ∈ cv_BIG := cv_b2 102 rfl rfl
theorem wmX0_111 : Cond.methodLink RX0 111 yX0_placeOf ∈ cv_BIG := cv_b2 103 rfl rfl
theorem wt_yX0_placeOf : Cond.static yX0_placeOf ∈ cv_BIG := cv_b2 104 rfl rfl
theorem wc_yX0_placeOf : Cond.code yX0_placeOf cX0_placeOf 3 (some .int) ∈ cv_BIG := cv_b2 105 rfl rfl
theorem wmX0_114 : Cond.methodLink RX0 114 yX0_holesFrom ∈ cv_BIG := cv_b2 106 rfl rfl
theorem wi_yX0_holesFrom : Cond.instanceMethod yX0_holesFrom ∈ cv_BIG := cv_b2 108 rfl rfl
theorem wc_yX0_holesFrom : Cond.code yX0_holesFrom cX0_holesFrom 7 (some .int) ∈ cv_BIG := cv_b2 109 rfl rfl
theorem wmX0_117 : Cond.methodLink RX0 117 yX0_fewer ∈ cv_BIG := cv_b2 110 rfl rfl
theorem wt_yX0_fewer : Cond.static yX0_fewer ∈ cv_BIG := cv_b2 111 rfl rfl
theorem wc_yX0_fewer : Cond.code yX0_fewer cX0_fewer 2 (some .int) ∈ cv_BIG := cv_b2 112 rfl rfl
theorem wmX0_120 : Cond.methodLink RX0 120 yJ9_max_7cf53 ∈ cv_BIG := cv_b2 113 rfl rfl
theorem wt_yJ9_max_7cf53 : Cond.static yJ9_max_7cf53 ∈ cv_BIG := cv_b2 114 rfl rfl
theorem wc_yJ9_max_7cf53 : Cond.code yJ9_max_7cf53 cJ9_max_7cf53 2 (some .int) ∈ cv_BIG := cv_b2 115 rfl rfl
theorem wmL_44 : Cond.methodLink RL 44 yX6_way ∈ cv_BIG := cv_b2 116 rfl rfl
theorem wi_yX6_way : Cond.instanceMethod yX6_way ∈ cv_BIG := cv_b2 117 rfl rfl
theorem wc_yX6_way : Cond.code yX6_way cX6_way 9 (some .int) ∈ cv_BIG := cv_b2 119 rfl rfl
theorem wmX6_141 : Cond.methodLink RX6 141 yX6_refusalOfSteps ∈ cv_BIG := cv_b2 120 rfl rfl
theorem wi_yX6_refusalOfSteps : Cond.instanceMethod yX6_refusalOfSteps ∈ cv_BIG := cv_b2 122 rfl rfl
theorem wc_yX6_refusalOfSteps : Cond.code yX6_refusalOfSteps cX6_refusalOfSteps 6 (some .int) ∈ cv_BIG := cv_b2 123 rfl rfl
theorem wmX6_145 : Cond.methodLink RX6 145 yX5_begin ∈ cv_BIG := cv_b2 124 rfl rfl
theorem wi_yX5_begin : Cond.instanceMethod yX5_begin ∈ cv_BIG := cv_b2 125 rfl rfl
theorem wc_yX5_begin : Cond.code yX5_begin cX5_begin 2 none ∈ cv_BIG := cv_b2 127 rfl rfl
theorem wmX6_148 : Cond.methodLink RX6 148 yX6_firstWrong ∈ cv_BIG := cv_b2 128 rfl rfl
theorem wi_yX6_firstWrong : Cond.instanceMethod yX6_firstWrong ∈ cv_BIG := cv_b2 130 rfl rfl
theorem wc_yX6_firstWrong : Cond.code yX6_firstWrong cX6_firstWrong 6 (some .int) ∈ cv_BIG := cv_b2 131 rfl rfl
theorem wmX6_234 : Cond.methodLink RX6 234 yX6_hasDay ∈ cv_BIG := cv_b2 132 rfl rfl
theorem wmX6_237 : Cond.methodLink RX6 237 yX5_takesStep ∈ cv_BIG := cv_b2 133 rfl rfl
theorem wi_yX5_takesStep : Cond.instanceMethod yX5_takesStep ∈ cv_BIG := cv_b2 134 rfl rfl
theorem wc_yX5_takesStep : Cond.code yX5_takesStep cX5_takesStep 3 (some .boolean) ∈ cv_BIG := cv_b2 136 rfl rfl
theorem wmX5_24 : Cond.methodLink RX5 24 yX5_waitsADay ∈ cv_BIG := cv_b2 137 rfl rfl
theorem wi_yX5_waitsADay : Cond.instanceMethod yX5_waitsADay ∈ cv_BIG := cv_b2 139 rfl rfl
theorem wc_yX5_waitsADay : Cond.code yX5_waitsADay cX5_waitsADay 1 (some .boolean) ∈ cv_BIG := cv_b2 140 rfl rfl
theorem wmX5_28 : Cond.methodLink RX5 28 yX5_gets ∈ cv_BIG := cv_b2 141 rfl rfl
theorem wi_yX5_gets : Cond.instanceMethod yX5_gets ∈ cv_BIG := cv_b2 143 rfl rfl
theorem wc_yX5_gets : Cond.code yX5_gets cX5_gets 4 (some .boolean) ∈ cv_BIG := cv_b2 144 rfl rfl
theorem wmX5_32 : Cond.methodLink RX5 32 yX5_crosses ∈ cv_BIG := cv_b2 146 rfl rfl
theorem wi_yX5_crosses : Cond.instanceMethod yX5_crosses ∈ cv_BIG := cv_b2 148 rfl rfl
theorem wc_yX5_crosses : Cond.code yX5_crosses cX5_crosses 5 (some .boolean) ∈ cv_BIG := cv_b2 149 rfl rfl
theorem wmX5_56 : Cond.methodLink RX5 56 yX0_arrival ∈ cv_BIG := cv_b2 151 rfl rfl
theorem wmX5_60 : Cond.methodLink RX5 60 yX1_otherEnd ∈ cv_BIG := cv_b2 152 rfl rfl
theorem wmX6_151 : Cond.methodLink RX6 151 yX6_ofWay ∈ cv_BIG := cv_b2 153 rfl rfl
theorem wi_yX6_ofWay : Cond.instanceMethod yX6_ofWay ∈ cv_BIG := cv_b2 155 rfl rfl
theorem wc_yX6_ofWay : Cond.code yX6_ofWay cX6_ofWay 3 (some .int) ∈ cv_BIG := cv_b2 156 rfl rfl
theorem wmL_49 : Cond.methodLink RL 49 yX6_last ∈ cv_BIG := cv_b2 157 rfl rfl
theorem wi_yX6_last : Cond.instanceMethod yX6_last ∈ cv_BIG := cv_b2 158 rfl rfl
theorem wc_yX6_last : Cond.code yX6_last cX6_last 3 (some .int) ∈ cv_BIG := cv_b2 160 rfl rfl
theorem wmX6_155 : Cond.methodLink RX6 155 yX0_isDoneBy ∈ cv_BIG := cv_b2 161 rfl rfl
theorem wi_yX0_isDoneBy : Cond.instanceMethod yX0_isDoneBy ∈ cv_BIG := cv_b2 162 rfl rfl
theorem wc_yX0_isDoneBy : Cond.code yX0_isDoneBy cX0_isDoneBy 6 (some .boolean) ∈ cv_BIG := cv_b2 164 rfl rfl
theorem wmL_53 : Cond.methodLink RL 53 yX6_safe ∈ cv_BIG := cv_b2 165 rfl rfl
theorem wi_yX6_safe : Cond.instanceMethod yX6_safe ∈ cv_BIG := cv_b2 166 rfl rfl
theorem wc_yX6_safe : Cond.code yX6_safe cX6_safe 3 (some .int) ∈ cv_BIG := cv_b2 168 rfl rfl
theorem wmX6_159 : Cond.methodLink RX6 159 yX0_isSafeBy ∈ cv_BIG := cv_b2 169 rfl rfl
theorem wi_yX0_isSafeBy : Cond.instanceMethod yX0_isSafeBy ∈ cv_BIG := cv_b2 170 rfl rfl
theorem wc_yX0_isSafeBy : Cond.code yX0_isSafeBy cX0_isSafeBy 6 (some .boolean) ∈ cv_BIG := cv_b2 172 rfl rfl
theorem wmX0_107 : Cond.methodLink RX0 107 yX0_isDoneBy ∈ cv_BIG := cv_b2 173 rfl rfl
theorem wmL_57 : Cond.methodLink RL 57 yX6_hangs ∈ cv_BIG := cv_b2 174 rfl rfl
theorem wi_yX6_hangs : Cond.instanceMethod yX6_hangs ∈ cv_BIG := cv_b2 175 rfl rfl
theorem wc_yX6_hangs : Cond.code yX6_hangs cX6_hangs 5 (some .int) ∈ cv_BIG := cv_b2 177 rfl rfl
theorem wmX6_162 : Cond.methodLink RX6 162 yX6_canWithout ∈ cv_BIG := cv_b2 178 rfl rfl
theorem wi_yX6_canWithout : Cond.instanceMethod yX6_canWithout ∈ cv_BIG := cv_b2 180 rfl rfl
theorem wc_yX6_canWithout : Cond.code yX6_canWithout cX6_canWithout 4 (some .boolean) ∈ cv_BIG := cv_b2 181 rfl rfl
theorem wmL_61 : Cond.methodLink RL 61 yX6_peace ∈ cv_BIG := cv_b2 182 rfl rfl
theorem wi_yX6_peace : Cond.instanceMethod yX6_peace ∈ cv_BIG := cv_b2 183 rfl rfl
theorem wc_yX6_peace : Cond.code yX6_peace cX6_peace 3 (some .int) ∈ cv_BIG := cv_b2 185 rfl rfl
theorem wmX6_166 : Cond.methodLink RX6 166 yX0_daysToPeace ∈ cv_BIG := cv_b2 186 rfl rfl
theorem wi_yX0_daysToPeace : Cond.instanceMethod yX0_daysToPeace ∈ cv_BIG := cv_b2 187 rfl rfl
theorem wc_yX0_daysToPeace : Cond.code yX0_daysToPeace cX0_daysToPeace 3 (some .int) ∈ cv_BIG := cv_b2 189 rfl rfl
theorem wmL_65 : Cond.methodLink RL 65 yX6_reading ∈ cv_BIG := cv_b2 190 rfl rfl
theorem wi_yX6_reading : Cond.instanceMethod yX6_reading ∈ cv_BIG := cv_b2 191 rfl rfl
theorem wc_yX6_reading : Cond.code yX6_reading cX6_reading 4 (some .int) ∈ cv_BIG := cv_b2 193 rfl rfl
theorem wmL_69 : Cond.methodLink RL 69 yX6_back ∈ cv_BIG := cv_b2 194 rfl rfl
theorem wi_yX6_back : Cond.instanceMethod yX6_back ∈ cv_BIG := cv_b2 195 rfl rfl
theorem wc_yX6_back : Cond.code yX6_back cX6_back 2 (some .int) ∈ cv_BIG := cv_b2 197 rfl rfl
theorem wmL_73 : Cond.methodLink RL 73 yX6_snows ∈ cv_BIG := cv_b2 198 rfl rfl
theorem wi_yX6_snows : Cond.instanceMethod yX6_snows ∈ cv_BIG := cv_b2 199 rfl rfl
theorem wc_yX6_snows : Cond.code yX6_snows cX6_snows 5 (some .int) ∈ cv_BIG := cv_b2 201 rfl rfl
theorem wmX6_175 : Cond.methodLink RX6 175 yX6_bitIfReadingsHold ∈ cv_BIG := cv_b2 202 rfl rfl
theorem wi_yX6_bitIfReadingsHold : Cond.instanceMethod yX6_bitIfReadingsHold ∈ cv_BIG := cv_b2 204 rfl rfl
theorem wc_yX6_bitIfReadingsHold : Cond.code yX6_bitIfReadingsHold cX6_bitIfReadingsHold 2 (some .int) ∈ cv_BIG := cv_b2 205 rfl rfl
theorem wmX6_178 : Cond.methodLink RX6 178 yX2_holdIn ∈ cv_BIG := cv_b2 206 rfl rfl
theorem wi_yX2_holdIn : Cond.instanceMethod yX2_holdIn ∈ cv_BIG := cv_b2 207 rfl rfl
theorem wc_yX2_holdIn : Cond.code yX2_holdIn cX2_holdIn 3 (some .boolean) ∈ cv_BIG := cv_b2 209 rfl rfl
theorem wmX2_22 : Cond.methodLink RX2 22 yX0_doneOn ∈ cv_BIG := cv_b2 210 rfl rfl
theorem wmL_77 : Cond.methodLink RL 77 yX6_heights ∈ cv_BIG := cv_b2 211 rfl rfl
theorem wi_yX6_heights : Cond.instanceMethod yX6_heights ∈ cv_BIG := cv_b2 212 rfl rfl
theorem wc_yX6_heights : Cond.code yX6_heights cX6_heights 6 (some .int) ∈ cv_BIG := cv_b2 214 rfl rfl
theorem wmL_81 : Cond.methodLink RL 81 yX6_kinds ∈ cv_BIG := cv_b2 215 rfl rfl
theorem wi_yX6_kinds : Cond.instanceMethod yX6_kinds ∈ cv_BIG := cv_b2 216 rfl rfl
theorem wc_yX6_kinds : Cond.code yX6_kinds cX6_kinds 6 (some .int) ∈ cv_BIG := cv_b2 218 rfl rfl
theorem wmL_85 : Cond.methodLink RL 85 yX6_gave ∈ cv_BIG := cv_b2 219 rfl rfl
theorem wi_yX6_gave : Cond.instanceMethod yX6_gave ∈ cv_BIG := cv_b2 220 rfl rfl
theorem wc_yX6_gave : Cond.code yX6_gave cX6_gave 7 (some .int) ∈ cv_BIG := cv_b2 222 rfl rfl
theorem wmL_89 : Cond.methodLink RL 89 yX6_odds ∈ cv_BIG := cv_b2 223 rfl rfl
theorem wi_yX6_odds : Cond.instanceMethod yX6_odds ∈ cv_BIG := cv_b2 224 rfl rfl
theorem wc_yX6_odds : Cond.code yX6_odds cX6_odds 8 (some .long) ∈ cv_BIG := cv_b2 226 rfl rfl
theorem wlX6_182 : Cond.constantLong RX6 182 (-9223372036854775808) ∈ cv_BIG := cv_b2 227 rfl rfl
theorem wmX6_184 : Cond.methodLink RX6 184 yX0_setsDoneBy ∈ cv_BIG := cv_b2 228 rfl rfl
theorem wi_yX0_setsDoneBy : Cond.instanceMethod yX0_setsDoneBy ∈ cv_BIG := cv_b2 229 rfl rfl
theorem wc_yX0_setsDoneBy : Cond.code yX0_setsDoneBy cX0_setsDoneBy 9 (some .int) ∈ cv_BIG := cv_b2 231 rfl rfl
theorem wmX6_187 : Cond.methodLink RX6 187 yJ6_bitCount_0f7a4 ∈ cv_BIG := cv_b2 232 rfl rfl
theorem wt_yJ6_bitCount_0f7a4 : Cond.static yJ6_bitCount_0f7a4 ∈ cv_BIG := cv_b2 233 rfl rfl
theorem wc_yJ6_bitCount_0f7a4 : Cond.code yJ6_bitCount_0f7a4 cJ6_bitCount_0f7a4 1 (some .int) ∈ cv_BIG := cv_b2 234 rfl rfl
theorem wjJ6_265 : Cond.constant RJ6 265 1431655765 ∈ cv_BIG := cv_b2 235 rfl rfl
theorem wjJ6_266 : Cond.constant RJ6 266 858993459 ∈ cv_BIG := cv_b2 236 rfl rfl
theorem wjJ6_267 : Cond.constant RJ6 267 252645135 ∈ cv_BIG := cv_b2 237 rfl rfl
theorem wmL_94 : Cond.methodLink RL 94 yX6_sheet ∈ cv_BIG := cv_b2 238 rfl rfl
theorem wi_yX6_sheet : Cond.instanceMethod yX6_sheet ∈ cv_BIG := cv_b2 239 rfl rfl
theorem wc_yX6_sheet : Cond.code yX6_sheet cX6_sheet 4 (some .int) ∈ cv_BIG := cv_b3 1 rfl rfl
theorem wmX6_192 : Cond.methodLink RX6 192 yX3_renew ∈ cv_BIG := cv_b3 2 rfl rfl
theorem wi_yX3_renew : Cond.instanceMethod yX3_renew ∈ cv_BIG := cv_b3 3 rfl rfl
theorem wc_yX3_renew : Cond.code yX3_renew cX3_renew 4 none ∈ cv_BIG := cv_b3 5 rfl rfl
theorem wmL_99 : Cond.methodLink RL 99 yX6_lose ∈ cv_BIG := cv_b3 6 rfl rfl
theorem wi_yX6_lose : Cond.instanceMethod yX6_lose ∈ cv_BIG := cv_b3 7 rfl rfl
theorem wc_yX6_lose : Cond.code yX6_lose cX6_lose 3 (some .int) ∈ cv_BIG := cv_b3 9 rfl rfl
theorem wmX6_196 : Cond.methodLink RX6 196 yX3_hasNothing ∈ cv_BIG := cv_b3 10 rfl rfl
theorem wmL_103 : Cond.methodLink RL 103 yX6_put ∈ cv_BIG := cv_b3 11 rfl rfl
theorem wi_yX6_put : Cond.instanceMethod yX6_put ∈ cv_BIG := cv_b3 12 rfl rfl
theorem wc_yX6_put : Cond.code yX6_put cX6_put 6 (some .int) ∈ cv_BIG := cv_b3 14 rfl rfl
theorem wmX6_203 : Cond.methodLink RX6 203 yX3_cut ∈ cv_BIG := cv_b3 15 rfl rfl
theorem wi_yX3_cut : Cond.instanceMethod yX3_cut ∈ cv_BIG := cv_b3 16 rfl rfl
theorem wc_yX3_cut : Cond.code yX3_cut cX3_cut 2 (some .int) ∈ cv_BIG := cv_b3 18 rfl rfl
theorem wmL_107 : Cond.methodLink RL 107 yX6_cell ∈ cv_BIG := cv_b3 19 rfl rfl
theorem wi_yX6_cell : Cond.instanceMethod yX6_cell ∈ cv_BIG := cv_b3 20 rfl rfl
theorem wc_yX6_cell : Cond.code yX6_cell cX6_cell 5 (some .long) ∈ cv_BIG := cv_b3 22 rfl rfl
theorem wmL_112 : Cond.methodLink RL 112 yX6_copy ∈ cv_BIG := cv_b3 23 rfl rfl
theorem wi_yX6_copy : Cond.instanceMethod yX6_copy ∈ cv_BIG := cv_b3 24 rfl rfl
theorem wc_yX6_copy : Cond.code yX6_copy cX6_copy 8 (some .int) ∈ cv_BIG := cv_b3 26 rfl rfl
theorem wmX6_206 : Cond.methodLink RX6 206 yX3_hasCells ∈ cv_BIG := cv_b3 27 rfl rfl
theorem wmX6_209 : Cond.methodLink RX6 209 arraycopyName ∈ cv_BIG := cv_b3 28 rfl rfl
theorem wt_arraycopyName : Cond.static arraycopyName ∈ cv_BIG := cv_b3 29 rfl rfl
theorem wv_arraycopy : Cond.native arraycopyName ∈ cv_BIG := cv_b3 30 rfl rfl
theorem wmL_117 : Cond.methodLink RL 117 yX6_tell ∈ cv_BIG := cv_b3 31 rfl rfl
theorem wi_yX6_tell : Cond.instanceMethod yX6_tell ∈ cv_BIG := cv_b3 32 rfl rfl
theorem wc_yX6_tell : Cond.code yX6_tell cX6_tell 3 (some .int) ∈ cv_BIG := cv_b3 34 rfl rfl
theorem wmX6_215 : Cond.methodLink RX6 215 yX6_steepTelling ∈ cv_BIG := cv_b3 35 rfl rfl
theorem wi_yX6_steepTelling : Cond.instanceMethod yX6_steepTelling ∈ cv_BIG := cv_b3 37 rfl rfl
theorem wc_yX6_steepTelling : Cond.code yX6_steepTelling cX6_steepTelling 2 (some .int) ∈ cv_BIG := cv_b3 38 rfl rfl
theorem wmX6_225 : Cond.methodLink RX6 225 yX6_leave ∈ cv_BIG := cv_b3 39 rfl rfl
theorem wi_yX6_leave : Cond.instanceMethod yX6_leave ∈ cv_BIG := cv_b3 41 rfl rfl
theorem wc_yX6_leave : Cond.code yX6_leave cX6_leave 2 none ∈ cv_BIG := cv_b3 42 rfl rfl
theorem wmX6_222 : Cond.methodLink RX6 222 yX6_passTelling ∈ cv_BIG := cv_b3 43 rfl rfl
theorem wi_yX6_passTelling : Cond.instanceMethod yX6_passTelling ∈ cv_BIG := cv_b3 45 rfl rfl
theorem wc_yX6_passTelling : Cond.code yX6_passTelling cX6_passTelling 2 (some .int) ∈ cv_BIG := cv_b3 46 rfl rfl
theorem wmX6_219 : Cond.methodLink RX6 219 yX6_tunnelTelling ∈ cv_BIG := cv_b3 47 rfl rfl
theorem wi_yX6_tunnelTelling : Cond.instanceMethod yX6_tunnelTelling ∈ cv_BIG := cv_b3 49 rfl rfl
theorem wc_yX6_tunnelTelling : Cond.code yX6_tunnelTelling cX6_tunnelTelling 3 (some .int) ∈ cv_BIG := cv_b3 50 rfl rfl
theorem wmL_121 : Cond.methodLink RL 121 yX6_mark ∈ cv_BIG := cv_b3 51 rfl rfl
theorem wi_yX6_mark : Cond.instanceMethod yX6_mark ∈ cv_BIG := cv_b3 52 rfl rfl
theorem wc_yX6_mark : Cond.code yX6_mark cX6_mark 2 (some .int) ∈ cv_BIG := cv_b3 54 rfl rfl
theorem wmL_125 : Cond.methodLink RL 125 yX6_as ∈ cv_BIG := cv_b3 55 rfl rfl
theorem wi_yX6_as : Cond.instanceMethod yX6_as ∈ cv_BIG := cv_b3 56 rfl rfl
theorem wc_yX6_as : Cond.code yX6_as cX6_as 3 (some .int) ∈ cv_BIG := cv_b3 58 rfl rfl
theorem wmL_129 : Cond.methodLink RL 129 yX6_trace ∈ cv_BIG := cv_b3 59 rfl rfl
theorem wi_yX6_trace : Cond.instanceMethod yX6_trace ∈ cv_BIG := cv_b3 60 rfl rfl
theorem wc_yX6_trace : Cond.code yX6_trace cX6_trace 1 (some .int) ∈ cv_BIG := cv_b3 62 rfl rfl
theorem wmL_134 : Cond.methodLink RL 134 yX6_fault ∈ cv_BIG := cv_b3 63 rfl rfl
theorem wi_yX6_fault : Cond.instanceMethod yX6_fault ∈ cv_BIG := cv_b3 64 rfl rfl
theorem wc_yX6_fault : Cond.code yX6_fault cX6_fault 1 (some .int) ∈ cv_BIG := cv_b3 66 rfl rfl
theorem wmL_138 : Cond.methodLink RL 138 yX6_many ∈ cv_BIG := cv_b3 67 rfl rfl
theorem wi_yX6_many : Cond.instanceMethod yX6_many ∈ cv_BIG := cv_b3 68 rfl rfl
theorem wc_yX6_many : Cond.code yX6_many cX6_many 2 (some .int) ∈ cv_BIG := cv_b3 70 rfl rfl
theorem wkL_10 : Cond.classLink RL 10 RX7 ∈ cv_BIG := cv_b3 71 rfl rfl
theorem wb_X7 : Cond.instantiable RX7 29 ∈ cv_BIG := cv_b3 72 rfl rfl
theorem wmL_12 : Cond.methodLink RL 12 yX7_init ∈ cv_BIG := cv_b3 73 rfl rfl
theorem wi_yX7_init : Cond.instanceMethod yX7_init ∈ cv_BIG := cv_b3 74 rfl rfl
theorem wc_yX7_init : Cond.code yX7_init cX7_init 1 none ∈ cv_BIG := cv_b3 75 rfl rfl
theorem wmX7_1 : Cond.methodLink RX7 1 objectInit ∈ cv_BIG := cv_b3 76 rfl rfl
theorem wfX7_62 : Cond.fieldLink RX7 62 RX7 "fault" "I" ∈ cv_BIG := cv_b3 77 rfl rfl
theorem wfX7_200 : Cond.fieldLink RX7 200 RX7 "trace" "I" ∈ cv_BIG := cv_b3 78 rfl rfl
theorem wfX7_9 : Cond.fieldLink RX7 9 RX7 "sorts" "[I" ∈ cv_BIG := cv_b3 79 rfl rfl
theorem wfX7_13 : Cond.fieldLink RX7 13 RX7 "sheetLong" "[I" ∈ cv_BIG := cv_b3 80 rfl rfl
theorem wfX7_16 : Cond.fieldLink RX7 16 RX7 "cells" "[I" ∈ cv_BIG := cv_b3 81 rfl rfl
theorem wfX7_71 : Cond.fieldLink RX7 71 RX7 "passes" "I" ∈ cv_BIG := cv_b3 82 rfl rfl
theorem wfX7_19 : Cond.fieldLink RX7 19 RX7 "snowOf" "[I" ∈ cv_BIG := cv_b3 83 rfl rfl
theorem wfX7_22 : Cond.fieldLink RX7 22 RX7 "gives" "[I" ∈ cv_BIG := cv_b3 84 rfl rfl
theorem wfX7_25 : Cond.fieldLink RX7 25 RX7 "kind" "[I" ∈ cv_BIG := cv_b3 85 rfl rfl
theorem wfX7_28 : Cond.fieldLink RX7 28 RX7 "from" "[I" ∈ cv_BIG := cv_b3 86 rfl rfl
theorem wfX7_31 : Cond.fieldLink RX7 31 RX7 "to" "[I" ∈ cv_BIG := cv_b3 87 rfl rfl
theorem wfX7_34 : Cond.fieldLink RX7 34 RX7 "length" "[I" ∈ cv_BIG := cv_b3 88 rfl rfl
theorem wfX7_37 : Cond.fieldLink RX7 37 RX7 "high" "[I" ∈ cv_BIG := cv_b3 89 rfl rfl
theorem wfX7_40 : Cond.fieldLink RX7 40 RX7 "missing" "I" ∈ cv_BIG := cv_b3 90 rfl rfl
theorem wfX7_74 : Cond.fieldLink RX7 74 RX7 "at" "I" ∈ cv_BIG := cv_b3 91 rfl rfl
theorem wfX7_102 : Cond.fieldLink RX7 102 RX7 "readMany" "I" ∈ cv_BIG := cv_b3 92 rfl rfl
theorem wfX7_44 : Cond.fieldLink RX7 44 RX7 "readSnow" "[I" ∈ cv_BIG := cv_b3 93 rfl rfl
theorem wfX7_47 : Cond.fieldLink RX7 47 RX7 "readGives" "[I" ∈ cv_BIG := cv_b3 94 rfl rfl
theorem wfX7_50 : Cond.fieldLink RX7 50 RX7 "read" "[I" ∈ cv_BIG := cv_b3 95 rfl rfl
theorem wfX7_53 : Cond.fieldLink RX7 53 RX7 "fewest" "[I" ∈ cv_BIG := cv_b3 96 rfl rfl
theorem wfX7_139 : Cond.fieldLink RX7 139 RX7 "doneOn" "I" ∈ cv_BIG := cv_b3 97 rfl rfl
theorem wfX7_142 : Cond.fieldLink RX7 142 RX7 "doneHoles" "I" ∈ cv_BIG := cv_b3 98 rfl rfl
theorem wfX7_167 : Cond.fieldLink RX7 167 RX7 "dayNow" "I" ∈ cv_BIG := cv_b3 99 rfl rfl
theorem wfX7_173 : Cond.fieldLink RX7 173 RX7 "valleyNow" "I" ∈ cv_BIG := cv_b3 100 rfl rfl
theorem wfX7_164 : Cond.fieldLink RX7 164 RX7 "stateNow" "I" ∈ cv_BIG := cv_b3 101 rfl rfl
theorem wfX7_170 : Cond.fieldLink RX7 170 RX7 "holesNow" "I" ∈ cv_BIG := cv_b3 102 rfl rfl
theorem wfX7_105 : Cond.fieldLink RX7 105 RX7 "readings" "I" ∈ cv_BIG := cv_b3 103 rfl rfl
theorem wfX7_56 : Cond.fieldLink RX7 56 RX7 "readDay" "[I" ∈ cv_BIG := cv_b3 104 rfl rfl
theorem wfX7_59 : Cond.fieldLink RX7 59 RX7 "readDone" "[I" ∈ cv_BIG := cv_b3 105 rfl rfl
theorem wmL_17 : Cond.methodLink RL 17 yX7_land ∈ cv_BIG := cv_b3 165 rfl rfl
theorem wi_yX7_land : Cond.instanceMethod yX7_land ∈ cv_BIG := cv_b3 166 rfl rfl
theorem wc_yX7_land : Cond.code yX7_land cX7_land 7 (some .int) ∈ cv_BIG := cv_b3 168 rfl rfl
theorem wmX7_81 : Cond.methodLink RX7 81 yX7_isSheet ∈ cv_BIG := cv_b3 169 rfl rfl
theorem wt_yX7_isSheet : Cond.static yX7_isSheet ∈ cv_BIG := cv_b3 170 rfl rfl
theorem wc_yX7_isSheet : Cond.code yX7_isSheet cX7_isSheet 1 (some .boolean) ∈ cv_BIG := cv_b3 171 rfl rfl
theorem wmX7_67 : Cond.methodLink RX7 67 yX7_within ∈ cv_BIG := cv_b3 172 rfl rfl
theorem wt_yX7_within : Cond.static yX7_within ∈ cv_BIG := cv_b3 173 rfl rfl
theorem wc_yX7_within : Cond.code yX7_within cX7_within 3 (some .boolean) ∈ cv_BIG := cv_b3 174 rfl rfl
theorem wmX7_85 : Cond.methodLink RX7 85 yX7_isSort ∈ cv_BIG := cv_b3 175 rfl rfl
theorem wt_yX7_isSort : Cond.static yX7_isSort ∈ cv_BIG := cv_b3 176 rfl rfl
theorem wc_yX7_isSort : Cond.code yX7_isSort cX7_isSort 1 (some .boolean) ∈ cv_BIG := cv_b3 177 rfl rfl
theorem wmX7_88 : Cond.methodLink RX7 88 yX7_against ∈ cv_BIG := cv_b3 178 rfl rfl
theorem wi_yX7_against : Cond.instanceMethod yX7_against ∈ cv_BIG := cv_b3 180 rfl rfl
theorem wc_yX7_against : Cond.code yX7_against cX7_against 5 (some .int) ∈ cv_BIG := cv_b3 181 rfl rfl
theorem wmX7_92 : Cond.methodLink RX7 92 yX7_fails ∈ cv_BIG := cv_b3 182 rfl rfl
theorem wi_yX7_fails : Cond.instanceMethod yX7_fails ∈ cv_BIG := cv_b3 184 rfl rfl
theorem wc_yX7_fails : Cond.code yX7_fails cX7_fails 2 (some .int) ∈ cv_BIG := cv_b3 185 rfl rfl
theorem wmX7_96 : Cond.methodLink RX7 96 yX7_readLand ∈ cv_BIG := cv_b3 186 rfl rfl
theorem wi_yX7_readLand : Cond.instanceMethod yX7_readLand ∈ cv_BIG := cv_b3 188 rfl rfl
theorem wc_yX7_readLand : Cond.code yX7_readLand cX7_readLand 3 (some .boolean) ∈ cv_BIG := cv_b3 189 rfl rfl
theorem wmX7_108 : Cond.methodLink RX7 108 yX7_isSign ∈ cv_BIG := cv_b3 190 rfl rfl
theorem wi_yX7_isSign : Cond.instanceMethod yX7_isSign ∈ cv_BIG := cv_b3 192 rfl rfl
theorem wc_yX7_isSign : Cond.code yX7_isSign cX7_isSign 3 (some .boolean) ∈ cv_BIG := cv_b3 193 rfl rfl
theorem wmX7_77 : Cond.methodLink RX7 77 yX7_digit ∈ cv_BIG := cv_b3 194 rfl rfl
theorem wi_yX7_digit : Cond.instanceMethod yX7_digit ∈ cv_BIG := cv_b3 196 rfl rfl
theorem wc_yX7_digit : Cond.code yX7_digit cX7_digit 4 (some .int) ∈ cv_BIG := cv_b3 197 rfl rfl
theorem wmX7_112 : Cond.methodLink RX7 112 yX7_readSet ∈ cv_BIG := cv_b3 198 rfl rfl
theorem wi_yX7_readSet : Cond.instanceMethod yX7_readSet ∈ cv_BIG := cv_b3 200 rfl rfl
theorem wc_yX7_readSet : Cond.code yX7_readSet cX7_readSet 5 (some .int) ∈ cv_BIG := cv_b3 201 rfl rfl
theorem wmX7_115 : Cond.methodLink RX7 115 yX7_readPass ∈ cv_BIG := cv_b3 202 rfl rfl
theorem wi_yX7_readPass : Cond.instanceMethod yX7_readPass ∈ cv_BIG := cv_b3 204 rfl rfl
theorem wc_yX7_readPass : Cond.code yX7_readPass cX7_readPass 4 (some .boolean) ∈ cv_BIG := cv_b3 205 rfl rfl
theorem wmX7_99 : Cond.methodLink RX7 99 yX7_takeLand ∈ cv_BIG := cv_b3 206 rfl rfl
theorem wi_yX7_takeLand : Cond.instanceMethod yX7_takeLand ∈ cv_BIG := cv_b3 208 rfl rfl
theorem wc_yX7_takeLand : Cond.code yX7_takeLand cX7_takeLand 2 none ∈ cv_BIG := cv_b3 209 rfl rfl
theorem wmL_22 : Cond.methodLink RL 22 yX7_ofPass ∈ cv_BIG := cv_b3 210 rfl rfl
theorem wi_yX7_ofPass : Cond.instanceMethod yX7_ofPass ∈ cv_BIG := cv_b3 211 rfl rfl
theorem wc_yX7_ofPass : Cond.code yX7_ofPass cX7_ofPass 3 (some .int) ∈ cv_BIG := cv_b3 213 rfl rfl
theorem wmX7_118 : Cond.methodLink RX7 118 yX7_isPass ∈ cv_BIG := cv_b3 214 rfl rfl
theorem wi_yX7_isPass : Cond.instanceMethod yX7_isPass ∈ cv_BIG := cv_b3 216 rfl rfl
theorem wc_yX7_isPass : Cond.code yX7_isPass cX7_isPass 2 (some .boolean) ∈ cv_BIG := cv_b3 217 rfl rfl
theorem wmX7_121 : Cond.methodLink RX7 121 yX7_takes ∈ cv_BIG := cv_b3 218 rfl rfl
theorem wi_yX7_takes : Cond.instanceMethod yX7_takes ∈ cv_BIG := cv_b3 220 rfl rfl
theorem wc_yX7_takes : Cond.code yX7_takes cX7_takes 2 (some .int) ∈ cv_BIG := cv_b3 221 rfl rfl
theorem wmL_26 : Cond.methodLink RL 26 yX7_snow ∈ cv_BIG := cv_b3 222 rfl rfl
theorem wi_yX7_snow : Cond.instanceMethod yX7_snow ∈ cv_BIG := cv_b3 223 rfl rfl
theorem wc_yX7_snow : Cond.code yX7_snow cX7_snow 4 (some .int) ∈ cv_BIG := cv_b3 225 rfl rfl
theorem wmX7_124 : Cond.methodLink RX7 124 yX7_isDay ∈ cv_BIG := cv_b3 226 rfl rfl
theorem wt_yX7_isDay : Cond.static yX7_isDay ∈ cv_BIG := cv_b3 227 rfl rfl
theorem wc_yX7_isDay : Cond.code yX7_isDay cX7_isDay 1 (some .boolean) ∈ cv_BIG := cv_b3 228 rfl rfl
theorem wmL_30 : Cond.methodLink RL 30 yX7_give ∈ cv_BIG := cv_b3 229 rfl rfl
theorem wi_yX7_give : Cond.instanceMethod yX7_give ∈ cv_BIG := cv_b3 230 rfl rfl
theorem wc_yX7_give : Cond.code yX7_give cX7_give 4 (some .int) ∈ cv_BIG := cv_b3 232 rfl rfl
theorem wmX7_127 : Cond.methodLink RX7 127 yX7_isValley ∈ cv_BIG := cv_b3 233 rfl rfl
theorem wt_yX7_isValley : Cond.static yX7_isValley ∈ cv_BIG := cv_b3 234 rfl rfl
theorem wc_yX7_isValley : Cond.code yX7_isValley cX7_isValley 1 (some .boolean) ∈ cv_BIG := cv_b3 235 rfl rfl
theorem wmL_35 : Cond.methodLink RL 35 yX7_open ∈ cv_BIG := cv_b3 236 rfl rfl
theorem wi_yX7_open : Cond.instanceMethod yX7_open ∈ cv_BIG := cv_b3 237 rfl rfl
theorem wc_yX7_open : Cond.code yX7_open cX7_open 4 (some .int) ∈ cv_BIG := cv_b3 239 rfl rfl
theorem wmX7_130 : Cond.methodLink RX7 130 yX7_isOpen ∈ cv_BIG := cv_b4 0 rfl rfl
theorem wi_yX7_isOpen : Cond.instanceMethod yX7_isOpen ∈ cv_BIG := cv_b4 2 rfl rfl
theorem wc_yX7_isOpen : Cond.code yX7_isOpen cX7_isOpen 3 (some .boolean) ∈ cv_BIG := cv_b4 3 rfl rfl
theorem wmL_39 : Cond.methodLink RL 39 yX7_soonest ∈ cv_BIG := cv_b4 4 rfl rfl
theorem wi_yX7_soonest : Cond.instanceMethod yX7_soonest ∈ cv_BIG := cv_b4 5 rfl rfl
theorem wc_yX7_soonest : Cond.code yX7_soonest cX7_soonest 2 (some .int) ∈ cv_BIG := cv_b4 7 rfl rfl
theorem wmX7_161 : Cond.methodLink RX7 161 yX7_soonestOf ∈ cv_BIG := cv_b4 8 rfl rfl
theorem wi_yX7_soonestOf : Cond.instanceMethod yX7_soonestOf ∈ cv_BIG := cv_b4 10 rfl rfl
theorem wc_yX7_soonestOf : Cond.code yX7_soonestOf cX7_soonestOf 2 (some .int) ∈ cv_BIG := cv_b4 11 rfl rfl
theorem wmX7_157 : Cond.methodLink RX7 157 yX7_makeWheel ∈ cv_BIG := cv_b4 12 rfl rfl
theorem wi_yX7_makeWheel : Cond.instanceMethod yX7_makeWheel ∈ cv_BIG := cv_b4 14 rfl rfl
theorem wc_yX7_makeWheel : Cond.code yX7_makeWheel cX7_makeWheel 5 none ∈ cv_BIG := cv_b4 15 rfl rfl
theorem wmX7_136 : Cond.methodLink RX7 136 yX7_doesGive ∈ cv_BIG := cv_b4 16 rfl rfl
theorem wi_yX7_doesGive : Cond.instanceMethod yX7_doesGive ∈ cv_BIG := cv_b4 18 rfl rfl
theorem wc_yX7_doesGive : Cond.code yX7_doesGive cX7_doesGive 3 (some .boolean) ∈ cv_BIG := cv_b4 19 rfl rfl
theorem wmX7_145 : Cond.methodLink RX7 145 yX7_comes ∈ cv_BIG := cv_b4 20 rfl rfl
theorem wi_yX7_comes : Cond.instanceMethod yX7_comes ∈ cv_BIG := cv_b4 22 rfl rfl
theorem wc_yX7_comes : Cond.code yX7_comes cX7_comes 6 none ∈ cv_BIG := cv_b4 23 rfl rfl
theorem wmX7_133 : Cond.methodLink RX7 133 yX7_spot ∈ cv_BIG := cv_b4 24 rfl rfl
theorem wt_yX7_spot : Cond.static yX7_spot ∈ cv_BIG := cv_b4 25 rfl rfl
theorem wc_yX7_spot : Cond.code yX7_spot cX7_spot 3 (some .int) ∈ cv_BIG := cv_b4 26 rfl rfl
theorem wmX7_153 : Cond.methodLink RX7 153 yX7_goOn ∈ cv_BIG := cv_b4 27 rfl rfl
theorem wi_yX7_goOn : Cond.instanceMethod yX7_goOn ∈ cv_BIG := cv_b4 29 rfl rfl
theorem wc_yX7_goOn : Cond.code yX7_goOn cX7_goOn 6 none ∈ cv_BIG := cv_b4 30 rfl rfl
theorem wmX7_149 : Cond.methodLink RX7 149 yX7_over ∈ cv_BIG := cv_b4 31 rfl rfl
theorem wi_yX7_over : Cond.instanceMethod yX7_over ∈ cv_BIG := cv_b4 33 rfl rfl
theorem wc_yX7_over : Cond.code yX7_over cX7_over 3 (some .int) ∈ cv_BIG := cv_b4 34 rfl rfl
theorem wmL_43 : Cond.methodLink RL 43 yX7_holes ∈ cv_BIG := cv_b4 35 rfl rfl
theorem wi_yX7_holes : Cond.instanceMethod yX7_holes ∈ cv_BIG := cv_b4 36 rfl rfl
theorem wc_yX7_holes : Cond.code yX7_holes cX7_holes 2 (some .int) ∈ cv_BIG := cv_b4 38 rfl rfl
theorem wmL_48 : Cond.methodLink RL 48 yX7_way ∈ cv_BIG := cv_b4 39 rfl rfl
theorem wi_yX7_way : Cond.instanceMethod yX7_way ∈ cv_BIG := cv_b4 40 rfl rfl
theorem wc_yX7_way : Cond.code yX7_way cX7_way 10 (some .int) ∈ cv_BIG := cv_b4 42 rfl rfl
theorem wmX7_176 : Cond.methodLink RX7 176 yX7_wayOf ∈ cv_BIG := cv_b4 43 rfl rfl
theorem wi_yX7_wayOf : Cond.instanceMethod yX7_wayOf ∈ cv_BIG := cv_b4 45 rfl rfl
theorem wc_yX7_wayOf : Cond.code yX7_wayOf cX7_wayOf 8 (some .int) ∈ cv_BIG := cv_b4 46 rfl rfl
theorem wmX7_179 : Cond.methodLink RX7 179 yX7_goStep ∈ cv_BIG := cv_b4 47 rfl rfl
theorem wi_yX7_goStep : Cond.instanceMethod yX7_goStep ∈ cv_BIG := cv_b4 49 rfl rfl
theorem wc_yX7_goStep : Cond.code yX7_goStep cX7_goStep 3 (some .boolean) ∈ cv_BIG := cv_b4 50 rfl rfl
theorem wmL_52 : Cond.methodLink RL 52 yX7_last ∈ cv_BIG := cv_b4 51 rfl rfl
theorem wi_yX7_last : Cond.instanceMethod yX7_last ∈ cv_BIG := cv_b4 52 rfl rfl
theorem wc_yX7_last : Cond.code yX7_last cX7_last 4 (some .int) ∈ cv_BIG := cv_b4 54 rfl rfl
theorem wmX7_182 : Cond.methodLink RX7 182 yX7_canBy ∈ cv_BIG := cv_b4 55 rfl rfl
theorem wi_yX7_canBy : Cond.instanceMethod yX7_canBy ∈ cv_BIG := cv_b4 57 rfl rfl
theorem wc_yX7_canBy : Cond.code yX7_canBy cX7_canBy 4 (some .boolean) ∈ cv_BIG := cv_b4 58 rfl rfl
theorem wmL_56 : Cond.methodLink RL 56 yX7_safe ∈ cv_BIG := cv_b4 59 rfl rfl
theorem wi_yX7_safe : Cond.instanceMethod yX7_safe ∈ cv_BIG := cv_b4 60 rfl rfl
theorem wc_yX7_safe : Cond.code yX7_safe cX7_safe 4 (some .int) ∈ cv_BIG := cv_b4 62 rfl rfl
theorem wmX7_185 : Cond.methodLink RX7 185 yX7_isSafe ∈ cv_BIG := cv_b4 63 rfl rfl
theorem wi_yX7_isSafe : Cond.instanceMethod yX7_isSafe ∈ cv_BIG := cv_b4 65 rfl rfl
theorem wc_yX7_isSafe : Cond.code yX7_isSafe cX7_isSafe 7 (some .boolean) ∈ cv_BIG := cv_b4 66 rfl rfl
theorem wmL_60 : Cond.methodLink RL 60 yX7_hangs ∈ cv_BIG := cv_b4 67 rfl rfl
theorem wi_yX7_hangs : Cond.instanceMethod yX7_hangs ∈ cv_BIG := cv_b4 68 rfl rfl
theorem wc_yX7_hangs : Cond.code yX7_hangs cX7_hangs 5 (some .int) ∈ cv_BIG := cv_b4 70 rfl rfl
theorem wmL_64 : Cond.methodLink RL 64 yX7_peace ∈ cv_BIG := cv_b4 71 rfl rfl
theorem wi_yX7_peace : Cond.instanceMethod yX7_peace ∈ cv_BIG := cv_b4 72 rfl rfl
theorem wc_yX7_peace : Cond.code yX7_peace cX7_peace 8 (some .int) ∈ cv_BIG := cv_b4 74 rfl rfl
theorem wmL_68 : Cond.methodLink RL 68 yX7_reading ∈ cv_BIG := cv_b4 75 rfl rfl
theorem wi_yX7_reading : Cond.instanceMethod yX7_reading ∈ cv_BIG := cv_b4 76 rfl rfl
theorem wc_yX7_reading : Cond.code yX7_reading cX7_reading 3 (some .int) ∈ cv_BIG := cv_b4 78 rfl rfl
theorem wmL_72 : Cond.methodLink RL 72 yX7_back ∈ cv_BIG := cv_b4 79 rfl rfl
theorem wi_yX7_back : Cond.instanceMethod yX7_back ∈ cv_BIG := cv_b4 80 rfl rfl
theorem wc_yX7_back : Cond.code yX7_back cX7_back 2 (some .int) ∈ cv_BIG := cv_b4 82 rfl rfl
theorem wmL_76 : Cond.methodLink RL 76 yX7_snows ∈ cv_BIG := cv_b4 83 rfl rfl
theorem wi_yX7_snows : Cond.instanceMethod yX7_snows ∈ cv_BIG := cv_b4 84 rfl rfl
theorem wc_yX7_snows : Cond.code yX7_snows cX7_snows 5 (some .int) ∈ cv_BIG := cv_b4 86 rfl rfl
theorem wmX7_188 : Cond.methodLink RX7 188 yX7_areSo ∈ cv_BIG := cv_b4 87 rfl rfl
theorem wi_yX7_areSo : Cond.instanceMethod yX7_areSo ∈ cv_BIG := cv_b4 89 rfl rfl
theorem wc_yX7_areSo : Cond.code yX7_areSo cX7_areSo 2 (some .boolean) ∈ cv_BIG := cv_b4 90 rfl rfl
theorem wmL_80 : Cond.methodLink RL 80 yX7_heights ∈ cv_BIG := cv_b4 91 rfl rfl
theorem wi_yX7_heights : Cond.instanceMethod yX7_heights ∈ cv_BIG := cv_b4 92 rfl rfl
theorem wc_yX7_heights : Cond.code yX7_heights cX7_heights 5 (some .int) ∈ cv_BIG := cv_b4 94 rfl rfl
theorem wmL_84 : Cond.methodLink RL 84 yX7_kinds ∈ cv_BIG := cv_b4 95 rfl rfl
theorem wi_yX7_kinds : Cond.instanceMethod yX7_kinds ∈ cv_BIG := cv_b4 96 rfl rfl
theorem wc_yX7_kinds : Cond.code yX7_kinds cX7_kinds 5 (some .int) ∈ cv_BIG := cv_b4 98 rfl rfl
theorem wmL_88 : Cond.methodLink RL 88 yX7_gave ∈ cv_BIG := cv_b4 99 rfl rfl
theorem wi_yX7_gave : Cond.instanceMethod yX7_gave ∈ cv_BIG := cv_b4 100 rfl rfl
theorem wc_yX7_gave : Cond.code yX7_gave cX7_gave 7 (some .int) ∈ cv_BIG := cv_b4 102 rfl rfl
theorem wmL_93 : Cond.methodLink RL 93 yX7_odds ∈ cv_BIG := cv_b4 103 rfl rfl
theorem wi_yX7_odds : Cond.instanceMethod yX7_odds ∈ cv_BIG := cv_b4 104 rfl rfl
theorem wc_yX7_odds : Cond.code yX7_odds cX7_odds 9 (some .long) ∈ cv_BIG := cv_b4 106 rfl rfl
theorem wlX7_65 : Cond.constantLong RX7 65 (-9223372036854775808) ∈ cv_BIG := cv_b4 107 rfl rfl
theorem wmX7_192 : Cond.methodLink RX7 192 yX7_inLeastTerms ∈ cv_BIG := cv_b4 108 rfl rfl
theorem wt_yX7_inLeastTerms : Cond.static yX7_inLeastTerms ∈ cv_BIG := cv_b4 109 rfl rfl
theorem wc_yX7_inLeastTerms : Cond.code yX7_inLeastTerms cX7_inLeastTerms 11 (some .long) ∈ cv_BIG := cv_b4 110 rfl rfl
theorem wmL_98 : Cond.methodLink RL 98 yX7_sheet ∈ cv_BIG := cv_b4 111 rfl rfl
theorem wi_yX7_sheet : Cond.instanceMethod yX7_sheet ∈ cv_BIG := cv_b4 112 rfl rfl
theorem wc_yX7_sheet : Cond.code yX7_sheet cX7_sheet 5 (some .int) ∈ cv_BIG := cv_b4 114 rfl rfl
theorem wmL_102 : Cond.methodLink RL 102 yX7_lose ∈ cv_BIG := cv_b4 115 rfl rfl
theorem wi_yX7_lose : Cond.instanceMethod yX7_lose ∈ cv_BIG := cv_b4 116 rfl rfl
theorem wc_yX7_lose : Cond.code yX7_lose cX7_lose 3 (some .int) ∈ cv_BIG := cv_b4 118 rfl rfl
theorem wmL_106 : Cond.methodLink RL 106 yX7_put ∈ cv_BIG := cv_b4 119 rfl rfl
theorem wi_yX7_put : Cond.instanceMethod yX7_put ∈ cv_BIG := cv_b4 120 rfl rfl
theorem wc_yX7_put : Cond.code yX7_put cX7_put 4 (some .int) ∈ cv_BIG := cv_b4 122 rfl rfl
theorem wmL_111 : Cond.methodLink RL 111 yX7_cell ∈ cv_BIG := cv_b4 123 rfl rfl
theorem wi_yX7_cell : Cond.instanceMethod yX7_cell ∈ cv_BIG := cv_b4 124 rfl rfl
theorem wc_yX7_cell : Cond.code yX7_cell cX7_cell 4 (some .long) ∈ cv_BIG := cv_b4 126 rfl rfl
theorem wmX7_196 : Cond.methodLink RX7 196 yX7_lost ∈ cv_BIG := cv_b4 127 rfl rfl
theorem wi_yX7_lost : Cond.instanceMethod yX7_lost ∈ cv_BIG := cv_b4 129 rfl rfl
theorem wc_yX7_lost : Cond.code yX7_lost cX7_lost 2 (some .long) ∈ cv_BIG := cv_b4 130 rfl rfl
theorem wmL_116 : Cond.methodLink RL 116 yX7_copy ∈ cv_BIG := cv_b4 131 rfl rfl
theorem wi_yX7_copy : Cond.instanceMethod yX7_copy ∈ cv_BIG := cv_b4 132 rfl rfl
theorem wc_yX7_copy : Cond.code yX7_copy cX7_copy 10 (some .int) ∈ cv_BIG := cv_b4 134 rfl rfl
theorem wmL_120 : Cond.methodLink RL 120 yX7_tell ∈ cv_BIG := cv_b4 135 rfl rfl
theorem wi_yX7_tell : Cond.instanceMethod yX7_tell ∈ cv_BIG := cv_b4 136 rfl rfl
theorem wc_yX7_tell : Cond.code yX7_tell cX7_tell 3 (some .int) ∈ cv_BIG := cv_b4 138 rfl rfl
theorem wmX7_203 : Cond.methodLink RX7 203 yX7_begins ∈ cv_BIG := cv_b4 139 rfl rfl
theorem wi_yX7_begins : Cond.instanceMethod yX7_begins ∈ cv_BIG := cv_b4 141 rfl rfl
theorem wc_yX7_begins : Cond.code yX7_begins cX7_begins 2 none ∈ cv_BIG := cv_b4 142 rfl rfl
theorem wmL_124 : Cond.methodLink RL 124 yX7_mark ∈ cv_BIG := cv_b4 143 rfl rfl
theorem wi_yX7_mark : Cond.instanceMethod yX7_mark ∈ cv_BIG := cv_b4 144 rfl rfl
theorem wc_yX7_mark : Cond.code yX7_mark cX7_mark 2 (some .int) ∈ cv_BIG := cv_b4 146 rfl rfl
theorem wmL_128 : Cond.methodLink RL 128 yX7_as ∈ cv_BIG := cv_b4 147 rfl rfl
theorem wi_yX7_as : Cond.instanceMethod yX7_as ∈ cv_BIG := cv_b4 148 rfl rfl
theorem wc_yX7_as : Cond.code yX7_as cX7_as 3 (some .int) ∈ cv_BIG := cv_b4 150 rfl rfl
theorem wmL_133 : Cond.methodLink RL 133 yX7_trace ∈ cv_BIG := cv_b4 151 rfl rfl
theorem wi_yX7_trace : Cond.instanceMethod yX7_trace ∈ cv_BIG := cv_b4 152 rfl rfl
theorem wc_yX7_trace : Cond.code yX7_trace cX7_trace 1 (some .int) ∈ cv_BIG := cv_b4 154 rfl rfl
theorem wmL_137 : Cond.methodLink RL 137 yX7_fault ∈ cv_BIG := cv_b4 155 rfl rfl
theorem wi_yX7_fault : Cond.instanceMethod yX7_fault ∈ cv_BIG := cv_b4 156 rfl rfl
theorem wc_yX7_fault : Cond.code yX7_fault cX7_fault 1 (some .int) ∈ cv_BIG := cv_b4 158 rfl rfl
theorem wmL_141 : Cond.methodLink RL 141 yX7_many ∈ cv_BIG := cv_b4 159 rfl rfl
theorem wi_yX7_many : Cond.instanceMethod yX7_many ∈ cv_BIG := cv_b4 160 rfl rfl
theorem wc_yX7_many : Cond.code yX7_many cX7_many 2 (some .int) ∈ cv_BIG := cv_b4 162 rfl rfl
theorem wmX7_206 : Cond.methodLink RX7 206 yX7_allGive ∈ cv_BIG := cv_b4 163 rfl rfl
theorem wi_yX7_allGive : Cond.instanceMethod yX7_allGive ∈ cv_BIG := cv_b4 165 rfl rfl
theorem wc_yX7_allGive : Cond.code yX7_allGive cX7_allGive 3 (some .int) ∈ cv_BIG := cv_b4 166 rfl rfl
theorem ws_yX6_failed : Cond.selects RX6 yX6_failed yX6_failed ∈ cv_BIG := cv_b0 0 rfl rfl
theorem ws_yX4_goesOnAt : Cond.selects RX4 yX4_goesOnAt yX4_goesOnAt ∈ cv_BIG := cv_b0 1 rfl rfl
theorem ws_yX4_isDigitAt : Cond.selects RX4 yX4_isDigitAt yX4_isDigitAt ∈ cv_BIG := cv_b0 2 rfl rfl
theorem ws_yX4_givesGoOnAt : Cond.selects RX4 yX4_givesGoOnAt yX4_givesGoOnAt ∈ cv_BIG := cv_b0 3 rfl rfl
theorem ws_yX4_passGoesOnAt : Cond.selects RX4 yX4_passGoesOnAt yX4_passGoesOnAt ∈ cv_BIG := cv_b0 4 rfl rfl
theorem ws_yX6_isPass : Cond.selects RX6 yX6_isPass yX6_isPass ∈ cv_BIG := cv_b0 5 rfl rfl
theorem ws_yX0_reachFrom : Cond.selects RX0 yX0_reachFrom yX0_reachFrom ∈ cv_BIG := cv_b0 6 rfl rfl
theorem ws_yX0_doneWith : Cond.selects RX0 yX0_doneWith yX0_doneWith ∈ cv_BIG := cv_b0 7 rfl rfl
theorem ws_yX0_firstDayIn : Cond.selects RX0 yX0_firstDayIn yX0_firstDayIn ∈ cv_BIG := cv_b0 8 rfl rfl
theorem ws_yX0_holesFrom : Cond.selects RX0 yX0_holesFrom yX0_holesFrom ∈ cv_BIG := cv_b0 9 rfl rfl
theorem ws_yX6_refusalOfSteps : Cond.selects RX6 yX6_refusalOfSteps yX6_refusalOfSteps ∈ cv_BIG := cv_b0 10 rfl rfl
theorem ws_yX6_firstWrong : Cond.selects RX6 yX6_firstWrong yX6_firstWrong ∈ cv_BIG := cv_b0 11 rfl rfl
theorem ws_yX5_waitsADay : Cond.selects RX5 yX5_waitsADay yX5_waitsADay ∈ cv_BIG := cv_b0 12 rfl rfl
theorem ws_yX5_gets : Cond.selects RX5 yX5_gets yX5_gets ∈ cv_BIG := cv_b0 13 rfl rfl
theorem ws_yX5_crosses : Cond.selects RX5 yX5_crosses yX5_crosses ∈ cv_BIG := cv_b0 14 rfl rfl
theorem ws_yX6_ofWay : Cond.selects RX6 yX6_ofWay yX6_ofWay ∈ cv_BIG := cv_b0 15 rfl rfl
theorem ws_yX6_canWithout : Cond.selects RX6 yX6_canWithout yX6_canWithout ∈ cv_BIG := cv_b0 16 rfl rfl
theorem ws_yX6_bitIfReadingsHold : Cond.selects RX6 yX6_bitIfReadingsHold yX6_bitIfReadingsHold ∈ cv_BIG := cv_b0 17 rfl rfl
theorem ws_yX6_steepTelling : Cond.selects RX6 yX6_steepTelling yX6_steepTelling ∈ cv_BIG := cv_b0 18 rfl rfl
theorem ws_yX6_leave : Cond.selects RX6 yX6_leave yX6_leave ∈ cv_BIG := cv_b0 19 rfl rfl
theorem ws_yX6_passTelling : Cond.selects RX6 yX6_passTelling yX6_passTelling ∈ cv_BIG := cv_b0 20 rfl rfl
theorem ws_yX6_tunnelTelling : Cond.selects RX6 yX6_tunnelTelling yX6_tunnelTelling ∈ cv_BIG := cv_b0 21 rfl rfl
theorem ws_yX7_against : Cond.selects RX7 yX7_against yX7_against ∈ cv_BIG := cv_b0 22 rfl rfl
theorem ws_yX7_fails : Cond.selects RX7 yX7_fails yX7_fails ∈ cv_BIG := cv_b0 23 rfl rfl
theorem ws_yX7_readLand : Cond.selects RX7 yX7_readLand yX7_readLand ∈ cv_BIG := cv_b0 24 rfl rfl
theorem ws_yX7_isSign : Cond.selects RX7 yX7_isSign yX7_isSign ∈ cv_BIG := cv_b0 25 rfl rfl
theorem ws_yX7_digit : Cond.selects RX7 yX7_digit yX7_digit ∈ cv_BIG := cv_b0 26 rfl rfl
theorem ws_yX7_readSet : Cond.selects RX7 yX7_readSet yX7_readSet ∈ cv_BIG := cv_b0 27 rfl rfl
theorem ws_yX7_readPass : Cond.selects RX7 yX7_readPass yX7_readPass ∈ cv_BIG := cv_b0 28 rfl rfl
theorem ws_yX7_takeLand : Cond.selects RX7 yX7_takeLand yX7_takeLand ∈ cv_BIG := cv_b0 29 rfl rfl
theorem ws_yX7_isPass : Cond.selects RX7 yX7_isPass yX7_isPass ∈ cv_BIG := cv_b0 30 rfl rfl
theorem ws_yX7_takes : Cond.selects RX7 yX7_takes yX7_takes ∈ cv_BIG := cv_b0 31 rfl rfl
theorem ws_yX7_isOpen : Cond.selects RX7 yX7_isOpen yX7_isOpen ∈ cv_BIG := cv_b0 32 rfl rfl
theorem ws_yX7_soonestOf : Cond.selects RX7 yX7_soonestOf yX7_soonestOf ∈ cv_BIG := cv_b0 33 rfl rfl
theorem ws_yX7_makeWheel : Cond.selects RX7 yX7_makeWheel yX7_makeWheel ∈ cv_BIG := cv_b0 34 rfl rfl
theorem ws_yX7_doesGive : Cond.selects RX7 yX7_doesGive yX7_doesGive ∈ cv_BIG := cv_b0 35 rfl rfl
theorem ws_yX7_comes : Cond.selects RX7 yX7_comes yX7_comes ∈ cv_BIG := cv_b0 36 rfl rfl
theorem ws_yX7_goOn : Cond.selects RX7 yX7_goOn yX7_goOn ∈ cv_BIG := cv_b0 37 rfl rfl
theorem ws_yX7_over : Cond.selects RX7 yX7_over yX7_over ∈ cv_BIG := cv_b0 38 rfl rfl
theorem ws_yX7_wayOf : Cond.selects RX7 yX7_wayOf yX7_wayOf ∈ cv_BIG := cv_b0 39 rfl rfl
theorem ws_yX7_goStep : Cond.selects RX7 yX7_goStep yX7_goStep ∈ cv_BIG := cv_b0 40 rfl rfl
theorem ws_yX7_canBy : Cond.selects RX7 yX7_canBy yX7_canBy ∈ cv_BIG := cv_b0 41 rfl rfl
theorem ws_yX7_isSafe : Cond.selects RX7 yX7_isSafe yX7_isSafe ∈ cv_BIG := cv_b0 42 rfl rfl
theorem ws_yX7_areSo : Cond.selects RX7 yX7_areSo yX7_areSo ∈ cv_BIG := cv_b0 43 rfl rfl
theorem ws_yX7_lost : Cond.selects RX7 yX7_lost yX7_lost ∈ cv_BIG := cv_b0 44 rfl rfl
theorem ws_yX7_begins : Cond.selects RX7 yX7_begins yX7_begins ∈ cv_BIG := cv_b0 45 rfl rfl
theorem ws_yX7_allGive : Cond.selects RX7 yX7_allGive yX7_allGive ∈ cv_BIG := cv_b0 46 rfl rfl
theorem ws_yX6_land : Cond.selects RX6 yX6_land yX6_land ∈ cv_BIG := cv_b1 172 rfl rfl
theorem ws_yX3_faultOf : Cond.selects RX3 yX3_faultOf yX3_faultOf ∈ cv_BIG := cv_b1 185 rfl rfl
theorem ws_yX3_hasNothing : Cond.selects RX3 yX3_hasNothing yX3_hasNothing ∈ cv_BIG := cv_b1 189 rfl rfl
theorem ws_yX3_hasCells : Cond.selects RX3 yX3_hasCells yX3_hasCells ∈ cv_BIG := cv_b1 193 rfl rfl
theorem ws_yX4_firstFault : Cond.selects RX4 yX4_firstFault yX4_firstFault ∈ cv_BIG := cv_b1 218 rfl rfl
theorem ws_yX4_codeAt : Cond.selects RX4 yX4_codeAt yX4_codeAt ∈ cv_BIG := cv_b1 226 rfl rfl
theorem ws_yX4_digitAt : Cond.selects RX4 yX4_digitAt yX4_digitAt ∈ cv_BIG := cv_b1 234 rfl rfl
theorem ws_yX4_kindAt : Cond.selects RX4 yX4_kindAt yX4_kindAt ∈ cv_BIG := cv_b2 6 rfl rfl
theorem ws_yX0_settle : Cond.selects RX0 yX0_settle yX0_settle ∈ cv_BIG := cv_b2 10 rfl rfl
theorem ws_yX4_numberAt : Cond.selects RX4 yX4_numberAt yX4_numberAt ∈ cv_BIG := cv_b2 15 rfl rfl
theorem ws_yX6_ofPass : Cond.selects RX6 yX6_ofPass yX6_ofPass ∈ cv_BIG := cv_b2 26 rfl rfl
theorem ws_yX1_takes : Cond.selects RX1 yX1_takes yX1_takes ∈ cv_BIG := cv_b2 34 rfl rfl
theorem ws_yX6_snow : Cond.selects RX6 yX6_snow yX6_snow ∈ cv_BIG := cv_b2 38 rfl rfl
theorem ws_yX6_give : Cond.selects RX6 yX6_give yX6_give ∈ cv_BIG := cv_b2 45 rfl rfl
theorem ws_yX6_open : Cond.selects RX6 yX6_open yX6_open ∈ cv_BIG := cv_b2 52 rfl rfl
theorem ws_yX1_isOpenIn : Cond.selects RX1 yX1_isOpenIn yX1_isOpenIn ∈ cv_BIG := cv_b2 56 rfl rfl
theorem ws_yX6_soonest : Cond.selects RX6 yX6_soonest yX6_soonest ∈ cv_BIG := cv_b2 60 rfl rfl
theorem ws_yX0_chart : Cond.selects RX0 yX0_chart yX0_chart ∈ cv_BIG := cv_b2 64 rfl rfl
theorem ws_yX0_arrival : Cond.selects RX0 yX0_arrival yX0_arrival ∈ cv_BIG := cv_b2 72 rfl rfl
theorem ws_yX1_otherEnd : Cond.selects RX1 yX1_otherEnd yX1_otherEnd ∈ cv_BIG := cv_b2 76 rfl rfl
theorem ws_yX0_doneOn : Cond.selects RX0 yX0_doneOn yX0_doneOn ∈ cv_BIG := cv_b2 82 rfl rfl
theorem ws_yX6_holes : Cond.selects RX6 yX6_holes yX6_holes ∈ cv_BIG := cv_b2 97 rfl rfl
theorem ws_yX0_fewestHoles : Cond.selects RX0 yX0_fewestHoles yX0_fewestHoles ∈ cv_BIG := cv_b2 101 rfl rfl
theorem ws_yX6_way : Cond.selects RX6 yX6_way yX6_way ∈ cv_BIG := cv_b2 118 rfl rfl
theorem ws_yX5_begin : Cond.selects RX5 yX5_begin yX5_begin ∈ cv_BIG := cv_b2 126 rfl rfl
theorem ws_yX5_takesStep : Cond.selects RX5 yX5_takesStep yX5_takesStep ∈ cv_BIG := cv_b2 135 rfl rfl
theorem ws_yX6_last : Cond.selects RX6 yX6_last yX6_last ∈ cv_BIG := cv_b2 159 rfl rfl
theorem ws_yX0_isDoneBy : Cond.selects RX0 yX0_isDoneBy yX0_isDoneBy ∈ cv_BIG := cv_b2 163 rfl rfl
theorem ws_yX6_safe : Cond.selects RX6 yX6_safe yX6_safe ∈ cv_BIG := cv_b2 167 rfl rfl
theorem ws_yX0_isSafeBy : Cond.selects RX0 yX0_isSafeBy yX0_isSafeBy ∈ cv_BIG := cv_b2 171 rfl rfl
theorem ws_yX6_hangs : Cond.selects RX6 yX6_hangs yX6_hangs ∈ cv_BIG := cv_b2 176 rfl rfl
theorem ws_yX6_peace : Cond.selects RX6 yX6_peace yX6_peace ∈ cv_BIG := cv_b2 184 rfl rfl
theorem ws_yX0_daysToPeace : Cond.selects RX0 yX0_daysToPeace yX0_daysToPeace ∈ cv_BIG := cv_b2 188 rfl rfl
theorem ws_yX6_reading : Cond.selects RX6 yX6_reading yX6_reading ∈ cv_BIG := cv_b2 192 rfl rfl
theorem ws_yX6_back : Cond.selects RX6 yX6_back yX6_back ∈ cv_BIG := cv_b2 196 rfl rfl
theorem ws_yX6_snows : Cond.selects RX6 yX6_snows yX6_snows ∈ cv_BIG := cv_b2 200 rfl rfl
theorem ws_yX2_holdIn : Cond.selects RX2 yX2_holdIn yX2_holdIn ∈ cv_BIG := cv_b2 208 rfl rfl
theorem ws_yX6_heights : Cond.selects RX6 yX6_heights yX6_heights ∈ cv_BIG := cv_b2 213 rfl rfl
theorem ws_yX6_kinds : Cond.selects RX6 yX6_kinds yX6_kinds ∈ cv_BIG := cv_b2 217 rfl rfl
theorem ws_yX6_gave : Cond.selects RX6 yX6_gave yX6_gave ∈ cv_BIG := cv_b2 221 rfl rfl
theorem ws_yX6_odds : Cond.selects RX6 yX6_odds yX6_odds ∈ cv_BIG := cv_b2 225 rfl rfl
theorem ws_yX0_setsDoneBy : Cond.selects RX0 yX0_setsDoneBy yX0_setsDoneBy ∈ cv_BIG := cv_b2 230 rfl rfl
theorem ws_yX6_sheet : Cond.selects RX6 yX6_sheet yX6_sheet ∈ cv_BIG := cv_b3 0 rfl rfl
theorem ws_yX3_renew : Cond.selects RX3 yX3_renew yX3_renew ∈ cv_BIG := cv_b3 4 rfl rfl
theorem ws_yX6_lose : Cond.selects RX6 yX6_lose yX6_lose ∈ cv_BIG := cv_b3 8 rfl rfl
theorem ws_yX6_put : Cond.selects RX6 yX6_put yX6_put ∈ cv_BIG := cv_b3 13 rfl rfl
theorem ws_yX3_cut : Cond.selects RX3 yX3_cut yX3_cut ∈ cv_BIG := cv_b3 17 rfl rfl
theorem ws_yX6_cell : Cond.selects RX6 yX6_cell yX6_cell ∈ cv_BIG := cv_b3 21 rfl rfl
theorem ws_yX6_copy : Cond.selects RX6 yX6_copy yX6_copy ∈ cv_BIG := cv_b3 25 rfl rfl
theorem ws_yX6_tell : Cond.selects RX6 yX6_tell yX6_tell ∈ cv_BIG := cv_b3 33 rfl rfl
theorem ws_yX6_mark : Cond.selects RX6 yX6_mark yX6_mark ∈ cv_BIG := cv_b3 53 rfl rfl
theorem ws_yX6_as : Cond.selects RX6 yX6_as yX6_as ∈ cv_BIG := cv_b3 57 rfl rfl
theorem ws_yX6_trace : Cond.selects RX6 yX6_trace yX6_trace ∈ cv_BIG := cv_b3 61 rfl rfl
theorem ws_yX6_fault : Cond.selects RX6 yX6_fault yX6_fault ∈ cv_BIG := cv_b3 65 rfl rfl
theorem ws_yX6_many : Cond.selects RX6 yX6_many yX6_many ∈ cv_BIG := cv_b3 69 rfl rfl
theorem ws_yX7_land : Cond.selects RX7 yX7_land yX7_land ∈ cv_BIG := cv_b3 167 rfl rfl
theorem ws_yX7_ofPass : Cond.selects RX7 yX7_ofPass yX7_ofPass ∈ cv_BIG := cv_b3 212 rfl rfl
theorem ws_yX7_snow : Cond.selects RX7 yX7_snow yX7_snow ∈ cv_BIG := cv_b3 224 rfl rfl
theorem ws_yX7_give : Cond.selects RX7 yX7_give yX7_give ∈ cv_BIG := cv_b3 231 rfl rfl
theorem ws_yX7_open : Cond.selects RX7 yX7_open yX7_open ∈ cv_BIG := cv_b3 238 rfl rfl
theorem ws_yX7_soonest : Cond.selects RX7 yX7_soonest yX7_soonest ∈ cv_BIG := cv_b4 6 rfl rfl
theorem ws_yX7_holes : Cond.selects RX7 yX7_holes yX7_holes ∈ cv_BIG := cv_b4 37 rfl rfl
theorem ws_yX7_way : Cond.selects RX7 yX7_way yX7_way ∈ cv_BIG := cv_b4 41 rfl rfl
theorem ws_yX7_last : Cond.selects RX7 yX7_last yX7_last ∈ cv_BIG := cv_b4 53 rfl rfl
theorem ws_yX7_safe : Cond.selects RX7 yX7_safe yX7_safe ∈ cv_BIG := cv_b4 61 rfl rfl
theorem ws_yX7_hangs : Cond.selects RX7 yX7_hangs yX7_hangs ∈ cv_BIG := cv_b4 69 rfl rfl
theorem ws_yX7_peace : Cond.selects RX7 yX7_peace yX7_peace ∈ cv_BIG := cv_b4 73 rfl rfl
theorem ws_yX7_reading : Cond.selects RX7 yX7_reading yX7_reading ∈ cv_BIG := cv_b4 77 rfl rfl
theorem ws_yX7_back : Cond.selects RX7 yX7_back yX7_back ∈ cv_BIG := cv_b4 81 rfl rfl
theorem ws_yX7_snows : Cond.selects RX7 yX7_snows yX7_snows ∈ cv_BIG := cv_b4 85 rfl rfl
theorem ws_yX7_heights : Cond.selects RX7 yX7_heights yX7_heights ∈ cv_BIG := cv_b4 93 rfl rfl
theorem ws_yX7_kinds : Cond.selects RX7 yX7_kinds yX7_kinds ∈ cv_BIG := cv_b4 97 rfl rfl
theorem ws_yX7_gave : Cond.selects RX7 yX7_gave yX7_gave ∈ cv_BIG := cv_b4 101 rfl rfl
theorem ws_yX7_odds : Cond.selects RX7 yX7_odds yX7_odds ∈ cv_BIG := cv_b4 105 rfl rfl
theorem ws_yX7_sheet : Cond.selects RX7 yX7_sheet yX7_sheet ∈ cv_BIG := cv_b4 113 rfl rfl
theorem ws_yX7_lose : Cond.selects RX7 yX7_lose yX7_lose ∈ cv_BIG := cv_b4 117 rfl rfl
theorem ws_yX7_put : Cond.selects RX7 yX7_put yX7_put ∈ cv_BIG := cv_b4 121 rfl rfl
theorem ws_yX7_cell : Cond.selects RX7 yX7_cell yX7_cell ∈ cv_BIG := cv_b4 125 rfl rfl
theorem ws_yX7_copy : Cond.selects RX7 yX7_copy yX7_copy ∈ cv_BIG := cv_b4 133 rfl rfl
theorem ws_yX7_tell : Cond.selects RX7 yX7_tell yX7_tell ∈ cv_BIG := cv_b4 137 rfl rfl
theorem ws_yX7_mark : Cond.selects RX7 yX7_mark yX7_mark ∈ cv_BIG := cv_b4 145 rfl rfl
theorem ws_yX7_as : Cond.selects RX7 yX7_as yX7_as ∈ cv_BIG := cv_b4 149 rfl rfl
theorem ws_yX7_trace : Cond.selects RX7 yX7_trace yX7_trace ∈ cv_BIG := cv_b4 153 rfl rfl
theorem ws_yX7_fault : Cond.selects RX7 yX7_fault yX7_fault ∈ cv_BIG := cv_b4 157 rfl rfl
theorem ws_yX7_many : Cond.selects RX7 yX7_many yX7_many ∈ cv_BIG := cv_b4 161 rfl rfl
def cv_NW : List Cond := [Cond.methodLinkNest RX6 17 yX3_init RX6, Cond.methodLinkNest RX0 30 yX1_init RX6, Cond.methodLinkNest RX6 27 yX5_init RX6, Cond.methodLinkNest RX6 34 yX2_init RX6, Cond.methodLinkNest RX0 96 yX6_hasDay RX6, Cond.methodLinkNest RX5 42 yX6_hasDay RX6, Cond.methodLinkNest RX5 49 yX6_isBelow RX6]
theorem weX6_17 : Cond.methodLinkNest RX6 17 yX3_init RX6 ∈ cv_NW := List.mem_of_getElem? (i := 0) rfl
theorem wx_0 : Cond.methodLinkNest RX6 17 yX3_init RX6 ∈ lw_tbl := cv_l1 23 rfl
theorem weX0_30 : Cond.methodLinkNest RX0 30 yX1_init RX6 ∈ cv_NW := List.mem_of_getElem? (i := 1) rfl
theorem wx_1 : Cond.methodLinkNest RX0 30 yX1_init RX6 ∈ lw_tbl := cv_l1 49 rfl
theorem weX6_27 : Cond.methodLinkNest RX6 27 yX5_init RX6 ∈ cv_NW := List.mem_of_getElem? (i := 2) rfl
theorem wx_2 : Cond.methodLinkNest RX6 27 yX5_init RX6 ∈ lw_tbl := cv_l1 111 rfl
theorem weX6_34 : Cond.methodLinkNest RX6 34 yX2_init RX6 ∈ cv_NW := List.mem_of_getElem? (i := 3) rfl
theorem wx_3 : Cond.methodLinkNest RX6 34 yX2_init RX6 ∈ lw_tbl := cv_l1 134 rfl
theorem weX0_96 : Cond.methodLinkNest RX0 96 yX6_hasDay RX6 ∈ cv_NW := List.mem_of_getElem? (i := 4) rfl
theorem wx_4 : Cond.methodLinkNest RX0 96 yX6_hasDay RX6 ∈ lw_tbl := cv_l2 88 rfl
theorem weX5_42 : Cond.methodLinkNest RX5 42 yX6_hasDay RX6 ∈ cv_NW := List.mem_of_getElem? (i := 5) rfl
theorem wx_5 : Cond.methodLinkNest RX5 42 yX6_hasDay RX6 ∈ lw_tbl := cv_l2 145 rfl
theorem weX5_49 : Cond.methodLinkNest RX5 49 yX6_isBelow RX6 ∈ cv_NW := List.mem_of_getElem? (i := 6) rfl
theorem wx_6 : Cond.methodLinkNest RX5 49 yX6_isBelow RX6 ∈ lw_tbl := cv_l2 150 rfl
theorem cv_NW_in : ∀ w ∈ cv_NW, w ∈ lw_tbl := by
  intro w hw
  simp only [cv_NW, List.mem_cons, List.not_mem_nil, or_false] at hw
  rcases hw with rfl | rfl | rfl | rfl | rfl | rfl | rfl
  · exact wx_0
  · exact wx_1
  · exact wx_2
  · exact wx_3
  · exact wx_4
  · exact wx_5
  · exact wx_6
theorem cv_allin {l : List Cond} (h : l.all (fun w => decide (w ∈ lw_tbl) && goodWord w) = true) : ∀ w ∈ l, w ∈ cv_BIG := fun w hw => by
  have h1 := List.all_eq_true.mp h w hw
  simp only [Bool.and_eq_true, decide_eq_true_eq] at h1
  exact List.mem_filter.mpr ⟨h1.1, h1.2⟩
theorem iw_X0 : ∀ w ∈ u_ws RX0 TX0 7, w ∈ cv_BIG := cv_allin (by decide +kernel)
theorem iw_X1 : ∀ w ∈ u_ws RX1 TX1 5, w ∈ cv_BIG := cv_allin (by decide +kernel)
theorem iw_X2 : ∀ w ∈ u_ws RX2 TX2 3, w ∈ cv_BIG := cv_allin (by decide +kernel)
theorem iw_X3 : ∀ w ∈ u_ws RX3 TX3 3, w ∈ cv_BIG := cv_allin (by decide +kernel)
theorem iw_X4 : ∀ w ∈ u_ws RX4 TX4 3, w ∈ cv_BIG := cv_allin (by decide +kernel)
theorem iw_X5 : ∀ w ∈ u_ws RX5 TX5 4, w ∈ cv_BIG := cv_allin (by decide +kernel)
theorem iw_X6 : ∀ w ∈ u_ws RX6 TX6 6, w ∈ cv_BIG := cv_allin (by decide +kernel)
theorem iw_X7 : ∀ w ∈ u_ws RX7 TX7 29, w ∈ cv_BIG := cv_allin (by decide +kernel)
end
section
/-! ===== the abstract world: cells by number, ints by (cell, slot), references fixed by a shape ===== -/
abbrev cv_St : Type := Nat → Nat → Int32
/-- the shape of a cell: an object (class, fields: none an int, some j the cell j), an int array of a length, an array of references (kind, cells) -/
abbrev cv_Sh : Type := (Nat × List (Option Nat)) ⊕ (Nat ⊕ (Nat × List Nat))
abbrev cv_cl : List vw_C := [(RX0, TX0, 7), (RX1, TX1, 5), (RX2, TX2, 3), (RX3, TX3, 3), (RX4, TX4, 3), (RX5, TX5, 4), (RX6, TX6, 6), (RX7, TX7, 29)]
abbrev cv_tys (cA : Nat → ClassId) : List (ClassId × FieldType) := [(cA 0, .int), (cA 1, .object RX3), (cA 2, .object RX1)]
def cv_fv (a : Nat → Nat) (f : Nat → Int32) (i : Nat) (o : Option Nat) : Value := match o with
  | none => .int (f i)
  | some j => .ref (a j)
def cv_E (cA : Nat → ClassId) (a : Nat → Nat) (sh : cv_Sh) (f : Nat → Int32) : va_E := match sh with
  | .inl o => .inr (o.1, o.2.mapIdx (cv_fv a f))
  | .inr (.inl n) => .inl (cA 0, n, .inl f)
  | .inr (.inr r) => .inl (cA r.1, r.2.length, .inr (.inr (.inr (.inr (fun i => (r.2[i]?).map a)))))
def cv_wl (n : Nat) (sh : Nat → cv_Sh) (cA : Nat → ClassId) (a : Nat → Nat) (σ : cv_St) : va_W := (List.range n).map (fun k => (a k, cv_E cA a (sh k) (σ k)))
def cv_uc (σ : cv_St) (k : Nat) (f : Nat → Int32) : cv_St := fun j => if j = k then f else σ j
theorem cv_uc_s {σ : cv_St} {k : Nat} {f : Nat → Int32} : cv_uc σ k f k = f := by simp [cv_uc]
theorem cv_uc_n {σ : cv_St} {k j : Nat} {f : Nat → Int32} (h : j ≠ k) : cv_uc σ k f j = σ j := by simp [cv_uc, h]
/-- one int of a cell -/
def cv_u (σ : cv_St) (k i : Nat) (v : Int32) : cv_St := cv_uc σ k (upd (σ k) i v)
theorem cv_u_s {σ : cv_St} {k i : Nat} {v : Int32} : cv_u σ k i v k i = v := by simp [cv_u, cv_uc, upd]
theorem cv_u_c {σ : cv_St} {k i j : Nat} {v : Int32} (h : j ≠ k) : cv_u σ k i v j = σ j := by simp [cv_u, cv_uc, h]
theorem cv_u_i {σ : cv_St} {k i j : Nat} {v : Int32} (h : j ≠ i) : cv_u σ k i v k j = σ k j := by simp [cv_u, cv_uc, upd, h]
theorem cv_u_at (σ : cv_St) (k i : Nat) (v : Int32) (k' i' : Nat) : cv_u σ k i v k' i' = if k' = k ∧ i' = i then v else σ k' i' := by
  by_cases h : k' = k
  · subst h
    by_cases h2 : i' = i
    · subst h2; simp [cv_u_s]
    · simp [cv_u_i h2, h2]
  · rw [cv_u_c h]; simp [h]
theorem cv_wl_at {n : Nat} {sh : Nat → cv_Sh} {cA : Nat → ClassId} {a : Nat → Nat} {σ : cv_St} {k : Nat} (h : k < n) : (cv_wl n sh cA a σ)[k]? = some (a k, cv_E cA a (sh k) (σ k)) := by
  simp [cv_wl, h]
theorem cv_wl_len {n : Nat} {sh : Nat → cv_Sh} {cA : Nat → ClassId} {a : Nat → Nat} {σ : cv_St} : (cv_wl n sh cA a σ).length = n := by simp [cv_wl]
theorem cv_wl_some {n : Nat} {sh : Nat → cv_Sh} {cA : Nat → ClassId} {a : Nat → Nat} {σ : cv_St} {k : Nat} {q : Nat × va_E} (h : (cv_wl n sh cA a σ)[k]? = some q) : k < n ∧ q = (a k, cv_E cA a (sh k) (σ k)) := by
  have hk : k < n := by
    have := (List.getElem?_eq_some_iff.mp h).1
    rwa [cv_wl_len] at this
  rw [cv_wl_at hk] at h
  exact ⟨hk, (Option.some.inj h).symm⟩
theorem cv_wl_set {n : Nat} {sh : Nat → cv_Sh} {cA : Nat → ClassId} {a : Nat → Nat} {σ : cv_St} {k : Nat} {f : Nat → Int32} {e : va_E} (h : k < n) (he : cv_E cA a (sh k) f = e) : (cv_wl n sh cA a σ).set k (a k, e) = cv_wl n sh cA a (cv_uc σ k f) := by
  subst he
  apply List.ext_getElem?
  intro j
  by_cases hj : j < n
  · by_cases e : j = k
    · subst e
      rw [List.getElem?_set_self (by rw [cv_wl_len]; exact h), cv_wl_at h, cv_uc_s]
    · rw [List.getElem?_set_ne (Ne.symm e), cv_wl_at hj, cv_wl_at hj, cv_uc_n e]
  · rw [List.getElem?_eq_none (by rw [List.length_set, cv_wl_len]; omega), List.getElem?_eq_none (by rw [cv_wl_len]; omega)]
theorem cv_D_any {A : Nat → Prop} {n : Nat} {sh : Nat → cv_Sh} {cA : Nat → ClassId} {a : Nat → Nat} {σ : cv_St} (τ : cv_St) (h : va_D A (cv_wl n sh cA a σ)) : va_D A (cv_wl n sh cA a τ) := by
  refine ⟨fun i j x y hi hj hxy => ?_, fun k q hk => ?_⟩
  · obtain ⟨h1, rfl⟩ := cv_wl_some hi
    obtain ⟨h2, rfl⟩ := cv_wl_some hj
    exact h.1 i j _ _ (cv_wl_at h1) (cv_wl_at h2) hxy
  · obtain ⟨h1, rfl⟩ := cv_wl_some hk
    exact h.2 k (a k, cv_E cA a (sh k) (σ k)) (cv_wl_at h1)
theorem cv_A_any {n : Nat} {sh : Nat → cv_Sh} {cA : Nat → ClassId} {a : Nat → Nat} {σ : cv_St} (τ : cv_St) {sz q : Nat} (h : va_A (cv_wl n sh cA a σ) sz q) : va_A (cv_wl n sh cA a τ) sz q := by
  rcases h with ⟨k, e, h⟩ | h
  · obtain ⟨h1, h2⟩ := cv_wl_some h
    have : q = a k := congrArg Prod.fst h2
    subst this
    exact Or.inl ⟨k, _, cv_wl_at h1⟩
  · exact Or.inr h
theorem cv_fs_at {a : Nat → Nat} {f : Nat → Int32} {l : List (Option Nat)} {i : Nat} {o : Option Nat} (h : l[i]? = some o) : (l.mapIdx (cv_fv a f))[i]? = some (cv_fv a f i o) := by
  rw [List.getElem?_mapIdx, h]; rfl
theorem cv_fs_set {a : Nat → Nat} {f : Nat → Int32} {l : List (Option Nat)} {i : Nat} {v : Int32} (h : l[i]? = some none) : (l.mapIdx (cv_fv a f)).set i (.int v) = l.mapIdx (cv_fv a (upd f i v)) := by
  have hl := (List.getElem?_eq_some_iff.mp h).1
  apply List.ext_getElem?
  intro j
  by_cases e : j = i
  · subst e
    rw [List.getElem?_set_self (by rw [List.length_mapIdx]; exact hl), List.getElem?_mapIdx, h]
    simp [cv_fv, upd]
  · rw [List.getElem?_set_ne (Ne.symm e), List.getElem?_mapIdx, List.getElem?_mapIdx]
    cases h2 : l[j]? with
    | none => rfl
    | some o => cases o <;> simp [cv_fv, upd, e]
/-- the value of a number of a cell -/
def cv_v (a : Nat → Nat) : Value → Value
  | .ref k => .ref (a k)
  | v => v
theorem cv_v_cat (a : Nat → Nat) (v : Value) : (cv_v a v).category = v.category := by cases v <;> rfl
abbrev cv_lm (a : Nat → Nat) (lv : List (Nat × Value)) : List (Nat × Value) := lv.map (fun q => (q.1, cv_v a q.2))
theorem cv_args (a : Nat → Nat) : ∀ (av : List Value) (i : Nat), lv_args i (av.map (cv_v a)) = cv_lm a (lv_args i av)
  | [], _ => rfl
  | v :: r, i => by
    simp only [List.map_cons, lv_args, cv_v_cat, cv_args a r]
theorem cv_sl_len (a : Nat → Nat) : ∀ (av : List Value), (lg_sl (av.map (cv_v a))).length = (lg_sl av).length
  | [] => rfl
  | v :: r => by
    have := cv_sl_len a r
    cases v <;> simp [lg_sl, cv_v, Value.category, this] at this ⊢ <;> omega
abbrev cv_X : Type := Program × Launch × Env × Room × State × MethodId × Array Value × List Frame × Method × Code × (State → Prop) × va_G × (Nat → Prop) × (Nat → ClassId)
abbrev cv_Y : Type := Nat × (Nat → cv_Sh) × Nat × Nat × (Nat → Nat)
/-- THE JUDGEMENT: at pc, with the ints σ, locals lv, stack st, the machine comes to its end as owed -/
def cv_At : cv_X → cv_Y → Nat → cv_St → Nat → List (Nat × Value) → List Value → Prop
  | (p, l, e, R, s, m, args, below, meth, c, Q, D, A, cA), (n, sh, cells, slots, a), nL, σ, pc, lv, st => ∀ (H : Heap) (locs : List Loc) (ls : Array Slot), va_P D cv_cl (cv_wl n sh cA a σ) H → va_S A s.heap H locs → lv_has ls nL (cv_lm a lv) → W p l e R s m args below meth c H locs cells slots Q (F0 m pc ls (st.map (cv_v a)))
/-- what a method's walk stands on; d: how many calls may still go deeper -/
def cv_Cx : cv_X → cv_Y → String → ByteArray → Nat → Nat → Prop
  | (p, l, e, R, s, m, args, below, meth, c, Q, D, A, cA), (n, sh, cells, slots, a), own, cc, nL, d => p.tables.exec = Jvm.exec ∧ c.code = cc ∧ c.maxLocals = nL ∧ s.vm.findClass own = some m.cls ∧ (∀ w ∈ cv_BIG, w.before args s = true) ∧ va_K D cv_cl (cv_tys cA) s ∧ va_D A (cv_wl n sh cA a (fun _ _ => 0)) ∧ (∀ q, s.heap.size ≤ q → A q) ∧ (∀ w ∈ cv_NW, va_Nw w s) ∧ d ≤ R.frames ∧ 34 * d ≤ R.locals ∧ cells ≤ R.cells ∧ slots ≤ R.slots
def cv_U (D : va_G) (cA : Nat → ClassId) (a : Nat → Nat) (n : Nat) (sh : Nat → cv_Sh) (σ : cv_St) (sz : Nat) (U : State) : Prop := U.heap.size = sz ∧ va_P D cv_cl (cv_wl n sh cA a σ) U.heap ∧ va_K D cv_cl (cv_tys cA) U ∧ va_D (fun _ => True) (cv_wl n sh cA a σ) ∧ ∀ w ∈ cv_NW, va_Nw w U
def cv_Qc (D : va_G) (cA : Nat → ClassId) (a : Nat → Nat) (n : Nat) (sh : Nat → cv_Sh) (Qa : Option Value → cv_St → Prop) (A : Nat → Prop) : Array Value → State → Outcome → State → Prop := fun _ st oc t => (∃ (v : Option Value) (u : cv_St), oc = .returned (v.map (cv_v a)) ∧ Qa v u ∧ va_P D cv_cl (cv_wl n sh cA a u) t.heap) ∧ va_F A st t
abbrev cv_rm (d mc ms : Nat) : Room := { frames := d, cells := mc, slots := ms, locals := 34 * d }
/-- A METHOD'S CONTRACT over the abstract world -/
def cv_Ct (y : MethodName) (cc : ByteArray) (maxL : Nat) (ret : Option FieldType) (d mc ms : Nat) (n : Nat) (sh : Nat → cv_Sh) (av : List Value) (σ : cv_St) (Qa : Option Value → cv_St → Prop) : Prop :=
  ∀ (l : Launch) (D : va_G) (cA : Nat → ClassId) (a : Nat → Nat) (sz : Nat), Met l y (Cond.code y cc maxL ret :: cv_BIG) (cv_rm d mc ms) (va_Pc (av.map (cv_v a)) (cv_U D cA a n sh σ sz)) (cv_Qc D cA a n sh Qa (va_A (cv_wl n sh cA a σ) sz)) mc ms (va_A (cv_wl n sh cA a σ) sz)
/-- what a return owes -/
def cv_Rt : cv_X → cv_Y → Option FieldType → Nat → Nat → (Option Value → cv_St → Prop) → Prop
  | (p, l, e, R, s, m, args, below, meth, c, Q, D, A, cA), (n, sh, cells, slots, a), ret, mc, ms, Qa => meth.sig.returnType = ret ∧ meth.locks = false ∧ cells ≤ mc ∧ slots ≤ ms ∧ Q = MQ below (cv_Qc D cA a n sh Qa A) args s mc ms A
theorem cv_NW_tab : ∀ w ∈ cv_NW, w.onTables = true := by decide +kernel
theorem cv_NW_warm {s U : State} (hW : s.WarmedH U.vm) (h : ∀ w ∈ cv_NW, va_Nw w s) : ∀ w ∈ cv_NW, va_Nw w U := by
  intro w hw
  have h0 := h w hw
  simp only [cv_NW, List.mem_cons, List.not_mem_nil, or_false] at hw
  rcases hw with rfl | rfl | rfl | rfl | rfl | rfl | rfl <;> exact va_Nw.warmM hW h0
/-- a method's head -/
theorem cv_enter {y : MethodName} {cc : ByteArray} {maxL : Nat} {ret : Option FieldType} {d mc ms n : Nat} {sh : Nat → cv_Sh} {av : List Value} {σ : cv_St} {Qa : Option Value → cv_St → Prop} {own : String} (hy : plainName y.cls = true) (hc : y.cls = own) (hlen : (lg_sl av).length ≤ maxL)
    (body : ∀ (X : cv_X) (a : Nat → Nat), cv_Cx X (n, sh, 0, 0, a) own cc maxL d → cv_Rt X (n, sh, 0, 0, a) ret mc ms Qa → X.2.2.2.1 = cv_rm d mc ms → cv_At X (n, sh, 0, 0, a) maxL σ 0 (lv_args 0 av) []) : cv_Ct y cc maxL ret d mc ms n sh av σ Qa := by
  intro l D cA a sz
  subst hc
  refine Met.ofW (cc := cc) (maxL := maxL) (ret := ret) hy rfl ?_
  intro p e s m args below meth c s₁ B hml hv
  obtain ⟨rfl, hsz, hP, hK, hD0, hN⟩ := hv
  have hts := atoms_spec (ws := Cond.code y cc maxL ret :: cv_BIG) B.pre
  have hown : s.vm.findClass y.cls = some m.cls := findClass_of_methodNamed B.named
  subst hsz
  have hD := hD0.self (sz := s.heap.size)
  have hA : ∀ q : Nat, s.heap.size ≤ q → va_A (cv_wl n sh cA a σ) s.heap.size q := fun q h => Or.inr h
  have hl := lv_entry (av.map (cv_v a)) (n := maxL) (by rw [cv_sl_len]; exact hlen)
  rw [cv_args] at hl
  rw [lg_entry_eq]
  exact body (p, l, e, (headSpec (Cond.code y cc maxL ret :: cv_BIG) (cv_rm d mc ms)).room, s, m, _, below, meth, c, _, D, _, cA) a
    ⟨B.exec, B.bytes, hml, hown, fun w hw => hts w (List.mem_cons_of_mem _ hw), hK, cv_D_any _ hD, hA, hN, Nat.le_refl d, Nat.le_refl _, Nat.zero_le _, Nat.zero_le _⟩ ⟨B.returns, B.notSynchronized, Nat.zero_le _, Nat.zero_le _, rfl⟩ rfl s.heap [] _ hP va_S.rf hl
end
section
section CVR
variable {X : cv_X} {Y : cv_Y} {own : String} {cc : ByteArray} {nL d : Nat} {σ : cv_St} {pc : Nat} {lv lv' : List (Nat × Value)} {st : List Value}
theorem cv_iconst (C : cv_Cx X Y own cc nL d) {pc' : Nat} (hp : pc + 1 = pc') {v : Int32} {n0 : Int} (hd : decode cc pc = .ok (.iconst n0, 1)) (hv : Int32.ofInt n0 = v) (k : cv_At X Y nL σ pc' lv (.int v :: st)) : cv_At X Y nL σ pc lv st := by
  subst hp
  obtain ⟨p, l, e, R, s, m, args, below, meth, c, Q, D, A, cA⟩ := X
  obtain ⟨n, sh, cells, slots, a⟩ := Y
  intro H locs ls hP hS hl
  exact lv_iconst C.1 C.2.1 hd hv (k H locs ls hP hS hl)
theorem cv_bipush (C : cv_Cx X Y own cc nL d) {pc' : Nat} (hp : pc + 2 = pc') {v : Int32} {n0 : Int} (hd : decode cc pc = .ok (.bipush n0, 2)) (hv : (Int8.ofInt n0).toInt32 = v) (k : cv_At X Y nL σ pc' lv (.int v :: st)) : cv_At X Y nL σ pc lv st := by
  subst hp
  obtain ⟨p, l, e, R, s, m, args, below, meth, c, Q, D, A, cA⟩ := X
  obtain ⟨n, sh, cells, slots, a⟩ := Y
  intro H locs ls hP hS hl
  exact lv_bipush C.1 C.2.1 hd hv (k H locs ls hP hS hl)
theorem cv_sipush (C : cv_Cx X Y own cc nL d) {pc' : Nat} (hp : pc + 3 = pc') {v : Int32} {n0 : Int} (hd : decode cc pc = .ok (.sipush n0, 3)) (hv : (Int16.ofInt n0).toInt32 = v) (k : cv_At X Y nL σ pc' lv (.int v :: st)) : cv_At X Y nL σ pc lv st := by
  subst hp
  obtain ⟨p, l, e, R, s, m, args, below, meth, c, Q, D, A, cA⟩ := X
  obtain ⟨n, sh, cells, slots, a⟩ := Y
  intro H locs ls hP hS hl
  exact lv_sipush C.1 C.2.1 hd hv (k H locs ls hP hS hl)
theorem cv_lconst (C : cv_Cx X Y own cc nL d) {pc' : Nat} (hp : pc + 1 = pc') {v : Int64} {n0 : Fin 2} (hd : decode cc pc = .ok (.lconst n0, 1)) (hv : Int64.ofNat (n0 : Nat) = v) (k : cv_At X Y nL σ pc' lv (.long v :: st)) : cv_At X Y nL σ pc lv st := by
  subst hp
  obtain ⟨p, l, e, R, s, m, args, below, meth, c, Q, D, A, cA⟩ := X
  obtain ⟨n, sh, cells, slots, a⟩ := Y
  intro H locs ls hP hS hl
  exact lv_lconst C.1 C.2.1 hd hv (k H locs ls hP hS hl)
theorem cv_iload_n (C : cv_Cx X Y own cc nL d) {pc' : Nat} (hp : pc + 1 = pc') {k0 : Fin 4} {i j : Nat} {x : Int32} (hd : decode cc pc = .ok (.iload_n k0, 1)) (hi : (k0 : Nat) = i) (hj : lv[j]? = some (i, .int x)) (k : cv_At X Y nL σ pc' lv (.int x :: st)) : cv_At X Y nL σ pc lv st := by
  subst hp
  obtain ⟨p, l, e, R, s, m, args, below, meth, c, Q, D, A, cA⟩ := X
  obtain ⟨n, sh, cells, slots, a⟩ := Y
  intro H locs ls hP hS hl
  exact lv_iload_n C.1 C.2.1 hd hi (lv_at hl j (by rw [List.getElem?_map, hj]; rfl)) (k H locs ls hP hS hl)
theorem cv_iload (C : cv_Cx X Y own cc nL d) {pc' : Nat} (hp : pc + 2 = pc') {i j : Nat} {x : Int32} (hd : decode cc pc = .ok (.iload i, 2)) (hj : lv[j]? = some (i, .int x)) (k : cv_At X Y nL σ pc' lv (.int x :: st)) : cv_At X Y nL σ pc lv st := by
  subst hp
  obtain ⟨p, l, e, R, s, m, args, below, meth, c, Q, D, A, cA⟩ := X
  obtain ⟨n, sh, cells, slots, a⟩ := Y
  intro H locs ls hP hS hl
  exact lv_iload C.1 C.2.1 hd (lv_at hl j (by rw [List.getElem?_map, hj]; rfl)) (k H locs ls hP hS hl)
theorem cv_aload_n (C : cv_Cx X Y own cc nL d) {pc' : Nat} (hp : pc + 1 = pc') {k0 : Fin 4} {i j : Nat} {x : Nat} (hd : decode cc pc = .ok (.aload_n k0, 1)) (hi : (k0 : Nat) = i) (hj : lv[j]? = some (i, .ref x)) (k : cv_At X Y nL σ pc' lv (.ref x :: st)) : cv_At X Y nL σ pc lv st := by
  subst hp
  obtain ⟨p, l, e, R, s, m, args, below, meth, c, Q, D, A, cA⟩ := X
  obtain ⟨n, sh, cells, slots, a⟩ := Y
  intro H locs ls hP hS hl
  exact lv_aload_n C.1 C.2.1 hd hi (lv_at hl j (by rw [List.getElem?_map, hj]; rfl)) (k H locs ls hP hS hl)
theorem cv_aload (C : cv_Cx X Y own cc nL d) {pc' : Nat} (hp : pc + 2 = pc') {i j : Nat} {x : Nat} (hd : decode cc pc = .ok (.aload i, 2)) (hj : lv[j]? = some (i, .ref x)) (k : cv_At X Y nL σ pc' lv (.ref x :: st)) : cv_At X Y nL σ pc lv st := by
  subst hp
  obtain ⟨p, l, e, R, s, m, args, below, meth, c, Q, D, A, cA⟩ := X
  obtain ⟨n, sh, cells, slots, a⟩ := Y
  intro H locs ls hP hS hl
  exact lv_aload C.1 C.2.1 hd (lv_at hl j (by rw [List.getElem?_map, hj]; rfl)) (k H locs ls hP hS hl)
theorem cv_lload_n (C : cv_Cx X Y own cc nL d) {pc' : Nat} (hp : pc + 1 = pc') {k0 : Fin 4} {i j : Nat} {x : Int64} (hd : decode cc pc = .ok (.lload_n k0, 1)) (hi : (k0 : Nat) = i) (hj : lv[j]? = some (i, .long x)) (k : cv_At X Y nL σ pc' lv (.long x :: st)) : cv_At X Y nL σ pc lv st := by
  subst hp
  obtain ⟨p, l, e, R, s, m, args, below, meth, c, Q, D, A, cA⟩ := X
  obtain ⟨n, sh, cells, slots, a⟩ := Y
  intro H locs ls hP hS hl
  exact lv_lload_n C.1 C.2.1 hd hi (lv_at hl j (by rw [List.getElem?_map, hj]; rfl)) (k H locs ls hP hS hl)
theorem cv_lload (C : cv_Cx X Y own cc nL d) {pc' : Nat} (hp : pc + 2 = pc') {i j : Nat} {x : Int64} (hd : decode cc pc = .ok (.lload i, 2)) (hj : lv[j]? = some (i, .long x)) (k : cv_At X Y nL σ pc' lv (.long x :: st)) : cv_At X Y nL σ pc lv st := by
  subst hp
  obtain ⟨p, l, e, R, s, m, args, below, meth, c, Q, D, A, cA⟩ := X
  obtain ⟨n, sh, cells, slots, a⟩ := Y
  intro H locs ls hP hS hl
  exact lv_lload C.1 C.2.1 hd (lv_at hl j (by rw [List.getElem?_map, hj]; rfl)) (k H locs ls hP hS hl)
theorem cv_lmf {a : Nat → Nat} {lv lv' : List (Nat × Value)} {i : Nat} {v : Value} (g : Nat → Nat → Bool) (h : (i, v) :: lv.filter (fun q => g q.1 q.2.category) = lv') : (i, cv_v a v) :: (cv_lm a lv).filter (fun q => g q.1 q.2.category) = cv_lm a lv' := by
  subst h
  simp only [cv_lm, List.map_cons, List.filter_map]
  congr 2
  apply List.filter_congr
  intro q _
  simp [Function.comp, cv_v_cat]
theorem cv_istore_n (C : cv_Cx X Y own cc nL d) {pc' : Nat} (hp : pc + 1 = pc') {k0 : Fin 4} {i : Nat} {x : Int32} (hd : decode cc pc = .ok (.istore_n k0, 1)) (hi : (k0 : Nat) = i) (hn : i < nL) (hl' : (i, Value.int x) :: lv.filter (fun q => !(q.1 == i) && !(q.1 + 1 == i && q.2.category == 2)) = lv') (k : cv_At X Y nL σ pc' lv' st) : cv_At X Y nL σ pc lv (.int x :: st) := by
  subst hp
  obtain ⟨p, l, e, R, s, m, args, below, meth, c, Q, D, A, cA⟩ := X
  obtain ⟨n, sh, cells, slots, a⟩ := Y
  intro H locs ls hP hS hl
  exact lv_istore_n C.1 C.2.1 hd hi hl hn (cv_lmf (a := a) (fun x y => !(x == i) && !(x + 1 == i && y == 2)) hl') (fun ls' hl2 => k H locs ls' hP hS hl2)
theorem cv_istore (C : cv_Cx X Y own cc nL d) {pc' : Nat} (hp : pc + 2 = pc') {i : Nat} {x : Int32} (hd : decode cc pc = .ok (.istore i, 2)) (hn : i < nL) (hl' : (i, Value.int x) :: lv.filter (fun q => !(q.1 == i) && !(q.1 + 1 == i && q.2.category == 2)) = lv') (k : cv_At X Y nL σ pc' lv' st) : cv_At X Y nL σ pc lv (.int x :: st) := by
  subst hp
  obtain ⟨p, l, e, R, s, m, args, below, meth, c, Q, D, A, cA⟩ := X
  obtain ⟨n, sh, cells, slots, a⟩ := Y
  intro H locs ls hP hS hl
  exact lv_istore C.1 C.2.1 hd hl hn (cv_lmf (a := a) (fun x y => !(x == i) && !(x + 1 == i && y == 2)) hl') (fun ls' hl2 => k H locs ls' hP hS hl2)
theorem cv_astore_n (C : cv_Cx X Y own cc nL d) {pc' : Nat} (hp : pc + 1 = pc') {k0 : Fin 4} {i : Nat} {x : Nat} (hd : decode cc pc = .ok (.astore_n k0, 1)) (hi : (k0 : Nat) = i) (hn : i < nL) (hl' : (i, Value.ref x) :: lv.filter (fun q => !(q.1 == i) && !(q.1 + 1 == i && q.2.category == 2)) = lv') (k : cv_At X Y nL σ pc' lv' st) : cv_At X Y nL σ pc lv (.ref x :: st) := by
  subst hp
  obtain ⟨p, l, e, R, s, m, args, below, meth, c, Q, D, A, cA⟩ := X
  obtain ⟨n, sh, cells, slots, a⟩ := Y
  intro H locs ls hP hS hl
  exact lv_astore_n C.1 C.2.1 hd hi hl hn (cv_lmf (a := a) (fun x y => !(x == i) && !(x + 1 == i && y == 2)) hl') (fun ls' hl2 => k H locs ls' hP hS hl2)
theorem cv_astore (C : cv_Cx X Y own cc nL d) {pc' : Nat} (hp : pc + 2 = pc') {i : Nat} {x : Nat} (hd : decode cc pc = .ok (.astore i, 2)) (hn : i < nL) (hl' : (i, Value.ref x) :: lv.filter (fun q => !(q.1 == i) && !(q.1 + 1 == i && q.2.category == 2)) = lv') (k : cv_At X Y nL σ pc' lv' st) : cv_At X Y nL σ pc lv (.ref x :: st) := by
  subst hp
  obtain ⟨p, l, e, R, s, m, args, below, meth, c, Q, D, A, cA⟩ := X
  obtain ⟨n, sh, cells, slots, a⟩ := Y
  intro H locs ls hP hS hl
  exact lv_astore C.1 C.2.1 hd hl hn (cv_lmf (a := a) (fun x y => !(x == i) && !(x + 1 == i && y == 2)) hl') (fun ls' hl2 => k H locs ls' hP hS hl2)
theorem cv_lstore (C : cv_Cx X Y own cc nL d) {pc' : Nat} (hp : pc + 2 = pc') {i : Nat} {x : Int64} (hd : decode cc pc = .ok (.lstore i, 2)) (hn : i + 1 < nL) (hl' : (i, Value.long x) :: lv.filter (fun q => !(q.1 == i) && (!(q.1 == i + 1) && !(q.1 + 1 == i && q.2.category == 2))) = lv') (k : cv_At X Y nL σ pc' lv' st) : cv_At X Y nL σ pc lv (.long x :: st) := by
  subst hp
  obtain ⟨p, l, e, R, s, m, args, below, meth, c, Q, D, A, cA⟩ := X
  obtain ⟨n, sh, cells, slots, a⟩ := Y
  intro H locs ls hP hS hl
  exact lv_lstore C.1 C.2.1 hd hl hn (cv_lmf (a := a) (fun x y => !(x == i) && (!(x == i + 1) && !(x + 1 == i && y == 2))) hl') (fun ls' hl2 => k H locs ls' hP hS hl2)
theorem cv_iinc (C : cv_Cx X Y own cc nL d) {pc' : Nat} (hp : pc + 3 = pc') {i j : Nat} {n0 : Int} {x v : Int32} (hd : decode cc pc = .ok (.iinc i n0, 3)) (hj : lv[j]? = some (i, .int x)) (hv : x + Int32.ofInt n0 = v) (hn : i < nL) (hl' : (i, Value.int v) :: lv.filter (fun q => !(q.1 == i) && !(q.1 + 1 == i && q.2.category == 2)) = lv') (k : cv_At X Y nL σ pc' lv' st) : cv_At X Y nL σ pc lv st := by
  subst hp
  obtain ⟨p, l, e, R, s, m, args, below, meth, c, Q, D, A, cA⟩ := X
  obtain ⟨n, sh, cells, slots, a⟩ := Y
  intro H locs ls hP hS hl
  exact lv_iinc C.1 C.2.1 hd hl (k := j) (by rw [List.getElem?_map, hj]; rfl) hv hn (cv_lmf (a := a) (fun x y => !(x == i) && !(x + 1 == i && y == 2)) hl') (fun ls' hl2 => k H locs ls' hP hS hl2)
theorem cv_iadd (C : cv_Cx X Y own cc nL d) {pc' : Nat} (hp : pc + 1 = pc') {x y : Int32} (hd : decode cc pc = .ok (.iadd, 1)) (k : cv_At X Y nL σ pc' lv (.int (x + y) :: st)) : cv_At X Y nL σ pc lv (.int y :: .int x :: st) := by
  subst hp
  obtain ⟨p, l, e, R, s, m, args, below, meth, c, Q, D, A, cA⟩ := X
  obtain ⟨n, sh, cells, slots, a⟩ := Y
  intro H locs ls hP hS hl
  exact lv_iadd C.1 C.2.1 hd (k H locs ls hP hS hl)
theorem cv_isub (C : cv_Cx X Y own cc nL d) {pc' : Nat} (hp : pc + 1 = pc') {x y : Int32} (hd : decode cc pc = .ok (.isub, 1)) (k : cv_At X Y nL σ pc' lv (.int (x - y) :: st)) : cv_At X Y nL σ pc lv (.int y :: .int x :: st) := by
  subst hp
  obtain ⟨p, l, e, R, s, m, args, below, meth, c, Q, D, A, cA⟩ := X
  obtain ⟨n, sh, cells, slots, a⟩ := Y
  intro H locs ls hP hS hl
  exact lv_isub C.1 C.2.1 hd (k H locs ls hP hS hl)
theorem cv_imul (C : cv_Cx X Y own cc nL d) {pc' : Nat} (hp : pc + 1 = pc') {x y : Int32} (hd : decode cc pc = .ok (.imul, 1)) (k : cv_At X Y nL σ pc' lv (.int (x * y) :: st)) : cv_At X Y nL σ pc lv (.int y :: .int x :: st) := by
  subst hp
  obtain ⟨p, l, e, R, s, m, args, below, meth, c, Q, D, A, cA⟩ := X
  obtain ⟨n, sh, cells, slots, a⟩ := Y
  intro H locs ls hP hS hl
  exact lv_imul C.1 C.2.1 hd (k H locs ls hP hS hl)
theorem cv_iand (C : cv_Cx X Y own cc nL d) {pc' : Nat} (hp : pc + 1 = pc') {x y : Int32} (hd : decode cc pc = .ok (.iand, 1)) (k : cv_At X Y nL σ pc' lv (.int (x &&& y) :: st)) : cv_At X Y nL σ pc lv (.int y :: .int x :: st) := by
  subst hp
  obtain ⟨p, l, e, R, s, m, args, below, meth, c, Q, D, A, cA⟩ := X
  obtain ⟨n, sh, cells, slots, a⟩ := Y
  intro H locs ls hP hS hl
  exact lv_iand C.1 C.2.1 hd (k H locs ls hP hS hl)
theorem cv_ior (C : cv_Cx X Y own cc nL d) {pc' : Nat} (hp : pc + 1 = pc') {x y : Int32} (hd : decode cc pc = .ok (.ior, 1)) (k : cv_At X Y nL σ pc' lv (.int (x ||| y) :: st)) : cv_At X Y nL σ pc lv (.int y :: .int x :: st) := by
  subst hp
  obtain ⟨p, l, e, R, s, m, args, below, meth, c, Q, D, A, cA⟩ := X
  obtain ⟨n, sh, cells, slots, a⟩ := Y
  intro H locs ls hP hS hl
  exact lv_ior C.1 C.2.1 hd (k H locs ls hP hS hl)
theorem cv_ixor (C : cv_Cx X Y own cc nL d) {pc' : Nat} (hp : pc + 1 = pc') {x y : Int32} (hd : decode cc pc = .ok (.ixor, 1)) (k : cv_At X Y nL σ pc' lv (.int (x ^^^ y) :: st)) : cv_At X Y nL σ pc lv (.int y :: .int x :: st) := by
  subst hp
  obtain ⟨p, l, e, R, s, m, args, below, meth, c, Q, D, A, cA⟩ := X
  obtain ⟨n, sh, cells, slots, a⟩ := Y
  intro H locs ls hP hS hl
  exact lv_ixor C.1 C.2.1 hd (k H locs ls hP hS hl)
theorem cv_ishl (C : cv_Cx X Y own cc nL d) {pc' : Nat} (hp : pc + 1 = pc') {x y : Int32} (hd : decode cc pc = .ok (.ishl, 1)) (k : cv_At X Y nL σ pc' lv (.int (x <<< (y &&& 31)) :: st)) : cv_At X Y nL σ pc lv (.int y :: .int x :: st) := by
  subst hp
  obtain ⟨p, l, e, R, s, m, args, below, meth, c, Q, D, A, cA⟩ := X
  obtain ⟨n, sh, cells, slots, a⟩ := Y
  intro H locs ls hP hS hl
  exact lv_ishl C.1 C.2.1 hd (k H locs ls hP hS hl)
theorem cv_ishr (C : cv_Cx X Y own cc nL d) {pc' : Nat} (hp : pc + 1 = pc') {x y : Int32} (hd : decode cc pc = .ok (.ishr, 1)) (k : cv_At X Y nL σ pc' lv (.int (x >>> (y &&& 31)) :: st)) : cv_At X Y nL σ pc lv (.int y :: .int x :: st) := by
  subst hp
  obtain ⟨p, l, e, R, s, m, args, below, meth, c, Q, D, A, cA⟩ := X
  obtain ⟨n, sh, cells, slots, a⟩ := Y
  intro H locs ls hP hS hl
  exact lv_ishr C.1 C.2.1 hd (k H locs ls hP hS hl)
theorem cv_idiv (C : cv_Cx X Y own cc nL d) {pc' : Nat} (hp : pc + 1 = pc') {x y : Int32} (hd : decode cc pc = .ok (.idiv, 1)) (hne : ¬ y = 0) (k : cv_At X Y nL σ pc' lv (.int (x / y) :: st)) : cv_At X Y nL σ pc lv (.int y :: .int x :: st) := by
  subst hp
  obtain ⟨p, l, e, R, s, m, args, below, meth, c, Q, D, A, cA⟩ := X
  obtain ⟨n, sh, cells, slots, a⟩ := Y
  intro H locs ls hP hS hl
  exact lv_idiv C.1 C.2.1 hd hne (k H locs ls hP hS hl)
theorem cv_irem (C : cv_Cx X Y own cc nL d) {pc' : Nat} (hp : pc + 1 = pc') {x y : Int32} (hd : decode cc pc = .ok (.irem, 1)) (hne : ¬ y = 0) (k : cv_At X Y nL σ pc' lv (.int (x - x / y * y) :: st)) : cv_At X Y nL σ pc lv (.int y :: .int x :: st) := by
  subst hp
  obtain ⟨p, l, e, R, s, m, args, below, meth, c, Q, D, A, cA⟩ := X
  obtain ⟨n, sh, cells, slots, a⟩ := Y
  intro H locs ls hP hS hl
  exact lv_irem C.1 C.2.1 hd hne (k H locs ls hP hS hl)
theorem cv_ldiv (C : cv_Cx X Y own cc nL d) {pc' : Nat} (hp : pc + 1 = pc') {x y : Int64} (hd : decode cc pc = .ok (.ldiv, 1)) (hne : ¬ y = 0) (k : cv_At X Y nL σ pc' lv (.long (x / y) :: st)) : cv_At X Y nL σ pc lv (.long y :: .long x :: st) := by
  subst hp
  obtain ⟨p, l, e, R, s, m, args, below, meth, c, Q, D, A, cA⟩ := X
  obtain ⟨n, sh, cells, slots, a⟩ := Y
  intro H locs ls hP hS hl
  exact lv_ldiv C.1 C.2.1 hd hne (k H locs ls hP hS hl)
theorem cv_lrem (C : cv_Cx X Y own cc nL d) {pc' : Nat} (hp : pc + 1 = pc') {x y : Int64} (hd : decode cc pc = .ok (.lrem, 1)) (hne : ¬ y = 0) (k : cv_At X Y nL σ pc' lv (.long (x - x / y * y) :: st)) : cv_At X Y nL σ pc lv (.long y :: .long x :: st) := by
  subst hp
  obtain ⟨p, l, e, R, s, m, args, below, meth, c, Q, D, A, cA⟩ := X
  obtain ⟨n, sh, cells, slots, a⟩ := Y
  intro H locs ls hP hS hl
  exact lv_lrem C.1 C.2.1 hd hne (k H locs ls hP hS hl)
theorem cv_iushr (C : cv_Cx X Y own cc nL d) {pc' : Nat} (hp : pc + 1 = pc') {x y v : Int32} (hd : decode cc pc = .ok (.iushr, 1)) (hv : (x.toUInt32 >>> (y.toUInt32 &&& Int32.toUInt32 31)).toInt32 = v) (k : cv_At X Y nL σ pc' lv (.int v :: st)) : cv_At X Y nL σ pc lv (.int y :: .int x :: st) := by
  subst hp
  obtain ⟨p, l, e, R, s, m, args, below, meth, c, Q, D, A, cA⟩ := X
  obtain ⟨n, sh, cells, slots, a⟩ := Y
  intro H locs ls hP hS hl
  exact lv_iushr C.1 C.2.1 hd hv (k H locs ls hP hS hl)
theorem cv_i2l (C : cv_Cx X Y own cc nL d) {pc' : Nat} (hp : pc + 1 = pc') {x : Int32} {v : Int64} (hd : decode cc pc = .ok (.i2l, 1)) (hv : x.toInt64 = v) (k : cv_At X Y nL σ pc' lv (.long v :: st)) : cv_At X Y nL σ pc lv (.int x :: st) := by
  subst hp
  obtain ⟨p, l, e, R, s, m, args, below, meth, c, Q, D, A, cA⟩ := X
  obtain ⟨n, sh, cells, slots, a⟩ := Y
  intro H locs ls hP hS hl
  exact lv_i2l C.1 C.2.1 hd hv (k H locs ls hP hS hl)
theorem cv_i2b (C : cv_Cx X Y own cc nL d) {pc' : Nat} (hp : pc + 1 = pc') {x v : Int32} (hd : decode cc pc = .ok (.i2b, 1)) (hv : x.toInt8.toInt32 = v) (k : cv_At X Y nL σ pc' lv (.int v :: st)) : cv_At X Y nL σ pc lv (.int x :: st) := by
  subst hp
  obtain ⟨p, l, e, R, s, m, args, below, meth, c, Q, D, A, cA⟩ := X
  obtain ⟨n, sh, cells, slots, a⟩ := Y
  intro H locs ls hP hS hl
  exact lv_i2b C.1 C.2.1 hd hv (k H locs ls hP hS hl)
theorem cv_i2s (C : cv_Cx X Y own cc nL d) {pc' : Nat} (hp : pc + 1 = pc') {x v : Int32} (hd : decode cc pc = .ok (.i2s, 1)) (hv : x.toInt16.toInt32 = v) (k : cv_At X Y nL σ pc' lv (.int v :: st)) : cv_At X Y nL σ pc lv (.int x :: st) := by
  subst hp
  obtain ⟨p, l, e, R, s, m, args, below, meth, c, Q, D, A, cA⟩ := X
  obtain ⟨n, sh, cells, slots, a⟩ := Y
  intro H locs ls hP hS hl
  exact lv_i2s C.1 C.2.1 hd hv (k H locs ls hP hS hl)
theorem cv_dup (C : cv_Cx X Y own cc nL d) {pc' : Nat} (hp : pc + 1 = pc') {va : Value} (hd : decode cc pc = .ok (.dup, 1)) (hc : va.category = 1) (k : cv_At X Y nL σ pc' lv (va :: va :: st)) : cv_At X Y nL σ pc lv (va :: st) := by
  subst hp
  obtain ⟨p, l, e, R, s, m, args, below, meth, c, Q, D, A, cA⟩ := X
  obtain ⟨n, sh, cells, slots, a⟩ := Y
  intro H locs ls hP hS hl
  exact lv_dup C.1 C.2.1 hd (by rw [cv_v_cat]; exact hc) (k H locs ls hP hS hl)
theorem cv_ldc2 (C : cv_Cx X Y own cc nL d) {pc' : Nat} (hp : pc + 3 = pc') {v : Int64} {i : Nat} (hw : Cond.constantLong own i v ∈ cv_BIG) (hd : decode cc pc = .ok (.ldc2_w i, 3)) (k : cv_At X Y nL σ pc' lv (.long v :: st)) : cv_At X Y nL σ pc lv st := by
  subst hp
  obtain ⟨p, l, e, R, s, m, args, below, meth, c, Q, D, A, cA⟩ := X
  obtain ⟨n, sh, cells, slots, a⟩ := Y
  intro H locs ls hP hS hl
  exact lv_ldc2 C.1 C.2.1 C.2.2.2.1 (C.2.2.2.2.1 _ hw) hd (k H locs ls hP hS hl)
theorem cv_ldcw (C : cv_Cx X Y own cc nL d) {pc' : Nat} (hp : pc + 3 = pc') {v : Int32} {i : Nat} (hw : Cond.constant own i v ∈ cv_BIG) (hd : decode cc pc = .ok (.ldc_w i, 3)) (k : cv_At X Y nL σ pc' lv (.int v :: st)) : cv_At X Y nL σ pc lv st := by
  subst hp
  obtain ⟨p, l, e, R, s, m, args, below, meth, c, Q, D, A, cA⟩ := X
  obtain ⟨n, sh, cells, slots, a⟩ := Y
  intro H locs ls hP hS hl
  exact lv_ldcw C.1 C.2.1 C.2.2.2.1 (C.2.2.2.2.1 _ hw) hd (k H locs ls hP hS hl)
theorem cv_goto (C : cv_Cx X Y own cc nL d) {off : Int} {tgt : Nat} (hd : decode cc pc = .ok (.goto off, 3)) (ht : (pc : Int) + off = (tgt : Int)) (k : cv_At X Y nL σ tgt lv st) : cv_At X Y nL σ pc lv st := by
  obtain ⟨p, l, e, R, s, m, args, below, meth, c, Q, D, A, cA⟩ := X
  obtain ⟨n, sh, cells, slots, a⟩ := Y
  intro H locs ls hP hS hl
  exact lv_goto C.1 C.2.1 hd ht (k H locs ls hP hS hl)
theorem cv_if_eq (C : cv_Cx X Y own cc nL d) {pc' : Nat} (hp : pc + 3 = pc') {x : Int32} {off : Int} {tgt : Nat} (hd : decode cc pc = .ok (.ifCond .eq off, 3)) (ht : (pc : Int) + off = (tgt : Int)) (kt : x = 0 → cv_At X Y nL σ tgt lv st) (kf : ¬ x = 0 → cv_At X Y nL σ pc' lv st) : cv_At X Y nL σ pc lv (.int x :: st) := by
  subst hp
  obtain ⟨p, l, e, R, s, m, args, below, meth, c, Q, D, A, cA⟩ := X
  obtain ⟨n, sh, cells, slots, a⟩ := Y
  intro H locs ls hP hS hl
  exact lv_if_eq C.1 C.2.1 hd ht (fun h => kt h H locs ls hP hS hl) (fun h => kf h H locs ls hP hS hl)
theorem cv_icmp_eq (C : cv_Cx X Y own cc nL d) {pc' : Nat} (hp : pc + 3 = pc') {x y : Int32} {off : Int} {tgt : Nat} (hd : decode cc pc = .ok (.if_icmp .eq off, 3)) (ht : (pc : Int) + off = (tgt : Int)) (kt : x = y → cv_At X Y nL σ tgt lv st) (kf : ¬ x = y → cv_At X Y nL σ pc' lv st) : cv_At X Y nL σ pc lv (.int y :: .int x :: st) := by
  subst hp
  obtain ⟨p, l, e, R, s, m, args, below, meth, c, Q, D, A, cA⟩ := X
  obtain ⟨n, sh, cells, slots, a⟩ := Y
  intro H locs ls hP hS hl
  exact lv_icmp_eq C.1 C.2.1 hd ht (fun h => kt h H locs ls hP hS hl) (fun h => kf h H locs ls hP hS hl)
theorem cv_if_ne (C : cv_Cx X Y own cc nL d) {pc' : Nat} (hp : pc + 3 = pc') {x : Int32} {off : Int} {tgt : Nat} (hd : decode cc pc = .ok (.ifCond .ne off, 3)) (ht : (pc : Int) + off = (tgt : Int)) (kt : ¬ x = 0 → cv_At X Y nL σ tgt lv st) (kf : x = 0 → cv_At X Y nL σ pc' lv st) : cv_At X Y nL σ pc lv (.int x :: st) := by
  subst hp
  obtain ⟨p, l, e, R, s, m, args, below, meth, c, Q, D, A, cA⟩ := X
  obtain ⟨n, sh, cells, slots, a⟩ := Y
  intro H locs ls hP hS hl
  exact lv_if_ne C.1 C.2.1 hd ht (fun h => kt h H locs ls hP hS hl) (fun h => kf h H locs ls hP hS hl)
theorem cv_icmp_ne (C : cv_Cx X Y own cc nL d) {pc' : Nat} (hp : pc + 3 = pc') {x y : Int32} {off : Int} {tgt : Nat} (hd : decode cc pc = .ok (.if_icmp .ne off, 3)) (ht : (pc : Int) + off = (tgt : Int)) (kt : ¬ x = y → cv_At X Y nL σ tgt lv st) (kf : x = y → cv_At X Y nL σ pc' lv st) : cv_At X Y nL σ pc lv (.int y :: .int x :: st) := by
  subst hp
  obtain ⟨p, l, e, R, s, m, args, below, meth, c, Q, D, A, cA⟩ := X
  obtain ⟨n, sh, cells, slots, a⟩ := Y
  intro H locs ls hP hS hl
  exact lv_icmp_ne C.1 C.2.1 hd ht (fun h => kt h H locs ls hP hS hl) (fun h => kf h H locs ls hP hS hl)
theorem cv_if_lt (C : cv_Cx X Y own cc nL d) {pc' : Nat} (hp : pc + 3 = pc') {x : Int32} {off : Int} {tgt : Nat} (hd : decode cc pc = .ok (.ifCond .lt off, 3)) (ht : (pc : Int) + off = (tgt : Int)) (kt : x < 0 → cv_At X Y nL σ tgt lv st) (kf : ¬ x < 0 → cv_At X Y nL σ pc' lv st) : cv_At X Y nL σ pc lv (.int x :: st) := by
  subst hp
  obtain ⟨p, l, e, R, s, m, args, below, meth, c, Q, D, A, cA⟩ := X
  obtain ⟨n, sh, cells, slots, a⟩ := Y
  intro H locs ls hP hS hl
  exact lv_if_lt C.1 C.2.1 hd ht (fun h => kt h H locs ls hP hS hl) (fun h => kf h H locs ls hP hS hl)
theorem cv_icmp_lt (C : cv_Cx X Y own cc nL d) {pc' : Nat} (hp : pc + 3 = pc') {x y : Int32} {off : Int} {tgt : Nat} (hd : decode cc pc = .ok (.if_icmp .lt off, 3)) (ht : (pc : Int) + off = (tgt : Int)) (kt : x < y → cv_At X Y nL σ tgt lv st) (kf : ¬ x < y → cv_At X Y nL σ pc' lv st) : cv_At X Y nL σ pc lv (.int y :: .int x :: st) := by
  subst hp
  obtain ⟨p, l, e, R, s, m, args, below, meth, c, Q, D, A, cA⟩ := X
  obtain ⟨n, sh, cells, slots, a⟩ := Y
  intro H locs ls hP hS hl
  exact lv_icmp_lt C.1 C.2.1 hd ht (fun h => kt h H locs ls hP hS hl) (fun h => kf h H locs ls hP hS hl)
theorem cv_if_ge (C : cv_Cx X Y own cc nL d) {pc' : Nat} (hp : pc + 3 = pc') {x : Int32} {off : Int} {tgt : Nat} (hd : decode cc pc = .ok (.ifCond .ge off, 3)) (ht : (pc : Int) + off = (tgt : Int)) (kt : 0 ≤ x → cv_At X Y nL σ tgt lv st) (kf : ¬ 0 ≤ x → cv_At X Y nL σ pc' lv st) : cv_At X Y nL σ pc lv (.int x :: st) := by
  subst hp
  obtain ⟨p, l, e, R, s, m, args, below, meth, c, Q, D, A, cA⟩ := X
  obtain ⟨n, sh, cells, slots, a⟩ := Y
  intro H locs ls hP hS hl
  exact lv_if_ge C.1 C.2.1 hd ht (fun h => kt h H locs ls hP hS hl) (fun h => kf h H locs ls hP hS hl)
theorem cv_icmp_ge (C : cv_Cx X Y own cc nL d) {pc' : Nat} (hp : pc + 3 = pc') {x y : Int32} {off : Int} {tgt : Nat} (hd : decode cc pc = .ok (.if_icmp .ge off, 3)) (ht : (pc : Int) + off = (tgt : Int)) (kt : y ≤ x → cv_At X Y nL σ tgt lv st) (kf : ¬ y ≤ x → cv_At X Y nL σ pc' lv st) : cv_At X Y nL σ pc lv (.int y :: .int x :: st) := by
  subst hp
  obtain ⟨p, l, e, R, s, m, args, below, meth, c, Q, D, A, cA⟩ := X
  obtain ⟨n, sh, cells, slots, a⟩ := Y
  intro H locs ls hP hS hl
  exact lv_icmp_ge C.1 C.2.1 hd ht (fun h => kt h H locs ls hP hS hl) (fun h => kf h H locs ls hP hS hl)
theorem cv_if_gt (C : cv_Cx X Y own cc nL d) {pc' : Nat} (hp : pc + 3 = pc') {x : Int32} {off : Int} {tgt : Nat} (hd : decode cc pc = .ok (.ifCond .gt off, 3)) (ht : (pc : Int) + off = (tgt : Int)) (kt : 0 < x → cv_At X Y nL σ tgt lv st) (kf : ¬ 0 < x → cv_At X Y nL σ pc' lv st) : cv_At X Y nL σ pc lv (.int x :: st) := by
  subst hp
  obtain ⟨p, l, e, R, s, m, args, below, meth, c, Q, D, A, cA⟩ := X
  obtain ⟨n, sh, cells, slots, a⟩ := Y
  intro H locs ls hP hS hl
  exact lv_if_gt C.1 C.2.1 hd ht (fun h => kt h H locs ls hP hS hl) (fun h => kf h H locs ls hP hS hl)
theorem cv_icmp_gt (C : cv_Cx X Y own cc nL d) {pc' : Nat} (hp : pc + 3 = pc') {x y : Int32} {off : Int} {tgt : Nat} (hd : decode cc pc = .ok (.if_icmp .gt off, 3)) (ht : (pc : Int) + off = (tgt : Int)) (kt : y < x → cv_At X Y nL σ tgt lv st) (kf : ¬ y < x → cv_At X Y nL σ pc' lv st) : cv_At X Y nL σ pc lv (.int y :: .int x :: st) := by
  subst hp
  obtain ⟨p, l, e, R, s, m, args, below, meth, c, Q, D, A, cA⟩ := X
  obtain ⟨n, sh, cells, slots, a⟩ := Y
  intro H locs ls hP hS hl
  exact lv_icmp_gt C.1 C.2.1 hd ht (fun h => kt h H locs ls hP hS hl) (fun h => kf h H locs ls hP hS hl)
theorem cv_if_le (C : cv_Cx X Y own cc nL d) {pc' : Nat} (hp : pc + 3 = pc') {x : Int32} {off : Int} {tgt : Nat} (hd : decode cc pc = .ok (.ifCond .le off, 3)) (ht : (pc : Int) + off = (tgt : Int)) (kt : x ≤ 0 → cv_At X Y nL σ tgt lv st) (kf : ¬ x ≤ 0 → cv_At X Y nL σ pc' lv st) : cv_At X Y nL σ pc lv (.int x :: st) := by
  subst hp
  obtain ⟨p, l, e, R, s, m, args, below, meth, c, Q, D, A, cA⟩ := X
  obtain ⟨n, sh, cells, slots, a⟩ := Y
  intro H locs ls hP hS hl
  exact lv_if_le C.1 C.2.1 hd ht (fun h => kt h H locs ls hP hS hl) (fun h => kf h H locs ls hP hS hl)
theorem cv_icmp_le (C : cv_Cx X Y own cc nL d) {pc' : Nat} (hp : pc + 3 = pc') {x y : Int32} {off : Int} {tgt : Nat} (hd : decode cc pc = .ok (.if_icmp .le off, 3)) (ht : (pc : Int) + off = (tgt : Int)) (kt : x ≤ y → cv_At X Y nL σ tgt lv st) (kf : ¬ x ≤ y → cv_At X Y nL σ pc' lv st) : cv_At X Y nL σ pc lv (.int y :: .int x :: st) := by
  subst hp
  obtain ⟨p, l, e, R, s, m, args, below, meth, c, Q, D, A, cA⟩ := X
  obtain ⟨n, sh, cells, slots, a⟩ := Y
  intro H locs ls hP hS hl
  exact lv_icmp_le C.1 C.2.1 hd ht (fun h => kt h H locs ls hP hS hl) (fun h => kf h H locs ls hP hS hl)
theorem cv_lookup (C : cv_Cx X Y own cc nL d) {dflt : Int} {ps : Array (Int × Int)} {len : Nat} {x : Int32} {off : Int} {tgt : Nat} (hd : decode cc pc = .ok (.lookupswitch dflt ps, len)) (hp : (ps.toList.zip (ps.toList.drop 1)).all (fun (a, next) => a.1 < next.1) = true) (ho : Op.lookupswitch.offset ps.toList dflt x.toInt = off) (ht : (pc : Int) + off = (tgt : Int)) (k : cv_At X Y nL σ tgt lv st) : cv_At X Y nL σ pc lv (.int x :: st) := by
  obtain ⟨p, l, e, R, s, m, args, below, meth, c, Q, D, A, cA⟩ := X
  obtain ⟨n, sh, cells, slots, a⟩ := Y
  intro H locs ls hP hS hl
  exact lv_lookup C.1 C.2.1 hd hp ho ht (k H locs ls hP hS hl)
theorem cv_tableOut (C : cv_Cx X Y own cc nL d) {dflt lo hi : Int} {offs : Array Int} {len : Nat} {x : Int32} {tgt : Nat} (hd : decode cc pc = .ok (.tableswitch dflt lo hi offs, len)) (h : x.toInt < lo ∨ hi < x.toInt) (ht : (pc : Int) + dflt = (tgt : Int)) (k : cv_At X Y nL σ tgt lv st) : cv_At X Y nL σ pc lv (.int x :: st) := by
  obtain ⟨p, l, e, R, s, m, args, below, meth, c, Q, D, A, cA⟩ := X
  obtain ⟨n, sh, cells, slots, a⟩ := Y
  intro H locs ls hP hS hl
  exact lv_tableOut C.1 C.2.1 hd h ht (k H locs ls hP hS hl)
theorem cv_tableIn (C : cv_Cx X Y own cc nL d) {dflt lo hi : Int} {offs : Array Int} {len : Nat} {x : Int32} {off : Int} {tgt : Nat} (hd : decode cc pc = .ok (.tableswitch dflt lo hi offs, len)) (h1 : ¬ x.toInt < lo) (h2 : ¬ hi < x.toInt) (ho : offs[(x.toInt - lo).toNat]? = some off) (ht : (pc : Int) + off = (tgt : Int)) (k : cv_At X Y nL σ tgt lv st) : cv_At X Y nL σ pc lv (.int x :: st) := by
  obtain ⟨p, l, e, R, s, m, args, below, meth, c, Q, D, A, cA⟩ := X
  obtain ⟨n, sh, cells, slots, a⟩ := Y
  intro H locs ls hP hS hl
  exact lv_tableIn C.1 C.2.1 hd h1 h2 ho ht (k H locs ls hP hS hl)
theorem cv_eqp {pc' : Nat} (h : pc' = pc) (k : cv_At X Y nL σ pc' lv st) : cv_At X Y nL σ pc lv st := h ▸ k
theorem cv_pick (ks : List Nat) (h : lv_pick lv ks = lv') (k : cv_At X Y nL σ pc lv' st) : cv_At X Y nL σ pc lv st := by
  obtain ⟨p, l, e, R, s, m, args, below, meth, c, Q, D, A, cA⟩ := X
  obtain ⟨n, sh, cells, slots, a⟩ := Y
  intro H locs ls hP hS hl
  exact k H locs ls hP hS (lv_sub hl ks (by
    subst h
    simp only [lv_pick, cv_lm, List.map_filterMap, List.getElem?_map]))
/-- long compare -/
theorem cv_lcmp (C : cv_Cx X Y own cc nL d) {pc' : Nat} (hp : pc + 1 = pc') {x y : Int64} (hd : decode cc pc = .ok (.lcmp, 1)) (k : cv_At X Y nL σ pc' lv (.int (lg_cmp x y) :: st)) : cv_At X Y nL σ pc lv (.long y :: .long x :: st) := by
  subst hp
  obtain ⟨p, l, e, R, s, m, args, below, meth, c, Q, D, A, cA⟩ := X
  obtain ⟨n, sh, cells, slots, a⟩ := Y
  intro H locs ls hP hS hl
  exact W.lcmp C.1 C.2.1 hd (k H locs ls hP hS hl)
variable {n : Nat} {sh : Nat → cv_Sh} {cells slots : Nat} {a : Nat → Nat} {C0 : String} {T : u_T} {N ci idx i k0 : Nat} {fl : List (Option Nat)}
theorem cv_get (C : cv_Cx X (n, sh, cells, slots, a) own cc nL d) {pc' : Nat} (hp : pc + 3 = pc') (hk : k0 < n) (hs : sh k0 = .inl (ci, fl)) (hc : cv_cl[ci]? = some (C0, T, N)) (hi : i < N) {o : Option Nat} (hf : fl[i]? = some o) (hin : ∀ w ∈ u_ws C0 T N, w ∈ cv_BIG) (hw : Cond.fieldLink own idx (T i).1 (T i).2.1 (T i).2.2.1 ∈ cv_BIG) (hd : decode cc pc = .ok (.getfield idx, 3)) {v : Value} (hv : (match o with | none => Value.int (σ k0 i) | some j => Value.ref j) = v) (k : cv_At X (n, sh, cells, slots, a) nL σ pc' lv (v :: st)) : cv_At X (n, sh, cells, slots, a) nL σ pc lv (.ref k0 :: st) := by
  subst hp
  obtain ⟨p, l, e, R, s, m, args, below, meth, c, Q, D, A, cA⟩ := X
  intro H locs ls hP hS hl
  have he := cv_wl_at (sh := sh) (cA := cA) (a := a) (σ := σ) hk
  rw [hs] at he
  refine va_get (D := D) (ci := ci) (C := C0) (T := T) (N := N) (v := cv_v a v) C.1 C.2.1 C.2.2.2.2.1 hin C.2.2.2.1 C.2.2.2.2.2.1 hP k0 he hc i hi (C.2.2.2.2.1 _ hw) (fun _ h => h) ?_ hd (k H locs ls hP hS hl)
  rw [cv_fs_at hf, ← hv]
  cases o <;> rfl
theorem cv_put (C : cv_Cx X (n, sh, cells, slots, a) own cc nL d) {pc' : Nat} (hp : pc + 3 = pc') (hk : k0 < n) (hs : sh k0 = .inl (ci, fl)) (hc : cv_cl[ci]? = some (C0, T, N)) (hi : i < N) (hf : fl[i]? = some none) (hin : ∀ w ∈ u_ws C0 T N, w ∈ cv_BIG) (ty0 : Nat → FieldType) (hty : ∀ k, k < N → parseFieldDescriptor (T k).2.2.1 = some (ty0 k)) (hnm : ∀ a, a < N → ∀ b, b < N → a ≠ b → (T a).2.1 ≠ (T b).2.1) (hw : Cond.fieldLink own idx (T i).1 (T i).2.1 (T i).2.2.1 ∈ cv_BIG) (hfin : (T i).2.2.2 = false) {v : Int32} (hn : narrow (ty0 i) (.int v) = .int v) (hfit : fits (ty0 i) (.int v) = true) (hd : decode cc pc = .ok (.putfield idx, 3)) (k : cv_At X (n, sh, cells, slots, a) nL (cv_u σ k0 i v) pc' lv st) : cv_At X (n, sh, cells, slots, a) nL σ pc lv (.int v :: .ref k0 :: st) := by
  subst hp
  obtain ⟨p, l, e, R, s, m, args, below, meth, c, Q, D, A, cA⟩ := X
  intro H locs ls hP hS hl
  have he := cv_wl_at (sh := sh) (cA := cA) (a := a) (σ := σ) hk
  rw [hs] at he
  refine va_put (D := D) (ci := ci) (C := C0) (T := T) (N := N) (v := .int v) (ty := ty0 i) C.1 C.2.1 C.2.2.2.2.1 hin ty0 hty hnm C.2.2.2.1 C.2.2.2.2.2.1 hP (cv_D_any σ C.2.2.2.2.2.2.1) hS k0 he hc i hi (C.2.2.2.2.1 _ hw) (fun _ h => h) hfin (hty i hi) hn hfit (by rw [List.length_mapIdx]; exact (List.getElem?_eq_some_iff.mp hf).1) hd (fun H1 locs1 hP1 hD1 hS1 => ?_)
  refine k H1 locs1 ls ?_ hS1 hl
  rw [cv_fs_set hf] at hP1
  rw [cv_wl_set (f := upd (σ k0) i v) hk (by rw [hs]; rfl)] at hP1
  exact hP1
theorem cv_iald (C : cv_Cx X (n, sh, cells, slots, a) own cc nL d) {pc' : Nat} (hp : pc + 1 = pc') (hk : k0 < n) {n0 : Nat} (hs : sh k0 = .inr (.inl n0)) {j : Nat} {x v : Int32} (hx : x = nI j) (hj : j < n0) (hn0 : n0 < 2 ^ 31) (hd : decode cc pc = .ok (.iaload, 1)) (hv : σ k0 j = v) (k : cv_At X (n, sh, cells, slots, a) nL σ pc' lv (.int v :: st)) : cv_At X (n, sh, cells, slots, a) nL σ pc lv (.int x :: .ref k0 :: st) := by
  subst hp
  obtain ⟨p, l, e, R, s, m, args, below, meth, c, Q, D, A, cA⟩ := X
  intro H locs ls hP hS hl
  subst hx; subst hv
  have he := cv_wl_at (sh := sh) (cA := cA) (a := a) (σ := σ) hk
  rw [hs] at he
  refine va_iald C.1 C.2.1 C.2.2.2.2.2.1 hP k0 0 he rfl (vp_in_nI hj hn0) hd ?_
  rw [nI_clamp (Nat.lt_trans hj hn0)]
  exact k H locs ls hP hS hl
theorem cv_iast (C : cv_Cx X (n, sh, cells, slots, a) own cc nL d) {pc' : Nat} (hp : pc + 1 = pc') (hk : k0 < n) {n0 : Nat} (hs : sh k0 = .inr (.inl n0)) {j : Nat} {x v : Int32} (hx : x = nI j) (hj : j < n0) (hn0 : n0 < 2 ^ 31) (hd : decode cc pc = .ok (.iastore, 1)) (k : cv_At X (n, sh, cells, slots, a) nL (cv_u σ k0 j v) pc' lv st) : cv_At X (n, sh, cells, slots, a) nL σ pc lv (.int v :: .int x :: .ref k0 :: st) := by
  subst hp
  obtain ⟨p, l, e, R, s, m, args, below, meth, c, Q, D, A, cA⟩ := X
  intro H locs ls hP hS hl
  subst hx
  have he := cv_wl_at (sh := sh) (cA := cA) (a := a) (σ := σ) hk
  rw [hs] at he
  refine va_iast C.1 C.2.1 C.2.2.2.2.2.1 hP (cv_D_any σ C.2.2.2.2.2.2.1) hS k0 0 he rfl (vp_in_nI hj hn0) hd (fun H1 locs1 hP1 hD1 hS1 => ?_)
  refine k H1 locs1 ls ?_ hS1 hl
  rw [nI_clamp (Nat.lt_trans hj hn0)] at hP1
  rw [cv_wl_set (f := upd (σ k0) j v) hk (by rw [hs]; rfl)] at hP1
  exact hP1
theorem cv_aald (C : cv_Cx X (n, sh, cells, slots, a) own cc nL d) {pc' : Nat} (hp : pc + 1 = pc') (hk : k0 < n) {t : Nat} {l0 : List Nat} (hs : sh k0 = .inr (.inr (t, l0))) {E : String} (ht : (cv_tys (fun q => q))[t]? = some (t, .object E)) {j r : Nat} {x : Int32} (hx : x = nI j) (hj : l0[j]? = some r) (hn0 : l0.length < 2 ^ 31) (hd : decode cc pc = .ok (.aaload, 1)) (k : cv_At X (n, sh, cells, slots, a) nL σ pc' lv (.ref r :: st)) : cv_At X (n, sh, cells, slots, a) nL σ pc lv (.int x :: .ref k0 :: st) := by
  subst hp
  obtain ⟨p, l, e, R, s, m, args, below, meth, c, Q, D, A, cA⟩ := X
  intro H locs ls hP hS hl
  subst hx
  have hj' : j < l0.length := (List.getElem?_eq_some_iff.mp hj).1
  have he := cv_wl_at (sh := sh) (cA := cA) (a := a) (σ := σ) hk
  rw [hs] at he
  have ht' : (cv_tys cA)[t]? = some (cA t, .object E) := by
    match t, ht with
    | 0, h => simp [cv_tys] at h
    | 1, h => simp [cv_tys] at h ⊢; exact h
    | 2, h => simp [cv_tys] at h ⊢; exact h
    | t + 3, h => simp [cv_tys] at h
  refine va_aldq C.1 C.2.1 C.2.2.2.2.2.1 hP k0 t he ht' (vp_in_nI hj' hn0) hd ?_
  rw [nI_clamp (Nat.lt_trans hj' hn0), hj]
  exact k H locs ls hP hS hl
/-- returns -/
theorem cv_iret {ty : FieldType} {mc ms : Nat} {Qa : Option Value → cv_St → Prop} (C : cv_Cx X (n, sh, cells, slots, a) own cc nL d) (Rt : cv_Rt X (n, sh, cells, slots, a) (some ty) mc ms Qa) {v : Int32} (hn : narrow ty (.int v) = .int v) (hd : decode cc pc = .ok (.ireturn, 1)) (hq : Qa (some (.int v)) σ) : cv_At X (n, sh, cells, slots, a) nL σ pc lv [.int v] := by
  obtain ⟨p, l, e, R, s, m, args, below, meth, c, Q, D, A, cA⟩ := X
  obtain ⟨hr, hlk, h1, h2, rfl⟩ := Rt
  intro H locs ls hP hS hl
  refine W.widen (k := mc) (n := ms) h1 h2 ?_
  exact W.zret C.1 C.2.1 hr hn (fun t ht hW => ⟨⟨some (.int v), σ, rfl, hq, by rw [ht]; exact hP⟩, hS.F ht⟩) hS.2.2 hd (hlocks := hlk)
theorem cv_lret {mc ms : Nat} {Qa : Option Value → cv_St → Prop} (C : cv_Cx X (n, sh, cells, slots, a) own cc nL d) (Rt : cv_Rt X (n, sh, cells, slots, a) (some .long) mc ms Qa) {v : Int64} (hd : decode cc pc = .ok (.lreturn, 1)) (hq : Qa (some (.long v)) σ) : cv_At X (n, sh, cells, slots, a) nL σ pc lv [.long v] := by
  obtain ⟨p, l, e, R, s, m, args, below, meth, c, Q, D, A, cA⟩ := X
  obtain ⟨hr, hlk, h1, h2, rfl⟩ := Rt
  intro H locs ls hP hS hl
  refine W.widen (k := mc) (n := ms) h1 h2 ?_
  exact W.lret C.1 C.2.1 hr (fun t ht hW => ⟨⟨some (.long v), σ, rfl, hq, by rw [ht]; exact hP⟩, hS.F ht⟩) hS.2.2 hd (hlocks := hlk)
theorem cv_vret {mc ms : Nat} {Qa : Option Value → cv_St → Prop} (C : cv_Cx X (n, sh, cells, slots, a) own cc nL d) (Rt : cv_Rt X (n, sh, cells, slots, a) none mc ms Qa) (hd : decode cc pc = .ok (.return_, 1)) (hq : Qa none σ) : cv_At X (n, sh, cells, slots, a) nL σ pc lv [] := by
  obtain ⟨p, l, e, R, s, m, args, below, meth, c, Q, D, A, cA⟩ := X
  obtain ⟨hr, hlk, h1, h2, rfl⟩ := Rt
  intro H locs ls hP hS hl
  refine W.widen (k := mc) (n := ms) h1 h2 ?_
  exact W.vret C.1 C.2.1 hr (fun t ht hW => ⟨⟨none, σ, rfl, hq, by rw [ht]; exact hP⟩, hS.F ht⟩) hS.2.2 hd (hlocks := hlk)
end CVR
end
section
theorem cv_U_blind {D : va_G} {cA : Nat → ClassId} {a : Nat → Nat} {n : Nat} {sh : Nat → cv_Sh} {σ : cv_St} {sz : Nat} {av : List Value} : FrameBlind (va_Pc av (cv_U D cA a n sh σ sz)) := by
  intro b U g mk h
  obtain ⟨q0, q1, qP, qK, qD, qN⟩ := h
  exact ⟨q0, q1, qP, va_K.moved (u := U) (U := U.calling g mk b) (Vm.Alike.refl U.vm) qK, qD, fun w hw => va_Nw.same (u := U) (U := U.calling g mk b) (cv_NW_tab w hw) rfl (qN w hw)⟩
theorem cv_good {y : MethodName} {bytes : ByteArray} {maxL : Nat} {ret : Option FieldType} (h : Cond.code y bytes maxL ret ∈ cv_BIG) : GoodIn cv_BIG (Cond.code y bytes maxL ret :: cv_BIG) := by
  intro w hw
  rcases List.mem_cons.mp hw with rfl | hw
  · exact ⟨h, cv_BIG_good _ h⟩
  · exact ⟨hw, cv_BIG_good _ hw⟩
section CVC
variable {X : cv_X} {own : String} {cc : ByteArray} {nL d : Nat} {σ : cv_St} {pc : Nat} {lv : List (Nat × Value)} {n : Nat} {sh : Nat → cv_Sh} {cells slots : Nat} {a : Nat → Nat}
/-- behind a call over the same world -/
theorem cv_back {p : Program} {l : Launch} {e : Env} {R : Room} {s : State} {m : MethodId} {args : Array Value} {below : List Frame} {meth : Method} {c : Code} {Q : State → Prop} {D : va_G} {A : Nat → Prop} {cA : Nat → ClassId} {H : Heap} {locs : List Loc} {ls : Array Slot} {st0 rest : List Value} {mc ms : Nat} {b : Array Value} {Qa : Option Value → cv_St → Prop}
    (hr : va_Run p l e R s m args below meth c H locs cells slots mc ms (F0 m pc ls st0) (rest.map (cv_v a)) (cv_Qc D cA a n sh Qa (va_A (cv_wl n sh cA a σ) H.size) b) (va_A (cv_wl n sh cA a σ) H.size)) (hD : va_D A (cv_wl n sh cA a (fun _ _ => 0))) (hA : ∀ q, s.heap.size ≤ q → A q) (hS : va_S A s.heap H locs)
    (kk : ∀ (v : Option Value) (u : cv_St), Qa v u → ∀ (H1 : Heap) (locs1 : List Loc), va_P D cv_cl (cv_wl n sh cA a u) H1 → va_S A s.heap H1 locs1 → W p l e R s m args below meth c H1 locs1 (cells + mc) (slots + ms) Q (F0 m (pc + 3) ls ((v.toList ++ rest).map (cv_v a)))) : W p l e R s m args below meth c H locs cells slots Q (F0 m pc ls st0) := by
  have hF : ∀ q, va_A (cv_wl n sh cA a σ) H.size q → A q := by
    intro q h
    rcases h with ⟨k, e, h⟩ | h
    · have h2 := (cv_D_any σ hD).2 k _ h
      exact h2
    · exact hA q (Nat.le_trans hS.1 h)
  intro T hT Xs
  obtain ⟨v, st₀, t, T', L, h0, X', hL, e1, e2, ⟨⟨v', u, hv, hp, hb⟩, hz, hk⟩, st⟩ := hr T hT Xs
  have hv' : v = v'.map (cv_v a) := by injection hv
  subst hv'
  rw [h0] at hz hk
  obtain ⟨t2, a1, b1⟩ := kk v' u hp T'.heap (locs ++ L) (by rw [e1]; exact hb)
    ⟨Nat.le_trans hS.1 (by rw [e1]; exact hz), fun q h1 h2 => by rw [e1, hk q (Nat.lt_of_lt_of_le h1 hS.1) (fun z => h2 (hF q z))]; exact hS.2.1 q h1 h2, fun q hq => by
      rcases List.mem_append.mp hq with h | h
      · exact hS.2.2 q h
      · exact hF _ (hL q h)⟩ T' rfl X'
  refine ⟨t2, st t2 ?_, b1⟩
  have e3 : (v'.map (cv_v a)).toList ++ rest.map (cv_v a) = (v'.toList ++ rest).map (cv_v a) := by cases v' <;> rfl
  rw [e3]
  exact a1
theorem cv_sum {rest : List Value} (h : (rest.map fun v => v.category).sum ≤ 8) : ((rest.map (cv_v a)).map fun v => v.category).sum ≤ 8 := by
  have e : (rest.map (cv_v a)).map (fun v => v.category) = rest.map fun v => v.category := by
    rw [List.map_map]
    apply List.map_congr_left
    intro v _
    exact cv_v_cat a v
  rw [e]; exact h
variable {y : MethodName} {bytes : ByteArray} {maxL idx d' np : Nat} {ret : Option FieldType} {As rest : List Value} {Qa : Option Value → cv_St → Prop}
/-- invokevirtual on an object of the world -/
theorem cv_callV {k0 ci : Nat} {fl : List (Option Nat)} {C0 : String} {T : u_T} {N : Nat} (C : cv_Cx X (n, sh, cells, slots, a) own cc nL d) {pc' : Nat} (hp : pc + 3 = pc') (hM : cv_Ct y bytes maxL ret d' 0 0 n sh (.ref k0 :: As) σ Qa) (hk : k0 < n) (hs : sh k0 = .inl (ci, fl)) (hc : cv_cl[ci]? = some (C0, T, N)) (hy : y.cls = C0) (hyd : y.cls ≠ "java/lang/invoke/MethodHandle" ∧ y.cls ≠ "java/lang/invoke/VarHandle" ∧ (parseMethodDescriptor y.desc).map (fun d => d.parameters.length) = some np) (hn : As.length = np)
    (hw1 : Cond.methodLink own idx y ∈ cv_BIG) (hw2 : Cond.instanceMethod y ∈ cv_BIG) (hw3 : Cond.selects C0 y y ∈ cv_BIG) (hw4 : Cond.initialized C0 ∈ cv_BIG) (hw5 : Cond.code y bytes maxL ret ∈ cv_BIG) (hdp : d' + 1 ≤ d) (hmx : maxL ≤ 15) (hd : decode cc pc = .ok (.invokevirtual idx, 3)) (hrm : (rest.map fun v => v.category).sum ≤ 8)
    {st : List Value} (hst : st = As.reverse ++ .ref k0 :: rest) (k : ∀ (v : Option Value) (u : cv_St), Qa v u → cv_At X (n, sh, cells, slots, a) nL u pc' lv (v.toList ++ rest)) : cv_At X (n, sh, cells, slots, a) nL σ pc lv st := by
  subst hp
  obtain ⟨p, l, e, R, s, m, args, below, meth, c, Q, D, A, cA⟩ := X
  obtain ⟨hx, hb, hml, hown, hts, hK, hD, hA, hN, hf, hlo, hcl, hsl⟩ := C
  intro H locs ls hP hS hl
  have he := cv_wl_at (sh := sh) (cA := cA) (a := a) (σ := σ) hk
  rw [hs] at he
  subst hst
  have hm := hM l D cA a H.size
  refine cv_back (σ := σ) (rest := rest) (mc := 0) (ms := 0) (va_runV (As := As.map (cv_v a)) (rest := rest.map (cv_v a)) (C := C0) (Ts := cv_BIG) (bytes := bytes) (maxL := maxL) (ret := ret) (n := np) ⟨hx, hb, hml, hown, hts⟩ hm ⟨callB_of np hts (cv_good hw5) rfl rfl rfl (by rw [hy]; exact hts _ hw4) (hts _ hw1) hyd ⟨by show d' + 1 ≤ R.frames; omega, by show 8 + (maxL + 11) + 34 * d' ≤ R.locals; omega⟩, hts _ hw2, hts _ hw3⟩ ⟨cv_U_blind, va_recv hK hP hc he, fun U hU hW => ⟨rfl, by rw [hU], by rw [hU]; exact hP, va_K.moved hW.alike hK, cv_D_any σ (hD.weaken (fun _ _ _ _ => trivial)), cv_NW_warm hW hN⟩⟩ rfl (by rw [List.length_map]; exact hn) hl.1 (by simp [cv_v]) (lv_room (cv_sum hrm)) hd ⟨hcl, hsl⟩) hD hA hS (fun v u hq H1 locs1 hP1 hS1 => k v u hq H1 locs1 ls hP1 hS1 hl)
/-- invokestatic -/
theorem cv_callS (C : cv_Cx X (n, sh, cells, slots, a) own cc nL d) {pc' : Nat} (hp : pc + 3 = pc') (hM : cv_Ct y bytes maxL ret d' 0 0 n sh As σ Qa) (hyd : y.cls ≠ "java/lang/invoke/MethodHandle" ∧ y.cls ≠ "java/lang/invoke/VarHandle" ∧ (parseMethodDescriptor y.desc).map (fun d => d.parameters.length) = some np) (hn : As.length = np)
    (hw1 : Cond.methodLink own idx y ∈ cv_BIG) (hw2 : Cond.static y ∈ cv_BIG) (hw4 : Cond.initialized y.cls ∈ cv_BIG) (hw5 : Cond.code y bytes maxL ret ∈ cv_BIG) (hdp : d' + 1 ≤ d) (hmx : maxL ≤ 15) (hd : decode cc pc = .ok (.invokestatic idx, 3)) (hrm : (rest.map fun v => v.category).sum ≤ 8)
    {st : List Value} (hst : st = As.reverse ++ rest) (k : ∀ (v : Option Value) (u : cv_St), Qa v u → cv_At X (n, sh, cells, slots, a) nL u pc' lv (v.toList ++ rest)) : cv_At X (n, sh, cells, slots, a) nL σ pc lv st := by
  subst hp
  obtain ⟨p, l, e, R, s, m, args, below, meth, c, Q, D, A, cA⟩ := X
  obtain ⟨hx, hb, hml, hown, hts, hK, hD, hA, hN, hf, hlo, hcl, hsl⟩ := C
  intro H locs ls hP hS hl
  subst hst
  have hm := hM l D cA a H.size
  refine cv_back (σ := σ) (rest := rest) (mc := 0) (ms := 0) (va_runS (As := As.map (cv_v a)) (rest := rest.map (cv_v a)) (Ts := cv_BIG) (bytes := bytes) (maxL := maxL) (ret := ret) (n := np) ⟨hx, hb, hml, hown, hts⟩ hm ⟨callB_of np hts (cv_good hw5) rfl rfl rfl (hts _ hw4) (hts _ hw1) hyd ⟨by show d' + 1 ≤ R.frames; omega, by show 8 + (maxL + 11) + 34 * d' ≤ R.locals; omega⟩, hts _ hw2⟩ ⟨cv_U_blind, fun U hU hW => ⟨rfl, by rw [hU], by rw [hU]; exact hP, va_K.moved hW.alike hK, cv_D_any σ (hD.weaken (fun _ _ _ _ => trivial)), cv_NW_warm hW hN⟩⟩ rfl (by rw [List.length_map]; exact hn) hl.1 (by simp) (lv_room (cv_sum hrm)) hd ⟨hcl, hsl⟩) hD hA hS (fun v u hq H1 locs1 hP1 hS1 => k v u hq H1 locs1 ls hP1 hS1 hl)
/-- invokestatic of a nest mate's private method -/
theorem cv_callSN {host : String} (C : cv_Cx X (n, sh, cells, slots, a) own cc nL d) {pc' : Nat} (hp : pc + 3 = pc') (hM : cv_Ct y bytes maxL ret d' 0 0 n sh As σ Qa) (hyd : y.cls ≠ "java/lang/invoke/MethodHandle" ∧ y.cls ≠ "java/lang/invoke/VarHandle" ∧ (parseMethodDescriptor y.desc).map (fun d => d.parameters.length) = some np) (hn : As.length = np)
    (hw1 : Cond.methodLinkNest own idx y host ∈ cv_NW) (hw2 : Cond.static y ∈ cv_BIG) (hw4 : Cond.initialized y.cls ∈ cv_BIG) (hw5 : Cond.code y bytes maxL ret ∈ cv_BIG) (hdp : d' + 1 ≤ d) (hmx : maxL ≤ 15) (hd : decode cc pc = .ok (.invokestatic idx, 3)) (hrm : (rest.map fun v => v.category).sum ≤ 8)
    {st : List Value} (hst : st = As.reverse ++ rest) (k : ∀ (v : Option Value) (u : cv_St), Qa v u → cv_At X (n, sh, cells, slots, a) nL u pc' lv (v.toList ++ rest)) : cv_At X (n, sh, cells, slots, a) nL σ pc lv st := by
  subst hp
  obtain ⟨p, l, e, R, s, m, args, below, meth, c, Q, D, A, cA⟩ := X
  obtain ⟨hx, hb, hml, hown, hts, hK, hD, hA, hN, hf, hlo, hcl, hsl⟩ := C
  intro H locs ls hP hS hl
  subst hst
  have hm := hM l D cA a H.size
  refine cv_back (σ := σ) (rest := rest) (mc := 0) (ms := 0) (va_runSN (As := As.map (cv_v a)) (rest := rest.map (cv_v a)) (Ts := cv_BIG) (host := host) (bytes := bytes) (maxL := maxL) (ret := ret) (n := np) ⟨hx, hb, hml, hown, hts⟩ hm ⟨va_cnB np hts (cv_good hw5) rfl rfl rfl (hN _ hw1) (hts _ hw4) hyd ⟨by show d' + 1 ≤ R.frames; omega, by show 8 + (maxL + 11) + 34 * d' ≤ R.locals; omega⟩, hts _ hw2, trivial⟩ ⟨cv_U_blind, fun U hU hW => ⟨rfl, by rw [hU], by rw [hU]; exact hP, va_K.moved hW.alike hK, cv_D_any σ (hD.weaken (fun _ _ _ _ => trivial)), cv_NW_warm hW hN⟩⟩ rfl (by rw [List.length_map]; exact hn) hl.1 (by simp) (lv_room (cv_sum hrm)) hd ⟨hcl, hsl⟩) hD hA hS (fun v u hq H1 locs1 hP1 hS1 => k v u hq H1 locs1 ls hP1 hS1 hl)
theorem cv_mmax (C : cv_Cx X (n, sh, cells, slots, a) own cc nL d) {pc' : Nat} (hp : pc + 3 = pc') (hw1 : Cond.methodLink own idx yJ9_max_7cf53 ∈ cv_BIG) (hw2 : Cond.static yJ9_max_7cf53 ∈ cv_BIG) (hw4 : Cond.initialized RJ9 ∈ cv_BIG) (hw5 : Cond.code yJ9_max_7cf53 cJ9_max_7cf53 2 (some .int) ∈ cv_BIG) (hdp : 1 ≤ d) {x z : Int32} (hd : decode cc pc = .ok (.invokestatic idx, 3)) (hrm : (rest.map fun v => v.category).sum ≤ 8) (k : cv_At X (n, sh, cells, slots, a) nL σ pc' lv (.int (if x < z then z else x) :: rest)) : cv_At X (n, sh, cells, slots, a) nL σ pc lv (.int z :: .int x :: rest) := by
  subst hp
  obtain ⟨p, l, e, R, s, m, args, below, meth, c, Q, D, A, cA⟩ := X
  obtain ⟨hx, hb, hml, hown, hts, hK, hD, hA, hN, hf, hlo, hcl, hsl⟩ := C
  intro H locs ls hP hS hl
  have h8 := cv_sum (a := a) hrm
  exact va_mmax hx hb (by rw [hml]; exact hl.1.symm) hown (hts _ hw1) (hts _ hw2) (hts _ hw4) (hts _ hw5) (by omega) (by omega) hcl hsl hd (k H locs ls hP hS hl)
theorem cv_mmin (C : cv_Cx X (n, sh, cells, slots, a) own cc nL d) {pc' : Nat} (hp : pc + 3 = pc') (hw1 : Cond.methodLink own idx yJ9_min_7cf53 ∈ cv_BIG) (hw2 : Cond.static yJ9_min_7cf53 ∈ cv_BIG) (hw4 : Cond.initialized RJ9 ∈ cv_BIG) (hw5 : Cond.code yJ9_min_7cf53 cJ9_min_7cf53 2 (some .int) ∈ cv_BIG) (hdp : 1 ≤ d) {x z : Int32} (hd : decode cc pc = .ok (.invokestatic idx, 3)) (hrm : (rest.map fun v => v.category).sum ≤ 8) (k : cv_At X (n, sh, cells, slots, a) nL σ pc' lv (.int (if z < x then z else x) :: rest)) : cv_At X (n, sh, cells, slots, a) nL σ pc lv (.int z :: .int x :: rest) := by
  subst hp
  obtain ⟨p, l, e, R, s, m, args, below, meth, c, Q, D, A, cA⟩ := X
  obtain ⟨hx, hb, hml, hown, hts, hK, hD, hA, hN, hf, hlo, hcl, hsl⟩ := C
  intro H locs ls hP hS hl
  have h8 := cv_sum (a := a) hrm
  exact va_mmin hx hb (by rw [hml]; exact hl.1.symm) hown (hts _ hw1) (hts _ hw2) (hts _ hw4) (hts _ hw5) (by omega) (by omega) hcl hsl hd (k H locs ls hP hS hl)
end CVC
end
section
/-! ===== values by views: numbers nI, truth cv_b, perhaps a number cv_o ===== -/
def cv_b (b : Bool) : Int32 := if b = true then 1 else 0
def cv_o (o : Option Nat) : Int32 := match o with
  | none => -9
  | some n => nI n
theorem cv_b_t : cv_b true = 1 := rfl
theorem cv_b_f : cv_b false = 0 := rfl
theorem cv_bz0 {b : Bool} : cv_b b = 0 ↔ b = false := by cases b <;> decide
theorem cv_bz1 {b : Bool} : cv_b b = 1 ↔ b = true := by cases b <;> decide
theorem cv_b_nar (b : Bool) : narrow .boolean (.int (cv_b b)) = .int (cv_b b) := by cases b <;> decide
theorem nI_1' : nI 1 = 1 := by decide
theorem cv_m9 {n : Nat} (h : n < 2 ^ 31) : ¬ nI n = -9 := by
  intro e
  have h1 := congrArg Int32.toInt e
  rw [nI_toInt h] at h1
  have h2 : (-9 : Int32).toInt = -9 := by decide
  omega
theorem cv_o_none {o : Option Nat} (h : ∀ n, o = some n → n < 2 ^ 31) : cv_o o = -9 ↔ o = none := by
  cases o with
  | none => simp [cv_o]
  | some n => simp [cv_o, cv_m9 (h n rfl)]
theorem cv_sl : ∀ n, n < 32 → ((nI n &&& 31).toBitVec.smod 32).toNat = n := by decide +kernel
theorem cv_shrN {t i : Nat} (ht : t < 2 ^ 31) (hi : i < 32) : nI t >>> (nI i &&& 31) = nI (t / 2 ^ i) := pk_shrN ht _ i (cv_sl i hi)
theorem cv_shlN {t i : Nat} (hi : i < 32) (h : t * 2 ^ i < 2 ^ 32) : nI t <<< (nI i &&& 31) = nI (t * 2 ^ i) := pk_shlN _ i (cv_sl i hi) h
theorem cv_shl1 {i : Nat} (hi : i < 32) : nI 1 <<< (nI i &&& 31) = nI (2 ^ i) := by
  have h : 2 ^ i < 2 ^ 32 := Nat.pow_lt_pow_right (by decide) hi
  rw [cv_shlN hi (by omega), Nat.one_mul]
theorem cv_nIb (n : Nat) : (nI n).toBitVec = BitVec.ofNat 32 n := rfl
theorem cv_andN (a b : Nat) : nI a &&& nI b = nI (a &&& b) := by
  apply Int32.toBitVec_inj.mp
  rw [Int32.toBitVec_and, cv_nIb, cv_nIb, cv_nIb, BitVec.ofNat_and]
theorem cv_orN (a b : Nat) : nI a ||| nI b = nI (a ||| b) := by
  apply Int32.toBitVec_inj.mp
  rw [Int32.toBitVec_or, cv_nIb, cv_nIb, cv_nIb, BitVec.ofNat_or]
theorem cv_xorN (a b : Nat) : nI a ^^^ nI b = nI (a ^^^ b) := by
  apply Int32.toBitVec_inj.mp
  rw [Int32.toBitVec_xor, cv_nIb, cv_nIb, cv_nIb, BitVec.ofNat_xor]
theorem cv_tb (t i : Nat) : t / 2 ^ i &&& 1 = if t.testBit i = true then 1 else 0 := by
  rw [Nat.testBit_eq_decide_div_mod_eq, Nat.and_one_is_mod]
  rcases Nat.mod_two_eq_zero_or_one (t / 2 ^ i) with h | h <;> simp [h]
theorem cv_tb0 {t i : Nat} (h : t / 2 ^ i &&& 1 = 0) : t.testBit i = false := by
  rw [cv_tb] at h
  cases hb : t.testBit i with
  | false => rfl
  | true => rw [hb] at h; exact absurd h (by decide)
theorem cv_tb1 {t i : Nat} (h : t / 2 ^ i &&& 1 ≠ 0) : t.testBit i = true := by
  rw [cv_tb] at h
  cases hb : t.testBit i with
  | true => rfl
  | false => rw [hb] at h; exact absurd rfl h
theorem cv_tb_lt (t i : Nat) : t / 2 ^ i &&& 1 < 2 := by rw [cv_tb]; split <;> decide
/-- a day that goes down: behind day 0 comes -1 -/
def cv_dn : Nat → Int32
  | 0 => -1
  | j + 1 => nI j
theorem cv_dn_dec (j : Nat) : nI j + Int32.ofInt (-1) = cv_dn j := by
  cases j with
  | zero => decide
  | succ j => exact pk_m1 j
section CVV
variable {X : cv_X} {Y : cv_Y} {own : String} {cc : ByteArray} {nL d : Nat} {σ : cv_St} {pc : Nat} {lv lv' : List (Nat × Value)} {st : List Value}
theorem cv_iaddN (C : cv_Cx X Y own cc nL d) {pc' : Nat} (hp : pc + 1 = pc') {x y : Nat} (hd : decode cc pc = .ok (.iadd, 1)) (k : cv_At X Y nL σ pc' lv (.int (nI (x + y)) :: st)) : cv_At X Y nL σ pc lv (.int (nI y) :: .int (nI x) :: st) := cv_iadd C hp hd (by rw [nI_add]; exact k)
theorem cv_isubN (C : cv_Cx X Y own cc nL d) {pc' : Nat} (hp : pc + 1 = pc') {x y : Nat} (h : y ≤ x) (hd : decode cc pc = .ok (.isub, 1)) (k : cv_At X Y nL σ pc' lv (.int (nI (x - y)) :: st)) : cv_At X Y nL σ pc lv (.int (nI y) :: .int (nI x) :: st) := cv_isub C hp hd (by rw [pk_sub h]; exact k)
theorem cv_imulN (C : cv_Cx X Y own cc nL d) {pc' : Nat} (hp : pc + 1 = pc') {x y : Nat} (hd : decode cc pc = .ok (.imul, 1)) (k : cv_At X Y nL σ pc' lv (.int (nI (x * y)) :: st)) : cv_At X Y nL σ pc lv (.int (nI y) :: .int (nI x) :: st) := cv_imul C hp hd (by rw [pk_mul]; exact k)
theorem cv_idivN (C : cv_Cx X Y own cc nL d) {pc' : Nat} (hp : pc + 1 = pc') {x y : Nat} (hx : x < 2 ^ 31) (h0 : 0 < y) (hy : y < 2 ^ 31) (hd : decode cc pc = .ok (.idiv, 1)) (k : cv_At X Y nL σ pc' lv (.int (nI (x / y)) :: st)) : cv_At X Y nL σ pc lv (.int (nI y) :: .int (nI x) :: st) := cv_idiv C hp hd (nI_ne0 h0 hy) (by rw [pk_div hx h0 hy]; exact k)
theorem cv_iremN (C : cv_Cx X Y own cc nL d) {pc' : Nat} (hp : pc + 1 = pc') {x y : Nat} (hx : x < 2 ^ 31) (h0 : 0 < y) (hy : y < 2 ^ 31) (hd : decode cc pc = .ok (.irem, 1)) (k : cv_At X Y nL σ pc' lv (.int (nI (x % y)) :: st)) : cv_At X Y nL σ pc lv (.int (nI y) :: .int (nI x) :: st) := cv_irem C hp hd (nI_ne0 h0 hy) (by rw [pk_rem hx h0 hy]; exact k)
theorem cv_iincN (C : cv_Cx X Y own cc nL d) {pc' : Nat} (hp : pc + 3 = pc') {i j : Nat} {x : Nat} (hd : decode cc pc = .ok (.iinc i 1, 3)) (hj : lv[j]? = some (i, .int (nI x))) (hn : i < nL) (hl' : (i, Value.int (nI (x + 1))) :: lv.filter (fun q => !(q.1 == i) && !(q.1 + 1 == i && q.2.category == 2)) = lv') (k : cv_At X Y nL σ pc' lv' st) : cv_At X Y nL σ pc lv st := cv_iinc C hp hd hj (nI_succ x).symm hn hl' k
theorem cv_iandN (C : cv_Cx X Y own cc nL d) {pc' : Nat} (hp : pc + 1 = pc') {x y : Nat} (hd : decode cc pc = .ok (.iand, 1)) (k : cv_At X Y nL σ pc' lv (.int (nI (x &&& y)) :: st)) : cv_At X Y nL σ pc lv (.int (nI y) :: .int (nI x) :: st) := cv_iand C hp hd (by rw [cv_andN]; exact k)
theorem cv_iorN (C : cv_Cx X Y own cc nL d) {pc' : Nat} (hp : pc + 1 = pc') {x y : Nat} (hd : decode cc pc = .ok (.ior, 1)) (k : cv_At X Y nL σ pc' lv (.int (nI (x ||| y)) :: st)) : cv_At X Y nL σ pc lv (.int (nI y) :: .int (nI x) :: st) := cv_ior C hp hd (by rw [cv_orN]; exact k)
theorem cv_ishrN (C : cv_Cx X Y own cc nL d) {pc' : Nat} (hp : pc + 1 = pc') {x y : Nat} (hx : x < 2 ^ 31) (hy : y < 32) (hd : decode cc pc = .ok (.ishr, 1)) (k : cv_At X Y nL σ pc' lv (.int (nI (x / 2 ^ y)) :: st)) : cv_At X Y nL σ pc lv (.int (nI y) :: .int (nI x) :: st) := cv_ishr C hp hd (by rw [cv_shrN hx hy]; exact k)
theorem cv_ishl1 (C : cv_Cx X Y own cc nL d) {pc' : Nat} (hp : pc + 1 = pc') {y : Nat} (hy : y < 32) (hd : decode cc pc = .ok (.ishl, 1)) (k : cv_At X Y nL σ pc' lv (.int (nI (2 ^ y)) :: st)) : cv_At X Y nL σ pc lv (.int (nI y) :: .int (nI 1) :: st) := cv_ishl C hp hd (by rw [cv_shl1 hy]; exact k)
/-- another name for the top of the stack -/
theorem cv_top {v w : Int32} (h : v = w) (k : cv_At X Y nL σ pc lv (.int w :: st)) : cv_At X Y nL σ pc lv (.int v :: st) := h ▸ k
theorem cv_top2 {v w u : Int32} (h : v = w) (k : cv_At X Y nL σ pc lv (.int u :: .int w :: st)) : cv_At X Y nL σ pc lv (.int u :: .int v :: st) := h ▸ k
theorem cv_icmp_eqN (C : cv_Cx X Y own cc nL d) {pc' : Nat} (hp : pc + 3 = pc') {x y : Nat} (hx : x < 2 ^ 31) (hy : y < 2 ^ 31) {off : Int} {tgt : Nat} (hd : decode cc pc = .ok (.if_icmp .eq off, 3)) (ht : (pc : Int) + off = (tgt : Int)) (kt : x = y → cv_At X Y nL σ tgt lv st) (kf : x ≠ y → cv_At X Y nL σ pc' lv st) : cv_At X Y nL σ pc lv (.int (nI y) :: .int (nI x) :: st) := cv_icmp_eq C hp hd ht (fun h => kt ((nI_eq hx hy).mp h)) (fun h => kf (fun e => h (by rw [e])))
theorem cv_icmp_neN (C : cv_Cx X Y own cc nL d) {pc' : Nat} (hp : pc + 3 = pc') {x y : Nat} (hx : x < 2 ^ 31) (hy : y < 2 ^ 31) {off : Int} {tgt : Nat} (hd : decode cc pc = .ok (.if_icmp .ne off, 3)) (ht : (pc : Int) + off = (tgt : Int)) (kt : x ≠ y → cv_At X Y nL σ tgt lv st) (kf : x = y → cv_At X Y nL σ pc' lv st) : cv_At X Y nL σ pc lv (.int (nI y) :: .int (nI x) :: st) := cv_icmp_ne C hp hd ht (fun h => kt (fun e => h (by rw [e]))) (fun h => kf ((nI_eq hx hy).mp h))
theorem cv_icmp_ltN (C : cv_Cx X Y own cc nL d) {pc' : Nat} (hp : pc + 3 = pc') {x y : Nat} (hx : x < 2 ^ 31) (hy : y < 2 ^ 31) {off : Int} {tgt : Nat} (hd : decode cc pc = .ok (.if_icmp .lt off, 3)) (ht : (pc : Int) + off = (tgt : Int)) (kt : x < y → cv_At X Y nL σ tgt lv st) (kf : y ≤ x → cv_At X Y nL σ pc' lv st) : cv_At X Y nL σ pc lv (.int (nI y) :: .int (nI x) :: st) := cv_icmp_lt C hp hd ht (fun h => kt ((nI_ltI hx hy).mp h)) (fun h => kf (Nat.not_lt.mp (fun e => h ((nI_ltI hx hy).mpr e))))
theorem cv_icmp_geN (C : cv_Cx X Y own cc nL d) {pc' : Nat} (hp : pc + 3 = pc') {x y : Nat} (hx : x < 2 ^ 31) (hy : y < 2 ^ 31) {off : Int} {tgt : Nat} (hd : decode cc pc = .ok (.if_icmp .ge off, 3)) (ht : (pc : Int) + off = (tgt : Int)) (kt : y ≤ x → cv_At X Y nL σ tgt lv st) (kf : x < y → cv_At X Y nL σ pc' lv st) : cv_At X Y nL σ pc lv (.int (nI y) :: .int (nI x) :: st) := cv_icmp_ge C hp hd ht (fun h => kt ((nI_leI hy hx).mp h)) (fun h => kf (Nat.not_le.mp (fun e => h ((nI_leI hy hx).mpr e))))
theorem cv_icmp_gtN (C : cv_Cx X Y own cc nL d) {pc' : Nat} (hp : pc + 3 = pc') {x y : Nat} (hx : x < 2 ^ 31) (hy : y < 2 ^ 31) {off : Int} {tgt : Nat} (hd : decode cc pc = .ok (.if_icmp .gt off, 3)) (ht : (pc : Int) + off = (tgt : Int)) (kt : y < x → cv_At X Y nL σ tgt lv st) (kf : x ≤ y → cv_At X Y nL σ pc' lv st) : cv_At X Y nL σ pc lv (.int (nI y) :: .int (nI x) :: st) := cv_icmp_gt C hp hd ht (fun h => kt ((nI_ltI hy hx).mp h)) (fun h => kf (Nat.not_lt.mp (fun e => h ((nI_ltI hy hx).mpr e))))
theorem cv_icmp_leN (C : cv_Cx X Y own cc nL d) {pc' : Nat} (hp : pc + 3 = pc') {x y : Nat} (hx : x < 2 ^ 31) (hy : y < 2 ^ 31) {off : Int} {tgt : Nat} (hd : decode cc pc = .ok (.if_icmp .le off, 3)) (ht : (pc : Int) + off = (tgt : Int)) (kt : x ≤ y → cv_At X Y nL σ tgt lv st) (kf : y < x → cv_At X Y nL σ pc' lv st) : cv_At X Y nL σ pc lv (.int (nI y) :: .int (nI x) :: st) := cv_icmp_le C hp hd ht (fun h => kt ((nI_leI hx hy).mp h)) (fun h => kf (Nat.not_le.mp (fun e => h ((nI_leI hx hy).mpr e))))
theorem cv_if_eqN (C : cv_Cx X Y own cc nL d) {pc' : Nat} (hp : pc + 3 = pc') {x : Nat} (hx : x < 2 ^ 31) {off : Int} {tgt : Nat} (hd : decode cc pc = .ok (.ifCond .eq off, 3)) (ht : (pc : Int) + off = (tgt : Int)) (kt : x = 0 → cv_At X Y nL σ tgt lv st) (kf : 0 < x → cv_At X Y nL σ pc' lv st) : cv_At X Y nL σ pc lv (.int (nI x) :: st) := cv_if_eq C hp hd ht (fun h => kt (by rcases Nat.eq_zero_or_pos x with e | e; exact e; exact absurd h (nI_ne0 e hx))) (fun h => kf (by rcases Nat.eq_zero_or_pos x with e | e; exact absurd (by rw [e]; exact nI_0) h; exact e))
theorem cv_if_neN (C : cv_Cx X Y own cc nL d) {pc' : Nat} (hp : pc + 3 = pc') {x : Nat} (hx : x < 2 ^ 31) {off : Int} {tgt : Nat} (hd : decode cc pc = .ok (.ifCond .ne off, 3)) (ht : (pc : Int) + off = (tgt : Int)) (kt : 0 < x → cv_At X Y nL σ tgt lv st) (kf : x = 0 → cv_At X Y nL σ pc' lv st) : cv_At X Y nL σ pc lv (.int (nI x) :: st) := cv_if_ne C hp hd ht (fun h => kt (by rcases Nat.eq_zero_or_pos x with e | e; exact absurd (by rw [e]; exact nI_0) h; exact e)) (fun h => kf (by rcases Nat.eq_zero_or_pos x with e | e; exact e; exact absurd h (nI_ne0 e hx)))
theorem cv_if_eqB (C : cv_Cx X Y own cc nL d) {pc' : Nat} (hp : pc + 3 = pc') {b : Bool} {off : Int} {tgt : Nat} (hd : decode cc pc = .ok (.ifCond .eq off, 3)) (ht : (pc : Int) + off = (tgt : Int)) (kt : b = false → cv_At X Y nL σ tgt lv st) (kf : b = true → cv_At X Y nL σ pc' lv st) : cv_At X Y nL σ pc lv (.int (cv_b b) :: st) := cv_if_eq C hp hd ht (fun h => kt (cv_bz0.mp h)) (fun h => kf (by cases b; exact absurd rfl h; rfl))
theorem cv_if_neB (C : cv_Cx X Y own cc nL d) {pc' : Nat} (hp : pc + 3 = pc') {b : Bool} {off : Int} {tgt : Nat} (hd : decode cc pc = .ok (.ifCond .ne off, 3)) (ht : (pc : Int) + off = (tgt : Int)) (kt : b = true → cv_At X Y nL σ tgt lv st) (kf : b = false → cv_At X Y nL σ pc' lv st) : cv_At X Y nL σ pc lv (.int (cv_b b) :: st) := cv_if_ne C hp hd ht (fun h => kt (by cases b; exact absurd rfl h; rfl)) (fun h => kf (cv_bz0.mp h))
theorem cv_icmp_eqO (C : cv_Cx X Y own cc nL d) {pc' : Nat} (hp : pc + 3 = pc') {o : Option Nat} (ho : ∀ z, o = some z → z < 2 ^ 31) {off : Int} {tgt : Nat} (hd : decode cc pc = .ok (.if_icmp .eq off, 3)) (ht : (pc : Int) + off = (tgt : Int)) (kt : o = none → cv_At X Y nL σ tgt lv st) (kf : ∀ z, o = some z → cv_At X Y nL σ pc' lv st) : cv_At X Y nL σ pc lv (.int (-9) :: .int (cv_o o) :: st) := cv_icmp_eq C hp hd ht (fun h => kt ((cv_o_none ho).mp h)) (fun h => by
  cases hz : o with
  | none => exact absurd (by rw [hz]; rfl) h
  | some z => exact kf z hz)
theorem cv_icmp_neO (C : cv_Cx X Y own cc nL d) {pc' : Nat} (hp : pc + 3 = pc') {o : Option Nat} (ho : ∀ z, o = some z → z < 2 ^ 31) {off : Int} {tgt : Nat} (hd : decode cc pc = .ok (.if_icmp .ne off, 3)) (ht : (pc : Int) + off = (tgt : Int)) (kt : ∀ z, o = some z → cv_At X Y nL σ tgt lv st) (kf : o = none → cv_At X Y nL σ pc' lv st) : cv_At X Y nL σ pc lv (.int (-9) :: .int (cv_o o) :: st) := cv_icmp_ne C hp hd ht (fun h => by
  cases hz : o with
  | none => exact absurd (by rw [hz]; rfl) h
  | some z => exact kt z hz) (fun h => kf ((cv_o_none ho).mp h))
end CVV
/-- a pure answer: the ints stay -/
abbrev cv_pu (v : Value) (σ : cv_St) : Option Value → cv_St → Prop := fun w u => w = some v ∧ u = σ
end
section
/-! ===== the two worlds' shapes ===== -/
def cv_shC : Nat → cv_Sh := fun k => match k with
  | 0 => .inl (6, [some 1, some 10, some 22, some 23, none, none])
  | 1 => .inr (.inr (1, [2, 3, 4, 5]))
  | 2 => .inl (3, [some 6, none, none])
  | 3 => .inl (3, [some 7, none, none])
  | 4 => .inl (3, [some 8, none, none])
  | 5 => .inl (3, [some 9, none, none])
  | 6 => .inr (.inl 60)
  | 7 => .inr (.inl 60)
  | 8 => .inr (.inl 60)
  | 9 => .inr (.inl 60)
  | 10 => .inl (0, [some 11, some 18, some 19, some 20, some 21, none, none])
  | 11 => .inr (.inr (2, [12, 13, 14, 15, 16, 17]))
  | 18 => .inr (.inl 8)
  | 19 => .inr (.inl 3)
  | 20 => .inr (.inl 24)
  | 21 => .inr (.inl 48)
  | 22 => .inl (5, [none, none, none, none])
  | 23 => .inl (2, [some 24, some 25, none])
  | 24 => .inr (.inl 8)
  | 25 => .inr (.inl 8)
  | _ => .inl (1, [none, none, none, none, none])
def cv_shT (tx : Nat) : Nat → cv_Sh := fun k => if k = 26 then .inl (4, [some tx, none, none]) else cv_shC k
def cv_shM : Nat → cv_Sh := fun k => match k with
  | 0 => .inl (7, [none, none, some 1, some 2, some 3, none, some 4, some 5, some 6, some 7, some 8, some 9, some 10, none, none, none, some 11, some 12, some 13, some 14, none, none, none, none, none, none, none, some 15, some 16])
  | 1 => .inr (.inl 4)
  | 2 => .inr (.inl 4)
  | 3 => .inr (.inl 240)
  | 4 => .inr (.inl 8)
  | 5 => .inr (.inl 3)
  | 11 => .inr (.inl 8)
  | 12 => .inr (.inl 3)
  | 13 => .inr (.inl 30)
  | 14 => .inr (.inl 48)
  | 15 => .inr (.inl 8)
  | 16 => .inr (.inl 8)
  | _ => .inr (.inl 6)
theorem cv_lt_p {p : Nat} (h : p < 6) : 12 + p < 26 := by omega
theorem cv_ltT_p {p : Nat} (h : p < 6) : 12 + p < 27 := by omega
theorem cv_lt_s {k : Nat} (h : k < 4) : 2 + k < 26 := by omega
theorem cv_lt_c {k : Nat} (h : k < 4) : 6 + k < 26 := by omega
theorem cv_shC_p {p : Nat} (h : p < 6) : cv_shC (12 + p) = .inl (1, [none, none, none, none, none]) := by
  match p, h with
  | 0, _ => rfl
  | 1, _ => rfl
  | 2, _ => rfl
  | 3, _ => rfl
  | 4, _ => rfl
  | 5, _ => rfl
theorem cv_shC_s {k : Nat} (h : k < 4) : cv_shC (2 + k) = .inl (3, [some (6 + k), none, none]) := by
  match k, h with
  | 0, _ => rfl
  | 1, _ => rfl
  | 2, _ => rfl
  | 3, _ => rfl
theorem cv_shC_c {k : Nat} (h : k < 4) : cv_shC (6 + k) = .inr (.inl 60) := by
  match k, h with
  | 0, _ => rfl
  | 1, _ => rfl
  | 2, _ => rfl
  | 3, _ => rfl
theorem cv_shT_p {tx p : Nat} (h : p < 6) : cv_shT tx (12 + p) = .inl (1, [none, none, none, none, none]) := by
  rw [cv_shT, if_neg (by omega)]; exact cv_shC_p h
/-- the text's row is one of the four sheets' -/
theorem cv_shT_tx {tx : Nat} (h : 6 ≤ tx ∧ tx < 10) : cv_shT tx tx = .inr (.inl 60) := by
  rw [cv_shT, if_neg (by omega)]
  obtain ⟨j, rfl⟩ : ∃ j, tx = 6 + j := ⟨tx - 6, by omega⟩
  exact cv_shC_c (by omega)
theorem cv_ltT_tx {tx : Nat} (h : 6 ≤ tx ∧ tx < 10) : tx < 27 := by omega
theorem cv_ix_p {p : Nat} (h : p < 6) : ([12, 13, 14, 15, 16, 17] : List Nat)[p]? = some (12 + p) := by
  match p, h with
  | 0, _ => rfl
  | 1, _ => rfl
  | 2, _ => rfl
  | 3, _ => rfl
  | 4, _ => rfl
  | 5, _ => rfl
theorem cv_ix_s {k : Nat} (h : k < 4) : ([2, 3, 4, 5] : List Nat)[k]? = some (2 + k) := by
  match k, h with
  | 0, _ => rfl
  | 1, _ => rfl
  | 2, _ => rfl
  | 3, _ => rfl
/-- x is a number below n -/
def cv_in (x : Int32) (n : Nat) : Bool := decide (¬ x < 0 ∧ x < nI n)
theorem cv_in_of {x : Int32} {n : Nat} (h : cv_in x n = true) (hn : n < 2 ^ 31) : ∃ j : Nat, j < n ∧ x = nI j := by
  obtain ⟨h1, h2⟩ := of_decide_eq_true h
  obtain ⟨j, hj, rfl⟩ := nI_of h1
  exact ⟨j, (nI_ltI hj hn).mp h2, rfl⟩
theorem cv_in_nI {j n : Nat} (hj : j < n) (hn : n < 2 ^ 31) : cv_in (nI j) n = true := by
  refine decide_eq_true ⟨nI_pos (by omega), nI_lt hj hn⟩
theorem cv_in_no {j n : Nat} (hj : n ≤ j) (hj2 : j < 2 ^ 31) : cv_in (nI j) n = false := by
  refine decide_eq_false (fun h => ?_)
  have := (nI_ltI hj2 (by omega)).mp h.2
  omega
theorem cv_in_le {x : Int32} {n : Nat} (hn : n + 1 < 2 ^ 31) : decide (nI 0 ≤ x ∧ x ≤ nI n) = cv_in x (n + 1) := by
  rw [cv_in, decide_eq_decide, nI_0]
  constructor
  · rintro ⟨h1, h2⟩
    have h3 : ¬ x < 0 := Int32.not_lt.mpr h1
    obtain ⟨j, hj, rfl⟩ := nI_of h3
    exact ⟨h3, nI_lt (by have := (nI_leI hj (by omega)).mp h2; omega) hn⟩
  · rintro ⟨h1, h2⟩
    obtain ⟨j, hj, rfl⟩ := nI_of h1
    exact ⟨Int32.not_lt.mp h1, nI_le (by have := (nI_ltI hj hn).mp h2; omega) (by omega)⟩
/-! ===== the land, by numbers: L 0 .. 4: a pass's kind, first, second, length, height; L 5 snow by days; L 6 days of giving; L 7 0 how many passes ===== -/
abbrev cv_L : Type := Nat → Nat → Nat
def cv_lu (L : cv_L) (k i v : Nat) : cv_L := fun k' i' => if k' = k ∧ i' = i then v else L k' i'
def cv_LB (L : cv_L) : Prop := L 7 0 ≤ 6 ∧ (∀ p, p < L 7 0 → L 0 p ≤ 2 ∧ L 1 p ≤ 2 ∧ L 2 p ≤ 2 ∧ (1 ≤ L 3 p ∧ L 3 p ≤ 3) ∧ L 4 p ≤ 9) ∧ (∀ d, d < 8 → L 5 d ≤ 9) ∧ ∀ v, v < 3 → L 6 v < 256
def cv_LC (L : cv_L) (σ : cv_St) : Prop := σ 10 6 = nI (L 7 0) ∧ (∀ d, d < 8 → σ 18 d = nI (L 5 d)) ∧ (∀ v, v < 3 → σ 19 v = nI (L 6 v)) ∧ ∀ p, p < L 7 0 → ∀ i, i < 5 → σ (12 + p) i = nI (L i p)
def cv_LM (L : cv_L) (μ : cv_St) : Prop := μ 0 5 = nI (L 7 0) ∧ (∀ d, d < 8 → μ 4 d = nI (L 5 d)) ∧ (∀ v, v < 3 → μ 5 v = nI (L 6 v)) ∧ ∀ p, p < L 7 0 → ∀ i, i < 5 → μ (6 + i) p = nI (L i p)
def cv_tk (L : cv_L) (p : Nat) : Nat := if L 0 p = 1 then L 3 p + 1 else if L 0 p = 2 then (L 3 p + 1) / 2 else L 3 p
def cv_op (L : cv_L) (p d : Nat) : Bool := decide (L 0 p = 2 ∨ L 5 d < L 4 p)
def cv_oe (L : cv_L) (p v : Nat) : Option Nat := if v = L 1 p then some (L 2 p) else if v = L 2 p then some (L 1 p) else none
theorem cv_oe_le {L : cv_L} (hB : cv_LB L) {p v : Nat} (hp : p < L 7 0) {z : Nat} (h : cv_oe L p v = some z) : z ≤ 2 := by
  obtain ⟨-, h1, h2, -⟩ := hB.2.1 p hp
  unfold cv_oe at h
  split at h
  · cases h; assumption
  · split at h
    · cases h; assumption
    · cases h
theorem cv_tk_b {L : cv_L} (hB : cv_LB L) {p : Nat} (hp : p < L 7 0) : 1 ≤ cv_tk L p ∧ cv_tk L p ≤ 4 := by
  obtain ⟨-, -, -, h3, -⟩ := hB.2.1 p hp
  unfold cv_tk
  split
  · omega
  · split <;> omega
/-- the day on which one comes that leaves valley v over pass p on day d -/
def cv_ar (L : cv_L) (p v d : Nat) : Option Nat := if cv_oe L p v = none ∨ cv_op L p d = false then none else if d + cv_tk L p ≤ 7 then some (d + cv_tk L p) else none
theorem cv_ar_le {L : cv_L} {p v d z : Nat} (h : cv_ar L p v d = some z) : z ≤ 7 := by
  unfold cv_ar at h
  split at h
  · cases h
  · split at h
    · cases h; assumption
    · cases h
theorem cv_ar_gt {L : cv_L} (hB : cv_LB L) {p v d z : Nat} (hp : p < L 7 0) (h : cv_ar L p v d = some z) : d < z := by
  have ht := cv_tk_b hB hp
  unfold cv_ar at h
  split at h
  · cases h
  · split at h
    · cases h; omega
    · cases h
end
section
/-! ===== what the class reckons, by numbers ===== -/
/-- a pass's share of a valley's reach on a day -/
def cv_rc (L : cv_L) (cl : Nat → Bool) (f : Nat → Nat) (v d p : Nat) : Nat := if cl p = true then 0 else match cv_ar L p v d with
  | none => 0
  | some c => f (c * 3 + (cv_oe L p v).getD 0)
def cv_rl (L : cv_L) (cl : Nat → Bool) (f : Nat → Nat) (v d i0 : Nat) : Nat → Nat
  | 0 => i0
  | k + 1 => cv_rl L cl f v d i0 k ||| cv_rc L cl f v d k
/-- how a valley's reach on a day is made of the later ones -/
def cv_rv (L : cv_L) (cl : Nat → Bool) (f : Nat → Nat) (v d : Nat) : Nat := cv_rl L cl f v d (if d < 7 then 2 ^ (8 * v + d) ||| f ((d + 1) * 3 + v) else 2 ^ (8 * v + d)) (L 7 0)
/-- the chart behind k days, from day 7 on down -/
def cv_RT (L : cv_L) (cl : Nat → Bool) : Nat → Nat → Nat
  | 0 => fun _ => 0
  | k + 1 => fun j => if j / 3 = 7 - k then cv_rv L cl (cv_RT L cl k) (j % 3) (7 - k) else cv_RT L cl k j
/-- the first day of a set -/
def cv_fd (t : Nat) : Option Nat := (List.range 8).find? (fun i => t.testBit i)
theorem cv_fd_some {t k : Nat} (hk : k < 8) (h : t.testBit k = true) (h0 : ∀ i, i < k → t.testBit i = false) : cv_fd t = some k := by
  unfold cv_fd
  rw [List.find?_range_eq_some]
  exact ⟨h, List.mem_range.mpr hk, fun j hj => by simp [h0 j hj]⟩
theorem cv_fd_none {t : Nat} (h : ∀ i, i < 8 → t.testBit i = false) : cv_fd t = none := by
  unfold cv_fd
  rw [List.find?_eq_none]
  intro x hx
  simp [h x (List.mem_range.mp hx)]
theorem cv_fd_lt {t k : Nat} (h : cv_fd t = some k) : k < 8 := by
  unfold cv_fd at h
  exact List.mem_range.mp (List.mem_of_find?_eq_some h)
def cv_fi (f : Nat → Nat) (w v d t : Nat) : Option Nat := cv_fd (f (d * 3 + v) / 2 ^ (8 * w) &&& t)
/-- the day of being done, by a chart f, of milk of day d (days of milk g), with days r of rennet and t of salt -/
def cv_dw (f : Nat → Nat) (g d r t : Nat) : Option Nat := if g.testBit d = true then (match cv_fi f 1 0 d r with
  | none => none
  | some x => cv_fi f 2 1 x t) else none
theorem cv_fi_lt {f : Nat → Nat} {w v d t z : Nat} (h : cv_fi f w v d t = some z) : z < 8 := cv_fd_lt h
theorem cv_dw_lt {f : Nat → Nat} {g d r t z : Nat} (h : cv_dw f g d r t = some z) : z < 8 := by
  unfold cv_dw at h
  split at h
  · split at h
    · cases h
    · exact cv_fi_lt h
  · cases h
def cv_by (o : Option Nat) (fair : Nat) : Bool := match o with
  | none => false
  | some z => decide (z ≤ fair)
/-- a chart that the row 20 holds -/
def cv_TC (f : Nat → Nat) (σ : cv_St) : Prop := ∀ j, j < 24 → σ 20 j = nI (f j) ∧ f j < 2 ^ 31
theorem cv_LC_k {L : cv_L} {σ τ : cv_St} (h : ∀ k, k ≠ 20 → k ≠ 21 → k ≠ 22 → τ k = σ k) (hL : cv_LC L σ) (hB : cv_LB L) : cv_LC L τ := by
  obtain ⟨h1, h2, h3, h4⟩ := hL
  refine ⟨by rw [h 10 (by decide) (by decide) (by decide)]; exact h1, fun d hd => by rw [h 18 (by decide) (by decide) (by decide)]; exact h2 d hd, fun v hv => by rw [h 19 (by decide) (by decide) (by decide)]; exact h3 v hv, fun p hp i hi => ?_⟩
  have := hB.1
  rw [h (12 + p) (by omega) (by omega) (by omega)]
  exact h4 p hp i hi
def cv_CO (L : cv_L) (cl : Nat → Bool) (σ τ : cv_St) (j : Nat) : Prop := (∀ k, k ≠ 20 → τ k = σ k) ∧ ∀ i, i < 24 → j ≤ i / 3 → τ 20 i = nI (cv_RT L cl (8 - j) i)
def cv_CI (L : cv_L) (cl : Nat → Bool) (σ τ : cv_St) (j v : Nat) : Prop := (∀ k, k ≠ 20 → τ k = σ k) ∧ (∀ i, i < 24 → j < i / 3 → τ 20 i = nI (cv_RT L cl (7 - j) i)) ∧ ∀ i, i < 24 → i / 3 = j → i % 3 < v → τ 20 i = nI (cv_rv L cl (cv_RT L cl (7 - j)) (i % 3) j)
theorem cv_CO_0 (L : cv_L) (cl : Nat → Bool) (σ : cv_St) : cv_CO L cl σ σ 8 := ⟨fun _ _ => rfl, fun i h1 h2 => by omega⟩
theorem cv_CI_0 {L : cv_L} {cl : Nat → Bool} {σ τ : cv_St} {j : Nat} (h : cv_CO L cl σ τ (j + 1)) : cv_CI L cl σ τ j 0 := ⟨h.1, fun i h1 h2 => by
  have := h.2 i h1 h2
  rwa [show 8 - (j + 1) = 7 - j by omega] at this, fun i _ _ h => by omega⟩
theorem cv_CI_s {L : cv_L} {cl : Nat → Bool} {σ τ : cv_St} {j v : Nat} (h : cv_CI L cl σ τ j v) (hv : v < 3) (hj : j < 8) : cv_CI L cl σ (cv_u τ 20 (j * 3 + v) (nI (cv_rv L cl (cv_RT L cl (7 - j)) v j))) j (v + 1) := by
  refine ⟨fun k hk => by rw [cv_u_c hk]; exact h.1 k hk, fun i h1 h2 => by rw [cv_u_i (by omega)]; exact h.2.1 i h1 h2, fun i h1 h2 h3 => ?_⟩
  by_cases e : i = j * 3 + v
  · subst e
    rw [cv_u_s, show (j * 3 + v) % 3 = v by omega]
  · rw [cv_u_i e]
    exact h.2.2 i h1 h2 (by omega)
theorem cv_CO_s {L : cv_L} {cl : Nat → Bool} {σ τ : cv_St} {j : Nat} (h : cv_CI L cl σ τ j 3) (hj : j < 8) : cv_CO L cl σ τ j := by
  refine ⟨h.1, fun i h1 h2 => ?_⟩
  rw [show 8 - j = (7 - j) + 1 by omega]
  simp only [cv_RT]
  rw [show 7 - (7 - j) = j by omega]
  by_cases e : i / 3 = j
  · rw [if_pos e]
    exact h.2.2 i h1 e (by omega)
  · rw [if_neg e]
    exact h.2.1 i h1 (by omega)
theorem cv_rl_lt {L : cv_L} {cl : Nat → Bool} {f : Nat → Nat} {v d i0 : Nat} (hf : ∀ j, f j < 2 ^ 24) (h0 : i0 < 2 ^ 24) : ∀ k, cv_rl L cl f v d i0 k < 2 ^ 24
  | 0 => h0
  | k + 1 => by
    have h1 : cv_rc L cl f v d k < 2 ^ 24 := by
      unfold cv_rc
      split
      · decide
      · split
        · decide
        · exact hf _
    exact Nat.or_lt_two_pow (cv_rl_lt hf h0 k) h1
theorem cv_RT_lt (L : cv_L) (cl : Nat → Bool) : ∀ k j, cv_RT L cl k j < 2 ^ 24
  | 0, j => by simp [cv_RT]
  | k + 1, j => by
    simp only [cv_RT]
    split
    · have hp : 2 ^ (8 * (j % 3) + (7 - k)) < 2 ^ 24 := Nat.pow_lt_pow_right (by decide) (by omega)
      refine cv_rl_lt (cv_RT_lt L cl k) ?_ _
      split
      · exact Nat.or_lt_two_pow hp (cv_RT_lt L cl k _)
      · exact hp
    · exact cv_RT_lt L cl k j
theorem cv_TC_of {L : cv_L} {cl : Nat → Bool} {σ τ : cv_St} (h : cv_CO L cl σ τ 0) : cv_TC (cv_RT L cl 8) τ := fun j hj => ⟨h.2 j hj (Nat.zero_le _), Nat.lt_trans (cv_RT_lt L cl 8 j) (by decide)⟩
/-- sets, counted -/
def cv_cnt (P : Nat → Bool) : Nat → Nat
  | 0 => 0
  | n + 1 => cv_cnt P n + (if P n = true then 1 else 0)
theorem cv_cnt_le (P : Nat → Bool) : ∀ n, cv_cnt P n ≤ n
  | 0 => Nat.le_refl 0
  | n + 1 => by
    have := cv_cnt_le P n
    simp only [cv_cnt]
    split <;> omega
def cv_clr (g k : Nat) : Nat := g &&& (2 ^ k ^^^ 4294967295)
theorem cv_clr_le (g k : Nat) : cv_clr g k ≤ g := Nat.and_le_left
theorem cv_clrN (g k : Nat) : nI g &&& (nI (2 ^ k) ^^^ -1) = nI (cv_clr g k) := by
  rw [show (-1 : Int32) = nI 4294967295 by decide, cv_xorN, cv_andN]; rfl
/-- all below n -/
def cv_al (P : Nat → Bool) (n : Nat) : Bool := (List.range n).all P
theorem cv_al_t {P : Nat → Bool} {n : Nat} (h : ∀ k, k < n → P k = true) : cv_al P n = true := List.all_eq_true.mpr (fun k hk => h k (List.mem_range.mp hk))
theorem cv_al_f {P : Nat → Bool} {n k : Nat} (hk : k < n) (h : P k = false) : cv_al P n = false := by
  rw [cv_al, List.all_eq_false]
  exact ⟨k, List.mem_range.mpr hk, by simp [h]⟩
theorem cv_al_iff {P : Nat → Bool} {n : Nat} : cv_al P n = true ↔ ∀ k, k < n → P k = true := by
  rw [cv_al, List.all_eq_true]
  exact ⟨fun h k hk => h k (List.mem_range.mpr hk), fun h k hk => h k (List.mem_range.mp hk)⟩
theorem cv_ex {P : Nat → Prop} {i : Nat} (h : ∀ q, q < i → P q) (hi : P i) : ∀ q, q < i + 1 → P q := fun q hq => by
  rcases Nat.lt_succ_iff_lt_or_eq.mp hq with h1 | h1
  · exact h q h1
  · rw [h1]; exact hi
theorem cv_o_inj {a b : Option Nat} (ha : ∀ z, a = some z → z < 2 ^ 31) (hb : ∀ z, b = some z → z < 2 ^ 31) (h : cv_o a = cv_o b) : a = b := by
  cases a with
  | none => exact ((cv_o_none hb).mp h.symm).symm
  | some x =>
    cases b with
    | none => exact (cv_o_none ha).mp h
    | some y => rw [(nI_eq (ha x rfl) (hb y rfl)).mp h]
/-- fewer of two, either perhaps none -/
def cv_mn : Option Nat → Option Nat → Option Nat
  | none, b => b
  | a, none => a
  | some a, some b => some (min a b)
def cv_h0 (g : Nat → Option Nat) (d s v : Nat) : Option Nat := if d < 7 then (g (((d + 1) * 2 + s) * 3 + v)).map (· + 1) else none
def cv_h1 (L : cv_L) (g : Nat → Option Nat) (d s v : Nat) : Option Nat := if s = 0 ∧ v = 1 ∧ (L 6 1).testBit d = true then cv_mn (cv_h0 g d s v) (g ((d * 2 + 1) * 3 + v)) else cv_h0 g d s v
def cv_hc (L : cv_L) (g : Nat → Option Nat) (d s v p : Nat) : Option Nat := match cv_ar L p v d with
  | none => none
  | some c => g ((c * 2 + s) * 3 + (cv_oe L p v).getD 0)
def cv_hl (L : cv_L) (g : Nat → Option Nat) (d s v : Nat) : Nat → Option Nat
  | 0 => cv_h1 L g d s v
  | k + 1 => cv_mn (cv_hl L g d s v k) (cv_hc L g d s v k)
/-- the fewest days that one still waits, by later ones' -/
def cv_hf (L : cv_L) (g : Nat → Option Nat) (d s v : Nat) : Option Nat := if s = 1 ∧ v = 2 ∧ (L 6 2).testBit d = true then some 0 else cv_hl L g d s v (L 7 0)
theorem cv_mn_le {a b : Option Nat} {n : Nat} (ha : ∀ z, a = some z → z ≤ n) (hb : ∀ z, b = some z → z ≤ n) : ∀ z, cv_mn a b = some z → z ≤ n := by
  intro z h
  cases a with
  | none => exact hb z h
  | some x =>
    cases b with
    | none => exact ha z h
    | some y =>
      have h1 := ha x rfl
      have h2 := hb y rfl
      simp only [cv_mn, Option.some.injEq] at h
      omega
theorem cv_h0_le {g : Nat → Option Nat} (hz : ∀ j z, g j = some z → z ≤ 7 - j / 6) {d s v z : Nat} (hs : s < 2) (hv : v < 3) (h : cv_h0 g d s v = some z) : z ≤ 7 - d := by
  unfold cv_h0 at h
  split at h
  · cases h1 : g (((d + 1) * 2 + s) * 3 + v) with
    | none => rw [h1] at h; cases h
    | some y =>
      rw [h1] at h
      have := hz _ _ h1
      simp only [Option.map_some, Option.some.injEq] at h
      omega
  · cases h
theorem cv_h1_le {L : cv_L} {g : Nat → Option Nat} (hz : ∀ j z, g j = some z → z ≤ 7 - j / 6) {d s v : Nat} (hs : s < 2) (hv : v < 3) : ∀ z, cv_h1 L g d s v = some z → z ≤ 7 - d := by
  intro z h
  unfold cv_h1 at h
  split at h
  · refine cv_mn_le (fun z h => cv_h0_le hz hs hv h) (fun z h => ?_) z h
    have := hz _ _ h
    omega
  · exact cv_h0_le hz hs hv h
theorem cv_hl_le {L : cv_L} (hB : cv_LB L) {g : Nat → Option Nat} (hz : ∀ j z, g j = some z → z ≤ 7 - j / 6) {d s v : Nat} (hs : s < 2) (hv : v < 3) : ∀ k, k ≤ L 7 0 → ∀ z, cv_hl L g d s v k = some z → z ≤ 7 - d
  | 0, _, z, h => cv_h1_le hz hs hv z h
  | k + 1, hk, z, h => by
    refine cv_mn_le (cv_hl_le hB hz hs hv k (by omega)) (fun z h => ?_) z h
    unfold cv_hc at h
    split at h
    · cases h
    · rename_i c hc
      have h1 := hz _ _ h
      have h2 := cv_ar_gt hB (by omega) hc
      cases ho : cv_oe L k v with
      | none => rw [ho] at h1; simp only [Option.getD_none] at h1; omega
      | some q =>
        rw [ho] at h1
        have h3 := cv_oe_le hB (by omega) ho
        simp only [Option.getD_some] at h1
        omega
theorem cv_hf_le {L : cv_L} (hB : cv_LB L) {g : Nat → Option Nat} (hz : ∀ j z, g j = some z → z ≤ 7 - j / 6) {d s v : Nat} (hs : s < 2) (hv : v < 3) {z : Nat} (h : cv_hf L g d s v = some z) : z ≤ 7 - d := by
  unfold cv_hf at h
  split at h
  · cases h; omega
  · exact cv_hl_le hB hz hs hv _ (Nat.le_refl _) z h
/-- the readings -/
def cv_DB (rc : Nat) (rd : Nat → Nat) (rn : Nat → Option Nat) : Prop := rc ≤ 8 ∧ ∀ k, k < rc → rd k < 8 ∧ ∀ z, rn k = some z → z < 8
def cv_DC (rc : Nat) (rd : Nat → Nat) (rn : Nat → Option Nat) (σ : cv_St) : Prop := σ 23 2 = nI rc ∧ ∀ k, k < rc → σ 24 k = nI (rd k) ∧ σ 25 k = cv_o (rn k)
/-- all readings are so, by a way f to tell the day of being done -/
def cv_ho (f : Nat → Option Nat) (rc : Nat) (rd : Nat → Nat) (rn : Nat → Option Nat) : Bool := cv_al (fun k => decide (f (rd k) = rn k)) rc
/-- a day's row with rennet, over the later days' rows g -/
def cv_F1 (L : cv_L) (g : Nat → Option Nat) (d : Nat) : Nat → Option Nat := fun i => if i / 6 = d ∧ i / 3 % 2 = 1 then cv_hf L g d 1 (i % 3) else g i
def cv_F0 (L : cv_L) (g : Nat → Option Nat) (d : Nat) : Nat → Option Nat := fun i => if i / 6 = d ∧ i / 3 % 2 = 0 then cv_hf L g d 0 (i % 3) else g i
def cv_FT (L : cv_L) : Nat → Nat → Option Nat
  | 0 => fun _ => none
  | k + 1 => cv_F0 L (cv_F1 L (cv_FT L k) (7 - k)) (7 - k)
def cv_fh (L : cv_L) (m : Nat) : Option Nat := if (L 6 0).testBit m = true then cv_FT L (8 - m) ((m * 2 + 0) * 3 + 0) else none
theorem cv_F1_z {L : cv_L} (hB : cv_LB L) {g : Nat → Option Nat} (hz : ∀ j z, g j = some z → z ≤ 7 - j / 6) (d : Nat) : ∀ j z, cv_F1 L g d j = some z → z ≤ 7 - j / 6 := by
  intro j z h
  unfold cv_F1 at h
  split at h
  · rename_i hc
    rw [hc.1]
    exact cv_hf_le hB hz (by decide) (by omega) h
  · exact hz j z h
theorem cv_F0_z {L : cv_L} (hB : cv_LB L) {g : Nat → Option Nat} (hz : ∀ j z, g j = some z → z ≤ 7 - j / 6) (d : Nat) : ∀ j z, cv_F0 L g d j = some z → z ≤ 7 - j / 6 := by
  intro j z h
  unfold cv_F0 at h
  split at h
  · rename_i hc
    rw [hc.1]
    exact cv_hf_le hB hz (by decide) (by omega) h
  · exact hz j z h
theorem cv_FT_z {L : cv_L} (hB : cv_LB L) : ∀ k j z, cv_FT L k j = some z → z ≤ 7 - j / 6
  | 0, j, z, h => by cases h
  | k + 1, j, z, h => cv_F0_z hB (cv_F1_z hB (cv_FT_z hB k) _) _ j z h
def cv_HO (L : cv_L) (σ τ : cv_St) (j : Nat) : Prop := (∀ k, k ≠ 21 → τ k = σ k) ∧ ∀ i, i < 48 → j ≤ i / 6 → τ 21 i = cv_o (cv_FT L (8 - j) i)
def cv_HI (L : cv_L) (g : Nat → Option Nat) (σ τ : cv_St) (j s v : Nat) : Prop := (∀ k, k ≠ 21 → τ k = σ k) ∧ (∀ i, i < 48 → (j < i / 6 ∨ (s = 0 ∧ i / 6 = j ∧ i / 3 % 2 = 1)) → τ 21 i = cv_o (g i)) ∧ ∀ i, i < 48 → i / 6 = j → i / 3 % 2 = s → i % 3 < v → τ 21 i = cv_o (cv_hf L g j s (i % 3))
theorem cv_HO_0 (L : cv_L) (σ : cv_St) : cv_HO L σ σ 8 := ⟨fun _ _ => rfl, fun i h1 h2 => by omega⟩
theorem cv_HI_1 {L : cv_L} {σ τ : cv_St} {j : Nat} (h : cv_HO L σ τ (j + 1)) : cv_HI L (cv_FT L (7 - j)) σ τ j 1 0 := ⟨h.1, fun i h1 h2 => by
  have h3 : j + 1 ≤ i / 6 := by omega
  have := h.2 i h1 h3
  rwa [show 8 - (j + 1) = 7 - j by omega] at this, fun i _ _ _ h => by omega⟩
theorem cv_HI_s {L : cv_L} {g : Nat → Option Nat} {σ τ : cv_St} {j s v : Nat} (h : cv_HI L g σ τ j s v) (hs : s < 2) (hv : v < 3) : cv_HI L g σ (cv_u τ 21 ((j * 2 + s) * 3 + v) (cv_o (cv_hf L g j s v))) j s (v + 1) := by
  refine ⟨fun k hk => by rw [cv_u_c hk]; exact h.1 k hk, fun i h1 h2 => by rw [cv_u_i (by omega)]; exact h.2.1 i h1 h2, fun i h1 h2 h3 h4 => ?_⟩
  by_cases e : i = (j * 2 + s) * 3 + v
  · subst e
    rw [cv_u_s, show ((j * 2 + s) * 3 + v) % 3 = v by omega]
  · rw [cv_u_i e]
    exact h.2.2 i h1 h2 h3 (by omega)
theorem cv_HI_0 {L : cv_L} {g : Nat → Option Nat} {σ τ : cv_St} {j : Nat} (h : cv_HI L g σ τ j 1 3) : cv_HI L (cv_F1 L g j) σ τ j 0 0 := by
  refine ⟨h.1, fun i h1 h2 => ?_, fun i _ _ _ h => by omega⟩
  unfold cv_F1
  by_cases e : i / 6 = j ∧ i / 3 % 2 = 1
  · rw [if_pos e]
    exact h.2.2 i h1 e.1 e.2 (by omega)
  · rw [if_neg e]
    exact h.2.1 i h1 (by omega)
theorem cv_HO_s {L : cv_L} {σ τ : cv_St} {j : Nat} (hj : j < 8) (h : cv_HI L (cv_F1 L (cv_FT L (7 - j)) j) σ τ j 0 3) : cv_HO L σ τ j := by
  refine ⟨h.1, fun i h1 h2 => ?_⟩
  rw [show 8 - j = (7 - j) + 1 by omega]
  simp only [cv_FT]
  rw [show 7 - (7 - j) = j by omega]
  unfold cv_F0
  by_cases e : i / 6 = j ∧ i / 3 % 2 = 0
  · rw [if_pos e]
    exact h.2.2 i h1 e.1 e.2 (by omega)
  · rw [if_neg e]
    exact h.2.1 i h1 (by omega)
theorem cv_dn_lt {m : Nat} (h : m < 2 ^ 31) : cv_dn m < nI m := by
  cases m with
  | zero => decide
  | succ j => exact nI_lt (Nat.lt_succ_self j) h
theorem cv_m9_lt {n : Nat} (h : n < 2 ^ 31) : (-9 : Int32) < nI n := by
  rw [Int32.lt_iff_toInt_lt, nI_toInt h]
  have : (-9 : Int32).toInt = -9 := by decide
  omega
end
section
set_option maxHeartbeats 4000000 in
set_option maxRecDepth 100000 in
theorem kX6_isBelow {n : Nat} {sh : Nat → cv_Sh} (x : Int32) (m : Nat) (σ : cv_St)  : cv_Ct yX6_isBelow cX6_isBelow 2 (some .boolean) 0 0 0 n sh [.int x, .int (nI m)] σ (cv_pu (.int (cv_b (cv_in x m))) σ) := by
  refine cv_enter (own := RX6) (by decide) rfl (Nat.le_of_ble_eq_true rfl) ?_
  intro X a C Rt hRm
  have D := @cv_dec _ _ dkX6_isBelow
  show cv_At X _ _ σ 0 [(0, .int x), (1, .int (nI m))] []
  refine cv_iload_n C (pc' := 1) rfl (D 0 (0, .iload_n 0, 1) rfl) rfl (j := 0) rfl ?_
  refine cv_if_lt C (pc' := 4) rfl (tgt := 13) (D 1 (1, .ifCond .lt 12, 3) rfl) (by decide) (fun b1 => ?_) (fun b1 => ?_)
  · skip
    refine cv_iconst C (pc' := 14) rfl (D 7 (13, .iconst 0, 1) rfl) (v := nI 0) (by decide) ?_
    exact cv_iret C Rt (by decide) (D 8 (14, .ireturn, 1) rfl) ⟨congrArg (fun z => some (Value.int z)) (by rw [cv_in, decide_eq_false (fun h => h.1 b1)]; rfl), rfl⟩
  · skip
    refine cv_iload_n C (pc' := 5) rfl (D 2 (4, .iload_n 0, 1) rfl) rfl (j := 0) rfl ?_
    refine cv_iload_n C (pc' := 6) rfl (D 3 (5, .iload_n 1, 1) rfl) rfl (j := 1) rfl ?_
    refine cv_icmp_ge C (pc' := 9) rfl (tgt := 13) (D 4 (6, .if_icmp .ge 7, 3) rfl) (by decide) (fun b6 => ?_) (fun b6 => ?_)
    · skip
      refine cv_iconst C (pc' := 14) rfl (D 7 (13, .iconst 0, 1) rfl) (v := nI 0) (by decide) ?_
      exact cv_iret C Rt (by decide) (D 8 (14, .ireturn, 1) rfl) ⟨congrArg (fun z => some (Value.int z)) (by rw [cv_in, decide_eq_false (fun h => absurd h.2 (Int32.not_lt.mpr b6))]; rfl), rfl⟩
    · skip
      refine cv_iconst C (pc' := 10) rfl (D 5 (9, .iconst 1, 1) rfl) (v := nI 1) (by decide) ?_
      refine cv_goto C (tgt := 14) (D 6 (10, .goto 4, 3) rfl) (by decide) ?_
      exact cv_iret C Rt (by decide) (D 8 (14, .ireturn, 1) rfl) ⟨congrArg (fun z => some (Value.int z)) (by rw [cv_in, decide_eq_true ⟨b1, Int32.not_le.mp b6⟩]; rfl), rfl⟩

set_option maxHeartbeats 4000000 in
set_option maxRecDepth 100000 in
theorem kX6_isDay {n : Nat} {sh : Nat → cv_Sh} (x : Int32) (σ : cv_St)  : cv_Ct yX6_isDay cX6_isDay 1 (some .boolean) 1 0 0 n sh [.int x] σ (cv_pu (.int (cv_b (cv_in x 8))) σ) := by
  refine cv_enter (own := RX6) (by decide) rfl (Nat.le_of_ble_eq_true rfl) ?_
  intro X a C Rt hRm
  have D := @cv_dec _ _ dkX6_isDay
  show cv_At X _ _ σ 0 [(0, .int x)] []
  refine cv_iload_n C (pc' := 1) rfl (D 0 (0, .iload_n 0, 1) rfl) rfl (j := 0) rfl ?_
  refine cv_bipush C (pc' := 3) rfl (D 1 (1, .bipush 8, 2) rfl) (v := nI 8) (by decide) ?_
  refine cv_callS C (pc' := 6) rfl (As := [.int x, .int (nI 8)]) (rest := []) (idx := 111) (np := 2) (kX6_isBelow x 8 σ) (by decide +kernel) rfl wmX6_111 wt_yX6_isBelow wn_X6 wc_yX6_isBelow (by decide) (by decide) (D 2 (3, .invokestatic 111, 3) rfl) (Nat.le_of_ble_eq_true rfl) rfl (fun w9 u9 h9 => ?_)
  rw [h9.1, h9.2]
  show cv_At X _ _ σ 6 _ [.int (cv_b (cv_in x 8))]
  exact cv_iret C Rt (cv_b_nar _) (D 3 (6, .ireturn, 1) rfl) ⟨rfl, rfl⟩

set_option maxHeartbeats 4000000 in
set_option maxRecDepth 100000 in
theorem kX6_isValley {n : Nat} {sh : Nat → cv_Sh} (x : Int32) (σ : cv_St)  : cv_Ct yX6_isValley cX6_isValley 1 (some .boolean) 1 0 0 n sh [.int x] σ (cv_pu (.int (cv_b (cv_in x 3))) σ) := by
  refine cv_enter (own := RX6) (by decide) rfl (Nat.le_of_ble_eq_true rfl) ?_
  intro X a C Rt hRm
  have D := @cv_dec _ _ dkX6_isValley
  show cv_At X _ _ σ 0 [(0, .int x)] []
  refine cv_iload_n C (pc' := 1) rfl (D 0 (0, .iload_n 0, 1) rfl) rfl (j := 0) rfl ?_
  refine cv_iconst C (pc' := 2) rfl (D 1 (1, .iconst 3, 1) rfl) (v := nI 3) (by decide) ?_
  refine cv_callS C (pc' := 5) rfl (As := [.int x, .int (nI 3)]) (rest := []) (idx := 111) (np := 2) (kX6_isBelow x 3 σ) (by decide +kernel) rfl wmX6_111 wt_yX6_isBelow wn_X6 wc_yX6_isBelow (by decide) (by decide) (D 2 (2, .invokestatic 111, 3) rfl) (Nat.le_of_ble_eq_true rfl) rfl (fun w9 u9 h9 => ?_)
  rw [h9.1, h9.2]
  show cv_At X _ _ σ 5 _ [.int (cv_b (cv_in x 3))]
  exact cv_iret C Rt (cv_b_nar _) (D 3 (5, .ireturn, 1) rfl) ⟨rfl, rfl⟩

set_option maxHeartbeats 4000000 in
set_option maxRecDepth 100000 in
theorem kX6_isSheet {n : Nat} {sh : Nat → cv_Sh} (x : Int32) (σ : cv_St)  : cv_Ct yX6_isSheet cX6_isSheet 1 (some .boolean) 1 0 0 n sh [.int x] σ (cv_pu (.int (cv_b (cv_in x 4))) σ) := by
  refine cv_enter (own := RX6) (by decide) rfl (Nat.le_of_ble_eq_true rfl) ?_
  intro X a C Rt hRm
  have D := @cv_dec _ _ dkX6_isSheet
  show cv_At X _ _ σ 0 [(0, .int x)] []
  refine cv_iload_n C (pc' := 1) rfl (D 0 (0, .iload_n 0, 1) rfl) rfl (j := 0) rfl ?_
  refine cv_iconst C (pc' := 2) rfl (D 1 (1, .iconst 4, 1) rfl) (v := nI 4) (by decide) ?_
  refine cv_callS C (pc' := 5) rfl (As := [.int x, .int (nI 4)]) (rest := []) (idx := 111) (np := 2) (kX6_isBelow x 4 σ) (by decide +kernel) rfl wmX6_111 wt_yX6_isBelow wn_X6 wc_yX6_isBelow (by decide) (by decide) (D 2 (2, .invokestatic 111, 3) rfl) (Nat.le_of_ble_eq_true rfl) rfl (fun w9 u9 h9 => ?_)
  rw [h9.1, h9.2]
  show cv_At X _ _ σ 5 _ [.int (cv_b (cv_in x 4))]
  exact cv_iret C Rt (cv_b_nar _) (D 3 (5, .ireturn, 1) rfl) ⟨rfl, rfl⟩

set_option maxHeartbeats 4000000 in
set_option maxRecDepth 100000 in
theorem kX6_isLane {n : Nat} {sh : Nat → cv_Sh} (x : Int32) (σ : cv_St)  : cv_Ct yX6_isLane cX6_isLane 1 (some .boolean) 1 0 0 n sh [.int x] σ (cv_pu (.int (cv_b (cv_in x 3))) σ) := by
  refine cv_enter (own := RX6) (by decide) rfl (Nat.le_of_ble_eq_true rfl) ?_
  intro X a C Rt hRm
  have D := @cv_dec _ _ dkX6_isLane
  show cv_At X _ _ σ 0 [(0, .int x)] []
  refine cv_iload_n C (pc' := 1) rfl (D 0 (0, .iload_n 0, 1) rfl) rfl (j := 0) rfl ?_
  refine cv_iconst C (pc' := 2) rfl (D 1 (1, .iconst 3, 1) rfl) (v := nI 3) (by decide) ?_
  refine cv_callS C (pc' := 5) rfl (As := [.int x, .int (nI 3)]) (rest := []) (idx := 111) (np := 2) (kX6_isBelow x 3 σ) (by decide +kernel) rfl wmX6_111 wt_yX6_isBelow wn_X6 wc_yX6_isBelow (by decide) (by decide) (D 2 (2, .invokestatic 111, 3) rfl) (Nat.le_of_ble_eq_true rfl) rfl (fun w9 u9 h9 => ?_)
  rw [h9.1, h9.2]
  show cv_At X _ _ σ 5 _ [.int (cv_b (cv_in x 3))]
  exact cv_iret C Rt (cv_b_nar _) (D 3 (5, .ireturn, 1) rfl) ⟨rfl, rfl⟩

set_option maxHeartbeats 4000000 in
set_option maxRecDepth 100000 in
theorem kX6_hasDay {n : Nat} {sh : Nat → cv_Sh} (t i : Nat) (σ : cv_St) (ht : t < 2 ^ 31) (hi : i < 32) : cv_Ct yX6_hasDay cX6_hasDay 2 (some .boolean) 0 0 0 n sh [.int (nI t), .int (nI i)] σ (cv_pu (.int (cv_b (t.testBit i))) σ) := by
  refine cv_enter (own := RX6) (by decide) rfl (Nat.le_of_ble_eq_true rfl) ?_
  intro X a C Rt hRm
  have D := @cv_dec _ _ dkX6_hasDay
  show cv_At X _ _ σ 0 [(0, .int (nI t)), (1, .int (nI i))] []
  refine cv_iload_n C (pc' := 1) rfl (D 0 (0, .iload_n 0, 1) rfl) rfl (j := 0) rfl ?_
  refine cv_iload_n C (pc' := 2) rfl (D 1 (1, .iload_n 1, 1) rfl) rfl (j := 1) rfl ?_
  refine cv_ishrN C (pc' := 3) rfl (by omega) (by omega) (D 2 (2, .ishr, 1) rfl) ?_
  refine cv_iconst C (pc' := 4) rfl (D 3 (3, .iconst 1, 1) rfl) (v := nI 1) (by decide) ?_
  refine cv_iandN C (pc' := 5) rfl (D 4 (4, .iand, 1) rfl) ?_
  have hb1 := cv_tb_lt t i
  refine cv_if_eqN C (pc' := 8) rfl (by omega) (tgt := 12) (D 5 (5, .ifCond .eq 7, 3) rfl) (by decide) (fun b5 => ?_) (fun b5 => ?_)
  · skip
    refine cv_iconst C (pc' := 13) rfl (D 8 (12, .iconst 0, 1) rfl) (v := nI 0) (by decide) ?_
    exact cv_iret C Rt (by decide) (D 9 (13, .ireturn, 1) rfl) ⟨congrArg (fun z => some (Value.int z)) (by rw [cv_tb0 b5]; rfl), rfl⟩
  · skip
    refine cv_iconst C (pc' := 9) rfl (D 6 (8, .iconst 1, 1) rfl) (v := nI 1) (by decide) ?_
    refine cv_goto C (tgt := 13) (D 7 (9, .goto 4, 3) rfl) (by decide) ?_
    exact cv_iret C Rt (by decide) (D 9 (13, .ireturn, 1) rfl) ⟨congrArg (fun z => some (Value.int z)) (by rw [cv_tb1 (Nat.pos_iff_ne_zero.mp b5)]; rfl), rfl⟩

set_option maxHeartbeats 4000000 in
set_option maxRecDepth 100000 in
theorem kX6_isPass (x : Int32) (L : cv_L) (σ : cv_St) (hL : cv_LC L σ) : cv_Ct yX6_isPass cX6_isPass 2 (some .boolean) 1 0 0 26 cv_shC [.ref 0, .int x] σ (cv_pu (.int (cv_b (cv_in x (L 7 0)))) σ) := by
  refine cv_enter (own := RX6) (by decide) rfl (Nat.le_of_ble_eq_true rfl) ?_
  intro X a C Rt hRm
  have D := @cv_dec _ _ dkX6_isPass
  show cv_At X _ _ σ 0 [(0, .ref 0), (1, .int x)] []
  refine cv_iload_n C (pc' := 1) rfl (D 0 (0, .iload_n 1, 1) rfl) rfl (j := 1) rfl ?_
  refine cv_aload_n C (pc' := 2) rfl (D 1 (1, .aload_n 0, 1) rfl) rfl (j := 0) rfl ?_
  refine cv_get C (pc' := 5) rfl (k0 := 0) (i := 1) (ci := 6) (by decide) rfl rfl (by decide) (o := some 10) rfl iw_X6 wfX6_21 (D 2 (2, .getfield 21, 3) rfl) rfl ?_
  refine cv_get C (pc' := 8) rfl (k0 := 10) (i := 6) (ci := 0) (by decide) rfl rfl (by decide) (o := none) rfl iw_X0 wfX6_78 (D 3 (5, .getfield 78, 3) rfl) (v := .int (nI (L 7 0))) (congrArg Value.int hL.1) ?_
  refine cv_callS C (pc' := 11) rfl (As := [.int x, .int (nI (L 7 0))]) (rest := []) (idx := 111) (np := 2) (kX6_isBelow x (L 7 0) σ) (by decide +kernel) rfl wmX6_111 wt_yX6_isBelow wn_X6 wc_yX6_isBelow (by decide) (by decide) (D 4 (8, .invokestatic 111, 3) rfl) (Nat.le_of_ble_eq_true rfl) rfl (fun w9 u9 h9 => ?_)
  rw [h9.1, h9.2]
  show cv_At X _ _ σ 11 _ [.int (cv_b (cv_in x (L 7 0)))]
  exact cv_iret C Rt (cv_b_nar _) (D 5 (11, .ireturn, 1) rfl) ⟨rfl, rfl⟩

set_option maxHeartbeats 4000000 in
set_option maxRecDepth 100000 in
theorem kX6_failed (f : Nat) (σ : cv_St)  : cv_Ct yX6_failed cX6_failed 2 (some .int) 0 0 0 26 cv_shC [.ref 0, .int (nI f)] σ (fun v u => v = some (.int (-10 - nI f)) ∧ u = cv_u σ 0 5 (nI f)) := by
  refine cv_enter (own := RX6) (by decide) rfl (Nat.le_of_ble_eq_true rfl) ?_
  intro X a C Rt hRm
  have D := @cv_dec _ _ dkX6_failed
  show cv_At X _ _ σ 0 [(0, .ref 0), (1, .int (nI f))] []
  refine cv_aload_n C (pc' := 1) rfl (D 0 (0, .aload_n 0, 1) rfl) rfl (j := 0) rfl ?_
  refine cv_iload_n C (pc' := 2) rfl (D 1 (1, .iload_n 1, 1) rfl) rfl (j := 1) rfl ?_
  refine cv_put C (pc' := 5) rfl (k0 := 0) (i := 5) (ci := 6) (by decide) rfl rfl (by decide) rfl iw_X6 tyX6 tyX6_ok nmX6 wfX6_39 rfl rfl rfl (D 2 (2, .putfield 39, 3) rfl) ?_
  refine cv_bipush C (pc' := 7) rfl (D 3 (5, .bipush (-10), 2) rfl) (v := -10) (by decide) ?_
  refine cv_iload_n C (pc' := 8) rfl (D 4 (7, .iload_n 1, 1) rfl) rfl (j := 1) rfl ?_
  refine cv_isub C (pc' := 9) rfl (D 5 (8, .isub, 1) rfl) ?_
  exact cv_iret C Rt rfl (D 6 (9, .ireturn, 1) rfl) ⟨rfl, rfl⟩

set_option maxHeartbeats 4000000 in
set_option maxRecDepth 100000 in
theorem kX6_leave (f : Nat) (σ : cv_St)  : cv_Ct yX6_leave cX6_leave 2 none 0 0 0 26 cv_shC [.ref 0, .int (nI f)] σ (fun v u => v = none ∧ u = cv_u σ 0 4 (nI 31 * σ 0 4 + nI f)) := by
  refine cv_enter (own := RX6) (by decide) rfl (Nat.le_of_ble_eq_true rfl) ?_
  intro X a C Rt hRm
  have D := @cv_dec _ _ dkX6_leave
  show cv_At X _ _ σ 0 [(0, .ref 0), (1, .int (nI f))] []
  refine cv_aload_n C (pc' := 1) rfl (D 0 (0, .aload_n 0, 1) rfl) rfl (j := 0) rfl ?_
  refine cv_bipush C (pc' := 3) rfl (D 1 (1, .bipush 31, 2) rfl) (v := nI 31) (by decide) ?_
  refine cv_aload_n C (pc' := 4) rfl (D 2 (3, .aload_n 0, 1) rfl) rfl (j := 0) rfl ?_
  refine cv_get C (pc' := 7) rfl (k0 := 0) (i := 4) (ci := 6) (by decide) rfl rfl (by decide) (o := none) rfl iw_X6 wfX6_228 (D 3 (4, .getfield 228, 3) rfl) (v := .int (σ 0 4)) rfl ?_
  refine cv_imul C (pc' := 8) rfl (D 4 (7, .imul, 1) rfl) ?_
  refine cv_iload_n C (pc' := 9) rfl (D 5 (8, .iload_n 1, 1) rfl) rfl (j := 1) rfl ?_
  refine cv_iadd C (pc' := 10) rfl (D 6 (9, .iadd, 1) rfl) ?_
  refine cv_put C (pc' := 13) rfl (k0 := 0) (i := 4) (ci := 6) (by decide) rfl rfl (by decide) rfl iw_X6 tyX6 tyX6_ok nmX6 wfX6_228 rfl rfl rfl (D 7 (10, .putfield 228, 3) rfl) ?_
  exact cv_vret C Rt (D 8 (13, .return_, 1) rfl) ⟨rfl, rfl⟩

set_option maxHeartbeats 4000000 in
set_option maxRecDepth 100000 in
theorem kX1_takes (L : cv_L) (p : Nat) (σ : cv_St) (hL : cv_LC L σ) (hB : cv_LB L) (hp : p < L 7 0) : cv_Ct yX1_takes cX1_takes 1 (some .int) 0 0 0 26 cv_shC [.ref (12 + p)] σ (cv_pu (.int (nI (cv_tk L p))) σ) := by
  refine cv_enter (own := RX1) (by decide) rfl (Nat.le_of_ble_eq_true rfl) ?_
  intro X a C Rt hRm
  have D := @cv_dec _ _ dkX1_takes
  have hp6 : p < 6 := Nat.lt_of_lt_of_le hp hB.1
  obtain ⟨g0, g1, g2, g3, g4⟩ := hB.2.1 p hp
  show cv_At X _ _ σ 0 [(0, .ref (12 + p))] []
  refine cv_aload_n C (pc' := 1) rfl (D 0 (0, .aload_n 0, 1) rfl) rfl (j := 0) rfl ?_
  refine cv_get C (pc' := 4) rfl (k0 := 12 + p) (i := 0) (ci := 1) (cv_lt_p hp6) (cv_shC_p hp6) rfl (by decide) (o := none) rfl iw_X1 wfX1_9 (D 1 (1, .getfield 9, 3) rfl) (v := .int (nI (L 0 p))) (congrArg Value.int (hL.2.2.2 p hp 0 (by decide))) ?_
  have hk : L 0 p = 0 ∨ L 0 p = 1 ∨ L 0 p = 2 := by omega
  rcases hk with hk | hk | hk
  · skip
    refine cv_top (w := nI 0) (congrArg nI hk) ?_
    refine cv_lookup C (D 2 (4, .lookupswitch 49 #[(1, 28), (2, 35)], 28) rfl) (off := 49) (tgt := 53) (by decide) (by decide) (by decide) ?_
    refine cv_aload_n C (pc' := 54) rfl (D 18 (53, .aload_n 0, 1) rfl) rfl (j := 0) rfl ?_
    refine cv_get C (pc' := 57) rfl (k0 := 12 + p) (i := 3) (ci := 1) (cv_lt_p hp6) (cv_shC_p hp6) rfl (by decide) (o := none) rfl iw_X1 wfX1_15 (D 19 (54, .getfield 15, 3) rfl) (v := .int (nI (L 3 p))) (congrArg Value.int (hL.2.2.2 p hp 3 (by decide))) ?_
    exact cv_iret C Rt rfl (D 20 (57, .ireturn, 1) rfl) ⟨congrArg (fun z => some (Value.int z)) (by congr 1; unfold cv_tk; simp only [hk]; simp), rfl⟩
  · skip
    refine cv_top (w := nI 1) (congrArg nI hk) ?_
    refine cv_lookup C (D 2 (4, .lookupswitch 49 #[(1, 28), (2, 35)], 28) rfl) (off := 28) (tgt := 32) (by decide) (by decide) (by decide) ?_
    refine cv_aload_n C (pc' := 33) rfl (D 3 (32, .aload_n 0, 1) rfl) rfl (j := 0) rfl ?_
    refine cv_get C (pc' := 36) rfl (k0 := 12 + p) (i := 3) (ci := 1) (cv_lt_p hp6) (cv_shC_p hp6) rfl (by decide) (o := none) rfl iw_X1 wfX1_15 (D 4 (33, .getfield 15, 3) rfl) (v := .int (nI (L 3 p))) (congrArg Value.int (hL.2.2.2 p hp 3 (by decide))) ?_
    refine cv_iconst C (pc' := 37) rfl (D 5 (36, .iconst 1, 1) rfl) (v := nI 1) (by decide) ?_
    refine cv_iaddN C (pc' := 38) rfl (D 6 (37, .iadd, 1) rfl) ?_
    exact cv_iret C Rt rfl (D 7 (38, .ireturn, 1) rfl) ⟨congrArg (fun z => some (Value.int z)) (by congr 1; unfold cv_tk; simp only [hk]; simp), rfl⟩
  · skip
    refine cv_top (w := nI 2) (congrArg nI hk) ?_
    refine cv_lookup C (D 2 (4, .lookupswitch 49 #[(1, 28), (2, 35)], 28) rfl) (off := 35) (tgt := 39) (by decide) (by decide) (by decide) ?_
    refine cv_aload_n C (pc' := 40) rfl (D 8 (39, .aload_n 0, 1) rfl) rfl (j := 0) rfl ?_
    refine cv_get C (pc' := 43) rfl (k0 := 12 + p) (i := 3) (ci := 1) (cv_lt_p hp6) (cv_shC_p hp6) rfl (by decide) (o := none) rfl iw_X1 wfX1_15 (D 9 (40, .getfield 15, 3) rfl) (v := .int (nI (L 3 p))) (congrArg Value.int (hL.2.2.2 p hp 3 (by decide))) ?_
    refine cv_iconst C (pc' := 44) rfl (D 10 (43, .iconst 2, 1) rfl) (v := nI 2) (by decide) ?_
    refine cv_idivN C (pc' := 45) rfl (by omega) (by decide) (by decide) (D 11 (44, .idiv, 1) rfl) ?_
    refine cv_aload_n C (pc' := 46) rfl (D 12 (45, .aload_n 0, 1) rfl) rfl (j := 0) rfl ?_
    refine cv_get C (pc' := 49) rfl (k0 := 12 + p) (i := 3) (ci := 1) (cv_lt_p hp6) (cv_shC_p hp6) rfl (by decide) (o := none) rfl iw_X1 wfX1_15 (D 13 (46, .getfield 15, 3) rfl) (v := .int (nI (L 3 p))) (congrArg Value.int (hL.2.2.2 p hp 3 (by decide))) ?_
    refine cv_iconst C (pc' := 50) rfl (D 14 (49, .iconst 2, 1) rfl) (v := nI 2) (by decide) ?_
    refine cv_iremN C (pc' := 51) rfl (by omega) (by decide) (by decide) (D 15 (50, .irem, 1) rfl) ?_
    refine cv_iaddN C (pc' := 52) rfl (D 16 (51, .iadd, 1) rfl) ?_
    exact cv_iret C Rt rfl (D 17 (52, .ireturn, 1) rfl) ⟨congrArg (fun z => some (Value.int z)) (by congr 1; unfold cv_tk; simp only [hk]; simp; omega), rfl⟩

set_option maxHeartbeats 4000000 in
set_option maxRecDepth 100000 in
theorem kX1_isOpenIn (L : cv_L) (p w : Nat) (σ : cv_St) (hL : cv_LC L σ) (hB : cv_LB L) (hp : p < L 7 0) (hw : w ≤ 9) : cv_Ct yX1_isOpenIn cX1_isOpenIn 2 (some .boolean) 0 0 0 26 cv_shC [.ref (12 + p), .int (nI w)] σ (cv_pu (.int (cv_b (decide (L 0 p = 2 ∨ w < L 4 p)))) σ) := by
  refine cv_enter (own := RX1) (by decide) rfl (Nat.le_of_ble_eq_true rfl) ?_
  intro X a C Rt hRm
  have D := @cv_dec _ _ dkX1_isOpenIn
  have hp6 : p < 6 := Nat.lt_of_lt_of_le hp hB.1
  obtain ⟨g0, g1, g2, g3, g4⟩ := hB.2.1 p hp
  show cv_At X _ _ σ 0 [(0, .ref (12 + p)), (1, .int (nI w))] []
  refine cv_aload_n C (pc' := 1) rfl (D 0 (0, .aload_n 0, 1) rfl) rfl (j := 0) rfl ?_
  refine cv_get C (pc' := 4) rfl (k0 := 12 + p) (i := 0) (ci := 1) (cv_lt_p hp6) (cv_shC_p hp6) rfl (by decide) (o := none) rfl iw_X1 wfX1_9 (D 1 (1, .getfield 9, 3) rfl) (v := .int (nI (L 0 p))) (congrArg Value.int (hL.2.2.2 p hp 0 (by decide))) ?_
  refine cv_iconst C (pc' := 5) rfl (D 2 (4, .iconst 2, 1) rfl) (v := nI 2) (by decide) ?_
  refine cv_icmp_eqN C (pc' := 8) rfl (by omega) (by omega) (tgt := 16) (D 3 (5, .if_icmp .eq 11, 3) rfl) (by decide) (fun b5 => ?_) (fun b5 => ?_)
  · skip
    refine cv_iconst C (pc' := 17) rfl (D 8 (16, .iconst 1, 1) rfl) (v := nI 1) (by decide) ?_
    refine cv_goto C (tgt := 21) (D 9 (17, .goto 4, 3) rfl) (by decide) ?_
    exact cv_iret C Rt (by decide) (D 11 (21, .ireturn, 1) rfl) ⟨congrArg (fun z => some (Value.int z)) (by rw [decide_eq_true (by omega)]; rfl), rfl⟩
  · skip
    refine cv_aload_n C (pc' := 9) rfl (D 4 (8, .aload_n 0, 1) rfl) rfl (j := 0) rfl ?_
    refine cv_get C (pc' := 12) rfl (k0 := 12 + p) (i := 4) (ci := 1) (cv_lt_p hp6) (cv_shC_p hp6) rfl (by decide) (o := none) rfl iw_X1 wfX1_18 (D 5 (9, .getfield 18, 3) rfl) (v := .int (nI (L 4 p))) (congrArg Value.int (hL.2.2.2 p hp 4 (by decide))) ?_
    refine cv_iload_n C (pc' := 13) rfl (D 6 (12, .iload_n 1, 1) rfl) rfl (j := 1) rfl ?_
    refine cv_icmp_leN C (pc' := 16) rfl (by omega) (by omega) (tgt := 20) (D 7 (13, .if_icmp .le 7, 3) rfl) (by decide) (fun b13 => ?_) (fun b13 => ?_)
    · skip
      refine cv_iconst C (pc' := 21) rfl (D 10 (20, .iconst 0, 1) rfl) (v := nI 0) (by decide) ?_
      exact cv_iret C Rt (by decide) (D 11 (21, .ireturn, 1) rfl) ⟨congrArg (fun z => some (Value.int z)) (by rw [decide_eq_false (by omega)]; rfl), rfl⟩
    · skip
      refine cv_iconst C (pc' := 17) rfl (D 8 (16, .iconst 1, 1) rfl) (v := nI 1) (by decide) ?_
      refine cv_goto C (tgt := 21) (D 9 (17, .goto 4, 3) rfl) (by decide) ?_
      exact cv_iret C Rt (by decide) (D 11 (21, .ireturn, 1) rfl) ⟨congrArg (fun z => some (Value.int z)) (by rw [decide_eq_true (by omega)]; rfl), rfl⟩

set_option maxHeartbeats 4000000 in
set_option maxRecDepth 100000 in
theorem kX1_otherEnd (L : cv_L) (p v : Nat) (σ : cv_St) (hL : cv_LC L σ) (hB : cv_LB L) (hp : p < L 7 0) (hv : v < 3) : cv_Ct yX1_otherEnd cX1_otherEnd 2 (some .int) 0 0 0 26 cv_shC [.ref (12 + p), .int (nI v)] σ (cv_pu (.int (cv_o (cv_oe L p v))) σ) := by
  refine cv_enter (own := RX1) (by decide) rfl (Nat.le_of_ble_eq_true rfl) ?_
  intro X a C Rt hRm
  have D := @cv_dec _ _ dkX1_otherEnd
  have hp6 : p < 6 := Nat.lt_of_lt_of_le hp hB.1
  obtain ⟨g0, g1, g2, g3, g4⟩ := hB.2.1 p hp
  show cv_At X _ _ σ 0 [(0, .ref (12 + p)), (1, .int (nI v))] []
  refine cv_iload_n C (pc' := 1) rfl (D 0 (0, .iload_n 1, 1) rfl) rfl (j := 1) rfl ?_
  refine cv_aload_n C (pc' := 2) rfl (D 1 (1, .aload_n 0, 1) rfl) rfl (j := 0) rfl ?_
  refine cv_get C (pc' := 5) rfl (k0 := 12 + p) (i := 1) (ci := 1) (cv_lt_p hp6) (cv_shC_p hp6) rfl (by decide) (o := none) rfl iw_X1 wfX1_21 (D 2 (2, .getfield 21, 3) rfl) (v := .int (nI (L 1 p))) (congrArg Value.int (hL.2.2.2 p hp 1 (by decide))) ?_
  refine cv_icmp_neN C (pc' := 8) rfl (by omega) (by omega) (tgt := 13) (D 3 (5, .if_icmp .ne 8, 3) rfl) (by decide) (fun b5 => ?_) (fun b5 => ?_)
  · skip
    refine cv_iload_n C (pc' := 14) rfl (D 7 (13, .iload_n 1, 1) rfl) rfl (j := 1) rfl ?_
    refine cv_aload_n C (pc' := 15) rfl (D 8 (14, .aload_n 0, 1) rfl) rfl (j := 0) rfl ?_
    refine cv_get C (pc' := 18) rfl (k0 := 12 + p) (i := 2) (ci := 1) (cv_lt_p hp6) (cv_shC_p hp6) rfl (by decide) (o := none) rfl iw_X1 wfX1_24 (D 9 (15, .getfield 24, 3) rfl) (v := .int (nI (L 2 p))) (congrArg Value.int (hL.2.2.2 p hp 2 (by decide))) ?_
    refine cv_icmp_neN C (pc' := 21) rfl (by omega) (by omega) (tgt := 28) (D 10 (18, .if_icmp .ne 10, 3) rfl) (by decide) (fun b18 => ?_) (fun b18 => ?_)
    · skip
      refine cv_bipush C (pc' := 30) rfl (D 14 (28, .bipush (-9), 2) rfl) (v := -9) (by decide) ?_
      exact cv_iret C Rt rfl (D 15 (30, .ireturn, 1) rfl) ⟨congrArg (fun z => some (Value.int z)) (by unfold cv_oe; rw [if_neg b5, if_neg b18]; rfl), rfl⟩
    · skip
      refine cv_aload_n C (pc' := 22) rfl (D 11 (21, .aload_n 0, 1) rfl) rfl (j := 0) rfl ?_
      refine cv_get C (pc' := 25) rfl (k0 := 12 + p) (i := 1) (ci := 1) (cv_lt_p hp6) (cv_shC_p hp6) rfl (by decide) (o := none) rfl iw_X1 wfX1_21 (D 12 (22, .getfield 21, 3) rfl) (v := .int (nI (L 1 p))) (congrArg Value.int (hL.2.2.2 p hp 1 (by decide))) ?_
      refine cv_goto C (tgt := 30) (D 13 (25, .goto 5, 3) rfl) (by decide) ?_
      exact cv_iret C Rt rfl (D 15 (30, .ireturn, 1) rfl) ⟨congrArg (fun z => some (Value.int z)) (by unfold cv_oe; rw [if_neg b5, if_pos b18]; rfl), rfl⟩
  · skip
    refine cv_aload_n C (pc' := 9) rfl (D 4 (8, .aload_n 0, 1) rfl) rfl (j := 0) rfl ?_
    refine cv_get C (pc' := 12) rfl (k0 := 12 + p) (i := 2) (ci := 1) (cv_lt_p hp6) (cv_shC_p hp6) rfl (by decide) (o := none) rfl iw_X1 wfX1_24 (D 5 (9, .getfield 24, 3) rfl) (v := .int (nI (L 2 p))) (congrArg Value.int (hL.2.2.2 p hp 2 (by decide))) ?_
    exact cv_iret C Rt rfl (D 6 (12, .ireturn, 1) rfl) ⟨congrArg (fun z => some (Value.int z)) (by unfold cv_oe; rw [if_pos b5]; rfl), rfl⟩
end
section
set_option maxHeartbeats 4000000 in
set_option maxRecDepth 100000 in
theorem kX0_arrival (L : cv_L) (p v d : Nat) (σ : cv_St) (hL : cv_LC L σ) (hB : cv_LB L) (hp : p < L 7 0) (hv : v < 3) (hd : d < 8) : cv_Ct yX0_arrival cX0_arrival 5 (some .int) 1 0 0 26 cv_shC [.ref 10, .ref (12 + p), .int (nI v), .int (nI d)] σ (cv_pu (.int (cv_o (cv_ar L p v d))) σ) := by
  refine cv_enter (own := RX0) (by decide) rfl (Nat.le_of_ble_eq_true rfl) ?_
  intro X a C Rt hRm
  have D := @cv_dec _ _ dkX0_arrival
  have hp6 : p < 6 := Nat.lt_of_lt_of_le hp hB.1
  have ht := cv_tk_b hB hp
  show cv_At X _ _ σ 0 [(0, .ref 10), (1, .ref (12 + p)), (2, .int (nI v)), (3, .int (nI d))] []
  refine cv_aload_n C (pc' := 1) rfl (D 0 (0, .aload_n 1, 1) rfl) rfl (j := 1) rfl ?_
  refine cv_iload_n C (pc' := 2) rfl (D 1 (1, .iload_n 2, 1) rfl) rfl (j := 2) rfl ?_
  refine cv_callV C (pc' := 5) rfl (k0 := 12 + p) (ci := 1) (As := [.int (nI v)]) (rest := []) (idx := 77) (np := 1) (kX1_otherEnd L p v σ hL hB hp (by omega)) (cv_lt_p hp6) (cv_shC_p hp6) rfl rfl (by decide +kernel) rfl wmX0_77 wi_yX1_otherEnd ws_yX1_otherEnd wn_X1 wc_yX1_otherEnd (by decide) (by decide) (D 2 (2, .invokevirtual 77, 3) rfl) (Nat.le_of_ble_eq_true rfl) rfl (fun w9 u9 h9 => ?_)
  rw [h9.1, h9.2]
  show cv_At X _ _ σ 5 _ [.int (cv_o (cv_oe L p v))]
  refine cv_bipush C (pc' := 7) rfl (D 3 (5, .bipush (-9), 2) rfl) (v := -9) (by decide) ?_
  refine cv_icmp_eqO C (pc' := 10) rfl (fun z h => Nat.lt_of_le_of_lt (cv_oe_le hB hp h) (by decide)) (tgt := 23) (D 4 (7, .if_icmp .eq 16, 3) rfl) (by decide) (fun b7 => ?_) (fun z7 b7 => ?_)
  · skip
    refine cv_bipush C (pc' := 25) rfl (D 12 (23, .bipush (-9), 2) rfl) (v := -9) (by decide) ?_
    exact cv_iret C Rt rfl (D 13 (25, .ireturn, 1) rfl) ⟨congrArg (fun z => some (Value.int z)) (by unfold cv_ar; rw [if_pos (Or.inl b7)]; rfl), rfl⟩
  · skip
    refine cv_aload_n C (pc' := 11) rfl (D 5 (10, .aload_n 1, 1) rfl) rfl (j := 1) rfl ?_
    refine cv_aload_n C (pc' := 12) rfl (D 6 (11, .aload_n 0, 1) rfl) rfl (j := 0) rfl ?_
    refine cv_get C (pc' := 15) rfl (k0 := 10) (i := 1) (ci := 0) (by decide) rfl rfl (by decide) (o := some 18) rfl iw_X0 wfX0_17 (D 7 (12, .getfield 17, 3) rfl) rfl ?_
    refine cv_iload_n C (pc' := 16) rfl (D 8 (15, .iload_n 3, 1) rfl) rfl (j := 3) rfl ?_
    refine cv_iald C (pc' := 17) rfl (k0 := 18) (j := d) (by decide) rfl rfl (by omega) (by decide) (D 9 (16, .iaload, 1) rfl) (v := nI (L 5 d)) (hL.2.1 _ (by omega)) ?_
    refine cv_callV C (pc' := 20) rfl (k0 := 12 + p) (ci := 1) (As := [.int (nI (L 5 d))]) (rest := []) (idx := 80) (np := 1) (kX1_isOpenIn L p (L 5 d) σ hL hB hp (hB.2.2.1 _ (by omega))) (cv_lt_p hp6) (cv_shC_p hp6) rfl rfl (by decide +kernel) rfl wmX0_80 wi_yX1_isOpenIn ws_yX1_isOpenIn wn_X1 wc_yX1_isOpenIn (by decide) (by decide) (D 10 (17, .invokevirtual 80, 3) rfl) (Nat.le_of_ble_eq_true rfl) rfl (fun w9 u9 h9 => ?_)
    rw [h9.1, h9.2]
    show cv_At X _ _ σ 20 _ [.int (cv_b (cv_op L p d))]
    refine cv_if_neB C (pc' := 23) rfl (tgt := 26) (D 11 (20, .ifCond .ne 6, 3) rfl) (by decide) (fun b20 => ?_) (fun b20 => ?_)
    · skip
      refine cv_iload_n C (pc' := 27) rfl (D 14 (26, .iload_n 3, 1) rfl) rfl (j := 3) rfl ?_
      refine cv_aload_n C (pc' := 28) rfl (D 15 (27, .aload_n 1, 1) rfl) rfl (j := 1) rfl ?_
      refine cv_callV C (pc' := 31) rfl (k0 := 12 + p) (ci := 1) (As := []) (rest := [.int (nI d)]) (idx := 84) (np := 0) (kX1_takes L p σ hL hB hp) (cv_lt_p hp6) (cv_shC_p hp6) rfl rfl (by decide +kernel) rfl wmX0_84 wi_yX1_takes ws_yX1_takes wn_X1 wc_yX1_takes (by decide) (by decide) (D 16 (28, .invokevirtual 84, 3) rfl) (Nat.le_of_ble_eq_true rfl) rfl (fun w9 u9 h9 => ?_)
      rw [h9.1, h9.2]
      show cv_At X _ _ σ 31 _ [.int (nI (cv_tk L p)), .int (nI d)]
      refine cv_iaddN C (pc' := 32) rfl (D 17 (31, .iadd, 1) rfl) ?_
      refine cv_istore C (pc' := 34) rfl (D 18 (32, .istore 4, 2) rfl) (by decide) (lv' := [(4, .int (nI (d + (cv_tk L p)))), (0, .ref 10), (1, .ref (12 + p)), (2, .int (nI v)), (3, .int (nI d))]) rfl ?_
      refine cv_iload C (pc' := 36) rfl (D 19 (34, .iload 4, 2) rfl) (j := 0) rfl ?_
      refine cv_bipush C (pc' := 38) rfl (D 20 (36, .bipush 7, 2) rfl) (v := nI 7) (by decide) ?_
      refine cv_icmp_gtN C (pc' := 41) rfl (by omega) (by omega) (tgt := 46) (D 21 (38, .if_icmp .gt 8, 3) rfl) (by decide) (fun b38 => ?_) (fun b38 => ?_)
      · skip
        refine cv_bipush C (pc' := 48) rfl (D 24 (46, .bipush (-9), 2) rfl) (v := -9) (by decide) ?_
        exact cv_iret C Rt rfl (D 25 (48, .ireturn, 1) rfl) ⟨congrArg (fun z => some (Value.int z)) (by unfold cv_ar; rw [if_neg (by simp [b7, b20]), if_neg (by omega)]; rfl), rfl⟩
      · skip
        refine cv_iload C (pc' := 43) rfl (D 22 (41, .iload 4, 2) rfl) (j := 0) rfl ?_
        refine cv_goto C (tgt := 48) (D 23 (43, .goto 5, 3) rfl) (by decide) ?_
        exact cv_iret C Rt rfl (D 25 (48, .ireturn, 1) rfl) ⟨congrArg (fun z => some (Value.int z)) (by unfold cv_ar; rw [if_neg (by simp [b7, b20]), if_pos (by omega)]; rfl), rfl⟩
    · skip
      refine cv_bipush C (pc' := 25) rfl (D 12 (23, .bipush (-9), 2) rfl) (v := -9) (by decide) ?_
      exact cv_iret C Rt rfl (D 13 (25, .ireturn, 1) rfl) ⟨congrArg (fun z => some (Value.int z)) (by unfold cv_ar; rw [if_pos (Or.inr b20)]; rfl), rfl⟩

set_option maxHeartbeats 4000000 in
set_option maxRecDepth 100000 in
theorem kX0_reachFrom (L : cv_L) (f : Nat → Nat) (v d : Nat) (x : Int32) (σ : cv_St) (hL : cv_LC L σ) (hB : cv_LB L) (hv : v < 3) (hd : d < 8) (hT : ∀ j, d < j / 3 → j < 24 → σ 20 j = nI (f j)) : cv_Ct yX0_reachFrom cX0_reachFrom 7 (some .int) 2 0 0 26 cv_shC [.ref 10, .int (nI v), .int (nI d), .int x] σ (cv_pu (.int (nI (cv_rv L (fun q => decide (nI q = x)) f v d))) σ) := by
  refine cv_enter (own := RX0) (by decide) rfl (Nat.le_of_ble_eq_true rfl) ?_
  intro X a C Rt hRm
  have D := @cv_dec _ _ dkX0_reachFrom
  have hn6 := hB.1
  show cv_At X _ _ σ 0 [(0, .ref 10), (1, .int (nI v)), (2, .int (nI d)), (3, .int x)] []
  refine cv_iconst C (pc' := 1) rfl (D 0 (0, .iconst 1, 1) rfl) (v := nI 1) (by decide) ?_
  refine cv_bipush C (pc' := 3) rfl (D 1 (1, .bipush 8, 2) rfl) (v := nI 8) (by decide) ?_
  refine cv_iload_n C (pc' := 4) rfl (D 2 (3, .iload_n 1, 1) rfl) rfl (j := 1) rfl ?_
  refine cv_imulN C (pc' := 5) rfl (D 3 (4, .imul, 1) rfl) ?_
  refine cv_iload_n C (pc' := 6) rfl (D 4 (5, .iload_n 2, 1) rfl) rfl (j := 2) rfl ?_
  refine cv_iaddN C (pc' := 7) rfl (D 5 (6, .iadd, 1) rfl) ?_
  refine cv_ishl1 C (pc' := 8) rfl (by omega) (D 6 (7, .ishl, 1) rfl) ?_
  refine cv_istore C (pc' := 10) rfl (D 7 (8, .istore 4, 2) rfl) (by decide) (lv' := [(4, .int (nI (2 ^ ((8 * v) + d)))), (0, .ref 10), (1, .int (nI v)), (2, .int (nI d)), (3, .int x)]) rfl ?_
  refine cv_iload_n C (pc' := 11) rfl (D 8 (10, .iload_n 2, 1) rfl) rfl (j := 3) rfl ?_
  refine cv_bipush C (pc' := 13) rfl (D 9 (11, .bipush 7, 2) rfl) (v := nI 7) (by decide) ?_
  refine cv_icmp_geN C (pc' := 16) rfl (by omega) (by omega) (tgt := 33) (D 10 (13, .if_icmp .ge 20, 3) rfl) (by decide) (fun b13 => ?_) (fun b13 => ?_)
  · skip
    refine cv_iconst C (pc' := 34) rfl (D 24 (33, .iconst 0, 1) rfl) (v := nI 0) (by decide) ?_
    refine cv_istore C (pc' := 36) rfl (D 25 (34, .istore 5, 2) rfl) (by decide) (lv' := [(5, .int (nI 0)), (4, .int (nI (2 ^ ((8 * v) + d)))), (0, .ref 10), (1, .int (nI v)), (2, .int (nI d)), (3, .int x)]) rfl ?_
    obtain ⟨i0, hi0⟩ : ∃ i0, i0 = 2 ^ ((8 * v) + d) := ⟨_, rfl⟩
    rw [← hi0]
    refine cv_pick [0, 1, 2, 3, 4, 5] (lv' := [(5, .int (nI 0)), (4, .int (nI (cv_rl L (fun q => decide (nI q = x)) f v d i0 0))), (0, .ref 10), (1, .int (nI v)), (2, .int (nI d)), (3, .int x)]) rfl ?_
    have LP36 : ∀ (r : Nat) (p : Nat), (p + r = L 7 0) → cv_At X (26, cv_shC, 0, 0, a) 7 σ 36 [(5, .int (nI p)), (4, .int (nI (cv_rl L (fun q => decide (nI q = x)) f v d i0 p))), (0, .ref 10), (1, .int (nI v)), (2, .int (nI d)), (3, .int x)] [] := by
      intro r
      induction r with
      | zero =>
        intro p hr
        refine cv_iload C (pc' := 38) rfl (D 26 (36, .iload 5, 2) rfl) (j := 0) rfl ?_
        refine cv_aload_n C (pc' := 39) rfl (D 27 (38, .aload_n 0, 1) rfl) rfl (j := 2) rfl ?_
        refine cv_get C (pc' := 42) rfl (k0 := 10) (i := 6) (ci := 0) (by decide) rfl rfl (by decide) (o := none) rfl iw_X0 wfX0_50 (D 28 (39, .getfield 50, 3) rfl) (v := .int (nI (L 7 0))) (congrArg Value.int hL.1) ?_
        refine cv_icmp_geN C (pc' := 45) rfl (by omega) (by omega) (tgt := 110) (D 29 (42, .if_icmp .ge 68, 3) rfl) (by decide) (fun b42 => ?_) (fun b42 => ?_)
        · skip
          refine cv_iload C (pc' := 112) rfl (D 65 (110, .iload 4, 2) rfl) (j := 1) rfl ?_
          exact cv_iret C Rt rfl (D 66 (112, .ireturn, 1) rfl) ⟨congrArg (fun z => some (Value.int z)) (by unfold cv_rv; rw [show p = L 7 0 by omega, hi0]; rw [if_neg (by omega)]), rfl⟩
        · skip
          omega
      | succ r ih36 =>
        intro p hr
        have hp : p < L 7 0 := by omega
        have hp6 : p < 6 := Nat.lt_of_lt_of_le hp hB.1
        refine cv_iload C (pc' := 38) rfl (D 26 (36, .iload 5, 2) rfl) (j := 0) rfl ?_
        refine cv_aload_n C (pc' := 39) rfl (D 27 (38, .aload_n 0, 1) rfl) rfl (j := 2) rfl ?_
        refine cv_get C (pc' := 42) rfl (k0 := 10) (i := 6) (ci := 0) (by decide) rfl rfl (by decide) (o := none) rfl iw_X0 wfX0_50 (D 28 (39, .getfield 50, 3) rfl) (v := .int (nI (L 7 0))) (congrArg Value.int hL.1) ?_
        refine cv_icmp_geN C (pc' := 45) rfl (by omega) (by omega) (tgt := 110) (D 29 (42, .if_icmp .ge 68, 3) rfl) (by decide) (fun b42 => ?_) (fun b42 => ?_)
        · skip
          omega
        · skip
          refine cv_iload C (pc' := 47) rfl (D 30 (45, .iload 5, 2) rfl) (j := 0) rfl ?_
          refine cv_iload_n C (pc' := 48) rfl (D 31 (47, .iload_n 3, 1) rfl) rfl (j := 5) rfl ?_
          refine cv_icmp_ne C (pc' := 51) rfl (tgt := 56) (D 32 (48, .if_icmp .ne 8, 3) rfl) (by decide) (fun b48 => ?_) (fun b48 => ?_)
          · skip
            refine cv_aload_n C (pc' := 57) rfl (D 35 (56, .aload_n 0, 1) rfl) rfl (j := 2) rfl ?_
            refine cv_aload_n C (pc' := 58) rfl (D 36 (57, .aload_n 0, 1) rfl) rfl (j := 2) rfl ?_
            refine cv_get C (pc' := 61) rfl (k0 := 10) (i := 0) (ci := 0) (by decide) rfl rfl (by decide) (o := some 11) rfl iw_X0 wfX0_11 (D 37 (58, .getfield 11, 3) rfl) rfl ?_
            refine cv_iload C (pc' := 63) rfl (D 38 (61, .iload 5, 2) rfl) (j := 0) rfl ?_
            refine cv_aald C (pc' := 64) rfl (k0 := 11) (j := p) (r := 12 + p) (by decide) rfl rfl rfl (cv_ix_p hp6) (by decide) (D 39 (63, .aaload, 1) rfl) ?_
            refine cv_iload_n C (pc' := 65) rfl (D 40 (64, .iload_n 1, 1) rfl) rfl (j := 3) rfl ?_
            refine cv_iload_n C (pc' := 66) rfl (D 41 (65, .iload_n 2, 1) rfl) rfl (j := 4) rfl ?_
            refine cv_callV C (pc' := 69) rfl (k0 := 10) (ci := 0) (As := [.ref (12 + p), .int (nI v), .int (nI d)]) (rest := []) (idx := 92) (np := 3) (kX0_arrival L p v d σ hL hB hp (by omega) (by omega)) (by decide) rfl rfl rfl (by decide +kernel) rfl wmX0_92 wi_yX0_arrival ws_yX0_arrival wn_X0 wc_yX0_arrival (by decide) (by decide) (D 42 (66, .invokevirtual 92, 3) rfl) (Nat.le_of_ble_eq_true rfl) rfl (fun w9 u9 h9 => ?_)
            rw [h9.1, h9.2]
            show cv_At X _ _ σ 69 _ [.int (cv_o (cv_ar L p v d))]
            refine cv_istore C (pc' := 71) rfl (D 43 (69, .istore 6, 2) rfl) (by decide) (lv' := [(6, .int (cv_o (cv_ar L p v d))), (5, .int (nI p)), (4, .int (nI (cv_rl L (fun q => decide (nI q = x)) f v d i0 p))), (0, .ref 10), (1, .int (nI v)), (2, .int (nI d)), (3, .int x)]) rfl ?_
            refine cv_iload C (pc' := 73) rfl (D 44 (71, .iload 6, 2) rfl) (j := 0) rfl ?_
            refine cv_bipush C (pc' := 75) rfl (D 45 (73, .bipush (-9), 2) rfl) (v := -9) (by decide) ?_
            refine cv_icmp_eqO C (pc' := 78) rfl (fun z h => Nat.lt_of_le_of_lt (cv_ar_le h) (by decide)) (tgt := 104) (D 46 (75, .if_icmp .eq 29, 3) rfl) (by decide) (fun b75 => ?_) (fun z75 b75 => ?_)
            · skip
              refine cv_iincN C (pc' := 107) rfl (D 63 (104, .iinc 5 1, 3) rfl) (j := 1) rfl (by decide) (lv' := [(5, .int (nI (p + 1))), (6, .int (cv_o (cv_ar L p v d))), (4, .int (nI (cv_rl L (fun q => decide (nI q = x)) f v d i0 p))), (0, .ref 10), (1, .int (nI v)), (2, .int (nI d)), (3, .int x)]) rfl ?_
              refine cv_goto C (tgt := 36) (D 64 (107, .goto (-71), 3) rfl) (by decide) ?_
              have hw : cv_rl L (fun q => decide (nI q = x)) f v d i0 p = cv_rl L (fun q => decide (nI q = x)) f v d i0 (p + 1) := by simp [cv_rl, cv_rc, b48, b75]
              rw [hw]
              refine cv_pick [0, 2, 3, 4, 5, 6] (lv' := [(5, .int (nI (p + 1))), (4, .int (nI (cv_rl L (fun q => decide (nI q = x)) f v d i0 (p + 1)))), (0, .ref 10), (1, .int (nI v)), (2, .int (nI d)), (3, .int x)]) rfl ?_
              exact ih36 (p + 1) (by omega)
            · skip
              have ez75 : cv_o (cv_ar L p v d) = nI z75 := by rw [b75]; rfl
              rw [ez75]
              refine cv_iload C (pc' := 80) rfl (D 47 (78, .iload 4, 2) rfl) (j := 2) rfl ?_
              refine cv_aload_n C (pc' := 81) rfl (D 48 (80, .aload_n 0, 1) rfl) rfl (j := 3) rfl ?_
              refine cv_get C (pc' := 84) rfl (k0 := 10) (i := 3) (ci := 0) (by decide) rfl rfl (by decide) (o := some 20) rfl iw_X0 wfX0_24 (D 49 (81, .getfield 24, 3) rfl) rfl ?_
              refine cv_iload C (pc' := 86) rfl (D 50 (84, .iload 6, 2) rfl) (j := 0) rfl ?_
              refine cv_iconst C (pc' := 87) rfl (D 51 (86, .iconst 3, 1) rfl) (v := nI 3) (by decide) ?_
              refine cv_imulN C (pc' := 88) rfl (D 52 (87, .imul, 1) rfl) ?_
              refine cv_aload_n C (pc' := 89) rfl (D 53 (88, .aload_n 0, 1) rfl) rfl (j := 3) rfl ?_
              refine cv_get C (pc' := 92) rfl (k0 := 10) (i := 0) (ci := 0) (by decide) rfl rfl (by decide) (o := some 11) rfl iw_X0 wfX0_11 (D 54 (89, .getfield 11, 3) rfl) rfl ?_
              refine cv_iload C (pc' := 94) rfl (D 55 (92, .iload 5, 2) rfl) (j := 1) rfl ?_
              refine cv_aald C (pc' := 95) rfl (k0 := 11) (j := p) (r := 12 + p) (by decide) rfl rfl rfl (cv_ix_p hp6) (by decide) (D 56 (94, .aaload, 1) rfl) ?_
              refine cv_iload_n C (pc' := 96) rfl (D 57 (95, .iload_n 1, 1) rfl) rfl (j := 4) rfl ?_
              refine cv_callV C (pc' := 99) rfl (k0 := 12 + p) (ci := 1) (As := [.int (nI v)]) (rest := [.int (nI (z75 * 3)), .ref 20, .int (nI (cv_rl L (fun q => decide (nI q = x)) f v d i0 p))]) (idx := 77) (np := 1) (kX1_otherEnd L p v σ hL hB hp (by omega)) (cv_lt_p hp6) (cv_shC_p hp6) rfl rfl (by decide +kernel) rfl wmX0_77 wi_yX1_otherEnd ws_yX1_otherEnd wn_X1 wc_yX1_otherEnd (by decide) (by decide) (D 58 (96, .invokevirtual 77, 3) rfl) (Nat.le_of_ble_eq_true rfl) rfl (fun w9 u9 h9 => ?_)
              rw [h9.1, h9.2]
              show cv_At X _ _ σ 99 _ [.int (cv_o (cv_oe L p v)), .int (nI (z75 * 3)), .ref 20, .int (nI (cv_rl L (fun q => decide (nI q = x)) f v d i0 p))]
              obtain ⟨q, hq⟩ : ∃ q, cv_oe L p v = some q := by
                cases ho : cv_oe L p v with
                | some q => exact ⟨q, rfl⟩
                | none => exact absurd b75 (by simp [cv_ar, ho])
              have b75oe := hq
              have hq2 := cv_oe_le hB hp hq
              have hz7 := cv_ar_le b75
              have hz8 : d < z75 := by have := cv_ar_gt hB hp b75; omega
              refine cv_top (w := nI q) (by rw [hq]; rfl) ?_
              refine cv_iaddN C (pc' := 100) rfl (D 59 (99, .iadd, 1) rfl) ?_
              refine cv_iald C (pc' := 101) rfl (k0 := 20) (j := (z75 * 3) + q) (by decide) rfl rfl (by omega) (by decide) (D 60 (100, .iaload, 1) rfl) (v := nI (f ((z75 * 3) + q))) (hT _ (by omega) (by omega)) ?_
              refine cv_iorN C (pc' := 102) rfl (D 61 (101, .ior, 1) rfl) ?_
              refine cv_istore C (pc' := 104) rfl (D 62 (102, .istore 4, 2) rfl) (by decide) (lv' := [(4, .int (nI ((cv_rl L (fun q => decide (nI q = x)) f v d i0 p) ||| (f ((z75 * 3) + q))))), (6, .int (nI z75)), (5, .int (nI p)), (0, .ref 10), (1, .int (nI v)), (2, .int (nI d)), (3, .int x)]) rfl ?_
              refine cv_iincN C (pc' := 107) rfl (D 63 (104, .iinc 5 1, 3) rfl) (j := 2) rfl (by decide) (lv' := [(5, .int (nI (p + 1))), (4, .int (nI ((cv_rl L (fun q => decide (nI q = x)) f v d i0 p) ||| (f ((z75 * 3) + q))))), (6, .int (nI z75)), (0, .ref 10), (1, .int (nI v)), (2, .int (nI d)), (3, .int x)]) rfl ?_
              refine cv_goto C (tgt := 36) (D 64 (107, .goto (-71), 3) rfl) (by decide) ?_
              have hw : (cv_rl L (fun q => decide (nI q = x)) f v d i0 p) ||| (f ((z75 * 3) + q)) = cv_rl L (fun q => decide (nI q = x)) f v d i0 (p + 1) := by simp [cv_rl, cv_rc, b48, b75, b75oe]
              rw [hw]
              refine cv_pick [0, 1, 3, 4, 5, 6] (lv' := [(5, .int (nI (p + 1))), (4, .int (nI (cv_rl L (fun q => decide (nI q = x)) f v d i0 (p + 1)))), (0, .ref 10), (1, .int (nI v)), (2, .int (nI d)), (3, .int x)]) rfl ?_
              exact ih36 (p + 1) (by omega)
          · skip
            refine cv_bipush C (pc' := 53) rfl (D 33 (51, .bipush (-9), 2) rfl) (v := -9) (by decide) ?_
            refine cv_goto C (tgt := 69) (D 34 (53, .goto 16, 3) rfl) (by decide) ?_
            refine cv_istore C (pc' := 71) rfl (D 43 (69, .istore 6, 2) rfl) (by decide) (lv' := [(6, .int (-9)), (5, .int (nI p)), (4, .int (nI (cv_rl L (fun q => decide (nI q = x)) f v d i0 p))), (0, .ref 10), (1, .int (nI v)), (2, .int (nI d)), (3, .int x)]) rfl ?_
            refine cv_iload C (pc' := 73) rfl (D 44 (71, .iload 6, 2) rfl) (j := 0) rfl ?_
            refine cv_bipush C (pc' := 75) rfl (D 45 (73, .bipush (-9), 2) rfl) (v := -9) (by decide) ?_
            refine cv_icmp_eq C (pc' := 78) rfl (tgt := 104) (D 46 (75, .if_icmp .eq 29, 3) rfl) (by decide) (fun _ => ?_) (fun h => absurd h (by decide))
            refine cv_iincN C (pc' := 107) rfl (D 63 (104, .iinc 5 1, 3) rfl) (j := 1) rfl (by decide) (lv' := [(5, .int (nI (p + 1))), (6, .int (-9)), (4, .int (nI (cv_rl L (fun q => decide (nI q = x)) f v d i0 p))), (0, .ref 10), (1, .int (nI v)), (2, .int (nI d)), (3, .int x)]) rfl ?_
            refine cv_goto C (tgt := 36) (D 64 (107, .goto (-71), 3) rfl) (by decide) ?_
            have hw : cv_rl L (fun q => decide (nI q = x)) f v d i0 p = cv_rl L (fun q => decide (nI q = x)) f v d i0 (p + 1) := by simp [cv_rl, cv_rc, b48]
            rw [hw]
            refine cv_pick [0, 2, 3, 4, 5, 6] (lv' := [(5, .int (nI (p + 1))), (4, .int (nI (cv_rl L (fun q => decide (nI q = x)) f v d i0 (p + 1)))), (0, .ref 10), (1, .int (nI v)), (2, .int (nI d)), (3, .int x)]) rfl ?_
            exact ih36 (p + 1) (by omega)
    exact LP36 (L 7 0) 0 (by omega)
  · skip
    refine cv_iload C (pc' := 18) rfl (D 11 (16, .iload 4, 2) rfl) (j := 0) rfl ?_
    refine cv_aload_n C (pc' := 19) rfl (D 12 (18, .aload_n 0, 1) rfl) rfl (j := 1) rfl ?_
    refine cv_get C (pc' := 22) rfl (k0 := 10) (i := 3) (ci := 0) (by decide) rfl rfl (by decide) (o := some 20) rfl iw_X0 wfX0_24 (D 13 (19, .getfield 24, 3) rfl) rfl ?_
    refine cv_iload_n C (pc' := 23) rfl (D 14 (22, .iload_n 2, 1) rfl) rfl (j := 3) rfl ?_
    refine cv_iconst C (pc' := 24) rfl (D 15 (23, .iconst 1, 1) rfl) (v := nI 1) (by decide) ?_
    refine cv_iaddN C (pc' := 25) rfl (D 16 (24, .iadd, 1) rfl) ?_
    refine cv_iconst C (pc' := 26) rfl (D 17 (25, .iconst 3, 1) rfl) (v := nI 3) (by decide) ?_
    refine cv_imulN C (pc' := 27) rfl (D 18 (26, .imul, 1) rfl) ?_
    refine cv_iload_n C (pc' := 28) rfl (D 19 (27, .iload_n 1, 1) rfl) rfl (j := 2) rfl ?_
    refine cv_iaddN C (pc' := 29) rfl (D 20 (28, .iadd, 1) rfl) ?_
    refine cv_iald C (pc' := 30) rfl (k0 := 20) (j := ((d + 1) * 3) + v) (by decide) rfl rfl (by omega) (by decide) (D 21 (29, .iaload, 1) rfl) (v := nI (f (((d + 1) * 3) + v))) (hT _ (by omega) (by omega)) ?_
    refine cv_iorN C (pc' := 31) rfl (D 22 (30, .ior, 1) rfl) ?_
    refine cv_istore C (pc' := 33) rfl (D 23 (31, .istore 4, 2) rfl) (by decide) (lv' := [(4, .int (nI ((2 ^ ((8 * v) + d)) ||| (f (((d + 1) * 3) + v))))), (0, .ref 10), (1, .int (nI v)), (2, .int (nI d)), (3, .int x)]) rfl ?_
    refine cv_iconst C (pc' := 34) rfl (D 24 (33, .iconst 0, 1) rfl) (v := nI 0) (by decide) ?_
    refine cv_istore C (pc' := 36) rfl (D 25 (34, .istore 5, 2) rfl) (by decide) (lv' := [(5, .int (nI 0)), (4, .int (nI ((2 ^ ((8 * v) + d)) ||| (f (((d + 1) * 3) + v))))), (0, .ref 10), (1, .int (nI v)), (2, .int (nI d)), (3, .int x)]) rfl ?_
    obtain ⟨i0, hi0⟩ : ∃ i0, i0 = (2 ^ ((8 * v) + d)) ||| (f (((d + 1) * 3) + v)) := ⟨_, rfl⟩
    rw [← hi0]
    refine cv_pick [0, 1, 2, 3, 4, 5] (lv' := [(5, .int (nI 0)), (4, .int (nI (cv_rl L (fun q => decide (nI q = x)) f v d i0 0))), (0, .ref 10), (1, .int (nI v)), (2, .int (nI d)), (3, .int x)]) rfl ?_
    have LP36 : ∀ (r : Nat) (p : Nat), (p + r = L 7 0) → cv_At X (26, cv_shC, 0, 0, a) 7 σ 36 [(5, .int (nI p)), (4, .int (nI (cv_rl L (fun q => decide (nI q = x)) f v d i0 p))), (0, .ref 10), (1, .int (nI v)), (2, .int (nI d)), (3, .int x)] [] := by
      intro r
      induction r with
      | zero =>
        intro p hr
        refine cv_iload C (pc' := 38) rfl (D 26 (36, .iload 5, 2) rfl) (j := 0) rfl ?_
        refine cv_aload_n C (pc' := 39) rfl (D 27 (38, .aload_n 0, 1) rfl) rfl (j := 2) rfl ?_
        refine cv_get C (pc' := 42) rfl (k0 := 10) (i := 6) (ci := 0) (by decide) rfl rfl (by decide) (o := none) rfl iw_X0 wfX0_50 (D 28 (39, .getfield 50, 3) rfl) (v := .int (nI (L 7 0))) (congrArg Value.int hL.1) ?_
        refine cv_icmp_geN C (pc' := 45) rfl (by omega) (by omega) (tgt := 110) (D 29 (42, .if_icmp .ge 68, 3) rfl) (by decide) (fun b42 => ?_) (fun b42 => ?_)
        · skip
          refine cv_iload C (pc' := 112) rfl (D 65 (110, .iload 4, 2) rfl) (j := 1) rfl ?_
          exact cv_iret C Rt rfl (D 66 (112, .ireturn, 1) rfl) ⟨congrArg (fun z => some (Value.int z)) (by unfold cv_rv; rw [show p = L 7 0 by omega, hi0]; simp [b13]), rfl⟩
        · skip
          omega
      | succ r ih36 =>
        intro p hr
        have hp : p < L 7 0 := by omega
        have hp6 : p < 6 := Nat.lt_of_lt_of_le hp hB.1
        refine cv_iload C (pc' := 38) rfl (D 26 (36, .iload 5, 2) rfl) (j := 0) rfl ?_
        refine cv_aload_n C (pc' := 39) rfl (D 27 (38, .aload_n 0, 1) rfl) rfl (j := 2) rfl ?_
        refine cv_get C (pc' := 42) rfl (k0 := 10) (i := 6) (ci := 0) (by decide) rfl rfl (by decide) (o := none) rfl iw_X0 wfX0_50 (D 28 (39, .getfield 50, 3) rfl) (v := .int (nI (L 7 0))) (congrArg Value.int hL.1) ?_
        refine cv_icmp_geN C (pc' := 45) rfl (by omega) (by omega) (tgt := 110) (D 29 (42, .if_icmp .ge 68, 3) rfl) (by decide) (fun b42 => ?_) (fun b42 => ?_)
        · skip
          omega
        · skip
          refine cv_iload C (pc' := 47) rfl (D 30 (45, .iload 5, 2) rfl) (j := 0) rfl ?_
          refine cv_iload_n C (pc' := 48) rfl (D 31 (47, .iload_n 3, 1) rfl) rfl (j := 5) rfl ?_
          refine cv_icmp_ne C (pc' := 51) rfl (tgt := 56) (D 32 (48, .if_icmp .ne 8, 3) rfl) (by decide) (fun b48 => ?_) (fun b48 => ?_)
          · skip
            refine cv_aload_n C (pc' := 57) rfl (D 35 (56, .aload_n 0, 1) rfl) rfl (j := 2) rfl ?_
            refine cv_aload_n C (pc' := 58) rfl (D 36 (57, .aload_n 0, 1) rfl) rfl (j := 2) rfl ?_
            refine cv_get C (pc' := 61) rfl (k0 := 10) (i := 0) (ci := 0) (by decide) rfl rfl (by decide) (o := some 11) rfl iw_X0 wfX0_11 (D 37 (58, .getfield 11, 3) rfl) rfl ?_
            refine cv_iload C (pc' := 63) rfl (D 38 (61, .iload 5, 2) rfl) (j := 0) rfl ?_
            refine cv_aald C (pc' := 64) rfl (k0 := 11) (j := p) (r := 12 + p) (by decide) rfl rfl rfl (cv_ix_p hp6) (by decide) (D 39 (63, .aaload, 1) rfl) ?_
            refine cv_iload_n C (pc' := 65) rfl (D 40 (64, .iload_n 1, 1) rfl) rfl (j := 3) rfl ?_
            refine cv_iload_n C (pc' := 66) rfl (D 41 (65, .iload_n 2, 1) rfl) rfl (j := 4) rfl ?_
            refine cv_callV C (pc' := 69) rfl (k0 := 10) (ci := 0) (As := [.ref (12 + p), .int (nI v), .int (nI d)]) (rest := []) (idx := 92) (np := 3) (kX0_arrival L p v d σ hL hB hp (by omega) (by omega)) (by decide) rfl rfl rfl (by decide +kernel) rfl wmX0_92 wi_yX0_arrival ws_yX0_arrival wn_X0 wc_yX0_arrival (by decide) (by decide) (D 42 (66, .invokevirtual 92, 3) rfl) (Nat.le_of_ble_eq_true rfl) rfl (fun w9 u9 h9 => ?_)
            rw [h9.1, h9.2]
            show cv_At X _ _ σ 69 _ [.int (cv_o (cv_ar L p v d))]
            refine cv_istore C (pc' := 71) rfl (D 43 (69, .istore 6, 2) rfl) (by decide) (lv' := [(6, .int (cv_o (cv_ar L p v d))), (5, .int (nI p)), (4, .int (nI (cv_rl L (fun q => decide (nI q = x)) f v d i0 p))), (0, .ref 10), (1, .int (nI v)), (2, .int (nI d)), (3, .int x)]) rfl ?_
            refine cv_iload C (pc' := 73) rfl (D 44 (71, .iload 6, 2) rfl) (j := 0) rfl ?_
            refine cv_bipush C (pc' := 75) rfl (D 45 (73, .bipush (-9), 2) rfl) (v := -9) (by decide) ?_
            refine cv_icmp_eqO C (pc' := 78) rfl (fun z h => Nat.lt_of_le_of_lt (cv_ar_le h) (by decide)) (tgt := 104) (D 46 (75, .if_icmp .eq 29, 3) rfl) (by decide) (fun b75 => ?_) (fun z75 b75 => ?_)
            · skip
              refine cv_iincN C (pc' := 107) rfl (D 63 (104, .iinc 5 1, 3) rfl) (j := 1) rfl (by decide) (lv' := [(5, .int (nI (p + 1))), (6, .int (cv_o (cv_ar L p v d))), (4, .int (nI (cv_rl L (fun q => decide (nI q = x)) f v d i0 p))), (0, .ref 10), (1, .int (nI v)), (2, .int (nI d)), (3, .int x)]) rfl ?_
              refine cv_goto C (tgt := 36) (D 64 (107, .goto (-71), 3) rfl) (by decide) ?_
              have hw : cv_rl L (fun q => decide (nI q = x)) f v d i0 p = cv_rl L (fun q => decide (nI q = x)) f v d i0 (p + 1) := by simp [cv_rl, cv_rc, b48, b75]
              rw [hw]
              refine cv_pick [0, 2, 3, 4, 5, 6] (lv' := [(5, .int (nI (p + 1))), (4, .int (nI (cv_rl L (fun q => decide (nI q = x)) f v d i0 (p + 1)))), (0, .ref 10), (1, .int (nI v)), (2, .int (nI d)), (3, .int x)]) rfl ?_
              exact ih36 (p + 1) (by omega)
            · skip
              have ez75 : cv_o (cv_ar L p v d) = nI z75 := by rw [b75]; rfl
              rw [ez75]
              refine cv_iload C (pc' := 80) rfl (D 47 (78, .iload 4, 2) rfl) (j := 2) rfl ?_
              refine cv_aload_n C (pc' := 81) rfl (D 48 (80, .aload_n 0, 1) rfl) rfl (j := 3) rfl ?_
              refine cv_get C (pc' := 84) rfl (k0 := 10) (i := 3) (ci := 0) (by decide) rfl rfl (by decide) (o := some 20) rfl iw_X0 wfX0_24 (D 49 (81, .getfield 24, 3) rfl) rfl ?_
              refine cv_iload C (pc' := 86) rfl (D 50 (84, .iload 6, 2) rfl) (j := 0) rfl ?_
              refine cv_iconst C (pc' := 87) rfl (D 51 (86, .iconst 3, 1) rfl) (v := nI 3) (by decide) ?_
              refine cv_imulN C (pc' := 88) rfl (D 52 (87, .imul, 1) rfl) ?_
              refine cv_aload_n C (pc' := 89) rfl (D 53 (88, .aload_n 0, 1) rfl) rfl (j := 3) rfl ?_
              refine cv_get C (pc' := 92) rfl (k0 := 10) (i := 0) (ci := 0) (by decide) rfl rfl (by decide) (o := some 11) rfl iw_X0 wfX0_11 (D 54 (89, .getfield 11, 3) rfl) rfl ?_
              refine cv_iload C (pc' := 94) rfl (D 55 (92, .iload 5, 2) rfl) (j := 1) rfl ?_
              refine cv_aald C (pc' := 95) rfl (k0 := 11) (j := p) (r := 12 + p) (by decide) rfl rfl rfl (cv_ix_p hp6) (by decide) (D 56 (94, .aaload, 1) rfl) ?_
              refine cv_iload_n C (pc' := 96) rfl (D 57 (95, .iload_n 1, 1) rfl) rfl (j := 4) rfl ?_
              refine cv_callV C (pc' := 99) rfl (k0 := 12 + p) (ci := 1) (As := [.int (nI v)]) (rest := [.int (nI (z75 * 3)), .ref 20, .int (nI (cv_rl L (fun q => decide (nI q = x)) f v d i0 p))]) (idx := 77) (np := 1) (kX1_otherEnd L p v σ hL hB hp (by omega)) (cv_lt_p hp6) (cv_shC_p hp6) rfl rfl (by decide +kernel) rfl wmX0_77 wi_yX1_otherEnd ws_yX1_otherEnd wn_X1 wc_yX1_otherEnd (by decide) (by decide) (D 58 (96, .invokevirtual 77, 3) rfl) (Nat.le_of_ble_eq_true rfl) rfl (fun w9 u9 h9 => ?_)
              rw [h9.1, h9.2]
              show cv_At X _ _ σ 99 _ [.int (cv_o (cv_oe L p v)), .int (nI (z75 * 3)), .ref 20, .int (nI (cv_rl L (fun q => decide (nI q = x)) f v d i0 p))]
              obtain ⟨q, hq⟩ : ∃ q, cv_oe L p v = some q := by
                cases ho : cv_oe L p v with
                | some q => exact ⟨q, rfl⟩
                | none => exact absurd b75 (by simp [cv_ar, ho])
              have b75oe := hq
              have hq2 := cv_oe_le hB hp hq
              have hz7 := cv_ar_le b75
              have hz8 : d < z75 := by have := cv_ar_gt hB hp b75; omega
              refine cv_top (w := nI q) (by rw [hq]; rfl) ?_
              refine cv_iaddN C (pc' := 100) rfl (D 59 (99, .iadd, 1) rfl) ?_
              refine cv_iald C (pc' := 101) rfl (k0 := 20) (j := (z75 * 3) + q) (by decide) rfl rfl (by omega) (by decide) (D 60 (100, .iaload, 1) rfl) (v := nI (f ((z75 * 3) + q))) (hT _ (by omega) (by omega)) ?_
              refine cv_iorN C (pc' := 102) rfl (D 61 (101, .ior, 1) rfl) ?_
              refine cv_istore C (pc' := 104) rfl (D 62 (102, .istore 4, 2) rfl) (by decide) (lv' := [(4, .int (nI ((cv_rl L (fun q => decide (nI q = x)) f v d i0 p) ||| (f ((z75 * 3) + q))))), (6, .int (nI z75)), (5, .int (nI p)), (0, .ref 10), (1, .int (nI v)), (2, .int (nI d)), (3, .int x)]) rfl ?_
              refine cv_iincN C (pc' := 107) rfl (D 63 (104, .iinc 5 1, 3) rfl) (j := 2) rfl (by decide) (lv' := [(5, .int (nI (p + 1))), (4, .int (nI ((cv_rl L (fun q => decide (nI q = x)) f v d i0 p) ||| (f ((z75 * 3) + q))))), (6, .int (nI z75)), (0, .ref 10), (1, .int (nI v)), (2, .int (nI d)), (3, .int x)]) rfl ?_
              refine cv_goto C (tgt := 36) (D 64 (107, .goto (-71), 3) rfl) (by decide) ?_
              have hw : (cv_rl L (fun q => decide (nI q = x)) f v d i0 p) ||| (f ((z75 * 3) + q)) = cv_rl L (fun q => decide (nI q = x)) f v d i0 (p + 1) := by simp [cv_rl, cv_rc, b48, b75, b75oe]
              rw [hw]
              refine cv_pick [0, 1, 3, 4, 5, 6] (lv' := [(5, .int (nI (p + 1))), (4, .int (nI (cv_rl L (fun q => decide (nI q = x)) f v d i0 (p + 1)))), (0, .ref 10), (1, .int (nI v)), (2, .int (nI d)), (3, .int x)]) rfl ?_
              exact ih36 (p + 1) (by omega)
          · skip
            refine cv_bipush C (pc' := 53) rfl (D 33 (51, .bipush (-9), 2) rfl) (v := -9) (by decide) ?_
            refine cv_goto C (tgt := 69) (D 34 (53, .goto 16, 3) rfl) (by decide) ?_
            refine cv_istore C (pc' := 71) rfl (D 43 (69, .istore 6, 2) rfl) (by decide) (lv' := [(6, .int (-9)), (5, .int (nI p)), (4, .int (nI (cv_rl L (fun q => decide (nI q = x)) f v d i0 p))), (0, .ref 10), (1, .int (nI v)), (2, .int (nI d)), (3, .int x)]) rfl ?_
            refine cv_iload C (pc' := 73) rfl (D 44 (71, .iload 6, 2) rfl) (j := 0) rfl ?_
            refine cv_bipush C (pc' := 75) rfl (D 45 (73, .bipush (-9), 2) rfl) (v := -9) (by decide) ?_
            refine cv_icmp_eq C (pc' := 78) rfl (tgt := 104) (D 46 (75, .if_icmp .eq 29, 3) rfl) (by decide) (fun _ => ?_) (fun h => absurd h (by decide))
            refine cv_iincN C (pc' := 107) rfl (D 63 (104, .iinc 5 1, 3) rfl) (j := 1) rfl (by decide) (lv' := [(5, .int (nI (p + 1))), (6, .int (-9)), (4, .int (nI (cv_rl L (fun q => decide (nI q = x)) f v d i0 p))), (0, .ref 10), (1, .int (nI v)), (2, .int (nI d)), (3, .int x)]) rfl ?_
            refine cv_goto C (tgt := 36) (D 64 (107, .goto (-71), 3) rfl) (by decide) ?_
            have hw : cv_rl L (fun q => decide (nI q = x)) f v d i0 p = cv_rl L (fun q => decide (nI q = x)) f v d i0 (p + 1) := by simp [cv_rl, cv_rc, b48]
            rw [hw]
            refine cv_pick [0, 2, 3, 4, 5, 6] (lv' := [(5, .int (nI (p + 1))), (4, .int (nI (cv_rl L (fun q => decide (nI q = x)) f v d i0 (p + 1)))), (0, .ref 10), (1, .int (nI v)), (2, .int (nI d)), (3, .int x)]) rfl ?_
            exact ih36 (p + 1) (by omega)
    exact LP36 (L 7 0) 0 (by omega)
end
section
set_option maxHeartbeats 4000000 in
set_option maxRecDepth 100000 in
theorem kX0_chart (L : cv_L) (x : Int32) (σ : cv_St) (hL : cv_LC L σ) (hB : cv_LB L) : cv_Ct yX0_chart cX0_chart 4 none 3 0 0 26 cv_shC [.ref 10, .int x] σ (fun v u => v = none ∧ cv_CO L (fun q => decide (nI q = x)) σ u 0) := by
  refine cv_enter (own := RX0) (by decide) rfl (Nat.le_of_ble_eq_true rfl) ?_
  intro X a C Rt hRm
  have D := @cv_dec _ _ dkX0_chart
  show cv_At X _ _ σ 0 [(0, .ref 10), (1, .int x)] []
  refine cv_bipush C (pc' := 2) rfl (D 0 (0, .bipush 7, 2) rfl) (v := nI 7) (by decide) ?_
  refine cv_istore_n C (pc' := 3) rfl (D 1 (2, .istore_n 2, 1) rfl) rfl (by decide) (lv' := [(2, .int (nI 7)), (0, .ref 10), (1, .int x)]) rfl ?_
  have LP3 : ∀ (j : Nat) (τ : cv_St), (j ≤ 8) → (cv_CO L (fun q => decide (nI q = x)) σ τ j) → cv_At X (26, cv_shC, 0, 0, a) 4 τ 3 [(2, .int (cv_dn j)), (0, .ref 10), (1, .int x)] [] := by
    intro j
    induction j with
    | zero =>
      intro τ hj hI
      show cv_At X _ _ τ 3 [(2, .int (-1)), (0, .ref 10), (1, .int x)] []
      refine cv_iload_n C (pc' := 4) rfl (D 2 (3, .iload_n 2, 1) rfl) rfl (j := 0) rfl ?_
      refine cv_if_lt C (pc' := 7) rfl (tgt := 43) (D 3 (4, .ifCond .lt 39, 3) rfl) (by decide) (fun _ => ?_) (fun h => absurd h (by decide))
      exact cv_vret C Rt (D 26 (43, .return_, 1) rfl) ⟨rfl, hI⟩
    | succ j ih3 =>
      intro τ hj hI
      show cv_At X _ _ τ 3 [(2, .int (nI j)), (0, .ref 10), (1, .int x)] []
      refine cv_iload_n C (pc' := 4) rfl (D 2 (3, .iload_n 2, 1) rfl) rfl (j := 0) rfl ?_
      refine cv_if_lt C (pc' := 7) rfl (tgt := 43) (D 3 (4, .ifCond .lt 39, 3) rfl) (by decide) (fun b4 => ?_) (fun b4 => ?_)
      · skip
        exact absurd b4 (nI_pos (by omega))
      · skip
        refine cv_iconst C (pc' := 8) rfl (D 4 (7, .iconst 0, 1) rfl) (v := nI 0) (by decide) ?_
        refine cv_istore_n C (pc' := 9) rfl (D 5 (8, .istore_n 3, 1) rfl) rfl (by decide) (lv' := [(3, .int (nI 0)), (2, .int (nI j)), (0, .ref 10), (1, .int x)]) rfl ?_
        have LP9 : ∀ (r : Nat) (v : Nat) (τ2 : cv_St), (v + r = 3) → (cv_CI L (fun q => decide (nI q = x)) σ τ2 j v) → cv_At X (26, cv_shC, 0, 0, a) 4 τ2 9 [(3, .int (nI v)), (2, .int (nI j)), (0, .ref 10), (1, .int x)] [] := by
          intro r
          induction r with
          | zero =>
            intro v τ2 hr hI2
            obtain rfl : v = 3 := by omega
            refine cv_iload_n C (pc' := 10) rfl (D 6 (9, .iload_n 3, 1) rfl) rfl (j := 0) rfl ?_
            refine cv_iconst C (pc' := 11) rfl (D 7 (10, .iconst 3, 1) rfl) (v := nI 3) (by decide) ?_
            refine cv_icmp_ge C (pc' := 14) rfl (tgt := 37) (D 8 (11, .if_icmp .ge 26, 3) rfl) (by decide) (fun _ => ?_) (fun h => absurd h (by decide))
            refine cv_iinc C (pc' := 40) rfl (D 24 (37, .iinc 2 (-1), 3) rfl) (j := 1) rfl (v := cv_dn j) (cv_dn_dec j) (by decide) (lv' := [(2, .int (cv_dn j)), (3, .int (nI 3)), (0, .ref 10), (1, .int x)]) rfl ?_
            refine cv_goto C (tgt := 3) (D 25 (40, .goto (-37), 3) rfl) (by decide) ?_
            refine cv_pick [0, 2, 3] (lv' := [(2, .int (cv_dn j)), (0, .ref 10), (1, .int x)]) rfl ?_
            exact ih3 τ2 (by omega) (cv_CO_s hI2 (by omega))
          | succ r ih9 =>
            intro v τ2 hr hI2
            have hLτ2 : cv_LC L τ2 := cv_LC_k (fun k h _ _ => hI2.1 k h) hL hB
            refine cv_iload_n C (pc' := 10) rfl (D 6 (9, .iload_n 3, 1) rfl) rfl (j := 0) rfl ?_
            refine cv_iconst C (pc' := 11) rfl (D 7 (10, .iconst 3, 1) rfl) (v := nI 3) (by decide) ?_
            refine cv_icmp_geN C (pc' := 14) rfl (by omega) (by omega) (tgt := 37) (D 8 (11, .if_icmp .ge 26, 3) rfl) (by decide) (fun b11 => ?_) (fun b11 => ?_)
            · skip
              omega
            · skip
              refine cv_aload_n C (pc' := 15) rfl (D 9 (14, .aload_n 0, 1) rfl) rfl (j := 2) rfl ?_
              refine cv_get C (pc' := 18) rfl (k0 := 10) (i := 3) (ci := 0) (by decide) rfl rfl (by decide) (o := some 20) rfl iw_X0 wfX0_24 (D 10 (15, .getfield 24, 3) rfl) rfl ?_
              refine cv_iload_n C (pc' := 19) rfl (D 11 (18, .iload_n 2, 1) rfl) rfl (j := 1) rfl ?_
              refine cv_iconst C (pc' := 20) rfl (D 12 (19, .iconst 3, 1) rfl) (v := nI 3) (by decide) ?_
              refine cv_imulN C (pc' := 21) rfl (D 13 (20, .imul, 1) rfl) ?_
              refine cv_iload_n C (pc' := 22) rfl (D 14 (21, .iload_n 3, 1) rfl) rfl (j := 0) rfl ?_
              refine cv_iaddN C (pc' := 23) rfl (D 15 (22, .iadd, 1) rfl) ?_
              refine cv_aload_n C (pc' := 24) rfl (D 16 (23, .aload_n 0, 1) rfl) rfl (j := 2) rfl ?_
              refine cv_iload_n C (pc' := 25) rfl (D 17 (24, .iload_n 3, 1) rfl) rfl (j := 0) rfl ?_
              refine cv_iload_n C (pc' := 26) rfl (D 18 (25, .iload_n 2, 1) rfl) rfl (j := 1) rfl ?_
              refine cv_iload_n C (pc' := 27) rfl (D 19 (26, .iload_n 1, 1) rfl) rfl (j := 3) rfl ?_
              refine cv_callV C (pc' := 30) rfl (k0 := 10) (ci := 0) (As := [.int (nI v), .int (nI j), .int x]) (rest := [.int (nI ((j * 3) + v)), .ref 20]) (idx := 88) (np := 3) (kX0_reachFrom L (cv_RT L (fun q => decide (nI q = x)) (7 - j)) v j x τ2 hLτ2 hB (by omega) (by omega) (fun i h1 h2 => hI2.2.1 i h2 h1)) (by decide) rfl rfl rfl (by decide +kernel) rfl wmX0_88 wi_yX0_reachFrom ws_yX0_reachFrom wn_X0 wc_yX0_reachFrom (by decide) (by decide) (D 20 (27, .invokevirtual 88, 3) rfl) (Nat.le_of_ble_eq_true rfl) rfl (fun w9 u9 h9 => ?_)
              rw [h9.1, h9.2]
              show cv_At X _ _ τ2 30 _ [.int (nI (cv_rv L (fun q => decide (nI q = x)) (cv_RT L (fun q => decide (nI q = x)) (7 - j)) v j)), .int (nI ((j * 3) + v)), .ref 20]
              refine cv_iast C (pc' := 31) rfl (k0 := 20) (j := (j * 3) + v) (by decide) rfl rfl (by omega) (by decide) (D 21 (30, .iastore, 1) rfl) ?_
              refine cv_iincN C (pc' := 34) rfl (D 22 (31, .iinc 3 1, 3) rfl) (j := 0) rfl (by decide) (lv' := [(3, .int (nI (v + 1))), (2, .int (nI j)), (0, .ref 10), (1, .int x)]) rfl ?_
              refine cv_goto C (tgt := 9) (D 23 (34, .goto (-25), 3) rfl) (by decide) ?_
              exact ih9 (v + 1) (cv_u τ2 20 ((j * 3) + v) (nI (cv_rv L (fun q => decide (nI q = x)) (cv_RT L (fun q => decide (nI q = x)) (7 - j)) v j))) (by omega) (cv_CI_s hI2 (by omega) (by omega))
        exact LP9 3 0 τ (by decide) (cv_CI_0 hI)
  exact LP3 8 σ (by decide) (cv_CO_0 L _ σ)

set_option maxHeartbeats 4000000 in
set_option maxRecDepth 100000 in
theorem kX0_firstDayIn (f : Nat → Nat) (w v d t : Nat) (σ : cv_St) (hT : cv_TC f σ) (hw : w < 3) (hv : v < 3) (hd : d < 8) (ht : t < 2 ^ 31) : cv_Ct yX0_firstDayIn cX0_firstDayIn 7 (some .int) 1 0 0 26 cv_shC [.ref 10, .int (nI w), .int (nI v), .int (nI d), .int (nI t)] σ (cv_pu (.int (cv_o (cv_fi f w v d t))) σ) := by
  refine cv_enter (own := RX0) (by decide) rfl (Nat.le_of_ble_eq_true rfl) ?_
  intro X a C Rt hRm
  have D := @cv_dec _ _ dkX0_firstDayIn
  show cv_At X _ _ σ 0 [(0, .ref 10), (1, .int (nI w)), (2, .int (nI v)), (3, .int (nI d)), (4, .int (nI t))] []
  refine cv_aload_n C (pc' := 1) rfl (D 0 (0, .aload_n 0, 1) rfl) rfl (j := 0) rfl ?_
  refine cv_get C (pc' := 4) rfl (k0 := 10) (i := 3) (ci := 0) (by decide) rfl rfl (by decide) (o := some 20) rfl iw_X0 wfX0_24 (D 1 (1, .getfield 24, 3) rfl) rfl ?_
  refine cv_iload_n C (pc' := 5) rfl (D 2 (4, .iload_n 3, 1) rfl) rfl (j := 3) rfl ?_
  refine cv_iconst C (pc' := 6) rfl (D 3 (5, .iconst 3, 1) rfl) (v := nI 3) (by decide) ?_
  refine cv_imulN C (pc' := 7) rfl (D 4 (6, .imul, 1) rfl) ?_
  refine cv_iload_n C (pc' := 8) rfl (D 5 (7, .iload_n 2, 1) rfl) rfl (j := 2) rfl ?_
  refine cv_iaddN C (pc' := 9) rfl (D 6 (8, .iadd, 1) rfl) ?_
  refine cv_iald C (pc' := 10) rfl (k0 := 20) (j := (d * 3) + v) (by decide) rfl rfl (by omega) (by decide) (D 7 (9, .iaload, 1) rfl) (v := nI (f ((d * 3) + v))) (hT _ (by omega)).1 ?_
  refine cv_bipush C (pc' := 12) rfl (D 8 (10, .bipush 8, 2) rfl) (v := nI 8) (by decide) ?_
  refine cv_iload_n C (pc' := 13) rfl (D 9 (12, .iload_n 1, 1) rfl) rfl (j := 1) rfl ?_
  refine cv_imulN C (pc' := 14) rfl (D 10 (13, .imul, 1) rfl) ?_
  refine cv_ishrN C (pc' := 15) rfl (hT _ (by omega)).2 (by omega) (D 11 (14, .ishr, 1) rfl) ?_
  refine cv_iload C (pc' := 17) rfl (D 12 (15, .iload 4, 2) rfl) (j := 4) rfl ?_
  refine cv_iandN C (pc' := 18) rfl (D 13 (17, .iand, 1) rfl) ?_
  refine cv_istore C (pc' := 20) rfl (D 14 (18, .istore 5, 2) rfl) (by decide) (lv' := [(5, .int (nI (((f ((d * 3) + v)) / 2 ^ (8 * w)) &&& t))), (0, .ref 10), (1, .int (nI w)), (2, .int (nI v)), (3, .int (nI d)), (4, .int (nI t))]) rfl ?_
  obtain ⟨t0, ht0⟩ : ∃ z, z = ((f ((d * 3) + v)) / 2 ^ (8 * w)) &&& t := ⟨_, rfl⟩
  rw [← ht0]
  have ht1 : t0 < 2 ^ 31 := by rw [ht0]; exact Nat.lt_of_le_of_lt Nat.and_le_right ht
  refine cv_iconst C (pc' := 21) rfl (D 15 (20, .iconst 0, 1) rfl) (v := nI 0) (by decide) ?_
  refine cv_istore C (pc' := 23) rfl (D 16 (21, .istore 6, 2) rfl) (by decide) (lv' := [(6, .int (nI 0)), (5, .int (nI t0)), (0, .ref 10), (1, .int (nI w)), (2, .int (nI v)), (3, .int (nI d)), (4, .int (nI t))]) rfl ?_
  have LP23 : ∀ (r : Nat) (i : Nat), (i + r = 8) → (∀ q, q < i → t0.testBit q = false) → cv_At X (26, cv_shC, 0, 0, a) 7 σ 23 [(6, .int (nI i)), (5, .int (nI t0))] [] := by
    intro r
    induction r with
    | zero =>
      intro i hr h0
      obtain rfl : i = 8 := by omega
      refine cv_iload C (pc' := 25) rfl (D 17 (23, .iload 6, 2) rfl) (j := 0) rfl ?_
      refine cv_bipush C (pc' := 27) rfl (D 18 (25, .bipush 8, 2) rfl) (v := nI 8) (by decide) ?_
      refine cv_icmp_ge C (pc' := 30) rfl (tgt := 49) (D 19 (27, .if_icmp .ge 22, 3) rfl) (by decide) (fun _ => ?_) (fun h => absurd h (by decide))
      refine cv_bipush C (pc' := 51) rfl (D 28 (49, .bipush (-9), 2) rfl) (v := -9) (by decide) ?_
      exact cv_iret C Rt rfl (D 29 (51, .ireturn, 1) rfl) ⟨congrArg (fun z => some (Value.int z)) (by unfold cv_fi; rw [← ht0, cv_fd_none h0]; rfl), rfl⟩
    | succ r ih23 =>
      intro i hr h0
      refine cv_iload C (pc' := 25) rfl (D 17 (23, .iload 6, 2) rfl) (j := 0) rfl ?_
      refine cv_bipush C (pc' := 27) rfl (D 18 (25, .bipush 8, 2) rfl) (v := nI 8) (by decide) ?_
      refine cv_icmp_geN C (pc' := 30) rfl (by omega) (by omega) (tgt := 49) (D 19 (27, .if_icmp .ge 22, 3) rfl) (by decide) (fun b27 => ?_) (fun b27 => ?_)
      · skip
        omega
      · skip
        refine cv_iload C (pc' := 32) rfl (D 20 (30, .iload 5, 2) rfl) (j := 1) rfl ?_
        refine cv_iload C (pc' := 34) rfl (D 21 (32, .iload 6, 2) rfl) (j := 0) rfl ?_
        refine cv_callSN C (pc' := 37) rfl (As := [.int (nI t0), .int (nI i)]) (rest := []) (idx := 96) (np := 2) (kX6_hasDay t0 i σ (by omega) (by omega)) (by decide +kernel) rfl weX0_96 wt_yX6_hasDay wn_X6 wc_yX6_hasDay (by decide) (by decide) (D 22 (34, .invokestatic 96, 3) rfl) (Nat.le_of_ble_eq_true rfl) rfl (fun w9 u9 h9 => ?_)
        rw [h9.1, h9.2]
        show cv_At X _ _ σ 37 _ [.int (cv_b (t0.testBit i))]
        refine cv_if_eqB C (pc' := 40) rfl (tgt := 43) (D 23 (37, .ifCond .eq 6, 3) rfl) (by decide) (fun b37 => ?_) (fun b37 => ?_)
        · skip
          refine cv_iincN C (pc' := 46) rfl (D 26 (43, .iinc 6 1, 3) rfl) (j := 0) rfl (by decide) (lv' := [(6, .int (nI (i + 1))), (5, .int (nI t0))]) rfl ?_
          refine cv_goto C (tgt := 23) (D 27 (46, .goto (-23), 3) rfl) (by decide) ?_
          exact ih23 (i + 1) (by omega) (fun q h => by rcases Nat.lt_succ_iff_lt_or_eq.mp h with h | h; exact h0 q h; rw [h]; exact b37)
        · skip
          refine cv_iload C (pc' := 42) rfl (D 24 (40, .iload 6, 2) rfl) (j := 0) rfl ?_
          exact cv_iret C Rt rfl (D 25 (42, .ireturn, 1) rfl) ⟨congrArg (fun z => some (Value.int z)) (by unfold cv_fi; rw [← ht0, cv_fd_some (by omega) b37 h0]; rfl), rfl⟩
  refine cv_pick [0, 1] (lv' := [(6, .int (nI 0)), (5, .int (nI t0))]) rfl ?_
  exact LP23 8 0 (by decide) (fun q h => by omega)

set_option maxHeartbeats 4000000 in
set_option maxRecDepth 100000 in
theorem kX0_doneWith (L : cv_L) (f : Nat → Nat) (d q t : Nat) (σ : cv_St) (hL : cv_LC L σ) (hB : cv_LB L) (hT : cv_TC f σ) (hd : d < 8) (hq : q < 2 ^ 31) (ht : t < 2 ^ 31) : cv_Ct yX0_doneWith cX0_doneWith 5 (some .int) 2 0 0 26 cv_shC [.ref 10, .int (nI d), .int (nI q), .int (nI t)] σ (cv_pu (.int (cv_o (cv_dw f (L 6 0) d q t))) σ) := by
  refine cv_enter (own := RX0) (by decide) rfl (Nat.le_of_ble_eq_true rfl) ?_
  intro X a C Rt hRm
  have D := @cv_dec _ _ dkX0_doneWith
  have hg := hB.2.2.2 0 (by decide)
  show cv_At X _ _ σ 0 [(0, .ref 10), (1, .int (nI d)), (2, .int (nI q)), (3, .int (nI t))] []
  refine cv_aload_n C (pc' := 1) rfl (D 0 (0, .aload_n 0, 1) rfl) rfl (j := 0) rfl ?_
  refine cv_get C (pc' := 4) rfl (k0 := 10) (i := 2) (ci := 0) (by decide) rfl rfl (by decide) (o := some 19) rfl iw_X0 wfX0_21 (D 1 (1, .getfield 21, 3) rfl) rfl ?_
  refine cv_iconst C (pc' := 5) rfl (D 2 (4, .iconst 0, 1) rfl) (v := nI 0) (by decide) ?_
  refine cv_iald C (pc' := 6) rfl (k0 := 19) (j := 0) (by decide) rfl rfl (by omega) (by decide) (D 3 (5, .iaload, 1) rfl) (v := nI (L 6 0)) (hL.2.2.1 _ (by omega)) ?_
  refine cv_iload_n C (pc' := 7) rfl (D 4 (6, .iload_n 1, 1) rfl) rfl (j := 1) rfl ?_
  refine cv_callSN C (pc' := 10) rfl (As := [.int (nI (L 6 0)), .int (nI d)]) (rest := []) (idx := 96) (np := 2) (kX6_hasDay (L 6 0) d σ (by omega) (by omega)) (by decide +kernel) rfl weX0_96 wt_yX6_hasDay wn_X6 wc_yX6_hasDay (by decide) (by decide) (D 5 (7, .invokestatic 96, 3) rfl) (Nat.le_of_ble_eq_true rfl) rfl (fun w9 u9 h9 => ?_)
  rw [h9.1, h9.2]
  show cv_At X _ _ σ 10 _ [.int (cv_b ((L 6 0).testBit d))]
  refine cv_if_neB C (pc' := 13) rfl (tgt := 16) (D 6 (10, .ifCond .ne 6, 3) rfl) (by decide) (fun b10 => ?_) (fun b10 => ?_)
  · skip
    refine cv_aload_n C (pc' := 17) rfl (D 9 (16, .aload_n 0, 1) rfl) rfl (j := 0) rfl ?_
    refine cv_iconst C (pc' := 18) rfl (D 10 (17, .iconst 1, 1) rfl) (v := nI 1) (by decide) ?_
    refine cv_iconst C (pc' := 19) rfl (D 11 (18, .iconst 0, 1) rfl) (v := nI 0) (by decide) ?_
    refine cv_iload_n C (pc' := 20) rfl (D 12 (19, .iload_n 1, 1) rfl) rfl (j := 1) rfl ?_
    refine cv_iload_n C (pc' := 21) rfl (D 13 (20, .iload_n 2, 1) rfl) rfl (j := 2) rfl ?_
    refine cv_callV C (pc' := 24) rfl (k0 := 10) (ci := 0) (As := [.int (nI 1), .int (nI 0), .int (nI d), .int (nI q)]) (rest := []) (idx := 103) (np := 4) (kX0_firstDayIn f 1 0 d q σ hT (by omega) (by omega) (by omega) (by omega)) (by decide) rfl rfl rfl (by decide +kernel) rfl wmX0_103 wi_yX0_firstDayIn ws_yX0_firstDayIn wn_X0 wc_yX0_firstDayIn (by decide) (by decide) (D 14 (21, .invokevirtual 103, 3) rfl) (Nat.le_of_ble_eq_true rfl) rfl (fun w9 u9 h9 => ?_)
    rw [h9.1, h9.2]
    show cv_At X _ _ σ 24 _ [.int (cv_o (cv_fi f 1 0 d q))]
    refine cv_istore C (pc' := 26) rfl (D 15 (24, .istore 4, 2) rfl) (by decide) (lv' := [(4, .int (cv_o (cv_fi f 1 0 d q))), (0, .ref 10), (1, .int (nI d)), (2, .int (nI q)), (3, .int (nI t))]) rfl ?_
    refine cv_iload C (pc' := 28) rfl (D 16 (26, .iload 4, 2) rfl) (j := 0) rfl ?_
    refine cv_bipush C (pc' := 30) rfl (D 17 (28, .bipush (-9), 2) rfl) (v := -9) (by decide) ?_
    refine cv_icmp_neO C (pc' := 33) rfl (fun z h => Nat.lt_trans (cv_fi_lt h) (by decide)) (tgt := 38) (D 18 (30, .if_icmp .ne 8, 3) rfl) (by decide) (fun z30 b30 => ?_) (fun b30 => ?_)
    · skip
      have ez30 : cv_o (cv_fi f 1 0 d q) = nI z30 := by rw [b30]; rfl
      rw [ez30]
      have hz := cv_fi_lt b30
      refine cv_aload_n C (pc' := 39) rfl (D 21 (38, .aload_n 0, 1) rfl) rfl (j := 1) rfl ?_
      refine cv_iconst C (pc' := 40) rfl (D 22 (39, .iconst 2, 1) rfl) (v := nI 2) (by decide) ?_
      refine cv_iconst C (pc' := 41) rfl (D 23 (40, .iconst 1, 1) rfl) (v := nI 1) (by decide) ?_
      refine cv_iload C (pc' := 43) rfl (D 24 (41, .iload 4, 2) rfl) (j := 0) rfl ?_
      refine cv_iload_n C (pc' := 44) rfl (D 25 (43, .iload_n 3, 1) rfl) rfl (j := 4) rfl ?_
      refine cv_callV C (pc' := 47) rfl (k0 := 10) (ci := 0) (As := [.int (nI 2), .int (nI 1), .int (nI z30), .int (nI t)]) (rest := []) (idx := 103) (np := 4) (kX0_firstDayIn f 2 1 z30 t σ hT (by omega) (by omega) (by omega) (by omega)) (by decide) rfl rfl rfl (by decide +kernel) rfl wmX0_103 wi_yX0_firstDayIn ws_yX0_firstDayIn wn_X0 wc_yX0_firstDayIn (by decide) (by decide) (D 26 (44, .invokevirtual 103, 3) rfl) (Nat.le_of_ble_eq_true rfl) rfl (fun w9 u9 h9 => ?_)
      rw [h9.1, h9.2]
      show cv_At X _ _ σ 47 _ [.int (cv_o (cv_fi f 2 1 z30 t))]
      exact cv_iret C Rt rfl (D 27 (47, .ireturn, 1) rfl) ⟨congrArg (fun z => some (Value.int z)) (by unfold cv_dw; rw [if_pos b10, b30]), rfl⟩
    · skip
      refine cv_bipush C (pc' := 35) rfl (D 19 (33, .bipush (-9), 2) rfl) (v := -9) (by decide) ?_
      refine cv_goto C (tgt := 47) (D 20 (35, .goto 12, 3) rfl) (by decide) ?_
      exact cv_iret C Rt rfl (D 27 (47, .ireturn, 1) rfl) ⟨congrArg (fun z => some (Value.int z)) (by unfold cv_dw; rw [if_pos b10, b30]; rfl), rfl⟩
  · skip
    refine cv_bipush C (pc' := 15) rfl (D 7 (13, .bipush (-9), 2) rfl) (v := -9) (by decide) ?_
    exact cv_iret C Rt rfl (D 8 (15, .ireturn, 1) rfl) ⟨congrArg (fun z => some (Value.int z)) (by unfold cv_dw; rw [b10]; rfl), rfl⟩

set_option maxHeartbeats 4000000 in
set_option maxRecDepth 100000 in
theorem kX0_doneOn (L : cv_L) (f : Nat → Nat) (d : Nat) (σ : cv_St) (hL : cv_LC L σ) (hB : cv_LB L) (hT : cv_TC f σ) (hd : d < 8) : cv_Ct yX0_doneOn cX0_doneOn 2 (some .int) 3 0 0 26 cv_shC [.ref 10, .int (nI d)] σ (cv_pu (.int (cv_o (cv_dw f (L 6 0) d (L 6 1) (L 6 2)))) σ) := by
  refine cv_enter (own := RX0) (by decide) rfl (Nat.le_of_ble_eq_true rfl) ?_
  intro X a C Rt hRm
  have D := @cv_dec _ _ dkX0_doneOn
  have hg1 := hB.2.2.2 1 (by decide)
  have hg2 := hB.2.2.2 2 (by decide)
  show cv_At X _ _ σ 0 [(0, .ref 10), (1, .int (nI d))] []
  refine cv_aload_n C (pc' := 1) rfl (D 0 (0, .aload_n 0, 1) rfl) rfl (j := 0) rfl ?_
  refine cv_iload_n C (pc' := 2) rfl (D 1 (1, .iload_n 1, 1) rfl) rfl (j := 1) rfl ?_
  refine cv_aload_n C (pc' := 3) rfl (D 2 (2, .aload_n 0, 1) rfl) rfl (j := 0) rfl ?_
  refine cv_get C (pc' := 6) rfl (k0 := 10) (i := 2) (ci := 0) (by decide) rfl rfl (by decide) (o := some 19) rfl iw_X0 wfX0_21 (D 3 (3, .getfield 21, 3) rfl) rfl ?_
  refine cv_iconst C (pc' := 7) rfl (D 4 (6, .iconst 1, 1) rfl) (v := nI 1) (by decide) ?_
  refine cv_iald C (pc' := 8) rfl (k0 := 19) (j := 1) (by decide) rfl rfl (by omega) (by decide) (D 5 (7, .iaload, 1) rfl) (v := nI (L 6 1)) (hL.2.2.1 _ (by omega)) ?_
  refine cv_aload_n C (pc' := 9) rfl (D 6 (8, .aload_n 0, 1) rfl) rfl (j := 0) rfl ?_
  refine cv_get C (pc' := 12) rfl (k0 := 10) (i := 2) (ci := 0) (by decide) rfl rfl (by decide) (o := some 19) rfl iw_X0 wfX0_21 (D 7 (9, .getfield 21, 3) rfl) rfl ?_
  refine cv_iconst C (pc' := 13) rfl (D 8 (12, .iconst 2, 1) rfl) (v := nI 2) (by decide) ?_
  refine cv_iald C (pc' := 14) rfl (k0 := 19) (j := 2) (by decide) rfl rfl (by omega) (by decide) (D 9 (13, .iaload, 1) rfl) (v := nI (L 6 2)) (hL.2.2.1 _ (by omega)) ?_
  refine cv_callV C (pc' := 17) rfl (k0 := 10) (ci := 0) (As := [.int (nI d), .int (nI (L 6 1)), .int (nI (L 6 2))]) (rest := []) (idx := 100) (np := 3) (kX0_doneWith L f d (L 6 1) (L 6 2) σ hL hB hT (by omega) (by omega) (by omega)) (by decide) rfl rfl rfl (by decide +kernel) rfl wmX0_100 wi_yX0_doneWith ws_yX0_doneWith wn_X0 wc_yX0_doneWith (by decide) (by decide) (D 10 (14, .invokevirtual 100, 3) rfl) (Nat.le_of_ble_eq_true rfl) rfl (fun w9 u9 h9 => ?_)
  rw [h9.1, h9.2]
  show cv_At X _ _ σ 17 _ [.int (cv_o (cv_dw f (L 6 0) d (L 6 1) (L 6 2)))]
  exact cv_iret C Rt rfl (D 11 (17, .ireturn, 1) rfl) ⟨rfl, rfl⟩

set_option maxHeartbeats 4000000 in
set_option maxRecDepth 100000 in
theorem kX0_isDoneBy (L : cv_L) (f : Nat → Nat) (w d q t : Nat) (σ : cv_St) (hL : cv_LC L σ) (hB : cv_LB L) (hT : cv_TC f σ) (hw : w < 8) (hd : d < 8) (hq : q < 2 ^ 31) (ht : t < 2 ^ 31) : cv_Ct yX0_isDoneBy cX0_isDoneBy 6 (some .boolean) 3 0 0 26 cv_shC [.ref 10, .int (nI w), .int (nI d), .int (nI q), .int (nI t)] σ (cv_pu (.int (cv_b (cv_by (cv_dw f (L 6 0) d q t) w))) σ) := by
  refine cv_enter (own := RX0) (by decide) rfl (Nat.le_of_ble_eq_true rfl) ?_
  intro X a C Rt hRm
  have D := @cv_dec _ _ dkX0_isDoneBy
  show cv_At X _ _ σ 0 [(0, .ref 10), (1, .int (nI w)), (2, .int (nI d)), (3, .int (nI q)), (4, .int (nI t))] []
  refine cv_aload_n C (pc' := 1) rfl (D 0 (0, .aload_n 0, 1) rfl) rfl (j := 0) rfl ?_
  refine cv_iload_n C (pc' := 2) rfl (D 1 (1, .iload_n 2, 1) rfl) rfl (j := 2) rfl ?_
  refine cv_iload_n C (pc' := 3) rfl (D 2 (2, .iload_n 3, 1) rfl) rfl (j := 3) rfl ?_
  refine cv_iload C (pc' := 5) rfl (D 3 (3, .iload 4, 2) rfl) (j := 4) rfl ?_
  refine cv_callV C (pc' := 8) rfl (k0 := 10) (ci := 0) (As := [.int (nI d), .int (nI q), .int (nI t)]) (rest := []) (idx := 100) (np := 3) (kX0_doneWith L f d q t σ hL hB hT (by omega) (by omega) (by omega)) (by decide) rfl rfl rfl (by decide +kernel) rfl wmX0_100 wi_yX0_doneWith ws_yX0_doneWith wn_X0 wc_yX0_doneWith (by decide) (by decide) (D 4 (5, .invokevirtual 100, 3) rfl) (Nat.le_of_ble_eq_true rfl) rfl (fun w9 u9 h9 => ?_)
  rw [h9.1, h9.2]
  show cv_At X _ _ σ 8 _ [.int (cv_o (cv_dw f (L 6 0) d q t))]
  refine cv_istore C (pc' := 10) rfl (D 5 (8, .istore 5, 2) rfl) (by decide) (lv' := [(5, .int (cv_o (cv_dw f (L 6 0) d q t))), (0, .ref 10), (1, .int (nI w)), (2, .int (nI d)), (3, .int (nI q)), (4, .int (nI t))]) rfl ?_
  refine cv_iload C (pc' := 12) rfl (D 6 (10, .iload 5, 2) rfl) (j := 0) rfl ?_
  refine cv_bipush C (pc' := 14) rfl (D 7 (12, .bipush (-9), 2) rfl) (v := -9) (by decide) ?_
  refine cv_icmp_eqO C (pc' := 17) rfl (fun z h => Nat.lt_trans (cv_dw_lt h) (by decide)) (tgt := 27) (D 8 (14, .if_icmp .eq 13, 3) rfl) (by decide) (fun b14 => ?_) (fun z14 b14 => ?_)
  · skip
    refine cv_iconst C (pc' := 28) rfl (D 14 (27, .iconst 0, 1) rfl) (v := nI 0) (by decide) ?_
    exact cv_iret C Rt (by decide) (D 15 (28, .ireturn, 1) rfl) ⟨congrArg (fun z => some (Value.int z)) (by rw [b14]; rfl), rfl⟩
  · skip
    have ez14 : cv_o (cv_dw f (L 6 0) d q t) = nI z14 := by rw [b14]; rfl
    rw [ez14]
    have hz := cv_dw_lt b14
    refine cv_iload C (pc' := 19) rfl (D 9 (17, .iload 5, 2) rfl) (j := 0) rfl ?_
    refine cv_iload_n C (pc' := 20) rfl (D 10 (19, .iload_n 1, 1) rfl) rfl (j := 2) rfl ?_
    refine cv_icmp_gtN C (pc' := 23) rfl (by omega) (by omega) (tgt := 27) (D 11 (20, .if_icmp .gt 7, 3) rfl) (by decide) (fun b20 => ?_) (fun b20 => ?_)
    · skip
      refine cv_iconst C (pc' := 28) rfl (D 14 (27, .iconst 0, 1) rfl) (v := nI 0) (by decide) ?_
      exact cv_iret C Rt (by decide) (D 15 (28, .ireturn, 1) rfl) ⟨congrArg (fun z => some (Value.int z)) (by rw [b14]; unfold cv_by; dsimp only; rw [decide_eq_false (by omega)]; rfl), rfl⟩
    · skip
      refine cv_iconst C (pc' := 24) rfl (D 12 (23, .iconst 1, 1) rfl) (v := nI 1) (by decide) ?_
      refine cv_goto C (tgt := 28) (D 13 (24, .goto 4, 3) rfl) (by decide) ?_
      exact cv_iret C Rt (by decide) (D 15 (28, .ireturn, 1) rfl) ⟨congrArg (fun z => some (Value.int z)) (by rw [b14]; unfold cv_by; dsimp only; rw [decide_eq_true (by omega)]; rfl), rfl⟩
end
section
set_option maxHeartbeats 4000000 in
set_option maxRecDepth 100000 in
theorem kX0_isSafeBy (L : cv_L) (f : Nat → Nat) (w d : Nat) (σ : cv_St) (hL : cv_LC L σ) (hB : cv_LB L) (hT : cv_TC f σ) (hw : w < 8) (hd : d < 8) : cv_Ct yX0_isSafeBy cX0_isSafeBy 6 (some .boolean) 4 0 0 26 cv_shC [.ref 10, .int (nI w), .int (nI d)] σ (cv_pu (.int (cv_b (cv_al (fun h => cv_by (cv_dw f (L 6 0) d (cv_clr (L 6 1) (h / 8)) (cv_clr (L 6 2) (h % 8))) w) 64))) σ) := by
  refine cv_enter (own := RX0) (by decide) rfl (Nat.le_of_ble_eq_true rfl) ?_
  intro X a C Rt hRm
  have D := @cv_dec _ _ dkX0_isSafeBy
  have hg1 := hB.2.2.2 1 (by decide)
  have hg2 := hB.2.2.2 2 (by decide)
  show cv_At X _ _ σ 0 [(0, .ref 10), (1, .int (nI w)), (2, .int (nI d))] []
  refine cv_iconst C (pc' := 1) rfl (D 0 (0, .iconst 0, 1) rfl) (v := nI 0) (by decide) ?_
  refine cv_istore_n C (pc' := 2) rfl (D 1 (1, .istore_n 3, 1) rfl) rfl (by decide) (lv' := [(3, .int (nI 0)), (0, .ref 10), (1, .int (nI w)), (2, .int (nI d))]) rfl ?_
  have LP2 : ∀ (r : Nat) (i : Nat), (i + r = 64) → (∀ q, q < i → (fun h => cv_by (cv_dw f (L 6 0) d (cv_clr (L 6 1) (h / 8)) (cv_clr (L 6 2) (h % 8))) w) q = true) → cv_At X (26, cv_shC, 0, 0, a) 6 σ 2 [(3, .int (nI i)), (0, .ref 10), (1, .int (nI w)), (2, .int (nI d))] [] := by
    intro r
    induction r with
    | zero =>
      intro i hr h0
      obtain rfl : i = 64 := by omega
      refine cv_iload_n C (pc' := 3) rfl (D 2 (2, .iload_n 3, 1) rfl) rfl (j := 0) rfl ?_
      refine cv_bipush C (pc' := 5) rfl (D 3 (3, .bipush 64, 2) rfl) (v := nI 64) (by decide) ?_
      refine cv_icmp_ge C (pc' := 8) rfl (tgt := 63) (D 4 (5, .if_icmp .ge 58, 3) rfl) (by decide) (fun _ => ?_) (fun h => absurd h (by decide))
      refine cv_iconst C (pc' := 64) rfl (D 42 (63, .iconst 1, 1) rfl) (v := nI 1) (by decide) ?_
      exact cv_iret C Rt (by decide) (D 43 (64, .ireturn, 1) rfl) ⟨congrArg (fun z => some (Value.int z)) (by rw [cv_al_t h0]; rfl), rfl⟩
    | succ r ih2 =>
      intro i hr h0
      have hc1 := cv_clr_le (L 6 1) (i / 8)
      have hc2 := cv_clr_le (L 6 2) (i % 8)
      refine cv_iload_n C (pc' := 3) rfl (D 2 (2, .iload_n 3, 1) rfl) rfl (j := 0) rfl ?_
      refine cv_bipush C (pc' := 5) rfl (D 3 (3, .bipush 64, 2) rfl) (v := nI 64) (by decide) ?_
      refine cv_icmp_geN C (pc' := 8) rfl (by omega) (by omega) (tgt := 63) (D 4 (5, .if_icmp .ge 58, 3) rfl) (by decide) (fun b5 => ?_) (fun b5 => ?_)
      · skip
        omega
      · skip
        refine cv_aload_n C (pc' := 9) rfl (D 5 (8, .aload_n 0, 1) rfl) rfl (j := 1) rfl ?_
        refine cv_get C (pc' := 12) rfl (k0 := 10) (i := 2) (ci := 0) (by decide) rfl rfl (by decide) (o := some 19) rfl iw_X0 wfX0_21 (D 6 (9, .getfield 21, 3) rfl) rfl ?_
        refine cv_iconst C (pc' := 13) rfl (D 7 (12, .iconst 1, 1) rfl) (v := nI 1) (by decide) ?_
        refine cv_iald C (pc' := 14) rfl (k0 := 19) (j := 1) (by decide) rfl rfl (by omega) (by decide) (D 8 (13, .iaload, 1) rfl) (v := nI (L 6 1)) (hL.2.2.1 _ (by omega)) ?_
        refine cv_iconst C (pc' := 15) rfl (D 9 (14, .iconst 1, 1) rfl) (v := nI 1) (by decide) ?_
        refine cv_iload_n C (pc' := 16) rfl (D 10 (15, .iload_n 3, 1) rfl) rfl (j := 0) rfl ?_
        refine cv_bipush C (pc' := 18) rfl (D 11 (16, .bipush 8, 2) rfl) (v := nI 8) (by decide) ?_
        refine cv_idivN C (pc' := 19) rfl (by omega) (by decide) (by decide) (D 12 (18, .idiv, 1) rfl) ?_
        refine cv_ishl1 C (pc' := 20) rfl (by omega) (D 13 (19, .ishl, 1) rfl) ?_
        refine cv_iconst C (pc' := 21) rfl (D 14 (20, .iconst (-1), 1) rfl) (v := -1) (by decide) ?_
        refine cv_ixor C (pc' := 22) rfl (D 15 (21, .ixor, 1) rfl) ?_
        refine cv_iand C (pc' := 23) rfl (D 16 (22, .iand, 1) rfl) ?_
        refine cv_top (w := nI (cv_clr (L 6 1) (i / 8))) (cv_clrN _ _) ?_
        refine cv_istore C (pc' := 25) rfl (D 17 (23, .istore 4, 2) rfl) (by decide) (lv' := [(4, .int (nI (cv_clr (L 6 1) (i / 8)))), (3, .int (nI i)), (0, .ref 10), (1, .int (nI w)), (2, .int (nI d))]) rfl ?_
        refine cv_aload_n C (pc' := 26) rfl (D 18 (25, .aload_n 0, 1) rfl) rfl (j := 2) rfl ?_
        refine cv_get C (pc' := 29) rfl (k0 := 10) (i := 2) (ci := 0) (by decide) rfl rfl (by decide) (o := some 19) rfl iw_X0 wfX0_21 (D 19 (26, .getfield 21, 3) rfl) rfl ?_
        refine cv_iconst C (pc' := 30) rfl (D 20 (29, .iconst 2, 1) rfl) (v := nI 2) (by decide) ?_
        refine cv_iald C (pc' := 31) rfl (k0 := 19) (j := 2) (by decide) rfl rfl (by omega) (by decide) (D 21 (30, .iaload, 1) rfl) (v := nI (L 6 2)) (hL.2.2.1 _ (by omega)) ?_
        refine cv_iconst C (pc' := 32) rfl (D 22 (31, .iconst 1, 1) rfl) (v := nI 1) (by decide) ?_
        refine cv_iload_n C (pc' := 33) rfl (D 23 (32, .iload_n 3, 1) rfl) rfl (j := 1) rfl ?_
        refine cv_bipush C (pc' := 35) rfl (D 24 (33, .bipush 8, 2) rfl) (v := nI 8) (by decide) ?_
        refine cv_iremN C (pc' := 36) rfl (by omega) (by decide) (by decide) (D 25 (35, .irem, 1) rfl) ?_
        refine cv_ishl1 C (pc' := 37) rfl (by omega) (D 26 (36, .ishl, 1) rfl) ?_
        refine cv_iconst C (pc' := 38) rfl (D 27 (37, .iconst (-1), 1) rfl) (v := -1) (by decide) ?_
        refine cv_ixor C (pc' := 39) rfl (D 28 (38, .ixor, 1) rfl) ?_
        refine cv_iand C (pc' := 40) rfl (D 29 (39, .iand, 1) rfl) ?_
        refine cv_top (w := nI (cv_clr (L 6 2) (i % 8))) (cv_clrN _ _) ?_
        refine cv_istore C (pc' := 42) rfl (D 30 (40, .istore 5, 2) rfl) (by decide) (lv' := [(5, .int (nI (cv_clr (L 6 2) (i % 8)))), (4, .int (nI (cv_clr (L 6 1) (i / 8)))), (3, .int (nI i)), (0, .ref 10), (1, .int (nI w)), (2, .int (nI d))]) rfl ?_
        refine cv_aload_n C (pc' := 43) rfl (D 31 (42, .aload_n 0, 1) rfl) rfl (j := 3) rfl ?_
        refine cv_iload_n C (pc' := 44) rfl (D 32 (43, .iload_n 1, 1) rfl) rfl (j := 4) rfl ?_
        refine cv_iload_n C (pc' := 45) rfl (D 33 (44, .iload_n 2, 1) rfl) rfl (j := 5) rfl ?_
        refine cv_iload C (pc' := 47) rfl (D 34 (45, .iload 4, 2) rfl) (j := 1) rfl ?_
        refine cv_iload C (pc' := 49) rfl (D 35 (47, .iload 5, 2) rfl) (j := 0) rfl ?_
        refine cv_callV C (pc' := 52) rfl (k0 := 10) (ci := 0) (As := [.int (nI w), .int (nI d), .int (nI (cv_clr (L 6 1) (i / 8))), .int (nI (cv_clr (L 6 2) (i % 8)))]) (rest := []) (idx := 107) (np := 4) (kX0_isDoneBy L f w d (cv_clr (L 6 1) (i / 8)) (cv_clr (L 6 2) (i % 8)) σ hL hB hT (by omega) (by omega) (by omega) (by omega)) (by decide) rfl rfl rfl (by decide +kernel) rfl wmX0_107 wi_yX0_isDoneBy ws_yX0_isDoneBy wn_X0 wc_yX0_isDoneBy (by decide) (by decide) (D 36 (49, .invokevirtual 107, 3) rfl) (Nat.le_of_ble_eq_true rfl) rfl (fun w9 u9 h9 => ?_)
        rw [h9.1, h9.2]
        show cv_At X _ _ σ 52 _ [.int (cv_b (cv_by (cv_dw f (L 6 0) d (cv_clr (L 6 1) (i / 8)) (cv_clr (L 6 2) (i % 8))) w))]
        refine cv_if_neB C (pc' := 55) rfl (tgt := 57) (D 37 (52, .ifCond .ne 5, 3) rfl) (by decide) (fun b52 => ?_) (fun b52 => ?_)
        · skip
          refine cv_iincN C (pc' := 60) rfl (D 40 (57, .iinc 3 1, 3) rfl) (j := 2) rfl (by decide) (lv' := [(3, .int (nI (i + 1))), (5, .int (nI (cv_clr (L 6 2) (i % 8)))), (4, .int (nI (cv_clr (L 6 1) (i / 8)))), (0, .ref 10), (1, .int (nI w)), (2, .int (nI d))]) rfl ?_
          refine cv_goto C (tgt := 2) (D 41 (60, .goto (-58), 3) rfl) (by decide) ?_
          refine cv_pick [0, 3, 4, 5] (lv' := [(3, .int (nI (i + 1))), (0, .ref 10), (1, .int (nI w)), (2, .int (nI d))]) rfl ?_
          exact ih2 (i + 1) (by omega) (cv_ex h0 b52)
        · skip
          refine cv_iconst C (pc' := 56) rfl (D 38 (55, .iconst 0, 1) rfl) (v := nI 0) (by decide) ?_
          exact cv_iret C Rt (by decide) (D 39 (56, .ireturn, 1) rfl) ⟨congrArg (fun z => some (Value.int z)) (by rw [cv_al_f (k := i) (by omega) b52]; rfl), rfl⟩
  exact LP2 64 0 (by decide) (fun q h => by omega)

def cv_pe (f : Nat → Nat) (g0 g1 g2 d w : Nat) : Option Nat := if cv_by (cv_dw f g0 d g1 g2) w = true then some 0 else if cv_by (cv_dw f g0 d 255 g2) w = true ∨ cv_by (cv_dw f g0 d g1 255) w = true then some 1 else if cv_by (cv_dw f g0 d 255 255) w = true then some 2 else none
set_option maxHeartbeats 4000000 in
set_option maxRecDepth 100000 in
theorem kX0_daysToPeace (L : cv_L) (f : Nat → Nat) (w d : Nat) (σ : cv_St) (hL : cv_LC L σ) (hB : cv_LB L) (hT : cv_TC f σ) (hw : w < 8) (hd : d < 8) : cv_Ct yX0_daysToPeace cX0_daysToPeace 3 (some .int) 4 0 0 26 cv_shC [.ref 10, .int (nI w), .int (nI d)] σ (cv_pu (.int (cv_o (cv_pe f (L 6 0) (L 6 1) (L 6 2) d w))) σ) := by
  refine cv_enter (own := RX0) (by decide) rfl (Nat.le_of_ble_eq_true rfl) ?_
  intro X a C Rt hRm
  have D := @cv_dec _ _ dkX0_daysToPeace
  have hg1 := hB.2.2.2 1 (by decide)
  have hg2 := hB.2.2.2 2 (by decide)
  show cv_At X _ _ σ 0 [(0, .ref 10), (1, .int (nI w)), (2, .int (nI d))] []
  refine cv_aload_n C (pc' := 1) rfl (D 0 (0, .aload_n 0, 1) rfl) rfl (j := 0) rfl ?_
  refine cv_iload_n C (pc' := 2) rfl (D 1 (1, .iload_n 1, 1) rfl) rfl (j := 1) rfl ?_
  refine cv_iload_n C (pc' := 3) rfl (D 2 (2, .iload_n 2, 1) rfl) rfl (j := 2) rfl ?_
  refine cv_aload_n C (pc' := 4) rfl (D 3 (3, .aload_n 0, 1) rfl) rfl (j := 0) rfl ?_
  refine cv_get C (pc' := 7) rfl (k0 := 10) (i := 2) (ci := 0) (by decide) rfl rfl (by decide) (o := some 19) rfl iw_X0 wfX0_21 (D 4 (4, .getfield 21, 3) rfl) rfl ?_
  refine cv_iconst C (pc' := 8) rfl (D 5 (7, .iconst 1, 1) rfl) (v := nI 1) (by decide) ?_
  refine cv_iald C (pc' := 9) rfl (k0 := 19) (j := 1) (by decide) rfl rfl (by omega) (by decide) (D 6 (8, .iaload, 1) rfl) (v := nI (L 6 1)) (hL.2.2.1 _ (by omega)) ?_
  refine cv_aload_n C (pc' := 10) rfl (D 7 (9, .aload_n 0, 1) rfl) rfl (j := 0) rfl ?_
  refine cv_get C (pc' := 13) rfl (k0 := 10) (i := 2) (ci := 0) (by decide) rfl rfl (by decide) (o := some 19) rfl iw_X0 wfX0_21 (D 8 (10, .getfield 21, 3) rfl) rfl ?_
  refine cv_iconst C (pc' := 14) rfl (D 9 (13, .iconst 2, 1) rfl) (v := nI 2) (by decide) ?_
  refine cv_iald C (pc' := 15) rfl (k0 := 19) (j := 2) (by decide) rfl rfl (by omega) (by decide) (D 10 (14, .iaload, 1) rfl) (v := nI (L 6 2)) (hL.2.2.1 _ (by omega)) ?_
  refine cv_callV C (pc' := 18) rfl (k0 := 10) (ci := 0) (As := [.int (nI w), .int (nI d), .int (nI (L 6 1)), .int (nI (L 6 2))]) (rest := []) (idx := 107) (np := 4) (kX0_isDoneBy L f w d (L 6 1) (L 6 2) σ hL hB hT (by omega) (by omega) (by omega) (by omega)) (by decide) rfl rfl rfl (by decide +kernel) rfl wmX0_107 wi_yX0_isDoneBy ws_yX0_isDoneBy wn_X0 wc_yX0_isDoneBy (by decide) (by decide) (D 11 (15, .invokevirtual 107, 3) rfl) (Nat.le_of_ble_eq_true rfl) rfl (fun w9 u9 h9 => ?_)
  rw [h9.1, h9.2]
  show cv_At X _ _ σ 18 _ [.int (cv_b (cv_by (cv_dw f (L 6 0) d (L 6 1) (L 6 2)) w))]
  refine cv_if_eqB C (pc' := 21) rfl (tgt := 23) (D 12 (18, .ifCond .eq 5, 3) rfl) (by decide) (fun b18 => ?_) (fun b18 => ?_)
  · skip
    refine cv_aload_n C (pc' := 24) rfl (D 15 (23, .aload_n 0, 1) rfl) rfl (j := 0) rfl ?_
    refine cv_iload_n C (pc' := 25) rfl (D 16 (24, .iload_n 1, 1) rfl) rfl (j := 1) rfl ?_
    refine cv_iload_n C (pc' := 26) rfl (D 17 (25, .iload_n 2, 1) rfl) rfl (j := 2) rfl ?_
    refine cv_sipush C (pc' := 29) rfl (D 18 (26, .sipush 255, 3) rfl) (v := nI 255) (by decide) ?_
    refine cv_aload_n C (pc' := 30) rfl (D 19 (29, .aload_n 0, 1) rfl) rfl (j := 0) rfl ?_
    refine cv_get C (pc' := 33) rfl (k0 := 10) (i := 2) (ci := 0) (by decide) rfl rfl (by decide) (o := some 19) rfl iw_X0 wfX0_21 (D 20 (30, .getfield 21, 3) rfl) rfl ?_
    refine cv_iconst C (pc' := 34) rfl (D 21 (33, .iconst 2, 1) rfl) (v := nI 2) (by decide) ?_
    refine cv_iald C (pc' := 35) rfl (k0 := 19) (j := 2) (by decide) rfl rfl (by omega) (by decide) (D 22 (34, .iaload, 1) rfl) (v := nI (L 6 2)) (hL.2.2.1 _ (by omega)) ?_
    refine cv_callV C (pc' := 38) rfl (k0 := 10) (ci := 0) (As := [.int (nI w), .int (nI d), .int (nI 255), .int (nI (L 6 2))]) (rest := []) (idx := 107) (np := 4) (kX0_isDoneBy L f w d 255 (L 6 2) σ hL hB hT (by omega) (by omega) (by omega) (by omega)) (by decide) rfl rfl rfl (by decide +kernel) rfl wmX0_107 wi_yX0_isDoneBy ws_yX0_isDoneBy wn_X0 wc_yX0_isDoneBy (by decide) (by decide) (D 23 (35, .invokevirtual 107, 3) rfl) (Nat.le_of_ble_eq_true rfl) rfl (fun w9 u9 h9 => ?_)
    rw [h9.1, h9.2]
    show cv_At X _ _ σ 38 _ [.int (cv_b (cv_by (cv_dw f (L 6 0) d 255 (L 6 2)) w))]
    refine cv_if_neB C (pc' := 41) rfl (tgt := 59) (D 24 (38, .ifCond .ne 21, 3) rfl) (by decide) (fun b38 => ?_) (fun b38 => ?_)
    · skip
      refine cv_iconst C (pc' := 60) rfl (D 35 (59, .iconst 1, 1) rfl) (v := nI 1) (by decide) ?_
      exact cv_iret C Rt rfl (D 36 (60, .ireturn, 1) rfl) ⟨congrArg (fun z => some (Value.int z)) (by unfold cv_pe; rw [if_neg (by simp [b18]), if_pos (Or.inl b38)]; rfl), rfl⟩
    · skip
      refine cv_aload_n C (pc' := 42) rfl (D 25 (41, .aload_n 0, 1) rfl) rfl (j := 0) rfl ?_
      refine cv_iload_n C (pc' := 43) rfl (D 26 (42, .iload_n 1, 1) rfl) rfl (j := 1) rfl ?_
      refine cv_iload_n C (pc' := 44) rfl (D 27 (43, .iload_n 2, 1) rfl) rfl (j := 2) rfl ?_
      refine cv_aload_n C (pc' := 45) rfl (D 28 (44, .aload_n 0, 1) rfl) rfl (j := 0) rfl ?_
      refine cv_get C (pc' := 48) rfl (k0 := 10) (i := 2) (ci := 0) (by decide) rfl rfl (by decide) (o := some 19) rfl iw_X0 wfX0_21 (D 29 (45, .getfield 21, 3) rfl) rfl ?_
      refine cv_iconst C (pc' := 49) rfl (D 30 (48, .iconst 1, 1) rfl) (v := nI 1) (by decide) ?_
      refine cv_iald C (pc' := 50) rfl (k0 := 19) (j := 1) (by decide) rfl rfl (by omega) (by decide) (D 31 (49, .iaload, 1) rfl) (v := nI (L 6 1)) (hL.2.2.1 _ (by omega)) ?_
      refine cv_sipush C (pc' := 53) rfl (D 32 (50, .sipush 255, 3) rfl) (v := nI 255) (by decide) ?_
      refine cv_callV C (pc' := 56) rfl (k0 := 10) (ci := 0) (As := [.int (nI w), .int (nI d), .int (nI (L 6 1)), .int (nI 255)]) (rest := []) (idx := 107) (np := 4) (kX0_isDoneBy L f w d (L 6 1) 255 σ hL hB hT (by omega) (by omega) (by omega) (by omega)) (by decide) rfl rfl rfl (by decide +kernel) rfl wmX0_107 wi_yX0_isDoneBy ws_yX0_isDoneBy wn_X0 wc_yX0_isDoneBy (by decide) (by decide) (D 33 (53, .invokevirtual 107, 3) rfl) (Nat.le_of_ble_eq_true rfl) rfl (fun w9 u9 h9 => ?_)
      rw [h9.1, h9.2]
      show cv_At X _ _ σ 56 _ [.int (cv_b (cv_by (cv_dw f (L 6 0) d (L 6 1) 255) w))]
      refine cv_if_eqB C (pc' := 59) rfl (tgt := 61) (D 34 (56, .ifCond .eq 5, 3) rfl) (by decide) (fun b56 => ?_) (fun b56 => ?_)
      · skip
        refine cv_aload_n C (pc' := 62) rfl (D 37 (61, .aload_n 0, 1) rfl) rfl (j := 0) rfl ?_
        refine cv_iload_n C (pc' := 63) rfl (D 38 (62, .iload_n 1, 1) rfl) rfl (j := 1) rfl ?_
        refine cv_iload_n C (pc' := 64) rfl (D 39 (63, .iload_n 2, 1) rfl) rfl (j := 2) rfl ?_
        refine cv_sipush C (pc' := 67) rfl (D 40 (64, .sipush 255, 3) rfl) (v := nI 255) (by decide) ?_
        refine cv_sipush C (pc' := 70) rfl (D 41 (67, .sipush 255, 3) rfl) (v := nI 255) (by decide) ?_
        refine cv_callV C (pc' := 73) rfl (k0 := 10) (ci := 0) (As := [.int (nI w), .int (nI d), .int (nI 255), .int (nI 255)]) (rest := []) (idx := 107) (np := 4) (kX0_isDoneBy L f w d 255 255 σ hL hB hT (by omega) (by omega) (by omega) (by omega)) (by decide) rfl rfl rfl (by decide +kernel) rfl wmX0_107 wi_yX0_isDoneBy ws_yX0_isDoneBy wn_X0 wc_yX0_isDoneBy (by decide) (by decide) (D 42 (70, .invokevirtual 107, 3) rfl) (Nat.le_of_ble_eq_true rfl) rfl (fun w9 u9 h9 => ?_)
        rw [h9.1, h9.2]
        show cv_At X _ _ σ 73 _ [.int (cv_b (cv_by (cv_dw f (L 6 0) d 255 255) w))]
        refine cv_if_eqB C (pc' := 76) rfl (tgt := 80) (D 43 (73, .ifCond .eq 7, 3) rfl) (by decide) (fun b73 => ?_) (fun b73 => ?_)
        · skip
          refine cv_bipush C (pc' := 82) rfl (D 46 (80, .bipush (-9), 2) rfl) (v := -9) (by decide) ?_
          exact cv_iret C Rt rfl (D 47 (82, .ireturn, 1) rfl) ⟨congrArg (fun z => some (Value.int z)) (by unfold cv_pe; rw [if_neg (by simp [b18]), if_neg (by simp [b38, b56]), if_neg (by simp [b73])]; rfl), rfl⟩
        · skip
          refine cv_iconst C (pc' := 77) rfl (D 44 (76, .iconst 2, 1) rfl) (v := nI 2) (by decide) ?_
          refine cv_goto C (tgt := 82) (D 45 (77, .goto 5, 3) rfl) (by decide) ?_
          exact cv_iret C Rt rfl (D 47 (82, .ireturn, 1) rfl) ⟨congrArg (fun z => some (Value.int z)) (by unfold cv_pe; rw [if_neg (by simp [b18]), if_neg (by simp [b38, b56]), if_pos b73]; rfl), rfl⟩
      · skip
        refine cv_iconst C (pc' := 60) rfl (D 35 (59, .iconst 1, 1) rfl) (v := nI 1) (by decide) ?_
        exact cv_iret C Rt rfl (D 36 (60, .ireturn, 1) rfl) ⟨congrArg (fun z => some (Value.int z)) (by unfold cv_pe; rw [if_neg (by simp [b18]), if_pos (Or.inr b56)]; rfl), rfl⟩
  · skip
    refine cv_iconst C (pc' := 22) rfl (D 13 (21, .iconst 0, 1) rfl) (v := nI 0) (by decide) ?_
    exact cv_iret C Rt rfl (D 14 (22, .ireturn, 1) rfl) ⟨congrArg (fun z => some (Value.int z)) (by unfold cv_pe; rw [if_pos b18]; rfl), rfl⟩

theorem cv_xm1 (g : Nat) : nI g ^^^ -1 = nI (g ^^^ 4294967295) := by rw [show (-1 : Int32) = nI 4294967295 by decide, cv_xorN]
set_option maxHeartbeats 4000000 in
set_option maxRecDepth 100000 in
theorem kX0_setsDoneBy1 (L : cv_L) (f : Nat → Nat) (w d : Nat) (σ : cv_St) (hL : cv_LC L σ) (hB : cv_LB L) (hT : cv_TC f σ) (hw : w < 8) (hd : d < 8) : cv_Ct yX0_setsDoneBy cX0_setsDoneBy 9 (some .int) 4 0 0 26 cv_shC [.ref 10, .int (nI w), .int (nI d), .int (nI 1)] σ (cv_pu (.int (nI (cv_cnt (fun i => decide (i &&& (L 6 1 ^^^ 4294967295) = 0) && cv_by (cv_dw f (L 6 0) d i (L 6 2)) w) 256))) σ) := by
  refine cv_enter (own := RX0) (by decide) rfl (Nat.le_of_ble_eq_true rfl) ?_
  intro X a C Rt hRm
  have D := @cv_dec _ _ dkX0_setsDoneBy
  have hg1 := hB.2.2.2 1 (by decide)
  have hg2 := hB.2.2.2 2 (by decide)
  show cv_At X _ _ σ 0 [(0, .ref 10), (1, .int (nI w)), (2, .int (nI d)), (3, .int (nI 1))] []
  refine cv_iconst C (pc' := 1) rfl (D 0 (0, .iconst 0, 1) rfl) (v := nI 0) (by decide) ?_
  refine cv_istore C (pc' := 3) rfl (D 1 (1, .istore 4, 2) rfl) (by decide) (lv' := [(4, .int (nI 0)), (0, .ref 10), (1, .int (nI w)), (2, .int (nI d)), (3, .int (nI 1))]) rfl ?_
  refine cv_iconst C (pc' := 4) rfl (D 2 (3, .iconst 0, 1) rfl) (v := nI 0) (by decide) ?_
  refine cv_istore C (pc' := 6) rfl (D 3 (4, .istore 5, 2) rfl) (by decide) (lv' := [(5, .int (nI 0)), (4, .int (nI 0)), (0, .ref 10), (1, .int (nI w)), (2, .int (nI d)), (3, .int (nI 1))]) rfl ?_
  refine cv_pick [0, 1, 2, 3, 4, 5] (lv' := [(5, .int (nI 0)), (4, .int (nI (cv_cnt (fun i => decide (i &&& (L 6 1 ^^^ 4294967295) = 0) && cv_by (cv_dw f (L 6 0) d i (L 6 2)) w) 0))), (0, .ref 10), (1, .int (nI w)), (2, .int (nI d)), (3, .int (nI 1))]) rfl ?_
  have LP6 : ∀ (r : Nat) (i : Nat), (i + r = 256) → cv_At X (26, cv_shC, 0, 0, a) 9 σ 6 [(5, .int (nI i)), (4, .int (nI (cv_cnt (fun i => decide (i &&& (L 6 1 ^^^ 4294967295) = 0) && cv_by (cv_dw f (L 6 0) d i (L 6 2)) w) i))), (0, .ref 10), (1, .int (nI w)), (2, .int (nI d)), (3, .int (nI 1))] [] := by
    intro r
    induction r with
    | zero =>
      intro i hr
      obtain rfl : i = 256 := by omega
      refine cv_iload C (pc' := 8) rfl (D 4 (6, .iload 5, 2) rfl) (j := 0) rfl ?_
      refine cv_sipush C (pc' := 11) rfl (D 5 (8, .sipush 255, 3) rfl) (v := nI 255) (by decide) ?_
      refine cv_icmp_gt C (pc' := 14) rfl (tgt := 98) (D 6 (11, .if_icmp .gt 87, 3) rfl) (by decide) (fun _ => ?_) (fun h => absurd h (by decide))
      refine cv_iload C (pc' := 100) rfl (D 52 (98, .iload 4, 2) rfl) (j := 1) rfl ?_
      exact cv_iret C Rt rfl (D 53 (100, .ireturn, 1) rfl) ⟨rfl, rfl⟩
    | succ r ih6 =>
      intro i hr
      have hxb : i &&& (L 6 1 ^^^ 4294967295) ≤ i := Nat.and_le_left
      refine cv_iload C (pc' := 8) rfl (D 4 (6, .iload 5, 2) rfl) (j := 0) rfl ?_
      refine cv_sipush C (pc' := 11) rfl (D 5 (8, .sipush 255, 3) rfl) (v := nI 255) (by decide) ?_
      refine cv_icmp_gtN C (pc' := 14) rfl (by omega) (by omega) (tgt := 98) (D 6 (11, .if_icmp .gt 87, 3) rfl) (by decide) (fun b11 => ?_) (fun b11 => ?_)
      · skip
        omega
      · skip
        refine cv_iload C (pc' := 16) rfl (D 7 (14, .iload 5, 2) rfl) (j := 0) rfl ?_
        refine cv_aload_n C (pc' := 17) rfl (D 8 (16, .aload_n 0, 1) rfl) rfl (j := 2) rfl ?_
        refine cv_get C (pc' := 20) rfl (k0 := 10) (i := 2) (ci := 0) (by decide) rfl rfl (by decide) (o := some 19) rfl iw_X0 wfX0_21 (D 9 (17, .getfield 21, 3) rfl) rfl ?_
        refine cv_iload_n C (pc' := 21) rfl (D 10 (20, .iload_n 3, 1) rfl) rfl (j := 5) rfl ?_
        refine cv_iald C (pc' := 22) rfl (k0 := 19) (j := 1) (by decide) rfl rfl (by omega) (by decide) (D 11 (21, .iaload, 1) rfl) (v := nI (L 6 1)) (hL.2.2.1 _ (by omega)) ?_
        refine cv_iconst C (pc' := 23) rfl (D 12 (22, .iconst (-1), 1) rfl) (v := -1) (by decide) ?_
        refine cv_ixor C (pc' := 24) rfl (D 13 (23, .ixor, 1) rfl) ?_
        refine cv_top (w := nI ((L 6 1) ^^^ 4294967295)) (cv_xm1 _) ?_
        refine cv_iandN C (pc' := 25) rfl (D 14 (24, .iand, 1) rfl) ?_
        refine cv_if_neN C (pc' := 28) rfl (by omega) (tgt := 32) (D 15 (25, .ifCond .ne 7, 3) rfl) (by decide) (fun b25 => ?_) (fun b25 => ?_)
        · skip
          refine cv_iconst C (pc' := 33) rfl (D 18 (32, .iconst 0, 1) rfl) (v := nI 0) (by decide) ?_
          refine cv_istore C (pc' := 35) rfl (D 19 (33, .istore 6, 2) rfl) (by decide) (lv' := [(6, .int (nI 0)), (5, .int (nI i)), (4, .int (nI (cv_cnt (fun i => decide (i &&& (L 6 1 ^^^ 4294967295) = 0) && cv_by (cv_dw f (L 6 0) d i (L 6 2)) w) i))), (0, .ref 10), (1, .int (nI w)), (2, .int (nI d)), (3, .int (nI 1))]) rfl ?_
          refine cv_iload_n C (pc' := 36) rfl (D 20 (35, .iload_n 3, 1) rfl) rfl (j := 6) rfl ?_
          refine cv_iconst C (pc' := 37) rfl (D 21 (36, .iconst 1, 1) rfl) (v := nI 1) (by decide) ?_
          refine cv_icmp_ne C (pc' := 40) rfl (tgt := 45) (D 22 (37, .if_icmp .ne 8, 3) rfl) (by decide) (fun h => absurd h (by decide)) (fun _ => ?_)
          refine cv_iload C (pc' := 42) rfl (D 23 (40, .iload 5, 2) rfl) (j := 1) rfl ?_
          refine cv_goto C (tgt := 51) (D 24 (42, .goto 9, 3) rfl) (by decide) ?_
          refine cv_istore C (pc' := 53) rfl (D 29 (51, .istore 7, 2) rfl) (by decide) (lv' := [(7, .int (nI i)), (6, .int (nI 0)), (5, .int (nI i)), (4, .int (nI (cv_cnt (fun i => decide (i &&& (L 6 1 ^^^ 4294967295) = 0) && cv_by (cv_dw f (L 6 0) d i (L 6 2)) w) i))), (0, .ref 10), (1, .int (nI w)), (2, .int (nI d)), (3, .int (nI 1))]) rfl ?_
          refine cv_iload_n C (pc' := 54) rfl (D 30 (53, .iload_n 3, 1) rfl) rfl (j := 7) rfl ?_
          refine cv_iconst C (pc' := 55) rfl (D 31 (54, .iconst 2, 1) rfl) (v := nI 2) (by decide) ?_
          refine cv_icmp_ne C (pc' := 58) rfl (tgt := 63) (D 32 (55, .if_icmp .ne 8, 3) rfl) (by decide) (fun _ => ?_) (fun h => absurd h (by decide))
          refine cv_aload_n C (pc' := 64) rfl (D 35 (63, .aload_n 0, 1) rfl) rfl (j := 4) rfl ?_
          refine cv_get C (pc' := 67) rfl (k0 := 10) (i := 2) (ci := 0) (by decide) rfl rfl (by decide) (o := some 19) rfl iw_X0 wfX0_21 (D 36 (64, .getfield 21, 3) rfl) rfl ?_
          refine cv_iconst C (pc' := 68) rfl (D 37 (67, .iconst 2, 1) rfl) (v := nI 2) (by decide) ?_
          refine cv_iald C (pc' := 69) rfl (k0 := 19) (j := 2) (by decide) rfl rfl (by omega) (by decide) (D 38 (68, .iaload, 1) rfl) (v := nI (L 6 2)) (hL.2.2.1 _ (by omega)) ?_
          refine cv_istore C (pc' := 71) rfl (D 39 (69, .istore 8, 2) rfl) (by decide) (lv' := [(8, .int (nI (L 6 2))), (7, .int (nI i)), (6, .int (nI 0)), (5, .int (nI i)), (4, .int (nI (cv_cnt (fun i => decide (i &&& (L 6 1 ^^^ 4294967295) = 0) && cv_by (cv_dw f (L 6 0) d i (L 6 2)) w) i))), (0, .ref 10), (1, .int (nI w)), (2, .int (nI d)), (3, .int (nI 1))]) rfl ?_
          refine cv_iload C (pc' := 73) rfl (D 40 (71, .iload 6, 2) rfl) (j := 2) rfl ?_
          refine cv_if_eq C (pc' := 76) rfl (tgt := 92) (D 41 (73, .ifCond .eq 19, 3) rfl) (by decide) (fun _ => ?_) (fun h => absurd h (by decide))
          refine cv_iincN C (pc' := 95) rfl (D 50 (92, .iinc 5 1, 3) rfl) (j := 3) rfl (by decide) (lv' := [(5, .int (nI (i + 1))), (8, .int (nI (L 6 2))), (7, .int (nI i)), (6, .int (nI 0)), (4, .int (nI (cv_cnt (fun i => decide (i &&& (L 6 1 ^^^ 4294967295) = 0) && cv_by (cv_dw f (L 6 0) d i (L 6 2)) w) i))), (0, .ref 10), (1, .int (nI w)), (2, .int (nI d)), (3, .int (nI 1))]) rfl ?_
          refine cv_goto C (tgt := 6) (D 51 (95, .goto (-89), 3) rfl) (by decide) ?_
          have hw9 : cv_cnt (fun i => decide (i &&& (L 6 1 ^^^ 4294967295) = 0) && cv_by (cv_dw f (L 6 0) d i (L 6 2)) w) i = cv_cnt (fun i => decide (i &&& (L 6 1 ^^^ 4294967295) = 0) && cv_by (cv_dw f (L 6 0) d i (L 6 2)) w) (i + 1) := by simp [cv_cnt]; intro h; omega
          rw [hw9]
          refine cv_pick [0, 4, 5, 6, 7, 8] (lv' := [(5, .int (nI (i + 1))), (4, .int (nI (cv_cnt (fun i => decide (i &&& (L 6 1 ^^^ 4294967295) = 0) && cv_by (cv_dw f (L 6 0) d i (L 6 2)) w) (i + 1)))), (0, .ref 10), (1, .int (nI w)), (2, .int (nI d)), (3, .int (nI 1))]) rfl ?_
          exact ih6 (i + 1) (by omega)
        · skip
          refine cv_iconst C (pc' := 29) rfl (D 16 (28, .iconst 1, 1) rfl) (v := nI 1) (by decide) ?_
          refine cv_goto C (tgt := 33) (D 17 (29, .goto 4, 3) rfl) (by decide) ?_
          refine cv_istore C (pc' := 35) rfl (D 19 (33, .istore 6, 2) rfl) (by decide) (lv' := [(6, .int (nI 1)), (5, .int (nI i)), (4, .int (nI (cv_cnt (fun i => decide (i &&& (L 6 1 ^^^ 4294967295) = 0) && cv_by (cv_dw f (L 6 0) d i (L 6 2)) w) i))), (0, .ref 10), (1, .int (nI w)), (2, .int (nI d)), (3, .int (nI 1))]) rfl ?_
          refine cv_iload_n C (pc' := 36) rfl (D 20 (35, .iload_n 3, 1) rfl) rfl (j := 6) rfl ?_
          refine cv_iconst C (pc' := 37) rfl (D 21 (36, .iconst 1, 1) rfl) (v := nI 1) (by decide) ?_
          refine cv_icmp_ne C (pc' := 40) rfl (tgt := 45) (D 22 (37, .if_icmp .ne 8, 3) rfl) (by decide) (fun h => absurd h (by decide)) (fun _ => ?_)
          refine cv_iload C (pc' := 42) rfl (D 23 (40, .iload 5, 2) rfl) (j := 1) rfl ?_
          refine cv_goto C (tgt := 51) (D 24 (42, .goto 9, 3) rfl) (by decide) ?_
          refine cv_istore C (pc' := 53) rfl (D 29 (51, .istore 7, 2) rfl) (by decide) (lv' := [(7, .int (nI i)), (6, .int (nI 1)), (5, .int (nI i)), (4, .int (nI (cv_cnt (fun i => decide (i &&& (L 6 1 ^^^ 4294967295) = 0) && cv_by (cv_dw f (L 6 0) d i (L 6 2)) w) i))), (0, .ref 10), (1, .int (nI w)), (2, .int (nI d)), (3, .int (nI 1))]) rfl ?_
          refine cv_iload_n C (pc' := 54) rfl (D 30 (53, .iload_n 3, 1) rfl) rfl (j := 7) rfl ?_
          refine cv_iconst C (pc' := 55) rfl (D 31 (54, .iconst 2, 1) rfl) (v := nI 2) (by decide) ?_
          refine cv_icmp_ne C (pc' := 58) rfl (tgt := 63) (D 32 (55, .if_icmp .ne 8, 3) rfl) (by decide) (fun _ => ?_) (fun h => absurd h (by decide))
          refine cv_aload_n C (pc' := 64) rfl (D 35 (63, .aload_n 0, 1) rfl) rfl (j := 4) rfl ?_
          refine cv_get C (pc' := 67) rfl (k0 := 10) (i := 2) (ci := 0) (by decide) rfl rfl (by decide) (o := some 19) rfl iw_X0 wfX0_21 (D 36 (64, .getfield 21, 3) rfl) rfl ?_
          refine cv_iconst C (pc' := 68) rfl (D 37 (67, .iconst 2, 1) rfl) (v := nI 2) (by decide) ?_
          refine cv_iald C (pc' := 69) rfl (k0 := 19) (j := 2) (by decide) rfl rfl (by omega) (by decide) (D 38 (68, .iaload, 1) rfl) (v := nI (L 6 2)) (hL.2.2.1 _ (by omega)) ?_
          refine cv_istore C (pc' := 71) rfl (D 39 (69, .istore 8, 2) rfl) (by decide) (lv' := [(8, .int (nI (L 6 2))), (7, .int (nI i)), (6, .int (nI 1)), (5, .int (nI i)), (4, .int (nI (cv_cnt (fun i => decide (i &&& (L 6 1 ^^^ 4294967295) = 0) && cv_by (cv_dw f (L 6 0) d i (L 6 2)) w) i))), (0, .ref 10), (1, .int (nI w)), (2, .int (nI d)), (3, .int (nI 1))]) rfl ?_
          refine cv_iload C (pc' := 73) rfl (D 40 (71, .iload 6, 2) rfl) (j := 2) rfl ?_
          refine cv_if_eq C (pc' := 76) rfl (tgt := 92) (D 41 (73, .ifCond .eq 19, 3) rfl) (by decide) (fun h => absurd h (by decide)) (fun _ => ?_)
          refine cv_aload_n C (pc' := 77) rfl (D 42 (76, .aload_n 0, 1) rfl) rfl (j := 5) rfl ?_
          refine cv_iload_n C (pc' := 78) rfl (D 43 (77, .iload_n 1, 1) rfl) rfl (j := 6) rfl ?_
          refine cv_iload_n C (pc' := 79) rfl (D 44 (78, .iload_n 2, 1) rfl) rfl (j := 7) rfl ?_
          refine cv_iload C (pc' := 81) rfl (D 45 (79, .iload 7, 2) rfl) (j := 1) rfl ?_
          refine cv_iload C (pc' := 83) rfl (D 46 (81, .iload 8, 2) rfl) (j := 0) rfl ?_
          refine cv_callV C (pc' := 86) rfl (k0 := 10) (ci := 0) (As := [.int (nI w), .int (nI d), .int (nI i), .int (nI (L 6 2))]) (rest := []) (idx := 107) (np := 4) (kX0_isDoneBy L f w d i (L 6 2) σ hL hB hT (by omega) (by omega) (by omega) (by omega)) (by decide) rfl rfl rfl (by decide +kernel) rfl wmX0_107 wi_yX0_isDoneBy ws_yX0_isDoneBy wn_X0 wc_yX0_isDoneBy (by decide) (by decide) (D 47 (83, .invokevirtual 107, 3) rfl) (Nat.le_of_ble_eq_true rfl) rfl (fun w9 u9 h9 => ?_)
          rw [h9.1, h9.2]
          show cv_At X _ _ σ 86 _ [.int (cv_b (cv_by (cv_dw f (L 6 0) d i (L 6 2)) w))]
          refine cv_if_eqB C (pc' := 89) rfl (tgt := 92) (D 48 (86, .ifCond .eq 6, 3) rfl) (by decide) (fun b86 => ?_) (fun b86 => ?_)
          · skip
            refine cv_iincN C (pc' := 95) rfl (D 50 (92, .iinc 5 1, 3) rfl) (j := 3) rfl (by decide) (lv' := [(5, .int (nI (i + 1))), (8, .int (nI (L 6 2))), (7, .int (nI i)), (6, .int (nI 1)), (4, .int (nI (cv_cnt (fun i => decide (i &&& (L 6 1 ^^^ 4294967295) = 0) && cv_by (cv_dw f (L 6 0) d i (L 6 2)) w) i))), (0, .ref 10), (1, .int (nI w)), (2, .int (nI d)), (3, .int (nI 1))]) rfl ?_
            refine cv_goto C (tgt := 6) (D 51 (95, .goto (-89), 3) rfl) (by decide) ?_
            have hw9 : cv_cnt (fun i => decide (i &&& (L 6 1 ^^^ 4294967295) = 0) && cv_by (cv_dw f (L 6 0) d i (L 6 2)) w) i = cv_cnt (fun i => decide (i &&& (L 6 1 ^^^ 4294967295) = 0) && cv_by (cv_dw f (L 6 0) d i (L 6 2)) w) (i + 1) := by simp [cv_cnt, b25, b86]
            rw [hw9]
            refine cv_pick [0, 4, 5, 6, 7, 8] (lv' := [(5, .int (nI (i + 1))), (4, .int (nI (cv_cnt (fun i => decide (i &&& (L 6 1 ^^^ 4294967295) = 0) && cv_by (cv_dw f (L 6 0) d i (L 6 2)) w) (i + 1)))), (0, .ref 10), (1, .int (nI w)), (2, .int (nI d)), (3, .int (nI 1))]) rfl ?_
            exact ih6 (i + 1) (by omega)
          · skip
            refine cv_iincN C (pc' := 92) rfl (D 49 (89, .iinc 4 1, 3) rfl) (j := 4) rfl (by decide) (lv' := [(4, .int (nI ((cv_cnt (fun i => decide (i &&& (L 6 1 ^^^ 4294967295) = 0) && cv_by (cv_dw f (L 6 0) d i (L 6 2)) w) i) + 1))), (8, .int (nI (L 6 2))), (7, .int (nI i)), (6, .int (nI 1)), (5, .int (nI i)), (0, .ref 10), (1, .int (nI w)), (2, .int (nI d)), (3, .int (nI 1))]) rfl ?_
            refine cv_iincN C (pc' := 95) rfl (D 50 (92, .iinc 5 1, 3) rfl) (j := 4) rfl (by decide) (lv' := [(5, .int (nI (i + 1))), (4, .int (nI ((cv_cnt (fun i => decide (i &&& (L 6 1 ^^^ 4294967295) = 0) && cv_by (cv_dw f (L 6 0) d i (L 6 2)) w) i) + 1))), (8, .int (nI (L 6 2))), (7, .int (nI i)), (6, .int (nI 1)), (0, .ref 10), (1, .int (nI w)), (2, .int (nI d)), (3, .int (nI 1))]) rfl ?_
            refine cv_goto C (tgt := 6) (D 51 (95, .goto (-89), 3) rfl) (by decide) ?_
            have hw9 : (cv_cnt (fun i => decide (i &&& (L 6 1 ^^^ 4294967295) = 0) && cv_by (cv_dw f (L 6 0) d i (L 6 2)) w) i) + 1 = cv_cnt (fun i => decide (i &&& (L 6 1 ^^^ 4294967295) = 0) && cv_by (cv_dw f (L 6 0) d i (L 6 2)) w) (i + 1) := by simp [cv_cnt, b25, b86]
            rw [hw9]
            refine cv_pick [0, 1, 5, 6, 7, 8] (lv' := [(5, .int (nI (i + 1))), (4, .int (nI (cv_cnt (fun i => decide (i &&& (L 6 1 ^^^ 4294967295) = 0) && cv_by (cv_dw f (L 6 0) d i (L 6 2)) w) (i + 1)))), (0, .ref 10), (1, .int (nI w)), (2, .int (nI d)), (3, .int (nI 1))]) rfl ?_
            exact ih6 (i + 1) (by omega)
  exact LP6 256 0 (by decide)

set_option maxHeartbeats 4000000 in
set_option maxRecDepth 100000 in
theorem kX0_setsDoneBy2 (L : cv_L) (f : Nat → Nat) (w d : Nat) (σ : cv_St) (hL : cv_LC L σ) (hB : cv_LB L) (hT : cv_TC f σ) (hw : w < 8) (hd : d < 8) : cv_Ct yX0_setsDoneBy cX0_setsDoneBy 9 (some .int) 4 0 0 26 cv_shC [.ref 10, .int (nI w), .int (nI d), .int (nI 2)] σ (cv_pu (.int (nI (cv_cnt (fun i => decide (i &&& (L 6 2 ^^^ 4294967295) = 0) && cv_by (cv_dw f (L 6 0) d (L 6 1) i) w) 256))) σ) := by
  refine cv_enter (own := RX0) (by decide) rfl (Nat.le_of_ble_eq_true rfl) ?_
  intro X a C Rt hRm
  have D := @cv_dec _ _ dkX0_setsDoneBy
  have hg1 := hB.2.2.2 1 (by decide)
  have hg2 := hB.2.2.2 2 (by decide)
  show cv_At X _ _ σ 0 [(0, .ref 10), (1, .int (nI w)), (2, .int (nI d)), (3, .int (nI 2))] []
  refine cv_iconst C (pc' := 1) rfl (D 0 (0, .iconst 0, 1) rfl) (v := nI 0) (by decide) ?_
  refine cv_istore C (pc' := 3) rfl (D 1 (1, .istore 4, 2) rfl) (by decide) (lv' := [(4, .int (nI 0)), (0, .ref 10), (1, .int (nI w)), (2, .int (nI d)), (3, .int (nI 2))]) rfl ?_
  refine cv_iconst C (pc' := 4) rfl (D 2 (3, .iconst 0, 1) rfl) (v := nI 0) (by decide) ?_
  refine cv_istore C (pc' := 6) rfl (D 3 (4, .istore 5, 2) rfl) (by decide) (lv' := [(5, .int (nI 0)), (4, .int (nI 0)), (0, .ref 10), (1, .int (nI w)), (2, .int (nI d)), (3, .int (nI 2))]) rfl ?_
  refine cv_pick [0, 1, 2, 3, 4, 5] (lv' := [(5, .int (nI 0)), (4, .int (nI (cv_cnt (fun i => decide (i &&& (L 6 2 ^^^ 4294967295) = 0) && cv_by (cv_dw f (L 6 0) d (L 6 1) i) w) 0))), (0, .ref 10), (1, .int (nI w)), (2, .int (nI d)), (3, .int (nI 2))]) rfl ?_
  have LP6 : ∀ (r : Nat) (i : Nat), (i + r = 256) → cv_At X (26, cv_shC, 0, 0, a) 9 σ 6 [(5, .int (nI i)), (4, .int (nI (cv_cnt (fun i => decide (i &&& (L 6 2 ^^^ 4294967295) = 0) && cv_by (cv_dw f (L 6 0) d (L 6 1) i) w) i))), (0, .ref 10), (1, .int (nI w)), (2, .int (nI d)), (3, .int (nI 2))] [] := by
    intro r
    induction r with
    | zero =>
      intro i hr
      obtain rfl : i = 256 := by omega
      refine cv_iload C (pc' := 8) rfl (D 4 (6, .iload 5, 2) rfl) (j := 0) rfl ?_
      refine cv_sipush C (pc' := 11) rfl (D 5 (8, .sipush 255, 3) rfl) (v := nI 255) (by decide) ?_
      refine cv_icmp_gt C (pc' := 14) rfl (tgt := 98) (D 6 (11, .if_icmp .gt 87, 3) rfl) (by decide) (fun _ => ?_) (fun h => absurd h (by decide))
      refine cv_iload C (pc' := 100) rfl (D 52 (98, .iload 4, 2) rfl) (j := 1) rfl ?_
      exact cv_iret C Rt rfl (D 53 (100, .ireturn, 1) rfl) ⟨rfl, rfl⟩
    | succ r ih6 =>
      intro i hr
      have hxb : i &&& (L 6 2 ^^^ 4294967295) ≤ i := Nat.and_le_left
      refine cv_iload C (pc' := 8) rfl (D 4 (6, .iload 5, 2) rfl) (j := 0) rfl ?_
      refine cv_sipush C (pc' := 11) rfl (D 5 (8, .sipush 255, 3) rfl) (v := nI 255) (by decide) ?_
      refine cv_icmp_gtN C (pc' := 14) rfl (by omega) (by omega) (tgt := 98) (D 6 (11, .if_icmp .gt 87, 3) rfl) (by decide) (fun b11 => ?_) (fun b11 => ?_)
      · skip
        omega
      · skip
        refine cv_iload C (pc' := 16) rfl (D 7 (14, .iload 5, 2) rfl) (j := 0) rfl ?_
        refine cv_aload_n C (pc' := 17) rfl (D 8 (16, .aload_n 0, 1) rfl) rfl (j := 2) rfl ?_
        refine cv_get C (pc' := 20) rfl (k0 := 10) (i := 2) (ci := 0) (by decide) rfl rfl (by decide) (o := some 19) rfl iw_X0 wfX0_21 (D 9 (17, .getfield 21, 3) rfl) rfl ?_
        refine cv_iload_n C (pc' := 21) rfl (D 10 (20, .iload_n 3, 1) rfl) rfl (j := 5) rfl ?_
        refine cv_iald C (pc' := 22) rfl (k0 := 19) (j := 2) (by decide) rfl rfl (by omega) (by decide) (D 11 (21, .iaload, 1) rfl) (v := nI (L 6 2)) (hL.2.2.1 _ (by omega)) ?_
        refine cv_iconst C (pc' := 23) rfl (D 12 (22, .iconst (-1), 1) rfl) (v := -1) (by decide) ?_
        refine cv_ixor C (pc' := 24) rfl (D 13 (23, .ixor, 1) rfl) ?_
        refine cv_top (w := nI ((L 6 2) ^^^ 4294967295)) (cv_xm1 _) ?_
        refine cv_iandN C (pc' := 25) rfl (D 14 (24, .iand, 1) rfl) ?_
        refine cv_if_neN C (pc' := 28) rfl (by omega) (tgt := 32) (D 15 (25, .ifCond .ne 7, 3) rfl) (by decide) (fun b25 => ?_) (fun b25 => ?_)
        · skip
          refine cv_iconst C (pc' := 33) rfl (D 18 (32, .iconst 0, 1) rfl) (v := nI 0) (by decide) ?_
          refine cv_istore C (pc' := 35) rfl (D 19 (33, .istore 6, 2) rfl) (by decide) (lv' := [(6, .int (nI 0)), (5, .int (nI i)), (4, .int (nI (cv_cnt (fun i => decide (i &&& (L 6 2 ^^^ 4294967295) = 0) && cv_by (cv_dw f (L 6 0) d (L 6 1) i) w) i))), (0, .ref 10), (1, .int (nI w)), (2, .int (nI d)), (3, .int (nI 2))]) rfl ?_
          refine cv_iload_n C (pc' := 36) rfl (D 20 (35, .iload_n 3, 1) rfl) rfl (j := 6) rfl ?_
          refine cv_iconst C (pc' := 37) rfl (D 21 (36, .iconst 1, 1) rfl) (v := nI 1) (by decide) ?_
          refine cv_icmp_ne C (pc' := 40) rfl (tgt := 45) (D 22 (37, .if_icmp .ne 8, 3) rfl) (by decide) (fun _ => ?_) (fun h => absurd h (by decide))
          refine cv_aload_n C (pc' := 46) rfl (D 25 (45, .aload_n 0, 1) rfl) rfl (j := 3) rfl ?_
          refine cv_get C (pc' := 49) rfl (k0 := 10) (i := 2) (ci := 0) (by decide) rfl rfl (by decide) (o := some 19) rfl iw_X0 wfX0_21 (D 26 (46, .getfield 21, 3) rfl) rfl ?_
          refine cv_iconst C (pc' := 50) rfl (D 27 (49, .iconst 1, 1) rfl) (v := nI 1) (by decide) ?_
          refine cv_iald C (pc' := 51) rfl (k0 := 19) (j := 1) (by decide) rfl rfl (by omega) (by decide) (D 28 (50, .iaload, 1) rfl) (v := nI (L 6 1)) (hL.2.2.1 _ (by omega)) ?_
          refine cv_istore C (pc' := 53) rfl (D 29 (51, .istore 7, 2) rfl) (by decide) (lv' := [(7, .int (nI (L 6 1))), (6, .int (nI 0)), (5, .int (nI i)), (4, .int (nI (cv_cnt (fun i => decide (i &&& (L 6 2 ^^^ 4294967295) = 0) && cv_by (cv_dw f (L 6 0) d (L 6 1) i) w) i))), (0, .ref 10), (1, .int (nI w)), (2, .int (nI d)), (3, .int (nI 2))]) rfl ?_
          refine cv_iload_n C (pc' := 54) rfl (D 30 (53, .iload_n 3, 1) rfl) rfl (j := 7) rfl ?_
          refine cv_iconst C (pc' := 55) rfl (D 31 (54, .iconst 2, 1) rfl) (v := nI 2) (by decide) ?_
          refine cv_icmp_ne C (pc' := 58) rfl (tgt := 63) (D 32 (55, .if_icmp .ne 8, 3) rfl) (by decide) (fun h => absurd h (by decide)) (fun _ => ?_)
          refine cv_iload C (pc' := 60) rfl (D 33 (58, .iload 5, 2) rfl) (j := 2) rfl ?_
          refine cv_goto C (tgt := 69) (D 34 (60, .goto 9, 3) rfl) (by decide) ?_
          refine cv_istore C (pc' := 71) rfl (D 39 (69, .istore 8, 2) rfl) (by decide) (lv' := [(8, .int (nI i)), (7, .int (nI (L 6 1))), (6, .int (nI 0)), (5, .int (nI i)), (4, .int (nI (cv_cnt (fun i => decide (i &&& (L 6 2 ^^^ 4294967295) = 0) && cv_by (cv_dw f (L 6 0) d (L 6 1) i) w) i))), (0, .ref 10), (1, .int (nI w)), (2, .int (nI d)), (3, .int (nI 2))]) rfl ?_
          refine cv_iload C (pc' := 73) rfl (D 40 (71, .iload 6, 2) rfl) (j := 2) rfl ?_
          refine cv_if_eq C (pc' := 76) rfl (tgt := 92) (D 41 (73, .ifCond .eq 19, 3) rfl) (by decide) (fun _ => ?_) (fun h => absurd h (by decide))
          refine cv_iincN C (pc' := 95) rfl (D 50 (92, .iinc 5 1, 3) rfl) (j := 3) rfl (by decide) (lv' := [(5, .int (nI (i + 1))), (8, .int (nI i)), (7, .int (nI (L 6 1))), (6, .int (nI 0)), (4, .int (nI (cv_cnt (fun i => decide (i &&& (L 6 2 ^^^ 4294967295) = 0) && cv_by (cv_dw f (L 6 0) d (L 6 1) i) w) i))), (0, .ref 10), (1, .int (nI w)), (2, .int (nI d)), (3, .int (nI 2))]) rfl ?_
          refine cv_goto C (tgt := 6) (D 51 (95, .goto (-89), 3) rfl) (by decide) ?_
          have hw9 : cv_cnt (fun i => decide (i &&& (L 6 2 ^^^ 4294967295) = 0) && cv_by (cv_dw f (L 6 0) d (L 6 1) i) w) i = cv_cnt (fun i => decide (i &&& (L 6 2 ^^^ 4294967295) = 0) && cv_by (cv_dw f (L 6 0) d (L 6 1) i) w) (i + 1) := by simp [cv_cnt]; intro h; omega
          rw [hw9]
          refine cv_pick [0, 4, 5, 6, 7, 8] (lv' := [(5, .int (nI (i + 1))), (4, .int (nI (cv_cnt (fun i => decide (i &&& (L 6 2 ^^^ 4294967295) = 0) && cv_by (cv_dw f (L 6 0) d (L 6 1) i) w) (i + 1)))), (0, .ref 10), (1, .int (nI w)), (2, .int (nI d)), (3, .int (nI 2))]) rfl ?_
          exact ih6 (i + 1) (by omega)
        · skip
          refine cv_iconst C (pc' := 29) rfl (D 16 (28, .iconst 1, 1) rfl) (v := nI 1) (by decide) ?_
          refine cv_goto C (tgt := 33) (D 17 (29, .goto 4, 3) rfl) (by decide) ?_
          refine cv_istore C (pc' := 35) rfl (D 19 (33, .istore 6, 2) rfl) (by decide) (lv' := [(6, .int (nI 1)), (5, .int (nI i)), (4, .int (nI (cv_cnt (fun i => decide (i &&& (L 6 2 ^^^ 4294967295) = 0) && cv_by (cv_dw f (L 6 0) d (L 6 1) i) w) i))), (0, .ref 10), (1, .int (nI w)), (2, .int (nI d)), (3, .int (nI 2))]) rfl ?_
          refine cv_iload_n C (pc' := 36) rfl (D 20 (35, .iload_n 3, 1) rfl) rfl (j := 6) rfl ?_
          refine cv_iconst C (pc' := 37) rfl (D 21 (36, .iconst 1, 1) rfl) (v := nI 1) (by decide) ?_
          refine cv_icmp_ne C (pc' := 40) rfl (tgt := 45) (D 22 (37, .if_icmp .ne 8, 3) rfl) (by decide) (fun _ => ?_) (fun h => absurd h (by decide))
          refine cv_aload_n C (pc' := 46) rfl (D 25 (45, .aload_n 0, 1) rfl) rfl (j := 3) rfl ?_
          refine cv_get C (pc' := 49) rfl (k0 := 10) (i := 2) (ci := 0) (by decide) rfl rfl (by decide) (o := some 19) rfl iw_X0 wfX0_21 (D 26 (46, .getfield 21, 3) rfl) rfl ?_
          refine cv_iconst C (pc' := 50) rfl (D 27 (49, .iconst 1, 1) rfl) (v := nI 1) (by decide) ?_
          refine cv_iald C (pc' := 51) rfl (k0 := 19) (j := 1) (by decide) rfl rfl (by omega) (by decide) (D 28 (50, .iaload, 1) rfl) (v := nI (L 6 1)) (hL.2.2.1 _ (by omega)) ?_
          refine cv_istore C (pc' := 53) rfl (D 29 (51, .istore 7, 2) rfl) (by decide) (lv' := [(7, .int (nI (L 6 1))), (6, .int (nI 1)), (5, .int (nI i)), (4, .int (nI (cv_cnt (fun i => decide (i &&& (L 6 2 ^^^ 4294967295) = 0) && cv_by (cv_dw f (L 6 0) d (L 6 1) i) w) i))), (0, .ref 10), (1, .int (nI w)), (2, .int (nI d)), (3, .int (nI 2))]) rfl ?_
          refine cv_iload_n C (pc' := 54) rfl (D 30 (53, .iload_n 3, 1) rfl) rfl (j := 7) rfl ?_
          refine cv_iconst C (pc' := 55) rfl (D 31 (54, .iconst 2, 1) rfl) (v := nI 2) (by decide) ?_
          refine cv_icmp_ne C (pc' := 58) rfl (tgt := 63) (D 32 (55, .if_icmp .ne 8, 3) rfl) (by decide) (fun h => absurd h (by decide)) (fun _ => ?_)
          refine cv_iload C (pc' := 60) rfl (D 33 (58, .iload 5, 2) rfl) (j := 2) rfl ?_
          refine cv_goto C (tgt := 69) (D 34 (60, .goto 9, 3) rfl) (by decide) ?_
          refine cv_istore C (pc' := 71) rfl (D 39 (69, .istore 8, 2) rfl) (by decide) (lv' := [(8, .int (nI i)), (7, .int (nI (L 6 1))), (6, .int (nI 1)), (5, .int (nI i)), (4, .int (nI (cv_cnt (fun i => decide (i &&& (L 6 2 ^^^ 4294967295) = 0) && cv_by (cv_dw f (L 6 0) d (L 6 1) i) w) i))), (0, .ref 10), (1, .int (nI w)), (2, .int (nI d)), (3, .int (nI 2))]) rfl ?_
          refine cv_iload C (pc' := 73) rfl (D 40 (71, .iload 6, 2) rfl) (j := 2) rfl ?_
          refine cv_if_eq C (pc' := 76) rfl (tgt := 92) (D 41 (73, .ifCond .eq 19, 3) rfl) (by decide) (fun h => absurd h (by decide)) (fun _ => ?_)
          refine cv_aload_n C (pc' := 77) rfl (D 42 (76, .aload_n 0, 1) rfl) rfl (j := 5) rfl ?_
          refine cv_iload_n C (pc' := 78) rfl (D 43 (77, .iload_n 1, 1) rfl) rfl (j := 6) rfl ?_
          refine cv_iload_n C (pc' := 79) rfl (D 44 (78, .iload_n 2, 1) rfl) rfl (j := 7) rfl ?_
          refine cv_iload C (pc' := 81) rfl (D 45 (79, .iload 7, 2) rfl) (j := 1) rfl ?_
          refine cv_iload C (pc' := 83) rfl (D 46 (81, .iload 8, 2) rfl) (j := 0) rfl ?_
          refine cv_callV C (pc' := 86) rfl (k0 := 10) (ci := 0) (As := [.int (nI w), .int (nI d), .int (nI (L 6 1)), .int (nI i)]) (rest := []) (idx := 107) (np := 4) (kX0_isDoneBy L f w d (L 6 1) i σ hL hB hT (by omega) (by omega) (by omega) (by omega)) (by decide) rfl rfl rfl (by decide +kernel) rfl wmX0_107 wi_yX0_isDoneBy ws_yX0_isDoneBy wn_X0 wc_yX0_isDoneBy (by decide) (by decide) (D 47 (83, .invokevirtual 107, 3) rfl) (Nat.le_of_ble_eq_true rfl) rfl (fun w9 u9 h9 => ?_)
          rw [h9.1, h9.2]
          show cv_At X _ _ σ 86 _ [.int (cv_b (cv_by (cv_dw f (L 6 0) d (L 6 1) i) w))]
          refine cv_if_eqB C (pc' := 89) rfl (tgt := 92) (D 48 (86, .ifCond .eq 6, 3) rfl) (by decide) (fun b86 => ?_) (fun b86 => ?_)
          · skip
            refine cv_iincN C (pc' := 95) rfl (D 50 (92, .iinc 5 1, 3) rfl) (j := 3) rfl (by decide) (lv' := [(5, .int (nI (i + 1))), (8, .int (nI i)), (7, .int (nI (L 6 1))), (6, .int (nI 1)), (4, .int (nI (cv_cnt (fun i => decide (i &&& (L 6 2 ^^^ 4294967295) = 0) && cv_by (cv_dw f (L 6 0) d (L 6 1) i) w) i))), (0, .ref 10), (1, .int (nI w)), (2, .int (nI d)), (3, .int (nI 2))]) rfl ?_
            refine cv_goto C (tgt := 6) (D 51 (95, .goto (-89), 3) rfl) (by decide) ?_
            have hw9 : cv_cnt (fun i => decide (i &&& (L 6 2 ^^^ 4294967295) = 0) && cv_by (cv_dw f (L 6 0) d (L 6 1) i) w) i = cv_cnt (fun i => decide (i &&& (L 6 2 ^^^ 4294967295) = 0) && cv_by (cv_dw f (L 6 0) d (L 6 1) i) w) (i + 1) := by simp [cv_cnt, b25, b86]
            rw [hw9]
            refine cv_pick [0, 4, 5, 6, 7, 8] (lv' := [(5, .int (nI (i + 1))), (4, .int (nI (cv_cnt (fun i => decide (i &&& (L 6 2 ^^^ 4294967295) = 0) && cv_by (cv_dw f (L 6 0) d (L 6 1) i) w) (i + 1)))), (0, .ref 10), (1, .int (nI w)), (2, .int (nI d)), (3, .int (nI 2))]) rfl ?_
            exact ih6 (i + 1) (by omega)
          · skip
            refine cv_iincN C (pc' := 92) rfl (D 49 (89, .iinc 4 1, 3) rfl) (j := 4) rfl (by decide) (lv' := [(4, .int (nI ((cv_cnt (fun i => decide (i &&& (L 6 2 ^^^ 4294967295) = 0) && cv_by (cv_dw f (L 6 0) d (L 6 1) i) w) i) + 1))), (8, .int (nI i)), (7, .int (nI (L 6 1))), (6, .int (nI 1)), (5, .int (nI i)), (0, .ref 10), (1, .int (nI w)), (2, .int (nI d)), (3, .int (nI 2))]) rfl ?_
            refine cv_iincN C (pc' := 95) rfl (D 50 (92, .iinc 5 1, 3) rfl) (j := 4) rfl (by decide) (lv' := [(5, .int (nI (i + 1))), (4, .int (nI ((cv_cnt (fun i => decide (i &&& (L 6 2 ^^^ 4294967295) = 0) && cv_by (cv_dw f (L 6 0) d (L 6 1) i) w) i) + 1))), (8, .int (nI i)), (7, .int (nI (L 6 1))), (6, .int (nI 1)), (0, .ref 10), (1, .int (nI w)), (2, .int (nI d)), (3, .int (nI 2))]) rfl ?_
            refine cv_goto C (tgt := 6) (D 51 (95, .goto (-89), 3) rfl) (by decide) ?_
            have hw9 : (cv_cnt (fun i => decide (i &&& (L 6 2 ^^^ 4294967295) = 0) && cv_by (cv_dw f (L 6 0) d (L 6 1) i) w) i) + 1 = cv_cnt (fun i => decide (i &&& (L 6 2 ^^^ 4294967295) = 0) && cv_by (cv_dw f (L 6 0) d (L 6 1) i) w) (i + 1) := by simp [cv_cnt, b25, b86]
            rw [hw9]
            refine cv_pick [0, 1, 5, 6, 7, 8] (lv' := [(5, .int (nI (i + 1))), (4, .int (nI (cv_cnt (fun i => decide (i &&& (L 6 2 ^^^ 4294967295) = 0) && cv_by (cv_dw f (L 6 0) d (L 6 1) i) w) (i + 1)))), (0, .ref 10), (1, .int (nI w)), (2, .int (nI d)), (3, .int (nI 2))]) rfl ?_
            exact ih6 (i + 1) (by omega)
  exact LP6 256 0 (by decide)

set_option maxHeartbeats 4000000 in
set_option maxRecDepth 100000 in
theorem kX2_holdIn (L : cv_L) (f : Nat → Nat) (rc : Nat) (rd : Nat → Nat) (rn : Nat → Option Nat) (σ : cv_St) (hL : cv_LC L σ) (hB : cv_LB L) (hT : cv_TC f σ) (hD : cv_DC rc rd rn σ) (hDB : cv_DB rc rd rn) : cv_Ct yX2_holdIn cX2_holdIn 3 (some .boolean) 4 0 0 26 cv_shC [.ref 23, .ref 10] σ (cv_pu (.int (cv_b (cv_ho (fun d => cv_dw f (L 6 0) d (L 6 1) (L 6 2)) rc rd rn))) σ) := by
  refine cv_enter (own := RX2) (by decide) rfl (Nat.le_of_ble_eq_true rfl) ?_
  intro X a C Rt hRm
  have D := @cv_dec _ _ dkX2_holdIn
  have hrc := hDB.1
  show cv_At X _ _ σ 0 [(0, .ref 23), (1, .ref 10)] []
  refine cv_iconst C (pc' := 1) rfl (D 0 (0, .iconst 0, 1) rfl) (v := nI 0) (by decide) ?_
  refine cv_istore_n C (pc' := 2) rfl (D 1 (1, .istore_n 2, 1) rfl) rfl (by decide) (lv' := [(2, .int (nI 0)), (0, .ref 23), (1, .ref 10)]) rfl ?_
  have LP2 : ∀ (r : Nat) (i : Nat), (i + r = rc) → (∀ q, q < i → (fun k => decide (cv_dw f (L 6 0) (rd k) (L 6 1) (L 6 2) = rn k)) q = true) → cv_At X (26, cv_shC, 0, 0, a) 3 σ 2 [(2, .int (nI i)), (0, .ref 23), (1, .ref 10)] [] := by
    intro r
    induction r with
    | zero =>
      intro i hr h0
      refine cv_iload_n C (pc' := 3) rfl (D 2 (2, .iload_n 2, 1) rfl) rfl (j := 0) rfl ?_
      refine cv_aload_n C (pc' := 4) rfl (D 3 (3, .aload_n 0, 1) rfl) rfl (j := 1) rfl ?_
      refine cv_get C (pc' := 7) rfl (k0 := 23) (i := 2) (ci := 2) (by decide) rfl rfl (by decide) (o := none) rfl iw_X2 wfX2_18 (D 4 (4, .getfield 18, 3) rfl) (v := .int (nI rc)) (congrArg Value.int hD.1) ?_
      refine cv_icmp_geN C (pc' := 10) rfl (by omega) (by omega) (tgt := 37) (D 5 (7, .if_icmp .ge 30, 3) rfl) (by decide) (fun b7 => ?_) (fun b7 => ?_)
      · skip
        refine cv_iconst C (pc' := 38) rfl (D 21 (37, .iconst 1, 1) rfl) (v := nI 1) (by decide) ?_
        exact cv_iret C Rt (by decide) (D 22 (38, .ireturn, 1) rfl) ⟨congrArg (fun z => some (Value.int z)) (by unfold cv_ho; rw [cv_al_t (fun k hk => h0 k (by omega))]; rfl), rfl⟩
      · skip
        omega
    | succ r ih2 =>
      intro i hr h0
      have hrd := hDB.2 i (by omega)
      have hrd1 := hrd.1
      refine cv_iload_n C (pc' := 3) rfl (D 2 (2, .iload_n 2, 1) rfl) rfl (j := 0) rfl ?_
      refine cv_aload_n C (pc' := 4) rfl (D 3 (3, .aload_n 0, 1) rfl) rfl (j := 1) rfl ?_
      refine cv_get C (pc' := 7) rfl (k0 := 23) (i := 2) (ci := 2) (by decide) rfl rfl (by decide) (o := none) rfl iw_X2 wfX2_18 (D 4 (4, .getfield 18, 3) rfl) (v := .int (nI rc)) (congrArg Value.int hD.1) ?_
      refine cv_icmp_geN C (pc' := 10) rfl (by omega) (by omega) (tgt := 37) (D 5 (7, .if_icmp .ge 30, 3) rfl) (by decide) (fun b7 => ?_) (fun b7 => ?_)
      · skip
        omega
      · skip
        refine cv_aload_n C (pc' := 11) rfl (D 6 (10, .aload_n 1, 1) rfl) rfl (j := 2) rfl ?_
        refine cv_aload_n C (pc' := 12) rfl (D 7 (11, .aload_n 0, 1) rfl) rfl (j := 1) rfl ?_
        refine cv_get C (pc' := 15) rfl (k0 := 23) (i := 0) (ci := 2) (by decide) rfl rfl (by decide) (o := some 24) rfl iw_X2 wfX2_9 (D 8 (12, .getfield 9, 3) rfl) rfl ?_
        refine cv_iload_n C (pc' := 16) rfl (D 9 (15, .iload_n 2, 1) rfl) rfl (j := 0) rfl ?_
        refine cv_iald C (pc' := 17) rfl (k0 := 24) (j := i) (by decide) rfl rfl (by omega) (by decide) (D 10 (16, .iaload, 1) rfl) (v := nI (rd i)) (hD.2 _ (by omega)).1 ?_
        refine cv_callV C (pc' := 20) rfl (k0 := 10) (ci := 0) (As := [.int (nI (rd i))]) (rest := []) (idx := 22) (np := 1) (kX0_doneOn L f (rd i) σ hL hB hT (by omega)) (by decide) rfl rfl rfl (by decide +kernel) rfl wmX2_22 wi_yX0_doneOn ws_yX0_doneOn wn_X0 wc_yX0_doneOn (by decide) (by decide) (D 11 (17, .invokevirtual 22, 3) rfl) (Nat.le_of_ble_eq_true rfl) rfl (fun w9 u9 h9 => ?_)
        rw [h9.1, h9.2]
        show cv_At X _ _ σ 20 _ [.int (cv_o (cv_dw f (L 6 0) (rd i) (L 6 1) (L 6 2)))]
        refine cv_aload_n C (pc' := 21) rfl (D 12 (20, .aload_n 0, 1) rfl) rfl (j := 1) rfl ?_
        refine cv_get C (pc' := 24) rfl (k0 := 23) (i := 1) (ci := 2) (by decide) rfl rfl (by decide) (o := some 25) rfl iw_X2 wfX2_15 (D 13 (21, .getfield 15, 3) rfl) rfl ?_
        refine cv_iload_n C (pc' := 25) rfl (D 14 (24, .iload_n 2, 1) rfl) rfl (j := 0) rfl ?_
        refine cv_iald C (pc' := 26) rfl (k0 := 25) (j := i) (by decide) rfl rfl (by omega) (by decide) (D 15 (25, .iaload, 1) rfl) (v := cv_o (rn i)) (hD.2 _ (by omega)).2 ?_
        refine cv_icmp_eq C (pc' := 29) rfl (tgt := 31) (D 16 (26, .if_icmp .eq 5, 3) rfl) (by decide) (fun b26 => ?_) (fun b26 => ?_)
        · skip
          refine cv_iincN C (pc' := 34) rfl (D 19 (31, .iinc 2 1, 3) rfl) (j := 0) rfl (by decide) (lv' := [(2, .int (nI (i + 1))), (0, .ref 23), (1, .ref 10)]) rfl ?_
          refine cv_goto C (tgt := 2) (D 20 (34, .goto (-32), 3) rfl) (by decide) ?_
          exact ih2 (i + 1) (by omega) (cv_ex h0 (decide_eq_true (cv_o_inj (fun z h => Nat.lt_trans (cv_dw_lt h) (by decide)) (fun z h => Nat.lt_trans (hrd.2 z h) (by decide)) b26)))
        · skip
          refine cv_iconst C (pc' := 30) rfl (D 17 (29, .iconst 0, 1) rfl) (v := nI 0) (by decide) ?_
          exact cv_iret C Rt (by decide) (D 18 (30, .ireturn, 1) rfl) ⟨congrArg (fun z => some (Value.int z)) (by unfold cv_ho; rw [cv_al_f (k := i) (by omega) (decide_eq_false (fun e => b26 (congrArg cv_o e)))]; rfl), rfl⟩
  exact LP2 rc 0 (by omega) (fun q h => by omega)
end
section
set_option maxHeartbeats 4000000 in
set_option maxRecDepth 100000 in
theorem kX0_placeOf {n : Nat} {sh : Nat → cv_Sh} (d s v : Nat) (σ : cv_St)  : cv_Ct yX0_placeOf cX0_placeOf 3 (some .int) 0 0 0 n sh [.int (nI d), .int (nI s), .int (nI v)] σ (cv_pu (.int (nI ((d * 2 + s) * 3 + v))) σ) := by
  refine cv_enter (own := RX0) (by decide) rfl (Nat.le_of_ble_eq_true rfl) ?_
  intro X a C Rt hRm
  have D := @cv_dec _ _ dkX0_placeOf
  show cv_At X _ _ σ 0 [(0, .int (nI d)), (1, .int (nI s)), (2, .int (nI v))] []
  refine cv_iload_n C (pc' := 1) rfl (D 0 (0, .iload_n 0, 1) rfl) rfl (j := 0) rfl ?_
  refine cv_iconst C (pc' := 2) rfl (D 1 (1, .iconst 2, 1) rfl) (v := nI 2) (by decide) ?_
  refine cv_imulN C (pc' := 3) rfl (D 2 (2, .imul, 1) rfl) ?_
  refine cv_iload_n C (pc' := 4) rfl (D 3 (3, .iload_n 1, 1) rfl) rfl (j := 1) rfl ?_
  refine cv_iaddN C (pc' := 5) rfl (D 4 (4, .iadd, 1) rfl) ?_
  refine cv_iconst C (pc' := 6) rfl (D 5 (5, .iconst 3, 1) rfl) (v := nI 3) (by decide) ?_
  refine cv_imulN C (pc' := 7) rfl (D 6 (6, .imul, 1) rfl) ?_
  refine cv_iload_n C (pc' := 8) rfl (D 7 (7, .iload_n 2, 1) rfl) rfl (j := 2) rfl ?_
  refine cv_iaddN C (pc' := 9) rfl (D 8 (8, .iadd, 1) rfl) ?_
  exact cv_iret C Rt rfl (D 9 (9, .ireturn, 1) rfl) ⟨rfl, rfl⟩

theorem cv_mx {o : Option Nat} (ho : ∀ z, o = some z → z < 2 ^ 31) : (if (-9 : Int32) < cv_o o then cv_o o else -9) = cv_o o := by
  cases o with
  | none => rfl
  | some z =>
    show (if (-9 : Int32) < nI z then nI z else -9) = nI z
    rw [if_pos (cv_m9_lt (ho z rfl))]
theorem cv_mx2 {z : Nat} (hz : z < 2 ^ 31) : (if nI z < (-9 : Int32) then -9 else nI z) = nI z := by
  have h := cv_m9_lt hz
  rw [if_neg (Int32.lt_asymm h)]
theorem cv_mi {x y : Nat} (hx : x < 2 ^ 31) (hy : y < 2 ^ 31) : (if nI y < nI x then nI y else nI x) = nI (min x y) := by
  by_cases h : y < x
  · rw [if_pos (nI_lt h hx), Nat.min_eq_right (by omega)]
  · rw [if_neg (fun e => h ((nI_ltI hy hx).mp e)), Nat.min_eq_left (by omega)]
set_option maxHeartbeats 4000000 in
set_option maxRecDepth 100000 in
theorem kX0_fewer {n : Nat} {sh : Nat → cv_Sh} (o1 o2 : Option Nat) (σ : cv_St) (h1 : ∀ z, o1 = some z → z < 2 ^ 31) (h2 : ∀ z, o2 = some z → z < 2 ^ 31) : cv_Ct yX0_fewer cX0_fewer 2 (some .int) 1 0 0 n sh [.int (cv_o o1), .int (cv_o o2)] σ (cv_pu (.int (cv_o (cv_mn o1 o2))) σ) := by
  refine cv_enter (own := RX0) (by decide) rfl (Nat.le_of_ble_eq_true rfl) ?_
  intro X a C Rt hRm
  have D := @cv_dec _ _ dkX0_fewer
  show cv_At X _ _ σ 0 [(0, .int (cv_o o1)), (1, .int (cv_o o2))] []
  refine cv_iload_n C (pc' := 1) rfl (D 0 (0, .iload_n 0, 1) rfl) rfl (j := 0) rfl ?_
  refine cv_bipush C (pc' := 3) rfl (D 1 (1, .bipush (-9), 2) rfl) (v := -9) (by decide) ?_
  refine cv_icmp_eqO C (pc' := 6) rfl h1 (tgt := 12) (D 2 (3, .if_icmp .eq 9, 3) rfl) (by decide) (fun b3 => ?_) (fun z3 b3 => ?_)
  · skip
    refine cv_iload_n C (pc' := 13) rfl (D 6 (12, .iload_n 0, 1) rfl) rfl (j := 0) rfl ?_
    refine cv_iload_n C (pc' := 14) rfl (D 7 (13, .iload_n 1, 1) rfl) rfl (j := 1) rfl ?_
    refine cv_mmax C (pc' := 17) rfl wmX0_120 wt_yJ9_max_7cf53 wn_J9 wc_yJ9_max_7cf53 (by decide) (D 8 (14, .invokestatic 120, 3) rfl) (Nat.le_of_ble_eq_true rfl) ?_
    exact cv_iret C Rt rfl (D 9 (17, .ireturn, 1) rfl) ⟨congrArg (fun z => some (Value.int z)) (by rw [b3]; exact cv_mx h2), rfl⟩
  · skip
    refine cv_iload_n C (pc' := 7) rfl (D 3 (6, .iload_n 1, 1) rfl) rfl (j := 1) rfl ?_
    refine cv_bipush C (pc' := 9) rfl (D 4 (7, .bipush (-9), 2) rfl) (v := -9) (by decide) ?_
    refine cv_icmp_neO C (pc' := 12) rfl h2 (tgt := 18) (D 5 (9, .if_icmp .ne 9, 3) rfl) (by decide) (fun z9 b9 => ?_) (fun b9 => ?_)
    · skip
      refine cv_iload_n C (pc' := 19) rfl (D 10 (18, .iload_n 0, 1) rfl) rfl (j := 0) rfl ?_
      refine cv_iload_n C (pc' := 20) rfl (D 11 (19, .iload_n 1, 1) rfl) rfl (j := 1) rfl ?_
      refine cv_mmin C (pc' := 23) rfl wmX0_44 wt_yJ9_min_7cf53 wn_J9 wc_yJ9_min_7cf53 (by decide) (D 12 (20, .invokestatic 44, 3) rfl) (Nat.le_of_ble_eq_true rfl) ?_
      exact cv_iret C Rt rfl (D 13 (23, .ireturn, 1) rfl) ⟨congrArg (fun z => some (Value.int z)) (by rw [b3, b9]; exact cv_mi (h1 _ b3) (h2 _ b9)), rfl⟩
    · skip
      refine cv_iload_n C (pc' := 13) rfl (D 6 (12, .iload_n 0, 1) rfl) rfl (j := 0) rfl ?_
      refine cv_iload_n C (pc' := 14) rfl (D 7 (13, .iload_n 1, 1) rfl) rfl (j := 1) rfl ?_
      refine cv_mmax C (pc' := 17) rfl wmX0_120 wt_yJ9_max_7cf53 wn_J9 wc_yJ9_max_7cf53 (by decide) (D 8 (14, .invokestatic 120, 3) rfl) (Nat.le_of_ble_eq_true rfl) ?_
      exact cv_iret C Rt rfl (D 9 (17, .ireturn, 1) rfl) ⟨congrArg (fun z => some (Value.int z)) (by rw [b3, b9]; exact cv_mx2 (h1 _ b3)), rfl⟩

theorem cv_mn_n (a : Option Nat) : cv_mn a none = a := by cases a <;> rfl
set_option maxHeartbeats 4000000 in
set_option maxRecDepth 100000 in
theorem kX0_holesFrom (L : cv_L) (g : Nat → Option Nat) (d s v : Nat) (σ : cv_St) (hL : cv_LC L σ) (hB : cv_LB L) (hz : ∀ j z, g j = some z → z ≤ 7 - j / 6) (hd : d < 8) (hs : s < 2) (hv : v < 3) (hG : ∀ i, i < 48 → (d < i / 6 ∨ (s = 0 ∧ i / 6 = d ∧ i / 3 % 2 = 1)) → σ 21 i = cv_o (g i)) : cv_Ct yX0_holesFrom cX0_holesFrom 7 (some .int) 2 0 0 26 cv_shC [.ref 10, .int (nI d), .int (nI s), .int (nI v)] σ (cv_pu (.int (cv_o (cv_hf L g d s v))) σ) := by
  refine cv_enter (own := RX0) (by decide) rfl (Nat.le_of_ble_eq_true rfl) ?_
  intro X a C Rt hRm
  have D := @cv_dec _ _ dkX0_holesFrom
  have hn6 := hB.1
  have hg1 := hB.2.2.2 1 (by decide)
  have hg2 := hB.2.2.2 2 (by decide)
  have hgb : ∀ j z, g j = some z → z < 2 ^ 31 := fun j z h => Nat.lt_of_le_of_lt (Nat.le_trans (hz j z h) (Nat.sub_le _ _)) (by decide)
  show cv_At X _ _ σ 0 [(0, .ref 10), (1, .int (nI d)), (2, .int (nI s)), (3, .int (nI v))] []
  have J111 : ∀ (o1 : Option Nat), (¬ (s = 1 ∧ v = 2 ∧ (L 6 2).testBit d = true)) → (o1 = cv_h1 L g d s v) → cv_At X (26, cv_shC, 0, 0, a) 7 σ 111 [(4, .int (cv_o o1)), (0, .ref 10), (1, .int (nI d)), (2, .int (nI s)), (3, .int (nI v))] [] := by
    intro o1 hn1 ho1
    refine cv_iconst C (pc' := 112) rfl (D 66 (111, .iconst 0, 1) rfl) (v := nI 0) (by decide) ?_
    refine cv_istore C (pc' := 114) rfl (D 67 (112, .istore 5, 2) rfl) (by decide) (lv' := [(5, .int (nI 0)), (4, .int (cv_o o1)), (0, .ref 10), (1, .int (nI d)), (2, .int (nI s)), (3, .int (nI v))]) rfl ?_
    rw [ho1]
    refine cv_pick [0, 1, 2, 3, 4, 5] (lv' := [(5, .int (nI 0)), (4, .int (cv_o (cv_hl L g d s v 0))), (0, .ref 10), (1, .int (nI d)), (2, .int (nI s)), (3, .int (nI v))]) rfl ?_
    have LP114 : ∀ (r : Nat) (p : Nat), (p + r = L 7 0) → cv_At X (26, cv_shC, 0, 0, a) 7 σ 114 [(5, .int (nI p)), (4, .int (cv_o (cv_hl L g d s v p))), (0, .ref 10), (1, .int (nI d)), (2, .int (nI s)), (3, .int (nI v))] [] := by
      intro r
      induction r with
      | zero =>
        intro p hr
        refine cv_iload C (pc' := 116) rfl (D 68 (114, .iload 5, 2) rfl) (j := 0) rfl ?_
        refine cv_aload_n C (pc' := 117) rfl (D 69 (116, .aload_n 0, 1) rfl) rfl (j := 2) rfl ?_
        refine cv_get C (pc' := 120) rfl (k0 := 10) (i := 6) (ci := 0) (by decide) rfl rfl (by decide) (o := none) rfl iw_X0 wfX0_50 (D 70 (117, .getfield 50, 3) rfl) (v := .int (nI (L 7 0))) (congrArg Value.int hL.1) ?_
        refine cv_icmp_geN C (pc' := 123) rfl (by omega) (by omega) (tgt := 180) (D 71 (120, .if_icmp .ge 60, 3) rfl) (by decide) (fun b120 => ?_) (fun b120 => ?_)
        · skip
          refine cv_iload C (pc' := 182) rfl (D 101 (180, .iload 4, 2) rfl) (j := 1) rfl ?_
          exact cv_iret C Rt rfl (D 102 (182, .ireturn, 1) rfl) ⟨congrArg (fun z => some (Value.int z)) (by unfold cv_hf; rw [if_neg hn1, show p = L 7 0 by omega]), rfl⟩
        · skip
          omega
      | succ r ih114 =>
        intro p hr
        have hp : p < L 7 0 := by omega
        have hp6 : p < 6 := by omega
        refine cv_iload C (pc' := 116) rfl (D 68 (114, .iload 5, 2) rfl) (j := 0) rfl ?_
        refine cv_aload_n C (pc' := 117) rfl (D 69 (116, .aload_n 0, 1) rfl) rfl (j := 2) rfl ?_
        refine cv_get C (pc' := 120) rfl (k0 := 10) (i := 6) (ci := 0) (by decide) rfl rfl (by decide) (o := none) rfl iw_X0 wfX0_50 (D 70 (117, .getfield 50, 3) rfl) (v := .int (nI (L 7 0))) (congrArg Value.int hL.1) ?_
        refine cv_icmp_geN C (pc' := 123) rfl (by omega) (by omega) (tgt := 180) (D 71 (120, .if_icmp .ge 60, 3) rfl) (by decide) (fun b120 => ?_) (fun b120 => ?_)
        · skip
          omega
        · skip
          refine cv_aload_n C (pc' := 124) rfl (D 72 (123, .aload_n 0, 1) rfl) rfl (j := 2) rfl ?_
          refine cv_aload_n C (pc' := 125) rfl (D 73 (124, .aload_n 0, 1) rfl) rfl (j := 2) rfl ?_
          refine cv_get C (pc' := 128) rfl (k0 := 10) (i := 0) (ci := 0) (by decide) rfl rfl (by decide) (o := some 11) rfl iw_X0 wfX0_11 (D 74 (125, .getfield 11, 3) rfl) rfl ?_
          refine cv_iload C (pc' := 130) rfl (D 75 (128, .iload 5, 2) rfl) (j := 0) rfl ?_
          refine cv_aald C (pc' := 131) rfl (k0 := 11) (j := p) (r := 12 + p) (by decide) rfl rfl rfl (cv_ix_p hp6) (by decide) (D 76 (130, .aaload, 1) rfl) ?_
          refine cv_iload_n C (pc' := 132) rfl (D 77 (131, .iload_n 3, 1) rfl) rfl (j := 5) rfl ?_
          refine cv_iload_n C (pc' := 133) rfl (D 78 (132, .iload_n 1, 1) rfl) rfl (j := 3) rfl ?_
          refine cv_callV C (pc' := 136) rfl (k0 := 10) (ci := 0) (As := [.ref (12 + p), .int (nI v), .int (nI d)]) (rest := []) (idx := 92) (np := 3) (kX0_arrival L p v d σ hL hB hp (by omega) (by omega)) (by decide) rfl rfl rfl (by decide +kernel) rfl wmX0_92 wi_yX0_arrival ws_yX0_arrival wn_X0 wc_yX0_arrival (by decide) (by decide) (D 79 (133, .invokevirtual 92, 3) rfl) (Nat.le_of_ble_eq_true rfl) rfl (fun w9 u9 h9 => ?_)
          rw [h9.1, h9.2]
          show cv_At X _ _ σ 136 _ [.int (cv_o (cv_ar L p v d))]
          refine cv_istore C (pc' := 138) rfl (D 80 (136, .istore 6, 2) rfl) (by decide) (lv' := [(6, .int (cv_o (cv_ar L p v d))), (5, .int (nI p)), (4, .int (cv_o (cv_hl L g d s v p))), (0, .ref 10), (1, .int (nI d)), (2, .int (nI s)), (3, .int (nI v))]) rfl ?_
          refine cv_iload C (pc' := 140) rfl (D 81 (138, .iload 6, 2) rfl) (j := 0) rfl ?_
          refine cv_bipush C (pc' := 142) rfl (D 82 (140, .bipush (-9), 2) rfl) (v := -9) (by decide) ?_
          refine cv_icmp_eqO C (pc' := 145) rfl (fun z h => Nat.lt_of_le_of_lt (cv_ar_le h) (by decide)) (tgt := 174) (D 83 (142, .if_icmp .eq 32, 3) rfl) (by decide) (fun b142 => ?_) (fun z142 b142 => ?_)
          · skip
            refine cv_iincN C (pc' := 177) rfl (D 99 (174, .iinc 5 1, 3) rfl) (j := 1) rfl (by decide) (lv' := [(5, .int (nI (p + 1))), (6, .int (cv_o (cv_ar L p v d))), (4, .int (cv_o (cv_hl L g d s v p))), (0, .ref 10), (1, .int (nI d)), (2, .int (nI s)), (3, .int (nI v))]) rfl ?_
            refine cv_goto C (tgt := 114) (D 100 (177, .goto (-63), 3) rfl) (by decide) ?_
            have hw9 : cv_hl L g d s v p = cv_hl L g d s v (p + 1) := by simp [cv_hl, cv_hc, b142, cv_mn_n]
            rw [hw9]
            refine cv_pick [0, 2, 3, 4, 5, 6] (lv' := [(5, .int (nI (p + 1))), (4, .int (cv_o (cv_hl L g d s v (p + 1)))), (0, .ref 10), (1, .int (nI d)), (2, .int (nI s)), (3, .int (nI v))]) rfl ?_
            exact ih114 (p + 1) (by omega)
          · skip
            have ez142 : cv_o (cv_ar L p v d) = nI z142 := by rw [b142]; rfl
            rw [ez142]
            refine cv_iload C (pc' := 147) rfl (D 84 (145, .iload 4, 2) rfl) (j := 2) rfl ?_
            refine cv_aload_n C (pc' := 148) rfl (D 85 (147, .aload_n 0, 1) rfl) rfl (j := 3) rfl ?_
            refine cv_get C (pc' := 151) rfl (k0 := 10) (i := 4) (ci := 0) (by decide) rfl rfl (by decide) (o := some 21) rfl iw_X0 wfX0_27 (D 86 (148, .getfield 27, 3) rfl) rfl ?_
            refine cv_iload C (pc' := 153) rfl (D 87 (151, .iload 6, 2) rfl) (j := 0) rfl ?_
            refine cv_iload_n C (pc' := 154) rfl (D 88 (153, .iload_n 2, 1) rfl) rfl (j := 5) rfl ?_
            refine cv_aload_n C (pc' := 155) rfl (D 89 (154, .aload_n 0, 1) rfl) rfl (j := 3) rfl ?_
            refine cv_get C (pc' := 158) rfl (k0 := 10) (i := 0) (ci := 0) (by decide) rfl rfl (by decide) (o := some 11) rfl iw_X0 wfX0_11 (D 90 (155, .getfield 11, 3) rfl) rfl ?_
            refine cv_iload C (pc' := 160) rfl (D 91 (158, .iload 5, 2) rfl) (j := 1) rfl ?_
            refine cv_aald C (pc' := 161) rfl (k0 := 11) (j := p) (r := 12 + p) (by decide) rfl rfl rfl (cv_ix_p hp6) (by decide) (D 92 (160, .aaload, 1) rfl) ?_
            refine cv_iload_n C (pc' := 162) rfl (D 93 (161, .iload_n 3, 1) rfl) rfl (j := 6) rfl ?_
            refine cv_callV C (pc' := 165) rfl (k0 := 12 + p) (ci := 1) (As := [.int (nI v)]) (rest := [.int (nI s), .int (nI z142), .ref 21, .int (cv_o (cv_hl L g d s v p))]) (idx := 77) (np := 1) (kX1_otherEnd L p v σ hL hB hp (by omega)) (cv_lt_p hp6) (cv_shC_p hp6) rfl rfl (by decide +kernel) rfl wmX0_77 wi_yX1_otherEnd ws_yX1_otherEnd wn_X1 wc_yX1_otherEnd (by decide) (by decide) (D 94 (162, .invokevirtual 77, 3) rfl) (Nat.le_of_ble_eq_true rfl) rfl (fun w9 u9 h9 => ?_)
            rw [h9.1, h9.2]
            show cv_At X _ _ σ 165 _ [.int (cv_o (cv_oe L p v)), .int (nI s), .int (nI z142), .ref 21, .int (cv_o (cv_hl L g d s v p))]
            obtain ⟨q, hq⟩ : ∃ q, cv_oe L p v = some q := by
              cases ho : cv_oe L p v with
              | some q => exact ⟨q, rfl⟩
              | none => exact absurd b142 (by simp [cv_ar, ho])
            have b142oe := hq
            have hq2 := cv_oe_le hB hp hq
            have hz7 := cv_ar_le b142
            have hz8 := cv_ar_gt hB hp b142
            refine cv_top (w := nI q) (by rw [hq]; rfl) ?_
            refine cv_callS C (pc' := 168) rfl (As := [.int (nI z142), .int (nI s), .int (nI q)]) (rest := [.ref 21, .int (cv_o (cv_hl L g d s v p))]) (idx := 111) (np := 3) (kX0_placeOf z142 s q σ) (by decide +kernel) rfl wmX0_111 wt_yX0_placeOf wn_X0 wc_yX0_placeOf (by decide) (by decide) (D 95 (165, .invokestatic 111, 3) rfl) (Nat.le_of_ble_eq_true rfl) rfl (fun w9 u9 h9 => ?_)
            rw [h9.1, h9.2]
            show cv_At X _ _ σ 168 _ [.int (nI ((z142 * 2 + s) * 3 + q)), .ref 21, .int (cv_o (cv_hl L g d s v p))]
            refine cv_iald C (pc' := 169) rfl (k0 := 21) (j := (z142 * 2 + s) * 3 + q) (by decide) rfl rfl (by omega) (by decide) (D 96 (168, .iaload, 1) rfl) (v := cv_o (g ((z142 * 2 + s) * 3 + q))) (hG _ (by omega) (by omega)) ?_
            refine cv_callS C (pc' := 172) rfl (As := [.int (cv_o (cv_hl L g d s v p)), .int (cv_o (g ((z142 * 2 + s) * 3 + q)))]) (rest := []) (idx := 117) (np := 2) (kX0_fewer (cv_hl L g d s v p) (g ((z142 * 2 + s) * 3 + q)) σ (fun z h => Nat.lt_of_le_of_lt (cv_hl_le hB hz hs hv p (by omega) z h) (by omega)) (hgb _)) (by decide +kernel) rfl wmX0_117 wt_yX0_fewer wn_X0 wc_yX0_fewer (by decide) (by decide) (D 97 (169, .invokestatic 117, 3) rfl) (Nat.le_of_ble_eq_true rfl) rfl (fun w9 u9 h9 => ?_)
            rw [h9.1, h9.2]
            show cv_At X _ _ σ 172 _ [.int (cv_o (cv_mn (cv_hl L g d s v p) (g ((z142 * 2 + s) * 3 + q))))]
            refine cv_istore C (pc' := 174) rfl (D 98 (172, .istore 4, 2) rfl) (by decide) (lv' := [(4, .int (cv_o (cv_mn (cv_hl L g d s v p) (g ((z142 * 2 + s) * 3 + q))))), (6, .int (nI z142)), (5, .int (nI p)), (0, .ref 10), (1, .int (nI d)), (2, .int (nI s)), (3, .int (nI v))]) rfl ?_
            refine cv_iincN C (pc' := 177) rfl (D 99 (174, .iinc 5 1, 3) rfl) (j := 2) rfl (by decide) (lv' := [(5, .int (nI (p + 1))), (4, .int (cv_o (cv_mn (cv_hl L g d s v p) (g ((z142 * 2 + s) * 3 + q))))), (6, .int (nI z142)), (0, .ref 10), (1, .int (nI d)), (2, .int (nI s)), (3, .int (nI v))]) rfl ?_
            refine cv_goto C (tgt := 114) (D 100 (177, .goto (-63), 3) rfl) (by decide) ?_
            have hw9 : cv_mn (cv_hl L g d s v p) (g ((z142 * 2 + s) * 3 + q)) = cv_hl L g d s v (p + 1) := by simp [cv_hl, cv_hc, b142, b142oe]
            rw [hw9]
            refine cv_pick [0, 1, 3, 4, 5, 6] (lv' := [(5, .int (nI (p + 1))), (4, .int (cv_o (cv_hl L g d s v (p + 1)))), (0, .ref 10), (1, .int (nI d)), (2, .int (nI s)), (3, .int (nI v))]) rfl ?_
            exact ih114 (p + 1) (by omega)
    exact LP114 (L 7 0) 0 (by omega)
  have J70 : ∀ (o0 : Option Nat), (¬ (s = 1 ∧ v = 2 ∧ (L 6 2).testBit d = true)) → (o0 = cv_h0 g d s v) → cv_At X (26, cv_shC, 0, 0, a) 7 σ 70 [(4, .int (cv_o o0)), (0, .ref 10), (1, .int (nI d)), (2, .int (nI s)), (3, .int (nI v))] [] := by
    intro o0 hn1 ho0
    refine cv_iload_n C (pc' := 71) rfl (D 43 (70, .iload_n 2, 1) rfl) rfl (j := 3) rfl ?_
    refine cv_iconst C (pc' := 72) rfl (D 44 (71, .iconst 1, 1) rfl) (v := nI 1) (by decide) ?_
    refine cv_icmp_geN C (pc' := 75) rfl (by omega) (by omega) (tgt := 111) (D 45 (72, .if_icmp .ge 39, 3) rfl) (by decide) (fun b72 => ?_) (fun b72 => ?_)
    · skip
      exact J111 o0 hn1 (by unfold cv_h1; rw [if_neg (fun h => by omega), ho0])
    · skip
      refine cv_iload_n C (pc' := 76) rfl (D 46 (75, .iload_n 3, 1) rfl) rfl (j := 4) rfl ?_
      refine cv_iconst C (pc' := 77) rfl (D 47 (76, .iconst 1, 1) rfl) (v := nI 1) (by decide) ?_
      refine cv_icmp_neN C (pc' := 80) rfl (by omega) (by omega) (tgt := 111) (D 48 (77, .if_icmp .ne 34, 3) rfl) (by decide) (fun b77 => ?_) (fun b77 => ?_)
      · skip
        exact J111 o0 hn1 (by unfold cv_h1; rw [if_neg (fun h => by omega), ho0])
      · skip
        refine cv_aload_n C (pc' := 81) rfl (D 49 (80, .aload_n 0, 1) rfl) rfl (j := 1) rfl ?_
        refine cv_get C (pc' := 84) rfl (k0 := 10) (i := 2) (ci := 0) (by decide) rfl rfl (by decide) (o := some 19) rfl iw_X0 wfX0_21 (D 50 (81, .getfield 21, 3) rfl) rfl ?_
        refine cv_iconst C (pc' := 85) rfl (D 51 (84, .iconst 1, 1) rfl) (v := nI 1) (by decide) ?_
        refine cv_iald C (pc' := 86) rfl (k0 := 19) (j := 1) (by decide) rfl rfl (by omega) (by decide) (D 52 (85, .iaload, 1) rfl) (v := nI (L 6 1)) (hL.2.2.1 _ (by omega)) ?_
        refine cv_iload_n C (pc' := 87) rfl (D 53 (86, .iload_n 1, 1) rfl) rfl (j := 2) rfl ?_
        refine cv_callSN C (pc' := 90) rfl (As := [.int (nI (L 6 1)), .int (nI d)]) (rest := []) (idx := 96) (np := 2) (kX6_hasDay (L 6 1) d σ (by omega) (by omega)) (by decide +kernel) rfl weX0_96 wt_yX6_hasDay wn_X6 wc_yX6_hasDay (by decide) (by decide) (D 54 (87, .invokestatic 96, 3) rfl) (Nat.le_of_ble_eq_true rfl) rfl (fun w9 u9 h9 => ?_)
        rw [h9.1, h9.2]
        show cv_At X _ _ σ 90 _ [.int (cv_b ((L 6 1).testBit d))]
        refine cv_if_eqB C (pc' := 93) rfl (tgt := 111) (D 55 (90, .ifCond .eq 21, 3) rfl) (by decide) (fun b90 => ?_) (fun b90 => ?_)
        · skip
          exact J111 o0 hn1 (by unfold cv_h1; rw [if_neg (fun h => by rw [h.2.2] at b90; cases b90), ho0])
        · skip
          refine cv_iload C (pc' := 95) rfl (D 56 (93, .iload 4, 2) rfl) (j := 0) rfl ?_
          refine cv_aload_n C (pc' := 96) rfl (D 57 (95, .aload_n 0, 1) rfl) rfl (j := 1) rfl ?_
          refine cv_get C (pc' := 99) rfl (k0 := 10) (i := 4) (ci := 0) (by decide) rfl rfl (by decide) (o := some 21) rfl iw_X0 wfX0_27 (D 58 (96, .getfield 27, 3) rfl) rfl ?_
          refine cv_iload_n C (pc' := 100) rfl (D 59 (99, .iload_n 1, 1) rfl) rfl (j := 2) rfl ?_
          refine cv_iconst C (pc' := 101) rfl (D 60 (100, .iconst 1, 1) rfl) (v := nI 1) (by decide) ?_
          refine cv_iload_n C (pc' := 102) rfl (D 61 (101, .iload_n 3, 1) rfl) rfl (j := 4) rfl ?_
          refine cv_callS C (pc' := 105) rfl (As := [.int (nI d), .int (nI 1), .int (nI v)]) (rest := [.ref 21, .int (cv_o o0)]) (idx := 111) (np := 3) (kX0_placeOf d 1 v σ) (by decide +kernel) rfl wmX0_111 wt_yX0_placeOf wn_X0 wc_yX0_placeOf (by decide) (by decide) (D 62 (102, .invokestatic 111, 3) rfl) (Nat.le_of_ble_eq_true rfl) rfl (fun w9 u9 h9 => ?_)
          rw [h9.1, h9.2]
          show cv_At X _ _ σ 105 _ [.int (nI ((d * 2 + 1) * 3 + v)), .ref 21, .int (cv_o o0)]
          refine cv_iald C (pc' := 106) rfl (k0 := 21) (j := (d * 2 + 1) * 3 + v) (by decide) rfl rfl (by omega) (by decide) (D 63 (105, .iaload, 1) rfl) (v := cv_o (g ((d * 2 + 1) * 3 + v))) (hG _ (by omega) (by omega)) ?_
          refine cv_callS C (pc' := 109) rfl (As := [.int (cv_o o0), .int (cv_o (g ((d * 2 + 1) * 3 + v)))]) (rest := []) (idx := 117) (np := 2) (kX0_fewer o0 (g ((d * 2 + 1) * 3 + v)) σ (fun z h => Nat.lt_of_le_of_lt (cv_h0_le hz hs hv (ho0 ▸ h)) (by omega)) (hgb _)) (by decide +kernel) rfl wmX0_117 wt_yX0_fewer wn_X0 wc_yX0_fewer (by decide) (by decide) (D 64 (106, .invokestatic 117, 3) rfl) (Nat.le_of_ble_eq_true rfl) rfl (fun w9 u9 h9 => ?_)
          rw [h9.1, h9.2]
          show cv_At X _ _ σ 109 _ [.int (cv_o (cv_mn o0 (g ((d * 2 + 1) * 3 + v))))]
          refine cv_istore C (pc' := 111) rfl (D 65 (109, .istore 4, 2) rfl) (by decide) (lv' := [(4, .int (cv_o (cv_mn o0 (g ((d * 2 + 1) * 3 + v))))), (0, .ref 10), (1, .int (nI d)), (2, .int (nI s)), (3, .int (nI v))]) rfl ?_
          exact J111 (cv_mn o0 (g ((d * 2 + 1) * 3 + v))) hn1 (by unfold cv_h1; rw [if_pos ⟨by omega, by omega, b90⟩, ho0])
  have J25 : (¬ (s = 1 ∧ v = 2 ∧ (L 6 2).testBit d = true)) → cv_At X (26, cv_shC, 0, 0, a) 7 σ 25 [(0, .ref 10), (1, .int (nI d)), (2, .int (nI s)), (3, .int (nI v))] [] := by
    intro hn1
    refine cv_bipush C (pc' := 27) rfl (D 15 (25, .bipush (-9), 2) rfl) (v := -9) (by decide) ?_
    refine cv_istore C (pc' := 29) rfl (D 16 (27, .istore 4, 2) rfl) (by decide) (lv' := [(4, .int (-9)), (0, .ref 10), (1, .int (nI d)), (2, .int (nI s)), (3, .int (nI v))]) rfl ?_
    refine cv_iload_n C (pc' := 30) rfl (D 17 (29, .iload_n 1, 1) rfl) rfl (j := 2) rfl ?_
    refine cv_bipush C (pc' := 32) rfl (D 18 (30, .bipush 7, 2) rfl) (v := nI 7) (by decide) ?_
    refine cv_icmp_geN C (pc' := 35) rfl (by omega) (by omega) (tgt := 70) (D 19 (32, .if_icmp .ge 38, 3) rfl) (by decide) (fun b32 => ?_) (fun b32 => ?_)
    · skip
      exact J70 none hn1 (by unfold cv_h0; rw [if_neg (by omega)])
    · skip
      refine cv_aload_n C (pc' := 36) rfl (D 20 (35, .aload_n 0, 1) rfl) rfl (j := 1) rfl ?_
      refine cv_get C (pc' := 39) rfl (k0 := 10) (i := 4) (ci := 0) (by decide) rfl rfl (by decide) (o := some 21) rfl iw_X0 wfX0_27 (D 21 (36, .getfield 27, 3) rfl) rfl ?_
      refine cv_iload_n C (pc' := 40) rfl (D 22 (39, .iload_n 1, 1) rfl) rfl (j := 2) rfl ?_
      refine cv_iconst C (pc' := 41) rfl (D 23 (40, .iconst 1, 1) rfl) (v := nI 1) (by decide) ?_
      refine cv_iaddN C (pc' := 42) rfl (D 24 (41, .iadd, 1) rfl) ?_
      refine cv_iload_n C (pc' := 43) rfl (D 25 (42, .iload_n 2, 1) rfl) rfl (j := 3) rfl ?_
      refine cv_iload_n C (pc' := 44) rfl (D 26 (43, .iload_n 3, 1) rfl) rfl (j := 4) rfl ?_
      refine cv_callS C (pc' := 47) rfl (As := [.int (nI (d + 1)), .int (nI s), .int (nI v)]) (rest := [.ref 21]) (idx := 111) (np := 3) (kX0_placeOf (d + 1) s v σ) (by decide +kernel) rfl wmX0_111 wt_yX0_placeOf wn_X0 wc_yX0_placeOf (by decide) (by decide) (D 27 (44, .invokestatic 111, 3) rfl) (Nat.le_of_ble_eq_true rfl) rfl (fun w9 u9 h9 => ?_)
      rw [h9.1, h9.2]
      show cv_At X _ _ σ 47 _ [.int (nI (((d + 1) * 2 + s) * 3 + v)), .ref 21]
      refine cv_iald C (pc' := 48) rfl (k0 := 21) (j := ((d + 1) * 2 + s) * 3 + v) (by decide) rfl rfl (by omega) (by decide) (D 28 (47, .iaload, 1) rfl) (v := cv_o (g (((d + 1) * 2 + s) * 3 + v))) (hG _ (by omega) (by omega)) ?_
      refine cv_bipush C (pc' := 50) rfl (D 29 (48, .bipush (-9), 2) rfl) (v := -9) (by decide) ?_
      refine cv_icmp_eqO C (pc' := 53) rfl (hgb _) (tgt := 70) (D 30 (50, .if_icmp .eq 20, 3) rfl) (by decide) (fun b50 => ?_) (fun z50 b50 => ?_)
      · skip
        exact J70 none hn1 (by unfold cv_h0; rw [if_pos (by omega), b50]; rfl)
      · skip
        have hz5 := hz _ _ b50
        refine cv_aload_n C (pc' := 54) rfl (D 31 (53, .aload_n 0, 1) rfl) rfl (j := 1) rfl ?_
        refine cv_get C (pc' := 57) rfl (k0 := 10) (i := 4) (ci := 0) (by decide) rfl rfl (by decide) (o := some 21) rfl iw_X0 wfX0_27 (D 32 (54, .getfield 27, 3) rfl) rfl ?_
        refine cv_iload_n C (pc' := 58) rfl (D 33 (57, .iload_n 1, 1) rfl) rfl (j := 2) rfl ?_
        refine cv_iconst C (pc' := 59) rfl (D 34 (58, .iconst 1, 1) rfl) (v := nI 1) (by decide) ?_
        refine cv_iaddN C (pc' := 60) rfl (D 35 (59, .iadd, 1) rfl) ?_
        refine cv_iload_n C (pc' := 61) rfl (D 36 (60, .iload_n 2, 1) rfl) rfl (j := 3) rfl ?_
        refine cv_iload_n C (pc' := 62) rfl (D 37 (61, .iload_n 3, 1) rfl) rfl (j := 4) rfl ?_
        refine cv_callS C (pc' := 65) rfl (As := [.int (nI (d + 1)), .int (nI s), .int (nI v)]) (rest := [.ref 21]) (idx := 111) (np := 3) (kX0_placeOf (d + 1) s v σ) (by decide +kernel) rfl wmX0_111 wt_yX0_placeOf wn_X0 wc_yX0_placeOf (by decide) (by decide) (D 38 (62, .invokestatic 111, 3) rfl) (Nat.le_of_ble_eq_true rfl) rfl (fun w9 u9 h9 => ?_)
        rw [h9.1, h9.2]
        show cv_At X _ _ σ 65 _ [.int (nI (((d + 1) * 2 + s) * 3 + v)), .ref 21]
        refine cv_iald C (pc' := 66) rfl (k0 := 21) (j := ((d + 1) * 2 + s) * 3 + v) (by decide) rfl rfl (by omega) (by decide) (D 39 (65, .iaload, 1) rfl) (v := nI z50) ((hG _ (by omega) (by omega)).trans (congrArg cv_o b50)) ?_
        refine cv_iconst C (pc' := 67) rfl (D 40 (66, .iconst 1, 1) rfl) (v := nI 1) (by decide) ?_
        refine cv_iaddN C (pc' := 68) rfl (D 41 (67, .iadd, 1) rfl) ?_
        refine cv_istore C (pc' := 70) rfl (D 42 (68, .istore 4, 2) rfl) (by decide) (lv' := [(4, .int (nI (z50 + 1))), (0, .ref 10), (1, .int (nI d)), (2, .int (nI s)), (3, .int (nI v))]) rfl ?_
        exact J70 (some (z50 + 1)) hn1 (by unfold cv_h0; rw [if_pos (by omega), b50]; rfl)
  refine cv_iload_n C (pc' := 1) rfl (D 0 (0, .iload_n 2, 1) rfl) rfl (j := 2) rfl ?_
  refine cv_iconst C (pc' := 2) rfl (D 1 (1, .iconst 1, 1) rfl) (v := nI 1) (by decide) ?_
  refine cv_icmp_neN C (pc' := 5) rfl (by omega) (by omega) (tgt := 25) (D 2 (2, .if_icmp .ne 23, 3) rfl) (by decide) (fun b2 => ?_) (fun b2 => ?_)
  · skip
    exact J25 (fun h => b2 h.1)
  · skip
    refine cv_iload_n C (pc' := 6) rfl (D 3 (5, .iload_n 3, 1) rfl) rfl (j := 3) rfl ?_
    refine cv_iconst C (pc' := 7) rfl (D 4 (6, .iconst 2, 1) rfl) (v := nI 2) (by decide) ?_
    refine cv_icmp_neN C (pc' := 10) rfl (by omega) (by omega) (tgt := 25) (D 5 (7, .if_icmp .ne 18, 3) rfl) (by decide) (fun b7 => ?_) (fun b7 => ?_)
    · skip
      exact J25 (fun h => b7 h.2.1)
    · skip
      refine cv_aload_n C (pc' := 11) rfl (D 6 (10, .aload_n 0, 1) rfl) rfl (j := 0) rfl ?_
      refine cv_get C (pc' := 14) rfl (k0 := 10) (i := 2) (ci := 0) (by decide) rfl rfl (by decide) (o := some 19) rfl iw_X0 wfX0_21 (D 7 (11, .getfield 21, 3) rfl) rfl ?_
      refine cv_iconst C (pc' := 15) rfl (D 8 (14, .iconst 2, 1) rfl) (v := nI 2) (by decide) ?_
      refine cv_iald C (pc' := 16) rfl (k0 := 19) (j := 2) (by decide) rfl rfl (by omega) (by decide) (D 9 (15, .iaload, 1) rfl) (v := nI (L 6 2)) (hL.2.2.1 _ (by omega)) ?_
      refine cv_iload_n C (pc' := 17) rfl (D 10 (16, .iload_n 1, 1) rfl) rfl (j := 1) rfl ?_
      refine cv_callSN C (pc' := 20) rfl (As := [.int (nI (L 6 2)), .int (nI d)]) (rest := []) (idx := 96) (np := 2) (kX6_hasDay (L 6 2) d σ (by omega) (by omega)) (by decide +kernel) rfl weX0_96 wt_yX6_hasDay wn_X6 wc_yX6_hasDay (by decide) (by decide) (D 11 (17, .invokestatic 96, 3) rfl) (Nat.le_of_ble_eq_true rfl) rfl (fun w9 u9 h9 => ?_)
      rw [h9.1, h9.2]
      show cv_At X _ _ σ 20 _ [.int (cv_b ((L 6 2).testBit d))]
      refine cv_if_eqB C (pc' := 23) rfl (tgt := 25) (D 12 (20, .ifCond .eq 5, 3) rfl) (by decide) (fun b20 => ?_) (fun b20 => ?_)
      · skip
        exact J25 (fun h => by rw [h.2.2] at b20; cases b20)
      · skip
        refine cv_iconst C (pc' := 24) rfl (D 13 (23, .iconst 0, 1) rfl) (v := nI 0) (by decide) ?_
        exact cv_iret C Rt rfl (D 14 (24, .ireturn, 1) rfl) ⟨congrArg (fun z => some (Value.int z)) (by unfold cv_hf; rw [if_pos ⟨b2, b7, b20⟩]; rfl), rfl⟩

set_option maxHeartbeats 4000000 in
set_option maxRecDepth 100000 in
theorem kX0_fewestHoles (L : cv_L) (m : Nat) (σ : cv_St) (hL : cv_LC L σ) (hB : cv_LB L) (hm : m < 8) : cv_Ct yX0_fewestHoles cX0_fewestHoles 5 (some .int) 3 0 0 26 cv_shC [.ref 10, .int (nI m)] σ (fun v u => v = some (.int (cv_o (cv_fh L m))) ∧ ∀ k, k ≠ 21 → u k = σ k) := by
  refine cv_enter (own := RX0) (by decide) rfl (Nat.le_of_ble_eq_true rfl) ?_
  intro X a C Rt hRm
  have D := @cv_dec _ _ dkX0_fewestHoles
  have hg0 := hB.2.2.2 0 (by decide)
  show cv_At X _ _ σ 0 [(0, .ref 10), (1, .int (nI m))] []
  refine cv_aload_n C (pc' := 1) rfl (D 0 (0, .aload_n 0, 1) rfl) rfl (j := 0) rfl ?_
  refine cv_get C (pc' := 4) rfl (k0 := 10) (i := 2) (ci := 0) (by decide) rfl rfl (by decide) (o := some 19) rfl iw_X0 wfX0_21 (D 1 (1, .getfield 21, 3) rfl) rfl ?_
  refine cv_iconst C (pc' := 5) rfl (D 2 (4, .iconst 0, 1) rfl) (v := nI 0) (by decide) ?_
  refine cv_iald C (pc' := 6) rfl (k0 := 19) (j := 0) (by decide) rfl rfl (by omega) (by decide) (D 3 (5, .iaload, 1) rfl) (v := nI (L 6 0)) (hL.2.2.1 _ (by omega)) ?_
  refine cv_iload_n C (pc' := 7) rfl (D 4 (6, .iload_n 1, 1) rfl) rfl (j := 1) rfl ?_
  refine cv_callSN C (pc' := 10) rfl (As := [.int (nI (L 6 0)), .int (nI m)]) (rest := []) (idx := 96) (np := 2) (kX6_hasDay (L 6 0) m σ (by omega) (by omega)) (by decide +kernel) rfl weX0_96 wt_yX6_hasDay wn_X6 wc_yX6_hasDay (by decide) (by decide) (D 5 (7, .invokestatic 96, 3) rfl) (Nat.le_of_ble_eq_true rfl) rfl (fun w9 u9 h9 => ?_)
  rw [h9.1, h9.2]
  show cv_At X _ _ σ 10 _ [.int (cv_b ((L 6 0).testBit m))]
  refine cv_if_neB C (pc' := 13) rfl (tgt := 16) (D 6 (10, .ifCond .ne 6, 3) rfl) (by decide) (fun b10 => ?_) (fun b10 => ?_)
  · skip
    refine cv_bipush C (pc' := 18) rfl (D 9 (16, .bipush 7, 2) rfl) (v := nI 7) (by decide) ?_
    refine cv_istore_n C (pc' := 19) rfl (D 10 (18, .istore_n 2, 1) rfl) rfl (by decide) (lv' := [(2, .int (nI 7)), (0, .ref 10), (1, .int (nI m))]) rfl ?_
    have e7 : nI 7 = cv_dn (m + (8 - m)) := by rw [show m + (8 - m) = 8 by omega]; rfl
    rw [e7]
    have LP19 : ∀ (r : Nat) (τ : cv_St), (m + r ≤ 8) → (cv_HO L σ τ (m + r)) → cv_At X (26, cv_shC, 0, 0, a) 5 τ 19 [(2, .int (cv_dn (m + r))), (0, .ref 10), (1, .int (nI m))] [] := by
      intro r
      induction r with
      | zero =>
        intro τ hr hI
        show cv_At X _ _ τ 19 [(2, .int (cv_dn m)), (0, .ref 10), (1, .int (nI m))] []
        refine cv_iload_n C (pc' := 20) rfl (D 11 (19, .iload_n 2, 1) rfl) rfl (j := 0) rfl ?_
        refine cv_iload_n C (pc' := 21) rfl (D 12 (20, .iload_n 1, 1) rfl) rfl (j := 2) rfl ?_
        refine cv_icmp_lt C (pc' := 24) rfl (tgt := 77) (D 13 (21, .if_icmp .lt 56, 3) rfl) (by decide) (fun b21 => ?_) (fun b21 => ?_)
        · skip
          refine cv_aload_n C (pc' := 78) rfl (D 41 (77, .aload_n 0, 1) rfl) rfl (j := 1) rfl ?_
          refine cv_get C (pc' := 81) rfl (k0 := 10) (i := 4) (ci := 0) (by decide) rfl rfl (by decide) (o := some 21) rfl iw_X0 wfX0_27 (D 42 (78, .getfield 27, 3) rfl) rfl ?_
          refine cv_iload_n C (pc' := 82) rfl (D 43 (81, .iload_n 1, 1) rfl) rfl (j := 2) rfl ?_
          refine cv_iconst C (pc' := 83) rfl (D 44 (82, .iconst 0, 1) rfl) (v := nI 0) (by decide) ?_
          refine cv_iconst C (pc' := 84) rfl (D 45 (83, .iconst 0, 1) rfl) (v := nI 0) (by decide) ?_
          refine cv_callS C (pc' := 87) rfl (As := [.int (nI m), .int (nI 0), .int (nI 0)]) (rest := [.ref 21]) (idx := 111) (np := 3) (kX0_placeOf m 0 0 τ) (by decide +kernel) rfl wmX0_111 wt_yX0_placeOf wn_X0 wc_yX0_placeOf (by decide) (by decide) (D 46 (84, .invokestatic 111, 3) rfl) (Nat.le_of_ble_eq_true rfl) rfl (fun w9 u9 h9 => ?_)
          rw [h9.1, h9.2]
          show cv_At X _ _ τ 87 _ [.int (nI ((m * 2 + 0) * 3 + 0)), .ref 21]
          refine cv_iald C (pc' := 88) rfl (k0 := 21) (j := (m * 2 + 0) * 3 + 0) (by decide) rfl rfl (by omega) (by decide) (D 47 (87, .iaload, 1) rfl) (v := cv_o (cv_FT L (8 - m) ((m * 2 + 0) * 3 + 0))) (hI.2 _ (by omega) (by omega)) ?_
          exact cv_iret C Rt rfl (D 48 (88, .ireturn, 1) rfl) ⟨congrArg (fun z => some (Value.int z)) (by unfold cv_fh; rw [if_pos b10]), hI.1⟩
        · skip
          exact absurd (cv_dn_lt (by omega)) b21
      | succ r ih19 =>
        intro τ hr hI
        show cv_At X _ _ τ 19 [(2, .int (nI (m + r))), (0, .ref 10), (1, .int (nI m))] []
        refine cv_iload_n C (pc' := 20) rfl (D 11 (19, .iload_n 2, 1) rfl) rfl (j := 0) rfl ?_
        refine cv_iload_n C (pc' := 21) rfl (D 12 (20, .iload_n 1, 1) rfl) rfl (j := 2) rfl ?_
        refine cv_icmp_ltN C (pc' := 24) rfl (by omega) (by omega) (tgt := 77) (D 13 (21, .if_icmp .lt 56, 3) rfl) (by decide) (fun b21 => ?_) (fun b21 => ?_)
        · skip
          omega
        · skip
          refine cv_iconst C (pc' := 25) rfl (D 14 (24, .iconst 1, 1) rfl) (v := nI 1) (by decide) ?_
          refine cv_istore_n C (pc' := 26) rfl (D 15 (25, .istore_n 3, 1) rfl) rfl (by decide) (lv' := [(3, .int (nI 1)), (2, .int (nI (m + r))), (0, .ref 10), (1, .int (nI m))]) rfl ?_
          refine cv_iload_n C (pc' := 27) rfl (D 16 (26, .iload_n 3, 1) rfl) rfl (j := 0) rfl ?_
          refine cv_if_lt C (pc' := 30) rfl (tgt := 71) (D 17 (27, .ifCond .lt 44, 3) rfl) (by decide) (fun h => absurd h (by decide)) (fun _ => ?_)
          refine cv_iconst C (pc' := 31) rfl (D 18 (30, .iconst 0, 1) rfl) (v := nI 0) (by decide) ?_
          refine cv_istore C (pc' := 33) rfl (D 19 (31, .istore 4, 2) rfl) (by decide) (lv' := [(4, .int (nI 0)), (3, .int (nI 1)), (2, .int (nI (m + r))), (0, .ref 10), (1, .int (nI m))]) rfl ?_
          have LP33 : ∀ (r2 : Nat) (v : Nat) (τ2 : cv_St), (v + r2 = 3) → (cv_HI L (cv_FT L (7 - (m + r))) σ τ2 (m + r) 1 v) → cv_At X (26, cv_shC, 0, 0, a) 5 τ2 33 [(4, .int (nI v)), (3, .int (nI 1)), (2, .int (nI (m + r))), (0, .ref 10), (1, .int (nI m))] [] := by
            intro r2
            induction r2 with
            | zero =>
              intro v τ2 hr2 hI2
              obtain rfl : v = 3 := by omega
              refine cv_iload C (pc' := 35) rfl (D 20 (33, .iload 4, 2) rfl) (j := 0) rfl ?_
              refine cv_iconst C (pc' := 36) rfl (D 21 (35, .iconst 3, 1) rfl) (v := nI 3) (by decide) ?_
              refine cv_icmp_ge C (pc' := 39) rfl (tgt := 65) (D 22 (36, .if_icmp .ge 29, 3) rfl) (by decide) (fun _ => ?_) (fun h => absurd h (by decide))
              refine cv_iinc C (pc' := 68) rfl (D 37 (65, .iinc 3 (-1), 3) rfl) (j := 1) rfl (v := nI 0) (by decide) (by decide) (lv' := [(3, .int (nI 0)), (4, .int (nI 3)), (2, .int (nI (m + r))), (0, .ref 10), (1, .int (nI m))]) rfl ?_
              refine cv_goto C (tgt := 26) (D 38 (68, .goto (-42), 3) rfl) (by decide) ?_
              refine cv_iload_n C (pc' := 27) rfl (D 16 (26, .iload_n 3, 1) rfl) rfl (j := 0) rfl ?_
              refine cv_if_lt C (pc' := 30) rfl (tgt := 71) (D 17 (27, .ifCond .lt 44, 3) rfl) (by decide) (fun h => absurd h (by decide)) (fun _ => ?_)
              refine cv_iconst C (pc' := 31) rfl (D 18 (30, .iconst 0, 1) rfl) (v := nI 0) (by decide) ?_
              refine cv_istore C (pc' := 33) rfl (D 19 (31, .istore 4, 2) rfl) (by decide) (lv' := [(4, .int (nI 0)), (3, .int (nI 0)), (2, .int (nI (m + r))), (0, .ref 10), (1, .int (nI m))]) rfl ?_
              have LP33 : ∀ (r2 : Nat) (v : Nat) (τ2 : cv_St), (v + r2 = 3) → (cv_HI L (cv_F1 L (cv_FT L (7 - (m + r))) (m + r)) σ τ2 (m + r) 0 v) → cv_At X (26, cv_shC, 0, 0, a) 5 τ2 33 [(4, .int (nI v)), (3, .int (nI 0)), (2, .int (nI (m + r))), (0, .ref 10), (1, .int (nI m))] [] := by
                intro r2
                induction r2 with
                | zero =>
                  intro v τ2 hr2 hI2
                  obtain rfl : v = 3 := by omega
                  refine cv_iload C (pc' := 35) rfl (D 20 (33, .iload 4, 2) rfl) (j := 0) rfl ?_
                  refine cv_iconst C (pc' := 36) rfl (D 21 (35, .iconst 3, 1) rfl) (v := nI 3) (by decide) ?_
                  refine cv_icmp_ge C (pc' := 39) rfl (tgt := 65) (D 22 (36, .if_icmp .ge 29, 3) rfl) (by decide) (fun _ => ?_) (fun h => absurd h (by decide))
                  refine cv_iinc C (pc' := 68) rfl (D 37 (65, .iinc 3 (-1), 3) rfl) (j := 1) rfl (v := -1) (by decide) (by decide) (lv' := [(3, .int (-1)), (4, .int (nI 3)), (2, .int (nI (m + r))), (0, .ref 10), (1, .int (nI m))]) rfl ?_
                  refine cv_goto C (tgt := 26) (D 38 (68, .goto (-42), 3) rfl) (by decide) ?_
                  refine cv_iload_n C (pc' := 27) rfl (D 16 (26, .iload_n 3, 1) rfl) rfl (j := 0) rfl ?_
                  refine cv_if_lt C (pc' := 30) rfl (tgt := 71) (D 17 (27, .ifCond .lt 44, 3) rfl) (by decide) (fun _ => ?_) (fun h => absurd h (by decide))
                  refine cv_iinc C (pc' := 74) rfl (D 39 (71, .iinc 2 (-1), 3) rfl) (j := 2) rfl (v := cv_dn (m + r)) (cv_dn_dec (m + r)) (by decide) (lv' := [(2, .int (cv_dn (m + r))), (3, .int (-1)), (4, .int (nI 3)), (0, .ref 10), (1, .int (nI m))]) rfl ?_
                  refine cv_goto C (tgt := 19) (D 40 (74, .goto (-55), 3) rfl) (by decide) ?_
                  refine cv_pick [0, 3, 4] (lv' := [(2, .int (cv_dn (m + r))), (0, .ref 10), (1, .int (nI m))]) rfl ?_
                  exact ih19 τ2 (by omega) (cv_HO_s (by omega) hI2)
                | succ r2 ih33 =>
                  intro v τ2 hr2 hI2
                  have hLτ2 : cv_LC L τ2 := cv_LC_k (fun k _ h _ => hI2.1 k h) hL hB
                  refine cv_iload C (pc' := 35) rfl (D 20 (33, .iload 4, 2) rfl) (j := 0) rfl ?_
                  refine cv_iconst C (pc' := 36) rfl (D 21 (35, .iconst 3, 1) rfl) (v := nI 3) (by decide) ?_
                  refine cv_icmp_geN C (pc' := 39) rfl (by omega) (by omega) (tgt := 65) (D 22 (36, .if_icmp .ge 29, 3) rfl) (by decide) (fun b36 => ?_) (fun b36 => ?_)
                  · skip
                    omega
                  · skip
                    refine cv_aload_n C (pc' := 40) rfl (D 23 (39, .aload_n 0, 1) rfl) rfl (j := 3) rfl ?_
                    refine cv_get C (pc' := 43) rfl (k0 := 10) (i := 4) (ci := 0) (by decide) rfl rfl (by decide) (o := some 21) rfl iw_X0 wfX0_27 (D 24 (40, .getfield 27, 3) rfl) rfl ?_
                    refine cv_iload_n C (pc' := 44) rfl (D 25 (43, .iload_n 2, 1) rfl) rfl (j := 2) rfl ?_
                    refine cv_iload_n C (pc' := 45) rfl (D 26 (44, .iload_n 3, 1) rfl) rfl (j := 1) rfl ?_
                    refine cv_iload C (pc' := 47) rfl (D 27 (45, .iload 4, 2) rfl) (j := 0) rfl ?_
                    refine cv_callS C (pc' := 50) rfl (As := [.int (nI (m + r)), .int (nI 0), .int (nI v)]) (rest := [.ref 21]) (idx := 111) (np := 3) (kX0_placeOf (m + r) 0 v τ2) (by decide +kernel) rfl wmX0_111 wt_yX0_placeOf wn_X0 wc_yX0_placeOf (by decide) (by decide) (D 28 (47, .invokestatic 111, 3) rfl) (Nat.le_of_ble_eq_true rfl) rfl (fun w9 u9 h9 => ?_)
                    rw [h9.1, h9.2]
                    show cv_At X _ _ τ2 50 _ [.int (nI (((m + r) * 2 + 0) * 3 + v)), .ref 21]
                    refine cv_aload_n C (pc' := 51) rfl (D 29 (50, .aload_n 0, 1) rfl) rfl (j := 3) rfl ?_
                    refine cv_iload_n C (pc' := 52) rfl (D 30 (51, .iload_n 2, 1) rfl) rfl (j := 2) rfl ?_
                    refine cv_iload_n C (pc' := 53) rfl (D 31 (52, .iload_n 3, 1) rfl) rfl (j := 1) rfl ?_
                    refine cv_iload C (pc' := 55) rfl (D 32 (53, .iload 4, 2) rfl) (j := 0) rfl ?_
                    refine cv_callV C (pc' := 58) rfl (k0 := 10) (ci := 0) (As := [.int (nI (m + r)), .int (nI 0), .int (nI v)]) (rest := [.int (nI (((m + r) * 2 + 0) * 3 + v)), .ref 21]) (idx := 114) (np := 3) (kX0_holesFrom L (cv_F1 L (cv_FT L (7 - (m + r))) (m + r)) (m + r) 0 v τ2 hLτ2 hB (cv_F1_z hB (cv_FT_z hB _) _) (by omega) (by decide) (by omega) hI2.2.1) (by decide) rfl rfl rfl (by decide +kernel) rfl wmX0_114 wi_yX0_holesFrom ws_yX0_holesFrom wn_X0 wc_yX0_holesFrom (by decide) (by decide) (D 33 (55, .invokevirtual 114, 3) rfl) (Nat.le_of_ble_eq_true rfl) rfl (fun w9 u9 h9 => ?_)
                    rw [h9.1, h9.2]
                    show cv_At X _ _ τ2 58 _ [.int (cv_o (cv_hf L (cv_F1 L (cv_FT L (7 - (m + r))) (m + r)) (m + r) 0 v)), .int (nI (((m + r) * 2 + 0) * 3 + v)), .ref 21]
                    refine cv_iast C (pc' := 59) rfl (k0 := 21) (j := ((m + r) * 2 + 0) * 3 + v) (by decide) rfl rfl (by omega) (by decide) (D 34 (58, .iastore, 1) rfl) ?_
                    refine cv_iincN C (pc' := 62) rfl (D 35 (59, .iinc 4 1, 3) rfl) (j := 0) rfl (by decide) (lv' := [(4, .int (nI (v + 1))), (3, .int (nI 0)), (2, .int (nI (m + r))), (0, .ref 10), (1, .int (nI m))]) rfl ?_
                    refine cv_goto C (tgt := 33) (D 36 (62, .goto (-29), 3) rfl) (by decide) ?_
                    exact ih33 (v + 1) (cv_u τ2 21 (((m + r) * 2 + 0) * 3 + v) (cv_o (cv_hf L (cv_F1 L (cv_FT L (7 - (m + r))) (m + r)) (m + r) 0 v))) (by omega) (cv_HI_s hI2 (by decide) (by omega))
              exact LP33 3 0 τ2 (by decide) (cv_HI_0 hI2)
            | succ r2 ih33 =>
              intro v τ2 hr2 hI2
              have hLτ2 : cv_LC L τ2 := cv_LC_k (fun k _ h _ => hI2.1 k h) hL hB
              refine cv_iload C (pc' := 35) rfl (D 20 (33, .iload 4, 2) rfl) (j := 0) rfl ?_
              refine cv_iconst C (pc' := 36) rfl (D 21 (35, .iconst 3, 1) rfl) (v := nI 3) (by decide) ?_
              refine cv_icmp_geN C (pc' := 39) rfl (by omega) (by omega) (tgt := 65) (D 22 (36, .if_icmp .ge 29, 3) rfl) (by decide) (fun b36 => ?_) (fun b36 => ?_)
              · skip
                omega
              · skip
                refine cv_aload_n C (pc' := 40) rfl (D 23 (39, .aload_n 0, 1) rfl) rfl (j := 3) rfl ?_
                refine cv_get C (pc' := 43) rfl (k0 := 10) (i := 4) (ci := 0) (by decide) rfl rfl (by decide) (o := some 21) rfl iw_X0 wfX0_27 (D 24 (40, .getfield 27, 3) rfl) rfl ?_
                refine cv_iload_n C (pc' := 44) rfl (D 25 (43, .iload_n 2, 1) rfl) rfl (j := 2) rfl ?_
                refine cv_iload_n C (pc' := 45) rfl (D 26 (44, .iload_n 3, 1) rfl) rfl (j := 1) rfl ?_
                refine cv_iload C (pc' := 47) rfl (D 27 (45, .iload 4, 2) rfl) (j := 0) rfl ?_
                refine cv_callS C (pc' := 50) rfl (As := [.int (nI (m + r)), .int (nI 1), .int (nI v)]) (rest := [.ref 21]) (idx := 111) (np := 3) (kX0_placeOf (m + r) 1 v τ2) (by decide +kernel) rfl wmX0_111 wt_yX0_placeOf wn_X0 wc_yX0_placeOf (by decide) (by decide) (D 28 (47, .invokestatic 111, 3) rfl) (Nat.le_of_ble_eq_true rfl) rfl (fun w9 u9 h9 => ?_)
                rw [h9.1, h9.2]
                show cv_At X _ _ τ2 50 _ [.int (nI (((m + r) * 2 + 1) * 3 + v)), .ref 21]
                refine cv_aload_n C (pc' := 51) rfl (D 29 (50, .aload_n 0, 1) rfl) rfl (j := 3) rfl ?_
                refine cv_iload_n C (pc' := 52) rfl (D 30 (51, .iload_n 2, 1) rfl) rfl (j := 2) rfl ?_
                refine cv_iload_n C (pc' := 53) rfl (D 31 (52, .iload_n 3, 1) rfl) rfl (j := 1) rfl ?_
                refine cv_iload C (pc' := 55) rfl (D 32 (53, .iload 4, 2) rfl) (j := 0) rfl ?_
                refine cv_callV C (pc' := 58) rfl (k0 := 10) (ci := 0) (As := [.int (nI (m + r)), .int (nI 1), .int (nI v)]) (rest := [.int (nI (((m + r) * 2 + 1) * 3 + v)), .ref 21]) (idx := 114) (np := 3) (kX0_holesFrom L (cv_FT L (7 - (m + r))) (m + r) 1 v τ2 hLτ2 hB (cv_FT_z hB _) (by omega) (by decide) (by omega) hI2.2.1) (by decide) rfl rfl rfl (by decide +kernel) rfl wmX0_114 wi_yX0_holesFrom ws_yX0_holesFrom wn_X0 wc_yX0_holesFrom (by decide) (by decide) (D 33 (55, .invokevirtual 114, 3) rfl) (Nat.le_of_ble_eq_true rfl) rfl (fun w9 u9 h9 => ?_)
                rw [h9.1, h9.2]
                show cv_At X _ _ τ2 58 _ [.int (cv_o (cv_hf L (cv_FT L (7 - (m + r))) (m + r) 1 v)), .int (nI (((m + r) * 2 + 1) * 3 + v)), .ref 21]
                refine cv_iast C (pc' := 59) rfl (k0 := 21) (j := ((m + r) * 2 + 1) * 3 + v) (by decide) rfl rfl (by omega) (by decide) (D 34 (58, .iastore, 1) rfl) ?_
                refine cv_iincN C (pc' := 62) rfl (D 35 (59, .iinc 4 1, 3) rfl) (j := 0) rfl (by decide) (lv' := [(4, .int (nI (v + 1))), (3, .int (nI 1)), (2, .int (nI (m + r))), (0, .ref 10), (1, .int (nI m))]) rfl ?_
                refine cv_goto C (tgt := 33) (D 36 (62, .goto (-29), 3) rfl) (by decide) ?_
                exact ih33 (v + 1) (cv_u τ2 21 (((m + r) * 2 + 1) * 3 + v) (cv_o (cv_hf L (cv_FT L (7 - (m + r))) (m + r) 1 v))) (by omega) (cv_HI_s hI2 (by decide) (by omega))
          exact LP33 3 0 τ (by decide) (cv_HI_1 hI)
    exact LP19 (8 - m) σ (by omega) (by rw [show m + (8 - m) = 8 by omega]; exact cv_HO_0 L σ)
  · skip
    refine cv_bipush C (pc' := 15) rfl (D 7 (13, .bipush (-9), 2) rfl) (v := -9) (by decide) ?_
    exact cv_iret C Rt rfl (D 8 (15, .ireturn, 1) rfl) ⟨congrArg (fun z => some (Value.int z)) (by unfold cv_fh; rw [b10]; rfl), fun k _ => rfl⟩
end
section
/-! ===== a wheel on a way; sheets ===== -/
abbrev cv_Q : Type := Nat × Nat × Nat × Nat
/-- one step: day, valley, stage, holes -/
def cv_st (L : cv_L) (x : Nat) (q : cv_Q) : Option cv_Q :=
  if q.2.2.1 = 2 then none else if x = 6 then (if q.1 < 7 then some (q.1 + 1, q.2.1, q.2.2.1, q.2.2.2 + 1) else none)
  else if x = 7 then (if q.2.1 = 1 ∧ q.2.2.1 = 0 ∧ (L 6 1).testBit q.1 = true then some (q.1, q.2.1, 1, q.2.2.2) else none)
  else if x = 8 then (if q.2.1 = 2 ∧ q.2.2.1 = 1 ∧ (L 6 2).testBit q.1 = true then some (q.1, q.2.1, 2, q.2.2.2) else none)
  else match cv_ar L x q.2.1 q.1 with
    | none => none
    | some c => some (c, (cv_oe L x q.2.1).getD 0, q.2.2.1, q.2.2.2)
def cv_WB (q : cv_Q) : Prop := q.1 < 8 ∧ q.2.1 < 3 ∧ q.2.2.1 < 3 ∧ q.2.2.2 ≤ q.1
def cv_WC (q : cv_Q) (σ : cv_St) : Prop := σ 22 0 = nI q.1 ∧ σ 22 1 = nI q.2.1 ∧ σ 22 2 = nI q.2.2.1 ∧ σ 22 3 = nI q.2.2.2
theorem cv_ar_oe {L : cv_L} {p v d c : Nat} (h : cv_ar L p v d = some c) : ∃ q, cv_oe L p v = some q := by
  cases ho : cv_oe L p v with
  | some q => exact ⟨q, rfl⟩
  | none => exact absurd h (by simp [cv_ar, ho])
theorem cv_st_b {L : cv_L} (hB : cv_LB L) {x : Nat} {q q' : cv_Q} (hq : cv_WB q) (hx : x < 6 → x < L 7 0) (hx9 : x ≤ 8) (h : cv_st L x q = some q') : cv_WB q' := by
  obtain ⟨h1, h2, h3, h4⟩ := hq
  unfold cv_st at h
  split at h
  · cases h
  split at h
  · split at h
    · cases h; exact ⟨by dsimp only; omega, h2, h3, by dsimp only; omega⟩
    · cases h
  split at h
  · split at h
    · cases h; exact ⟨h1, h2, (by decide : (1 : Nat) < 3), h4⟩
    · cases h
  split at h
  · split at h
    · cases h; exact ⟨h1, h2, (by decide : (2 : Nat) < 3), h4⟩
    · cases h
  split at h
  · cases h
  · rename_i c hc
    cases h
    have hp : x < L 7 0 := hx (by omega)
    obtain ⟨z, hz⟩ := cv_ar_oe hc
    have := cv_ar_le hc
    have := cv_ar_gt hB hp hc
    have := cv_oe_le hB hp hz
    refine ⟨by dsimp only; omega, ?_, h3, by dsimp only; omega⟩
    rw [hz]
    dsimp only [Option.getD]
    omega
theorem cv_m1 {n : Nat} (h : n < 2 ^ 31) : ¬ nI n = -1 := by
  intro e
  have h1 := congrArg Int32.toInt e
  rw [nI_toInt h] at h1
  have h2 : (-1 : Int32).toInt = -1 := by decide
  omega
/-- one sheet: nothing, or a lane and how many cells -/
def cv_S1 (o : Option (Nat × Nat)) (f : Nat → Int32) : Prop := match o with
  | none => f 1 = -1
  | some q => f 1 = nI q.1 ∧ f 2 = nI q.2 ∧ q.1 < 3 ∧ q.2 ≤ 60
/-- are cells y .. y + z - 1 there, of m -/
def cv_hs (m : Nat) (y z : Int32) : Bool := decide (¬ y < 0 ∧ ¬ z < 0 ∧ y ≤ nI m ∧ z ≤ nI m - y)
def cv_fo (o : Option (Nat × Nat)) (x y z : Int32) : Nat := match o with
  | none => 1
  | some q => if nI q.1 = x then (if z < 0 then 4 else if cv_hs q.2 y z = true then 0 else 3) else 2
def cv_ct (l : Nat) (v : Int32) : Int32 := if l = 0 then v.toInt8.toInt32 else if l = 1 then v.toInt16.toInt32 else v
theorem cv_hs_of {m : Nat} {y z : Int32} (hm : m ≤ 60) (h : cv_hs m y z = true) : ∃ i j : Nat, y = nI i ∧ z = nI j ∧ i + j ≤ m := by
  obtain ⟨h1, h2, h3, h4⟩ := of_decide_eq_true h
  obtain ⟨i, hi, rfl⟩ := nI_of h1
  obtain ⟨j, hj, rfl⟩ := nI_of h2
  have hi2 := (nI_leI hi (by omega)).mp h3
  rw [pk_sub hi2] at h4
  have := (nI_leI hj (by omega)).mp h4
  exact ⟨i, j, rfl, rfl, by omega⟩
theorem cv_hs_in {m i j : Nat} (hm : m ≤ 60) (h : i + j ≤ m) : cv_hs m (nI i) (nI j) = true := by
  refine decide_eq_true ⟨nI_pos (by omega), nI_pos (by omega), nI_le (by omega) (by omega), ?_⟩
  rw [pk_sub (by omega)]
  exact nI_le (by omega) (by omega)
theorem cv_fo_0 {o : Option (Nat × Nat)} {x y z : Int32} (h : cv_fo o x y z = 0) : ∃ q, o = some q ∧ nI q.1 = x ∧ cv_hs q.2 y z = true := by
  cases o with
  | none => cases h
  | some q =>
    simp only [cv_fo] at h
    split at h
    · split at h
      · cases h
      · split at h
        · exact ⟨q, rfl, by assumption, by assumption⟩
        · cases h
    · cases h
theorem cv_fo_le (o : Option (Nat × Nat)) (x y z : Int32) : cv_fo o x y z ≤ 4 := by
  cases o with
  | none => exact (by decide : (1 : Nat) ≤ 4)
  | some q =>
    simp only [cv_fo]
    split
    · split
      · decide
      · split <;> decide
    · decide
end
section
set_option maxHeartbeats 4000000 in
set_option maxRecDepth 100000 in
theorem kX5_begin (d : Nat) (σ : cv_St)  : cv_Ct yX5_begin cX5_begin 2 none 0 0 0 26 cv_shC [.ref 22, .int (nI d)] σ (fun v u => v = none ∧ (∀ k, k ≠ 22 → u k = σ k) ∧ cv_WC (d, 0, 0, 0) u) := by
  refine cv_enter (own := RX5) (by decide) rfl (Nat.le_of_ble_eq_true rfl) ?_
  intro X a C Rt hRm
  have D := @cv_dec _ _ dkX5_begin
  show cv_At X _ _ σ 0 [(0, .ref 22), (1, .int (nI d))] []
  refine cv_aload_n C (pc' := 1) rfl (D 0 (0, .aload_n 0, 1) rfl) rfl (j := 0) rfl ?_
  refine cv_iload_n C (pc' := 2) rfl (D 1 (1, .iload_n 1, 1) rfl) rfl (j := 1) rfl ?_
  refine cv_put C (pc' := 5) rfl (k0 := 22) (i := 0) (ci := 5) (by decide) rfl rfl (by decide) rfl iw_X5 tyX5 tyX5_ok nmX5 wfX5_9 rfl rfl rfl (D 2 (2, .putfield 9, 3) rfl) ?_
  refine cv_aload_n C (pc' := 6) rfl (D 3 (5, .aload_n 0, 1) rfl) rfl (j := 0) rfl ?_
  refine cv_iconst C (pc' := 7) rfl (D 4 (6, .iconst 0, 1) rfl) (v := nI 0) (by decide) ?_
  refine cv_put C (pc' := 10) rfl (k0 := 22) (i := 1) (ci := 5) (by decide) rfl rfl (by decide) rfl iw_X5 tyX5 tyX5_ok nmX5 wfX5_15 rfl rfl rfl (D 5 (7, .putfield 15, 3) rfl) ?_
  refine cv_aload_n C (pc' := 11) rfl (D 6 (10, .aload_n 0, 1) rfl) rfl (j := 0) rfl ?_
  refine cv_iconst C (pc' := 12) rfl (D 7 (11, .iconst 0, 1) rfl) (v := nI 0) (by decide) ?_
  refine cv_put C (pc' := 15) rfl (k0 := 22) (i := 2) (ci := 5) (by decide) rfl rfl (by decide) rfl iw_X5 tyX5 tyX5_ok nmX5 wfX5_18 rfl rfl rfl (D 8 (12, .putfield 18, 3) rfl) ?_
  refine cv_aload_n C (pc' := 16) rfl (D 9 (15, .aload_n 0, 1) rfl) rfl (j := 0) rfl ?_
  refine cv_iconst C (pc' := 17) rfl (D 10 (16, .iconst 0, 1) rfl) (v := nI 0) (by decide) ?_
  refine cv_put C (pc' := 20) rfl (k0 := 22) (i := 3) (ci := 5) (by decide) rfl rfl (by decide) rfl iw_X5 tyX5 tyX5_ok nmX5 wfX5_21 rfl rfl rfl (D 11 (17, .putfield 21, 3) rfl) ?_
  exact cv_vret C Rt (D 12 (20, .return_, 1) rfl) ⟨rfl, fun k hk => by simp only [cv_u_c hk], ⟨by simp [cv_u_at], by simp [cv_u_at, nI_0], by simp [cv_u_at, nI_0], by simp [cv_u_at, nI_0]⟩⟩

set_option maxHeartbeats 4000000 in
set_option maxRecDepth 100000 in
theorem kX5_waitsADay (q : cv_Q) (σ : cv_St) (hW : cv_WC q σ) (hWB : cv_WB q) : cv_Ct yX5_waitsADay cX5_waitsADay 1 (some .boolean) 0 0 0 26 cv_shC [.ref 22] σ (fun v u => v = some (.int (cv_b (if q.1 < 7 then some (q.1 + 1, q.2.1, q.2.2.1, q.2.2.2 + 1) else (none : Option cv_Q)).isSome)) ∧ (∀ k, k ≠ 22 → u k = σ k) ∧ ∀ q2, (if q.1 < 7 then some (q.1 + 1, q.2.1, q.2.2.1, q.2.2.2 + 1) else (none : Option cv_Q)) = some q2 → cv_WC q2 u) := by
  refine cv_enter (own := RX5) (by decide) rfl (Nat.le_of_ble_eq_true rfl) ?_
  intro X a C Rt hRm
  have D := @cv_dec _ _ dkX5_waitsADay
  obtain ⟨w1, w2, w3, w4⟩ := id hWB
  show cv_At X _ _ σ 0 [(0, .ref 22)] []
  refine cv_aload_n C (pc' := 1) rfl (D 0 (0, .aload_n 0, 1) rfl) rfl (j := 0) rfl ?_
  refine cv_get C (pc' := 4) rfl (k0 := 22) (i := 0) (ci := 5) (by decide) rfl rfl (by decide) (o := none) rfl iw_X5 wfX5_9 (D 1 (1, .getfield 9, 3) rfl) (v := .int (nI q.1)) (congrArg Value.int hW.1) ?_
  refine cv_bipush C (pc' := 6) rfl (D 2 (4, .bipush 7, 2) rfl) (v := nI 7) (by decide) ?_
  refine cv_icmp_ltN C (pc' := 9) rfl (by omega) (by omega) (tgt := 11) (D 3 (6, .if_icmp .lt 5, 3) rfl) (by decide) (fun b6 => ?_) (fun b6 => ?_)
  · skip
    refine cv_aload_n C (pc' := 12) rfl (D 6 (11, .aload_n 0, 1) rfl) rfl (j := 0) rfl ?_
    refine cv_dup C (pc' := 13) rfl (D 7 (12, .dup, 1) rfl) rfl ?_
    refine cv_get C (pc' := 16) rfl (k0 := 22) (i := 0) (ci := 5) (by decide) rfl rfl (by decide) (o := none) rfl iw_X5 wfX5_9 (D 8 (13, .getfield 9, 3) rfl) (v := .int (nI q.1)) (congrArg Value.int hW.1) ?_
    refine cv_iconst C (pc' := 17) rfl (D 9 (16, .iconst 1, 1) rfl) (v := nI 1) (by decide) ?_
    refine cv_iaddN C (pc' := 18) rfl (D 10 (17, .iadd, 1) rfl) ?_
    refine cv_put C (pc' := 21) rfl (k0 := 22) (i := 0) (ci := 5) (by decide) rfl rfl (by decide) rfl iw_X5 tyX5 tyX5_ok nmX5 wfX5_9 rfl rfl rfl (D 11 (18, .putfield 9, 3) rfl) ?_
    refine cv_aload_n C (pc' := 22) rfl (D 12 (21, .aload_n 0, 1) rfl) rfl (j := 0) rfl ?_
    refine cv_dup C (pc' := 23) rfl (D 13 (22, .dup, 1) rfl) rfl ?_
    refine cv_get C (pc' := 26) rfl (k0 := 22) (i := 3) (ci := 5) (by decide) rfl rfl (by decide) (o := none) rfl iw_X5 wfX5_21 (D 14 (23, .getfield 21, 3) rfl) (v := .int (nI q.2.2.2)) (congrArg Value.int ((cv_u_i (by omega)).trans hW.2.2.2)) ?_
    refine cv_iconst C (pc' := 27) rfl (D 15 (26, .iconst 1, 1) rfl) (v := nI 1) (by decide) ?_
    refine cv_iaddN C (pc' := 28) rfl (D 16 (27, .iadd, 1) rfl) ?_
    refine cv_put C (pc' := 31) rfl (k0 := 22) (i := 3) (ci := 5) (by decide) rfl rfl (by decide) rfl iw_X5 tyX5 tyX5_ok nmX5 wfX5_21 rfl rfl rfl (D 17 (28, .putfield 21, 3) rfl) ?_
    refine cv_iconst C (pc' := 32) rfl (D 18 (31, .iconst 1, 1) rfl) (v := nI 1) (by decide) ?_
    exact cv_iret C Rt (by decide) (D 19 (32, .ireturn, 1) rfl) (by rw [if_pos (by omega)]; exact ⟨rfl, fun k hk => by simp only [cv_u_c hk], fun q2 h => by cases h; exact ⟨by simp [cv_u_at, hW.1], by simp [cv_u_at, hW.2.1], by simp [cv_u_at, hW.2.2.1], by simp [cv_u_at, hW.2.2.2]⟩⟩)
  · skip
    refine cv_iconst C (pc' := 10) rfl (D 4 (9, .iconst 0, 1) rfl) (v := nI 0) (by decide) ?_
    exact cv_iret C Rt (by decide) (D 5 (10, .ireturn, 1) rfl) (by rw [if_neg (by omega)]; exact ⟨rfl, fun k _ => rfl, fun q2 h => by cases h⟩)

set_option maxHeartbeats 4000000 in
set_option maxRecDepth 100000 in
theorem kX5_gets (L : cv_L) (q : cv_Q) (w b : Nat) (σ : cv_St) (hL : cv_LC L σ) (hB : cv_LB L) (hW : cv_WC q σ) (hWB : cv_WB q) (hw : w < 3) (hb : b < 3) : cv_Ct yX5_gets cX5_gets 4 (some .boolean) 1 0 0 26 cv_shC [.ref 22, .int (nI w), .int (nI b), .ref 10] σ (fun v u => v = some (.int (cv_b (if q.2.1 = w ∧ q.2.2.1 = b ∧ (L 6 w).testBit q.1 = true then some (q.1, q.2.1, b + 1, q.2.2.2) else (none : Option cv_Q)).isSome)) ∧ (∀ k, k ≠ 22 → u k = σ k) ∧ ∀ q2, (if q.2.1 = w ∧ q.2.2.1 = b ∧ (L 6 w).testBit q.1 = true then some (q.1, q.2.1, b + 1, q.2.2.2) else (none : Option cv_Q)) = some q2 → cv_WC q2 u) := by
  refine cv_enter (own := RX5) (by decide) rfl (Nat.le_of_ble_eq_true rfl) ?_
  intro X a C Rt hRm
  have D := @cv_dec _ _ dkX5_gets
  obtain ⟨w1, w2, w3, w4⟩ := id hWB
  have hgw := hB.2.2.2 w hw
  show cv_At X _ _ σ 0 [(0, .ref 22), (1, .int (nI w)), (2, .int (nI b)), (3, .ref 10)] []
  refine cv_aload_n C (pc' := 1) rfl (D 0 (0, .aload_n 0, 1) rfl) rfl (j := 0) rfl ?_
  refine cv_get C (pc' := 4) rfl (k0 := 22) (i := 1) (ci := 5) (by decide) rfl rfl (by decide) (o := none) rfl iw_X5 wfX5_15 (D 1 (1, .getfield 15, 3) rfl) (v := .int (nI q.2.1)) (congrArg Value.int hW.2.1) ?_
  refine cv_iload_n C (pc' := 5) rfl (D 2 (4, .iload_n 1, 1) rfl) rfl (j := 1) rfl ?_
  refine cv_icmp_neN C (pc' := 8) rfl (by omega) (by omega) (tgt := 32) (D 3 (5, .if_icmp .ne 27, 3) rfl) (by decide) (fun b5 => ?_) (fun b5 => ?_)
  · skip
    refine cv_iconst C (pc' := 33) rfl (D 16 (32, .iconst 0, 1) rfl) (v := nI 0) (by decide) ?_
    exact cv_iret C Rt (by decide) (D 17 (33, .ireturn, 1) rfl) (by rw [if_neg (by intro h; omega)]; exact ⟨rfl, fun k _ => rfl, fun q2 h => by cases h⟩)
  · skip
    refine cv_aload_n C (pc' := 9) rfl (D 4 (8, .aload_n 0, 1) rfl) rfl (j := 0) rfl ?_
    refine cv_get C (pc' := 12) rfl (k0 := 22) (i := 2) (ci := 5) (by decide) rfl rfl (by decide) (o := none) rfl iw_X5 wfX5_18 (D 5 (9, .getfield 18, 3) rfl) (v := .int (nI q.2.2.1)) (congrArg Value.int hW.2.2.1) ?_
    refine cv_iload_n C (pc' := 13) rfl (D 6 (12, .iload_n 2, 1) rfl) rfl (j := 2) rfl ?_
    refine cv_icmp_neN C (pc' := 16) rfl (by omega) (by omega) (tgt := 32) (D 7 (13, .if_icmp .ne 19, 3) rfl) (by decide) (fun b13 => ?_) (fun b13 => ?_)
    · skip
      refine cv_iconst C (pc' := 33) rfl (D 16 (32, .iconst 0, 1) rfl) (v := nI 0) (by decide) ?_
      exact cv_iret C Rt (by decide) (D 17 (33, .ireturn, 1) rfl) (by rw [if_neg (by intro h; omega)]; exact ⟨rfl, fun k _ => rfl, fun q2 h => by cases h⟩)
    · skip
      refine cv_aload_n C (pc' := 17) rfl (D 8 (16, .aload_n 3, 1) rfl) rfl (j := 3) rfl ?_
      refine cv_get C (pc' := 20) rfl (k0 := 10) (i := 2) (ci := 0) (by decide) rfl rfl (by decide) (o := some 19) rfl iw_X0 wfX5_36 (D 9 (17, .getfield 36, 3) rfl) rfl ?_
      refine cv_iload_n C (pc' := 21) rfl (D 10 (20, .iload_n 1, 1) rfl) rfl (j := 1) rfl ?_
      refine cv_iald C (pc' := 22) rfl (k0 := 19) (j := w) (by decide) rfl rfl (by omega) (by decide) (D 11 (21, .iaload, 1) rfl) (v := nI (L 6 w)) (hL.2.2.1 _ (by omega)) ?_
      refine cv_aload_n C (pc' := 23) rfl (D 12 (22, .aload_n 0, 1) rfl) rfl (j := 0) rfl ?_
      refine cv_get C (pc' := 26) rfl (k0 := 22) (i := 0) (ci := 5) (by decide) rfl rfl (by decide) (o := none) rfl iw_X5 wfX5_9 (D 13 (23, .getfield 9, 3) rfl) (v := .int (nI q.1)) (congrArg Value.int hW.1) ?_
      refine cv_callSN C (pc' := 29) rfl (As := [.int (nI (L 6 w)), .int (nI q.1)]) (rest := []) (idx := 42) (np := 2) (kX6_hasDay (L 6 w) q.1 σ (by omega) (by omega)) (by decide +kernel) rfl weX5_42 wt_yX6_hasDay wn_X6 wc_yX6_hasDay (by decide) (by decide) (D 14 (26, .invokestatic 42, 3) rfl) (Nat.le_of_ble_eq_true rfl) rfl (fun w9 u9 h9 => ?_)
      rw [h9.1, h9.2]
      show cv_At X _ _ σ 29 _ [.int (cv_b ((L 6 w).testBit q.1))]
      refine cv_if_neB C (pc' := 32) rfl (tgt := 34) (D 15 (29, .ifCond .ne 5, 3) rfl) (by decide) (fun b29 => ?_) (fun b29 => ?_)
      · skip
        refine cv_aload_n C (pc' := 35) rfl (D 18 (34, .aload_n 0, 1) rfl) rfl (j := 0) rfl ?_
        refine cv_dup C (pc' := 36) rfl (D 19 (35, .dup, 1) rfl) rfl ?_
        refine cv_get C (pc' := 39) rfl (k0 := 22) (i := 2) (ci := 5) (by decide) rfl rfl (by decide) (o := none) rfl iw_X5 wfX5_18 (D 20 (36, .getfield 18, 3) rfl) (v := .int (nI q.2.2.1)) (congrArg Value.int hW.2.2.1) ?_
        refine cv_iconst C (pc' := 40) rfl (D 21 (39, .iconst 1, 1) rfl) (v := nI 1) (by decide) ?_
        refine cv_iaddN C (pc' := 41) rfl (D 22 (40, .iadd, 1) rfl) ?_
        refine cv_put C (pc' := 44) rfl (k0 := 22) (i := 2) (ci := 5) (by decide) rfl rfl (by decide) rfl iw_X5 tyX5 tyX5_ok nmX5 wfX5_18 rfl rfl rfl (D 23 (41, .putfield 18, 3) rfl) ?_
        refine cv_iconst C (pc' := 45) rfl (D 24 (44, .iconst 1, 1) rfl) (v := nI 1) (by decide) ?_
        exact cv_iret C Rt (by decide) (D 25 (45, .ireturn, 1) rfl) (by rw [if_pos ⟨by omega, by omega, b29⟩]; exact ⟨rfl, fun k hk => by simp only [cv_u_c hk], fun q2 h => by cases h; exact ⟨by simp [cv_u_at, hW.1], by simp [cv_u_at, hW.2.1], by rw [cv_u_s, b13], by simp [cv_u_at, hW.2.2.2]⟩⟩)
      · skip
        refine cv_iconst C (pc' := 33) rfl (D 16 (32, .iconst 0, 1) rfl) (v := nI 0) (by decide) ?_
        exact cv_iret C Rt (by decide) (D 17 (33, .ireturn, 1) rfl) (by rw [if_neg (by intro h; rw [h.2.2] at b29; cases b29)]; exact ⟨rfl, fun k _ => rfl, fun q2 h => by cases h⟩)

set_option maxHeartbeats 4000000 in
set_option maxRecDepth 100000 in
theorem kX5_crosses (L : cv_L) (q : cv_Q) (p : Nat) (σ : cv_St) (hL : cv_LC L σ) (hB : cv_LB L) (hW : cv_WC q σ) (hWB : cv_WB q) (hp : p < L 7 0) : cv_Ct yX5_crosses cX5_crosses 5 (some .boolean) 2 0 0 26 cv_shC [.ref 22, .int (nI p), .ref 10] σ (fun v u => v = some (.int (cv_b (match cv_ar L p q.2.1 q.1 with | none => (none : Option cv_Q) | some c => some (c, (cv_oe L p q.2.1).getD 0, q.2.2.1, q.2.2.2)).isSome)) ∧ (∀ k, k ≠ 22 → u k = σ k) ∧ ∀ q2, (match cv_ar L p q.2.1 q.1 with | none => (none : Option cv_Q) | some c => some (c, (cv_oe L p q.2.1).getD 0, q.2.2.1, q.2.2.2)) = some q2 → cv_WC q2 u) := by
  refine cv_enter (own := RX5) (by decide) rfl (Nat.le_of_ble_eq_true rfl) ?_
  intro X a C Rt hRm
  have D := @cv_dec _ _ dkX5_crosses
  obtain ⟨w1, w2, w3, w4⟩ := id hWB
  have hp6 : p < 6 := Nat.lt_of_lt_of_le hp hB.1
  show cv_At X _ _ σ 0 [(0, .ref 22), (1, .int (nI p)), (2, .ref 10)] []
  refine cv_iload_n C (pc' := 1) rfl (D 0 (0, .iload_n 1, 1) rfl) rfl (j := 1) rfl ?_
  refine cv_aload_n C (pc' := 2) rfl (D 1 (1, .aload_n 2, 1) rfl) rfl (j := 2) rfl ?_
  refine cv_get C (pc' := 5) rfl (k0 := 10) (i := 6) (ci := 0) (by decide) rfl rfl (by decide) (o := none) rfl iw_X0 wfX5_46 (D 2 (2, .getfield 46, 3) rfl) (v := .int (nI (L 7 0))) (congrArg Value.int hL.1) ?_
  refine cv_callSN C (pc' := 8) rfl (As := [.int (nI p), .int (nI (L 7 0))]) (rest := []) (idx := 49) (np := 2) (kX6_isBelow (nI p) (L 7 0) σ) (by decide +kernel) rfl weX5_49 wt_yX6_isBelow wn_X6 wc_yX6_isBelow (by decide) (by decide) (D 3 (5, .invokestatic 49, 3) rfl) (Nat.le_of_ble_eq_true rfl) rfl (fun w9 u9 h9 => ?_)
  rw [h9.1, h9.2]
  show cv_At X _ _ σ 8 _ [.int (cv_b (cv_in (nI p) (L 7 0)))]
  refine cv_if_neB C (pc' := 11) rfl (tgt := 13) (D 4 (8, .ifCond .ne 5, 3) rfl) (by decide) (fun b8 => ?_) (fun b8 => ?_)
  · skip
    refine cv_aload_n C (pc' := 14) rfl (D 7 (13, .aload_n 2, 1) rfl) rfl (j := 2) rfl ?_
    refine cv_get C (pc' := 17) rfl (k0 := 10) (i := 0) (ci := 0) (by decide) rfl rfl (by decide) (o := some 11) rfl iw_X0 wfX5_52 (D 8 (14, .getfield 52, 3) rfl) rfl ?_
    refine cv_iload_n C (pc' := 18) rfl (D 9 (17, .iload_n 1, 1) rfl) rfl (j := 1) rfl ?_
    refine cv_aald C (pc' := 19) rfl (k0 := 11) (j := p) (r := 12 + p) (by decide) rfl rfl rfl (cv_ix_p hp6) (by decide) (D 10 (18, .aaload, 1) rfl) ?_
    refine cv_astore_n C (pc' := 20) rfl (D 11 (19, .astore_n 3, 1) rfl) rfl (by decide) (lv' := [(3, .ref (12 + p)), (0, .ref 22), (1, .int (nI p)), (2, .ref 10)]) rfl ?_
    refine cv_aload_n C (pc' := 21) rfl (D 12 (20, .aload_n 2, 1) rfl) rfl (j := 3) rfl ?_
    refine cv_aload_n C (pc' := 22) rfl (D 13 (21, .aload_n 3, 1) rfl) rfl (j := 0) rfl ?_
    refine cv_aload_n C (pc' := 23) rfl (D 14 (22, .aload_n 0, 1) rfl) rfl (j := 1) rfl ?_
    refine cv_get C (pc' := 26) rfl (k0 := 22) (i := 1) (ci := 5) (by decide) rfl rfl (by decide) (o := none) rfl iw_X5 wfX5_15 (D 15 (23, .getfield 15, 3) rfl) (v := .int (nI q.2.1)) (congrArg Value.int hW.2.1) ?_
    refine cv_aload_n C (pc' := 27) rfl (D 16 (26, .aload_n 0, 1) rfl) rfl (j := 1) rfl ?_
    refine cv_get C (pc' := 30) rfl (k0 := 22) (i := 0) (ci := 5) (by decide) rfl rfl (by decide) (o := none) rfl iw_X5 wfX5_9 (D 17 (27, .getfield 9, 3) rfl) (v := .int (nI q.1)) (congrArg Value.int hW.1) ?_
    refine cv_callV C (pc' := 33) rfl (k0 := 10) (ci := 0) (As := [.ref (12 + p), .int (nI q.2.1), .int (nI q.1)]) (rest := []) (idx := 56) (np := 3) (kX0_arrival L p q.2.1 q.1 σ hL hB hp w2 w1) (by decide) rfl rfl rfl (by decide +kernel) rfl wmX5_56 wi_yX0_arrival ws_yX0_arrival wn_X0 wc_yX0_arrival (by decide) (by decide) (D 18 (30, .invokevirtual 56, 3) rfl) (Nat.le_of_ble_eq_true rfl) rfl (fun w9 u9 h9 => ?_)
    rw [h9.1, h9.2]
    show cv_At X _ _ σ 33 _ [.int (cv_o (cv_ar L p q.2.1 q.1))]
    refine cv_istore C (pc' := 35) rfl (D 19 (33, .istore 4, 2) rfl) (by decide) (lv' := [(4, .int (cv_o (cv_ar L p q.2.1 q.1))), (3, .ref (12 + p)), (0, .ref 22), (1, .int (nI p)), (2, .ref 10)]) rfl ?_
    refine cv_iload C (pc' := 37) rfl (D 20 (35, .iload 4, 2) rfl) (j := 0) rfl ?_
    refine cv_bipush C (pc' := 39) rfl (D 21 (37, .bipush (-9), 2) rfl) (v := -9) (by decide) ?_
    refine cv_icmp_neO C (pc' := 42) rfl (fun z h => Nat.lt_of_le_of_lt (cv_ar_le h) (by decide)) (tgt := 44) (D 22 (39, .if_icmp .ne 5, 3) rfl) (by decide) (fun z39 b39 => ?_) (fun b39 => ?_)
    · skip
      have ez39 : cv_o (cv_ar L p q.2.1 q.1) = nI z39 := by rw [b39]; rfl
      rw [ez39]
      refine cv_aload_n C (pc' := 45) rfl (D 25 (44, .aload_n 0, 1) rfl) rfl (j := 2) rfl ?_
      refine cv_iload C (pc' := 47) rfl (D 26 (45, .iload 4, 2) rfl) (j := 0) rfl ?_
      refine cv_put C (pc' := 50) rfl (k0 := 22) (i := 0) (ci := 5) (by decide) rfl rfl (by decide) rfl iw_X5 tyX5 tyX5_ok nmX5 wfX5_9 rfl rfl rfl (D 27 (47, .putfield 9, 3) rfl) ?_
      refine cv_aload_n C (pc' := 51) rfl (D 28 (50, .aload_n 0, 1) rfl) rfl (j := 2) rfl ?_
      refine cv_aload_n C (pc' := 52) rfl (D 29 (51, .aload_n 3, 1) rfl) rfl (j := 1) rfl ?_
      refine cv_aload_n C (pc' := 53) rfl (D 30 (52, .aload_n 0, 1) rfl) rfl (j := 2) rfl ?_
      refine cv_get C (pc' := 56) rfl (k0 := 22) (i := 1) (ci := 5) (by decide) rfl rfl (by decide) (o := none) rfl iw_X5 wfX5_15 (D 31 (53, .getfield 15, 3) rfl) (v := .int (nI q.2.1)) (congrArg Value.int ((cv_u_i (by omega)).trans hW.2.1)) ?_
      refine cv_callV C (pc' := 59) rfl (k0 := 12 + p) (ci := 1) (As := [.int (nI q.2.1)]) (rest := [.ref 22]) (idx := 60) (np := 1) (kX1_otherEnd L p q.2.1 (cv_u σ 22 0 (nI z39)) (cv_LC_k (fun k _ _ h => cv_u_c h) hL hB) hB hp w2) (cv_lt_p hp6) (cv_shC_p hp6) rfl rfl (by decide +kernel) rfl wmX5_60 wi_yX1_otherEnd ws_yX1_otherEnd wn_X1 wc_yX1_otherEnd (by decide) (by decide) (D 32 (56, .invokevirtual 60, 3) rfl) (Nat.le_of_ble_eq_true rfl) rfl (fun w9 u9 h9 => ?_)
      rw [h9.1, h9.2]
      show cv_At X _ _ (cv_u σ 22 0 (nI z39)) 59 _ [.int (cv_o (cv_oe L p q.2.1)), .ref 22]
      refine cv_put C (pc' := 62) rfl (k0 := 22) (i := 1) (ci := 5) (by decide) rfl rfl (by decide) rfl iw_X5 tyX5 tyX5_ok nmX5 wfX5_15 rfl rfl rfl (D 33 (59, .putfield 15, 3) rfl) ?_
      obtain ⟨z9, hz9⟩ := cv_ar_oe b39
      refine cv_iconst C (pc' := 63) rfl (D 34 (62, .iconst 1, 1) rfl) (v := nI 1) (by decide) ?_
      exact cv_iret C Rt (by decide) (D 35 (63, .ireturn, 1) rfl) (by rw [b39]; exact ⟨rfl, fun k hk => by simp only [cv_u_c hk], fun q2 h => by cases h; exact ⟨by simp [cv_u_at], by simp [cv_u_at]; rw [hz9]; rfl, by simp [cv_u_at, hW.2.2.1], by simp [cv_u_at, hW.2.2.2]⟩⟩)
    · skip
      refine cv_iconst C (pc' := 43) rfl (D 23 (42, .iconst 0, 1) rfl) (v := nI 0) (by decide) ?_
      exact cv_iret C Rt (by decide) (D 24 (43, .ireturn, 1) rfl) (by rw [b39]; exact ⟨rfl, fun k _ => rfl, fun q2 h => by cases h⟩)
  · skip
    rw [cv_in_nI hp (by have := hB.1; omega)] at b8; cases b8

set_option maxHeartbeats 4000000 in
set_option maxRecDepth 100000 in
theorem kX5_takesStep (L : cv_L) (q : cv_Q) (x : Nat) (σ : cv_St) (hL : cv_LC L σ) (hB : cv_LB L) (hW : cv_WC q σ) (hWB : cv_WB q) (hx : x < 6 → x < L 7 0) (hx9 : x ≤ 8) : cv_Ct yX5_takesStep cX5_takesStep 3 (some .boolean) 3 0 0 26 cv_shC [.ref 22, .int (nI x), .ref 10] σ (fun v u => v = some (.int (cv_b (cv_st L x q).isSome)) ∧ (∀ k, k ≠ 22 → u k = σ k) ∧ ∀ q2, (cv_st L x q) = some q2 → cv_WC q2 u) := by
  refine cv_enter (own := RX5) (by decide) rfl (Nat.le_of_ble_eq_true rfl) ?_
  intro X a C Rt hRm
  have D := @cv_dec _ _ dkX5_takesStep
  obtain ⟨w1, w2, w3, w4⟩ := id hWB
  show cv_At X _ _ σ 0 [(0, .ref 22), (1, .int (nI x)), (2, .ref 10)] []
  refine cv_aload_n C (pc' := 1) rfl (D 0 (0, .aload_n 0, 1) rfl) rfl (j := 0) rfl ?_
  refine cv_get C (pc' := 4) rfl (k0 := 22) (i := 2) (ci := 5) (by decide) rfl rfl (by decide) (o := none) rfl iw_X5 wfX5_18 (D 1 (1, .getfield 18, 3) rfl) (v := .int (nI q.2.2.1)) (congrArg Value.int hW.2.2.1) ?_
  refine cv_iconst C (pc' := 5) rfl (D 2 (4, .iconst 2, 1) rfl) (v := nI 2) (by decide) ?_
  refine cv_icmp_neN C (pc' := 8) rfl (by omega) (by omega) (tgt := 10) (D 3 (5, .if_icmp .ne 5, 3) rfl) (by decide) (fun b5 => ?_) (fun b5 => ?_)
  · skip
    refine cv_iload_n C (pc' := 11) rfl (D 6 (10, .iload_n 1, 1) rfl) rfl (j := 1) rfl ?_
    have hk : x = 6 ∨ x = 7 ∨ x = 8 ∨ x < 6 := by omega
    rcases hk with hx0 | hx0 | hx0 | hx0
    · skip
      refine cv_top (w := nI 6) (congrArg nI hx0) ?_
      refine cv_tableIn C (D 7 (11, .tableswitch 46 6 8 #[25, 30, 38], 25) rfl) (tgt := 36) (by decide) (by decide) rfl (by decide) ?_
      refine cv_aload_n C (pc' := 37) rfl (D 8 (36, .aload_n 0, 1) rfl) rfl (j := 0) rfl ?_
      refine cv_callV C (pc' := 40) rfl (k0 := 22) (ci := 5) (As := []) (rest := []) (idx := 24) (np := 0) (kX5_waitsADay q σ hW hWB) (by decide) rfl rfl rfl (by decide +kernel) rfl wmX5_24 wi_yX5_waitsADay ws_yX5_waitsADay wn_X5 wc_yX5_waitsADay (by decide) (by decide) (D 9 (37, .invokevirtual 24, 3) rfl) (Nat.le_of_ble_eq_true rfl) rfl (fun w37 u37 h37 => ?_)
      obtain ⟨e1, e2, e3⟩ := h37
      rw [e1]
      have est : cv_st L x q = (if q.1 < 7 then some (q.1 + 1, q.2.1, q.2.2.1, q.2.2.2 + 1) else (none : Option cv_Q)) := by unfold cv_st; simp [b5, hx0]
      exact cv_iret C Rt (cv_b_nar _) (D 10 (40, .ireturn, 1) rfl) (by rw [est]; exact ⟨rfl, e2, e3⟩)
    · skip
      refine cv_top (w := nI 7) (congrArg nI hx0) ?_
      refine cv_tableIn C (D 7 (11, .tableswitch 46 6 8 #[25, 30, 38], 25) rfl) (tgt := 41) (by decide) (by decide) rfl (by decide) ?_
      refine cv_aload_n C (pc' := 42) rfl (D 11 (41, .aload_n 0, 1) rfl) rfl (j := 0) rfl ?_
      refine cv_iconst C (pc' := 43) rfl (D 12 (42, .iconst 1, 1) rfl) (v := nI 1) (by decide) ?_
      refine cv_iconst C (pc' := 44) rfl (D 13 (43, .iconst 0, 1) rfl) (v := nI 0) (by decide) ?_
      refine cv_aload_n C (pc' := 45) rfl (D 14 (44, .aload_n 2, 1) rfl) rfl (j := 2) rfl ?_
      refine cv_callV C (pc' := 48) rfl (k0 := 22) (ci := 5) (As := [.int (nI 1), .int (nI 0), .ref 10]) (rest := []) (idx := 28) (np := 3) (kX5_gets L q 1 0 σ hL hB hW hWB (by decide) (by decide)) (by decide) rfl rfl rfl (by decide +kernel) rfl wmX5_28 wi_yX5_gets ws_yX5_gets wn_X5 wc_yX5_gets (by decide) (by decide) (D 15 (45, .invokevirtual 28, 3) rfl) (Nat.le_of_ble_eq_true rfl) rfl (fun w45 u45 h45 => ?_)
      obtain ⟨e1, e2, e3⟩ := h45
      rw [e1]
      have est : cv_st L x q = (if q.2.1 = 1 ∧ q.2.2.1 = 0 ∧ (L 6 1).testBit q.1 = true then some (q.1, q.2.1, 0 + 1, q.2.2.2) else (none : Option cv_Q)) := by unfold cv_st; simp [b5, hx0]
      exact cv_iret C Rt (cv_b_nar _) (D 16 (48, .ireturn, 1) rfl) (by rw [est]; exact ⟨rfl, e2, e3⟩)
    · skip
      refine cv_top (w := nI 8) (congrArg nI hx0) ?_
      refine cv_tableIn C (D 7 (11, .tableswitch 46 6 8 #[25, 30, 38], 25) rfl) (tgt := 49) (by decide) (by decide) rfl (by decide) ?_
      refine cv_aload_n C (pc' := 50) rfl (D 17 (49, .aload_n 0, 1) rfl) rfl (j := 0) rfl ?_
      refine cv_iconst C (pc' := 51) rfl (D 18 (50, .iconst 2, 1) rfl) (v := nI 2) (by decide) ?_
      refine cv_iconst C (pc' := 52) rfl (D 19 (51, .iconst 1, 1) rfl) (v := nI 1) (by decide) ?_
      refine cv_aload_n C (pc' := 53) rfl (D 20 (52, .aload_n 2, 1) rfl) rfl (j := 2) rfl ?_
      refine cv_callV C (pc' := 56) rfl (k0 := 22) (ci := 5) (As := [.int (nI 2), .int (nI 1), .ref 10]) (rest := []) (idx := 28) (np := 3) (kX5_gets L q 2 1 σ hL hB hW hWB (by decide) (by decide)) (by decide) rfl rfl rfl (by decide +kernel) rfl wmX5_28 wi_yX5_gets ws_yX5_gets wn_X5 wc_yX5_gets (by decide) (by decide) (D 21 (53, .invokevirtual 28, 3) rfl) (Nat.le_of_ble_eq_true rfl) rfl (fun w53 u53 h53 => ?_)
      obtain ⟨e1, e2, e3⟩ := h53
      rw [e1]
      have est : cv_st L x q = (if q.2.1 = 2 ∧ q.2.2.1 = 1 ∧ (L 6 2).testBit q.1 = true then some (q.1, q.2.1, 1 + 1, q.2.2.2) else (none : Option cv_Q)) := by unfold cv_st; simp [b5, hx0]
      exact cv_iret C Rt (cv_b_nar _) (D 22 (56, .ireturn, 1) rfl) (by rw [est]; exact ⟨rfl, e2, e3⟩)
    · skip
      refine cv_tableOut C (D 7 (11, .tableswitch 46 6 8 #[25, 30, 38], 25) rfl) (tgt := 57) (Or.inl (by rw [nI_toInt (by omega)]; omega)) (by decide) ?_
      have hx6 : ¬ x = 6 ∧ ¬ x = 7 ∧ ¬ x = 8 := by omega
      obtain ⟨hx6, hx7, hx8⟩ := hx6
      refine cv_aload_n C (pc' := 58) rfl (D 23 (57, .aload_n 0, 1) rfl) rfl (j := 0) rfl ?_
      refine cv_iload_n C (pc' := 59) rfl (D 24 (58, .iload_n 1, 1) rfl) rfl (j := 1) rfl ?_
      refine cv_aload_n C (pc' := 60) rfl (D 25 (59, .aload_n 2, 1) rfl) rfl (j := 2) rfl ?_
      refine cv_callV C (pc' := 63) rfl (k0 := 22) (ci := 5) (As := [.int (nI x), .ref 10]) (rest := []) (idx := 32) (np := 2) (kX5_crosses L q x σ hL hB hW hWB (hx (by omega))) (by decide) rfl rfl rfl (by decide +kernel) rfl wmX5_32 wi_yX5_crosses ws_yX5_crosses wn_X5 wc_yX5_crosses (by decide) (by decide) (D 26 (60, .invokevirtual 32, 3) rfl) (Nat.le_of_ble_eq_true rfl) rfl (fun w60 u60 h60 => ?_)
      obtain ⟨e1, e2, e3⟩ := h60
      rw [e1]
      have est : cv_st L x q = (match cv_ar L x q.2.1 q.1 with | none => (none : Option cv_Q) | some c => some (c, (cv_oe L x q.2.1).getD 0, q.2.2.1, q.2.2.2)) := by unfold cv_st; simp [b5, hx6, hx7, hx8];  cases cv_ar L x q.2.1 q.1 <;> rfl
      exact cv_iret C Rt (cv_b_nar _) (D 27 (63, .ireturn, 1) rfl) (by rw [est]; exact ⟨rfl, e2, e3⟩)
  · skip
    refine cv_iconst C (pc' := 9) rfl (D 4 (8, .iconst 0, 1) rfl) (v := nI 0) (by decide) ?_
    exact cv_iret C Rt (by decide) (D 5 (9, .ireturn, 1) rfl) ⟨by unfold cv_st; rw [if_pos b5]; rfl, fun k _ => rfl, fun q2 h => by unfold cv_st at h; rw [if_pos b5] at h; cases h⟩
end
section
set_option maxHeartbeats 4000000 in
set_option maxRecDepth 100000 in
theorem kX3_hasNothing0 (k : Nat) (σ : cv_St) (hk : k < 4) (hS : cv_S1 none (σ (2 + k))) : cv_Ct yX3_hasNothing cX3_hasNothing 1 (some .boolean) 0 0 0 26 cv_shC [.ref (2 + k)] σ (cv_pu (.int (cv_b true)) σ) := by
  refine cv_enter (own := RX3) (by decide) rfl (Nat.le_of_ble_eq_true rfl) ?_
  intro X a C Rt hRm
  have D := @cv_dec _ _ dkX3_hasNothing
  show cv_At X _ _ σ 0 [(0, .ref (2 + k))] []
  refine cv_aload_n C (pc' := 1) rfl (D 0 (0, .aload_n 0, 1) rfl) rfl (j := 0) rfl ?_
  refine cv_get C (pc' := 4) rfl (k0 := 2 + k) (i := 1) (ci := 3) (cv_lt_s hk) (cv_shC_s hk) rfl (by decide) (o := none) rfl iw_X3 wfX3_15 (D 1 (1, .getfield 15, 3) rfl) (v := .int (-1)) (congrArg Value.int hS) ?_
  refine cv_iconst C (pc' := 5) rfl (D 2 (4, .iconst (-1), 1) rfl) (v := -1) (by decide) ?_
  refine cv_icmp_ne C (pc' := 8) rfl (tgt := 12) (D 3 (5, .if_icmp .ne 7, 3) rfl) (by decide) (fun h => absurd h (by decide)) (fun _ => ?_)
  refine cv_iconst C (pc' := 9) rfl (D 4 (8, .iconst 1, 1) rfl) (v := nI 1) (by decide) ?_
  refine cv_goto C (tgt := 13) (D 5 (9, .goto 4, 3) rfl) (by decide) ?_
  exact cv_iret C Rt (by decide) (D 7 (13, .ireturn, 1) rfl) ⟨rfl, rfl⟩

set_option maxHeartbeats 4000000 in
set_option maxRecDepth 100000 in
theorem kX3_hasNothing1 (k : Nat) (q : Nat × Nat) (σ : cv_St) (hk : k < 4) (hS : cv_S1 (some q) (σ (2 + k))) : cv_Ct yX3_hasNothing cX3_hasNothing 1 (some .boolean) 0 0 0 26 cv_shC [.ref (2 + k)] σ (cv_pu (.int (cv_b false)) σ) := by
  refine cv_enter (own := RX3) (by decide) rfl (Nat.le_of_ble_eq_true rfl) ?_
  intro X a C Rt hRm
  have D := @cv_dec _ _ dkX3_hasNothing
  have hq1 := hS.2.2.1
  show cv_At X _ _ σ 0 [(0, .ref (2 + k))] []
  refine cv_aload_n C (pc' := 1) rfl (D 0 (0, .aload_n 0, 1) rfl) rfl (j := 0) rfl ?_
  refine cv_get C (pc' := 4) rfl (k0 := 2 + k) (i := 1) (ci := 3) (cv_lt_s hk) (cv_shC_s hk) rfl (by decide) (o := none) rfl iw_X3 wfX3_15 (D 1 (1, .getfield 15, 3) rfl) (v := .int (nI q.1)) (congrArg Value.int hS.1) ?_
  refine cv_iconst C (pc' := 5) rfl (D 2 (4, .iconst (-1), 1) rfl) (v := -1) (by decide) ?_
  refine cv_icmp_ne C (pc' := 8) rfl (tgt := 12) (D 3 (5, .if_icmp .ne 7, 3) rfl) (by decide) (fun b5 => ?_) (fun b5 => ?_)
  · skip
    refine cv_iconst C (pc' := 13) rfl (D 6 (12, .iconst 0, 1) rfl) (v := nI 0) (by decide) ?_
    exact cv_iret C Rt (by decide) (D 7 (13, .ireturn, 1) rfl) ⟨rfl, rfl⟩
  · skip
    exact absurd b5 (cv_m1 (by omega))

theorem kX3_hasNothing (k : Nat) (o : Option (Nat × Nat)) (σ : cv_St) (hk : k < 4) (hS : cv_S1 o (σ (2 + k))) : cv_Ct yX3_hasNothing cX3_hasNothing 1 (some .boolean) 0 0 0 26 cv_shC [.ref (2 + k)] σ (cv_pu (.int (cv_b o.isNone)) σ) := by
  cases o with
  | none => exact kX3_hasNothing0 k σ hk hS
  | some q => exact kX3_hasNothing1 k q σ hk hS
set_option maxHeartbeats 4000000 in
set_option maxRecDepth 100000 in
theorem kX3_hasCells (k m : Nat) (y z : Int32) (σ : cv_St) (hk : k < 4) (hS : σ (2 + k) 2 = nI m) : cv_Ct yX3_hasCells cX3_hasCells 3 (some .boolean) 0 0 0 26 cv_shC [.ref (2 + k), .int y, .int z] σ (cv_pu (.int (cv_b (cv_hs m y z))) σ) := by
  refine cv_enter (own := RX3) (by decide) rfl (Nat.le_of_ble_eq_true rfl) ?_
  intro X a C Rt hRm
  have D := @cv_dec _ _ dkX3_hasCells
  show cv_At X _ _ σ 0 [(0, .ref (2 + k)), (1, .int y), (2, .int z)] []
  refine cv_iload_n C (pc' := 1) rfl (D 0 (0, .iload_n 1, 1) rfl) rfl (j := 1) rfl ?_
  refine cv_if_lt C (pc' := 4) rfl (tgt := 30) (D 1 (1, .ifCond .lt 29, 3) rfl) (by decide) (fun b1 => ?_) (fun b1 => ?_)
  · skip
    refine cv_iconst C (pc' := 31) rfl (D 16 (30, .iconst 0, 1) rfl) (v := nI 0) (by decide) ?_
    exact cv_iret C Rt (by decide) (D 17 (31, .ireturn, 1) rfl) ⟨congrArg (fun z => some (Value.int z)) (by rw [cv_hs, decide_eq_false (fun h => h.1 b1)]; rfl), rfl⟩
  · skip
    refine cv_iload_n C (pc' := 5) rfl (D 2 (4, .iload_n 2, 1) rfl) rfl (j := 2) rfl ?_
    refine cv_if_lt C (pc' := 8) rfl (tgt := 30) (D 3 (5, .ifCond .lt 25, 3) rfl) (by decide) (fun b5 => ?_) (fun b5 => ?_)
    · skip
      refine cv_iconst C (pc' := 31) rfl (D 16 (30, .iconst 0, 1) rfl) (v := nI 0) (by decide) ?_
      exact cv_iret C Rt (by decide) (D 17 (31, .ireturn, 1) rfl) ⟨congrArg (fun z => some (Value.int z)) (by rw [cv_hs, decide_eq_false (fun h => h.2.1 b5)]; rfl), rfl⟩
    · skip
      refine cv_iload_n C (pc' := 9) rfl (D 4 (8, .iload_n 1, 1) rfl) rfl (j := 1) rfl ?_
      refine cv_aload_n C (pc' := 10) rfl (D 5 (9, .aload_n 0, 1) rfl) rfl (j := 0) rfl ?_
      refine cv_get C (pc' := 13) rfl (k0 := 2 + k) (i := 2) (ci := 3) (cv_lt_s hk) (cv_shC_s hk) rfl (by decide) (o := none) rfl iw_X3 wfX3_19 (D 6 (10, .getfield 19, 3) rfl) (v := .int (nI m)) (congrArg Value.int hS) ?_
      refine cv_icmp_gt C (pc' := 16) rfl (tgt := 30) (D 7 (13, .if_icmp .gt 17, 3) rfl) (by decide) (fun b13 => ?_) (fun b13 => ?_)
      · skip
        refine cv_iconst C (pc' := 31) rfl (D 16 (30, .iconst 0, 1) rfl) (v := nI 0) (by decide) ?_
        exact cv_iret C Rt (by decide) (D 17 (31, .ireturn, 1) rfl) ⟨congrArg (fun z => some (Value.int z)) (by rw [cv_hs, decide_eq_false (fun h => absurd b13 (Int32.not_lt.mpr h.2.2.1))]; rfl), rfl⟩
      · skip
        refine cv_iload_n C (pc' := 17) rfl (D 8 (16, .iload_n 2, 1) rfl) rfl (j := 2) rfl ?_
        refine cv_aload_n C (pc' := 18) rfl (D 9 (17, .aload_n 0, 1) rfl) rfl (j := 0) rfl ?_
        refine cv_get C (pc' := 21) rfl (k0 := 2 + k) (i := 2) (ci := 3) (cv_lt_s hk) (cv_shC_s hk) rfl (by decide) (o := none) rfl iw_X3 wfX3_19 (D 10 (18, .getfield 19, 3) rfl) (v := .int (nI m)) (congrArg Value.int hS) ?_
        refine cv_iload_n C (pc' := 22) rfl (D 11 (21, .iload_n 1, 1) rfl) rfl (j := 1) rfl ?_
        refine cv_isub C (pc' := 23) rfl (D 12 (22, .isub, 1) rfl) ?_
        refine cv_icmp_gt C (pc' := 26) rfl (tgt := 30) (D 13 (23, .if_icmp .gt 7, 3) rfl) (by decide) (fun b23 => ?_) (fun b23 => ?_)
        · skip
          refine cv_iconst C (pc' := 31) rfl (D 16 (30, .iconst 0, 1) rfl) (v := nI 0) (by decide) ?_
          exact cv_iret C Rt (by decide) (D 17 (31, .ireturn, 1) rfl) ⟨congrArg (fun z => some (Value.int z)) (by rw [cv_hs, decide_eq_false (fun h => absurd b23 (Int32.not_lt.mpr h.2.2.2))]; rfl), rfl⟩
        · skip
          refine cv_iconst C (pc' := 27) rfl (D 14 (26, .iconst 1, 1) rfl) (v := nI 1) (by decide) ?_
          refine cv_goto C (tgt := 31) (D 15 (27, .goto 4, 3) rfl) (by decide) ?_
          exact cv_iret C Rt (by decide) (D 17 (31, .ireturn, 1) rfl) ⟨congrArg (fun z => some (Value.int z)) (by rw [cv_hs, decide_eq_true ⟨b1, b5, Int32.not_lt.mp b13, Int32.not_lt.mp b23⟩]; rfl), rfl⟩

set_option maxHeartbeats 4000000 in
set_option maxRecDepth 100000 in
theorem kX3_faultOf0 (k : Nat) (x y z : Int32) (σ : cv_St) (hk : k < 4) (hS : cv_S1 none (σ (2 + k))) : cv_Ct yX3_faultOf cX3_faultOf 4 (some .int) 1 0 0 26 cv_shC [.ref (2 + k), .int x, .int y, .int z] σ (cv_pu (.int (nI (cv_fo none x y z))) σ) := by
  refine cv_enter (own := RX3) (by decide) rfl (Nat.le_of_ble_eq_true rfl) ?_
  intro X a C Rt hRm
  have D := @cv_dec _ _ dkX3_faultOf
  show cv_At X _ _ σ 0 [(0, .ref (2 + k)), (1, .int x), (2, .int y), (3, .int z)] []
  refine cv_aload_n C (pc' := 1) rfl (D 0 (0, .aload_n 0, 1) rfl) rfl (j := 0) rfl ?_
  refine cv_callV C (pc' := 4) rfl (k0 := 2 + k) (ci := 3) (As := []) (rest := []) (idx := 22) (np := 0) (kX3_hasNothing k none σ hk hS) (cv_lt_s hk) (cv_shC_s hk) rfl rfl (by decide +kernel) rfl wmX3_22 wi_yX3_hasNothing ws_yX3_hasNothing wn_X3 wc_yX3_hasNothing (by decide) (by decide) (D 1 (1, .invokevirtual 22, 3) rfl) (Nat.le_of_ble_eq_true rfl) rfl (fun w9 u9 h9 => ?_)
  rw [h9.1, h9.2]
  show cv_At X _ _ σ 4 _ [.int (cv_b true)]
  refine cv_if_neB C (pc' := 7) rfl (tgt := 17) (D 2 (4, .ifCond .ne 13, 3) rfl) (by decide) (fun b4 => ?_) (fun b4 => ?_)
  · skip
    refine cv_aload_n C (pc' := 18) rfl (D 9 (17, .aload_n 0, 1) rfl) rfl (j := 0) rfl ?_
    refine cv_callV C (pc' := 21) rfl (k0 := 2 + k) (ci := 3) (As := []) (rest := []) (idx := 22) (np := 0) (kX3_hasNothing k none σ hk hS) (cv_lt_s hk) (cv_shC_s hk) rfl rfl (by decide +kernel) rfl wmX3_22 wi_yX3_hasNothing ws_yX3_hasNothing wn_X3 wc_yX3_hasNothing (by decide) (by decide) (D 10 (18, .invokevirtual 22, 3) rfl) (Nat.le_of_ble_eq_true rfl) rfl (fun w9 u9 h9 => ?_)
    rw [h9.1, h9.2]
    show cv_At X _ _ σ 21 _ [.int (cv_b true)]
    refine cv_if_eqB C (pc' := 24) rfl (tgt := 26) (D 11 (21, .ifCond .eq 5, 3) rfl) (by decide) (fun b21 => ?_) (fun b21 => ?_)
    · skip
      cases b21
    · skip
      refine cv_iconst C (pc' := 25) rfl (D 12 (24, .iconst 1, 1) rfl) (v := nI 1) (by decide) ?_
      exact cv_iret C Rt rfl (D 13 (25, .ireturn, 1) rfl) ⟨rfl, rfl⟩
  · skip
    cases b4

set_option maxHeartbeats 4000000 in
set_option maxRecDepth 100000 in
theorem kX3_faultOf1 (k : Nat) (q : Nat × Nat) (x y z : Int32) (σ : cv_St) (hk : k < 4) (hS : cv_S1 (some q) (σ (2 + k))) : cv_Ct yX3_faultOf cX3_faultOf 4 (some .int) 1 0 0 26 cv_shC [.ref (2 + k), .int x, .int y, .int z] σ (cv_pu (.int (nI (cv_fo (some q) x y z))) σ) := by
  refine cv_enter (own := RX3) (by decide) rfl (Nat.le_of_ble_eq_true rfl) ?_
  intro X a C Rt hRm
  have D := @cv_dec _ _ dkX3_faultOf
  show cv_At X _ _ σ 0 [(0, .ref (2 + k)), (1, .int x), (2, .int y), (3, .int z)] []
  refine cv_aload_n C (pc' := 1) rfl (D 0 (0, .aload_n 0, 1) rfl) rfl (j := 0) rfl ?_
  refine cv_callV C (pc' := 4) rfl (k0 := 2 + k) (ci := 3) (As := []) (rest := []) (idx := 22) (np := 0) (kX3_hasNothing k (some q) σ hk hS) (cv_lt_s hk) (cv_shC_s hk) rfl rfl (by decide +kernel) rfl wmX3_22 wi_yX3_hasNothing ws_yX3_hasNothing wn_X3 wc_yX3_hasNothing (by decide) (by decide) (D 1 (1, .invokevirtual 22, 3) rfl) (Nat.le_of_ble_eq_true rfl) rfl (fun w9 u9 h9 => ?_)
  rw [h9.1, h9.2]
  show cv_At X _ _ σ 4 _ [.int (cv_b false)]
  refine cv_if_neB C (pc' := 7) rfl (tgt := 17) (D 2 (4, .ifCond .ne 13, 3) rfl) (by decide) (fun b4 => ?_) (fun b4 => ?_)
  · skip
    cases b4
  · skip
    refine cv_aload_n C (pc' := 8) rfl (D 3 (7, .aload_n 0, 1) rfl) rfl (j := 0) rfl ?_
    refine cv_get C (pc' := 11) rfl (k0 := 2 + k) (i := 1) (ci := 3) (cv_lt_s hk) (cv_shC_s hk) rfl (by decide) (o := none) rfl iw_X3 wfX3_15 (D 4 (8, .getfield 15, 3) rfl) (v := .int (nI q.1)) (congrArg Value.int hS.1) ?_
    refine cv_iload_n C (pc' := 12) rfl (D 5 (11, .iload_n 1, 1) rfl) rfl (j := 1) rfl ?_
    refine cv_icmp_eq C (pc' := 15) rfl (tgt := 17) (D 6 (12, .if_icmp .eq 5, 3) rfl) (by decide) (fun b12 => ?_) (fun b12 => ?_)
    · skip
      refine cv_aload_n C (pc' := 18) rfl (D 9 (17, .aload_n 0, 1) rfl) rfl (j := 0) rfl ?_
      refine cv_callV C (pc' := 21) rfl (k0 := 2 + k) (ci := 3) (As := []) (rest := []) (idx := 22) (np := 0) (kX3_hasNothing k (some q) σ hk hS) (cv_lt_s hk) (cv_shC_s hk) rfl rfl (by decide +kernel) rfl wmX3_22 wi_yX3_hasNothing ws_yX3_hasNothing wn_X3 wc_yX3_hasNothing (by decide) (by decide) (D 10 (18, .invokevirtual 22, 3) rfl) (Nat.le_of_ble_eq_true rfl) rfl (fun w9 u9 h9 => ?_)
      rw [h9.1, h9.2]
      show cv_At X _ _ σ 21 _ [.int (cv_b false)]
      refine cv_if_eqB C (pc' := 24) rfl (tgt := 26) (D 11 (21, .ifCond .eq 5, 3) rfl) (by decide) (fun b21 => ?_) (fun b21 => ?_)
      · skip
        refine cv_iload_n C (pc' := 27) rfl (D 14 (26, .iload_n 3, 1) rfl) rfl (j := 3) rfl ?_
        refine cv_if_ge C (pc' := 30) rfl (tgt := 32) (D 15 (27, .ifCond .ge 5, 3) rfl) (by decide) (fun b27 => ?_) (fun b27 => ?_)
        · skip
          refine cv_aload_n C (pc' := 33) rfl (D 18 (32, .aload_n 0, 1) rfl) rfl (j := 0) rfl ?_
          refine cv_iload_n C (pc' := 34) rfl (D 19 (33, .iload_n 2, 1) rfl) rfl (j := 2) rfl ?_
          refine cv_iload_n C (pc' := 35) rfl (D 20 (34, .iload_n 3, 1) rfl) rfl (j := 3) rfl ?_
          refine cv_callV C (pc' := 38) rfl (k0 := 2 + k) (ci := 3) (As := [.int y, .int z]) (rest := []) (idx := 26) (np := 2) (kX3_hasCells k q.2 y z σ hk hS.2.1) (cv_lt_s hk) (cv_shC_s hk) rfl rfl (by decide +kernel) rfl wmX3_26 wi_yX3_hasCells ws_yX3_hasCells wn_X3 wc_yX3_hasCells (by decide) (by decide) (D 21 (35, .invokevirtual 26, 3) rfl) (Nat.le_of_ble_eq_true rfl) rfl (fun w9 u9 h9 => ?_)
          rw [h9.1, h9.2]
          show cv_At X _ _ σ 38 _ [.int (cv_b (cv_hs q.2 y z))]
          refine cv_if_eqB C (pc' := 41) rfl (tgt := 45) (D 22 (38, .ifCond .eq 7, 3) rfl) (by decide) (fun b38 => ?_) (fun b38 => ?_)
          · skip
            refine cv_iconst C (pc' := 46) rfl (D 25 (45, .iconst 3, 1) rfl) (v := nI 3) (by decide) ?_
            exact cv_iret C Rt rfl (D 26 (46, .ireturn, 1) rfl) ⟨congrArg (fun z => some (Value.int z)) (by simp only [cv_fo]; rw [if_pos b12, if_neg (Int32.not_lt.mpr b27)]; rw [if_neg (by simp [b38])]), rfl⟩
          · skip
            refine cv_iconst C (pc' := 42) rfl (D 23 (41, .iconst 0, 1) rfl) (v := nI 0) (by decide) ?_
            refine cv_goto C (tgt := 46) (D 24 (42, .goto 4, 3) rfl) (by decide) ?_
            exact cv_iret C Rt rfl (D 26 (46, .ireturn, 1) rfl) ⟨congrArg (fun z => some (Value.int z)) (by simp only [cv_fo]; rw [if_pos b12, if_neg (Int32.not_lt.mpr b27)]; rw [if_pos b38]), rfl⟩
        · skip
          refine cv_iconst C (pc' := 31) rfl (D 16 (30, .iconst 4, 1) rfl) (v := nI 4) (by decide) ?_
          exact cv_iret C Rt rfl (D 17 (31, .ireturn, 1) rfl) ⟨congrArg (fun z => some (Value.int z)) (by simp only [cv_fo]; rw [if_pos b12, if_pos (Int32.not_le.mp b27)]), rfl⟩
      · skip
        cases b21
    · skip
      refine cv_iconst C (pc' := 16) rfl (D 7 (15, .iconst 2, 1) rfl) (v := nI 2) (by decide) ?_
      exact cv_iret C Rt rfl (D 8 (16, .ireturn, 1) rfl) ⟨congrArg (fun z => some (Value.int z)) (by simp only [cv_fo]; rw [if_neg b12]), rfl⟩

theorem kX3_faultOf (k : Nat) (o : Option (Nat × Nat)) (x y z : Int32) (σ : cv_St) (hk : k < 4) (hS : cv_S1 o (σ (2 + k))) : cv_Ct yX3_faultOf cX3_faultOf 4 (some .int) 1 0 0 26 cv_shC [.ref (2 + k), .int x, .int y, .int z] σ (cv_pu (.int (nI (cv_fo o x y z))) σ) := by
  cases o with
  | none => exact kX3_faultOf0 k x y z σ hk hS
  | some q => exact kX3_faultOf1 k q x y z σ hk hS
set_option maxHeartbeats 4000000 in
set_option maxRecDepth 100000 in
theorem kX3_cut (k : Nat) (q : Nat × Nat) (v : Int32) (σ : cv_St) (hk : k < 4) (hS : cv_S1 (some q) (σ (2 + k))) : cv_Ct yX3_cut cX3_cut 2 (some .int) 0 0 0 26 cv_shC [.ref (2 + k), .int v] σ (cv_pu (.int (cv_ct q.1 v)) σ) := by
  refine cv_enter (own := RX3) (by decide) rfl (Nat.le_of_ble_eq_true rfl) ?_
  intro X a C Rt hRm
  have D := @cv_dec _ _ dkX3_cut
  have hq1 := hS.2.2.1
  show cv_At X _ _ σ 0 [(0, .ref (2 + k)), (1, .int v)] []
  refine cv_aload_n C (pc' := 1) rfl (D 0 (0, .aload_n 0, 1) rfl) rfl (j := 0) rfl ?_
  refine cv_get C (pc' := 4) rfl (k0 := 2 + k) (i := 1) (ci := 3) (cv_lt_s hk) (cv_shC_s hk) rfl (by decide) (o := none) rfl iw_X3 wfX3_15 (D 1 (1, .getfield 15, 3) rfl) (v := .int (nI q.1)) (congrArg Value.int hS.1) ?_
  have hq3 : q.1 = 0 ∨ q.1 = 1 ∨ q.1 = 2 := by omega
  rcases hq3 with h0 | h0 | h0
  · skip
    refine cv_top (w := nI 0) (congrArg nI h0) ?_
    refine cv_lookup C (D 2 (4, .lookupswitch 34 #[(0, 28), (1, 31)], 28) rfl) (off := 28) (tgt := 32) (by decide) (by decide) (by decide) ?_
    refine cv_iload_n C (pc' := 33) rfl (D 3 (32, .iload_n 1, 1) rfl) rfl (j := 1) rfl ?_
    refine cv_i2b C (pc' := 34) rfl (D 4 (33, .i2b, 1) rfl) rfl ?_
    exact cv_iret C Rt rfl (D 5 (34, .ireturn, 1) rfl) ⟨congrArg (fun z => some (Value.int z)) (by unfold cv_ct; simp [h0]), rfl⟩
  · skip
    refine cv_top (w := nI 1) (congrArg nI h0) ?_
    refine cv_lookup C (D 2 (4, .lookupswitch 34 #[(0, 28), (1, 31)], 28) rfl) (off := 31) (tgt := 35) (by decide) (by decide) (by decide) ?_
    refine cv_iload_n C (pc' := 36) rfl (D 6 (35, .iload_n 1, 1) rfl) rfl (j := 1) rfl ?_
    refine cv_i2s C (pc' := 37) rfl (D 7 (36, .i2s, 1) rfl) rfl ?_
    exact cv_iret C Rt rfl (D 8 (37, .ireturn, 1) rfl) ⟨congrArg (fun z => some (Value.int z)) (by unfold cv_ct; simp [h0]), rfl⟩
  · skip
    refine cv_top (w := nI 2) (congrArg nI h0) ?_
    refine cv_lookup C (D 2 (4, .lookupswitch 34 #[(0, 28), (1, 31)], 28) rfl) (off := 34) (tgt := 38) (by decide) (by decide) (by decide) ?_
    refine cv_iload_n C (pc' := 39) rfl (D 9 (38, .iload_n 1, 1) rfl) rfl (j := 1) rfl ?_
    exact cv_iret C Rt rfl (D 10 (39, .ireturn, 1) rfl) ⟨congrArg (fun z => some (Value.int z)) (by unfold cv_ct; simp [h0]), rfl⟩

set_option maxHeartbeats 4000000 in
set_option maxRecDepth 100000 in
theorem kX3_renew (k : Nat) (x y : Int32) (σ : cv_St) (hk : k < 4) : cv_Ct yX3_renew cX3_renew 4 none 0 0 0 26 cv_shC [.ref (2 + k), .int x, .int y] σ (fun v u => v = none ∧ (∀ j, j ≠ 2 + k → j ≠ 6 + k → u j = σ j) ∧ u (2 + k) 1 = x ∧ u (2 + k) 2 = y ∧ ∀ i, i < 60 → u (6 + k) i = 0) := by
  refine cv_enter (own := RX3) (by decide) rfl (Nat.le_of_ble_eq_true rfl) ?_
  intro X a C Rt hRm
  have D := @cv_dec _ _ dkX3_renew
  show cv_At X _ _ σ 0 [(0, .ref (2 + k)), (1, .int x), (2, .int y)] []
  refine cv_aload_n C (pc' := 1) rfl (D 0 (0, .aload_n 0, 1) rfl) rfl (j := 0) rfl ?_
  refine cv_iload_n C (pc' := 2) rfl (D 1 (1, .iload_n 1, 1) rfl) rfl (j := 1) rfl ?_
  refine cv_put C (pc' := 5) rfl (k0 := 2 + k) (i := 1) (ci := 3) (cv_lt_s hk) (cv_shC_s hk) rfl (by decide) rfl iw_X3 tyX3 tyX3_ok nmX3 wfX3_15 rfl rfl rfl (D 2 (2, .putfield 15, 3) rfl) ?_
  refine cv_aload_n C (pc' := 6) rfl (D 3 (5, .aload_n 0, 1) rfl) rfl (j := 0) rfl ?_
  refine cv_iload_n C (pc' := 7) rfl (D 4 (6, .iload_n 2, 1) rfl) rfl (j := 2) rfl ?_
  refine cv_put C (pc' := 10) rfl (k0 := 2 + k) (i := 2) (ci := 3) (cv_lt_s hk) (cv_shC_s hk) rfl (by decide) rfl iw_X3 tyX3 tyX3_ok nmX3 wfX3_19 rfl rfl rfl (D 5 (7, .putfield 19, 3) rfl) ?_
  refine cv_iconst C (pc' := 11) rfl (D 6 (10, .iconst 0, 1) rfl) (v := nI 0) (by decide) ?_
  refine cv_istore_n C (pc' := 12) rfl (D 7 (11, .istore_n 3, 1) rfl) rfl (by decide) (lv' := [(3, .int (nI 0)), (0, .ref (2 + k)), (1, .int x), (2, .int y)]) rfl ?_
  have LP12 : ∀ (r : Nat) (i : Nat) (τ : cv_St), (i + r = 60) → ((∀ j, j ≠ 2 + k → j ≠ 6 + k → τ j = σ j) ∧ τ (2 + k) 1 = x ∧ τ (2 + k) 2 = y ∧ ∀ q, q < i → τ (6 + k) q = 0) → cv_At X (26, cv_shC, 0, 0, a) 4 τ 12 [(3, .int (nI i)), (0, .ref (2 + k)), (1, .int x), (2, .int y)] [] := by
    intro r
    induction r with
    | zero =>
      intro i τ hr hI
      obtain rfl : i = 60 := by omega
      refine cv_iload_n C (pc' := 13) rfl (D 8 (12, .iload_n 3, 1) rfl) rfl (j := 0) rfl ?_
      refine cv_bipush C (pc' := 15) rfl (D 9 (13, .bipush 60, 2) rfl) (v := nI 60) (by decide) ?_
      refine cv_icmp_ge C (pc' := 18) rfl (tgt := 31) (D 10 (15, .if_icmp .ge 16, 3) rfl) (by decide) (fun _ => ?_) (fun h => absurd h (by decide))
      exact cv_vret C Rt (D 18 (31, .return_, 1) rfl) ⟨rfl, hI⟩
    | succ r ih12 =>
      intro i τ hr hI
      refine cv_iload_n C (pc' := 13) rfl (D 8 (12, .iload_n 3, 1) rfl) rfl (j := 0) rfl ?_
      refine cv_bipush C (pc' := 15) rfl (D 9 (13, .bipush 60, 2) rfl) (v := nI 60) (by decide) ?_
      refine cv_icmp_geN C (pc' := 18) rfl (by omega) (by omega) (tgt := 31) (D 10 (15, .if_icmp .ge 16, 3) rfl) (by decide) (fun b15 => ?_) (fun b15 => ?_)
      · skip
        omega
      · skip
        refine cv_aload_n C (pc' := 19) rfl (D 11 (18, .aload_n 0, 1) rfl) rfl (j := 1) rfl ?_
        refine cv_get C (pc' := 22) rfl (k0 := 2 + k) (i := 0) (ci := 3) (cv_lt_s hk) (cv_shC_s hk) rfl (by decide) (o := some (6 + k)) rfl iw_X3 wfX3_9 (D 12 (19, .getfield 9, 3) rfl) rfl ?_
        refine cv_iload_n C (pc' := 23) rfl (D 13 (22, .iload_n 3, 1) rfl) rfl (j := 0) rfl ?_
        refine cv_iconst C (pc' := 24) rfl (D 14 (23, .iconst 0, 1) rfl) (v := nI 0) (by decide) ?_
        refine cv_iast C (pc' := 25) rfl (k0 := 6 + k) (j := i) (cv_lt_c hk) (cv_shC_c hk) rfl (by omega) (by decide) (D 15 (24, .iastore, 1) rfl) ?_
        refine cv_iincN C (pc' := 28) rfl (D 16 (25, .iinc 3 1, 3) rfl) (j := 0) rfl (by decide) (lv' := [(3, .int (nI (i + 1))), (0, .ref (2 + k)), (1, .int x), (2, .int y)]) rfl ?_
        refine cv_goto C (tgt := 12) (D 17 (28, .goto (-16), 3) rfl) (by decide) ?_
        exact ih12 (i + 1) (cv_u τ (6 + k) i (nI 0)) (by omega) ⟨fun j h1 h2 => by rw [cv_u_c h2]; exact hI.1 j h1 h2, by rw [cv_u_c (by omega)]; exact hI.2.1, by rw [cv_u_c (by omega)]; exact hI.2.2.1, cv_ex (fun q h => by rw [cv_u_i (by omega)]; exact hI.2.2.2 q h) cv_u_s⟩
  exact LP12 60 0 (cv_u (cv_u σ (2 + k) 1 x) (2 + k) 2 y) (by decide) ⟨fun j h1 h2 => by simp only [cv_u_c h1], by simp [cv_u_at], by simp [cv_u_at], fun q h => by omega⟩
end
section
/-! ===== the whole of the class's ints, by what they tell: trace, fault, sheets, cells, land, readings ===== -/
def cv_RC (tr : Int32) (ft : Nat) (sl : Nat → Option (Nat × Nat)) (sc : Nat → Nat → Int32) (L : cv_L) (rc : Nat) (rd : Nat → Nat) (rn : Nat → Option Nat) (σ : cv_St) : Prop :=
  σ 0 4 = tr ∧ σ 0 5 = nI ft ∧ (∀ k, k < 4 → cv_S1 (sl k) (σ (2 + k)) ∧ ((sl k).isSome = true → ∀ i, i < 60 → σ (6 + k) i = sc k i)) ∧ cv_LC L σ ∧ σ 10 5 = cv_b (decide (0 < L 7 0)) ∧ cv_DC rc rd rn σ
theorem cv_DC_k {rc : Nat} {rd : Nat → Nat} {rn : Nat → Option Nat} {σ τ : cv_St} (h : ∀ k, k ≠ 20 → k ≠ 21 → k ≠ 22 → τ k = σ k) (hD : cv_DC rc rd rn σ) : cv_DC rc rd rn τ :=
  ⟨by rw [h 23 (by decide) (by decide) (by decide)]; exact hD.1, fun k hk => by rw [h 24 (by decide) (by decide) (by decide), h 25 (by decide) (by decide) (by decide)]; exact hD.2 k hk⟩
theorem cv_RC_k {tr : Int32} {ft : Nat} {sl : Nat → Option (Nat × Nat)} {sc : Nat → Nat → Int32} {L : cv_L} {rc : Nat} {rd : Nat → Nat} {rn : Nat → Option Nat} {σ τ : cv_St} (h : ∀ k, k ≠ 20 → k ≠ 21 → k ≠ 22 → τ k = σ k) (hB : cv_LB L) (hR : cv_RC tr ft sl sc L rc rd rn σ) : cv_RC tr ft sl sc L rc rd rn τ := by
  obtain ⟨h1, h2, h3, h4, h5, h6⟩ := hR
  refine ⟨by rw [h 0 (by decide) (by decide) (by decide)]; exact h1, by rw [h 0 (by decide) (by decide) (by decide)]; exact h2, fun k hk => ?_, cv_LC_k h h4 hB, by rw [h 10 (by decide) (by decide) (by decide)]; exact h5, cv_DC_k h h6⟩
  rw [h (2 + k) (by omega) (by omega) (by omega), h (6 + k) (by omega) (by omega) (by omega)]
  exact h3 k hk
theorem cv_RC_f {tr : Int32} {ft : Nat} {sl : Nat → Option (Nat × Nat)} {sc : Nat → Nat → Int32} {L : cv_L} {rc : Nat} {rd : Nat → Nat} {rn : Nat → Option Nat} {σ : cv_St} (f : Nat) (hR : cv_RC tr ft sl sc L rc rd rn σ) : cv_RC tr f sl sc L rc rd rn (cv_u σ 0 5 (nI f)) := by
  obtain ⟨h1, h2, h3, h4, h5, h6⟩ := hR
  have e : ∀ k, k ≠ 0 → cv_u σ 0 5 (nI f) k = σ k := fun k hk => cv_u_c hk
  refine ⟨by rw [cv_u_i (by decide)]; exact h1, cv_u_s, fun k hk => ?_, ?_, by rw [e 10 (by decide)]; exact h5, ?_⟩
  · rw [e (2 + k) (by omega), e (6 + k) (by omega)]; exact h3 k hk
  · exact ⟨by rw [e 10 (by decide)]; exact h4.1, fun d hd => by rw [e 18 (by decide)]; exact h4.2.1 d hd, fun v hv => by rw [e 19 (by decide)]; exact h4.2.2.1 v hv, fun p hp i hi => by rw [e (12 + p) (by omega)]; exact h4.2.2.2 p hp i hi⟩
  · exact ⟨by rw [e 23 (by decide)]; exact h6.1, fun k hk => by rw [e 24 (by decide), e 25 (by decide)]; exact h6.2 k hk⟩
theorem cv_RC_t {tr : Int32} {ft : Nat} {sl : Nat → Option (Nat × Nat)} {sc : Nat → Nat → Int32} {L : cv_L} {rc : Nat} {rd : Nat → Nat} {rn : Nat → Option Nat} {σ : cv_St} (t : Int32) (hR : cv_RC tr ft sl sc L rc rd rn σ) : cv_RC t ft sl sc L rc rd rn (cv_u σ 0 4 t) := by
  obtain ⟨h1, h2, h3, h4, h5, h6⟩ := hR
  have e : ∀ k, k ≠ 0 → cv_u σ 0 4 t k = σ k := fun k hk => cv_u_c hk
  refine ⟨cv_u_s, by rw [cv_u_i (by decide)]; exact h2, fun k hk => ?_, ?_, by rw [e 10 (by decide)]; exact h5, ?_⟩
  · rw [e (2 + k) (by omega), e (6 + k) (by omega)]; exact h3 k hk
  · exact ⟨by rw [e 10 (by decide)]; exact h4.1, fun d hd => by rw [e 18 (by decide)]; exact h4.2.1 d hd, fun v hv => by rw [e 19 (by decide)]; exact h4.2.2.1 v hv, fun p hp i hi => by rw [e (12 + p) (by omega)]; exact h4.2.2.2 p hp i hi⟩
  · exact ⟨by rw [e 23 (by decide)]; exact h6.1, fun k hk => by rw [e 24 (by decide), e 25 (by decide)]; exact h6.2 k hk⟩
theorem cv_lu_s {L : cv_L} {k i v : Nat} : cv_lu L k i v k i = v := by simp [cv_lu]
theorem cv_lu_k {L : cv_L} {k i v j q : Nat} (h : j ≠ k) : cv_lu L k i v j q = L j q := by simp [cv_lu, h]
theorem cv_lu_i {L : cv_L} {k i v j q : Nat} (h : q ≠ i) : cv_lu L k i v j q = L j q := by simp [cv_lu, h]
/-- snow of a day -/
theorem cv_LC_snow {L : cv_L} {σ : cv_St} (hL : cv_LC L σ) (hB : cv_LB L) (d v : Nat) : cv_LC (cv_lu L 5 d v) (cv_u σ 18 d (nI v)) := by
  have h6 := hB.1
  refine ⟨by rw [cv_u_c (by decide), cv_lu_k (by decide)]; exact hL.1, fun j hj => ?_, fun w hw => by rw [cv_u_c (by decide), cv_lu_k (by decide)]; exact hL.2.2.1 w hw, fun p hp i hi => ?_⟩
  · by_cases e : j = d
    · subst e; rw [cv_u_s, cv_lu_s]
    · rw [cv_u_i e, cv_lu_i e]; exact hL.2.1 j hj
  · rw [cv_lu_k (by decide)] at hp
    rw [cv_u_c (by omega), cv_lu_k (by omega)]; exact hL.2.2.2 p hp i hi
theorem cv_LB_snow {L : cv_L} (hB : cv_LB L) {d v : Nat} (hv : v ≤ 9) : cv_LB (cv_lu L 5 d v) := by
  refine ⟨by rw [cv_lu_k (by decide)]; exact hB.1, fun p hp => ?_, fun j hj => ?_, fun w hw => by rw [cv_lu_k (by decide)]; exact hB.2.2.2 w hw⟩
  · rw [cv_lu_k (by decide)] at hp
    simp only [cv_lu_k (show (0 : Nat) ≠ 5 by decide), cv_lu_k (show (1 : Nat) ≠ 5 by decide), cv_lu_k (show (2 : Nat) ≠ 5 by decide), cv_lu_k (show (3 : Nat) ≠ 5 by decide), cv_lu_k (show (4 : Nat) ≠ 5 by decide)]
    exact hB.2.1 p hp
  · by_cases e : j = d
    · subst e; rw [cv_lu_s]; exact hv
    · rw [cv_lu_i e]; exact hB.2.2.1 j hj
/-- days of giving of a valley -/
theorem cv_LC_give {L : cv_L} {σ : cv_St} (hL : cv_LC L σ) (hB : cv_LB L) (w v : Nat) : cv_LC (cv_lu L 6 w v) (cv_u σ 19 w (nI v)) := by
  have h6 := hB.1
  refine ⟨by rw [cv_u_c (by decide), cv_lu_k (by decide)]; exact hL.1, fun j hj => by rw [cv_u_c (by decide), cv_lu_k (by decide)]; exact hL.2.1 j hj, fun j hj => ?_, fun p hp i hi => ?_⟩
  · by_cases e : j = w
    · subst e; rw [cv_u_s, cv_lu_s]
    · rw [cv_u_i e, cv_lu_i e]; exact hL.2.2.1 j hj
  · rw [cv_lu_k (by decide)] at hp
    rw [cv_u_c (by omega), cv_lu_k (by omega)]; exact hL.2.2.2 p hp i hi
theorem cv_LB_give {L : cv_L} (hB : cv_LB L) {w v : Nat} (hv : v < 256) : cv_LB (cv_lu L 6 w v) := by
  refine ⟨by rw [cv_lu_k (by decide)]; exact hB.1, fun p hp => ?_, fun j hj => by rw [cv_lu_k (by decide)]; exact hB.2.2.1 j hj, fun j hj => ?_⟩
  · rw [cv_lu_k (by decide)] at hp
    simp only [cv_lu_k (show (0 : Nat) ≠ 6 by decide), cv_lu_k (show (1 : Nat) ≠ 6 by decide), cv_lu_k (show (2 : Nat) ≠ 6 by decide), cv_lu_k (show (3 : Nat) ≠ 6 by decide), cv_lu_k (show (4 : Nat) ≠ 6 by decide)]
    exact hB.2.1 p hp
  · by_cases e : j = w
    · subst e; rw [cv_lu_s]; exact hv
    · rw [cv_lu_i e]; exact hB.2.2.2 j hj
/-- a pass's number of a kind i < 5 -/
theorem cv_LC_pass {L : cv_L} {σ : cv_St} (hL : cv_LC L σ) (hB : cv_LB L) (p i v : Nat) (hi : i < 5) (hp : p < L 7 0) : cv_LC (cv_lu L i p v) (cv_u σ (12 + p) i (nI v)) := by
  have h6 := hB.1
  refine ⟨by rw [cv_u_c (by omega), cv_lu_k (by omega)]; exact hL.1, fun j hj => by rw [cv_u_c (by omega), cv_lu_k (by omega)]; exact hL.2.1 j hj, fun j hj => by rw [cv_u_c (by omega), cv_lu_k (by omega)]; exact hL.2.2.1 j hj, fun p' hp' i' hi' => ?_⟩
  rw [cv_lu_k (by omega)] at hp'
  by_cases e : p' = p
  · subst e
    by_cases e2 : i' = i
    · subst e2; rw [cv_u_s, cv_lu_s]
    · rw [cv_u_i e2, cv_lu_k e2]; exact hL.2.2.2 p' hp' i' hi'
  · rw [cv_u_c (by omega), cv_lu_i e]; exact hL.2.2.2 p' hp' i' hi'
theorem cv_LB_high {L : cv_L} (hB : cv_LB L) {p v : Nat} (hv : v ≤ 9) : cv_LB (cv_lu L 4 p v) := by
  refine ⟨by rw [cv_lu_k (by decide)]; exact hB.1, fun j hj => ?_, fun j hj => by rw [cv_lu_k (by decide)]; exact hB.2.2.1 j hj, fun j hj => by rw [cv_lu_k (by decide)]; exact hB.2.2.2 j hj⟩
  rw [cv_lu_k (by decide)] at hj
  obtain ⟨g0, g1, g2, g3, g4⟩ := hB.2.1 j hj
  refine ⟨by rw [cv_lu_k (by decide)]; exact g0, by rw [cv_lu_k (by decide)]; exact g1, by rw [cv_lu_k (by decide)]; exact g2, by rw [cv_lu_k (by decide)]; exact g3, ?_⟩
  by_cases e : j = p
  · subst e; rw [cv_lu_s]; exact hv
  · rw [cv_lu_i e]; exact g4
theorem cv_LB_kind {L : cv_L} (hB : cv_LB L) {p v : Nat} (hv : v ≤ 2) : cv_LB (cv_lu L 0 p v) := by
  refine ⟨by rw [cv_lu_k (by decide)]; exact hB.1, fun j hj => ?_, fun j hj => by rw [cv_lu_k (by decide)]; exact hB.2.2.1 j hj, fun j hj => by rw [cv_lu_k (by decide)]; exact hB.2.2.2 j hj⟩
  rw [cv_lu_k (by decide)] at hj
  obtain ⟨g0, g1, g2, g3, g4⟩ := hB.2.1 j hj
  refine ⟨?_, by rw [cv_lu_k (by decide)]; exact g1, by rw [cv_lu_k (by decide)]; exact g2, by rw [cv_lu_k (by decide)]; exact g3, by rw [cv_lu_k (by decide)]; exact g4⟩
  by_cases e : j = p
  · subst e; rw [cv_lu_s]; exact hv
  · rw [cv_lu_i e]; exact g0
theorem cv_RC_L {tr : Int32} {ft : Nat} {sl : Nat → Option (Nat × Nat)} {sc : Nat → Nat → Int32} {L L' : cv_L} {rc : Nat} {rd : Nat → Nat} {rn : Nat → Option Nat} {σ τ : cv_St} (h : ∀ k, k < 10 ∨ 23 ≤ k → τ k = σ k) (h10 : τ 10 5 = σ 10 5) (hn : L' 7 0 = L 7 0) (hL : cv_LC L' τ) (hR : cv_RC tr ft sl sc L rc rd rn σ) : cv_RC tr ft sl sc L' rc rd rn τ := by
  obtain ⟨h1, h2, h3, h4, h5, h6⟩ := hR
  refine ⟨by rw [h 0 (by decide)]; exact h1, by rw [h 0 (by decide)]; exact h2, fun k hk => ?_, hL, by rw [h10, hn]; exact h5, ⟨by rw [h 23 (by decide)]; exact h6.1, fun k hk => by rw [h 24 (by decide), h 25 (by decide)]; exact h6.2 k hk⟩⟩
  rw [h (2 + k) (by omega), h (6 + k) (by omega)]
  exact h3 k hk
/-! ===== the answers ===== -/
abbrev cv_nt (x : Int32) : Nat := x.toNatClampNeg
/-- the day of being done at the soonest, without the pass x -/
def cv_so (L : cv_L) (x : Int32) (d r t : Nat) : Option Nat := cv_dw (cv_RT L (fun q => decide (nI q = x)) 8) (L 6 0) d r t
abbrev cv_sn (L : cv_L) (d : Nat) : Option Nat := cv_so L (-1) d (L 6 1) (L 6 2)
def cv_a_ofPass (L : cv_L) (x y : Int32) : Int32 := if cv_in x (L 7 0) = true then (if y = 0 then nI (L 0 (cv_nt x)) else if y = 1 then nI (L 1 (cv_nt x)) else if y = 2 then nI (L 2 (cv_nt x)) else if y = 3 then nI (L 3 (cv_nt x)) else if y = 4 then nI (L 4 (cv_nt x)) else if y = 5 then nI (cv_tk L (cv_nt x)) else -2) else -1
/-- refused: x is no day, there is no land -/
def cv_day (L : cv_L) (x : Int32) (v : Int32) : Int32 := if cv_in x 8 = true then (if 0 < L 7 0 then v else -3) else -2
def cv_day2 (L : cv_L) (x y : Int32) (v : Int32) : Int32 := if cv_in x 8 = true ∧ cv_in y 8 = true then (if 0 < L 7 0 then v else -3) else -2
def cv_a_snow (L : cv_L) (x y : Int32) : Int32 := if cv_in x 8 = true ∧ cv_in y 10 = true then (if 0 < L 7 0 then nI (L 5 (cv_nt x)) else -3) else -2
def cv_n_snow (L : cv_L) (x y : Int32) : cv_L := if cv_in x 8 = true ∧ cv_in y 10 = true ∧ 0 < L 7 0 then cv_lu L 5 (cv_nt x) (cv_nt y) else L
def cv_a_give (L : cv_L) (x y : Int32) : Int32 := if cv_in x 3 = true then (if cv_in y 256 = true then (if 0 < L 7 0 then nI (L 6 (cv_nt x)) else -3) else -2) else -1
def cv_n_give (L : cv_L) (x y : Int32) : cv_L := if cv_in x 3 = true ∧ cv_in y 256 = true ∧ 0 < L 7 0 then cv_lu L 6 (cv_nt x) (cv_nt y) else L
/-- a set, by its members below n -/
def cv_sb (P : Nat → Bool) : Nat → Nat
  | 0 => 0
  | n + 1 => if P n = true then cv_sb P n ||| 2 ^ n else cv_sb P n
/-- the last below n -/
def cv_la (P : Nat → Bool) : Nat → Option Nat
  | 0 => none
  | n + 1 => if P n = true then some n else cv_la P n
theorem cv_la_lt {P : Nat → Bool} : ∀ {n z : Nat}, cv_la P n = some z → z < n
  | 0, z, h => by cases h
  | n + 1, z, h => by
    simp only [cv_la] at h
    split at h
    · cases h; omega
    · have := cv_la_lt h; omega
def cv_can (L : cv_L) (x : Int32) (d w r t : Nat) : Bool := cv_by (cv_so L x d r t) w
def cv_a_open (L : cv_L) (x : Int32) : Int32 := cv_day L x (nI (cv_sb (fun p => cv_op L p (cv_nt x)) (L 7 0)))
def cv_a_soonest (L : cv_L) (x : Int32) : Int32 := cv_day L x (cv_o (cv_sn L (cv_nt x)))
def cv_a_holes (L : cv_L) (x : Int32) : Int32 := cv_day L x (cv_o (cv_fh L (cv_nt x)))
def cv_a_last (L : cv_L) (x : Int32) : Int32 := cv_day L x (cv_o (cv_la (fun d => cv_can L (-1) d (cv_nt x) (L 6 1) (L 6 2)) 8))
def cv_a_safe (L : cv_L) (x : Int32) : Int32 := cv_day L x (cv_o (cv_la (fun d => cv_al (fun h => cv_can L (-1) d (cv_nt x) (cv_clr (L 6 1) (h / 8)) (cv_clr (L 6 2) (h % 8))) 64) 8))
def cv_a_hangs (L : cv_L) (x y : Int32) : Int32 := cv_day2 L x y (if cv_can L (-1) (cv_nt x) (cv_nt y) (L 6 1) (L 6 2) = true then nI (cv_sb (fun p => !cv_can L (nI p) (cv_nt x) (cv_nt y) (L 6 1) (L 6 2)) (L 7 0)) else 0)
def cv_a_peace (L : cv_L) (x y : Int32) : Int32 := cv_day2 L x y (cv_o (cv_pe (cv_RT L (fun q => decide (nI q = -1)) 8) (L 6 0) (L 6 1) (L 6 2) (cv_nt x) (cv_nt y)))
/-- all readings are so in a land -/
def cv_hold (L : cv_L) (rc : Nat) (rd : Nat → Nat) (rn : Nat → Option Nat) : Bool := cv_ho (cv_sn L) rc rd rn
def cv_a_snows (L : cv_L) (rc : Nat) (rd : Nat → Nat) (rn : Nat → Option Nat) (x : Int32) : Int32 := cv_day L x (nI (cv_sb (fun v => cv_hold (cv_lu L 5 (cv_nt x) v) rc rd rn) 10))
def cv_a_heights (L : cv_L) (rc : Nat) (rd : Nat → Nat) (rn : Nat → Option Nat) (x : Int32) : Int32 := if cv_in x (L 7 0) = true then nI (cv_sb (fun v => cv_hold (cv_lu L 4 (cv_nt x) v) rc rd rn) 10) else -1
def cv_a_kinds (L : cv_L) (rc : Nat) (rd : Nat → Nat) (rn : Nat → Option Nat) (x : Int32) : Int32 := if cv_in x (L 7 0) = true then nI (cv_sb (fun v => cv_hold (cv_lu L 0 (cv_nt x) v) rc rd rn) 3) else -1
/-- the first below n -/
def cv_lst (P : Nat → Bool) (n : Nat) : Option Nat := (List.range n).find? P
def cv_a_gave (L : cv_L) (rc : Nat) (rd : Nat → Nat) (rn : Nat → Option Nat) (x y : Int32) : Int32 := if cv_in x 3 = true then (if cv_in y 2 = true then (if 0 < L 7 0 then (if y = 0 then nI (cv_cnt (fun s => cv_hold (cv_lu L 6 (cv_nt x) s) rc rd rn) 256) else cv_o (cv_lst (fun s => cv_hold (cv_lu L 6 (cv_nt x) s) rc rd rn) 256)) else -3) else -2) else -1
def cv_a_reading (L : cv_L) (rc : Nat) (x y : Int32) : Int32 := if cv_in x 8 = true ∧ (y = -9 ∨ cv_in y 8 = true) then (if 0 < L 7 0 then (if rc < 8 then nI rc else -4) else -3) else -2
abbrev cv_ok_reading (L : cv_L) (rc : Nat) (x y : Int32) : Prop := cv_in x 8 = true ∧ (y = -9 ∨ cv_in y 8 = true) ∧ 0 < L 7 0 ∧ rc < 8
def cv_on (y : Int32) : Option Nat := if y = -9 then none else some (cv_nt y)
def cv_a_back (rc : Nat) (x : Int32) : Int32 := if cv_in x (rc + 1) = true then nI (rc - cv_nt x) else -2
end
section
theorem cv_LC_0 {L : cv_L} {σ : cv_St} {i : Nat} {v : Int32} (hL : cv_LC L σ) (hB : cv_LB L) : cv_LC L (cv_u σ 0 i v) := by
  have h6 := hB.1
  exact ⟨by rw [cv_u_c (by decide)]; exact hL.1, fun d hd => by rw [cv_u_c (by decide)]; exact hL.2.1 d hd, fun v hv => by rw [cv_u_c (by decide)]; exact hL.2.2.1 v hv, fun p hp i hi => by rw [cv_u_c (by omega)]; exact hL.2.2.2 p hp i hi⟩
set_option maxHeartbeats 4000000 in
set_option maxRecDepth 100000 in
theorem pX6_trace (tr : Int32) (ft : Nat) (sl : Nat → Option (Nat × Nat)) (sc : Nat → Nat → Int32) (L : cv_L) (rc : Nat) (rd : Nat → Nat) (rn : Nat → Option Nat)  (σ : cv_St) (hR : cv_RC tr ft sl sc L rc rd rn σ) (hB : cv_LB L) (hDB : cv_DB rc rd rn) : cv_Ct yX6_trace cX6_trace 1 (some .int) 0 0 0 26 cv_shC [.ref 0] σ (fun v u => v = some (.int (tr)) ∧ cv_RC tr ft sl sc L rc rd rn u) := by
  refine cv_enter (own := RX6) (by decide) rfl (Nat.le_of_ble_eq_true rfl) ?_
  intro X a C Rt hRm
  have D := @cv_dec _ _ dkX6_trace
  obtain ⟨hTr, hFt, hSh, hL, hSe, hD⟩ := id hR
  have hn6 := hB.1
  have hrc := hDB.1
  show cv_At X _ _ σ 0 [(0, .ref 0)] []
  refine cv_aload_n C (pc' := 1) rfl (D 0 (0, .aload_n 0, 1) rfl) rfl (j := 0) rfl ?_
  refine cv_get C (pc' := 4) rfl (k0 := 0) (i := 4) (ci := 6) (by decide) rfl rfl (by decide) (o := none) rfl iw_X6 wfX6_228 (D 1 (1, .getfield 228, 3) rfl) (v := .int tr) (congrArg Value.int hTr) ?_
  exact cv_iret C Rt rfl (D 2 (4, .ireturn, 1) rfl) ⟨rfl, hR⟩

set_option maxHeartbeats 4000000 in
set_option maxRecDepth 100000 in
theorem pX6_fault (tr : Int32) (ft : Nat) (sl : Nat → Option (Nat × Nat)) (sc : Nat → Nat → Int32) (L : cv_L) (rc : Nat) (rd : Nat → Nat) (rn : Nat → Option Nat)  (σ : cv_St) (hR : cv_RC tr ft sl sc L rc rd rn σ) (hB : cv_LB L) (hDB : cv_DB rc rd rn) : cv_Ct yX6_fault cX6_fault 1 (some .int) 0 0 0 26 cv_shC [.ref 0] σ (fun v u => v = some (.int (nI ft)) ∧ cv_RC tr ft sl sc L rc rd rn u) := by
  refine cv_enter (own := RX6) (by decide) rfl (Nat.le_of_ble_eq_true rfl) ?_
  intro X a C Rt hRm
  have D := @cv_dec _ _ dkX6_fault
  obtain ⟨hTr, hFt, hSh, hL, hSe, hD⟩ := id hR
  have hn6 := hB.1
  have hrc := hDB.1
  show cv_At X _ _ σ 0 [(0, .ref 0)] []
  refine cv_aload_n C (pc' := 1) rfl (D 0 (0, .aload_n 0, 1) rfl) rfl (j := 0) rfl ?_
  refine cv_get C (pc' := 4) rfl (k0 := 0) (i := 5) (ci := 6) (by decide) rfl rfl (by decide) (o := none) rfl iw_X6 wfX6_39 (D 1 (1, .getfield 39, 3) rfl) (v := .int (nI ft)) (congrArg Value.int hFt) ?_
  exact cv_iret C Rt rfl (D 2 (4, .ireturn, 1) rfl) ⟨rfl, hR⟩

theorem cv_c6 (y : Int32) : y = nI 0 ∨ y = nI 1 ∨ y = nI 2 ∨ y = nI 3 ∨ y = nI 4 ∨ y = nI 5 ∨ (y.toInt < 0 ∨ 5 < y.toInt) := by
  by_cases h : y.toInt < 0 ∨ 5 < y.toInt
  · exact Or.inr (Or.inr (Or.inr (Or.inr (Or.inr (Or.inr h)))))
  · have e : ∀ n : Nat, n < 6 → y.toInt = (n : Int) → y = nI n := fun n hn hy => Int32.toInt_inj.mp (by rw [hy, nI_toInt (by omega)])
    have h2 : y.toInt = 0 ∨ y.toInt = 1 ∨ y.toInt = 2 ∨ y.toInt = 3 ∨ y.toInt = 4 ∨ y.toInt = 5 := by omega
    rcases h2 with h2 | h2 | h2 | h2 | h2 | h2
    · exact Or.inl (e 0 (by decide) h2)
    · exact Or.inr (Or.inl (e 1 (by decide) h2))
    · exact Or.inr (Or.inr (Or.inl (e 2 (by decide) h2)))
    · exact Or.inr (Or.inr (Or.inr (Or.inl (e 3 (by decide) h2))))
    · exact Or.inr (Or.inr (Or.inr (Or.inr (Or.inl (e 4 (by decide) h2)))))
    · exact Or.inr (Or.inr (Or.inr (Or.inr (Or.inr (Or.inl (e 5 (by decide) h2))))))
theorem cv_cn {y : Int32} {lo hi : Int} (h : y.toInt < lo ∨ hi < y.toInt) (k : Int32) (hk : lo ≤ k.toInt ∧ k.toInt ≤ hi) : ¬ y = k := by
  intro e
  subst e
  omega
theorem cv_c6n {y : Int32} (h : y.toInt < 0 ∨ 5 < y.toInt) : ¬ y = 0 ∧ ¬ y = 1 ∧ ¬ y = 2 ∧ ¬ y = 3 ∧ ¬ y = 4 ∧ ¬ y = 5 := ⟨cv_cn h 0 (by decide), cv_cn h 1 (by decide), cv_cn h 2 (by decide), cv_cn h 3 (by decide), cv_cn h 4 (by decide), cv_cn h 5 (by decide)⟩
set_option maxHeartbeats 4000000 in
set_option maxRecDepth 100000 in
theorem pX6_ofPass (tr : Int32) (ft : Nat) (sl : Nat → Option (Nat × Nat)) (sc : Nat → Nat → Int32) (L : cv_L) (rc : Nat) (rd : Nat → Nat) (rn : Nat → Option Nat) (x y : Int32) (σ : cv_St) (hR : cv_RC tr ft sl sc L rc rd rn σ) (hB : cv_LB L) (hDB : cv_DB rc rd rn) : cv_Ct yX6_ofPass cX6_ofPass 4 (some .int) 2 0 0 26 cv_shC [.ref 0, .int x, .int y] σ (fun v u => v = some (.int (cv_a_ofPass L x y)) ∧ cv_RC tr ft sl sc L rc rd rn u) := by
  refine cv_enter (own := RX6) (by decide) rfl (Nat.le_of_ble_eq_true rfl) ?_
  intro X a C Rt hRm
  have D := @cv_dec _ _ dkX6_ofPass
  obtain ⟨hTr, hFt, hSh, hL, hSe, hD⟩ := id hR
  have hn6 := hB.1
  have hrc := hDB.1
  show cv_At X _ _ σ 0 [(0, .ref 0), (1, .int x), (2, .int y)] []
  refine cv_aload_n C (pc' := 1) rfl (D 0 (0, .aload_n 0, 1) rfl) rfl (j := 0) rfl ?_
  refine cv_iload_n C (pc' := 2) rfl (D 1 (1, .iload_n 1, 1) rfl) rfl (j := 1) rfl ?_
  refine cv_callV C (pc' := 5) rfl (k0 := 0) (ci := 6) (As := [.int x]) (rest := []) (idx := 81) (np := 1) (kX6_isPass x L σ hL) (by decide) rfl rfl rfl (by decide +kernel) rfl wmX6_81 wi_yX6_isPass ws_yX6_isPass wn_X6 wc_yX6_isPass (by decide) (by decide) (D 2 (2, .invokevirtual 81, 3) rfl) (Nat.le_of_ble_eq_true rfl) rfl (fun w9 u9 h9 => ?_)
  rw [h9.1, h9.2]
  show cv_At X _ _ σ 5 _ [.int (cv_b (cv_in x (L 7 0)))]
  refine cv_if_neB C (pc' := 8) rfl (tgt := 10) (D 3 (5, .ifCond .ne 5, 3) rfl) (by decide) (fun b5 => ?_) (fun b5 => ?_)
  · skip
    obtain ⟨p, hp, rfl⟩ := cv_in_of b5 (by omega)
    have hp6 : p < 6 := by omega
    refine cv_aload_n C (pc' := 11) rfl (D 6 (10, .aload_n 0, 1) rfl) rfl (j := 0) rfl ?_
    refine cv_get C (pc' := 14) rfl (k0 := 0) (i := 1) (ci := 6) (by decide) rfl rfl (by decide) (o := some 10) rfl iw_X6 wfX6_21 (D 7 (11, .getfield 21, 3) rfl) rfl ?_
    refine cv_get C (pc' := 17) rfl (k0 := 10) (i := 0) (ci := 0) (by decide) rfl rfl (by decide) (o := some 11) rfl iw_X0 wfX6_84 (D 8 (14, .getfield 84, 3) rfl) rfl ?_
    refine cv_iload_n C (pc' := 18) rfl (D 9 (17, .iload_n 1, 1) rfl) rfl (j := 1) rfl ?_
    refine cv_aald C (pc' := 19) rfl (k0 := 11) (j := p) (r := 12 + p) (by decide) rfl rfl rfl (cv_ix_p hp6) (by decide) (D 10 (18, .aaload, 1) rfl) ?_
    refine cv_astore_n C (pc' := 20) rfl (D 11 (19, .astore_n 3, 1) rfl) rfl (by decide) (lv' := [(3, .ref (12 + p)), (0, .ref 0), (1, .int (nI p)), (2, .int y)]) rfl ?_
    refine cv_iload_n C (pc' := 21) rfl (D 12 (20, .iload_n 2, 1) rfl) rfl (j := 3) rfl ?_
    have hy := cv_c6 y
    rcases hy with hy | hy | hy | hy | hy | hy | hy
    · skip
      subst hy
      refine cv_tableIn C (D 13 (21, .tableswitch 69 0 5 #[39, 44, 49, 54, 59, 64], 39) rfl) (tgt := 60) (by decide) (by decide) rfl (by decide) ?_
      refine cv_aload_n C (pc' := 61) rfl (D 14 (60, .aload_n 3, 1) rfl) rfl (j := 0) rfl ?_
      refine cv_get C (pc' := 64) rfl (k0 := 12 + p) (i := 0) (ci := 1) (cv_lt_p hp6) (cv_shC_p hp6) rfl (by decide) (o := none) rfl iw_X1 wfX6_88 (D 15 (61, .getfield 88, 3) rfl) (v := .int (nI (L 0 p))) (congrArg Value.int (hL.2.2.2 p hp 0 (by decide))) ?_
      exact cv_iret C Rt rfl (D 16 (64, .ireturn, 1) rfl) ⟨congrArg (fun z => some (Value.int z)) (by unfold cv_a_ofPass; rw [if_pos b5, cv_nt, nI_clamp (show p < 2 ^ 31 by omega)]; rfl), hR⟩
    · skip
      subst hy
      refine cv_tableIn C (D 13 (21, .tableswitch 69 0 5 #[39, 44, 49, 54, 59, 64], 39) rfl) (tgt := 65) (by decide) (by decide) rfl (by decide) ?_
      refine cv_aload_n C (pc' := 66) rfl (D 17 (65, .aload_n 3, 1) rfl) rfl (j := 0) rfl ?_
      refine cv_get C (pc' := 69) rfl (k0 := 12 + p) (i := 1) (ci := 1) (cv_lt_p hp6) (cv_shC_p hp6) rfl (by decide) (o := none) rfl iw_X1 wfX6_93 (D 18 (66, .getfield 93, 3) rfl) (v := .int (nI (L 1 p))) (congrArg Value.int (hL.2.2.2 p hp 1 (by decide))) ?_
      exact cv_iret C Rt rfl (D 19 (69, .ireturn, 1) rfl) ⟨congrArg (fun z => some (Value.int z)) (by unfold cv_a_ofPass; rw [if_pos b5, cv_nt, nI_clamp (show p < 2 ^ 31 by omega)]; rfl), hR⟩
    · skip
      subst hy
      refine cv_tableIn C (D 13 (21, .tableswitch 69 0 5 #[39, 44, 49, 54, 59, 64], 39) rfl) (tgt := 70) (by decide) (by decide) rfl (by decide) ?_
      refine cv_aload_n C (pc' := 71) rfl (D 20 (70, .aload_n 3, 1) rfl) rfl (j := 0) rfl ?_
      refine cv_get C (pc' := 74) rfl (k0 := 12 + p) (i := 2) (ci := 1) (cv_lt_p hp6) (cv_shC_p hp6) rfl (by decide) (o := none) rfl iw_X1 wfX6_96 (D 21 (71, .getfield 96, 3) rfl) (v := .int (nI (L 2 p))) (congrArg Value.int (hL.2.2.2 p hp 2 (by decide))) ?_
      exact cv_iret C Rt rfl (D 22 (74, .ireturn, 1) rfl) ⟨congrArg (fun z => some (Value.int z)) (by unfold cv_a_ofPass; rw [if_pos b5, cv_nt, nI_clamp (show p < 2 ^ 31 by omega)]; rfl), hR⟩
    · skip
      subst hy
      refine cv_tableIn C (D 13 (21, .tableswitch 69 0 5 #[39, 44, 49, 54, 59, 64], 39) rfl) (tgt := 75) (by decide) (by decide) rfl (by decide) ?_
      refine cv_aload_n C (pc' := 76) rfl (D 23 (75, .aload_n 3, 1) rfl) rfl (j := 0) rfl ?_
      refine cv_get C (pc' := 79) rfl (k0 := 12 + p) (i := 3) (ci := 1) (cv_lt_p hp6) (cv_shC_p hp6) rfl (by decide) (o := none) rfl iw_X1 wfX6_99 (D 24 (76, .getfield 99, 3) rfl) (v := .int (nI (L 3 p))) (congrArg Value.int (hL.2.2.2 p hp 3 (by decide))) ?_
      exact cv_iret C Rt rfl (D 25 (79, .ireturn, 1) rfl) ⟨congrArg (fun z => some (Value.int z)) (by unfold cv_a_ofPass; rw [if_pos b5, cv_nt, nI_clamp (show p < 2 ^ 31 by omega)]; rfl), hR⟩
    · skip
      subst hy
      refine cv_tableIn C (D 13 (21, .tableswitch 69 0 5 #[39, 44, 49, 54, 59, 64], 39) rfl) (tgt := 80) (by decide) (by decide) rfl (by decide) ?_
      refine cv_aload_n C (pc' := 81) rfl (D 26 (80, .aload_n 3, 1) rfl) rfl (j := 0) rfl ?_
      refine cv_get C (pc' := 84) rfl (k0 := 12 + p) (i := 4) (ci := 1) (cv_lt_p hp6) (cv_shC_p hp6) rfl (by decide) (o := none) rfl iw_X1 wfX6_102 (D 27 (81, .getfield 102, 3) rfl) (v := .int (nI (L 4 p))) (congrArg Value.int (hL.2.2.2 p hp 4 (by decide))) ?_
      exact cv_iret C Rt rfl (D 28 (84, .ireturn, 1) rfl) ⟨congrArg (fun z => some (Value.int z)) (by unfold cv_a_ofPass; rw [if_pos b5, cv_nt, nI_clamp (show p < 2 ^ 31 by omega)]; rfl), hR⟩
    · skip
      subst hy
      refine cv_tableIn C (D 13 (21, .tableswitch 69 0 5 #[39, 44, 49, 54, 59, 64], 39) rfl) (tgt := 85) (by decide) (by decide) rfl (by decide) ?_
      refine cv_aload_n C (pc' := 86) rfl (D 29 (85, .aload_n 3, 1) rfl) rfl (j := 0) rfl ?_
      refine cv_callV C (pc' := 89) rfl (k0 := 12 + p) (ci := 1) (As := []) (rest := []) (idx := 105) (np := 0) (kX1_takes L p σ hL hB hp) (cv_lt_p hp6) (cv_shC_p hp6) rfl rfl (by decide +kernel) rfl wmX6_105 wi_yX1_takes ws_yX1_takes wn_X1 wc_yX1_takes (by decide) (by decide) (D 30 (86, .invokevirtual 105, 3) rfl) (Nat.le_of_ble_eq_true rfl) rfl (fun w9 u9 h9 => ?_)
      rw [h9.1, h9.2]
      show cv_At X _ _ σ 89 _ [.int (nI (cv_tk L p))]
      exact cv_iret C Rt rfl (D 31 (89, .ireturn, 1) rfl) ⟨congrArg (fun z => some (Value.int z)) (by unfold cv_a_ofPass; rw [if_pos b5, cv_nt, nI_clamp (show p < 2 ^ 31 by omega)]; rfl), hR⟩
    · skip
      refine cv_tableOut C (D 13 (21, .tableswitch 69 0 5 #[39, 44, 49, 54, 59, 64], 39) rfl) (tgt := 90) hy (by decide) ?_
      refine cv_bipush C (pc' := 92) rfl (D 32 (90, .bipush (-2), 2) rfl) (v := -2) (by decide) ?_
      exact cv_iret C Rt rfl (D 33 (92, .ireturn, 1) rfl) ⟨congrArg (fun z => some (Value.int z)) (by unfold cv_a_ofPass; rw [if_pos b5]; simp [cv_c6n hy]), hR⟩
  · skip
    refine cv_iconst C (pc' := 9) rfl (D 4 (8, .iconst (-1), 1) rfl) (v := -1) (by decide) ?_
    exact cv_iret C Rt rfl (D 5 (9, .ireturn, 1) rfl) ⟨congrArg (fun z => some (Value.int z)) (by unfold cv_a_ofPass; rw [b5]; rfl), hR⟩

set_option maxHeartbeats 4000000 in
set_option maxRecDepth 100000 in
theorem pX6_snow (tr : Int32) (ft : Nat) (sl : Nat → Option (Nat × Nat)) (sc : Nat → Nat → Int32) (L : cv_L) (rc : Nat) (rd : Nat → Nat) (rn : Nat → Option Nat) (x y : Int32) (σ : cv_St) (hR : cv_RC tr ft sl sc L rc rd rn σ) (hB : cv_LB L) (hDB : cv_DB rc rd rn) : cv_Ct yX6_snow cX6_snow 4 (some .int) 2 0 0 26 cv_shC [.ref 0, .int x, .int y] σ (fun v u => v = some (.int (cv_a_snow L x y)) ∧ cv_RC tr ft sl sc (cv_n_snow L x y) rc rd rn u) := by
  refine cv_enter (own := RX6) (by decide) rfl (Nat.le_of_ble_eq_true rfl) ?_
  intro X a C Rt hRm
  have D := @cv_dec _ _ dkX6_snow
  obtain ⟨hTr, hFt, hSh, hL, hSe, hD⟩ := id hR
  have hn6 := hB.1
  have hrc := hDB.1
  show cv_At X _ _ σ 0 [(0, .ref 0), (1, .int x), (2, .int y)] []
  refine cv_iload_n C (pc' := 1) rfl (D 0 (0, .iload_n 1, 1) rfl) rfl (j := 1) rfl ?_
  refine cv_callS C (pc' := 4) rfl (As := [.int x]) (rest := []) (idx := 108) (np := 1) (kX6_isDay x σ) (by decide +kernel) rfl wmX6_108 wt_yX6_isDay wn_X6 wc_yX6_isDay (by decide) (by decide) (D 1 (1, .invokestatic 108, 3) rfl) (Nat.le_of_ble_eq_true rfl) rfl (fun w9 u9 h9 => ?_)
  rw [h9.1, h9.2]
  show cv_At X _ _ σ 4 _ [.int (cv_b (cv_in x 8))]
  refine cv_if_eqB C (pc' := 7) rfl (tgt := 16) (D 2 (4, .ifCond .eq 12, 3) rfl) (by decide) (fun b4 => ?_) (fun b4 => ?_)
  · skip
    refine cv_bipush C (pc' := 18) rfl (D 7 (16, .bipush (-2), 2) rfl) (v := -2) (by decide) ?_
    exact cv_iret C Rt rfl (D 8 (18, .ireturn, 1) rfl) ⟨congrArg (fun z => some (Value.int z)) (by unfold cv_a_snow; rw [if_neg (by simp [b4])]), by unfold cv_n_snow; rw [if_neg (by simp [b4])]; exact hR⟩
  · skip
    refine cv_iload_n C (pc' := 8) rfl (D 3 (7, .iload_n 2, 1) rfl) rfl (j := 2) rfl ?_
    refine cv_bipush C (pc' := 10) rfl (D 4 (8, .bipush 10, 2) rfl) (v := nI 10) (by decide) ?_
    refine cv_callS C (pc' := 13) rfl (As := [.int y, .int (nI 10)]) (rest := []) (idx := 111) (np := 2) (kX6_isBelow y 10 σ) (by decide +kernel) rfl wmX6_111 wt_yX6_isBelow wn_X6 wc_yX6_isBelow (by decide) (by decide) (D 5 (10, .invokestatic 111, 3) rfl) (Nat.le_of_ble_eq_true rfl) rfl (fun w9 u9 h9 => ?_)
    rw [h9.1, h9.2]
    show cv_At X _ _ σ 13 _ [.int (cv_b (cv_in y 10))]
    refine cv_if_neB C (pc' := 16) rfl (tgt := 19) (D 6 (13, .ifCond .ne 6, 3) rfl) (by decide) (fun b13 => ?_) (fun b13 => ?_)
    · skip
      obtain ⟨j, hj, rfl⟩ := cv_in_of b4 (by omega)
      obtain ⟨w, hw, rfl⟩ := cv_in_of b13 (by omega)
      refine cv_aload_n C (pc' := 20) rfl (D 9 (19, .aload_n 0, 1) rfl) rfl (j := 0) rfl ?_
      refine cv_get C (pc' := 23) rfl (k0 := 0) (i := 1) (ci := 6) (by decide) rfl rfl (by decide) (o := some 10) rfl iw_X6 wfX6_21 (D 10 (20, .getfield 21, 3) rfl) rfl ?_
      refine cv_get C (pc' := 26) rfl (k0 := 10) (i := 5) (ci := 0) (by decide) rfl rfl (by decide) (o := none) rfl iw_X0 wfX6_115 (D 11 (23, .getfield 115, 3) rfl) (v := .int (cv_b (decide (0 < L 7 0)))) (congrArg Value.int hSe) ?_
      refine cv_if_neB C (pc' := 29) rfl (tgt := 32) (D 12 (26, .ifCond .ne 6, 3) rfl) (by decide) (fun b26 => ?_) (fun b26 => ?_)
      · skip
        refine cv_aload_n C (pc' := 33) rfl (D 15 (32, .aload_n 0, 1) rfl) rfl (j := 0) rfl ?_
        refine cv_get C (pc' := 36) rfl (k0 := 0) (i := 1) (ci := 6) (by decide) rfl rfl (by decide) (o := some 10) rfl iw_X6 wfX6_21 (D 16 (33, .getfield 21, 3) rfl) rfl ?_
        refine cv_get C (pc' := 39) rfl (k0 := 10) (i := 1) (ci := 0) (by decide) rfl rfl (by decide) (o := some 18) rfl iw_X0 wfX6_119 (D 17 (36, .getfield 119, 3) rfl) rfl ?_
        refine cv_iload_n C (pc' := 40) rfl (D 18 (39, .iload_n 1, 1) rfl) rfl (j := 1) rfl ?_
        refine cv_iald C (pc' := 41) rfl (k0 := 18) (j := j) (by decide) rfl rfl (by omega) (by decide) (D 19 (40, .iaload, 1) rfl) (v := nI (L 5 j)) (hL.2.1 _ (by omega)) ?_
        refine cv_istore_n C (pc' := 42) rfl (D 20 (41, .istore_n 3, 1) rfl) rfl (by decide) (lv' := [(3, .int (nI (L 5 j))), (0, .ref 0), (1, .int (nI j)), (2, .int (nI w))]) rfl ?_
        refine cv_aload_n C (pc' := 43) rfl (D 21 (42, .aload_n 0, 1) rfl) rfl (j := 1) rfl ?_
        refine cv_get C (pc' := 46) rfl (k0 := 0) (i := 1) (ci := 6) (by decide) rfl rfl (by decide) (o := some 10) rfl iw_X6 wfX6_21 (D 22 (43, .getfield 21, 3) rfl) rfl ?_
        refine cv_get C (pc' := 49) rfl (k0 := 10) (i := 1) (ci := 0) (by decide) rfl rfl (by decide) (o := some 18) rfl iw_X0 wfX6_119 (D 23 (46, .getfield 119, 3) rfl) rfl ?_
        refine cv_iload_n C (pc' := 50) rfl (D 24 (49, .iload_n 1, 1) rfl) rfl (j := 2) rfl ?_
        refine cv_iload_n C (pc' := 51) rfl (D 25 (50, .iload_n 2, 1) rfl) rfl (j := 3) rfl ?_
        refine cv_iast C (pc' := 52) rfl (k0 := 18) (j := j) (by decide) rfl rfl (by omega) (by decide) (D 26 (51, .iastore, 1) rfl) ?_
        refine cv_iload_n C (pc' := 53) rfl (D 27 (52, .iload_n 3, 1) rfl) rfl (j := 0) rfl ?_
        exact cv_iret C Rt rfl (D 28 (53, .ireturn, 1) rfl) ⟨congrArg (fun z => some (Value.int z)) (by unfold cv_a_snow; rw [if_pos ⟨b4, b13⟩, if_pos (by simpa using b26), cv_nt, nI_clamp (by omega)]), by unfold cv_n_snow; rw [if_pos ⟨b4, b13, by simpa using b26⟩, cv_nt, nI_clamp (by omega), cv_nt, nI_clamp (by omega)]; exact cv_RC_L (fun k hk => cv_u_c (by omega)) (by rw [cv_u_c (by decide)]) (cv_lu_k (by decide)) (cv_LC_snow hL hB j w) hR⟩
      · skip
        refine cv_bipush C (pc' := 31) rfl (D 13 (29, .bipush (-3), 2) rfl) (v := -3) (by decide) ?_
        exact cv_iret C Rt rfl (D 14 (31, .ireturn, 1) rfl) ⟨congrArg (fun z => some (Value.int z)) (by unfold cv_a_snow; rw [if_pos ⟨b4, b13⟩, if_neg (by simpa using b26)]), by unfold cv_n_snow; rw [if_neg (fun h => by simp at b26; omega)]; exact hR⟩
    · skip
      refine cv_bipush C (pc' := 18) rfl (D 7 (16, .bipush (-2), 2) rfl) (v := -2) (by decide) ?_
      exact cv_iret C Rt rfl (D 8 (18, .ireturn, 1) rfl) ⟨congrArg (fun z => some (Value.int z)) (by unfold cv_a_snow; rw [if_neg (by simp [b13])]), by unfold cv_n_snow; rw [if_neg (by simp [b13])]; exact hR⟩

set_option maxHeartbeats 4000000 in
set_option maxRecDepth 100000 in
theorem pX6_give (tr : Int32) (ft : Nat) (sl : Nat → Option (Nat × Nat)) (sc : Nat → Nat → Int32) (L : cv_L) (rc : Nat) (rd : Nat → Nat) (rn : Nat → Option Nat) (x y : Int32) (σ : cv_St) (hR : cv_RC tr ft sl sc L rc rd rn σ) (hB : cv_LB L) (hDB : cv_DB rc rd rn) : cv_Ct yX6_give cX6_give 4 (some .int) 2 0 0 26 cv_shC [.ref 0, .int x, .int y] σ (fun v u => v = some (.int (cv_a_give L x y)) ∧ cv_RC tr ft sl sc (cv_n_give L x y) rc rd rn u) := by
  refine cv_enter (own := RX6) (by decide) rfl (Nat.le_of_ble_eq_true rfl) ?_
  intro X a C Rt hRm
  have D := @cv_dec _ _ dkX6_give
  obtain ⟨hTr, hFt, hSh, hL, hSe, hD⟩ := id hR
  have hn6 := hB.1
  have hrc := hDB.1
  show cv_At X _ _ σ 0 [(0, .ref 0), (1, .int x), (2, .int y)] []
  refine cv_iload_n C (pc' := 1) rfl (D 0 (0, .iload_n 1, 1) rfl) rfl (j := 1) rfl ?_
  refine cv_callS C (pc' := 4) rfl (As := [.int x]) (rest := []) (idx := 122) (np := 1) (kX6_isValley x σ) (by decide +kernel) rfl wmX6_122 wt_yX6_isValley wn_X6 wc_yX6_isValley (by decide) (by decide) (D 1 (1, .invokestatic 122, 3) rfl) (Nat.le_of_ble_eq_true rfl) rfl (fun w9 u9 h9 => ?_)
  rw [h9.1, h9.2]
  show cv_At X _ _ σ 4 _ [.int (cv_b (cv_in x 3))]
  refine cv_if_neB C (pc' := 7) rfl (tgt := 9) (D 2 (4, .ifCond .ne 5, 3) rfl) (by decide) (fun b4 => ?_) (fun b4 => ?_)
  · skip
    refine cv_iload_n C (pc' := 10) rfl (D 5 (9, .iload_n 2, 1) rfl) rfl (j := 2) rfl ?_
    refine cv_sipush C (pc' := 13) rfl (D 6 (10, .sipush 256, 3) rfl) (v := nI 256) (by decide) ?_
    refine cv_callS C (pc' := 16) rfl (As := [.int y, .int (nI 256)]) (rest := []) (idx := 111) (np := 2) (kX6_isBelow y 256 σ) (by decide +kernel) rfl wmX6_111 wt_yX6_isBelow wn_X6 wc_yX6_isBelow (by decide) (by decide) (D 7 (13, .invokestatic 111, 3) rfl) (Nat.le_of_ble_eq_true rfl) rfl (fun w9 u9 h9 => ?_)
    rw [h9.1, h9.2]
    show cv_At X _ _ σ 16 _ [.int (cv_b (cv_in y 256))]
    refine cv_if_neB C (pc' := 19) rfl (tgt := 22) (D 8 (16, .ifCond .ne 6, 3) rfl) (by decide) (fun b16 => ?_) (fun b16 => ?_)
    · skip
      obtain ⟨j, hj, rfl⟩ := cv_in_of b4 (by omega)
      obtain ⟨w, hw, rfl⟩ := cv_in_of b16 (by omega)
      refine cv_aload_n C (pc' := 23) rfl (D 11 (22, .aload_n 0, 1) rfl) rfl (j := 0) rfl ?_
      refine cv_get C (pc' := 26) rfl (k0 := 0) (i := 1) (ci := 6) (by decide) rfl rfl (by decide) (o := some 10) rfl iw_X6 wfX6_21 (D 12 (23, .getfield 21, 3) rfl) rfl ?_
      refine cv_get C (pc' := 29) rfl (k0 := 10) (i := 5) (ci := 0) (by decide) rfl rfl (by decide) (o := none) rfl iw_X0 wfX6_115 (D 13 (26, .getfield 115, 3) rfl) (v := .int (cv_b (decide (0 < L 7 0)))) (congrArg Value.int hSe) ?_
      refine cv_if_neB C (pc' := 32) rfl (tgt := 35) (D 14 (29, .ifCond .ne 6, 3) rfl) (by decide) (fun b29 => ?_) (fun b29 => ?_)
      · skip
        refine cv_aload_n C (pc' := 36) rfl (D 17 (35, .aload_n 0, 1) rfl) rfl (j := 0) rfl ?_
        refine cv_get C (pc' := 39) rfl (k0 := 0) (i := 1) (ci := 6) (by decide) rfl rfl (by decide) (o := some 10) rfl iw_X6 wfX6_21 (D 18 (36, .getfield 21, 3) rfl) rfl ?_
        refine cv_get C (pc' := 42) rfl (k0 := 10) (i := 2) (ci := 0) (by decide) rfl rfl (by decide) (o := some 19) rfl iw_X0 wfX6_125 (D 19 (39, .getfield 125, 3) rfl) rfl ?_
        refine cv_iload_n C (pc' := 43) rfl (D 20 (42, .iload_n 1, 1) rfl) rfl (j := 1) rfl ?_
        refine cv_iald C (pc' := 44) rfl (k0 := 19) (j := j) (by decide) rfl rfl (by omega) (by decide) (D 21 (43, .iaload, 1) rfl) (v := nI (L 6 j)) (hL.2.2.1 _ (by omega)) ?_
        refine cv_istore_n C (pc' := 45) rfl (D 22 (44, .istore_n 3, 1) rfl) rfl (by decide) (lv' := [(3, .int (nI (L 6 j))), (0, .ref 0), (1, .int (nI j)), (2, .int (nI w))]) rfl ?_
        refine cv_aload_n C (pc' := 46) rfl (D 23 (45, .aload_n 0, 1) rfl) rfl (j := 1) rfl ?_
        refine cv_get C (pc' := 49) rfl (k0 := 0) (i := 1) (ci := 6) (by decide) rfl rfl (by decide) (o := some 10) rfl iw_X6 wfX6_21 (D 24 (46, .getfield 21, 3) rfl) rfl ?_
        refine cv_get C (pc' := 52) rfl (k0 := 10) (i := 2) (ci := 0) (by decide) rfl rfl (by decide) (o := some 19) rfl iw_X0 wfX6_125 (D 25 (49, .getfield 125, 3) rfl) rfl ?_
        refine cv_iload_n C (pc' := 53) rfl (D 26 (52, .iload_n 1, 1) rfl) rfl (j := 2) rfl ?_
        refine cv_iload_n C (pc' := 54) rfl (D 27 (53, .iload_n 2, 1) rfl) rfl (j := 3) rfl ?_
        refine cv_iast C (pc' := 55) rfl (k0 := 19) (j := j) (by decide) rfl rfl (by omega) (by decide) (D 28 (54, .iastore, 1) rfl) ?_
        refine cv_iload_n C (pc' := 56) rfl (D 29 (55, .iload_n 3, 1) rfl) rfl (j := 0) rfl ?_
        exact cv_iret C Rt rfl (D 30 (56, .ireturn, 1) rfl) ⟨congrArg (fun z => some (Value.int z)) (by unfold cv_a_give; rw [if_pos b4, if_pos b16, if_pos (by simpa using b29), cv_nt, nI_clamp (by omega)]), by unfold cv_n_give; rw [if_pos ⟨b4, b16, by simpa using b29⟩, cv_nt, nI_clamp (by omega), cv_nt, nI_clamp (by omega)]; exact cv_RC_L (fun k hk => cv_u_c (by omega)) (by rw [cv_u_c (by decide)]) (cv_lu_k (by decide)) (cv_LC_give hL hB j w) hR⟩
      · skip
        refine cv_bipush C (pc' := 34) rfl (D 15 (32, .bipush (-3), 2) rfl) (v := -3) (by decide) ?_
        exact cv_iret C Rt rfl (D 16 (34, .ireturn, 1) rfl) ⟨congrArg (fun z => some (Value.int z)) (by unfold cv_a_give; rw [if_pos b4, if_pos b16, if_neg (by simpa using b29)]), by unfold cv_n_give; rw [if_neg (fun h => by simp at b29; omega)]; exact hR⟩
    · skip
      refine cv_bipush C (pc' := 21) rfl (D 9 (19, .bipush (-2), 2) rfl) (v := -2) (by decide) ?_
      exact cv_iret C Rt rfl (D 10 (21, .ireturn, 1) rfl) ⟨congrArg (fun z => some (Value.int z)) (by unfold cv_a_give; rw [if_pos b4, if_neg (by simp [b16])]), by unfold cv_n_give; rw [if_neg (by simp [b16])]; exact hR⟩
  · skip
    refine cv_iconst C (pc' := 8) rfl (D 3 (7, .iconst (-1), 1) rfl) (v := -1) (by decide) ?_
    exact cv_iret C Rt rfl (D 4 (8, .ireturn, 1) rfl) ⟨congrArg (fun z => some (Value.int z)) (by unfold cv_a_give; rw [if_neg (by simp [b4])]), by unfold cv_n_give; rw [if_neg (by simp [b4])]; exact hR⟩

set_option maxHeartbeats 4000000 in
set_option maxRecDepth 100000 in
theorem pX6_open (tr : Int32) (ft : Nat) (sl : Nat → Option (Nat × Nat)) (sc : Nat → Nat → Int32) (L : cv_L) (rc : Nat) (rd : Nat → Nat) (rn : Nat → Option Nat) (x : Int32) (σ : cv_St) (hR : cv_RC tr ft sl sc L rc rd rn σ) (hB : cv_LB L) (hDB : cv_DB rc rd rn) : cv_Ct yX6_open cX6_open 4 (some .int) 2 0 0 26 cv_shC [.ref 0, .int x] σ (fun v u => v = some (.int (cv_a_open L x)) ∧ cv_RC tr ft sl sc L rc rd rn u) := by
  refine cv_enter (own := RX6) (by decide) rfl (Nat.le_of_ble_eq_true rfl) ?_
  intro X a C Rt hRm
  have D := @cv_dec _ _ dkX6_open
  obtain ⟨hTr, hFt, hSh, hL, hSe, hD⟩ := id hR
  have hn6 := hB.1
  have hrc := hDB.1
  show cv_At X _ _ σ 0 [(0, .ref 0), (1, .int x)] []
  refine cv_iload_n C (pc' := 1) rfl (D 0 (0, .iload_n 1, 1) rfl) rfl (j := 1) rfl ?_
  refine cv_callS C (pc' := 4) rfl (As := [.int x]) (rest := []) (idx := 108) (np := 1) (kX6_isDay x σ) (by decide +kernel) rfl wmX6_108 wt_yX6_isDay wn_X6 wc_yX6_isDay (by decide) (by decide) (D 1 (1, .invokestatic 108, 3) rfl) (Nat.le_of_ble_eq_true rfl) rfl (fun w9 u9 h9 => ?_)
  rw [h9.1, h9.2]
  show cv_At X _ _ σ 4 _ [.int (cv_b (cv_in x 8))]
  refine cv_if_neB C (pc' := 7) rfl (tgt := 10) (D 2 (4, .ifCond .ne 6, 3) rfl) (by decide) (fun b4 => ?_) (fun b4 => ?_)
  · skip
    obtain ⟨j, hj, rfl⟩ := cv_in_of b4 (by omega)
    refine cv_aload_n C (pc' := 11) rfl (D 5 (10, .aload_n 0, 1) rfl) rfl (j := 0) rfl ?_
    refine cv_get C (pc' := 14) rfl (k0 := 0) (i := 1) (ci := 6) (by decide) rfl rfl (by decide) (o := some 10) rfl iw_X6 wfX6_21 (D 6 (11, .getfield 21, 3) rfl) rfl ?_
    refine cv_get C (pc' := 17) rfl (k0 := 10) (i := 5) (ci := 0) (by decide) rfl rfl (by decide) (o := none) rfl iw_X0 wfX6_115 (D 7 (14, .getfield 115, 3) rfl) (v := .int (cv_b (decide (0 < L 7 0)))) (congrArg Value.int hSe) ?_
    refine cv_if_neB C (pc' := 20) rfl (tgt := 23) (D 8 (17, .ifCond .ne 6, 3) rfl) (by decide) (fun b17 => ?_) (fun b17 => ?_)
    · skip
      refine cv_iconst C (pc' := 24) rfl (D 11 (23, .iconst 0, 1) rfl) (v := nI 0) (by decide) ?_
      refine cv_istore_n C (pc' := 25) rfl (D 12 (24, .istore_n 2, 1) rfl) rfl (by decide) (lv' := [(2, .int (nI 0)), (0, .ref 0), (1, .int (nI j))]) rfl ?_
      refine cv_iconst C (pc' := 26) rfl (D 13 (25, .iconst 0, 1) rfl) (v := nI 0) (by decide) ?_
      refine cv_istore_n C (pc' := 27) rfl (D 14 (26, .istore_n 3, 1) rfl) rfl (by decide) (lv' := [(3, .int (nI 0)), (2, .int (nI 0)), (0, .ref 0), (1, .int (nI j))]) rfl ?_
      refine cv_pick [0, 1, 2, 3] (lv' := [(3, .int (nI 0)), (2, .int (nI (cv_sb (fun p => cv_op L p j) 0))), (0, .ref 0), (1, .int (nI j))]) rfl ?_
      have LP27 : ∀ (r : Nat) (p : Nat), (p + r = L 7 0) → cv_At X (26, cv_shC, 0, 0, a) 4 σ 27 [(3, .int (nI p)), (2, .int (nI (cv_sb (fun p => cv_op L p j) p))), (0, .ref 0), (1, .int (nI j))] [] := by
        intro r
        induction r with
        | zero =>
          intro p hr
          refine cv_iload_n C (pc' := 28) rfl (D 15 (27, .iload_n 3, 1) rfl) rfl (j := 0) rfl ?_
          refine cv_aload_n C (pc' := 29) rfl (D 16 (28, .aload_n 0, 1) rfl) rfl (j := 2) rfl ?_
          refine cv_get C (pc' := 32) rfl (k0 := 0) (i := 1) (ci := 6) (by decide) rfl rfl (by decide) (o := some 10) rfl iw_X6 wfX6_21 (D 17 (29, .getfield 21, 3) rfl) rfl ?_
          refine cv_get C (pc' := 35) rfl (k0 := 10) (i := 6) (ci := 0) (by decide) rfl rfl (by decide) (o := none) rfl iw_X0 wfX6_78 (D 18 (32, .getfield 78, 3) rfl) (v := .int (nI (L 7 0))) (congrArg Value.int hL.1) ?_
          refine cv_icmp_geN C (pc' := 38) rfl (by omega) (by omega) (tgt := 74) (D 19 (35, .if_icmp .ge 39, 3) rfl) (by decide) (fun b35 => ?_) (fun b35 => ?_)
          · skip
            refine cv_iload_n C (pc' := 75) rfl (D 40 (74, .iload_n 2, 1) rfl) rfl (j := 1) rfl ?_
            exact cv_iret C Rt rfl (D 41 (75, .ireturn, 1) rfl) ⟨congrArg (fun z => some (Value.int z)) (by unfold cv_a_open cv_day; rw [if_pos b4, if_pos (by simpa using b17), cv_nt, nI_clamp (by omega)]; rw [show p = L 7 0 by omega]), hR⟩
          · skip
            omega
        | succ r ih27 =>
          intro p hr
          have hp : p < L 7 0 := by omega
          have hp6 : p < 6 := by omega
          refine cv_iload_n C (pc' := 28) rfl (D 15 (27, .iload_n 3, 1) rfl) rfl (j := 0) rfl ?_
          refine cv_aload_n C (pc' := 29) rfl (D 16 (28, .aload_n 0, 1) rfl) rfl (j := 2) rfl ?_
          refine cv_get C (pc' := 32) rfl (k0 := 0) (i := 1) (ci := 6) (by decide) rfl rfl (by decide) (o := some 10) rfl iw_X6 wfX6_21 (D 17 (29, .getfield 21, 3) rfl) rfl ?_
          refine cv_get C (pc' := 35) rfl (k0 := 10) (i := 6) (ci := 0) (by decide) rfl rfl (by decide) (o := none) rfl iw_X0 wfX6_78 (D 18 (32, .getfield 78, 3) rfl) (v := .int (nI (L 7 0))) (congrArg Value.int hL.1) ?_
          refine cv_icmp_geN C (pc' := 38) rfl (by omega) (by omega) (tgt := 74) (D 19 (35, .if_icmp .ge 39, 3) rfl) (by decide) (fun b35 => ?_) (fun b35 => ?_)
          · skip
            omega
          · skip
            refine cv_aload_n C (pc' := 39) rfl (D 20 (38, .aload_n 0, 1) rfl) rfl (j := 2) rfl ?_
            refine cv_get C (pc' := 42) rfl (k0 := 0) (i := 1) (ci := 6) (by decide) rfl rfl (by decide) (o := some 10) rfl iw_X6 wfX6_21 (D 21 (39, .getfield 21, 3) rfl) rfl ?_
            refine cv_get C (pc' := 45) rfl (k0 := 10) (i := 0) (ci := 0) (by decide) rfl rfl (by decide) (o := some 11) rfl iw_X0 wfX6_84 (D 22 (42, .getfield 84, 3) rfl) rfl ?_
            refine cv_iload_n C (pc' := 46) rfl (D 23 (45, .iload_n 3, 1) rfl) rfl (j := 0) rfl ?_
            refine cv_aald C (pc' := 47) rfl (k0 := 11) (j := p) (r := 12 + p) (by decide) rfl rfl rfl (cv_ix_p hp6) (by decide) (D 24 (46, .aaload, 1) rfl) ?_
            refine cv_aload_n C (pc' := 48) rfl (D 25 (47, .aload_n 0, 1) rfl) rfl (j := 2) rfl ?_
            refine cv_get C (pc' := 51) rfl (k0 := 0) (i := 1) (ci := 6) (by decide) rfl rfl (by decide) (o := some 10) rfl iw_X6 wfX6_21 (D 26 (48, .getfield 21, 3) rfl) rfl ?_
            refine cv_get C (pc' := 54) rfl (k0 := 10) (i := 1) (ci := 0) (by decide) rfl rfl (by decide) (o := some 18) rfl iw_X0 wfX6_119 (D 27 (51, .getfield 119, 3) rfl) rfl ?_
            refine cv_iload_n C (pc' := 55) rfl (D 28 (54, .iload_n 1, 1) rfl) rfl (j := 3) rfl ?_
            refine cv_iald C (pc' := 56) rfl (k0 := 18) (j := j) (by decide) rfl rfl (by omega) (by decide) (D 29 (55, .iaload, 1) rfl) (v := nI (L 5 j)) (hL.2.1 _ (by omega)) ?_
            refine cv_callV C (pc' := 59) rfl (k0 := 12 + p) (ci := 1) (As := [.int (nI (L 5 j))]) (rest := []) (idx := 128) (np := 1) (kX1_isOpenIn L p (L 5 j) σ hL hB hp (hB.2.2.1 _ (by omega))) (cv_lt_p hp6) (cv_shC_p hp6) rfl rfl (by decide +kernel) rfl wmX6_128 wi_yX1_isOpenIn ws_yX1_isOpenIn wn_X1 wc_yX1_isOpenIn (by decide) (by decide) (D 30 (56, .invokevirtual 128, 3) rfl) (Nat.le_of_ble_eq_true rfl) rfl (fun w9 u9 h9 => ?_)
            rw [h9.1, h9.2]
            show cv_At X _ _ σ 59 _ [.int (cv_b (cv_op L p j))]
            refine cv_if_eqB C (pc' := 62) rfl (tgt := 68) (D 31 (59, .ifCond .eq 9, 3) rfl) (by decide) (fun b59 => ?_) (fun b59 => ?_)
            · skip
              refine cv_iincN C (pc' := 71) rfl (D 38 (68, .iinc 3 1, 3) rfl) (j := 0) rfl (by decide) (lv' := [(3, .int (nI (p + 1))), (2, .int (nI (cv_sb (fun p => cv_op L p j) p))), (0, .ref 0), (1, .int (nI j))]) rfl ?_
              refine cv_goto C (tgt := 27) (D 39 (71, .goto (-44), 3) rfl) (by decide) ?_
              have hw9 : cv_sb (fun p => cv_op L p j) p = cv_sb (fun p => cv_op L p j) (p + 1) := by simp [cv_sb, b59]
              rw [hw9]
              exact ih27 (p + 1) (by omega)
            · skip
              refine cv_iload_n C (pc' := 63) rfl (D 32 (62, .iload_n 2, 1) rfl) rfl (j := 1) rfl ?_
              refine cv_iconst C (pc' := 64) rfl (D 33 (63, .iconst 1, 1) rfl) (v := nI 1) (by decide) ?_
              refine cv_iload_n C (pc' := 65) rfl (D 34 (64, .iload_n 3, 1) rfl) rfl (j := 0) rfl ?_
              refine cv_ishl1 C (pc' := 66) rfl (by omega) (D 35 (65, .ishl, 1) rfl) ?_
              refine cv_iorN C (pc' := 67) rfl (D 36 (66, .ior, 1) rfl) ?_
              refine cv_istore_n C (pc' := 68) rfl (D 37 (67, .istore_n 2, 1) rfl) rfl (by decide) (lv' := [(2, .int (nI ((cv_sb (fun p => cv_op L p j) p) ||| (2 ^ p)))), (3, .int (nI p)), (0, .ref 0), (1, .int (nI j))]) rfl ?_
              refine cv_iincN C (pc' := 71) rfl (D 38 (68, .iinc 3 1, 3) rfl) (j := 1) rfl (by decide) (lv' := [(3, .int (nI (p + 1))), (2, .int (nI ((cv_sb (fun p => cv_op L p j) p) ||| (2 ^ p)))), (0, .ref 0), (1, .int (nI j))]) rfl ?_
              refine cv_goto C (tgt := 27) (D 39 (71, .goto (-44), 3) rfl) (by decide) ?_
              have hw9 : (cv_sb (fun p => cv_op L p j) p) ||| (2 ^ p) = cv_sb (fun p => cv_op L p j) (p + 1) := by simp [cv_sb, b59]
              rw [hw9]
              exact ih27 (p + 1) (by omega)
      exact LP27 (L 7 0) 0 (by omega)
    · skip
      refine cv_bipush C (pc' := 22) rfl (D 9 (20, .bipush (-3), 2) rfl) (v := -3) (by decide) ?_
      exact cv_iret C Rt rfl (D 10 (22, .ireturn, 1) rfl) ⟨congrArg (fun z => some (Value.int z)) (by unfold cv_a_open cv_day; rw [if_pos b4, if_neg (by simpa using b17)]), hR⟩
  · skip
    refine cv_bipush C (pc' := 9) rfl (D 3 (7, .bipush (-2), 2) rfl) (v := -2) (by decide) ?_
    exact cv_iret C Rt rfl (D 4 (9, .ireturn, 1) rfl) ⟨congrArg (fun z => some (Value.int z)) (by unfold cv_a_open cv_day; rw [if_neg (by simp [b4])]), hR⟩

set_option maxHeartbeats 4000000 in
set_option maxRecDepth 100000 in
theorem pX6_soonest (tr : Int32) (ft : Nat) (sl : Nat → Option (Nat × Nat)) (sc : Nat → Nat → Int32) (L : cv_L) (rc : Nat) (rd : Nat → Nat) (rn : Nat → Option Nat) (x : Int32) (σ : cv_St) (hR : cv_RC tr ft sl sc L rc rd rn σ) (hB : cv_LB L) (hDB : cv_DB rc rd rn) : cv_Ct yX6_soonest cX6_soonest 2 (some .int) 4 0 0 26 cv_shC [.ref 0, .int x] σ (fun v u => v = some (.int (cv_a_soonest L x)) ∧ cv_RC tr ft sl sc L rc rd rn u) := by
  refine cv_enter (own := RX6) (by decide) rfl (Nat.le_of_ble_eq_true rfl) ?_
  intro X a C Rt hRm
  have D := @cv_dec _ _ dkX6_soonest
  obtain ⟨hTr, hFt, hSh, hL, hSe, hD⟩ := id hR
  have hn6 := hB.1
  have hrc := hDB.1
  show cv_At X _ _ σ 0 [(0, .ref 0), (1, .int x)] []
  refine cv_iload_n C (pc' := 1) rfl (D 0 (0, .iload_n 1, 1) rfl) rfl (j := 1) rfl ?_
  refine cv_callS C (pc' := 4) rfl (As := [.int x]) (rest := []) (idx := 108) (np := 1) (kX6_isDay x σ) (by decide +kernel) rfl wmX6_108 wt_yX6_isDay wn_X6 wc_yX6_isDay (by decide) (by decide) (D 1 (1, .invokestatic 108, 3) rfl) (Nat.le_of_ble_eq_true rfl) rfl (fun w9 u9 h9 => ?_)
  rw [h9.1, h9.2]
  show cv_At X _ _ σ 4 _ [.int (cv_b (cv_in x 8))]
  refine cv_if_neB C (pc' := 7) rfl (tgt := 10) (D 2 (4, .ifCond .ne 6, 3) rfl) (by decide) (fun b4 => ?_) (fun b4 => ?_)
  · skip
    obtain ⟨j, hj, rfl⟩ := cv_in_of b4 (by omega)
    refine cv_aload_n C (pc' := 11) rfl (D 5 (10, .aload_n 0, 1) rfl) rfl (j := 0) rfl ?_
    refine cv_get C (pc' := 14) rfl (k0 := 0) (i := 1) (ci := 6) (by decide) rfl rfl (by decide) (o := some 10) rfl iw_X6 wfX6_21 (D 6 (11, .getfield 21, 3) rfl) rfl ?_
    refine cv_get C (pc' := 17) rfl (k0 := 10) (i := 5) (ci := 0) (by decide) rfl rfl (by decide) (o := none) rfl iw_X0 wfX6_115 (D 7 (14, .getfield 115, 3) rfl) (v := .int (cv_b (decide (0 < L 7 0)))) (congrArg Value.int hSe) ?_
    refine cv_if_neB C (pc' := 20) rfl (tgt := 23) (D 8 (17, .ifCond .ne 6, 3) rfl) (by decide) (fun b17 => ?_) (fun b17 => ?_)
    · skip
      refine cv_aload_n C (pc' := 24) rfl (D 11 (23, .aload_n 0, 1) rfl) rfl (j := 0) rfl ?_
      refine cv_get C (pc' := 27) rfl (k0 := 0) (i := 1) (ci := 6) (by decide) rfl rfl (by decide) (o := some 10) rfl iw_X6 wfX6_21 (D 12 (24, .getfield 21, 3) rfl) rfl ?_
      refine cv_iconst C (pc' := 28) rfl (D 13 (27, .iconst (-1), 1) rfl) (v := -1) (by decide) ?_
      refine cv_callV C (pc' := 31) rfl (k0 := 10) (ci := 0) (As := [.int (-1)]) (rest := []) (idx := 131) (np := 1) (kX0_chart L (-1) σ hL hB) (by decide) rfl rfl rfl (by decide +kernel) rfl wmX6_131 wi_yX0_chart ws_yX0_chart wn_X0 wc_yX0_chart (by decide) (by decide) (D 14 (28, .invokevirtual 131, 3) rfl) (Nat.le_of_ble_eq_true rfl) rfl (fun w28 u28 h28 => ?_)
      obtain ⟨e28, hCOu28⟩ := h28
      rw [e28]
      have hKu28 : ∀ k, k ≠ 20 → k ≠ 21 → k ≠ 22 → u28 k = σ k := fun k h _ _ => hCOu28.1 k h
      have hLu28 := cv_LC_k hKu28 hL hB
      have hTu28 := cv_TC_of hCOu28
      have hDu28 := cv_DC_k hKu28 hD
      show cv_At X _ _ u28 31 _ []
      refine cv_aload_n C (pc' := 32) rfl (D 15 (31, .aload_n 0, 1) rfl) rfl (j := 0) rfl ?_
      refine cv_get C (pc' := 35) rfl (k0 := 0) (i := 1) (ci := 6) (by decide) rfl rfl (by decide) (o := some 10) rfl iw_X6 wfX6_21 (D 16 (32, .getfield 21, 3) rfl) rfl ?_
      refine cv_iload_n C (pc' := 36) rfl (D 17 (35, .iload_n 1, 1) rfl) rfl (j := 1) rfl ?_
      refine cv_callV C (pc' := 39) rfl (k0 := 10) (ci := 0) (As := [.int (nI j)]) (rest := []) (idx := 135) (np := 1) (kX0_doneOn L (cv_RT L (fun q => decide (nI q = -1)) 8) j u28 hLu28 hB hTu28 (by omega)) (by decide) rfl rfl rfl (by decide +kernel) rfl wmX6_135 wi_yX0_doneOn ws_yX0_doneOn wn_X0 wc_yX0_doneOn (by decide) (by decide) (D 18 (36, .invokevirtual 135, 3) rfl) (Nat.le_of_ble_eq_true rfl) rfl (fun w9 u9 h9 => ?_)
      rw [h9.1, h9.2]
      show cv_At X _ _ u28 39 _ [.int (cv_o (cv_sn L j))]
      exact cv_iret C Rt rfl (D 19 (39, .ireturn, 1) rfl) ⟨congrArg (fun z => some (Value.int z)) (by unfold cv_a_soonest cv_day; rw [if_pos b4, if_pos (by simpa using b17), cv_nt, nI_clamp (by omega)]), cv_RC_k hKu28 hB hR⟩
    · skip
      refine cv_bipush C (pc' := 22) rfl (D 9 (20, .bipush (-3), 2) rfl) (v := -3) (by decide) ?_
      exact cv_iret C Rt rfl (D 10 (22, .ireturn, 1) rfl) ⟨congrArg (fun z => some (Value.int z)) (by unfold cv_a_soonest cv_day; rw [if_pos b4, if_neg (by simpa using b17)]), hR⟩
  · skip
    refine cv_bipush C (pc' := 9) rfl (D 3 (7, .bipush (-2), 2) rfl) (v := -2) (by decide) ?_
    exact cv_iret C Rt rfl (D 4 (9, .ireturn, 1) rfl) ⟨congrArg (fun z => some (Value.int z)) (by unfold cv_a_soonest cv_day; rw [if_neg (by simp [b4])]), hR⟩

set_option maxHeartbeats 4000000 in
set_option maxRecDepth 100000 in
theorem pX6_holes (tr : Int32) (ft : Nat) (sl : Nat → Option (Nat × Nat)) (sc : Nat → Nat → Int32) (L : cv_L) (rc : Nat) (rd : Nat → Nat) (rn : Nat → Option Nat) (x : Int32) (σ : cv_St) (hR : cv_RC tr ft sl sc L rc rd rn σ) (hB : cv_LB L) (hDB : cv_DB rc rd rn) : cv_Ct yX6_holes cX6_holes 2 (some .int) 4 0 0 26 cv_shC [.ref 0, .int x] σ (fun v u => v = some (.int (cv_a_holes L x)) ∧ cv_RC tr ft sl sc L rc rd rn u) := by
  refine cv_enter (own := RX6) (by decide) rfl (Nat.le_of_ble_eq_true rfl) ?_
  intro X a C Rt hRm
  have D := @cv_dec _ _ dkX6_holes
  obtain ⟨hTr, hFt, hSh, hL, hSe, hD⟩ := id hR
  have hn6 := hB.1
  have hrc := hDB.1
  show cv_At X _ _ σ 0 [(0, .ref 0), (1, .int x)] []
  refine cv_iload_n C (pc' := 1) rfl (D 0 (0, .iload_n 1, 1) rfl) rfl (j := 1) rfl ?_
  refine cv_callS C (pc' := 4) rfl (As := [.int x]) (rest := []) (idx := 108) (np := 1) (kX6_isDay x σ) (by decide +kernel) rfl wmX6_108 wt_yX6_isDay wn_X6 wc_yX6_isDay (by decide) (by decide) (D 1 (1, .invokestatic 108, 3) rfl) (Nat.le_of_ble_eq_true rfl) rfl (fun w9 u9 h9 => ?_)
  rw [h9.1, h9.2]
  show cv_At X _ _ σ 4 _ [.int (cv_b (cv_in x 8))]
  refine cv_if_neB C (pc' := 7) rfl (tgt := 10) (D 2 (4, .ifCond .ne 6, 3) rfl) (by decide) (fun b4 => ?_) (fun b4 => ?_)
  · skip
    obtain ⟨j, hj, rfl⟩ := cv_in_of b4 (by omega)
    refine cv_aload_n C (pc' := 11) rfl (D 5 (10, .aload_n 0, 1) rfl) rfl (j := 0) rfl ?_
    refine cv_get C (pc' := 14) rfl (k0 := 0) (i := 1) (ci := 6) (by decide) rfl rfl (by decide) (o := some 10) rfl iw_X6 wfX6_21 (D 6 (11, .getfield 21, 3) rfl) rfl ?_
    refine cv_get C (pc' := 17) rfl (k0 := 10) (i := 5) (ci := 0) (by decide) rfl rfl (by decide) (o := none) rfl iw_X0 wfX6_115 (D 7 (14, .getfield 115, 3) rfl) (v := .int (cv_b (decide (0 < L 7 0)))) (congrArg Value.int hSe) ?_
    refine cv_if_neB C (pc' := 20) rfl (tgt := 23) (D 8 (17, .ifCond .ne 6, 3) rfl) (by decide) (fun b17 => ?_) (fun b17 => ?_)
    · skip
      refine cv_aload_n C (pc' := 24) rfl (D 11 (23, .aload_n 0, 1) rfl) rfl (j := 0) rfl ?_
      refine cv_get C (pc' := 27) rfl (k0 := 0) (i := 1) (ci := 6) (by decide) rfl rfl (by decide) (o := some 10) rfl iw_X6 wfX6_21 (D 12 (24, .getfield 21, 3) rfl) rfl ?_
      refine cv_iload_n C (pc' := 28) rfl (D 13 (27, .iload_n 1, 1) rfl) rfl (j := 1) rfl ?_
      refine cv_callV C (pc' := 31) rfl (k0 := 10) (ci := 0) (As := [.int (nI j)]) (rest := []) (idx := 138) (np := 1) (kX0_fewestHoles L j σ hL hB (by omega)) (by decide) rfl rfl rfl (by decide +kernel) rfl wmX6_138 wi_yX0_fewestHoles ws_yX0_fewestHoles wn_X0 wc_yX0_fewestHoles (by decide) (by decide) (D 14 (28, .invokevirtual 138, 3) rfl) (Nat.le_of_ble_eq_true rfl) rfl (fun w28 u28 h28 => ?_)
      obtain ⟨e1, e2⟩ := h28
      rw [e1]
      show cv_At X _ _ u28 31 _ [.int (cv_o (cv_fh L j))]
      exact cv_iret C Rt rfl (D 15 (31, .ireturn, 1) rfl) ⟨congrArg (fun z => some (Value.int z)) (by unfold cv_a_holes cv_day; rw [if_pos b4, if_pos (by simpa using b17), cv_nt, nI_clamp (by omega)]), cv_RC_k (fun k _ h _ => e2 k h) hB hR⟩
    · skip
      refine cv_bipush C (pc' := 22) rfl (D 9 (20, .bipush (-3), 2) rfl) (v := -3) (by decide) ?_
      exact cv_iret C Rt rfl (D 10 (22, .ireturn, 1) rfl) ⟨congrArg (fun z => some (Value.int z)) (by unfold cv_a_holes cv_day; rw [if_pos b4, if_neg (by simpa using b17)]), hR⟩
  · skip
    refine cv_bipush C (pc' := 9) rfl (D 3 (7, .bipush (-2), 2) rfl) (v := -2) (by decide) ?_
    exact cv_iret C Rt rfl (D 4 (9, .ireturn, 1) rfl) ⟨congrArg (fun z => some (Value.int z)) (by unfold cv_a_holes cv_day; rw [if_neg (by simp [b4])]), hR⟩

set_option maxHeartbeats 4000000 in
set_option maxRecDepth 100000 in
theorem pX6_last (tr : Int32) (ft : Nat) (sl : Nat → Option (Nat × Nat)) (sc : Nat → Nat → Int32) (L : cv_L) (rc : Nat) (rd : Nat → Nat) (rn : Nat → Option Nat) (x : Int32) (σ : cv_St) (hR : cv_RC tr ft sl sc L rc rd rn σ) (hB : cv_LB L) (hDB : cv_DB rc rd rn) : cv_Ct yX6_last cX6_last 3 (some .int) 4 0 0 26 cv_shC [.ref 0, .int x] σ (fun v u => v = some (.int (cv_a_last L x)) ∧ cv_RC tr ft sl sc L rc rd rn u) := by
  refine cv_enter (own := RX6) (by decide) rfl (Nat.le_of_ble_eq_true rfl) ?_
  intro X a C Rt hRm
  have D := @cv_dec _ _ dkX6_last
  obtain ⟨hTr, hFt, hSh, hL, hSe, hD⟩ := id hR
  have hn6 := hB.1
  have hrc := hDB.1
  have hg1 := hB.2.2.2 1 (by decide)
  have hg2 := hB.2.2.2 2 (by decide)
  show cv_At X _ _ σ 0 [(0, .ref 0), (1, .int x)] []
  refine cv_iload_n C (pc' := 1) rfl (D 0 (0, .iload_n 1, 1) rfl) rfl (j := 1) rfl ?_
  refine cv_callS C (pc' := 4) rfl (As := [.int x]) (rest := []) (idx := 108) (np := 1) (kX6_isDay x σ) (by decide +kernel) rfl wmX6_108 wt_yX6_isDay wn_X6 wc_yX6_isDay (by decide) (by decide) (D 1 (1, .invokestatic 108, 3) rfl) (Nat.le_of_ble_eq_true rfl) rfl (fun w9 u9 h9 => ?_)
  rw [h9.1, h9.2]
  show cv_At X _ _ σ 4 _ [.int (cv_b (cv_in x 8))]
  refine cv_if_neB C (pc' := 7) rfl (tgt := 10) (D 2 (4, .ifCond .ne 6, 3) rfl) (by decide) (fun b4 => ?_) (fun b4 => ?_)
  · skip
    obtain ⟨j, hj, rfl⟩ := cv_in_of b4 (by omega)
    refine cv_aload_n C (pc' := 11) rfl (D 5 (10, .aload_n 0, 1) rfl) rfl (j := 0) rfl ?_
    refine cv_get C (pc' := 14) rfl (k0 := 0) (i := 1) (ci := 6) (by decide) rfl rfl (by decide) (o := some 10) rfl iw_X6 wfX6_21 (D 6 (11, .getfield 21, 3) rfl) rfl ?_
    refine cv_get C (pc' := 17) rfl (k0 := 10) (i := 5) (ci := 0) (by decide) rfl rfl (by decide) (o := none) rfl iw_X0 wfX6_115 (D 7 (14, .getfield 115, 3) rfl) (v := .int (cv_b (decide (0 < L 7 0)))) (congrArg Value.int hSe) ?_
    refine cv_if_neB C (pc' := 20) rfl (tgt := 23) (D 8 (17, .ifCond .ne 6, 3) rfl) (by decide) (fun b17 => ?_) (fun b17 => ?_)
    · skip
      refine cv_aload_n C (pc' := 24) rfl (D 11 (23, .aload_n 0, 1) rfl) rfl (j := 0) rfl ?_
      refine cv_get C (pc' := 27) rfl (k0 := 0) (i := 1) (ci := 6) (by decide) rfl rfl (by decide) (o := some 10) rfl iw_X6 wfX6_21 (D 12 (24, .getfield 21, 3) rfl) rfl ?_
      refine cv_iconst C (pc' := 28) rfl (D 13 (27, .iconst (-1), 1) rfl) (v := -1) (by decide) ?_
      refine cv_callV C (pc' := 31) rfl (k0 := 10) (ci := 0) (As := [.int (-1)]) (rest := []) (idx := 131) (np := 1) (kX0_chart L (-1) σ hL hB) (by decide) rfl rfl rfl (by decide +kernel) rfl wmX6_131 wi_yX0_chart ws_yX0_chart wn_X0 wc_yX0_chart (by decide) (by decide) (D 14 (28, .invokevirtual 131, 3) rfl) (Nat.le_of_ble_eq_true rfl) rfl (fun w28 u28 h28 => ?_)
      obtain ⟨e28, hCOu28⟩ := h28
      rw [e28]
      have hKu28 : ∀ k, k ≠ 20 → k ≠ 21 → k ≠ 22 → u28 k = σ k := fun k h _ _ => hCOu28.1 k h
      have hLu28 := cv_LC_k hKu28 hL hB
      have hTu28 := cv_TC_of hCOu28
      have hDu28 := cv_DC_k hKu28 hD
      show cv_At X _ _ u28 31 _ []
      refine cv_bipush C (pc' := 33) rfl (D 15 (31, .bipush 7, 2) rfl) (v := nI 7) (by decide) ?_
      refine cv_istore_n C (pc' := 34) rfl (D 16 (33, .istore_n 2, 1) rfl) rfl (by decide) (lv' := [(2, .int (nI 7)), (0, .ref 0), (1, .int (nI j))]) rfl ?_
      have LP34 : ∀ (i : Nat), (i ≤ 8) → (cv_la (fun d => cv_can L (-1) d j (L 6 1) (L 6 2)) 8 = cv_la (fun d => cv_can L (-1) d j (L 6 1) (L 6 2)) i) → cv_At X (26, cv_shC, 0, 0, a) 3 u28 34 [(2, .int (cv_dn i)), (0, .ref 0), (1, .int (nI j))] [] := by
        intro i
        induction i with
        | zero =>
          intro hi h0
          show cv_At X _ _ u28 34 [(2, .int (-1)), (0, .ref 0), (1, .int (nI j))] []
          refine cv_iload_n C (pc' := 35) rfl (D 17 (34, .iload_n 2, 1) rfl) rfl (j := 0) rfl ?_
          refine cv_if_lt C (pc' := 38) rfl (tgt := 76) (D 18 (35, .ifCond .lt 41, 3) rfl) (by decide) (fun _ => ?_) (fun h => absurd h (by decide))
          refine cv_bipush C (pc' := 78) rfl (D 39 (76, .bipush (-9), 2) rfl) (v := -9) (by decide) ?_
          exact cv_iret C Rt rfl (D 40 (78, .ireturn, 1) rfl) ⟨congrArg (fun z => some (Value.int z)) (by unfold cv_a_last cv_day; rw [if_pos b4, if_pos (by simpa using b17), cv_nt, nI_clamp (by omega)]; rw [h0]; rfl), cv_RC_k hKu28 hB hR⟩
        | succ i ih34 =>
          intro hi h0
          show cv_At X _ _ u28 34 [(2, .int (nI i)), (0, .ref 0), (1, .int (nI j))] []
          refine cv_iload_n C (pc' := 35) rfl (D 17 (34, .iload_n 2, 1) rfl) rfl (j := 0) rfl ?_
          refine cv_if_lt C (pc' := 38) rfl (tgt := 76) (D 18 (35, .ifCond .lt 41, 3) rfl) (by decide) (fun b35 => ?_) (fun b35 => ?_)
          · skip
            exact absurd b35 (nI_pos (by omega))
          · skip
            refine cv_aload_n C (pc' := 39) rfl (D 19 (38, .aload_n 0, 1) rfl) rfl (j := 1) rfl ?_
            refine cv_get C (pc' := 42) rfl (k0 := 0) (i := 1) (ci := 6) (by decide) rfl rfl (by decide) (o := some 10) rfl iw_X6 wfX6_21 (D 20 (39, .getfield 21, 3) rfl) rfl ?_
            refine cv_iload_n C (pc' := 43) rfl (D 21 (42, .iload_n 1, 1) rfl) rfl (j := 2) rfl ?_
            refine cv_iload_n C (pc' := 44) rfl (D 22 (43, .iload_n 2, 1) rfl) rfl (j := 0) rfl ?_
            refine cv_aload_n C (pc' := 45) rfl (D 23 (44, .aload_n 0, 1) rfl) rfl (j := 1) rfl ?_
            refine cv_get C (pc' := 48) rfl (k0 := 0) (i := 1) (ci := 6) (by decide) rfl rfl (by decide) (o := some 10) rfl iw_X6 wfX6_21 (D 24 (45, .getfield 21, 3) rfl) rfl ?_
            refine cv_get C (pc' := 51) rfl (k0 := 10) (i := 2) (ci := 0) (by decide) rfl rfl (by decide) (o := some 19) rfl iw_X0 wfX6_125 (D 25 (48, .getfield 125, 3) rfl) rfl ?_
            refine cv_iconst C (pc' := 52) rfl (D 26 (51, .iconst 1, 1) rfl) (v := nI 1) (by decide) ?_
            refine cv_iald C (pc' := 53) rfl (k0 := 19) (j := 1) (by decide) rfl rfl (by omega) (by decide) (D 27 (52, .iaload, 1) rfl) (v := nI (L 6 1)) (hLu28.2.2.1 _ (by omega)) ?_
            refine cv_aload_n C (pc' := 54) rfl (D 28 (53, .aload_n 0, 1) rfl) rfl (j := 1) rfl ?_
            refine cv_get C (pc' := 57) rfl (k0 := 0) (i := 1) (ci := 6) (by decide) rfl rfl (by decide) (o := some 10) rfl iw_X6 wfX6_21 (D 29 (54, .getfield 21, 3) rfl) rfl ?_
            refine cv_get C (pc' := 60) rfl (k0 := 10) (i := 2) (ci := 0) (by decide) rfl rfl (by decide) (o := some 19) rfl iw_X0 wfX6_125 (D 30 (57, .getfield 125, 3) rfl) rfl ?_
            refine cv_iconst C (pc' := 61) rfl (D 31 (60, .iconst 2, 1) rfl) (v := nI 2) (by decide) ?_
            refine cv_iald C (pc' := 62) rfl (k0 := 19) (j := 2) (by decide) rfl rfl (by omega) (by decide) (D 32 (61, .iaload, 1) rfl) (v := nI (L 6 2)) (hLu28.2.2.1 _ (by omega)) ?_
            refine cv_callV C (pc' := 65) rfl (k0 := 10) (ci := 0) (As := [.int (nI j), .int (nI i), .int (nI (L 6 1)), .int (nI (L 6 2))]) (rest := []) (idx := 155) (np := 4) (kX0_isDoneBy L (cv_RT L (fun q => decide (nI q = -1)) 8) j i (L 6 1) (L 6 2) u28 hLu28 hB hTu28 (by omega) (by omega) (by omega) (by omega)) (by decide) rfl rfl rfl (by decide +kernel) rfl wmX6_155 wi_yX0_isDoneBy ws_yX0_isDoneBy wn_X0 wc_yX0_isDoneBy (by decide) (by decide) (D 33 (62, .invokevirtual 155, 3) rfl) (Nat.le_of_ble_eq_true rfl) rfl (fun w9 u9 h9 => ?_)
            rw [h9.1, h9.2]
            show cv_At X _ _ u28 65 _ [.int (cv_b (cv_can L (-1) i j (L 6 1) (L 6 2)))]
            refine cv_if_eqB C (pc' := 68) rfl (tgt := 70) (D 34 (65, .ifCond .eq 5, 3) rfl) (by decide) (fun b65 => ?_) (fun b65 => ?_)
            · skip
              refine cv_iinc C (pc' := 73) rfl (D 37 (70, .iinc 2 (-1), 3) rfl) (j := 0) rfl (v := cv_dn i) (cv_dn_dec i) (by decide) (lv' := [(2, .int (cv_dn i)), (0, .ref 0), (1, .int (nI j))]) rfl ?_
              refine cv_goto C (tgt := 34) (D 38 (73, .goto (-39), 3) rfl) (by decide) ?_
              exact ih34 (by omega) (by rw [h0]; simp [cv_la, b65])
            · skip
              refine cv_iload_n C (pc' := 69) rfl (D 35 (68, .iload_n 2, 1) rfl) rfl (j := 0) rfl ?_
              exact cv_iret C Rt rfl (D 36 (69, .ireturn, 1) rfl) ⟨congrArg (fun z => some (Value.int z)) (by unfold cv_a_last cv_day; rw [if_pos b4, if_pos (by simpa using b17), cv_nt, nI_clamp (by omega)]; rw [h0]; simp only [cv_la]; rw [if_pos b65]; rfl), cv_RC_k hKu28 hB hR⟩
      exact LP34 8 (by decide) rfl
    · skip
      refine cv_bipush C (pc' := 22) rfl (D 9 (20, .bipush (-3), 2) rfl) (v := -3) (by decide) ?_
      exact cv_iret C Rt rfl (D 10 (22, .ireturn, 1) rfl) ⟨congrArg (fun z => some (Value.int z)) (by unfold cv_a_last cv_day; rw [if_pos b4, if_neg (by simpa using b17)]), hR⟩
  · skip
    refine cv_bipush C (pc' := 9) rfl (D 3 (7, .bipush (-2), 2) rfl) (v := -2) (by decide) ?_
    exact cv_iret C Rt rfl (D 4 (9, .ireturn, 1) rfl) ⟨congrArg (fun z => some (Value.int z)) (by unfold cv_a_last cv_day; rw [if_neg (by simp [b4])]), hR⟩

set_option maxHeartbeats 4000000 in
set_option maxRecDepth 100000 in
theorem pX6_safe (tr : Int32) (ft : Nat) (sl : Nat → Option (Nat × Nat)) (sc : Nat → Nat → Int32) (L : cv_L) (rc : Nat) (rd : Nat → Nat) (rn : Nat → Option Nat) (x : Int32) (σ : cv_St) (hR : cv_RC tr ft sl sc L rc rd rn σ) (hB : cv_LB L) (hDB : cv_DB rc rd rn) : cv_Ct yX6_safe cX6_safe 3 (some .int) 5 0 0 26 cv_shC [.ref 0, .int x] σ (fun v u => v = some (.int (cv_a_safe L x)) ∧ cv_RC tr ft sl sc L rc rd rn u) := by
  refine cv_enter (own := RX6) (by decide) rfl (Nat.le_of_ble_eq_true rfl) ?_
  intro X a C Rt hRm
  have D := @cv_dec _ _ dkX6_safe
  obtain ⟨hTr, hFt, hSh, hL, hSe, hD⟩ := id hR
  have hn6 := hB.1
  have hrc := hDB.1
  show cv_At X _ _ σ 0 [(0, .ref 0), (1, .int x)] []
  refine cv_iload_n C (pc' := 1) rfl (D 0 (0, .iload_n 1, 1) rfl) rfl (j := 1) rfl ?_
  refine cv_callS C (pc' := 4) rfl (As := [.int x]) (rest := []) (idx := 108) (np := 1) (kX6_isDay x σ) (by decide +kernel) rfl wmX6_108 wt_yX6_isDay wn_X6 wc_yX6_isDay (by decide) (by decide) (D 1 (1, .invokestatic 108, 3) rfl) (Nat.le_of_ble_eq_true rfl) rfl (fun w9 u9 h9 => ?_)
  rw [h9.1, h9.2]
  show cv_At X _ _ σ 4 _ [.int (cv_b (cv_in x 8))]
  refine cv_if_neB C (pc' := 7) rfl (tgt := 10) (D 2 (4, .ifCond .ne 6, 3) rfl) (by decide) (fun b4 => ?_) (fun b4 => ?_)
  · skip
    obtain ⟨j, hj, rfl⟩ := cv_in_of b4 (by omega)
    refine cv_aload_n C (pc' := 11) rfl (D 5 (10, .aload_n 0, 1) rfl) rfl (j := 0) rfl ?_
    refine cv_get C (pc' := 14) rfl (k0 := 0) (i := 1) (ci := 6) (by decide) rfl rfl (by decide) (o := some 10) rfl iw_X6 wfX6_21 (D 6 (11, .getfield 21, 3) rfl) rfl ?_
    refine cv_get C (pc' := 17) rfl (k0 := 10) (i := 5) (ci := 0) (by decide) rfl rfl (by decide) (o := none) rfl iw_X0 wfX6_115 (D 7 (14, .getfield 115, 3) rfl) (v := .int (cv_b (decide (0 < L 7 0)))) (congrArg Value.int hSe) ?_
    refine cv_if_neB C (pc' := 20) rfl (tgt := 23) (D 8 (17, .ifCond .ne 6, 3) rfl) (by decide) (fun b17 => ?_) (fun b17 => ?_)
    · skip
      refine cv_aload_n C (pc' := 24) rfl (D 11 (23, .aload_n 0, 1) rfl) rfl (j := 0) rfl ?_
      refine cv_get C (pc' := 27) rfl (k0 := 0) (i := 1) (ci := 6) (by decide) rfl rfl (by decide) (o := some 10) rfl iw_X6 wfX6_21 (D 12 (24, .getfield 21, 3) rfl) rfl ?_
      refine cv_iconst C (pc' := 28) rfl (D 13 (27, .iconst (-1), 1) rfl) (v := -1) (by decide) ?_
      refine cv_callV C (pc' := 31) rfl (k0 := 10) (ci := 0) (As := [.int (-1)]) (rest := []) (idx := 131) (np := 1) (kX0_chart L (-1) σ hL hB) (by decide) rfl rfl rfl (by decide +kernel) rfl wmX6_131 wi_yX0_chart ws_yX0_chart wn_X0 wc_yX0_chart (by decide) (by decide) (D 14 (28, .invokevirtual 131, 3) rfl) (Nat.le_of_ble_eq_true rfl) rfl (fun w28 u28 h28 => ?_)
      obtain ⟨e28, hCOu28⟩ := h28
      rw [e28]
      have hKu28 : ∀ k, k ≠ 20 → k ≠ 21 → k ≠ 22 → u28 k = σ k := fun k h _ _ => hCOu28.1 k h
      have hLu28 := cv_LC_k hKu28 hL hB
      have hTu28 := cv_TC_of hCOu28
      have hDu28 := cv_DC_k hKu28 hD
      show cv_At X _ _ u28 31 _ []
      refine cv_bipush C (pc' := 33) rfl (D 15 (31, .bipush 7, 2) rfl) (v := nI 7) (by decide) ?_
      refine cv_istore_n C (pc' := 34) rfl (D 16 (33, .istore_n 2, 1) rfl) rfl (by decide) (lv' := [(2, .int (nI 7)), (0, .ref 0), (1, .int (nI j))]) rfl ?_
      have LP34 : ∀ (i : Nat), (i ≤ 8) → (cv_la (fun d => cv_al (fun h => cv_can L (-1) d j (cv_clr (L 6 1) (h / 8)) (cv_clr (L 6 2) (h % 8))) 64) 8 = cv_la (fun d => cv_al (fun h => cv_can L (-1) d j (cv_clr (L 6 1) (h / 8)) (cv_clr (L 6 2) (h % 8))) 64) i) → cv_At X (26, cv_shC, 0, 0, a) 3 u28 34 [(2, .int (cv_dn i)), (0, .ref 0), (1, .int (nI j))] [] := by
        intro i
        induction i with
        | zero =>
          intro hi h0
          show cv_At X _ _ u28 34 [(2, .int (-1)), (0, .ref 0), (1, .int (nI j))] []
          refine cv_iload_n C (pc' := 35) rfl (D 17 (34, .iload_n 2, 1) rfl) rfl (j := 0) rfl ?_
          refine cv_if_lt C (pc' := 38) rfl (tgt := 58) (D 18 (35, .ifCond .lt 23, 3) rfl) (by decide) (fun _ => ?_) (fun h => absurd h (by decide))
          refine cv_bipush C (pc' := 60) rfl (D 29 (58, .bipush (-9), 2) rfl) (v := -9) (by decide) ?_
          exact cv_iret C Rt rfl (D 30 (60, .ireturn, 1) rfl) ⟨congrArg (fun z => some (Value.int z)) (by unfold cv_a_safe cv_day; rw [if_pos b4, if_pos (by simpa using b17), cv_nt, nI_clamp (by omega)]; rw [h0]; rfl), cv_RC_k hKu28 hB hR⟩
        | succ i ih34 =>
          intro hi h0
          show cv_At X _ _ u28 34 [(2, .int (nI i)), (0, .ref 0), (1, .int (nI j))] []
          refine cv_iload_n C (pc' := 35) rfl (D 17 (34, .iload_n 2, 1) rfl) rfl (j := 0) rfl ?_
          refine cv_if_lt C (pc' := 38) rfl (tgt := 58) (D 18 (35, .ifCond .lt 23, 3) rfl) (by decide) (fun b35 => ?_) (fun b35 => ?_)
          · skip
            exact absurd b35 (nI_pos (by omega))
          · skip
            refine cv_aload_n C (pc' := 39) rfl (D 19 (38, .aload_n 0, 1) rfl) rfl (j := 1) rfl ?_
            refine cv_get C (pc' := 42) rfl (k0 := 0) (i := 1) (ci := 6) (by decide) rfl rfl (by decide) (o := some 10) rfl iw_X6 wfX6_21 (D 20 (39, .getfield 21, 3) rfl) rfl ?_
            refine cv_iload_n C (pc' := 43) rfl (D 21 (42, .iload_n 1, 1) rfl) rfl (j := 2) rfl ?_
            refine cv_iload_n C (pc' := 44) rfl (D 22 (43, .iload_n 2, 1) rfl) rfl (j := 0) rfl ?_
            refine cv_callV C (pc' := 47) rfl (k0 := 10) (ci := 0) (As := [.int (nI j), .int (nI i)]) (rest := []) (idx := 159) (np := 2) (kX0_isSafeBy L (cv_RT L (fun q => decide (nI q = -1)) 8) j i u28 hLu28 hB hTu28 (by omega) (by omega)) (by decide) rfl rfl rfl (by decide +kernel) rfl wmX6_159 wi_yX0_isSafeBy ws_yX0_isSafeBy wn_X0 wc_yX0_isSafeBy (by decide) (by decide) (D 23 (44, .invokevirtual 159, 3) rfl) (Nat.le_of_ble_eq_true rfl) rfl (fun w9 u9 h9 => ?_)
            rw [h9.1, h9.2]
            show cv_At X _ _ u28 47 _ [.int (cv_b (cv_al (fun h => cv_can L (-1) i j (cv_clr (L 6 1) (h / 8)) (cv_clr (L 6 2) (h % 8))) 64))]
            refine cv_if_eqB C (pc' := 50) rfl (tgt := 52) (D 24 (47, .ifCond .eq 5, 3) rfl) (by decide) (fun b47 => ?_) (fun b47 => ?_)
            · skip
              refine cv_iinc C (pc' := 55) rfl (D 27 (52, .iinc 2 (-1), 3) rfl) (j := 0) rfl (v := cv_dn i) (cv_dn_dec i) (by decide) (lv' := [(2, .int (cv_dn i)), (0, .ref 0), (1, .int (nI j))]) rfl ?_
              refine cv_goto C (tgt := 34) (D 28 (55, .goto (-21), 3) rfl) (by decide) ?_
              exact ih34 (by omega) (by rw [h0]; simp [cv_la, b47])
            · skip
              refine cv_iload_n C (pc' := 51) rfl (D 25 (50, .iload_n 2, 1) rfl) rfl (j := 0) rfl ?_
              exact cv_iret C Rt rfl (D 26 (51, .ireturn, 1) rfl) ⟨congrArg (fun z => some (Value.int z)) (by unfold cv_a_safe cv_day; rw [if_pos b4, if_pos (by simpa using b17), cv_nt, nI_clamp (by omega)]; rw [h0]; simp only [cv_la]; rw [if_pos b47]; rfl), cv_RC_k hKu28 hB hR⟩
      exact LP34 8 (by decide) rfl
    · skip
      refine cv_bipush C (pc' := 22) rfl (D 9 (20, .bipush (-3), 2) rfl) (v := -3) (by decide) ?_
      exact cv_iret C Rt rfl (D 10 (22, .ireturn, 1) rfl) ⟨congrArg (fun z => some (Value.int z)) (by unfold cv_a_safe cv_day; rw [if_pos b4, if_neg (by simpa using b17)]), hR⟩
  · skip
    refine cv_bipush C (pc' := 9) rfl (D 3 (7, .bipush (-2), 2) rfl) (v := -2) (by decide) ?_
    exact cv_iret C Rt rfl (D 4 (9, .ireturn, 1) rfl) ⟨congrArg (fun z => some (Value.int z)) (by unfold cv_a_safe cv_day; rw [if_neg (by simp [b4])]), hR⟩
end
section
set_option maxHeartbeats 4000000 in
set_option maxRecDepth 100000 in
theorem kX6_canWithout (L : cv_L) (rc : Nat) (rd : Nat → Nat) (rn : Nat → Option Nat) (x : Int32) (j w : Nat) (σ : cv_St) (hL : cv_LC L σ) (hB : cv_LB L) (hD : cv_DC rc rd rn σ) (hj : j < 8) (hw : w < 8) : cv_Ct yX6_canWithout cX6_canWithout 4 (some .boolean) 4 0 0 26 cv_shC [.ref 0, .int x, .int (nI j), .int (nI w)] σ (fun v u => v = some (.int (cv_b (cv_can L x j w (L 6 1) (L 6 2)))) ∧ ∀ k, k ≠ 20 → k ≠ 21 → k ≠ 22 → u k = σ k) := by
  refine cv_enter (own := RX6) (by decide) rfl (Nat.le_of_ble_eq_true rfl) ?_
  intro X a C Rt hRm
  have D := @cv_dec _ _ dkX6_canWithout
  have hg1 := hB.2.2.2 1 (by decide)
  have hg2 := hB.2.2.2 2 (by decide)
  show cv_At X _ _ σ 0 [(0, .ref 0), (1, .int x), (2, .int (nI j)), (3, .int (nI w))] []
  refine cv_aload_n C (pc' := 1) rfl (D 0 (0, .aload_n 0, 1) rfl) rfl (j := 0) rfl ?_
  refine cv_get C (pc' := 4) rfl (k0 := 0) (i := 1) (ci := 6) (by decide) rfl rfl (by decide) (o := some 10) rfl iw_X6 wfX6_21 (D 1 (1, .getfield 21, 3) rfl) rfl ?_
  refine cv_iload_n C (pc' := 5) rfl (D 2 (4, .iload_n 1, 1) rfl) rfl (j := 1) rfl ?_
  refine cv_callV C (pc' := 8) rfl (k0 := 10) (ci := 0) (As := [.int x]) (rest := []) (idx := 131) (np := 1) (kX0_chart L x σ hL hB) (by decide) rfl rfl rfl (by decide +kernel) rfl wmX6_131 wi_yX0_chart ws_yX0_chart wn_X0 wc_yX0_chart (by decide) (by decide) (D 3 (5, .invokevirtual 131, 3) rfl) (Nat.le_of_ble_eq_true rfl) rfl (fun w5 u5 h5 => ?_)
  obtain ⟨e5, hCOu5⟩ := h5
  rw [e5]
  have hKu5 : ∀ k, k ≠ 20 → k ≠ 21 → k ≠ 22 → u5 k = σ k := fun k h _ _ => hCOu5.1 k h
  have hLu5 := cv_LC_k hKu5 hL hB
  have hTu5 := cv_TC_of hCOu5
  have hDu5 := cv_DC_k hKu5 hD
  show cv_At X _ _ u5 8 _ []
  refine cv_aload_n C (pc' := 9) rfl (D 4 (8, .aload_n 0, 1) rfl) rfl (j := 0) rfl ?_
  refine cv_get C (pc' := 12) rfl (k0 := 0) (i := 1) (ci := 6) (by decide) rfl rfl (by decide) (o := some 10) rfl iw_X6 wfX6_21 (D 5 (9, .getfield 21, 3) rfl) rfl ?_
  refine cv_iload_n C (pc' := 13) rfl (D 6 (12, .iload_n 3, 1) rfl) rfl (j := 3) rfl ?_
  refine cv_iload_n C (pc' := 14) rfl (D 7 (13, .iload_n 2, 1) rfl) rfl (j := 2) rfl ?_
  refine cv_aload_n C (pc' := 15) rfl (D 8 (14, .aload_n 0, 1) rfl) rfl (j := 0) rfl ?_
  refine cv_get C (pc' := 18) rfl (k0 := 0) (i := 1) (ci := 6) (by decide) rfl rfl (by decide) (o := some 10) rfl iw_X6 wfX6_21 (D 9 (15, .getfield 21, 3) rfl) rfl ?_
  refine cv_get C (pc' := 21) rfl (k0 := 10) (i := 2) (ci := 0) (by decide) rfl rfl (by decide) (o := some 19) rfl iw_X0 wfX6_125 (D 10 (18, .getfield 125, 3) rfl) rfl ?_
  refine cv_iconst C (pc' := 22) rfl (D 11 (21, .iconst 1, 1) rfl) (v := nI 1) (by decide) ?_
  refine cv_iald C (pc' := 23) rfl (k0 := 19) (j := 1) (by decide) rfl rfl (by omega) (by decide) (D 12 (22, .iaload, 1) rfl) (v := nI (L 6 1)) (hLu5.2.2.1 _ (by omega)) ?_
  refine cv_aload_n C (pc' := 24) rfl (D 13 (23, .aload_n 0, 1) rfl) rfl (j := 0) rfl ?_
  refine cv_get C (pc' := 27) rfl (k0 := 0) (i := 1) (ci := 6) (by decide) rfl rfl (by decide) (o := some 10) rfl iw_X6 wfX6_21 (D 14 (24, .getfield 21, 3) rfl) rfl ?_
  refine cv_get C (pc' := 30) rfl (k0 := 10) (i := 2) (ci := 0) (by decide) rfl rfl (by decide) (o := some 19) rfl iw_X0 wfX6_125 (D 15 (27, .getfield 125, 3) rfl) rfl ?_
  refine cv_iconst C (pc' := 31) rfl (D 16 (30, .iconst 2, 1) rfl) (v := nI 2) (by decide) ?_
  refine cv_iald C (pc' := 32) rfl (k0 := 19) (j := 2) (by decide) rfl rfl (by omega) (by decide) (D 17 (31, .iaload, 1) rfl) (v := nI (L 6 2)) (hLu5.2.2.1 _ (by omega)) ?_
  refine cv_callV C (pc' := 35) rfl (k0 := 10) (ci := 0) (As := [.int (nI w), .int (nI j), .int (nI (L 6 1)), .int (nI (L 6 2))]) (rest := []) (idx := 155) (np := 4) (kX0_isDoneBy L (cv_RT L (fun q => decide (nI q = x)) 8) w j (L 6 1) (L 6 2) u5 hLu5 hB hTu5 (by omega) (by omega) (by omega) (by omega)) (by decide) rfl rfl rfl (by decide +kernel) rfl wmX6_155 wi_yX0_isDoneBy ws_yX0_isDoneBy wn_X0 wc_yX0_isDoneBy (by decide) (by decide) (D 18 (32, .invokevirtual 155, 3) rfl) (Nat.le_of_ble_eq_true rfl) rfl (fun w9 u9 h9 => ?_)
  rw [h9.1, h9.2]
  show cv_At X _ _ u5 35 _ [.int (cv_b (cv_can L x j w (L 6 1) (L 6 2)))]
  exact cv_iret C Rt (cv_b_nar _) (D 19 (35, .ireturn, 1) rfl) ⟨rfl, hKu5⟩

set_option maxHeartbeats 4000000 in
set_option maxRecDepth 100000 in
theorem pX6_hangs (tr : Int32) (ft : Nat) (sl : Nat → Option (Nat × Nat)) (sc : Nat → Nat → Int32) (L : cv_L) (rc : Nat) (rd : Nat → Nat) (rn : Nat → Option Nat) (x y : Int32) (σ : cv_St) (hR : cv_RC tr ft sl sc L rc rd rn σ) (hB : cv_LB L) (hDB : cv_DB rc rd rn) : cv_Ct yX6_hangs cX6_hangs 5 (some .int) 5 0 0 26 cv_shC [.ref 0, .int x, .int y] σ (fun v u => v = some (.int (cv_a_hangs L x y)) ∧ cv_RC tr ft sl sc L rc rd rn u) := by
  refine cv_enter (own := RX6) (by decide) rfl (Nat.le_of_ble_eq_true rfl) ?_
  intro X a C Rt hRm
  have D := @cv_dec _ _ dkX6_hangs
  obtain ⟨hTr, hFt, hSh, hL, hSe, hD⟩ := id hR
  have hn6 := hB.1
  have hrc := hDB.1
  show cv_At X _ _ σ 0 [(0, .ref 0), (1, .int x), (2, .int y)] []
  refine cv_iload_n C (pc' := 1) rfl (D 0 (0, .iload_n 1, 1) rfl) rfl (j := 1) rfl ?_
  refine cv_callS C (pc' := 4) rfl (As := [.int x]) (rest := []) (idx := 108) (np := 1) (kX6_isDay x σ) (by decide +kernel) rfl wmX6_108 wt_yX6_isDay wn_X6 wc_yX6_isDay (by decide) (by decide) (D 1 (1, .invokestatic 108, 3) rfl) (Nat.le_of_ble_eq_true rfl) rfl (fun w9 u9 h9 => ?_)
  rw [h9.1, h9.2]
  show cv_At X _ _ σ 4 _ [.int (cv_b (cv_in x 8))]
  refine cv_if_eqB C (pc' := 7) rfl (tgt := 14) (D 2 (4, .ifCond .eq 10, 3) rfl) (by decide) (fun b4 => ?_) (fun b4 => ?_)
  · skip
    refine cv_bipush C (pc' := 16) rfl (D 6 (14, .bipush (-2), 2) rfl) (v := -2) (by decide) ?_
    exact cv_iret C Rt rfl (D 7 (16, .ireturn, 1) rfl) ⟨congrArg (fun z => some (Value.int z)) (by unfold cv_a_hangs cv_day2; rw [if_neg (by simp [b4])]), hR⟩
  · skip
    refine cv_iload_n C (pc' := 8) rfl (D 3 (7, .iload_n 2, 1) rfl) rfl (j := 2) rfl ?_
    refine cv_callS C (pc' := 11) rfl (As := [.int y]) (rest := []) (idx := 108) (np := 1) (kX6_isDay y σ) (by decide +kernel) rfl wmX6_108 wt_yX6_isDay wn_X6 wc_yX6_isDay (by decide) (by decide) (D 4 (8, .invokestatic 108, 3) rfl) (Nat.le_of_ble_eq_true rfl) rfl (fun w9 u9 h9 => ?_)
    rw [h9.1, h9.2]
    show cv_At X _ _ σ 11 _ [.int (cv_b (cv_in y 8))]
    refine cv_if_neB C (pc' := 14) rfl (tgt := 17) (D 5 (11, .ifCond .ne 6, 3) rfl) (by decide) (fun b11 => ?_) (fun b11 => ?_)
    · skip
      obtain ⟨j, hj, rfl⟩ := cv_in_of b4 (by omega)
      obtain ⟨w, hw, rfl⟩ := cv_in_of b11 (by omega)
      refine cv_aload_n C (pc' := 18) rfl (D 8 (17, .aload_n 0, 1) rfl) rfl (j := 0) rfl ?_
      refine cv_get C (pc' := 21) rfl (k0 := 0) (i := 1) (ci := 6) (by decide) rfl rfl (by decide) (o := some 10) rfl iw_X6 wfX6_21 (D 9 (18, .getfield 21, 3) rfl) rfl ?_
      refine cv_get C (pc' := 24) rfl (k0 := 10) (i := 5) (ci := 0) (by decide) rfl rfl (by decide) (o := none) rfl iw_X0 wfX6_115 (D 10 (21, .getfield 115, 3) rfl) (v := .int (cv_b (decide (0 < L 7 0)))) (congrArg Value.int hSe) ?_
      refine cv_if_neB C (pc' := 27) rfl (tgt := 30) (D 11 (24, .ifCond .ne 6, 3) rfl) (by decide) (fun b24 => ?_) (fun b24 => ?_)
      · skip
        refine cv_aload_n C (pc' := 31) rfl (D 14 (30, .aload_n 0, 1) rfl) rfl (j := 0) rfl ?_
        refine cv_iconst C (pc' := 32) rfl (D 15 (31, .iconst (-1), 1) rfl) (v := -1) (by decide) ?_
        refine cv_iload_n C (pc' := 33) rfl (D 16 (32, .iload_n 1, 1) rfl) rfl (j := 1) rfl ?_
        refine cv_iload_n C (pc' := 34) rfl (D 17 (33, .iload_n 2, 1) rfl) rfl (j := 2) rfl ?_
        refine cv_callV C (pc' := 37) rfl (k0 := 0) (ci := 6) (As := [.int (-1), .int (nI j), .int (nI w)]) (rest := []) (idx := 162) (np := 3) (kX6_canWithout L rc rd rn (-1) j w σ hL hB hD (by omega) (by omega)) (by decide) rfl rfl rfl (by decide +kernel) rfl wmX6_162 wi_yX6_canWithout ws_yX6_canWithout wn_X6 wc_yX6_canWithout (by decide) (by decide) (D 18 (34, .invokevirtual 162, 3) rfl) (Nat.le_of_ble_eq_true rfl) rfl (fun w34 u34 h34 => ?_)
        obtain ⟨e34, hK0u34⟩ := h34
        rw [e34]
        have hKu34 := hK0u34
        have hLu34 := cv_LC_k hKu34 hL hB
        have hDu34 := cv_DC_k hKu34 hD
        show cv_At X _ _ u34 37 _ [.int (cv_b (cv_can L (-1) j w (L 6 1) (L 6 2)))]
        refine cv_if_neB C (pc' := 40) rfl (tgt := 42) (D 19 (37, .ifCond .ne 5, 3) rfl) (by decide) (fun b37 => ?_) (fun b37 => ?_)
        · skip
          refine cv_iconst C (pc' := 43) rfl (D 22 (42, .iconst 0, 1) rfl) (v := nI 0) (by decide) ?_
          refine cv_istore_n C (pc' := 44) rfl (D 23 (43, .istore_n 3, 1) rfl) rfl (by decide) (lv' := [(3, .int (nI 0)), (0, .ref 0), (1, .int (nI j)), (2, .int (nI w))]) rfl ?_
          refine cv_iconst C (pc' := 45) rfl (D 24 (44, .iconst 0, 1) rfl) (v := nI 0) (by decide) ?_
          refine cv_istore C (pc' := 47) rfl (D 25 (45, .istore 4, 2) rfl) (by decide) (lv' := [(4, .int (nI 0)), (3, .int (nI 0)), (0, .ref 0), (1, .int (nI j)), (2, .int (nI w))]) rfl ?_
          refine cv_pick [0, 1, 2, 3, 4] (lv' := [(4, .int (nI 0)), (3, .int (nI (cv_sb (fun p => !cv_can L (nI p) j w (L 6 1) (L 6 2)) 0))), (0, .ref 0), (1, .int (nI j)), (2, .int (nI w))]) rfl ?_
          have LP47 : ∀ (r : Nat) (p : Nat) (τ : cv_St), (p + r = L 7 0) → (∀ k, k ≠ 20 → k ≠ 21 → k ≠ 22 → τ k = σ k) → cv_At X (26, cv_shC, 0, 0, a) 5 τ 47 [(4, .int (nI p)), (3, .int (nI (cv_sb (fun p => !cv_can L (nI p) j w (L 6 1) (L 6 2)) p))), (0, .ref 0), (1, .int (nI j)), (2, .int (nI w))] [] := by
            intro r
            induction r with
            | zero =>
              intro p τ hr hKτ
              have hLτ := cv_LC_k hKτ hL hB
              refine cv_iload C (pc' := 49) rfl (D 26 (47, .iload 4, 2) rfl) (j := 0) rfl ?_
              refine cv_aload_n C (pc' := 50) rfl (D 27 (49, .aload_n 0, 1) rfl) rfl (j := 2) rfl ?_
              refine cv_get C (pc' := 53) rfl (k0 := 0) (i := 1) (ci := 6) (by decide) rfl rfl (by decide) (o := some 10) rfl iw_X6 wfX6_21 (D 28 (50, .getfield 21, 3) rfl) rfl ?_
              refine cv_get C (pc' := 56) rfl (k0 := 10) (i := 6) (ci := 0) (by decide) rfl rfl (by decide) (o := none) rfl iw_X0 wfX6_78 (D 29 (53, .getfield 78, 3) rfl) (v := .int (nI (L 7 0))) (congrArg Value.int hLτ.1) ?_
              refine cv_icmp_geN C (pc' := 59) rfl (by omega) (by omega) (tgt := 83) (D 30 (56, .if_icmp .ge 27, 3) rfl) (by decide) (fun b56 => ?_) (fun b56 => ?_)
              · skip
                refine cv_iload_n C (pc' := 84) rfl (D 45 (83, .iload_n 3, 1) rfl) rfl (j := 1) rfl ?_
                exact cv_iret C Rt rfl (D 46 (84, .ireturn, 1) rfl) ⟨congrArg (fun z => some (Value.int z)) (by unfold cv_a_hangs cv_day2; rw [if_pos ⟨b4, b11⟩, if_pos (by simpa using b24)]; simp only [cv_nt, nI_clamp (show j < 2 ^ 31 by omega), nI_clamp (show w < 2 ^ 31 by omega)]; rw [if_pos b37, show p = L 7 0 by omega]), cv_RC_k hKτ hB hR⟩
              · skip
                omega
            | succ r ih47 =>
              intro p τ hr hKτ
              have hLτ := cv_LC_k hKτ hL hB
              have hDτ := cv_DC_k hKτ hD
              refine cv_iload C (pc' := 49) rfl (D 26 (47, .iload 4, 2) rfl) (j := 0) rfl ?_
              refine cv_aload_n C (pc' := 50) rfl (D 27 (49, .aload_n 0, 1) rfl) rfl (j := 2) rfl ?_
              refine cv_get C (pc' := 53) rfl (k0 := 0) (i := 1) (ci := 6) (by decide) rfl rfl (by decide) (o := some 10) rfl iw_X6 wfX6_21 (D 28 (50, .getfield 21, 3) rfl) rfl ?_
              refine cv_get C (pc' := 56) rfl (k0 := 10) (i := 6) (ci := 0) (by decide) rfl rfl (by decide) (o := none) rfl iw_X0 wfX6_78 (D 29 (53, .getfield 78, 3) rfl) (v := .int (nI (L 7 0))) (congrArg Value.int hLτ.1) ?_
              refine cv_icmp_geN C (pc' := 59) rfl (by omega) (by omega) (tgt := 83) (D 30 (56, .if_icmp .ge 27, 3) rfl) (by decide) (fun b56 => ?_) (fun b56 => ?_)
              · skip
                omega
              · skip
                refine cv_aload_n C (pc' := 60) rfl (D 31 (59, .aload_n 0, 1) rfl) rfl (j := 2) rfl ?_
                refine cv_iload C (pc' := 62) rfl (D 32 (60, .iload 4, 2) rfl) (j := 0) rfl ?_
                refine cv_iload_n C (pc' := 63) rfl (D 33 (62, .iload_n 1, 1) rfl) rfl (j := 3) rfl ?_
                refine cv_iload_n C (pc' := 64) rfl (D 34 (63, .iload_n 2, 1) rfl) rfl (j := 4) rfl ?_
                refine cv_callV C (pc' := 67) rfl (k0 := 0) (ci := 6) (As := [.int (nI p), .int (nI j), .int (nI w)]) (rest := []) (idx := 162) (np := 3) (kX6_canWithout L rc rd rn (nI p) j w τ hLτ hB hDτ (by omega) (by omega)) (by decide) rfl rfl rfl (by decide +kernel) rfl wmX6_162 wi_yX6_canWithout ws_yX6_canWithout wn_X6 wc_yX6_canWithout (by decide) (by decide) (D 35 (64, .invokevirtual 162, 3) rfl) (Nat.le_of_ble_eq_true rfl) rfl (fun w64 u64 h64 => ?_)
                obtain ⟨e64, hK0u64⟩ := h64
                rw [e64]
                have hKu64 : ∀ k, k ≠ 20 → k ≠ 21 → k ≠ 22 → u64 k = σ k := fun k h1 h2 h3 => (hK0u64 k h1 h2 h3).trans (hKτ k h1 h2 h3)
                have hLu64 := cv_LC_k hKu64 hL hB
                have hDu64 := cv_DC_k hKu64 hD
                show cv_At X _ _ u64 67 _ [.int (cv_b (cv_can L (nI p) j w (L 6 1) (L 6 2)))]
                refine cv_if_neB C (pc' := 70) rfl (tgt := 77) (D 36 (67, .ifCond .ne 10, 3) rfl) (by decide) (fun b67 => ?_) (fun b67 => ?_)
                · skip
                  refine cv_iincN C (pc' := 80) rfl (D 43 (77, .iinc 4 1, 3) rfl) (j := 0) rfl (by decide) (lv' := [(4, .int (nI (p + 1))), (3, .int (nI (cv_sb (fun p => !cv_can L (nI p) j w (L 6 1) (L 6 2)) p))), (0, .ref 0), (1, .int (nI j)), (2, .int (nI w))]) rfl ?_
                  refine cv_goto C (tgt := 47) (D 44 (80, .goto (-33), 3) rfl) (by decide) ?_
                  have hw9 : cv_sb (fun p => !cv_can L (nI p) j w (L 6 1) (L 6 2)) p = cv_sb (fun p => !cv_can L (nI p) j w (L 6 1) (L 6 2)) (p + 1) := by simp [cv_sb, b67]
                  rw [hw9]
                  exact ih47 (p + 1) u64 (by omega) hKu64
                · skip
                  refine cv_iload_n C (pc' := 71) rfl (D 37 (70, .iload_n 3, 1) rfl) rfl (j := 1) rfl ?_
                  refine cv_iconst C (pc' := 72) rfl (D 38 (71, .iconst 1, 1) rfl) (v := nI 1) (by decide) ?_
                  refine cv_iload C (pc' := 74) rfl (D 39 (72, .iload 4, 2) rfl) (j := 0) rfl ?_
                  refine cv_ishl1 C (pc' := 75) rfl (by omega) (D 40 (74, .ishl, 1) rfl) ?_
                  refine cv_iorN C (pc' := 76) rfl (D 41 (75, .ior, 1) rfl) ?_
                  refine cv_istore_n C (pc' := 77) rfl (D 42 (76, .istore_n 3, 1) rfl) rfl (by decide) (lv' := [(3, .int (nI ((cv_sb (fun p => !cv_can L (nI p) j w (L 6 1) (L 6 2)) p) ||| (2 ^ p)))), (4, .int (nI p)), (0, .ref 0), (1, .int (nI j)), (2, .int (nI w))]) rfl ?_
                  refine cv_iincN C (pc' := 80) rfl (D 43 (77, .iinc 4 1, 3) rfl) (j := 1) rfl (by decide) (lv' := [(4, .int (nI (p + 1))), (3, .int (nI ((cv_sb (fun p => !cv_can L (nI p) j w (L 6 1) (L 6 2)) p) ||| (2 ^ p)))), (0, .ref 0), (1, .int (nI j)), (2, .int (nI w))]) rfl ?_
                  refine cv_goto C (tgt := 47) (D 44 (80, .goto (-33), 3) rfl) (by decide) ?_
                  have hw9 : (cv_sb (fun p => !cv_can L (nI p) j w (L 6 1) (L 6 2)) p) ||| (2 ^ p) = cv_sb (fun p => !cv_can L (nI p) j w (L 6 1) (L 6 2)) (p + 1) := by simp [cv_sb, b67]
                  rw [hw9]
                  exact ih47 (p + 1) u64 (by omega) hKu64
          exact LP47 (L 7 0) 0 u34 (by omega) hKu34
        · skip
          refine cv_iconst C (pc' := 41) rfl (D 20 (40, .iconst 0, 1) rfl) (v := nI 0) (by decide) ?_
          exact cv_iret C Rt rfl (D 21 (41, .ireturn, 1) rfl) ⟨congrArg (fun z => some (Value.int z)) (by unfold cv_a_hangs cv_day2; rw [if_pos ⟨b4, b11⟩, if_pos (by simpa using b24)]; simp only [cv_nt, nI_clamp (show j < 2 ^ 31 by omega), nI_clamp (show w < 2 ^ 31 by omega)]; rw [if_neg (by simp [b37])]; rfl), cv_RC_k hKu34 hB hR⟩
      · skip
        refine cv_bipush C (pc' := 29) rfl (D 12 (27, .bipush (-3), 2) rfl) (v := -3) (by decide) ?_
        exact cv_iret C Rt rfl (D 13 (29, .ireturn, 1) rfl) ⟨congrArg (fun z => some (Value.int z)) (by unfold cv_a_hangs cv_day2; rw [if_pos ⟨b4, b11⟩, if_neg (by simpa using b24)]), hR⟩
    · skip
      refine cv_bipush C (pc' := 16) rfl (D 6 (14, .bipush (-2), 2) rfl) (v := -2) (by decide) ?_
      exact cv_iret C Rt rfl (D 7 (16, .ireturn, 1) rfl) ⟨congrArg (fun z => some (Value.int z)) (by unfold cv_a_hangs cv_day2; rw [if_neg (by simp [b11])]), hR⟩

set_option maxHeartbeats 4000000 in
set_option maxRecDepth 100000 in
theorem pX6_peace (tr : Int32) (ft : Nat) (sl : Nat → Option (Nat × Nat)) (sc : Nat → Nat → Int32) (L : cv_L) (rc : Nat) (rd : Nat → Nat) (rn : Nat → Option Nat) (x y : Int32) (σ : cv_St) (hR : cv_RC tr ft sl sc L rc rd rn σ) (hB : cv_LB L) (hDB : cv_DB rc rd rn) : cv_Ct yX6_peace cX6_peace 3 (some .int) 5 0 0 26 cv_shC [.ref 0, .int x, .int y] σ (fun v u => v = some (.int (cv_a_peace L x y)) ∧ cv_RC tr ft sl sc L rc rd rn u) := by
  refine cv_enter (own := RX6) (by decide) rfl (Nat.le_of_ble_eq_true rfl) ?_
  intro X a C Rt hRm
  have D := @cv_dec _ _ dkX6_peace
  obtain ⟨hTr, hFt, hSh, hL, hSe, hD⟩ := id hR
  have hn6 := hB.1
  have hrc := hDB.1
  show cv_At X _ _ σ 0 [(0, .ref 0), (1, .int x), (2, .int y)] []
  refine cv_iload_n C (pc' := 1) rfl (D 0 (0, .iload_n 1, 1) rfl) rfl (j := 1) rfl ?_
  refine cv_callS C (pc' := 4) rfl (As := [.int x]) (rest := []) (idx := 108) (np := 1) (kX6_isDay x σ) (by decide +kernel) rfl wmX6_108 wt_yX6_isDay wn_X6 wc_yX6_isDay (by decide) (by decide) (D 1 (1, .invokestatic 108, 3) rfl) (Nat.le_of_ble_eq_true rfl) rfl (fun w9 u9 h9 => ?_)
  rw [h9.1, h9.2]
  show cv_At X _ _ σ 4 _ [.int (cv_b (cv_in x 8))]
  refine cv_if_eqB C (pc' := 7) rfl (tgt := 14) (D 2 (4, .ifCond .eq 10, 3) rfl) (by decide) (fun b4 => ?_) (fun b4 => ?_)
  · skip
    refine cv_bipush C (pc' := 16) rfl (D 6 (14, .bipush (-2), 2) rfl) (v := -2) (by decide) ?_
    exact cv_iret C Rt rfl (D 7 (16, .ireturn, 1) rfl) ⟨congrArg (fun z => some (Value.int z)) (by unfold cv_a_peace cv_day2; rw [if_neg (by simp [b4])]), hR⟩
  · skip
    refine cv_iload_n C (pc' := 8) rfl (D 3 (7, .iload_n 2, 1) rfl) rfl (j := 2) rfl ?_
    refine cv_callS C (pc' := 11) rfl (As := [.int y]) (rest := []) (idx := 108) (np := 1) (kX6_isDay y σ) (by decide +kernel) rfl wmX6_108 wt_yX6_isDay wn_X6 wc_yX6_isDay (by decide) (by decide) (D 4 (8, .invokestatic 108, 3) rfl) (Nat.le_of_ble_eq_true rfl) rfl (fun w9 u9 h9 => ?_)
    rw [h9.1, h9.2]
    show cv_At X _ _ σ 11 _ [.int (cv_b (cv_in y 8))]
    refine cv_if_neB C (pc' := 14) rfl (tgt := 17) (D 5 (11, .ifCond .ne 6, 3) rfl) (by decide) (fun b11 => ?_) (fun b11 => ?_)
    · skip
      obtain ⟨j, hj, rfl⟩ := cv_in_of b4 (by omega)
      obtain ⟨w, hw, rfl⟩ := cv_in_of b11 (by omega)
      refine cv_aload_n C (pc' := 18) rfl (D 8 (17, .aload_n 0, 1) rfl) rfl (j := 0) rfl ?_
      refine cv_get C (pc' := 21) rfl (k0 := 0) (i := 1) (ci := 6) (by decide) rfl rfl (by decide) (o := some 10) rfl iw_X6 wfX6_21 (D 9 (18, .getfield 21, 3) rfl) rfl ?_
      refine cv_get C (pc' := 24) rfl (k0 := 10) (i := 5) (ci := 0) (by decide) rfl rfl (by decide) (o := none) rfl iw_X0 wfX6_115 (D 10 (21, .getfield 115, 3) rfl) (v := .int (cv_b (decide (0 < L 7 0)))) (congrArg Value.int hSe) ?_
      refine cv_if_neB C (pc' := 27) rfl (tgt := 30) (D 11 (24, .ifCond .ne 6, 3) rfl) (by decide) (fun b24 => ?_) (fun b24 => ?_)
      · skip
        refine cv_aload_n C (pc' := 31) rfl (D 14 (30, .aload_n 0, 1) rfl) rfl (j := 0) rfl ?_
        refine cv_get C (pc' := 34) rfl (k0 := 0) (i := 1) (ci := 6) (by decide) rfl rfl (by decide) (o := some 10) rfl iw_X6 wfX6_21 (D 15 (31, .getfield 21, 3) rfl) rfl ?_
        refine cv_iconst C (pc' := 35) rfl (D 16 (34, .iconst (-1), 1) rfl) (v := -1) (by decide) ?_
        refine cv_callV C (pc' := 38) rfl (k0 := 10) (ci := 0) (As := [.int (-1)]) (rest := []) (idx := 131) (np := 1) (kX0_chart L (-1) σ hL hB) (by decide) rfl rfl rfl (by decide +kernel) rfl wmX6_131 wi_yX0_chart ws_yX0_chart wn_X0 wc_yX0_chart (by decide) (by decide) (D 17 (35, .invokevirtual 131, 3) rfl) (Nat.le_of_ble_eq_true rfl) rfl (fun w35 u35 h35 => ?_)
        obtain ⟨e35, hCOu35⟩ := h35
        rw [e35]
        have hKu35 : ∀ k, k ≠ 20 → k ≠ 21 → k ≠ 22 → u35 k = σ k := fun k h _ _ => hCOu35.1 k h
        have hLu35 := cv_LC_k hKu35 hL hB
        have hTu35 := cv_TC_of hCOu35
        have hDu35 := cv_DC_k hKu35 hD
        show cv_At X _ _ u35 38 _ []
        refine cv_aload_n C (pc' := 39) rfl (D 18 (38, .aload_n 0, 1) rfl) rfl (j := 0) rfl ?_
        refine cv_get C (pc' := 42) rfl (k0 := 0) (i := 1) (ci := 6) (by decide) rfl rfl (by decide) (o := some 10) rfl iw_X6 wfX6_21 (D 19 (39, .getfield 21, 3) rfl) rfl ?_
        refine cv_iload_n C (pc' := 43) rfl (D 20 (42, .iload_n 2, 1) rfl) rfl (j := 2) rfl ?_
        refine cv_iload_n C (pc' := 44) rfl (D 21 (43, .iload_n 1, 1) rfl) rfl (j := 1) rfl ?_
        refine cv_callV C (pc' := 47) rfl (k0 := 10) (ci := 0) (As := [.int (nI w), .int (nI j)]) (rest := []) (idx := 166) (np := 2) (kX0_daysToPeace L (cv_RT L (fun q => decide (nI q = -1)) 8) w j u35 hLu35 hB hTu35 (by omega) (by omega)) (by decide) rfl rfl rfl (by decide +kernel) rfl wmX6_166 wi_yX0_daysToPeace ws_yX0_daysToPeace wn_X0 wc_yX0_daysToPeace (by decide) (by decide) (D 22 (44, .invokevirtual 166, 3) rfl) (Nat.le_of_ble_eq_true rfl) rfl (fun w9 u9 h9 => ?_)
        rw [h9.1, h9.2]
        show cv_At X _ _ u35 47 _ [.int (cv_o (cv_pe (cv_RT L (fun q => decide (nI q = -1)) 8) (L 6 0) (L 6 1) (L 6 2) j w))]
        exact cv_iret C Rt rfl (D 23 (47, .ireturn, 1) rfl) ⟨congrArg (fun z => some (Value.int z)) (by unfold cv_a_peace cv_day2; rw [if_pos ⟨b4, b11⟩, if_pos (by simpa using b24)]; simp only [cv_nt, nI_clamp (show j < 2 ^ 31 by omega), nI_clamp (show w < 2 ^ 31 by omega)]), cv_RC_k hKu35 hB hR⟩
      · skip
        refine cv_bipush C (pc' := 29) rfl (D 12 (27, .bipush (-3), 2) rfl) (v := -3) (by decide) ?_
        exact cv_iret C Rt rfl (D 13 (29, .ireturn, 1) rfl) ⟨congrArg (fun z => some (Value.int z)) (by unfold cv_a_peace cv_day2; rw [if_pos ⟨b4, b11⟩, if_neg (by simpa using b24)]), hR⟩
    · skip
      refine cv_bipush C (pc' := 16) rfl (D 6 (14, .bipush (-2), 2) rfl) (v := -2) (by decide) ?_
      exact cv_iret C Rt rfl (D 7 (16, .ireturn, 1) rfl) ⟨congrArg (fun z => some (Value.int z)) (by unfold cv_a_peace cv_day2; rw [if_neg (by simp [b11])]), hR⟩

theorem cv_RC_reading {tr : Int32} {ft : Nat} {sl : Nat → Option (Nat × Nat)} {sc : Nat → Nat → Int32} {L : cv_L} {rc : Nat} {rd : Nat → Nat} {rn : Nat → Option Nat} {σ : cv_St} (hB : cv_LB L) (hR : cv_RC tr ft sl sc L rc rd rn σ) (j : Nat) (o : Option Nat) (y : Int32) (hy : y = cv_o o) (z : Int32) (hz : z = nI (rc + 1)) : cv_RC tr ft sl sc L (rc + 1) (fun k => if k = rc then j else rd k) (fun k => if k = rc then o else rn k) (cv_u (cv_u (cv_u σ 24 rc (nI j)) 25 rc y) 23 2 z) := by
  obtain ⟨h1, h2, h3, h4, h5, h6⟩ := hR
  have h9 := hB.1
  subst hy; subst hz
  have e : ∀ k, k < 23 → cv_u (cv_u (cv_u σ 24 rc (nI j)) 25 rc (cv_o o)) 23 2 (nI (rc + 1)) k = σ k := fun k hk => by rw [cv_u_c (by omega), cv_u_c (by omega), cv_u_c (by omega)]
  refine ⟨by rw [e 0 (by decide)]; exact h1, by rw [e 0 (by decide)]; exact h2, fun k hk => by rw [e (2 + k) (by omega), e (6 + k) (by omega)]; exact h3 k hk, ⟨by rw [e 10 (by decide)]; exact h4.1, fun d hd => by rw [e 18 (by decide)]; exact h4.2.1 d hd, fun v hv => by rw [e 19 (by decide)]; exact h4.2.2.1 v hv, fun p hp i hi => by rw [e (12 + p) (by omega)]; exact h4.2.2.2 p hp i hi⟩, by rw [e 10 (by decide)]; exact h5, cv_u_s, fun k hk => ?_⟩
  rw [cv_u_c (by decide), cv_u_c (by decide), cv_u_c (show (25 : Nat) ≠ 23 by decide)]
  by_cases q : k = rc
  · subst q
    dsimp only
    rw [cv_u_s, cv_u_s, if_pos rfl, if_pos rfl]
    exact ⟨rfl, rfl⟩
  · dsimp only
    rw [cv_u_i q, cv_u_i q, if_neg q, if_neg q, cv_u_c (by decide)]
    exact h6.2 k (by omega)
theorem cv_RC_back {tr : Int32} {ft : Nat} {sl : Nat → Option (Nat × Nat)} {sc : Nat → Nat → Int32} {L : cv_L} {rc : Nat} {rd : Nat → Nat} {rn : Nat → Option Nat} {σ : cv_St} (hB : cv_LB L) (hR : cv_RC tr ft sl sc L rc rd rn σ) (m : Nat) (hm : m ≤ rc) : cv_RC tr ft sl sc L m rd rn (cv_u σ 23 2 (nI m)) := by
  obtain ⟨h1, h2, h3, h4, h5, h6⟩ := hR
  have h9 := hB.1
  have e : ∀ k, k ≠ 23 → cv_u σ 23 2 (nI m) k = σ k := fun k hk => cv_u_c hk
  refine ⟨by rw [e 0 (by decide)]; exact h1, by rw [e 0 (by decide)]; exact h2, fun k hk => by rw [e (2 + k) (by omega), e (6 + k) (by omega)]; exact h3 k hk, ⟨by rw [e 10 (by decide)]; exact h4.1, fun d hd => by rw [e 18 (by decide)]; exact h4.2.1 d hd, fun v hv => by rw [e 19 (by decide)]; exact h4.2.2.1 v hv, fun p hp i hi => by rw [e (12 + p) (by omega)]; exact h4.2.2.2 p hp i hi⟩, by rw [e 10 (by decide)]; exact h5, cv_u_s, fun k hk => by rw [e 24 (by decide), e 25 (by decide)]; exact h6.2 k (by omega)⟩
set_option maxHeartbeats 4000000 in
set_option maxRecDepth 100000 in
theorem pX6_reading (tr : Int32) (ft : Nat) (sl : Nat → Option (Nat × Nat)) (sc : Nat → Nat → Int32) (L : cv_L) (rc : Nat) (rd : Nat → Nat) (rn : Nat → Option Nat) (x y : Int32) (σ : cv_St) (hR : cv_RC tr ft sl sc L rc rd rn σ) (hB : cv_LB L) (hDB : cv_DB rc rd rn) : cv_Ct yX6_reading cX6_reading 4 (some .int) 2 0 0 26 cv_shC [.ref 0, .int x, .int y] σ (fun v u => v = some (.int (cv_a_reading L rc x y)) ∧ (if cv_ok_reading L rc x y then cv_RC tr ft sl sc L (rc + 1) (fun k => if k = rc then cv_nt x else rd k) (fun k => if k = rc then cv_on y else rn k) u else cv_RC tr ft sl sc L rc rd rn u)) := by
  refine cv_enter (own := RX6) (by decide) rfl (Nat.le_of_ble_eq_true rfl) ?_
  intro X a C Rt hRm
  have D := @cv_dec _ _ dkX6_reading
  obtain ⟨hTr, hFt, hSh, hL, hSe, hD⟩ := id hR
  have hn6 := hB.1
  have hrc := hDB.1
  show cv_At X _ _ σ 0 [(0, .ref 0), (1, .int x), (2, .int y)] []
  refine cv_iload_n C (pc' := 1) rfl (D 0 (0, .iload_n 1, 1) rfl) rfl (j := 1) rfl ?_
  refine cv_callS C (pc' := 4) rfl (As := [.int x]) (rest := []) (idx := 108) (np := 1) (kX6_isDay x σ) (by decide +kernel) rfl wmX6_108 wt_yX6_isDay wn_X6 wc_yX6_isDay (by decide) (by decide) (D 1 (1, .invokestatic 108, 3) rfl) (Nat.le_of_ble_eq_true rfl) rfl (fun w9 u9 h9 => ?_)
  rw [h9.1, h9.2]
  show cv_At X _ _ σ 4 _ [.int (cv_b (cv_in x 8))]
  refine cv_if_eqB C (pc' := 7) rfl (tgt := 20) (D 2 (4, .ifCond .eq 16, 3) rfl) (by decide) (fun b4 => ?_) (fun b4 => ?_)
  · skip
    refine cv_bipush C (pc' := 22) rfl (D 9 (20, .bipush (-2), 2) rfl) (v := -2) (by decide) ?_
    exact cv_iret C Rt rfl (D 10 (22, .ireturn, 1) rfl) ⟨congrArg (fun z => some (Value.int z)) (by unfold cv_a_reading; rw [if_neg (by simp [b4])]), by rw [if_neg (fun h => by unfold cv_ok_reading at h; rw [b4] at h; cases h.1)]; exact hR⟩
  · skip
    refine cv_iload_n C (pc' := 8) rfl (D 3 (7, .iload_n 2, 1) rfl) rfl (j := 2) rfl ?_
    refine cv_bipush C (pc' := 10) rfl (D 4 (8, .bipush (-9), 2) rfl) (v := -9) (by decide) ?_
    refine cv_icmp_eq C (pc' := 13) rfl (tgt := 23) (D 5 (10, .if_icmp .eq 13, 3) rfl) (by decide) (fun b10 => ?_) (fun b10 => ?_)
    · skip
      obtain ⟨j, hj, rfl⟩ := cv_in_of b4 (by omega)
      refine cv_aload_n C (pc' := 24) rfl (D 11 (23, .aload_n 0, 1) rfl) rfl (j := 0) rfl ?_
      refine cv_get C (pc' := 27) rfl (k0 := 0) (i := 1) (ci := 6) (by decide) rfl rfl (by decide) (o := some 10) rfl iw_X6 wfX6_21 (D 12 (24, .getfield 21, 3) rfl) rfl ?_
      refine cv_get C (pc' := 30) rfl (k0 := 10) (i := 5) (ci := 0) (by decide) rfl rfl (by decide) (o := none) rfl iw_X0 wfX6_115 (D 13 (27, .getfield 115, 3) rfl) (v := .int (cv_b (decide (0 < L 7 0)))) (congrArg Value.int hSe) ?_
      refine cv_if_neB C (pc' := 33) rfl (tgt := 36) (D 14 (30, .ifCond .ne 6, 3) rfl) (by decide) (fun b30 => ?_) (fun b30 => ?_)
      · skip
        refine cv_aload_n C (pc' := 37) rfl (D 17 (36, .aload_n 0, 1) rfl) rfl (j := 0) rfl ?_
        refine cv_get C (pc' := 40) rfl (k0 := 0) (i := 3) (ci := 6) (by decide) rfl rfl (by decide) (o := some 23) rfl iw_X6 wfX6_35 (D 18 (37, .getfield 35, 3) rfl) rfl ?_
        refine cv_get C (pc' := 43) rfl (k0 := 23) (i := 2) (ci := 2) (by decide) rfl rfl (by decide) (o := none) rfl iw_X2 wfX6_75 (D 19 (40, .getfield 75, 3) rfl) (v := .int (nI rc)) (congrArg Value.int hD.1) ?_
        refine cv_istore_n C (pc' := 44) rfl (D 20 (43, .istore_n 3, 1) rfl) rfl (by decide) (lv' := [(3, .int (nI rc)), (0, .ref 0), (1, .int (nI j)), (2, .int y)]) rfl ?_
        refine cv_iload_n C (pc' := 45) rfl (D 21 (44, .iload_n 3, 1) rfl) rfl (j := 0) rfl ?_
        refine cv_bipush C (pc' := 47) rfl (D 22 (45, .bipush 8, 2) rfl) (v := nI 8) (by decide) ?_
        refine cv_icmp_ltN C (pc' := 50) rfl (by omega) (by omega) (tgt := 53) (D 23 (47, .if_icmp .lt 6, 3) rfl) (by decide) (fun b47 => ?_) (fun b47 => ?_)
        · skip
          refine cv_aload_n C (pc' := 54) rfl (D 26 (53, .aload_n 0, 1) rfl) rfl (j := 1) rfl ?_
          refine cv_get C (pc' := 57) rfl (k0 := 0) (i := 3) (ci := 6) (by decide) rfl rfl (by decide) (o := some 23) rfl iw_X6 wfX6_35 (D 27 (54, .getfield 35, 3) rfl) rfl ?_
          refine cv_get C (pc' := 60) rfl (k0 := 23) (i := 0) (ci := 2) (by decide) rfl rfl (by decide) (o := some 24) rfl iw_X2 wfX6_169 (D 28 (57, .getfield 169, 3) rfl) rfl ?_
          refine cv_iload_n C (pc' := 61) rfl (D 29 (60, .iload_n 3, 1) rfl) rfl (j := 0) rfl ?_
          refine cv_iload_n C (pc' := 62) rfl (D 30 (61, .iload_n 1, 1) rfl) rfl (j := 2) rfl ?_
          refine cv_iast C (pc' := 63) rfl (k0 := 24) (j := rc) (by decide) rfl rfl (by omega) (by decide) (D 31 (62, .iastore, 1) rfl) ?_
          refine cv_aload_n C (pc' := 64) rfl (D 32 (63, .aload_n 0, 1) rfl) rfl (j := 1) rfl ?_
          refine cv_get C (pc' := 67) rfl (k0 := 0) (i := 3) (ci := 6) (by decide) rfl rfl (by decide) (o := some 23) rfl iw_X6 wfX6_35 (D 33 (64, .getfield 35, 3) rfl) rfl ?_
          refine cv_get C (pc' := 70) rfl (k0 := 23) (i := 1) (ci := 2) (by decide) rfl rfl (by decide) (o := some 25) rfl iw_X2 wfX6_172 (D 34 (67, .getfield 172, 3) rfl) rfl ?_
          refine cv_iload_n C (pc' := 71) rfl (D 35 (70, .iload_n 3, 1) rfl) rfl (j := 0) rfl ?_
          refine cv_iload_n C (pc' := 72) rfl (D 36 (71, .iload_n 2, 1) rfl) rfl (j := 3) rfl ?_
          refine cv_iast C (pc' := 73) rfl (k0 := 25) (j := rc) (by decide) rfl rfl (by omega) (by decide) (D 37 (72, .iastore, 1) rfl) ?_
          refine cv_aload_n C (pc' := 74) rfl (D 38 (73, .aload_n 0, 1) rfl) rfl (j := 1) rfl ?_
          refine cv_get C (pc' := 77) rfl (k0 := 0) (i := 3) (ci := 6) (by decide) rfl rfl (by decide) (o := some 23) rfl iw_X6 wfX6_35 (D 39 (74, .getfield 35, 3) rfl) rfl ?_
          refine cv_iload_n C (pc' := 78) rfl (D 40 (77, .iload_n 3, 1) rfl) rfl (j := 0) rfl ?_
          refine cv_iconst C (pc' := 79) rfl (D 41 (78, .iconst 1, 1) rfl) (v := nI 1) (by decide) ?_
          refine cv_iaddN C (pc' := 80) rfl (D 42 (79, .iadd, 1) rfl) ?_
          refine cv_put C (pc' := 83) rfl (k0 := 23) (i := 2) (ci := 2) (by decide) rfl rfl (by decide) rfl iw_X2 tyX2 tyX2_ok nmX2 wfX6_75 rfl rfl rfl (D 43 (80, .putfield 75, 3) rfl) ?_
          refine cv_iload_n C (pc' := 84) rfl (D 44 (83, .iload_n 3, 1) rfl) rfl (j := 0) rfl ?_
          exact cv_iret C Rt rfl (D 45 (84, .ireturn, 1) rfl) ⟨congrArg (fun z => some (Value.int z)) (by unfold cv_a_reading; rw [if_pos ⟨b4, (Or.inl b10)⟩, if_pos (by simpa using b30), if_pos (by omega)]), by rw [if_pos ⟨b4, (Or.inl b10), by simpa using b30, b47⟩]; rw [cv_nt, nI_clamp (show j < 2 ^ 31 by omega)]; exact cv_RC_reading hB hR j _ _ (by unfold cv_on; rw [if_pos b10, b10]; rfl) _ rfl⟩
        · skip
          refine cv_bipush C (pc' := 52) rfl (D 24 (50, .bipush (-4), 2) rfl) (v := -4) (by decide) ?_
          exact cv_iret C Rt rfl (D 25 (52, .ireturn, 1) rfl) ⟨congrArg (fun z => some (Value.int z)) (by unfold cv_a_reading; rw [if_pos ⟨b4, (Or.inl b10)⟩, if_pos (by simpa using b30), if_neg (by omega)]), by rw [if_neg (fun h => by have := h.2.2.2; omega)]; exact hR⟩
      · skip
        refine cv_bipush C (pc' := 35) rfl (D 15 (33, .bipush (-3), 2) rfl) (v := -3) (by decide) ?_
        exact cv_iret C Rt rfl (D 16 (35, .ireturn, 1) rfl) ⟨congrArg (fun z => some (Value.int z)) (by unfold cv_a_reading; rw [if_pos ⟨b4, (Or.inl b10)⟩, if_neg (by simpa using b30)]), by rw [if_neg (fun h => by have := h.2.2.1; simp at b30; omega)]; exact hR⟩
    · skip
      refine cv_iload_n C (pc' := 14) rfl (D 6 (13, .iload_n 2, 1) rfl) rfl (j := 2) rfl ?_
      refine cv_callS C (pc' := 17) rfl (As := [.int y]) (rest := []) (idx := 108) (np := 1) (kX6_isDay y σ) (by decide +kernel) rfl wmX6_108 wt_yX6_isDay wn_X6 wc_yX6_isDay (by decide) (by decide) (D 7 (14, .invokestatic 108, 3) rfl) (Nat.le_of_ble_eq_true rfl) rfl (fun w9 u9 h9 => ?_)
      rw [h9.1, h9.2]
      show cv_At X _ _ σ 17 _ [.int (cv_b (cv_in y 8))]
      refine cv_if_neB C (pc' := 20) rfl (tgt := 23) (D 8 (17, .ifCond .ne 6, 3) rfl) (by decide) (fun b17 => ?_) (fun b17 => ?_)
      · skip
        obtain ⟨j, hj, rfl⟩ := cv_in_of b4 (by omega)
        have b17y := b17
        obtain ⟨w, hw, rfl⟩ := cv_in_of b17 (by omega)
        refine cv_aload_n C (pc' := 24) rfl (D 11 (23, .aload_n 0, 1) rfl) rfl (j := 0) rfl ?_
        refine cv_get C (pc' := 27) rfl (k0 := 0) (i := 1) (ci := 6) (by decide) rfl rfl (by decide) (o := some 10) rfl iw_X6 wfX6_21 (D 12 (24, .getfield 21, 3) rfl) rfl ?_
        refine cv_get C (pc' := 30) rfl (k0 := 10) (i := 5) (ci := 0) (by decide) rfl rfl (by decide) (o := none) rfl iw_X0 wfX6_115 (D 13 (27, .getfield 115, 3) rfl) (v := .int (cv_b (decide (0 < L 7 0)))) (congrArg Value.int hSe) ?_
        refine cv_if_neB C (pc' := 33) rfl (tgt := 36) (D 14 (30, .ifCond .ne 6, 3) rfl) (by decide) (fun b30 => ?_) (fun b30 => ?_)
        · skip
          refine cv_aload_n C (pc' := 37) rfl (D 17 (36, .aload_n 0, 1) rfl) rfl (j := 0) rfl ?_
          refine cv_get C (pc' := 40) rfl (k0 := 0) (i := 3) (ci := 6) (by decide) rfl rfl (by decide) (o := some 23) rfl iw_X6 wfX6_35 (D 18 (37, .getfield 35, 3) rfl) rfl ?_
          refine cv_get C (pc' := 43) rfl (k0 := 23) (i := 2) (ci := 2) (by decide) rfl rfl (by decide) (o := none) rfl iw_X2 wfX6_75 (D 19 (40, .getfield 75, 3) rfl) (v := .int (nI rc)) (congrArg Value.int hD.1) ?_
          refine cv_istore_n C (pc' := 44) rfl (D 20 (43, .istore_n 3, 1) rfl) rfl (by decide) (lv' := [(3, .int (nI rc)), (0, .ref 0), (1, .int (nI j)), (2, .int (nI w))]) rfl ?_
          refine cv_iload_n C (pc' := 45) rfl (D 21 (44, .iload_n 3, 1) rfl) rfl (j := 0) rfl ?_
          refine cv_bipush C (pc' := 47) rfl (D 22 (45, .bipush 8, 2) rfl) (v := nI 8) (by decide) ?_
          refine cv_icmp_ltN C (pc' := 50) rfl (by omega) (by omega) (tgt := 53) (D 23 (47, .if_icmp .lt 6, 3) rfl) (by decide) (fun b47 => ?_) (fun b47 => ?_)
          · skip
            refine cv_aload_n C (pc' := 54) rfl (D 26 (53, .aload_n 0, 1) rfl) rfl (j := 1) rfl ?_
            refine cv_get C (pc' := 57) rfl (k0 := 0) (i := 3) (ci := 6) (by decide) rfl rfl (by decide) (o := some 23) rfl iw_X6 wfX6_35 (D 27 (54, .getfield 35, 3) rfl) rfl ?_
            refine cv_get C (pc' := 60) rfl (k0 := 23) (i := 0) (ci := 2) (by decide) rfl rfl (by decide) (o := some 24) rfl iw_X2 wfX6_169 (D 28 (57, .getfield 169, 3) rfl) rfl ?_
            refine cv_iload_n C (pc' := 61) rfl (D 29 (60, .iload_n 3, 1) rfl) rfl (j := 0) rfl ?_
            refine cv_iload_n C (pc' := 62) rfl (D 30 (61, .iload_n 1, 1) rfl) rfl (j := 2) rfl ?_
            refine cv_iast C (pc' := 63) rfl (k0 := 24) (j := rc) (by decide) rfl rfl (by omega) (by decide) (D 31 (62, .iastore, 1) rfl) ?_
            refine cv_aload_n C (pc' := 64) rfl (D 32 (63, .aload_n 0, 1) rfl) rfl (j := 1) rfl ?_
            refine cv_get C (pc' := 67) rfl (k0 := 0) (i := 3) (ci := 6) (by decide) rfl rfl (by decide) (o := some 23) rfl iw_X6 wfX6_35 (D 33 (64, .getfield 35, 3) rfl) rfl ?_
            refine cv_get C (pc' := 70) rfl (k0 := 23) (i := 1) (ci := 2) (by decide) rfl rfl (by decide) (o := some 25) rfl iw_X2 wfX6_172 (D 34 (67, .getfield 172, 3) rfl) rfl ?_
            refine cv_iload_n C (pc' := 71) rfl (D 35 (70, .iload_n 3, 1) rfl) rfl (j := 0) rfl ?_
            refine cv_iload_n C (pc' := 72) rfl (D 36 (71, .iload_n 2, 1) rfl) rfl (j := 3) rfl ?_
            refine cv_iast C (pc' := 73) rfl (k0 := 25) (j := rc) (by decide) rfl rfl (by omega) (by decide) (D 37 (72, .iastore, 1) rfl) ?_
            refine cv_aload_n C (pc' := 74) rfl (D 38 (73, .aload_n 0, 1) rfl) rfl (j := 1) rfl ?_
            refine cv_get C (pc' := 77) rfl (k0 := 0) (i := 3) (ci := 6) (by decide) rfl rfl (by decide) (o := some 23) rfl iw_X6 wfX6_35 (D 39 (74, .getfield 35, 3) rfl) rfl ?_
            refine cv_iload_n C (pc' := 78) rfl (D 40 (77, .iload_n 3, 1) rfl) rfl (j := 0) rfl ?_
            refine cv_iconst C (pc' := 79) rfl (D 41 (78, .iconst 1, 1) rfl) (v := nI 1) (by decide) ?_
            refine cv_iaddN C (pc' := 80) rfl (D 42 (79, .iadd, 1) rfl) ?_
            refine cv_put C (pc' := 83) rfl (k0 := 23) (i := 2) (ci := 2) (by decide) rfl rfl (by decide) rfl iw_X2 tyX2 tyX2_ok nmX2 wfX6_75 rfl rfl rfl (D 43 (80, .putfield 75, 3) rfl) ?_
            refine cv_iload_n C (pc' := 84) rfl (D 44 (83, .iload_n 3, 1) rfl) rfl (j := 0) rfl ?_
            exact cv_iret C Rt rfl (D 45 (84, .ireturn, 1) rfl) ⟨congrArg (fun z => some (Value.int z)) (by unfold cv_a_reading; rw [if_pos ⟨b4, (Or.inr b17)⟩, if_pos (by simpa using b30), if_pos (by omega)]), by rw [if_pos ⟨b4, (Or.inr b17), by simpa using b30, b47⟩]; rw [cv_nt, nI_clamp (show j < 2 ^ 31 by omega)]; exact cv_RC_reading hB hR j _ _ (by unfold cv_on; rw [if_neg b10, cv_nt, nI_clamp (show w < 2 ^ 31 by omega)]; rfl) _ rfl⟩
          · skip
            refine cv_bipush C (pc' := 52) rfl (D 24 (50, .bipush (-4), 2) rfl) (v := -4) (by decide) ?_
            exact cv_iret C Rt rfl (D 25 (52, .ireturn, 1) rfl) ⟨congrArg (fun z => some (Value.int z)) (by unfold cv_a_reading; rw [if_pos ⟨b4, (Or.inr b17)⟩, if_pos (by simpa using b30), if_neg (by omega)]), by rw [if_neg (fun h => by have := h.2.2.2; omega)]; exact hR⟩
        · skip
          refine cv_bipush C (pc' := 35) rfl (D 15 (33, .bipush (-3), 2) rfl) (v := -3) (by decide) ?_
          exact cv_iret C Rt rfl (D 16 (35, .ireturn, 1) rfl) ⟨congrArg (fun z => some (Value.int z)) (by unfold cv_a_reading; rw [if_pos ⟨b4, (Or.inr b17)⟩, if_neg (by simpa using b30)]), by rw [if_neg (fun h => by have := h.2.2.1; simp at b30; omega)]; exact hR⟩
      · skip
        refine cv_bipush C (pc' := 22) rfl (D 9 (20, .bipush (-2), 2) rfl) (v := -2) (by decide) ?_
        exact cv_iret C Rt rfl (D 10 (22, .ireturn, 1) rfl) ⟨congrArg (fun z => some (Value.int z)) (by unfold cv_a_reading; rw [if_neg (by simp [b10, b17])]), by rw [if_neg (fun h => by rcases h.2.1 with h | h; exact b10 h; rw [b17] at h; cases h)]; exact hR⟩

set_option maxHeartbeats 4000000 in
set_option maxRecDepth 100000 in
theorem pX6_back (tr : Int32) (ft : Nat) (sl : Nat → Option (Nat × Nat)) (sc : Nat → Nat → Int32) (L : cv_L) (rc : Nat) (rd : Nat → Nat) (rn : Nat → Option Nat) (x : Int32) (σ : cv_St) (hR : cv_RC tr ft sl sc L rc rd rn σ) (hB : cv_LB L) (hDB : cv_DB rc rd rn) : cv_Ct yX6_back cX6_back 2 (some .int) 0 0 0 26 cv_shC [.ref 0, .int x] σ (fun v u => v = some (.int (cv_a_back rc x)) ∧ cv_RC tr ft sl sc L (if cv_in x (rc + 1) = true then rc - cv_nt x else rc) rd rn u) := by
  refine cv_enter (own := RX6) (by decide) rfl (Nat.le_of_ble_eq_true rfl) ?_
  intro X a C Rt hRm
  have D := @cv_dec _ _ dkX6_back
  obtain ⟨hTr, hFt, hSh, hL, hSe, hD⟩ := id hR
  have hn6 := hB.1
  have hrc := hDB.1
  show cv_At X _ _ σ 0 [(0, .ref 0), (1, .int x)] []
  refine cv_iload_n C (pc' := 1) rfl (D 0 (0, .iload_n 1, 1) rfl) rfl (j := 1) rfl ?_
  refine cv_if_lt C (pc' := 4) rfl (tgt := 15) (D 1 (1, .ifCond .lt 14, 3) rfl) (by decide) (fun b1 => ?_) (fun b1 => ?_)
  · skip
    have hn9 : ¬ cv_in x (rc + 1) = true := fun h => (of_decide_eq_true h).1 b1
    refine cv_bipush C (pc' := 17) rfl (D 7 (15, .bipush (-2), 2) rfl) (v := -2) (by decide) ?_
    exact cv_iret C Rt rfl (D 8 (17, .ireturn, 1) rfl) ⟨congrArg (fun z => some (Value.int z)) (by unfold cv_a_back; rw [if_neg hn9]), by rw [if_neg hn9]; exact hR⟩
  · skip
    refine cv_iload_n C (pc' := 5) rfl (D 2 (4, .iload_n 1, 1) rfl) rfl (j := 1) rfl ?_
    refine cv_aload_n C (pc' := 6) rfl (D 3 (5, .aload_n 0, 1) rfl) rfl (j := 0) rfl ?_
    refine cv_get C (pc' := 9) rfl (k0 := 0) (i := 3) (ci := 6) (by decide) rfl rfl (by decide) (o := some 23) rfl iw_X6 wfX6_35 (D 4 (6, .getfield 35, 3) rfl) rfl ?_
    refine cv_get C (pc' := 12) rfl (k0 := 23) (i := 2) (ci := 2) (by decide) rfl rfl (by decide) (o := none) rfl iw_X2 wfX6_75 (D 5 (9, .getfield 75, 3) rfl) (v := .int (nI rc)) (congrArg Value.int hD.1) ?_
    refine cv_icmp_le C (pc' := 15) rfl (tgt := 18) (D 6 (12, .if_icmp .le 6, 3) rfl) (by decide) (fun b12 => ?_) (fun b12 => ?_)
    · skip
      have hx9 : cv_in x (rc + 1) = true := decide_eq_true ⟨b1, by
        obtain ⟨j, hj, rfl⟩ := nI_of b1
        have := (nI_leI hj (by omega)).mp b12
        exact nI_lt (by omega) (by omega)⟩
      obtain ⟨j, hj, rfl⟩ := cv_in_of hx9 (by omega)
      refine cv_aload_n C (pc' := 19) rfl (D 9 (18, .aload_n 0, 1) rfl) rfl (j := 0) rfl ?_
      refine cv_get C (pc' := 22) rfl (k0 := 0) (i := 3) (ci := 6) (by decide) rfl rfl (by decide) (o := some 23) rfl iw_X6 wfX6_35 (D 10 (19, .getfield 35, 3) rfl) rfl ?_
      refine cv_dup C (pc' := 23) rfl (D 11 (22, .dup, 1) rfl) rfl ?_
      refine cv_get C (pc' := 26) rfl (k0 := 23) (i := 2) (ci := 2) (by decide) rfl rfl (by decide) (o := none) rfl iw_X2 wfX6_75 (D 12 (23, .getfield 75, 3) rfl) (v := .int (nI rc)) (congrArg Value.int hD.1) ?_
      refine cv_iload_n C (pc' := 27) rfl (D 13 (26, .iload_n 1, 1) rfl) rfl (j := 1) rfl ?_
      refine cv_isubN C (pc' := 28) rfl (by omega) (D 14 (27, .isub, 1) rfl) ?_
      refine cv_put C (pc' := 31) rfl (k0 := 23) (i := 2) (ci := 2) (by decide) rfl rfl (by decide) rfl iw_X2 tyX2 tyX2_ok nmX2 wfX6_75 rfl rfl rfl (D 15 (28, .putfield 75, 3) rfl) ?_
      refine cv_aload_n C (pc' := 32) rfl (D 16 (31, .aload_n 0, 1) rfl) rfl (j := 0) rfl ?_
      refine cv_get C (pc' := 35) rfl (k0 := 0) (i := 3) (ci := 6) (by decide) rfl rfl (by decide) (o := some 23) rfl iw_X6 wfX6_35 (D 17 (32, .getfield 35, 3) rfl) rfl ?_
      refine cv_get C (pc' := 38) rfl (k0 := 23) (i := 2) (ci := 2) (by decide) rfl rfl (by decide) (o := none) rfl iw_X2 wfX6_75 (D 18 (35, .getfield 75, 3) rfl) (v := .int (nI (rc - j))) (congrArg Value.int cv_u_s) ?_
      exact cv_iret C Rt rfl (D 19 (38, .ireturn, 1) rfl) ⟨congrArg (fun z => some (Value.int z)) (by unfold cv_a_back; rw [if_pos hx9, cv_nt, nI_clamp (by omega)]), by rw [if_pos hx9, cv_nt, nI_clamp (by omega)]; exact cv_RC_back hB hR _ (Nat.sub_le _ _)⟩
    · skip
      have hn9 : ¬ cv_in x (rc + 1) = true := fun h => by
        obtain ⟨j, hj, rfl⟩ := cv_in_of h (by omega)
        exact b12 (nI_le (by omega) (by omega))
      refine cv_bipush C (pc' := 17) rfl (D 7 (15, .bipush (-2), 2) rfl) (v := -2) (by decide) ?_
      exact cv_iret C Rt rfl (D 8 (17, .ireturn, 1) rfl) ⟨congrArg (fun z => some (Value.int z)) (by unfold cv_a_back; rw [if_neg hn9]), by rw [if_neg hn9]; exact hR⟩
end
section
/-! ===== one int of a cell is tried with other values, then put back ===== -/
def cv_iv (c i : Nat) (σ τ : cv_St) : Prop := (∀ k, k ≠ c → k ≠ 20 → k ≠ 21 → k ≠ 22 → τ k = σ k) ∧ ∀ q, q ≠ i → τ c q = σ c q
theorem cv_iv_0 (c i : Nat) (σ : cv_St) : cv_iv c i σ σ := ⟨fun _ _ _ _ _ => rfl, fun _ _ => rfl⟩
theorem cv_iv_u {c i : Nat} {σ τ : cv_St} (h : cv_iv c i σ τ) (w : Int32) : ∀ k, k ≠ 20 → k ≠ 21 → k ≠ 22 → cv_u τ c i w k = cv_u σ c i w k := by
  intro k h1 h2 h3
  by_cases e : k = c
  · subst e
    funext q
    by_cases e2 : q = i
    · subst e2; rw [cv_u_s, cv_u_s]
    · rw [cv_u_i e2, cv_u_i e2]; exact h.2 q e2
  · rw [cv_u_c e, cv_u_c e]; exact h.1 k e h1 h2 h3
theorem cv_iv_s {c i : Nat} {σ τ u : cv_St} {w : Int32} (hc : c ≠ 20 ∧ c ≠ 21 ∧ c ≠ 22) (h : cv_iv c i σ τ) (hu : ∀ k, k ≠ 20 → k ≠ 21 → k ≠ 22 → u k = cv_u τ c i w k) : cv_iv c i σ u := by
  refine ⟨fun k h0 h1 h2 h3 => by rw [hu k h1 h2 h3, cv_u_c h0]; exact h.1 k h0 h1 h2 h3, fun q hq => by rw [hu c hc.1 hc.2.1 hc.2.2, cv_u_i hq]; exact h.2 q hq⟩
theorem cv_iv_end {c i : Nat} {σ τ : cv_St} {w : Int32} (h : cv_iv c i σ τ) (hw : σ c i = w) : ∀ k, k ≠ 20 → k ≠ 21 → k ≠ 22 → cv_u τ c i w k = σ k := by
  intro k h1 h2 h3
  by_cases e : k = c
  · subst e
    funext q
    by_cases e2 : q = i
    · subst e2; rw [cv_u_s, hw]
    · rw [cv_u_i e2]; exact h.2 q e2
  · rw [cv_u_c e]; exact h.1 k e h1 h2 h3
theorem cv_iv_D {c i : Nat} {σ τ : cv_St} {rc : Nat} {rd : Nat → Nat} {rn : Nat → Option Nat} (hc : c < 20) (h : cv_iv c i σ τ) (hD : cv_DC rc rd rn σ) (w : Int32) : cv_DC rc rd rn (cv_u τ c i w) := by
  refine ⟨by rw [cv_u_c (by omega), h.1 23 (by omega) (by decide) (by decide) (by decide)]; exact hD.1, fun k hk => ?_⟩
  rw [cv_u_c (by omega), cv_u_c (by omega), h.1 24 (by omega) (by decide) (by decide) (by decide), h.1 25 (by omega) (by decide) (by decide) (by decide)]
  exact hD.2 k hk
theorem cv_uu (σ : cv_St) (k i : Nat) (v w : Int32) : cv_u (cv_u σ k i v) k i w = cv_u σ k i w := by
  funext a b
  rw [cv_u_at, cv_u_at, cv_u_at]
  split <;> rfl
theorem cv_lst_s (P : Nat → Bool) (n : Nat) : cv_lst P (n + 1) = (match cv_lst P n with
  | some z => some z
  | none => if P n = true then some n else none) := by
  unfold cv_lst
  rw [List.range_succ, List.find?_append]
  cases h : List.find? P (List.range n) with
  | some z => rfl
  | none =>
    cases hp : P n with
    | true => simp [hp]
    | false => simp [hp]
theorem cv_lst_lt {P : Nat → Bool} {n z : Nat} (h : cv_lst P n = some z) : z < n := by
  unfold cv_lst at h
  exact List.mem_range.mp (List.mem_of_find?_eq_some h)
/-- giving doesn't change where a wheel can come -/
theorem cv_RT_give (L : cv_L) (cl : Nat → Bool) (w s : Nat) : ∀ k j, cv_RT (cv_lu L 6 w s) cl k j = cv_RT L cl k j := by
  have hoe : ∀ p v, cv_oe (cv_lu L 6 w s) p v = cv_oe L p v := fun p v => by simp [cv_oe, cv_lu]
  have har : ∀ p v d, cv_ar (cv_lu L 6 w s) p v d = cv_ar L p v d := fun p v d => by
    have h1 : cv_tk (cv_lu L 6 w s) p = cv_tk L p := by simp [cv_tk, cv_lu]
    have h2 : cv_op (cv_lu L 6 w s) p d = cv_op L p d := by simp [cv_op, cv_lu]
    unfold cv_ar
    rw [hoe, h1, h2]
  have h7 : cv_lu L 6 w s 7 0 = L 7 0 := cv_lu_k (by decide)
  have hrl : ∀ (f : Nat → Nat) v d i0 k, cv_rl (cv_lu L 6 w s) cl f v d i0 k = cv_rl L cl f v d i0 k := by
    intro f v d i0 k
    induction k with
    | zero => rfl
    | succ k ih =>
      simp only [cv_rl]
      rw [ih]
      congr 1
  intro k
  induction k with
  | zero => intro j; rfl
  | succ k ih =>
    intro j
    have e : cv_RT (cv_lu L 6 w s) cl k = cv_RT L cl k := funext ih
    simp only [cv_RT]
    rw [e]
    unfold cv_rv
    rw [hrl, h7]
def cv_lv (f : Nat) (t : Int32) : Int32 := nI 31 * t + nI f
def cv_a_tell (L : cv_L) (x : Int32) : Int32 := if cv_in x (L 7 0) = true then (if L 0 (cv_nt x) = 1 then nI (L 4 (cv_nt x) + 100) else if L 0 (cv_nt x) = 2 then nI (L 4 (cv_nt x) + 100 + L 4 (cv_nt x)) else nI (L 4 (cv_nt x))) else -1
def cv_t_tell (L : cv_L) (tr x : Int32) : Int32 := if cv_in x (L 7 0) = true then (if L 0 (cv_nt x) = 1 then cv_lv 1 (cv_lv 2 tr) else if L 0 (cv_nt x) = 2 then cv_lv 1 (cv_lv 1 (cv_lv 2 (cv_lv 3 tr))) else cv_lv 1 tr) else tr
def cv_a_mark (L : cv_L) (x : Int32) : Int32 := if cv_in x (L 7 0) = true then (if L 0 (cv_nt x) = 2 then 80 else x) else -1
def cv_t_mark (L : cv_L) (tr x : Int32) : Int32 := if cv_in x (L 7 0) = true then (if L 0 (cv_nt x) = 2 then cv_lv 5 tr else cv_lv 4 tr) else tr
def cv_a_as (L : cv_L) (x y : Int32) : Int32 := if cv_in x (L 7 0) = true then (if cv_in y 3 = true then (if cv_nt y ≤ L 0 (cv_nt x) then 1 else -12) else -2) else -1
def cv_f_as (L : cv_L) (x y : Int32) : Nat := if cv_in x (L 7 0) = true ∧ cv_in y 3 = true ∧ L 0 (cv_nt x) < cv_nt y then 2 else 0
def cv_a_many (L : cv_L) (rc : Nat) (x : Int32) : Int32 := if x = 0 then nI (L 7 0) else if x = 1 then nI (cv_cnt (fun d => (L 6 0).testBit d && ((L 6 1).testBit d && (L 6 2).testBit d)) 8) else if x = 2 then nI rc else -2
/-- halves, while both are even -/
def cv_hv : Nat → Nat → Nat → Nat × Nat
  | 0, u, l => (u, l)
  | k + 1, u, l => if u % 2 = 0 then cv_hv k (u / 2) (l / 2) else (u, l)
def cv_odn (L : cv_L) (k d w : Nat) : Nat := cv_cnt (fun i => decide (i &&& (L 6 k ^^^ 4294967295) = 0) && cv_can L (-1) d w (if k = 1 then i else L 6 1) (if k = 2 then i else L 6 2)) 256
def cv_pc (t : Nat) : Nat := cv_cnt (fun d => t.testBit d) 8
def cv_a_odds (L : cv_L) (x y z w : Int32) : Int64 := if (x = 1 ∨ x = 2) ∧ cv_in y 8 = true ∧ cv_in z 8 = true ∧ cv_in w 2 = true ∧ 0 < L 7 0 then (if w = 0 then lN (cv_hv (cv_pc (L 6 (cv_nt x))) (cv_odn L (cv_nt x) (cv_nt y) (cv_nt z)) (2 ^ cv_pc (L 6 (cv_nt x)))).1 else lN (cv_hv (cv_pc (L 6 (cv_nt x))) (cv_odn L (cv_nt x) (cv_nt y) (cv_nt z)) (2 ^ cv_pc (L 6 (cv_nt x)))).2) else (-9223372036854775808)
end
section
set_option maxHeartbeats 4000000 in
set_option maxRecDepth 100000 in
theorem kX6_bitIfReadingsHold (L : cv_L) (rc : Nat) (rd : Nat → Nat) (rn : Nat → Option Nat) (i : Nat) (σ : cv_St) (hL : cv_LC L σ) (hB : cv_LB L) (hD : cv_DC rc rd rn σ) (hDB : cv_DB rc rd rn) (hi : i < 32) : cv_Ct yX6_bitIfReadingsHold cX6_bitIfReadingsHold 2 (some .int) 5 0 0 26 cv_shC [.ref 0, .int (nI i)] σ (fun v u => v = some (.int (nI (if cv_hold L rc rd rn = true then 2 ^ i else 0))) ∧ ∀ k, k ≠ 20 → k ≠ 21 → k ≠ 22 → u k = σ k) := by
  refine cv_enter (own := RX6) (by decide) rfl (Nat.le_of_ble_eq_true rfl) ?_
  intro X a C Rt hRm
  have D := @cv_dec _ _ dkX6_bitIfReadingsHold
  show cv_At X _ _ σ 0 [(0, .ref 0), (1, .int (nI i))] []
  refine cv_aload_n C (pc' := 1) rfl (D 0 (0, .aload_n 0, 1) rfl) rfl (j := 0) rfl ?_
  refine cv_get C (pc' := 4) rfl (k0 := 0) (i := 1) (ci := 6) (by decide) rfl rfl (by decide) (o := some 10) rfl iw_X6 wfX6_21 (D 1 (1, .getfield 21, 3) rfl) rfl ?_
  refine cv_iconst C (pc' := 5) rfl (D 2 (4, .iconst (-1), 1) rfl) (v := -1) (by decide) ?_
  refine cv_callV C (pc' := 8) rfl (k0 := 10) (ci := 0) (As := [.int (-1)]) (rest := []) (idx := 131) (np := 1) (kX0_chart L (-1) σ hL hB) (by decide) rfl rfl rfl (by decide +kernel) rfl wmX6_131 wi_yX0_chart ws_yX0_chart wn_X0 wc_yX0_chart (by decide) (by decide) (D 3 (5, .invokevirtual 131, 3) rfl) (Nat.le_of_ble_eq_true rfl) rfl (fun w5 u5 h5 => ?_)
  obtain ⟨e5, hCOu5⟩ := h5
  rw [e5]
  have hKu5 : ∀ k, k ≠ 20 → k ≠ 21 → k ≠ 22 → u5 k = σ k := fun k h _ _ => hCOu5.1 k h
  have hLu5 := cv_LC_k hKu5 hL hB
  have hTu5 := cv_TC_of hCOu5
  have hDu5 := cv_DC_k hKu5 hD
  show cv_At X _ _ u5 8 _ []
  refine cv_aload_n C (pc' := 9) rfl (D 4 (8, .aload_n 0, 1) rfl) rfl (j := 0) rfl ?_
  refine cv_get C (pc' := 12) rfl (k0 := 0) (i := 3) (ci := 6) (by decide) rfl rfl (by decide) (o := some 23) rfl iw_X6 wfX6_35 (D 5 (9, .getfield 35, 3) rfl) rfl ?_
  refine cv_aload_n C (pc' := 13) rfl (D 6 (12, .aload_n 0, 1) rfl) rfl (j := 0) rfl ?_
  refine cv_get C (pc' := 16) rfl (k0 := 0) (i := 1) (ci := 6) (by decide) rfl rfl (by decide) (o := some 10) rfl iw_X6 wfX6_21 (D 7 (13, .getfield 21, 3) rfl) rfl ?_
  refine cv_callV C (pc' := 19) rfl (k0 := 23) (ci := 2) (As := [.ref 10]) (rest := []) (idx := 178) (np := 1) (kX2_holdIn L (cv_RT L (fun q => decide (nI q = -1)) 8) rc rd rn u5 hLu5 hB hTu5 hDu5 hDB) (by decide) rfl rfl rfl (by decide +kernel) rfl wmX6_178 wi_yX2_holdIn ws_yX2_holdIn wn_X2 wc_yX2_holdIn (by decide) (by decide) (D 8 (16, .invokevirtual 178, 3) rfl) (Nat.le_of_ble_eq_true rfl) rfl (fun w9 u9 h9 => ?_)
  rw [h9.1, h9.2]
  show cv_At X _ _ u5 19 _ [.int (cv_b (cv_hold L rc rd rn))]
  refine cv_if_eqB C (pc' := 22) rfl (tgt := 28) (D 9 (19, .ifCond .eq 9, 3) rfl) (by decide) (fun b19 => ?_) (fun b19 => ?_)
  · skip
    refine cv_iconst C (pc' := 29) rfl (D 14 (28, .iconst 0, 1) rfl) (v := nI 0) (by decide) ?_
    exact cv_iret C Rt rfl (D 15 (29, .ireturn, 1) rfl) ⟨congrArg (fun z => some (Value.int z)) (by rw [if_neg (by simp [b19])]), hKu5⟩
  · skip
    refine cv_iconst C (pc' := 23) rfl (D 10 (22, .iconst 1, 1) rfl) (v := nI 1) (by decide) ?_
    refine cv_iload_n C (pc' := 24) rfl (D 11 (23, .iload_n 1, 1) rfl) rfl (j := 1) rfl ?_
    refine cv_ishl1 C (pc' := 25) rfl (by omega) (D 12 (24, .ishl, 1) rfl) ?_
    refine cv_goto C (tgt := 29) (D 13 (25, .goto 4, 3) rfl) (by decide) ?_
    exact cv_iret C Rt rfl (D 15 (29, .ireturn, 1) rfl) ⟨congrArg (fun z => some (Value.int z)) (by rw [if_pos b19]), hKu5⟩

set_option maxHeartbeats 4000000 in
set_option maxRecDepth 100000 in
theorem pX6_snows (tr : Int32) (ft : Nat) (sl : Nat → Option (Nat × Nat)) (sc : Nat → Nat → Int32) (L : cv_L) (rc : Nat) (rd : Nat → Nat) (rn : Nat → Option Nat) (x : Int32) (σ : cv_St) (hR : cv_RC tr ft sl sc L rc rd rn σ) (hB : cv_LB L) (hDB : cv_DB rc rd rn) : cv_Ct yX6_snows cX6_snows 5 (some .int) 6 0 0 26 cv_shC [.ref 0, .int x] σ (fun v u => v = some (.int (cv_a_snows L rc rd rn x)) ∧ cv_RC tr ft sl sc L rc rd rn u) := by
  refine cv_enter (own := RX6) (by decide) rfl (Nat.le_of_ble_eq_true rfl) ?_
  intro X a C Rt hRm
  have D := @cv_dec _ _ dkX6_snows
  obtain ⟨hTr, hFt, hSh, hL, hSe, hD⟩ := id hR
  have hn6 := hB.1
  have hrc := hDB.1
  show cv_At X _ _ σ 0 [(0, .ref 0), (1, .int x)] []
  refine cv_iload_n C (pc' := 1) rfl (D 0 (0, .iload_n 1, 1) rfl) rfl (j := 1) rfl ?_
  refine cv_callS C (pc' := 4) rfl (As := [.int x]) (rest := []) (idx := 108) (np := 1) (kX6_isDay x σ) (by decide +kernel) rfl wmX6_108 wt_yX6_isDay wn_X6 wc_yX6_isDay (by decide) (by decide) (D 1 (1, .invokestatic 108, 3) rfl) (Nat.le_of_ble_eq_true rfl) rfl (fun w9 u9 h9 => ?_)
  rw [h9.1, h9.2]
  show cv_At X _ _ σ 4 _ [.int (cv_b (cv_in x 8))]
  refine cv_if_neB C (pc' := 7) rfl (tgt := 10) (D 2 (4, .ifCond .ne 6, 3) rfl) (by decide) (fun b4 => ?_) (fun b4 => ?_)
  · skip
    obtain ⟨j, hj, rfl⟩ := cv_in_of b4 (by omega)
    refine cv_aload_n C (pc' := 11) rfl (D 5 (10, .aload_n 0, 1) rfl) rfl (j := 0) rfl ?_
    refine cv_get C (pc' := 14) rfl (k0 := 0) (i := 1) (ci := 6) (by decide) rfl rfl (by decide) (o := some 10) rfl iw_X6 wfX6_21 (D 6 (11, .getfield 21, 3) rfl) rfl ?_
    refine cv_get C (pc' := 17) rfl (k0 := 10) (i := 5) (ci := 0) (by decide) rfl rfl (by decide) (o := none) rfl iw_X0 wfX6_115 (D 7 (14, .getfield 115, 3) rfl) (v := .int (cv_b (decide (0 < L 7 0)))) (congrArg Value.int hSe) ?_
    refine cv_if_neB C (pc' := 20) rfl (tgt := 23) (D 8 (17, .ifCond .ne 6, 3) rfl) (by decide) (fun b17 => ?_) (fun b17 => ?_)
    · skip
      refine cv_aload_n C (pc' := 24) rfl (D 11 (23, .aload_n 0, 1) rfl) rfl (j := 0) rfl ?_
      refine cv_get C (pc' := 27) rfl (k0 := 0) (i := 1) (ci := 6) (by decide) rfl rfl (by decide) (o := some 10) rfl iw_X6 wfX6_21 (D 12 (24, .getfield 21, 3) rfl) rfl ?_
      refine cv_get C (pc' := 30) rfl (k0 := 10) (i := 1) (ci := 0) (by decide) rfl rfl (by decide) (o := some 18) rfl iw_X0 wfX6_119 (D 13 (27, .getfield 119, 3) rfl) rfl ?_
      refine cv_iload_n C (pc' := 31) rfl (D 14 (30, .iload_n 1, 1) rfl) rfl (j := 1) rfl ?_
      refine cv_iald C (pc' := 32) rfl (k0 := 18) (j := j) (by decide) rfl rfl (by omega) (by decide) (D 15 (31, .iaload, 1) rfl) (v := nI (L 5 j)) (hL.2.1 _ (by omega)) ?_
      refine cv_istore_n C (pc' := 33) rfl (D 16 (32, .istore_n 2, 1) rfl) rfl (by decide) (lv' := [(2, .int (nI (L 5 j))), (0, .ref 0), (1, .int (nI j))]) rfl ?_
      refine cv_iconst C (pc' := 34) rfl (D 17 (33, .iconst 0, 1) rfl) (v := nI 0) (by decide) ?_
      refine cv_istore_n C (pc' := 35) rfl (D 18 (34, .istore_n 3, 1) rfl) rfl (by decide) (lv' := [(3, .int (nI 0)), (2, .int (nI (L 5 j))), (0, .ref 0), (1, .int (nI j))]) rfl ?_
      refine cv_iconst C (pc' := 36) rfl (D 19 (35, .iconst 0, 1) rfl) (v := nI 0) (by decide) ?_
      refine cv_istore C (pc' := 38) rfl (D 20 (36, .istore 4, 2) rfl) (by decide) (lv' := [(4, .int (nI 0)), (3, .int (nI 0)), (2, .int (nI (L 5 j))), (0, .ref 0), (1, .int (nI j))]) rfl ?_
      refine cv_pick [0, 1, 3, 4, 2] (lv' := [(4, .int (nI 0)), (3, .int (nI (cv_sb (fun v => cv_hold (cv_lu L 5 j v) rc rd rn) 0))), (0, .ref 0), (1, .int (nI j)), (2, .int (nI (L 5 j)))]) rfl ?_
      have LP38 : ∀ (r : Nat) (v : Nat) (τ : cv_St), (v + r = 10) → (cv_iv 18 j σ τ) → cv_At X (26, cv_shC, 0, 0, a) 5 τ 38 [(4, .int (nI v)), (3, .int (nI (cv_sb (fun v => cv_hold (cv_lu L 5 j v) rc rd rn) v))), (0, .ref 0), (1, .int (nI j)), (2, .int (nI (L 5 j)))] [] := by
        intro r
        induction r with
        | zero =>
          intro v τ hr hIτ
          obtain rfl : v = 10 := by omega
          refine cv_iload C (pc' := 40) rfl (D 21 (38, .iload 4, 2) rfl) (j := 0) rfl ?_
          refine cv_bipush C (pc' := 42) rfl (D 22 (40, .bipush 10, 2) rfl) (v := nI 10) (by decide) ?_
          refine cv_icmp_ge C (pc' := 45) rfl (tgt := 71) (D 23 (42, .if_icmp .ge 29, 3) rfl) (by decide) (fun _ => ?_) (fun h => absurd h (by decide))
          refine cv_aload_n C (pc' := 72) rfl (D 38 (71, .aload_n 0, 1) rfl) rfl (j := 2) rfl ?_
          refine cv_get C (pc' := 75) rfl (k0 := 0) (i := 1) (ci := 6) (by decide) rfl rfl (by decide) (o := some 10) rfl iw_X6 wfX6_21 (D 39 (72, .getfield 21, 3) rfl) rfl ?_
          refine cv_get C (pc' := 78) rfl (k0 := 10) (i := 1) (ci := 0) (by decide) rfl rfl (by decide) (o := some 18) rfl iw_X0 wfX6_119 (D 40 (75, .getfield 119, 3) rfl) rfl ?_
          refine cv_iload_n C (pc' := 79) rfl (D 41 (78, .iload_n 1, 1) rfl) rfl (j := 3) rfl ?_
          refine cv_iload_n C (pc' := 80) rfl (D 42 (79, .iload_n 2, 1) rfl) rfl (j := 4) rfl ?_
          refine cv_iast C (pc' := 81) rfl (k0 := 18) (j := j) (by decide) rfl rfl (by omega) (by decide) (D 43 (80, .iastore, 1) rfl) ?_
          refine cv_iload_n C (pc' := 82) rfl (D 44 (81, .iload_n 3, 1) rfl) rfl (j := 1) rfl ?_
          exact cv_iret C Rt rfl (D 45 (82, .ireturn, 1) rfl) ⟨congrArg (fun z => some (Value.int z)) (by unfold cv_a_snows cv_day; rw [if_pos b4, if_pos (by simpa using b17), cv_nt, nI_clamp (by omega)]), cv_RC_k (cv_iv_end hIτ (hL.2.1 j (by omega))) hB hR⟩
        | succ r ih38 =>
          intro v τ hr hIτ
          refine cv_iload C (pc' := 40) rfl (D 21 (38, .iload 4, 2) rfl) (j := 0) rfl ?_
          refine cv_bipush C (pc' := 42) rfl (D 22 (40, .bipush 10, 2) rfl) (v := nI 10) (by decide) ?_
          refine cv_icmp_geN C (pc' := 45) rfl (by omega) (by omega) (tgt := 71) (D 23 (42, .if_icmp .ge 29, 3) rfl) (by decide) (fun b42 => ?_) (fun b42 => ?_)
          · skip
            omega
          · skip
            refine cv_aload_n C (pc' := 46) rfl (D 24 (45, .aload_n 0, 1) rfl) rfl (j := 2) rfl ?_
            refine cv_get C (pc' := 49) rfl (k0 := 0) (i := 1) (ci := 6) (by decide) rfl rfl (by decide) (o := some 10) rfl iw_X6 wfX6_21 (D 25 (46, .getfield 21, 3) rfl) rfl ?_
            refine cv_get C (pc' := 52) rfl (k0 := 10) (i := 1) (ci := 0) (by decide) rfl rfl (by decide) (o := some 18) rfl iw_X0 wfX6_119 (D 26 (49, .getfield 119, 3) rfl) rfl ?_
            refine cv_iload_n C (pc' := 53) rfl (D 27 (52, .iload_n 1, 1) rfl) rfl (j := 3) rfl ?_
            refine cv_iload C (pc' := 55) rfl (D 28 (53, .iload 4, 2) rfl) (j := 0) rfl ?_
            refine cv_iast C (pc' := 56) rfl (k0 := 18) (j := j) (by decide) rfl rfl (by omega) (by decide) (D 29 (55, .iastore, 1) rfl) ?_
            refine cv_iload_n C (pc' := 57) rfl (D 30 (56, .iload_n 3, 1) rfl) rfl (j := 1) rfl ?_
            refine cv_aload_n C (pc' := 58) rfl (D 31 (57, .aload_n 0, 1) rfl) rfl (j := 2) rfl ?_
            refine cv_iload C (pc' := 60) rfl (D 32 (58, .iload 4, 2) rfl) (j := 0) rfl ?_
            refine cv_callV C (pc' := 63) rfl (k0 := 0) (ci := 6) (As := [.int (nI v)]) (rest := [.int (nI (cv_sb (fun v => cv_hold (cv_lu L 5 j v) rc rd rn) v))]) (idx := 175) (np := 1) (kX6_bitIfReadingsHold (cv_lu L 5 j v) rc rd rn v (cv_u τ 18 j (nI v)) (cv_LC_k (cv_iv_u hIτ (nI v)) (cv_LC_snow hL hB j v) (cv_LB_snow hB (by omega))) (cv_LB_snow hB (by omega)) (cv_iv_D (by omega) hIτ hD (nI v)) hDB (by omega)) (by decide) rfl rfl rfl (by decide +kernel) rfl wmX6_175 wi_yX6_bitIfReadingsHold ws_yX6_bitIfReadingsHold wn_X6 wc_yX6_bitIfReadingsHold (by decide) (by decide) (D 33 (60, .invokevirtual 175, 3) rfl) (Nat.le_of_ble_eq_true rfl) rfl (fun w60 u60 h60 => ?_)
            obtain ⟨e60, hKu60⟩ := h60
            rw [e60]
            have hIu60 : cv_iv 18 j σ u60 := cv_iv_s (by omega) hIτ hKu60
            show cv_At X _ _ u60 63 _ [.int (nI (if cv_hold (cv_lu L 5 j v) rc rd rn = true then 2 ^ v else 0)), .int (nI (cv_sb (fun v => cv_hold (cv_lu L 5 j v) rc rd rn) v))]
            refine cv_iorN C (pc' := 64) rfl (D 34 (63, .ior, 1) rfl) ?_
            refine cv_istore_n C (pc' := 65) rfl (D 35 (64, .istore_n 3, 1) rfl) rfl (by decide) (lv' := [(3, .int (nI ((cv_sb (fun v => cv_hold (cv_lu L 5 j v) rc rd rn) v) ||| (if cv_hold (cv_lu L 5 j v) rc rd rn = true then 2 ^ v else 0)))), (4, .int (nI v)), (0, .ref 0), (1, .int (nI j)), (2, .int (nI (L 5 j)))]) rfl ?_
            refine cv_iincN C (pc' := 68) rfl (D 36 (65, .iinc 4 1, 3) rfl) (j := 1) rfl (by decide) (lv' := [(4, .int (nI (v + 1))), (3, .int (nI ((cv_sb (fun v => cv_hold (cv_lu L 5 j v) rc rd rn) v) ||| (if cv_hold (cv_lu L 5 j v) rc rd rn = true then 2 ^ v else 0)))), (0, .ref 0), (1, .int (nI j)), (2, .int (nI (L 5 j)))]) rfl ?_
            refine cv_goto C (tgt := 38) (D 37 (68, .goto (-30), 3) rfl) (by decide) ?_
            have hw9 : (cv_sb (fun v => cv_hold (cv_lu L 5 j v) rc rd rn) v) ||| (if cv_hold (cv_lu L 5 j v) rc rd rn = true then 2 ^ v else 0) = cv_sb (fun v => cv_hold (cv_lu L 5 j v) rc rd rn) (v + 1) := by simp only [cv_sb]; split <;> simp
            rw [hw9]
            exact ih38 (v + 1) u60 (by omega) hIu60
      exact LP38 10 0 σ (by decide) (cv_iv_0 _ _ σ)
    · skip
      refine cv_bipush C (pc' := 22) rfl (D 9 (20, .bipush (-3), 2) rfl) (v := -3) (by decide) ?_
      exact cv_iret C Rt rfl (D 10 (22, .ireturn, 1) rfl) ⟨congrArg (fun z => some (Value.int z)) (by unfold cv_a_snows cv_day; rw [if_pos b4, if_neg (by simpa using b17)]), hR⟩
  · skip
    refine cv_bipush C (pc' := 9) rfl (D 3 (7, .bipush (-2), 2) rfl) (v := -2) (by decide) ?_
    exact cv_iret C Rt rfl (D 4 (9, .ireturn, 1) rfl) ⟨congrArg (fun z => some (Value.int z)) (by unfold cv_a_snows cv_day; rw [if_neg (by simp [b4])]), hR⟩

set_option maxHeartbeats 4000000 in
set_option maxRecDepth 100000 in
theorem pX6_heights (tr : Int32) (ft : Nat) (sl : Nat → Option (Nat × Nat)) (sc : Nat → Nat → Int32) (L : cv_L) (rc : Nat) (rd : Nat → Nat) (rn : Nat → Option Nat) (x : Int32) (σ : cv_St) (hR : cv_RC tr ft sl sc L rc rd rn σ) (hB : cv_LB L) (hDB : cv_DB rc rd rn) : cv_Ct yX6_heights cX6_heights 6 (some .int) 6 0 0 26 cv_shC [.ref 0, .int x] σ (fun v u => v = some (.int (cv_a_heights L rc rd rn x)) ∧ cv_RC tr ft sl sc L rc rd rn u) := by
  refine cv_enter (own := RX6) (by decide) rfl (Nat.le_of_ble_eq_true rfl) ?_
  intro X a C Rt hRm
  have D := @cv_dec _ _ dkX6_heights
  obtain ⟨hTr, hFt, hSh, hL, hSe, hD⟩ := id hR
  have hn6 := hB.1
  have hrc := hDB.1
  show cv_At X _ _ σ 0 [(0, .ref 0), (1, .int x)] []
  refine cv_aload_n C (pc' := 1) rfl (D 0 (0, .aload_n 0, 1) rfl) rfl (j := 0) rfl ?_
  refine cv_iload_n C (pc' := 2) rfl (D 1 (1, .iload_n 1, 1) rfl) rfl (j := 1) rfl ?_
  refine cv_callV C (pc' := 5) rfl (k0 := 0) (ci := 6) (As := [.int x]) (rest := []) (idx := 81) (np := 1) (kX6_isPass x L σ hL) (by decide) rfl rfl rfl (by decide +kernel) rfl wmX6_81 wi_yX6_isPass ws_yX6_isPass wn_X6 wc_yX6_isPass (by decide) (by decide) (D 2 (2, .invokevirtual 81, 3) rfl) (Nat.le_of_ble_eq_true rfl) rfl (fun w9 u9 h9 => ?_)
  rw [h9.1, h9.2]
  show cv_At X _ _ σ 5 _ [.int (cv_b (cv_in x (L 7 0)))]
  refine cv_if_neB C (pc' := 8) rfl (tgt := 10) (D 3 (5, .ifCond .ne 5, 3) rfl) (by decide) (fun b5 => ?_) (fun b5 => ?_)
  · skip
    obtain ⟨p, hp, rfl⟩ := cv_in_of b5 (by omega)
    have hp6 : p < 6 := by omega
    have hp := hp
    refine cv_aload_n C (pc' := 11) rfl (D 6 (10, .aload_n 0, 1) rfl) rfl (j := 0) rfl ?_
    refine cv_get C (pc' := 14) rfl (k0 := 0) (i := 1) (ci := 6) (by decide) rfl rfl (by decide) (o := some 10) rfl iw_X6 wfX6_21 (D 7 (11, .getfield 21, 3) rfl) rfl ?_
    refine cv_get C (pc' := 17) rfl (k0 := 10) (i := 0) (ci := 0) (by decide) rfl rfl (by decide) (o := some 11) rfl iw_X0 wfX6_84 (D 8 (14, .getfield 84, 3) rfl) rfl ?_
    refine cv_iload_n C (pc' := 18) rfl (D 9 (17, .iload_n 1, 1) rfl) rfl (j := 1) rfl ?_
    refine cv_aald C (pc' := 19) rfl (k0 := 11) (j := p) (r := 12 + p) (by decide) rfl rfl rfl (cv_ix_p hp6) (by decide) (D 10 (18, .aaload, 1) rfl) ?_
    refine cv_astore_n C (pc' := 20) rfl (D 11 (19, .astore_n 2, 1) rfl) rfl (by decide) (lv' := [(2, .ref (12 + p)), (0, .ref 0), (1, .int (nI p))]) rfl ?_
    refine cv_aload_n C (pc' := 21) rfl (D 12 (20, .aload_n 2, 1) rfl) rfl (j := 0) rfl ?_
    refine cv_get C (pc' := 24) rfl (k0 := 12 + p) (i := 4) (ci := 1) (cv_lt_p hp6) (cv_shC_p hp6) rfl (by decide) (o := none) rfl iw_X1 wfX6_102 (D 13 (21, .getfield 102, 3) rfl) (v := .int (nI (L 4 p))) (congrArg Value.int (hL.2.2.2 p hp 4 (by decide))) ?_
    refine cv_istore_n C (pc' := 25) rfl (D 14 (24, .istore_n 3, 1) rfl) rfl (by decide) (lv' := [(3, .int (nI (L 4 p))), (2, .ref (12 + p)), (0, .ref 0), (1, .int (nI p))]) rfl ?_
    refine cv_iconst C (pc' := 26) rfl (D 15 (25, .iconst 0, 1) rfl) (v := nI 0) (by decide) ?_
    refine cv_istore C (pc' := 28) rfl (D 16 (26, .istore 4, 2) rfl) (by decide) (lv' := [(4, .int (nI 0)), (3, .int (nI (L 4 p))), (2, .ref (12 + p)), (0, .ref 0), (1, .int (nI p))]) rfl ?_
    refine cv_iconst C (pc' := 29) rfl (D 17 (28, .iconst 0, 1) rfl) (v := nI 0) (by decide) ?_
    refine cv_istore C (pc' := 31) rfl (D 18 (29, .istore 5, 2) rfl) (by decide) (lv' := [(5, .int (nI 0)), (4, .int (nI 0)), (3, .int (nI (L 4 p))), (2, .ref (12 + p)), (0, .ref 0), (1, .int (nI p))]) rfl ?_
    refine cv_pick [0, 1, 4, 5, 3, 2] (lv' := [(5, .int (nI 0)), (4, .int (nI (cv_sb (fun v => cv_hold (cv_lu L 4 p v) rc rd rn) 0))), (0, .ref 0), (1, .int (nI p)), (2, .ref (12 + p)), (3, .int (nI (L 4 p)))]) rfl ?_
    have LP31 : ∀ (r : Nat) (v : Nat) (τ : cv_St), (v + r = 10) → (cv_iv (12 + p) 4 σ τ) → cv_At X (26, cv_shC, 0, 0, a) 6 τ 31 [(5, .int (nI v)), (4, .int (nI (cv_sb (fun v => cv_hold (cv_lu L 4 p v) rc rd rn) v))), (0, .ref 0), (1, .int (nI p)), (2, .ref (12 + p)), (3, .int (nI (L 4 p)))] [] := by
      intro r
      induction r with
      | zero =>
        intro v τ hr hIτ
        obtain rfl : v = 10 := by omega
        refine cv_iload C (pc' := 33) rfl (D 19 (31, .iload 5, 2) rfl) (j := 0) rfl ?_
        refine cv_bipush C (pc' := 35) rfl (D 20 (33, .bipush 10, 2) rfl) (v := nI 10) (by decide) ?_
        refine cv_icmp_ge C (pc' := 38) rfl (tgt := 61) (D 21 (35, .if_icmp .ge 26, 3) rfl) (by decide) (fun _ => ?_) (fun h => absurd h (by decide))
        refine cv_aload_n C (pc' := 62) rfl (D 33 (61, .aload_n 2, 1) rfl) rfl (j := 4) rfl ?_
        refine cv_iload_n C (pc' := 63) rfl (D 34 (62, .iload_n 3, 1) rfl) rfl (j := 5) rfl ?_
        refine cv_put C (pc' := 66) rfl (k0 := 12 + p) (i := 4) (ci := 1) (cv_lt_p hp6) (cv_shC_p hp6) rfl (by decide) rfl iw_X1 tyX1 tyX1_ok nmX1 wfX6_102 rfl rfl rfl (D 35 (63, .putfield 102, 3) rfl) ?_
        refine cv_iload C (pc' := 68) rfl (D 36 (66, .iload 4, 2) rfl) (j := 1) rfl ?_
        exact cv_iret C Rt rfl (D 37 (68, .ireturn, 1) rfl) ⟨congrArg (fun z => some (Value.int z)) (by unfold cv_a_heights; rw [if_pos b5, cv_nt, nI_clamp (by omega)]), cv_RC_k (cv_iv_end hIτ (hL.2.2.2 p hp 4 (by decide))) hB hR⟩
      | succ r ih31 =>
        intro v τ hr hIτ
        refine cv_iload C (pc' := 33) rfl (D 19 (31, .iload 5, 2) rfl) (j := 0) rfl ?_
        refine cv_bipush C (pc' := 35) rfl (D 20 (33, .bipush 10, 2) rfl) (v := nI 10) (by decide) ?_
        refine cv_icmp_geN C (pc' := 38) rfl (by omega) (by omega) (tgt := 61) (D 21 (35, .if_icmp .ge 26, 3) rfl) (by decide) (fun b35 => ?_) (fun b35 => ?_)
        · skip
          omega
        · skip
          refine cv_aload_n C (pc' := 39) rfl (D 22 (38, .aload_n 2, 1) rfl) rfl (j := 4) rfl ?_
          refine cv_iload C (pc' := 41) rfl (D 23 (39, .iload 5, 2) rfl) (j := 0) rfl ?_
          refine cv_put C (pc' := 44) rfl (k0 := 12 + p) (i := 4) (ci := 1) (cv_lt_p hp6) (cv_shC_p hp6) rfl (by decide) rfl iw_X1 tyX1 tyX1_ok nmX1 wfX6_102 rfl rfl rfl (D 24 (41, .putfield 102, 3) rfl) ?_
          refine cv_iload C (pc' := 46) rfl (D 25 (44, .iload 4, 2) rfl) (j := 1) rfl ?_
          refine cv_aload_n C (pc' := 47) rfl (D 26 (46, .aload_n 0, 1) rfl) rfl (j := 2) rfl ?_
          refine cv_iload C (pc' := 49) rfl (D 27 (47, .iload 5, 2) rfl) (j := 0) rfl ?_
          refine cv_callV C (pc' := 52) rfl (k0 := 0) (ci := 6) (As := [.int (nI v)]) (rest := [.int (nI (cv_sb (fun v => cv_hold (cv_lu L 4 p v) rc rd rn) v))]) (idx := 175) (np := 1) (kX6_bitIfReadingsHold (cv_lu L 4 p v) rc rd rn v (cv_u τ (12 + p) 4 (nI v)) (cv_LC_k (cv_iv_u hIτ (nI v)) (cv_LC_pass hL hB p 4 v (by decide) hp) (cv_LB_high hB (by omega))) (cv_LB_high hB (by omega)) (cv_iv_D (by omega) hIτ hD (nI v)) hDB (by omega)) (by decide) rfl rfl rfl (by decide +kernel) rfl wmX6_175 wi_yX6_bitIfReadingsHold ws_yX6_bitIfReadingsHold wn_X6 wc_yX6_bitIfReadingsHold (by decide) (by decide) (D 28 (49, .invokevirtual 175, 3) rfl) (Nat.le_of_ble_eq_true rfl) rfl (fun w49 u49 h49 => ?_)
          obtain ⟨e49, hKu49⟩ := h49
          rw [e49]
          have hIu49 : cv_iv (12 + p) 4 σ u49 := cv_iv_s (by omega) hIτ hKu49
          show cv_At X _ _ u49 52 _ [.int (nI (if cv_hold (cv_lu L 4 p v) rc rd rn = true then 2 ^ v else 0)), .int (nI (cv_sb (fun v => cv_hold (cv_lu L 4 p v) rc rd rn) v))]
          refine cv_iorN C (pc' := 53) rfl (D 29 (52, .ior, 1) rfl) ?_
          refine cv_istore C (pc' := 55) rfl (D 30 (53, .istore 4, 2) rfl) (by decide) (lv' := [(4, .int (nI ((cv_sb (fun v => cv_hold (cv_lu L 4 p v) rc rd rn) v) ||| (if cv_hold (cv_lu L 4 p v) rc rd rn = true then 2 ^ v else 0)))), (5, .int (nI v)), (0, .ref 0), (1, .int (nI p)), (2, .ref (12 + p)), (3, .int (nI (L 4 p)))]) rfl ?_
          refine cv_iincN C (pc' := 58) rfl (D 31 (55, .iinc 5 1, 3) rfl) (j := 1) rfl (by decide) (lv' := [(5, .int (nI (v + 1))), (4, .int (nI ((cv_sb (fun v => cv_hold (cv_lu L 4 p v) rc rd rn) v) ||| (if cv_hold (cv_lu L 4 p v) rc rd rn = true then 2 ^ v else 0)))), (0, .ref 0), (1, .int (nI p)), (2, .ref (12 + p)), (3, .int (nI (L 4 p)))]) rfl ?_
          refine cv_goto C (tgt := 31) (D 32 (58, .goto (-27), 3) rfl) (by decide) ?_
          have hw9 : (cv_sb (fun v => cv_hold (cv_lu L 4 p v) rc rd rn) v) ||| (if cv_hold (cv_lu L 4 p v) rc rd rn = true then 2 ^ v else 0) = cv_sb (fun v => cv_hold (cv_lu L 4 p v) rc rd rn) (v + 1) := by simp only [cv_sb]; split <;> simp
          rw [hw9]
          exact ih31 (v + 1) u49 (by omega) hIu49
    exact LP31 10 0 σ (by decide) (cv_iv_0 _ _ σ)
  · skip
    refine cv_iconst C (pc' := 9) rfl (D 4 (8, .iconst (-1), 1) rfl) (v := -1) (by decide) ?_
    exact cv_iret C Rt rfl (D 5 (9, .ireturn, 1) rfl) ⟨congrArg (fun z => some (Value.int z)) (by unfold cv_a_heights; rw [if_neg (by simp [b5])]), hR⟩

set_option maxHeartbeats 4000000 in
set_option maxRecDepth 100000 in
theorem pX6_kinds (tr : Int32) (ft : Nat) (sl : Nat → Option (Nat × Nat)) (sc : Nat → Nat → Int32) (L : cv_L) (rc : Nat) (rd : Nat → Nat) (rn : Nat → Option Nat) (x : Int32) (σ : cv_St) (hR : cv_RC tr ft sl sc L rc rd rn σ) (hB : cv_LB L) (hDB : cv_DB rc rd rn) : cv_Ct yX6_kinds cX6_kinds 6 (some .int) 6 0 0 26 cv_shC [.ref 0, .int x] σ (fun v u => v = some (.int (cv_a_kinds L rc rd rn x)) ∧ cv_RC tr ft sl sc L rc rd rn u) := by
  refine cv_enter (own := RX6) (by decide) rfl (Nat.le_of_ble_eq_true rfl) ?_
  intro X a C Rt hRm
  have D := @cv_dec _ _ dkX6_kinds
  obtain ⟨hTr, hFt, hSh, hL, hSe, hD⟩ := id hR
  have hn6 := hB.1
  have hrc := hDB.1
  show cv_At X _ _ σ 0 [(0, .ref 0), (1, .int x)] []
  refine cv_aload_n C (pc' := 1) rfl (D 0 (0, .aload_n 0, 1) rfl) rfl (j := 0) rfl ?_
  refine cv_iload_n C (pc' := 2) rfl (D 1 (1, .iload_n 1, 1) rfl) rfl (j := 1) rfl ?_
  refine cv_callV C (pc' := 5) rfl (k0 := 0) (ci := 6) (As := [.int x]) (rest := []) (idx := 81) (np := 1) (kX6_isPass x L σ hL) (by decide) rfl rfl rfl (by decide +kernel) rfl wmX6_81 wi_yX6_isPass ws_yX6_isPass wn_X6 wc_yX6_isPass (by decide) (by decide) (D 2 (2, .invokevirtual 81, 3) rfl) (Nat.le_of_ble_eq_true rfl) rfl (fun w9 u9 h9 => ?_)
  rw [h9.1, h9.2]
  show cv_At X _ _ σ 5 _ [.int (cv_b (cv_in x (L 7 0)))]
  refine cv_if_neB C (pc' := 8) rfl (tgt := 10) (D 3 (5, .ifCond .ne 5, 3) rfl) (by decide) (fun b5 => ?_) (fun b5 => ?_)
  · skip
    obtain ⟨p, hp, rfl⟩ := cv_in_of b5 (by omega)
    have hp6 : p < 6 := by omega
    have hp := hp
    refine cv_aload_n C (pc' := 11) rfl (D 6 (10, .aload_n 0, 1) rfl) rfl (j := 0) rfl ?_
    refine cv_get C (pc' := 14) rfl (k0 := 0) (i := 1) (ci := 6) (by decide) rfl rfl (by decide) (o := some 10) rfl iw_X6 wfX6_21 (D 7 (11, .getfield 21, 3) rfl) rfl ?_
    refine cv_get C (pc' := 17) rfl (k0 := 10) (i := 0) (ci := 0) (by decide) rfl rfl (by decide) (o := some 11) rfl iw_X0 wfX6_84 (D 8 (14, .getfield 84, 3) rfl) rfl ?_
    refine cv_iload_n C (pc' := 18) rfl (D 9 (17, .iload_n 1, 1) rfl) rfl (j := 1) rfl ?_
    refine cv_aald C (pc' := 19) rfl (k0 := 11) (j := p) (r := 12 + p) (by decide) rfl rfl rfl (cv_ix_p hp6) (by decide) (D 10 (18, .aaload, 1) rfl) ?_
    refine cv_astore_n C (pc' := 20) rfl (D 11 (19, .astore_n 2, 1) rfl) rfl (by decide) (lv' := [(2, .ref (12 + p)), (0, .ref 0), (1, .int (nI p))]) rfl ?_
    refine cv_aload_n C (pc' := 21) rfl (D 12 (20, .aload_n 2, 1) rfl) rfl (j := 0) rfl ?_
    refine cv_get C (pc' := 24) rfl (k0 := 12 + p) (i := 0) (ci := 1) (cv_lt_p hp6) (cv_shC_p hp6) rfl (by decide) (o := none) rfl iw_X1 wfX6_88 (D 13 (21, .getfield 88, 3) rfl) (v := .int (nI (L 0 p))) (congrArg Value.int (hL.2.2.2 p hp 0 (by decide))) ?_
    refine cv_istore_n C (pc' := 25) rfl (D 14 (24, .istore_n 3, 1) rfl) rfl (by decide) (lv' := [(3, .int (nI (L 0 p))), (2, .ref (12 + p)), (0, .ref 0), (1, .int (nI p))]) rfl ?_
    refine cv_iconst C (pc' := 26) rfl (D 15 (25, .iconst 0, 1) rfl) (v := nI 0) (by decide) ?_
    refine cv_istore C (pc' := 28) rfl (D 16 (26, .istore 4, 2) rfl) (by decide) (lv' := [(4, .int (nI 0)), (3, .int (nI (L 0 p))), (2, .ref (12 + p)), (0, .ref 0), (1, .int (nI p))]) rfl ?_
    refine cv_iconst C (pc' := 29) rfl (D 17 (28, .iconst 0, 1) rfl) (v := nI 0) (by decide) ?_
    refine cv_istore C (pc' := 31) rfl (D 18 (29, .istore 5, 2) rfl) (by decide) (lv' := [(5, .int (nI 0)), (4, .int (nI 0)), (3, .int (nI (L 0 p))), (2, .ref (12 + p)), (0, .ref 0), (1, .int (nI p))]) rfl ?_
    refine cv_pick [0, 1, 4, 5, 3, 2] (lv' := [(5, .int (nI 0)), (4, .int (nI (cv_sb (fun v => cv_hold (cv_lu L 0 p v) rc rd rn) 0))), (0, .ref 0), (1, .int (nI p)), (2, .ref (12 + p)), (3, .int (nI (L 0 p)))]) rfl ?_
    have LP31 : ∀ (r : Nat) (v : Nat) (τ : cv_St), (v + r = 3) → (cv_iv (12 + p) 0 σ τ) → cv_At X (26, cv_shC, 0, 0, a) 6 τ 31 [(5, .int (nI v)), (4, .int (nI (cv_sb (fun v => cv_hold (cv_lu L 0 p v) rc rd rn) v))), (0, .ref 0), (1, .int (nI p)), (2, .ref (12 + p)), (3, .int (nI (L 0 p)))] [] := by
      intro r
      induction r with
      | zero =>
        intro v τ hr hIτ
        obtain rfl : v = 3 := by omega
        refine cv_iload C (pc' := 33) rfl (D 19 (31, .iload 5, 2) rfl) (j := 0) rfl ?_
        refine cv_iconst C (pc' := 34) rfl (D 20 (33, .iconst 3, 1) rfl) (v := nI 3) (by decide) ?_
        refine cv_icmp_ge C (pc' := 37) rfl (tgt := 60) (D 21 (34, .if_icmp .ge 26, 3) rfl) (by decide) (fun _ => ?_) (fun h => absurd h (by decide))
        refine cv_aload_n C (pc' := 61) rfl (D 33 (60, .aload_n 2, 1) rfl) rfl (j := 4) rfl ?_
        refine cv_iload_n C (pc' := 62) rfl (D 34 (61, .iload_n 3, 1) rfl) rfl (j := 5) rfl ?_
        refine cv_put C (pc' := 65) rfl (k0 := 12 + p) (i := 0) (ci := 1) (cv_lt_p hp6) (cv_shC_p hp6) rfl (by decide) rfl iw_X1 tyX1 tyX1_ok nmX1 wfX6_88 rfl rfl rfl (D 35 (62, .putfield 88, 3) rfl) ?_
        refine cv_iload C (pc' := 67) rfl (D 36 (65, .iload 4, 2) rfl) (j := 1) rfl ?_
        exact cv_iret C Rt rfl (D 37 (67, .ireturn, 1) rfl) ⟨congrArg (fun z => some (Value.int z)) (by unfold cv_a_kinds; rw [if_pos b5, cv_nt, nI_clamp (by omega)]), cv_RC_k (cv_iv_end hIτ (hL.2.2.2 p hp 0 (by decide))) hB hR⟩
      | succ r ih31 =>
        intro v τ hr hIτ
        refine cv_iload C (pc' := 33) rfl (D 19 (31, .iload 5, 2) rfl) (j := 0) rfl ?_
        refine cv_iconst C (pc' := 34) rfl (D 20 (33, .iconst 3, 1) rfl) (v := nI 3) (by decide) ?_
        refine cv_icmp_geN C (pc' := 37) rfl (by omega) (by omega) (tgt := 60) (D 21 (34, .if_icmp .ge 26, 3) rfl) (by decide) (fun b34 => ?_) (fun b34 => ?_)
        · skip
          omega
        · skip
          refine cv_aload_n C (pc' := 38) rfl (D 22 (37, .aload_n 2, 1) rfl) rfl (j := 4) rfl ?_
          refine cv_iload C (pc' := 40) rfl (D 23 (38, .iload 5, 2) rfl) (j := 0) rfl ?_
          refine cv_put C (pc' := 43) rfl (k0 := 12 + p) (i := 0) (ci := 1) (cv_lt_p hp6) (cv_shC_p hp6) rfl (by decide) rfl iw_X1 tyX1 tyX1_ok nmX1 wfX6_88 rfl rfl rfl (D 24 (40, .putfield 88, 3) rfl) ?_
          refine cv_iload C (pc' := 45) rfl (D 25 (43, .iload 4, 2) rfl) (j := 1) rfl ?_
          refine cv_aload_n C (pc' := 46) rfl (D 26 (45, .aload_n 0, 1) rfl) rfl (j := 2) rfl ?_
          refine cv_iload C (pc' := 48) rfl (D 27 (46, .iload 5, 2) rfl) (j := 0) rfl ?_
          refine cv_callV C (pc' := 51) rfl (k0 := 0) (ci := 6) (As := [.int (nI v)]) (rest := [.int (nI (cv_sb (fun v => cv_hold (cv_lu L 0 p v) rc rd rn) v))]) (idx := 175) (np := 1) (kX6_bitIfReadingsHold (cv_lu L 0 p v) rc rd rn v (cv_u τ (12 + p) 0 (nI v)) (cv_LC_k (cv_iv_u hIτ (nI v)) (cv_LC_pass hL hB p 0 v (by decide) hp) (cv_LB_kind hB (by omega))) (cv_LB_kind hB (by omega)) (cv_iv_D (by omega) hIτ hD (nI v)) hDB (by omega)) (by decide) rfl rfl rfl (by decide +kernel) rfl wmX6_175 wi_yX6_bitIfReadingsHold ws_yX6_bitIfReadingsHold wn_X6 wc_yX6_bitIfReadingsHold (by decide) (by decide) (D 28 (48, .invokevirtual 175, 3) rfl) (Nat.le_of_ble_eq_true rfl) rfl (fun w48 u48 h48 => ?_)
          obtain ⟨e48, hKu48⟩ := h48
          rw [e48]
          have hIu48 : cv_iv (12 + p) 0 σ u48 := cv_iv_s (by omega) hIτ hKu48
          show cv_At X _ _ u48 51 _ [.int (nI (if cv_hold (cv_lu L 0 p v) rc rd rn = true then 2 ^ v else 0)), .int (nI (cv_sb (fun v => cv_hold (cv_lu L 0 p v) rc rd rn) v))]
          refine cv_iorN C (pc' := 52) rfl (D 29 (51, .ior, 1) rfl) ?_
          refine cv_istore C (pc' := 54) rfl (D 30 (52, .istore 4, 2) rfl) (by decide) (lv' := [(4, .int (nI ((cv_sb (fun v => cv_hold (cv_lu L 0 p v) rc rd rn) v) ||| (if cv_hold (cv_lu L 0 p v) rc rd rn = true then 2 ^ v else 0)))), (5, .int (nI v)), (0, .ref 0), (1, .int (nI p)), (2, .ref (12 + p)), (3, .int (nI (L 0 p)))]) rfl ?_
          refine cv_iincN C (pc' := 57) rfl (D 31 (54, .iinc 5 1, 3) rfl) (j := 1) rfl (by decide) (lv' := [(5, .int (nI (v + 1))), (4, .int (nI ((cv_sb (fun v => cv_hold (cv_lu L 0 p v) rc rd rn) v) ||| (if cv_hold (cv_lu L 0 p v) rc rd rn = true then 2 ^ v else 0)))), (0, .ref 0), (1, .int (nI p)), (2, .ref (12 + p)), (3, .int (nI (L 0 p)))]) rfl ?_
          refine cv_goto C (tgt := 31) (D 32 (57, .goto (-26), 3) rfl) (by decide) ?_
          have hw9 : (cv_sb (fun v => cv_hold (cv_lu L 0 p v) rc rd rn) v) ||| (if cv_hold (cv_lu L 0 p v) rc rd rn = true then 2 ^ v else 0) = cv_sb (fun v => cv_hold (cv_lu L 0 p v) rc rd rn) (v + 1) := by simp only [cv_sb]; split <;> simp
          rw [hw9]
          exact ih31 (v + 1) u48 (by omega) hIu48
    exact LP31 3 0 σ (by decide) (cv_iv_0 _ _ σ)
  · skip
    refine cv_iconst C (pc' := 9) rfl (D 4 (8, .iconst (-1), 1) rfl) (v := -1) (by decide) ?_
    exact cv_iret C Rt rfl (D 5 (9, .ireturn, 1) rfl) ⟨congrArg (fun z => some (Value.int z)) (by unfold cv_a_kinds; rw [if_neg (by simp [b5])]), hR⟩

theorem cv_cnt_t {P : Nat → Bool} {n : Nat} (h : P n = true) : cv_cnt P (n + 1) = cv_cnt P n + 1 := by simp only [cv_cnt]; rw [if_pos h]
theorem cv_cnt_f {P : Nat → Bool} {n : Nat} (h : P n = false) : cv_cnt P (n + 1) = cv_cnt P n := by simp only [cv_cnt]; rw [if_neg (by simp [h])]; rfl
set_option maxHeartbeats 4000000 in
set_option maxRecDepth 100000 in
theorem pX6_gave (tr : Int32) (ft : Nat) (sl : Nat → Option (Nat × Nat)) (sc : Nat → Nat → Int32) (L : cv_L) (rc : Nat) (rd : Nat → Nat) (rn : Nat → Option Nat) (x y : Int32) (σ : cv_St) (hR : cv_RC tr ft sl sc L rc rd rn σ) (hB : cv_LB L) (hDB : cv_DB rc rd rn) : cv_Ct yX6_gave cX6_gave 7 (some .int) 5 0 0 26 cv_shC [.ref 0, .int x, .int y] σ (fun v u => v = some (.int (cv_a_gave L rc rd rn x y)) ∧ cv_RC tr ft sl sc L rc rd rn u) := by
  refine cv_enter (own := RX6) (by decide) rfl (Nat.le_of_ble_eq_true rfl) ?_
  intro X a C Rt hRm
  have D := @cv_dec _ _ dkX6_gave
  obtain ⟨hTr, hFt, hSh, hL, hSe, hD⟩ := id hR
  have hn6 := hB.1
  have hrc := hDB.1
  show cv_At X _ _ σ 0 [(0, .ref 0), (1, .int x), (2, .int y)] []
  refine cv_iload_n C (pc' := 1) rfl (D 0 (0, .iload_n 1, 1) rfl) rfl (j := 1) rfl ?_
  refine cv_callS C (pc' := 4) rfl (As := [.int x]) (rest := []) (idx := 122) (np := 1) (kX6_isValley x σ) (by decide +kernel) rfl wmX6_122 wt_yX6_isValley wn_X6 wc_yX6_isValley (by decide) (by decide) (D 1 (1, .invokestatic 122, 3) rfl) (Nat.le_of_ble_eq_true rfl) rfl (fun w9 u9 h9 => ?_)
  rw [h9.1, h9.2]
  show cv_At X _ _ σ 4 _ [.int (cv_b (cv_in x 3))]
  refine cv_if_neB C (pc' := 7) rfl (tgt := 9) (D 2 (4, .ifCond .ne 5, 3) rfl) (by decide) (fun b4 => ?_) (fun b4 => ?_)
  · skip
    refine cv_iload_n C (pc' := 10) rfl (D 5 (9, .iload_n 2, 1) rfl) rfl (j := 2) rfl ?_
    refine cv_iconst C (pc' := 11) rfl (D 6 (10, .iconst 2, 1) rfl) (v := nI 2) (by decide) ?_
    refine cv_callS C (pc' := 14) rfl (As := [.int y, .int (nI 2)]) (rest := []) (idx := 111) (np := 2) (kX6_isBelow y 2 σ) (by decide +kernel) rfl wmX6_111 wt_yX6_isBelow wn_X6 wc_yX6_isBelow (by decide) (by decide) (D 7 (11, .invokestatic 111, 3) rfl) (Nat.le_of_ble_eq_true rfl) rfl (fun w9 u9 h9 => ?_)
    rw [h9.1, h9.2]
    show cv_At X _ _ σ 14 _ [.int (cv_b (cv_in y 2))]
    refine cv_if_neB C (pc' := 17) rfl (tgt := 20) (D 8 (14, .ifCond .ne 6, 3) rfl) (by decide) (fun b14 => ?_) (fun b14 => ?_)
    · skip
      obtain ⟨j, hj, rfl⟩ := cv_in_of b4 (by omega)
      obtain ⟨w, hw, rfl⟩ := cv_in_of b14 (by omega)
      refine cv_aload_n C (pc' := 21) rfl (D 11 (20, .aload_n 0, 1) rfl) rfl (j := 0) rfl ?_
      refine cv_get C (pc' := 24) rfl (k0 := 0) (i := 1) (ci := 6) (by decide) rfl rfl (by decide) (o := some 10) rfl iw_X6 wfX6_21 (D 12 (21, .getfield 21, 3) rfl) rfl ?_
      refine cv_get C (pc' := 27) rfl (k0 := 10) (i := 5) (ci := 0) (by decide) rfl rfl (by decide) (o := none) rfl iw_X0 wfX6_115 (D 13 (24, .getfield 115, 3) rfl) (v := .int (cv_b (decide (0 < L 7 0)))) (congrArg Value.int hSe) ?_
      refine cv_if_neB C (pc' := 30) rfl (tgt := 33) (D 14 (27, .ifCond .ne 6, 3) rfl) (by decide) (fun b27 => ?_) (fun b27 => ?_)
      · skip
        refine cv_aload_n C (pc' := 34) rfl (D 17 (33, .aload_n 0, 1) rfl) rfl (j := 0) rfl ?_
        refine cv_get C (pc' := 37) rfl (k0 := 0) (i := 1) (ci := 6) (by decide) rfl rfl (by decide) (o := some 10) rfl iw_X6 wfX6_21 (D 18 (34, .getfield 21, 3) rfl) rfl ?_
        refine cv_iconst C (pc' := 38) rfl (D 19 (37, .iconst (-1), 1) rfl) (v := -1) (by decide) ?_
        refine cv_callV C (pc' := 41) rfl (k0 := 10) (ci := 0) (As := [.int (-1)]) (rest := []) (idx := 131) (np := 1) (kX0_chart L (-1) σ hL hB) (by decide) rfl rfl rfl (by decide +kernel) rfl wmX6_131 wi_yX0_chart ws_yX0_chart wn_X0 wc_yX0_chart (by decide) (by decide) (D 20 (38, .invokevirtual 131, 3) rfl) (Nat.le_of_ble_eq_true rfl) rfl (fun w38 u38 h38 => ?_)
        obtain ⟨e38, hCOu38⟩ := h38
        rw [e38]
        have hKu38 : ∀ k, k ≠ 20 → k ≠ 21 → k ≠ 22 → u38 k = σ k := fun k h _ _ => hCOu38.1 k h
        have hLu38 := cv_LC_k hKu38 hL hB
        have hTu38 := cv_TC_of hCOu38
        have hDu38 := cv_DC_k hKu38 hD
        show cv_At X _ _ u38 41 _ []
        refine cv_aload_n C (pc' := 42) rfl (D 21 (41, .aload_n 0, 1) rfl) rfl (j := 0) rfl ?_
        refine cv_get C (pc' := 45) rfl (k0 := 0) (i := 1) (ci := 6) (by decide) rfl rfl (by decide) (o := some 10) rfl iw_X6 wfX6_21 (D 22 (42, .getfield 21, 3) rfl) rfl ?_
        refine cv_get C (pc' := 48) rfl (k0 := 10) (i := 2) (ci := 0) (by decide) rfl rfl (by decide) (o := some 19) rfl iw_X0 wfX6_125 (D 23 (45, .getfield 125, 3) rfl) rfl ?_
        refine cv_iload_n C (pc' := 49) rfl (D 24 (48, .iload_n 1, 1) rfl) rfl (j := 1) rfl ?_
        refine cv_iald C (pc' := 50) rfl (k0 := 19) (j := j) (by decide) rfl rfl (by omega) (by decide) (D 25 (49, .iaload, 1) rfl) (v := nI (L 6 j)) (hLu38.2.2.1 _ (by omega)) ?_
        refine cv_istore_n C (pc' := 51) rfl (D 26 (50, .istore_n 3, 1) rfl) rfl (by decide) (lv' := [(3, .int (nI (L 6 j))), (0, .ref 0), (1, .int (nI j)), (2, .int (nI w))]) rfl ?_
        refine cv_iconst C (pc' := 52) rfl (D 27 (51, .iconst 0, 1) rfl) (v := nI 0) (by decide) ?_
        refine cv_istore C (pc' := 54) rfl (D 28 (52, .istore 4, 2) rfl) (by decide) (lv' := [(4, .int (nI 0)), (3, .int (nI (L 6 j))), (0, .ref 0), (1, .int (nI j)), (2, .int (nI w))]) rfl ?_
        refine cv_bipush C (pc' := 56) rfl (D 29 (54, .bipush (-9), 2) rfl) (v := -9) (by decide) ?_
        refine cv_istore C (pc' := 58) rfl (D 30 (56, .istore 5, 2) rfl) (by decide) (lv' := [(5, .int (-9)), (4, .int (nI 0)), (3, .int (nI (L 6 j))), (0, .ref 0), (1, .int (nI j)), (2, .int (nI w))]) rfl ?_
        refine cv_sipush C (pc' := 61) rfl (D 31 (58, .sipush 255, 3) rfl) (v := nI 255) (by decide) ?_
        refine cv_istore C (pc' := 63) rfl (D 32 (61, .istore 6, 2) rfl) (by decide) (lv' := [(6, .int (nI 255)), (5, .int (-9)), (4, .int (nI 0)), (3, .int (nI (L 6 j))), (0, .ref 0), (1, .int (nI j)), (2, .int (nI w))]) rfl ?_
        refine cv_pick [0, 1, 2, 4, 5, 6, 3] (lv' := [(6, .int (cv_dn 256)), (5, .int (cv_o none)), (4, .int (nI 0)), (0, .ref 0), (1, .int (nI j)), (2, .int (nI w)), (3, .int (nI (L 6 j)))]) rfl ?_
        have LP63 : ∀ (i : Nat) (c : Nat) (o : Option Nat) (τ : cv_St), (i ≤ 256) → (c + cv_cnt (fun s => cv_hold (cv_lu L 6 j s) rc rd rn) i = cv_cnt (fun s => cv_hold (cv_lu L 6 j s) rc rd rn) 256) → (cv_lst (fun s => cv_hold (cv_lu L 6 j s) rc rd rn) 256 = (match cv_lst (fun s => cv_hold (cv_lu L 6 j s) rc rd rn) i with | some z => some z | none => o)) → (cv_iv 19 j u38 τ) → (τ 20 = u38 20) → cv_At X (26, cv_shC, 0, 0, a) 7 τ 63 [(6, .int (cv_dn i)), (5, .int (cv_o o)), (4, .int (nI c)), (0, .ref 0), (1, .int (nI j)), (2, .int (nI w)), (3, .int (nI (L 6 j)))] [] := by
          intro i
          induction i with
          | zero =>
            intro c o τ hi hc ho hIτ hJτ
            show cv_At X _ _ τ 63 [(6, .int (-1)), (5, .int (cv_o o)), (4, .int (nI c)), (0, .ref 0), (1, .int (nI j)), (2, .int (nI w)), (3, .int (nI (L 6 j)))] []
            refine cv_iload C (pc' := 65) rfl (D 33 (63, .iload 6, 2) rfl) (j := 0) rfl ?_
            refine cv_if_lt C (pc' := 68) rfl (tgt := 106) (D 34 (65, .ifCond .lt 41, 3) rfl) (by decide) (fun _ => ?_) (fun h => absurd h (by decide))
            refine cv_aload_n C (pc' := 107) rfl (D 52 (106, .aload_n 0, 1) rfl) rfl (j := 3) rfl ?_
            refine cv_get C (pc' := 110) rfl (k0 := 0) (i := 1) (ci := 6) (by decide) rfl rfl (by decide) (o := some 10) rfl iw_X6 wfX6_21 (D 53 (107, .getfield 21, 3) rfl) rfl ?_
            refine cv_get C (pc' := 113) rfl (k0 := 10) (i := 2) (ci := 0) (by decide) rfl rfl (by decide) (o := some 19) rfl iw_X0 wfX6_125 (D 54 (110, .getfield 125, 3) rfl) rfl ?_
            refine cv_iload_n C (pc' := 114) rfl (D 55 (113, .iload_n 1, 1) rfl) rfl (j := 4) rfl ?_
            refine cv_iload_n C (pc' := 115) rfl (D 56 (114, .iload_n 3, 1) rfl) rfl (j := 6) rfl ?_
            refine cv_iast C (pc' := 116) rfl (k0 := 19) (j := j) (by decide) rfl rfl (by omega) (by decide) (D 57 (115, .iastore, 1) rfl) ?_
            refine cv_iload_n C (pc' := 117) rfl (D 58 (116, .iload_n 2, 1) rfl) rfl (j := 5) rfl ?_
            refine cv_if_neN C (pc' := 120) rfl (by omega) (tgt := 125) (D 59 (117, .ifCond .ne 8, 3) rfl) (by decide) (fun b117 => ?_) (fun b117 => ?_)
            · skip
              refine cv_iload C (pc' := 127) rfl (D 62 (125, .iload 5, 2) rfl) (j := 1) rfl ?_
              exact cv_iret C Rt rfl (D 63 (127, .ireturn, 1) rfl) ⟨congrArg (fun z => some (Value.int z)) (by unfold cv_a_gave; rw [if_pos b4, if_pos b14, if_pos (by simpa using b27), if_neg (fun h => by rw [← nI_0] at h; have := (nI_eq (by omega) (by omega)).mp h; omega), cv_nt, nI_clamp (by omega), ho] <;> rfl), cv_RC_k (fun k h1 h2 h3 => (cv_iv_end hIτ (hLu38.2.2.1 j (by omega)) k h1 h2 h3).trans (hKu38 k h1 h2 h3)) hB hR⟩
            · skip
              refine cv_iload C (pc' := 122) rfl (D 60 (120, .iload 4, 2) rfl) (j := 2) rfl ?_
              refine cv_goto C (tgt := 127) (D 61 (122, .goto 5, 3) rfl) (by decide) ?_
              exact cv_iret C Rt rfl (D 63 (127, .ireturn, 1) rfl) ⟨congrArg (fun z => some (Value.int z)) (by unfold cv_a_gave; rw [if_pos b4, if_pos b14, if_pos (by simpa using b27), if_pos (by rw [b117]; rfl), cv_nt, nI_clamp (by omega)]; exact congrArg nI hc), cv_RC_k (fun k h1 h2 h3 => (cv_iv_end hIτ (hLu38.2.2.1 j (by omega)) k h1 h2 h3).trans (hKu38 k h1 h2 h3)) hB hR⟩
          | succ i ih63 =>
            intro c o τ hi hc ho hIτ hJτ
            show cv_At X _ _ τ 63 [(6, .int (nI i)), (5, .int (cv_o o)), (4, .int (nI c)), (0, .ref 0), (1, .int (nI j)), (2, .int (nI w)), (3, .int (nI (L 6 j)))] []
            have hL2 : cv_LC (cv_lu L 6 j i) (cv_u τ 19 j (nI i)) := cv_LC_k (cv_iv_u hIτ (nI i)) (cv_LC_give hLu38 hB j i) (cv_LB_give hB (by omega))
            have hT2 : cv_TC (cv_RT (cv_lu L 6 j i) (fun q => decide (nI q = -1)) 8) (cv_u τ 19 j (nI i)) := fun q hq => by rw [cv_u_c (by decide), hJτ, cv_RT_give]; exact hTu38 q hq
            refine cv_iload C (pc' := 65) rfl (D 33 (63, .iload 6, 2) rfl) (j := 0) rfl ?_
            refine cv_if_lt C (pc' := 68) rfl (tgt := 106) (D 34 (65, .ifCond .lt 41, 3) rfl) (by decide) (fun b65 => ?_) (fun b65 => ?_)
            · skip
              exact absurd b65 (nI_pos (by omega))
            · skip
              refine cv_aload_n C (pc' := 69) rfl (D 35 (68, .aload_n 0, 1) rfl) rfl (j := 3) rfl ?_
              refine cv_get C (pc' := 72) rfl (k0 := 0) (i := 1) (ci := 6) (by decide) rfl rfl (by decide) (o := some 10) rfl iw_X6 wfX6_21 (D 36 (69, .getfield 21, 3) rfl) rfl ?_
              refine cv_get C (pc' := 75) rfl (k0 := 10) (i := 2) (ci := 0) (by decide) rfl rfl (by decide) (o := some 19) rfl iw_X0 wfX6_125 (D 37 (72, .getfield 125, 3) rfl) rfl ?_
              refine cv_iload_n C (pc' := 76) rfl (D 38 (75, .iload_n 1, 1) rfl) rfl (j := 4) rfl ?_
              refine cv_iload C (pc' := 78) rfl (D 39 (76, .iload 6, 2) rfl) (j := 0) rfl ?_
              refine cv_iast C (pc' := 79) rfl (k0 := 19) (j := j) (by decide) rfl rfl (by omega) (by decide) (D 40 (78, .iastore, 1) rfl) ?_
              refine cv_aload_n C (pc' := 80) rfl (D 41 (79, .aload_n 0, 1) rfl) rfl (j := 3) rfl ?_
              refine cv_get C (pc' := 83) rfl (k0 := 0) (i := 3) (ci := 6) (by decide) rfl rfl (by decide) (o := some 23) rfl iw_X6 wfX6_35 (D 42 (80, .getfield 35, 3) rfl) rfl ?_
              refine cv_aload_n C (pc' := 84) rfl (D 43 (83, .aload_n 0, 1) rfl) rfl (j := 3) rfl ?_
              refine cv_get C (pc' := 87) rfl (k0 := 0) (i := 1) (ci := 6) (by decide) rfl rfl (by decide) (o := some 10) rfl iw_X6 wfX6_21 (D 44 (84, .getfield 21, 3) rfl) rfl ?_
              refine cv_callV C (pc' := 90) rfl (k0 := 23) (ci := 2) (As := [.ref 10]) (rest := []) (idx := 178) (np := 1) (kX2_holdIn (cv_lu L 6 j i) (cv_RT (cv_lu L 6 j i) (fun q => decide (nI q = -1)) 8) rc rd rn (cv_u τ 19 j (nI i)) hL2 (cv_LB_give hB (by omega)) hT2 (cv_iv_D (by decide) hIτ hDu38 (nI i)) hDB) (by decide) rfl rfl rfl (by decide +kernel) rfl wmX6_178 wi_yX2_holdIn ws_yX2_holdIn wn_X2 wc_yX2_holdIn (by decide) (by decide) (D 45 (87, .invokevirtual 178, 3) rfl) (Nat.le_of_ble_eq_true rfl) rfl (fun w9 u9 h9 => ?_)
              rw [h9.1, h9.2]
              show cv_At X _ _ (cv_u τ 19 j (nI i)) 90 _ [.int (cv_b (cv_hold (cv_lu L 6 j i) rc rd rn))]
              refine cv_if_eqB C (pc' := 93) rfl (tgt := 100) (D 46 (90, .ifCond .eq 10, 3) rfl) (by decide) (fun b90 => ?_) (fun b90 => ?_)
              · skip
                refine cv_iinc C (pc' := 103) rfl (D 50 (100, .iinc 6 (-1), 3) rfl) (j := 0) rfl (v := cv_dn i) (cv_dn_dec i) (by decide) (lv' := [(6, .int (cv_dn i)), (5, .int (cv_o o)), (4, .int (nI c)), (0, .ref 0), (1, .int (nI j)), (2, .int (nI w)), (3, .int (nI (L 6 j)))]) rfl ?_
                refine cv_goto C (tgt := 63) (D 51 (103, .goto (-40), 3) rfl) (by decide) ?_
                exact ih63 c o (cv_u τ 19 j (nI i)) (by omega) (by rw [← hc, cv_cnt_f (P := (fun s => cv_hold (cv_lu L 6 j s) rc rd rn)) b90]) (by rw [ho, cv_lst_s]; cases cv_lst (fun s => cv_hold (cv_lu L 6 j s) rc rd rn) i with | some z => rfl | none => simp [b90]) (cv_iv_s (by decide) hIτ (fun k _ _ _ => rfl)) (by rw [cv_u_c (by decide)]; exact hJτ)
              · skip
                refine cv_iincN C (pc' := 96) rfl (D 47 (93, .iinc 4 1, 3) rfl) (j := 2) rfl (by decide) (lv' := [(4, .int (nI (c + 1))), (6, .int (nI i)), (5, .int (cv_o o)), (0, .ref 0), (1, .int (nI j)), (2, .int (nI w)), (3, .int (nI (L 6 j)))]) rfl ?_
                refine cv_iload C (pc' := 98) rfl (D 48 (96, .iload 6, 2) rfl) (j := 1) rfl ?_
                refine cv_istore C (pc' := 100) rfl (D 49 (98, .istore 5, 2) rfl) (by decide) (lv' := [(5, .int (nI i)), (4, .int (nI (c + 1))), (6, .int (nI i)), (0, .ref 0), (1, .int (nI j)), (2, .int (nI w)), (3, .int (nI (L 6 j)))]) rfl ?_
                refine cv_iinc C (pc' := 103) rfl (D 50 (100, .iinc 6 (-1), 3) rfl) (j := 2) rfl (v := cv_dn i) (cv_dn_dec i) (by decide) (lv' := [(6, .int (cv_dn i)), (5, .int (nI i)), (4, .int (nI (c + 1))), (0, .ref 0), (1, .int (nI j)), (2, .int (nI w)), (3, .int (nI (L 6 j)))]) rfl ?_
                refine cv_goto C (tgt := 63) (D 51 (103, .goto (-40), 3) rfl) (by decide) ?_
                exact ih63 (c + 1) (some i) (cv_u τ 19 j (nI i)) (by omega) (by rw [← hc, cv_cnt_t (P := (fun s => cv_hold (cv_lu L 6 j s) rc rd rn)) b90]; omega) (by rw [ho, cv_lst_s]; cases cv_lst (fun s => cv_hold (cv_lu L 6 j s) rc rd rn) i with | some z => rfl | none => simp [b90]) (cv_iv_s (by decide) hIτ (fun k _ _ _ => rfl)) (by rw [cv_u_c (by decide)]; exact hJτ)
        exact LP63 256 0 none u38 (by decide) (by omega) (by cases cv_lst (fun s => cv_hold (cv_lu L 6 j s) rc rd rn) 256 <;> rfl) (cv_iv_0 _ _ _) rfl
      · skip
        refine cv_bipush C (pc' := 32) rfl (D 15 (30, .bipush (-3), 2) rfl) (v := -3) (by decide) ?_
        exact cv_iret C Rt rfl (D 16 (32, .ireturn, 1) rfl) ⟨congrArg (fun z => some (Value.int z)) (by unfold cv_a_gave; rw [if_pos b4, if_pos b14, if_neg (by simpa using b27)]), hR⟩
    · skip
      refine cv_bipush C (pc' := 19) rfl (D 9 (17, .bipush (-2), 2) rfl) (v := -2) (by decide) ?_
      exact cv_iret C Rt rfl (D 10 (19, .ireturn, 1) rfl) ⟨congrArg (fun z => some (Value.int z)) (by unfold cv_a_gave; rw [if_pos b4, if_neg (by simp [b14])]), hR⟩
  · skip
    refine cv_iconst C (pc' := 8) rfl (D 3 (7, .iconst (-1), 1) rfl) (v := -1) (by decide) ?_
    exact cv_iret C Rt rfl (D 4 (8, .ireturn, 1) rfl) ⟨congrArg (fun z => some (Value.int z)) (by unfold cv_a_gave; rw [if_neg (by simp [b4])]), hR⟩

set_option maxHeartbeats 4000000 in
set_option maxRecDepth 100000 in
theorem kX6_passTelling (L : cv_L) (p : Nat) (σ : cv_St) (hL : cv_LC L σ) (hB : cv_LB L) (hp : p < L 7 0) : cv_Ct yX6_passTelling cX6_passTelling 2 (some .int) 1 0 0 26 cv_shC [.ref 0, .ref (12 + p)] σ (fun v u => v = some (.int (nI (L 4 p))) ∧ u = cv_u σ 0 4 (cv_lv 1 (σ 0 4))) := by
  refine cv_enter (own := RX6) (by decide) rfl (Nat.le_of_ble_eq_true rfl) ?_
  intro X a C Rt hRm
  have D := @cv_dec _ _ dkX6_passTelling
  have hp6 : p < 6 := Nat.lt_of_lt_of_le hp hB.1
  obtain ⟨g0, g1, g2, g3, g4⟩ := hB.2.1 p hp
  show cv_At X _ _ σ 0 [(0, .ref 0), (1, .ref (12 + p))] []
  refine cv_aload_n C (pc' := 1) rfl (D 0 (0, .aload_n 0, 1) rfl) rfl (j := 0) rfl ?_
  refine cv_iconst C (pc' := 2) rfl (D 1 (1, .iconst 1, 1) rfl) (v := nI 1) (by decide) ?_
  refine cv_callV C (pc' := 5) rfl (k0 := 0) (ci := 6) (As := [.int (nI 1)]) (rest := []) (idx := 225) (np := 1) (kX6_leave 1 σ) (by decide) rfl rfl rfl (by decide +kernel) rfl wmX6_225 wi_yX6_leave ws_yX6_leave wn_X6 wc_yX6_leave (by decide) (by decide) (D 2 (2, .invokevirtual 225, 3) rfl) (Nat.le_of_ble_eq_true rfl) rfl (fun w2 u2 h2 => ?_)
  rw [h2.1, h2.2]
  have et2 : cv_u σ 0 4 (nI 31 * σ 0 4 + nI 1) = cv_u σ 0 4 (cv_lv 1 (σ 0 4)) := rfl
  rw [et2]
  show cv_At X _ _ (cv_u σ 0 4 (cv_lv 1 (σ 0 4))) 5 _ []
  refine cv_aload_n C (pc' := 6) rfl (D 3 (5, .aload_n 1, 1) rfl) rfl (j := 1) rfl ?_
  refine cv_get C (pc' := 9) rfl (k0 := 12 + p) (i := 4) (ci := 1) (cv_lt_p hp6) (cv_shC_p hp6) rfl (by decide) (o := none) rfl iw_X1 wfX6_102 (D 4 (6, .getfield 102, 3) rfl) (v := .int (nI (L 4 p))) (congrArg Value.int ((congrFun (cv_u_c (by omega)) _).trans (hL.2.2.2 p hp 4 (by decide)))) ?_
  exact cv_iret C Rt rfl (D 5 (9, .ireturn, 1) rfl) ⟨rfl, rfl⟩

set_option maxHeartbeats 4000000 in
set_option maxRecDepth 100000 in
theorem kX6_steepTelling (L : cv_L) (p : Nat) (σ : cv_St) (hL : cv_LC L σ) (hB : cv_LB L) (hp : p < L 7 0) : cv_Ct yX6_steepTelling cX6_steepTelling 2 (some .int) 2 0 0 26 cv_shC [.ref 0, .ref (12 + p)] σ (fun v u => v = some (.int (nI (L 4 p + 100))) ∧ u = cv_u σ 0 4 (cv_lv 1 (cv_lv 2 (σ 0 4)))) := by
  refine cv_enter (own := RX6) (by decide) rfl (Nat.le_of_ble_eq_true rfl) ?_
  intro X a C Rt hRm
  have D := @cv_dec _ _ dkX6_steepTelling
  have hp6 : p < 6 := Nat.lt_of_lt_of_le hp hB.1
  obtain ⟨g0, g1, g2, g3, g4⟩ := hB.2.1 p hp
  show cv_At X _ _ σ 0 [(0, .ref 0), (1, .ref (12 + p))] []
  refine cv_aload_n C (pc' := 1) rfl (D 0 (0, .aload_n 0, 1) rfl) rfl (j := 0) rfl ?_
  refine cv_iconst C (pc' := 2) rfl (D 1 (1, .iconst 2, 1) rfl) (v := nI 2) (by decide) ?_
  refine cv_callV C (pc' := 5) rfl (k0 := 0) (ci := 6) (As := [.int (nI 2)]) (rest := []) (idx := 225) (np := 1) (kX6_leave 2 σ) (by decide) rfl rfl rfl (by decide +kernel) rfl wmX6_225 wi_yX6_leave ws_yX6_leave wn_X6 wc_yX6_leave (by decide) (by decide) (D 2 (2, .invokevirtual 225, 3) rfl) (Nat.le_of_ble_eq_true rfl) rfl (fun w2 u2 h2 => ?_)
  rw [h2.1, h2.2]
  have et2 : cv_u σ 0 4 (nI 31 * σ 0 4 + nI 2) = cv_u σ 0 4 (cv_lv 2 (σ 0 4)) := rfl
  rw [et2]
  show cv_At X _ _ (cv_u σ 0 4 (cv_lv 2 (σ 0 4))) 5 _ []
  refine cv_aload_n C (pc' := 6) rfl (D 3 (5, .aload_n 0, 1) rfl) rfl (j := 0) rfl ?_
  refine cv_aload_n C (pc' := 7) rfl (D 4 (6, .aload_n 1, 1) rfl) rfl (j := 1) rfl ?_
  refine cv_callV C (pc' := 10) rfl (k0 := 0) (ci := 6) (As := [.ref (12 + p)]) (rest := []) (idx := 222) (np := 1) (kX6_passTelling L p (cv_u σ 0 4 (cv_lv 2 (σ 0 4))) (cv_LC_0 hL hB) hB hp) (by decide) rfl rfl rfl (by decide +kernel) rfl wmX6_222 wi_yX6_passTelling ws_yX6_passTelling wn_X6 wc_yX6_passTelling (by decide) (by decide) (D 5 (7, .invokevirtual 222, 3) rfl) (Nat.le_of_ble_eq_true rfl) rfl (fun w7 u7 h7 => ?_)
  rw [h7.1, h7.2]
  have et7 : cv_u (cv_u σ 0 4 (cv_lv 2 (σ 0 4))) 0 4 (cv_lv 1 ((cv_u σ 0 4 (cv_lv 2 (σ 0 4))) 0 4)) = cv_u σ 0 4 (cv_lv 1 (cv_lv 2 (σ 0 4))) := by rw [cv_uu, cv_u_s]
  rw [et7]
  show cv_At X _ _ (cv_u σ 0 4 (cv_lv 1 (cv_lv 2 (σ 0 4)))) 10 _ [.int (nI (L 4 p))]
  refine cv_bipush C (pc' := 12) rfl (D 6 (10, .bipush 100, 2) rfl) (v := nI 100) (by decide) ?_
  refine cv_iaddN C (pc' := 13) rfl (D 7 (12, .iadd, 1) rfl) ?_
  exact cv_iret C Rt rfl (D 8 (13, .ireturn, 1) rfl) ⟨rfl, rfl⟩

set_option maxHeartbeats 4000000 in
set_option maxRecDepth 100000 in
theorem kX6_tunnelTelling (L : cv_L) (p : Nat) (σ : cv_St) (hL : cv_LC L σ) (hB : cv_LB L) (hp : p < L 7 0) : cv_Ct yX6_tunnelTelling cX6_tunnelTelling 3 (some .int) 3 0 0 26 cv_shC [.ref 0, .ref (12 + p)] σ (fun v u => v = some (.int (nI (L 4 p + 100 + L 4 p))) ∧ u = cv_u σ 0 4 (cv_lv 1 (cv_lv 1 (cv_lv 2 (cv_lv 3 (σ 0 4)))))) := by
  refine cv_enter (own := RX6) (by decide) rfl (Nat.le_of_ble_eq_true rfl) ?_
  intro X a C Rt hRm
  have D := @cv_dec _ _ dkX6_tunnelTelling
  have hp6 : p < 6 := Nat.lt_of_lt_of_le hp hB.1
  obtain ⟨g0, g1, g2, g3, g4⟩ := hB.2.1 p hp
  show cv_At X _ _ σ 0 [(0, .ref 0), (1, .ref (12 + p))] []
  refine cv_aload_n C (pc' := 1) rfl (D 0 (0, .aload_n 0, 1) rfl) rfl (j := 0) rfl ?_
  refine cv_iconst C (pc' := 2) rfl (D 1 (1, .iconst 3, 1) rfl) (v := nI 3) (by decide) ?_
  refine cv_callV C (pc' := 5) rfl (k0 := 0) (ci := 6) (As := [.int (nI 3)]) (rest := []) (idx := 225) (np := 1) (kX6_leave 3 σ) (by decide) rfl rfl rfl (by decide +kernel) rfl wmX6_225 wi_yX6_leave ws_yX6_leave wn_X6 wc_yX6_leave (by decide) (by decide) (D 2 (2, .invokevirtual 225, 3) rfl) (Nat.le_of_ble_eq_true rfl) rfl (fun w2 u2 h2 => ?_)
  rw [h2.1, h2.2]
  have et2 : cv_u σ 0 4 (nI 31 * σ 0 4 + nI 3) = cv_u σ 0 4 (cv_lv 3 (σ 0 4)) := rfl
  rw [et2]
  show cv_At X _ _ (cv_u σ 0 4 (cv_lv 3 (σ 0 4))) 5 _ []
  refine cv_aload_n C (pc' := 6) rfl (D 3 (5, .aload_n 0, 1) rfl) rfl (j := 0) rfl ?_
  refine cv_aload_n C (pc' := 7) rfl (D 4 (6, .aload_n 1, 1) rfl) rfl (j := 1) rfl ?_
  refine cv_callV C (pc' := 10) rfl (k0 := 0) (ci := 6) (As := [.ref (12 + p)]) (rest := []) (idx := 215) (np := 1) (kX6_steepTelling L p (cv_u σ 0 4 (cv_lv 3 (σ 0 4))) (cv_LC_0 hL hB) hB hp) (by decide) rfl rfl rfl (by decide +kernel) rfl wmX6_215 wi_yX6_steepTelling ws_yX6_steepTelling wn_X6 wc_yX6_steepTelling (by decide) (by decide) (D 5 (7, .invokevirtual 215, 3) rfl) (Nat.le_of_ble_eq_true rfl) rfl (fun w7 u7 h7 => ?_)
  rw [h7.1, h7.2]
  have et7 : cv_u (cv_u σ 0 4 (cv_lv 3 (σ 0 4))) 0 4 (cv_lv 1 (cv_lv 2 ((cv_u σ 0 4 (cv_lv 3 (σ 0 4))) 0 4))) = cv_u σ 0 4 (cv_lv 1 (cv_lv 2 (cv_lv 3 (σ 0 4)))) := by rw [cv_uu, cv_u_s]
  rw [et7]
  show cv_At X _ _ (cv_u σ 0 4 (cv_lv 1 (cv_lv 2 (cv_lv 3 (σ 0 4))))) 10 _ [.int (nI (L 4 p + 100))]
  refine cv_istore_n C (pc' := 11) rfl (D 6 (10, .istore_n 2, 1) rfl) rfl (by decide) (lv' := [(2, .int (nI (L 4 p + 100))), (0, .ref 0), (1, .ref (12 + p))]) rfl ?_
  refine cv_iload_n C (pc' := 12) rfl (D 7 (11, .iload_n 2, 1) rfl) rfl (j := 0) rfl ?_
  refine cv_aload_n C (pc' := 13) rfl (D 8 (12, .aload_n 0, 1) rfl) rfl (j := 1) rfl ?_
  refine cv_aload_n C (pc' := 14) rfl (D 9 (13, .aload_n 1, 1) rfl) rfl (j := 2) rfl ?_
  refine cv_callV C (pc' := 17) rfl (k0 := 0) (ci := 6) (As := [.ref (12 + p)]) (rest := [.int (nI (L 4 p + 100))]) (idx := 222) (np := 1) (kX6_passTelling L p (cv_u σ 0 4 (cv_lv 1 (cv_lv 2 (cv_lv 3 (σ 0 4))))) (cv_LC_0 hL hB) hB hp) (by decide) rfl rfl rfl (by decide +kernel) rfl wmX6_222 wi_yX6_passTelling ws_yX6_passTelling wn_X6 wc_yX6_passTelling (by decide) (by decide) (D 10 (14, .invokevirtual 222, 3) rfl) (Nat.le_of_ble_eq_true rfl) rfl (fun w14 u14 h14 => ?_)
  rw [h14.1, h14.2]
  have et14 : cv_u (cv_u σ 0 4 (cv_lv 1 (cv_lv 2 (cv_lv 3 (σ 0 4))))) 0 4 (cv_lv 1 ((cv_u σ 0 4 (cv_lv 1 (cv_lv 2 (cv_lv 3 (σ 0 4))))) 0 4)) = cv_u σ 0 4 (cv_lv 1 (cv_lv 1 (cv_lv 2 (cv_lv 3 (σ 0 4))))) := by rw [cv_uu, cv_u_s]
  rw [et14]
  show cv_At X _ _ (cv_u σ 0 4 (cv_lv 1 (cv_lv 1 (cv_lv 2 (cv_lv 3 (σ 0 4)))))) 17 _ [.int (nI (L 4 p)), .int (nI (L 4 p + 100))]
  refine cv_iaddN C (pc' := 18) rfl (D 11 (17, .iadd, 1) rfl) ?_
  exact cv_iret C Rt rfl (D 12 (18, .ireturn, 1) rfl) ⟨rfl, rfl⟩

set_option maxHeartbeats 4000000 in
set_option maxRecDepth 100000 in
theorem pX6_tell (tr : Int32) (ft : Nat) (sl : Nat → Option (Nat × Nat)) (sc : Nat → Nat → Int32) (L : cv_L) (rc : Nat) (rd : Nat → Nat) (rn : Nat → Option Nat) (x : Int32) (σ : cv_St) (hR : cv_RC tr ft sl sc L rc rd rn σ) (hB : cv_LB L) (hDB : cv_DB rc rd rn) : cv_Ct yX6_tell cX6_tell 3 (some .int) 4 0 0 26 cv_shC [.ref 0, .int x] σ (fun v u => v = some (.int (cv_a_tell L x)) ∧ cv_RC (cv_t_tell L tr x) ft sl sc L rc rd rn u) := by
  refine cv_enter (own := RX6) (by decide) rfl (Nat.le_of_ble_eq_true rfl) ?_
  intro X a C Rt hRm
  have D := @cv_dec _ _ dkX6_tell
  obtain ⟨hTr, hFt, hSh, hL, hSe, hD⟩ := id hR
  have hn6 := hB.1
  have hrc := hDB.1
  show cv_At X _ _ σ 0 [(0, .ref 0), (1, .int x)] []
  refine cv_aload_n C (pc' := 1) rfl (D 0 (0, .aload_n 0, 1) rfl) rfl (j := 0) rfl ?_
  refine cv_iload_n C (pc' := 2) rfl (D 1 (1, .iload_n 1, 1) rfl) rfl (j := 1) rfl ?_
  refine cv_callV C (pc' := 5) rfl (k0 := 0) (ci := 6) (As := [.int x]) (rest := []) (idx := 81) (np := 1) (kX6_isPass x L σ hL) (by decide) rfl rfl rfl (by decide +kernel) rfl wmX6_81 wi_yX6_isPass ws_yX6_isPass wn_X6 wc_yX6_isPass (by decide) (by decide) (D 2 (2, .invokevirtual 81, 3) rfl) (Nat.le_of_ble_eq_true rfl) rfl (fun w9 u9 h9 => ?_)
  rw [h9.1, h9.2]
  show cv_At X _ _ σ 5 _ [.int (cv_b (cv_in x (L 7 0)))]
  refine cv_if_neB C (pc' := 8) rfl (tgt := 10) (D 3 (5, .ifCond .ne 5, 3) rfl) (by decide) (fun b5 => ?_) (fun b5 => ?_)
  · skip
    obtain ⟨p, hp, rfl⟩ := cv_in_of b5 (by omega)
    have hp6 : p < 6 := by omega
    have hp := hp
    refine cv_aload_n C (pc' := 11) rfl (D 6 (10, .aload_n 0, 1) rfl) rfl (j := 0) rfl ?_
    refine cv_get C (pc' := 14) rfl (k0 := 0) (i := 1) (ci := 6) (by decide) rfl rfl (by decide) (o := some 10) rfl iw_X6 wfX6_21 (D 7 (11, .getfield 21, 3) rfl) rfl ?_
    refine cv_get C (pc' := 17) rfl (k0 := 10) (i := 0) (ci := 0) (by decide) rfl rfl (by decide) (o := some 11) rfl iw_X0 wfX6_84 (D 8 (14, .getfield 84, 3) rfl) rfl ?_
    refine cv_iload_n C (pc' := 18) rfl (D 9 (17, .iload_n 1, 1) rfl) rfl (j := 1) rfl ?_
    refine cv_aald C (pc' := 19) rfl (k0 := 11) (j := p) (r := 12 + p) (by decide) rfl rfl rfl (cv_ix_p hp6) (by decide) (D 10 (18, .aaload, 1) rfl) ?_
    refine cv_astore_n C (pc' := 20) rfl (D 11 (19, .astore_n 2, 1) rfl) rfl (by decide) (lv' := [(2, .ref (12 + p)), (0, .ref 0), (1, .int (nI p))]) rfl ?_
    refine cv_aload_n C (pc' := 21) rfl (D 12 (20, .aload_n 2, 1) rfl) rfl (j := 0) rfl ?_
    refine cv_get C (pc' := 24) rfl (k0 := 12 + p) (i := 0) (ci := 1) (cv_lt_p hp6) (cv_shC_p hp6) rfl (by decide) (o := none) rfl iw_X1 wfX6_88 (D 13 (21, .getfield 88, 3) rfl) (v := .int (nI (L 0 p))) (congrArg Value.int (hL.2.2.2 p hp 0 (by decide))) ?_
    have hk : L 0 p = 0 ∨ L 0 p = 1 ∨ L 0 p = 2 := by have := (hB.2.1 p hp).1; omega
    rcases hk with hk | hk | hk
    · skip
      refine cv_top (w := nI 0) (congrArg nI hk) ?_
      refine cv_lookup C (D 14 (24, .lookupswitch 40 #[(1, 28), (2, 34)], 28) rfl) (off := 40) (tgt := 64) (by decide) (by decide) (by decide) ?_
      refine cv_aload_n C (pc' := 65) rfl (D 23 (64, .aload_n 0, 1) rfl) rfl (j := 1) rfl ?_
      refine cv_aload_n C (pc' := 66) rfl (D 24 (65, .aload_n 2, 1) rfl) rfl (j := 0) rfl ?_
      refine cv_callV C (pc' := 69) rfl (k0 := 0) (ci := 6) (As := [.ref (12 + p)]) (rest := []) (idx := 222) (np := 1) (kX6_passTelling L p σ hL hB hp) (by decide) rfl rfl rfl (by decide +kernel) rfl wmX6_222 wi_yX6_passTelling ws_yX6_passTelling wn_X6 wc_yX6_passTelling (by decide) (by decide) (D 25 (66, .invokevirtual 222, 3) rfl) (Nat.le_of_ble_eq_true rfl) rfl (fun w66 u66 h66 => ?_)
      rw [h66.1, h66.2, hTr]
      show cv_At X _ _ (cv_u σ 0 4 (cv_lv 1 tr)) 69 _ [.int (nI (L 4 p))]
      exact cv_iret C Rt rfl (D 26 (69, .ireturn, 1) rfl) ⟨congrArg (fun z => some (Value.int z)) (by unfold cv_a_tell; rw [if_pos b5, cv_nt, nI_clamp (by omega)]; rw [if_neg (by omega), if_neg (by omega)]), by unfold cv_t_tell; rw [if_pos b5, cv_nt, nI_clamp (by omega)]; rw [if_neg (by omega), if_neg (by omega)]; exact cv_RC_t _ hR⟩
    · skip
      refine cv_top (w := nI 1) (congrArg nI hk) ?_
      refine cv_lookup C (D 14 (24, .lookupswitch 40 #[(1, 28), (2, 34)], 28) rfl) (off := 28) (tgt := 52) (by decide) (by decide) (by decide) ?_
      refine cv_aload_n C (pc' := 53) rfl (D 15 (52, .aload_n 0, 1) rfl) rfl (j := 1) rfl ?_
      refine cv_aload_n C (pc' := 54) rfl (D 16 (53, .aload_n 2, 1) rfl) rfl (j := 0) rfl ?_
      refine cv_callV C (pc' := 57) rfl (k0 := 0) (ci := 6) (As := [.ref (12 + p)]) (rest := []) (idx := 215) (np := 1) (kX6_steepTelling L p σ hL hB hp) (by decide) rfl rfl rfl (by decide +kernel) rfl wmX6_215 wi_yX6_steepTelling ws_yX6_steepTelling wn_X6 wc_yX6_steepTelling (by decide) (by decide) (D 17 (54, .invokevirtual 215, 3) rfl) (Nat.le_of_ble_eq_true rfl) rfl (fun w54 u54 h54 => ?_)
      rw [h54.1, h54.2, hTr]
      show cv_At X _ _ (cv_u σ 0 4 (cv_lv 1 (cv_lv 2 tr))) 57 _ [.int (nI (L 4 p + 100))]
      exact cv_iret C Rt rfl (D 18 (57, .ireturn, 1) rfl) ⟨congrArg (fun z => some (Value.int z)) (by unfold cv_a_tell; rw [if_pos b5, cv_nt, nI_clamp (by omega)]; rw [if_pos hk]), by unfold cv_t_tell; rw [if_pos b5, cv_nt, nI_clamp (by omega)]; rw [if_pos hk]; exact cv_RC_t _ hR⟩
    · skip
      refine cv_top (w := nI 2) (congrArg nI hk) ?_
      refine cv_lookup C (D 14 (24, .lookupswitch 40 #[(1, 28), (2, 34)], 28) rfl) (off := 34) (tgt := 58) (by decide) (by decide) (by decide) ?_
      refine cv_aload_n C (pc' := 59) rfl (D 19 (58, .aload_n 0, 1) rfl) rfl (j := 1) rfl ?_
      refine cv_aload_n C (pc' := 60) rfl (D 20 (59, .aload_n 2, 1) rfl) rfl (j := 0) rfl ?_
      refine cv_callV C (pc' := 63) rfl (k0 := 0) (ci := 6) (As := [.ref (12 + p)]) (rest := []) (idx := 219) (np := 1) (kX6_tunnelTelling L p σ hL hB hp) (by decide) rfl rfl rfl (by decide +kernel) rfl wmX6_219 wi_yX6_tunnelTelling ws_yX6_tunnelTelling wn_X6 wc_yX6_tunnelTelling (by decide) (by decide) (D 21 (60, .invokevirtual 219, 3) rfl) (Nat.le_of_ble_eq_true rfl) rfl (fun w60 u60 h60 => ?_)
      rw [h60.1, h60.2, hTr]
      show cv_At X _ _ (cv_u σ 0 4 (cv_lv 1 (cv_lv 1 (cv_lv 2 (cv_lv 3 tr))))) 63 _ [.int (nI (L 4 p + 100 + L 4 p))]
      exact cv_iret C Rt rfl (D 22 (63, .ireturn, 1) rfl) ⟨congrArg (fun z => some (Value.int z)) (by unfold cv_a_tell; rw [if_pos b5, cv_nt, nI_clamp (by omega)]; rw [if_neg (by omega), if_pos hk]), by unfold cv_t_tell; rw [if_pos b5, cv_nt, nI_clamp (by omega)]; rw [if_neg (by omega), if_pos hk]; exact cv_RC_t _ hR⟩
  · skip
    refine cv_iconst C (pc' := 9) rfl (D 4 (8, .iconst (-1), 1) rfl) (v := -1) (by decide) ?_
    exact cv_iret C Rt rfl (D 5 (9, .ireturn, 1) rfl) ⟨congrArg (fun z => some (Value.int z)) (by unfold cv_a_tell; rw [if_neg (by simp [b5])]), by unfold cv_t_tell; rw [if_neg (by simp [b5])]; exact hR⟩

set_option maxHeartbeats 4000000 in
set_option maxRecDepth 100000 in
theorem pX6_mark (tr : Int32) (ft : Nat) (sl : Nat → Option (Nat × Nat)) (sc : Nat → Nat → Int32) (L : cv_L) (rc : Nat) (rd : Nat → Nat) (rn : Nat → Option Nat) (x : Int32) (σ : cv_St) (hR : cv_RC tr ft sl sc L rc rd rn σ) (hB : cv_LB L) (hDB : cv_DB rc rd rn) : cv_Ct yX6_mark cX6_mark 2 (some .int) 2 0 0 26 cv_shC [.ref 0, .int x] σ (fun v u => v = some (.int (cv_a_mark L x)) ∧ cv_RC (cv_t_mark L tr x) ft sl sc L rc rd rn u) := by
  refine cv_enter (own := RX6) (by decide) rfl (Nat.le_of_ble_eq_true rfl) ?_
  intro X a C Rt hRm
  have D := @cv_dec _ _ dkX6_mark
  obtain ⟨hTr, hFt, hSh, hL, hSe, hD⟩ := id hR
  have hn6 := hB.1
  have hrc := hDB.1
  show cv_At X _ _ σ 0 [(0, .ref 0), (1, .int x)] []
  refine cv_aload_n C (pc' := 1) rfl (D 0 (0, .aload_n 0, 1) rfl) rfl (j := 0) rfl ?_
  refine cv_iload_n C (pc' := 2) rfl (D 1 (1, .iload_n 1, 1) rfl) rfl (j := 1) rfl ?_
  refine cv_callV C (pc' := 5) rfl (k0 := 0) (ci := 6) (As := [.int x]) (rest := []) (idx := 81) (np := 1) (kX6_isPass x L σ hL) (by decide) rfl rfl rfl (by decide +kernel) rfl wmX6_81 wi_yX6_isPass ws_yX6_isPass wn_X6 wc_yX6_isPass (by decide) (by decide) (D 2 (2, .invokevirtual 81, 3) rfl) (Nat.le_of_ble_eq_true rfl) rfl (fun w9 u9 h9 => ?_)
  rw [h9.1, h9.2]
  show cv_At X _ _ σ 5 _ [.int (cv_b (cv_in x (L 7 0)))]
  refine cv_if_neB C (pc' := 8) rfl (tgt := 10) (D 3 (5, .ifCond .ne 5, 3) rfl) (by decide) (fun b5 => ?_) (fun b5 => ?_)
  · skip
    obtain ⟨p, hp, rfl⟩ := cv_in_of b5 (by omega)
    have hp6 : p < 6 := by omega
    have hp := hp
    have hk2 := (hB.2.1 p hp).1
    refine cv_aload_n C (pc' := 11) rfl (D 6 (10, .aload_n 0, 1) rfl) rfl (j := 0) rfl ?_
    refine cv_get C (pc' := 14) rfl (k0 := 0) (i := 1) (ci := 6) (by decide) rfl rfl (by decide) (o := some 10) rfl iw_X6 wfX6_21 (D 7 (11, .getfield 21, 3) rfl) rfl ?_
    refine cv_get C (pc' := 17) rfl (k0 := 10) (i := 0) (ci := 0) (by decide) rfl rfl (by decide) (o := some 11) rfl iw_X0 wfX6_84 (D 8 (14, .getfield 84, 3) rfl) rfl ?_
    refine cv_iload_n C (pc' := 18) rfl (D 9 (17, .iload_n 1, 1) rfl) rfl (j := 1) rfl ?_
    refine cv_aald C (pc' := 19) rfl (k0 := 11) (j := p) (r := 12 + p) (by decide) rfl rfl rfl (cv_ix_p hp6) (by decide) (D 10 (18, .aaload, 1) rfl) ?_
    refine cv_get C (pc' := 22) rfl (k0 := 12 + p) (i := 0) (ci := 1) (cv_lt_p hp6) (cv_shC_p hp6) rfl (by decide) (o := none) rfl iw_X1 wfX6_88 (D 11 (19, .getfield 88, 3) rfl) (v := .int (nI (L 0 p))) (congrArg Value.int (hL.2.2.2 p hp 0 (by decide))) ?_
    refine cv_iconst C (pc' := 23) rfl (D 12 (22, .iconst 2, 1) rfl) (v := nI 2) (by decide) ?_
    refine cv_icmp_neN C (pc' := 26) rfl (by omega) (by omega) (tgt := 34) (D 13 (23, .if_icmp .ne 11, 3) rfl) (by decide) (fun b23 => ?_) (fun b23 => ?_)
    · skip
      refine cv_aload_n C (pc' := 35) rfl (D 19 (34, .aload_n 0, 1) rfl) rfl (j := 0) rfl ?_
      refine cv_iconst C (pc' := 36) rfl (D 20 (35, .iconst 4, 1) rfl) (v := nI 4) (by decide) ?_
      refine cv_callV C (pc' := 39) rfl (k0 := 0) (ci := 6) (As := [.int (nI 4)]) (rest := []) (idx := 225) (np := 1) (kX6_leave 4 σ) (by decide) rfl rfl rfl (by decide +kernel) rfl wmX6_225 wi_yX6_leave ws_yX6_leave wn_X6 wc_yX6_leave (by decide) (by decide) (D 21 (36, .invokevirtual 225, 3) rfl) (Nat.le_of_ble_eq_true rfl) rfl (fun w36 u36 h36 => ?_)
      rw [h36.1, h36.2, hTr]
      show cv_At X _ _ (cv_u σ 0 4 (cv_lv 4 tr)) 39 _ []
      refine cv_iload_n C (pc' := 40) rfl (D 22 (39, .iload_n 1, 1) rfl) rfl (j := 1) rfl ?_
      exact cv_iret C Rt rfl (D 23 (40, .ireturn, 1) rfl) ⟨congrArg (fun z => some (Value.int z)) (by unfold cv_a_mark; rw [if_pos b5, cv_nt, nI_clamp (by omega), if_neg b23]; try rfl), by unfold cv_t_mark; rw [if_pos b5, cv_nt, nI_clamp (by omega), if_neg b23]; exact cv_RC_t _ hR⟩
    · skip
      refine cv_aload_n C (pc' := 27) rfl (D 14 (26, .aload_n 0, 1) rfl) rfl (j := 0) rfl ?_
      refine cv_iconst C (pc' := 28) rfl (D 15 (27, .iconst 5, 1) rfl) (v := nI 5) (by decide) ?_
      refine cv_callV C (pc' := 31) rfl (k0 := 0) (ci := 6) (As := [.int (nI 5)]) (rest := []) (idx := 225) (np := 1) (kX6_leave 5 σ) (by decide) rfl rfl rfl (by decide +kernel) rfl wmX6_225 wi_yX6_leave ws_yX6_leave wn_X6 wc_yX6_leave (by decide) (by decide) (D 16 (28, .invokevirtual 225, 3) rfl) (Nat.le_of_ble_eq_true rfl) rfl (fun w28 u28 h28 => ?_)
      rw [h28.1, h28.2, hTr]
      show cv_At X _ _ (cv_u σ 0 4 (cv_lv 5 tr)) 31 _ []
      refine cv_bipush C (pc' := 33) rfl (D 17 (31, .bipush 80, 2) rfl) (v := nI 80) (by decide) ?_
      exact cv_iret C Rt rfl (D 18 (33, .ireturn, 1) rfl) ⟨congrArg (fun z => some (Value.int z)) (by unfold cv_a_mark; rw [if_pos b5, cv_nt, nI_clamp (by omega), if_pos b23]; try rfl), by unfold cv_t_mark; rw [if_pos b5, cv_nt, nI_clamp (by omega), if_pos b23]; exact cv_RC_t _ hR⟩
  · skip
    refine cv_iconst C (pc' := 9) rfl (D 4 (8, .iconst (-1), 1) rfl) (v := -1) (by decide) ?_
    exact cv_iret C Rt rfl (D 5 (9, .ireturn, 1) rfl) ⟨congrArg (fun z => some (Value.int z)) (by unfold cv_a_mark; rw [if_neg (by simp [b5])]), by unfold cv_t_mark; rw [if_neg (by simp [b5])]; exact hR⟩

set_option maxHeartbeats 4000000 in
set_option maxRecDepth 100000 in
theorem pX6_as (tr : Int32) (ft : Nat) (sl : Nat → Option (Nat × Nat)) (sc : Nat → Nat → Int32) (L : cv_L) (rc : Nat) (rd : Nat → Nat) (rn : Nat → Option Nat) (x y : Int32) (σ : cv_St) (hR : cv_RC tr ft sl sc L rc rd rn σ) (hB : cv_LB L) (hDB : cv_DB rc rd rn) : cv_Ct yX6_as cX6_as 3 (some .int) 2 0 0 26 cv_shC [.ref 0, .int x, .int y] σ (fun v u => v = some (.int (cv_a_as L x y)) ∧ cv_RC tr (cv_f_as L x y) sl sc L rc rd rn u) := by
  refine cv_enter (own := RX6) (by decide) rfl (Nat.le_of_ble_eq_true rfl) ?_
  intro X a C Rt hRm
  have D := @cv_dec _ _ dkX6_as
  obtain ⟨hTr, hFt, hSh, hL, hSe, hD⟩ := id hR
  have hn6 := hB.1
  have hrc := hDB.1
  show cv_At X _ _ σ 0 [(0, .ref 0), (1, .int x), (2, .int y)] []
  refine cv_aload_n C (pc' := 1) rfl (D 0 (0, .aload_n 0, 1) rfl) rfl (j := 0) rfl ?_
  refine cv_iconst C (pc' := 2) rfl (D 1 (1, .iconst 0, 1) rfl) (v := nI 0) (by decide) ?_
  refine cv_put C (pc' := 5) rfl (k0 := 0) (i := 5) (ci := 6) (by decide) rfl rfl (by decide) rfl iw_X6 tyX6 tyX6_ok nmX6 wfX6_39 rfl rfl rfl (D 2 (2, .putfield 39, 3) rfl) ?_
  refine cv_aload_n C (pc' := 6) rfl (D 3 (5, .aload_n 0, 1) rfl) rfl (j := 0) rfl ?_
  refine cv_iload_n C (pc' := 7) rfl (D 4 (6, .iload_n 1, 1) rfl) rfl (j := 1) rfl ?_
  refine cv_callV C (pc' := 10) rfl (k0 := 0) (ci := 6) (As := [.int x]) (rest := []) (idx := 81) (np := 1) (kX6_isPass x L (cv_u σ 0 5 (nI 0)) (cv_LC_0 hL hB)) (by decide) rfl rfl rfl (by decide +kernel) rfl wmX6_81 wi_yX6_isPass ws_yX6_isPass wn_X6 wc_yX6_isPass (by decide) (by decide) (D 5 (7, .invokevirtual 81, 3) rfl) (Nat.le_of_ble_eq_true rfl) rfl (fun w9 u9 h9 => ?_)
  rw [h9.1, h9.2]
  show cv_At X _ _ (cv_u σ 0 5 (nI 0)) 10 _ [.int (cv_b (cv_in x (L 7 0)))]
  refine cv_if_neB C (pc' := 13) rfl (tgt := 15) (D 6 (10, .ifCond .ne 5, 3) rfl) (by decide) (fun b10 => ?_) (fun b10 => ?_)
  · skip
    refine cv_iload_n C (pc' := 16) rfl (D 9 (15, .iload_n 2, 1) rfl) rfl (j := 2) rfl ?_
    refine cv_iconst C (pc' := 17) rfl (D 10 (16, .iconst 3, 1) rfl) (v := nI 3) (by decide) ?_
    refine cv_callS C (pc' := 20) rfl (As := [.int y, .int (nI 3)]) (rest := []) (idx := 111) (np := 2) (kX6_isBelow y 3 (cv_u σ 0 5 (nI 0))) (by decide +kernel) rfl wmX6_111 wt_yX6_isBelow wn_X6 wc_yX6_isBelow (by decide) (by decide) (D 11 (17, .invokestatic 111, 3) rfl) (Nat.le_of_ble_eq_true rfl) rfl (fun w9 u9 h9 => ?_)
    rw [h9.1, h9.2]
    show cv_At X _ _ (cv_u σ 0 5 (nI 0)) 20 _ [.int (cv_b (cv_in y 3))]
    refine cv_if_neB C (pc' := 23) rfl (tgt := 26) (D 12 (20, .ifCond .ne 6, 3) rfl) (by decide) (fun b20 => ?_) (fun b20 => ?_)
    · skip
      obtain ⟨p, hp, rfl⟩ := cv_in_of b10 (by omega)
      obtain ⟨w, hw, rfl⟩ := cv_in_of b20 (by omega)
      have hp6 : p < 6 := by omega
      have hk2 := (hB.2.1 p hp).1
      refine cv_aload_n C (pc' := 27) rfl (D 15 (26, .aload_n 0, 1) rfl) rfl (j := 0) rfl ?_
      refine cv_get C (pc' := 30) rfl (k0 := 0) (i := 1) (ci := 6) (by decide) rfl rfl (by decide) (o := some 10) rfl iw_X6 wfX6_21 (D 16 (27, .getfield 21, 3) rfl) rfl ?_
      refine cv_get C (pc' := 33) rfl (k0 := 10) (i := 0) (ci := 0) (by decide) rfl rfl (by decide) (o := some 11) rfl iw_X0 wfX6_84 (D 17 (30, .getfield 84, 3) rfl) rfl ?_
      refine cv_iload_n C (pc' := 34) rfl (D 18 (33, .iload_n 1, 1) rfl) rfl (j := 1) rfl ?_
      refine cv_aald C (pc' := 35) rfl (k0 := 11) (j := p) (r := 12 + p) (by decide) rfl rfl rfl (cv_ix_p hp6) (by decide) (D 19 (34, .aaload, 1) rfl) ?_
      refine cv_get C (pc' := 38) rfl (k0 := 12 + p) (i := 0) (ci := 1) (cv_lt_p hp6) (cv_shC_p hp6) rfl (by decide) (o := none) rfl iw_X1 wfX6_88 (D 20 (35, .getfield 88, 3) rfl) (v := .int (nI (L 0 p))) (congrArg Value.int ((congrFun (cv_u_c (by omega)) _).trans (hL.2.2.2 p hp 0 (by decide)))) ?_
      refine cv_iload_n C (pc' := 39) rfl (D 21 (38, .iload_n 2, 1) rfl) rfl (j := 2) rfl ?_
      refine cv_icmp_geN C (pc' := 42) rfl (by omega) (by omega) (tgt := 50) (D 22 (39, .if_icmp .ge 11, 3) rfl) (by decide) (fun b39 => ?_) (fun b39 => ?_)
      · skip
        refine cv_iconst C (pc' := 51) rfl (D 27 (50, .iconst 1, 1) rfl) (v := nI 1) (by decide) ?_
        exact cv_iret C Rt rfl (D 28 (51, .ireturn, 1) rfl) ⟨congrArg (fun z => some (Value.int z)) (by unfold cv_a_as; rw [if_pos b10, if_pos b20, cv_nt, nI_clamp (by omega), cv_nt, nI_clamp (by omega), if_pos b39]; rfl), by unfold cv_f_as; rw [if_neg (fun h => by have := h.2.2; rw [cv_nt, nI_clamp (by omega), cv_nt, nI_clamp (by omega)] at this; omega)]; exact cv_RC_f _ hR⟩
      · skip
        refine cv_aload_n C (pc' := 43) rfl (D 23 (42, .aload_n 0, 1) rfl) rfl (j := 0) rfl ?_
        refine cv_iconst C (pc' := 44) rfl (D 24 (43, .iconst 2, 1) rfl) (v := nI 2) (by decide) ?_
        refine cv_callV C (pc' := 47) rfl (k0 := 0) (ci := 6) (As := [.int (nI 2)]) (rest := []) (idx := 54) (np := 1) (kX6_failed 2 (cv_u σ 0 5 (nI 0))) (by decide) rfl rfl rfl (by decide +kernel) rfl wmX6_54 wi_yX6_failed ws_yX6_failed wn_X6 wc_yX6_failed (by decide) (by decide) (D 25 (44, .invokevirtual 54, 3) rfl) (Nat.le_of_ble_eq_true rfl) rfl (fun w44 u44 h44 => ?_)
        rw [h44.1, h44.2, cv_uu]
        show cv_At X _ _ (cv_u σ 0 5 (nI 2)) 47 _ [.int (-10 - nI 2)]
        refine cv_goto C (tgt := 51) (D 26 (47, .goto 4, 3) rfl) (by decide) ?_
        exact cv_iret C Rt rfl (D 28 (51, .ireturn, 1) rfl) ⟨congrArg (fun z => some (Value.int z)) (by unfold cv_a_as; rw [if_pos b10, if_pos b20, cv_nt, nI_clamp (by omega), cv_nt, nI_clamp (by omega), if_neg (by omega)]; decide), by unfold cv_f_as; rw [if_pos ⟨b10, b20, by rw [cv_nt, nI_clamp (by omega), cv_nt, nI_clamp (by omega)]; omega⟩]; exact cv_RC_f _ hR⟩
    · skip
      refine cv_bipush C (pc' := 25) rfl (D 13 (23, .bipush (-2), 2) rfl) (v := -2) (by decide) ?_
      exact cv_iret C Rt rfl (D 14 (25, .ireturn, 1) rfl) ⟨congrArg (fun z => some (Value.int z)) (by unfold cv_a_as; rw [if_pos b10, if_neg (by simp [b20])]), by unfold cv_f_as; rw [if_neg (by simp [b20])]; exact cv_RC_f _ hR⟩
  · skip
    refine cv_iconst C (pc' := 14) rfl (D 7 (13, .iconst (-1), 1) rfl) (v := -1) (by decide) ?_
    exact cv_iret C Rt rfl (D 8 (14, .ireturn, 1) rfl) ⟨congrArg (fun z => some (Value.int z)) (by unfold cv_a_as; rw [if_neg (by simp [b10])]), by unfold cv_f_as; rw [if_neg (by simp [b10])]; exact cv_RC_f _ hR⟩

def cv_bcx (x : Int32) : Int32 := (((((((x - (((x.toUInt32 >>> ((nI 1).toUInt32 &&& Int32.toUInt32 31)).toInt32) &&& 1431655765)) &&& 858993459) + ((((x - (((x.toUInt32 >>> ((nI 1).toUInt32 &&& Int32.toUInt32 31)).toInt32) &&& 1431655765)).toUInt32 >>> ((nI 2).toUInt32 &&& Int32.toUInt32 31)).toInt32) &&& 858993459)) + (((((x - (((x.toUInt32 >>> ((nI 1).toUInt32 &&& Int32.toUInt32 31)).toInt32) &&& 1431655765)) &&& 858993459) + ((((x - (((x.toUInt32 >>> ((nI 1).toUInt32 &&& Int32.toUInt32 31)).toInt32) &&& 1431655765)).toUInt32 >>> ((nI 2).toUInt32 &&& Int32.toUInt32 31)).toInt32) &&& 858993459)).toUInt32 >>> ((nI 4).toUInt32 &&& Int32.toUInt32 31)).toInt32)) &&& 252645135) + (((((((x - (((x.toUInt32 >>> ((nI 1).toUInt32 &&& Int32.toUInt32 31)).toInt32) &&& 1431655765)) &&& 858993459) + ((((x - (((x.toUInt32 >>> ((nI 1).toUInt32 &&& Int32.toUInt32 31)).toInt32) &&& 1431655765)).toUInt32 >>> ((nI 2).toUInt32 &&& Int32.toUInt32 31)).toInt32) &&& 858993459)) + (((((x - (((x.toUInt32 >>> ((nI 1).toUInt32 &&& Int32.toUInt32 31)).toInt32) &&& 1431655765)) &&& 858993459) + ((((x - (((x.toUInt32 >>> ((nI 1).toUInt32 &&& Int32.toUInt32 31)).toInt32) &&& 1431655765)).toUInt32 >>> ((nI 2).toUInt32 &&& Int32.toUInt32 31)).toInt32) &&& 858993459)).toUInt32 >>> ((nI 4).toUInt32 &&& Int32.toUInt32 31)).toInt32)) &&& 252645135).toUInt32 >>> ((nI 8).toUInt32 &&& Int32.toUInt32 31)).toInt32)) + ((((((((x - (((x.toUInt32 >>> ((nI 1).toUInt32 &&& Int32.toUInt32 31)).toInt32) &&& 1431655765)) &&& 858993459) + ((((x - (((x.toUInt32 >>> ((nI 1).toUInt32 &&& Int32.toUInt32 31)).toInt32) &&& 1431655765)).toUInt32 >>> ((nI 2).toUInt32 &&& Int32.toUInt32 31)).toInt32) &&& 858993459)) + (((((x - (((x.toUInt32 >>> ((nI 1).toUInt32 &&& Int32.toUInt32 31)).toInt32) &&& 1431655765)) &&& 858993459) + ((((x - (((x.toUInt32 >>> ((nI 1).toUInt32 &&& Int32.toUInt32 31)).toInt32) &&& 1431655765)).toUInt32 >>> ((nI 2).toUInt32 &&& Int32.toUInt32 31)).toInt32) &&& 858993459)).toUInt32 >>> ((nI 4).toUInt32 &&& Int32.toUInt32 31)).toInt32)) &&& 252645135) + (((((((x - (((x.toUInt32 >>> ((nI 1).toUInt32 &&& Int32.toUInt32 31)).toInt32) &&& 1431655765)) &&& 858993459) + ((((x - (((x.toUInt32 >>> ((nI 1).toUInt32 &&& Int32.toUInt32 31)).toInt32) &&& 1431655765)).toUInt32 >>> ((nI 2).toUInt32 &&& Int32.toUInt32 31)).toInt32) &&& 858993459)) + (((((x - (((x.toUInt32 >>> ((nI 1).toUInt32 &&& Int32.toUInt32 31)).toInt32) &&& 1431655765)) &&& 858993459) + ((((x - (((x.toUInt32 >>> ((nI 1).toUInt32 &&& Int32.toUInt32 31)).toInt32) &&& 1431655765)).toUInt32 >>> ((nI 2).toUInt32 &&& Int32.toUInt32 31)).toInt32) &&& 858993459)).toUInt32 >>> ((nI 4).toUInt32 &&& Int32.toUInt32 31)).toInt32)) &&& 252645135).toUInt32 >>> ((nI 8).toUInt32 &&& Int32.toUInt32 31)).toInt32)).toUInt32 >>> ((nI 16).toUInt32 &&& Int32.toUInt32 31)).toInt32)) &&& (nI 63)
set_option maxHeartbeats 4000000 in
set_option maxRecDepth 100000 in
theorem kJ6_bitCount {n : Nat} {sh : Nat → cv_Sh} (x : Int32) (σ : cv_St)  : cv_Ct yJ6_bitCount_0f7a4 cJ6_bitCount_0f7a4 1 (some .int) 0 0 0 n sh [.int x] σ (cv_pu (.int (cv_bcx x)) σ) := by
  refine cv_enter (own := RJ6) (by decide) rfl (Nat.le_of_ble_eq_true rfl) ?_
  intro X a C Rt hRm
  have D := @cv_dec _ _ dkJ6_bitCount_0f7a4
  show cv_At X _ _ σ 0 [(0, .int x)] []
  refine cv_iload_n C (pc' := 1) rfl (D 0 (0, .iload_n 0, 1) rfl) rfl (j := 0) rfl ?_
  refine cv_iload_n C (pc' := 2) rfl (D 1 (1, .iload_n 0, 1) rfl) rfl (j := 0) rfl ?_
  refine cv_iconst C (pc' := 3) rfl (D 2 (2, .iconst 1, 1) rfl) (v := nI 1) (by decide) ?_
  refine cv_iushr C (pc' := 4) rfl (D 3 (3, .iushr, 1) rfl) rfl ?_
  refine cv_ldcw C (pc' := 7) rfl wjJ6_265 (D 4 (4, .ldc_w 265, 3) rfl) ?_
  refine cv_iand C (pc' := 8) rfl (D 5 (7, .iand, 1) rfl) ?_
  refine cv_isub C (pc' := 9) rfl (D 6 (8, .isub, 1) rfl) ?_
  refine cv_istore_n C (pc' := 10) rfl (D 7 (9, .istore_n 0, 1) rfl) rfl (by decide) (lv' := [(0, .int (x - (((x.toUInt32 >>> ((nI 1).toUInt32 &&& Int32.toUInt32 31)).toInt32) &&& 1431655765)))]) rfl ?_
  refine cv_iload_n C (pc' := 11) rfl (D 8 (10, .iload_n 0, 1) rfl) rfl (j := 0) rfl ?_
  refine cv_ldcw C (pc' := 14) rfl wjJ6_266 (D 9 (11, .ldc_w 266, 3) rfl) ?_
  refine cv_iand C (pc' := 15) rfl (D 10 (14, .iand, 1) rfl) ?_
  refine cv_iload_n C (pc' := 16) rfl (D 11 (15, .iload_n 0, 1) rfl) rfl (j := 0) rfl ?_
  refine cv_iconst C (pc' := 17) rfl (D 12 (16, .iconst 2, 1) rfl) (v := nI 2) (by decide) ?_
  refine cv_iushr C (pc' := 18) rfl (D 13 (17, .iushr, 1) rfl) rfl ?_
  refine cv_ldcw C (pc' := 21) rfl wjJ6_266 (D 14 (18, .ldc_w 266, 3) rfl) ?_
  refine cv_iand C (pc' := 22) rfl (D 15 (21, .iand, 1) rfl) ?_
  refine cv_iadd C (pc' := 23) rfl (D 16 (22, .iadd, 1) rfl) ?_
  refine cv_istore_n C (pc' := 24) rfl (D 17 (23, .istore_n 0, 1) rfl) rfl (by decide) (lv' := [(0, .int (((x - (((x.toUInt32 >>> ((nI 1).toUInt32 &&& Int32.toUInt32 31)).toInt32) &&& 1431655765)) &&& 858993459) + ((((x - (((x.toUInt32 >>> ((nI 1).toUInt32 &&& Int32.toUInt32 31)).toInt32) &&& 1431655765)).toUInt32 >>> ((nI 2).toUInt32 &&& Int32.toUInt32 31)).toInt32) &&& 858993459)))]) rfl ?_
  refine cv_iload_n C (pc' := 25) rfl (D 18 (24, .iload_n 0, 1) rfl) rfl (j := 0) rfl ?_
  refine cv_iload_n C (pc' := 26) rfl (D 19 (25, .iload_n 0, 1) rfl) rfl (j := 0) rfl ?_
  refine cv_iconst C (pc' := 27) rfl (D 20 (26, .iconst 4, 1) rfl) (v := nI 4) (by decide) ?_
  refine cv_iushr C (pc' := 28) rfl (D 21 (27, .iushr, 1) rfl) rfl ?_
  refine cv_iadd C (pc' := 29) rfl (D 22 (28, .iadd, 1) rfl) ?_
  refine cv_ldcw C (pc' := 32) rfl wjJ6_267 (D 23 (29, .ldc_w 267, 3) rfl) ?_
  refine cv_iand C (pc' := 33) rfl (D 24 (32, .iand, 1) rfl) ?_
  refine cv_istore_n C (pc' := 34) rfl (D 25 (33, .istore_n 0, 1) rfl) rfl (by decide) (lv' := [(0, .int (((((x - (((x.toUInt32 >>> ((nI 1).toUInt32 &&& Int32.toUInt32 31)).toInt32) &&& 1431655765)) &&& 858993459) + ((((x - (((x.toUInt32 >>> ((nI 1).toUInt32 &&& Int32.toUInt32 31)).toInt32) &&& 1431655765)).toUInt32 >>> ((nI 2).toUInt32 &&& Int32.toUInt32 31)).toInt32) &&& 858993459)) + (((((x - (((x.toUInt32 >>> ((nI 1).toUInt32 &&& Int32.toUInt32 31)).toInt32) &&& 1431655765)) &&& 858993459) + ((((x - (((x.toUInt32 >>> ((nI 1).toUInt32 &&& Int32.toUInt32 31)).toInt32) &&& 1431655765)).toUInt32 >>> ((nI 2).toUInt32 &&& Int32.toUInt32 31)).toInt32) &&& 858993459)).toUInt32 >>> ((nI 4).toUInt32 &&& Int32.toUInt32 31)).toInt32)) &&& 252645135))]) rfl ?_
  refine cv_iload_n C (pc' := 35) rfl (D 26 (34, .iload_n 0, 1) rfl) rfl (j := 0) rfl ?_
  refine cv_iload_n C (pc' := 36) rfl (D 27 (35, .iload_n 0, 1) rfl) rfl (j := 0) rfl ?_
  refine cv_bipush C (pc' := 38) rfl (D 28 (36, .bipush 8, 2) rfl) (v := nI 8) (by decide) ?_
  refine cv_iushr C (pc' := 39) rfl (D 29 (38, .iushr, 1) rfl) rfl ?_
  refine cv_iadd C (pc' := 40) rfl (D 30 (39, .iadd, 1) rfl) ?_
  refine cv_istore_n C (pc' := 41) rfl (D 31 (40, .istore_n 0, 1) rfl) rfl (by decide) (lv' := [(0, .int ((((((x - (((x.toUInt32 >>> ((nI 1).toUInt32 &&& Int32.toUInt32 31)).toInt32) &&& 1431655765)) &&& 858993459) + ((((x - (((x.toUInt32 >>> ((nI 1).toUInt32 &&& Int32.toUInt32 31)).toInt32) &&& 1431655765)).toUInt32 >>> ((nI 2).toUInt32 &&& Int32.toUInt32 31)).toInt32) &&& 858993459)) + (((((x - (((x.toUInt32 >>> ((nI 1).toUInt32 &&& Int32.toUInt32 31)).toInt32) &&& 1431655765)) &&& 858993459) + ((((x - (((x.toUInt32 >>> ((nI 1).toUInt32 &&& Int32.toUInt32 31)).toInt32) &&& 1431655765)).toUInt32 >>> ((nI 2).toUInt32 &&& Int32.toUInt32 31)).toInt32) &&& 858993459)).toUInt32 >>> ((nI 4).toUInt32 &&& Int32.toUInt32 31)).toInt32)) &&& 252645135) + (((((((x - (((x.toUInt32 >>> ((nI 1).toUInt32 &&& Int32.toUInt32 31)).toInt32) &&& 1431655765)) &&& 858993459) + ((((x - (((x.toUInt32 >>> ((nI 1).toUInt32 &&& Int32.toUInt32 31)).toInt32) &&& 1431655765)).toUInt32 >>> ((nI 2).toUInt32 &&& Int32.toUInt32 31)).toInt32) &&& 858993459)) + (((((x - (((x.toUInt32 >>> ((nI 1).toUInt32 &&& Int32.toUInt32 31)).toInt32) &&& 1431655765)) &&& 858993459) + ((((x - (((x.toUInt32 >>> ((nI 1).toUInt32 &&& Int32.toUInt32 31)).toInt32) &&& 1431655765)).toUInt32 >>> ((nI 2).toUInt32 &&& Int32.toUInt32 31)).toInt32) &&& 858993459)).toUInt32 >>> ((nI 4).toUInt32 &&& Int32.toUInt32 31)).toInt32)) &&& 252645135).toUInt32 >>> ((nI 8).toUInt32 &&& Int32.toUInt32 31)).toInt32)))]) rfl ?_
  refine cv_iload_n C (pc' := 42) rfl (D 32 (41, .iload_n 0, 1) rfl) rfl (j := 0) rfl ?_
  refine cv_iload_n C (pc' := 43) rfl (D 33 (42, .iload_n 0, 1) rfl) rfl (j := 0) rfl ?_
  refine cv_bipush C (pc' := 45) rfl (D 34 (43, .bipush 16, 2) rfl) (v := nI 16) (by decide) ?_
  refine cv_iushr C (pc' := 46) rfl (D 35 (45, .iushr, 1) rfl) rfl ?_
  refine cv_iadd C (pc' := 47) rfl (D 36 (46, .iadd, 1) rfl) ?_
  refine cv_istore_n C (pc' := 48) rfl (D 37 (47, .istore_n 0, 1) rfl) rfl (by decide) (lv' := [(0, .int (((((((x - (((x.toUInt32 >>> ((nI 1).toUInt32 &&& Int32.toUInt32 31)).toInt32) &&& 1431655765)) &&& 858993459) + ((((x - (((x.toUInt32 >>> ((nI 1).toUInt32 &&& Int32.toUInt32 31)).toInt32) &&& 1431655765)).toUInt32 >>> ((nI 2).toUInt32 &&& Int32.toUInt32 31)).toInt32) &&& 858993459)) + (((((x - (((x.toUInt32 >>> ((nI 1).toUInt32 &&& Int32.toUInt32 31)).toInt32) &&& 1431655765)) &&& 858993459) + ((((x - (((x.toUInt32 >>> ((nI 1).toUInt32 &&& Int32.toUInt32 31)).toInt32) &&& 1431655765)).toUInt32 >>> ((nI 2).toUInt32 &&& Int32.toUInt32 31)).toInt32) &&& 858993459)).toUInt32 >>> ((nI 4).toUInt32 &&& Int32.toUInt32 31)).toInt32)) &&& 252645135) + (((((((x - (((x.toUInt32 >>> ((nI 1).toUInt32 &&& Int32.toUInt32 31)).toInt32) &&& 1431655765)) &&& 858993459) + ((((x - (((x.toUInt32 >>> ((nI 1).toUInt32 &&& Int32.toUInt32 31)).toInt32) &&& 1431655765)).toUInt32 >>> ((nI 2).toUInt32 &&& Int32.toUInt32 31)).toInt32) &&& 858993459)) + (((((x - (((x.toUInt32 >>> ((nI 1).toUInt32 &&& Int32.toUInt32 31)).toInt32) &&& 1431655765)) &&& 858993459) + ((((x - (((x.toUInt32 >>> ((nI 1).toUInt32 &&& Int32.toUInt32 31)).toInt32) &&& 1431655765)).toUInt32 >>> ((nI 2).toUInt32 &&& Int32.toUInt32 31)).toInt32) &&& 858993459)).toUInt32 >>> ((nI 4).toUInt32 &&& Int32.toUInt32 31)).toInt32)) &&& 252645135).toUInt32 >>> ((nI 8).toUInt32 &&& Int32.toUInt32 31)).toInt32)) + ((((((((x - (((x.toUInt32 >>> ((nI 1).toUInt32 &&& Int32.toUInt32 31)).toInt32) &&& 1431655765)) &&& 858993459) + ((((x - (((x.toUInt32 >>> ((nI 1).toUInt32 &&& Int32.toUInt32 31)).toInt32) &&& 1431655765)).toUInt32 >>> ((nI 2).toUInt32 &&& Int32.toUInt32 31)).toInt32) &&& 858993459)) + (((((x - (((x.toUInt32 >>> ((nI 1).toUInt32 &&& Int32.toUInt32 31)).toInt32) &&& 1431655765)) &&& 858993459) + ((((x - (((x.toUInt32 >>> ((nI 1).toUInt32 &&& Int32.toUInt32 31)).toInt32) &&& 1431655765)).toUInt32 >>> ((nI 2).toUInt32 &&& Int32.toUInt32 31)).toInt32) &&& 858993459)).toUInt32 >>> ((nI 4).toUInt32 &&& Int32.toUInt32 31)).toInt32)) &&& 252645135) + (((((((x - (((x.toUInt32 >>> ((nI 1).toUInt32 &&& Int32.toUInt32 31)).toInt32) &&& 1431655765)) &&& 858993459) + ((((x - (((x.toUInt32 >>> ((nI 1).toUInt32 &&& Int32.toUInt32 31)).toInt32) &&& 1431655765)).toUInt32 >>> ((nI 2).toUInt32 &&& Int32.toUInt32 31)).toInt32) &&& 858993459)) + (((((x - (((x.toUInt32 >>> ((nI 1).toUInt32 &&& Int32.toUInt32 31)).toInt32) &&& 1431655765)) &&& 858993459) + ((((x - (((x.toUInt32 >>> ((nI 1).toUInt32 &&& Int32.toUInt32 31)).toInt32) &&& 1431655765)).toUInt32 >>> ((nI 2).toUInt32 &&& Int32.toUInt32 31)).toInt32) &&& 858993459)).toUInt32 >>> ((nI 4).toUInt32 &&& Int32.toUInt32 31)).toInt32)) &&& 252645135).toUInt32 >>> ((nI 8).toUInt32 &&& Int32.toUInt32 31)).toInt32)).toUInt32 >>> ((nI 16).toUInt32 &&& Int32.toUInt32 31)).toInt32)))]) rfl ?_
  refine cv_iload_n C (pc' := 49) rfl (D 38 (48, .iload_n 0, 1) rfl) rfl (j := 0) rfl ?_
  refine cv_bipush C (pc' := 51) rfl (D 39 (49, .bipush 63, 2) rfl) (v := nI 63) (by decide) ?_
  refine cv_iand C (pc' := 52) rfl (D 40 (51, .iand, 1) rfl) ?_
  exact cv_iret C Rt rfl (D 41 (52, .ireturn, 1) rfl) ⟨rfl, rfl⟩

theorem cv_bcx8 : ∀ t, t < 256 → cv_bcx (nI t) = nI (cv_pc t) := by decide +kernel
theorem cv_c3 (y : Int32) : y = nI 0 ∨ y = nI 1 ∨ y = nI 2 ∨ (y.toInt < 0 ∨ 2 < y.toInt) := by
  rcases cv_c6 y with h | h | h | h | h | h | h
  · exact Or.inl h
  · exact Or.inr (Or.inl h)
  · exact Or.inr (Or.inr (Or.inl h))
  · exact Or.inr (Or.inr (Or.inr (by subst h; decide)))
  · exact Or.inr (Or.inr (Or.inr (by subst h; decide)))
  · exact Or.inr (Or.inr (Or.inr (by subst h; decide)))
  · exact Or.inr (Or.inr (Or.inr (by omega)))
theorem cv_pc3 {a b c : Nat} (ha : a < 256) : cv_bcx (nI (a &&& b &&& c)) = nI (cv_cnt (fun d => a.testBit d && (b.testBit d && c.testBit d)) 8) := by
  have h : a &&& b &&& c < 256 := Nat.lt_of_le_of_lt (Nat.le_trans Nat.and_le_left Nat.and_le_left) ha
  rw [cv_bcx8 _ h]
  unfold cv_pc
  congr 2
  funext d
  rw [Nat.testBit_and, Nat.testBit_and, Bool.and_assoc]
set_option maxHeartbeats 4000000 in
set_option maxRecDepth 100000 in
theorem pX6_many (tr : Int32) (ft : Nat) (sl : Nat → Option (Nat × Nat)) (sc : Nat → Nat → Int32) (L : cv_L) (rc : Nat) (rd : Nat → Nat) (rn : Nat → Option Nat) (x : Int32) (σ : cv_St) (hR : cv_RC tr ft sl sc L rc rd rn σ) (hB : cv_LB L) (hDB : cv_DB rc rd rn) : cv_Ct yX6_many cX6_many 2 (some .int) 1 0 0 26 cv_shC [.ref 0, .int x] σ (fun v u => v = some (.int (cv_a_many L rc x)) ∧ cv_RC tr ft sl sc L rc rd rn u) := by
  refine cv_enter (own := RX6) (by decide) rfl (Nat.le_of_ble_eq_true rfl) ?_
  intro X a C Rt hRm
  have D := @cv_dec _ _ dkX6_many
  obtain ⟨hTr, hFt, hSh, hL, hSe, hD⟩ := id hR
  have hn6 := hB.1
  have hrc := hDB.1
  show cv_At X _ _ σ 0 [(0, .ref 0), (1, .int x)] []
  refine cv_iload_n C (pc' := 1) rfl (D 0 (0, .iload_n 1, 1) rfl) rfl (j := 1) rfl ?_
  have hx := cv_c3 x
  rcases hx with hx | hx | hx | hx
  · skip
    subst hx
    refine cv_tableIn C (D 1 (1, .tableswitch 76 0 2 #[27, 35, 68], 27) rfl) (tgt := 28) (by decide) (by decide) rfl (by decide) ?_
    refine cv_aload_n C (pc' := 29) rfl (D 2 (28, .aload_n 0, 1) rfl) rfl (j := 0) rfl ?_
    refine cv_get C (pc' := 32) rfl (k0 := 0) (i := 1) (ci := 6) (by decide) rfl rfl (by decide) (o := some 10) rfl iw_X6 wfX6_21 (D 3 (29, .getfield 21, 3) rfl) rfl ?_
    refine cv_get C (pc' := 35) rfl (k0 := 10) (i := 6) (ci := 0) (by decide) rfl rfl (by decide) (o := none) rfl iw_X0 wfX6_78 (D 4 (32, .getfield 78, 3) rfl) (v := .int (nI (L 7 0))) (congrArg Value.int hL.1) ?_
    exact cv_iret C Rt rfl (D 5 (35, .ireturn, 1) rfl) ⟨congrArg (fun z => some (Value.int z)) (by rfl), hR⟩
  · skip
    subst hx
    refine cv_tableIn C (D 1 (1, .tableswitch 76 0 2 #[27, 35, 68], 27) rfl) (tgt := 36) (by decide) (by decide) rfl (by decide) ?_
    refine cv_aload_n C (pc' := 37) rfl (D 6 (36, .aload_n 0, 1) rfl) rfl (j := 0) rfl ?_
    refine cv_get C (pc' := 40) rfl (k0 := 0) (i := 1) (ci := 6) (by decide) rfl rfl (by decide) (o := some 10) rfl iw_X6 wfX6_21 (D 7 (37, .getfield 21, 3) rfl) rfl ?_
    refine cv_get C (pc' := 43) rfl (k0 := 10) (i := 2) (ci := 0) (by decide) rfl rfl (by decide) (o := some 19) rfl iw_X0 wfX6_125 (D 8 (40, .getfield 125, 3) rfl) rfl ?_
    refine cv_iconst C (pc' := 44) rfl (D 9 (43, .iconst 0, 1) rfl) (v := nI 0) (by decide) ?_
    refine cv_iald C (pc' := 45) rfl (k0 := 19) (j := 0) (by decide) rfl rfl (by omega) (by decide) (D 10 (44, .iaload, 1) rfl) (v := nI (L 6 0)) (hL.2.2.1 _ (by omega)) ?_
    refine cv_aload_n C (pc' := 46) rfl (D 11 (45, .aload_n 0, 1) rfl) rfl (j := 0) rfl ?_
    refine cv_get C (pc' := 49) rfl (k0 := 0) (i := 1) (ci := 6) (by decide) rfl rfl (by decide) (o := some 10) rfl iw_X6 wfX6_21 (D 12 (46, .getfield 21, 3) rfl) rfl ?_
    refine cv_get C (pc' := 52) rfl (k0 := 10) (i := 2) (ci := 0) (by decide) rfl rfl (by decide) (o := some 19) rfl iw_X0 wfX6_125 (D 13 (49, .getfield 125, 3) rfl) rfl ?_
    refine cv_iconst C (pc' := 53) rfl (D 14 (52, .iconst 1, 1) rfl) (v := nI 1) (by decide) ?_
    refine cv_iald C (pc' := 54) rfl (k0 := 19) (j := 1) (by decide) rfl rfl (by omega) (by decide) (D 15 (53, .iaload, 1) rfl) (v := nI (L 6 1)) (hL.2.2.1 _ (by omega)) ?_
    refine cv_iandN C (pc' := 55) rfl (D 16 (54, .iand, 1) rfl) ?_
    refine cv_aload_n C (pc' := 56) rfl (D 17 (55, .aload_n 0, 1) rfl) rfl (j := 0) rfl ?_
    refine cv_get C (pc' := 59) rfl (k0 := 0) (i := 1) (ci := 6) (by decide) rfl rfl (by decide) (o := some 10) rfl iw_X6 wfX6_21 (D 18 (56, .getfield 21, 3) rfl) rfl ?_
    refine cv_get C (pc' := 62) rfl (k0 := 10) (i := 2) (ci := 0) (by decide) rfl rfl (by decide) (o := some 19) rfl iw_X0 wfX6_125 (D 19 (59, .getfield 125, 3) rfl) rfl ?_
    refine cv_iconst C (pc' := 63) rfl (D 20 (62, .iconst 2, 1) rfl) (v := nI 2) (by decide) ?_
    refine cv_iald C (pc' := 64) rfl (k0 := 19) (j := 2) (by decide) rfl rfl (by omega) (by decide) (D 21 (63, .iaload, 1) rfl) (v := nI (L 6 2)) (hL.2.2.1 _ (by omega)) ?_
    refine cv_iandN C (pc' := 65) rfl (D 22 (64, .iand, 1) rfl) ?_
    refine cv_callS C (pc' := 68) rfl (As := [.int (nI (((L 6 0) &&& (L 6 1)) &&& (L 6 2)))]) (rest := []) (idx := 187) (np := 1) (kJ6_bitCount (nI (((L 6 0) &&& (L 6 1)) &&& (L 6 2))) σ) (by decide +kernel) rfl wmX6_187 wt_yJ6_bitCount_0f7a4 wn_J6 wc_yJ6_bitCount_0f7a4 (by decide) (by decide) (D 23 (65, .invokestatic 187, 3) rfl) (Nat.le_of_ble_eq_true rfl) rfl (fun w9 u9 h9 => ?_)
    rw [h9.1, h9.2]
    show cv_At X _ _ σ 68 _ [.int (cv_bcx (nI (((L 6 0) &&& (L 6 1)) &&& (L 6 2))))]
    exact cv_iret C Rt rfl (D 24 (68, .ireturn, 1) rfl) ⟨congrArg (fun z => some (Value.int z)) (by unfold cv_a_many; rw [if_neg (by decide), if_pos (by decide)]; exact cv_pc3 (hB.2.2.2 0 (by decide))), hR⟩
  · skip
    subst hx
    refine cv_tableIn C (D 1 (1, .tableswitch 76 0 2 #[27, 35, 68], 27) rfl) (tgt := 69) (by decide) (by decide) rfl (by decide) ?_
    refine cv_aload_n C (pc' := 70) rfl (D 25 (69, .aload_n 0, 1) rfl) rfl (j := 0) rfl ?_
    refine cv_get C (pc' := 73) rfl (k0 := 0) (i := 3) (ci := 6) (by decide) rfl rfl (by decide) (o := some 23) rfl iw_X6 wfX6_35 (D 26 (70, .getfield 35, 3) rfl) rfl ?_
    refine cv_get C (pc' := 76) rfl (k0 := 23) (i := 2) (ci := 2) (by decide) rfl rfl (by decide) (o := none) rfl iw_X2 wfX6_75 (D 27 (73, .getfield 75, 3) rfl) (v := .int (nI rc)) (congrArg Value.int hD.1) ?_
    exact cv_iret C Rt rfl (D 28 (76, .ireturn, 1) rfl) ⟨congrArg (fun z => some (Value.int z)) (by rfl), hR⟩
  · skip
    refine cv_tableOut C (D 1 (1, .tableswitch 76 0 2 #[27, 35, 68], 27) rfl) (tgt := 77) hx (by decide) ?_
    refine cv_bipush C (pc' := 79) rfl (D 29 (77, .bipush (-2), 2) rfl) (v := -2) (by decide) ?_
    exact cv_iret C Rt rfl (D 30 (79, .ireturn, 1) rfl) ⟨congrArg (fun z => some (Value.int z)) (by unfold cv_a_many; rw [if_neg (cv_cn hx 0 (by decide)), if_neg (cv_cn hx 1 (by decide)), if_neg (cv_cn hx 2 (by decide))]), hR⟩
end
section
theorem cv_hv_b : ∀ (k u l : Nat), u ≤ 2 ^ k → l = 2 ^ k → (cv_hv k u l).1 ≤ 2 ^ k ∧ (cv_hv k u l).2 ≤ 2 ^ k
  | 0, u, l, h1, h2 => ⟨h1, by rw [h2]; exact Nat.le_refl _⟩
  | k + 1, u, l, h1, h2 => by
    simp only [cv_hv]
    split
    · have h3 : 2 ^ (k + 1) = 2 * 2 ^ k := by rw [Nat.pow_succ]; omega
      have := cv_hv_b k (u / 2) (l / 2) (by omega) (by omega)
      exact ⟨by omega, by omega⟩
    · exact ⟨h1, by rw [h2]; exact Nat.le_refl _⟩
theorem cv_pc_le (t : Nat) : cv_pc t ≤ 8 := cv_cnt_le _ 8
/-- of the sets that a valley may keep to, at most all can do -/
theorem cv_ct_sub (g : Nat) (hg : g < 256) : cv_cnt (fun i => decide (i &&& (g ^^^ 4294967295) = 0)) 256 = 2 ^ cv_pc g := by
  revert g
  decide +kernel
theorem cv_cnt_mono {P Q : Nat → Bool} (h : ∀ i, P i = true → Q i = true) : ∀ n, cv_cnt P n ≤ cv_cnt Q n
  | 0 => Nat.le_refl _
  | n + 1 => by
    have := cv_cnt_mono h n
    simp only [cv_cnt]
    cases hp : P n with
    | false => simp; split <;> omega
    | true => rw [h n hp]; simp; exact this
theorem cv_odb (L : cv_L) (k d w : Nat) (hk : k < 3) (hg : L 6 k < 256) : cv_odn L k d w ≤ 2 ^ cv_pc (L 6 k) := by
  rw [← cv_ct_sub _ hg]
  refine cv_cnt_mono (fun i h => ?_) 256
  exact (Bool.and_eq_true _ _ ▸ h).1
set_option maxHeartbeats 4000000 in
set_option maxRecDepth 100000 in
theorem kX6_odds0 (tr : Int32) (ft : Nat) (sl : Nat → Option (Nat × Nat)) (sc : Nat → Nat → Int32) (L : cv_L) (rc : Nat) (rd : Nat → Nat) (rn : Nat → Option Nat) (x y z w0 : Int32) (σ : cv_St) (hR : cv_RC tr ft sl sc L rc rd rn σ) (hB : cv_LB L) (hDB : cv_DB rc rd rn) (hx1 : ¬ x = 1) (hx2 : ¬ x = 2) : cv_Ct yX6_odds cX6_odds 8 (some .long) 5 0 0 26 cv_shC [.ref 0, .int x, .int y, .int z, .int w0] σ (fun v u => v = some (.long (cv_a_odds L x y z w0)) ∧ cv_RC tr ft sl sc L rc rd rn u) := by
  refine cv_enter (own := RX6) (by decide) rfl (Nat.le_of_ble_eq_true rfl) ?_
  intro X a C Rt hRm
  have D := @cv_dec _ _ dkX6_odds
  obtain ⟨hTr, hFt, hSh, hL, hSe, hD⟩ := id hR
  have hn6 := hB.1
  have hrc := hDB.1
  have hgk := hB.2.2.2 1 (by decide)
  show cv_At X _ _ σ 0 [(0, .ref 0), (1, .int x), (2, .int y), (3, .int z), (4, .int w0)] []
  refine cv_iload_n C (pc' := 1) rfl (D 0 (0, .iload_n 1, 1) rfl) rfl (j := 1) rfl ?_
  refine cv_iconst C (pc' := 2) rfl (D 1 (1, .iconst 1, 1) rfl) (v := nI 1) (by decide) ?_
  refine cv_icmp_eq C (pc' := 5) rfl (tgt := 10) (D 2 (2, .if_icmp .eq 8, 3) rfl) (by decide) (fun b2 => ?_) (fun b2 => ?_)
  · skip
    exact absurd b2 hx1
  · skip
    refine cv_iload_n C (pc' := 6) rfl (D 3 (5, .iload_n 1, 1) rfl) rfl (j := 1) rfl ?_
    refine cv_iconst C (pc' := 7) rfl (D 4 (6, .iconst 2, 1) rfl) (v := nI 2) (by decide) ?_
    refine cv_icmp_ne C (pc' := 10) rfl (tgt := 14) (D 5 (7, .if_icmp .ne 7, 3) rfl) (by decide) (fun b7 => ?_) (fun b7 => ?_)
    · skip
      refine cv_iconst C (pc' := 15) rfl (D 8 (14, .iconst 0, 1) rfl) (v := nI 0) (by decide) ?_
      refine cv_istore C (pc' := 17) rfl (D 9 (15, .istore 5, 2) rfl) (by decide) (lv' := [(5, .int (nI 0)), (0, .ref 0), (1, .int x), (2, .int y), (3, .int z), (4, .int w0)]) rfl ?_
      refine cv_iload C (pc' := 19) rfl (D 10 (17, .iload 5, 2) rfl) (j := 0) rfl ?_
      refine cv_if_eq C (pc' := 22) rfl (tgt := 55) (D 11 (19, .ifCond .eq 36, 3) rfl) (by decide) (fun _ => ?_) (fun h => absurd h (by decide))
      refine cv_ldc2 C (pc' := 58) rfl wlX6_182 (D 26 (55, .ldc2_w 182, 3) rfl) ?_
      exact cv_lret C Rt (D 27 (58, .lreturn, 1) rfl) ⟨congrArg (fun z => some (Value.long z)) (by unfold cv_a_odds; rw [if_neg (fun h => h.1.elim hx1 hx2)]), hR⟩
    · skip
      exact absurd b7 hx2

set_option maxHeartbeats 4000000 in
set_option maxRecDepth 100000 in
theorem kX6_odds1 (tr : Int32) (ft : Nat) (sl : Nat → Option (Nat × Nat)) (sc : Nat → Nat → Int32) (L : cv_L) (rc : Nat) (rd : Nat → Nat) (rn : Nat → Option Nat) (y z w0 : Int32) (σ : cv_St) (hR : cv_RC tr ft sl sc L rc rd rn σ) (hB : cv_LB L) (hDB : cv_DB rc rd rn) : cv_Ct yX6_odds cX6_odds 8 (some .long) 5 0 0 26 cv_shC [.ref 0, .int (nI 1), .int y, .int z, .int w0] σ (fun v u => v = some (.long (cv_a_odds L (nI 1) y z w0)) ∧ cv_RC tr ft sl sc L rc rd rn u) := by
  refine cv_enter (own := RX6) (by decide) rfl (Nat.le_of_ble_eq_true rfl) ?_
  intro X a C Rt hRm
  have D := @cv_dec _ _ dkX6_odds
  obtain ⟨hTr, hFt, hSh, hL, hSe, hD⟩ := id hR
  have hn6 := hB.1
  have hrc := hDB.1
  have hgk := hB.2.2.2 1 (by decide)
  show cv_At X _ _ σ 0 [(0, .ref 0), (1, .int (nI 1)), (2, .int y), (3, .int z), (4, .int w0)] []
  refine cv_iload_n C (pc' := 1) rfl (D 0 (0, .iload_n 1, 1) rfl) rfl (j := 1) rfl ?_
  refine cv_iconst C (pc' := 2) rfl (D 1 (1, .iconst 1, 1) rfl) (v := nI 1) (by decide) ?_
  refine cv_icmp_eq C (pc' := 5) rfl (tgt := 10) (D 2 (2, .if_icmp .eq 8, 3) rfl) (by decide) (fun _ => ?_) (fun h => absurd h (by decide))
  refine cv_iconst C (pc' := 11) rfl (D 6 (10, .iconst 1, 1) rfl) (v := nI 1) (by decide) ?_
  refine cv_goto C (tgt := 15) (D 7 (11, .goto 4, 3) rfl) (by decide) ?_
  refine cv_istore C (pc' := 17) rfl (D 9 (15, .istore 5, 2) rfl) (by decide) (lv' := [(5, .int (nI 1)), (0, .ref 0), (1, .int (nI 1)), (2, .int y), (3, .int z), (4, .int w0)]) rfl ?_
  refine cv_iload C (pc' := 19) rfl (D 10 (17, .iload 5, 2) rfl) (j := 0) rfl ?_
  refine cv_if_eq C (pc' := 22) rfl (tgt := 55) (D 11 (19, .ifCond .eq 36, 3) rfl) (by decide) (fun h => absurd h (by decide)) (fun _ => ?_)
  refine cv_iload_n C (pc' := 23) rfl (D 12 (22, .iload_n 2, 1) rfl) rfl (j := 3) rfl ?_
  refine cv_callS C (pc' := 26) rfl (As := [.int y]) (rest := []) (idx := 108) (np := 1) (kX6_isDay y σ) (by decide +kernel) rfl wmX6_108 wt_yX6_isDay wn_X6 wc_yX6_isDay (by decide) (by decide) (D 13 (23, .invokestatic 108, 3) rfl) (Nat.le_of_ble_eq_true rfl) rfl (fun w9 u9 h9 => ?_)
  rw [h9.1, h9.2]
  show cv_At X _ _ σ 26 _ [.int (cv_b (cv_in y 8))]
  refine cv_if_eqB C (pc' := 29) rfl (tgt := 55) (D 14 (26, .ifCond .eq 29, 3) rfl) (by decide) (fun b26 => ?_) (fun b26 => ?_)
  · skip
    refine cv_ldc2 C (pc' := 58) rfl wlX6_182 (D 26 (55, .ldc2_w 182, 3) rfl) ?_
    exact cv_lret C Rt (D 27 (58, .lreturn, 1) rfl) ⟨congrArg (fun z => some (Value.long z)) (by unfold cv_a_odds; rw [if_neg (fun h => by rw [h.2.1] at b26; cases b26)]), hR⟩
  · skip
    refine cv_iload_n C (pc' := 30) rfl (D 15 (29, .iload_n 3, 1) rfl) rfl (j := 4) rfl ?_
    refine cv_callS C (pc' := 33) rfl (As := [.int z]) (rest := []) (idx := 108) (np := 1) (kX6_isDay z σ) (by decide +kernel) rfl wmX6_108 wt_yX6_isDay wn_X6 wc_yX6_isDay (by decide) (by decide) (D 16 (30, .invokestatic 108, 3) rfl) (Nat.le_of_ble_eq_true rfl) rfl (fun w9 u9 h9 => ?_)
    rw [h9.1, h9.2]
    show cv_At X _ _ σ 33 _ [.int (cv_b (cv_in z 8))]
    refine cv_if_eqB C (pc' := 36) rfl (tgt := 55) (D 17 (33, .ifCond .eq 22, 3) rfl) (by decide) (fun b33 => ?_) (fun b33 => ?_)
    · skip
      refine cv_ldc2 C (pc' := 58) rfl wlX6_182 (D 26 (55, .ldc2_w 182, 3) rfl) ?_
      exact cv_lret C Rt (D 27 (58, .lreturn, 1) rfl) ⟨congrArg (fun z => some (Value.long z)) (by unfold cv_a_odds; rw [if_neg (fun h => by rw [h.2.2.1] at b33; cases b33)]), hR⟩
    · skip
      refine cv_iload C (pc' := 38) rfl (D 18 (36, .iload 4, 2) rfl) (j := 5) rfl ?_
      refine cv_iconst C (pc' := 39) rfl (D 19 (38, .iconst 2, 1) rfl) (v := nI 2) (by decide) ?_
      refine cv_callS C (pc' := 42) rfl (As := [.int w0, .int (nI 2)]) (rest := []) (idx := 111) (np := 2) (kX6_isBelow w0 2 σ) (by decide +kernel) rfl wmX6_111 wt_yX6_isBelow wn_X6 wc_yX6_isBelow (by decide) (by decide) (D 20 (39, .invokestatic 111, 3) rfl) (Nat.le_of_ble_eq_true rfl) rfl (fun w9 u9 h9 => ?_)
      rw [h9.1, h9.2]
      show cv_At X _ _ σ 42 _ [.int (cv_b (cv_in w0 2))]
      refine cv_if_eqB C (pc' := 45) rfl (tgt := 55) (D 21 (42, .ifCond .eq 13, 3) rfl) (by decide) (fun b42 => ?_) (fun b42 => ?_)
      · skip
        refine cv_ldc2 C (pc' := 58) rfl wlX6_182 (D 26 (55, .ldc2_w 182, 3) rfl) ?_
        exact cv_lret C Rt (D 27 (58, .lreturn, 1) rfl) ⟨congrArg (fun z => some (Value.long z)) (by unfold cv_a_odds; rw [if_neg (fun h => by rw [h.2.2.2.1] at b42; cases b42)]), hR⟩
      · skip
        refine cv_aload_n C (pc' := 46) rfl (D 22 (45, .aload_n 0, 1) rfl) rfl (j := 1) rfl ?_
        refine cv_get C (pc' := 49) rfl (k0 := 0) (i := 1) (ci := 6) (by decide) rfl rfl (by decide) (o := some 10) rfl iw_X6 wfX6_21 (D 23 (46, .getfield 21, 3) rfl) rfl ?_
        refine cv_get C (pc' := 52) rfl (k0 := 10) (i := 5) (ci := 0) (by decide) rfl rfl (by decide) (o := none) rfl iw_X0 wfX6_115 (D 24 (49, .getfield 115, 3) rfl) (v := .int (cv_b (decide (0 < L 7 0)))) (congrArg Value.int hSe) ?_
        refine cv_if_neB C (pc' := 55) rfl (tgt := 59) (D 25 (52, .ifCond .ne 7, 3) rfl) (by decide) (fun b52 => ?_) (fun b52 => ?_)
        · skip
          obtain ⟨j, hj, rfl⟩ := cv_in_of b26 (by omega)
          obtain ⟨w, hw, rfl⟩ := cv_in_of b33 (by omega)
          obtain ⟨q, hq, rfl⟩ := cv_in_of b42 (by omega)
          refine cv_aload_n C (pc' := 60) rfl (D 28 (59, .aload_n 0, 1) rfl) rfl (j := 1) rfl ?_
          refine cv_get C (pc' := 63) rfl (k0 := 0) (i := 1) (ci := 6) (by decide) rfl rfl (by decide) (o := some 10) rfl iw_X6 wfX6_21 (D 29 (60, .getfield 21, 3) rfl) rfl ?_
          refine cv_iconst C (pc' := 64) rfl (D 30 (63, .iconst (-1), 1) rfl) (v := -1) (by decide) ?_
          refine cv_callV C (pc' := 67) rfl (k0 := 10) (ci := 0) (As := [.int (-1)]) (rest := []) (idx := 131) (np := 1) (kX0_chart L (-1) σ hL hB) (by decide) rfl rfl rfl (by decide +kernel) rfl wmX6_131 wi_yX0_chart ws_yX0_chart wn_X0 wc_yX0_chart (by decide) (by decide) (D 31 (64, .invokevirtual 131, 3) rfl) (Nat.le_of_ble_eq_true rfl) rfl (fun w64 u64 h64 => ?_)
          obtain ⟨e64, hCOu64⟩ := h64
          rw [e64]
          have hKu64 : ∀ k, k ≠ 20 → k ≠ 21 → k ≠ 22 → u64 k = σ k := fun k h _ _ => hCOu64.1 k h
          have hLu64 := cv_LC_k hKu64 hL hB
          have hTu64 := cv_TC_of hCOu64
          have hDu64 := cv_DC_k hKu64 hD
          show cv_At X _ _ u64 67 _ []
          refine cv_aload_n C (pc' := 68) rfl (D 32 (67, .aload_n 0, 1) rfl) rfl (j := 1) rfl ?_
          refine cv_get C (pc' := 71) rfl (k0 := 0) (i := 1) (ci := 6) (by decide) rfl rfl (by decide) (o := some 10) rfl iw_X6 wfX6_21 (D 33 (68, .getfield 21, 3) rfl) rfl ?_
          refine cv_iload_n C (pc' := 72) rfl (D 34 (71, .iload_n 3, 1) rfl) rfl (j := 4) rfl ?_
          refine cv_iload_n C (pc' := 73) rfl (D 35 (72, .iload_n 2, 1) rfl) rfl (j := 3) rfl ?_
          refine cv_iload_n C (pc' := 74) rfl (D 36 (73, .iload_n 1, 1) rfl) rfl (j := 2) rfl ?_
          refine cv_callV C (pc' := 77) rfl (k0 := 10) (ci := 0) (As := [.int (nI w), .int (nI j), .int (nI 1)]) (rest := []) (idx := 184) (np := 3) (kX0_setsDoneBy1 L (cv_RT L (fun q => decide (nI q = -1)) 8) w j u64 hLu64 hB hTu64 (by omega) (by omega)) (by decide) rfl rfl rfl (by decide +kernel) rfl wmX6_184 wi_yX0_setsDoneBy ws_yX0_setsDoneBy wn_X0 wc_yX0_setsDoneBy (by decide) (by decide) (D 37 (74, .invokevirtual 184, 3) rfl) (Nat.le_of_ble_eq_true rfl) rfl (fun w9 u9 h9 => ?_)
          rw [h9.1, h9.2]
          show cv_At X _ _ u64 77 _ [.int (nI (cv_cnt (fun i => decide (i &&& (L 6 1 ^^^ 4294967295) = 0) && cv_can L (-1) j w i (L 6 2)) 256))]
          refine cv_istore C (pc' := 79) rfl (D 38 (77, .istore 6, 2) rfl) (by decide) (lv' := [(6, .int (nI (cv_cnt (fun i => decide (i &&& (L 6 1 ^^^ 4294967295) = 0) && cv_can L (-1) j w i (L 6 2)) 256))), (5, .int (nI 1)), (0, .ref 0), (1, .int (nI 1)), (2, .int (nI j)), (3, .int (nI w)), (4, .int (nI q))]) rfl ?_
          refine cv_iconst C (pc' := 80) rfl (D 39 (79, .iconst 1, 1) rfl) (v := nI 1) (by decide) ?_
          refine cv_aload_n C (pc' := 81) rfl (D 40 (80, .aload_n 0, 1) rfl) rfl (j := 2) rfl ?_
          refine cv_get C (pc' := 84) rfl (k0 := 0) (i := 1) (ci := 6) (by decide) rfl rfl (by decide) (o := some 10) rfl iw_X6 wfX6_21 (D 41 (81, .getfield 21, 3) rfl) rfl ?_
          refine cv_get C (pc' := 87) rfl (k0 := 10) (i := 2) (ci := 0) (by decide) rfl rfl (by decide) (o := some 19) rfl iw_X0 wfX6_125 (D 42 (84, .getfield 125, 3) rfl) rfl ?_
          refine cv_iload_n C (pc' := 88) rfl (D 43 (87, .iload_n 1, 1) rfl) rfl (j := 3) rfl ?_
          refine cv_iald C (pc' := 89) rfl (k0 := 19) (j := 1) (by decide) rfl rfl (by omega) (by decide) (D 44 (88, .iaload, 1) rfl) (v := nI (L 6 1)) (hLu64.2.2.1 _ (by omega)) ?_
          refine cv_callS C (pc' := 92) rfl (As := [.int (nI (L 6 1))]) (rest := [.int (nI 1)]) (idx := 187) (np := 1) (kJ6_bitCount (nI (L 6 1)) u64) (by decide +kernel) rfl wmX6_187 wt_yJ6_bitCount_0f7a4 wn_J6 wc_yJ6_bitCount_0f7a4 (by decide) (by decide) (D 45 (89, .invokestatic 187, 3) rfl) (Nat.le_of_ble_eq_true rfl) rfl (fun w9 u9 h9 => ?_)
          rw [h9.1, h9.2]
          show cv_At X _ _ u64 92 _ [.int (cv_bcx (nI (L 6 1))), .int (nI 1)]
          refine cv_ishl C (pc' := 93) rfl (D 46 (92, .ishl, 1) rfl) ?_
          refine cv_top (w := nI (2 ^ cv_pc (L 6 1))) (by rw [cv_bcx8 _ hgk]; exact cv_shl1 (by have := cv_pc_le (L 6 1); omega)) ?_
          refine cv_istore C (pc' := 95) rfl (D 47 (93, .istore 7, 2) rfl) (by decide) (lv' := [(7, .int (nI (2 ^ cv_pc (L 6 1)))), (6, .int (nI (cv_cnt (fun i => decide (i &&& (L 6 1 ^^^ 4294967295) = 0) && cv_can L (-1) j w i (L 6 2)) 256))), (5, .int (nI 1)), (0, .ref 0), (1, .int (nI 1)), (2, .int (nI j)), (3, .int (nI w)), (4, .int (nI q))]) rfl ?_
          have LP95 : ∀ (r : Nat) (uu : Nat) (ll : Nat), (ll = 2 ^ r) → (uu ≤ 2 ^ r) → (r ≤ 8) → (cv_hv r uu ll = cv_hv (cv_pc (L 6 1)) (cv_odn L 1 j w) (2 ^ cv_pc (L 6 1))) → cv_At X (26, cv_shC, 0, 0, a) 8 u64 95 [(7, .int (nI ll)), (6, .int (nI uu)), (0, .ref 0), (1, .int (nI 1)), (2, .int (nI j)), (3, .int (nI w)), (4, .int (nI q)), (5, .int (nI 1))] [] := by
            intro r
            induction r with
            | zero =>
              intro uu ll hll huu hr8 hu0
              have h2r : 2 ^ 0 = 1 := rfl
              refine cv_iload C (pc' := 97) rfl (D 48 (95, .iload 7, 2) rfl) (j := 0) rfl ?_
              refine cv_iconst C (pc' := 98) rfl (D 49 (97, .iconst 1, 1) rfl) (v := nI 1) (by decide) ?_
              refine cv_icmp_leN C (pc' := 101) rfl (by omega) (by omega) (tgt := 123) (D 50 (98, .if_icmp .le 25, 3) rfl) (by decide) (fun b98 => ?_) (fun b98 => ?_)
              · skip
                refine cv_iload C (pc' := 125) rfl (D 64 (123, .iload 4, 2) rfl) (j := 6) rfl ?_
                refine cv_if_neN C (pc' := 128) rfl (by omega) (tgt := 134) (D 65 (125, .ifCond .ne 9, 3) rfl) (by decide) (fun b125 => ?_) (fun b125 => ?_)
                · skip
                  refine cv_iload C (pc' := 136) rfl (D 69 (134, .iload 7, 2) rfl) (j := 0) rfl ?_
                  refine cv_i2l C (pc' := 137) rfl (D 70 (136, .i2l, 1) rfl) (v := lN ll) (nI_l (by omega)) ?_
                  exact cv_lret C Rt (D 71 (137, .lreturn, 1) rfl) ⟨congrArg (fun z => some (Value.long z)) (by unfold cv_a_odds; rw [if_pos ⟨Or.inl (by decide), b26, b33, b42, by simpa using b52⟩, if_neg (fun h => by rw [← nI_0] at h; have := (nI_eq (by omega) (by omega)).mp h; omega)]; simp only [cv_nt, nI_clamp (show j < 2 ^ 31 by omega), nI_clamp (show w < 2 ^ 31 by omega), show (nI 1).toNatClampNeg = 1 by decide]; rw [← hu0, show cv_hv 0 uu ll = (uu, ll) from rfl]), cv_RC_k hKu64 hB hR⟩
                · skip
                  refine cv_iload C (pc' := 130) rfl (D 66 (128, .iload 6, 2) rfl) (j := 1) rfl ?_
                  refine cv_i2l C (pc' := 131) rfl (D 67 (130, .i2l, 1) rfl) (v := lN uu) (nI_l (by omega)) ?_
                  refine cv_goto C (tgt := 137) (D 68 (131, .goto 6, 3) rfl) (by decide) ?_
                  exact cv_lret C Rt (D 71 (137, .lreturn, 1) rfl) ⟨congrArg (fun z => some (Value.long z)) (by unfold cv_a_odds; rw [if_pos ⟨Or.inl (by decide), b26, b33, b42, by simpa using b52⟩, if_pos (by rw [b125]; rfl)]; simp only [cv_nt, nI_clamp (show j < 2 ^ 31 by omega), nI_clamp (show w < 2 ^ 31 by omega), show (nI 1).toNatClampNeg = 1 by decide]; rw [← hu0, show cv_hv 0 uu ll = (uu, ll) from rfl]), cv_RC_k hKu64 hB hR⟩
              · skip
                omega
            | succ r ih95 =>
              intro uu ll hll huu hr8 hu0
              have h2r : 2 ^ (r + 1) = 2 * 2 ^ r := by rw [Nat.pow_succ]; omega
              have h2p : 2 ^ r ≤ 2 ^ 8 := Nat.pow_le_pow_right (by decide) (by omega)
              have h2q : 1 ≤ 2 ^ r := Nat.one_le_two_pow
              refine cv_iload C (pc' := 97) rfl (D 48 (95, .iload 7, 2) rfl) (j := 0) rfl ?_
              refine cv_iconst C (pc' := 98) rfl (D 49 (97, .iconst 1, 1) rfl) (v := nI 1) (by decide) ?_
              refine cv_icmp_leN C (pc' := 101) rfl (by omega) (by omega) (tgt := 123) (D 50 (98, .if_icmp .le 25, 3) rfl) (by decide) (fun b98 => ?_) (fun b98 => ?_)
              · skip
                omega
              · skip
                refine cv_iload C (pc' := 103) rfl (D 51 (101, .iload 6, 2) rfl) (j := 1) rfl ?_
                refine cv_iconst C (pc' := 104) rfl (D 52 (103, .iconst 2, 1) rfl) (v := nI 2) (by decide) ?_
                refine cv_iremN C (pc' := 105) rfl (by omega) (by decide) (by decide) (D 53 (104, .irem, 1) rfl) ?_
                refine cv_if_neN C (pc' := 108) rfl (by omega) (tgt := 123) (D 54 (105, .ifCond .ne 18, 3) rfl) (by decide) (fun b105 => ?_) (fun b105 => ?_)
                · skip
                  refine cv_iload C (pc' := 125) rfl (D 64 (123, .iload 4, 2) rfl) (j := 6) rfl ?_
                  refine cv_if_neN C (pc' := 128) rfl (by omega) (tgt := 134) (D 65 (125, .ifCond .ne 9, 3) rfl) (by decide) (fun b125 => ?_) (fun b125 => ?_)
                  · skip
                    refine cv_iload C (pc' := 136) rfl (D 69 (134, .iload 7, 2) rfl) (j := 0) rfl ?_
                    refine cv_i2l C (pc' := 137) rfl (D 70 (136, .i2l, 1) rfl) (v := lN ll) (nI_l (by omega)) ?_
                    exact cv_lret C Rt (D 71 (137, .lreturn, 1) rfl) ⟨congrArg (fun z => some (Value.long z)) (by unfold cv_a_odds; rw [if_pos ⟨Or.inl (by decide), b26, b33, b42, by simpa using b52⟩, if_neg (fun h => by rw [← nI_0] at h; have := (nI_eq (by omega) (by omega)).mp h; omega)]; simp only [cv_nt, nI_clamp (show j < 2 ^ 31 by omega), nI_clamp (show w < 2 ^ 31 by omega), show (nI 1).toNatClampNeg = 1 by decide]; rw [← hu0, show cv_hv (r + 1) uu ll = (uu, ll) from (by simp only [cv_hv]; rw [if_neg (by omega)])]), cv_RC_k hKu64 hB hR⟩
                  · skip
                    refine cv_iload C (pc' := 130) rfl (D 66 (128, .iload 6, 2) rfl) (j := 1) rfl ?_
                    refine cv_i2l C (pc' := 131) rfl (D 67 (130, .i2l, 1) rfl) (v := lN uu) (nI_l (by omega)) ?_
                    refine cv_goto C (tgt := 137) (D 68 (131, .goto 6, 3) rfl) (by decide) ?_
                    exact cv_lret C Rt (D 71 (137, .lreturn, 1) rfl) ⟨congrArg (fun z => some (Value.long z)) (by unfold cv_a_odds; rw [if_pos ⟨Or.inl (by decide), b26, b33, b42, by simpa using b52⟩, if_pos (by rw [b125]; rfl)]; simp only [cv_nt, nI_clamp (show j < 2 ^ 31 by omega), nI_clamp (show w < 2 ^ 31 by omega), show (nI 1).toNatClampNeg = 1 by decide]; rw [← hu0, show cv_hv (r + 1) uu ll = (uu, ll) from (by simp only [cv_hv]; rw [if_neg (by omega)])]), cv_RC_k hKu64 hB hR⟩
                · skip
                  refine cv_iload C (pc' := 110) rfl (D 55 (108, .iload 6, 2) rfl) (j := 1) rfl ?_
                  refine cv_iconst C (pc' := 111) rfl (D 56 (110, .iconst 2, 1) rfl) (v := nI 2) (by decide) ?_
                  refine cv_idivN C (pc' := 112) rfl (by omega) (by decide) (by decide) (D 57 (111, .idiv, 1) rfl) ?_
                  refine cv_istore C (pc' := 114) rfl (D 58 (112, .istore 6, 2) rfl) (by decide) (lv' := [(6, .int (nI (uu / 2))), (7, .int (nI ll)), (0, .ref 0), (1, .int (nI 1)), (2, .int (nI j)), (3, .int (nI w)), (4, .int (nI q)), (5, .int (nI 1))]) rfl ?_
                  refine cv_iload C (pc' := 116) rfl (D 59 (114, .iload 7, 2) rfl) (j := 1) rfl ?_
                  refine cv_iconst C (pc' := 117) rfl (D 60 (116, .iconst 2, 1) rfl) (v := nI 2) (by decide) ?_
                  refine cv_idivN C (pc' := 118) rfl (by omega) (by decide) (by decide) (D 61 (117, .idiv, 1) rfl) ?_
                  refine cv_istore C (pc' := 120) rfl (D 62 (118, .istore 7, 2) rfl) (by decide) (lv' := [(7, .int (nI (ll / 2))), (6, .int (nI (uu / 2))), (0, .ref 0), (1, .int (nI 1)), (2, .int (nI j)), (3, .int (nI w)), (4, .int (nI q)), (5, .int (nI 1))]) rfl ?_
                  refine cv_goto C (tgt := 95) (D 63 (120, .goto (-25), 3) rfl) (by decide) ?_
                  exact ih95 (uu / 2) (ll / 2) (by omega) (by omega) (by omega) (by rw [← hu0]; simp only [cv_hv]; rw [if_pos b105])
          refine cv_pick [0, 1, 3, 4, 5, 6, 7, 2] (lv' := [(7, .int (nI (2 ^ cv_pc (L 6 1)))), (6, .int (nI (cv_cnt (fun i => decide (i &&& (L 6 1 ^^^ 4294967295) = 0) && cv_can L (-1) j w i (L 6 2)) 256))), (0, .ref 0), (1, .int (nI 1)), (2, .int (nI j)), (3, .int (nI w)), (4, .int (nI q)), (5, .int (nI 1))]) rfl ?_
          exact LP95 (cv_pc (L 6 1)) (cv_cnt (fun i => decide (i &&& (L 6 1 ^^^ 4294967295) = 0) && cv_can L (-1) j w i (L 6 2)) 256) (2 ^ cv_pc (L 6 1)) rfl (cv_odb L 1 j w (by decide) (hB.2.2.2 1 (by decide))) (cv_pc_le _) (by unfold cv_odn; rfl)
        · skip
          refine cv_ldc2 C (pc' := 58) rfl wlX6_182 (D 26 (55, .ldc2_w 182, 3) rfl) ?_
          exact cv_lret C Rt (D 27 (58, .lreturn, 1) rfl) ⟨congrArg (fun z => some (Value.long z)) (by unfold cv_a_odds; rw [if_neg (fun h => by have := h.2.2.2.2; simp at b52; omega)]), hR⟩

set_option maxHeartbeats 4000000 in
set_option maxRecDepth 100000 in
theorem kX6_odds2 (tr : Int32) (ft : Nat) (sl : Nat → Option (Nat × Nat)) (sc : Nat → Nat → Int32) (L : cv_L) (rc : Nat) (rd : Nat → Nat) (rn : Nat → Option Nat) (y z w0 : Int32) (σ : cv_St) (hR : cv_RC tr ft sl sc L rc rd rn σ) (hB : cv_LB L) (hDB : cv_DB rc rd rn) : cv_Ct yX6_odds cX6_odds 8 (some .long) 5 0 0 26 cv_shC [.ref 0, .int (nI 2), .int y, .int z, .int w0] σ (fun v u => v = some (.long (cv_a_odds L (nI 2) y z w0)) ∧ cv_RC tr ft sl sc L rc rd rn u) := by
  refine cv_enter (own := RX6) (by decide) rfl (Nat.le_of_ble_eq_true rfl) ?_
  intro X a C Rt hRm
  have D := @cv_dec _ _ dkX6_odds
  obtain ⟨hTr, hFt, hSh, hL, hSe, hD⟩ := id hR
  have hn6 := hB.1
  have hrc := hDB.1
  have hgk := hB.2.2.2 2 (by decide)
  show cv_At X _ _ σ 0 [(0, .ref 0), (1, .int (nI 2)), (2, .int y), (3, .int z), (4, .int w0)] []
  refine cv_iload_n C (pc' := 1) rfl (D 0 (0, .iload_n 1, 1) rfl) rfl (j := 1) rfl ?_
  refine cv_iconst C (pc' := 2) rfl (D 1 (1, .iconst 1, 1) rfl) (v := nI 1) (by decide) ?_
  refine cv_icmp_eq C (pc' := 5) rfl (tgt := 10) (D 2 (2, .if_icmp .eq 8, 3) rfl) (by decide) (fun h => absurd h (by decide)) (fun _ => ?_)
  refine cv_iload_n C (pc' := 6) rfl (D 3 (5, .iload_n 1, 1) rfl) rfl (j := 1) rfl ?_
  refine cv_iconst C (pc' := 7) rfl (D 4 (6, .iconst 2, 1) rfl) (v := nI 2) (by decide) ?_
  refine cv_icmp_ne C (pc' := 10) rfl (tgt := 14) (D 5 (7, .if_icmp .ne 7, 3) rfl) (by decide) (fun h => absurd h (by decide)) (fun _ => ?_)
  refine cv_iconst C (pc' := 11) rfl (D 6 (10, .iconst 1, 1) rfl) (v := nI 1) (by decide) ?_
  refine cv_goto C (tgt := 15) (D 7 (11, .goto 4, 3) rfl) (by decide) ?_
  refine cv_istore C (pc' := 17) rfl (D 9 (15, .istore 5, 2) rfl) (by decide) (lv' := [(5, .int (nI 1)), (0, .ref 0), (1, .int (nI 2)), (2, .int y), (3, .int z), (4, .int w0)]) rfl ?_
  refine cv_iload C (pc' := 19) rfl (D 10 (17, .iload 5, 2) rfl) (j := 0) rfl ?_
  refine cv_if_eq C (pc' := 22) rfl (tgt := 55) (D 11 (19, .ifCond .eq 36, 3) rfl) (by decide) (fun h => absurd h (by decide)) (fun _ => ?_)
  refine cv_iload_n C (pc' := 23) rfl (D 12 (22, .iload_n 2, 1) rfl) rfl (j := 3) rfl ?_
  refine cv_callS C (pc' := 26) rfl (As := [.int y]) (rest := []) (idx := 108) (np := 1) (kX6_isDay y σ) (by decide +kernel) rfl wmX6_108 wt_yX6_isDay wn_X6 wc_yX6_isDay (by decide) (by decide) (D 13 (23, .invokestatic 108, 3) rfl) (Nat.le_of_ble_eq_true rfl) rfl (fun w9 u9 h9 => ?_)
  rw [h9.1, h9.2]
  show cv_At X _ _ σ 26 _ [.int (cv_b (cv_in y 8))]
  refine cv_if_eqB C (pc' := 29) rfl (tgt := 55) (D 14 (26, .ifCond .eq 29, 3) rfl) (by decide) (fun b26 => ?_) (fun b26 => ?_)
  · skip
    refine cv_ldc2 C (pc' := 58) rfl wlX6_182 (D 26 (55, .ldc2_w 182, 3) rfl) ?_
    exact cv_lret C Rt (D 27 (58, .lreturn, 1) rfl) ⟨congrArg (fun z => some (Value.long z)) (by unfold cv_a_odds; rw [if_neg (fun h => by rw [h.2.1] at b26; cases b26)]), hR⟩
  · skip
    refine cv_iload_n C (pc' := 30) rfl (D 15 (29, .iload_n 3, 1) rfl) rfl (j := 4) rfl ?_
    refine cv_callS C (pc' := 33) rfl (As := [.int z]) (rest := []) (idx := 108) (np := 1) (kX6_isDay z σ) (by decide +kernel) rfl wmX6_108 wt_yX6_isDay wn_X6 wc_yX6_isDay (by decide) (by decide) (D 16 (30, .invokestatic 108, 3) rfl) (Nat.le_of_ble_eq_true rfl) rfl (fun w9 u9 h9 => ?_)
    rw [h9.1, h9.2]
    show cv_At X _ _ σ 33 _ [.int (cv_b (cv_in z 8))]
    refine cv_if_eqB C (pc' := 36) rfl (tgt := 55) (D 17 (33, .ifCond .eq 22, 3) rfl) (by decide) (fun b33 => ?_) (fun b33 => ?_)
    · skip
      refine cv_ldc2 C (pc' := 58) rfl wlX6_182 (D 26 (55, .ldc2_w 182, 3) rfl) ?_
      exact cv_lret C Rt (D 27 (58, .lreturn, 1) rfl) ⟨congrArg (fun z => some (Value.long z)) (by unfold cv_a_odds; rw [if_neg (fun h => by rw [h.2.2.1] at b33; cases b33)]), hR⟩
    · skip
      refine cv_iload C (pc' := 38) rfl (D 18 (36, .iload 4, 2) rfl) (j := 5) rfl ?_
      refine cv_iconst C (pc' := 39) rfl (D 19 (38, .iconst 2, 1) rfl) (v := nI 2) (by decide) ?_
      refine cv_callS C (pc' := 42) rfl (As := [.int w0, .int (nI 2)]) (rest := []) (idx := 111) (np := 2) (kX6_isBelow w0 2 σ) (by decide +kernel) rfl wmX6_111 wt_yX6_isBelow wn_X6 wc_yX6_isBelow (by decide) (by decide) (D 20 (39, .invokestatic 111, 3) rfl) (Nat.le_of_ble_eq_true rfl) rfl (fun w9 u9 h9 => ?_)
      rw [h9.1, h9.2]
      show cv_At X _ _ σ 42 _ [.int (cv_b (cv_in w0 2))]
      refine cv_if_eqB C (pc' := 45) rfl (tgt := 55) (D 21 (42, .ifCond .eq 13, 3) rfl) (by decide) (fun b42 => ?_) (fun b42 => ?_)
      · skip
        refine cv_ldc2 C (pc' := 58) rfl wlX6_182 (D 26 (55, .ldc2_w 182, 3) rfl) ?_
        exact cv_lret C Rt (D 27 (58, .lreturn, 1) rfl) ⟨congrArg (fun z => some (Value.long z)) (by unfold cv_a_odds; rw [if_neg (fun h => by rw [h.2.2.2.1] at b42; cases b42)]), hR⟩
      · skip
        refine cv_aload_n C (pc' := 46) rfl (D 22 (45, .aload_n 0, 1) rfl) rfl (j := 1) rfl ?_
        refine cv_get C (pc' := 49) rfl (k0 := 0) (i := 1) (ci := 6) (by decide) rfl rfl (by decide) (o := some 10) rfl iw_X6 wfX6_21 (D 23 (46, .getfield 21, 3) rfl) rfl ?_
        refine cv_get C (pc' := 52) rfl (k0 := 10) (i := 5) (ci := 0) (by decide) rfl rfl (by decide) (o := none) rfl iw_X0 wfX6_115 (D 24 (49, .getfield 115, 3) rfl) (v := .int (cv_b (decide (0 < L 7 0)))) (congrArg Value.int hSe) ?_
        refine cv_if_neB C (pc' := 55) rfl (tgt := 59) (D 25 (52, .ifCond .ne 7, 3) rfl) (by decide) (fun b52 => ?_) (fun b52 => ?_)
        · skip
          obtain ⟨j, hj, rfl⟩ := cv_in_of b26 (by omega)
          obtain ⟨w, hw, rfl⟩ := cv_in_of b33 (by omega)
          obtain ⟨q, hq, rfl⟩ := cv_in_of b42 (by omega)
          refine cv_aload_n C (pc' := 60) rfl (D 28 (59, .aload_n 0, 1) rfl) rfl (j := 1) rfl ?_
          refine cv_get C (pc' := 63) rfl (k0 := 0) (i := 1) (ci := 6) (by decide) rfl rfl (by decide) (o := some 10) rfl iw_X6 wfX6_21 (D 29 (60, .getfield 21, 3) rfl) rfl ?_
          refine cv_iconst C (pc' := 64) rfl (D 30 (63, .iconst (-1), 1) rfl) (v := -1) (by decide) ?_
          refine cv_callV C (pc' := 67) rfl (k0 := 10) (ci := 0) (As := [.int (-1)]) (rest := []) (idx := 131) (np := 1) (kX0_chart L (-1) σ hL hB) (by decide) rfl rfl rfl (by decide +kernel) rfl wmX6_131 wi_yX0_chart ws_yX0_chart wn_X0 wc_yX0_chart (by decide) (by decide) (D 31 (64, .invokevirtual 131, 3) rfl) (Nat.le_of_ble_eq_true rfl) rfl (fun w64 u64 h64 => ?_)
          obtain ⟨e64, hCOu64⟩ := h64
          rw [e64]
          have hKu64 : ∀ k, k ≠ 20 → k ≠ 21 → k ≠ 22 → u64 k = σ k := fun k h _ _ => hCOu64.1 k h
          have hLu64 := cv_LC_k hKu64 hL hB
          have hTu64 := cv_TC_of hCOu64
          have hDu64 := cv_DC_k hKu64 hD
          show cv_At X _ _ u64 67 _ []
          refine cv_aload_n C (pc' := 68) rfl (D 32 (67, .aload_n 0, 1) rfl) rfl (j := 1) rfl ?_
          refine cv_get C (pc' := 71) rfl (k0 := 0) (i := 1) (ci := 6) (by decide) rfl rfl (by decide) (o := some 10) rfl iw_X6 wfX6_21 (D 33 (68, .getfield 21, 3) rfl) rfl ?_
          refine cv_iload_n C (pc' := 72) rfl (D 34 (71, .iload_n 3, 1) rfl) rfl (j := 4) rfl ?_
          refine cv_iload_n C (pc' := 73) rfl (D 35 (72, .iload_n 2, 1) rfl) rfl (j := 3) rfl ?_
          refine cv_iload_n C (pc' := 74) rfl (D 36 (73, .iload_n 1, 1) rfl) rfl (j := 2) rfl ?_
          refine cv_callV C (pc' := 77) rfl (k0 := 10) (ci := 0) (As := [.int (nI w), .int (nI j), .int (nI 2)]) (rest := []) (idx := 184) (np := 3) (kX0_setsDoneBy2 L (cv_RT L (fun q => decide (nI q = -1)) 8) w j u64 hLu64 hB hTu64 (by omega) (by omega)) (by decide) rfl rfl rfl (by decide +kernel) rfl wmX6_184 wi_yX0_setsDoneBy ws_yX0_setsDoneBy wn_X0 wc_yX0_setsDoneBy (by decide) (by decide) (D 37 (74, .invokevirtual 184, 3) rfl) (Nat.le_of_ble_eq_true rfl) rfl (fun w9 u9 h9 => ?_)
          rw [h9.1, h9.2]
          show cv_At X _ _ u64 77 _ [.int (nI (cv_cnt (fun i => decide (i &&& (L 6 2 ^^^ 4294967295) = 0) && cv_can L (-1) j w (L 6 1) i) 256))]
          refine cv_istore C (pc' := 79) rfl (D 38 (77, .istore 6, 2) rfl) (by decide) (lv' := [(6, .int (nI (cv_cnt (fun i => decide (i &&& (L 6 2 ^^^ 4294967295) = 0) && cv_can L (-1) j w (L 6 1) i) 256))), (5, .int (nI 1)), (0, .ref 0), (1, .int (nI 2)), (2, .int (nI j)), (3, .int (nI w)), (4, .int (nI q))]) rfl ?_
          refine cv_iconst C (pc' := 80) rfl (D 39 (79, .iconst 1, 1) rfl) (v := nI 1) (by decide) ?_
          refine cv_aload_n C (pc' := 81) rfl (D 40 (80, .aload_n 0, 1) rfl) rfl (j := 2) rfl ?_
          refine cv_get C (pc' := 84) rfl (k0 := 0) (i := 1) (ci := 6) (by decide) rfl rfl (by decide) (o := some 10) rfl iw_X6 wfX6_21 (D 41 (81, .getfield 21, 3) rfl) rfl ?_
          refine cv_get C (pc' := 87) rfl (k0 := 10) (i := 2) (ci := 0) (by decide) rfl rfl (by decide) (o := some 19) rfl iw_X0 wfX6_125 (D 42 (84, .getfield 125, 3) rfl) rfl ?_
          refine cv_iload_n C (pc' := 88) rfl (D 43 (87, .iload_n 1, 1) rfl) rfl (j := 3) rfl ?_
          refine cv_iald C (pc' := 89) rfl (k0 := 19) (j := 2) (by decide) rfl rfl (by omega) (by decide) (D 44 (88, .iaload, 1) rfl) (v := nI (L 6 2)) (hLu64.2.2.1 _ (by omega)) ?_
          refine cv_callS C (pc' := 92) rfl (As := [.int (nI (L 6 2))]) (rest := [.int (nI 1)]) (idx := 187) (np := 1) (kJ6_bitCount (nI (L 6 2)) u64) (by decide +kernel) rfl wmX6_187 wt_yJ6_bitCount_0f7a4 wn_J6 wc_yJ6_bitCount_0f7a4 (by decide) (by decide) (D 45 (89, .invokestatic 187, 3) rfl) (Nat.le_of_ble_eq_true rfl) rfl (fun w9 u9 h9 => ?_)
          rw [h9.1, h9.2]
          show cv_At X _ _ u64 92 _ [.int (cv_bcx (nI (L 6 2))), .int (nI 1)]
          refine cv_ishl C (pc' := 93) rfl (D 46 (92, .ishl, 1) rfl) ?_
          refine cv_top (w := nI (2 ^ cv_pc (L 6 2))) (by rw [cv_bcx8 _ hgk]; exact cv_shl1 (by have := cv_pc_le (L 6 2); omega)) ?_
          refine cv_istore C (pc' := 95) rfl (D 47 (93, .istore 7, 2) rfl) (by decide) (lv' := [(7, .int (nI (2 ^ cv_pc (L 6 2)))), (6, .int (nI (cv_cnt (fun i => decide (i &&& (L 6 2 ^^^ 4294967295) = 0) && cv_can L (-1) j w (L 6 1) i) 256))), (5, .int (nI 1)), (0, .ref 0), (1, .int (nI 2)), (2, .int (nI j)), (3, .int (nI w)), (4, .int (nI q))]) rfl ?_
          have LP95 : ∀ (r : Nat) (uu : Nat) (ll : Nat), (ll = 2 ^ r) → (uu ≤ 2 ^ r) → (r ≤ 8) → (cv_hv r uu ll = cv_hv (cv_pc (L 6 2)) (cv_odn L 2 j w) (2 ^ cv_pc (L 6 2))) → cv_At X (26, cv_shC, 0, 0, a) 8 u64 95 [(7, .int (nI ll)), (6, .int (nI uu)), (0, .ref 0), (1, .int (nI 2)), (2, .int (nI j)), (3, .int (nI w)), (4, .int (nI q)), (5, .int (nI 1))] [] := by
            intro r
            induction r with
            | zero =>
              intro uu ll hll huu hr8 hu0
              have h2r : 2 ^ 0 = 1 := rfl
              refine cv_iload C (pc' := 97) rfl (D 48 (95, .iload 7, 2) rfl) (j := 0) rfl ?_
              refine cv_iconst C (pc' := 98) rfl (D 49 (97, .iconst 1, 1) rfl) (v := nI 1) (by decide) ?_
              refine cv_icmp_leN C (pc' := 101) rfl (by omega) (by omega) (tgt := 123) (D 50 (98, .if_icmp .le 25, 3) rfl) (by decide) (fun b98 => ?_) (fun b98 => ?_)
              · skip
                refine cv_iload C (pc' := 125) rfl (D 64 (123, .iload 4, 2) rfl) (j := 6) rfl ?_
                refine cv_if_neN C (pc' := 128) rfl (by omega) (tgt := 134) (D 65 (125, .ifCond .ne 9, 3) rfl) (by decide) (fun b125 => ?_) (fun b125 => ?_)
                · skip
                  refine cv_iload C (pc' := 136) rfl (D 69 (134, .iload 7, 2) rfl) (j := 0) rfl ?_
                  refine cv_i2l C (pc' := 137) rfl (D 70 (136, .i2l, 1) rfl) (v := lN ll) (nI_l (by omega)) ?_
                  exact cv_lret C Rt (D 71 (137, .lreturn, 1) rfl) ⟨congrArg (fun z => some (Value.long z)) (by unfold cv_a_odds; rw [if_pos ⟨Or.inr (by decide), b26, b33, b42, by simpa using b52⟩, if_neg (fun h => by rw [← nI_0] at h; have := (nI_eq (by omega) (by omega)).mp h; omega)]; simp only [cv_nt, nI_clamp (show j < 2 ^ 31 by omega), nI_clamp (show w < 2 ^ 31 by omega), show (nI 2).toNatClampNeg = 2 by decide]; rw [← hu0, show cv_hv 0 uu ll = (uu, ll) from rfl]), cv_RC_k hKu64 hB hR⟩
                · skip
                  refine cv_iload C (pc' := 130) rfl (D 66 (128, .iload 6, 2) rfl) (j := 1) rfl ?_
                  refine cv_i2l C (pc' := 131) rfl (D 67 (130, .i2l, 1) rfl) (v := lN uu) (nI_l (by omega)) ?_
                  refine cv_goto C (tgt := 137) (D 68 (131, .goto 6, 3) rfl) (by decide) ?_
                  exact cv_lret C Rt (D 71 (137, .lreturn, 1) rfl) ⟨congrArg (fun z => some (Value.long z)) (by unfold cv_a_odds; rw [if_pos ⟨Or.inr (by decide), b26, b33, b42, by simpa using b52⟩, if_pos (by rw [b125]; rfl)]; simp only [cv_nt, nI_clamp (show j < 2 ^ 31 by omega), nI_clamp (show w < 2 ^ 31 by omega), show (nI 2).toNatClampNeg = 2 by decide]; rw [← hu0, show cv_hv 0 uu ll = (uu, ll) from rfl]), cv_RC_k hKu64 hB hR⟩
              · skip
                omega
            | succ r ih95 =>
              intro uu ll hll huu hr8 hu0
              have h2r : 2 ^ (r + 1) = 2 * 2 ^ r := by rw [Nat.pow_succ]; omega
              have h2p : 2 ^ r ≤ 2 ^ 8 := Nat.pow_le_pow_right (by decide) (by omega)
              have h2q : 1 ≤ 2 ^ r := Nat.one_le_two_pow
              refine cv_iload C (pc' := 97) rfl (D 48 (95, .iload 7, 2) rfl) (j := 0) rfl ?_
              refine cv_iconst C (pc' := 98) rfl (D 49 (97, .iconst 1, 1) rfl) (v := nI 1) (by decide) ?_
              refine cv_icmp_leN C (pc' := 101) rfl (by omega) (by omega) (tgt := 123) (D 50 (98, .if_icmp .le 25, 3) rfl) (by decide) (fun b98 => ?_) (fun b98 => ?_)
              · skip
                omega
              · skip
                refine cv_iload C (pc' := 103) rfl (D 51 (101, .iload 6, 2) rfl) (j := 1) rfl ?_
                refine cv_iconst C (pc' := 104) rfl (D 52 (103, .iconst 2, 1) rfl) (v := nI 2) (by decide) ?_
                refine cv_iremN C (pc' := 105) rfl (by omega) (by decide) (by decide) (D 53 (104, .irem, 1) rfl) ?_
                refine cv_if_neN C (pc' := 108) rfl (by omega) (tgt := 123) (D 54 (105, .ifCond .ne 18, 3) rfl) (by decide) (fun b105 => ?_) (fun b105 => ?_)
                · skip
                  refine cv_iload C (pc' := 125) rfl (D 64 (123, .iload 4, 2) rfl) (j := 6) rfl ?_
                  refine cv_if_neN C (pc' := 128) rfl (by omega) (tgt := 134) (D 65 (125, .ifCond .ne 9, 3) rfl) (by decide) (fun b125 => ?_) (fun b125 => ?_)
                  · skip
                    refine cv_iload C (pc' := 136) rfl (D 69 (134, .iload 7, 2) rfl) (j := 0) rfl ?_
                    refine cv_i2l C (pc' := 137) rfl (D 70 (136, .i2l, 1) rfl) (v := lN ll) (nI_l (by omega)) ?_
                    exact cv_lret C Rt (D 71 (137, .lreturn, 1) rfl) ⟨congrArg (fun z => some (Value.long z)) (by unfold cv_a_odds; rw [if_pos ⟨Or.inr (by decide), b26, b33, b42, by simpa using b52⟩, if_neg (fun h => by rw [← nI_0] at h; have := (nI_eq (by omega) (by omega)).mp h; omega)]; simp only [cv_nt, nI_clamp (show j < 2 ^ 31 by omega), nI_clamp (show w < 2 ^ 31 by omega), show (nI 2).toNatClampNeg = 2 by decide]; rw [← hu0, show cv_hv (r + 1) uu ll = (uu, ll) from (by simp only [cv_hv]; rw [if_neg (by omega)])]), cv_RC_k hKu64 hB hR⟩
                  · skip
                    refine cv_iload C (pc' := 130) rfl (D 66 (128, .iload 6, 2) rfl) (j := 1) rfl ?_
                    refine cv_i2l C (pc' := 131) rfl (D 67 (130, .i2l, 1) rfl) (v := lN uu) (nI_l (by omega)) ?_
                    refine cv_goto C (tgt := 137) (D 68 (131, .goto 6, 3) rfl) (by decide) ?_
                    exact cv_lret C Rt (D 71 (137, .lreturn, 1) rfl) ⟨congrArg (fun z => some (Value.long z)) (by unfold cv_a_odds; rw [if_pos ⟨Or.inr (by decide), b26, b33, b42, by simpa using b52⟩, if_pos (by rw [b125]; rfl)]; simp only [cv_nt, nI_clamp (show j < 2 ^ 31 by omega), nI_clamp (show w < 2 ^ 31 by omega), show (nI 2).toNatClampNeg = 2 by decide]; rw [← hu0, show cv_hv (r + 1) uu ll = (uu, ll) from (by simp only [cv_hv]; rw [if_neg (by omega)])]), cv_RC_k hKu64 hB hR⟩
                · skip
                  refine cv_iload C (pc' := 110) rfl (D 55 (108, .iload 6, 2) rfl) (j := 1) rfl ?_
                  refine cv_iconst C (pc' := 111) rfl (D 56 (110, .iconst 2, 1) rfl) (v := nI 2) (by decide) ?_
                  refine cv_idivN C (pc' := 112) rfl (by omega) (by decide) (by decide) (D 57 (111, .idiv, 1) rfl) ?_
                  refine cv_istore C (pc' := 114) rfl (D 58 (112, .istore 6, 2) rfl) (by decide) (lv' := [(6, .int (nI (uu / 2))), (7, .int (nI ll)), (0, .ref 0), (1, .int (nI 2)), (2, .int (nI j)), (3, .int (nI w)), (4, .int (nI q)), (5, .int (nI 1))]) rfl ?_
                  refine cv_iload C (pc' := 116) rfl (D 59 (114, .iload 7, 2) rfl) (j := 1) rfl ?_
                  refine cv_iconst C (pc' := 117) rfl (D 60 (116, .iconst 2, 1) rfl) (v := nI 2) (by decide) ?_
                  refine cv_idivN C (pc' := 118) rfl (by omega) (by decide) (by decide) (D 61 (117, .idiv, 1) rfl) ?_
                  refine cv_istore C (pc' := 120) rfl (D 62 (118, .istore 7, 2) rfl) (by decide) (lv' := [(7, .int (nI (ll / 2))), (6, .int (nI (uu / 2))), (0, .ref 0), (1, .int (nI 2)), (2, .int (nI j)), (3, .int (nI w)), (4, .int (nI q)), (5, .int (nI 1))]) rfl ?_
                  refine cv_goto C (tgt := 95) (D 63 (120, .goto (-25), 3) rfl) (by decide) ?_
                  exact ih95 (uu / 2) (ll / 2) (by omega) (by omega) (by omega) (by rw [← hu0]; simp only [cv_hv]; rw [if_pos b105])
          refine cv_pick [0, 1, 3, 4, 5, 6, 7, 2] (lv' := [(7, .int (nI (2 ^ cv_pc (L 6 2)))), (6, .int (nI (cv_cnt (fun i => decide (i &&& (L 6 2 ^^^ 4294967295) = 0) && cv_can L (-1) j w (L 6 1) i) 256))), (0, .ref 0), (1, .int (nI 2)), (2, .int (nI j)), (3, .int (nI w)), (4, .int (nI q)), (5, .int (nI 1))]) rfl ?_
          exact LP95 (cv_pc (L 6 2)) (cv_cnt (fun i => decide (i &&& (L 6 2 ^^^ 4294967295) = 0) && cv_can L (-1) j w (L 6 1) i) 256) (2 ^ cv_pc (L 6 2)) rfl (cv_odb L 2 j w (by decide) (hB.2.2.2 2 (by decide))) (cv_pc_le _) (by unfold cv_odn; rfl)
        · skip
          refine cv_ldc2 C (pc' := 58) rfl wlX6_182 (D 26 (55, .ldc2_w 182, 3) rfl) ?_
          exact cv_lret C Rt (D 27 (58, .lreturn, 1) rfl) ⟨congrArg (fun z => some (Value.long z)) (by unfold cv_a_odds; rw [if_neg (fun h => by have := h.2.2.2.2; simp at b52; omega)]), hR⟩

theorem pX6_odds (tr : Int32) (ft : Nat) (sl : Nat → Option (Nat × Nat)) (sc : Nat → Nat → Int32) (L : cv_L) (rc : Nat) (rd : Nat → Nat) (rn : Nat → Option Nat) (x y z w0 : Int32) (σ : cv_St) (hR : cv_RC tr ft sl sc L rc rd rn σ) (hB : cv_LB L) (hDB : cv_DB rc rd rn) : cv_Ct yX6_odds cX6_odds 8 (some .long) 5 0 0 26 cv_shC [.ref 0, .int x, .int y, .int z, .int w0] σ (fun v u => v = some (.long (cv_a_odds L x y z w0)) ∧ cv_RC tr ft sl sc L rc rd rn u) := by
  by_cases h1 : x = 1
  · subst h1; exact kX6_odds1 tr ft sl sc L rc rd rn y z w0 σ hR hB hDB
  · by_cases h2 : x = 2
    · subst h2; exact kX6_odds2 tr ft sl sc L rc rd rn y z w0 σ hR hB hDB
    · exact kX6_odds0 tr ft sl sc L rc rd rn x y z w0 σ hR hB hDB h1 h2
end
section
/-! ===== sheets: answers ===== -/
def cv_ss {α : Type} (g : Nat → α) (k : Nat) (v : α) : Nat → α := fun j => if j = k then v else g j
theorem cv_ss_s {α : Type} {g : Nat → α} {k : Nat} {v : α} : cv_ss g k v k = v := by simp [cv_ss]
theorem cv_ss_n {α : Type} {g : Nat → α} {k j : Nat} {v : α} (h : j ≠ k) : cv_ss g k v j = g j := by simp [cv_ss, h]
theorem cv_RC_S {tr : Int32} {ft : Nat} {sl : Nat → Option (Nat × Nat)} {sc : Nat → Nat → Int32} {L : cv_L} {rc : Nat} {rd : Nat → Nat} {rn : Nat → Option Nat} {σ u : cv_St} {k : Nat} {o : Option (Nat × Nat)} {f : Nat → Int32} (hB : cv_LB L) (hk : k < 4) (hu : ∀ j, j ≠ 2 + k → j ≠ 6 + k → u j = σ j) (hS : cv_S1 o (u (2 + k))) (hf : o.isSome = true → ∀ i, i < 60 → u (6 + k) i = f i) (hR : cv_RC tr ft sl sc L rc rd rn σ) : cv_RC tr ft (cv_ss sl k o) (cv_ss sc k f) L rc rd rn u := by
  obtain ⟨h1, h2, h3, h4, h5, h6⟩ := hR
  have h9 := hB.1
  refine ⟨by rw [hu 0 (by omega) (by omega)]; exact h1, by rw [hu 0 (by omega) (by omega)]; exact h2, fun j hj => ?_, ⟨by rw [hu 10 (by omega) (by omega)]; exact h4.1, fun d hd => by rw [hu 18 (by omega) (by omega)]; exact h4.2.1 d hd, fun v hv => by rw [hu 19 (by omega) (by omega)]; exact h4.2.2.1 v hv, fun p hp i hi => by rw [hu (12 + p) (by omega) (by omega)]; exact h4.2.2.2 p hp i hi⟩, by rw [hu 10 (by omega) (by omega)]; exact h5, by rw [hu 23 (by omega) (by omega)]; exact h6.1, fun q hq => by rw [hu 24 (by omega) (by omega), hu 25 (by omega) (by omega)]; exact h6.2 q hq⟩
  by_cases e : j = k
  · subst e
    rw [cv_ss_s, cv_ss_s]
    exact ⟨hS, hf⟩
  · rw [cv_ss_n e, cv_ss_n e, hu (2 + j) (by omega) (by omega), hu (6 + j) (by omega) (by omega)]
    exact h3 j hj
abbrev cv_ok_sheet (x y z : Int32) : Prop := cv_in x 4 = true ∧ cv_in y 3 = true ∧ cv_in z 61 = true
def cv_a_sheet (x y z : Int32) : Int32 := if cv_in x 4 = true then (if cv_in y 3 = true ∧ z ≤ nI 60 then (if z < 0 then -14 else 1) else -2) else -1
def cv_f_sheet (x y z : Int32) : Nat := if cv_in x 4 = true ∧ cv_in y 3 = true ∧ z ≤ nI 60 ∧ z < 0 then 4 else 0
def cv_a_lose (sl : Nat → Option (Nat × Nat)) (x : Int32) : Int32 := if cv_in x 4 = true then cv_b (sl (cv_nt x)).isSome else -1
def cv_fp (o : Option (Nat × Nat)) (y : Int32) : Nat := match o with
  | none => 1
  | some q => if cv_hs q.2 y (nI 1) = true then 0 else 3
def cv_f_put (sl : Nat → Option (Nat × Nat)) (x y : Int32) : Nat := if cv_in x 4 = true then cv_fp (sl (cv_nt x)) y else 0
def cv_a_put (sl : Nat → Option (Nat × Nat)) (x y : Int32) : Int32 := if cv_in x 4 = true then (if cv_fp (sl (cv_nt x)) y = 0 then 1 else -10 - nI (cv_fp (sl (cv_nt x)) y)) else -1
def cv_n_put (sl : Nat → Option (Nat × Nat)) (sc : Nat → Nat → Int32) (x y z : Int32) : Nat → Nat → Int32 := if cv_in x 4 = true then (match sl (cv_nt x) with
  | none => sc
  | some q => if cv_hs q.2 y (nI 1) = true then cv_ss sc (cv_nt x) (upd (sc (cv_nt x)) (cv_nt y) (cv_ct q.1 z)) else sc) else sc
def cv_f_cell (sl : Nat → Option (Nat × Nat)) (x y z : Int32) : Nat := if cv_in x 4 = true ∧ cv_in z 3 = true then cv_fo (sl (cv_nt x)) z y (nI 1) else 0
def cv_a_cell (sl : Nat → Option (Nat × Nat)) (sc : Nat → Nat → Int32) (x y z : Int32) : Int64 := if cv_in x 4 = true ∧ cv_in z 3 = true ∧ cv_fo (sl (cv_nt x)) z y (nI 1) = 0 then (sc (cv_nt x) (cv_nt y)).toInt64 else (-9223372036854775808)
/-- the fault of a copy -/
def cv_fc (o1 o2 : Option (Nat × Nat)) (y w t : Int32) : Nat := match o1, o2 with
  | some q1, some q2 => if q1.1 = q2.1 then (if cv_hs q1.2 y t = true ∧ cv_hs q2.2 w t = true then 0 else 3) else 2
  | _, _ => 1
abbrev cv_ok_copy (x z : Int32) : Prop := cv_in x 4 = true ∧ cv_in z 4 = true
def cv_f_copy (sl : Nat → Option (Nat × Nat)) (x y z w t : Int32) : Nat := if cv_ok_copy x z then cv_fc (sl (cv_nt x)) (sl (cv_nt z)) y w t else 0
def cv_a_copy (sl : Nat → Option (Nat × Nat)) (x y z w t : Int32) : Int32 := if cv_ok_copy x z then (if cv_fc (sl (cv_nt x)) (sl (cv_nt z)) y w t = 0 then t else -10 - nI (cv_fc (sl (cv_nt x)) (sl (cv_nt z)) y w t)) else -1
def cv_n_copy (sl : Nat → Option (Nat × Nat)) (sc : Nat → Nat → Int32) (x y z w t : Int32) : Nat → Nat → Int32 := if cv_ok_copy x z ∧ cv_fc (sl (cv_nt x)) (sl (cv_nt z)) y w t = 0 then cv_ss sc (cv_nt z) (va_cpy (sc (cv_nt x)) (sc (cv_nt z)) (cv_nt y) (cv_nt w) (cv_nt t)) else sc
theorem cv_u_0k {σ : cv_St} {i k : Nat} {v : Int32} (h : 0 < k) : cv_u σ 0 i v k = σ k := cv_u_c (by omega)
theorem cv_RC_same {tr : Int32} {ft : Nat} {sl sl' : Nat → Option (Nat × Nat)} {sc sc' : Nat → Nat → Int32} {L : cv_L} {rc : Nat} {rd : Nat → Nat} {rn : Nat → Option Nat} {σ : cv_St} (h1 : ∀ k, k < 4 → sl' k = sl k) (h2 : ∀ k, k < 4 → (sl k).isSome = true → ∀ i, i < 60 → sc' k i = sc k i) (hR : cv_RC tr ft sl sc L rc rd rn σ) : cv_RC tr ft sl' sc' L rc rd rn σ := by
  obtain ⟨g1, g2, g3, g4, g5, g6⟩ := hR
  refine ⟨g1, g2, fun k hk => ?_, g4, g5, g6⟩
  rw [h1 k hk]
  exact ⟨(g3 k hk).1, fun h i hi => by rw [h2 k hk h i hi]; exact (g3 k hk).2 h i hi⟩
section CVY
variable {X : cv_X} {own : String} {cc : ByteArray} {nL d : Nat} {σ : cv_St} {pc pc' : Nat} {lv : List (Nat × Value)} {n : Nat} {sh : Nat → cv_Sh} {cells slots : Nat} {a : Nat → Nat} {idx : Nat} {rest : List Value}
theorem cv_acopy (C : cv_Cx X (n, sh, cells, slots, a) own cc nL d) (hp : pc + 3 = pc') {k0 k1 n0 n1 i j t : Nat} (hk0 : k0 < n) (hk1 : k1 < n) (hs0 : sh k0 = .inr (.inl n0)) (hs1 : sh k1 = .inr (.inl n1)) (h0 : i + t ≤ n0) (h1 : j + t ≤ n1) (hn0 : n0 < 2 ^ 31) (hn1 : n1 < 2 ^ 31) (hw1 : Cond.methodLink own idx arraycopyName ∈ cv_BIG) (hdp : 2 ≤ d) (hrm : (rest.map fun v => v.category).sum ≤ 8) (hd : decode cc pc = .ok (.invokestatic idx, 3))
    (k : cv_At X (n, sh, cells, slots, a) nL (cv_uc σ k1 (va_cpy (σ k0) (σ k1) i j t)) pc' lv rest) : cv_At X (n, sh, cells, slots, a) nL σ pc lv (.int (nI t) :: .int (nI j) :: .ref k1 :: .int (nI i) :: .ref k0 :: rest) := by
  subst hp
  obtain ⟨p, l, e, R, s, m, args, below, meth, c, Q, D, A, cA⟩ := X
  obtain ⟨hx, hb, hml, hown, hts, hK, hD, hA, hN, hf, hlo, hcl, hsl⟩ := C
  intro H locs ls hP hS hl
  have he0 := cv_wl_at (sh := sh) (cA := cA) (a := a) (σ := σ) hk0
  have he1 := cv_wl_at (sh := sh) (cA := cA) (a := a) (σ := σ) hk1
  rw [hs0] at he0
  rw [hs1] at he1
  have h8 := cv_sum (a := a) hrm
  have ci : (nI i).toNatClampNeg = i := nI_clamp (by omega)
  have cj : (nI j).toNatClampNeg = j := nI_clamp (by omega)
  have ct : (nI t).toNatClampNeg = t := nI_clamp (by omega)
  have hnf : nativeFrameWords "java/lang/System" "arraycopy" 5 ≤ 40 := by decide +kernel
  refine va_copyi hx hb (by rw [hml]; exact hl.1.symm) hown (hts _ hw1) (hts _ wv_arraycopy) (hts _ wt_arraycopyName) (hts _ wn_J10) hK hP (cv_D_any σ hD) hS k0 k1 0 0 he0 he1 rfl rfl rfl (nI_pos (by omega)) (nI_pos (by omega)) (nI_pos (by omega)) (by rw [ci, ct]; exact h0) (by rw [cj, ct]; exact h1) (fun q hq => rfl) (by omega) (by omega) hd (fun H1 locs1 hP1 hD1 hS1 => ?_)
  refine k H1 locs1 ls ?_ hS1 hl
  rw [ci, cj, ct] at hP1
  rw [cv_wl_set (f := va_cpy (σ k0) (σ k1) i j t) hk1 (by rw [hs1]; rfl)] at hP1
  exact hP1
end CVY
end
section
set_option maxHeartbeats 4000000 in
set_option maxRecDepth 100000 in
theorem pX6_sheet (tr : Int32) (ft : Nat) (sl : Nat → Option (Nat × Nat)) (sc : Nat → Nat → Int32) (L : cv_L) (rc : Nat) (rd : Nat → Nat) (rn : Nat → Option Nat) (x y z : Int32) (σ : cv_St) (hR : cv_RC tr ft sl sc L rc rd rn σ) (hB : cv_LB L) (hDB : cv_DB rc rd rn) : cv_Ct yX6_sheet cX6_sheet 4 (some .int) 2 0 0 26 cv_shC [.ref 0, .int x, .int y, .int z] σ (fun v u => v = some (.int (cv_a_sheet x y z)) ∧ (if cv_ok_sheet x y z then cv_RC tr 0 (cv_ss sl (cv_nt x) (some (cv_nt y, cv_nt z))) (cv_ss sc (cv_nt x) (fun _ => 0)) L rc rd rn u else cv_RC tr (cv_f_sheet x y z) sl sc L rc rd rn u)) := by
  refine cv_enter (own := RX6) (by decide) rfl (Nat.le_of_ble_eq_true rfl) ?_
  intro X a C Rt hRm
  have D := @cv_dec _ _ dkX6_sheet
  obtain ⟨hTr, hFt, hSh, hL, hSe, hD⟩ := id hR
  have hn6 := hB.1
  have hrc := hDB.1
  show cv_At X _ _ σ 0 [(0, .ref 0), (1, .int x), (2, .int y), (3, .int z)] []
  refine cv_aload_n C (pc' := 1) rfl (D 0 (0, .aload_n 0, 1) rfl) rfl (j := 0) rfl ?_
  refine cv_iconst C (pc' := 2) rfl (D 1 (1, .iconst 0, 1) rfl) (v := nI 0) (by decide) ?_
  refine cv_put C (pc' := 5) rfl (k0 := 0) (i := 5) (ci := 6) (by decide) rfl rfl (by decide) rfl iw_X6 tyX6 tyX6_ok nmX6 wfX6_39 rfl rfl rfl (D 2 (2, .putfield 39, 3) rfl) ?_
  refine cv_iload_n C (pc' := 6) rfl (D 3 (5, .iload_n 1, 1) rfl) rfl (j := 1) rfl ?_
  refine cv_callS C (pc' := 9) rfl (As := [.int x]) (rest := []) (idx := 43) (np := 1) (kX6_isSheet x (cv_u σ 0 5 (nI 0))) (by decide +kernel) rfl wmX6_43 wt_yX6_isSheet wn_X6 wc_yX6_isSheet (by decide) (by decide) (D 4 (6, .invokestatic 43, 3) rfl) (Nat.le_of_ble_eq_true rfl) rfl (fun w9 u9 h9 => ?_)
  rw [h9.1, h9.2]
  show cv_At X _ _ (cv_u σ 0 5 (nI 0)) 9 _ [.int (cv_b (cv_in x 4))]
  refine cv_if_neB C (pc' := 12) rfl (tgt := 14) (D 5 (9, .ifCond .ne 5, 3) rfl) (by decide) (fun b9 => ?_) (fun b9 => ?_)
  · skip
    refine cv_iload_n C (pc' := 15) rfl (D 8 (14, .iload_n 2, 1) rfl) rfl (j := 2) rfl ?_
    refine cv_callS C (pc' := 18) rfl (As := [.int y]) (rest := []) (idx := 47) (np := 1) (kX6_isLane y (cv_u σ 0 5 (nI 0))) (by decide +kernel) rfl wmX6_47 wt_yX6_isLane wn_X6 wc_yX6_isLane (by decide) (by decide) (D 9 (15, .invokestatic 47, 3) rfl) (Nat.le_of_ble_eq_true rfl) rfl (fun w9 u9 h9 => ?_)
    rw [h9.1, h9.2]
    show cv_At X _ _ (cv_u σ 0 5 (nI 0)) 18 _ [.int (cv_b (cv_in y 3))]
    refine cv_if_eqB C (pc' := 21) rfl (tgt := 27) (D 10 (18, .ifCond .eq 9, 3) rfl) (by decide) (fun b18 => ?_) (fun b18 => ?_)
    · skip
      refine cv_bipush C (pc' := 29) rfl (D 14 (27, .bipush (-2), 2) rfl) (v := -2) (by decide) ?_
      exact cv_iret C Rt rfl (D 15 (29, .ireturn, 1) rfl) ⟨congrArg (fun z => some (Value.int z)) (by unfold cv_a_sheet; rw [if_pos b9, if_neg (by simp [b18])]), by rw [if_neg (fun h => by rw [h.2.1] at b18; cases b18)]; unfold cv_f_sheet; rw [if_neg (by simp [b18])]; exact cv_RC_f _ hR⟩
    · skip
      refine cv_iload_n C (pc' := 22) rfl (D 11 (21, .iload_n 3, 1) rfl) rfl (j := 3) rfl ?_
      refine cv_bipush C (pc' := 24) rfl (D 12 (22, .bipush 60, 2) rfl) (v := nI 60) (by decide) ?_
      refine cv_icmp_le C (pc' := 27) rfl (tgt := 30) (D 13 (24, .if_icmp .le 6, 3) rfl) (by decide) (fun b24 => ?_) (fun b24 => ?_)
      · skip
        refine cv_iload_n C (pc' := 31) rfl (D 16 (30, .iload_n 3, 1) rfl) rfl (j := 3) rfl ?_
        refine cv_if_ge C (pc' := 34) rfl (tgt := 40) (D 17 (31, .ifCond .ge 9, 3) rfl) (by decide) (fun b31 => ?_) (fun b31 => ?_)
        · skip
          have hz61 : cv_in z 61 = true := by
            obtain ⟨q, hq, rfl⟩ := nI_of (Int32.not_lt.mpr b31)
            exact cv_in_nI (by have := (nI_leI hq (by decide)).mp b24; omega) (by decide)
          obtain ⟨j, hj, rfl⟩ := cv_in_of b9 (by omega)
          obtain ⟨w, hw, rfl⟩ := cv_in_of b18 (by omega)
          obtain ⟨q, hq, rfl⟩ := cv_in_of hz61 (by omega)
          refine cv_aload_n C (pc' := 41) rfl (D 22 (40, .aload_n 0, 1) rfl) rfl (j := 0) rfl ?_
          refine cv_get C (pc' := 44) rfl (k0 := 0) (i := 0) (ci := 6) (by decide) rfl rfl (by decide) (o := some 1) rfl iw_X6 wfX6_13 (D 23 (41, .getfield 13, 3) rfl) rfl ?_
          refine cv_iload_n C (pc' := 45) rfl (D 24 (44, .iload_n 1, 1) rfl) rfl (j := 1) rfl ?_
          refine cv_aald C (pc' := 46) rfl (k0 := 1) (j := j) (r := 2 + j) (by decide) rfl rfl rfl (cv_ix_s hj) (by decide) (D 25 (45, .aaload, 1) rfl) ?_
          refine cv_iload_n C (pc' := 47) rfl (D 26 (46, .iload_n 2, 1) rfl) rfl (j := 2) rfl ?_
          refine cv_iload_n C (pc' := 48) rfl (D 27 (47, .iload_n 3, 1) rfl) rfl (j := 3) rfl ?_
          refine cv_callV C (pc' := 51) rfl (k0 := 2 + j) (ci := 3) (As := [.int (nI w), .int (nI q)]) (rest := []) (idx := 192) (np := 2) (kX3_renew j (nI w) (nI q) (cv_u σ 0 5 (nI 0)) hj) (cv_lt_s hj) (cv_shC_s hj) rfl rfl (by decide +kernel) rfl wmX6_192 wi_yX3_renew ws_yX3_renew wn_X3 wc_yX3_renew (by decide) (by decide) (D 28 (48, .invokevirtual 192, 3) rfl) (Nat.le_of_ble_eq_true rfl) rfl (fun w48 u48 h48 => ?_)
          obtain ⟨e48, r1, r2, r3, r4⟩ := h48
          rw [e48]
          show cv_At X _ _ u48 51 _ []
          refine cv_iconst C (pc' := 52) rfl (D 29 (51, .iconst 1, 1) rfl) (v := nI 1) (by decide) ?_
          exact cv_iret C Rt rfl (D 30 (52, .ireturn, 1) rfl) ⟨congrArg (fun z => some (Value.int z)) (by unfold cv_a_sheet; rw [if_pos b9, if_pos ⟨b18, b24⟩, if_neg (Int32.not_lt.mpr b31)]; rfl), by rw [if_pos ⟨b9, b18, hz61⟩]; simp only [cv_nt, nI_clamp (show j < 2 ^ 31 by omega), nI_clamp (show w < 2 ^ 31 by omega), nI_clamp (show q < 2 ^ 31 by omega)]; exact cv_RC_S hB hj r1 ⟨r2, r3, hw, by omega⟩ (fun _ i hi => r4 i hi) (cv_RC_f 0 hR)⟩
        · skip
          refine cv_aload_n C (pc' := 35) rfl (D 18 (34, .aload_n 0, 1) rfl) rfl (j := 0) rfl ?_
          refine cv_iconst C (pc' := 36) rfl (D 19 (35, .iconst 4, 1) rfl) (v := nI 4) (by decide) ?_
          refine cv_callV C (pc' := 39) rfl (k0 := 0) (ci := 6) (As := [.int (nI 4)]) (rest := []) (idx := 54) (np := 1) (kX6_failed 4 (cv_u σ 0 5 (nI 0))) (by decide) rfl rfl rfl (by decide +kernel) rfl wmX6_54 wi_yX6_failed ws_yX6_failed wn_X6 wc_yX6_failed (by decide) (by decide) (D 20 (36, .invokevirtual 54, 3) rfl) (Nat.le_of_ble_eq_true rfl) rfl (fun w36 u36 h36 => ?_)
          rw [h36.1, h36.2, cv_uu]
          show cv_At X _ _ (cv_u σ 0 5 (nI 4)) 39 _ [.int (-10 - nI 4)]
          exact cv_iret C Rt rfl (D 21 (39, .ireturn, 1) rfl) ⟨congrArg (fun z => some (Value.int z)) (by unfold cv_a_sheet; rw [if_pos b9, if_pos ⟨b18, b24⟩, if_pos (Int32.not_le.mp b31)]; decide), by rw [if_neg (fun h => by obtain ⟨q, hq, rfl⟩ := cv_in_of h.2.2 (by decide); exact b31 (nI_pos' (by omega)))]; unfold cv_f_sheet; rw [if_pos ⟨b9, b18, b24, Int32.not_le.mp b31⟩]; exact cv_RC_f _ hR⟩
      · skip
        refine cv_bipush C (pc' := 29) rfl (D 14 (27, .bipush (-2), 2) rfl) (v := -2) (by decide) ?_
        exact cv_iret C Rt rfl (D 15 (29, .ireturn, 1) rfl) ⟨congrArg (fun z => some (Value.int z)) (by unfold cv_a_sheet; rw [if_pos b9, if_neg (fun h => b24 h.2)]), by rw [if_neg (fun h => by obtain ⟨q, hq, rfl⟩ := cv_in_of h.2.2 (by decide); exact b24 (nI_le (by omega) (by decide)))]; unfold cv_f_sheet; rw [if_neg (fun h => b24 h.2.2.1)]; exact cv_RC_f _ hR⟩
  · skip
    refine cv_iconst C (pc' := 13) rfl (D 6 (12, .iconst (-1), 1) rfl) (v := -1) (by decide) ?_
    exact cv_iret C Rt rfl (D 7 (13, .ireturn, 1) rfl) ⟨congrArg (fun z => some (Value.int z)) (by unfold cv_a_sheet; rw [if_neg (by simp [b9])]), by rw [if_neg (fun h => by rw [h.1] at b9; cases b9)]; unfold cv_f_sheet; rw [if_neg (by simp [b9])]; exact cv_RC_f _ hR⟩

set_option maxHeartbeats 4000000 in
set_option maxRecDepth 100000 in
theorem pX6_lose (tr : Int32) (ft : Nat) (sl : Nat → Option (Nat × Nat)) (sc : Nat → Nat → Int32) (L : cv_L) (rc : Nat) (rd : Nat → Nat) (rn : Nat → Option Nat) (x : Int32) (σ : cv_St) (hR : cv_RC tr ft sl sc L rc rd rn σ) (hB : cv_LB L) (hDB : cv_DB rc rd rn) : cv_Ct yX6_lose cX6_lose 3 (some .int) 2 0 0 26 cv_shC [.ref 0, .int x] σ (fun v u => v = some (.int (cv_a_lose sl x)) ∧ (if cv_in x 4 = true then cv_RC tr ft (cv_ss sl (cv_nt x) none) (cv_ss sc (cv_nt x) (fun _ => 0)) L rc rd rn u else cv_RC tr ft sl sc L rc rd rn u)) := by
  refine cv_enter (own := RX6) (by decide) rfl (Nat.le_of_ble_eq_true rfl) ?_
  intro X a C Rt hRm
  have D := @cv_dec _ _ dkX6_lose
  obtain ⟨hTr, hFt, hSh, hL, hSe, hD⟩ := id hR
  have hn6 := hB.1
  have hrc := hDB.1
  show cv_At X _ _ σ 0 [(0, .ref 0), (1, .int x)] []
  refine cv_iload_n C (pc' := 1) rfl (D 0 (0, .iload_n 1, 1) rfl) rfl (j := 1) rfl ?_
  refine cv_callS C (pc' := 4) rfl (As := [.int x]) (rest := []) (idx := 43) (np := 1) (kX6_isSheet x σ) (by decide +kernel) rfl wmX6_43 wt_yX6_isSheet wn_X6 wc_yX6_isSheet (by decide) (by decide) (D 1 (1, .invokestatic 43, 3) rfl) (Nat.le_of_ble_eq_true rfl) rfl (fun w9 u9 h9 => ?_)
  rw [h9.1, h9.2]
  show cv_At X _ _ σ 4 _ [.int (cv_b (cv_in x 4))]
  refine cv_if_neB C (pc' := 7) rfl (tgt := 9) (D 2 (4, .ifCond .ne 5, 3) rfl) (by decide) (fun b4 => ?_) (fun b4 => ?_)
  · skip
    obtain ⟨j, hj, rfl⟩ := cv_in_of b4 (by omega)
    refine cv_aload_n C (pc' := 10) rfl (D 5 (9, .aload_n 0, 1) rfl) rfl (j := 0) rfl ?_
    refine cv_get C (pc' := 13) rfl (k0 := 0) (i := 0) (ci := 6) (by decide) rfl rfl (by decide) (o := some 1) rfl iw_X6 wfX6_13 (D 6 (10, .getfield 13, 3) rfl) rfl ?_
    refine cv_iload_n C (pc' := 14) rfl (D 7 (13, .iload_n 1, 1) rfl) rfl (j := 1) rfl ?_
    refine cv_aald C (pc' := 15) rfl (k0 := 1) (j := j) (r := 2 + j) (by decide) rfl rfl rfl (cv_ix_s hj) (by decide) (D 8 (14, .aaload, 1) rfl) ?_
    refine cv_callV C (pc' := 18) rfl (k0 := 2 + j) (ci := 3) (As := []) (rest := []) (idx := 196) (np := 0) (kX3_hasNothing j (sl j) σ hj (hSh j hj).1) (cv_lt_s hj) (cv_shC_s hj) rfl rfl (by decide +kernel) rfl wmX6_196 wi_yX3_hasNothing ws_yX3_hasNothing wn_X3 wc_yX3_hasNothing (by decide) (by decide) (D 9 (15, .invokevirtual 196, 3) rfl) (Nat.le_of_ble_eq_true rfl) rfl (fun w9 u9 h9 => ?_)
    rw [h9.1, h9.2]
    show cv_At X _ _ σ 18 _ [.int (cv_b ((sl j).isNone))]
    refine cv_if_eqB C (pc' := 21) rfl (tgt := 25) (D 10 (18, .ifCond .eq 7, 3) rfl) (by decide) (fun b18 => ?_) (fun b18 => ?_)
    · skip
      refine cv_iconst C (pc' := 26) rfl (D 13 (25, .iconst 1, 1) rfl) (v := nI 1) (by decide) ?_
      refine cv_istore_n C (pc' := 27) rfl (D 14 (26, .istore_n 2, 1) rfl) rfl (by decide) (lv' := [(2, .int (nI 1)), (0, .ref 0), (1, .int (nI j))]) rfl ?_
      refine cv_aload_n C (pc' := 28) rfl (D 15 (27, .aload_n 0, 1) rfl) rfl (j := 1) rfl ?_
      refine cv_get C (pc' := 31) rfl (k0 := 0) (i := 0) (ci := 6) (by decide) rfl rfl (by decide) (o := some 1) rfl iw_X6 wfX6_13 (D 16 (28, .getfield 13, 3) rfl) rfl ?_
      refine cv_iload_n C (pc' := 32) rfl (D 17 (31, .iload_n 1, 1) rfl) rfl (j := 2) rfl ?_
      refine cv_aald C (pc' := 33) rfl (k0 := 1) (j := j) (r := 2 + j) (by decide) rfl rfl rfl (cv_ix_s hj) (by decide) (D 18 (32, .aaload, 1) rfl) ?_
      refine cv_iconst C (pc' := 34) rfl (D 19 (33, .iconst (-1), 1) rfl) (v := -1) (by decide) ?_
      refine cv_iconst C (pc' := 35) rfl (D 20 (34, .iconst 0, 1) rfl) (v := nI 0) (by decide) ?_
      refine cv_callV C (pc' := 38) rfl (k0 := 2 + j) (ci := 3) (As := [.int (-1), .int (nI 0)]) (rest := []) (idx := 192) (np := 2) (kX3_renew j (-1) (nI 0) σ hj) (cv_lt_s hj) (cv_shC_s hj) rfl rfl (by decide +kernel) rfl wmX6_192 wi_yX3_renew ws_yX3_renew wn_X3 wc_yX3_renew (by decide) (by decide) (D 21 (35, .invokevirtual 192, 3) rfl) (Nat.le_of_ble_eq_true rfl) rfl (fun w35 u35 h35 => ?_)
      obtain ⟨e35, r1, r2, r3, r4⟩ := h35
      rw [e35]
      show cv_At X _ _ u35 38 _ []
      refine cv_iload_n C (pc' := 39) rfl (D 22 (38, .iload_n 2, 1) rfl) rfl (j := 0) rfl ?_
      exact cv_iret C Rt rfl (D 23 (39, .ireturn, 1) rfl) ⟨congrArg (fun z => some (Value.int z)) (by unfold cv_a_lose; rw [if_pos b4, cv_nt, nI_clamp (by omega)]; cases ho : sl j with | none => rw [ho] at b18; cases b18 | some q => rfl), by rw [if_pos b4]; simp only [cv_nt, nI_clamp (show j < 2 ^ 31 by omega)]; exact cv_RC_S hB hj r1 r2 (fun h => by cases h) hR⟩
    · skip
      refine cv_iconst C (pc' := 22) rfl (D 11 (21, .iconst 0, 1) rfl) (v := nI 0) (by decide) ?_
      refine cv_goto C (tgt := 26) (D 12 (22, .goto 4, 3) rfl) (by decide) ?_
      refine cv_istore_n C (pc' := 27) rfl (D 14 (26, .istore_n 2, 1) rfl) rfl (by decide) (lv' := [(2, .int (nI 0)), (0, .ref 0), (1, .int (nI j))]) rfl ?_
      refine cv_aload_n C (pc' := 28) rfl (D 15 (27, .aload_n 0, 1) rfl) rfl (j := 1) rfl ?_
      refine cv_get C (pc' := 31) rfl (k0 := 0) (i := 0) (ci := 6) (by decide) rfl rfl (by decide) (o := some 1) rfl iw_X6 wfX6_13 (D 16 (28, .getfield 13, 3) rfl) rfl ?_
      refine cv_iload_n C (pc' := 32) rfl (D 17 (31, .iload_n 1, 1) rfl) rfl (j := 2) rfl ?_
      refine cv_aald C (pc' := 33) rfl (k0 := 1) (j := j) (r := 2 + j) (by decide) rfl rfl rfl (cv_ix_s hj) (by decide) (D 18 (32, .aaload, 1) rfl) ?_
      refine cv_iconst C (pc' := 34) rfl (D 19 (33, .iconst (-1), 1) rfl) (v := -1) (by decide) ?_
      refine cv_iconst C (pc' := 35) rfl (D 20 (34, .iconst 0, 1) rfl) (v := nI 0) (by decide) ?_
      refine cv_callV C (pc' := 38) rfl (k0 := 2 + j) (ci := 3) (As := [.int (-1), .int (nI 0)]) (rest := []) (idx := 192) (np := 2) (kX3_renew j (-1) (nI 0) σ hj) (cv_lt_s hj) (cv_shC_s hj) rfl rfl (by decide +kernel) rfl wmX6_192 wi_yX3_renew ws_yX3_renew wn_X3 wc_yX3_renew (by decide) (by decide) (D 21 (35, .invokevirtual 192, 3) rfl) (Nat.le_of_ble_eq_true rfl) rfl (fun w35 u35 h35 => ?_)
      obtain ⟨e35, r1, r2, r3, r4⟩ := h35
      rw [e35]
      show cv_At X _ _ u35 38 _ []
      refine cv_iload_n C (pc' := 39) rfl (D 22 (38, .iload_n 2, 1) rfl) rfl (j := 0) rfl ?_
      exact cv_iret C Rt rfl (D 23 (39, .ireturn, 1) rfl) ⟨congrArg (fun z => some (Value.int z)) (by unfold cv_a_lose; rw [if_pos b4, cv_nt, nI_clamp (by omega)]; cases ho : sl j with | none => rfl | some q => rw [ho] at b18; cases b18), by rw [if_pos b4]; simp only [cv_nt, nI_clamp (show j < 2 ^ 31 by omega)]; exact cv_RC_S hB hj r1 r2 (fun h => by cases h) hR⟩
  · skip
    refine cv_iconst C (pc' := 8) rfl (D 3 (7, .iconst (-1), 1) rfl) (v := -1) (by decide) ?_
    exact cv_iret C Rt rfl (D 4 (8, .ireturn, 1) rfl) ⟨congrArg (fun z => some (Value.int z)) (by unfold cv_a_lose; rw [if_neg (by simp [b4])]), by rw [if_neg (by simp [b4])]; exact hR⟩

theorem cv_u_row {σ : cv_St} {k i i2 : Nat} {v : Int32} {f : Nat → Int32} (h : σ k i2 = f i2) : cv_u σ k i v k i2 = upd f i v i2 := by
  rw [cv_u, cv_uc_s]
  unfold upd
  split
  · rfl
  · exact h
theorem cv_ss_id {α : Type} {g : Nat → α} {k : Nat} {v : α} (h : g k = v) (j : Nat) : cv_ss g k v j = g j := by
  by_cases e : j = k
  · subst e; rw [cv_ss_s, h]
  · exact cv_ss_n e
set_option maxHeartbeats 4000000 in
set_option maxRecDepth 100000 in
theorem pX6_put (tr : Int32) (ft : Nat) (sl : Nat → Option (Nat × Nat)) (sc : Nat → Nat → Int32) (L : cv_L) (rc : Nat) (rd : Nat → Nat) (rn : Nat → Option Nat) (x y z : Int32) (σ : cv_St) (hR : cv_RC tr ft sl sc L rc rd rn σ) (hB : cv_LB L) (hDB : cv_DB rc rd rn) : cv_Ct yX6_put cX6_put 6 (some .int) 2 0 0 26 cv_shC [.ref 0, .int x, .int y, .int z] σ (fun v u => v = some (.int (cv_a_put sl x y)) ∧ cv_RC tr (cv_f_put sl x y) sl (cv_n_put sl sc x y z) L rc rd rn u) := by
  refine cv_enter (own := RX6) (by decide) rfl (Nat.le_of_ble_eq_true rfl) ?_
  intro X a C Rt hRm
  have D := @cv_dec _ _ dkX6_put
  obtain ⟨hTr, hFt, hSh, hL, hSe, hD⟩ := id hR
  have hn6 := hB.1
  have hrc := hDB.1
  show cv_At X _ _ σ 0 [(0, .ref 0), (1, .int x), (2, .int y), (3, .int z)] []
  refine cv_aload_n C (pc' := 1) rfl (D 0 (0, .aload_n 0, 1) rfl) rfl (j := 0) rfl ?_
  refine cv_iconst C (pc' := 2) rfl (D 1 (1, .iconst 0, 1) rfl) (v := nI 0) (by decide) ?_
  refine cv_put C (pc' := 5) rfl (k0 := 0) (i := 5) (ci := 6) (by decide) rfl rfl (by decide) rfl iw_X6 tyX6 tyX6_ok nmX6 wfX6_39 rfl rfl rfl (D 2 (2, .putfield 39, 3) rfl) ?_
  refine cv_iload_n C (pc' := 6) rfl (D 3 (5, .iload_n 1, 1) rfl) rfl (j := 1) rfl ?_
  refine cv_callS C (pc' := 9) rfl (As := [.int x]) (rest := []) (idx := 43) (np := 1) (kX6_isSheet x (cv_u σ 0 5 (nI 0))) (by decide +kernel) rfl wmX6_43 wt_yX6_isSheet wn_X6 wc_yX6_isSheet (by decide) (by decide) (D 4 (6, .invokestatic 43, 3) rfl) (Nat.le_of_ble_eq_true rfl) rfl (fun w9 u9 h9 => ?_)
  rw [h9.1, h9.2]
  show cv_At X _ _ (cv_u σ 0 5 (nI 0)) 9 _ [.int (cv_b (cv_in x 4))]
  refine cv_if_neB C (pc' := 12) rfl (tgt := 14) (D 5 (9, .ifCond .ne 5, 3) rfl) (by decide) (fun b9 => ?_) (fun b9 => ?_)
  · skip
    obtain ⟨j, hj, rfl⟩ := cv_in_of b9 (by omega)
    cases hq : sl j with
    | none =>
      have hS1 := (hSh j hj).1
      rw [hq] at hS1
      refine cv_aload_n C (pc' := 15) rfl (D 8 (14, .aload_n 0, 1) rfl) rfl (j := 0) rfl ?_
      refine cv_get C (pc' := 18) rfl (k0 := 0) (i := 0) (ci := 6) (by decide) rfl rfl (by decide) (o := some 1) rfl iw_X6 wfX6_13 (D 9 (15, .getfield 13, 3) rfl) rfl ?_
      refine cv_iload_n C (pc' := 19) rfl (D 10 (18, .iload_n 1, 1) rfl) rfl (j := 1) rfl ?_
      refine cv_aald C (pc' := 20) rfl (k0 := 1) (j := j) (r := 2 + j) (by decide) rfl rfl rfl (cv_ix_s hj) (by decide) (D 11 (19, .aaload, 1) rfl) ?_
      refine cv_astore C (pc' := 22) rfl (D 12 (20, .astore 4, 2) rfl) (by decide) (lv' := [(4, .ref (2 + j)), (0, .ref 0), (1, .int (nI j)), (2, .int y), (3, .int z)]) rfl ?_
      refine cv_aload C (pc' := 24) rfl (D 13 (22, .aload 4, 2) rfl) (j := 0) rfl ?_
      refine cv_aload C (pc' := 26) rfl (D 14 (24, .aload 4, 2) rfl) (j := 0) rfl ?_
      refine cv_get C (pc' := 29) rfl (k0 := 2 + j) (i := 1) (ci := 3) (cv_lt_s hj) (cv_shC_s hj) rfl (by decide) (o := none) rfl iw_X3 wfX6_200 (D 15 (26, .getfield 200, 3) rfl) (v := .int (-1)) (congrArg Value.int ((congrFun (cv_u_c (by omega)) _).trans hS1)) ?_
      refine cv_iload_n C (pc' := 30) rfl (D 16 (29, .iload_n 2, 1) rfl) rfl (j := 3) rfl ?_
      refine cv_iconst C (pc' := 31) rfl (D 17 (30, .iconst 1, 1) rfl) (v := nI 1) (by decide) ?_
      refine cv_callV C (pc' := 34) rfl (k0 := 2 + j) (ci := 3) (As := [.int (-1), .int y, .int (nI 1)]) (rest := []) (idx := 50) (np := 3) (kX3_faultOf j none (-1) y (nI 1) (cv_u σ 0 5 (nI 0)) hj (by rw [cv_u_0k (by omega)]; exact hS1)) (cv_lt_s hj) (cv_shC_s hj) rfl rfl (by decide +kernel) rfl wmX6_50 wi_yX3_faultOf ws_yX3_faultOf wn_X3 wc_yX3_faultOf (by decide) (by decide) (D 18 (31, .invokevirtual 50, 3) rfl) (Nat.le_of_ble_eq_true rfl) rfl (fun w9 u9 h9 => ?_)
      rw [h9.1, h9.2]
      show cv_At X _ _ (cv_u σ 0 5 (nI 0)) 34 _ [.int (nI (cv_fo none (-1) y (nI 1)))]
      refine cv_istore C (pc' := 36) rfl (D 19 (34, .istore 5, 2) rfl) (by decide) (lv' := [(5, .int (nI (cv_fo none (-1) y (nI 1)))), (4, .ref (2 + j)), (0, .ref 0), (1, .int (nI j)), (2, .int y), (3, .int z)]) rfl ?_
      refine cv_iload C (pc' := 38) rfl (D 20 (36, .iload 5, 2) rfl) (j := 0) rfl ?_
      have hfb := cv_fo_le none (-1) y (nI 1)
      refine cv_if_eqN C (pc' := 41) rfl (by omega) (tgt := 48) (D 21 (38, .ifCond .eq 10, 3) rfl) (by decide) (fun b38 => ?_) (fun b38 => ?_)
      · skip
        exact absurd b38 Nat.one_ne_zero
      · skip
        refine cv_aload_n C (pc' := 42) rfl (D 22 (41, .aload_n 0, 1) rfl) rfl (j := 2) rfl ?_
        refine cv_iload C (pc' := 44) rfl (D 23 (42, .iload 5, 2) rfl) (j := 0) rfl ?_
        refine cv_callV C (pc' := 47) rfl (k0 := 0) (ci := 6) (As := [.int (nI (cv_fo none (-1) y (nI 1)))]) (rest := []) (idx := 54) (np := 1) (kX6_failed (cv_fo none (-1) y (nI 1)) (cv_u σ 0 5 (nI 0))) (by decide) rfl rfl rfl (by decide +kernel) rfl wmX6_54 wi_yX6_failed ws_yX6_failed wn_X6 wc_yX6_failed (by decide) (by decide) (D 24 (44, .invokevirtual 54, 3) rfl) (Nat.le_of_ble_eq_true rfl) rfl (fun w44 u44 h44 => ?_)
        rw [h44.1, h44.2, cv_uu]
        show cv_At X _ _ (cv_u σ 0 5 (nI (cv_fo none (-1) y (nI 1)))) 47 _ [.int (-10 - nI (cv_fo none (-1) y (nI 1)))]
        exact cv_iret C Rt rfl (D 25 (47, .ireturn, 1) rfl) ⟨congrArg (fun z => some (Value.int z)) (by unfold cv_a_put; rw [if_pos b9, cv_nt, nI_clamp (show j < 2 ^ 31 by omega), hq]; rfl), by unfold cv_f_put cv_n_put; rw [if_pos b9, if_pos b9, cv_nt, nI_clamp (show j < 2 ^ 31 by omega), hq]; exact cv_RC_f _ hR⟩
    | some q =>
      have hS1 := (hSh j hj).1
      rw [hq] at hS1
      have hq1 := hS1.2.2.1
      have hq2 := hS1.2.2.2
      have hSc := (hSh j hj).2 (by rw [hq]; rfl)
      refine cv_aload_n C (pc' := 15) rfl (D 8 (14, .aload_n 0, 1) rfl) rfl (j := 0) rfl ?_
      refine cv_get C (pc' := 18) rfl (k0 := 0) (i := 0) (ci := 6) (by decide) rfl rfl (by decide) (o := some 1) rfl iw_X6 wfX6_13 (D 9 (15, .getfield 13, 3) rfl) rfl ?_
      refine cv_iload_n C (pc' := 19) rfl (D 10 (18, .iload_n 1, 1) rfl) rfl (j := 1) rfl ?_
      refine cv_aald C (pc' := 20) rfl (k0 := 1) (j := j) (r := 2 + j) (by decide) rfl rfl rfl (cv_ix_s hj) (by decide) (D 11 (19, .aaload, 1) rfl) ?_
      refine cv_astore C (pc' := 22) rfl (D 12 (20, .astore 4, 2) rfl) (by decide) (lv' := [(4, .ref (2 + j)), (0, .ref 0), (1, .int (nI j)), (2, .int y), (3, .int z)]) rfl ?_
      refine cv_aload C (pc' := 24) rfl (D 13 (22, .aload 4, 2) rfl) (j := 0) rfl ?_
      refine cv_aload C (pc' := 26) rfl (D 14 (24, .aload 4, 2) rfl) (j := 0) rfl ?_
      refine cv_get C (pc' := 29) rfl (k0 := 2 + j) (i := 1) (ci := 3) (cv_lt_s hj) (cv_shC_s hj) rfl (by decide) (o := none) rfl iw_X3 wfX6_200 (D 15 (26, .getfield 200, 3) rfl) (v := .int (nI q.1)) (congrArg Value.int ((congrFun (cv_u_c (by omega)) _).trans hS1.1)) ?_
      refine cv_iload_n C (pc' := 30) rfl (D 16 (29, .iload_n 2, 1) rfl) rfl (j := 3) rfl ?_
      refine cv_iconst C (pc' := 31) rfl (D 17 (30, .iconst 1, 1) rfl) (v := nI 1) (by decide) ?_
      refine cv_callV C (pc' := 34) rfl (k0 := 2 + j) (ci := 3) (As := [.int (nI q.1), .int y, .int (nI 1)]) (rest := []) (idx := 50) (np := 3) (kX3_faultOf j (some q) (nI q.1) y (nI 1) (cv_u σ 0 5 (nI 0)) hj (by rw [cv_u_0k (by omega)]; exact hS1)) (cv_lt_s hj) (cv_shC_s hj) rfl rfl (by decide +kernel) rfl wmX6_50 wi_yX3_faultOf ws_yX3_faultOf wn_X3 wc_yX3_faultOf (by decide) (by decide) (D 18 (31, .invokevirtual 50, 3) rfl) (Nat.le_of_ble_eq_true rfl) rfl (fun w9 u9 h9 => ?_)
      rw [h9.1, h9.2]
      show cv_At X _ _ (cv_u σ 0 5 (nI 0)) 34 _ [.int (nI (cv_fo (some q) (nI q.1) y (nI 1)))]
      refine cv_istore C (pc' := 36) rfl (D 19 (34, .istore 5, 2) rfl) (by decide) (lv' := [(5, .int (nI (cv_fo (some q) (nI q.1) y (nI 1)))), (4, .ref (2 + j)), (0, .ref 0), (1, .int (nI j)), (2, .int y), (3, .int z)]) rfl ?_
      refine cv_iload C (pc' := 38) rfl (D 20 (36, .iload 5, 2) rfl) (j := 0) rfl ?_
      have hfp : cv_fo (some q) (nI q.1) y (nI 1) = cv_fp (some q) y := by unfold cv_fo cv_fp; dsimp only; rw [if_pos rfl, if_neg (nI_pos (by decide))]
      have hfb := cv_fo_le (some q) (nI q.1) y (nI 1)
      refine cv_if_eqN C (pc' := 41) rfl (by omega) (tgt := 48) (D 21 (38, .ifCond .eq 10, 3) rfl) (by decide) (fun b38 => ?_) (fun b38 => ?_)
      · skip
        have hyh : cv_hs q.2 y (nI 1) = true := by rw [hfp] at b38; simp only [cv_fp] at b38; split at b38; assumption; cases b38
        obtain ⟨i, t1, hyi, ht1, hit⟩ := cv_hs_of hq2 hyh
        have ht2 := (nI_eq (by decide) (by omega)).mp ht1
        subst hyi
        refine cv_aload C (pc' := 50) rfl (D 26 (48, .aload 4, 2) rfl) (j := 1) rfl ?_
        refine cv_get C (pc' := 53) rfl (k0 := 2 + j) (i := 0) (ci := 3) (cv_lt_s hj) (cv_shC_s hj) rfl (by decide) (o := some (6 + j)) rfl iw_X3 wfX6_60 (D 27 (50, .getfield 60, 3) rfl) rfl ?_
        refine cv_iload_n C (pc' := 54) rfl (D 28 (53, .iload_n 2, 1) rfl) rfl (j := 4) rfl ?_
        refine cv_aload C (pc' := 56) rfl (D 29 (54, .aload 4, 2) rfl) (j := 1) rfl ?_
        refine cv_iload_n C (pc' := 57) rfl (D 30 (56, .iload_n 3, 1) rfl) rfl (j := 5) rfl ?_
        refine cv_callV C (pc' := 60) rfl (k0 := 2 + j) (ci := 3) (As := [.int z]) (rest := [.int (nI i), .ref (6 + j)]) (idx := 203) (np := 1) (kX3_cut j q z (cv_u σ 0 5 (nI 0)) hj (by rw [cv_u_0k (by omega)]; exact hS1)) (cv_lt_s hj) (cv_shC_s hj) rfl rfl (by decide +kernel) rfl wmX6_203 wi_yX3_cut ws_yX3_cut wn_X3 wc_yX3_cut (by decide) (by decide) (D 31 (57, .invokevirtual 203, 3) rfl) (Nat.le_of_ble_eq_true rfl) rfl (fun w9 u9 h9 => ?_)
        rw [h9.1, h9.2]
        show cv_At X _ _ (cv_u σ 0 5 (nI 0)) 60 _ [.int (cv_ct q.1 z), .int (nI i), .ref (6 + j)]
        refine cv_iast C (pc' := 61) rfl (k0 := 6 + j) (j := i) (cv_lt_c hj) (cv_shC_c hj) rfl (by omega) (by decide) (D 32 (60, .iastore, 1) rfl) ?_
        refine cv_iconst C (pc' := 62) rfl (D 33 (61, .iconst 1, 1) rfl) (v := nI 1) (by decide) ?_
        exact cv_iret C Rt rfl (D 34 (62, .ireturn, 1) rfl) ⟨congrArg (fun z => some (Value.int z)) (by unfold cv_a_put; rw [if_pos b9, cv_nt, nI_clamp (show j < 2 ^ 31 by omega), hq]; rw [if_pos (by rw [← hfp]; exact b38)]; rfl), by unfold cv_f_put cv_n_put; rw [if_pos b9, if_pos b9, cv_nt, nI_clamp (show j < 2 ^ 31 by omega), hq, ← hfp, b38]; dsimp only; rw [if_pos hyh, cv_nt, nI_clamp (show i < 2 ^ 31 by omega)]; exact cv_RC_same (fun k hk => (cv_ss_id hq k).symm) (fun _ _ _ _ _ => rfl) (cv_RC_S hB hj (fun k h1 h2 => cv_u_c h2) (by rw [cv_u_c (by omega), cv_u_0k (by omega)]; exact hS1) (fun _ i2 hi2 => cv_u_row (by rw [cv_u_0k (by omega)]; exact hSc i2 hi2)) (cv_RC_f 0 hR))⟩
      · skip
        have hnh : ¬ cv_hs q.2 y (nI 1) = true := fun h => by rw [hfp] at b38; simp only [cv_fp] at b38; rw [if_pos h] at b38; exact absurd b38 (by decide)
        refine cv_aload_n C (pc' := 42) rfl (D 22 (41, .aload_n 0, 1) rfl) rfl (j := 2) rfl ?_
        refine cv_iload C (pc' := 44) rfl (D 23 (42, .iload 5, 2) rfl) (j := 0) rfl ?_
        refine cv_callV C (pc' := 47) rfl (k0 := 0) (ci := 6) (As := [.int (nI (cv_fo (some q) (nI q.1) y (nI 1)))]) (rest := []) (idx := 54) (np := 1) (kX6_failed (cv_fo (some q) (nI q.1) y (nI 1)) (cv_u σ 0 5 (nI 0))) (by decide) rfl rfl rfl (by decide +kernel) rfl wmX6_54 wi_yX6_failed ws_yX6_failed wn_X6 wc_yX6_failed (by decide) (by decide) (D 24 (44, .invokevirtual 54, 3) rfl) (Nat.le_of_ble_eq_true rfl) rfl (fun w44 u44 h44 => ?_)
        rw [h44.1, h44.2, cv_uu]
        show cv_At X _ _ (cv_u σ 0 5 (nI (cv_fo (some q) (nI q.1) y (nI 1)))) 47 _ [.int (-10 - nI (cv_fo (some q) (nI q.1) y (nI 1)))]
        exact cv_iret C Rt rfl (D 25 (47, .ireturn, 1) rfl) ⟨congrArg (fun z => some (Value.int z)) (by unfold cv_a_put; rw [if_pos b9, cv_nt, nI_clamp (show j < 2 ^ 31 by omega), hq]; rw [if_neg (by rw [← hfp]; omega), hfp]), by unfold cv_f_put cv_n_put; rw [if_pos b9, if_pos b9, cv_nt, nI_clamp (show j < 2 ^ 31 by omega), hq, ← hfp]; dsimp only; rw [if_neg hnh]; exact cv_RC_f _ hR⟩
  · skip
    refine cv_iconst C (pc' := 13) rfl (D 6 (12, .iconst (-1), 1) rfl) (v := -1) (by decide) ?_
    exact cv_iret C Rt rfl (D 7 (13, .ireturn, 1) rfl) ⟨congrArg (fun z => some (Value.int z)) (by unfold cv_a_put; rw [if_neg (by simp [b9])]), by unfold cv_f_put cv_n_put; rw [if_neg (by simp [b9]), if_neg (by simp [b9])]; exact cv_RC_f _ hR⟩

set_option maxHeartbeats 4000000 in
set_option maxRecDepth 100000 in
theorem pX6_cell (tr : Int32) (ft : Nat) (sl : Nat → Option (Nat × Nat)) (sc : Nat → Nat → Int32) (L : cv_L) (rc : Nat) (rd : Nat → Nat) (rn : Nat → Option Nat) (x y z : Int32) (σ : cv_St) (hR : cv_RC tr ft sl sc L rc rd rn σ) (hB : cv_LB L) (hDB : cv_DB rc rd rn) : cv_Ct yX6_cell cX6_cell 5 (some .long) 2 0 0 26 cv_shC [.ref 0, .int x, .int y, .int z] σ (fun v u => v = some (.long (cv_a_cell sl sc x y z)) ∧ cv_RC tr (cv_f_cell sl x y z) sl sc L rc rd rn u) := by
  refine cv_enter (own := RX6) (by decide) rfl (Nat.le_of_ble_eq_true rfl) ?_
  intro X a C Rt hRm
  have D := @cv_dec _ _ dkX6_cell
  obtain ⟨hTr, hFt, hSh, hL, hSe, hD⟩ := id hR
  have hn6 := hB.1
  have hrc := hDB.1
  show cv_At X _ _ σ 0 [(0, .ref 0), (1, .int x), (2, .int y), (3, .int z)] []
  refine cv_aload_n C (pc' := 1) rfl (D 0 (0, .aload_n 0, 1) rfl) rfl (j := 0) rfl ?_
  refine cv_iconst C (pc' := 2) rfl (D 1 (1, .iconst 0, 1) rfl) (v := nI 0) (by decide) ?_
  refine cv_put C (pc' := 5) rfl (k0 := 0) (i := 5) (ci := 6) (by decide) rfl rfl (by decide) rfl iw_X6 tyX6 tyX6_ok nmX6 wfX6_39 rfl rfl rfl (D 2 (2, .putfield 39, 3) rfl) ?_
  refine cv_iload_n C (pc' := 6) rfl (D 3 (5, .iload_n 1, 1) rfl) rfl (j := 1) rfl ?_
  refine cv_callS C (pc' := 9) rfl (As := [.int x]) (rest := []) (idx := 43) (np := 1) (kX6_isSheet x (cv_u σ 0 5 (nI 0))) (by decide +kernel) rfl wmX6_43 wt_yX6_isSheet wn_X6 wc_yX6_isSheet (by decide) (by decide) (D 4 (6, .invokestatic 43, 3) rfl) (Nat.le_of_ble_eq_true rfl) rfl (fun w9 u9 h9 => ?_)
  rw [h9.1, h9.2]
  show cv_At X _ _ (cv_u σ 0 5 (nI 0)) 9 _ [.int (cv_b (cv_in x 4))]
  refine cv_if_eqB C (pc' := 12) rfl (tgt := 19) (D 5 (9, .ifCond .eq 10, 3) rfl) (by decide) (fun b9 => ?_) (fun b9 => ?_)
  · skip
    refine cv_ldc2 C (pc' := 22) rfl wlX6_182 (D 9 (19, .ldc2_w 182, 3) rfl) ?_
    exact cv_lret C Rt (D 10 (22, .lreturn, 1) rfl) ⟨congrArg (fun z => some (Value.long z)) (by unfold cv_a_cell; rw [if_neg (by simp [b9])]), by unfold cv_f_cell; rw [if_neg (by simp [b9])]; exact cv_RC_f _ hR⟩
  · skip
    refine cv_iload_n C (pc' := 13) rfl (D 6 (12, .iload_n 3, 1) rfl) rfl (j := 3) rfl ?_
    refine cv_callS C (pc' := 16) rfl (As := [.int z]) (rest := []) (idx := 47) (np := 1) (kX6_isLane z (cv_u σ 0 5 (nI 0))) (by decide +kernel) rfl wmX6_47 wt_yX6_isLane wn_X6 wc_yX6_isLane (by decide) (by decide) (D 7 (13, .invokestatic 47, 3) rfl) (Nat.le_of_ble_eq_true rfl) rfl (fun w9 u9 h9 => ?_)
    rw [h9.1, h9.2]
    show cv_At X _ _ (cv_u σ 0 5 (nI 0)) 16 _ [.int (cv_b (cv_in z 3))]
    refine cv_if_neB C (pc' := 19) rfl (tgt := 23) (D 8 (16, .ifCond .ne 7, 3) rfl) (by decide) (fun b16 => ?_) (fun b16 => ?_)
    · skip
      obtain ⟨j, hj, rfl⟩ := cv_in_of b9 (by omega)
      cases hq : sl j with
      | none =>
        have hS1 := (hSh j hj).1
        rw [hq] at hS1
        refine cv_aload_n C (pc' := 24) rfl (D 11 (23, .aload_n 0, 1) rfl) rfl (j := 0) rfl ?_
        refine cv_get C (pc' := 27) rfl (k0 := 0) (i := 0) (ci := 6) (by decide) rfl rfl (by decide) (o := some 1) rfl iw_X6 wfX6_13 (D 12 (24, .getfield 13, 3) rfl) rfl ?_
        refine cv_iload_n C (pc' := 28) rfl (D 13 (27, .iload_n 1, 1) rfl) rfl (j := 1) rfl ?_
        refine cv_aald C (pc' := 29) rfl (k0 := 1) (j := j) (r := 2 + j) (by decide) rfl rfl rfl (cv_ix_s hj) (by decide) (D 14 (28, .aaload, 1) rfl) ?_
        refine cv_iload_n C (pc' := 30) rfl (D 15 (29, .iload_n 3, 1) rfl) rfl (j := 3) rfl ?_
        refine cv_iload_n C (pc' := 31) rfl (D 16 (30, .iload_n 2, 1) rfl) rfl (j := 2) rfl ?_
        refine cv_iconst C (pc' := 32) rfl (D 17 (31, .iconst 1, 1) rfl) (v := nI 1) (by decide) ?_
        refine cv_callV C (pc' := 35) rfl (k0 := 2 + j) (ci := 3) (As := [.int z, .int y, .int (nI 1)]) (rest := []) (idx := 50) (np := 3) (kX3_faultOf j none z y (nI 1) (cv_u σ 0 5 (nI 0)) hj (by rw [cv_u_0k (by omega)]; exact hS1)) (cv_lt_s hj) (cv_shC_s hj) rfl rfl (by decide +kernel) rfl wmX6_50 wi_yX3_faultOf ws_yX3_faultOf wn_X3 wc_yX3_faultOf (by decide) (by decide) (D 18 (32, .invokevirtual 50, 3) rfl) (Nat.le_of_ble_eq_true rfl) rfl (fun w9 u9 h9 => ?_)
        rw [h9.1, h9.2]
        show cv_At X _ _ (cv_u σ 0 5 (nI 0)) 35 _ [.int (nI (cv_fo none z y (nI 1)))]
        refine cv_istore C (pc' := 37) rfl (D 19 (35, .istore 4, 2) rfl) (by decide) (lv' := [(4, .int (nI (cv_fo none z y (nI 1)))), (0, .ref 0), (1, .int (nI j)), (2, .int y), (3, .int z)]) rfl ?_
        refine cv_iload C (pc' := 39) rfl (D 20 (37, .iload 4, 2) rfl) (j := 0) rfl ?_
        have hfb := cv_fo_le none z y (nI 1)
        refine cv_if_eqN C (pc' := 42) rfl (by omega) (tgt := 52) (D 21 (39, .ifCond .eq 13, 3) rfl) (by decide) (fun b39 => ?_) (fun b39 => ?_)
        · skip
          exact absurd b39 Nat.one_ne_zero
        · skip
          refine cv_aload_n C (pc' := 43) rfl (D 22 (42, .aload_n 0, 1) rfl) rfl (j := 1) rfl ?_
          refine cv_iload C (pc' := 45) rfl (D 23 (43, .iload 4, 2) rfl) (j := 0) rfl ?_
          refine cv_put C (pc' := 48) rfl (k0 := 0) (i := 5) (ci := 6) (by decide) rfl rfl (by decide) rfl iw_X6 tyX6 tyX6_ok nmX6 wfX6_39 rfl rfl rfl (D 24 (45, .putfield 39, 3) rfl) ?_
          refine cv_ldc2 C (pc' := 51) rfl wlX6_182 (D 25 (48, .ldc2_w 182, 3) rfl) ?_
          exact cv_lret C Rt (D 26 (51, .lreturn, 1) rfl) ⟨congrArg (fun z => some (Value.long z)) (by unfold cv_a_cell; rw [if_neg (fun h => by rw [cv_nt, nI_clamp (show j < 2 ^ 31 by omega), hq] at h; omega)]), by unfold cv_f_cell; rw [if_pos ⟨b9, b16⟩, cv_nt, nI_clamp (show j < 2 ^ 31 by omega), hq, cv_uu]; exact cv_RC_f _ hR⟩
      | some q =>
        have hS1 := (hSh j hj).1
        rw [hq] at hS1
        have hq1 := hS1.2.2.1
        have hq2 := hS1.2.2.2
        have hSc := (hSh j hj).2 (by rw [hq]; rfl)
        refine cv_aload_n C (pc' := 24) rfl (D 11 (23, .aload_n 0, 1) rfl) rfl (j := 0) rfl ?_
        refine cv_get C (pc' := 27) rfl (k0 := 0) (i := 0) (ci := 6) (by decide) rfl rfl (by decide) (o := some 1) rfl iw_X6 wfX6_13 (D 12 (24, .getfield 13, 3) rfl) rfl ?_
        refine cv_iload_n C (pc' := 28) rfl (D 13 (27, .iload_n 1, 1) rfl) rfl (j := 1) rfl ?_
        refine cv_aald C (pc' := 29) rfl (k0 := 1) (j := j) (r := 2 + j) (by decide) rfl rfl rfl (cv_ix_s hj) (by decide) (D 14 (28, .aaload, 1) rfl) ?_
        refine cv_iload_n C (pc' := 30) rfl (D 15 (29, .iload_n 3, 1) rfl) rfl (j := 3) rfl ?_
        refine cv_iload_n C (pc' := 31) rfl (D 16 (30, .iload_n 2, 1) rfl) rfl (j := 2) rfl ?_
        refine cv_iconst C (pc' := 32) rfl (D 17 (31, .iconst 1, 1) rfl) (v := nI 1) (by decide) ?_
        refine cv_callV C (pc' := 35) rfl (k0 := 2 + j) (ci := 3) (As := [.int z, .int y, .int (nI 1)]) (rest := []) (idx := 50) (np := 3) (kX3_faultOf j (some q) z y (nI 1) (cv_u σ 0 5 (nI 0)) hj (by rw [cv_u_0k (by omega)]; exact hS1)) (cv_lt_s hj) (cv_shC_s hj) rfl rfl (by decide +kernel) rfl wmX6_50 wi_yX3_faultOf ws_yX3_faultOf wn_X3 wc_yX3_faultOf (by decide) (by decide) (D 18 (32, .invokevirtual 50, 3) rfl) (Nat.le_of_ble_eq_true rfl) rfl (fun w9 u9 h9 => ?_)
        rw [h9.1, h9.2]
        show cv_At X _ _ (cv_u σ 0 5 (nI 0)) 35 _ [.int (nI (cv_fo (some q) z y (nI 1)))]
        refine cv_istore C (pc' := 37) rfl (D 19 (35, .istore 4, 2) rfl) (by decide) (lv' := [(4, .int (nI (cv_fo (some q) z y (nI 1)))), (0, .ref 0), (1, .int (nI j)), (2, .int y), (3, .int z)]) rfl ?_
        refine cv_iload C (pc' := 39) rfl (D 20 (37, .iload 4, 2) rfl) (j := 0) rfl ?_
        have hfb := cv_fo_le (some q) z y (nI 1)
        refine cv_if_eqN C (pc' := 42) rfl (by omega) (tgt := 52) (D 21 (39, .ifCond .eq 13, 3) rfl) (by decide) (fun b39 => ?_) (fun b39 => ?_)
        · skip
          obtain ⟨q0, hq0, -, hyh⟩ := cv_fo_0 b39
          cases hq0
          obtain ⟨i, t1, hyi, ht1, hit⟩ := cv_hs_of hq2 hyh
          have ht2 := (nI_eq (by decide) (by omega)).mp ht1
          subst hyi
          refine cv_aload_n C (pc' := 53) rfl (D 27 (52, .aload_n 0, 1) rfl) rfl (j := 1) rfl ?_
          refine cv_get C (pc' := 56) rfl (k0 := 0) (i := 0) (ci := 6) (by decide) rfl rfl (by decide) (o := some 1) rfl iw_X6 wfX6_13 (D 28 (53, .getfield 13, 3) rfl) rfl ?_
          refine cv_iload_n C (pc' := 57) rfl (D 29 (56, .iload_n 1, 1) rfl) rfl (j := 2) rfl ?_
          refine cv_aald C (pc' := 58) rfl (k0 := 1) (j := j) (r := 2 + j) (by decide) rfl rfl rfl (cv_ix_s hj) (by decide) (D 30 (57, .aaload, 1) rfl) ?_
          refine cv_get C (pc' := 61) rfl (k0 := 2 + j) (i := 0) (ci := 3) (cv_lt_s hj) (cv_shC_s hj) rfl (by decide) (o := some (6 + j)) rfl iw_X3 wfX6_60 (D 31 (58, .getfield 60, 3) rfl) rfl ?_
          refine cv_iload_n C (pc' := 62) rfl (D 32 (61, .iload_n 2, 1) rfl) rfl (j := 3) rfl ?_
          refine cv_iald C (pc' := 63) rfl (k0 := 6 + j) (j := i) (cv_lt_c hj) (cv_shC_c hj) rfl (by omega) (by decide) (D 33 (62, .iaload, 1) rfl) (v := sc j i) ((congrFun (cv_u_c (by omega)) _).trans (hSc i (by omega))) ?_
          refine cv_i2l C (pc' := 64) rfl (D 34 (63, .i2l, 1) rfl) rfl ?_
          exact cv_lret C Rt (D 35 (64, .lreturn, 1) rfl) ⟨congrArg (fun z => some (Value.long z)) (by unfold cv_a_cell; rw [if_pos ⟨b9, b16, by rw [cv_nt, nI_clamp (show j < 2 ^ 31 by omega), hq]; exact b39⟩, cv_nt, nI_clamp (show j < 2 ^ 31 by omega), cv_nt, nI_clamp (show i < 2 ^ 31 by omega)]), by unfold cv_f_cell; rw [if_pos ⟨b9, b16⟩, cv_nt, nI_clamp (show j < 2 ^ 31 by omega), hq, b39]; exact cv_RC_f _ hR⟩
        · skip
          refine cv_aload_n C (pc' := 43) rfl (D 22 (42, .aload_n 0, 1) rfl) rfl (j := 1) rfl ?_
          refine cv_iload C (pc' := 45) rfl (D 23 (43, .iload 4, 2) rfl) (j := 0) rfl ?_
          refine cv_put C (pc' := 48) rfl (k0 := 0) (i := 5) (ci := 6) (by decide) rfl rfl (by decide) rfl iw_X6 tyX6 tyX6_ok nmX6 wfX6_39 rfl rfl rfl (D 24 (45, .putfield 39, 3) rfl) ?_
          refine cv_ldc2 C (pc' := 51) rfl wlX6_182 (D 25 (48, .ldc2_w 182, 3) rfl) ?_
          exact cv_lret C Rt (D 26 (51, .lreturn, 1) rfl) ⟨congrArg (fun z => some (Value.long z)) (by unfold cv_a_cell; rw [if_neg (fun h => by rw [cv_nt, nI_clamp (show j < 2 ^ 31 by omega), hq] at h; omega)]), by unfold cv_f_cell; rw [if_pos ⟨b9, b16⟩, cv_nt, nI_clamp (show j < 2 ^ 31 by omega), hq, cv_uu]; exact cv_RC_f _ hR⟩
    · skip
      refine cv_ldc2 C (pc' := 22) rfl wlX6_182 (D 9 (19, .ldc2_w 182, 3) rfl) ?_
      exact cv_lret C Rt (D 10 (22, .lreturn, 1) rfl) ⟨congrArg (fun z => some (Value.long z)) (by unfold cv_a_cell; rw [if_neg (by simp [b16])]), by unfold cv_f_cell; rw [if_neg (by simp [b16])]; exact cv_RC_f _ hR⟩
end
section
theorem cv_isN {α : Type} {o : Option α} (h : o.isNone = false) : ∃ q, o = some q := by
  cases o with
  | none => cases h
  | some q => exact ⟨q, rfl⟩
theorem cv_isN1 {α : Type} {o : Option α} (h : o.isNone = true) : o = none := by
  cases o with
  | none => rfl
  | some q => cases h
theorem cv_cpy_row {f g f' g' : Nat → Int32} {i j n q : Nat} (hi : i + n ≤ 60) (hq : q < 60) (hf : ∀ k, k < 60 → f k = f' k) (hg : ∀ k, k < 60 → g k = g' k) : va_cpy f g i j n q = va_cpy f' g' i j n q := by
  unfold va_cpy
  split
  · exact hf _ (by omega)
  · exact hg _ hq
/-! ===== ways ===== -/
def cv_r1 (L : cv_L) (s : Int32) : Int32 := if s < 0 ∨ nI 8 < s then -2 else if s < nI 6 ∧ cv_in s (L 7 0) = false then -1 else 0
def cv_rs (L : cv_L) (f : Nat → Int32) (i : Nat) : Nat → Int32
  | 0 => 0
  | n + 1 => if cv_rs L f i n = 0 then cv_r1 L (f (i + n)) else cv_rs L f i n
theorem cv_rs_of {L : cv_L} {f : Nat → Int32} {i k : Nat} {r : Int32} (h0 : cv_rs L f i k = 0) (h1 : cv_r1 L (f (i + k)) = r) (hr : ¬ r = 0) : ∀ n, k < n → cv_rs L f i n = r := by
  intro n hn
  induction n with
  | zero => omega
  | succ n ih =>
    simp only [cv_rs]
    by_cases e : k = n
    · subst e; rw [if_pos h0, h1]
    · rw [ih (by omega), if_neg hr]
theorem cv_rs_0 {L : cv_L} {f : Nat → Int32} {i : Nat} : ∀ {n : Nat}, cv_rs L f i n = 0 → ∀ k, k < n → cv_r1 L (f (i + k)) = 0
  | 0, _, k, hk => by omega
  | n + 1, h, k, hk => by
    simp only [cv_rs] at h
    split at h
    · rename_i h0
      by_cases e : k = n
      · subst e; exact h
      · exact cv_rs_0 h0 k (by omega)
    · exact absurd h (by assumption)
/-- a step that isn't refused: a number, over a pass that is there -/
theorem cv_r1_of {L : cv_L} (hB : cv_LB L) {s : Int32} (h : cv_r1 L s = 0) : ∃ x : Nat, x ≤ 8 ∧ s = nI x ∧ (x < 6 → x < L 7 0) := by
  unfold cv_r1 at h
  split at h
  · exact absurd h (by decide)
  rename_i h1
  split at h
  · exact absurd h (by decide)
  rename_i h2
  have h3 : ¬ s < 0 := fun e => h1 (Or.inl e)
  have h4 : ¬ nI 8 < s := fun e => h1 (Or.inr e)
  obtain ⟨x, hx, rfl⟩ := nI_of h3
  have h5 : x ≤ 8 := by
    rcases Nat.lt_or_ge 8 x with e | e
    · exact absurd (nI_lt e hx) h4
    · exact e
  refine ⟨x, h5, rfl, fun h6 => ?_⟩
  cases hi : cv_in (nI x) (L 7 0) with
  | true =>
    have h7 := hB.1
    obtain ⟨j, hj, e⟩ := cv_in_of hi (by omega)
    have := (nI_eq hx (by omega)).mp e
    omega
  | false => exact absurd ⟨nI_lt h6 (by decide), hi⟩ h2
/-- a way, step by step: where the wheel is behind k steps -/
def cv_ru (L : cv_L) (f : Nat → Int32) (i d : Nat) : Nat → Option cv_Q
  | 0 => some (d, 0, 0, 0)
  | k + 1 => match cv_ru L f i d k with
    | none => none
    | some q => cv_st L (cv_nt (f (i + k))) q
theorem cv_ru_n {L : cv_L} {f : Nat → Int32} {i d k : Nat} (h : cv_ru L f i d k = none) : cv_ru L f i d (k + 1) = none := by
  simp only [cv_ru]
  rw [h]
/-- its first wrong step -/
def cv_wr (L : cv_L) (f : Nat → Int32) (i d n : Nat) : Option Nat := if (L 6 0).testBit d = true then (List.range n).find? (fun k => (cv_ru L f i d (k + 1)).isNone) else if n = 0 then none else some 0
theorem cv_wr_lt {L : cv_L} {f : Nat → Int32} {i d n z : Nat} (h : cv_wr L f i d n = some z) : z < n := by
  unfold cv_wr at h
  split at h
  · exact List.mem_range.mp (List.mem_of_find?_eq_some h)
  · split at h
    · cases h
    · cases h; omega
theorem cv_wr_some {L : cv_L} {f : Nat → Int32} {i d n k : Nat} {q : cv_Q} (hb : (L 6 0).testBit d = true) (hk : k < n) (h0 : cv_ru L f i d k = some q) (h1 : cv_st L (cv_nt (f (i + k))) q = none) : cv_wr L f i d n = some k := by
  unfold cv_wr
  rw [if_pos hb, List.find?_range_eq_some]
  refine ⟨by simp only [cv_ru]; rw [h0]; dsimp only; rw [h1]; rfl, List.mem_range.mpr hk, fun j hj => ?_⟩
  have : ∀ m, m ≤ k → (cv_ru L f i d m).isNone = false := by
    intro m hm
    cases hr : cv_ru L f i d m with
    | some _ => rfl
    | none =>
      have : ∀ t, cv_ru L f i d (m + t) = none := by
        intro t
        induction t with
        | zero => exact hr
        | succ t ih => exact cv_ru_n ih
      have h2 := this (k - m)
      rw [show m + (k - m) = k by omega, h0] at h2
      cases h2
  simp [this (j + 1) (by omega)]
theorem cv_wr_none {L : cv_L} {f : Nat → Int32} {i d n : Nat} {q : cv_Q} (hb : n = 0 ∨ (L 6 0).testBit d = true) (h0 : cv_ru L f i d n = some q) : cv_wr L f i d n = none := by
  unfold cv_wr
  split
  · rw [List.find?_eq_none]
    intro k hk
    have hk := List.mem_range.mp hk
    cases hr : cv_ru L f i d (k + 1) with
    | some _ => simp
    | none =>
      have : ∀ t, cv_ru L f i d (k + 1 + t) = none := by
        intro t
        induction t with
        | zero => exact hr
        | succ t ih => exact cv_ru_n ih
      have h2 := this (n - (k + 1))
      rw [show k + 1 + (n - (k + 1)) = n by omega, h0] at h2
      cases h2
  · rename_i h
    rcases hb with hb | hb
    · rw [if_pos hb]
    · exact absurd hb h
/-- the answer of a way, by its first wrong step, where the wheel is, what is asked -/
def cv_ow (o : Option Nat) (q : cv_Q) (v : Nat) : Int32 := if v = 1 then cv_o o else match o with
  | some k => -100 - nI k
  | none => if v = 0 then nI q.1 else if v = 2 then nI q.2.2.2 else if v = 3 then nI q.2.1 else nI q.2.2.1
abbrev cv_ok_way (x y z t v : Int32) : Prop := cv_in x 8 = true ∧ cv_in y 4 = true ∧ cv_in z 3 = true ∧ cv_in t 21 = true ∧ cv_in v 5 = true
def cv_f_way (sl : Nat → Option (Nat × Nat)) (x y z w t v : Int32) : Nat := if cv_ok_way x y z t v then cv_fo (sl (cv_nt y)) z w t else 0
def cv_a_way (sl : Nat → Option (Nat × Nat)) (sc : Nat → Nat → Int32) (L : cv_L) (x y z w t v : Int32) : Int32 :=
  if cv_in x 8 = true then (if cv_in y 4 = true then (if cv_in z 3 = true ∧ cv_in t 21 = true ∧ cv_in v 5 = true then
    (if cv_fo (sl (cv_nt y)) z w t = 0 then (if 0 < L 7 0 then
      (if cv_rs L (sc (cv_nt y)) (cv_nt w) (cv_nt t) = 0 then cv_ow (cv_wr L (sc (cv_nt y)) (cv_nt w) (cv_nt x) (cv_nt t)) ((cv_ru L (sc (cv_nt y)) (cv_nt w) (cv_nt x) (cv_nt t)).getD (0, 0, 0, 0)) (cv_nt v)
       else cv_rs L (sc (cv_nt y)) (cv_nt w) (cv_nt t)) else -3)
     else -10 - nI (cv_fo (sl (cv_nt y)) z w t)) else -2) else -1) else -2
theorem cv_ru_b {L : cv_L} (hB : cv_LB L) {f : Nat → Int32} {i d n : Nat} (hd : d < 8) (hr : ∀ k, k < n → cv_r1 L (f (i + k)) = 0) : ∀ k, k ≤ n → ∀ q, cv_ru L f i d k = some q → cv_WB q
  | 0, _, q, h => by cases h; exact ⟨hd, (by decide : (0 : Nat) < 3), (by decide : (0 : Nat) < 3), Nat.zero_le _⟩
  | k + 1, hk, q, h => by
    simp only [cv_ru] at h
    split at h
    · cases h
    · rename_i q0 h0
      obtain ⟨x, hx, e, hx6⟩ := cv_r1_of hB (hr k (by omega))
      rw [cv_nt, e, nI_clamp (by omega)] at h
      exact cv_st_b hB (cv_ru_b hB hd hr k (by omega) q0 h0) hx6 hx h
end
section
set_option maxHeartbeats 4000000 in
set_option maxRecDepth 100000 in
theorem pX6_copy (tr : Int32) (ft : Nat) (sl : Nat → Option (Nat × Nat)) (sc : Nat → Nat → Int32) (L : cv_L) (rc : Nat) (rd : Nat → Nat) (rn : Nat → Option Nat) (x y z w t : Int32) (σ : cv_St) (hR : cv_RC tr ft sl sc L rc rd rn σ) (hB : cv_LB L) (hDB : cv_DB rc rd rn) : cv_Ct yX6_copy cX6_copy 8 (some .int) 2 0 0 26 cv_shC [.ref 0, .int x, .int y, .int z, .int w, .int t] σ (fun v u => v = some (.int (cv_a_copy sl x y z w t)) ∧ cv_RC tr (cv_f_copy sl x y z w t) sl (cv_n_copy sl sc x y z w t) L rc rd rn u) := by
  refine cv_enter (own := RX6) (by decide) rfl (Nat.le_of_ble_eq_true rfl) ?_
  intro X a C Rt hRm
  have D := @cv_dec _ _ dkX6_copy
  obtain ⟨hTr, hFt, hSh, hL, hSe, hD⟩ := id hR
  have hn6 := hB.1
  have hrc := hDB.1
  show cv_At X _ _ σ 0 [(0, .ref 0), (1, .int x), (2, .int y), (3, .int z), (4, .int w), (5, .int t)] []
  refine cv_aload_n C (pc' := 1) rfl (D 0 (0, .aload_n 0, 1) rfl) rfl (j := 0) rfl ?_
  refine cv_iconst C (pc' := 2) rfl (D 1 (1, .iconst 0, 1) rfl) (v := nI 0) (by decide) ?_
  refine cv_put C (pc' := 5) rfl (k0 := 0) (i := 5) (ci := 6) (by decide) rfl rfl (by decide) rfl iw_X6 tyX6 tyX6_ok nmX6 wfX6_39 rfl rfl rfl (D 2 (2, .putfield 39, 3) rfl) ?_
  refine cv_iload_n C (pc' := 6) rfl (D 3 (5, .iload_n 1, 1) rfl) rfl (j := 1) rfl ?_
  refine cv_callS C (pc' := 9) rfl (As := [.int x]) (rest := []) (idx := 43) (np := 1) (kX6_isSheet x (cv_u σ 0 5 (nI 0))) (by decide +kernel) rfl wmX6_43 wt_yX6_isSheet wn_X6 wc_yX6_isSheet (by decide) (by decide) (D 4 (6, .invokestatic 43, 3) rfl) (Nat.le_of_ble_eq_true rfl) rfl (fun w9 u9 h9 => ?_)
  rw [h9.1, h9.2]
  show cv_At X _ _ (cv_u σ 0 5 (nI 0)) 9 _ [.int (cv_b (cv_in x 4))]
  refine cv_if_eqB C (pc' := 12) rfl (tgt := 19) (D 5 (9, .ifCond .eq 10, 3) rfl) (by decide) (fun b9 => ?_) (fun b9 => ?_)
  · skip
    refine cv_iconst C (pc' := 20) rfl (D 9 (19, .iconst (-1), 1) rfl) (v := -1) (by decide) ?_
    exact cv_iret C Rt rfl (D 10 (20, .ireturn, 1) rfl) ⟨congrArg (fun z => some (Value.int z)) (by unfold cv_a_copy; rw [if_neg (by simp [b9])]), by unfold cv_f_copy cv_n_copy; rw [if_neg (by simp [b9]), if_neg (by simp [b9])]; exact cv_RC_f _ hR⟩
  · skip
    refine cv_iload_n C (pc' := 13) rfl (D 6 (12, .iload_n 3, 1) rfl) rfl (j := 3) rfl ?_
    refine cv_callS C (pc' := 16) rfl (As := [.int z]) (rest := []) (idx := 43) (np := 1) (kX6_isSheet z (cv_u σ 0 5 (nI 0))) (by decide +kernel) rfl wmX6_43 wt_yX6_isSheet wn_X6 wc_yX6_isSheet (by decide) (by decide) (D 7 (13, .invokestatic 43, 3) rfl) (Nat.le_of_ble_eq_true rfl) rfl (fun w9 u9 h9 => ?_)
    rw [h9.1, h9.2]
    show cv_At X _ _ (cv_u σ 0 5 (nI 0)) 16 _ [.int (cv_b (cv_in z 4))]
    refine cv_if_neB C (pc' := 19) rfl (tgt := 21) (D 8 (16, .ifCond .ne 5, 3) rfl) (by decide) (fun b16 => ?_) (fun b16 => ?_)
    · skip
      obtain ⟨j, hj, rfl⟩ := cv_in_of b9 (by omega)
      obtain ⟨k, hk, rfl⟩ := cv_in_of b16 (by omega)
      refine cv_aload_n C (pc' := 22) rfl (D 11 (21, .aload_n 0, 1) rfl) rfl (j := 0) rfl ?_
      refine cv_get C (pc' := 25) rfl (k0 := 0) (i := 0) (ci := 6) (by decide) rfl rfl (by decide) (o := some 1) rfl iw_X6 wfX6_13 (D 12 (22, .getfield 13, 3) rfl) rfl ?_
      refine cv_iload_n C (pc' := 26) rfl (D 13 (25, .iload_n 1, 1) rfl) rfl (j := 1) rfl ?_
      refine cv_aald C (pc' := 27) rfl (k0 := 1) (j := j) (r := 2 + j) (by decide) rfl rfl rfl (cv_ix_s hj) (by decide) (D 14 (26, .aaload, 1) rfl) ?_
      refine cv_astore C (pc' := 29) rfl (D 15 (27, .astore 6, 2) rfl) (by decide) (lv' := [(6, .ref (2 + j)), (0, .ref 0), (1, .int (nI j)), (2, .int y), (3, .int (nI k)), (4, .int w), (5, .int t)]) rfl ?_
      refine cv_aload_n C (pc' := 30) rfl (D 16 (29, .aload_n 0, 1) rfl) rfl (j := 1) rfl ?_
      refine cv_get C (pc' := 33) rfl (k0 := 0) (i := 0) (ci := 6) (by decide) rfl rfl (by decide) (o := some 1) rfl iw_X6 wfX6_13 (D 17 (30, .getfield 13, 3) rfl) rfl ?_
      refine cv_iload_n C (pc' := 34) rfl (D 18 (33, .iload_n 3, 1) rfl) rfl (j := 4) rfl ?_
      refine cv_aald C (pc' := 35) rfl (k0 := 1) (j := k) (r := 2 + k) (by decide) rfl rfl rfl (cv_ix_s hk) (by decide) (D 19 (34, .aaload, 1) rfl) ?_
      refine cv_astore C (pc' := 37) rfl (D 20 (35, .astore 7, 2) rfl) (by decide) (lv' := [(7, .ref (2 + k)), (6, .ref (2 + j)), (0, .ref 0), (1, .int (nI j)), (2, .int y), (3, .int (nI k)), (4, .int w), (5, .int t)]) rfl ?_
      refine cv_aload C (pc' := 39) rfl (D 21 (37, .aload 6, 2) rfl) (j := 1) rfl ?_
      refine cv_callV C (pc' := 42) rfl (k0 := 2 + j) (ci := 3) (As := []) (rest := []) (idx := 196) (np := 0) (kX3_hasNothing j (sl j) (cv_u σ 0 5 (nI 0)) hj (by rw [cv_u_0k (by omega)]; exact (hSh j hj).1)) (cv_lt_s hj) (cv_shC_s hj) rfl rfl (by decide +kernel) rfl wmX6_196 wi_yX3_hasNothing ws_yX3_hasNothing wn_X3 wc_yX3_hasNothing (by decide) (by decide) (D 22 (39, .invokevirtual 196, 3) rfl) (Nat.le_of_ble_eq_true rfl) rfl (fun w9 u9 h9 => ?_)
      rw [h9.1, h9.2]
      show cv_At X _ _ (cv_u σ 0 5 (nI 0)) 42 _ [.int (cv_b ((sl j).isNone))]
      refine cv_if_neB C (pc' := 45) rfl (tgt := 53) (D 23 (42, .ifCond .ne 11, 3) rfl) (by decide) (fun b42 => ?_) (fun b42 => ?_)
      · skip
        have hfc : cv_fc (sl j) (sl k) y w t = 1 := by rw [cv_isN1 b42]; rfl
        refine cv_aload_n C (pc' := 54) rfl (D 27 (53, .aload_n 0, 1) rfl) rfl (j := 2) rfl ?_
        refine cv_iconst C (pc' := 55) rfl (D 28 (54, .iconst 1, 1) rfl) (v := nI 1) (by decide) ?_
        refine cv_callV C (pc' := 58) rfl (k0 := 0) (ci := 6) (As := [.int (nI 1)]) (rest := []) (idx := 54) (np := 1) (kX6_failed 1 (cv_u σ 0 5 (nI 0))) (by decide) rfl rfl rfl (by decide +kernel) rfl wmX6_54 wi_yX6_failed ws_yX6_failed wn_X6 wc_yX6_failed (by decide) (by decide) (D 29 (55, .invokevirtual 54, 3) rfl) (Nat.le_of_ble_eq_true rfl) rfl (fun w55 u55 h55 => ?_)
        rw [h55.1, h55.2, cv_uu]
        show cv_At X _ _ (cv_u σ 0 5 (nI 1)) 58 _ [.int (-10 - nI 1)]
        exact cv_iret C Rt rfl (D 30 (58, .ireturn, 1) rfl) ⟨congrArg (fun z => some (Value.int z)) (by unfold cv_a_copy; simp only [cv_nt, nI_clamp (show j < 2 ^ 31 by omega), nI_clamp (show k < 2 ^ 31 by omega)]; rw [if_pos ⟨b9, b16⟩, hfc]; rw [if_neg (by decide)]), by unfold cv_f_copy cv_n_copy; simp only [cv_nt, nI_clamp (show j < 2 ^ 31 by omega), nI_clamp (show k < 2 ^ 31 by omega)]; rw [if_pos ⟨b9, b16⟩, hfc, if_neg (fun h => by have := h.2; cases this)]; exact cv_RC_f _ hR⟩
      · skip
        refine cv_aload C (pc' := 47) rfl (D 24 (45, .aload 7, 2) rfl) (j := 0) rfl ?_
        refine cv_callV C (pc' := 50) rfl (k0 := 2 + k) (ci := 3) (As := []) (rest := []) (idx := 196) (np := 0) (kX3_hasNothing k (sl k) (cv_u σ 0 5 (nI 0)) hk (by rw [cv_u_0k (by omega)]; exact (hSh k hk).1)) (cv_lt_s hk) (cv_shC_s hk) rfl rfl (by decide +kernel) rfl wmX6_196 wi_yX3_hasNothing ws_yX3_hasNothing wn_X3 wc_yX3_hasNothing (by decide) (by decide) (D 25 (47, .invokevirtual 196, 3) rfl) (Nat.le_of_ble_eq_true rfl) rfl (fun w9 u9 h9 => ?_)
        rw [h9.1, h9.2]
        show cv_At X _ _ (cv_u σ 0 5 (nI 0)) 50 _ [.int (cv_b ((sl k).isNone))]
        refine cv_if_eqB C (pc' := 53) rfl (tgt := 59) (D 26 (50, .ifCond .eq 9, 3) rfl) (by decide) (fun b50 => ?_) (fun b50 => ?_)
        · skip
          obtain ⟨qj, ej⟩ := cv_isN b42
          obtain ⟨qk, ek⟩ := cv_isN b50
          have hSj := (hSh j hj).1
          rw [ej] at hSj
          have hSk := (hSh k hk).1
          rw [ek] at hSk
          have hj3 := hSj.2.2.1
          have hj60 := hSj.2.2.2
          have hk3 := hSk.2.2.1
          have hk60 := hSk.2.2.2
          refine cv_aload C (pc' := 61) rfl (D 31 (59, .aload 6, 2) rfl) (j := 1) rfl ?_
          refine cv_get C (pc' := 64) rfl (k0 := 2 + j) (i := 1) (ci := 3) (cv_lt_s hj) (cv_shC_s hj) rfl (by decide) (o := none) rfl iw_X3 wfX6_200 (D 32 (61, .getfield 200, 3) rfl) (v := .int (nI qj.1)) (congrArg Value.int ((congrFun (cv_u_c (by omega)) _).trans hSj.1)) ?_
          refine cv_aload C (pc' := 66) rfl (D 33 (64, .aload 7, 2) rfl) (j := 0) rfl ?_
          refine cv_get C (pc' := 69) rfl (k0 := 2 + k) (i := 1) (ci := 3) (cv_lt_s hk) (cv_shC_s hk) rfl (by decide) (o := none) rfl iw_X3 wfX6_200 (D 34 (66, .getfield 200, 3) rfl) (v := .int (nI qk.1)) (congrArg Value.int ((congrFun (cv_u_c (by omega)) _).trans hSk.1)) ?_
          refine cv_icmp_eqN C (pc' := 72) rfl (by omega) (by omega) (tgt := 78) (D 35 (69, .if_icmp .eq 9, 3) rfl) (by decide) (fun b69 => ?_) (fun b69 => ?_)
          · skip
            refine cv_aload C (pc' := 80) rfl (D 40 (78, .aload 6, 2) rfl) (j := 1) rfl ?_
            refine cv_iload_n C (pc' := 81) rfl (D 41 (80, .iload_n 2, 1) rfl) rfl (j := 4) rfl ?_
            refine cv_iload C (pc' := 83) rfl (D 42 (81, .iload 5, 2) rfl) (j := 7) rfl ?_
            refine cv_callV C (pc' := 86) rfl (k0 := 2 + j) (ci := 3) (As := [.int y, .int t]) (rest := []) (idx := 206) (np := 2) (kX3_hasCells j qj.2 y t (cv_u σ 0 5 (nI 0)) hj (by rw [cv_u_0k (by omega)]; exact hSj.2.1)) (cv_lt_s hj) (cv_shC_s hj) rfl rfl (by decide +kernel) rfl wmX6_206 wi_yX3_hasCells ws_yX3_hasCells wn_X3 wc_yX3_hasCells (by decide) (by decide) (D 43 (83, .invokevirtual 206, 3) rfl) (Nat.le_of_ble_eq_true rfl) rfl (fun w9 u9 h9 => ?_)
            rw [h9.1, h9.2]
            show cv_At X _ _ (cv_u σ 0 5 (nI 0)) 86 _ [.int (cv_b (cv_hs qj.2 y t))]
            refine cv_if_eqB C (pc' := 89) rfl (tgt := 101) (D 44 (86, .ifCond .eq 15, 3) rfl) (by decide) (fun b86 => ?_) (fun b86 => ?_)
            · skip
              have hfc : cv_fc (sl j) (sl k) y w t = 3 := by rw [ej, ek]; unfold cv_fc; dsimp only; rw [if_pos b69, if_neg (by simp [b86])]
              refine cv_aload_n C (pc' := 102) rfl (D 50 (101, .aload_n 0, 1) rfl) rfl (j := 2) rfl ?_
              refine cv_iconst C (pc' := 103) rfl (D 51 (102, .iconst 3, 1) rfl) (v := nI 3) (by decide) ?_
              refine cv_callV C (pc' := 106) rfl (k0 := 0) (ci := 6) (As := [.int (nI 3)]) (rest := []) (idx := 54) (np := 1) (kX6_failed 3 (cv_u σ 0 5 (nI 0))) (by decide) rfl rfl rfl (by decide +kernel) rfl wmX6_54 wi_yX6_failed ws_yX6_failed wn_X6 wc_yX6_failed (by decide) (by decide) (D 52 (103, .invokevirtual 54, 3) rfl) (Nat.le_of_ble_eq_true rfl) rfl (fun w103 u103 h103 => ?_)
              rw [h103.1, h103.2, cv_uu]
              show cv_At X _ _ (cv_u σ 0 5 (nI 3)) 106 _ [.int (-10 - nI 3)]
              exact cv_iret C Rt rfl (D 53 (106, .ireturn, 1) rfl) ⟨congrArg (fun z => some (Value.int z)) (by unfold cv_a_copy; simp only [cv_nt, nI_clamp (show j < 2 ^ 31 by omega), nI_clamp (show k < 2 ^ 31 by omega)]; rw [if_pos ⟨b9, b16⟩, hfc]; rw [if_neg (by decide)]), by unfold cv_f_copy cv_n_copy; simp only [cv_nt, nI_clamp (show j < 2 ^ 31 by omega), nI_clamp (show k < 2 ^ 31 by omega)]; rw [if_pos ⟨b9, b16⟩, hfc, if_neg (fun h => by have := h.2; cases this)]; exact cv_RC_f _ hR⟩
            · skip
              refine cv_aload C (pc' := 91) rfl (D 45 (89, .aload 7, 2) rfl) (j := 0) rfl ?_
              refine cv_iload C (pc' := 93) rfl (D 46 (91, .iload 4, 2) rfl) (j := 6) rfl ?_
              refine cv_iload C (pc' := 95) rfl (D 47 (93, .iload 5, 2) rfl) (j := 7) rfl ?_
              refine cv_callV C (pc' := 98) rfl (k0 := 2 + k) (ci := 3) (As := [.int w, .int t]) (rest := []) (idx := 206) (np := 2) (kX3_hasCells k qk.2 w t (cv_u σ 0 5 (nI 0)) hk (by rw [cv_u_0k (by omega)]; exact hSk.2.1)) (cv_lt_s hk) (cv_shC_s hk) rfl rfl (by decide +kernel) rfl wmX6_206 wi_yX3_hasCells ws_yX3_hasCells wn_X3 wc_yX3_hasCells (by decide) (by decide) (D 48 (95, .invokevirtual 206, 3) rfl) (Nat.le_of_ble_eq_true rfl) rfl (fun w9 u9 h9 => ?_)
              rw [h9.1, h9.2]
              show cv_At X _ _ (cv_u σ 0 5 (nI 0)) 98 _ [.int (cv_b (cv_hs qk.2 w t))]
              refine cv_if_neB C (pc' := 101) rfl (tgt := 107) (D 49 (98, .ifCond .ne 9, 3) rfl) (by decide) (fun b98 => ?_) (fun b98 => ?_)
              · skip
                have hfc : cv_fc (sl j) (sl k) y w t = 0 := by rw [ej, ek]; unfold cv_fc; dsimp only; rw [if_pos b69, if_pos ⟨b86, b98⟩]
                obtain ⟨i1, n1, e1, e2, h1⟩ := cv_hs_of hj60 b86
                obtain ⟨i2, n2, e3, e4, h2⟩ := cv_hs_of hk60 b98
                have e5 := (nI_eq (by omega) (by omega)).mp (e2.symm.trans e4)
                subst e5
                subst e1
                subst e2
                subst e3
                refine cv_aload C (pc' := 109) rfl (D 54 (107, .aload 6, 2) rfl) (j := 1) rfl ?_
                refine cv_get C (pc' := 112) rfl (k0 := 2 + j) (i := 0) (ci := 3) (cv_lt_s hj) (cv_shC_s hj) rfl (by decide) (o := some (6 + j)) rfl iw_X3 wfX6_60 (D 55 (109, .getfield 60, 3) rfl) rfl ?_
                refine cv_iload_n C (pc' := 113) rfl (D 56 (112, .iload_n 2, 1) rfl) rfl (j := 4) rfl ?_
                refine cv_aload C (pc' := 115) rfl (D 57 (113, .aload 7, 2) rfl) (j := 0) rfl ?_
                refine cv_get C (pc' := 118) rfl (k0 := 2 + k) (i := 0) (ci := 3) (cv_lt_s hk) (cv_shC_s hk) rfl (by decide) (o := some (6 + k)) rfl iw_X3 wfX6_60 (D 58 (115, .getfield 60, 3) rfl) rfl ?_
                refine cv_iload C (pc' := 120) rfl (D 59 (118, .iload 4, 2) rfl) (j := 6) rfl ?_
                refine cv_iload C (pc' := 122) rfl (D 60 (120, .iload 5, 2) rfl) (j := 7) rfl ?_
                refine cv_acopy C (pc' := 125) rfl (k0 := 6 + j) (k1 := 6 + k) (i := i1) (j := i2) (t := n1) (cv_lt_c hj) (cv_lt_c hk) (cv_shC_c hj) (cv_shC_c hk) (by omega) (by omega) (by decide) (by decide) wmX6_209 (by decide) (Nat.le_of_ble_eq_true rfl) (D 61 (122, .invokestatic 209, 3) rfl) ?_
                refine cv_iload C (pc' := 127) rfl (D 62 (125, .iload 5, 2) rfl) (j := 7) rfl ?_
                exact cv_iret C Rt rfl (D 63 (127, .ireturn, 1) rfl) ⟨congrArg (fun z => some (Value.int z)) (by unfold cv_a_copy; simp only [cv_nt, nI_clamp (show j < 2 ^ 31 by omega), nI_clamp (show k < 2 ^ 31 by omega)]; rw [if_pos ⟨b9, b16⟩, hfc]; rw [if_pos rfl]), by unfold cv_f_copy cv_n_copy; simp only [cv_nt, nI_clamp (show j < 2 ^ 31 by omega), nI_clamp (show k < 2 ^ 31 by omega)]; rw [if_pos ⟨b9, b16⟩, hfc, if_pos ⟨⟨b9, b16⟩, rfl⟩]; simp only [cv_nt, nI_clamp (show j < 2 ^ 31 by omega), nI_clamp (show k < 2 ^ 31 by omega), nI_clamp (show i1 < 2 ^ 31 by omega), nI_clamp (show i2 < 2 ^ 31 by omega), nI_clamp (show n1 < 2 ^ 31 by omega)]; exact cv_RC_same (fun m hm => (cv_ss_id ek m).symm) (fun _ _ _ _ _ => rfl) (cv_RC_S hB hk (fun m h1 h2 => cv_uc_n h2) (by rw [cv_uc_n (by omega), cv_u_0k (by omega)]; exact hSk) (fun _ m hm => by rw [cv_uc_s]; exact cv_cpy_row (by omega) hm (fun m hm => by rw [cv_u_0k (by omega)]; exact (hSh j hj).2 (by rw [ej]; rfl) m hm) (fun m hm => by rw [cv_u_0k (by omega)]; exact (hSh k hk).2 (by rw [ek]; rfl) m hm)) (cv_RC_f 0 hR))⟩
              · skip
                have hfc : cv_fc (sl j) (sl k) y w t = 3 := by rw [ej, ek]; unfold cv_fc; dsimp only; rw [if_pos b69, if_neg (by simp [b98])]
                refine cv_aload_n C (pc' := 102) rfl (D 50 (101, .aload_n 0, 1) rfl) rfl (j := 2) rfl ?_
                refine cv_iconst C (pc' := 103) rfl (D 51 (102, .iconst 3, 1) rfl) (v := nI 3) (by decide) ?_
                refine cv_callV C (pc' := 106) rfl (k0 := 0) (ci := 6) (As := [.int (nI 3)]) (rest := []) (idx := 54) (np := 1) (kX6_failed 3 (cv_u σ 0 5 (nI 0))) (by decide) rfl rfl rfl (by decide +kernel) rfl wmX6_54 wi_yX6_failed ws_yX6_failed wn_X6 wc_yX6_failed (by decide) (by decide) (D 52 (103, .invokevirtual 54, 3) rfl) (Nat.le_of_ble_eq_true rfl) rfl (fun w103 u103 h103 => ?_)
                rw [h103.1, h103.2, cv_uu]
                show cv_At X _ _ (cv_u σ 0 5 (nI 3)) 106 _ [.int (-10 - nI 3)]
                exact cv_iret C Rt rfl (D 53 (106, .ireturn, 1) rfl) ⟨congrArg (fun z => some (Value.int z)) (by unfold cv_a_copy; simp only [cv_nt, nI_clamp (show j < 2 ^ 31 by omega), nI_clamp (show k < 2 ^ 31 by omega)]; rw [if_pos ⟨b9, b16⟩, hfc]; rw [if_neg (by decide)]), by unfold cv_f_copy cv_n_copy; simp only [cv_nt, nI_clamp (show j < 2 ^ 31 by omega), nI_clamp (show k < 2 ^ 31 by omega)]; rw [if_pos ⟨b9, b16⟩, hfc, if_neg (fun h => by have := h.2; cases this)]; exact cv_RC_f _ hR⟩
          · skip
            have hfc : cv_fc (sl j) (sl k) y w t = 2 := by rw [ej, ek]; unfold cv_fc; dsimp only; rw [if_neg b69]
            refine cv_aload_n C (pc' := 73) rfl (D 36 (72, .aload_n 0, 1) rfl) rfl (j := 2) rfl ?_
            refine cv_iconst C (pc' := 74) rfl (D 37 (73, .iconst 2, 1) rfl) (v := nI 2) (by decide) ?_
            refine cv_callV C (pc' := 77) rfl (k0 := 0) (ci := 6) (As := [.int (nI 2)]) (rest := []) (idx := 54) (np := 1) (kX6_failed 2 (cv_u σ 0 5 (nI 0))) (by decide) rfl rfl rfl (by decide +kernel) rfl wmX6_54 wi_yX6_failed ws_yX6_failed wn_X6 wc_yX6_failed (by decide) (by decide) (D 38 (74, .invokevirtual 54, 3) rfl) (Nat.le_of_ble_eq_true rfl) rfl (fun w74 u74 h74 => ?_)
            rw [h74.1, h74.2, cv_uu]
            show cv_At X _ _ (cv_u σ 0 5 (nI 2)) 77 _ [.int (-10 - nI 2)]
            exact cv_iret C Rt rfl (D 39 (77, .ireturn, 1) rfl) ⟨congrArg (fun z => some (Value.int z)) (by unfold cv_a_copy; simp only [cv_nt, nI_clamp (show j < 2 ^ 31 by omega), nI_clamp (show k < 2 ^ 31 by omega)]; rw [if_pos ⟨b9, b16⟩, hfc]; rw [if_neg (by decide)]), by unfold cv_f_copy cv_n_copy; simp only [cv_nt, nI_clamp (show j < 2 ^ 31 by omega), nI_clamp (show k < 2 ^ 31 by omega)]; rw [if_pos ⟨b9, b16⟩, hfc, if_neg (fun h => by have := h.2; cases this)]; exact cv_RC_f _ hR⟩
        · skip
          have hfc : cv_fc (sl j) (sl k) y w t = 1 := by rw [cv_isN1 b50]; cases sl j <;> rfl
          refine cv_aload_n C (pc' := 54) rfl (D 27 (53, .aload_n 0, 1) rfl) rfl (j := 2) rfl ?_
          refine cv_iconst C (pc' := 55) rfl (D 28 (54, .iconst 1, 1) rfl) (v := nI 1) (by decide) ?_
          refine cv_callV C (pc' := 58) rfl (k0 := 0) (ci := 6) (As := [.int (nI 1)]) (rest := []) (idx := 54) (np := 1) (kX6_failed 1 (cv_u σ 0 5 (nI 0))) (by decide) rfl rfl rfl (by decide +kernel) rfl wmX6_54 wi_yX6_failed ws_yX6_failed wn_X6 wc_yX6_failed (by decide) (by decide) (D 29 (55, .invokevirtual 54, 3) rfl) (Nat.le_of_ble_eq_true rfl) rfl (fun w55 u55 h55 => ?_)
          rw [h55.1, h55.2, cv_uu]
          show cv_At X _ _ (cv_u σ 0 5 (nI 1)) 58 _ [.int (-10 - nI 1)]
          exact cv_iret C Rt rfl (D 30 (58, .ireturn, 1) rfl) ⟨congrArg (fun z => some (Value.int z)) (by unfold cv_a_copy; simp only [cv_nt, nI_clamp (show j < 2 ^ 31 by omega), nI_clamp (show k < 2 ^ 31 by omega)]; rw [if_pos ⟨b9, b16⟩, hfc]; rw [if_neg (by decide)]), by unfold cv_f_copy cv_n_copy; simp only [cv_nt, nI_clamp (show j < 2 ^ 31 by omega), nI_clamp (show k < 2 ^ 31 by omega)]; rw [if_pos ⟨b9, b16⟩, hfc, if_neg (fun h => by have := h.2; cases this)]; exact cv_RC_f _ hR⟩
    · skip
      refine cv_iconst C (pc' := 20) rfl (D 9 (19, .iconst (-1), 1) rfl) (v := -1) (by decide) ?_
      exact cv_iret C Rt rfl (D 10 (20, .ireturn, 1) rfl) ⟨congrArg (fun z => some (Value.int z)) (by unfold cv_a_copy; rw [if_neg (by simp [b16])]), by unfold cv_f_copy cv_n_copy; rw [if_neg (by simp [b16]), if_neg (by simp [b16])]; exact cv_RC_f _ hR⟩

set_option maxHeartbeats 4000000 in
set_option maxRecDepth 100000 in
theorem kX6_refusalOfSteps (L : cv_L) (f : Nat → Int32) (j i n : Nat) (σ : cv_St) (hL : cv_LC L σ) (hB : cv_LB L) (hj : j < 4) (hin : i + n ≤ 60) (hf : ∀ k, k < 60 → σ (6 + j) k = f k) : cv_Ct yX6_refusalOfSteps cX6_refusalOfSteps 6 (some .int) 2 0 0 26 cv_shC [.ref 0, .ref (6 + j), .int (nI i), .int (nI n)] σ (cv_pu (.int (cv_rs L f i n)) σ) := by
  refine cv_enter (own := RX6) (by decide) rfl (Nat.le_of_ble_eq_true rfl) ?_
  intro X a C Rt hRm
  have D := @cv_dec _ _ dkX6_refusalOfSteps
  show cv_At X _ _ σ 0 [(0, .ref 0), (1, .ref (6 + j)), (2, .int (nI i)), (3, .int (nI n))] []
  refine cv_iconst C (pc' := 1) rfl (D 0 (0, .iconst 0, 1) rfl) (v := nI 0) (by decide) ?_
  refine cv_istore C (pc' := 3) rfl (D 1 (1, .istore 4, 2) rfl) (by decide) (lv' := [(4, .int (nI 0)), (0, .ref 0), (1, .ref (6 + j)), (2, .int (nI i)), (3, .int (nI n))]) rfl ?_
  have LP3 : ∀ (r : Nat) (k : Nat), (k + r = n) → (cv_rs L f i k = 0) → cv_At X (26, cv_shC, 0, 0, a) 6 σ 3 [(4, .int (nI k)), (0, .ref 0), (1, .ref (6 + j)), (2, .int (nI i)), (3, .int (nI n))] [] := by
    intro r
    induction r with
    | zero =>
      intro k hr h0
      refine cv_iload C (pc' := 5) rfl (D 2 (3, .iload 4, 2) rfl) (j := 0) rfl ?_
      refine cv_iload_n C (pc' := 6) rfl (D 3 (5, .iload_n 3, 1) rfl) rfl (j := 4) rfl ?_
      refine cv_icmp_geN C (pc' := 9) rfl (by omega) (by omega) (tgt := 56) (D 4 (6, .if_icmp .ge 50, 3) rfl) (by decide) (fun b6 => ?_) (fun b6 => ?_)
      · skip
        refine cv_iconst C (pc' := 57) rfl (D 29 (56, .iconst 0, 1) rfl) (v := nI 0) (by decide) ?_
        exact cv_iret C Rt rfl (D 30 (57, .ireturn, 1) rfl) ⟨congrArg (fun z => some (Value.int z)) (by rw [show n = k by omega, h0]; rfl), rfl⟩
      · skip
        omega
    | succ r ih3 =>
      intro k hr h0
      refine cv_iload C (pc' := 5) rfl (D 2 (3, .iload 4, 2) rfl) (j := 0) rfl ?_
      refine cv_iload_n C (pc' := 6) rfl (D 3 (5, .iload_n 3, 1) rfl) rfl (j := 4) rfl ?_
      refine cv_icmp_geN C (pc' := 9) rfl (by omega) (by omega) (tgt := 56) (D 4 (6, .if_icmp .ge 50, 3) rfl) (by decide) (fun b6 => ?_) (fun b6 => ?_)
      · skip
        omega
      · skip
        refine cv_aload_n C (pc' := 10) rfl (D 5 (9, .aload_n 1, 1) rfl) rfl (j := 2) rfl ?_
        refine cv_iload_n C (pc' := 11) rfl (D 6 (10, .iload_n 2, 1) rfl) rfl (j := 3) rfl ?_
        refine cv_iload C (pc' := 13) rfl (D 7 (11, .iload 4, 2) rfl) (j := 0) rfl ?_
        refine cv_iaddN C (pc' := 14) rfl (D 8 (13, .iadd, 1) rfl) ?_
        refine cv_iald C (pc' := 15) rfl (k0 := 6 + j) (j := i + k) (cv_lt_c hj) (cv_shC_c hj) rfl (by omega) (by decide) (D 9 (14, .iaload, 1) rfl) (v := f (i + k)) (hf _ (by omega)) ?_
        refine cv_istore C (pc' := 17) rfl (D 10 (15, .istore 5, 2) rfl) (by decide) (lv' := [(5, .int (f (i + k))), (4, .int (nI k)), (0, .ref 0), (1, .ref (6 + j)), (2, .int (nI i)), (3, .int (nI n))]) rfl ?_
        refine cv_iload C (pc' := 19) rfl (D 11 (17, .iload 5, 2) rfl) (j := 0) rfl ?_
        refine cv_if_lt C (pc' := 22) rfl (tgt := 29) (D 12 (19, .ifCond .lt 10, 3) rfl) (by decide) (fun b19 => ?_) (fun b19 => ?_)
        · skip
          refine cv_bipush C (pc' := 31) rfl (D 16 (29, .bipush (-2), 2) rfl) (v := -2) (by decide) ?_
          exact cv_iret C Rt rfl (D 17 (31, .ireturn, 1) rfl) ⟨congrArg (fun z => some (Value.int z)) (by rw [cv_rs_of h0 (r := -2) (by unfold cv_r1; rw [if_pos (Or.inl b19)]) (by decide) n (by omega)]), rfl⟩
        · skip
          refine cv_iload C (pc' := 24) rfl (D 13 (22, .iload 5, 2) rfl) (j := 0) rfl ?_
          refine cv_bipush C (pc' := 26) rfl (D 14 (24, .bipush 8, 2) rfl) (v := nI 8) (by decide) ?_
          refine cv_icmp_le C (pc' := 29) rfl (tgt := 32) (D 15 (26, .if_icmp .le 6, 3) rfl) (by decide) (fun b26 => ?_) (fun b26 => ?_)
          · skip
            refine cv_iload C (pc' := 34) rfl (D 18 (32, .iload 5, 2) rfl) (j := 0) rfl ?_
            refine cv_bipush C (pc' := 36) rfl (D 19 (34, .bipush 6, 2) rfl) (v := nI 6) (by decide) ?_
            refine cv_icmp_ge C (pc' := 39) rfl (tgt := 50) (D 20 (36, .if_icmp .ge 14, 3) rfl) (by decide) (fun b36 => ?_) (fun b36 => ?_)
            · skip
              refine cv_iincN C (pc' := 53) rfl (D 27 (50, .iinc 4 1, 3) rfl) (j := 1) rfl (by decide) (lv' := [(4, .int (nI (k + 1))), (5, .int (f (i + k))), (0, .ref 0), (1, .ref (6 + j)), (2, .int (nI i)), (3, .int (nI n))]) rfl ?_
              refine cv_goto C (tgt := 3) (D 28 (53, .goto (-50), 3) rfl) (by decide) ?_
              refine cv_pick [0, 2, 3, 4, 5] (lv' := [(4, .int (nI (k + 1))), (0, .ref 0), (1, .ref (6 + j)), (2, .int (nI i)), (3, .int (nI n))]) rfl ?_
              exact ih3 (k + 1) (by omega) (by simp only [cv_rs]; rw [if_pos h0]; unfold cv_r1; rw [if_neg (by intro h; rcases h with h | h; exact b19 h; exact Int32.not_lt.mpr b26 h), if_neg (fun h => absurd h.1 (Int32.not_lt.mpr b36))])
            · skip
              refine cv_aload_n C (pc' := 40) rfl (D 21 (39, .aload_n 0, 1) rfl) rfl (j := 2) rfl ?_
              refine cv_iload C (pc' := 42) rfl (D 22 (40, .iload 5, 2) rfl) (j := 0) rfl ?_
              refine cv_callV C (pc' := 45) rfl (k0 := 0) (ci := 6) (As := [.int (f (i + k))]) (rest := []) (idx := 81) (np := 1) (kX6_isPass (f (i + k)) L σ hL) (by decide) rfl rfl rfl (by decide +kernel) rfl wmX6_81 wi_yX6_isPass ws_yX6_isPass wn_X6 wc_yX6_isPass (by decide) (by decide) (D 23 (42, .invokevirtual 81, 3) rfl) (Nat.le_of_ble_eq_true rfl) rfl (fun w9 u9 h9 => ?_)
              rw [h9.1, h9.2]
              show cv_At X _ _ σ 45 _ [.int (cv_b (cv_in (f (i + k)) (L 7 0)))]
              refine cv_if_neB C (pc' := 48) rfl (tgt := 50) (D 24 (45, .ifCond .ne 5, 3) rfl) (by decide) (fun b45 => ?_) (fun b45 => ?_)
              · skip
                refine cv_iincN C (pc' := 53) rfl (D 27 (50, .iinc 4 1, 3) rfl) (j := 1) rfl (by decide) (lv' := [(4, .int (nI (k + 1))), (5, .int (f (i + k))), (0, .ref 0), (1, .ref (6 + j)), (2, .int (nI i)), (3, .int (nI n))]) rfl ?_
                refine cv_goto C (tgt := 3) (D 28 (53, .goto (-50), 3) rfl) (by decide) ?_
                refine cv_pick [0, 2, 3, 4, 5] (lv' := [(4, .int (nI (k + 1))), (0, .ref 0), (1, .ref (6 + j)), (2, .int (nI i)), (3, .int (nI n))]) rfl ?_
                exact ih3 (k + 1) (by omega) (by simp only [cv_rs]; rw [if_pos h0]; unfold cv_r1; rw [if_neg (by intro h; rcases h with h | h; exact b19 h; exact Int32.not_lt.mpr b26 h), if_neg (fun h => by rw [h.2] at b45; cases b45)])
              · skip
                refine cv_iconst C (pc' := 49) rfl (D 25 (48, .iconst (-1), 1) rfl) (v := -1) (by decide) ?_
                exact cv_iret C Rt rfl (D 26 (49, .ireturn, 1) rfl) ⟨congrArg (fun z => some (Value.int z)) (by rw [cv_rs_of h0 (r := -1) (by unfold cv_r1; rw [if_neg (by intro h; rcases h with h | h; exact b19 h; exact Int32.not_lt.mpr b26 h), if_pos ⟨Int32.not_le.mp b36, b45⟩]) (by decide) n (by omega)]), rfl⟩
          · skip
            refine cv_bipush C (pc' := 31) rfl (D 16 (29, .bipush (-2), 2) rfl) (v := -2) (by decide) ?_
            exact cv_iret C Rt rfl (D 17 (31, .ireturn, 1) rfl) ⟨congrArg (fun z => some (Value.int z)) (by rw [cv_rs_of h0 (r := -2) (by unfold cv_r1; rw [if_pos (Or.inr (Int32.not_le.mp b26))]) (by decide) n (by omega)]), rfl⟩
  exact LP3 n 0 (by omega) rfl

set_option maxHeartbeats 4000000 in
set_option maxRecDepth 100000 in
theorem kX6_firstWrong (L : cv_L) (f : Nat → Int32) (j i n d : Nat) (σ : cv_St) (hL : cv_LC L σ) (hB : cv_LB L) (hj : j < 4) (hin : i + n ≤ 60) (hd : d < 8) (hf : ∀ k, k < 60 → σ (6 + j) k = f k) (hrs : ∀ k, k < n → cv_r1 L (f (i + k)) = 0) (hW : cv_WC (d, 0, 0, 0) σ) : cv_Ct yX6_firstWrong cX6_firstWrong 6 (some .int) 4 0 0 26 cv_shC [.ref 0, .ref (6 + j), .int (nI i), .int (nI n)] σ (fun v u => v = some (.int (cv_o (cv_wr L f i d n))) ∧ (∀ k, k ≠ 22 → u k = σ k) ∧ (cv_wr L f i d n = none → ∃ q, cv_ru L f i d n = some q ∧ cv_WC q u)) := by
  refine cv_enter (own := RX6) (by decide) rfl (Nat.le_of_ble_eq_true rfl) ?_
  intro X a C Rt hRm
  have D := @cv_dec _ _ dkX6_firstWrong
  have hg0 := hB.2.2.2 0 (by decide)
  show cv_At X _ _ σ 0 [(0, .ref 0), (1, .ref (6 + j)), (2, .int (nI i)), (3, .int (nI n))] []
  refine cv_aload_n C (pc' := 1) rfl (D 0 (0, .aload_n 0, 1) rfl) rfl (j := 0) rfl ?_
  refine cv_get C (pc' := 4) rfl (k0 := 0) (i := 1) (ci := 6) (by decide) rfl rfl (by decide) (o := some 10) rfl iw_X6 wfX6_21 (D 1 (1, .getfield 21, 3) rfl) rfl ?_
  refine cv_get C (pc' := 7) rfl (k0 := 10) (i := 2) (ci := 0) (by decide) rfl rfl (by decide) (o := some 19) rfl iw_X0 wfX6_125 (D 2 (4, .getfield 125, 3) rfl) rfl ?_
  refine cv_iconst C (pc' := 8) rfl (D 3 (7, .iconst 0, 1) rfl) (v := nI 0) (by decide) ?_
  refine cv_iald C (pc' := 9) rfl (k0 := 19) (j := 0) (by decide) rfl rfl (by omega) (by decide) (D 4 (8, .iaload, 1) rfl) (v := nI (L 6 0)) (hL.2.2.1 _ (by omega)) ?_
  refine cv_aload_n C (pc' := 10) rfl (D 5 (9, .aload_n 0, 1) rfl) rfl (j := 0) rfl ?_
  refine cv_get C (pc' := 13) rfl (k0 := 0) (i := 2) (ci := 6) (by decide) rfl rfl (by decide) (o := some 22) rfl iw_X6 wfX6_28 (D 6 (10, .getfield 28, 3) rfl) rfl ?_
  refine cv_get C (pc' := 16) rfl (k0 := 22) (i := 0) (ci := 5) (by decide) rfl rfl (by decide) (o := none) rfl iw_X5 wfX6_231 (D 7 (13, .getfield 231, 3) rfl) (v := .int (nI d)) (congrArg Value.int hW.1) ?_
  refine cv_callS C (pc' := 19) rfl (As := [.int (nI (L 6 0)), .int (nI d)]) (rest := []) (idx := 234) (np := 2) (kX6_hasDay (L 6 0) d σ (by omega) (by omega)) (by decide +kernel) rfl wmX6_234 wt_yX6_hasDay wn_X6 wc_yX6_hasDay (by decide) (by decide) (D 8 (16, .invokestatic 234, 3) rfl) (Nat.le_of_ble_eq_true rfl) rfl (fun w9 u9 h9 => ?_)
  rw [h9.1, h9.2]
  show cv_At X _ _ σ 19 _ [.int (cv_b ((L 6 0).testBit d))]
  refine cv_istore C (pc' := 21) rfl (D 9 (19, .istore 4, 2) rfl) (by decide) (lv' := [(4, .int (cv_b ((L 6 0).testBit d))), (0, .ref 0), (1, .ref (6 + j)), (2, .int (nI i)), (3, .int (nI n))]) rfl ?_
  refine cv_iconst C (pc' := 22) rfl (D 10 (21, .iconst 0, 1) rfl) (v := nI 0) (by decide) ?_
  refine cv_istore C (pc' := 24) rfl (D 11 (22, .istore 5, 2) rfl) (by decide) (lv' := [(5, .int (nI 0)), (4, .int (cv_b ((L 6 0).testBit d))), (0, .ref 0), (1, .ref (6 + j)), (2, .int (nI i)), (3, .int (nI n))]) rfl ?_
  have LP24 : ∀ (r : Nat) (k : Nat) (q : cv_Q) (τ : cv_St), (k + r = n) → (cv_ru L f i d k = some q) → (cv_WC q τ) → (∀ k, k ≠ 22 → τ k = σ k) → (k = 0 ∨ (L 6 0).testBit d = true) → cv_At X (26, cv_shC, 0, 0, a) 6 τ 24 [(5, .int (nI k)), (0, .ref 0), (1, .ref (6 + j)), (2, .int (nI i)), (3, .int (nI n)), (4, .int (cv_b ((L 6 0).testBit d)))] [] := by
    intro r
    induction r with
    | zero =>
      intro k q τ hr hq hWτ hKτ hk0
      have hLτ := cv_LC_k (fun m _ _ h => hKτ m h) hL hB
      refine cv_iload C (pc' := 26) rfl (D 12 (24, .iload 5, 2) rfl) (j := 0) rfl ?_
      refine cv_iload_n C (pc' := 27) rfl (D 13 (26, .iload_n 3, 1) rfl) rfl (j := 4) rfl ?_
      refine cv_icmp_geN C (pc' := 30) rfl (by omega) (by omega) (tgt := 64) (D 14 (27, .if_icmp .ge 37, 3) rfl) (by decide) (fun b27 => ?_) (fun b27 => ?_)
      · skip
        refine cv_bipush C (pc' := 66) rfl (D 32 (64, .bipush (-9), 2) rfl) (v := -9) (by decide) ?_
        exact cv_iret C Rt rfl (D 33 (66, .ireturn, 1) rfl) ⟨by rw [cv_wr_none (by rcases hk0 with h | h; exact Or.inl (by omega); exact Or.inr h) (by rw [show n = k by omega]; exact hq)]; rfl, hKτ, fun _ => ⟨q, by rw [show n = k by omega]; exact hq, hWτ⟩⟩
      · skip
        omega
    | succ r ih24 =>
      intro k q τ hr hq hWτ hKτ hk0
      have hLτ := cv_LC_k (fun m _ _ h => hKτ m h) hL hB
      obtain ⟨x, hx, ex, hx6⟩ := cv_r1_of hB (hrs k (by omega))
      have hWB := cv_ru_b hB hd hrs k (by omega) q hq
      refine cv_iload C (pc' := 26) rfl (D 12 (24, .iload 5, 2) rfl) (j := 0) rfl ?_
      refine cv_iload_n C (pc' := 27) rfl (D 13 (26, .iload_n 3, 1) rfl) rfl (j := 4) rfl ?_
      refine cv_icmp_geN C (pc' := 30) rfl (by omega) (by omega) (tgt := 64) (D 14 (27, .if_icmp .ge 37, 3) rfl) (by decide) (fun b27 => ?_) (fun b27 => ?_)
      · skip
        omega
      · skip
        refine cv_iload C (pc' := 32) rfl (D 15 (30, .iload 4, 2) rfl) (j := 5) rfl ?_
        refine cv_if_eqB C (pc' := 35) rfl (tgt := 55) (D 16 (32, .ifCond .eq 23, 3) rfl) (by decide) (fun b32 => ?_) (fun b32 => ?_)
        · skip
          have hk00 : k = 0 := by rcases hk0 with h | h; exact h; rw [h] at b32; cases b32
          have hwr : cv_wr L f i d n = some k := by unfold cv_wr; rw [if_neg (by simp [b32]), if_neg (by omega), hk00]
          refine cv_iload C (pc' := 57) rfl (D 28 (55, .iload 5, 2) rfl) (j := 0) rfl ?_
          exact cv_iret C Rt rfl (D 29 (57, .ireturn, 1) rfl) (by rw [hwr]; exact ⟨rfl, hKτ, fun h => by cases h⟩)
        · skip
          refine cv_aload_n C (pc' := 36) rfl (D 17 (35, .aload_n 0, 1) rfl) rfl (j := 1) rfl ?_
          refine cv_get C (pc' := 39) rfl (k0 := 0) (i := 2) (ci := 6) (by decide) rfl rfl (by decide) (o := some 22) rfl iw_X6 wfX6_28 (D 18 (36, .getfield 28, 3) rfl) rfl ?_
          refine cv_aload_n C (pc' := 40) rfl (D 19 (39, .aload_n 1, 1) rfl) rfl (j := 2) rfl ?_
          refine cv_iload_n C (pc' := 41) rfl (D 20 (40, .iload_n 2, 1) rfl) rfl (j := 3) rfl ?_
          refine cv_iload C (pc' := 43) rfl (D 21 (41, .iload 5, 2) rfl) (j := 0) rfl ?_
          refine cv_iaddN C (pc' := 44) rfl (D 22 (43, .iadd, 1) rfl) ?_
          refine cv_iald C (pc' := 45) rfl (k0 := 6 + j) (j := i + k) (cv_lt_c hj) (cv_shC_c hj) rfl (by omega) (by decide) (D 23 (44, .iaload, 1) rfl) (v := nI x) (by rw [hKτ _ (by omega), hf _ (by omega)]; exact ex) ?_
          refine cv_aload_n C (pc' := 46) rfl (D 24 (45, .aload_n 0, 1) rfl) rfl (j := 1) rfl ?_
          refine cv_get C (pc' := 49) rfl (k0 := 0) (i := 1) (ci := 6) (by decide) rfl rfl (by decide) (o := some 10) rfl iw_X6 wfX6_21 (D 25 (46, .getfield 21, 3) rfl) rfl ?_
          refine cv_callV C (pc' := 52) rfl (k0 := 22) (ci := 5) (As := [.int (nI x), .ref 10]) (rest := []) (idx := 237) (np := 2) (kX5_takesStep L q x τ hLτ hB hWτ hWB hx6 hx) (by decide) rfl rfl rfl (by decide +kernel) rfl wmX6_237 wi_yX5_takesStep ws_yX5_takesStep wn_X5 wc_yX5_takesStep (by decide) (by decide) (D 26 (49, .invokevirtual 237, 3) rfl) (Nat.le_of_ble_eq_true rfl) rfl (fun w49 u49 h49 => ?_)
          obtain ⟨e1, e2, e3⟩ := h49
          rw [e1]
          show cv_At X _ _ u49 52 _ [.int (cv_b ((cv_st L x q).isSome))]
          refine cv_if_neB C (pc' := 55) rfl (tgt := 58) (D 27 (52, .ifCond .ne 6, 3) rfl) (by decide) (fun b52 => ?_) (fun b52 => ?_)
          · skip
            obtain ⟨q2, hq2⟩ : ∃ q2, cv_st L x q = some q2 := Option.isSome_iff_exists.mp b52
            refine cv_iincN C (pc' := 61) rfl (D 30 (58, .iinc 5 1, 3) rfl) (j := 0) rfl (by decide) (lv' := [(5, .int (nI (k + 1))), (0, .ref 0), (1, .ref (6 + j)), (2, .int (nI i)), (3, .int (nI n)), (4, .int (cv_b ((L 6 0).testBit d)))]) rfl ?_
            refine cv_goto C (tgt := 24) (D 31 (61, .goto (-37), 3) rfl) (by decide) ?_
            exact ih24 (k + 1) q2 u49 (by omega) (by simp only [cv_ru]; rw [hq]; dsimp only; rw [cv_nt, ex, nI_clamp (by omega)]; exact hq2) (e3 q2 hq2) (fun m hm => (e2 m hm).trans (hKτ m hm)) (Or.inr b32)
          · skip
            refine cv_iload C (pc' := 57) rfl (D 28 (55, .iload 5, 2) rfl) (j := 0) rfl ?_
            exact cv_iret C Rt rfl (D 29 (57, .ireturn, 1) rfl) (by rw [cv_wr_some b32 (by omega) hq (by rw [cv_nt, ex, nI_clamp (by omega)]; cases hs : cv_st L x q with | none => rfl | some q2 => rw [hs] at b52; cases b52)]; exact ⟨rfl, fun m hm => (e2 m hm).trans (hKτ m hm), fun h => by cases h⟩)
  refine cv_pick [0, 2, 3, 4, 5, 1] (lv' := [(5, .int (nI 0)), (0, .ref 0), (1, .ref (6 + j)), (2, .int (nI i)), (3, .int (nI n)), (4, .int (cv_b ((L 6 0).testBit d)))]) rfl ?_
  exact LP24 n 0 (d, 0, 0, 0) σ (by omega) rfl hW (fun _ _ => rfl) (Or.inl rfl)

set_option maxHeartbeats 4000000 in
set_option maxRecDepth 100000 in
theorem kX6_ofWay (o : Option Nat) (q : cv_Q) (v : Nat) (σ : cv_St) (ho : ∀ z, o = some z → z < 2 ^ 31) (hv : v < 5) (hW : o = none → cv_WC q σ) : cv_Ct yX6_ofWay cX6_ofWay 3 (some .int) 0 0 0 26 cv_shC [.ref 0, .int (cv_o o), .int (nI v)] σ (cv_pu (.int (cv_ow o q v)) σ) := by
  refine cv_enter (own := RX6) (by decide) rfl (Nat.le_of_ble_eq_true rfl) ?_
  intro X a C Rt hRm
  have D := @cv_dec _ _ dkX6_ofWay
  show cv_At X _ _ σ 0 [(0, .ref 0), (1, .int (cv_o o)), (2, .int (nI v))] []
  refine cv_iload_n C (pc' := 1) rfl (D 0 (0, .iload_n 2, 1) rfl) rfl (j := 2) rfl ?_
  refine cv_iconst C (pc' := 2) rfl (D 1 (1, .iconst 1, 1) rfl) (v := nI 1) (by decide) ?_
  refine cv_icmp_neN C (pc' := 5) rfl (by omega) (by omega) (tgt := 7) (D 2 (2, .if_icmp .ne 5, 3) rfl) (by decide) (fun b2 => ?_) (fun b2 => ?_)
  · skip
    refine cv_iload_n C (pc' := 8) rfl (D 5 (7, .iload_n 1, 1) rfl) rfl (j := 1) rfl ?_
    refine cv_bipush C (pc' := 10) rfl (D 6 (8, .bipush (-9), 2) rfl) (v := -9) (by decide) ?_
    refine cv_icmp_eqO C (pc' := 13) rfl ho (tgt := 18) (D 7 (10, .if_icmp .eq 8, 3) rfl) (by decide) (fun b10 => ?_) (fun z10 b10 => ?_)
    · skip
      have hW := hW b10
      refine cv_iload_n C (pc' := 19) rfl (D 12 (18, .iload_n 2, 1) rfl) rfl (j := 2) rfl ?_
      have hv9 : v = 0 ∨ v = 2 ∨ v = 3 ∨ v = 4 := by omega
      rcases hv9 with hv9 | hv9 | hv9 | hv9
      · skip
        refine cv_top (w := nI 0) (congrArg nI hv9) ?_
        refine cv_tableIn C (D 13 (19, .tableswitch 53 0 3 #[29, 53, 37, 45], 29) rfl) (tgt := 48) (by decide) (by decide) rfl (by decide) ?_
        refine cv_aload_n C (pc' := 49) rfl (D 14 (48, .aload_n 0, 1) rfl) rfl (j := 0) rfl ?_
        refine cv_get C (pc' := 52) rfl (k0 := 0) (i := 2) (ci := 6) (by decide) rfl rfl (by decide) (o := some 22) rfl iw_X6 wfX6_28 (D 15 (49, .getfield 28, 3) rfl) rfl ?_
        refine cv_get C (pc' := 55) rfl (k0 := 22) (i := 0) (ci := 5) (by decide) rfl rfl (by decide) (o := none) rfl iw_X5 wfX6_231 (D 16 (52, .getfield 231, 3) rfl) (v := .int (nI q.1)) (congrArg Value.int hW.1) ?_
        exact cv_iret C Rt rfl (D 17 (55, .ireturn, 1) rfl) ⟨congrArg (fun z => some (Value.int z)) (by unfold cv_ow; rw [if_neg b2, b10]; simp [hv9]), rfl⟩
      · skip
        refine cv_top (w := nI 2) (congrArg nI hv9) ?_
        refine cv_tableIn C (D 13 (19, .tableswitch 53 0 3 #[29, 53, 37, 45], 29) rfl) (tgt := 56) (by decide) (by decide) rfl (by decide) ?_
        refine cv_aload_n C (pc' := 57) rfl (D 18 (56, .aload_n 0, 1) rfl) rfl (j := 0) rfl ?_
        refine cv_get C (pc' := 60) rfl (k0 := 0) (i := 2) (ci := 6) (by decide) rfl rfl (by decide) (o := some 22) rfl iw_X6 wfX6_28 (D 19 (57, .getfield 28, 3) rfl) rfl ?_
        refine cv_get C (pc' := 63) rfl (k0 := 22) (i := 3) (ci := 5) (by decide) rfl rfl (by decide) (o := none) rfl iw_X5 wfX6_241 (D 20 (60, .getfield 241, 3) rfl) (v := .int (nI q.2.2.2)) (congrArg Value.int hW.2.2.2) ?_
        exact cv_iret C Rt rfl (D 21 (63, .ireturn, 1) rfl) ⟨congrArg (fun z => some (Value.int z)) (by unfold cv_ow; rw [if_neg b2, b10]; simp [hv9]), rfl⟩
      · skip
        refine cv_top (w := nI 3) (congrArg nI hv9) ?_
        refine cv_tableIn C (D 13 (19, .tableswitch 53 0 3 #[29, 53, 37, 45], 29) rfl) (tgt := 64) (by decide) (by decide) rfl (by decide) ?_
        refine cv_aload_n C (pc' := 65) rfl (D 22 (64, .aload_n 0, 1) rfl) rfl (j := 0) rfl ?_
        refine cv_get C (pc' := 68) rfl (k0 := 0) (i := 2) (ci := 6) (by decide) rfl rfl (by decide) (o := some 22) rfl iw_X6 wfX6_28 (D 23 (65, .getfield 28, 3) rfl) rfl ?_
        refine cv_get C (pc' := 71) rfl (k0 := 22) (i := 1) (ci := 5) (by decide) rfl rfl (by decide) (o := none) rfl iw_X5 wfX6_244 (D 24 (68, .getfield 244, 3) rfl) (v := .int (nI q.2.1)) (congrArg Value.int hW.2.1) ?_
        exact cv_iret C Rt rfl (D 25 (71, .ireturn, 1) rfl) ⟨congrArg (fun z => some (Value.int z)) (by unfold cv_ow; rw [if_neg b2, b10]; simp [hv9]), rfl⟩
      · skip
        refine cv_top (w := nI 4) (congrArg nI hv9) ?_
        refine cv_tableOut C (D 13 (19, .tableswitch 53 0 3 #[29, 53, 37, 45], 29) rfl) (tgt := 72) (by decide) (by decide) ?_
        refine cv_aload_n C (pc' := 73) rfl (D 26 (72, .aload_n 0, 1) rfl) rfl (j := 0) rfl ?_
        refine cv_get C (pc' := 76) rfl (k0 := 0) (i := 2) (ci := 6) (by decide) rfl rfl (by decide) (o := some 22) rfl iw_X6 wfX6_28 (D 27 (73, .getfield 28, 3) rfl) rfl ?_
        refine cv_get C (pc' := 79) rfl (k0 := 22) (i := 2) (ci := 5) (by decide) rfl rfl (by decide) (o := none) rfl iw_X5 wfX6_247 (D 28 (76, .getfield 247, 3) rfl) (v := .int (nI q.2.2.1)) (congrArg Value.int hW.2.2.1) ?_
        exact cv_iret C Rt rfl (D 29 (79, .ireturn, 1) rfl) ⟨congrArg (fun z => some (Value.int z)) (by unfold cv_ow; rw [if_neg b2, b10]; simp [hv9]), rfl⟩
    · skip
      have ez10 : cv_o o = nI z10 := by rw [b10]; rfl
      rw [ez10]
      refine cv_bipush C (pc' := 15) rfl (D 8 (13, .bipush (-100), 2) rfl) (v := -100) (by decide) ?_
      refine cv_iload_n C (pc' := 16) rfl (D 9 (15, .iload_n 1, 1) rfl) rfl (j := 1) rfl ?_
      refine cv_isub C (pc' := 17) rfl (D 10 (16, .isub, 1) rfl) ?_
      exact cv_iret C Rt rfl (D 11 (17, .ireturn, 1) rfl) ⟨congrArg (fun z => some (Value.int z)) (by unfold cv_ow; rw [if_neg b2, b10]), rfl⟩
  · skip
    refine cv_iload_n C (pc' := 6) rfl (D 3 (5, .iload_n 1, 1) rfl) rfl (j := 1) rfl ?_
    exact cv_iret C Rt rfl (D 4 (6, .ireturn, 1) rfl) ⟨congrArg (fun z => some (Value.int z)) (by unfold cv_ow; rw [if_pos b2]), rfl⟩

set_option maxHeartbeats 4000000 in
set_option maxRecDepth 100000 in
theorem pX6_way (tr : Int32) (ft : Nat) (sl : Nat → Option (Nat × Nat)) (sc : Nat → Nat → Int32) (L : cv_L) (rc : Nat) (rd : Nat → Nat) (rn : Nat → Option Nat) (x y z w t v0 : Int32) (σ : cv_St) (hR : cv_RC tr ft sl sc L rc rd rn σ) (hB : cv_LB L) (hDB : cv_DB rc rd rn) : cv_Ct yX6_way cX6_way 9 (some .int) 5 0 0 26 cv_shC [.ref 0, .int x, .int y, .int z, .int w, .int t, .int v0] σ (fun v u => v = some (.int (cv_a_way sl sc L x y z w t v0)) ∧ cv_RC tr (cv_f_way sl x y z w t v0) sl sc L rc rd rn u) := by
  refine cv_enter (own := RX6) (by decide) rfl (Nat.le_of_ble_eq_true rfl) ?_
  intro X a C Rt hRm
  have D := @cv_dec _ _ dkX6_way
  obtain ⟨hTr, hFt, hSh, hL, hSe, hD⟩ := id hR
  have hn6 := hB.1
  have hrc := hDB.1
  show cv_At X _ _ σ 0 [(0, .ref 0), (1, .int x), (2, .int y), (3, .int z), (4, .int w), (5, .int t), (6, .int v0)] []
  refine cv_aload_n C (pc' := 1) rfl (D 0 (0, .aload_n 0, 1) rfl) rfl (j := 0) rfl ?_
  refine cv_iconst C (pc' := 2) rfl (D 1 (1, .iconst 0, 1) rfl) (v := nI 0) (by decide) ?_
  refine cv_put C (pc' := 5) rfl (k0 := 0) (i := 5) (ci := 6) (by decide) rfl rfl (by decide) rfl iw_X6 tyX6 tyX6_ok nmX6 wfX6_39 rfl rfl rfl (D 2 (2, .putfield 39, 3) rfl) ?_
  refine cv_iload_n C (pc' := 6) rfl (D 3 (5, .iload_n 1, 1) rfl) rfl (j := 1) rfl ?_
  refine cv_callS C (pc' := 9) rfl (As := [.int x]) (rest := []) (idx := 108) (np := 1) (kX6_isDay x (cv_u σ 0 5 (nI 0))) (by decide +kernel) rfl wmX6_108 wt_yX6_isDay wn_X6 wc_yX6_isDay (by decide) (by decide) (D 4 (6, .invokestatic 108, 3) rfl) (Nat.le_of_ble_eq_true rfl) rfl (fun w9 u9 h9 => ?_)
  rw [h9.1, h9.2]
  show cv_At X _ _ (cv_u σ 0 5 (nI 0)) 9 _ [.int (cv_b (cv_in x 8))]
  refine cv_if_neB C (pc' := 12) rfl (tgt := 15) (D 5 (9, .ifCond .ne 6, 3) rfl) (by decide) (fun b9 => ?_) (fun b9 => ?_)
  · skip
    refine cv_iload_n C (pc' := 16) rfl (D 8 (15, .iload_n 2, 1) rfl) rfl (j := 2) rfl ?_
    refine cv_callS C (pc' := 19) rfl (As := [.int y]) (rest := []) (idx := 43) (np := 1) (kX6_isSheet y (cv_u σ 0 5 (nI 0))) (by decide +kernel) rfl wmX6_43 wt_yX6_isSheet wn_X6 wc_yX6_isSheet (by decide) (by decide) (D 9 (16, .invokestatic 43, 3) rfl) (Nat.le_of_ble_eq_true rfl) rfl (fun w9 u9 h9 => ?_)
    rw [h9.1, h9.2]
    show cv_At X _ _ (cv_u σ 0 5 (nI 0)) 19 _ [.int (cv_b (cv_in y 4))]
    refine cv_if_neB C (pc' := 22) rfl (tgt := 24) (D 10 (19, .ifCond .ne 5, 3) rfl) (by decide) (fun b19 => ?_) (fun b19 => ?_)
    · skip
      refine cv_iload_n C (pc' := 25) rfl (D 13 (24, .iload_n 3, 1) rfl) rfl (j := 3) rfl ?_
      refine cv_callS C (pc' := 28) rfl (As := [.int z]) (rest := []) (idx := 47) (np := 1) (kX6_isLane z (cv_u σ 0 5 (nI 0))) (by decide +kernel) rfl wmX6_47 wt_yX6_isLane wn_X6 wc_yX6_isLane (by decide) (by decide) (D 14 (25, .invokestatic 47, 3) rfl) (Nat.le_of_ble_eq_true rfl) rfl (fun w9 u9 h9 => ?_)
      rw [h9.1, h9.2]
      show cv_At X _ _ (cv_u σ 0 5 (nI 0)) 28 _ [.int (cv_b (cv_in z 3))]
      refine cv_if_eqB C (pc' := 31) rfl (tgt := 50) (D 15 (28, .ifCond .eq 22, 3) rfl) (by decide) (fun b28 => ?_) (fun b28 => ?_)
      · skip
        refine cv_bipush C (pc' := 52) rfl (D 24 (50, .bipush (-2), 2) rfl) (v := -2) (by decide) ?_
        exact cv_iret C Rt rfl (D 25 (52, .ireturn, 1) rfl) ⟨congrArg (fun z => some (Value.int z)) (by unfold cv_a_way; rw [if_pos b9, if_pos b19, if_neg (by simp [b28])]), by unfold cv_f_way; rw [if_neg (by simp [b28])]; exact cv_RC_f _ hR⟩
      · skip
        refine cv_iload C (pc' := 33) rfl (D 16 (31, .iload 5, 2) rfl) (j := 5) rfl ?_
        refine cv_bipush C (pc' := 35) rfl (D 17 (33, .bipush 21, 2) rfl) (v := nI 21) (by decide) ?_
        refine cv_callS C (pc' := 38) rfl (As := [.int t, .int (nI 21)]) (rest := []) (idx := 111) (np := 2) (kX6_isBelow t 21 (cv_u σ 0 5 (nI 0))) (by decide +kernel) rfl wmX6_111 wt_yX6_isBelow wn_X6 wc_yX6_isBelow (by decide) (by decide) (D 18 (35, .invokestatic 111, 3) rfl) (Nat.le_of_ble_eq_true rfl) rfl (fun w9 u9 h9 => ?_)
        rw [h9.1, h9.2]
        show cv_At X _ _ (cv_u σ 0 5 (nI 0)) 38 _ [.int (cv_b (cv_in t 21))]
        refine cv_if_eqB C (pc' := 41) rfl (tgt := 50) (D 19 (38, .ifCond .eq 12, 3) rfl) (by decide) (fun b38 => ?_) (fun b38 => ?_)
        · skip
          refine cv_bipush C (pc' := 52) rfl (D 24 (50, .bipush (-2), 2) rfl) (v := -2) (by decide) ?_
          exact cv_iret C Rt rfl (D 25 (52, .ireturn, 1) rfl) ⟨congrArg (fun z => some (Value.int z)) (by unfold cv_a_way; rw [if_pos b9, if_pos b19, if_neg (by simp [b38])]), by unfold cv_f_way; rw [if_neg (by simp [b38])]; exact cv_RC_f _ hR⟩
        · skip
          refine cv_iload C (pc' := 43) rfl (D 20 (41, .iload 6, 2) rfl) (j := 6) rfl ?_
          refine cv_iconst C (pc' := 44) rfl (D 21 (43, .iconst 5, 1) rfl) (v := nI 5) (by decide) ?_
          refine cv_callS C (pc' := 47) rfl (As := [.int v0, .int (nI 5)]) (rest := []) (idx := 111) (np := 2) (kX6_isBelow v0 5 (cv_u σ 0 5 (nI 0))) (by decide +kernel) rfl wmX6_111 wt_yX6_isBelow wn_X6 wc_yX6_isBelow (by decide) (by decide) (D 22 (44, .invokestatic 111, 3) rfl) (Nat.le_of_ble_eq_true rfl) rfl (fun w9 u9 h9 => ?_)
          rw [h9.1, h9.2]
          show cv_At X _ _ (cv_u σ 0 5 (nI 0)) 47 _ [.int (cv_b (cv_in v0 5))]
          refine cv_if_neB C (pc' := 50) rfl (tgt := 53) (D 23 (47, .ifCond .ne 6, 3) rfl) (by decide) (fun b47 => ?_) (fun b47 => ?_)
          · skip
            obtain ⟨j, hj, rfl⟩ := cv_in_of b9 (by omega)
            obtain ⟨k, hk, rfl⟩ := cv_in_of b19 (by omega)
            have hfb := cv_fo_le (sl k) z w t
            refine cv_aload_n C (pc' := 54) rfl (D 26 (53, .aload_n 0, 1) rfl) rfl (j := 0) rfl ?_
            refine cv_get C (pc' := 57) rfl (k0 := 0) (i := 0) (ci := 6) (by decide) rfl rfl (by decide) (o := some 1) rfl iw_X6 wfX6_13 (D 27 (54, .getfield 13, 3) rfl) rfl ?_
            refine cv_iload_n C (pc' := 58) rfl (D 28 (57, .iload_n 2, 1) rfl) rfl (j := 2) rfl ?_
            refine cv_aald C (pc' := 59) rfl (k0 := 1) (j := k) (r := 2 + k) (by decide) rfl rfl rfl (cv_ix_s hk) (by decide) (D 29 (58, .aaload, 1) rfl) ?_
            refine cv_iload_n C (pc' := 60) rfl (D 30 (59, .iload_n 3, 1) rfl) rfl (j := 3) rfl ?_
            refine cv_iload C (pc' := 62) rfl (D 31 (60, .iload 4, 2) rfl) (j := 4) rfl ?_
            refine cv_iload C (pc' := 64) rfl (D 32 (62, .iload 5, 2) rfl) (j := 5) rfl ?_
            refine cv_callV C (pc' := 67) rfl (k0 := 2 + k) (ci := 3) (As := [.int z, .int w, .int t]) (rest := []) (idx := 50) (np := 3) (kX3_faultOf k (sl k) z w t (cv_u σ 0 5 (nI 0)) hk (by rw [cv_u_0k (by omega)]; exact (hSh k hk).1)) (cv_lt_s hk) (cv_shC_s hk) rfl rfl (by decide +kernel) rfl wmX6_50 wi_yX3_faultOf ws_yX3_faultOf wn_X3 wc_yX3_faultOf (by decide) (by decide) (D 33 (64, .invokevirtual 50, 3) rfl) (Nat.le_of_ble_eq_true rfl) rfl (fun w9 u9 h9 => ?_)
            rw [h9.1, h9.2]
            show cv_At X _ _ (cv_u σ 0 5 (nI 0)) 67 _ [.int (nI (cv_fo (sl k) z w t))]
            refine cv_istore C (pc' := 69) rfl (D 34 (67, .istore 7, 2) rfl) (by decide) (lv' := [(7, .int (nI (cv_fo (sl k) z w t))), (0, .ref 0), (1, .int (nI j)), (2, .int (nI k)), (3, .int z), (4, .int w), (5, .int t), (6, .int v0)]) rfl ?_
            refine cv_iload C (pc' := 71) rfl (D 35 (69, .iload 7, 2) rfl) (j := 0) rfl ?_
            refine cv_if_eqN C (pc' := 74) rfl (by omega) (tgt := 81) (D 36 (71, .ifCond .eq 10, 3) rfl) (by decide) (fun b71 => ?_) (fun b71 => ?_)
            · skip
              refine cv_aload_n C (pc' := 82) rfl (D 41 (81, .aload_n 0, 1) rfl) rfl (j := 1) rfl ?_
              refine cv_get C (pc' := 85) rfl (k0 := 0) (i := 1) (ci := 6) (by decide) rfl rfl (by decide) (o := some 10) rfl iw_X6 wfX6_21 (D 42 (82, .getfield 21, 3) rfl) rfl ?_
              refine cv_get C (pc' := 88) rfl (k0 := 10) (i := 5) (ci := 0) (by decide) rfl rfl (by decide) (o := none) rfl iw_X0 wfX6_115 (D 43 (85, .getfield 115, 3) rfl) (v := .int (cv_b (decide (0 < L 7 0)))) (congrArg Value.int ((congrFun (cv_u_c (by omega)) _).trans hSe)) ?_
              refine cv_if_neB C (pc' := 91) rfl (tgt := 94) (D 44 (88, .ifCond .ne 6, 3) rfl) (by decide) (fun b88 => ?_) (fun b88 => ?_)
              · skip
                obtain ⟨q0, hq0, -, hyh⟩ := cv_fo_0 b71
                have hS1 := (hSh k hk).1
                rw [hq0] at hS1
                obtain ⟨i, n, ei, en, hin⟩ := cv_hs_of hS1.2.2.2 hyh
                have h60 := hS1.2.2.2
                subst ei
                subst en
                obtain ⟨m, hm, rfl⟩ := cv_in_of b47 (by decide)
                have hSc := (hSh k hk).2 (by rw [hq0]; rfl)
                have hLz : cv_LC L (cv_u σ 0 5 (nI 0)) := cv_LC_0 hL hB
                refine cv_aload_n C (pc' := 95) rfl (D 47 (94, .aload_n 0, 1) rfl) rfl (j := 1) rfl ?_
                refine cv_aload_n C (pc' := 96) rfl (D 48 (95, .aload_n 0, 1) rfl) rfl (j := 1) rfl ?_
                refine cv_get C (pc' := 99) rfl (k0 := 0) (i := 0) (ci := 6) (by decide) rfl rfl (by decide) (o := some 1) rfl iw_X6 wfX6_13 (D 49 (96, .getfield 13, 3) rfl) rfl ?_
                refine cv_iload_n C (pc' := 100) rfl (D 50 (99, .iload_n 2, 1) rfl) rfl (j := 3) rfl ?_
                refine cv_aald C (pc' := 101) rfl (k0 := 1) (j := k) (r := 2 + k) (by decide) rfl rfl rfl (cv_ix_s hk) (by decide) (D 51 (100, .aaload, 1) rfl) ?_
                refine cv_get C (pc' := 104) rfl (k0 := 2 + k) (i := 0) (ci := 3) (cv_lt_s hk) (cv_shC_s hk) rfl (by decide) (o := some (6 + k)) rfl iw_X3 wfX6_60 (D 52 (101, .getfield 60, 3) rfl) rfl ?_
                refine cv_iload C (pc' := 106) rfl (D 53 (104, .iload 4, 2) rfl) (j := 5) rfl ?_
                refine cv_iload C (pc' := 108) rfl (D 54 (106, .iload 5, 2) rfl) (j := 6) rfl ?_
                refine cv_callV C (pc' := 111) rfl (k0 := 0) (ci := 6) (As := [.ref (6 + k), .int (nI i), .int (nI n)]) (rest := []) (idx := 141) (np := 3) (kX6_refusalOfSteps L (sc k) k i n (cv_u σ 0 5 (nI 0)) hLz hB hk (by omega) (fun q hq => by rw [cv_u_0k (by omega)]; exact hSc q hq)) (by decide) rfl rfl rfl (by decide +kernel) rfl wmX6_141 wi_yX6_refusalOfSteps ws_yX6_refusalOfSteps wn_X6 wc_yX6_refusalOfSteps (by decide) (by decide) (D 55 (108, .invokevirtual 141, 3) rfl) (Nat.le_of_ble_eq_true rfl) rfl (fun w9 u9 h9 => ?_)
                rw [h9.1, h9.2]
                show cv_At X _ _ (cv_u σ 0 5 (nI 0)) 111 _ [.int (cv_rs L (sc k) i n)]
                refine cv_istore C (pc' := 113) rfl (D 56 (111, .istore 8, 2) rfl) (by decide) (lv' := [(8, .int (cv_rs L (sc k) i n)), (7, .int (nI (cv_fo (sl k) z (nI i) (nI n)))), (0, .ref 0), (1, .int (nI j)), (2, .int (nI k)), (3, .int z), (4, .int (nI i)), (5, .int (nI n)), (6, .int (nI m))]) rfl ?_
                refine cv_iload C (pc' := 115) rfl (D 57 (113, .iload 8, 2) rfl) (j := 0) rfl ?_
                refine cv_if_eq C (pc' := 118) rfl (tgt := 121) (D 58 (115, .ifCond .eq 6, 3) rfl) (by decide) (fun b115 => ?_) (fun b115 => ?_)
                · skip
                  refine cv_aload_n C (pc' := 122) rfl (D 61 (121, .aload_n 0, 1) rfl) rfl (j := 2) rfl ?_
                  refine cv_get C (pc' := 125) rfl (k0 := 0) (i := 2) (ci := 6) (by decide) rfl rfl (by decide) (o := some 22) rfl iw_X6 wfX6_28 (D 62 (122, .getfield 28, 3) rfl) rfl ?_
                  refine cv_iload_n C (pc' := 126) rfl (D 63 (125, .iload_n 1, 1) rfl) rfl (j := 3) rfl ?_
                  refine cv_callV C (pc' := 129) rfl (k0 := 22) (ci := 5) (As := [.int (nI j)]) (rest := []) (idx := 145) (np := 1) (kX5_begin j (cv_u σ 0 5 (nI 0))) (by decide) rfl rfl rfl (by decide +kernel) rfl wmX6_145 wi_yX5_begin ws_yX5_begin wn_X5 wc_yX5_begin (by decide) (by decide) (D 64 (126, .invokevirtual 145, 3) rfl) (Nat.le_of_ble_eq_true rfl) rfl (fun w126 u126 h126 => ?_)
                  obtain ⟨r1, r2, r3⟩ := h126
                  rw [r1]
                  have hLu : cv_LC L u126 := cv_LC_k (fun q _ _ h => r2 q h) hLz hB
                  show cv_At X _ _ u126 129 _ []
                  refine cv_aload_n C (pc' := 130) rfl (D 65 (129, .aload_n 0, 1) rfl) rfl (j := 2) rfl ?_
                  refine cv_aload_n C (pc' := 131) rfl (D 66 (130, .aload_n 0, 1) rfl) rfl (j := 2) rfl ?_
                  refine cv_aload_n C (pc' := 132) rfl (D 67 (131, .aload_n 0, 1) rfl) rfl (j := 2) rfl ?_
                  refine cv_get C (pc' := 135) rfl (k0 := 0) (i := 0) (ci := 6) (by decide) rfl rfl (by decide) (o := some 1) rfl iw_X6 wfX6_13 (D 68 (132, .getfield 13, 3) rfl) rfl ?_
                  refine cv_iload_n C (pc' := 136) rfl (D 69 (135, .iload_n 2, 1) rfl) rfl (j := 4) rfl ?_
                  refine cv_aald C (pc' := 137) rfl (k0 := 1) (j := k) (r := 2 + k) (by decide) rfl rfl rfl (cv_ix_s hk) (by decide) (D 70 (136, .aaload, 1) rfl) ?_
                  refine cv_get C (pc' := 140) rfl (k0 := 2 + k) (i := 0) (ci := 3) (cv_lt_s hk) (cv_shC_s hk) rfl (by decide) (o := some (6 + k)) rfl iw_X3 wfX6_60 (D 71 (137, .getfield 60, 3) rfl) rfl ?_
                  refine cv_iload C (pc' := 142) rfl (D 72 (140, .iload 4, 2) rfl) (j := 6) rfl ?_
                  refine cv_iload C (pc' := 144) rfl (D 73 (142, .iload 5, 2) rfl) (j := 7) rfl ?_
                  refine cv_callV C (pc' := 147) rfl (k0 := 0) (ci := 6) (As := [.ref (6 + k), .int (nI i), .int (nI n)]) (rest := [.ref 0]) (idx := 148) (np := 3) (kX6_firstWrong L (sc k) k i n j u126 hLu hB hk (by omega) (by omega) (fun q hq => by rw [r2 _ (by omega), cv_u_0k (by omega)]; exact hSc q hq) (cv_rs_0 b115) r3) (by decide) rfl rfl rfl (by decide +kernel) rfl wmX6_148 wi_yX6_firstWrong ws_yX6_firstWrong wn_X6 wc_yX6_firstWrong (by decide) (by decide) (D 74 (144, .invokevirtual 148, 3) rfl) (Nat.le_of_ble_eq_true rfl) rfl (fun w144 u144 h144 => ?_)
                  obtain ⟨e1, e2, e3⟩ := h144
                  rw [e1]
                  show cv_At X _ _ u144 147 _ [.int (cv_o (cv_wr L (sc k) i j n)), .ref 0]
                  refine cv_iload C (pc' := 149) rfl (D 75 (147, .iload 6, 2) rfl) (j := 8) rfl ?_
                  refine cv_callV C (pc' := 152) rfl (k0 := 0) (ci := 6) (As := [.int (cv_o (cv_wr L (sc k) i j n)), .int (nI m)]) (rest := []) (idx := 151) (np := 2) (kX6_ofWay (cv_wr L (sc k) i j n) ((cv_ru L (sc k) i j n).getD (0, 0, 0, 0)) m u144 (fun z h => Nat.lt_trans (cv_wr_lt h) (by omega)) (by omega) (fun h => by obtain ⟨q9, hq9, hW9⟩ := e3 h; rw [hq9]; exact hW9)) (by decide) rfl rfl rfl (by decide +kernel) rfl wmX6_151 wi_yX6_ofWay ws_yX6_ofWay wn_X6 wc_yX6_ofWay (by decide) (by decide) (D 76 (149, .invokevirtual 151, 3) rfl) (Nat.le_of_ble_eq_true rfl) rfl (fun w9 u9 h9 => ?_)
                  rw [h9.1, h9.2]
                  show cv_At X _ _ u144 152 _ [.int (cv_ow (cv_wr L (sc k) i j n) ((cv_ru L (sc k) i j n).getD (0, 0, 0, 0)) m)]
                  exact cv_iret C Rt rfl (D 77 (152, .ireturn, 1) rfl) ⟨congrArg (fun z => some (Value.int z)) (by unfold cv_a_way; rw [if_pos b9, if_pos b19, if_pos ⟨b28, b38, b47⟩]; simp only [cv_nt, nI_clamp (show k < 2 ^ 31 by omega), nI_clamp (show i < 2 ^ 31 by omega), nI_clamp (show n < 2 ^ 31 by omega), nI_clamp (show j < 2 ^ 31 by omega), nI_clamp (show m < 2 ^ 31 by omega)]; rw [if_pos b71, if_pos (by simpa using b88), if_pos b115]), by unfold cv_f_way; rw [if_pos ⟨b9, b19, b28, b38, b47⟩]; simp only [cv_nt, nI_clamp (show k < 2 ^ 31 by omega)]; rw [b71]; exact cv_RC_k (fun q _ _ h => (e2 q h).trans (r2 q h)) hB (cv_RC_f 0 hR)⟩
                · skip
                  refine cv_iload C (pc' := 120) rfl (D 59 (118, .iload 8, 2) rfl) (j := 0) rfl ?_
                  exact cv_iret C Rt rfl (D 60 (120, .ireturn, 1) rfl) ⟨congrArg (fun z => some (Value.int z)) (by unfold cv_a_way; rw [if_pos b9, if_pos b19, if_pos ⟨b28, b38, b47⟩]; simp only [cv_nt, nI_clamp (show k < 2 ^ 31 by omega), nI_clamp (show i < 2 ^ 31 by omega), nI_clamp (show n < 2 ^ 31 by omega)]; rw [if_pos b71, if_pos (by simpa using b88), if_neg (by rw [← nI_0]; exact b115)]), by unfold cv_f_way; rw [if_pos ⟨b9, b19, b28, b38, b47⟩]; simp only [cv_nt, nI_clamp (show k < 2 ^ 31 by omega)]; rw [b71]; exact cv_RC_f _ hR⟩
              · skip
                refine cv_bipush C (pc' := 93) rfl (D 45 (91, .bipush (-3), 2) rfl) (v := -3) (by decide) ?_
                exact cv_iret C Rt rfl (D 46 (93, .ireturn, 1) rfl) ⟨congrArg (fun z => some (Value.int z)) (by unfold cv_a_way; rw [if_pos b9, if_pos b19, if_pos ⟨b28, b38, b47⟩]; simp only [cv_nt, nI_clamp (show k < 2 ^ 31 by omega)]; rw [if_pos b71, if_neg (by simpa using b88)]), by unfold cv_f_way; rw [if_pos ⟨b9, b19, b28, b38, b47⟩]; simp only [cv_nt, nI_clamp (show k < 2 ^ 31 by omega)]; rw [b71]; exact cv_RC_f _ hR⟩
            · skip
              refine cv_aload_n C (pc' := 75) rfl (D 37 (74, .aload_n 0, 1) rfl) rfl (j := 1) rfl ?_
              refine cv_iload C (pc' := 77) rfl (D 38 (75, .iload 7, 2) rfl) (j := 0) rfl ?_
              refine cv_callV C (pc' := 80) rfl (k0 := 0) (ci := 6) (As := [.int (nI (cv_fo (sl k) z w t))]) (rest := []) (idx := 54) (np := 1) (kX6_failed (cv_fo (sl k) z w t) (cv_u σ 0 5 (nI 0))) (by decide) rfl rfl rfl (by decide +kernel) rfl wmX6_54 wi_yX6_failed ws_yX6_failed wn_X6 wc_yX6_failed (by decide) (by decide) (D 39 (77, .invokevirtual 54, 3) rfl) (Nat.le_of_ble_eq_true rfl) rfl (fun w77 u77 h77 => ?_)
              rw [h77.1, h77.2, cv_uu]
              show cv_At X _ _ (cv_u σ 0 5 (nI (cv_fo (sl k) z w t))) 80 _ [.int (-10 - nI (cv_fo (sl k) z w t))]
              exact cv_iret C Rt rfl (D 40 (80, .ireturn, 1) rfl) ⟨congrArg (fun z => some (Value.int z)) (by unfold cv_a_way; rw [if_pos b9, if_pos b19, if_pos ⟨b28, b38, b47⟩]; simp only [cv_nt, nI_clamp (show k < 2 ^ 31 by omega)]; rw [if_neg (by omega)]), by unfold cv_f_way; rw [if_pos ⟨b9, b19, b28, b38, b47⟩]; simp only [cv_nt, nI_clamp (show k < 2 ^ 31 by omega)]; exact cv_RC_f _ hR⟩
          · skip
            refine cv_bipush C (pc' := 52) rfl (D 24 (50, .bipush (-2), 2) rfl) (v := -2) (by decide) ?_
            exact cv_iret C Rt rfl (D 25 (52, .ireturn, 1) rfl) ⟨congrArg (fun z => some (Value.int z)) (by unfold cv_a_way; rw [if_pos b9, if_pos b19, if_neg (by simp [b47])]), by unfold cv_f_way; rw [if_neg (by simp [b47])]; exact cv_RC_f _ hR⟩
    · skip
      refine cv_iconst C (pc' := 23) rfl (D 11 (22, .iconst (-1), 1) rfl) (v := -1) (by decide) ?_
      exact cv_iret C Rt rfl (D 12 (23, .ireturn, 1) rfl) ⟨congrArg (fun z => some (Value.int z)) (by unfold cv_a_way; rw [if_pos b9, if_neg (by simp [b19])]), by unfold cv_f_way; rw [if_neg (by simp [b19])]; exact cv_RC_f _ hR⟩
  · skip
    refine cv_bipush C (pc' := 14) rfl (D 6 (12, .bipush (-2), 2) rfl) (v := -2) (by decide) ?_
    exact cv_iret C Rt rfl (D 7 (14, .ireturn, 1) rfl) ⟨congrArg (fun z => some (Value.int z)) (by unfold cv_a_way; rw [if_neg (by simp [b9])]), by unfold cv_f_way; rw [if_neg (by simp [b9])]; exact cv_RC_f _ hR⟩
end
section
/-! ===== texts ===== -/
/-- a code is a digit lo .. hi -/
def cv_dg (c : Int32) (lo hi : Nat) : Bool := decide (nI lo ≤ c - nI 48 ∧ c - nI 48 ≤ nI hi)
theorem cv_dg_of {c : Int32} {lo hi : Nat} (hh : hi ≤ 9) (h : cv_dg c lo hi = true) (hl : lo ≤ 9) : ∃ e, lo ≤ e ∧ e ≤ hi ∧ c - nI 48 = nI e := by
  obtain ⟨h1, h2⟩ := of_decide_eq_true h
  have h3 : ¬ c - nI 48 < 0 := fun e => by
    have h4 : nI lo < 0 := Int32.lt_of_le_of_lt h1 e
    exact nI_pos (by omega) h4
  obtain ⟨e, he, q⟩ := nI_of h3
  rw [q] at h1 h2
  exact ⟨e, (nI_leI (by omega) he).mp h1, (nI_leI he (by omega)).mp h2, q⟩
def cv_kd (c : Int32) : Option Nat := if c = nI 112 then some 0 else if c = nI 115 then some 1 else if c = nI 116 then some 2 else none
def cv_gg (g : Nat → Int32) (p q : Nat) : Bool := if q = 0 then decide (g p = nI 59) else if q = 1 then cv_dg (g p) 0 2 else if q = 2 then cv_dg (g p) 0 (if g (p - 1) - nI 48 = nI 2 then 5 else 9) else cv_dg (g p) 0 (if g (p - 2) - nI 48 = nI 2 ∧ g (p - 1) - nI 48 = nI 5 then 5 else 9)
def cv_pg (g : Nat → Int32) (p q : Nat) : Bool := if q = 0 then decide (g p = nI 44) else if q = 1 then (cv_kd (g p)).isSome else if q = 2 then cv_dg (g p) 0 2 else if q = 3 then cv_dg (g p) 0 2 && decide (¬ g p = g (p - 1)) else if q = 4 then cv_dg (g p) 1 3 else cv_dg (g p) 0 9
/-- the text goes on at place p -/
def cv_go (g : Nat → Int32) (p : Nat) : Bool := if p = 0 then decide (g p = nI 118) else if p < 9 then cv_dg (g p) 0 9 else if p < 21 then cv_gg g p ((p - 9) % 4) else decide (p < 57) && cv_pg g p ((p - 21) % 6)
/-- the first fault: none, if it is whole -/
def cv_ff (g : Nat → Int32) (n : Nat) : Option Nat := match (List.range n).find? (fun p => !cv_go g p) with
  | some p => some p
  | none => if 21 < n ∧ (n - 21) % 6 = 0 then none else some n
theorem cv_ff_some {g : Nat → Int32} {n k : Nat} (hk : k < n) (h : cv_go g k = false) (h0 : ∀ i, i < k → cv_go g i = true) : cv_ff g n = some k := by
  unfold cv_ff
  have : (List.range n).find? (fun p => !cv_go g p) = some k := by
    rw [List.find?_range_eq_some]
    exact ⟨by simp [h], List.mem_range.mpr hk, fun j hj => by simp [h0 j hj]⟩
  rw [this]
theorem cv_ff_all {g : Nat → Int32} {n : Nat} (h0 : ∀ i, i < n → cv_go g i = true) : cv_ff g n = if 21 < n ∧ (n - 21) % 6 = 0 then none else some n := by
  unfold cv_ff
  have : (List.range n).find? (fun p => !cv_go g p) = none := by
    rw [List.find?_eq_none]
    intro x hx
    simp [h0 x (List.mem_range.mp hx)]
  rw [this]
theorem cv_ff_lt {g : Nat → Int32} {n z : Nat} (h : cv_ff g n = some z) : z ≤ n := by
  unfold cv_ff at h
  split at h
  · rename_i p hp
    cases h
    exact Nat.le_of_lt (List.mem_range.mp (List.mem_of_find?_eq_some hp))
  · split at h
    · cases h
    · cases h; exact Nat.le_refl _
theorem cv_ff_none {g : Nat → Int32} {n : Nat} (h : cv_ff g n = none) : (∀ i, i < n → cv_go g i = true) ∧ 21 < n ∧ (n - 21) % 6 = 0 := by
  unfold cv_ff at h
  split at h
  · cases h
  · rename_i hp
    rw [List.find?_eq_none] at hp
    split at h
    · rename_i hc
      exact ⟨fun i hi => by simpa using hp i (List.mem_range.mpr hi), hc⟩
    · cases h
abbrev cv_dt (g : Nat → Int32) (p : Nat) : Nat := (g p - nI 48).toNatClampNeg
/-- the land of a text -/
def cv_tl (g : Nat → Int32) (n : Nat) : cv_L := fun k i => match k with
  | 0 => (cv_kd (g (21 + 6 * i + 1))).getD 0
  | 1 => cv_dt g (21 + 6 * i + 2)
  | 2 => cv_dt g (21 + 6 * i + 3)
  | 3 => cv_dt g (21 + 6 * i + 4)
  | 4 => cv_dt g (21 + 6 * i + 5)
  | 5 => cv_dt g (1 + i)
  | 6 => cv_dt g (9 + 4 * i + 1) * 100 + cv_dt g (9 + 4 * i + 2) * 10 + cv_dt g (9 + 4 * i + 3)
  | _ => (n - 21) / 6
/-- what a whole text's places hold -/
theorem cv_dt_of {g : Nat → Int32} {p lo hi : Nat} (hh : hi ≤ 9) (hl : lo ≤ 9) (h : cv_dg (g p) lo hi = true) : g p - nI 48 = nI (cv_dt g p) ∧ lo ≤ cv_dt g p ∧ cv_dt g p ≤ hi := by
  obtain ⟨e, h1, h2, h3⟩ := cv_dg_of hh h hl
  have : cv_dt g p = e := by rw [cv_dt, h3, nI_clamp (by omega)]
  rw [this]
  exact ⟨h3, h1, h2⟩
theorem cv_w_snow {g : Nat → Int32} {n : Nat} (h : ∀ i, i < n → cv_go g i = true) (hn : 21 < n) {d : Nat} (hd : d < 8) : g (1 + d) - nI 48 = nI (cv_tl g n 5 d) ∧ cv_tl g n 5 d ≤ 9 := by
  have h1 := h (1 + d) (by omega)
  unfold cv_go at h1
  rw [if_neg (by omega), if_pos (by omega)] at h1
  have := cv_dt_of (by decide) (by decide) h1
  exact ⟨this.1, this.2.2⟩
theorem cv_gg_of {g : Nat → Int32} {n : Nat} (h : ∀ i, i < n → cv_go g i = true) (hn : 21 < n) {v : Nat} (hv : v < 3) {q : Nat} (hq : q < 4) : cv_gg g (9 + 4 * v + q) q = true := by
  have h1 := h (9 + 4 * v + q) (by omega)
  unfold cv_go at h1
  rw [if_neg (by omega), if_neg (by omega), if_pos (by omega), show (9 + 4 * v + q - 9) % 4 = q by omega] at h1
  exact h1
theorem cv_w_give {g : Nat → Int32} {n : Nat} (h : ∀ i, i < n → cv_go g i = true) (hn : 21 < n) {v : Nat} (hv : v < 3) : (g (9 + 4 * v + 1) - nI 48 = nI (cv_dt g (9 + 4 * v + 1)) ∧ g (9 + 4 * v + 2) - nI 48 = nI (cv_dt g (9 + 4 * v + 2)) ∧ g (9 + 4 * v + 3) - nI 48 = nI (cv_dt g (9 + 4 * v + 3))) ∧ cv_tl g n 6 v < 256 := by
  have h1 := cv_gg_of h hn hv (q := 1) (by decide)
  have h2 := cv_gg_of h hn hv (q := 2) (by decide)
  have h3 := cv_gg_of h hn hv (q := 3) (by decide)
  unfold cv_gg at h1 h2 h3
  rw [if_neg (by decide), if_pos rfl] at h1
  rw [if_neg (by decide), if_neg (by decide), if_pos rfl, show 9 + 4 * v + 2 - 1 = 9 + 4 * v + 1 by omega] at h2
  rw [if_neg (by decide), if_neg (by decide), if_neg (by decide), show 9 + 4 * v + 3 - 2 = 9 + 4 * v + 1 by omega, show 9 + 4 * v + 3 - 1 = 9 + 4 * v + 2 by omega] at h3
  obtain ⟨a1, a2, a3⟩ := cv_dt_of (by decide) (by decide) h1
  have hb2 : (if g (9 + 4 * v + 1) - nI 48 = nI 2 then 5 else 9) ≤ 9 := by split <;> decide
  obtain ⟨b1, b2, b3⟩ := cv_dt_of hb2 (by decide) h2
  have hb3 : (if g (9 + 4 * v + 1) - nI 48 = nI 2 ∧ g (9 + 4 * v + 2) - nI 48 = nI 5 then 5 else 9) ≤ 9 := by split <;> decide
  obtain ⟨c1, c2, c3⟩ := cv_dt_of hb3 (by decide) h3
  refine ⟨⟨a1, b1, c1⟩, ?_⟩
  show cv_dt g (9 + 4 * v + 1) * 100 + cv_dt g (9 + 4 * v + 2) * 10 + cv_dt g (9 + 4 * v + 3) < 256
  rw [a1] at b3 c3
  rw [b1] at c3
  by_cases e : cv_dt g (9 + 4 * v + 1) = 2
  · rw [e] at b3 c3 ⊢
    rw [if_pos rfl] at b3
    by_cases e2 : cv_dt g (9 + 4 * v + 2) = 5
    · rw [e2] at c3 ⊢
      rw [if_pos ⟨rfl, rfl⟩] at c3
      omega
    · have : cv_dt g (9 + 4 * v + 3) ≤ 9 := Nat.le_trans c3 (by split <;> decide)
      omega
  · have h9 : cv_dt g (9 + 4 * v + 2) ≤ 9 := Nat.le_trans b3 (by split <;> decide)
    have h8 : cv_dt g (9 + 4 * v + 3) ≤ 9 := Nat.le_trans c3 (by split <;> decide)
    omega
theorem cv_pg_of {g : Nat → Int32} {n : Nat} (h : ∀ i, i < n → cv_go g i = true) {p q : Nat} (hp : p < (n - 21) / 6) (hq : q < 6) : cv_pg g (21 + 6 * p + q) q = true ∧ 21 + 6 * p + q < 57 := by
  have h1 := h (21 + 6 * p + q) (by omega)
  unfold cv_go at h1
  rw [if_neg (by omega), if_neg (by omega), if_neg (by omega), show (21 + 6 * p + q - 21) % 6 = q by omega, Bool.and_eq_true, decide_eq_true_eq] at h1
  exact ⟨h1.2, h1.1⟩
theorem cv_w_pass {g : Nat → Int32} {n : Nat} (h : ∀ i, i < n → cv_go g i = true) {p : Nat} (hp : p < (n - 21) / 6) : (∃ k, cv_kd (g (21 + 6 * p + 1)) = some k ∧ k ≤ 2 ∧ cv_tl g n 0 p = k) ∧ (∀ i, 1 ≤ i → i < 5 → g (21 + 6 * p + 1 + i) - nI 48 = nI (cv_tl g n i p)) ∧ cv_tl g n 1 p ≤ 2 ∧ cv_tl g n 2 p ≤ 2 ∧ (1 ≤ cv_tl g n 3 p ∧ cv_tl g n 3 p ≤ 3) ∧ cv_tl g n 4 p ≤ 9 := by
  have h1 := (cv_pg_of h hp (q := 1) (by decide)).1
  have h2 := (cv_pg_of h hp (q := 2) (by decide)).1
  have h3 := (cv_pg_of h hp (q := 3) (by decide)).1
  have h4 := (cv_pg_of h hp (q := 4) (by decide)).1
  have h5 := (cv_pg_of h hp (q := 5) (by decide)).1
  unfold cv_pg at h1 h2 h3 h4 h5
  rw [if_neg (by decide), if_pos rfl] at h1
  rw [if_neg (by decide), if_neg (by decide), if_pos rfl] at h2
  rw [if_neg (by decide), if_neg (by decide), if_neg (by decide), if_pos rfl, Bool.and_eq_true] at h3
  rw [if_neg (by decide), if_neg (by decide), if_neg (by decide), if_neg (by decide), if_pos rfl] at h4
  rw [if_neg (by decide), if_neg (by decide), if_neg (by decide), if_neg (by decide), if_neg (by decide)] at h5
  obtain ⟨a1, a2, a3⟩ := cv_dt_of (by decide) (by decide) h2
  obtain ⟨b1, b2, b3⟩ := cv_dt_of (by decide) (by decide) h3.1
  obtain ⟨c1, c2, c3⟩ := cv_dt_of (by decide) (by decide) h4
  obtain ⟨d1, d2, d3⟩ := cv_dt_of (by decide) (by decide) h5
  refine ⟨?_, fun i hi1 hi5 => ?_, a3, b3, ⟨c2, c3⟩, d3⟩
  · obtain ⟨k, hk⟩ := Option.isSome_iff_exists.mp h1
    refine ⟨k, hk, ?_, ?_⟩
    · unfold cv_kd at hk
      split at hk
      · cases hk; decide
      · split at hk
        · cases hk; decide
        · split at hk
          · cases hk; decide
          · cases hk
    · show (cv_kd (g (21 + 6 * p + 1))).getD 0 = k
      rw [hk]; rfl
  · match i, hi1, hi5 with
    | 1, _, _ => exact a1
    | 2, _, _ => exact b1
    | 3, _, _ => exact c1
    | 4, _, _ => exact d1
theorem cv_tl_B {g : Nat → Int32} {n : Nat} (h : cv_ff g n = none) : cv_LB (cv_tl g n) ∧ 0 < cv_tl g n 7 0 := by
  obtain ⟨h0, h1, h2⟩ := cv_ff_none h
  have h6 : (n - 21) / 6 ≤ 6 := by
    rcases Nat.lt_or_ge 6 ((n - 21) / 6) with e | e
    · have := (cv_pg_of h0 (p := 6) (q := 0) e (by decide)).2
      omega
    · exact e
  refine ⟨⟨h6, fun p hp => ?_, fun d hd => (cv_w_snow h0 h1 hd).2, fun v hv => (cv_w_give h0 h1 hv).2⟩, ?_⟩
  · obtain ⟨⟨k, -, hk, ek⟩, -, h3⟩ := cv_w_pass h0 (p := p) hp
    exact ⟨by rw [ek]; exact hk, h3⟩
  · show 0 < (n - 21) / 6
    omega
end
