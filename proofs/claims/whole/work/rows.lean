section
-- ===== PART A: goes FIRST, ahead of the names: the tables' words, and 'selects' of the private methods out of them =====
/-- a private method of a class that the tables say can be made, by its rows of tables_1 -/
def lw_okq (q : MethodName × Nat) : Prop := (q.1.cls ≠ "java/lang/invoke/MethodHandle" ∧ q.1.cls ≠ "java/lang/invoke/VarHandle") ∧ Cond.instantiable q.1.cls q.2 ∈ tables_1 ∧ Cond.privateMethod q.1 ∈ tables_1 ∧ Cond.instanceMethod q.1 ∈ tables_1
theorem lw_p0 : lw_okq (⟨"SignedMill", "keep", "(IZ)Z"⟩, 7) := ⟨⟨by decide +kernel, by decide +kernel⟩, List.mem_of_getElem? (i := 12) (by decide +kernel), List.mem_of_getElem? (i := 149) (by decide +kernel), List.mem_of_getElem? (i := 150) (by decide +kernel)⟩
theorem lw_p1 : lw_okq (⟨"SignedMill", "settle", "(ILSignedMill$Whole;Z)V"⟩, 7) := ⟨⟨by decide +kernel, by decide +kernel⟩, List.mem_of_getElem? (i := 12) (by decide +kernel), List.mem_of_getElem? (i := 165) (by decide +kernel), List.mem_of_getElem? (i := 166) (by decide +kernel)⟩
theorem lw_p2 : lw_okq (⟨"SignedMill", "keepSum", "(IILSignedMill$Whole;Z)Z"⟩, 7) := ⟨⟨by decide +kernel, by decide +kernel⟩, List.mem_of_getElem? (i := 12) (by decide +kernel), List.mem_of_getElem? (i := 232) (by decide +kernel), List.mem_of_getElem? (i := 233) (by decide +kernel)⟩
theorem lw_p3 : lw_okq (⟨"SignedMill$Whole", "addMultiple", "(IJLSignedMill$Whole;)V"⟩, 2) := ⟨⟨by decide +kernel, by decide +kernel⟩, List.mem_of_getElem? (i := 21) (by decide +kernel), List.mem_of_getElem? (i := 268) (by decide +kernel), List.mem_of_getElem? (i := 269) (by decide +kernel)⟩
theorem lw_p4 : lw_okq (⟨"SignedMill$Divider", "takeOut", "(II)J"⟩, 3) := ⟨⟨by decide +kernel, by decide +kernel⟩, List.mem_of_getElem? (i := 42) (by decide +kernel), List.mem_of_getElem? (i := 288) (by decide +kernel), List.mem_of_getElem? (i := 289) (by decide +kernel)⟩
theorem lw_p5 : lw_okq (⟨"SignedMill$Divider", "guess", "(II)J"⟩, 3) := ⟨⟨by decide +kernel, by decide +kernel⟩, List.mem_of_getElem? (i := 42) (by decide +kernel), List.mem_of_getElem? (i := 292) (by decide +kernel), List.mem_of_getElem? (i := 293) (by decide +kernel)⟩
theorem lw_p6 : lw_okq (⟨"SignedMill$Divider", "subtract", "(IIJ)Z"⟩, 3) := ⟨⟨by decide +kernel, by decide +kernel⟩, List.mem_of_getElem? (i := 42) (by decide +kernel), List.mem_of_getElem? (i := 307) (by decide +kernel), List.mem_of_getElem? (i := 308) (by decide +kernel)⟩
theorem lw_p7 : lw_okq (⟨"SignedMill$Divider", "addBack", "(II)V"⟩, 3) := ⟨⟨by decide +kernel, by decide +kernel⟩, List.mem_of_getElem? (i := 42) (by decide +kernel), List.mem_of_getElem? (i := 311) (by decide +kernel), List.mem_of_getElem? (i := 312) (by decide +kernel)⟩
theorem lw_p8 : lw_okq (⟨"SignedMill", "endlessDigit", "(III)J"⟩, 7) := ⟨⟨by decide +kernel, by decide +kernel⟩, List.mem_of_getElem? (i := 12) (by decide +kernel), List.mem_of_getElem? (i := 330) (by decide +kernel), List.mem_of_getElem? (i := 331) (by decide +kernel)⟩
theorem lw_p9 : lw_okq (⟨"SignedMill", "shiftUp", "(III)Z"⟩, 7) := ⟨⟨by decide +kernel, by decide +kernel⟩, List.mem_of_getElem? (i := 12) (by decide +kernel), List.mem_of_getElem? (i := 353) (by decide +kernel), List.mem_of_getElem? (i := 354) (by decide +kernel)⟩
theorem lw_p10 : lw_okq (⟨"SignedMill", "shiftDown", "(III)Z"⟩, 7) := ⟨⟨by decide +kernel, by decide +kernel⟩, List.mem_of_getElem? (i := 12) (by decide +kernel), List.mem_of_getElem? (i := 359) (by decide +kernel), List.mem_of_getElem? (i := 360) (by decide +kernel)⟩
theorem lw_p11 : lw_okq (⟨"SignedMill", "findPower", "(LSignedMill$Whole;I)Z"⟩, 7) := ⟨⟨by decide +kernel, by decide +kernel⟩, List.mem_of_getElem? (i := 12) (by decide +kernel), List.mem_of_getElem? (i := 383) (by decide +kernel), List.mem_of_getElem? (i := 384) (by decide +kernel)⟩
theorem lw_p12 : lw_okq (⟨"SignedMill", "multiplyResult", "(LSignedMill$Whole;)Z"⟩, 7) := ⟨⟨by decide +kernel, by decide +kernel⟩, List.mem_of_getElem? (i := 12) (by decide +kernel), List.mem_of_getElem? (i := 389) (by decide +kernel), List.mem_of_getElem? (i := 390) (by decide +kernel)⟩
theorem lw_p13 : lw_okq (⟨"SignedMill$Euclid", "foresee", "()Z"⟩, 11) := ⟨⟨by decide +kernel, by decide +kernel⟩, List.mem_of_getElem? (i := 64) (by decide +kernel), List.mem_of_getElem? (i := 407) (by decide +kernel), List.mem_of_getElem? (i := 408) (by decide +kernel)⟩
theorem lw_p14 : lw_okq (⟨"SignedMill$Euclid", "turn", "(J)Z"⟩, 11) := ⟨⟨by decide +kernel, by decide +kernel⟩, List.mem_of_getElem? (i := 64) (by decide +kernel), List.mem_of_getElem? (i := 418) (by decide +kernel), List.mem_of_getElem? (i := 419) (by decide +kernel)⟩
theorem lw_p15 : lw_okq (⟨"SignedMill$Euclid", "leap", "(Z)V"⟩, 11) := ⟨⟨by decide +kernel, by decide +kernel⟩, List.mem_of_getElem? (i := 64) (by decide +kernel), List.mem_of_getElem? (i := 429) (by decide +kernel), List.mem_of_getElem? (i := 430) (by decide +kernel)⟩
def lw_privs_1 : List (MethodName × Nat) := [(⟨"SignedMill", "keep", "(IZ)Z"⟩, 7), (⟨"SignedMill", "settle", "(ILSignedMill$Whole;Z)V"⟩, 7), (⟨"SignedMill", "keepSum", "(IILSignedMill$Whole;Z)Z"⟩, 7), (⟨"SignedMill$Whole", "addMultiple", "(IJLSignedMill$Whole;)V"⟩, 2), (⟨"SignedMill$Divider", "takeOut", "(II)J"⟩, 3), (⟨"SignedMill$Divider", "guess", "(II)J"⟩, 3), (⟨"SignedMill$Divider", "subtract", "(IIJ)Z"⟩, 3), (⟨"SignedMill$Divider", "addBack", "(II)V"⟩, 3), (⟨"SignedMill", "endlessDigit", "(III)J"⟩, 7), (⟨"SignedMill", "shiftUp", "(III)Z"⟩, 7), (⟨"SignedMill", "shiftDown", "(III)Z"⟩, 7), (⟨"SignedMill", "findPower", "(LSignedMill$Whole;I)Z"⟩, 7), (⟨"SignedMill", "multiplyResult", "(LSignedMill$Whole;)Z"⟩, 7), (⟨"SignedMill$Euclid", "foresee", "()Z"⟩, 11), (⟨"SignedMill$Euclid", "turn", "(J)Z"⟩, 11), (⟨"SignedMill$Euclid", "leap", "(Z)V"⟩, 11)]
theorem lw_r1 : ∀ q ∈ lw_privs_1, lw_okq q := List.forall_mem_cons.mpr ⟨lw_p0, List.forall_mem_cons.mpr ⟨lw_p1, List.forall_mem_cons.mpr ⟨lw_p2, List.forall_mem_cons.mpr ⟨lw_p3, List.forall_mem_cons.mpr ⟨lw_p4, List.forall_mem_cons.mpr ⟨lw_p5, List.forall_mem_cons.mpr ⟨lw_p6, List.forall_mem_cons.mpr ⟨lw_p7, List.forall_mem_cons.mpr ⟨lw_p8, List.forall_mem_cons.mpr ⟨lw_p9, List.forall_mem_cons.mpr ⟨lw_p10, List.forall_mem_cons.mpr ⟨lw_p11, List.forall_mem_cons.mpr ⟨lw_p12, List.forall_mem_cons.mpr ⟨lw_p13, List.forall_mem_cons.mpr ⟨lw_p14, List.forall_mem_cons.mpr ⟨lw_p15, fun _ h => absurd h List.not_mem_nil⟩⟩⟩⟩⟩⟩⟩⟩⟩⟩⟩⟩⟩⟩⟩⟩
theorem lw_p16 : lw_okq (⟨"SignedMill$Euclid", "leapRemainders", "()V"⟩, 11) := ⟨⟨by decide +kernel, by decide +kernel⟩, List.mem_of_getElem? (i := 64) (by decide +kernel), List.mem_of_getElem? (i := 433) (by decide +kernel), List.mem_of_getElem? (i := 434) (by decide +kernel)⟩
theorem lw_p17 : lw_okq (⟨"SignedMill$Euclid", "leapFactors", "()V"⟩, 11) := ⟨⟨by decide +kernel, by decide +kernel⟩, List.mem_of_getElem? (i := 64) (by decide +kernel), List.mem_of_getElem? (i := 443) (by decide +kernel), List.mem_of_getElem? (i := 444) (by decide +kernel)⟩
theorem lw_p18 : lw_okq (⟨"SignedMill$Euclid", "step", "(Z)V"⟩, 11) := ⟨⟨by decide +kernel, by decide +kernel⟩, List.mem_of_getElem? (i := 64) (by decide +kernel), List.mem_of_getElem? (i := 448) (by decide +kernel), List.mem_of_getElem? (i := 449) (by decide +kernel)⟩
theorem lw_p19 : lw_okq (⟨"SignedMill", "isModulus", "(I)Z"⟩, 7) := ⟨⟨by decide +kernel, by decide +kernel⟩, List.mem_of_getElem? (i := 12) (by decide +kernel), List.mem_of_getElem? (i := 458) (by decide +kernel), List.mem_of_getElem? (i := 459) (by decide +kernel)⟩
theorem lw_p20 : lw_okq (⟨"SignedMill", "findInverse", "(II)Z"⟩, 7) := ⟨⟨by decide +kernel, by decide +kernel⟩, List.mem_of_getElem? (i := 12) (by decide +kernel), List.mem_of_getElem? (i := 462) (by decide +kernel), List.mem_of_getElem? (i := 463) (by decide +kernel)⟩
theorem lw_p21 : lw_okq (⟨"SignedMill", "reduce", "(II)V"⟩, 7) := ⟨⟨by decide +kernel, by decide +kernel⟩, List.mem_of_getElem? (i := 12) (by decide +kernel), List.mem_of_getElem? (i := 466) (by decide +kernel), List.mem_of_getElem? (i := 467) (by decide +kernel)⟩
theorem lw_p22 : lw_okq (⟨"SignedMill", "findPowerByModulus", "(LSignedMill$Whole;LSignedMill$Whole;)V"⟩, 7) := ⟨⟨by decide +kernel, by decide +kernel⟩, List.mem_of_getElem? (i := 12) (by decide +kernel), List.mem_of_getElem? (i := 475) (by decide +kernel), List.mem_of_getElem? (i := 476) (by decide +kernel)⟩
theorem lw_p23 : lw_okq (⟨"SignedMill", "multiplyByModulus", "(LSignedMill$Whole;LSignedMill$Whole;)V"⟩, 7) := ⟨⟨by decide +kernel, by decide +kernel⟩, List.mem_of_getElem? (i := 12) (by decide +kernel), List.mem_of_getElem? (i := 479) (by decide +kernel), List.mem_of_getElem? (i := 480) (by decide +kernel)⟩
theorem lw_p24 : lw_okq (⟨"SignedMillModel", "set", "(IJ)V"⟩, 3) := ⟨⟨by decide +kernel, by decide +kernel⟩, List.mem_of_getElem? (i := 521) (by decide +kernel), List.mem_of_getElem? (i := 546) (by decide +kernel), List.mem_of_getElem? (i := 547) (by decide +kernel)⟩
theorem lw_p25 : lw_okq (⟨"SignedMillModel", "trim", "(II)V"⟩, 3) := ⟨⟨by decide +kernel, by decide +kernel⟩, List.mem_of_getElem? (i := 521) (by decide +kernel), List.mem_of_getElem? (i := 555) (by decide +kernel), List.mem_of_getElem? (i := 556) (by decide +kernel)⟩
theorem lw_p26 : lw_okq (⟨"SignedMillModel", "store", "(IIZ)Z"⟩, 3) := ⟨⟨by decide +kernel, by decide +kernel⟩, List.mem_of_getElem? (i := 521) (by decide +kernel), List.mem_of_getElem? (i := 559) (by decide +kernel), List.mem_of_getElem? (i := 560) (by decide +kernel)⟩
theorem lw_p27 : lw_okq (⟨"SignedMillModel", "move", "(II)V"⟩, 3) := ⟨⟨by decide +kernel, by decide +kernel⟩, List.mem_of_getElem? (i := 521) (by decide +kernel), List.mem_of_getElem? (i := 563) (by decide +kernel), List.mem_of_getElem? (i := 564) (by decide +kernel)⟩
theorem lw_p28 : lw_okq (⟨"SignedMillModel", "added", "(IIZIZ)Z"⟩, 3) := ⟨⟨by decide +kernel, by decide +kernel⟩, List.mem_of_getElem? (i := 521) (by decide +kernel), List.mem_of_getElem? (i := 583) (by decide +kernel), List.mem_of_getElem? (i := 584) (by decide +kernel)⟩
theorem lw_p29 : lw_okq (⟨"SignedMillModel", "compareRows", "(II)I"⟩, 3) := ⟨⟨by decide +kernel, by decide +kernel⟩, List.mem_of_getElem? (i := 521) (by decide +kernel), List.mem_of_getElem? (i := 587) (by decide +kernel), List.mem_of_getElem? (i := 588) (by decide +kernel)⟩
theorem lw_p30 : lw_okq (⟨"SignedMillModel", "sum", "(III)V"⟩, 3) := ⟨⟨by decide +kernel, by decide +kernel⟩, List.mem_of_getElem? (i := 521) (by decide +kernel), List.mem_of_getElem? (i := 591) (by decide +kernel), List.mem_of_getElem? (i := 592) (by decide +kernel)⟩
theorem lw_p31 : lw_okq (⟨"SignedMillModel", "digit", "(II)I"⟩, 3) := ⟨⟨by decide +kernel, by decide +kernel⟩, List.mem_of_getElem? (i := 521) (by decide +kernel), List.mem_of_getElem? (i := 595) (by decide +kernel), List.mem_of_getElem? (i := 596) (by decide +kernel)⟩
def lw_privs_2 : List (MethodName × Nat) := [(⟨"SignedMill$Euclid", "leapRemainders", "()V"⟩, 11), (⟨"SignedMill$Euclid", "leapFactors", "()V"⟩, 11), (⟨"SignedMill$Euclid", "step", "(Z)V"⟩, 11), (⟨"SignedMill", "isModulus", "(I)Z"⟩, 7), (⟨"SignedMill", "findInverse", "(II)Z"⟩, 7), (⟨"SignedMill", "reduce", "(II)V"⟩, 7), (⟨"SignedMill", "findPowerByModulus", "(LSignedMill$Whole;LSignedMill$Whole;)V"⟩, 7), (⟨"SignedMill", "multiplyByModulus", "(LSignedMill$Whole;LSignedMill$Whole;)V"⟩, 7), (⟨"SignedMillModel", "set", "(IJ)V"⟩, 3), (⟨"SignedMillModel", "trim", "(II)V"⟩, 3), (⟨"SignedMillModel", "store", "(IIZ)Z"⟩, 3), (⟨"SignedMillModel", "move", "(II)V"⟩, 3), (⟨"SignedMillModel", "added", "(IIZIZ)Z"⟩, 3), (⟨"SignedMillModel", "compareRows", "(II)I"⟩, 3), (⟨"SignedMillModel", "sum", "(III)V"⟩, 3), (⟨"SignedMillModel", "digit", "(II)I"⟩, 3)]
theorem lw_r2 : ∀ q ∈ lw_privs_2, lw_okq q := List.forall_mem_cons.mpr ⟨lw_p16, List.forall_mem_cons.mpr ⟨lw_p17, List.forall_mem_cons.mpr ⟨lw_p18, List.forall_mem_cons.mpr ⟨lw_p19, List.forall_mem_cons.mpr ⟨lw_p20, List.forall_mem_cons.mpr ⟨lw_p21, List.forall_mem_cons.mpr ⟨lw_p22, List.forall_mem_cons.mpr ⟨lw_p23, List.forall_mem_cons.mpr ⟨lw_p24, List.forall_mem_cons.mpr ⟨lw_p25, List.forall_mem_cons.mpr ⟨lw_p26, List.forall_mem_cons.mpr ⟨lw_p27, List.forall_mem_cons.mpr ⟨lw_p28, List.forall_mem_cons.mpr ⟨lw_p29, List.forall_mem_cons.mpr ⟨lw_p30, List.forall_mem_cons.mpr ⟨lw_p31, fun _ h => absurd h List.not_mem_nil⟩⟩⟩⟩⟩⟩⟩⟩⟩⟩⟩⟩⟩⟩⟩⟩
theorem lw_p32 : lw_okq (⟨"SignedMillModel", "lessen", "(III)V"⟩, 3) := ⟨⟨by decide +kernel, by decide +kernel⟩, List.mem_of_getElem? (i := 521) (by decide +kernel), List.mem_of_getElem? (i := 600) (by decide +kernel), List.mem_of_getElem? (i := 601) (by decide +kernel)⟩
theorem lw_p33 : lw_okq (⟨"SignedMillModel", "product", "(III)V"⟩, 3) := ⟨⟨by decide +kernel, by decide +kernel⟩, List.mem_of_getElem? (i := 521) (by decide +kernel), List.mem_of_getElem? (i := 612) (by decide +kernel), List.mem_of_getElem? (i := 613) (by decide +kernel)⟩
theorem lw_p34 : lw_okq (⟨"SignedMillModel", "quotient", "(IIII)V"⟩, 3) := ⟨⟨by decide +kernel, by decide +kernel⟩, List.mem_of_getElem? (i := 521) (by decide +kernel), List.mem_of_getElem? (i := 620) (by decide +kernel), List.mem_of_getElem? (i := 621) (by decide +kernel)⟩
theorem lw_p35 : lw_okq (⟨"SignedMillModel", "bitsOf", "(I)I"⟩, 3) := ⟨⟨by decide +kernel, by decide +kernel⟩, List.mem_of_getElem? (i := 521) (by decide +kernel), List.mem_of_getElem? (i := 624) (by decide +kernel), List.mem_of_getElem? (i := 625) (by decide +kernel)⟩
theorem lw_p36 : lw_okq (⟨"SignedMillModel", "lower", "(IIJ)V"⟩, 3) := ⟨⟨by decide +kernel, by decide +kernel⟩, List.mem_of_getElem? (i := 521) (by decide +kernel), List.mem_of_getElem? (i := 628) (by decide +kernel), List.mem_of_getElem? (i := 629) (by decide +kernel)⟩
theorem lw_p37 : lw_okq (⟨"SignedMillModel", "bitOf", "(II)I"⟩, 3) := ⟨⟨by decide +kernel, by decide +kernel⟩, List.mem_of_getElem? (i := 521) (by decide +kernel), List.mem_of_getElem? (i := 634) (by decide +kernel), List.mem_of_getElem? (i := 635) (by decide +kernel)⟩
theorem lw_p38 : lw_okq (⟨"SignedMillModel", "twice", "(II)V"⟩, 3) := ⟨⟨by decide +kernel, by decide +kernel⟩, List.mem_of_getElem? (i := 521) (by decide +kernel), List.mem_of_getElem? (i := 638) (by decide +kernel), List.mem_of_getElem? (i := 639) (by decide +kernel)⟩
theorem lw_p39 : lw_okq (⟨"SignedMillModel", "lowestDigit", "(I)I"⟩, 3) := ⟨⟨by decide +kernel, by decide +kernel⟩, List.mem_of_getElem? (i := 521) (by decide +kernel), List.mem_of_getElem? (i := 646) (by decide +kernel), List.mem_of_getElem? (i := 647) (by decide +kernel)⟩
theorem lw_p40 : lw_okq (⟨"SignedMillModel", "bitsDigit", "(III)I"⟩, 3) := ⟨⟨by decide +kernel, by decide +kernel⟩, List.mem_of_getElem? (i := 521) (by decide +kernel), List.mem_of_getElem? (i := 653) (by decide +kernel), List.mem_of_getElem? (i := 654) (by decide +kernel)⟩
theorem lw_p41 : lw_okq (⟨"SignedMillModel", "raise", "(III)V"⟩, 3) := ⟨⟨by decide +kernel, by decide +kernel⟩, List.mem_of_getElem? (i := 521) (by decide +kernel), List.mem_of_getElem? (i := 662) (by decide +kernel), List.mem_of_getElem? (i := 663) (by decide +kernel)⟩
theorem lw_p42 : lw_okq (⟨"SignedMillModel", "bitAt", "(II)I"⟩, 3) := ⟨⟨by decide +kernel, by decide +kernel⟩, List.mem_of_getElem? (i := 521) (by decide +kernel), List.mem_of_getElem? (i := 670) (by decide +kernel), List.mem_of_getElem? (i := 671) (by decide +kernel)⟩
theorem lw_p43 : lw_okq (⟨"SignedMillModel", "inverted", "(I)Z"⟩, 3) := ⟨⟨by decide +kernel, by decide +kernel⟩, List.mem_of_getElem? (i := 521) (by decide +kernel), List.mem_of_getElem? (i := 686) (by decide +kernel), List.mem_of_getElem? (i := 687) (by decide +kernel)⟩
theorem lw_p44 : lw_okq (⟨"SignedMillModel", "residue", "(II)V"⟩, 3) := ⟨⟨by decide +kernel, by decide +kernel⟩, List.mem_of_getElem? (i := 521) (by decide +kernel), List.mem_of_getElem? (i := 690) (by decide +kernel), List.mem_of_getElem? (i := 691) (by decide +kernel)⟩
theorem lw_p45 : lw_okq (⟨"SignedMillModel", "rest", "(III)V"⟩, 3) := ⟨⟨by decide +kernel, by decide +kernel⟩, List.mem_of_getElem? (i := 521) (by decide +kernel), List.mem_of_getElem? (i := 694) (by decide +kernel), List.mem_of_getElem? (i := 695) (by decide +kernel)⟩
theorem lw_p46 : lw_okq (⟨"SignedMillModel", "takeTimes", "(IIJ)V"⟩, 3) := ⟨⟨by decide +kernel, by decide +kernel⟩, List.mem_of_getElem? (i := 521) (by decide +kernel), List.mem_of_getElem? (i := 698) (by decide +kernel), List.mem_of_getElem? (i := 699) (by decide +kernel)⟩
def lw_privs_3 : List (MethodName × Nat) := [(⟨"SignedMillModel", "lessen", "(III)V"⟩, 3), (⟨"SignedMillModel", "product", "(III)V"⟩, 3), (⟨"SignedMillModel", "quotient", "(IIII)V"⟩, 3), (⟨"SignedMillModel", "bitsOf", "(I)I"⟩, 3), (⟨"SignedMillModel", "lower", "(IIJ)V"⟩, 3), (⟨"SignedMillModel", "bitOf", "(II)I"⟩, 3), (⟨"SignedMillModel", "twice", "(II)V"⟩, 3), (⟨"SignedMillModel", "lowestDigit", "(I)I"⟩, 3), (⟨"SignedMillModel", "bitsDigit", "(III)I"⟩, 3), (⟨"SignedMillModel", "raise", "(III)V"⟩, 3), (⟨"SignedMillModel", "bitAt", "(II)I"⟩, 3), (⟨"SignedMillModel", "inverted", "(I)Z"⟩, 3), (⟨"SignedMillModel", "residue", "(II)V"⟩, 3), (⟨"SignedMillModel", "rest", "(III)V"⟩, 3), (⟨"SignedMillModel", "takeTimes", "(IIJ)V"⟩, 3)]
theorem lw_r3 : ∀ q ∈ lw_privs_3, lw_okq q := List.forall_mem_cons.mpr ⟨lw_p32, List.forall_mem_cons.mpr ⟨lw_p33, List.forall_mem_cons.mpr ⟨lw_p34, List.forall_mem_cons.mpr ⟨lw_p35, List.forall_mem_cons.mpr ⟨lw_p36, List.forall_mem_cons.mpr ⟨lw_p37, List.forall_mem_cons.mpr ⟨lw_p38, List.forall_mem_cons.mpr ⟨lw_p39, List.forall_mem_cons.mpr ⟨lw_p40, List.forall_mem_cons.mpr ⟨lw_p41, List.forall_mem_cons.mpr ⟨lw_p42, List.forall_mem_cons.mpr ⟨lw_p43, List.forall_mem_cons.mpr ⟨lw_p44, List.forall_mem_cons.mpr ⟨lw_p45, List.forall_mem_cons.mpr ⟨lw_p46, fun _ h => absurd h List.not_mem_nil⟩⟩⟩⟩⟩⟩⟩⟩⟩⟩⟩⟩⟩⟩⟩
def lw_privs : List (MethodName × Nat) := lw_privs_1 ++ (lw_privs_2 ++ (lw_privs_3))
def lw_tbl : List Cond := k2_sels lw_privs ++ tables_1
theorem lw_privs_ok : ∀ q ∈ lw_privs, lw_okq q := by
  show ∀ q ∈ lw_privs_1 ++ (lw_privs_2 ++ (lw_privs_3)), lw_okq q
  exact List.forall_mem_append.mpr ⟨lw_r1, List.forall_mem_append.mpr ⟨lw_r2, lw_r3⟩⟩
-- ===== end of PART A; then your names; then what follows =====
theorem goodIn_r {big : List Cond} (ws : List Cond) (ps : List Nat) (hp : ws = ps.filterMap (fun i => big[i]?)) (h : ws.all goodWord = true) : GoodIn big ws := by
  intro w hw
  have h1 := List.all_eq_true.mp h w hw
  rw [hp] at hw
  obtain ⟨i, -, hi⟩ := List.mem_filterMap.mp hw
  have hm : w ∈ big := by first | exact List.mem_of_getElem? hi | exact List.getElem?_mem hi
  exact ⟨hm, good_of_word h1⟩
theorem goodIn_app {big a b : List Cond} (ha : GoodIn big a) (hb : GoodIn big b) : GoodIn big (a ++ b) := fun w h => (List.mem_append.mp h).elim (ha w) (hb w)
theorem goodIn_ca {big a b : List Cond} {c : Cond} (ha : GoodIn big (c :: a)) (hb : GoodIn big b) : GoodIn big (c :: (a ++ b)) := fun w h => (List.mem_cons.mp h).elim (fun e => ha w (List.mem_cons.mpr (Or.inl e))) (fun h => (List.mem_append.mp h).elim (fun h => ha w (List.mem_cons.mpr (Or.inr h))) (hb w))
theorem goodIn_sub {big ws : List Cond} (hm : ∀ w ∈ ws, w ∈ big) (h : ws.all goodWord = true) : GoodIn big ws := fun w hw => ⟨hm w hw, good_of_word (List.all_eq_true.mp h w hw)⟩
/-- the words that a callee may take over: all contracts of ours stand on this one list -/
def lw_gd : List Cond := lw_tbl.filter goodWord
theorem lw_good : GoodIn lw_gd lw_gd := fun _ h => ⟨h, good_of_word (List.mem_filter.mp h).2⟩
theorem lw_in {w : Cond} (h : w ∈ lw_tbl) (hg : goodWord w = true) : w ∈ lw_gd := List.mem_filter.mpr ⟨h, hg⟩
end
section
/-! A WALK OVER A MAP OF CELLS. vx_h: the tracked cells by their addresses; vx_AH: the heap holds them; vx_V: the walk of a body from a pc, whatever heap holds the map; vx_M: a method's contract over maps, whose end may speak of the cells and slots that were made. -/
abbrev vx_h : Type := Nat → Option va_E
def vx_up (h : vx_h) (a : Nat) (e : va_E) : vx_h := fun b => if b = a then some e else h b
theorem vx_up_s {h : vx_h} {a : Nat} {e : va_E} : vx_up h a e a = some e := by simp [vx_up]
theorem vx_up_n {h : vx_h} {a b : Nat} {e : va_E} (hb : b ≠ a) : vx_up h a e b = h b := by simp [vx_up, hb]
def vx_AH (D : va_G) (cl : List vw_C) (A : Nat → Prop) (h : vx_h) (H : Heap) : Prop := ∀ (a : Nat) (e : va_E), h a = some e → va_at D cl (a, e) H ∧ A a
theorem vx_rep (h : vx_h) (n : Nat) : ∃ ws : va_W, (∀ (k : Nat) (q : Nat × va_E), ws[k]? = some q → q.1 < n ∧ h q.1 = some q.2) ∧ (∀ (a : Nat) (e : va_E), a < n → h a = some e → ∃ k : Nat, ws[k]? = some (a, e)) ∧ (∀ (i j : Nat) (p q : Nat × va_E), ws[i]? = some p → ws[j]? = some q → p.1 = q.1 → i = j) := by
  induction n with
  | zero => exact ⟨[], fun k q hk => by simp at hk, fun a e ha => absurd ha (Nat.not_lt_zero a), fun i j p q hi => by simp at hi⟩
  | succ n ih =>
    obtain ⟨ws, h1, h2, h3⟩ := ih
    cases hn : h n with
    | none =>
      refine ⟨ws, fun k q hk => ⟨Nat.lt_succ_of_lt (h1 k q hk).1, (h1 k q hk).2⟩, fun a e ha he => ?_, h3⟩
      rcases Nat.lt_succ_iff_lt_or_eq.mp ha with q | q
      · exact h2 a e q he
      · rw [q, hn] at he; cases he
    | some x =>
      refine ⟨ws ++ [(n, x)], fun k q hk => ?_, fun a e ha he => ?_, fun i j p q hi hj hpq => ?_⟩
      · rcases Nat.lt_or_ge k ws.length with g | g
        · rw [List.getElem?_append_left g] at hk
          exact ⟨Nat.lt_succ_of_lt (h1 k q hk).1, (h1 k q hk).2⟩
        · rw [List.getElem?_append_right g] at hk
          have hq : q = (n, x) := by
            have := List.mem_of_getElem? hk
            simpa using this
          rw [hq]
          exact ⟨Nat.lt_succ_self n, hn⟩
      · rcases Nat.lt_succ_iff_lt_or_eq.mp ha with g | g
        · obtain ⟨k, hk⟩ := h2 a e g he
          exact ⟨k, by rw [List.getElem?_append_left (List.getElem?_eq_some_iff.mp hk).1]; exact hk⟩
        · subst g
          rw [hn] at he
          cases he
          exact ⟨ws.length, by simp⟩
      · have key : ∀ (i : Nat) (p : Nat × va_E), (ws ++ [(n, x)])[i]? = some p → (ws[i]? = some p ∧ p.1 < n) ∨ (i = ws.length ∧ p.1 = n) := by
          intro i p hi
          rcases Nat.lt_or_ge i ws.length with g | g
          · rw [List.getElem?_append_left g] at hi
            exact Or.inl ⟨hi, (h1 i p hi).1⟩
          · have hl := (List.getElem?_eq_some_iff.mp hi).1
            rw [List.getElem?_append_right g] at hi
            have hq : p = (n, x) := by
              have := List.mem_of_getElem? hi
              simpa using this
            simp at hl
            exact Or.inr ⟨by omega, by rw [hq]⟩
        rcases key i p hi with ⟨a1, a2⟩ | ⟨a1, a2⟩ <;> rcases key j q hj with ⟨b1, b2⟩ | ⟨b1, b2⟩
        · exact h3 i j p q a1 b1 hpq
        · omega
        · omega
        · omega
theorem vx_list {D : va_G} {cl : List vw_C} {A : Nat → Prop} {h : vx_h} {H : Heap} (hA : vx_AH D cl A h H) : ∃ ws : va_W, va_P D cl ws H ∧ va_D A ws ∧ (∀ (a : Nat) (e : va_E), h a = some e → ∃ k : Nat, ws[k]? = some (a, e)) := by
  obtain ⟨ws, h1, h2, h3⟩ := vx_rep h H.size
  refine ⟨ws, fun k q hk => (hA q.1 q.2 (h1 k q hk).2).1, ⟨h3, fun k q hk => (hA q.1 q.2 (h1 k q hk).2).2⟩, fun a e he => h2 a e ?_ he⟩
  exact (hA a e he).1.lt
theorem vx_set {D : va_G} {cl : List vw_C} {A : Nat → Prop} {h : vx_h} {H1 : Heap} {ws : va_W} {k a : Nat} {e e0 : va_E} (hk : ws[k]? = some (a, e0)) (cov : ∀ (b : Nat) (e : va_E), h b = some e → ∃ k : Nat, ws[k]? = some (b, e)) (hP : va_P D cl (ws.set k (a, e)) H1) (hD : va_D A (ws.set k (a, e))) : vx_AH D cl A (vx_up h a e) H1 := by
  intro b e' hb
  by_cases hba : b = a
  · subst hba
    rw [vx_up_s] at hb
    cases hb
    have hs : (ws.set k (b, e))[k]? = some (b, e) := List.getElem?_set_self (List.getElem?_eq_some_iff.mp hk).1
    exact ⟨hP k _ hs, hD.2 k _ hs⟩
  · rw [vx_up_n hba] at hb
    obtain ⟨j, hj⟩ := cov b e' hb
    have hjk : k ≠ j := by
      intro q
      subst q
      rw [hk] at hj
      cases hj
      exact hba rfl
    have hs : (ws.set k (a, e))[j]? = some (b, e') := by rw [List.getElem?_set_ne hjk]; exact hj
    exact ⟨hP j _ hs, hD.2 j _ hs⟩
theorem vx_push {D : va_G} {cl : List vw_C} {A : Nat → Prop} {h : vx_h} {H1 : Heap} {ws : va_W} {a : Nat} {e : va_E} (cov : ∀ (b : Nat) (e : va_E), h b = some e → ∃ k : Nat, ws[k]? = some (b, e)) (hP : va_P D cl (ws ++ [(a, e)]) H1) (hD : va_D A (ws ++ [(a, e)])) : vx_AH D cl A (vx_up h a e) H1 := by
  intro b e' hb
  by_cases hba : b = a
  · subst hba
    rw [vx_up_s] at hb
    cases hb
    have hs : (ws ++ [(b, e)])[ws.length]? = some (b, e) := by simp
    exact ⟨hP _ _ hs, hD.2 _ _ hs⟩
  · rw [vx_up_n hba] at hb
    obtain ⟨j, hj⟩ := cov b e' hb
    have hs : (ws ++ [(a, e)])[j]? = some (b, e') := by rw [List.getElem?_append_left (List.getElem?_eq_some_iff.mp hj).1]; exact hj
    exact ⟨hP j _ hs, hD.2 j _ hs⟩
/-- what the tables say of nest mates' constructors and of Whole[]: no word that a callee could take over, so it goes with the state -/
def vx_N (U : State) : Prop := (∀ (a : String) (i : Nat) (x : MethodName) (t : String), Cond.methodLinkNest a i x t ∈ lw_tbl → va_Nw (.methodLinkNest a i x t) U) ∧ va_AO "SignedMill$Whole" U
theorem vx_N.warm {s U : State} (hW : s.WarmedH U.vm) (h : vx_N s) : vx_N U := ⟨fun a i x t hm => va_Nw.warmM hW (h.1 a i x t hm), va_AO.moved hW.alike h.2⟩
theorem vx_N.same {u U : State} (e : u.vm = U.vm) (h : vx_N u) : vx_N U := ⟨fun a i x t hm => va_Nw.same rfl e (h.1 a i x t hm), va_AO.moved (by rw [e]; exact Vm.Alike.refl _) h.2⟩
abbrev vx_G : Type := Heap → List Loc → Nat → Nat → Nat → Array Slot → List Value → Prop
/-- G is the walk of a body (of the class own, bytes cc, nL locals, words Ts, room R; a constructor where ct) -/
def vx_I (l : Launch) (D : va_G) (cl : List vw_C) (tys : List (ClassId × FieldType)) (R : Room) (own : String) (cc : ByteArray) (nL : Nat) (Ts : List Cond) (ct : Bool) (A : Nat → Prop) (H0 : Heap) (G : vx_G) : Prop :=
  ∃ (p : Program) (e : Env) (s : State) (m : MethodId) (args : Array Value) (below : List Frame) (meth : Method) (c : Code) (Q : State → Prop),
    (G = fun H locs k n pc ls st => W p l e R s m args below meth c H locs k n Q (F0 m pc ls st)) ∧ p.tables.exec = Jvm.exec ∧ c.code = cc ∧ c.maxLocals = nL ∧ s.vm.findClass own = some m.cls ∧ (∀ w ∈ Ts, w.before args s = true) ∧ va_K D cl tys s ∧ vx_N s ∧ s.heap = H0 ∧ (∀ q : Nat, H0.size ≤ q → A q) ∧ (ct = true → meth.name = "<init>")
def vx_V (D : va_G) (cl : List vw_C) (A : Nat → Prop) (H0 : Heap) (nL : Nat) (G : vx_G) (h : vx_h) (k n pc : Nat) (lv : List (Nat × Value)) (st : List Value) : Prop :=
  ∀ (H : Heap) (locs : List Loc) (ls : Array Slot), vx_AH D cl A h H → va_S A H0 H locs → lv_has ls nL lv → G H locs k n pc ls st
/-- which cells a method may change: the tracked ones, and those that come -/
def vx_A (h : vx_h) (sz : Nat) : Nat → Prop := fun q => (∃ e, h q = some e) ∨ sz ≤ q
/-- how a body may end with v at pc -/
def vx_end (ret : Option FieldType) (cc : ByteArray) (pc : Nat) (v : Option Value) : Prop :=
  (ret = none ∧ v = none ∧ decode cc pc = .ok (.return_, 1)) ∨ (∃ (ty : FieldType) (x : Int32), ret = some ty ∧ narrow ty (.int x) = .int x ∧ v = some (.int x) ∧ decode cc pc = .ok (.ireturn, 1)) ∨
  (∃ x : Int64, ret = some .long ∧ v = some (.long x) ∧ decode cc pc = .ok (.lreturn, 1)) ∨ (∃ (ty : FieldType) (x : Nat), ret = some ty ∧ ((∃ n, ty = .object n) ∨ ∃ t, ty = .array t) ∧ v = some (.ref x) ∧ decode cc pc = .ok (.areturn, 1))
/-- what a body's end must show -/
def vx_R (D : va_G) (cl : List vw_C) (A : Nat → Prop) (H0 : Heap) (cc : ByteArray) (ret : Option FieldType) (post : Option Value → vx_h → Nat → Nat → Prop) (G : vx_G) : Prop :=
  ∀ (H : Heap) (locs : List Loc) (ls : Array Slot) (pc k n : Nat) (h : vx_h) (v : Option Value), vx_AH D cl A h H → va_S A H0 H locs → vx_end ret cc pc v → post v h k n → G H locs k n pc ls v.toList
def vx_Q (D : va_G) (cl : List vw_C) (h : vx_h) (post : Option Value → vx_h → Nat → Nat → Prop) : Array Value → State → Outcome → State → Prop := fun _ st o t =>
  ∃ (v : Option Value) (h' : vx_h) (L : List Loc) (k n : Nat), o = .returned v ∧ FrameEnd st o t L k n ∧ (∀ q ∈ L, vx_A h st.heap.size q.base) ∧ post v h' k n ∧ vx_AH D cl (vx_A h st.heap.size) h' t.heap ∧ va_F (vx_A h st.heap.size) st t
/-- A METHOD'S CONTRACT: from any state whose heap holds h, called with av, it returns some v, the heap then holds some h', k cells of n slots came, and post of these -/
def vx_M (l : Launch) (D : va_G) (cl : List vw_C) (tys : List (ClassId × FieldType)) (y : MethodName) (ws : List Cond) (rm : Room) (av : List Value) (h : vx_h) (post : Option Value → vx_h → Nat → Nat → Prop) : Prop :=
  MetFree l y (headSpec ws rm) (fun args U => args = av.toArray ∧ vx_AH D cl (fun _ => True) h U.heap ∧ va_K D cl tys U ∧ vx_N U) (fun _ _ _ _ _ => True) (vx_Q D cl h post)
theorem vx_M.ofV {l : Launch} {D : va_G} {cl : List vw_C} {tys : List (ClassId × FieldType)} {y : MethodName} {ws : List Cond} {rm : Room} {av : List Value} {h : vx_h} {post : Option Value → vx_h → Nat → Nat → Prop} {cc : ByteArray} {maxL : Nat} {ret : Option FieldType} {own : String} (ct : Bool) (ho : y.cls = own)
    (hy : plainFor y = true) (hw : Cond.code y cc maxL ret ∈ ws) (hct : ct = true → y.name = "<init>") (hsl : (lg_sl av).length ≤ maxL)
    (body : ∀ (A : Nat → Prop) (H0 : Heap) (G : vx_G), vx_I l D cl tys rm own cc maxL ws ct A H0 G → vx_R D cl A H0 cc ret post G → vx_V D cl A H0 maxL G h 0 0 0 (lv_args 0 av) []) : vx_M l D cl tys y ws rm av h post := by
  refine MetFree.of_bodySF (code := cc) (maxLocals := maxL) (ret := ret) hy ?_ ?_
  · intro args s m hh hn
    obtain ⟨meth, c, h1, h2, h3, h4, h5, h6, -, -⟩ := Cond.code_spec hn (atoms_spec (ws := ws) hh _ hw)
    exact ⟨meth, c, h1, h2, h3, h4, h5, h6⟩
  · intro p e s m args below meth c s₁ B hml hP _
    obtain ⟨rfl, hAH, hK, hN⟩ := hP
    have hh0 : s₁.heap = s.heap := by rw [B.state]; rfl
    have hA0 : vx_AH D cl (vx_A h s.heap.size) h s.heap := fun a e he => ⟨(hAH a e he).1, Or.inl ⟨e, he⟩⟩
    have hx := B.exec
    have hb := B.bytes
    have hr := B.returns
    have hlocks := B.notSynchronized
    have K := body (vx_A h s.heap.size) s.heap (fun H locs k n pc ls st => W p l e rm s m av.toArray below meth c H locs k n (fun t => ∃ o, t.status = .running ∧ Ended t below o ∧ vx_Q D cl h post av.toArray s o t) (F0 m pc ls st))
      ⟨p, e, s, m, av.toArray, below, meth, c, _, rfl, B.exec, B.bytes, hml, (by rw [← ho]; exact findClass_of_methodNamed B.named), atoms_spec (ws := ws) B.pre, hK, hN, rfl, fun q hq => Or.inr hq, fun q => (name_of_methodNamed B.named B.method).1.trans (hct q)⟩
      (by
        intro H locs ls pc k n h' v g1 g2 g3 g4
        have fin : ∀ t, MQ below (fun _ st o t => o = .returned v ∧ t.heap = H) av.toArray s k n (vx_A h s.heap.size) t → ∃ o, t.status = .running ∧ Ended t below o ∧ vx_Q D cl h post av.toArray s o t := by
          intro t ⟨o, f1, f2, ⟨f3, f4⟩, L, f5, f6⟩
          exact ⟨o, f1, f2, v, h', L, k, n, f3, f5, f6, g4, by rw [f4]; exact g1, g2.F f4⟩
        rcases g3 with ⟨e1, e2, e3⟩ | ⟨ty, x, e1, e2, e3, e4⟩ | ⟨x, e1, e2, e3⟩ | ⟨ty, x, e1, e2, e3, e4⟩
        · subst e2
          intro T hT X
          obtain ⟨t, a1, b1⟩ := W.vret (Qc := fun _ st o t => o = .returned none ∧ t.heap = H) (free := vx_A h s.heap.size) (locs := locs) (cells := k) (slots := n) (args := av.toArray) (H := H) (ls := ls) hx hb (hr.trans e1) (fun t ht _ => ⟨rfl, ht⟩) g2.2.2 e3 hlocks T hT X
          exact ⟨t, a1, fin t b1⟩
        · subst e3
          intro T hT X
          obtain ⟨t, a1, b1⟩ := W.zret (Qc := fun _ st o t => o = .returned (some (.int x)) ∧ t.heap = H) (free := vx_A h s.heap.size) (locs := locs) (cells := k) (slots := n) (args := av.toArray) (H := H) (ls := ls) hx hb (hr.trans e1) e2 (fun t ht _ => ⟨rfl, ht⟩) g2.2.2 e4 hlocks T hT X
          exact ⟨t, a1, fin t b1⟩
        · subst e2
          intro T hT X
          obtain ⟨t, a1, b1⟩ := W.lret (Qc := fun _ st o t => o = .returned (some (.long x)) ∧ t.heap = H) (free := vx_A h s.heap.size) (locs := locs) (cells := k) (slots := n) (args := av.toArray) (H := H) (ls := ls) hx hb (hr.trans e1) (fun t ht _ => ⟨rfl, ht⟩) g2.2.2 e3 hlocks T hT X
          exact ⟨t, a1, fin t b1⟩
        · subst e3
          intro T hT X
          obtain ⟨t, a1, b1⟩ := W.aret (Qc := fun _ st o t => o = .returned (some (.ref x)) ∧ t.heap = H) (free := vx_A h s.heap.size) (locs := locs) (cells := k) (slots := n) (args := av.toArray) (H := H) (ls := ls) hx hb (hr.trans e1) e2 (Or.inr ⟨x, rfl⟩) (fun t ht _ => ⟨rfl, ht⟩) g2.2.2 e4 hlocks T hT X
          exact ⟨t, a1, fin t b1⟩)
    have hl := lv_entry av (n := maxL) hsl
    have K1 := K s.heap [] _ hA0 va_S.rf hl
    obtain ⟨t, a1, o, b1, b2, b3⟩ := K1 s₁ hh0 (Stand.of_body B)
    refine ⟨t, o, ?_, b1, b2, b3⟩
    rw [lg_entry_eq]
    exact a1
end
section
/-! the walk's rows, an instruction a row (written by wip/whole/draft/mkrows.py) -/
section
variable {l : Launch} {D : va_G} {cl : List vw_C} {tys : List (ClassId × FieldType)} {R : Room} {own : String} {cc : ByteArray} {nL : Nat} {Ts : List Cond} {ct : Bool} {A : Nat → Prop} {H0 : Heap} {G : vx_G} {h : vx_h} {k n pc : Nat} {lv : List (Nat × Value)} {st : List Value}
theorem vx_iconst (IG : vx_I l D cl tys R own cc nL Ts ct A H0 G) {c : Int} {v : Int32} (hd : decode cc pc = .ok (.iconst c, 1)) (hv : Int32.ofInt c = v) (K : vx_V D cl A H0 nL G h k n (pc + 1) lv (.int v :: st)) : vx_V D cl A H0 nL G h k n pc lv (st) := by
  obtain ⟨p, e, s, m, args, below, meth, c, Q, rfl, hx, hb, -⟩ := IG
  intro H locs ls g1 g2 g3
  exact lv_iconst hx hb hd hv (K H locs ls g1 g2 g3)
theorem vx_bipush (IG : vx_I l D cl tys R own cc nL Ts ct A H0 G) {c : Int} {v : Int32} (hd : decode cc pc = .ok (.bipush c, 2)) (hv : (Int8.ofInt c).toInt32 = v) (K : vx_V D cl A H0 nL G h k n (pc + 2) lv (.int v :: st)) : vx_V D cl A H0 nL G h k n pc lv (st) := by
  obtain ⟨p, e, s, m, args, below, meth, c, Q, rfl, hx, hb, -⟩ := IG
  intro H locs ls g1 g2 g3
  exact lv_bipush hx hb hd hv (K H locs ls g1 g2 g3)
theorem vx_sipush (IG : vx_I l D cl tys R own cc nL Ts ct A H0 G) {c : Int} {v : Int32} (hd : decode cc pc = .ok (.sipush c, 3)) (hv : (Int16.ofInt c).toInt32 = v) (K : vx_V D cl A H0 nL G h k n (pc + 3) lv (.int v :: st)) : vx_V D cl A H0 nL G h k n pc lv (st) := by
  obtain ⟨p, e, s, m, args, below, meth, c, Q, rfl, hx, hb, -⟩ := IG
  intro H locs ls g1 g2 g3
  exact lv_sipush hx hb hd hv (K H locs ls g1 g2 g3)
theorem vx_lconst (IG : vx_I l D cl tys R own cc nL Ts ct A H0 G) {c : Fin 2} {v : Int64} (hd : decode cc pc = .ok (.lconst c, 1)) (hv : Int64.ofNat (c : Nat) = v) (K : vx_V D cl A H0 nL G h k n (pc + 1) lv (.long v :: st)) : vx_V D cl A H0 nL G h k n pc lv (st) := by
  obtain ⟨p, e, s, m, args, below, meth, c, Q, rfl, hx, hb, -⟩ := IG
  intro H locs ls g1 g2 g3
  exact lv_lconst hx hb hd hv (K H locs ls g1 g2 g3)
theorem vx_null (IG : vx_I l D cl tys R own cc nL Ts ct A H0 G)  (hd : decode cc pc = .ok (.aconst_null, 1)) (K : vx_V D cl A H0 nL G h k n (pc + 1) lv (.null :: st)) : vx_V D cl A H0 nL G h k n pc lv (st) := by
  obtain ⟨p, e, s, m, args, below, meth, c, Q, rfl, hx, hb, -⟩ := IG
  intro H locs ls g1 g2 g3
  exact lv_null hx hb hd (K H locs ls g1 g2 g3)
theorem vx_iadd (IG : vx_I l D cl tys R own cc nL Ts ct A H0 G) {x y : Int32} (hd : decode cc pc = .ok (.iadd, 1)) (K : vx_V D cl A H0 nL G h k n (pc + 1) lv (.int (x + y) :: st)) : vx_V D cl A H0 nL G h k n pc lv (.int y :: .int x :: st) := by
  obtain ⟨p, e, s, m, args, below, meth, c, Q, rfl, hx, hb, -⟩ := IG
  intro H locs ls g1 g2 g3
  exact lv_iadd hx hb hd (K H locs ls g1 g2 g3)
theorem vx_isub (IG : vx_I l D cl tys R own cc nL Ts ct A H0 G) {x y : Int32} (hd : decode cc pc = .ok (.isub, 1)) (K : vx_V D cl A H0 nL G h k n (pc + 1) lv (.int (x - y) :: st)) : vx_V D cl A H0 nL G h k n pc lv (.int y :: .int x :: st) := by
  obtain ⟨p, e, s, m, args, below, meth, c, Q, rfl, hx, hb, -⟩ := IG
  intro H locs ls g1 g2 g3
  exact lv_isub hx hb hd (K H locs ls g1 g2 g3)
theorem vx_imul (IG : vx_I l D cl tys R own cc nL Ts ct A H0 G) {x y : Int32} (hd : decode cc pc = .ok (.imul, 1)) (K : vx_V D cl A H0 nL G h k n (pc + 1) lv (.int (x * y) :: st)) : vx_V D cl A H0 nL G h k n pc lv (.int y :: .int x :: st) := by
  obtain ⟨p, e, s, m, args, below, meth, c, Q, rfl, hx, hb, -⟩ := IG
  intro H locs ls g1 g2 g3
  exact lv_imul hx hb hd (K H locs ls g1 g2 g3)
theorem vx_iand (IG : vx_I l D cl tys R own cc nL Ts ct A H0 G) {x y : Int32} (hd : decode cc pc = .ok (.iand, 1)) (K : vx_V D cl A H0 nL G h k n (pc + 1) lv (.int (x &&& y) :: st)) : vx_V D cl A H0 nL G h k n pc lv (.int y :: .int x :: st) := by
  obtain ⟨p, e, s, m, args, below, meth, c, Q, rfl, hx, hb, -⟩ := IG
  intro H locs ls g1 g2 g3
  exact lv_iand hx hb hd (K H locs ls g1 g2 g3)
theorem vx_ior (IG : vx_I l D cl tys R own cc nL Ts ct A H0 G) {x y : Int32} (hd : decode cc pc = .ok (.ior, 1)) (K : vx_V D cl A H0 nL G h k n (pc + 1) lv (.int (x ||| y) :: st)) : vx_V D cl A H0 nL G h k n pc lv (.int y :: .int x :: st) := by
  obtain ⟨p, e, s, m, args, below, meth, c, Q, rfl, hx, hb, -⟩ := IG
  intro H locs ls g1 g2 g3
  exact lv_ior hx hb hd (K H locs ls g1 g2 g3)
theorem vx_ixor (IG : vx_I l D cl tys R own cc nL Ts ct A H0 G) {x y : Int32} (hd : decode cc pc = .ok (.ixor, 1)) (K : vx_V D cl A H0 nL G h k n (pc + 1) lv (.int (x ^^^ y) :: st)) : vx_V D cl A H0 nL G h k n pc lv (.int y :: .int x :: st) := by
  obtain ⟨p, e, s, m, args, below, meth, c, Q, rfl, hx, hb, -⟩ := IG
  intro H locs ls g1 g2 g3
  exact lv_ixor hx hb hd (K H locs ls g1 g2 g3)
theorem vx_ladd (IG : vx_I l D cl tys R own cc nL Ts ct A H0 G) {x y : Int64} (hd : decode cc pc = .ok (.ladd, 1)) (K : vx_V D cl A H0 nL G h k n (pc + 1) lv (.long (x + y) :: st)) : vx_V D cl A H0 nL G h k n pc lv (.long y :: .long x :: st) := by
  obtain ⟨p, e, s, m, args, below, meth, c, Q, rfl, hx, hb, -⟩ := IG
  intro H locs ls g1 g2 g3
  exact lv_ladd hx hb hd (K H locs ls g1 g2 g3)
theorem vx_lsub (IG : vx_I l D cl tys R own cc nL Ts ct A H0 G) {x y : Int64} (hd : decode cc pc = .ok (.lsub, 1)) (K : vx_V D cl A H0 nL G h k n (pc + 1) lv (.long (x - y) :: st)) : vx_V D cl A H0 nL G h k n pc lv (.long y :: .long x :: st) := by
  obtain ⟨p, e, s, m, args, below, meth, c, Q, rfl, hx, hb, -⟩ := IG
  intro H locs ls g1 g2 g3
  exact lv_lsub hx hb hd (K H locs ls g1 g2 g3)
theorem vx_lmul (IG : vx_I l D cl tys R own cc nL Ts ct A H0 G) {x y : Int64} (hd : decode cc pc = .ok (.lmul, 1)) (K : vx_V D cl A H0 nL G h k n (pc + 1) lv (.long (x * y) :: st)) : vx_V D cl A H0 nL G h k n pc lv (.long y :: .long x :: st) := by
  obtain ⟨p, e, s, m, args, below, meth, c, Q, rfl, hx, hb, -⟩ := IG
  intro H locs ls g1 g2 g3
  exact lv_lmul hx hb hd (K H locs ls g1 g2 g3)
theorem vx_land (IG : vx_I l D cl tys R own cc nL Ts ct A H0 G) {x y : Int64} (hd : decode cc pc = .ok (.land, 1)) (K : vx_V D cl A H0 nL G h k n (pc + 1) lv (.long (x &&& y) :: st)) : vx_V D cl A H0 nL G h k n pc lv (.long y :: .long x :: st) := by
  obtain ⟨p, e, s, m, args, below, meth, c, Q, rfl, hx, hb, -⟩ := IG
  intro H locs ls g1 g2 g3
  exact lv_land hx hb hd (K H locs ls g1 g2 g3)
theorem vx_lor (IG : vx_I l D cl tys R own cc nL Ts ct A H0 G) {x y : Int64} (hd : decode cc pc = .ok (.lor, 1)) (K : vx_V D cl A H0 nL G h k n (pc + 1) lv (.long (x ||| y) :: st)) : vx_V D cl A H0 nL G h k n pc lv (.long y :: .long x :: st) := by
  obtain ⟨p, e, s, m, args, below, meth, c, Q, rfl, hx, hb, -⟩ := IG
  intro H locs ls g1 g2 g3
  exact lv_lor hx hb hd (K H locs ls g1 g2 g3)
theorem vx_lxor (IG : vx_I l D cl tys R own cc nL Ts ct A H0 G) {x y : Int64} (hd : decode cc pc = .ok (.lxor, 1)) (K : vx_V D cl A H0 nL G h k n (pc + 1) lv (.long (x ^^^ y) :: st)) : vx_V D cl A H0 nL G h k n pc lv (.long y :: .long x :: st) := by
  obtain ⟨p, e, s, m, args, below, meth, c, Q, rfl, hx, hb, -⟩ := IG
  intro H locs ls g1 g2 g3
  exact lv_lxor hx hb hd (K H locs ls g1 g2 g3)
theorem vx_idiv (IG : vx_I l D cl tys R own cc nL Ts ct A H0 G) {x y : Int32} (hd : decode cc pc = .ok (.idiv, 1)) (hne : ¬ y = 0) (K : vx_V D cl A H0 nL G h k n (pc + 1) lv (.int (x / y) :: st)) : vx_V D cl A H0 nL G h k n pc lv (.int y :: .int x :: st) := by
  obtain ⟨p, e, s, m, args, below, meth, c, Q, rfl, hx, hb, -⟩ := IG
  intro H locs ls g1 g2 g3
  exact lv_idiv hx hb hd hne (K H locs ls g1 g2 g3)
theorem vx_ldiv (IG : vx_I l D cl tys R own cc nL Ts ct A H0 G) {x y : Int64} (hd : decode cc pc = .ok (.ldiv, 1)) (hne : ¬ y = 0) (K : vx_V D cl A H0 nL G h k n (pc + 1) lv (.long (x / y) :: st)) : vx_V D cl A H0 nL G h k n pc lv (.long y :: .long x :: st) := by
  obtain ⟨p, e, s, m, args, below, meth, c, Q, rfl, hx, hb, -⟩ := IG
  intro H locs ls g1 g2 g3
  exact lv_ldiv hx hb hd hne (K H locs ls g1 g2 g3)
theorem vx_irem (IG : vx_I l D cl tys R own cc nL Ts ct A H0 G) {x y : Int32} (hd : decode cc pc = .ok (.irem, 1)) (hne : ¬ y = 0) (K : vx_V D cl A H0 nL G h k n (pc + 1) lv (.int (x - x / y * y) :: st)) : vx_V D cl A H0 nL G h k n pc lv (.int y :: .int x :: st) := by
  obtain ⟨p, e, s, m, args, below, meth, c, Q, rfl, hx, hb, -⟩ := IG
  intro H locs ls g1 g2 g3
  exact lv_irem hx hb hd hne (K H locs ls g1 g2 g3)
theorem vx_lrem (IG : vx_I l D cl tys R own cc nL Ts ct A H0 G) {x y : Int64} (hd : decode cc pc = .ok (.lrem, 1)) (hne : ¬ y = 0) (K : vx_V D cl A H0 nL G h k n (pc + 1) lv (.long (x - x / y * y) :: st)) : vx_V D cl A H0 nL G h k n pc lv (.long y :: .long x :: st) := by
  obtain ⟨p, e, s, m, args, below, meth, c, Q, rfl, hx, hb, -⟩ := IG
  intro H locs ls g1 g2 g3
  exact lv_lrem hx hb hd hne (K H locs ls g1 g2 g3)
theorem vx_ineg (IG : vx_I l D cl tys R own cc nL Ts ct A H0 G) {x : Int32} (hd : decode cc pc = .ok (.ineg, 1)) (K : vx_V D cl A H0 nL G h k n (pc + 1) lv (.int (-x) :: st)) : vx_V D cl A H0 nL G h k n pc lv (.int x :: st) := by
  obtain ⟨p, e, s, m, args, below, meth, c, Q, rfl, hx, hb, -⟩ := IG
  intro H locs ls g1 g2 g3
  exact lv_ineg hx hb hd (K H locs ls g1 g2 g3)
theorem vx_lneg (IG : vx_I l D cl tys R own cc nL Ts ct A H0 G) {x : Int64} (hd : decode cc pc = .ok (.lneg, 1)) (K : vx_V D cl A H0 nL G h k n (pc + 1) lv (.long (-x) :: st)) : vx_V D cl A H0 nL G h k n pc lv (.long x :: st) := by
  obtain ⟨p, e, s, m, args, below, meth, c, Q, rfl, hx, hb, -⟩ := IG
  intro H locs ls g1 g2 g3
  exact lv_lneg hx hb hd (K H locs ls g1 g2 g3)
theorem vx_ishl (IG : vx_I l D cl tys R own cc nL Ts ct A H0 G) {x y : Int32} (hd : decode cc pc = .ok (.ishl, 1)) (K : vx_V D cl A H0 nL G h k n (pc + 1) lv (.int (x <<< (y &&& 31)) :: st)) : vx_V D cl A H0 nL G h k n pc lv (.int y :: .int x :: st) := by
  obtain ⟨p, e, s, m, args, below, meth, c, Q, rfl, hx, hb, -⟩ := IG
  intro H locs ls g1 g2 g3
  exact lv_ishl hx hb hd (K H locs ls g1 g2 g3)
theorem vx_ishr (IG : vx_I l D cl tys R own cc nL Ts ct A H0 G) {x y : Int32} (hd : decode cc pc = .ok (.ishr, 1)) (K : vx_V D cl A H0 nL G h k n (pc + 1) lv (.int (x >>> (y &&& 31)) :: st)) : vx_V D cl A H0 nL G h k n pc lv (.int y :: .int x :: st) := by
  obtain ⟨p, e, s, m, args, below, meth, c, Q, rfl, hx, hb, -⟩ := IG
  intro H locs ls g1 g2 g3
  exact lv_ishr hx hb hd (K H locs ls g1 g2 g3)
theorem vx_i2l (IG : vx_I l D cl tys R own cc nL Ts ct A H0 G) {x : Int32} {v : Int64} (hd : decode cc pc = .ok (.i2l, 1)) (hv : x.toInt64 = v) (K : vx_V D cl A H0 nL G h k n (pc + 1) lv (.long v :: st)) : vx_V D cl A H0 nL G h k n pc lv (.int x :: st) := by
  obtain ⟨p, e, s, m, args, below, meth, c, Q, rfl, hx, hb, -⟩ := IG
  intro H locs ls g1 g2 g3
  exact lv_i2l hx hb hd hv (K H locs ls g1 g2 g3)
theorem vx_l2i (IG : vx_I l D cl tys R own cc nL Ts ct A H0 G) {x : Int64} {v : Int32} (hd : decode cc pc = .ok (.l2i, 1)) (hv : x.toInt32 = v) (K : vx_V D cl A H0 nL G h k n (pc + 1) lv (.int v :: st)) : vx_V D cl A H0 nL G h k n pc lv (.long x :: st) := by
  obtain ⟨p, e, s, m, args, below, meth, c, Q, rfl, hx, hb, -⟩ := IG
  intro H locs ls g1 g2 g3
  exact lv_l2i hx hb hd hv (K H locs ls g1 g2 g3)
theorem vx_i2b (IG : vx_I l D cl tys R own cc nL Ts ct A H0 G) {x v : Int32} (hd : decode cc pc = .ok (.i2b, 1)) (hv : x.toInt8.toInt32 = v) (K : vx_V D cl A H0 nL G h k n (pc + 1) lv (.int v :: st)) : vx_V D cl A H0 nL G h k n pc lv (.int x :: st) := by
  obtain ⟨p, e, s, m, args, below, meth, c, Q, rfl, hx, hb, -⟩ := IG
  intro H locs ls g1 g2 g3
  exact lv_i2b hx hb hd hv (K H locs ls g1 g2 g3)
theorem vx_iushr (IG : vx_I l D cl tys R own cc nL Ts ct A H0 G) {x y v : Int32} (hd : decode cc pc = .ok (.iushr, 1)) (hv : (x.toUInt32 >>> (y.toUInt32 &&& Int32.toUInt32 31)).toInt32 = v) (K : vx_V D cl A H0 nL G h k n (pc + 1) lv (.int v :: st)) : vx_V D cl A H0 nL G h k n pc lv (.int y :: .int x :: st) := by
  obtain ⟨p, e, s, m, args, below, meth, c, Q, rfl, hx, hb, -⟩ := IG
  intro H locs ls g1 g2 g3
  exact lv_iushr hx hb hd hv (K H locs ls g1 g2 g3)
theorem vx_lushr (IG : vx_I l D cl tys R own cc nL Ts ct A H0 G) {x v : Int64} {y : Int32} (hd : decode cc pc = .ok (.lushr, 1)) (hv : (x.toUInt64 >>> (y.toInt64.toUInt64 &&& Int64.toUInt64 63)).toInt64 = v) (K : vx_V D cl A H0 nL G h k n (pc + 1) lv (.long v :: st)) : vx_V D cl A H0 nL G h k n pc lv (.int y :: .long x :: st) := by
  obtain ⟨p, e, s, m, args, below, meth, c, Q, rfl, hx, hb, -⟩ := IG
  intro H locs ls g1 g2 g3
  exact lv_lushr hx hb hd hv (K H locs ls g1 g2 g3)
theorem vx_lshl (IG : vx_I l D cl tys R own cc nL Ts ct A H0 G) {x v : Int64} {y : Int32} (hd : decode cc pc = .ok (.lshl, 1)) (hv : x <<< (y.toInt64 &&& 63) = v) (K : vx_V D cl A H0 nL G h k n (pc + 1) lv (.long v :: st)) : vx_V D cl A H0 nL G h k n pc lv (.int y :: .long x :: st) := by
  obtain ⟨p, e, s, m, args, below, meth, c, Q, rfl, hx, hb, -⟩ := IG
  intro H locs ls g1 g2 g3
  exact lv_lshl hx hb hd hv (K H locs ls g1 g2 g3)
theorem vx_lshr (IG : vx_I l D cl tys R own cc nL Ts ct A H0 G) {x v : Int64} {y : Int32} (hd : decode cc pc = .ok (.lshr, 1)) (hv : x >>> (y.toInt64 &&& 63) = v) (K : vx_V D cl A H0 nL G h k n (pc + 1) lv (.long v :: st)) : vx_V D cl A H0 nL G h k n pc lv (.int y :: .long x :: st) := by
  obtain ⟨p, e, s, m, args, below, meth, c, Q, rfl, hx, hb, -⟩ := IG
  intro H locs ls g1 g2 g3
  exact lv_lshr hx hb hd hv (K H locs ls g1 g2 g3)
theorem vx_lcmp (IG : vx_I l D cl tys R own cc nL Ts ct A H0 G) {x y : Int64} (hd : decode cc pc = .ok (.lcmp, 1)) (K : vx_V D cl A H0 nL G h k n (pc + 1) lv (.int (lg_cmp x y) :: st)) : vx_V D cl A H0 nL G h k n pc lv (.long y :: .long x :: st) := by
  obtain ⟨p, e, s, m, args, below, meth, c, Q, rfl, hx, hb, -⟩ := IG
  intro H locs ls g1 g2 g3
  exact W.lcmp hx hb hd (K H locs ls g1 g2 g3)
theorem vx_dup (IG : vx_I l D cl tys R own cc nL Ts ct A H0 G) {va : Value} (hd : decode cc pc = .ok (.dup, 1)) (hva : va.category = 1) (K : vx_V D cl A H0 nL G h k n (pc + 1) lv (va :: va :: st)) : vx_V D cl A H0 nL G h k n pc lv (va :: st) := by
  obtain ⟨p, e, s, m, args, below, meth, c, Q, rfl, hx, hb, -⟩ := IG
  intro H locs ls g1 g2 g3
  exact lv_dup hx hb hd hva (K H locs ls g1 g2 g3)
theorem vx_pop (IG : vx_I l D cl tys R own cc nL Ts ct A H0 G) {va : Value} (hd : decode cc pc = .ok (.pop, 1)) (hva : va.category = 1) (K : vx_V D cl A H0 nL G h k n (pc + 1) lv (st)) : vx_V D cl A H0 nL G h k n pc lv (va :: st) := by
  obtain ⟨p, e, s, m, args, below, meth, c, Q, rfl, hx, hb, -⟩ := IG
  intro H locs ls g1 g2 g3
  exact lv_pop hx hb hd hva (K H locs ls g1 g2 g3)
theorem vx_dup_x1 (IG : vx_I l D cl tys R own cc nL Ts ct A H0 G) {va vb : Value} (hd : decode cc pc = .ok (.dup_x1, 1)) (hva : va.category = 1) (hvb : vb.category = 1) (K : vx_V D cl A H0 nL G h k n (pc + 1) lv (va :: vb :: va :: st)) : vx_V D cl A H0 nL G h k n pc lv (va :: vb :: st) := by
  obtain ⟨p, e, s, m, args, below, meth, c, Q, rfl, hx, hb, -⟩ := IG
  intro H locs ls g1 g2 g3
  exact lv_dup_x1 hx hb hd hva hvb (K H locs ls g1 g2 g3)
theorem vx_dup_x2 (IG : vx_I l D cl tys R own cc nL Ts ct A H0 G) {va vb vd : Value} (hd : decode cc pc = .ok (.dup_x2, 1)) (hva : va.category = 1) (hvb : vb.category = 1) (hvd : vd.category = 1) (K : vx_V D cl A H0 nL G h k n (pc + 1) lv (va :: vb :: vd :: va :: st)) : vx_V D cl A H0 nL G h k n pc lv (va :: vb :: vd :: st) := by
  obtain ⟨p, e, s, m, args, below, meth, c, Q, rfl, hx, hb, -⟩ := IG
  intro H locs ls g1 g2 g3
  exact lv_dup_x2 hx hb hd hva hvb hvd (K H locs ls g1 g2 g3)
theorem vx_dup2 (IG : vx_I l D cl tys R own cc nL Ts ct A H0 G) {va vb : Value} (hd : decode cc pc = .ok (.dup2, 1)) (hva : va.category = 1) (hvb : vb.category = 1) (K : vx_V D cl A H0 nL G h k n (pc + 1) lv (va :: vb :: va :: vb :: st)) : vx_V D cl A H0 nL G h k n pc lv (va :: vb :: st) := by
  obtain ⟨p, e, s, m, args, below, meth, c, Q, rfl, hx, hb, -⟩ := IG
  intro H locs ls g1 g2 g3
  exact lv_dup2_11 hx hb hd hva hvb (K H locs ls g1 g2 g3)
theorem vx_dup2_2 (IG : vx_I l D cl tys R own cc nL Ts ct A H0 G) {va : Value} (hd : decode cc pc = .ok (.dup2, 1)) (hva : va.category = 2) (K : vx_V D cl A H0 nL G h k n (pc + 1) lv (va :: va :: st)) : vx_V D cl A H0 nL G h k n pc lv (va :: st) := by
  obtain ⟨p, e, s, m, args, below, meth, c, Q, rfl, hx, hb, -⟩ := IG
  intro H locs ls g1 g2 g3
  exact lv_dup2_2 hx hb hd hva (K H locs ls g1 g2 g3)
theorem vx_pop2_2 (IG : vx_I l D cl tys R own cc nL Ts ct A H0 G) {va : Value} (hd : decode cc pc = .ok (.pop2, 1)) (hva : va.category = 2) (K : vx_V D cl A H0 nL G h k n (pc + 1) lv (st)) : vx_V D cl A H0 nL G h k n pc lv (va :: st) := by
  obtain ⟨p, e, s, m, args, below, meth, c, Q, rfl, hx, hb, -⟩ := IG
  intro H locs ls g1 g2 g3
  exact lv_pop2_2 hx hb hd hva (K H locs ls g1 g2 g3)
theorem vx_dup2_x1_2 (IG : vx_I l D cl tys R own cc nL Ts ct A H0 G) {va vb : Value} (hd : decode cc pc = .ok (.dup2_x1, 1)) (hva : va.category = 2) (hvb : vb.category = 1) (K : vx_V D cl A H0 nL G h k n (pc + 1) lv (va :: vb :: va :: st)) : vx_V D cl A H0 nL G h k n pc lv (va :: vb :: st) := by
  obtain ⟨p, e, s, m, args, below, meth, c, Q, rfl, hx, hb, -⟩ := IG
  intro H locs ls g1 g2 g3
  exact lv_dup2_x1_2 hx hb hd hva hvb (K H locs ls g1 g2 g3)
theorem vx_dup2_x2_2 (IG : vx_I l D cl tys R own cc nL Ts ct A H0 G) {va vb vd : Value} (hd : decode cc pc = .ok (.dup2_x2, 1)) (hva : va.category = 2) (hvb : vb.category = 1) (hvd : vd.category = 1) (K : vx_V D cl A H0 nL G h k n (pc + 1) lv (va :: vb :: vd :: va :: st)) : vx_V D cl A H0 nL G h k n pc lv (va :: vb :: vd :: st) := by
  obtain ⟨p, e, s, m, args, below, meth, c, Q, rfl, hx, hb, -⟩ := IG
  intro H locs ls g1 g2 g3
  exact lv_dup2_x2_2 hx hb hd hva hvb hvd (K H locs ls g1 g2 g3)
theorem vx_iload_n (IG : vx_I l D cl tys R own cc nL Ts ct A H0 G) {j : Fin 4} {i : Nat} {x : Int32} (hd : decode cc pc = .ok (.iload_n j, 1)) (hi : (j : Nat) = i) (q : Nat) (hq : lv[q]? = some (i, .int x)) (K : vx_V D cl A H0 nL G h k n (pc + 1) lv (.int x :: st)) : vx_V D cl A H0 nL G h k n pc lv (st) := by
  obtain ⟨p, e, s, m, args, below, meth, c, Q, rfl, hx, hb, -⟩ := IG
  intro H locs ls g1 g2 g3
  exact lv_iload_n hx hb hd hi (lv_at g3 q hq) (K H locs ls g1 g2 g3)
theorem vx_iload (IG : vx_I l D cl tys R own cc nL Ts ct A H0 G) {i : Nat} {x : Int32} (hd : decode cc pc = .ok (.iload i, 2)) (q : Nat) (hq : lv[q]? = some (i, .int x)) (K : vx_V D cl A H0 nL G h k n (pc + 2) lv (.int x :: st)) : vx_V D cl A H0 nL G h k n pc lv (st) := by
  obtain ⟨p, e, s, m, args, below, meth, c, Q, rfl, hx, hb, -⟩ := IG
  intro H locs ls g1 g2 g3
  exact lv_iload hx hb hd (lv_at g3 q hq) (K H locs ls g1 g2 g3)
theorem vx_istore_n (IG : vx_I l D cl tys R own cc nL Ts ct A H0 G) {j : Fin 4} {i : Nat} {x : Int32} {lv' : List (Nat × Value)} (hd : decode cc pc = .ok (.istore_n j, 1)) (hi : (j : Nat) = i) (hn : i < nL) (hl : (i, Value.int x) :: lv.filter (fun q => !(q.1 == i) && !(q.1 + 1 == i && q.2.category == 2)) = lv') (K : vx_V D cl A H0 nL G h k n (pc + 1) lv' st) : vx_V D cl A H0 nL G h k n pc lv (.int x :: st) := by
  obtain ⟨p, e, s, m, args, below, meth, c, Q, rfl, hx, hb, -⟩ := IG
  intro H locs ls g1 g2 g3
  exact lv_istore_n hx hb hd hi g3 hn hl (fun ls' g3' => K H locs ls' g1 g2 g3')
theorem vx_istore (IG : vx_I l D cl tys R own cc nL Ts ct A H0 G) {i : Nat} {x : Int32} {lv' : List (Nat × Value)} (hd : decode cc pc = .ok (.istore i, 2)) (hn : i < nL) (hl : (i, Value.int x) :: lv.filter (fun q => !(q.1 == i) && !(q.1 + 1 == i && q.2.category == 2)) = lv') (K : vx_V D cl A H0 nL G h k n (pc + 2) lv' st) : vx_V D cl A H0 nL G h k n pc lv (.int x :: st) := by
  obtain ⟨p, e, s, m, args, below, meth, c, Q, rfl, hx, hb, -⟩ := IG
  intro H locs ls g1 g2 g3
  exact lv_istore hx hb hd g3 hn hl (fun ls' g3' => K H locs ls' g1 g2 g3')
theorem vx_lload_n (IG : vx_I l D cl tys R own cc nL Ts ct A H0 G) {j : Fin 4} {i : Nat} {x : Int64} (hd : decode cc pc = .ok (.lload_n j, 1)) (hi : (j : Nat) = i) (q : Nat) (hq : lv[q]? = some (i, .long x)) (K : vx_V D cl A H0 nL G h k n (pc + 1) lv (.long x :: st)) : vx_V D cl A H0 nL G h k n pc lv (st) := by
  obtain ⟨p, e, s, m, args, below, meth, c, Q, rfl, hx, hb, -⟩ := IG
  intro H locs ls g1 g2 g3
  exact lv_lload_n hx hb hd hi (lv_at g3 q hq) (K H locs ls g1 g2 g3)
theorem vx_lload (IG : vx_I l D cl tys R own cc nL Ts ct A H0 G) {i : Nat} {x : Int64} (hd : decode cc pc = .ok (.lload i, 2)) (q : Nat) (hq : lv[q]? = some (i, .long x)) (K : vx_V D cl A H0 nL G h k n (pc + 2) lv (.long x :: st)) : vx_V D cl A H0 nL G h k n pc lv (st) := by
  obtain ⟨p, e, s, m, args, below, meth, c, Q, rfl, hx, hb, -⟩ := IG
  intro H locs ls g1 g2 g3
  exact lv_lload hx hb hd (lv_at g3 q hq) (K H locs ls g1 g2 g3)
theorem vx_lstore_n (IG : vx_I l D cl tys R own cc nL Ts ct A H0 G) {j : Fin 4} {i : Nat} {x : Int64} {lv' : List (Nat × Value)} (hd : decode cc pc = .ok (.lstore_n j, 1)) (hi : (j : Nat) = i) (hn : i + 1 < nL) (hl : (i, Value.long x) :: lv.filter (fun q => !(q.1 == i) && (!(q.1 == i + 1) && !(q.1 + 1 == i && q.2.category == 2))) = lv') (K : vx_V D cl A H0 nL G h k n (pc + 1) lv' st) : vx_V D cl A H0 nL G h k n pc lv (.long x :: st) := by
  obtain ⟨p, e, s, m, args, below, meth, c, Q, rfl, hx, hb, -⟩ := IG
  intro H locs ls g1 g2 g3
  exact lv_lstore_n hx hb hd hi g3 hn hl (fun ls' g3' => K H locs ls' g1 g2 g3')
theorem vx_lstore (IG : vx_I l D cl tys R own cc nL Ts ct A H0 G) {i : Nat} {x : Int64} {lv' : List (Nat × Value)} (hd : decode cc pc = .ok (.lstore i, 2)) (hn : i + 1 < nL) (hl : (i, Value.long x) :: lv.filter (fun q => !(q.1 == i) && (!(q.1 == i + 1) && !(q.1 + 1 == i && q.2.category == 2))) = lv') (K : vx_V D cl A H0 nL G h k n (pc + 2) lv' st) : vx_V D cl A H0 nL G h k n pc lv (.long x :: st) := by
  obtain ⟨p, e, s, m, args, below, meth, c, Q, rfl, hx, hb, -⟩ := IG
  intro H locs ls g1 g2 g3
  exact lv_lstore hx hb hd g3 hn hl (fun ls' g3' => K H locs ls' g1 g2 g3')
theorem vx_aload_n (IG : vx_I l D cl tys R own cc nL Ts ct A H0 G) {j : Fin 4} {i : Nat} {x : Nat} (hd : decode cc pc = .ok (.aload_n j, 1)) (hi : (j : Nat) = i) (q : Nat) (hq : lv[q]? = some (i, .ref x)) (K : vx_V D cl A H0 nL G h k n (pc + 1) lv (.ref x :: st)) : vx_V D cl A H0 nL G h k n pc lv (st) := by
  obtain ⟨p, e, s, m, args, below, meth, c, Q, rfl, hx, hb, -⟩ := IG
  intro H locs ls g1 g2 g3
  exact lv_aload_n hx hb hd hi (lv_at g3 q hq) (K H locs ls g1 g2 g3)
theorem vx_aload (IG : vx_I l D cl tys R own cc nL Ts ct A H0 G) {i : Nat} {x : Nat} (hd : decode cc pc = .ok (.aload i, 2)) (q : Nat) (hq : lv[q]? = some (i, .ref x)) (K : vx_V D cl A H0 nL G h k n (pc + 2) lv (.ref x :: st)) : vx_V D cl A H0 nL G h k n pc lv (st) := by
  obtain ⟨p, e, s, m, args, below, meth, c, Q, rfl, hx, hb, -⟩ := IG
  intro H locs ls g1 g2 g3
  exact lv_aload hx hb hd (lv_at g3 q hq) (K H locs ls g1 g2 g3)
theorem vx_astore_n (IG : vx_I l D cl tys R own cc nL Ts ct A H0 G) {j : Fin 4} {i : Nat} {x : Nat} {lv' : List (Nat × Value)} (hd : decode cc pc = .ok (.astore_n j, 1)) (hi : (j : Nat) = i) (hn : i < nL) (hl : (i, Value.ref x) :: lv.filter (fun q => !(q.1 == i) && !(q.1 + 1 == i && q.2.category == 2)) = lv') (K : vx_V D cl A H0 nL G h k n (pc + 1) lv' st) : vx_V D cl A H0 nL G h k n pc lv (.ref x :: st) := by
  obtain ⟨p, e, s, m, args, below, meth, c, Q, rfl, hx, hb, -⟩ := IG
  intro H locs ls g1 g2 g3
  exact lv_astore_n hx hb hd hi g3 hn hl (fun ls' g3' => K H locs ls' g1 g2 g3')
theorem vx_astore (IG : vx_I l D cl tys R own cc nL Ts ct A H0 G) {i : Nat} {x : Nat} {lv' : List (Nat × Value)} (hd : decode cc pc = .ok (.astore i, 2)) (hn : i < nL) (hl : (i, Value.ref x) :: lv.filter (fun q => !(q.1 == i) && !(q.1 + 1 == i && q.2.category == 2)) = lv') (K : vx_V D cl A H0 nL G h k n (pc + 2) lv' st) : vx_V D cl A H0 nL G h k n pc lv (.ref x :: st) := by
  obtain ⟨p, e, s, m, args, below, meth, c, Q, rfl, hx, hb, -⟩ := IG
  intro H locs ls g1 g2 g3
  exact lv_astore hx hb hd g3 hn hl (fun ls' g3' => K H locs ls' g1 g2 g3')
theorem vx_iinc (IG : vx_I l D cl tys R own cc nL Ts ct A H0 G) {i q : Nat} {c : Int} {x v : Int32} {lv' : List (Nat × Value)} (hd : decode cc pc = .ok (.iinc i c, 3)) (hq : lv[q]? = some (i, .int x)) (hv : x + Int32.ofInt c = v) (hn : i < nL) (hl : (i, Value.int v) :: lv.filter (fun q => !(q.1 == i) && !(q.1 + 1 == i && q.2.category == 2)) = lv') (K : vx_V D cl A H0 nL G h k n (pc + 3) lv' st) : vx_V D cl A H0 nL G h k n pc lv (st) := by
  obtain ⟨p, e, s, m, args, below, meth, c, Q, rfl, hx, hb, -⟩ := IG
  intro H locs ls g1 g2 g3
  exact lv_iinc hx hb hd g3 hq hv hn hl (fun ls' g3' => K H locs ls' g1 g2 g3')
theorem vx_if_eq (IG : vx_I l D cl tys R own cc nL Ts ct A H0 G) {x : Int32} {off : Int} {tgt : Nat} (hd : decode cc pc = .ok (.ifCond .eq off, 3)) (ht : (pc : Int) + off = (tgt : Int)) (KT : x = 0 → vx_V D cl A H0 nL G h k n tgt lv st) (KF : ¬ x = 0 → vx_V D cl A H0 nL G h k n (pc + 3) lv st) : vx_V D cl A H0 nL G h k n pc lv (.int x :: st) := by
  obtain ⟨p, e, s, m, args, below, meth, c, Q, rfl, hx, hb, -⟩ := IG
  intro H locs ls g1 g2 g3
  exact lv_if_eq hx hb hd ht (fun q => KT q H locs ls g1 g2 g3) (fun q => KF q H locs ls g1 g2 g3)
theorem vx_icmp_eq (IG : vx_I l D cl tys R own cc nL Ts ct A H0 G) {x y : Int32} {off : Int} {tgt : Nat} (hd : decode cc pc = .ok (.if_icmp .eq off, 3)) (ht : (pc : Int) + off = (tgt : Int)) (KT : x = y → vx_V D cl A H0 nL G h k n tgt lv st) (KF : ¬ x = y → vx_V D cl A H0 nL G h k n (pc + 3) lv st) : vx_V D cl A H0 nL G h k n pc lv (.int y :: .int x :: st) := by
  obtain ⟨p, e, s, m, args, below, meth, c, Q, rfl, hx, hb, -⟩ := IG
  intro H locs ls g1 g2 g3
  exact lv_icmp_eq hx hb hd ht (fun q => KT q H locs ls g1 g2 g3) (fun q => KF q H locs ls g1 g2 g3)
theorem vx_if_ne (IG : vx_I l D cl tys R own cc nL Ts ct A H0 G) {x : Int32} {off : Int} {tgt : Nat} (hd : decode cc pc = .ok (.ifCond .ne off, 3)) (ht : (pc : Int) + off = (tgt : Int)) (KT : ¬ x = 0 → vx_V D cl A H0 nL G h k n tgt lv st) (KF : x = 0 → vx_V D cl A H0 nL G h k n (pc + 3) lv st) : vx_V D cl A H0 nL G h k n pc lv (.int x :: st) := by
  obtain ⟨p, e, s, m, args, below, meth, c, Q, rfl, hx, hb, -⟩ := IG
  intro H locs ls g1 g2 g3
  exact lv_if_ne hx hb hd ht (fun q => KT q H locs ls g1 g2 g3) (fun q => KF q H locs ls g1 g2 g3)
theorem vx_icmp_ne (IG : vx_I l D cl tys R own cc nL Ts ct A H0 G) {x y : Int32} {off : Int} {tgt : Nat} (hd : decode cc pc = .ok (.if_icmp .ne off, 3)) (ht : (pc : Int) + off = (tgt : Int)) (KT : ¬ x = y → vx_V D cl A H0 nL G h k n tgt lv st) (KF : x = y → vx_V D cl A H0 nL G h k n (pc + 3) lv st) : vx_V D cl A H0 nL G h k n pc lv (.int y :: .int x :: st) := by
  obtain ⟨p, e, s, m, args, below, meth, c, Q, rfl, hx, hb, -⟩ := IG
  intro H locs ls g1 g2 g3
  exact lv_icmp_ne hx hb hd ht (fun q => KT q H locs ls g1 g2 g3) (fun q => KF q H locs ls g1 g2 g3)
theorem vx_if_lt (IG : vx_I l D cl tys R own cc nL Ts ct A H0 G) {x : Int32} {off : Int} {tgt : Nat} (hd : decode cc pc = .ok (.ifCond .lt off, 3)) (ht : (pc : Int) + off = (tgt : Int)) (KT : x < 0 → vx_V D cl A H0 nL G h k n tgt lv st) (KF : ¬ x < 0 → vx_V D cl A H0 nL G h k n (pc + 3) lv st) : vx_V D cl A H0 nL G h k n pc lv (.int x :: st) := by
  obtain ⟨p, e, s, m, args, below, meth, c, Q, rfl, hx, hb, -⟩ := IG
  intro H locs ls g1 g2 g3
  exact lv_if_lt hx hb hd ht (fun q => KT q H locs ls g1 g2 g3) (fun q => KF q H locs ls g1 g2 g3)
theorem vx_icmp_lt (IG : vx_I l D cl tys R own cc nL Ts ct A H0 G) {x y : Int32} {off : Int} {tgt : Nat} (hd : decode cc pc = .ok (.if_icmp .lt off, 3)) (ht : (pc : Int) + off = (tgt : Int)) (KT : x < y → vx_V D cl A H0 nL G h k n tgt lv st) (KF : ¬ x < y → vx_V D cl A H0 nL G h k n (pc + 3) lv st) : vx_V D cl A H0 nL G h k n pc lv (.int y :: .int x :: st) := by
  obtain ⟨p, e, s, m, args, below, meth, c, Q, rfl, hx, hb, -⟩ := IG
  intro H locs ls g1 g2 g3
  exact lv_icmp_lt hx hb hd ht (fun q => KT q H locs ls g1 g2 g3) (fun q => KF q H locs ls g1 g2 g3)
theorem vx_if_ge (IG : vx_I l D cl tys R own cc nL Ts ct A H0 G) {x : Int32} {off : Int} {tgt : Nat} (hd : decode cc pc = .ok (.ifCond .ge off, 3)) (ht : (pc : Int) + off = (tgt : Int)) (KT : 0 ≤ x → vx_V D cl A H0 nL G h k n tgt lv st) (KF : ¬ 0 ≤ x → vx_V D cl A H0 nL G h k n (pc + 3) lv st) : vx_V D cl A H0 nL G h k n pc lv (.int x :: st) := by
  obtain ⟨p, e, s, m, args, below, meth, c, Q, rfl, hx, hb, -⟩ := IG
  intro H locs ls g1 g2 g3
  exact lv_if_ge hx hb hd ht (fun q => KT q H locs ls g1 g2 g3) (fun q => KF q H locs ls g1 g2 g3)
theorem vx_icmp_ge (IG : vx_I l D cl tys R own cc nL Ts ct A H0 G) {x y : Int32} {off : Int} {tgt : Nat} (hd : decode cc pc = .ok (.if_icmp .ge off, 3)) (ht : (pc : Int) + off = (tgt : Int)) (KT : y ≤ x → vx_V D cl A H0 nL G h k n tgt lv st) (KF : ¬ y ≤ x → vx_V D cl A H0 nL G h k n (pc + 3) lv st) : vx_V D cl A H0 nL G h k n pc lv (.int y :: .int x :: st) := by
  obtain ⟨p, e, s, m, args, below, meth, c, Q, rfl, hx, hb, -⟩ := IG
  intro H locs ls g1 g2 g3
  exact lv_icmp_ge hx hb hd ht (fun q => KT q H locs ls g1 g2 g3) (fun q => KF q H locs ls g1 g2 g3)
theorem vx_if_gt (IG : vx_I l D cl tys R own cc nL Ts ct A H0 G) {x : Int32} {off : Int} {tgt : Nat} (hd : decode cc pc = .ok (.ifCond .gt off, 3)) (ht : (pc : Int) + off = (tgt : Int)) (KT : 0 < x → vx_V D cl A H0 nL G h k n tgt lv st) (KF : ¬ 0 < x → vx_V D cl A H0 nL G h k n (pc + 3) lv st) : vx_V D cl A H0 nL G h k n pc lv (.int x :: st) := by
  obtain ⟨p, e, s, m, args, below, meth, c, Q, rfl, hx, hb, -⟩ := IG
  intro H locs ls g1 g2 g3
  exact lv_if_gt hx hb hd ht (fun q => KT q H locs ls g1 g2 g3) (fun q => KF q H locs ls g1 g2 g3)
theorem vx_icmp_gt (IG : vx_I l D cl tys R own cc nL Ts ct A H0 G) {x y : Int32} {off : Int} {tgt : Nat} (hd : decode cc pc = .ok (.if_icmp .gt off, 3)) (ht : (pc : Int) + off = (tgt : Int)) (KT : y < x → vx_V D cl A H0 nL G h k n tgt lv st) (KF : ¬ y < x → vx_V D cl A H0 nL G h k n (pc + 3) lv st) : vx_V D cl A H0 nL G h k n pc lv (.int y :: .int x :: st) := by
  obtain ⟨p, e, s, m, args, below, meth, c, Q, rfl, hx, hb, -⟩ := IG
  intro H locs ls g1 g2 g3
  exact lv_icmp_gt hx hb hd ht (fun q => KT q H locs ls g1 g2 g3) (fun q => KF q H locs ls g1 g2 g3)
theorem vx_if_le (IG : vx_I l D cl tys R own cc nL Ts ct A H0 G) {x : Int32} {off : Int} {tgt : Nat} (hd : decode cc pc = .ok (.ifCond .le off, 3)) (ht : (pc : Int) + off = (tgt : Int)) (KT : x ≤ 0 → vx_V D cl A H0 nL G h k n tgt lv st) (KF : ¬ x ≤ 0 → vx_V D cl A H0 nL G h k n (pc + 3) lv st) : vx_V D cl A H0 nL G h k n pc lv (.int x :: st) := by
  obtain ⟨p, e, s, m, args, below, meth, c, Q, rfl, hx, hb, -⟩ := IG
  intro H locs ls g1 g2 g3
  exact lv_if_le hx hb hd ht (fun q => KT q H locs ls g1 g2 g3) (fun q => KF q H locs ls g1 g2 g3)
theorem vx_icmp_le (IG : vx_I l D cl tys R own cc nL Ts ct A H0 G) {x y : Int32} {off : Int} {tgt : Nat} (hd : decode cc pc = .ok (.if_icmp .le off, 3)) (ht : (pc : Int) + off = (tgt : Int)) (KT : x ≤ y → vx_V D cl A H0 nL G h k n tgt lv st) (KF : ¬ x ≤ y → vx_V D cl A H0 nL G h k n (pc + 3) lv st) : vx_V D cl A H0 nL G h k n pc lv (.int y :: .int x :: st) := by
  obtain ⟨p, e, s, m, args, below, meth, c, Q, rfl, hx, hb, -⟩ := IG
  intro H locs ls g1 g2 g3
  exact lv_icmp_le hx hb hd ht (fun q => KT q H locs ls g1 g2 g3) (fun q => KF q H locs ls g1 g2 g3)
theorem vx_goto (IG : vx_I l D cl tys R own cc nL Ts ct A H0 G) {off : Int} {tgt : Nat} (hd : decode cc pc = .ok (.goto off, 3)) (ht : (pc : Int) + off = (tgt : Int)) (K : vx_V D cl A H0 nL G h k n tgt lv st) : vx_V D cl A H0 nL G h k n pc lv (st) := by
  obtain ⟨p, e, s, m, args, below, meth, c, Q, rfl, hx, hb, -⟩ := IG
  intro H locs ls g1 g2 g3
  exact lv_goto hx hb hd ht (K H locs ls g1 g2 g3)
theorem vx_same (IG : vx_I l D cl tys R own cc nL Ts ct A H0 G) {lv' : List (Nat × Value)} (ks : List Nat) (hl : lv_pick lv ks = lv') (K : vx_V D cl A H0 nL G h k n pc lv' st) : vx_V D cl A H0 nL G h k n pc lv st :=
  fun H locs ls g1 g2 g3 => K H locs ls g1 g2 (lv_sub g3 ks hl)
theorem vx_widen (IG : vx_I l D cl tys R own cc nL Ts ct A H0 G) {k' n' : Nat} (hk : k ≤ k') (hn : n ≤ n') (K : vx_V D cl A H0 nL G h k' n' pc lv st) : vx_V D cl A H0 nL G h k n pc lv st := by
  obtain ⟨p, e, s, m, args, below, meth, c, Q, rfl, hx, hb, -⟩ := IG
  intro H locs ls g1 g2 g3
  exact W.widen hk hn (K H locs ls g1 g2 g3)
theorem vx_ldc (IG : vx_I l D cl tys R own cc nL Ts ct A H0 G) {index : Nat} {v : Int32} (hm : Cond.constant own index v ∈ Ts) (hd : decode cc pc = .ok (.ldc index, 2)) (K : vx_V D cl A H0 nL G h k n (pc + 2) lv (.int v :: st)) : vx_V D cl A H0 nL G h k n pc lv st := by
  obtain ⟨p, e, s, m, args, below, meth, c, Q, rfl, hx, hb, hml, hown, hts, -⟩ := IG
  intro H locs ls g1 g2 g3
  exact lv_ldc hx hb hown (hts _ hm) hd (K H locs ls g1 g2 g3)
theorem vx_ldc2 (IG : vx_I l D cl tys R own cc nL Ts ct A H0 G) {index : Nat} {v : Int64} (hm : Cond.constantLong own index v ∈ Ts) (hd : decode cc pc = .ok (.ldc2_w index, 3)) (K : vx_V D cl A H0 nL G h k n (pc + 3) lv (.long v :: st)) : vx_V D cl A H0 nL G h k n pc lv st := by
  obtain ⟨p, e, s, m, args, below, meth, c, Q, rfl, hx, hb, hml, hown, hts, -⟩ := IG
  intro H locs ls g1 g2 g3
  exact lv_ldc2 hx hb hown (hts _ hm) hd (K H locs ls g1 g2 g3)
/-- the body's end -/
theorem vx_ret {ret : Option FieldType} {post : Option Value → vx_h → Nat → Nat → Prop} (v : Option Value) (RG : vx_R D cl A H0 cc ret post G) (he : vx_end ret cc pc v) (hs : v.toList = st) (hp : post v h k n) : vx_V D cl A H0 nL G h k n pc lv st := by
  intro H locs ls g1 g2 g3
  rw [← hs]
  exact RG H locs ls pc k n h v g1 g2 he hp
theorem vx_endv (hd : decode cc pc = .ok (.return_, 1)) : vx_end none cc pc none := Or.inl ⟨rfl, rfl, hd⟩
theorem vx_endi {ty : FieldType} {x : Int32} (hn : narrow ty (.int x) = .int x) (hd : decode cc pc = .ok (.ireturn, 1)) : vx_end (some ty) cc pc (some (.int x)) := Or.inr (Or.inl ⟨ty, x, rfl, hn, rfl, hd⟩)
theorem vx_endl {x : Int64} (hd : decode cc pc = .ok (.lreturn, 1)) : vx_end (some .long) cc pc (some (.long x)) := Or.inr (Or.inr (Or.inl ⟨x, rfl, rfl, hd⟩))
theorem vx_enda {ty : FieldType} {x : Nat} (ht : (∃ n, ty = .object n) ∨ ∃ t, ty = .array t) (hd : decode cc pc = .ok (.areturn, 1)) : vx_end (some ty) cc pc (some (.ref x)) := Or.inr (Or.inr (Or.inr ⟨ty, x, rfl, ht, rfl, hd⟩))
/-- a field is read -/
theorem vx_get (IG : vx_I l D cl tys R own cc nL Ts ct A H0 G) {C ref : String} {T : u_T} {N ci index a : Nat} {fs : List Value} {v : Value} (he : h a = some (.inr (ci, fs))) (hc : cl[ci]? = some (C, T, N)) (j : Nat) (hj : j < N) (hin : ∀ w ∈ u_ws C T N, w ∈ Ts) (hm : Cond.fieldLink own index ref (T j).2.1 (T j).2.2.1 ∈ Ts) (hr : (T j).1 = ref) (hv : fs[j]? = some v) (hd : decode cc pc = .ok (.getfield index, 3)) (K : vx_V D cl A H0 nL G h k n (pc + 3) lv (v :: st)) : vx_V D cl A H0 nL G h k n pc lv (.ref a :: st) := by
  obtain ⟨p, e, s, m, args, below, meth, c, Q, rfl, hx, hb, hml, hown, hts, hK, -⟩ := IG
  intro H locs ls g1 g2 g3
  obtain ⟨ws, hP, hD, cov⟩ := vx_list g1
  obtain ⟨q, hq⟩ := cov a _ he
  subst hr
  exact va_get hx hb hts hin hown hK hP q hq hc j hj (hts _ hm) (fun _ z => z) hv hd (K H locs ls g1 g2 g3)
theorem vx_getN (IG : vx_I l D cl tys R own cc nL Ts ct A H0 G) {C ref host : String} {T : u_T} {N ci index a : Nat} {fs : List Value} {v : Value} (he : h a = some (.inr (ci, fs))) (hc : cl[ci]? = some (C, T, N)) (j : Nat) (hj : j < N) (hin : ∀ w ∈ u_ws C T N, w ∈ Ts) (hm : Cond.fieldLinkNest own index ref (T j).2.1 (T j).2.2.1 host ∈ Ts) (hr : (T j).1 = ref) (hv : fs[j]? = some v) (hd : decode cc pc = .ok (.getfield index, 3)) (K : vx_V D cl A H0 nL G h k n (pc + 3) lv (v :: st)) : vx_V D cl A H0 nL G h k n pc lv (.ref a :: st) := by
  obtain ⟨p, e, s, m, args, below, meth, c, Q, rfl, hx, hb, hml, hown, hts, hK, -⟩ := IG
  intro H locs ls g1 g2 g3
  obtain ⟨ws, hP, hD, cov⟩ := vx_list g1
  obtain ⟨q, hq⟩ := cov a _ he
  subst hr
  exact va_getN hx hb hts hin hown hK hP q hq hc j hj (hts _ hm) (fun _ z => z) hv hd (K H locs ls g1 g2 g3)
/-- a field is written -/
theorem vx_put (IG : vx_I l D cl tys R own cc nL Ts ct A H0 G) {C ref : String} {T : u_T} {N ci index a : Nat} {fs : List Value} {v : Value} {ty : FieldType} (he : h a = some (.inr (ci, fs))) (hc : cl[ci]? = some (C, T, N)) (j : Nat) (hj : j < N) (hin : ∀ w ∈ u_ws C T N, w ∈ Ts) (ty0 : Nat → FieldType) (hty : ∀ k, k < N → parseFieldDescriptor (T k).2.2.1 = some (ty0 k)) (hnm : ∀ a, a < N → ∀ b, b < N → a ≠ b → (T a).2.1 ≠ (T b).2.1) (hm : Cond.fieldLink own index ref (T j).2.1 (T j).2.2.1 ∈ Ts) (hr : (T j).1 = ref) (hfin : (T j).2.2.2 = false) (hpd : parseFieldDescriptor (T j).2.2.1 = some ty) (hn : narrow ty v = v) (hfit : fits ty v = true) (hl : j < fs.length) (hd : decode cc pc = .ok (.putfield index, 3)) (K : vx_V D cl A H0 nL G (vx_up h a (.inr (ci, fs.set j v))) k n (pc + 3) lv st) : vx_V D cl A H0 nL G h k n pc lv (v :: .ref a :: st) := by
  obtain ⟨p, e, s, m, args, below, meth, c, Q, rfl, hx, hb, hml, hown, hts, hK, -⟩ := IG
  intro H locs ls g1 g2 g3
  obtain ⟨ws, hP, hD, cov⟩ := vx_list g1
  obtain ⟨q, hq⟩ := cov a _ he
  subst hr
  exact va_put hx hb hts hin ty0 hty hnm hown hK hP hD g2 q hq hc j hj (hts _ hm) (fun _ z => z) hfin hpd hn hfit hl hd (fun H1 locs1 hP1 hD1 hS1 => K H1 locs1 ls (vx_set hq cov hP1 hD1) hS1 g3)
theorem vx_putF (IG : vx_I l D cl tys R own cc nL Ts true A H0 G) {C : String} {T : u_T} {N ci index a : Nat} {fs : List Value} {v : Value} {ty : FieldType} (he : h a = some (.inr (ci, fs))) (hc : cl[ci]? = some (C, T, N)) (j : Nat) (hj : j < N) (hin : ∀ w ∈ u_ws C T N, w ∈ Ts) (ty0 : Nat → FieldType) (hty : ∀ k, k < N → parseFieldDescriptor (T k).2.2.1 = some (ty0 k)) (hnm : ∀ a, a < N → ∀ b, b < N → a ≠ b → (T a).2.1 ≠ (T b).2.1) (hm : Cond.fieldLink own index own (T j).2.1 (T j).2.2.1 ∈ Ts) (hr : (T j).1 = own) (hfin : (T j).2.2.2 = true) (hpd : parseFieldDescriptor (T j).2.2.1 = some ty) (hn : narrow ty v = v) (hfit : fits ty v = true) (hl : j < fs.length) (hd : decode cc pc = .ok (.putfield index, 3)) (K : vx_V D cl A H0 nL G (vx_up h a (.inr (ci, fs.set j v))) k n (pc + 3) lv st) : vx_V D cl A H0 nL G h k n pc lv (v :: .ref a :: st) := by
  obtain ⟨p, e, s, m, args, below, meth, c, Q, rfl, hx, hb, hml, hown, hts, hK, hN, hh0, hA, hin2⟩ := IG
  intro H locs ls g1 g2 g3
  obtain ⟨ws, hP, hD, cov⟩ := vx_list g1
  obtain ⟨q, hq⟩ := cov a _ he
  exact va_putF hx hb hts hin ty0 hty hnm hown hK hP hD g2 q hq hc j hj (hts _ hm) (fun _ z => by rw [← hr]; exact z) hfin (hin2 rfl) hr hpd hn hfit hl hd (fun H1 locs1 hP1 hD1 hS1 => K H1 locs1 ls (vx_set hq cov hP1 hD1) hS1 g3)
/-- arrays -/
theorem vx_lald (IG : vx_I l D cl tys R own cc nL Ts ct A H0 G) {a : Nat} {cA : ClassId} {N : Nat} {f : Nat → Int64} {i : Int32} {x : Int64} (he : h a = some (.inl (cA, N, .inr (.inl f)))) (t0 : Nat) (ht : tys[t0]? = some (cA, .long)) (hin : vp_in i N) (hv : f i.toNatClampNeg = x) (hd : decode cc pc = .ok (.laload, 1)) (K : vx_V D cl A H0 nL G h k n (pc + 1) lv (.long x :: st)) : vx_V D cl A H0 nL G h k n pc lv (.int i :: .ref a :: st) := by
  obtain ⟨p, e, s, m, args, below, meth, c, Q, rfl, hx, hb, hml, hown, hts, hK, -⟩ := IG
  intro H locs ls g1 g2 g3
  obtain ⟨ws, hP, hD, cov⟩ := vx_list g1
  obtain ⟨q, hq⟩ := cov a _ he
  subst hv
  exact va_lald hx hb hK hP q t0 hq ht hin hd (K H locs ls g1 g2 g3)
theorem vx_last (IG : vx_I l D cl tys R own cc nL Ts ct A H0 G) {a : Nat} {cA : ClassId} {N : Nat} {f : Nat → Int64} {i : Int32} {x : Int64} (he : h a = some (.inl (cA, N, .inr (.inl f)))) (t0 : Nat) (ht : tys[t0]? = some (cA, .long)) (hin : vp_in i N) (hd : decode cc pc = .ok (.lastore, 1)) (K : vx_V D cl A H0 nL G (vx_up h a (.inl (cA, N, .inr (.inl (vp_updL f i.toNatClampNeg x))))) k n (pc + 1) lv st) : vx_V D cl A H0 nL G h k n pc lv (.long x :: .int i :: .ref a :: st) := by
  obtain ⟨p, e, s, m, args, below, meth, c, Q, rfl, hx, hb, hml, hown, hts, hK, -⟩ := IG
  intro H locs ls g1 g2 g3
  obtain ⟨ws, hP, hD, cov⟩ := vx_list g1
  obtain ⟨q, hq⟩ := cov a _ he
  exact va_last hx hb hK hP hD g2 q t0 hq ht hin hd (fun H1 locs1 hP1 hD1 hS1 => K H1 locs1 ls (vx_set hq cov hP1 hD1) hS1 g3)
theorem vx_iald (IG : vx_I l D cl tys R own cc nL Ts ct A H0 G) {a : Nat} {cA : ClassId} {N : Nat} {f : Nat → Int32} {i : Int32} {x : Int32} (he : h a = some (.inl (cA, N, .inl f))) (t0 : Nat) (ht : tys[t0]? = some (cA, .int)) (hin : vp_in i N) (hv : f i.toNatClampNeg = x) (hd : decode cc pc = .ok (.iaload, 1)) (K : vx_V D cl A H0 nL G h k n (pc + 1) lv (.int x :: st)) : vx_V D cl A H0 nL G h k n pc lv (.int i :: .ref a :: st) := by
  obtain ⟨p, e, s, m, args, below, meth, c, Q, rfl, hx, hb, hml, hown, hts, hK, -⟩ := IG
  intro H locs ls g1 g2 g3
  obtain ⟨ws, hP, hD, cov⟩ := vx_list g1
  obtain ⟨q, hq⟩ := cov a _ he
  subst hv
  exact va_iald hx hb hK hP q t0 hq ht hin hd (K H locs ls g1 g2 g3)
theorem vx_iast (IG : vx_I l D cl tys R own cc nL Ts ct A H0 G) {a : Nat} {cA : ClassId} {N : Nat} {f : Nat → Int32} {i : Int32} {x : Int32} (he : h a = some (.inl (cA, N, .inl f))) (t0 : Nat) (ht : tys[t0]? = some (cA, .int)) (hin : vp_in i N) (hd : decode cc pc = .ok (.iastore, 1)) (K : vx_V D cl A H0 nL G (vx_up h a (.inl (cA, N, .inl (upd f i.toNatClampNeg x)))) k n (pc + 1) lv st) : vx_V D cl A H0 nL G h k n pc lv (.int x :: .int i :: .ref a :: st) := by
  obtain ⟨p, e, s, m, args, below, meth, c, Q, rfl, hx, hb, hml, hown, hts, hK, -⟩ := IG
  intro H locs ls g1 g2 g3
  obtain ⟨ws, hP, hD, cov⟩ := vx_list g1
  obtain ⟨q, hq⟩ := cov a _ he
  exact va_iast hx hb hK hP hD g2 q t0 hq ht hin hd (fun H1 locs1 hP1 hD1 hS1 => K H1 locs1 ls (vx_set hq cov hP1 hD1) hS1 g3)
theorem vx_zald (IG : vx_I l D cl tys R own cc nL Ts ct A H0 G) {a : Nat} {cA : ClassId} {N : Nat} {f : Nat → Int32} {i : Int32} {x : Int32} (he : h a = some (.inl (cA, N, .inl f))) (t0 : Nat) (ht : tys[t0]? = some (cA, .boolean)) (hin : vp_in i N) (hv : f i.toNatClampNeg = x) (hd : decode cc pc = .ok (.baload, 1)) (K : vx_V D cl A H0 nL G h k n (pc + 1) lv (.int x :: st)) : vx_V D cl A H0 nL G h k n pc lv (.int i :: .ref a :: st) := by
  obtain ⟨p, e, s, m, args, below, meth, c, Q, rfl, hx, hb, hml, hown, hts, hK, -⟩ := IG
  intro H locs ls g1 g2 g3
  obtain ⟨ws, hP, hD, cov⟩ := vx_list g1
  obtain ⟨q, hq⟩ := cov a _ he
  subst hv
  exact va_zald hx hb hK hP q t0 hq ht hin hd (K H locs ls g1 g2 g3)
theorem vx_zast (IG : vx_I l D cl tys R own cc nL Ts ct A H0 G) {a : Nat} {cA : ClassId} {N : Nat} {f : Nat → Int32} {i : Int32} {x : Int32} (he : h a = some (.inl (cA, N, .inl f))) (t0 : Nat) (ht : tys[t0]? = some (cA, .boolean)) (hin : vp_in i N) (hd : decode cc pc = .ok (.bastore, 1)) (K : vx_V D cl A H0 nL G (vx_up h a (.inl (cA, N, .inl (upd f i.toNatClampNeg (vp_nar .boolean x))))) k n (pc + 1) lv st) : vx_V D cl A H0 nL G h k n pc lv (.int x :: .int i :: .ref a :: st) := by
  obtain ⟨p, e, s, m, args, below, meth, c, Q, rfl, hx, hb, hml, hown, hts, hK, -⟩ := IG
  intro H locs ls g1 g2 g3
  obtain ⟨ws, hP, hD, cov⟩ := vx_list g1
  obtain ⟨q, hq⟩ := cov a _ he
  exact va_zast hx hb hK hP hD g2 q t0 hq ht hin hd (fun H1 locs1 hP1 hD1 hS1 => K H1 locs1 ls (vx_set hq cov hP1 hD1) hS1 g3)
theorem vx_aald (IG : vx_I l D cl tys R own cc nL Ts ct A H0 G) {a x : Nat} {cA : ClassId} {C : String} {N : Nat} {f : Nat → Option Nat} {i : Int32} (he : h a = some (.inl (cA, N, .inr (.inr (.inr (.inr f)))))) (t0 : Nat) (ht : tys[t0]? = some (cA, .object C)) (hin : vp_in i N) (hv : f i.toNatClampNeg = some x) (hd : decode cc pc = .ok (.aaload, 1)) (K : vx_V D cl A H0 nL G h k n (pc + 1) lv (.ref x :: st)) : vx_V D cl A H0 nL G h k n pc lv (.int i :: .ref a :: st) := by
  obtain ⟨p, e, s, m, args, below, meth, c, Q, rfl, hx, hb, hml, hown, hts, hK, -⟩ := IG
  intro H locs ls g1 g2 g3
  obtain ⟨ws, hP, hD, cov⟩ := vx_list g1
  obtain ⟨q, hq⟩ := cov a _ he
  refine va_aldq hx hb hK hP q t0 hq ht hin hd ?_
  rw [hv]
  exact K H locs ls g1 g2 g3
theorem vx_aast (IG : vx_I l D cl tys R own cc nL Ts ct A H0 G) {a v ci : Nat} {cA : ClassId} {r : vw_C} {N : Nat} {vs : List Value} {f : Nat → Option Nat} {i : Int32} (he : h a = some (.inl (cA, N, .inr (.inr (.inr (.inr f)))))) (t0 : Nat) (ht : tys[t0]? = some (cA, .object r.1)) (hv : h v = some (.inr (ci, vs))) (hc : cl[ci]? = some r) (hin : vp_in i N) (hd : decode cc pc = .ok (.aastore, 1)) (K : vx_V D cl A H0 nL G (vx_up h a (.inl (cA, N, .inr (.inr (.inr (.inr (va_up f i.toNatClampNeg (some v)))))))) k n (pc + 1) lv st) : vx_V D cl A H0 nL G h k n pc lv (.ref v :: .int i :: .ref a :: st) := by
  obtain ⟨p, e, s, m, args, below, meth, c, Q, rfl, hx, hb, hml, hown, hts, hK, -⟩ := IG
  intro H locs ls g1 g2 g3
  obtain ⟨ws, hP, hD, cov⟩ := vx_list g1
  obtain ⟨q, hq⟩ := cov a _ he
  obtain ⟨q2, hq2⟩ := cov v _ hv
  exact va_astq hx hb hK hP hD g2 q t0 q2 ci hq ht hq2 hc hin hd (fun H1 locs1 hP1 hD1 hS1 => K H1 locs1 ls (vx_set hq cov hP1 hD1) hS1 g3)
theorem vx_alen (IG : vx_I l D cl tys R own cc nL Ts ct A H0 G) {a : Nat} {cA : ClassId} {x : vp_A} (he : h a = some (.inl (cA, x))) (t0 : Nat) {ty : FieldType} (ht : tys[t0]? = some (cA, ty)) {v : Int32} (hv : Int32.ofNat x.1 = v) (hd : decode cc pc = .ok (.arraylength, 1)) (K : vx_V D cl A H0 nL G h k n (pc + 1) lv (.int v :: st)) : vx_V D cl A H0 nL G h k n pc lv (.ref a :: st) := by
  obtain ⟨p, e, s, m, args, below, meth, c, Q, rfl, hx, hb, hml, hown, hts, hK, -⟩ := IG
  intro H locs ls g1 g2 g3
  obtain ⟨ws, hP, hD, cov⟩ := vx_list g1
  obtain ⟨q, hq⟩ := cov a _ he
  exact va_alen hx hb hK hP q t0 hq ht hv hd (K H locs ls g1 g2 g3)
/-- a new array of numbers: a is none of the tracked -/
theorem vx_newa (IG : vx_I l D cl tys R own cc nL Ts ct A H0 G) {atype : ArrayType} {ty : FieldType} {cA : ClassId} (hm : Cond.arrayClass (newarray.typeOf atype) ∈ Ts) (hty : newarray.typeOf atype = ty) (t0 : Nat) (ht : tys[t0]? = some (cA, ty)) (hRA : ∀ (U : State) (c : ClassId), va_RA U c ty → U.vm.findClass ("[" ++ ty.toString) = some c) {i : Int32} {N : Nat} {a0 : vp_A} (ha : ∀ cA : ClassId, vp_cell cA a0 = arrV cA N (fun _ => defaultValue ty)) (hn : ¬ i < 0) (hN : i.toNatClampNeg = N) (hby : N * componentBytes ty ≤ 536870912) (hcells : k + 1 ≤ R.cells) (hslots : n + N ≤ R.slots) (hd : decode cc pc = .ok (.newarray atype, 2)) (K : ∀ a : Nat, h a = none → vx_V D cl A H0 nL G (vx_up h a (.inl (cA, a0))) (k + 1) (n + N) (pc + 2) lv (.ref a :: st)) : vx_V D cl A H0 nL G h k n pc lv (.int i :: st) := by
  obtain ⟨p, e, s, m, args, below, meth, c, Q, rfl, hx, hb, hml, hown, hts, hK, hNn, hh0, hA, -⟩ := IG
  intro H locs ls g1 g2 g3
  obtain ⟨ws, hP, hD, cov⟩ := vx_list g1
  refine va_newa hx hb (hts _ hm) hty hK hP hD g2 hA ha hn hN hby hcells hslots hd (fun q cB H1 hK1 hP1 hD1 hS1 => ?_)
  have e1 := hRA s cB (hK1.2 tys.length (cB, ty) (by simp)).2
  have e2 := hRA s cA (hK.2 t0 _ ht).2
  obtain rfl : cB = cA := Option.some.inj (e1.symm.trans e2)
  refine K q ?_ H1 locs ls (vx_push cov hP1 hD1) hS1 g3
  cases hq : h q with
  | none => rfl
  | some z =>
    obtain ⟨j, hj⟩ := cov q z hq
    have hl := (List.getElem?_eq_some_iff.mp hj).1
    have h1 : (ws ++ [(q, Sum.inl (cB, a0))])[j]? = some (q, z) := by rw [List.getElem?_append_left hl]; exact hj
    have h2 : (ws ++ [((q, Sum.inl (cB, a0)) : Nat × va_E)])[ws.length]? = some (q, Sum.inl (cB, a0)) := by simp
    have := hD1.1 j ws.length _ _ h1 h2 rfl
    omega
/-- a new object -/
theorem vx_new (IG : vx_I l D cl tys R own cc nL Ts ct A H0 G) {C : String} {T : u_T} {N ci index : Nat} {fs : List Value} (hc : cl[ci]? = some (C, T, N)) (hin : ∀ w ∈ u_ws C T N, w ∈ Ts) (ty0 : Nat → FieldType) (hty : ∀ k, k < N → parseFieldDescriptor (T k).2.2.1 = some (ty0 k)) (hm1 : Cond.classLink own index C ∈ Ts) (hm2 : Cond.instantiable C N ∈ Ts) (hm3 : Cond.initialized C ∈ Ts) (hfs : ∀ j, j < N → defaultValue (ty0 j) = vp_V fs j) (hcells : k + 1 ≤ R.cells) (hslots : n + N ≤ R.slots) (hd : decode cc pc = .ok (.new index, 3)) (K : ∀ a : Nat, h a = none → vx_V D cl A H0 nL G (vx_up h a (.inr (ci, fs))) (k + 1) (n + N) (pc + 3) lv (.ref a :: st)) : vx_V D cl A H0 nL G h k n pc lv st := by
  obtain ⟨p, e, s, m, args, below, meth, c, Q, rfl, hx, hb, hml, hown, hts, hK, hN, hh0, hA, -⟩ := IG
  intro H locs ls g1 g2 g3
  obtain ⟨ws, hP, hD, cov⟩ := vx_list g1
  refine va_new hx hb hts hin ty0 hty hown (hts _ hm1) (hts _ hm2) (hts _ hm3) hK hP hD g2 hA hc hfs hcells hslots hd (fun q H1 hP1 hD1 hS1 => ?_)
  refine K q ?_ H1 locs ls (vx_push cov hP1 hD1) hS1 g3
  cases hq : h q with
  | none => rfl
  | some z =>
    obtain ⟨j, hj⟩ := cov q z hq
    have hl := (List.getElem?_eq_some_iff.mp hj).1
    have h1 : (ws ++ [(q, Sum.inr (ci, fs))])[j]? = some (q, z) := by rw [List.getElem?_append_left hl]; exact hj
    have h2 : (ws ++ [((q, Sum.inr (ci, fs)) : Nat × va_E)])[ws.length]? = some (q, Sum.inr (ci, fs)) := by simp
    have := hD1.1 j ws.length _ _ h1 h2 rfl
    omega
/-- System.arraycopy over longs -/
theorem vx_copyl (IG : vx_I l D cl tys R own cc nL Ts ct A H0 G) {index a0 a1 : Nat} {cA : ClassId} {n0 n1 : Nat} {f g : Nat → Int64} (hm1 : Cond.methodLink own index arraycopyName ∈ Ts) (hm2 : Cond.native arraycopyName ∈ Ts) (hm3 : Cond.static arraycopyName ∈ Ts) (hm4 : Cond.initialized "java/lang/System" ∈ Ts) (he0 : h a0 = some (.inl (cA, n0, .inr (.inl f)))) (he1 : h a1 = some (.inl (cA, n1, .inr (.inl g)))) (t0 : Nat) (ht : tys[t0]? = some (cA, .long)) {sp dp w : Int32} (h1 : ¬ sp < 0) (h2 : ¬ dp < 0) (h3 : ¬ w < 0) (h4 : sp.toNatClampNeg + w.toNatClampNeg ≤ n0) (h5 : dp.toNatClampNeg + w.toNatClampNeg ≤ n1) (hfr : 1 ≤ R.frames) (hlo : (st.map fun v => v.category).sum + (nativeFrameWords "java/lang/System" "arraycopy" 5 + 11) ≤ R.locals) (hd : decode cc pc = .ok (.invokestatic index, 3)) (K : vx_V D cl A H0 nL G (vx_up h a1 (.inl (cA, n1, .inr (.inl (va_cpy f g sp.toNatClampNeg dp.toNatClampNeg w.toNatClampNeg))))) k n (pc + 3) lv st) : vx_V D cl A H0 nL G h k n pc lv (.int w :: .int dp :: .ref a1 :: .int sp :: .ref a0 :: st) := by
  obtain ⟨p, e, s, m, args, below, meth, c, Q, rfl, hx, hb, hml, hown, hts, hK, -⟩ := IG
  intro H locs ls g1 g2 g3
  obtain ⟨ws, hP, hD, cov⟩ := vx_list g1
  obtain ⟨q, hq⟩ := cov a0 _ he0
  obtain ⟨q2, hq2⟩ := cov a1 _ he1
  exact va_copyl hx hb (hml.trans g3.1.symm) hown (hts _ hm1) (hts _ hm2) (hts _ hm3) (hts _ hm4) hK hP hD g2 q q2 t0 t0 hq hq2 ht ht rfl h1 h2 h3 h4 h5 (fun i hi => rfl) hfr hlo hd (fun H1 locs1 hP1 hD1 hS1 => K H1 locs1 ls (vx_set hq2 cov hP1 hD1) hS1 g3)
theorem vx_topi {x y : Int32} (e : x = y) (K : vx_V D cl A H0 nL G h k n pc lv (.int y :: st)) : vx_V D cl A H0 nL G h k n pc lv (.int x :: st) := by subst e; exact K
theorem vx_topl {x y : Int64} (e : x = y) (K : vx_V D cl A H0 nL G h k n pc lv (.long y :: st)) : vx_V D cl A H0 nL G h k n pc lv (.long x :: st) := by subst e; exact K
/-- a new array of references -/
theorem vx_newq (IG : vx_I l D cl tys R own cc nL Ts ct A H0 G) {index t0 : Nat} {cA : ClassId} (hm : Cond.classLink own index "SignedMill$Whole" ∈ Ts) (ht : tys[t0]? = some (cA, .object "SignedMill$Whole")) {i : Int32} {N : Nat} (hn : ¬ i < 0) (hN : i.toNatClampNeg = N) (hby : N * 4 ≤ 536870912) (hcells : k + 1 ≤ R.cells) (hslots : n + N ≤ R.slots) (hd : decode cc pc = .ok (.anewarray index, 3)) (K : ∀ a : Nat, h a = none → vx_V D cl A H0 nL G (vx_up h a (.inl (cA, N, .inr (.inr (.inr (.inr (fun _ => none))))))) (k + 1) (n + N) (pc + 3) lv (.ref a :: st)) : vx_V D cl A H0 nL G h k n pc lv (.int i :: st) := by
  obtain ⟨p, e, s, m, args, below, meth, c, Q, rfl, hx, hb, hml, hown, hts, hK, hNn, hh0, hA, -⟩ := IG
  intro H locs ls g1 g2 g3
  obtain ⟨ws, hP, hD, cov⟩ := vx_list g1
  refine va_newq hx hb hown (hts _ hm) hNn.2 hK hP hD g2 hA hn hN hby hcells hslots hd (fun q cB H1 hK1 hP1 hD1 hS1 => ?_)
  obtain ⟨-, -, -, -, -, e1⟩ := (hK1.2 tys.length (cB, .object "SignedMill$Whole") (by simp)).2
  obtain ⟨-, -, -, -, -, e2⟩ := (hK.2 t0 _ ht).2
  obtain rfl : cB = cA := Option.some.inj (e1.symm.trans e2)
  refine K q ?_ H1 locs ls (vx_push cov hP1 hD1) hS1 g3
  cases hq : h q with
  | none => rfl
  | some z =>
    obtain ⟨j, hj⟩ := cov q z hq
    have hl := (List.getElem?_eq_some_iff.mp hj).1
    have h1 := (List.getElem?_append_left (l₂ := [((q, Sum.inl (cB, N, .inr (.inr (.inr (.inr (fun _ => none)))))) : Nat × va_E)]) hl).trans hj
    have h2 : (ws ++ [((q, Sum.inl (cB, N, .inr (.inr (.inr (.inr (fun _ => none)))))) : Nat × va_E)])[ws.length]? = some (q, Sum.inl (cB, N, .inr (.inr (.inr (.inr (fun _ => none)))))) := by simp
    have := hD1.1 j ws.length _ _ h1 h2 rfl
    omega
end
end
section
/-! calls, by contract -/
section
variable {l : Launch} {D : va_G} {cl : List vw_C} {tys : List (ClassId × FieldType)} {R : Room} {own : String} {cc : ByteArray} {nL : Nat} {Ts : List Cond} {ct : Bool} {A : Nat → Prop} {H0 : Heap} {G : vx_G} {h : vx_h} {k n pc : Nat} {lv : List (Nat × Value)} {st : List Value}
variable {y : MethodName} {ws : List Cond} {rm : Room} {av : List Value} {post : Option Value → vx_h → Nat → Nat → Prop} {bytes : ByteArray} {maxL : Nat} {ret : Option FieldType}
def vx_Pre (R : Room) (D : va_G) (cl : List vw_C) (tys : List (ClassId × FieldType)) (rm : Room) (av : List Value) (h : vx_h) : Pt → Array Value → Prop := fun P a => P.cells + rm.cells ≤ R.cells ∧ P.slots + rm.slots ≤ R.slots ∧ a = av.toArray ∧ vx_AH D cl (fun _ => True) h P.U.heap ∧ va_K D cl tys P.U ∧ vx_N P.U
def vx_Post (D : va_G) (cl : List vw_C) (h : vx_h) (post : Option Value → vx_h → Nat → Nat → Prop) : Pt → Array Value → Option Value → Pt → Prop := fun P _ v B =>
  ∃ (L : List Loc) (k' n' : Nat) (h' : vx_h), B.locs = P.locs ++ L ∧ B.cells = P.cells + k' ∧ B.slots = P.slots + n' ∧ (∀ q ∈ L, vx_A h P.U.heap.size q.base) ∧ post v h' k' n' ∧ vx_AH D cl (vx_A h P.U.heap.size) h' B.U.heap ∧ P.U.heap.size ≤ B.U.heap.size ∧ ∀ q : Nat, q < P.U.heap.size → ¬ vx_A h P.U.heap.size q → B.U.heap[q]? = P.U.heap[q]?
theorem vx_back {p : Program} {e : Env} {s : State} {below : List Frame} {sargs : Array Value} {len W0 : Nat} (hM : vx_M l D cl tys y ws rm av h post) (hframes : rm.frames + 1 ≤ R.frames) (hlocals : W0 + (maxL + 11) + rm.locals ≤ R.locals)
    (hws : ∀ w ∈ ws, ∀ (a' : Array Value) (U : State), s.WarmedH U.vm → w.before a' U = true) (hcode : Cond.code y bytes maxL ret ∈ ws) (hinit : Cond.initialized y.cls ∈ ws) :
    Back l R p e below s sargs y len W0 (vx_Pre R D cl tys rm av h) (vx_Post D cl h post) := by
  refine Back.of_free (S := headSpec ws rm) (K := fun _ _ _ _ _ => True) (bytes := bytes) (maxL := maxL) (ret := ret)
    (E := fun a st o t L k n => ∃ (v : Option Value) (h' : vx_h), o = .returned v ∧ (∀ q ∈ L, vx_A h st.heap.size q.base) ∧ post v h' k n ∧ vx_AH D cl (vx_A h st.heap.size) h' t.heap ∧ va_F (vx_A h st.heap.size) st t) hM hframes hlocals ?_ ?_ (fun _ _ _ _ _ _ _ _ _ => trivial) ?_ ?_
  · intro m meth c P a X hp
    exact ⟨atoms_intro fun w hw => hws w hw _ _ X.warmed, hws _ hcode _ _ X.warmed, hws _ hinit _ _ X.warmed, hp.1, hp.2.1⟩
  · intro m meth c P a g mk X hp
    exact ⟨hp.2.2.1, hp.2.2.2.1, va_K.moved (u := P.U) (U := P.U.calling g mk a) (Vm.Alike.refl P.U.vm) hp.2.2.2.2.1, vx_N.same (u := P.U) (U := P.U.calling g mk a) rfl hp.2.2.2.2.2⟩
  · intro a st o t ⟨v, h', L, k, n, e1, e2, e3, e4, e5, e6⟩
    exact ⟨L, k, n, e2, v, h', e1, e3, e4, e5, e6⟩
  · intro m meth c P a g mk v t L k n X hp hq hF ⟨v', h', e1, e3, e4, e5, e6⟩
    cases e1
    exact ⟨L, k, n, h', rfl, rfl, rfl, e3, e4, e5, e6.1, e6.2⟩
def vx_Run (p : Program) (l : Launch) (e : Env) (R : Room) (s : State) (m : MethodId) (args : Array Value) (below : List Frame) (meth : Method) (c : Code) (D : va_G) (cl : List vw_C) (h : vx_h) (H : Heap) (locs : List Loc) (k n : Nat) (g : JFrame) (rest : List Value) (post : Option Value → vx_h → Nat → Nat → Prop) : Prop :=
  ∀ T : State, T.heap = H → Stand p l e R s m args below meth c T locs k n → ∃ (v : Option Value) (T' : State) (L : List Loc) (k' n' : Nat) (h' : vx_h), Stand p l e R s m args below meth c T' (locs ++ L) (k + k') (n + n') ∧ (∀ q ∈ L, vx_A h H.size q.base) ∧ post v h' k' n' ∧ vx_AH D cl (vx_A h H.size) h' T'.heap ∧ H.size ≤ T'.heap.size ∧ (∀ q : Nat, q < H.size → ¬ vx_A h H.size q → T'.heap[q]? = H[q]?) ∧ Goes p e below T g T' { g with pc := g.pc + 3, stack := v.toList ++ rest }
theorem vx_goes {p : Program} {e : Env} {s : State} {m : MethodId} {args : Array Value} {below : List Frame} {meth : Method} {c : Code} {Q : State → Prop} {H : Heap} {locs : List Loc} {ls : Array Slot} {st0 : List Value} (hA : ∀ q : Nat, H0.size ≤ q → A q) (g1 : vx_AH D cl A h H) (g2 : va_S A H0 H locs) (g3 : lv_has ls nL lv)
    (hr : vx_Run p l e R s m args below meth c D cl h H locs k n (F0 m pc ls st0) st post)
    (K : ∀ (v : Option Value) (h' : vx_h) (k' n' : Nat), post v h' k' n' → vx_V D cl A H0 nL (fun H locs k n pc ls st => W p l e R s m args below meth c H locs k n Q (F0 m pc ls st)) h' (k + k') (n + n') (pc + 3) lv (v.toList ++ st)) :
    W p l e R s m args below meth c H locs k n Q (F0 m pc ls st0) := by
  intro T hT X
  obtain ⟨v, T', L, k', n', h', X', hL, hp, hAH, hz, hk, hgo⟩ := hr T hT X
  have sub : ∀ q, vx_A h H.size q → A q := by
    intro q hq
    rcases hq with ⟨e, he⟩ | hq
    · exact (g1 q e he).2
    · exact hA q (Nat.le_trans g2.1 hq)
  obtain ⟨t, a1, b1⟩ := K v h' k' n' hp T'.heap (locs ++ L) ls (fun a e he => ⟨(hAH a e he).1, sub a (hAH a e he).2⟩)
    ⟨Nat.le_trans g2.1 hz, fun q h1 h2 => by rw [hk q (Nat.lt_of_lt_of_le h1 g2.1) (fun z => h2 (sub q z))]; exact g2.2.1 q h1 h2, fun q hq => by
      rcases List.mem_append.mp hq with z | z
      · exact g2.2.2 q z
      · exact sub _ (hL q z)⟩ g3 T' rfl X'
  exact ⟨t, hgo t a1, b1⟩
/-- the words of a callee, at the caller's later states -/
theorem vx_words {s : State} {args : Array Value} (hg : GoodIn Ts Ts) (hts : ∀ w ∈ Ts, w.before args s = true) : ∀ w ∈ Ts, ∀ (a' : Array Value) (U : State), s.WarmedH U.vm → w.before a' U = true :=
  fun w hw _ _ hW => word_at hW (hg w hw).2 (hts w hw)
abbrev vx_nm (y : MethodName) (a : Nat) : Prop := y.cls ≠ "java/lang/invoke/MethodHandle" ∧ y.cls ≠ "java/lang/invoke/VarHandle" ∧ (parseMethodDescriptor y.desc).map (fun d => d.parameters.length) = some a
theorem vx_len {a : Nat} (h : vx_nm y a) : ∀ sig, parseMethodDescriptor y.desc = some sig → a = sig.parameters.length := by
  intro sig hs
  have h2 := h.2.2
  rw [hs] at h2
  exact (Option.some.inj h2).symm
theorem vx_recv {s : State} {H : Heap} {C : String} {T : u_T} {N ci a : Nat} {fs : List Value} (hK : va_K D cl tys s) (g1 : vx_AH D cl A h H) (hc : cl[ci]? = some (C, T, N)) (he : h a = some (.inr (ci, fs))) : ∃ cell : Cell, H[a]? = some cell ∧ cell.vm.isStatics = false ∧ s.vm.findClass C = some cell.cls := by
  obtain ⟨ws, hP, hD, cov⟩ := vx_list g1
  obtain ⟨q, hq⟩ := cov a _ he
  exact va_recv hK hP hc hq
/-- invokevirtual -/
theorem vx_callV (IG : vx_I l D cl tys R own cc nL Ts ct A H0 G) (hg : GoodIn Ts Ts) {b : Nat} {As : List Value} (hM : vx_M l D cl tys y Ts rm (.ref b :: As) h post) {C : String} {T : u_T} {N ci index : Nat} {fs : List Value} (he : h b = some (.inr (ci, fs))) (hc : cl[ci]? = some (C, T, N)) (hcode : Cond.code y bytes maxL ret ∈ Ts) (hm1 : Cond.methodLink own index y ∈ Ts) (hm2 : Cond.instanceMethod y ∈ Ts) (hm3 : Cond.selects C y y ∈ Ts) (hm4 : Cond.initialized y.cls ∈ Ts) (na : Nat) (hy : vx_nm y na) (hna : As.length = na) (hR : rm.frames + 1 ≤ R.frames ∧ 8 + (maxL + 11) + rm.locals ≤ R.locals) (hf : k + rm.cells ≤ R.cells ∧ n + rm.slots ≤ R.slots) {st0 : List Value} (hs : st0 = As.reverse ++ .ref b :: st) (hW : (st.map fun v => v.category).sum ≤ 8) (hd : decode cc pc = .ok (.invokevirtual index, 3))
    (K : ∀ (v : Option Value) (h' : vx_h) (k' n' : Nat), post v h' k' n' → vx_V D cl A H0 nL G h' (k + k') (n + n') (pc + 3) lv (v.toList ++ st)) : vx_V D cl A H0 nL G h k n pc lv st0 := by
  obtain ⟨p, e, s, m, args, below, meth, c, Q, rfl, hx, hb, hml, hown, hts, hK, hN, hh0, hA, -⟩ := IG
  intro H locs ls g1 g2 g3
  refine vx_goes hA g1 g2 g3 ?_ K
  intro T hT X
  obtain ⟨cellB, hcB, hoB, hclB⟩ := vx_recv hK g1 hc he
  obtain ⟨v, vm₁, ⟨U', l2, c2, s2⟩, hW₁, X', ⟨L, k', n', h', e1, e2, e3, e4, e5, e6, e7, e8⟩, go⟩ := callV X hx (C := C) (bytes := bytes) (maxL := maxL) (ret := ret) hown (hts _ hm1) (hts _ hm2) (hts _ hm3) (hts _ hcode) ⟨hy.1, hy.2.1⟩
    (vx_back (bytes := bytes) (maxL := maxL) (ret := ret) (W0 := 8) hM hR.1 hR.2 (vx_words hg hts) hcode hm4) (by rw [hT]; exact hcB) hoB hclB (g := F0 m pc ls st0) rfl (by rw [hml]; exact g3.1) (argsL := As) (rest := st) (fun sig hsig => hna.trans (vx_len hy sig hsig)) hs (lv_room (rest := st0) hW) (by rw [hb]; exact hd)
    (fun vm₁ hW₁ => ⟨hf.1, hf.2, rfl, (show vx_AH D cl (fun _ => True) h T.heap by rw [hT]; exact fun a e z => ⟨(g1 a e z).1, trivial⟩), va_K.moved hW₁.alike hK, vx_N.warm (U := T.setVm vm₁) hW₁ hN⟩)
  dsimp only [Pt.U, Pt.locs, Pt.cells, Pt.slots] at X' e1 e2 e3 e4 e6 e7 e8 go
  subst e1; subst e2; subst e3
  have hTv : (T.setVm vm₁).heap = H := hT
  rw [hTv] at e4 e6 e7 e8
  exact ⟨v, U', L, k', n', h', X', e4, e5, e6, e7, e8, go⟩
/-- invokestatic -/
theorem vx_callS (IG : vx_I l D cl tys R own cc nL Ts ct A H0 G) (hg : GoodIn Ts Ts) {As : List Value} (hM : vx_M l D cl tys y Ts rm As h post) {index : Nat} (hcode : Cond.code y bytes maxL ret ∈ Ts) (hm1 : Cond.methodLink own index y ∈ Ts) (hm2 : Cond.static y ∈ Ts) (hm4 : Cond.initialized y.cls ∈ Ts) (na : Nat) (hy : vx_nm y na) (hna : As.length = na) (hR : rm.frames + 1 ≤ R.frames ∧ 8 + (maxL + 11) + rm.locals ≤ R.locals) (hf : k + rm.cells ≤ R.cells ∧ n + rm.slots ≤ R.slots) {st0 : List Value} (hs : st0 = As.reverse ++ st) (hW : (st.map fun v => v.category).sum ≤ 8) (hd : decode cc pc = .ok (.invokestatic index, 3))
    (K : ∀ (v : Option Value) (h' : vx_h) (k' n' : Nat), post v h' k' n' → vx_V D cl A H0 nL G h' (k + k') (n + n') (pc + 3) lv (v.toList ++ st)) : vx_V D cl A H0 nL G h k n pc lv st0 := by
  obtain ⟨p, e, s, m, args, below, meth, c, Q, rfl, hx, hb, hml, hown, hts, hK, hN, hh0, hA, -⟩ := IG
  intro H locs ls g1 g2 g3
  refine vx_goes hA g1 g2 g3 ?_ K
  intro T hT X
  obtain ⟨v, vm₁, ⟨U', l2, c2, s2⟩, hW₁, X', ⟨L, k', n', h', e1, e2, e3, e4, e5, e6, e7, e8⟩, go⟩ := callS X hx (bytes := bytes) (maxL := maxL) (ret := ret) hown (hts _ hm1) (hts _ hm2) (hts _ hm4) (hts _ hcode) ⟨hy.1, hy.2.1⟩
    (vx_back (bytes := bytes) (maxL := maxL) (ret := ret) (W0 := 8) hM hR.1 hR.2 (vx_words hg hts) hcode hm4) (g := F0 m pc ls st0) rfl (by rw [hml]; exact g3.1) (argsL := As) (rest := st) (fun sig hsig => hna.trans (vx_len hy sig hsig)) hs (lv_room (rest := st0) hW) (by rw [hb]; exact hd)
    (fun vm₁ hW₁ => ⟨hf.1, hf.2, rfl, (show vx_AH D cl (fun _ => True) h T.heap by rw [hT]; exact fun a e z => ⟨(g1 a e z).1, trivial⟩), va_K.moved hW₁.alike hK, vx_N.warm (U := T.setVm vm₁) hW₁ hN⟩)
  dsimp only [Pt.U, Pt.locs, Pt.cells, Pt.slots] at X' e1 e2 e3 e4 e6 e7 e8 go
  subst e1; subst e2; subst e3
  have hTv : (T.setVm vm₁).heap = H := hT
  rw [hTv] at e4 e6 e7 e8
  exact ⟨v, U', L, k', n', h', X', e4, e5, e6, e7, e8, go⟩
/-- invokespecial <init> -/
theorem vx_callI (IG : vx_I l D cl tys R own cc nL Ts ct A H0 G) (hg : GoodIn Ts Ts) {b : Nat} {As : List Value} (hM : vx_M l D cl tys y Ts rm (.ref b :: As) h post) {index : Nat} (hy1 : y.name = "<init>") (hcode : Cond.code y bytes maxL none ∈ Ts) (hm1 : Cond.methodLink own index y ∈ Ts) (hm2 : Cond.instanceMethod y ∈ Ts) (hm4 : Cond.initialized y.cls ∈ Ts) (na : Nat) (hy : vx_nm y na) (hna : As.length = na) (hR : rm.frames + 1 ≤ R.frames ∧ 8 + (maxL + 11) + rm.locals ≤ R.locals) (hf : k + rm.cells ≤ R.cells ∧ n + rm.slots ≤ R.slots) {st0 : List Value} (hs : st0 = As.reverse ++ .ref b :: st) (hW : (st.map fun v => v.category).sum ≤ 8) (hd : decode cc pc = .ok (.invokespecial index, 3))
    (K : ∀ (v : Option Value) (h' : vx_h) (k' n' : Nat), post v h' k' n' → vx_V D cl A H0 nL G h' (k + k') (n + n') (pc + 3) lv (v.toList ++ st)) : vx_V D cl A H0 nL G h k n pc lv st0 := by
  obtain ⟨p, e, s, m, args, below, meth, c, Q, rfl, hx, hb, hml, hown, hts, hK, hN, hh0, hA, -⟩ := IG
  intro H locs ls g1 g2 g3
  refine vx_goes hA g1 g2 g3 ?_ K
  intro T hT X
  obtain ⟨v, vm₁, ⟨U', l2, c2, s2⟩, hW₁, X', ⟨L, k', n', h', e1, e2, e3, e4, e5, e6, e7, e8⟩, go⟩ := callI X hx (bytes := bytes) (maxL := maxL) hown hy1 (hts _ hm1) (hts _ hm2) (hts _ hcode) ⟨hy.1, hy.2.1⟩
    (vx_back (bytes := bytes) (maxL := maxL) (ret := none) (W0 := 8) hM hR.1 hR.2 (vx_words hg hts) hcode hm4) (g := F0 m pc ls st0) rfl (by rw [hml]; exact g3.1) (a := b) (argsL := As) (rest := st) (fun sig hsig => hna.trans (vx_len hy sig hsig)) hs (lv_room (rest := st0) hW) (by rw [hb]; exact hd)
    (fun vm₁ hW₁ => ⟨hf.1, hf.2, rfl, (show vx_AH D cl (fun _ => True) h T.heap by rw [hT]; exact fun a e z => ⟨(g1 a e z).1, trivial⟩), va_K.moved hW₁.alike hK, vx_N.warm (U := T.setVm vm₁) hW₁ hN⟩)
  dsimp only [Pt.U, Pt.locs, Pt.cells, Pt.slots] at X' e1 e2 e3 e4 e6 e7 e8 go
  subst e1; subst e2; subst e3
  have hTv : (T.setVm vm₁).heap = H := hT
  rw [hTv] at e4 e6 e7 e8
  exact ⟨v, U', L, k', n', h', X', e4, e5, e6, e7, e8, go⟩
/-- invokespecial <init> of a nest mate -/
theorem vx_callIN (IG : vx_I l D cl tys R own cc nL Ts ct A H0 G) (hg : GoodIn Ts Ts) {b : Nat} {As : List Value} (hM : vx_M l D cl tys y Ts rm (.ref b :: As) h post) {index : Nat} (hy1 : y.name = "<init>") (hcode : Cond.code y bytes maxL none ∈ Ts) {host : String} (hm1 : Cond.methodLinkNest own index y host ∈ lw_tbl) (hm2 : Cond.instanceMethod y ∈ Ts) (hm4 : Cond.initialized y.cls ∈ Ts) (na : Nat) (hy : vx_nm y na) (hna : As.length = na) (hR : rm.frames + 1 ≤ R.frames ∧ 8 + (maxL + 11) + rm.locals ≤ R.locals) (hf : k + rm.cells ≤ R.cells ∧ n + rm.slots ≤ R.slots) {st0 : List Value} (hs : st0 = As.reverse ++ .ref b :: st) (hW : (st.map fun v => v.category).sum ≤ 8) (hd : decode cc pc = .ok (.invokespecial index, 3))
    (K : ∀ (v : Option Value) (h' : vx_h) (k' n' : Nat), post v h' k' n' → vx_V D cl A H0 nL G h' (k + k') (n + n') (pc + 3) lv (v.toList ++ st)) : vx_V D cl A H0 nL G h k n pc lv st0 := by
  obtain ⟨p, e, s, m, args, below, meth, c, Q, rfl, hx, hb, hml, hown, hts, hK, hN, hh0, hA, -⟩ := IG
  intro H locs ls g1 g2 g3
  refine vx_goes hA g1 g2 g3 ?_ K
  intro T hT X
  obtain ⟨v, vm₁, ⟨U', l2, c2, s2⟩, hW₁, X', ⟨L, k', n', h', e1, e2, e3, e4, e5, e6, e7, e8⟩, go⟩ := va_callIN X hx (bytes := bytes) (maxL := maxL) hown hy1 (va_Nw.use (A := args) rfl (hN.1 _ _ _ _ hm1)) (hts _ hm2) (hts _ hcode) ⟨hy.1, hy.2.1⟩
    (vx_back (bytes := bytes) (maxL := maxL) (ret := none) (W0 := 8) hM hR.1 hR.2 (vx_words hg hts) hcode hm4) (g := F0 m pc ls st0) rfl (by rw [hml]; exact g3.1) (a := b) (argsL := As) (rest := st) (fun sig hsig => hna.trans (vx_len hy sig hsig)) hs (lv_room (rest := st0) hW) (by rw [hb]; exact hd)
    (fun vm₁ hW₁ => ⟨hf.1, hf.2, rfl, (show vx_AH D cl (fun _ => True) h T.heap by rw [hT]; exact fun a e z => ⟨(g1 a e z).1, trivial⟩), va_K.moved hW₁.alike hK, vx_N.warm (U := T.setVm vm₁) hW₁ hN⟩)
  dsimp only [Pt.U, Pt.locs, Pt.cells, Pt.slots] at X' e1 e2 e3 e4 e6 e7 e8 go
  subst e1; subst e2; subst e3
  have hTv : (T.setVm vm₁).heap = H := hT
  rw [hTv] at e4 e6 e7 e8
  exact ⟨v, U', L, k', n', h', X', e4, e5, e6, e7, e8, go⟩
/-- Object.<init> -/
theorem vx_obj (IG : vx_I l D cl tys R own cc nL Ts ct A H0 G) {idx a : Nat} (hm1 : Cond.methodLink own idx Lib.objectInit ∈ Ts) (hm2 : Cond.instanceMethod Lib.objectInit ∈ Ts) (hm3 : Cond.code Lib.objectInit ⟨#[0xb1]⟩ 1 none ∈ Ts) (hd : decode cc pc = .ok (.invokespecial idx, 3)) (hfr : 1 ≤ R.frames) (hlo : (st.map fun v => v.category).sum + 12 ≤ R.locals) (K : vx_V D cl A H0 nL G h k n (pc + 3) lv st) : vx_V D cl A H0 nL G h k n pc lv (.ref a :: st) := by
  obtain ⟨p, e, s, m, args, below, meth, c, Q, rfl, hx, hb, hml, hown, hts, hK, -⟩ := IG
  intro H locs ls g1 g2 g3
  exact W.objInit hx hb hown (hts _ hm1) (hts _ hm2) (hts _ hm3) rfl (by rw [hml]; exact g3.1) rfl hd hfr (by show 2 * 0 + _ + _ ≤ _; omega) (K H locs ls g1 g2 g3)
end
end
section
/-! DIGITS in base b. dg b N i: the digit at place i; vl b d n: the number that the places below n hold; nd b N: how many digits N has; bl N: how many bits -/
def dg (b N i : Nat) : Nat := N / b ^ i % b
def vl (b : Nat) (d : Nat → Nat) : Nat → Nat
  | 0 => 0
  | n + 1 => vl b d n + d n * b ^ n
def ndf (b : Nat) : Nat → Nat → Nat
  | 0, _ => 0
  | f + 1, N => if N = 0 then 0 else ndf b f (N / b) + 1
def nd (b N : Nat) : Nat := ndf b N N
def bl (N : Nat) : Nat := if N = 0 then 0 else Nat.log2 N + 1
section
variable {b : Nat}
theorem bp_pos (hb : 1 < b) (n : Nat) : 0 < b ^ n := Nat.pow_pos (by omega)
theorem bp_succ (b n : Nat) : b ^ (n + 1) = b ^ n * b := by rw [Nat.pow_succ]
theorem dg_lt (hb : 1 < b) (N i : Nat) : dg b N i < b := Nat.mod_lt _ (by omega)
theorem vl_succ (b : Nat) (d : Nat → Nat) (n : Nat) : vl b d (n + 1) = vl b d n + d n * b ^ n := rfl
theorem vl_lt (hb : 1 < b) {d : Nat → Nat} {n : Nat} (h : ∀ i, i < n → d i < b) : vl b d n < b ^ n := by
  induction n with
  | zero => simp [vl]
  | succ n ih =>
    have h1 := ih (fun i hi => h i (by omega))
    have h2 := h n (by omega)
    have h3 : (d n + 1) * b ^ n ≤ b * b ^ n := Nat.mul_le_mul_right _ h2
    rw [Nat.add_mul, Nat.one_mul] at h3
    rw [bp_succ, Nat.mul_comm (b ^ n), vl_succ]
    omega
theorem vl_congr {d e : Nat → Nat} {n : Nat} (h : ∀ i, i < n → d i = e i) : vl b d n = vl b e n := by
  induction n with
  | zero => rfl
  | succ n ih => rw [vl_succ, vl_succ, ih (fun i hi => h i (by omega)), h n (by omega)]
theorem vl_dg (b N n : Nat) : vl b (dg b N) n = N % b ^ n := by
  induction n with
  | zero => simp [vl, Nat.mod_one]
  | succ n ih =>
    rw [vl_succ, ih, Nat.mod_pow_succ, Nat.mul_comm]
    rfl
theorem dg_add_hi (hb : 1 < b) {X Y n i : Nat} (h : i < n) : dg b (X + Y * b ^ n) i = dg b X i := by
  have e : b ^ n = b ^ i * (b * b ^ (n - i - 1)) := by
    rw [← Nat.mul_assoc, ← bp_succ, ← Nat.pow_add]
    congr 1
    omega
  unfold dg
  rw [e, Nat.mul_left_comm, Nat.add_mul_div_left _ _ (bp_pos hb i), Nat.mul_left_comm, Nat.add_mul_mod_self_left]
theorem dg_mod (hb : 1 < b) {N n i : Nat} (h : i < n) : dg b (N % b ^ n) i = dg b N i := by
  have e : N = N % b ^ n + N / b ^ n * b ^ n := by
    rw [Nat.mul_comm]
    exact (Nat.mod_add_div _ _).symm
  conv => rhs; rw [e]
  rw [dg_add_hi hb h]
theorem dg_vl (hb : 1 < b) {d : Nat → Nat} {n i : Nat} (h : ∀ i, i < n → d i < b) (hi : i < n) : dg b (vl b d n) i = d i := by
  induction n with
  | zero => omega
  | succ n ih =>
    rw [vl_succ]
    rcases Nat.lt_or_ge i n with q | q
    · rw [dg_add_hi hb q]
      exact ih (fun i hi => h i (by omega)) q
    · obtain rfl : i = n := by omega
      unfold dg
      rw [Nat.add_mul_div_right _ _ (bp_pos hb i), Nat.div_eq_of_lt (vl_lt hb (fun j hj => h j (by omega))), Nat.zero_add]
      exact Nat.mod_eq_of_lt (h i (by omega))
theorem dg_zero (b i : Nat) : dg b 0 i = 0 := by simp [dg]
theorem dg_big {N i : Nat} (h : N < b ^ i) : dg b N i = 0 := by
  unfold dg
  rw [Nat.div_eq_of_lt h]
  exact Nat.zero_mod b
theorem ndf_le (hb : 1 < b) (f : Nat) : ∀ (N c : Nat), N ≤ f → (ndf b f N ≤ c ↔ N < b ^ c) := by
  induction f with
  | zero =>
    intro N c h
    obtain rfl : N = 0 := by omega
    exact ⟨fun _ => bp_pos hb c, fun _ => Nat.zero_le c⟩
  | succ f ih =>
    intro N c h
    rw [ndf]
    split
    · rename_i z
      subst z
      exact ⟨fun _ => bp_pos hb c, fun _ => Nat.zero_le c⟩
    · rename_i z
      have hlt : N / b < N := Nat.div_lt_self (by omega) hb
      cases c with
      | zero => exact ⟨fun q => by omega, fun q => by rw [Nat.pow_zero] at q; omega⟩
      | succ c =>
        have := ih (N / b) c (by omega)
        rw [bp_succ, ← Nat.div_lt_iff_lt_mul (by omega), ← this]
        omega
theorem nd_le (hb : 1 < b) {N c : Nat} : nd b N ≤ c ↔ N < b ^ c := ndf_le hb N N c (Nat.le_refl N)
theorem nd_lt (hb : 1 < b) {N c : Nat} : c < nd b N ↔ b ^ c ≤ N := by
  have := @nd_le b hb N c
  omega
theorem lt_nd (hb : 1 < b) (N : Nat) : N < b ^ nd b N := (nd_le hb).mp (Nat.le_refl _)
theorem nd_zero (b : Nat) : nd b 0 = 0 := rfl
theorem nd_eq_zero (hb : 1 < b) {N : Nat} : nd b N = 0 ↔ N = 0 := by
  have := @nd_le b hb N 0
  rw [Nat.pow_zero] at this
  omega
theorem vl_nd (hb : 1 < b) (N : Nat) : vl b (dg b N) (nd b N) = N := by
  rw [vl_dg, Nat.mod_eq_of_lt (lt_nd hb N)]
theorem vl_nd_le (hb : 1 < b) {N n : Nat} (h : nd b N ≤ n) : vl b (dg b N) n = N := by
  rw [vl_dg, Nat.mod_eq_of_lt ((nd_le hb).mp h)]
theorem nd_mono (hb : 1 < b) {M N : Nat} (h : M ≤ N) : nd b M ≤ nd b N := (nd_le hb).mpr (Nat.lt_of_le_of_lt h (lt_nd hb N))
/-- behind a trim -/
theorem nd_vl (hb : 1 < b) {d : Nat → Nat} {c : Nat} (h : ∀ i, i < c → d i < b) (ht : c = 0 ∨ d (c - 1) ≠ 0) : nd b (vl b d c) = c := by
  have h1 : nd b (vl b d c) ≤ c := (nd_le hb).mpr (vl_lt hb h)
  cases c with
  | zero => omega
  | succ c =>
    have h2 : d c ≠ 0 := by
      rcases ht with z | z
      · omega
      · exact z
    have h3 : c < nd b (vl b d (c + 1)) := (nd_lt hb).mpr (by
      rw [vl_succ]
      have h4 : 1 * b ^ c ≤ d c * b ^ c := Nat.mul_le_mul_right _ (by omega)
      omega)
    omega
theorem dg_top_eq (hb : 1 < b) {N : Nat} (h : 0 < N) : dg b N (nd b N - 1) = N / b ^ (nd b N - 1) := by
  have h0 : nd b N ≠ 0 := fun q => by have := (nd_eq_zero hb).mp q; omega
  unfold dg
  apply Nat.mod_eq_of_lt
  rw [Nat.div_lt_iff_lt_mul (bp_pos hb _), Nat.mul_comm, ← bp_succ, show nd b N - 1 + 1 = nd b N by omega]
  exact lt_nd hb N
theorem dg_top (hb : 1 < b) {N : Nat} (h : 0 < N) : dg b N (nd b N - 1) ≠ 0 := by
  have h0 : nd b N ≠ 0 := fun q => by have := (nd_eq_zero hb).mp q; omega
  have h1 : b ^ (nd b N - 1) ≤ N := (nd_lt hb).mp (by omega)
  rw [dg_top_eq hb h]
  have h4 : 0 < N / b ^ (nd b N - 1) := Nat.div_pos h1 (bp_pos hb _)
  omega
theorem dv_split (b A k : Nat) : A / b ^ k = A / b ^ (k + 1) * b + dg b A k := by
  unfold dg
  rw [bp_succ, ← Nat.div_div_eq_div_mul, Nat.mul_comm]
  exact (Nat.div_add_mod _ _).symm
theorem md_split (b A k : Nat) : A % b ^ (k + 1) = A % b ^ k + b ^ k * dg b A k := Nat.mod_pow_succ
theorem vl_split (b : Nat) (d : Nat → Nat) (n m : Nat) : vl b d (n + m) = vl b d n + vl b (fun j => d (n + j)) m * b ^ n := by
  induction m with
  | zero => simp [vl]
  | succ m ih =>
    rw [← Nat.add_assoc, vl_succ, vl_succ, ih, Nat.add_mul, Nat.mul_assoc, ← Nat.pow_add, Nat.add_comm m n]
    omega
theorem vl_zero {d : Nat → Nat} {n : Nat} (h : ∀ i, i < n → d i = 0) : vl b d n = 0 := by
  induction n with
  | zero => rfl
  | succ n ih =>
    rw [vl_succ, ih (fun i hi => h i (by omega)), h n (by omega)]
    simp
/-! comparisons -/
theorem bcm_lt (b : Nat) {A B k : Nat} (h : A / b ^ (k + 1) = B / b ^ (k + 1)) (hd : dg b A k < dg b B k) : A < B := by
  have h1 := dv_split b A k
  have h2 := dv_split b B k
  rw [h] at h1
  rcases Nat.lt_or_ge A B with q | q
  · exact q
  · have := Nat.div_le_div_right (c := b ^ k) q
    omega
theorem bcm_eq (b : Nat) {A B k : Nat} (h : A / b ^ (k + 1) = B / b ^ (k + 1)) (hd : dg b A k = dg b B k) : A / b ^ k = B / b ^ k := by
  rw [dv_split b A k, dv_split b B k, h, hd]
theorem bcm_top (hb : 1 < b) {A n : Nat} (h : nd b A ≤ n) : A / b ^ n = 0 := Nat.div_eq_of_lt ((nd_le hb).mp h)
theorem bcm_nd (hb : 1 < b) {A B : Nat} (h : nd b A < nd b B) : A < B := Nat.lt_of_lt_of_le (lt_nd hb A) ((nd_lt hb).mp h)
/-! sums -/
def cy (b A B k : Nat) : Nat := (A % b ^ k + B % b ^ k) / b ^ k
theorem cy_zero (b A B : Nat) : cy b A B 0 = 0 := by simp [cy, Nat.mod_one]
theorem cy_le (hb : 1 < b) (A B k : Nat) : cy b A B k ≤ 1 := by
  unfold cy
  have h1 := Nat.mod_lt A (bp_pos hb k)
  have h2 := Nat.mod_lt B (bp_pos hb k)
  have : (A % b ^ k + B % b ^ k) / b ^ k < 2 := (Nat.div_lt_iff_lt_mul (bp_pos hb k)).mpr (by omega)
  omega
theorem cy_succ (hb : 1 < b) (A B k : Nat) : (dg b A k + dg b B k + cy b A B k) / b = cy b A B (k + 1) := by
  have h : A % b ^ (k + 1) + B % b ^ (k + 1) = (A % b ^ k + B % b ^ k) + b ^ k * (dg b A k + dg b B k) := by
    rw [md_split, md_split, Nat.mul_add]
    omega
  conv => rhs; unfold cy
  rw [h, bp_succ, ← Nat.div_div_eq_div_mul, Nat.add_mul_div_left _ _ (bp_pos hb k)]
  show _ = (cy b A B k + _) / _
  rw [Nat.add_comm]
theorem md_add3 (b x y c : Nat) : (x % b + y % b + c) % b = (c + (x + y)) % b := by
  rw [Nat.add_mod, ← Nat.add_mod x y b, ← Nat.add_mod, Nat.add_comm]
theorem cy_dg (hb : 1 < b) (A B k : Nat) : (dg b A k + dg b B k + cy b A B k) % b = dg b (A + B) k := by
  have hA := Nat.mod_add_div A (b ^ k)
  have hB := Nat.mod_add_div B (b ^ k)
  have h : A + B = (A % b ^ k + B % b ^ k) + b ^ k * (A / b ^ k + B / b ^ k) := by
    rw [Nat.mul_add]
    omega
  unfold dg
  conv => rhs; rw [h]
  rw [Nat.add_mul_div_left _ _ (bp_pos hb k)]
  exact md_add3 b _ _ _
theorem cy_end (hb : 1 < b) {A B n : Nat} (hA : A < b ^ n) (hB : B < b ^ n) : cy b A B n = dg b (A + B) n := by
  unfold cy dg
  rw [Nat.mod_eq_of_lt hA, Nat.mod_eq_of_lt hB, Nat.mod_eq_of_lt]
  exact (Nat.div_lt_iff_lt_mul (bp_pos hb n)).mpr (by
    have h1 : 2 * b ^ n ≤ b * b ^ n := Nat.mul_le_mul_right _ hb
    omega)
theorem nd_add (hb : 1 < b) (A B : Nat) : nd b (A + B) ≤ max (nd b A) (nd b B) + 1 := by
  rw [nd_le hb, bp_succ]
  have h1 : A < b ^ max (nd b A) (nd b B) := (nd_le hb).mp (Nat.le_max_left _ _)
  have h2 : B < b ^ max (nd b A) (nd b B) := (nd_le hb).mp (Nat.le_max_right _ _)
  have h3 : b ^ max (nd b A) (nd b B) * 2 ≤ b ^ max (nd b A) (nd b B) * b := Nat.mul_le_mul_left _ hb
  omega
/-! differences -/
def bw (b A B k : Nat) : Nat := if A % b ^ k < B % b ^ k then 1 else 0
theorem bw_zero (b A B : Nat) : bw b A B 0 = 0 := by simp [bw, Nat.mod_one]
theorem bw_le (b A B k : Nat) : bw b A B k ≤ 1 := by unfold bw; split <;> omega
theorem bw_succ (hb : 1 < b) (A B k : Nat) : bw b A B (k + 1) = if dg b A k < dg b B k + bw b A B k then 1 else 0 := by
  have hp := bp_pos hb k
  have h1 := Nat.mod_lt A hp
  have h2 := Nat.mod_lt B hp
  have key : A % b ^ (k + 1) < B % b ^ (k + 1) ↔ dg b A k < dg b B k + bw b A B k := by
    rw [md_split, md_split]
    unfold bw
    generalize A % b ^ k = a0 at *
    generalize B % b ^ k = b0 at *
    generalize dg b A k = x
    generalize dg b B k = y
    generalize b ^ k = P at *
    rcases Nat.lt_trichotomy x y with q | q | q
    · have : P * (x + 1) ≤ P * y := Nat.mul_le_mul_left _ q
      rw [Nat.mul_add] at this
      constructor
      · intro _; split <;> omega
      · intro _; omega
    · subst q
      constructor
      · intro z; rw [if_pos (show a0 < b0 by omega)]; omega
      · intro z
        by_cases c : a0 < b0
        · omega
        · rw [if_neg c] at z; omega
    · have : P * (y + 1) ≤ P * x := Nat.mul_le_mul_left _ q
      rw [Nat.mul_add] at this
      constructor
      · intro _; omega
      · intro z
        split at z <;> omega
  conv => lhs; unfold bw
  simp only [key]
theorem md_sub (b : Nat) (hb : 0 < b) {x y w : Nat} (h : y + w ≤ x) : (x % b + 2 * b - w - y % b) % b = (x - w - y) % b ∨ 1 < w := by
  rcases Nat.lt_or_ge 1 w with q | q
  · exact Or.inr q
  · left
    have hx := Nat.mod_add_div x b
    have hy := Nat.mod_add_div y b
    have h1 := Nat.mod_lt x hb
    have h2 := Nat.mod_lt y hb
    have hle : y / b ≤ x / b := Nat.div_le_div_right (by omega)
    have e : x % b + 2 * b - w - y % b + b * (x / b - y / b) = (x - w - y) + b * 2 := by
      rw [Nat.mul_sub]
      have := Nat.mul_le_mul_left b hle
      omega
    have e2 := congrArg (· % b) e
    simp only [Nat.add_mul_mod_self_left] at e2
    exact e2
theorem bw_core {P x y a0 b0 : Nat} (hb : 1 < b) (hp : 0 < P) (h1 : a0 < P) (h2 : b0 < P) (h : b0 + P * y ≤ a0 + P * x) : (x % b + 2 * b - (if a0 < b0 then 1 else 0) - y % b) % b = ((a0 + P * x) - (b0 + P * y)) / P % b := by
  by_cases c : a0 < b0
  · have hlt : y < x := by
      rcases Nat.lt_or_ge y x with q | q
      · exact q
      · have := Nat.mul_le_mul_left P q
        omega
    obtain ⟨z, rfl⟩ : ∃ z, x = y + 1 + z := ⟨x - y - 1, by omega⟩
    have e : a0 + P * (y + 1 + z) - (b0 + P * y) = (a0 + P - b0) + P * z := by
      rw [Nat.mul_add, Nat.mul_add, Nat.mul_one]
      omega
    rw [e, Nat.add_mul_div_left _ _ hp, Nat.div_eq_of_lt (show a0 + P - b0 < P by omega), Nat.zero_add, if_pos c]
    rcases md_sub b (by omega) (x := y + 1 + z) (y := y) (w := 1) (by omega) with q | q
    · rw [q, show y + 1 + z - 1 - y = z by omega]
    · omega
  · have hle : y ≤ x := by
      rcases Nat.lt_or_ge x y with q | q
      · have := Nat.mul_le_mul_left P q
        rw [Nat.mul_succ] at this
        omega
      · exact q
    obtain ⟨z, rfl⟩ : ∃ z, x = y + z := ⟨x - y, by omega⟩
    have e : a0 + P * (y + z) - (b0 + P * y) = (a0 - b0) + P * z := by
      rw [Nat.mul_add]
      omega
    rw [e, Nat.add_mul_div_left _ _ hp, Nat.div_eq_of_lt (show a0 - b0 < P by omega), Nat.zero_add, if_neg c]
    rcases md_sub b (by omega) (x := y + z) (y := y) (w := 0) (by omega) with q | q
    · rw [q, show y + z - 0 - y = z by omega]
    · omega
/-- bw_dg: the digit of the difference; the machine's own form is taken from it at each base -/
theorem bw_dg (hb : 1 < b) {A B : Nat} (h : B ≤ A) (k : Nat) : (dg b A k + 2 * b - bw b A B k - dg b B k) % b = dg b (A - B) k := by
  have hp := bp_pos hb k
  have hA := Nat.mod_add_div A (b ^ k)
  have hB := Nat.mod_add_div B (b ^ k)
  have := bw_core (x := A / b ^ k) (y := B / b ^ k) hb hp (Nat.mod_lt A hp) (Nat.mod_lt B hp) (by rw [hA, hB]; exact h)
  rw [hA, hB] at this
  exact this
/-! products: one step of 'a multiple is added': t = f * b + d + carry -/
theorem am_step (b : Nat) {w u e : Nat → Nat} {f k cr t : Nat} (h : vl b w k + cr * b ^ k = f * vl b u k + vl b e k) (ht : t = f * u k + e k + cr) (hw : w k = t % b) : vl b w (k + 1) + (t / b) * b ^ (k + 1) = f * vl b u (k + 1) + vl b e (k + 1) := by
  rw [vl_succ, vl_succ, vl_succ]
  have h1 : t * b ^ k = w k * b ^ k + t / b * b ^ (k + 1) := by
    rw [bp_succ, Nat.mul_comm (b ^ k), ← Nat.mul_assoc, ← Nat.add_mul, hw]
    congr 1
    have := Nat.mod_add_div t b
    rw [Nat.mul_comm (t / b)]
    omega
  have h2 : t * b ^ k = f * (u k * b ^ k) + e k * b ^ k + cr * b ^ k := by
    rw [ht, Nat.add_mul, Nat.add_mul, Nat.mul_assoc]
  rw [Nat.mul_add]
  omega
theorem am_bound {f u d c : Nat} (hf : f < b) (hu : u < b) (hd : d < b) (hc : c < b) : f * u + d + c < b * b := by
  have h1 : (f + 1) * (u + 1) ≤ b * b := Nat.mul_le_mul hf hu
  obtain ⟨m, rfl⟩ : ∃ m, b = m + 1 := ⟨b - 1, by omega⟩
  have h2 : f * u ≤ m * m := Nat.mul_le_mul (by omega) (by omega)
  have h3 : (m + 1) * (m + 1) = m * m + 2 * m + 1 := by rw [Nat.mul_add, Nat.add_mul]; omega
  omega
theorem am_end {c d : Nat → Nat} {place n rest X : Nat} (hlo : ∀ j, j < place → c j = d j) (hhi : ∀ j, place + n ≤ j → c j = d j) (hw : vl b (fun j => c (place + j)) n = X + vl b (fun j => d (place + j)) n) : vl b c (place + n + rest) = vl b d (place + n + rest) + X * b ^ place := by
  rw [vl_split b c (place + n), vl_split b d (place + n), vl_split b c place, vl_split b d place, hw, vl_congr hlo]
  rw [vl_congr (n := rest) (d := fun j => c (place + n + j)) (e := fun j => d (place + n + j)) (fun j _ => hhi _ (by omega))]
  rw [Nat.add_mul]
  omega
/-! shifts by whole digits -/
theorem dg_up (hb : 1 < b) {X u k : Nat} : dg b (X * b ^ u) (k + u) = dg b X k := by
  unfold dg
  rw [Nat.pow_add, Nat.mul_div_mul_right _ _ (bp_pos hb u)]
theorem dg_up0 (hb : 1 < b) {X u k : Nat} (h : k < u) : dg b (X * b ^ u) k = 0 := by
  have := dg_add_hi hb (X := 0) (Y := X) h
  rw [Nat.zero_add] at this
  rw [this, dg_zero]
theorem dg_down {X u k : Nat} : dg b (X / b ^ u) k = dg b X (k + u) := by
  unfold dg
  rw [Nat.div_div_eq_div_mul, ← Nat.pow_add, Nat.add_comm]
end
end
section
/-! BITS AND SHIFTS, in base 2^w -/
theorem bl_zero : bl 0 = 0 := rfl
theorem bl_le {N c : Nat} : bl N ≤ c ↔ N < 2 ^ c := by
  unfold bl
  split
  · rename_i h
    rw [h]
    exact ⟨fun _ => Nat.pow_pos (by decide), fun _ => Nat.zero_le c⟩
  · rename_i h
    rw [← Nat.log2_lt h]
    omega
theorem bl_lt {N c : Nat} : c < bl N ↔ 2 ^ c ≤ N := by
  have := @bl_le N c
  omega
theorem lt_bl (N : Nat) : N < 2 ^ bl N := bl_le.mp (Nat.le_refl _)
theorem bl_eq {N c : Nat} (h1 : 2 ^ c ≤ N) (h2 : N < 2 ^ (c + 1)) : bl N = c + 1 := by
  have := bl_le.mpr h2
  have := bl_lt.mpr h1
  omega
theorem bl_pos {N : Nat} (h : 0 < N) : 0 < bl N := (@bl_lt N 0).mpr (by rw [Nat.pow_zero]; exact h)
theorem bl_eq_zero {N : Nat} : bl N = 0 ↔ N = 0 := by
  have := @bl_le N 0
  rw [Nat.pow_zero] at this
  omega
theorem bl_mono {M N : Nat} (h : M ≤ N) : bl M ≤ bl N := bl_le.mpr (Nat.lt_of_le_of_lt h (lt_bl N))
theorem two_lt {w : Nat} (hw : 0 < w) : 1 < 2 ^ w := Nat.one_lt_two_pow (by omega)
theorem bp_two (w n : Nat) : (2 ^ w) ^ n = 2 ^ (w * n) := by rw [Nat.pow_mul]
theorem bl_top {w N : Nat} (hw : 0 < w) (h : 0 < N) : bl N + w = w * nd (2 ^ w) N + bl (dg (2 ^ w) N (nd (2 ^ w) N - 1)) := by
  have hb := two_lt hw
  have h0 : nd (2 ^ w) N ≠ 0 := fun q => by have := (nd_eq_zero hb).mp q; omega
  have ht := dg_top hb h
  obtain ⟨c, hc⟩ : ∃ c, bl (dg (2 ^ w) N (nd (2 ^ w) N - 1)) = c + 1 := ⟨bl (dg (2 ^ w) N (nd (2 ^ w) N - 1)) - 1, by have := bl_pos (Nat.pos_of_ne_zero ht); omega⟩
  have h1 : 2 ^ c ≤ dg (2 ^ w) N (nd (2 ^ w) N - 1) := bl_lt.mp (by omega)
  have h2 : dg (2 ^ w) N (nd (2 ^ w) N - 1) < 2 ^ (c + 1) := bl_le.mp (by omega)
  rw [dg_top_eq hb h] at h1 h2
  have h3 : 2 ^ (c + w * (nd (2 ^ w) N - 1)) ≤ N := by
    rw [Nat.pow_add, ← bp_two]
    exact (Nat.le_div_iff_mul_le (bp_pos hb _)).mp h1
  have h4 : N < 2 ^ (c + w * (nd (2 ^ w) N - 1) + 1) := by
    rw [show c + w * (nd (2 ^ w) N - 1) + 1 = (c + 1) + w * (nd (2 ^ w) N - 1) by omega, Nat.pow_add, ← bp_two]
    exact (Nat.div_lt_iff_lt_mul (bp_pos hb _)).mp h2
  rw [bl_eq h3 h4, hc]
  obtain ⟨m, hm⟩ : ∃ m, nd (2 ^ w) N = m + 1 := ⟨nd (2 ^ w) N - 1, by omega⟩
  rw [hm, Nat.mul_add, Nat.add_sub_cancel]
  omega
theorem bb_split {w l : Nat} (h : l ≤ w) : 2 ^ w = 2 ^ l * 2 ^ (w - l) := by
  rw [← Nat.pow_add, show l + (w - l) = w by omega]
theorem md_shift {x c p q : Nat} (hq : 0 < q) (hc : c < p) : (x * p + c) % (p * q) = x * p % (p * q) + c := by
  have hp : 0 < p := by omega
  rw [Nat.mul_comm x p, Nat.mul_mod_mul_left]
  have e : p * x + c = (p * (x % q) + c) + p * q * (x / q) := by
    have h1 := Nat.mod_add_div x q
    conv => lhs; rw [← h1, Nat.mul_add, ← Nat.mul_assoc]
    omega
  rw [e, Nat.add_mul_mod_self_left, Nat.mod_eq_of_lt]
  have h2 := Nat.mod_lt x hq
  have h3 : p * (x % q + 1) ≤ p * q := Nat.mul_le_mul_left _ h2
  rw [Nat.mul_add] at h3
  omega
theorem md_mul (x p b : Nat) : x * p % b = x % b * p % b := by
  conv => lhs; rw [Nat.mul_mod]
  conv => rhs; rw [Nat.mul_mod, Nat.mod_mod]
/-- a digit of A * 2^l -/
theorem dg_shl0 (b A p : Nat) : dg b (A * p) 0 = dg b A 0 * p % b := by
  unfold dg
  simp only [Nat.pow_zero, Nat.div_one]
  exact md_mul _ _ _
theorem dg_shl_g {b p q : Nat} (hb : 1 < b) (hbb : b = p * q) (A k : Nat) : dg b (A * p) (k + 1) = dg b A (k + 1) * p % b + dg b A k / q := by
  have hp : 0 < p := by rcases Nat.eq_zero_or_pos p with z | z; · rw [z] at hbb; omega
                        · exact z
  have hq : 0 < q := by rcases Nat.eq_zero_or_pos q with z | z; · rw [z] at hbb; omega
                        · exact z
  have hk := bp_pos hb k
  have e1 : A * p / b ^ k = A / b ^ k * p + A % b ^ k * p / b ^ k := by
    have h1 := Nat.mod_add_div A (b ^ k)
    have h2 : A * p = A % b ^ k * p + b ^ k * (A / b ^ k * p) := by
      conv => lhs; rw [← h1, Nat.add_mul, Nat.mul_assoc]
    rw [h2, Nat.add_mul_div_left _ _ hk, Nat.add_comm]
  have e2 : A % b ^ k * p / b ^ k < p := by
    rw [Nat.div_lt_iff_lt_mul hk, Nat.mul_comm p]
    exact Nat.mul_lt_mul_of_pos_right (Nat.mod_lt _ hk) hp
  have e3 : A * p / b ^ (k + 1) = A / b ^ (k + 1) * p + dg b A k / q := by
    have e30 : A * p / b ^ (k + 1) = A * p / b ^ k / b := by rw [bp_succ, Nat.div_div_eq_div_mul]
    rw [e30, e1, dv_split b A k]
    generalize A % b ^ k * p / b ^ k = c at e2
    generalize A / b ^ (k + 1) = x
    have hy : dg b A k / q < p + 1 := by
      have := dg_lt hb A k
      rw [Nat.div_lt_iff_lt_mul hq, Nat.add_mul]
      omega
    generalize dg b A k = y
    rw [show (x * b + y) * p + c = (y * p + c) + b * (x * p) by rw [Nat.add_mul, Nat.mul_comm x b, Nat.mul_assoc]; omega, Nat.add_mul_div_left _ _ (by omega)]
    have : (y * p + c) / b = y / q := by
      rw [hbb, ← Nat.div_div_eq_div_mul, Nat.add_comm, Nat.add_mul_div_right _ _ hp, Nat.div_eq_of_lt e2, Nat.zero_add]
    rw [this, Nat.add_comm]
  have e4 : dg b A k / q < p := by
    rw [Nat.div_lt_iff_lt_mul hq, ← hbb]
    exact dg_lt hb A k
  have e5 : dg b (A * p) (k + 1) = (A / b ^ (k + 1) * p + dg b A k / q) % (p * q) := by
    rw [← hbb, ← e3]
    rfl
  rw [e5, md_shift hq e4, ← hbb]
  congr 1
  conv => rhs; unfold dg
  exact md_mul _ _ _
/-- a digit of A / 2^l -/
theorem dg_shr_g {b p q : Nat} (hb : 1 < b) (hbb : b = p * q) (A k : Nat) : dg b (A / p) k = dg b A (k + 1) * q % b + dg b A k / p := by
  have hp : 0 < p := by rcases Nat.eq_zero_or_pos p with z | z; · rw [z] at hbb; omega
                        · exact z
  have hq : 0 < q := by rcases Nat.eq_zero_or_pos q with z | z; · rw [z] at hbb; omega
                        · exact z
  have e1 : A / p / b ^ k = A / b ^ (k + 1) * q + dg b A k / p := by
    rw [Nat.div_div_eq_div_mul, Nat.mul_comm, ← Nat.div_div_eq_div_mul, dv_split b A k]
    generalize A / b ^ (k + 1) = x
    generalize dg b A k = y
    rw [show x * b + y = y + (x * q) * p by rw [hbb, Nat.mul_assoc, Nat.mul_comm q p]; omega, Nat.add_mul_div_right _ _ hp, Nat.add_comm]
  have e2 : dg b A k / p < q := by
    rw [Nat.div_lt_iff_lt_mul hp, Nat.mul_comm, ← hbb]
    exact dg_lt hb A k
  have e5 : dg b (A / p) k = (A / b ^ (k + 1) * q + dg b A k / p) % (q * p) := by
    rw [Nat.mul_comm q p, ← hbb, ← e1]
    rfl
  rw [e5, md_shift hp e2, Nat.mul_comm q p, ← hbb]
  congr 1
  conv => rhs; unfold dg
  exact md_mul _ _ _
end
section
/-! THE GUESS OF A QUOTIENT'S DIGIT. S: the divisor, W: the window; v, t: what their places from some P on hold -/
theorem qg_lo {W S P v u : Nat} (hS : 0 < S) (hP : 0 < P) (hv : v * P ≤ S) (hu : u = W / P) (hv0 : 0 < v) : W / S ≤ u / v := by
  rw [Nat.le_div_iff_mul_le hv0, hu, Nat.le_div_iff_mul_le hP, Nat.mul_assoc]
  exact Nat.le_trans (Nat.mul_le_mul_left _ hv) (by rw [Nat.mul_comm]; exact Nat.mul_div_le W S)
theorem qg_down {W S P T t g : Nat} (hP : 0 < P) (hS : 0 < S) (hT : T * P ≤ S) (ht : t = W / P) (h : t < g * T) : W / S < g := by
  rw [Nat.div_lt_iff_lt_mul hS]
  have h1 : W < (t + 1) * P := by
    rw [ht]
    have := Nat.lt_mul_div_succ W hP
    rw [Nat.mul_comm]
    exact this
  have h2 : (t + 1) * P ≤ g * T * P := Nat.mul_le_mul_right _ h
  have h3 : g * T * P ≤ g * S := by rw [Nat.mul_assoc]; exact Nat.mul_le_mul_left _ hT
  omega
theorem qg_up {W S P T t g : Nat} (hP : 0 < P) (hS : 0 < S) (hT : S < (T + 1) * P) (ht : t = W / P) (h : g * T ≤ t) (hg : g ≤ T + 1) : g ≤ W / S + 1 := by
  rcases Nat.eq_zero_or_pos g with q | q
  · rw [q]; exact Nat.zero_le _
  · obtain ⟨b, rfl⟩ : ∃ b, g = b + 1 := ⟨g - 1, by omega⟩
    have h1 : b ≤ W / S := by
      rw [Nat.le_div_iff_mul_le hS]
      have h2 : b * S ≤ b * ((T + 1) * P) := Nat.mul_le_mul_left _ (Nat.le_of_lt hT)
      have h3 : b * (T + 1) ≤ (b + 1) * T := by
        rw [Nat.mul_add, Nat.add_mul]
        omega
      have h4 : b * ((T + 1) * P) ≤ (b + 1) * T * P := by rw [← Nat.mul_assoc]; exact Nat.mul_le_mul_right _ h3
      have h5 : (b + 1) * T * P ≤ t * P := Nat.mul_le_mul_right _ h
      have h6 : t * P ≤ W := by rw [ht, Nat.mul_comm]; exact Nat.mul_div_le W P
      omega
    omega
/-- a pair of 64 bits without a sign, halved, divided, doubled -/
theorem qp_half {u v : Nat} (hv : 0 < v) : u / v = u / 2 / v * 2 ∨ u / v = u / 2 / v * 2 + 1 := by
  have h1 : u / 2 / v = u / v / 2 := by rw [Nat.div_div_eq_div_mul, Nat.div_div_eq_div_mul, Nat.mul_comm]
  rw [h1]
  omega
theorem qp_rest {u v : Nat} (hv : 0 < v) : (if v ≤ u - u / 2 / v * 2 * v then u / 2 / v * 2 + 1 else u / 2 / v * 2) = u / v := by
  have h0 := Nat.div_add_mod u v
  have h1 := Nat.mod_lt u hv
  have hc : v * (u / v) = u / v * v := Nat.mul_comm _ _
  rcases qp_half (u := u) hv with q | q
  · rw [← q, if_neg (by omega)]
  · have e : u / v * v = u / 2 / v * 2 * v + v := by rw [q, Nat.add_mul, Nat.one_mul]
    rw [if_pos (by omega), ← q]
end
section
/-! ===== lN n to 2^64: shifts, and, or, masks, one bit ===== -/
theorem wb_tb (n : Nat) : (lN n).toBitVec = BitVec.ofNat 64 n := rfl
theorem wb_inj {a b : Int64} (h : a.toBitVec = b.toBitVec) : a = b := Int64.toBitVec_inj.mp h
theorem wb_tn {n : Nat} (h : n < 2 ^ 64) : (lN n).toBitVec.toNat = n := by rw [wb_tb, BitVec.toNat_ofNat, Nat.mod_eq_of_lt h]
theorem wb_of (x : Int64) : ∃ n, n < 2 ^ 64 ∧ x = lN n := ⟨x.toBitVec.toNat, x.toBitVec.isLt, wb_inj (by rw [wb_tb]; simp)⟩
theorem wb_of32 (x : Int32) : ∃ n, n < 2 ^ 32 ∧ x = nI n := ⟨x.toBitVec.toNat, x.toBitVec.isLt, Int32.toBitVec_inj.mp (by show _ = BitVec.ofNat 32 _; simp)⟩
theorem wb_c : ∀ k, k < 64 → ((nI k).toInt64 &&& 63) = lN k := by decide +kernel
theorem wb_cu : ∀ k, k < 64 → ((nI k).toInt64.toUInt64 &&& Int64.toUInt64 63) = UInt64.ofNat k := by decide +kernel
theorem wb_sm : ∀ k, k < 64 → (BitVec.ofNat 64 k).smod 64 = BitVec.ofNat 64 k := by decide +kernel
theorem wb_pw {a b : Nat} (h : a ≤ b) : 2 ^ b = 2 ^ a * 2 ^ (b - a) := by rw [← Nat.pow_add]; congr 1; omega
theorem wb_lt2 {a b : Nat} (h : a < b) : 2 ^ a < 2 ^ b := Nat.pow_lt_pow_right (by decide) h
theorem wb_mod (n : Nat) : lN n = lN (n % 2 ^ 64) := wb_inj (by rw [wb_tb, wb_tb]; apply BitVec.eq_of_toNat_eq; rw [BitVec.toNat_ofNat, BitVec.toNat_ofNat, Nat.mod_mod])
theorem wb_shr {n k : Nat} (hn : n < 2 ^ 64) (hk : k < 64) : ((lN n).toUInt64 >>> ((nI k).toInt64.toUInt64 &&& Int64.toUInt64 63)).toInt64 = lN (n / 2 ^ k) := by
  rw [wb_cu k hk]
  apply wb_inj
  apply BitVec.eq_of_toNat_eq
  show ((lN n).toUInt64 >>> UInt64.ofNat k).toNat = (BitVec.ofNat 64 _).toNat
  have h1 : (UInt64.ofNat k).toNat = k := by
    show (BitVec.ofNat 64 k).toNat = k
    rw [BitVec.toNat_ofNat, Nat.mod_eq_of_lt (by omega)]
  have h2 : (lN n).toUInt64.toNat = n := wb_tn hn
  rw [UInt64.toNat_shiftRight, h1, h2, Nat.mod_eq_of_lt hk, Nat.shiftRight_eq_div_pow, BitVec.toNat_ofNat, Nat.mod_eq_of_lt (Nat.lt_of_le_of_lt (Nat.div_le_self _ _) hn)]
theorem wb_shl (n : Nat) {k : Nat} (hk : k < 64) : lN n <<< ((nI k).toInt64 &&& 63) = lN (n * 2 ^ k) := by
  rw [wb_c k hk]
  apply wb_inj
  rw [Int64.toBitVec_shiftLeft, wb_tb, wb_tb, wb_tb, wb_sm k hk]
  apply BitVec.eq_of_toNat_eq
  rw [BitVec.shiftLeft_eq', BitVec.toNat_shiftLeft, BitVec.toNat_ofNat, BitVec.toNat_ofNat, BitVec.toNat_ofNat, Nat.mod_eq_of_lt (show k < 2 ^ 64 by omega), Nat.shiftLeft_eq, Nat.mul_mod, Nat.mod_mod, ← Nat.mul_mod]
theorem wb_and {a b : Nat} (ha : a < 2 ^ 64) (hb : b < 2 ^ 64) : lN a &&& lN b = lN (a &&& b) := by
  apply wb_inj
  rw [Int64.toBitVec_and, wb_tb, wb_tb, wb_tb]
  apply BitVec.eq_of_toNat_eq
  rw [BitVec.toNat_and, BitVec.toNat_ofNat, BitVec.toNat_ofNat, BitVec.toNat_ofNat, Nat.mod_eq_of_lt ha, Nat.mod_eq_of_lt hb, Nat.mod_eq_of_lt (Nat.and_lt_two_pow _ hb)]
theorem wb_or {a b : Nat} (ha : a < 2 ^ 64) (hb : b < 2 ^ 64) : lN a ||| lN b = lN (a ||| b) := by
  apply wb_inj
  rw [Int64.toBitVec_or, wb_tb, wb_tb, wb_tb]
  apply BitVec.eq_of_toNat_eq
  rw [BitVec.toNat_or, BitVec.toNat_ofNat, BitVec.toNat_ofNat, BitVec.toNat_ofNat, Nat.mod_eq_of_lt ha, Nat.mod_eq_of_lt hb, Nat.mod_eq_of_lt (Nat.or_lt_two_pow ha hb)]
theorem wb_mask {n k : Nat} (hn : n < 2 ^ 64) (hk : k < 64) : lN n &&& lN (2 ^ k - 1) = lN (n % 2 ^ k) := by
  rw [wb_and hn (by have := wb_lt2 hk; omega), Nat.and_two_pow_sub_one_eq_mod]
theorem wb_a1 {n : Nat} (hn : n < 2 ^ 64) : lN n &&& 1 = lN (n % 2) := wb_mask (k := 1) hn (by decide)
theorem wb_bit {n k : Nat} (hn : n < 2 ^ 64) (hk : k < 64) : ((lN n).toUInt64 >>> ((nI k).toInt64.toUInt64 &&& Int64.toUInt64 63)).toInt64 &&& 1 = lN (n / 2 ^ k % 2) := by
  rw [wb_shr hn hk, wb_a1 (Nat.lt_of_le_of_lt (Nat.div_le_self _ _) hn)]
theorem wb_xor {q k : Nat} (hk : k < 63) (h : 2 ^ k ≤ q) (h2 : q < 2 ^ (k + 1)) : lN q ^^^ lN (2 ^ k) = lN (q - 2 ^ k) := by
  obtain ⟨r, rfl⟩ : ∃ r, q = 2 ^ k + r := ⟨q - 2 ^ k, by omega⟩
  have hr : r < 2 ^ k := by rw [Nat.pow_succ] at h2; omega
  have hx : (2 ^ k + r) ^^^ 2 ^ k = r := by
    apply Nat.eq_of_testBit_eq
    intro i
    rw [Nat.testBit_xor, Nat.testBit_two_pow]
    rcases Nat.lt_trichotomy i k with h | h | h
    · rw [Nat.testBit_two_pow_add_gt h]
      simp [show ¬ k = i by omega]
    · subst h
      rw [Nat.testBit_two_pow_add_eq]
      simp
    · have a1 : 2 ^ (k + 1) ≤ 2 ^ i := Nat.pow_le_pow_right (by decide) h
      rw [Nat.testBit_lt_two_pow (show 2 ^ k + r < 2 ^ i by omega), Nat.testBit_lt_two_pow (show r < 2 ^ i by omega)]
      simp [show ¬ k = i by omega]
  have b1 := wb_lt2 (show k + 1 < 64 by omega)
  have b2 := wb_lt2 (show k < 64 by omega)
  apply wb_inj
  rw [Int64.toBitVec_xor, wb_tb, wb_tb, wb_tb]
  apply BitVec.eq_of_toNat_eq
  rw [BitVec.toNat_xor, BitVec.toNat_ofNat, BitVec.toNat_ofNat, BitVec.toNat_ofNat, Nat.mod_eq_of_lt (by omega : 2 ^ k + r < 2 ^ 64), Nat.mod_eq_of_lt b2, hx, Nat.add_sub_cancel_left, Nat.mod_eq_of_lt (by omega)]
/-! ===== lN: masks, 'or' of parts that don't overlap is a sum ===== -/
theorem u_tn {n : Nat} (h : n < 2 ^ 64) : (UInt64.ofNat n).toNat = n := Nat.mod_eq_of_lt h
theorem g_and {a b c : Nat} (ha : a < 2 ^ 64) (hb : b < 2 ^ 64) (hc : a &&& b = c) : lN a &&& lN b = lN c := by
  subst hc
  have h : UInt64.ofNat a &&& UInt64.ofNat b = UInt64.ofNat (a &&& b) := UInt64.toNat_inj.mp (by rw [UInt64.toNat_and, u_tn ha, u_tn hb, u_tn (Nat.and_lt_two_pow a hb)])
  have h2 := congrArg UInt64.toInt64 h
  exact h2
theorem g_and1 {a : Nat} (ha : a < 2 ^ 64) : lN a &&& 1 = lN (a % 2) := g_and (b := 1) ha (by decide) (Nat.and_two_pow_sub_one_eq_mod a 1)
theorem g_mask {a s p : Nat} (hp : 2 ^ s = p) (hs : s < 64) (ha : a < 2 ^ 64) : lN a &&& lN (p - 1) = lN (a % p) := by
  subst hp
  have := Nat.pow_lt_pow_right (show 1 < 2 by decide) hs
  exact g_and ha (by omega) (Nat.and_two_pow_sub_one_eq_mod a s)
theorem g_or {k p a b : Nat} (hp : 2 ^ k = p) (ha : a < p) (h : b * p + a < 2 ^ 64) : lN (b * p) ||| lN a = lN (b * p + a) := by
  subst hp
  have h1 : b * 2 ^ k ||| a = b * 2 ^ k + a := by rw [← Nat.shiftLeft_eq, Nat.shiftLeft_add_eq_or_of_lt ha]
  have h3 : UInt64.ofNat (b * 2 ^ k) ||| UInt64.ofNat a = UInt64.ofNat (b * 2 ^ k + a) := UInt64.toNat_inj.mp (by rw [UInt64.toNat_or, u_tn (by omega), u_tn (by omega), u_tn h, h1])
  have h2 := congrArg UInt64.toInt64 h3
  exact h2
theorem g_or' {k p a b : Nat} (hp : 2 ^ k = p) (ha : a < p) (h : a + b * p < 2 ^ 64) : lN a ||| lN (b * p) = lN (a + b * p) := by
  rw [Int64.or_comm, g_or hp ha (by omega), Nat.add_comm]
theorem g_ushr {a k p : Nat} {y : UInt64} (hy : y = UInt64.ofNat k) (hk : k < 64) (hp : 2 ^ k = p) (ha : a < 2 ^ 64) : ((lN a).toUInt64 >>> y).toInt64 = lN (a / p) := by
  subst hy hp
  have h : UInt64.ofNat a >>> UInt64.ofNat k = UInt64.ofNat (a / 2 ^ k) := UInt64.toNat_inj.mp (by rw [UInt64.toNat_shiftRight, u_tn ha, u_tn (by omega), u_tn (Nat.lt_of_le_of_lt (Nat.div_le_self _ _) ha), Nat.mod_eq_of_lt hk, Nat.shiftRight_eq_div_pow])
  have h2 := congrArg UInt64.toInt64 h
  exact h2
theorem g_shl {a k p : Nat} {y : Int64} (hy : y.toBitVec.smod 64 = BitVec.ofNat 64 k) (hk : k < 64) (hp : 2 ^ k = p) (ha : a < 2 ^ 64) : lN a <<< y = lN (a * p) := by
  subst hp
  apply Int64.toBitVec_inj.mp
  rw [Int64.toBitVec_shiftLeft, hy]
  apply BitVec.eq_of_toNat_eq
  have hb : (lN a).toBitVec.toNat = a := Nat.mod_eq_of_lt ha
  have hk' : (BitVec.ofNat 64 k).toNat = k := Nat.mod_eq_of_lt (by omega)
  have h : ((lN a).toBitVec <<< BitVec.ofNat 64 k).toNat = (a * 2 ^ k) % 2 ^ 64 := by simp only [BitVec.shiftLeft_eq', BitVec.toNat_shiftLeft, hb, hk', Nat.shiftLeft_eq]
  exact h
/-! ===== unsigned comparison by xor with the least ===== -/
theorem lN_bv (n : Nat) : (lN n).toBitVec = BitVec.ofNat 64 n := rfl
theorem lN_nat {n : Nat} (h : n < 2 ^ 64) : (lN n).toBitVec.toNat = n := by rw [lN_bv, BitVec.toNat_ofNat]; exact Nat.mod_eq_of_lt h
theorem lN_xor (a b : Nat) : lN a ^^^ lN b = lN (a ^^^ b) := by
  apply Int64.toBitVec_inj.mp; rw [Int64.toBitVec_xor, lN_bv, lN_bv, lN_bv]; apply BitVec.eq_of_getLsbD_eq; intro i hi; simp [BitVec.getLsbD_ofNat, Nat.testBit_xor, hi]
theorem lN_ti {m : Nat} (h : m < 2 ^ 64) : (lN m).toInt = if m < 2 ^ 63 then (m : Int) else (m : Int) - 2 ^ 64 := by
  have c := BitVec.toInt_eq_toNat_cond (lN m).toBitVec
  rw [lN_nat h] at c
  show (lN m).toBitVec.toInt = _
  rw [c]
  split <;> split <;> omega
theorem xor63 {x : Nat} (h : x < 2 ^ 63) : x ^^^ 2 ^ 63 = 2 ^ 63 + x := by
  apply Nat.eq_of_testBit_eq
  intro i
  rw [Nat.testBit_xor, Nat.testBit_two_pow]
  rcases Nat.lt_trichotomy i 63 with z | z | z
  · rw [Nat.testBit_two_pow_add_gt z, decide_eq_false (by omega)]; simp
  · subst z; rw [Nat.testBit_two_pow_add_eq]; simp
  · have hp : 2 ^ 64 ≤ 2 ^ i := Nat.pow_le_pow_right (by decide) z
    rw [Nat.testBit_lt_two_pow (show x < 2 ^ i by omega), Nat.testBit_lt_two_pow (show 2 ^ 63 + x < 2 ^ i by omega), decide_eq_false (by omega)]; rfl
theorem xorS {a : Nat} (h : a < 2 ^ 64) : (lN a ^^^ (-9223372036854775808)).toInt = (a : Int) - 2 ^ 63 := by
  rw [show (-9223372036854775808 : Int64) = lN (2 ^ 63) from by decide +kernel, lN_xor]
  rcases Nat.lt_or_ge a (2 ^ 63) with z | z
  · rw [xor63 z, lN_ti (by omega), if_neg (by omega)]; omega
  · obtain ⟨x, rfl⟩ : ∃ x, a = 2 ^ 63 + x := ⟨a - 2 ^ 63, by omega⟩
    rw [← xor63 (by omega), Nat.xor_assoc, Nat.xor_self, Nat.xor_zero, lN_ti (by omega), if_pos (by omega), xor63 (by omega)]; omega
theorem ultL {a b : Nat} (ha : a < 2 ^ 64) (hb : b < 2 ^ 64) : ((lN b ^^^ (-9223372036854775808)) ≤ (lN a ^^^ (-9223372036854775808))) ↔ b ≤ a := by
  rw [Int64.le_iff_toInt_le, xorS ha, xorS hb]; omega
/-! the longs of the loops -/
theorem ln_mask (n : Nat) : lN n &&& 4294967295 = lN (n % 4294967296) := by
  have h := wb_mask (n := n % 2 ^ 64) (k := 32) (Nat.mod_lt _ (by decide)) (by decide)
  rw [← wb_mod] at h
  have e : n % 2 ^ 64 % 2 ^ 32 = n % 4294967296 := by omega
  rw [e] at h
  exact h
theorem ln_shr32 {n : Nat} (h : n < 18446744073709551616) : ((lN n).toUInt64 >>> ((32 : Int32).toInt64.toUInt64 &&& Int64.toUInt64 63)).toInt64 = lN (n / 4294967296) := wb_shr (k := 32) h (by decide)
theorem ln_shr63 {n : Nat} (h : n < 18446744073709551616) : ((lN n).toUInt64 >>> ((63 : Int32).toInt64.toUInt64 &&& Int64.toUInt64 63)).toInt64 = lN (n / 9223372036854775808) := wb_shr (k := 63) h (by decide)
theorem ln_wrap (n : Nat) : lN (n + 18446744073709551616) = lN n := by
  have e : (n + 18446744073709551616) % 2 ^ 64 = n % 2 ^ 64 := by omega
  rw [wb_mod, e, ← wb_mod]
theorem ln_sub2 {a w b : Nat} (hw : w ≤ 1) (hb : b < 4294967296) : lN a - lN w - lN b = lN (a + 18446744073709551616 - w - b) := by
  rw [← ln_wrap a, lN_sub (by omega), lN_sub (by omega)]
theorem ln_eq {a b : Nat} (ha : a < 18446744073709551616) (hb : b < 18446744073709551616) (h : lN a = lN b) : a = b := by
  have h1 := wb_tn (n := a) ha
  have h2 := wb_tn (n := b) hb
  rw [h] at h1
  exact h1.symm.trans h2
theorem ln_ne0 {a : Nat} (ha : a < 18446744073709551616) (h : a ≠ 0) : lN a ≠ 0 := fun q => h (ln_eq ha (by decide) (q.trans (show (0 : Int64) = lN 0 from rfl)))
end
section
/-! THE POOL OF WHOLES. L: their addresses; ar, cp, cn, fn: of each its row's address, the row's length, its count, its digits; r: all other tracked cells. iW: the number of the class Whole in the table, cJ: the class of long[] -/
def rw_at (iW : Nat) (cJ : ClassId) (L : List Nat) (r : vx_h) (ar cp : Nat → Nat) (cn : Nat → Int32) (fn : Nat → Nat → Int64) (h : vx_h) : Prop :=
  (∀ (b : Nat) (e : va_E), r b = some e → h b = some e ∧ b ∉ L ∧ ∀ q ∈ L, b ≠ ar q) ∧
  (∀ p ∈ L, h p = some (.inr (iW, [.ref (ar p), .int (cn p)])) ∧ h (ar p) = some (.inl (cJ, cp p, .inr (.inl (fn p)))) ∧ 4 ≤ cp p ∧ cp p ≤ 8200) ∧
  (∀ p q : Nat, p ∈ L → q ∈ L → ar p = ar q → p = q)
section
variable {iW : Nat} {cJ : ClassId} {L : List Nat} {r : vx_h} {ar cp : Nat → Nat} {cn : Nat → Int32} {fn : Nat → Nat → Int64} {h : vx_h} {p : Nat}
theorem rw_obj (H : rw_at iW cJ L r ar cp cn fn h) (hp : p ∈ L) : h p = some (.inr (iW, [.ref (ar p), .int (cn p)])) := (H.2.1 p hp).1
theorem rw_row (H : rw_at iW cJ L r ar cp cn fn h) (hp : p ∈ L) : h (ar p) = some (.inl (cJ, cp p, .inr (.inl (fn p)))) := (H.2.1 p hp).2.1
theorem rw_cap (H : rw_at iW cJ L r ar cp cn fn h) (hp : p ∈ L) : 4 ≤ cp p ∧ cp p ≤ 8200 := (H.2.1 p hp).2.2
theorem rw_ne (H : rw_at iW cJ L r ar cp cn fn h) (hp : p ∈ L) {q : Nat} (hq : q ∈ L) : ar q ≠ p := by
  intro e
  have h1 := rw_row H hq
  rw [e, rw_obj H hp] at h1
  cases h1
theorem rw_r (H : rw_at iW cJ L r ar cp cn fn h) {b : Nat} {e : va_E} (he : r b = some e) : h b = some e := (H.1 b e he).1
theorem rw_cn (H : rw_at iW cJ L r ar cp cn fn h) (hp : p ∈ L) (c : Int32) : rw_at iW cJ L r ar cp (va_up cn p c) fn (vx_up h p (.inr (iW, [.ref (ar p), .int c]))) := by
  refine ⟨fun b e he => ?_, fun q hq => ?_, H.2.2⟩
  · obtain ⟨h1, h2, h3⟩ := H.1 b e he
    refine ⟨?_, h2, h3⟩
    rw [vx_up_n (show b ≠ p from fun z => h2 (by rw [z]; exact hp))]
    exact h1
  · obtain ⟨h1, h2, h3⟩ := H.2.1 q hq
    refine ⟨?_, ?_, h3⟩
    · by_cases z : q = p
      · subst z
        rw [vx_up_s, va_up_self]
      · rw [vx_up_n z, va_up_ne _ _ z]
        exact h1
    · rw [vx_up_n (rw_ne H hp hq)]
      exact h2
theorem rw_fn (H : rw_at iW cJ L r ar cp cn fn h) (hp : p ∈ L) (g : Nat → Int64) : rw_at iW cJ L r ar cp cn (va_up fn p g) (vx_up h (ar p) (.inl (cJ, cp p, .inr (.inl g)))) := by
  refine ⟨fun b e he => ?_, fun q hq => ?_, H.2.2⟩
  · obtain ⟨h1, h2, h3⟩ := H.1 b e he
    refine ⟨?_, h2, h3⟩
    rw [vx_up_n (h3 p hp)]
    exact h1
  · obtain ⟨h1, h2, h3⟩ := H.2.1 q hq
    refine ⟨?_, ?_, h3⟩
    · rw [vx_up_n (fun z => rw_ne H hq hp z.symm)]
      exact h1
    · by_cases z : q = p
      · subst z
        rw [vx_up_s, va_up_self]
      · rw [vx_up_n (fun y => z (H.2.2 q p hq hp y)), va_up_ne _ _ z]
        exact h2
/-- a new row for p -/
theorem rw_new (H : rw_at iW cJ L r ar cp cn fn h) (hp : p ∈ L) {a c : Nat} (ha : h a = none) (hc : 4 ≤ c) (hc2 : c ≤ 8200) (g : Nat → Int64) : rw_at iW cJ L r (va_up ar p a) (va_up cp p c) cn (va_up fn p g) (vx_up (vx_up h a (.inl (cJ, c, .inr (.inl g)))) p (.inr (iW, [.ref a, .int (cn p)]))) := by
  have hap : a ≠ p := fun z => by rw [z, rw_obj H hp] at ha; cases ha
  have hal : a ∉ L := fun z => by rw [rw_obj H z] at ha; cases ha
  have har : ∀ q ∈ L, ar q ≠ a := fun q hq z => by rw [← z, rw_row H hq] at ha; cases ha
  refine ⟨fun b e he => ?_, fun q hq => ?_, fun x y hx hy e => ?_⟩
  · obtain ⟨h1, h2, h3⟩ := H.1 b e he
    have hba : b ≠ a := fun z => by rw [z, ha] at h1; cases h1
    refine ⟨?_, h2, fun q hq => ?_⟩
    · rw [vx_up_n (show b ≠ p from fun z => h2 (by rw [z]; exact hp)), vx_up_n hba]
      exact h1
    · by_cases z : q = p
      · subst z
        rw [va_up_self]
        exact hba
      · rw [va_up_ne _ _ z]
        exact h3 q hq
  · obtain ⟨h1, h2, h3⟩ := H.2.1 q hq
    by_cases z : q = p
    · subst z
      rw [va_up_self, va_up_self, va_up_self, vx_up_s, vx_up_n hap, vx_up_s]
      exact ⟨rfl, rfl, hc, hc2⟩
    · rw [va_up_ne _ _ z, va_up_ne _ _ z, va_up_ne _ _ z, vx_up_n z, vx_up_n (show q ≠ a from fun y => hal (by rw [← y]; exact hq)), vx_up_n (rw_ne H hp hq), vx_up_n (har q hq)]
      exact ⟨h1, h2, h3⟩
  · by_cases z : x = p <;> by_cases w : y = p
    · rw [z, w]
    · subst z
      rw [va_up_self, va_up_ne _ _ w] at e
      exact absurd e.symm (har y hy)
    · subst w
      rw [va_up_self, va_up_ne _ _ z] at e
      exact absurd e (har x hx)
    · rw [va_up_ne _ _ z, va_up_ne _ _ w] at e
      exact H.2.2 x y hx hy e
/-- another cell is written -/
theorem rw_rset (H : rw_at iW cJ L r ar cp cn fn h) {b : Nat} {e0 : va_E} (hb : r b = some e0) (e : va_E) : rw_at iW cJ L (vx_up r b e) ar cp cn fn (vx_up h b e) := by
  obtain ⟨h1, h2, h3⟩ := H.1 b e0 hb
  refine ⟨fun x f hf => ?_, fun q hq => ?_, H.2.2⟩
  · by_cases z : x = b
    · subst z
      rw [vx_up_s] at hf ⊢
      exact ⟨hf, h2, h3⟩
    · rw [vx_up_n z] at hf ⊢
      exact H.1 x f hf
  · obtain ⟨g1, g2, g3⟩ := H.2.1 q hq
    rw [vx_up_n (show q ≠ b from fun z => h2 (by rw [← z]; exact hq)), vx_up_n (show ar q ≠ b from fun z => h3 q hq z.symm)]
    exact ⟨g1, g2, g3⟩
end
/-! numbers in the pool -/
/-- the Whole p holds the number N -/
def wv (cp : Nat → Nat) (cn : Nat → Int32) (fn : Nat → Nat → Int64) (p N : Nat) : Prop := cn p = nI (nd 4294967296 N) ∧ nd 4294967296 N ≤ cp p ∧ ∀ i, i < nd 4294967296 N → fn p i = lN (dg 4294967296 N i)
/-- what the rows may still cost: slots and cells -/
def ph (cp : Nat → Nat) : List Nat → Nat
  | [] => 0
  | p :: L => (16400 - 2 * cp p) + ph cp L
def pc_ (cp : Nat → Nat) : List Nat → Nat
  | [] => 0
  | p :: L => (8200 - cp p) / 4 + pc_ cp L
theorem ph_same {cp cp' : Nat → Nat} {L : List Nat} (h : ∀ q ∈ L, cp' q = cp q) : ph cp' L = ph cp L := by
  induction L with
  | nil => rfl
  | cons a L ih => rw [ph, ph, ih (fun q hq => h q (List.mem_cons_of_mem _ hq)), h a List.mem_cons_self]
theorem pc_same {cp cp' : Nat → Nat} {L : List Nat} (h : ∀ q ∈ L, cp' q = cp q) : pc_ cp' L = pc_ cp L := by
  induction L with
  | nil => rfl
  | cons a L ih => rw [pc_, pc_, ih (fun q hq => h q (List.mem_cons_of_mem _ hq)), h a List.mem_cons_self]
theorem ph_up {cp : Nat → Nat} {L : List Nat} {p c : Nat} (hn : L.Nodup) (hp : p ∈ L) (h1 : 2 * cp p ≤ c) (h2 : c ≤ 8200) : c + ph (va_up cp p c) L ≤ ph cp L := by
  induction L with
  | nil => cases hp
  | cons a L ih =>
    rw [List.nodup_cons] at hn
    rw [ph, ph]
    rcases List.mem_cons.mp hp with z | z
    · subst z
      rw [va_up_self, ph_same (cp := cp) (cp' := va_up cp p c) (fun q hq => va_up_ne _ _ (fun y => hn.1 (by rw [← y]; exact hq)))]
      omega
    · have ne : a ≠ p := fun y => hn.1 (by rw [y]; exact z)
      rw [va_up_ne _ _ ne]
      have := ih hn.2 z
      omega
theorem pc_up {cp : Nat → Nat} {L : List Nat} {p c : Nat} (hn : L.Nodup) (hp : p ∈ L) (h0 : 4 ≤ cp p) (h1 : 2 * cp p ≤ c) (h2 : c ≤ 8200) : 1 + pc_ (va_up cp p c) L ≤ pc_ cp L := by
  induction L with
  | nil => cases hp
  | cons a L ih =>
    rw [List.nodup_cons] at hn
    rw [pc_, pc_]
    rcases List.mem_cons.mp hp with z | z
    · subst z
      rw [va_up_self, pc_same (cp := cp) (cp' := va_up cp p c) (fun q hq => va_up_ne _ _ (fun y => hn.1 (by rw [← y]; exact hq)))]
      omega
    · have ne : a ≠ p := fun y => hn.1 (by rw [y]; exact z)
      rw [va_up_ne _ _ ne]
      have := ih hn.2 z
      omega
end
section
/-! classes, methods, words (written by wip/whole/gen/gen_names.py) -/
abbrev rD : String := "SignedMill$Divider"
def tD : u_T := fun k => match k with
  | 0 => ("SignedMill$Divider", "quotient", "LSignedMill$Whole;", true)
  | 1 => ("SignedMill$Divider", "rest", "LSignedMill$Whole;", true)
  | _ => ("SignedMill$Divider", "scaled", "LSignedMill$Whole;", true)
def fD : Nat → FieldType := fun k => match k with
  | 0 => .object "SignedMill$Whole"
  | 1 => .object "SignedMill$Whole"
  | _ => .object "SignedMill$Whole"
theorem nmD : ∀ a, a < 3 → ∀ b, b < 3 → a ≠ b → (tD a).2.1 ≠ (tD b).2.1 := by decide +kernel
theorem tyD : ∀ k, k < 3 → parseFieldDescriptor (tD k).2.2.1 = some (fD k) := by decide +kernel
theorem inD : ∀ w ∈ u_ws rD tD 3, w ∈ lw_gd := by decide +kernel
abbrev rE : String := "SignedMill$Euclid"
def tE : u_T := fun k => match k with
  | 0 => ("SignedMill$Euclid", "x", "LSignedMill$Whole;", true)
  | 1 => ("SignedMill$Euclid", "factorX", "LSignedMill$Whole;", true)
  | 2 => ("SignedMill$Euclid", "isFactorBelow", "Z", false)
  | 3 => ("SignedMill$Euclid", "y", "LSignedMill$Whole;", true)
  | 4 => ("SignedMill$Euclid", "factorY", "LSignedMill$Whole;", true)
  | 5 => ("SignedMill$Euclid", "spare", "LSignedMill$Whole;", true)
  | 6 => ("SignedMill$Euclid", "divider", "LSignedMill$Divider;", true)
  | 7 => ("SignedMill$Euclid", "xx", "J", false)
  | 8 => ("SignedMill$Euclid", "xy", "J", false)
  | 9 => ("SignedMill$Euclid", "yx", "J", false)
  | _ => ("SignedMill$Euclid", "yy", "J", false)
def fE : Nat → FieldType := fun k => match k with
  | 0 => .object "SignedMill$Whole"
  | 1 => .object "SignedMill$Whole"
  | 2 => .boolean
  | 3 => .object "SignedMill$Whole"
  | 4 => .object "SignedMill$Whole"
  | 5 => .object "SignedMill$Whole"
  | 6 => .object "SignedMill$Divider"
  | 7 => .long
  | 8 => .long
  | 9 => .long
  | _ => .long
theorem nmE : ∀ a, a < 11 → ∀ b, b < 11 → a ≠ b → (tE a).2.1 ≠ (tE b).2.1 := by decide +kernel
theorem tyE : ∀ k, k < 11 → parseFieldDescriptor (tE k).2.2.1 = some (fE k) := by decide +kernel
theorem inE : ∀ w ∈ u_ws rE tE 11, w ∈ lw_gd := by decide +kernel
abbrev rW : String := "SignedMill$Whole"
def tW : u_T := fun k => match k with
  | 0 => ("SignedMill$Whole", "digits", "[J", false)
  | _ => ("SignedMill$Whole", "count", "I", false)
def fW : Nat → FieldType := fun k => match k with
  | 0 => .array .long
  | _ => .int
theorem nmW : ∀ a, a < 2 → ∀ b, b < 2 → a ≠ b → (tW a).2.1 ≠ (tW b).2.1 := by decide +kernel
theorem tyW : ∀ k, k < 2 → parseFieldDescriptor (tW k).2.2.1 = some (fW k) := by decide +kernel
theorem inW : ∀ w ∈ u_ws rW tW 2, w ∈ lw_gd := by decide +kernel
abbrev rM : String := "SignedMill"
def tM : u_T := fun k => match k with
  | 0 => ("SignedMill", "sizes", "[LSignedMill$Whole;", true)
  | 1 => ("SignedMill", "minus", "[Z", true)
  | 2 => ("SignedMill", "result", "LSignedMill$Whole;", true)
  | 3 => ("SignedMill", "other", "LSignedMill$Whole;", true)
  | 4 => ("SignedMill", "base", "LSignedMill$Whole;", true)
  | 5 => ("SignedMill", "divider", "LSignedMill$Divider;", true)
  | _ => ("SignedMill", "euclid", "LSignedMill$Euclid;", true)
def fM : Nat → FieldType := fun k => match k with
  | 0 => .array (.object "SignedMill$Whole")
  | 1 => .array .boolean
  | 2 => .object "SignedMill$Whole"
  | 3 => .object "SignedMill$Whole"
  | 4 => .object "SignedMill$Whole"
  | 5 => .object "SignedMill$Divider"
  | _ => .object "SignedMill$Euclid"
theorem nmM : ∀ a, a < 7 → ∀ b, b < 7 → a ≠ b → (tM a).2.1 ≠ (tM b).2.1 := by decide +kernel
theorem tyM : ∀ k, k < 7 → parseFieldDescriptor (tM k).2.2.1 = some (fM k) := by decide +kernel
theorem inM : ∀ w ∈ u_ws rM tM 7, w ∈ lw_gd := by decide +kernel
abbrev rR : String := "SignedMillModel"
def tR : u_T := fun k => match k with
  | 0 => ("SignedMillModel", "m", "[I", true)
  | 1 => ("SignedMillModel", "n", "[I", true)
  | _ => ("SignedMillModel", "below", "[Z", true)
def fR : Nat → FieldType := fun k => match k with
  | 0 => .array .int
  | 1 => .array .int
  | _ => .array .boolean
theorem nmR : ∀ a, a < 3 → ∀ b, b < 3 → a ≠ b → (tR a).2.1 ≠ (tR b).2.1 := by decide +kernel
theorem tyR : ∀ k, k < 3 → parseFieldDescriptor (tR k).2.2.1 = some (fR k) := by decide +kernel
theorem inR : ∀ w ∈ u_ws rR tR 3, w ∈ lw_gd := by decide +kernel
/-- the classes: D 0, E 1, W 2, M 3, R 4 -/
abbrev vcl : List vw_C := [(rD, tD, 3), (rE, tE, 11), (rW, tW, 2), (rM, tM, 7), (rR, tR, 3)]
abbrev bc_M_init : ByteArray := prog_1_method_1_code
abbrev my_M_init : MethodName := ⟨"SignedMill", "<init>", "()V"⟩
abbrev bc_W_init : ByteArray := prog_4_method_1_code
abbrev my_W_init : MethodName := ⟨"SignedMill$Whole", "<init>", "()V"⟩
abbrev bc_D_init : ByteArray := prog_2_method_1_code
abbrev my_D_init : MethodName := ⟨"SignedMill$Divider", "<init>", "()V"⟩
abbrev bc_E_init : ByteArray := prog_3_method_1_code
abbrev my_E_init : MethodName := ⟨"SignedMill$Euclid", "<init>", "()V"⟩
abbrev bc_M_put : ByteArray := prog_1_method_2_code
abbrev my_M_put : MethodName := ⟨"SignedMill", "put", "(IJ)Z"⟩
abbrev bc_M_isRegister : ByteArray := prog_1_method_23_code
abbrev my_M_isRegister : MethodName := ⟨"SignedMill", "isRegister", "(I)Z"⟩
abbrev bc_W_load : ByteArray := prog_4_method_6_code
abbrev my_W_load : MethodName := ⟨"SignedMill$Whole", "load", "(J)V"⟩
abbrev bc_W_trim : ByteArray := prog_4_method_4_code
abbrev my_W_trim : MethodName := ⟨"SignedMill$Whole", "trim", "(I)V"⟩
abbrev bc_M_keep : ByteArray := prog_1_method_26_code
abbrev my_M_keep : MethodName := ⟨"SignedMill", "keep", "(IZ)Z"⟩
abbrev bc_W_bits : ByteArray := prog_4_method_13_code
abbrev my_W_bits : MethodName := ⟨"SignedMill$Whole", "bits", "()I"⟩
abbrev bc_JL_numberOfLeadingZeros : ByteArray := prog_9_method_48_code
abbrev my_JL_numberOfLeadingZeros : MethodName := ⟨"java/lang/Long", "numberOfLeadingZeros", "(J)I"⟩
abbrev bc_JI_numberOfLeadingZeros : ByteArray := prog_8_method_47_code
abbrev my_JI_numberOfLeadingZeros : MethodName := ⟨"java/lang/Integer", "numberOfLeadingZeros", "(I)I"⟩
abbrev bc_M_settle : ByteArray := prog_1_method_27_code
abbrev my_M_settle : MethodName := ⟨"SignedMill", "settle", "(ILSignedMill$Whole;Z)V"⟩
abbrev bc_W_copy : ByteArray := prog_4_method_8_code
abbrev my_W_copy : MethodName := ⟨"SignedMill$Whole", "copy", "(LSignedMill$Whole;)V"⟩
abbrev bc_W_room : ByteArray := prog_4_method_2_code
abbrev my_W_room : MethodName := ⟨"SignedMill$Whole", "room", "(I)V"⟩
abbrev bc_JM_max_II : ByteArray := prog_10_method_65_code
abbrev my_JM_max_II : MethodName := ⟨"java/lang/Math", "max", "(II)I"⟩
abbrev bc_JA_copyOf : ByteArray := prog_12_method_124_code
abbrev my_JA_copyOf : MethodName := ⟨"java/util/Arrays", "copyOf", "([JI)[J"⟩
abbrev bc_JM_min : ByteArray := prog_10_method_69_code
abbrev my_JM_min : MethodName := ⟨"java/lang/Math", "min", "(II)I"⟩
abbrev bc_W_isZero : ByteArray := prog_4_method_9_code
abbrev my_W_isZero : MethodName := ⟨"SignedMill$Whole", "isZero", "()Z"⟩
abbrev bc_M_push : ByteArray := prog_1_method_3_code
abbrev my_M_push : MethodName := ⟨"SignedMill", "push", "(IJ)Z"⟩
abbrev bc_W_raise : ByteArray := prog_4_method_22_code
abbrev my_W_raise : MethodName := ⟨"SignedMill$Whole", "raise", "(LSignedMill$Whole;I)V"⟩
abbrev bc_W_sum : ByteArray := prog_4_method_18_code
abbrev my_W_sum : MethodName := ⟨"SignedMill$Whole", "sum", "(LSignedMill$Whole;LSignedMill$Whole;)V"⟩
abbrev bc_M_spread : ByteArray := prog_1_method_4_code
abbrev my_M_spread : MethodName := ⟨"SignedMill", "spread", "(IJI)Z"⟩
abbrev bc_W_repeat : ByteArray := prog_4_method_7_code
abbrev my_W_repeat : MethodName := ⟨"SignedMill$Whole", "repeat", "(JI)V"⟩
abbrev bc_M_negate : ByteArray := prog_1_method_5_code
abbrev my_M_negate : MethodName := ⟨"SignedMill", "negate", "(II)Z"⟩
abbrev bc_M_areRegisters : ByteArray := prog_1_method_24_code
abbrev my_M_areRegisters : MethodName := ⟨"SignedMill", "areRegisters", "(II)Z"⟩
abbrev bc_M_add : ByteArray := prog_1_method_6_code
abbrev my_M_add : MethodName := ⟨"SignedMill", "add", "(III)Z"⟩
abbrev bc_M_keepSum : ByteArray := prog_1_method_28_code
abbrev my_M_keepSum : MethodName := ⟨"SignedMill", "keepSum", "(IILSignedMill$Whole;Z)Z"⟩
abbrev bc_W_against : ByteArray := prog_4_method_17_code
abbrev my_W_against : MethodName := ⟨"SignedMill$Whole", "against", "(LSignedMill$Whole;)I"⟩
abbrev bc_W_difference : ByteArray := prog_4_method_19_code
abbrev my_W_difference : MethodName := ⟨"SignedMill$Whole", "difference", "(LSignedMill$Whole;LSignedMill$Whole;)V"⟩
abbrev bc_M_take : ByteArray := prog_1_method_7_code
abbrev my_M_take : MethodName := ⟨"SignedMill", "take", "(III)Z"⟩
abbrev bc_M_times : ByteArray := prog_1_method_8_code
abbrev my_M_times : MethodName := ⟨"SignedMill", "times", "(III)Z"⟩
abbrev bc_M_isProductTooLong : ByteArray := prog_1_method_29_code
abbrev my_M_isProductTooLong : MethodName := ⟨"SignedMill", "isProductTooLong", "(LSignedMill$Whole;LSignedMill$Whole;)Z"⟩
abbrev bc_W_product : ByteArray := prog_4_method_20_code
abbrev my_W_product : MethodName := ⟨"SignedMill$Whole", "product", "(LSignedMill$Whole;LSignedMill$Whole;)V"⟩
abbrev bc_W_clear : ByteArray := prog_4_method_5_code
abbrev my_W_clear : MethodName := ⟨"SignedMill$Whole", "clear", "()V"⟩
abbrev bc_W_widen : ByteArray := prog_4_method_3_code
abbrev my_W_widen : MethodName := ⟨"SignedMill$Whole", "widen", "(I)V"⟩
abbrev bc_W_addMultiple : ByteArray := prog_4_method_21_code
abbrev my_W_addMultiple : MethodName := ⟨"SignedMill$Whole", "addMultiple", "(IJLSignedMill$Whole;)V"⟩
abbrev bc_M_divide : ByteArray := prog_1_method_9_code
abbrev my_M_divide : MethodName := ⟨"SignedMill", "divide", "(IIIIZ)Z"⟩
abbrev bc_D_run : ByteArray := prog_2_method_2_code
abbrev my_D_run : MethodName := ⟨"SignedMill$Divider", "run", "(LSignedMill$Whole;LSignedMill$Whole;)V"⟩
abbrev bc_D_takeOut : ByteArray := prog_2_method_3_code
abbrev my_D_takeOut : MethodName := ⟨"SignedMill$Divider", "takeOut", "(II)J"⟩
abbrev bc_D_guess : ByteArray := prog_2_method_4_code
abbrev my_D_guess : MethodName := ⟨"SignedMill$Divider", "guess", "(II)J"⟩
abbrev bc_D_quotientOfPair : ByteArray := prog_2_method_5_code
abbrev my_D_quotientOfPair : MethodName := ⟨"SignedMill$Divider", "quotientOfPair", "(JJ)J"⟩
abbrev bc_JL_compareUnsigned : ByteArray := prog_9_method_43_code
abbrev my_JL_compareUnsigned : MethodName := ⟨"java/lang/Long", "compareUnsigned", "(JJ)I"⟩
abbrev bc_JL_compare : ByteArray := prog_9_method_42_code
abbrev my_JL_compare : MethodName := ⟨"java/lang/Long", "compare", "(JJ)I"⟩
abbrev bc_D_subtract : ByteArray := prog_2_method_6_code
abbrev my_D_subtract : MethodName := ⟨"SignedMill$Divider", "subtract", "(IIJ)Z"⟩
abbrev bc_D_addBack : ByteArray := prog_2_method_7_code
abbrev my_D_addBack : MethodName := ⟨"SignedMill$Divider", "addBack", "(II)V"⟩
abbrev bc_W_lower : ByteArray := prog_4_method_23_code
abbrev my_W_lower : MethodName := ⟨"SignedMill$Whole", "lower", "(LSignedMill$Whole;I)V"⟩
abbrev bc_M_logic : ByteArray := prog_1_method_10_code
abbrev my_M_logic : MethodName := ⟨"SignedMill", "logic", "(IIII)Z"⟩
abbrev bc_W_firstDigit : ByteArray := prog_4_method_14_code
abbrev my_W_firstDigit : MethodName := ⟨"SignedMill$Whole", "firstDigit", "()I"⟩
abbrev bc_M_endlessDigit : ByteArray := prog_1_method_30_code
abbrev my_M_endlessDigit : MethodName := ⟨"SignedMill", "endlessDigit", "(III)J"⟩
abbrev bc_W_digitAt : ByteArray := prog_4_method_10_code
abbrev my_W_digitAt : MethodName := ⟨"SignedMill$Whole", "digitAt", "(I)J"⟩
abbrev bc_M_join : ByteArray := prog_1_method_31_code
abbrev my_M_join : MethodName := ⟨"SignedMill", "join", "(JJI)J"⟩
abbrev bc_W_turnOver : ByteArray := prog_4_method_24_code
abbrev my_W_turnOver : MethodName := ⟨"SignedMill$Whole", "turnOver", "(I)V"⟩
abbrev bc_M_shift : ByteArray := prog_1_method_11_code
abbrev my_M_shift : MethodName := ⟨"SignedMill", "shift", "(III)Z"⟩
abbrev bc_M_shiftUp : ByteArray := prog_1_method_32_code
abbrev my_M_shiftUp : MethodName := ⟨"SignedMill", "shiftUp", "(III)Z"⟩
abbrev bc_M_shiftDown : ByteArray := prog_1_method_33_code
abbrev my_M_shiftDown : MethodName := ⟨"SignedMill", "shiftDown", "(III)Z"⟩
abbrev bc_W_lowestOne : ByteArray := prog_4_method_15_code
abbrev my_W_lowestOne : MethodName := ⟨"SignedMill$Whole", "lowestOne", "()I"⟩
abbrev bc_JL_numberOfTrailingZeros : ByteArray := prog_9_method_49_code
abbrev my_JL_numberOfTrailingZeros : MethodName := ⟨"java/lang/Long", "numberOfTrailingZeros", "(J)I"⟩
abbrev bc_JI_numberOfTrailingZeros : ByteArray := prog_8_method_48_code
abbrev my_JI_numberOfTrailingZeros : MethodName := ⟨"java/lang/Integer", "numberOfTrailingZeros", "(I)I"⟩
abbrev bc_M_change : ByteArray := prog_1_method_12_code
abbrev my_M_change : MethodName := ⟨"SignedMill", "change", "(IIII)Z"⟩
abbrev bc_M_power : ByteArray := prog_1_method_13_code
abbrev my_M_power : MethodName := ⟨"SignedMill", "power", "(III)Z"⟩
abbrev bc_M_findPower : ByteArray := prog_1_method_34_code
abbrev my_M_findPower : MethodName := ⟨"SignedMill", "findPower", "(LSignedMill$Whole;I)Z"⟩
abbrev bc_M_multiplyResult : ByteArray := prog_1_method_35_code
abbrev my_M_multiplyResult : MethodName := ⟨"SignedMill", "multiplyResult", "(LSignedMill$Whole;)Z"⟩
abbrev bc_M_common : ByteArray := prog_1_method_14_code
abbrev my_M_common : MethodName := ⟨"SignedMill", "common", "(III)Z"⟩
abbrev bc_E_run : ByteArray := prog_3_method_2_code
abbrev my_E_run : MethodName := ⟨"SignedMill$Euclid", "run", "(LSignedMill$Whole;LSignedMill$Whole;Z)V"⟩
abbrev bc_E_foresee : ByteArray := prog_3_method_3_code
abbrev my_E_foresee : MethodName := ⟨"SignedMill$Euclid", "foresee", "()Z"⟩
abbrev bc_W_bitsFrom : ByteArray := prog_4_method_12_code
abbrev my_W_bitsFrom : MethodName := ⟨"SignedMill$Whole", "bitsFrom", "(I)J"⟩
abbrev bc_E_turn : ByteArray := prog_3_method_4_code
abbrev my_E_turn : MethodName := ⟨"SignedMill$Euclid", "turn", "(J)Z"⟩
abbrev bc_JM_abs : ByteArray := prog_10_method_61_code
abbrev my_JM_abs : MethodName := ⟨"java/lang/Math", "abs", "(J)J"⟩
abbrev bc_JM_max_JJ : ByteArray := prog_10_method_66_code
abbrev my_JM_max_JJ : MethodName := ⟨"java/lang/Math", "max", "(JJ)J"⟩
abbrev bc_E_leap : ByteArray := prog_3_method_5_code
abbrev my_E_leap : MethodName := ⟨"SignedMill$Euclid", "leap", "(Z)V"⟩
abbrev bc_E_leapRemainders : ByteArray := prog_3_method_6_code
abbrev my_E_leapRemainders : MethodName := ⟨"SignedMill$Euclid", "leapRemainders", "()V"⟩
abbrev bc_E_multiply : ByteArray := prog_3_method_8_code
abbrev my_E_multiply : MethodName := ⟨"SignedMill$Euclid", "multiply", "([J[JIJJJJ)V"⟩
abbrev bc_E_leapFactors : ByteArray := prog_3_method_7_code
abbrev my_E_leapFactors : MethodName := ⟨"SignedMill$Euclid", "leapFactors", "()V"⟩
abbrev bc_E_step : ByteArray := prog_3_method_9_code
abbrev my_E_step : MethodName := ⟨"SignedMill$Euclid", "step", "(Z)V"⟩
abbrev bc_M_inverse : ByteArray := prog_1_method_15_code
abbrev my_M_inverse : MethodName := ⟨"SignedMill", "inverse", "(III)Z"⟩
abbrev bc_M_isModulus : ByteArray := prog_1_method_25_code
abbrev my_M_isModulus : MethodName := ⟨"SignedMill", "isModulus", "(I)Z"⟩
abbrev bc_M_findInverse : ByteArray := prog_1_method_37_code
abbrev my_M_findInverse : MethodName := ⟨"SignedMill", "findInverse", "(II)Z"⟩
abbrev bc_M_reduce : ByteArray := prog_1_method_36_code
abbrev my_M_reduce : MethodName := ⟨"SignedMill", "reduce", "(II)V"⟩
abbrev bc_M_modulo : ByteArray := prog_1_method_16_code
abbrev my_M_modulo : MethodName := ⟨"SignedMill", "modulo", "(IIII)Z"⟩
abbrev bc_M_findPowerByModulus : ByteArray := prog_1_method_38_code
abbrev my_M_findPowerByModulus : MethodName := ⟨"SignedMill", "findPowerByModulus", "(LSignedMill$Whole;LSignedMill$Whole;)V"⟩
abbrev bc_M_multiplyByModulus : ByteArray := prog_1_method_39_code
abbrev my_M_multiplyByModulus : MethodName := ⟨"SignedMill", "multiplyByModulus", "(LSignedMill$Whole;LSignedMill$Whole;)V"⟩
abbrev bc_W_isOne : ByteArray := prog_4_method_11_code
abbrev my_W_isOne : MethodName := ⟨"SignedMill$Whole", "isOne", "(I)Z"⟩
abbrev bc_M_compare : ByteArray := prog_1_method_17_code
abbrev my_M_compare : MethodName := ⟨"SignedMill", "compare", "(II)I"⟩
abbrev bc_M_sign : ByteArray := prog_1_method_18_code
abbrev my_M_sign : MethodName := ⟨"SignedMill", "sign", "(I)I"⟩
abbrev bc_M_length : ByteArray := prog_1_method_19_code
abbrev my_M_length : MethodName := ⟨"SignedMill", "length", "(I)I"⟩
abbrev bc_M_ones : ByteArray := prog_1_method_20_code
abbrev my_M_ones : MethodName := ⟨"SignedMill", "ones", "(I)I"⟩
abbrev bc_W_countOnes : ByteArray := prog_4_method_16_code
abbrev my_W_countOnes : MethodName := ⟨"SignedMill$Whole", "countOnes", "()I"⟩
abbrev bc_JL_bitCount : ByteArray := prog_9_method_50_code
abbrev my_JL_bitCount : MethodName := ⟨"java/lang/Long", "bitCount", "(J)I"⟩
abbrev bc_M_lowest : ByteArray := prog_1_method_21_code
abbrev my_M_lowest : MethodName := ⟨"SignedMill", "lowest", "(I)I"⟩
abbrev bc_M_word : ByteArray := prog_1_method_22_code
abbrev my_M_word : MethodName := ⟨"SignedMill", "word", "(II)I"⟩
abbrev bc_R_init : ByteArray := prog_6_method_1_code
abbrev my_R_init : MethodName := ⟨"SignedMillModel", "<init>", "()V"⟩
abbrev bc_R_put : ByteArray := prog_6_method_21_code
abbrev my_R_put : MethodName := ⟨"SignedMillModel", "put", "(IJ)Z"⟩
abbrev bc_R_is : ByteArray := prog_6_method_2_code
abbrev my_R_is : MethodName := ⟨"SignedMillModel", "is", "(I)Z"⟩
abbrev bc_R_set : ByteArray := prog_6_method_7_code
abbrev my_R_set : MethodName := ⟨"SignedMillModel", "set", "(IJ)V"⟩
abbrev bc_R_at : ByteArray := prog_6_method_3_code
abbrev my_R_at : MethodName := ⟨"SignedMillModel", "at", "(I)I"⟩
abbrev bc_R_trim : ByteArray := prog_6_method_4_code
abbrev my_R_trim : MethodName := ⟨"SignedMillModel", "trim", "(II)V"⟩
abbrev bc_R_store : ByteArray := prog_6_method_20_code
abbrev my_R_store : MethodName := ⟨"SignedMillModel", "store", "(IIZ)Z"⟩
abbrev bc_R_move : ByteArray := prog_6_method_5_code
abbrev my_R_move : MethodName := ⟨"SignedMillModel", "move", "(II)V"⟩
abbrev bc_R_push : ByteArray := prog_6_method_22_code
abbrev my_R_push : MethodName := ⟨"SignedMillModel", "push", "(IJ)Z"⟩
abbrev bc_R_spread : ByteArray := prog_6_method_23_code
abbrev my_R_spread : MethodName := ⟨"SignedMillModel", "spread", "(IJI)Z"⟩
abbrev bc_R_negate : ByteArray := prog_6_method_24_code
abbrev my_R_negate : MethodName := ⟨"SignedMillModel", "negate", "(II)Z"⟩
abbrev bc_R_add : ByteArray := prog_6_method_26_code
abbrev my_R_add : MethodName := ⟨"SignedMillModel", "add", "(III)Z"⟩
abbrev bc_R_added : ByteArray := prog_6_method_25_code
abbrev my_R_added : MethodName := ⟨"SignedMillModel", "added", "(IIZIZ)Z"⟩
abbrev bc_R_compareRows : ByteArray := prog_6_method_8_code
abbrev my_R_compareRows : MethodName := ⟨"SignedMillModel", "compareRows", "(II)I"⟩
abbrev bc_R_sum : ByteArray := prog_6_method_9_code
abbrev my_R_sum : MethodName := ⟨"SignedMillModel", "sum", "(III)V"⟩
abbrev bc_R_digit : ByteArray := prog_6_method_6_code
abbrev my_R_digit : MethodName := ⟨"SignedMillModel", "digit", "(II)I"⟩
abbrev bc_R_lessen : ByteArray := prog_6_method_10_code
abbrev my_R_lessen : MethodName := ⟨"SignedMillModel", "lessen", "(III)V"⟩
abbrev bc_R_take : ByteArray := prog_6_method_27_code
abbrev my_R_take : MethodName := ⟨"SignedMillModel", "take", "(III)Z"⟩
abbrev bc_R_times : ByteArray := prog_6_method_28_code
abbrev my_R_times : MethodName := ⟨"SignedMillModel", "times", "(III)Z"⟩
abbrev bc_R_product : ByteArray := prog_6_method_11_code
abbrev my_R_product : MethodName := ⟨"SignedMillModel", "product", "(III)V"⟩
abbrev bc_R_divide : ByteArray := prog_6_method_29_code
abbrev my_R_divide : MethodName := ⟨"SignedMillModel", "divide", "(IIIIZ)Z"⟩
abbrev bc_R_quotient : ByteArray := prog_6_method_17_code
abbrev my_R_quotient : MethodName := ⟨"SignedMillModel", "quotient", "(IIII)V"⟩
abbrev bc_R_bitsOf : ByteArray := prog_6_method_12_code
abbrev my_R_bitsOf : MethodName := ⟨"SignedMillModel", "bitsOf", "(I)I"⟩
abbrev bc_R_lower : ByteArray := prog_6_method_15_code
abbrev my_R_lower : MethodName := ⟨"SignedMillModel", "lower", "(IIJ)V"⟩
abbrev bc_R_bitOf : ByteArray := prog_6_method_13_code
abbrev my_R_bitOf : MethodName := ⟨"SignedMillModel", "bitOf", "(II)I"⟩
abbrev bc_R_twice : ByteArray := prog_6_method_14_code
abbrev my_R_twice : MethodName := ⟨"SignedMillModel", "twice", "(II)V"⟩
abbrev bc_R_logic : ByteArray := prog_6_method_33_code
abbrev my_R_logic : MethodName := ⟨"SignedMillModel", "logic", "(IIII)Z"⟩
abbrev bc_R_lowestDigit : ByteArray := prog_6_method_31_code
abbrev my_R_lowestDigit : MethodName := ⟨"SignedMillModel", "lowestDigit", "(I)I"⟩
abbrev bc_R_joined : ByteArray := prog_6_method_32_code
abbrev my_R_joined : MethodName := ⟨"SignedMillModel", "joined", "(III)I"⟩
abbrev bc_R_bitsDigit : ByteArray := prog_6_method_30_code
abbrev my_R_bitsDigit : MethodName := ⟨"SignedMillModel", "bitsDigit", "(III)I"⟩
abbrev bc_R_shift : ByteArray := prog_6_method_34_code
abbrev my_R_shift : MethodName := ⟨"SignedMillModel", "shift", "(III)Z"⟩
abbrev bc_R_raise : ByteArray := prog_6_method_16_code
abbrev my_R_raise : MethodName := ⟨"SignedMillModel", "raise", "(III)V"⟩
abbrev bc_R_change : ByteArray := prog_6_method_36_code
abbrev my_R_change : MethodName := ⟨"SignedMillModel", "change", "(IIII)Z"⟩
abbrev bc_R_bitAt : ByteArray := prog_6_method_35_code
abbrev my_R_bitAt : MethodName := ⟨"SignedMillModel", "bitAt", "(II)I"⟩
abbrev bc_R_power : ByteArray := prog_6_method_37_code
abbrev my_R_power : MethodName := ⟨"SignedMillModel", "power", "(III)Z"⟩
abbrev bc_R_common : ByteArray := prog_6_method_38_code
abbrev my_R_common : MethodName := ⟨"SignedMillModel", "common", "(III)Z"⟩
abbrev bc_R_inverse : ByteArray := prog_6_method_41_code
abbrev my_R_inverse : MethodName := ⟨"SignedMillModel", "inverse", "(III)Z"⟩
abbrev bc_R_inverted : ByteArray := prog_6_method_39_code
abbrev my_R_inverted : MethodName := ⟨"SignedMillModel", "inverted", "(I)Z"⟩
abbrev bc_R_residue : ByteArray := prog_6_method_40_code
abbrev my_R_residue : MethodName := ⟨"SignedMillModel", "residue", "(II)V"⟩
abbrev bc_R_rest : ByteArray := prog_6_method_18_code
abbrev my_R_rest : MethodName := ⟨"SignedMillModel", "rest", "(III)V"⟩
abbrev bc_R_takeTimes : ByteArray := prog_6_method_19_code
abbrev my_R_takeTimes : MethodName := ⟨"SignedMillModel", "takeTimes", "(IIJ)V"⟩
abbrev bc_R_modulo : ByteArray := prog_6_method_42_code
abbrev my_R_modulo : MethodName := ⟨"SignedMillModel", "modulo", "(IIII)Z"⟩
abbrev bc_R_compare : ByteArray := prog_6_method_43_code
abbrev my_R_compare : MethodName := ⟨"SignedMillModel", "compare", "(II)I"⟩
abbrev bc_R_sign : ByteArray := prog_6_method_44_code
abbrev my_R_sign : MethodName := ⟨"SignedMillModel", "sign", "(I)I"⟩
abbrev bc_R_length : ByteArray := prog_6_method_45_code
abbrev my_R_length : MethodName := ⟨"SignedMillModel", "length", "(I)I"⟩
abbrev bc_R_ones : ByteArray := prog_6_method_46_code
abbrev my_R_ones : MethodName := ⟨"SignedMillModel", "ones", "(I)I"⟩
abbrev bc_R_lowest : ByteArray := prog_6_method_47_code
abbrev my_R_lowest : MethodName := ⟨"SignedMillModel", "lowest", "(I)I"⟩
abbrev bc_R_word : ByteArray := prog_6_method_48_code
abbrev my_R_word : MethodName := ⟨"SignedMillModel", "word", "(II)I"⟩
theorem wX_L : Jvm.Cond.initialized "SignedMillLaw" ∈ lw_gd := lw_in (List.mem_of_getElem? (i := 47) (by decide +kernel)) (by decide +kernel)
theorem wX_M : Jvm.Cond.initialized "SignedMill" ∈ lw_gd := lw_in (List.mem_of_getElem? (i := 48) (by decide +kernel)) (by decide +kernel)
theorem wX_W : Jvm.Cond.initialized "SignedMill$Whole" ∈ lw_gd := lw_in (List.mem_of_getElem? (i := 49) (by decide +kernel)) (by decide +kernel)
theorem wX_D : Jvm.Cond.initialized "SignedMill$Divider" ∈ lw_gd := lw_in (List.mem_of_getElem? (i := 50) (by decide +kernel)) (by decide +kernel)
theorem wX_E : Jvm.Cond.initialized "SignedMill$Euclid" ∈ lw_gd := lw_in (List.mem_of_getElem? (i := 51) (by decide +kernel)) (by decide +kernel)
theorem wX_R : Jvm.Cond.initialized "SignedMillModel" ∈ lw_gd := lw_in (List.mem_of_getElem? (i := 52) (by decide +kernel)) (by decide +kernel)
theorem wX_JL : Jvm.Cond.initialized "java/lang/Long" ∈ lw_gd := lw_in (List.mem_of_getElem? (i := 53) (by decide +kernel)) (by decide +kernel)
theorem wX_JI : Jvm.Cond.initialized "java/lang/Integer" ∈ lw_gd := lw_in (List.mem_of_getElem? (i := 54) (by decide +kernel)) (by decide +kernel)
theorem wX_JM : Jvm.Cond.initialized "java/lang/Math" ∈ lw_gd := lw_in (List.mem_of_getElem? (i := 55) (by decide +kernel)) (by decide +kernel)
theorem wX_JA : Jvm.Cond.initialized "java/util/Arrays" ∈ lw_gd := lw_in (List.mem_of_getElem? (i := 56) (by decide +kernel)) (by decide +kernel)
theorem wX_JS : Jvm.Cond.initialized "java/lang/System" ∈ lw_gd := lw_in (List.mem_of_getElem? (i := 57) (by decide +kernel)) (by decide +kernel)
theorem wY_L_7 : Jvm.Cond.classLink "SignedMillLaw" (7 : Nat) "SignedMill" ∈ lw_gd := lw_in (List.mem_of_getElem? (i := 58) (by decide +kernel)) (by decide +kernel)
theorem wZ_M : Jvm.Cond.instantiable "SignedMill" (7 : Nat) ∈ lw_gd := lw_in (List.mem_of_getElem? (i := 59) (by decide +kernel)) (by decide +kernel)
theorem wL_L_9 : Jvm.Cond.methodLink "SignedMillLaw" (9 : Nat) ({ cls := "SignedMill", name := "<init>", desc := "()V" } : Jvm.MethodName) ∈ lw_gd := lw_in (List.mem_of_getElem? (i := 60) (by decide +kernel)) (by decide +kernel)
theorem wI_M_init : Jvm.Cond.instanceMethod ({ cls := "SignedMill", name := "<init>", desc := "()V" } : Jvm.MethodName) ∈ lw_gd := lw_in (List.mem_of_getElem? (i := 61) (by decide +kernel)) (by decide +kernel)
theorem wC_M_init : Jvm.Cond.code ({ cls := "SignedMill", name := "<init>", desc := "()V" } : Jvm.MethodName) prog_1_method_1_code (2 : Nat) (Option.none : Option Jvm.ClassFile.FieldType) ∈ lw_gd := lw_in (List.mem_of_getElem? (i := 62) (by decide +kernel)) (by decide +kernel)
theorem wL_M_3 : Jvm.Cond.methodLink "SignedMill" (3 : Nat) ({ cls := "java/lang/Object", name := "<init>", desc := "()V" } : Jvm.MethodName) ∈ lw_gd := lw_in (List.mem_of_getElem? (i := 63) (by decide +kernel)) (by decide +kernel)
theorem wI_JO_init : Jvm.Cond.instanceMethod ({ cls := "java/lang/Object", name := "<init>", desc := "()V" } : Jvm.MethodName) ∈ lw_gd := lw_in (List.mem_of_getElem? (i := 64) (by decide +kernel)) (by decide +kernel)
theorem wC_JO_init : Jvm.Cond.code ({ cls := "java/lang/Object", name := "<init>", desc := "()V" } : Jvm.MethodName) object_method_1_code (1 : Nat) (Option.none : Option Jvm.ClassFile.FieldType) ∈ lw_gd := lw_in (List.mem_of_getElem? (i := 65) (by decide +kernel)) (by decide +kernel)
theorem wY_M_9 : Jvm.Cond.classLink "SignedMill" (9 : Nat) "SignedMill$Whole" ∈ lw_gd := lw_in (List.mem_of_getElem? (i := 66) (by decide +kernel)) (by decide +kernel)
theorem wZ_W : Jvm.Cond.instantiable "SignedMill$Whole" (2 : Nat) ∈ lw_gd := lw_in (List.mem_of_getElem? (i := 68) (by decide +kernel)) (by decide +kernel)
theorem wN_M_19 : Jvm.Cond.methodLinkNest "SignedMill" (19 : Nat) ({ cls := "SignedMill$Whole", name := "<init>", desc := "()V" } : Jvm.MethodName) "SignedMill" ∈ lw_tbl := List.mem_of_getElem? (i := 69) (by decide +kernel)
theorem wI_W_init : Jvm.Cond.instanceMethod ({ cls := "SignedMill$Whole", name := "<init>", desc := "()V" } : Jvm.MethodName) ∈ lw_gd := lw_in (List.mem_of_getElem? (i := 70) (by decide +kernel)) (by decide +kernel)
theorem wC_W_init : Jvm.Cond.code ({ cls := "SignedMill$Whole", name := "<init>", desc := "()V" } : Jvm.MethodName) prog_4_method_1_code (1 : Nat) (Option.none : Option Jvm.ClassFile.FieldType) ∈ lw_gd := lw_in (List.mem_of_getElem? (i := 71) (by decide +kernel)) (by decide +kernel)
theorem wL_W_3 : Jvm.Cond.methodLink "SignedMill$Whole" (3 : Nat) ({ cls := "java/lang/Object", name := "<init>", desc := "()V" } : Jvm.MethodName) ∈ lw_gd := lw_in (List.mem_of_getElem? (i := 72) (by decide +kernel)) (by decide +kernel)
theorem wF_W_11 : Jvm.Cond.fieldLink "SignedMill$Whole" (11 : Nat) "SignedMill$Whole" "digits" "[J" ∈ lw_gd := lw_in (List.mem_of_getElem? (i := 73) (by decide +kernel)) (by decide +kernel)
theorem wF_D_58 : Jvm.Cond.fieldLink "SignedMill$Divider" (58 : Nat) "SignedMill$Whole" "digits" "[J" ∈ lw_gd := lw_in (List.mem_of_getElem? (i := 74) (by decide +kernel)) (by decide +kernel)
theorem wF_E_129 : Jvm.Cond.fieldLink "SignedMill$Euclid" (129 : Nat) "SignedMill$Whole" "digits" "[J" ∈ lw_gd := lw_in (List.mem_of_getElem? (i := 75) (by decide +kernel)) (by decide +kernel)
theorem wF_M_127 : Jvm.Cond.fieldLink "SignedMill" (127 : Nat) "SignedMill$Whole" "digits" "[J" ∈ lw_gd := lw_in (List.mem_of_getElem? (i := 76) (by decide +kernel)) (by decide +kernel)
theorem wF_W_15 : Jvm.Cond.fieldLink "SignedMill$Whole" (15 : Nat) "SignedMill$Whole" "count" "I" ∈ lw_gd := lw_in (List.mem_of_getElem? (i := 77) (by decide +kernel)) (by decide +kernel)
theorem wF_D_39 : Jvm.Cond.fieldLink "SignedMill$Divider" (39 : Nat) "SignedMill$Whole" "count" "I" ∈ lw_gd := lw_in (List.mem_of_getElem? (i := 78) (by decide +kernel)) (by decide +kernel)
theorem wF_E_121 : Jvm.Cond.fieldLink "SignedMill$Euclid" (121 : Nat) "SignedMill$Whole" "count" "I" ∈ lw_gd := lw_in (List.mem_of_getElem? (i := 79) (by decide +kernel)) (by decide +kernel)
theorem wF_M_109 : Jvm.Cond.fieldLink "SignedMill" (109 : Nat) "SignedMill$Whole" "count" "I" ∈ lw_gd := lw_in (List.mem_of_getElem? (i := 80) (by decide +kernel)) (by decide +kernel)
theorem wA_boolean : Jvm.Cond.arrayClass Jvm.ClassFile.FieldType.boolean ∈ lw_gd := lw_in (List.mem_of_getElem? (i := 86) (by decide +kernel)) (by decide +kernel)
theorem wA_long : Jvm.Cond.arrayClass Jvm.ClassFile.FieldType.long ∈ lw_gd := lw_in (List.mem_of_getElem? (i := 87) (by decide +kernel)) (by decide +kernel)
theorem wY_M_30 : Jvm.Cond.classLink "SignedMill" (30 : Nat) "SignedMill$Divider" ∈ lw_gd := lw_in (List.mem_of_getElem? (i := 88) (by decide +kernel)) (by decide +kernel)
theorem wZ_D : Jvm.Cond.instantiable "SignedMill$Divider" (3 : Nat) ∈ lw_gd := lw_in (List.mem_of_getElem? (i := 89) (by decide +kernel)) (by decide +kernel)
theorem wN_M_32 : Jvm.Cond.methodLinkNest "SignedMill" (32 : Nat) ({ cls := "SignedMill$Divider", name := "<init>", desc := "()V" } : Jvm.MethodName) "SignedMill" ∈ lw_tbl := List.mem_of_getElem? (i := 90) (by decide +kernel)
theorem wI_D_init : Jvm.Cond.instanceMethod ({ cls := "SignedMill$Divider", name := "<init>", desc := "()V" } : Jvm.MethodName) ∈ lw_gd := lw_in (List.mem_of_getElem? (i := 91) (by decide +kernel)) (by decide +kernel)
theorem wC_D_init : Jvm.Cond.code ({ cls := "SignedMill$Divider", name := "<init>", desc := "()V" } : Jvm.MethodName) prog_2_method_1_code (1 : Nat) (Option.none : Option Jvm.ClassFile.FieldType) ∈ lw_gd := lw_in (List.mem_of_getElem? (i := 92) (by decide +kernel)) (by decide +kernel)
theorem wL_D_3 : Jvm.Cond.methodLink "SignedMill$Divider" (3 : Nat) ({ cls := "java/lang/Object", name := "<init>", desc := "()V" } : Jvm.MethodName) ∈ lw_gd := lw_in (List.mem_of_getElem? (i := 93) (by decide +kernel)) (by decide +kernel)
theorem wY_D_9 : Jvm.Cond.classLink "SignedMill$Divider" (9 : Nat) "SignedMill$Whole" ∈ lw_gd := lw_in (List.mem_of_getElem? (i := 94) (by decide +kernel)) (by decide +kernel)
theorem wN_D_11 : Jvm.Cond.methodLinkNest "SignedMill$Divider" (11 : Nat) ({ cls := "SignedMill$Whole", name := "<init>", desc := "()V" } : Jvm.MethodName) "SignedMill" ∈ lw_tbl := List.mem_of_getElem? (i := 95) (by decide +kernel)
theorem wF_D_12 : Jvm.Cond.fieldLink "SignedMill$Divider" (12 : Nat) "SignedMill$Divider" "quotient" "LSignedMill$Whole;" ∈ lw_gd := lw_in (List.mem_of_getElem? (i := 96) (by decide +kernel)) (by decide +kernel)
theorem wF_E_145 : Jvm.Cond.fieldLink "SignedMill$Euclid" (145 : Nat) "SignedMill$Divider" "quotient" "LSignedMill$Whole;" ∈ lw_gd := lw_in (List.mem_of_getElem? (i := 97) (by decide +kernel)) (by decide +kernel)
theorem wF_M_99 : Jvm.Cond.fieldLink "SignedMill" (99 : Nat) "SignedMill$Divider" "quotient" "LSignedMill$Whole;" ∈ lw_gd := lw_in (List.mem_of_getElem? (i := 98) (by decide +kernel)) (by decide +kernel)
theorem wF_D_18 : Jvm.Cond.fieldLink "SignedMill$Divider" (18 : Nat) "SignedMill$Divider" "rest" "LSignedMill$Whole;" ∈ lw_gd := lw_in (List.mem_of_getElem? (i := 99) (by decide +kernel)) (by decide +kernel)
theorem wF_E_142 : Jvm.Cond.fieldLink "SignedMill$Euclid" (142 : Nat) "SignedMill$Divider" "rest" "LSignedMill$Whole;" ∈ lw_gd := lw_in (List.mem_of_getElem? (i := 100) (by decide +kernel)) (by decide +kernel)
theorem wF_M_96 : Jvm.Cond.fieldLink "SignedMill" (96 : Nat) "SignedMill$Divider" "rest" "LSignedMill$Whole;" ∈ lw_gd := lw_in (List.mem_of_getElem? (i := 101) (by decide +kernel)) (by decide +kernel)
theorem wF_D_21 : Jvm.Cond.fieldLink "SignedMill$Divider" (21 : Nat) "SignedMill$Divider" "scaled" "LSignedMill$Whole;" ∈ lw_gd := lw_in (List.mem_of_getElem? (i := 102) (by decide +kernel)) (by decide +kernel)
theorem wY_M_37 : Jvm.Cond.classLink "SignedMill" (37 : Nat) "SignedMill$Euclid" ∈ lw_gd := lw_in (List.mem_of_getElem? (i := 110) (by decide +kernel)) (by decide +kernel)
theorem wZ_E : Jvm.Cond.instantiable "SignedMill$Euclid" (11 : Nat) ∈ lw_gd := lw_in (List.mem_of_getElem? (i := 111) (by decide +kernel)) (by decide +kernel)
theorem wN_M_39 : Jvm.Cond.methodLinkNest "SignedMill" (39 : Nat) ({ cls := "SignedMill$Euclid", name := "<init>", desc := "()V" } : Jvm.MethodName) "SignedMill" ∈ lw_tbl := List.mem_of_getElem? (i := 112) (by decide +kernel)
theorem wI_E_init : Jvm.Cond.instanceMethod ({ cls := "SignedMill$Euclid", name := "<init>", desc := "()V" } : Jvm.MethodName) ∈ lw_gd := lw_in (List.mem_of_getElem? (i := 113) (by decide +kernel)) (by decide +kernel)
theorem wC_E_init : Jvm.Cond.code ({ cls := "SignedMill$Euclid", name := "<init>", desc := "()V" } : Jvm.MethodName) prog_3_method_1_code (1 : Nat) (Option.none : Option Jvm.ClassFile.FieldType) ∈ lw_gd := lw_in (List.mem_of_getElem? (i := 114) (by decide +kernel)) (by decide +kernel)
theorem wL_E_3 : Jvm.Cond.methodLink "SignedMill$Euclid" (3 : Nat) ({ cls := "java/lang/Object", name := "<init>", desc := "()V" } : Jvm.MethodName) ∈ lw_gd := lw_in (List.mem_of_getElem? (i := 115) (by decide +kernel)) (by decide +kernel)
theorem wY_E_9 : Jvm.Cond.classLink "SignedMill$Euclid" (9 : Nat) "SignedMill$Whole" ∈ lw_gd := lw_in (List.mem_of_getElem? (i := 116) (by decide +kernel)) (by decide +kernel)
theorem wN_E_11 : Jvm.Cond.methodLinkNest "SignedMill$Euclid" (11 : Nat) ({ cls := "SignedMill$Whole", name := "<init>", desc := "()V" } : Jvm.MethodName) "SignedMill" ∈ lw_tbl := List.mem_of_getElem? (i := 117) (by decide +kernel)
theorem wY_E_34 : Jvm.Cond.classLink "SignedMill$Euclid" (34 : Nat) "SignedMill$Divider" ∈ lw_gd := lw_in (List.mem_of_getElem? (i := 118) (by decide +kernel)) (by decide +kernel)
theorem wN_E_36 : Jvm.Cond.methodLinkNest "SignedMill$Euclid" (36 : Nat) ({ cls := "SignedMill$Divider", name := "<init>", desc := "()V" } : Jvm.MethodName) "SignedMill" ∈ lw_tbl := List.mem_of_getElem? (i := 119) (by decide +kernel)
theorem wF_E_12 : Jvm.Cond.fieldLink "SignedMill$Euclid" (12 : Nat) "SignedMill$Euclid" "x" "LSignedMill$Whole;" ∈ lw_gd := lw_in (List.mem_of_getElem? (i := 120) (by decide +kernel)) (by decide +kernel)
theorem wF_M_161 : Jvm.Cond.fieldLink "SignedMill" (161 : Nat) "SignedMill$Euclid" "x" "LSignedMill$Whole;" ∈ lw_gd := lw_in (List.mem_of_getElem? (i := 121) (by decide +kernel)) (by decide +kernel)
theorem wF_E_18 : Jvm.Cond.fieldLink "SignedMill$Euclid" (18 : Nat) "SignedMill$Euclid" "factorX" "LSignedMill$Whole;" ∈ lw_gd := lw_in (List.mem_of_getElem? (i := 122) (by decide +kernel)) (by decide +kernel)
theorem wF_M_223 : Jvm.Cond.fieldLink "SignedMill" (223 : Nat) "SignedMill$Euclid" "factorX" "LSignedMill$Whole;" ∈ lw_gd := lw_in (List.mem_of_getElem? (i := 123) (by decide +kernel)) (by decide +kernel)
theorem wF_E_21 : Jvm.Cond.fieldLink "SignedMill$Euclid" (21 : Nat) "SignedMill$Euclid" "isFactorBelow" "Z" ∈ lw_gd := lw_in (List.mem_of_getElem? (i := 124) (by decide +kernel)) (by decide +kernel)
theorem wF_M_219 : Jvm.Cond.fieldLink "SignedMill" (219 : Nat) "SignedMill$Euclid" "isFactorBelow" "Z" ∈ lw_gd := lw_in (List.mem_of_getElem? (i := 125) (by decide +kernel)) (by decide +kernel)
theorem wF_E_25 : Jvm.Cond.fieldLink "SignedMill$Euclid" (25 : Nat) "SignedMill$Euclid" "y" "LSignedMill$Whole;" ∈ lw_gd := lw_in (List.mem_of_getElem? (i := 126) (by decide +kernel)) (by decide +kernel)
theorem wF_E_28 : Jvm.Cond.fieldLink "SignedMill$Euclid" (28 : Nat) "SignedMill$Euclid" "factorY" "LSignedMill$Whole;" ∈ lw_gd := lw_in (List.mem_of_getElem? (i := 127) (by decide +kernel)) (by decide +kernel)
theorem wF_E_31 : Jvm.Cond.fieldLink "SignedMill$Euclid" (31 : Nat) "SignedMill$Euclid" "spare" "LSignedMill$Whole;" ∈ lw_gd := lw_in (List.mem_of_getElem? (i := 128) (by decide +kernel)) (by decide +kernel)
theorem wF_E_37 : Jvm.Cond.fieldLink "SignedMill$Euclid" (37 : Nat) "SignedMill$Euclid" "divider" "LSignedMill$Divider;" ∈ lw_gd := lw_in (List.mem_of_getElem? (i := 129) (by decide +kernel)) (by decide +kernel)
theorem wF_E_41 : Jvm.Cond.fieldLink "SignedMill$Euclid" (41 : Nat) "SignedMill$Euclid" "xx" "J" ∈ lw_gd := lw_in (List.mem_of_getElem? (i := 130) (by decide +kernel)) (by decide +kernel)
theorem wF_E_45 : Jvm.Cond.fieldLink "SignedMill$Euclid" (45 : Nat) "SignedMill$Euclid" "xy" "J" ∈ lw_gd := lw_in (List.mem_of_getElem? (i := 131) (by decide +kernel)) (by decide +kernel)
theorem wF_E_48 : Jvm.Cond.fieldLink "SignedMill$Euclid" (48 : Nat) "SignedMill$Euclid" "yx" "J" ∈ lw_gd := lw_in (List.mem_of_getElem? (i := 132) (by decide +kernel)) (by decide +kernel)
theorem wF_E_51 : Jvm.Cond.fieldLink "SignedMill$Euclid" (51 : Nat) "SignedMill$Euclid" "yy" "J" ∈ lw_gd := lw_in (List.mem_of_getElem? (i := 133) (by decide +kernel)) (by decide +kernel)
theorem wF_M_11 : Jvm.Cond.fieldLink "SignedMill" (11 : Nat) "SignedMill" "sizes" "[LSignedMill$Whole;" ∈ lw_gd := lw_in (List.mem_of_getElem? (i := 157) (by decide +kernel)) (by decide +kernel)
theorem wF_M_15 : Jvm.Cond.fieldLink "SignedMill" (15 : Nat) "SignedMill" "minus" "[Z" ∈ lw_gd := lw_in (List.mem_of_getElem? (i := 158) (by decide +kernel)) (by decide +kernel)
theorem wF_M_20 : Jvm.Cond.fieldLink "SignedMill" (20 : Nat) "SignedMill" "result" "LSignedMill$Whole;" ∈ lw_gd := lw_in (List.mem_of_getElem? (i := 159) (by decide +kernel)) (by decide +kernel)
theorem wF_M_24 : Jvm.Cond.fieldLink "SignedMill" (24 : Nat) "SignedMill" "other" "LSignedMill$Whole;" ∈ lw_gd := lw_in (List.mem_of_getElem? (i := 160) (by decide +kernel)) (by decide +kernel)
theorem wF_M_27 : Jvm.Cond.fieldLink "SignedMill" (27 : Nat) "SignedMill" "base" "LSignedMill$Whole;" ∈ lw_gd := lw_in (List.mem_of_getElem? (i := 161) (by decide +kernel)) (by decide +kernel)
theorem wF_M_33 : Jvm.Cond.fieldLink "SignedMill" (33 : Nat) "SignedMill" "divider" "LSignedMill$Divider;" ∈ lw_gd := lw_in (List.mem_of_getElem? (i := 162) (by decide +kernel)) (by decide +kernel)
theorem wF_M_40 : Jvm.Cond.fieldLink "SignedMill" (40 : Nat) "SignedMill" "euclid" "LSignedMill$Euclid;" ∈ lw_gd := lw_in (List.mem_of_getElem? (i := 163) (by decide +kernel)) (by decide +kernel)
theorem wL_L_15 : Jvm.Cond.methodLink "SignedMillLaw" (15 : Nat) ({ cls := "SignedMill", name := "put", desc := "(IJ)Z" } : Jvm.MethodName) ∈ lw_gd := lw_in (List.mem_of_getElem? (i := 179) (by decide +kernel)) (by decide +kernel)
theorem wI_M_put : Jvm.Cond.instanceMethod ({ cls := "SignedMill", name := "put", desc := "(IJ)Z" } : Jvm.MethodName) ∈ lw_gd := lw_in (List.mem_of_getElem? (i := 180) (by decide +kernel)) (by decide +kernel)
theorem wS_M_put : Jvm.Cond.selects "SignedMill" ({ cls := "SignedMill", name := "put", desc := "(IJ)Z" } : Jvm.MethodName) ({ cls := "SignedMill", name := "put", desc := "(IJ)Z" } : Jvm.MethodName) ∈ lw_gd := lw_in (List.mem_of_getElem? (i := 181) (by decide +kernel)) (by decide +kernel)
theorem wC_M_put : Jvm.Cond.code ({ cls := "SignedMill", name := "put", desc := "(IJ)Z" } : Jvm.MethodName) prog_1_method_2_code (4 : Nat) (Option.some Jvm.ClassFile.FieldType.boolean) ∈ lw_gd := lw_in (List.mem_of_getElem? (i := 182) (by decide +kernel)) (by decide +kernel)
theorem wL_M_44 : Jvm.Cond.methodLink "SignedMill" (44 : Nat) ({ cls := "SignedMill", name := "isRegister", desc := "(I)Z" } : Jvm.MethodName) ∈ lw_gd := lw_in (List.mem_of_getElem? (i := 183) (by decide +kernel)) (by decide +kernel)
theorem wT_M_isRegister : Jvm.Cond.static ({ cls := "SignedMill", name := "isRegister", desc := "(I)Z" } : Jvm.MethodName) ∈ lw_gd := lw_in (List.mem_of_getElem? (i := 184) (by decide +kernel)) (by decide +kernel)
theorem wC_M_isRegister : Jvm.Cond.code ({ cls := "SignedMill", name := "isRegister", desc := "(I)Z" } : Jvm.MethodName) prog_1_method_23_code (1 : Nat) (Option.some Jvm.ClassFile.FieldType.boolean) ∈ lw_gd := lw_in (List.mem_of_getElem? (i := 185) (by decide +kernel)) (by decide +kernel)
theorem wL_M_48 : Jvm.Cond.methodLink "SignedMill" (48 : Nat) ({ cls := "SignedMill$Whole", name := "load", desc := "(J)V" } : Jvm.MethodName) ∈ lw_gd := lw_in (List.mem_of_getElem? (i := 186) (by decide +kernel)) (by decide +kernel)
theorem wI_W_load : Jvm.Cond.instanceMethod ({ cls := "SignedMill$Whole", name := "load", desc := "(J)V" } : Jvm.MethodName) ∈ lw_gd := lw_in (List.mem_of_getElem? (i := 187) (by decide +kernel)) (by decide +kernel)
theorem wS_W_load : Jvm.Cond.selects "SignedMill$Whole" ({ cls := "SignedMill$Whole", name := "load", desc := "(J)V" } : Jvm.MethodName) ({ cls := "SignedMill$Whole", name := "load", desc := "(J)V" } : Jvm.MethodName) ∈ lw_gd := lw_in (List.mem_of_getElem? (i := 188) (by decide +kernel)) (by decide +kernel)
theorem wC_W_load : Jvm.Cond.code ({ cls := "SignedMill$Whole", name := "load", desc := "(J)V" } : Jvm.MethodName) prog_4_method_6_code (3 : Nat) (Option.none : Option Jvm.ClassFile.FieldType) ∈ lw_gd := lw_in (List.mem_of_getElem? (i := 189) (by decide +kernel)) (by decide +kernel)
theorem wK_W_35 : Jvm.Cond.constantLong "SignedMill$Whole" (35 : Nat) (4294967295 : Int64) ∈ lw_gd := lw_in (List.mem_of_getElem? (i := 190) (by decide +kernel)) (by decide +kernel)
theorem wL_W_37 : Jvm.Cond.methodLink "SignedMill$Whole" (37 : Nat) ({ cls := "SignedMill$Whole", name := "trim", desc := "(I)V" } : Jvm.MethodName) ∈ lw_gd := lw_in (List.mem_of_getElem? (i := 191) (by decide +kernel)) (by decide +kernel)
theorem wI_W_trim : Jvm.Cond.instanceMethod ({ cls := "SignedMill$Whole", name := "trim", desc := "(I)V" } : Jvm.MethodName) ∈ lw_gd := lw_in (List.mem_of_getElem? (i := 192) (by decide +kernel)) (by decide +kernel)
theorem wS_W_trim : Jvm.Cond.selects "SignedMill$Whole" ({ cls := "SignedMill$Whole", name := "trim", desc := "(I)V" } : Jvm.MethodName) ({ cls := "SignedMill$Whole", name := "trim", desc := "(I)V" } : Jvm.MethodName) ∈ lw_gd := lw_in (List.mem_of_getElem? (i := 193) (by decide +kernel)) (by decide +kernel)
theorem wC_W_trim : Jvm.Cond.code ({ cls := "SignedMill$Whole", name := "trim", desc := "(I)V" } : Jvm.MethodName) prog_4_method_4_code (2 : Nat) (Option.none : Option Jvm.ClassFile.FieldType) ∈ lw_gd := lw_in (List.mem_of_getElem? (i := 194) (by decide +kernel)) (by decide +kernel)
theorem wL_M_52 : Jvm.Cond.methodLink "SignedMill" (52 : Nat) ({ cls := "SignedMill", name := "keep", desc := "(IZ)Z" } : Jvm.MethodName) ∈ lw_gd := lw_in (List.mem_of_getElem? (i := 195) (by decide +kernel)) (by decide +kernel)
theorem wI_M_keep : Jvm.Cond.instanceMethod ({ cls := "SignedMill", name := "keep", desc := "(IZ)Z" } : Jvm.MethodName) ∈ lw_gd := lw_in (List.mem_of_getElem? (i := 197) (by decide +kernel)) (by decide +kernel)
theorem wC_M_keep : Jvm.Cond.code ({ cls := "SignedMill", name := "keep", desc := "(IZ)Z" } : Jvm.MethodName) prog_1_method_26_code (3 : Nat) (Option.some Jvm.ClassFile.FieldType.boolean) ∈ lw_gd := lw_in (List.mem_of_getElem? (i := 198) (by decide +kernel)) (by decide +kernel)
theorem wL_M_170 : Jvm.Cond.methodLink "SignedMill" (170 : Nat) ({ cls := "SignedMill$Whole", name := "bits", desc := "()I" } : Jvm.MethodName) ∈ lw_gd := lw_in (List.mem_of_getElem? (i := 199) (by decide +kernel)) (by decide +kernel)
theorem wI_W_bits : Jvm.Cond.instanceMethod ({ cls := "SignedMill$Whole", name := "bits", desc := "()I" } : Jvm.MethodName) ∈ lw_gd := lw_in (List.mem_of_getElem? (i := 200) (by decide +kernel)) (by decide +kernel)
theorem wS_W_bits : Jvm.Cond.selects "SignedMill$Whole" ({ cls := "SignedMill$Whole", name := "bits", desc := "()I" } : Jvm.MethodName) ({ cls := "SignedMill$Whole", name := "bits", desc := "()I" } : Jvm.MethodName) ∈ lw_gd := lw_in (List.mem_of_getElem? (i := 201) (by decide +kernel)) (by decide +kernel)
theorem wC_W_bits : Jvm.Cond.code ({ cls := "SignedMill$Whole", name := "bits", desc := "()I" } : Jvm.MethodName) prog_4_method_13_code (1 : Nat) (Option.some Jvm.ClassFile.FieldType.int) ∈ lw_gd := lw_in (List.mem_of_getElem? (i := 202) (by decide +kernel)) (by decide +kernel)
theorem wL_W_50 : Jvm.Cond.methodLink "SignedMill$Whole" (50 : Nat) ({ cls := "java/lang/Long", name := "numberOfLeadingZeros", desc := "(J)I" } : Jvm.MethodName) ∈ lw_gd := lw_in (List.mem_of_getElem? (i := 203) (by decide +kernel)) (by decide +kernel)
theorem wT_JL_numberOfLeadingZeros : Jvm.Cond.static ({ cls := "java/lang/Long", name := "numberOfLeadingZeros", desc := "(J)I" } : Jvm.MethodName) ∈ lw_gd := lw_in (List.mem_of_getElem? (i := 204) (by decide +kernel)) (by decide +kernel)
theorem wC_JL_numberOfLeadingZeros : Jvm.Cond.code ({ cls := "java/lang/Long", name := "numberOfLeadingZeros", desc := "(J)I" } : Jvm.MethodName) prog_9_method_48_code (3 : Nat) (Option.some Jvm.ClassFile.FieldType.int) ∈ lw_gd := lw_in (List.mem_of_getElem? (i := 205) (by decide +kernel)) (by decide +kernel)
theorem wL_JL_308 : Jvm.Cond.methodLink "java/lang/Long" (308 : Nat) ({ cls := "java/lang/Integer", name := "numberOfLeadingZeros", desc := "(I)I" } : Jvm.MethodName) ∈ lw_gd := lw_in (List.mem_of_getElem? (i := 206) (by decide +kernel)) (by decide +kernel)
theorem wT_JI_numberOfLeadingZeros : Jvm.Cond.static ({ cls := "java/lang/Integer", name := "numberOfLeadingZeros", desc := "(I)I" } : Jvm.MethodName) ∈ lw_gd := lw_in (List.mem_of_getElem? (i := 207) (by decide +kernel)) (by decide +kernel)
theorem wC_JI_numberOfLeadingZeros : Jvm.Cond.code ({ cls := "java/lang/Integer", name := "numberOfLeadingZeros", desc := "(I)I" } : Jvm.MethodName) prog_8_method_47_code (2 : Nat) (Option.some Jvm.ClassFile.FieldType.int) ∈ lw_gd := lw_in (List.mem_of_getElem? (i := 208) (by decide +kernel)) (by decide +kernel)
theorem wK_JI_264 : Jvm.Cond.constant "java/lang/Integer" (264 : Nat) (65536 : Int32) ∈ lw_gd := lw_in (List.mem_of_getElem? (i := 209) (by decide +kernel)) (by decide +kernel)
theorem wK_M_150 : Jvm.Cond.constant "SignedMill" (150 : Nat) (65536 : Int32) ∈ lw_gd := lw_in (List.mem_of_getElem? (i := 210) (by decide +kernel)) (by decide +kernel)
theorem wL_M_105 : Jvm.Cond.methodLink "SignedMill" (105 : Nat) ({ cls := "SignedMill", name := "settle", desc := "(ILSignedMill$Whole;Z)V" } : Jvm.MethodName) ∈ lw_gd := lw_in (List.mem_of_getElem? (i := 211) (by decide +kernel)) (by decide +kernel)
theorem wI_M_settle : Jvm.Cond.instanceMethod ({ cls := "SignedMill", name := "settle", desc := "(ILSignedMill$Whole;Z)V" } : Jvm.MethodName) ∈ lw_gd := lw_in (List.mem_of_getElem? (i := 213) (by decide +kernel)) (by decide +kernel)
theorem wC_M_settle : Jvm.Cond.code ({ cls := "SignedMill", name := "settle", desc := "(ILSignedMill$Whole;Z)V" } : Jvm.MethodName) prog_1_method_27_code (4 : Nat) (Option.none : Option Jvm.ClassFile.FieldType) ∈ lw_gd := lw_in (List.mem_of_getElem? (i := 214) (by decide +kernel)) (by decide +kernel)
theorem wL_M_74 : Jvm.Cond.methodLink "SignedMill" (74 : Nat) ({ cls := "SignedMill$Whole", name := "copy", desc := "(LSignedMill$Whole;)V" } : Jvm.MethodName) ∈ lw_gd := lw_in (List.mem_of_getElem? (i := 215) (by decide +kernel)) (by decide +kernel)
theorem wI_W_copy : Jvm.Cond.instanceMethod ({ cls := "SignedMill$Whole", name := "copy", desc := "(LSignedMill$Whole;)V" } : Jvm.MethodName) ∈ lw_gd := lw_in (List.mem_of_getElem? (i := 216) (by decide +kernel)) (by decide +kernel)
theorem wS_W_copy : Jvm.Cond.selects "SignedMill$Whole" ({ cls := "SignedMill$Whole", name := "copy", desc := "(LSignedMill$Whole;)V" } : Jvm.MethodName) ({ cls := "SignedMill$Whole", name := "copy", desc := "(LSignedMill$Whole;)V" } : Jvm.MethodName) ∈ lw_gd := lw_in (List.mem_of_getElem? (i := 217) (by decide +kernel)) (by decide +kernel)
theorem wC_W_copy : Jvm.Cond.code ({ cls := "SignedMill$Whole", name := "copy", desc := "(LSignedMill$Whole;)V" } : Jvm.MethodName) prog_4_method_8_code (2 : Nat) (Option.none : Option Jvm.ClassFile.FieldType) ∈ lw_gd := lw_in (List.mem_of_getElem? (i := 218) (by decide +kernel)) (by decide +kernel)
theorem wL_W_31 : Jvm.Cond.methodLink "SignedMill$Whole" (31 : Nat) ({ cls := "SignedMill$Whole", name := "room", desc := "(I)V" } : Jvm.MethodName) ∈ lw_gd := lw_in (List.mem_of_getElem? (i := 219) (by decide +kernel)) (by decide +kernel)
theorem wI_W_room : Jvm.Cond.instanceMethod ({ cls := "SignedMill$Whole", name := "room", desc := "(I)V" } : Jvm.MethodName) ∈ lw_gd := lw_in (List.mem_of_getElem? (i := 220) (by decide +kernel)) (by decide +kernel)
theorem wS_W_room : Jvm.Cond.selects "SignedMill$Whole" ({ cls := "SignedMill$Whole", name := "room", desc := "(I)V" } : Jvm.MethodName) ({ cls := "SignedMill$Whole", name := "room", desc := "(I)V" } : Jvm.MethodName) ∈ lw_gd := lw_in (List.mem_of_getElem? (i := 221) (by decide +kernel)) (by decide +kernel)
theorem wC_W_room : Jvm.Cond.code ({ cls := "SignedMill$Whole", name := "room", desc := "(I)V" } : Jvm.MethodName) prog_4_method_2_code (2 : Nat) (Option.none : Option Jvm.ClassFile.FieldType) ∈ lw_gd := lw_in (List.mem_of_getElem? (i := 222) (by decide +kernel)) (by decide +kernel)
theorem wL_W_19 : Jvm.Cond.methodLink "SignedMill$Whole" (19 : Nat) ({ cls := "java/lang/Math", name := "max", desc := "(II)I" } : Jvm.MethodName) ∈ lw_gd := lw_in (List.mem_of_getElem? (i := 223) (by decide +kernel)) (by decide +kernel)
theorem wT_JM_max_II : Jvm.Cond.static ({ cls := "java/lang/Math", name := "max", desc := "(II)I" } : Jvm.MethodName) ∈ lw_gd := lw_in (List.mem_of_getElem? (i := 224) (by decide +kernel)) (by decide +kernel)
theorem wC_JM_max_II : Jvm.Cond.code ({ cls := "java/lang/Math", name := "max", desc := "(II)I" } : Jvm.MethodName) prog_10_method_65_code (2 : Nat) (Option.some Jvm.ClassFile.FieldType.int) ∈ lw_gd := lw_in (List.mem_of_getElem? (i := 225) (by decide +kernel)) (by decide +kernel)
theorem wL_W_25 : Jvm.Cond.methodLink "SignedMill$Whole" (25 : Nat) ({ cls := "java/util/Arrays", name := "copyOf", desc := "([JI)[J" } : Jvm.MethodName) ∈ lw_gd := lw_in (List.mem_of_getElem? (i := 226) (by decide +kernel)) (by decide +kernel)
theorem wT_JA_copyOf : Jvm.Cond.static ({ cls := "java/util/Arrays", name := "copyOf", desc := "([JI)[J" } : Jvm.MethodName) ∈ lw_gd := lw_in (List.mem_of_getElem? (i := 227) (by decide +kernel)) (by decide +kernel)
theorem wC_JA_copyOf : Jvm.Cond.code ({ cls := "java/util/Arrays", name := "copyOf", desc := "([JI)[J" } : Jvm.MethodName) prog_12_method_124_code (3 : Nat) (Option.some (Jvm.ClassFile.FieldType.array Jvm.ClassFile.FieldType.long)) ∈ lw_gd := lw_in (List.mem_of_getElem? (i := 228) (by decide +kernel)) (by decide +kernel)
theorem wL_JA_319 : Jvm.Cond.methodLink "java/util/Arrays" (319 : Nat) ({ cls := "[J", name := "clone", desc := "()Ljava/lang/Object;" } : Jvm.MethodName) ∈ lw_gd := lw_in (List.mem_of_getElem? (i := 229) (by decide +kernel)) (by decide +kernel)
theorem wV_JO_clone : Jvm.Cond.native ({ cls := "java/lang/Object", name := "clone", desc := "()Ljava/lang/Object;" } : Jvm.MethodName) ∈ lw_gd := lw_in (List.mem_of_getElem? (i := 231) (by decide +kernel)) (by decide +kernel)
theorem wI_JO_clone : Jvm.Cond.instanceMethod ({ cls := "java/lang/Object", name := "clone", desc := "()Ljava/lang/Object;" } : Jvm.MethodName) ∈ lw_gd := lw_in (List.mem_of_getElem? (i := 232) (by decide +kernel)) (by decide +kernel)
theorem wS_AJ_clone : Jvm.Cond.selects "[J" ({ cls := "[J", name := "clone", desc := "()Ljava/lang/Object;" } : Jvm.MethodName) ({ cls := "java/lang/Object", name := "clone", desc := "()Ljava/lang/Object;" } : Jvm.MethodName) ∈ lw_gd := lw_in (List.mem_of_getElem? (i := 233) (by decide +kernel)) (by decide +kernel)
theorem wY_JA_320 : Jvm.Cond.classLink "java/util/Arrays" (320 : Nat) "[J" ∈ lw_gd := lw_in (List.mem_of_getElem? (i := 235) (by decide +kernel)) (by decide +kernel)
theorem wL_JA_304 : Jvm.Cond.methodLink "java/util/Arrays" (304 : Nat) ({ cls := "java/lang/Math", name := "min", desc := "(II)I" } : Jvm.MethodName) ∈ lw_gd := lw_in (List.mem_of_getElem? (i := 236) (by decide +kernel)) (by decide +kernel)
theorem wT_JM_min : Jvm.Cond.static ({ cls := "java/lang/Math", name := "min", desc := "(II)I" } : Jvm.MethodName) ∈ lw_gd := lw_in (List.mem_of_getElem? (i := 237) (by decide +kernel)) (by decide +kernel)
theorem wC_JM_min : Jvm.Cond.code ({ cls := "java/lang/Math", name := "min", desc := "(II)I" } : Jvm.MethodName) prog_10_method_69_code (2 : Nat) (Option.some Jvm.ClassFile.FieldType.int) ∈ lw_gd := lw_in (List.mem_of_getElem? (i := 238) (by decide +kernel)) (by decide +kernel)
theorem wL_JA_150 : Jvm.Cond.methodLink "java/util/Arrays" (150 : Nat) ({ cls := "java/lang/System", name := "arraycopy", desc := "(Ljava/lang/Object;ILjava/lang/Object;II)V" } : Jvm.MethodName) ∈ lw_gd := lw_in (List.mem_of_getElem? (i := 239) (by decide +kernel)) (by decide +kernel)
theorem wT_JS_arraycopy : Jvm.Cond.static ({ cls := "java/lang/System", name := "arraycopy", desc := "(Ljava/lang/Object;ILjava/lang/Object;II)V" } : Jvm.MethodName) ∈ lw_gd := lw_in (List.mem_of_getElem? (i := 240) (by decide +kernel)) (by decide +kernel)
theorem wV_JS_arraycopy : Jvm.Cond.native ({ cls := "java/lang/System", name := "arraycopy", desc := "(Ljava/lang/Object;ILjava/lang/Object;II)V" } : Jvm.MethodName) ∈ lw_gd := lw_in (List.mem_of_getElem? (i := 241) (by decide +kernel)) (by decide +kernel)
theorem wL_W_40 : Jvm.Cond.methodLink "SignedMill$Whole" (40 : Nat) ({ cls := "java/lang/System", name := "arraycopy", desc := "(Ljava/lang/Object;ILjava/lang/Object;II)V" } : Jvm.MethodName) ∈ lw_gd := lw_in (List.mem_of_getElem? (i := 242) (by decide +kernel)) (by decide +kernel)
theorem wL_M_89 : Jvm.Cond.methodLink "SignedMill" (89 : Nat) ({ cls := "SignedMill$Whole", name := "isZero", desc := "()Z" } : Jvm.MethodName) ∈ lw_gd := lw_in (List.mem_of_getElem? (i := 243) (by decide +kernel)) (by decide +kernel)
theorem wI_W_isZero : Jvm.Cond.instanceMethod ({ cls := "SignedMill$Whole", name := "isZero", desc := "()Z" } : Jvm.MethodName) ∈ lw_gd := lw_in (List.mem_of_getElem? (i := 244) (by decide +kernel)) (by decide +kernel)
theorem wS_W_isZero : Jvm.Cond.selects "SignedMill$Whole" ({ cls := "SignedMill$Whole", name := "isZero", desc := "()Z" } : Jvm.MethodName) ({ cls := "SignedMill$Whole", name := "isZero", desc := "()Z" } : Jvm.MethodName) ∈ lw_gd := lw_in (List.mem_of_getElem? (i := 245) (by decide +kernel)) (by decide +kernel)
theorem wC_W_isZero : Jvm.Cond.code ({ cls := "SignedMill$Whole", name := "isZero", desc := "()Z" } : Jvm.MethodName) prog_4_method_9_code (1 : Nat) (Option.some Jvm.ClassFile.FieldType.boolean) ∈ lw_gd := lw_in (List.mem_of_getElem? (i := 246) (by decide +kernel)) (by decide +kernel)
theorem wL_L_20 : Jvm.Cond.methodLink "SignedMillLaw" (20 : Nat) ({ cls := "SignedMill", name := "push", desc := "(IJ)Z" } : Jvm.MethodName) ∈ lw_gd := lw_in (List.mem_of_getElem? (i := 247) (by decide +kernel)) (by decide +kernel)
theorem wI_M_push : Jvm.Cond.instanceMethod ({ cls := "SignedMill", name := "push", desc := "(IJ)Z" } : Jvm.MethodName) ∈ lw_gd := lw_in (List.mem_of_getElem? (i := 248) (by decide +kernel)) (by decide +kernel)
theorem wS_M_push : Jvm.Cond.selects "SignedMill" ({ cls := "SignedMill", name := "push", desc := "(IJ)Z" } : Jvm.MethodName) ({ cls := "SignedMill", name := "push", desc := "(IJ)Z" } : Jvm.MethodName) ∈ lw_gd := lw_in (List.mem_of_getElem? (i := 249) (by decide +kernel)) (by decide +kernel)
theorem wC_M_push : Jvm.Cond.code ({ cls := "SignedMill", name := "push", desc := "(IJ)Z" } : Jvm.MethodName) prog_1_method_3_code (4 : Nat) (Option.some Jvm.ClassFile.FieldType.boolean) ∈ lw_gd := lw_in (List.mem_of_getElem? (i := 250) (by decide +kernel)) (by decide +kernel)
theorem wL_M_58 : Jvm.Cond.methodLink "SignedMill" (58 : Nat) ({ cls := "SignedMill$Whole", name := "raise", desc := "(LSignedMill$Whole;I)V" } : Jvm.MethodName) ∈ lw_gd := lw_in (List.mem_of_getElem? (i := 251) (by decide +kernel)) (by decide +kernel)
theorem wI_W_raise : Jvm.Cond.instanceMethod ({ cls := "SignedMill$Whole", name := "raise", desc := "(LSignedMill$Whole;I)V" } : Jvm.MethodName) ∈ lw_gd := lw_in (List.mem_of_getElem? (i := 252) (by decide +kernel)) (by decide +kernel)
theorem wS_W_raise : Jvm.Cond.selects "SignedMill$Whole" ({ cls := "SignedMill$Whole", name := "raise", desc := "(LSignedMill$Whole;I)V" } : Jvm.MethodName) ({ cls := "SignedMill$Whole", name := "raise", desc := "(LSignedMill$Whole;I)V" } : Jvm.MethodName) ∈ lw_gd := lw_in (List.mem_of_getElem? (i := 253) (by decide +kernel)) (by decide +kernel)
theorem wC_W_raise : Jvm.Cond.code ({ cls := "SignedMill$Whole", name := "raise", desc := "(LSignedMill$Whole;I)V" } : Jvm.MethodName) prog_4_method_22_code (11 : Nat) (Option.none : Option Jvm.ClassFile.FieldType) ∈ lw_gd := lw_in (List.mem_of_getElem? (i := 254) (by decide +kernel)) (by decide +kernel)
theorem wL_M_62 : Jvm.Cond.methodLink "SignedMill" (62 : Nat) ({ cls := "SignedMill$Whole", name := "sum", desc := "(LSignedMill$Whole;LSignedMill$Whole;)V" } : Jvm.MethodName) ∈ lw_gd := lw_in (List.mem_of_getElem? (i := 255) (by decide +kernel)) (by decide +kernel)
theorem wI_W_sum : Jvm.Cond.instanceMethod ({ cls := "SignedMill$Whole", name := "sum", desc := "(LSignedMill$Whole;LSignedMill$Whole;)V" } : Jvm.MethodName) ∈ lw_gd := lw_in (List.mem_of_getElem? (i := 256) (by decide +kernel)) (by decide +kernel)
theorem wS_W_sum : Jvm.Cond.selects "SignedMill$Whole" ({ cls := "SignedMill$Whole", name := "sum", desc := "(LSignedMill$Whole;LSignedMill$Whole;)V" } : Jvm.MethodName) ({ cls := "SignedMill$Whole", name := "sum", desc := "(LSignedMill$Whole;LSignedMill$Whole;)V" } : Jvm.MethodName) ∈ lw_gd := lw_in (List.mem_of_getElem? (i := 257) (by decide +kernel)) (by decide +kernel)
theorem wC_W_sum : Jvm.Cond.code ({ cls := "SignedMill$Whole", name := "sum", desc := "(LSignedMill$Whole;LSignedMill$Whole;)V" } : Jvm.MethodName) prog_4_method_18_code (12 : Nat) (Option.none : Option Jvm.ClassFile.FieldType) ∈ lw_gd := lw_in (List.mem_of_getElem? (i := 258) (by decide +kernel)) (by decide +kernel)
theorem wL_L_24 : Jvm.Cond.methodLink "SignedMillLaw" (24 : Nat) ({ cls := "SignedMill", name := "spread", desc := "(IJI)Z" } : Jvm.MethodName) ∈ lw_gd := lw_in (List.mem_of_getElem? (i := 259) (by decide +kernel)) (by decide +kernel)
theorem wI_M_spread : Jvm.Cond.instanceMethod ({ cls := "SignedMill", name := "spread", desc := "(IJI)Z" } : Jvm.MethodName) ∈ lw_gd := lw_in (List.mem_of_getElem? (i := 260) (by decide +kernel)) (by decide +kernel)
theorem wS_M_spread : Jvm.Cond.selects "SignedMill" ({ cls := "SignedMill", name := "spread", desc := "(IJI)Z" } : Jvm.MethodName) ({ cls := "SignedMill", name := "spread", desc := "(IJI)Z" } : Jvm.MethodName) ∈ lw_gd := lw_in (List.mem_of_getElem? (i := 261) (by decide +kernel)) (by decide +kernel)
theorem wC_M_spread : Jvm.Cond.code ({ cls := "SignedMill", name := "spread", desc := "(IJI)Z" } : Jvm.MethodName) prog_1_method_4_code (5 : Nat) (Option.some Jvm.ClassFile.FieldType.boolean) ∈ lw_gd := lw_in (List.mem_of_getElem? (i := 262) (by decide +kernel)) (by decide +kernel)
theorem wL_M_66 : Jvm.Cond.methodLink "SignedMill" (66 : Nat) ({ cls := "SignedMill$Whole", name := "repeat", desc := "(JI)V" } : Jvm.MethodName) ∈ lw_gd := lw_in (List.mem_of_getElem? (i := 263) (by decide +kernel)) (by decide +kernel)
theorem wI_W_repeat : Jvm.Cond.instanceMethod ({ cls := "SignedMill$Whole", name := "repeat", desc := "(JI)V" } : Jvm.MethodName) ∈ lw_gd := lw_in (List.mem_of_getElem? (i := 264) (by decide +kernel)) (by decide +kernel)
theorem wS_W_repeat : Jvm.Cond.selects "SignedMill$Whole" ({ cls := "SignedMill$Whole", name := "repeat", desc := "(JI)V" } : Jvm.MethodName) ({ cls := "SignedMill$Whole", name := "repeat", desc := "(JI)V" } : Jvm.MethodName) ∈ lw_gd := lw_in (List.mem_of_getElem? (i := 265) (by decide +kernel)) (by decide +kernel)
theorem wC_W_repeat : Jvm.Cond.code ({ cls := "SignedMill$Whole", name := "repeat", desc := "(JI)V" } : Jvm.MethodName) prog_4_method_7_code (5 : Nat) (Option.none : Option Jvm.ClassFile.FieldType) ∈ lw_gd := lw_in (List.mem_of_getElem? (i := 266) (by decide +kernel)) (by decide +kernel)
theorem wL_L_29 : Jvm.Cond.methodLink "SignedMillLaw" (29 : Nat) ({ cls := "SignedMill", name := "negate", desc := "(II)Z" } : Jvm.MethodName) ∈ lw_gd := lw_in (List.mem_of_getElem? (i := 267) (by decide +kernel)) (by decide +kernel)
theorem wI_M_negate : Jvm.Cond.instanceMethod ({ cls := "SignedMill", name := "negate", desc := "(II)Z" } : Jvm.MethodName) ∈ lw_gd := lw_in (List.mem_of_getElem? (i := 268) (by decide +kernel)) (by decide +kernel)
theorem wS_M_negate : Jvm.Cond.selects "SignedMill" ({ cls := "SignedMill", name := "negate", desc := "(II)Z" } : Jvm.MethodName) ({ cls := "SignedMill", name := "negate", desc := "(II)Z" } : Jvm.MethodName) ∈ lw_gd := lw_in (List.mem_of_getElem? (i := 269) (by decide +kernel)) (by decide +kernel)
theorem wC_M_negate : Jvm.Cond.code ({ cls := "SignedMill", name := "negate", desc := "(II)Z" } : Jvm.MethodName) prog_1_method_5_code (3 : Nat) (Option.some Jvm.ClassFile.FieldType.boolean) ∈ lw_gd := lw_in (List.mem_of_getElem? (i := 270) (by decide +kernel)) (by decide +kernel)
theorem wL_M_70 : Jvm.Cond.methodLink "SignedMill" (70 : Nat) ({ cls := "SignedMill", name := "areRegisters", desc := "(II)Z" } : Jvm.MethodName) ∈ lw_gd := lw_in (List.mem_of_getElem? (i := 271) (by decide +kernel)) (by decide +kernel)
theorem wT_M_areRegisters : Jvm.Cond.static ({ cls := "SignedMill", name := "areRegisters", desc := "(II)Z" } : Jvm.MethodName) ∈ lw_gd := lw_in (List.mem_of_getElem? (i := 272) (by decide +kernel)) (by decide +kernel)
theorem wC_M_areRegisters : Jvm.Cond.code ({ cls := "SignedMill", name := "areRegisters", desc := "(II)Z" } : Jvm.MethodName) prog_1_method_24_code (2 : Nat) (Option.some Jvm.ClassFile.FieldType.boolean) ∈ lw_gd := lw_in (List.mem_of_getElem? (i := 273) (by decide +kernel)) (by decide +kernel)
theorem wL_L_34 : Jvm.Cond.methodLink "SignedMillLaw" (34 : Nat) ({ cls := "SignedMill", name := "add", desc := "(III)Z" } : Jvm.MethodName) ∈ lw_gd := lw_in (List.mem_of_getElem? (i := 274) (by decide +kernel)) (by decide +kernel)
theorem wI_M_add : Jvm.Cond.instanceMethod ({ cls := "SignedMill", name := "add", desc := "(III)Z" } : Jvm.MethodName) ∈ lw_gd := lw_in (List.mem_of_getElem? (i := 275) (by decide +kernel)) (by decide +kernel)
theorem wS_M_add : Jvm.Cond.selects "SignedMill" ({ cls := "SignedMill", name := "add", desc := "(III)Z" } : Jvm.MethodName) ({ cls := "SignedMill", name := "add", desc := "(III)Z" } : Jvm.MethodName) ∈ lw_gd := lw_in (List.mem_of_getElem? (i := 276) (by decide +kernel)) (by decide +kernel)
theorem wC_M_add : Jvm.Cond.code ({ cls := "SignedMill", name := "add", desc := "(III)Z" } : Jvm.MethodName) prog_1_method_6_code (4 : Nat) (Option.some Jvm.ClassFile.FieldType.boolean) ∈ lw_gd := lw_in (List.mem_of_getElem? (i := 277) (by decide +kernel)) (by decide +kernel)
theorem wL_M_78 : Jvm.Cond.methodLink "SignedMill" (78 : Nat) ({ cls := "SignedMill", name := "keepSum", desc := "(IILSignedMill$Whole;Z)Z" } : Jvm.MethodName) ∈ lw_gd := lw_in (List.mem_of_getElem? (i := 278) (by decide +kernel)) (by decide +kernel)
theorem wI_M_keepSum : Jvm.Cond.instanceMethod ({ cls := "SignedMill", name := "keepSum", desc := "(IILSignedMill$Whole;Z)Z" } : Jvm.MethodName) ∈ lw_gd := lw_in (List.mem_of_getElem? (i := 280) (by decide +kernel)) (by decide +kernel)
theorem wC_M_keepSum : Jvm.Cond.code ({ cls := "SignedMill", name := "keepSum", desc := "(IILSignedMill$Whole;Z)Z" } : Jvm.MethodName) prog_1_method_28_code (5 : Nat) (Option.some Jvm.ClassFile.FieldType.boolean) ∈ lw_gd := lw_in (List.mem_of_getElem? (i := 281) (by decide +kernel)) (by decide +kernel)
theorem wL_M_182 : Jvm.Cond.methodLink "SignedMill" (182 : Nat) ({ cls := "SignedMill$Whole", name := "against", desc := "(LSignedMill$Whole;)I" } : Jvm.MethodName) ∈ lw_gd := lw_in (List.mem_of_getElem? (i := 282) (by decide +kernel)) (by decide +kernel)
theorem wI_W_against : Jvm.Cond.instanceMethod ({ cls := "SignedMill$Whole", name := "against", desc := "(LSignedMill$Whole;)I" } : Jvm.MethodName) ∈ lw_gd := lw_in (List.mem_of_getElem? (i := 283) (by decide +kernel)) (by decide +kernel)
theorem wS_W_against : Jvm.Cond.selects "SignedMill$Whole" ({ cls := "SignedMill$Whole", name := "against", desc := "(LSignedMill$Whole;)I" } : Jvm.MethodName) ({ cls := "SignedMill$Whole", name := "against", desc := "(LSignedMill$Whole;)I" } : Jvm.MethodName) ∈ lw_gd := lw_in (List.mem_of_getElem? (i := 284) (by decide +kernel)) (by decide +kernel)
theorem wC_W_against : Jvm.Cond.code ({ cls := "SignedMill$Whole", name := "against", desc := "(LSignedMill$Whole;)I" } : Jvm.MethodName) prog_4_method_17_code (3 : Nat) (Option.some Jvm.ClassFile.FieldType.int) ∈ lw_gd := lw_in (List.mem_of_getElem? (i := 285) (by decide +kernel)) (by decide +kernel)
theorem wL_M_102 : Jvm.Cond.methodLink "SignedMill" (102 : Nat) ({ cls := "SignedMill$Whole", name := "difference", desc := "(LSignedMill$Whole;LSignedMill$Whole;)V" } : Jvm.MethodName) ∈ lw_gd := lw_in (List.mem_of_getElem? (i := 286) (by decide +kernel)) (by decide +kernel)
theorem wI_W_difference : Jvm.Cond.instanceMethod ({ cls := "SignedMill$Whole", name := "difference", desc := "(LSignedMill$Whole;LSignedMill$Whole;)V" } : Jvm.MethodName) ∈ lw_gd := lw_in (List.mem_of_getElem? (i := 287) (by decide +kernel)) (by decide +kernel)
theorem wS_W_difference : Jvm.Cond.selects "SignedMill$Whole" ({ cls := "SignedMill$Whole", name := "difference", desc := "(LSignedMill$Whole;LSignedMill$Whole;)V" } : Jvm.MethodName) ({ cls := "SignedMill$Whole", name := "difference", desc := "(LSignedMill$Whole;LSignedMill$Whole;)V" } : Jvm.MethodName) ∈ lw_gd := lw_in (List.mem_of_getElem? (i := 288) (by decide +kernel)) (by decide +kernel)
theorem wC_W_difference : Jvm.Cond.code ({ cls := "SignedMill$Whole", name := "difference", desc := "(LSignedMill$Whole;LSignedMill$Whole;)V" } : Jvm.MethodName) prog_4_method_19_code (10 : Nat) (Option.none : Option Jvm.ClassFile.FieldType) ∈ lw_gd := lw_in (List.mem_of_getElem? (i := 289) (by decide +kernel)) (by decide +kernel)
theorem wL_L_39 : Jvm.Cond.methodLink "SignedMillLaw" (39 : Nat) ({ cls := "SignedMill", name := "take", desc := "(III)Z" } : Jvm.MethodName) ∈ lw_gd := lw_in (List.mem_of_getElem? (i := 290) (by decide +kernel)) (by decide +kernel)
theorem wI_M_take : Jvm.Cond.instanceMethod ({ cls := "SignedMill", name := "take", desc := "(III)Z" } : Jvm.MethodName) ∈ lw_gd := lw_in (List.mem_of_getElem? (i := 291) (by decide +kernel)) (by decide +kernel)
theorem wS_M_take : Jvm.Cond.selects "SignedMill" ({ cls := "SignedMill", name := "take", desc := "(III)Z" } : Jvm.MethodName) ({ cls := "SignedMill", name := "take", desc := "(III)Z" } : Jvm.MethodName) ∈ lw_gd := lw_in (List.mem_of_getElem? (i := 292) (by decide +kernel)) (by decide +kernel)
theorem wC_M_take : Jvm.Cond.code ({ cls := "SignedMill", name := "take", desc := "(III)Z" } : Jvm.MethodName) prog_1_method_7_code (4 : Nat) (Option.some Jvm.ClassFile.FieldType.boolean) ∈ lw_gd := lw_in (List.mem_of_getElem? (i := 293) (by decide +kernel)) (by decide +kernel)
theorem wL_L_43 : Jvm.Cond.methodLink "SignedMillLaw" (43 : Nat) ({ cls := "SignedMill", name := "times", desc := "(III)Z" } : Jvm.MethodName) ∈ lw_gd := lw_in (List.mem_of_getElem? (i := 294) (by decide +kernel)) (by decide +kernel)
theorem wI_M_times : Jvm.Cond.instanceMethod ({ cls := "SignedMill", name := "times", desc := "(III)Z" } : Jvm.MethodName) ∈ lw_gd := lw_in (List.mem_of_getElem? (i := 295) (by decide +kernel)) (by decide +kernel)
theorem wS_M_times : Jvm.Cond.selects "SignedMill" ({ cls := "SignedMill", name := "times", desc := "(III)Z" } : Jvm.MethodName) ({ cls := "SignedMill", name := "times", desc := "(III)Z" } : Jvm.MethodName) ∈ lw_gd := lw_in (List.mem_of_getElem? (i := 296) (by decide +kernel)) (by decide +kernel)
theorem wC_M_times : Jvm.Cond.code ({ cls := "SignedMill", name := "times", desc := "(III)Z" } : Jvm.MethodName) prog_1_method_8_code (4 : Nat) (Option.some Jvm.ClassFile.FieldType.boolean) ∈ lw_gd := lw_in (List.mem_of_getElem? (i := 297) (by decide +kernel)) (by decide +kernel)
theorem wL_M_82 : Jvm.Cond.methodLink "SignedMill" (82 : Nat) ({ cls := "SignedMill", name := "isProductTooLong", desc := "(LSignedMill$Whole;LSignedMill$Whole;)Z" } : Jvm.MethodName) ∈ lw_gd := lw_in (List.mem_of_getElem? (i := 298) (by decide +kernel)) (by decide +kernel)
theorem wT_M_isProductTooLong : Jvm.Cond.static ({ cls := "SignedMill", name := "isProductTooLong", desc := "(LSignedMill$Whole;LSignedMill$Whole;)Z" } : Jvm.MethodName) ∈ lw_gd := lw_in (List.mem_of_getElem? (i := 299) (by decide +kernel)) (by decide +kernel)
theorem wC_M_isProductTooLong : Jvm.Cond.code ({ cls := "SignedMill", name := "isProductTooLong", desc := "(LSignedMill$Whole;LSignedMill$Whole;)Z" } : Jvm.MethodName) prog_1_method_29_code (2 : Nat) (Option.some Jvm.ClassFile.FieldType.boolean) ∈ lw_gd := lw_in (List.mem_of_getElem? (i := 300) (by decide +kernel)) (by decide +kernel)
theorem wK_M_192 : Jvm.Cond.constant "SignedMill" (192 : Nat) (65537 : Int32) ∈ lw_gd := lw_in (List.mem_of_getElem? (i := 301) (by decide +kernel)) (by decide +kernel)
theorem wL_M_86 : Jvm.Cond.methodLink "SignedMill" (86 : Nat) ({ cls := "SignedMill$Whole", name := "product", desc := "(LSignedMill$Whole;LSignedMill$Whole;)V" } : Jvm.MethodName) ∈ lw_gd := lw_in (List.mem_of_getElem? (i := 302) (by decide +kernel)) (by decide +kernel)
theorem wI_W_product : Jvm.Cond.instanceMethod ({ cls := "SignedMill$Whole", name := "product", desc := "(LSignedMill$Whole;LSignedMill$Whole;)V" } : Jvm.MethodName) ∈ lw_gd := lw_in (List.mem_of_getElem? (i := 303) (by decide +kernel)) (by decide +kernel)
theorem wS_W_product : Jvm.Cond.selects "SignedMill$Whole" ({ cls := "SignedMill$Whole", name := "product", desc := "(LSignedMill$Whole;LSignedMill$Whole;)V" } : Jvm.MethodName) ({ cls := "SignedMill$Whole", name := "product", desc := "(LSignedMill$Whole;LSignedMill$Whole;)V" } : Jvm.MethodName) ∈ lw_gd := lw_in (List.mem_of_getElem? (i := 304) (by decide +kernel)) (by decide +kernel)
theorem wC_W_product : Jvm.Cond.code ({ cls := "SignedMill$Whole", name := "product", desc := "(LSignedMill$Whole;LSignedMill$Whole;)V" } : Jvm.MethodName) prog_4_method_20_code (5 : Nat) (Option.none : Option Jvm.ClassFile.FieldType) ∈ lw_gd := lw_in (List.mem_of_getElem? (i := 305) (by decide +kernel)) (by decide +kernel)
theorem wL_W_66 : Jvm.Cond.methodLink "SignedMill$Whole" (66 : Nat) ({ cls := "SignedMill$Whole", name := "clear", desc := "()V" } : Jvm.MethodName) ∈ lw_gd := lw_in (List.mem_of_getElem? (i := 306) (by decide +kernel)) (by decide +kernel)
theorem wI_W_clear : Jvm.Cond.instanceMethod ({ cls := "SignedMill$Whole", name := "clear", desc := "()V" } : Jvm.MethodName) ∈ lw_gd := lw_in (List.mem_of_getElem? (i := 307) (by decide +kernel)) (by decide +kernel)
theorem wS_W_clear : Jvm.Cond.selects "SignedMill$Whole" ({ cls := "SignedMill$Whole", name := "clear", desc := "()V" } : Jvm.MethodName) ({ cls := "SignedMill$Whole", name := "clear", desc := "()V" } : Jvm.MethodName) ∈ lw_gd := lw_in (List.mem_of_getElem? (i := 308) (by decide +kernel)) (by decide +kernel)
theorem wC_W_clear : Jvm.Cond.code ({ cls := "SignedMill$Whole", name := "clear", desc := "()V" } : Jvm.MethodName) prog_4_method_5_code (1 : Nat) (Option.none : Option Jvm.ClassFile.FieldType) ∈ lw_gd := lw_in (List.mem_of_getElem? (i := 309) (by decide +kernel)) (by decide +kernel)
theorem wL_W_69 : Jvm.Cond.methodLink "SignedMill$Whole" (69 : Nat) ({ cls := "SignedMill$Whole", name := "widen", desc := "(I)V" } : Jvm.MethodName) ∈ lw_gd := lw_in (List.mem_of_getElem? (i := 310) (by decide +kernel)) (by decide +kernel)
theorem wI_W_widen : Jvm.Cond.instanceMethod ({ cls := "SignedMill$Whole", name := "widen", desc := "(I)V" } : Jvm.MethodName) ∈ lw_gd := lw_in (List.mem_of_getElem? (i := 311) (by decide +kernel)) (by decide +kernel)
theorem wS_W_widen : Jvm.Cond.selects "SignedMill$Whole" ({ cls := "SignedMill$Whole", name := "widen", desc := "(I)V" } : Jvm.MethodName) ({ cls := "SignedMill$Whole", name := "widen", desc := "(I)V" } : Jvm.MethodName) ∈ lw_gd := lw_in (List.mem_of_getElem? (i := 312) (by decide +kernel)) (by decide +kernel)
theorem wC_W_widen : Jvm.Cond.code ({ cls := "SignedMill$Whole", name := "widen", desc := "(I)V" } : Jvm.MethodName) prog_4_method_3_code (3 : Nat) (Option.none : Option Jvm.ClassFile.FieldType) ∈ lw_gd := lw_in (List.mem_of_getElem? (i := 313) (by decide +kernel)) (by decide +kernel)
theorem wL_W_72 : Jvm.Cond.methodLink "SignedMill$Whole" (72 : Nat) ({ cls := "SignedMill$Whole", name := "addMultiple", desc := "(IJLSignedMill$Whole;)V" } : Jvm.MethodName) ∈ lw_gd := lw_in (List.mem_of_getElem? (i := 314) (by decide +kernel)) (by decide +kernel)
theorem wI_W_addMultiple : Jvm.Cond.instanceMethod ({ cls := "SignedMill$Whole", name := "addMultiple", desc := "(IJLSignedMill$Whole;)V" } : Jvm.MethodName) ∈ lw_gd := lw_in (List.mem_of_getElem? (i := 316) (by decide +kernel)) (by decide +kernel)
theorem wC_W_addMultiple : Jvm.Cond.code ({ cls := "SignedMill$Whole", name := "addMultiple", desc := "(IJLSignedMill$Whole;)V" } : Jvm.MethodName) prog_4_method_21_code (13 : Nat) (Option.none : Option Jvm.ClassFile.FieldType) ∈ lw_gd := lw_in (List.mem_of_getElem? (i := 317) (by decide +kernel)) (by decide +kernel)
theorem wL_L_47 : Jvm.Cond.methodLink "SignedMillLaw" (47 : Nat) ({ cls := "SignedMill", name := "divide", desc := "(IIIIZ)Z" } : Jvm.MethodName) ∈ lw_gd := lw_in (List.mem_of_getElem? (i := 318) (by decide +kernel)) (by decide +kernel)
theorem wI_M_divide : Jvm.Cond.instanceMethod ({ cls := "SignedMill", name := "divide", desc := "(IIIIZ)Z" } : Jvm.MethodName) ∈ lw_gd := lw_in (List.mem_of_getElem? (i := 319) (by decide +kernel)) (by decide +kernel)
theorem wS_M_divide : Jvm.Cond.selects "SignedMill" ({ cls := "SignedMill", name := "divide", desc := "(IIIIZ)Z" } : Jvm.MethodName) ({ cls := "SignedMill", name := "divide", desc := "(IIIIZ)Z" } : Jvm.MethodName) ∈ lw_gd := lw_in (List.mem_of_getElem? (i := 320) (by decide +kernel)) (by decide +kernel)
theorem wC_M_divide : Jvm.Cond.code ({ cls := "SignedMill", name := "divide", desc := "(IIIIZ)Z" } : Jvm.MethodName) prog_1_method_9_code (8 : Nat) (Option.some Jvm.ClassFile.FieldType.boolean) ∈ lw_gd := lw_in (List.mem_of_getElem? (i := 321) (by decide +kernel)) (by decide +kernel)
theorem wL_M_93 : Jvm.Cond.methodLink "SignedMill" (93 : Nat) ({ cls := "SignedMill$Divider", name := "run", desc := "(LSignedMill$Whole;LSignedMill$Whole;)V" } : Jvm.MethodName) ∈ lw_gd := lw_in (List.mem_of_getElem? (i := 322) (by decide +kernel)) (by decide +kernel)
theorem wI_D_run : Jvm.Cond.instanceMethod ({ cls := "SignedMill$Divider", name := "run", desc := "(LSignedMill$Whole;LSignedMill$Whole;)V" } : Jvm.MethodName) ∈ lw_gd := lw_in (List.mem_of_getElem? (i := 323) (by decide +kernel)) (by decide +kernel)
theorem wS_D_run : Jvm.Cond.selects "SignedMill$Divider" ({ cls := "SignedMill$Divider", name := "run", desc := "(LSignedMill$Whole;LSignedMill$Whole;)V" } : Jvm.MethodName) ({ cls := "SignedMill$Divider", name := "run", desc := "(LSignedMill$Whole;LSignedMill$Whole;)V" } : Jvm.MethodName) ∈ lw_gd := lw_in (List.mem_of_getElem? (i := 324) (by decide +kernel)) (by decide +kernel)
theorem wC_D_run : Jvm.Cond.code ({ cls := "SignedMill$Divider", name := "run", desc := "(LSignedMill$Whole;LSignedMill$Whole;)V" } : Jvm.MethodName) prog_2_method_2_code (7 : Nat) (Option.none : Option Jvm.ClassFile.FieldType) ∈ lw_gd := lw_in (List.mem_of_getElem? (i := 325) (by decide +kernel)) (by decide +kernel)
theorem wL_D_24 : Jvm.Cond.methodLink "SignedMill$Divider" (24 : Nat) ({ cls := "SignedMill$Whole", name := "isZero", desc := "()Z" } : Jvm.MethodName) ∈ lw_gd := lw_in (List.mem_of_getElem? (i := 326) (by decide +kernel)) (by decide +kernel)
theorem wL_D_28 : Jvm.Cond.methodLink "SignedMill$Divider" (28 : Nat) ({ cls := "SignedMill$Whole", name := "against", desc := "(LSignedMill$Whole;)I" } : Jvm.MethodName) ∈ lw_gd := lw_in (List.mem_of_getElem? (i := 327) (by decide +kernel)) (by decide +kernel)
theorem wL_D_32 : Jvm.Cond.methodLink "SignedMill$Divider" (32 : Nat) ({ cls := "SignedMill$Whole", name := "clear", desc := "()V" } : Jvm.MethodName) ∈ lw_gd := lw_in (List.mem_of_getElem? (i := 328) (by decide +kernel)) (by decide +kernel)
theorem wL_D_35 : Jvm.Cond.methodLink "SignedMill$Divider" (35 : Nat) ({ cls := "SignedMill$Whole", name := "copy", desc := "(LSignedMill$Whole;)V" } : Jvm.MethodName) ∈ lw_gd := lw_in (List.mem_of_getElem? (i := 329) (by decide +kernel)) (by decide +kernel)
theorem wL_D_43 : Jvm.Cond.methodLink "SignedMill$Divider" (43 : Nat) ({ cls := "SignedMill$Whole", name := "bits", desc := "()I" } : Jvm.MethodName) ∈ lw_gd := lw_in (List.mem_of_getElem? (i := 330) (by decide +kernel)) (by decide +kernel)
theorem wL_D_47 : Jvm.Cond.methodLink "SignedMill$Divider" (47 : Nat) ({ cls := "SignedMill$Whole", name := "raise", desc := "(LSignedMill$Whole;I)V" } : Jvm.MethodName) ∈ lw_gd := lw_in (List.mem_of_getElem? (i := 331) (by decide +kernel)) (by decide +kernel)
theorem wL_D_51 : Jvm.Cond.methodLink "SignedMill$Divider" (51 : Nat) ({ cls := "SignedMill$Whole", name := "widen", desc := "(I)V" } : Jvm.MethodName) ∈ lw_gd := lw_in (List.mem_of_getElem? (i := 332) (by decide +kernel)) (by decide +kernel)
theorem wL_D_55 : Jvm.Cond.methodLink "SignedMill$Divider" (55 : Nat) ({ cls := "SignedMill$Whole", name := "room", desc := "(I)V" } : Jvm.MethodName) ∈ lw_gd := lw_in (List.mem_of_getElem? (i := 333) (by decide +kernel)) (by decide +kernel)
theorem wL_D_62 : Jvm.Cond.methodLink "SignedMill$Divider" (62 : Nat) ({ cls := "SignedMill$Divider", name := "takeOut", desc := "(II)J" } : Jvm.MethodName) ∈ lw_gd := lw_in (List.mem_of_getElem? (i := 334) (by decide +kernel)) (by decide +kernel)
theorem wI_D_takeOut : Jvm.Cond.instanceMethod ({ cls := "SignedMill$Divider", name := "takeOut", desc := "(II)J" } : Jvm.MethodName) ∈ lw_gd := lw_in (List.mem_of_getElem? (i := 336) (by decide +kernel)) (by decide +kernel)
theorem wC_D_takeOut : Jvm.Cond.code ({ cls := "SignedMill$Divider", name := "takeOut", desc := "(II)J" } : Jvm.MethodName) prog_2_method_3_code (5 : Nat) (Option.some Jvm.ClassFile.FieldType.long) ∈ lw_gd := lw_in (List.mem_of_getElem? (i := 337) (by decide +kernel)) (by decide +kernel)
theorem wL_D_72 : Jvm.Cond.methodLink "SignedMill$Divider" (72 : Nat) ({ cls := "SignedMill$Divider", name := "guess", desc := "(II)J" } : Jvm.MethodName) ∈ lw_gd := lw_in (List.mem_of_getElem? (i := 338) (by decide +kernel)) (by decide +kernel)
theorem wI_D_guess : Jvm.Cond.instanceMethod ({ cls := "SignedMill$Divider", name := "guess", desc := "(II)J" } : Jvm.MethodName) ∈ lw_gd := lw_in (List.mem_of_getElem? (i := 340) (by decide +kernel)) (by decide +kernel)
theorem wC_D_guess : Jvm.Cond.code ({ cls := "SignedMill$Divider", name := "guess", desc := "(II)J" } : Jvm.MethodName) prog_2_method_4_code (17 : Nat) (Option.some Jvm.ClassFile.FieldType.long) ∈ lw_gd := lw_in (List.mem_of_getElem? (i := 341) (by decide +kernel)) (by decide +kernel)
theorem wK_D_83 : Jvm.Cond.constantLong "SignedMill$Divider" (83 : Nat) (4294967295 : Int64) ∈ lw_gd := lw_in (List.mem_of_getElem? (i := 342) (by decide +kernel)) (by decide +kernel)
theorem wL_D_85 : Jvm.Cond.methodLink "SignedMill$Divider" (85 : Nat) ({ cls := "SignedMill$Divider", name := "quotientOfPair", desc := "(JJ)J" } : Jvm.MethodName) ∈ lw_gd := lw_in (List.mem_of_getElem? (i := 343) (by decide +kernel)) (by decide +kernel)
theorem wT_D_quotientOfPair : Jvm.Cond.static ({ cls := "SignedMill$Divider", name := "quotientOfPair", desc := "(JJ)J" } : Jvm.MethodName) ∈ lw_gd := lw_in (List.mem_of_getElem? (i := 344) (by decide +kernel)) (by decide +kernel)
theorem wC_D_quotientOfPair : Jvm.Cond.code ({ cls := "SignedMill$Divider", name := "quotientOfPair", desc := "(JJ)J" } : Jvm.MethodName) prog_2_method_5_code (6 : Nat) (Option.some Jvm.ClassFile.FieldType.long) ∈ lw_gd := lw_in (List.mem_of_getElem? (i := 345) (by decide +kernel)) (by decide +kernel)
theorem wL_D_89 : Jvm.Cond.methodLink "SignedMill$Divider" (89 : Nat) ({ cls := "java/lang/Long", name := "compareUnsigned", desc := "(JJ)I" } : Jvm.MethodName) ∈ lw_gd := lw_in (List.mem_of_getElem? (i := 346) (by decide +kernel)) (by decide +kernel)
theorem wT_JL_compareUnsigned : Jvm.Cond.static ({ cls := "java/lang/Long", name := "compareUnsigned", desc := "(JJ)I" } : Jvm.MethodName) ∈ lw_gd := lw_in (List.mem_of_getElem? (i := 347) (by decide +kernel)) (by decide +kernel)
theorem wC_JL_compareUnsigned : Jvm.Cond.code ({ cls := "java/lang/Long", name := "compareUnsigned", desc := "(JJ)I" } : Jvm.MethodName) prog_9_method_43_code (4 : Nat) (Option.some Jvm.ClassFile.FieldType.int) ∈ lw_gd := lw_in (List.mem_of_getElem? (i := 348) (by decide +kernel)) (by decide +kernel)
theorem wK_JL_168 : Jvm.Cond.constantLong "java/lang/Long" (168 : Nat) (-9223372036854775808 : Int64) ∈ lw_gd := lw_in (List.mem_of_getElem? (i := 349) (by decide +kernel)) (by decide +kernel)
theorem wL_JL_302 : Jvm.Cond.methodLink "java/lang/Long" (302 : Nat) ({ cls := "java/lang/Long", name := "compare", desc := "(JJ)I" } : Jvm.MethodName) ∈ lw_gd := lw_in (List.mem_of_getElem? (i := 350) (by decide +kernel)) (by decide +kernel)
theorem wT_JL_compare : Jvm.Cond.static ({ cls := "java/lang/Long", name := "compare", desc := "(JJ)I" } : Jvm.MethodName) ∈ lw_gd := lw_in (List.mem_of_getElem? (i := 351) (by decide +kernel)) (by decide +kernel)
theorem wC_JL_compare : Jvm.Cond.code ({ cls := "java/lang/Long", name := "compare", desc := "(JJ)I" } : Jvm.MethodName) prog_9_method_42_code (4 : Nat) (Option.some Jvm.ClassFile.FieldType.int) ∈ lw_gd := lw_in (List.mem_of_getElem? (i := 352) (by decide +kernel)) (by decide +kernel)
theorem wL_D_75 : Jvm.Cond.methodLink "SignedMill$Divider" (75 : Nat) ({ cls := "SignedMill$Divider", name := "subtract", desc := "(IIJ)Z" } : Jvm.MethodName) ∈ lw_gd := lw_in (List.mem_of_getElem? (i := 353) (by decide +kernel)) (by decide +kernel)
theorem wI_D_subtract : Jvm.Cond.instanceMethod ({ cls := "SignedMill$Divider", name := "subtract", desc := "(IIJ)Z" } : Jvm.MethodName) ∈ lw_gd := lw_in (List.mem_of_getElem? (i := 355) (by decide +kernel)) (by decide +kernel)
theorem wC_D_subtract : Jvm.Cond.code ({ cls := "SignedMill$Divider", name := "subtract", desc := "(IIJ)Z" } : Jvm.MethodName) prog_2_method_6_code (14 : Nat) (Option.some Jvm.ClassFile.FieldType.boolean) ∈ lw_gd := lw_in (List.mem_of_getElem? (i := 356) (by decide +kernel)) (by decide +kernel)
theorem wL_D_79 : Jvm.Cond.methodLink "SignedMill$Divider" (79 : Nat) ({ cls := "SignedMill$Divider", name := "addBack", desc := "(II)V" } : Jvm.MethodName) ∈ lw_gd := lw_in (List.mem_of_getElem? (i := 357) (by decide +kernel)) (by decide +kernel)
theorem wI_D_addBack : Jvm.Cond.instanceMethod ({ cls := "SignedMill$Divider", name := "addBack", desc := "(II)V" } : Jvm.MethodName) ∈ lw_gd := lw_in (List.mem_of_getElem? (i := 359) (by decide +kernel)) (by decide +kernel)
theorem wC_D_addBack : Jvm.Cond.code ({ cls := "SignedMill$Divider", name := "addBack", desc := "(II)V" } : Jvm.MethodName) prog_2_method_7_code (10 : Nat) (Option.none : Option Jvm.ClassFile.FieldType) ∈ lw_gd := lw_in (List.mem_of_getElem? (i := 360) (by decide +kernel)) (by decide +kernel)
theorem wL_D_66 : Jvm.Cond.methodLink "SignedMill$Divider" (66 : Nat) ({ cls := "SignedMill$Whole", name := "trim", desc := "(I)V" } : Jvm.MethodName) ∈ lw_gd := lw_in (List.mem_of_getElem? (i := 361) (by decide +kernel)) (by decide +kernel)
theorem wL_D_69 : Jvm.Cond.methodLink "SignedMill$Divider" (69 : Nat) ({ cls := "SignedMill$Whole", name := "lower", desc := "(LSignedMill$Whole;I)V" } : Jvm.MethodName) ∈ lw_gd := lw_in (List.mem_of_getElem? (i := 362) (by decide +kernel)) (by decide +kernel)
theorem wI_W_lower : Jvm.Cond.instanceMethod ({ cls := "SignedMill$Whole", name := "lower", desc := "(LSignedMill$Whole;I)V" } : Jvm.MethodName) ∈ lw_gd := lw_in (List.mem_of_getElem? (i := 363) (by decide +kernel)) (by decide +kernel)
theorem wS_W_lower : Jvm.Cond.selects "SignedMill$Whole" ({ cls := "SignedMill$Whole", name := "lower", desc := "(LSignedMill$Whole;I)V" } : Jvm.MethodName) ({ cls := "SignedMill$Whole", name := "lower", desc := "(LSignedMill$Whole;I)V" } : Jvm.MethodName) ∈ lw_gd := lw_in (List.mem_of_getElem? (i := 364) (by decide +kernel)) (by decide +kernel)
theorem wC_W_lower : Jvm.Cond.code ({ cls := "SignedMill$Whole", name := "lower", desc := "(LSignedMill$Whole;I)V" } : Jvm.MethodName) prog_4_method_23_code (10 : Nat) (Option.none : Option Jvm.ClassFile.FieldType) ∈ lw_gd := lw_in (List.mem_of_getElem? (i := 365) (by decide +kernel)) (by decide +kernel)
theorem wL_L_52 : Jvm.Cond.methodLink "SignedMillLaw" (52 : Nat) ({ cls := "SignedMill", name := "logic", desc := "(IIII)Z" } : Jvm.MethodName) ∈ lw_gd := lw_in (List.mem_of_getElem? (i := 366) (by decide +kernel)) (by decide +kernel)
theorem wI_M_logic : Jvm.Cond.instanceMethod ({ cls := "SignedMill", name := "logic", desc := "(IIII)Z" } : Jvm.MethodName) ∈ lw_gd := lw_in (List.mem_of_getElem? (i := 367) (by decide +kernel)) (by decide +kernel)
theorem wS_M_logic : Jvm.Cond.selects "SignedMill" ({ cls := "SignedMill", name := "logic", desc := "(IIII)Z" } : Jvm.MethodName) ({ cls := "SignedMill", name := "logic", desc := "(IIII)Z" } : Jvm.MethodName) ∈ lw_gd := lw_in (List.mem_of_getElem? (i := 368) (by decide +kernel)) (by decide +kernel)
theorem wC_M_logic : Jvm.Cond.code ({ cls := "SignedMill", name := "logic", desc := "(IIII)Z" } : Jvm.MethodName) prog_1_method_10_code (9 : Nat) (Option.some Jvm.ClassFile.FieldType.boolean) ∈ lw_gd := lw_in (List.mem_of_getElem? (i := 369) (by decide +kernel)) (by decide +kernel)
theorem wL_M_113 : Jvm.Cond.methodLink "SignedMill" (113 : Nat) ({ cls := "java/lang/Math", name := "max", desc := "(II)I" } : Jvm.MethodName) ∈ lw_gd := lw_in (List.mem_of_getElem? (i := 370) (by decide +kernel)) (by decide +kernel)
theorem wL_M_119 : Jvm.Cond.methodLink "SignedMill" (119 : Nat) ({ cls := "SignedMill$Whole", name := "firstDigit", desc := "()I" } : Jvm.MethodName) ∈ lw_gd := lw_in (List.mem_of_getElem? (i := 371) (by decide +kernel)) (by decide +kernel)
theorem wI_W_firstDigit : Jvm.Cond.instanceMethod ({ cls := "SignedMill$Whole", name := "firstDigit", desc := "()I" } : Jvm.MethodName) ∈ lw_gd := lw_in (List.mem_of_getElem? (i := 372) (by decide +kernel)) (by decide +kernel)
theorem wS_W_firstDigit : Jvm.Cond.selects "SignedMill$Whole" ({ cls := "SignedMill$Whole", name := "firstDigit", desc := "()I" } : Jvm.MethodName) ({ cls := "SignedMill$Whole", name := "firstDigit", desc := "()I" } : Jvm.MethodName) ∈ lw_gd := lw_in (List.mem_of_getElem? (i := 373) (by decide +kernel)) (by decide +kernel)
theorem wC_W_firstDigit : Jvm.Cond.code ({ cls := "SignedMill$Whole", name := "firstDigit", desc := "()I" } : Jvm.MethodName) prog_4_method_14_code (2 : Nat) (Option.some Jvm.ClassFile.FieldType.int) ∈ lw_gd := lw_in (List.mem_of_getElem? (i := 374) (by decide +kernel)) (by decide +kernel)
theorem wL_M_123 : Jvm.Cond.methodLink "SignedMill" (123 : Nat) ({ cls := "SignedMill$Whole", name := "room", desc := "(I)V" } : Jvm.MethodName) ∈ lw_gd := lw_in (List.mem_of_getElem? (i := 375) (by decide +kernel)) (by decide +kernel)
theorem wL_M_131 : Jvm.Cond.methodLink "SignedMill" (131 : Nat) ({ cls := "SignedMill", name := "endlessDigit", desc := "(III)J" } : Jvm.MethodName) ∈ lw_gd := lw_in (List.mem_of_getElem? (i := 376) (by decide +kernel)) (by decide +kernel)
theorem wI_M_endlessDigit : Jvm.Cond.instanceMethod ({ cls := "SignedMill", name := "endlessDigit", desc := "(III)J" } : Jvm.MethodName) ∈ lw_gd := lw_in (List.mem_of_getElem? (i := 378) (by decide +kernel)) (by decide +kernel)
theorem wC_M_endlessDigit : Jvm.Cond.code ({ cls := "SignedMill", name := "endlessDigit", desc := "(III)J" } : Jvm.MethodName) prog_1_method_30_code (6 : Nat) (Option.some Jvm.ClassFile.FieldType.long) ∈ lw_gd := lw_in (List.mem_of_getElem? (i := 379) (by decide +kernel)) (by decide +kernel)
theorem wL_M_193 : Jvm.Cond.methodLink "SignedMill" (193 : Nat) ({ cls := "SignedMill$Whole", name := "digitAt", desc := "(I)J" } : Jvm.MethodName) ∈ lw_gd := lw_in (List.mem_of_getElem? (i := 380) (by decide +kernel)) (by decide +kernel)
theorem wI_W_digitAt : Jvm.Cond.instanceMethod ({ cls := "SignedMill$Whole", name := "digitAt", desc := "(I)J" } : Jvm.MethodName) ∈ lw_gd := lw_in (List.mem_of_getElem? (i := 381) (by decide +kernel)) (by decide +kernel)
theorem wS_W_digitAt : Jvm.Cond.selects "SignedMill$Whole" ({ cls := "SignedMill$Whole", name := "digitAt", desc := "(I)J" } : Jvm.MethodName) ({ cls := "SignedMill$Whole", name := "digitAt", desc := "(I)J" } : Jvm.MethodName) ∈ lw_gd := lw_in (List.mem_of_getElem? (i := 382) (by decide +kernel)) (by decide +kernel)
theorem wC_W_digitAt : Jvm.Cond.code ({ cls := "SignedMill$Whole", name := "digitAt", desc := "(I)J" } : Jvm.MethodName) prog_4_method_10_code (2 : Nat) (Option.some Jvm.ClassFile.FieldType.long) ∈ lw_gd := lw_in (List.mem_of_getElem? (i := 383) (by decide +kernel)) (by decide +kernel)
theorem wK_M_197 : Jvm.Cond.constantLong "SignedMill" (197 : Nat) (-1 : Int64) ∈ lw_gd := lw_in (List.mem_of_getElem? (i := 384) (by decide +kernel)) (by decide +kernel)
theorem wK_M_199 : Jvm.Cond.constantLong "SignedMill" (199 : Nat) (4294967295 : Int64) ∈ lw_gd := lw_in (List.mem_of_getElem? (i := 385) (by decide +kernel)) (by decide +kernel)
theorem wL_M_135 : Jvm.Cond.methodLink "SignedMill" (135 : Nat) ({ cls := "SignedMill", name := "join", desc := "(JJI)J" } : Jvm.MethodName) ∈ lw_gd := lw_in (List.mem_of_getElem? (i := 386) (by decide +kernel)) (by decide +kernel)
theorem wT_M_join : Jvm.Cond.static ({ cls := "SignedMill", name := "join", desc := "(JJI)J" } : Jvm.MethodName) ∈ lw_gd := lw_in (List.mem_of_getElem? (i := 387) (by decide +kernel)) (by decide +kernel)
theorem wC_M_join : Jvm.Cond.code ({ cls := "SignedMill", name := "join", desc := "(JJI)J" } : Jvm.MethodName) prog_1_method_31_code (5 : Nat) (Option.some Jvm.ClassFile.FieldType.long) ∈ lw_gd := lw_in (List.mem_of_getElem? (i := 388) (by decide +kernel)) (by decide +kernel)
theorem wL_M_139 : Jvm.Cond.methodLink "SignedMill" (139 : Nat) ({ cls := "SignedMill$Whole", name := "turnOver", desc := "(I)V" } : Jvm.MethodName) ∈ lw_gd := lw_in (List.mem_of_getElem? (i := 389) (by decide +kernel)) (by decide +kernel)
theorem wI_W_turnOver : Jvm.Cond.instanceMethod ({ cls := "SignedMill$Whole", name := "turnOver", desc := "(I)V" } : Jvm.MethodName) ∈ lw_gd := lw_in (List.mem_of_getElem? (i := 390) (by decide +kernel)) (by decide +kernel)
theorem wS_W_turnOver : Jvm.Cond.selects "SignedMill$Whole" ({ cls := "SignedMill$Whole", name := "turnOver", desc := "(I)V" } : Jvm.MethodName) ({ cls := "SignedMill$Whole", name := "turnOver", desc := "(I)V" } : Jvm.MethodName) ∈ lw_gd := lw_in (List.mem_of_getElem? (i := 391) (by decide +kernel)) (by decide +kernel)
theorem wC_W_turnOver : Jvm.Cond.code ({ cls := "SignedMill$Whole", name := "turnOver", desc := "(I)V" } : Jvm.MethodName) prog_4_method_24_code (7 : Nat) (Option.none : Option Jvm.ClassFile.FieldType) ∈ lw_gd := lw_in (List.mem_of_getElem? (i := 392) (by decide +kernel)) (by decide +kernel)
theorem wK_W_76 : Jvm.Cond.constantLong "SignedMill$Whole" (76 : Nat) (-1 : Int64) ∈ lw_gd := lw_in (List.mem_of_getElem? (i := 393) (by decide +kernel)) (by decide +kernel)
theorem wL_M_142 : Jvm.Cond.methodLink "SignedMill" (142 : Nat) ({ cls := "SignedMill$Whole", name := "trim", desc := "(I)V" } : Jvm.MethodName) ∈ lw_gd := lw_in (List.mem_of_getElem? (i := 394) (by decide +kernel)) (by decide +kernel)
theorem wL_L_57 : Jvm.Cond.methodLink "SignedMillLaw" (57 : Nat) ({ cls := "SignedMill", name := "shift", desc := "(III)Z" } : Jvm.MethodName) ∈ lw_gd := lw_in (List.mem_of_getElem? (i := 395) (by decide +kernel)) (by decide +kernel)
theorem wI_M_shift : Jvm.Cond.instanceMethod ({ cls := "SignedMill", name := "shift", desc := "(III)Z" } : Jvm.MethodName) ∈ lw_gd := lw_in (List.mem_of_getElem? (i := 396) (by decide +kernel)) (by decide +kernel)
theorem wS_M_shift : Jvm.Cond.selects "SignedMill" ({ cls := "SignedMill", name := "shift", desc := "(III)Z" } : Jvm.MethodName) ({ cls := "SignedMill", name := "shift", desc := "(III)Z" } : Jvm.MethodName) ∈ lw_gd := lw_in (List.mem_of_getElem? (i := 397) (by decide +kernel)) (by decide +kernel)
theorem wC_M_shift : Jvm.Cond.code ({ cls := "SignedMill", name := "shift", desc := "(III)Z" } : Jvm.MethodName) prog_1_method_11_code (4 : Nat) (Option.some Jvm.ClassFile.FieldType.boolean) ∈ lw_gd := lw_in (List.mem_of_getElem? (i := 398) (by decide +kernel)) (by decide +kernel)
theorem wL_M_145 : Jvm.Cond.methodLink "SignedMill" (145 : Nat) ({ cls := "SignedMill", name := "shiftUp", desc := "(III)Z" } : Jvm.MethodName) ∈ lw_gd := lw_in (List.mem_of_getElem? (i := 399) (by decide +kernel)) (by decide +kernel)
theorem wI_M_shiftUp : Jvm.Cond.instanceMethod ({ cls := "SignedMill", name := "shiftUp", desc := "(III)Z" } : Jvm.MethodName) ∈ lw_gd := lw_in (List.mem_of_getElem? (i := 401) (by decide +kernel)) (by decide +kernel)
theorem wC_M_shiftUp : Jvm.Cond.code ({ cls := "SignedMill", name := "shiftUp", desc := "(III)Z" } : Jvm.MethodName) prog_1_method_32_code (4 : Nat) (Option.some Jvm.ClassFile.FieldType.boolean) ∈ lw_gd := lw_in (List.mem_of_getElem? (i := 402) (by decide +kernel)) (by decide +kernel)
theorem wL_M_201 : Jvm.Cond.methodLink "SignedMill" (201 : Nat) ({ cls := "SignedMill$Whole", name := "clear", desc := "()V" } : Jvm.MethodName) ∈ lw_gd := lw_in (List.mem_of_getElem? (i := 403) (by decide +kernel)) (by decide +kernel)
theorem wK_M_149 : Jvm.Cond.constant "SignedMill" (149 : Nat) (-65536 : Int32) ∈ lw_gd := lw_in (List.mem_of_getElem? (i := 404) (by decide +kernel)) (by decide +kernel)
theorem wL_M_151 : Jvm.Cond.methodLink "SignedMill" (151 : Nat) ({ cls := "SignedMill", name := "shiftDown", desc := "(III)Z" } : Jvm.MethodName) ∈ lw_gd := lw_in (List.mem_of_getElem? (i := 405) (by decide +kernel)) (by decide +kernel)
theorem wI_M_shiftDown : Jvm.Cond.instanceMethod ({ cls := "SignedMill", name := "shiftDown", desc := "(III)Z" } : Jvm.MethodName) ∈ lw_gd := lw_in (List.mem_of_getElem? (i := 407) (by decide +kernel)) (by decide +kernel)
theorem wC_M_shiftDown : Jvm.Cond.code ({ cls := "SignedMill", name := "shiftDown", desc := "(III)Z" } : Jvm.MethodName) prog_1_method_33_code (5 : Nat) (Option.some Jvm.ClassFile.FieldType.boolean) ∈ lw_gd := lw_in (List.mem_of_getElem? (i := 408) (by decide +kernel)) (by decide +kernel)
theorem wL_M_186 : Jvm.Cond.methodLink "SignedMill" (186 : Nat) ({ cls := "SignedMill$Whole", name := "lowestOne", desc := "()I" } : Jvm.MethodName) ∈ lw_gd := lw_in (List.mem_of_getElem? (i := 409) (by decide +kernel)) (by decide +kernel)
theorem wI_W_lowestOne : Jvm.Cond.instanceMethod ({ cls := "SignedMill$Whole", name := "lowestOne", desc := "()I" } : Jvm.MethodName) ∈ lw_gd := lw_in (List.mem_of_getElem? (i := 410) (by decide +kernel)) (by decide +kernel)
theorem wS_W_lowestOne : Jvm.Cond.selects "SignedMill$Whole" ({ cls := "SignedMill$Whole", name := "lowestOne", desc := "()I" } : Jvm.MethodName) ({ cls := "SignedMill$Whole", name := "lowestOne", desc := "()I" } : Jvm.MethodName) ∈ lw_gd := lw_in (List.mem_of_getElem? (i := 411) (by decide +kernel)) (by decide +kernel)
theorem wC_W_lowestOne : Jvm.Cond.code ({ cls := "SignedMill$Whole", name := "lowestOne", desc := "()I" } : Jvm.MethodName) prog_4_method_15_code (2 : Nat) (Option.some Jvm.ClassFile.FieldType.int) ∈ lw_gd := lw_in (List.mem_of_getElem? (i := 412) (by decide +kernel)) (by decide +kernel)
theorem wL_W_56 : Jvm.Cond.methodLink "SignedMill$Whole" (56 : Nat) ({ cls := "SignedMill$Whole", name := "firstDigit", desc := "()I" } : Jvm.MethodName) ∈ lw_gd := lw_in (List.mem_of_getElem? (i := 413) (by decide +kernel)) (by decide +kernel)
theorem wL_W_60 : Jvm.Cond.methodLink "SignedMill$Whole" (60 : Nat) ({ cls := "java/lang/Long", name := "numberOfTrailingZeros", desc := "(J)I" } : Jvm.MethodName) ∈ lw_gd := lw_in (List.mem_of_getElem? (i := 414) (by decide +kernel)) (by decide +kernel)
theorem wT_JL_numberOfTrailingZeros : Jvm.Cond.static ({ cls := "java/lang/Long", name := "numberOfTrailingZeros", desc := "(J)I" } : Jvm.MethodName) ∈ lw_gd := lw_in (List.mem_of_getElem? (i := 415) (by decide +kernel)) (by decide +kernel)
theorem wC_JL_numberOfTrailingZeros : Jvm.Cond.code ({ cls := "java/lang/Long", name := "numberOfTrailingZeros", desc := "(J)I" } : Jvm.MethodName) prog_9_method_49_code (3 : Nat) (Option.some Jvm.ClassFile.FieldType.int) ∈ lw_gd := lw_in (List.mem_of_getElem? (i := 416) (by decide +kernel)) (by decide +kernel)
theorem wL_JL_311 : Jvm.Cond.methodLink "java/lang/Long" (311 : Nat) ({ cls := "java/lang/Integer", name := "numberOfTrailingZeros", desc := "(I)I" } : Jvm.MethodName) ∈ lw_gd := lw_in (List.mem_of_getElem? (i := 417) (by decide +kernel)) (by decide +kernel)
theorem wT_JI_numberOfTrailingZeros : Jvm.Cond.static ({ cls := "java/lang/Integer", name := "numberOfTrailingZeros", desc := "(I)I" } : Jvm.MethodName) ∈ lw_gd := lw_in (List.mem_of_getElem? (i := 418) (by decide +kernel)) (by decide +kernel)
theorem wC_JI_numberOfTrailingZeros : Jvm.Cond.code ({ cls := "java/lang/Integer", name := "numberOfTrailingZeros", desc := "(I)I" } : Jvm.MethodName) prog_8_method_48_code (2 : Nat) (Option.some Jvm.ClassFile.FieldType.int) ∈ lw_gd := lw_in (List.mem_of_getElem? (i := 419) (by decide +kernel)) (by decide +kernel)
theorem wL_M_204 : Jvm.Cond.methodLink "SignedMill" (204 : Nat) ({ cls := "SignedMill$Whole", name := "lower", desc := "(LSignedMill$Whole;I)V" } : Jvm.MethodName) ∈ lw_gd := lw_in (List.mem_of_getElem? (i := 420) (by decide +kernel)) (by decide +kernel)
theorem wL_L_61 : Jvm.Cond.methodLink "SignedMillLaw" (61 : Nat) ({ cls := "SignedMill", name := "change", desc := "(IIII)Z" } : Jvm.MethodName) ∈ lw_gd := lw_in (List.mem_of_getElem? (i := 421) (by decide +kernel)) (by decide +kernel)
theorem wI_M_change : Jvm.Cond.instanceMethod ({ cls := "SignedMill", name := "change", desc := "(IIII)Z" } : Jvm.MethodName) ∈ lw_gd := lw_in (List.mem_of_getElem? (i := 422) (by decide +kernel)) (by decide +kernel)
theorem wS_M_change : Jvm.Cond.selects "SignedMill" ({ cls := "SignedMill", name := "change", desc := "(IIII)Z" } : Jvm.MethodName) ({ cls := "SignedMill", name := "change", desc := "(IIII)Z" } : Jvm.MethodName) ∈ lw_gd := lw_in (List.mem_of_getElem? (i := 423) (by decide +kernel)) (by decide +kernel)
theorem wC_M_change : Jvm.Cond.code ({ cls := "SignedMill", name := "change", desc := "(IIII)Z" } : Jvm.MethodName) prog_1_method_12_code (8 : Nat) (Option.some Jvm.ClassFile.FieldType.boolean) ∈ lw_gd := lw_in (List.mem_of_getElem? (i := 424) (by decide +kernel)) (by decide +kernel)
theorem wL_L_65 : Jvm.Cond.methodLink "SignedMillLaw" (65 : Nat) ({ cls := "SignedMill", name := "power", desc := "(III)Z" } : Jvm.MethodName) ∈ lw_gd := lw_in (List.mem_of_getElem? (i := 425) (by decide +kernel)) (by decide +kernel)
theorem wI_M_power : Jvm.Cond.instanceMethod ({ cls := "SignedMill", name := "power", desc := "(III)Z" } : Jvm.MethodName) ∈ lw_gd := lw_in (List.mem_of_getElem? (i := 426) (by decide +kernel)) (by decide +kernel)
theorem wS_M_power : Jvm.Cond.selects "SignedMill" ({ cls := "SignedMill", name := "power", desc := "(III)Z" } : Jvm.MethodName) ({ cls := "SignedMill", name := "power", desc := "(III)Z" } : Jvm.MethodName) ∈ lw_gd := lw_in (List.mem_of_getElem? (i := 427) (by decide +kernel)) (by decide +kernel)
theorem wC_M_power : Jvm.Cond.code ({ cls := "SignedMill", name := "power", desc := "(III)Z" } : Jvm.MethodName) prog_1_method_13_code (4 : Nat) (Option.some Jvm.ClassFile.FieldType.boolean) ∈ lw_gd := lw_in (List.mem_of_getElem? (i := 428) (by decide +kernel)) (by decide +kernel)
theorem wL_M_154 : Jvm.Cond.methodLink "SignedMill" (154 : Nat) ({ cls := "SignedMill", name := "findPower", desc := "(LSignedMill$Whole;I)Z" } : Jvm.MethodName) ∈ lw_gd := lw_in (List.mem_of_getElem? (i := 429) (by decide +kernel)) (by decide +kernel)
theorem wI_M_findPower : Jvm.Cond.instanceMethod ({ cls := "SignedMill", name := "findPower", desc := "(LSignedMill$Whole;I)Z" } : Jvm.MethodName) ∈ lw_gd := lw_in (List.mem_of_getElem? (i := 431) (by decide +kernel)) (by decide +kernel)
theorem wC_M_findPower : Jvm.Cond.code ({ cls := "SignedMill", name := "findPower", desc := "(LSignedMill$Whole;I)Z" } : Jvm.MethodName) prog_1_method_34_code (4 : Nat) (Option.some Jvm.ClassFile.FieldType.boolean) ∈ lw_gd := lw_in (List.mem_of_getElem? (i := 432) (by decide +kernel)) (by decide +kernel)
theorem wK_M_207 : Jvm.Cond.constantLong "SignedMill" (207 : Nat) (65536 : Int64) ∈ lw_gd := lw_in (List.mem_of_getElem? (i := 433) (by decide +kernel)) (by decide +kernel)
theorem wL_M_211 : Jvm.Cond.methodLink "SignedMill" (211 : Nat) ({ cls := "java/lang/Integer", name := "numberOfLeadingZeros", desc := "(I)I" } : Jvm.MethodName) ∈ lw_gd := lw_in (List.mem_of_getElem? (i := 434) (by decide +kernel)) (by decide +kernel)
theorem wL_M_215 : Jvm.Cond.methodLink "SignedMill" (215 : Nat) ({ cls := "SignedMill", name := "multiplyResult", desc := "(LSignedMill$Whole;)Z" } : Jvm.MethodName) ∈ lw_gd := lw_in (List.mem_of_getElem? (i := 435) (by decide +kernel)) (by decide +kernel)
theorem wI_M_multiplyResult : Jvm.Cond.instanceMethod ({ cls := "SignedMill", name := "multiplyResult", desc := "(LSignedMill$Whole;)Z" } : Jvm.MethodName) ∈ lw_gd := lw_in (List.mem_of_getElem? (i := 437) (by decide +kernel)) (by decide +kernel)
theorem wC_M_multiplyResult : Jvm.Cond.code ({ cls := "SignedMill", name := "multiplyResult", desc := "(LSignedMill$Whole;)Z" } : Jvm.MethodName) prog_1_method_35_code (2 : Nat) (Option.some Jvm.ClassFile.FieldType.boolean) ∈ lw_gd := lw_in (List.mem_of_getElem? (i := 438) (by decide +kernel)) (by decide +kernel)
theorem wL_L_69 : Jvm.Cond.methodLink "SignedMillLaw" (69 : Nat) ({ cls := "SignedMill", name := "common", desc := "(III)Z" } : Jvm.MethodName) ∈ lw_gd := lw_in (List.mem_of_getElem? (i := 439) (by decide +kernel)) (by decide +kernel)
theorem wI_M_common : Jvm.Cond.instanceMethod ({ cls := "SignedMill", name := "common", desc := "(III)Z" } : Jvm.MethodName) ∈ lw_gd := lw_in (List.mem_of_getElem? (i := 440) (by decide +kernel)) (by decide +kernel)
theorem wS_M_common : Jvm.Cond.selects "SignedMill" ({ cls := "SignedMill", name := "common", desc := "(III)Z" } : Jvm.MethodName) ({ cls := "SignedMill", name := "common", desc := "(III)Z" } : Jvm.MethodName) ∈ lw_gd := lw_in (List.mem_of_getElem? (i := 441) (by decide +kernel)) (by decide +kernel)
theorem wC_M_common : Jvm.Cond.code ({ cls := "SignedMill", name := "common", desc := "(III)Z" } : Jvm.MethodName) prog_1_method_14_code (4 : Nat) (Option.some Jvm.ClassFile.FieldType.boolean) ∈ lw_gd := lw_in (List.mem_of_getElem? (i := 442) (by decide +kernel)) (by decide +kernel)
theorem wL_M_158 : Jvm.Cond.methodLink "SignedMill" (158 : Nat) ({ cls := "SignedMill$Euclid", name := "run", desc := "(LSignedMill$Whole;LSignedMill$Whole;Z)V" } : Jvm.MethodName) ∈ lw_gd := lw_in (List.mem_of_getElem? (i := 443) (by decide +kernel)) (by decide +kernel)
theorem wI_E_run : Jvm.Cond.instanceMethod ({ cls := "SignedMill$Euclid", name := "run", desc := "(LSignedMill$Whole;LSignedMill$Whole;Z)V" } : Jvm.MethodName) ∈ lw_gd := lw_in (List.mem_of_getElem? (i := 444) (by decide +kernel)) (by decide +kernel)
theorem wS_E_run : Jvm.Cond.selects "SignedMill$Euclid" ({ cls := "SignedMill$Euclid", name := "run", desc := "(LSignedMill$Whole;LSignedMill$Whole;Z)V" } : Jvm.MethodName) ({ cls := "SignedMill$Euclid", name := "run", desc := "(LSignedMill$Whole;LSignedMill$Whole;Z)V" } : Jvm.MethodName) ∈ lw_gd := lw_in (List.mem_of_getElem? (i := 445) (by decide +kernel)) (by decide +kernel)
theorem wC_E_run : Jvm.Cond.code ({ cls := "SignedMill$Euclid", name := "run", desc := "(LSignedMill$Whole;LSignedMill$Whole;Z)V" } : Jvm.MethodName) prog_3_method_2_code (6 : Nat) (Option.none : Option Jvm.ClassFile.FieldType) ∈ lw_gd := lw_in (List.mem_of_getElem? (i := 446) (by decide +kernel)) (by decide +kernel)
theorem wL_E_54 : Jvm.Cond.methodLink "SignedMill$Euclid" (54 : Nat) ({ cls := "SignedMill$Whole", name := "against", desc := "(LSignedMill$Whole;)I" } : Jvm.MethodName) ∈ lw_gd := lw_in (List.mem_of_getElem? (i := 447) (by decide +kernel)) (by decide +kernel)
theorem wL_E_58 : Jvm.Cond.methodLink "SignedMill$Euclid" (58 : Nat) ({ cls := "SignedMill$Whole", name := "copy", desc := "(LSignedMill$Whole;)V" } : Jvm.MethodName) ∈ lw_gd := lw_in (List.mem_of_getElem? (i := 448) (by decide +kernel)) (by decide +kernel)
theorem wL_E_62 : Jvm.Cond.methodLink "SignedMill$Euclid" (62 : Nat) ({ cls := "SignedMill$Whole", name := "clear", desc := "()V" } : Jvm.MethodName) ∈ lw_gd := lw_in (List.mem_of_getElem? (i := 449) (by decide +kernel)) (by decide +kernel)
theorem wL_E_65 : Jvm.Cond.methodLink "SignedMill$Euclid" (65 : Nat) ({ cls := "SignedMill$Whole", name := "load", desc := "(J)V" } : Jvm.MethodName) ∈ lw_gd := lw_in (List.mem_of_getElem? (i := 450) (by decide +kernel)) (by decide +kernel)
theorem wK_E_69 : Jvm.Cond.constant "SignedMill$Euclid" (69 : Nat) (1000000 : Int32) ∈ lw_gd := lw_in (List.mem_of_getElem? (i := 451) (by decide +kernel)) (by decide +kernel)
theorem wL_E_70 : Jvm.Cond.methodLink "SignedMill$Euclid" (70 : Nat) ({ cls := "SignedMill$Whole", name := "isZero", desc := "()Z" } : Jvm.MethodName) ∈ lw_gd := lw_in (List.mem_of_getElem? (i := 452) (by decide +kernel)) (by decide +kernel)
theorem wL_E_74 : Jvm.Cond.methodLink "SignedMill$Euclid" (74 : Nat) ({ cls := "SignedMill$Euclid", name := "foresee", desc := "()Z" } : Jvm.MethodName) ∈ lw_gd := lw_in (List.mem_of_getElem? (i := 453) (by decide +kernel)) (by decide +kernel)
theorem wI_E_foresee : Jvm.Cond.instanceMethod ({ cls := "SignedMill$Euclid", name := "foresee", desc := "()Z" } : Jvm.MethodName) ∈ lw_gd := lw_in (List.mem_of_getElem? (i := 455) (by decide +kernel)) (by decide +kernel)
theorem wC_E_foresee : Jvm.Cond.code ({ cls := "SignedMill$Euclid", name := "foresee", desc := "()Z" } : Jvm.MethodName) prog_3_method_3_code (11 : Nat) (Option.some Jvm.ClassFile.FieldType.boolean) ∈ lw_gd := lw_in (List.mem_of_getElem? (i := 456) (by decide +kernel)) (by decide +kernel)
theorem wL_E_88 : Jvm.Cond.methodLink "SignedMill$Euclid" (88 : Nat) ({ cls := "SignedMill$Whole", name := "bits", desc := "()I" } : Jvm.MethodName) ∈ lw_gd := lw_in (List.mem_of_getElem? (i := 457) (by decide +kernel)) (by decide +kernel)
theorem wL_E_92 : Jvm.Cond.methodLink "SignedMill$Euclid" (92 : Nat) ({ cls := "java/lang/Math", name := "max", desc := "(II)I" } : Jvm.MethodName) ∈ lw_gd := lw_in (List.mem_of_getElem? (i := 458) (by decide +kernel)) (by decide +kernel)
theorem wL_E_98 : Jvm.Cond.methodLink "SignedMill$Euclid" (98 : Nat) ({ cls := "SignedMill$Whole", name := "bitsFrom", desc := "(I)J" } : Jvm.MethodName) ∈ lw_gd := lw_in (List.mem_of_getElem? (i := 459) (by decide +kernel)) (by decide +kernel)
theorem wI_W_bitsFrom : Jvm.Cond.instanceMethod ({ cls := "SignedMill$Whole", name := "bitsFrom", desc := "(I)J" } : Jvm.MethodName) ∈ lw_gd := lw_in (List.mem_of_getElem? (i := 460) (by decide +kernel)) (by decide +kernel)
theorem wS_W_bitsFrom : Jvm.Cond.selects "SignedMill$Whole" ({ cls := "SignedMill$Whole", name := "bitsFrom", desc := "(I)J" } : Jvm.MethodName) ({ cls := "SignedMill$Whole", name := "bitsFrom", desc := "(I)J" } : Jvm.MethodName) ∈ lw_gd := lw_in (List.mem_of_getElem? (i := 461) (by decide +kernel)) (by decide +kernel)
theorem wC_W_bitsFrom : Jvm.Cond.code ({ cls := "SignedMill$Whole", name := "bitsFrom", desc := "(I)J" } : Jvm.MethodName) prog_4_method_12_code (6 : Nat) (Option.some Jvm.ClassFile.FieldType.long) ∈ lw_gd := lw_in (List.mem_of_getElem? (i := 462) (by decide +kernel)) (by decide +kernel)
theorem wL_W_46 : Jvm.Cond.methodLink "SignedMill$Whole" (46 : Nat) ({ cls := "SignedMill$Whole", name := "digitAt", desc := "(I)J" } : Jvm.MethodName) ∈ lw_gd := lw_in (List.mem_of_getElem? (i := 463) (by decide +kernel)) (by decide +kernel)
theorem wL_E_102 : Jvm.Cond.methodLink "SignedMill$Euclid" (102 : Nat) ({ cls := "SignedMill$Euclid", name := "turn", desc := "(J)Z" } : Jvm.MethodName) ∈ lw_gd := lw_in (List.mem_of_getElem? (i := 464) (by decide +kernel)) (by decide +kernel)
theorem wI_E_turn : Jvm.Cond.instanceMethod ({ cls := "SignedMill$Euclid", name := "turn", desc := "(J)Z" } : Jvm.MethodName) ∈ lw_gd := lw_in (List.mem_of_getElem? (i := 466) (by decide +kernel)) (by decide +kernel)
theorem wC_E_turn : Jvm.Cond.code ({ cls := "SignedMill$Euclid", name := "turn", desc := "(J)Z" } : Jvm.MethodName) prog_3_method_4_code (7 : Nat) (Option.some Jvm.ClassFile.FieldType.boolean) ∈ lw_gd := lw_in (List.mem_of_getElem? (i := 467) (by decide +kernel)) (by decide +kernel)
theorem wK_E_106 : Jvm.Cond.constantLong "SignedMill$Euclid" (106 : Nat) (1073741823 : Int64) ∈ lw_gd := lw_in (List.mem_of_getElem? (i := 468) (by decide +kernel)) (by decide +kernel)
theorem wL_E_108 : Jvm.Cond.methodLink "SignedMill$Euclid" (108 : Nat) ({ cls := "java/lang/Math", name := "abs", desc := "(J)J" } : Jvm.MethodName) ∈ lw_gd := lw_in (List.mem_of_getElem? (i := 469) (by decide +kernel)) (by decide +kernel)
theorem wT_JM_abs : Jvm.Cond.static ({ cls := "java/lang/Math", name := "abs", desc := "(J)J" } : Jvm.MethodName) ∈ lw_gd := lw_in (List.mem_of_getElem? (i := 470) (by decide +kernel)) (by decide +kernel)
theorem wC_JM_abs : Jvm.Cond.code ({ cls := "java/lang/Math", name := "abs", desc := "(J)J" } : Jvm.MethodName) prog_10_method_61_code (2 : Nat) (Option.some Jvm.ClassFile.FieldType.long) ∈ lw_gd := lw_in (List.mem_of_getElem? (i := 471) (by decide +kernel)) (by decide +kernel)
theorem wL_E_112 : Jvm.Cond.methodLink "SignedMill$Euclid" (112 : Nat) ({ cls := "java/lang/Math", name := "max", desc := "(JJ)J" } : Jvm.MethodName) ∈ lw_gd := lw_in (List.mem_of_getElem? (i := 472) (by decide +kernel)) (by decide +kernel)
theorem wT_JM_max_JJ : Jvm.Cond.static ({ cls := "java/lang/Math", name := "max", desc := "(JJ)J" } : Jvm.MethodName) ∈ lw_gd := lw_in (List.mem_of_getElem? (i := 473) (by decide +kernel)) (by decide +kernel)
theorem wC_JM_max_JJ : Jvm.Cond.code ({ cls := "java/lang/Math", name := "max", desc := "(JJ)J" } : Jvm.MethodName) prog_10_method_66_code (4 : Nat) (Option.some Jvm.ClassFile.FieldType.long) ∈ lw_gd := lw_in (List.mem_of_getElem? (i := 474) (by decide +kernel)) (by decide +kernel)
theorem wL_E_77 : Jvm.Cond.methodLink "SignedMill$Euclid" (77 : Nat) ({ cls := "SignedMill$Euclid", name := "leap", desc := "(Z)V" } : Jvm.MethodName) ∈ lw_gd := lw_in (List.mem_of_getElem? (i := 475) (by decide +kernel)) (by decide +kernel)
theorem wI_E_leap : Jvm.Cond.instanceMethod ({ cls := "SignedMill$Euclid", name := "leap", desc := "(Z)V" } : Jvm.MethodName) ∈ lw_gd := lw_in (List.mem_of_getElem? (i := 477) (by decide +kernel)) (by decide +kernel)
theorem wC_E_leap : Jvm.Cond.code ({ cls := "SignedMill$Euclid", name := "leap", desc := "(Z)V" } : Jvm.MethodName) prog_3_method_5_code (2 : Nat) (Option.none : Option Jvm.ClassFile.FieldType) ∈ lw_gd := lw_in (List.mem_of_getElem? (i := 478) (by decide +kernel)) (by decide +kernel)
theorem wL_E_115 : Jvm.Cond.methodLink "SignedMill$Euclid" (115 : Nat) ({ cls := "SignedMill$Euclid", name := "leapRemainders", desc := "()V" } : Jvm.MethodName) ∈ lw_gd := lw_in (List.mem_of_getElem? (i := 479) (by decide +kernel)) (by decide +kernel)
theorem wI_E_leapRemainders : Jvm.Cond.instanceMethod ({ cls := "SignedMill$Euclid", name := "leapRemainders", desc := "()V" } : Jvm.MethodName) ∈ lw_gd := lw_in (List.mem_of_getElem? (i := 481) (by decide +kernel)) (by decide +kernel)
theorem wC_E_leapRemainders : Jvm.Cond.code ({ cls := "SignedMill$Euclid", name := "leapRemainders", desc := "()V" } : Jvm.MethodName) prog_3_method_6_code (2 : Nat) (Option.none : Option Jvm.ClassFile.FieldType) ∈ lw_gd := lw_in (List.mem_of_getElem? (i := 482) (by decide +kernel)) (by decide +kernel)
theorem wL_E_125 : Jvm.Cond.methodLink "SignedMill$Euclid" (125 : Nat) ({ cls := "SignedMill$Whole", name := "widen", desc := "(I)V" } : Jvm.MethodName) ∈ lw_gd := lw_in (List.mem_of_getElem? (i := 483) (by decide +kernel)) (by decide +kernel)
theorem wL_E_133 : Jvm.Cond.methodLink "SignedMill$Euclid" (133 : Nat) ({ cls := "SignedMill$Euclid", name := "multiply", desc := "([J[JIJJJJ)V" } : Jvm.MethodName) ∈ lw_gd := lw_in (List.mem_of_getElem? (i := 484) (by decide +kernel)) (by decide +kernel)
theorem wT_E_multiply : Jvm.Cond.static ({ cls := "SignedMill$Euclid", name := "multiply", desc := "([J[JIJJJJ)V" } : Jvm.MethodName) ∈ lw_gd := lw_in (List.mem_of_getElem? (i := 485) (by decide +kernel)) (by decide +kernel)
theorem wC_E_multiply : Jvm.Cond.code ({ cls := "SignedMill$Euclid", name := "multiply", desc := "([J[JIJJJJ)V" } : Jvm.MethodName) prog_3_method_8_code (20 : Nat) (Option.none : Option Jvm.ClassFile.FieldType) ∈ lw_gd := lw_in (List.mem_of_getElem? (i := 486) (by decide +kernel)) (by decide +kernel)
theorem wK_E_140 : Jvm.Cond.constantLong "SignedMill$Euclid" (140 : Nat) (4294967295 : Int64) ∈ lw_gd := lw_in (List.mem_of_getElem? (i := 487) (by decide +kernel)) (by decide +kernel)
theorem wL_E_137 : Jvm.Cond.methodLink "SignedMill$Euclid" (137 : Nat) ({ cls := "SignedMill$Whole", name := "trim", desc := "(I)V" } : Jvm.MethodName) ∈ lw_gd := lw_in (List.mem_of_getElem? (i := 488) (by decide +kernel)) (by decide +kernel)
theorem wL_E_118 : Jvm.Cond.methodLink "SignedMill$Euclid" (118 : Nat) ({ cls := "SignedMill$Euclid", name := "leapFactors", desc := "()V" } : Jvm.MethodName) ∈ lw_gd := lw_in (List.mem_of_getElem? (i := 489) (by decide +kernel)) (by decide +kernel)
theorem wI_E_leapFactors : Jvm.Cond.instanceMethod ({ cls := "SignedMill$Euclid", name := "leapFactors", desc := "()V" } : Jvm.MethodName) ∈ lw_gd := lw_in (List.mem_of_getElem? (i := 491) (by decide +kernel)) (by decide +kernel)
theorem wC_E_leapFactors : Jvm.Cond.code ({ cls := "SignedMill$Euclid", name := "leapFactors", desc := "()V" } : Jvm.MethodName) prog_3_method_7_code (2 : Nat) (Option.none : Option Jvm.ClassFile.FieldType) ∈ lw_gd := lw_in (List.mem_of_getElem? (i := 492) (by decide +kernel)) (by decide +kernel)
theorem wL_E_81 : Jvm.Cond.methodLink "SignedMill$Euclid" (81 : Nat) ({ cls := "SignedMill$Divider", name := "run", desc := "(LSignedMill$Whole;LSignedMill$Whole;)V" } : Jvm.MethodName) ∈ lw_gd := lw_in (List.mem_of_getElem? (i := 493) (by decide +kernel)) (by decide +kernel)
theorem wL_E_85 : Jvm.Cond.methodLink "SignedMill$Euclid" (85 : Nat) ({ cls := "SignedMill$Euclid", name := "step", desc := "(Z)V" } : Jvm.MethodName) ∈ lw_gd := lw_in (List.mem_of_getElem? (i := 494) (by decide +kernel)) (by decide +kernel)
theorem wI_E_step : Jvm.Cond.instanceMethod ({ cls := "SignedMill$Euclid", name := "step", desc := "(Z)V" } : Jvm.MethodName) ∈ lw_gd := lw_in (List.mem_of_getElem? (i := 496) (by decide +kernel)) (by decide +kernel)
theorem wC_E_step : Jvm.Cond.code ({ cls := "SignedMill$Euclid", name := "step", desc := "(Z)V" } : Jvm.MethodName) prog_3_method_9_code (2 : Nat) (Option.none : Option Jvm.ClassFile.FieldType) ∈ lw_gd := lw_in (List.mem_of_getElem? (i := 497) (by decide +kernel)) (by decide +kernel)
theorem wL_E_148 : Jvm.Cond.methodLink "SignedMill$Euclid" (148 : Nat) ({ cls := "SignedMill$Whole", name := "product", desc := "(LSignedMill$Whole;LSignedMill$Whole;)V" } : Jvm.MethodName) ∈ lw_gd := lw_in (List.mem_of_getElem? (i := 498) (by decide +kernel)) (by decide +kernel)
theorem wL_E_151 : Jvm.Cond.methodLink "SignedMill$Euclid" (151 : Nat) ({ cls := "SignedMill$Whole", name := "sum", desc := "(LSignedMill$Whole;LSignedMill$Whole;)V" } : Jvm.MethodName) ∈ lw_gd := lw_in (List.mem_of_getElem? (i := 499) (by decide +kernel)) (by decide +kernel)
theorem wL_L_73 : Jvm.Cond.methodLink "SignedMillLaw" (73 : Nat) ({ cls := "SignedMill", name := "inverse", desc := "(III)Z" } : Jvm.MethodName) ∈ lw_gd := lw_in (List.mem_of_getElem? (i := 500) (by decide +kernel)) (by decide +kernel)
theorem wI_M_inverse : Jvm.Cond.instanceMethod ({ cls := "SignedMill", name := "inverse", desc := "(III)Z" } : Jvm.MethodName) ∈ lw_gd := lw_in (List.mem_of_getElem? (i := 501) (by decide +kernel)) (by decide +kernel)
theorem wS_M_inverse : Jvm.Cond.selects "SignedMill" ({ cls := "SignedMill", name := "inverse", desc := "(III)Z" } : Jvm.MethodName) ({ cls := "SignedMill", name := "inverse", desc := "(III)Z" } : Jvm.MethodName) ∈ lw_gd := lw_in (List.mem_of_getElem? (i := 502) (by decide +kernel)) (by decide +kernel)
theorem wC_M_inverse : Jvm.Cond.code ({ cls := "SignedMill", name := "inverse", desc := "(III)Z" } : Jvm.MethodName) prog_1_method_15_code (4 : Nat) (Option.some Jvm.ClassFile.FieldType.boolean) ∈ lw_gd := lw_in (List.mem_of_getElem? (i := 503) (by decide +kernel)) (by decide +kernel)
theorem wL_M_164 : Jvm.Cond.methodLink "SignedMill" (164 : Nat) ({ cls := "SignedMill", name := "isModulus", desc := "(I)Z" } : Jvm.MethodName) ∈ lw_gd := lw_in (List.mem_of_getElem? (i := 504) (by decide +kernel)) (by decide +kernel)
theorem wI_M_isModulus : Jvm.Cond.instanceMethod ({ cls := "SignedMill", name := "isModulus", desc := "(I)Z" } : Jvm.MethodName) ∈ lw_gd := lw_in (List.mem_of_getElem? (i := 506) (by decide +kernel)) (by decide +kernel)
theorem wC_M_isModulus : Jvm.Cond.code ({ cls := "SignedMill", name := "isModulus", desc := "(I)Z" } : Jvm.MethodName) prog_1_method_25_code (2 : Nat) (Option.some Jvm.ClassFile.FieldType.boolean) ∈ lw_gd := lw_in (List.mem_of_getElem? (i := 507) (by decide +kernel)) (by decide +kernel)
theorem wL_M_167 : Jvm.Cond.methodLink "SignedMill" (167 : Nat) ({ cls := "SignedMill", name := "findInverse", desc := "(II)Z" } : Jvm.MethodName) ∈ lw_gd := lw_in (List.mem_of_getElem? (i := 508) (by decide +kernel)) (by decide +kernel)
theorem wI_M_findInverse : Jvm.Cond.instanceMethod ({ cls := "SignedMill", name := "findInverse", desc := "(II)Z" } : Jvm.MethodName) ∈ lw_gd := lw_in (List.mem_of_getElem? (i := 510) (by decide +kernel)) (by decide +kernel)
theorem wC_M_findInverse : Jvm.Cond.code ({ cls := "SignedMill", name := "findInverse", desc := "(II)Z" } : Jvm.MethodName) prog_1_method_37_code (3 : Nat) (Option.some Jvm.ClassFile.FieldType.boolean) ∈ lw_gd := lw_in (List.mem_of_getElem? (i := 511) (by decide +kernel)) (by decide +kernel)
theorem wL_M_175 : Jvm.Cond.methodLink "SignedMill" (175 : Nat) ({ cls := "SignedMill", name := "reduce", desc := "(II)V" } : Jvm.MethodName) ∈ lw_gd := lw_in (List.mem_of_getElem? (i := 512) (by decide +kernel)) (by decide +kernel)
theorem wI_M_reduce : Jvm.Cond.instanceMethod ({ cls := "SignedMill", name := "reduce", desc := "(II)V" } : Jvm.MethodName) ∈ lw_gd := lw_in (List.mem_of_getElem? (i := 514) (by decide +kernel)) (by decide +kernel)
theorem wC_M_reduce : Jvm.Cond.code ({ cls := "SignedMill", name := "reduce", desc := "(II)V" } : Jvm.MethodName) prog_1_method_36_code (3 : Nat) (Option.none : Option Jvm.ClassFile.FieldType) ∈ lw_gd := lw_in (List.mem_of_getElem? (i := 515) (by decide +kernel)) (by decide +kernel)
theorem wL_L_77 : Jvm.Cond.methodLink "SignedMillLaw" (77 : Nat) ({ cls := "SignedMill", name := "modulo", desc := "(IIII)Z" } : Jvm.MethodName) ∈ lw_gd := lw_in (List.mem_of_getElem? (i := 516) (by decide +kernel)) (by decide +kernel)
theorem wI_M_modulo : Jvm.Cond.instanceMethod ({ cls := "SignedMill", name := "modulo", desc := "(IIII)Z" } : Jvm.MethodName) ∈ lw_gd := lw_in (List.mem_of_getElem? (i := 517) (by decide +kernel)) (by decide +kernel)
theorem wS_M_modulo : Jvm.Cond.selects "SignedMill" ({ cls := "SignedMill", name := "modulo", desc := "(IIII)Z" } : Jvm.MethodName) ({ cls := "SignedMill", name := "modulo", desc := "(IIII)Z" } : Jvm.MethodName) ∈ lw_gd := lw_in (List.mem_of_getElem? (i := 518) (by decide +kernel)) (by decide +kernel)
theorem wC_M_modulo : Jvm.Cond.code ({ cls := "SignedMill", name := "modulo", desc := "(IIII)Z" } : Jvm.MethodName) prog_1_method_16_code (7 : Nat) (Option.some Jvm.ClassFile.FieldType.boolean) ∈ lw_gd := lw_in (List.mem_of_getElem? (i := 519) (by decide +kernel)) (by decide +kernel)
theorem wK_M_173 : Jvm.Cond.constantLong "SignedMill" (173 : Nat) (4294967296 : Int64) ∈ lw_gd := lw_in (List.mem_of_getElem? (i := 520) (by decide +kernel)) (by decide +kernel)
theorem wL_M_179 : Jvm.Cond.methodLink "SignedMill" (179 : Nat) ({ cls := "SignedMill", name := "findPowerByModulus", desc := "(LSignedMill$Whole;LSignedMill$Whole;)V" } : Jvm.MethodName) ∈ lw_gd := lw_in (List.mem_of_getElem? (i := 521) (by decide +kernel)) (by decide +kernel)
theorem wI_M_findPowerByModulus : Jvm.Cond.instanceMethod ({ cls := "SignedMill", name := "findPowerByModulus", desc := "(LSignedMill$Whole;LSignedMill$Whole;)V" } : Jvm.MethodName) ∈ lw_gd := lw_in (List.mem_of_getElem? (i := 523) (by decide +kernel)) (by decide +kernel)
theorem wC_M_findPowerByModulus : Jvm.Cond.code ({ cls := "SignedMill", name := "findPowerByModulus", desc := "(LSignedMill$Whole;LSignedMill$Whole;)V" } : Jvm.MethodName) prog_1_method_38_code (5 : Nat) (Option.none : Option Jvm.ClassFile.FieldType) ∈ lw_gd := lw_in (List.mem_of_getElem? (i := 524) (by decide +kernel)) (by decide +kernel)
theorem wL_M_226 : Jvm.Cond.methodLink "SignedMill" (226 : Nat) ({ cls := "SignedMill", name := "multiplyByModulus", desc := "(LSignedMill$Whole;LSignedMill$Whole;)V" } : Jvm.MethodName) ∈ lw_gd := lw_in (List.mem_of_getElem? (i := 525) (by decide +kernel)) (by decide +kernel)
theorem wI_M_multiplyByModulus : Jvm.Cond.instanceMethod ({ cls := "SignedMill", name := "multiplyByModulus", desc := "(LSignedMill$Whole;LSignedMill$Whole;)V" } : Jvm.MethodName) ∈ lw_gd := lw_in (List.mem_of_getElem? (i := 527) (by decide +kernel)) (by decide +kernel)
theorem wC_M_multiplyByModulus : Jvm.Cond.code ({ cls := "SignedMill", name := "multiplyByModulus", desc := "(LSignedMill$Whole;LSignedMill$Whole;)V" } : Jvm.MethodName) prog_1_method_39_code (3 : Nat) (Option.none : Option Jvm.ClassFile.FieldType) ∈ lw_gd := lw_in (List.mem_of_getElem? (i := 528) (by decide +kernel)) (by decide +kernel)
theorem wL_M_229 : Jvm.Cond.methodLink "SignedMill" (229 : Nat) ({ cls := "SignedMill$Whole", name := "isOne", desc := "(I)Z" } : Jvm.MethodName) ∈ lw_gd := lw_in (List.mem_of_getElem? (i := 529) (by decide +kernel)) (by decide +kernel)
theorem wI_W_isOne : Jvm.Cond.instanceMethod ({ cls := "SignedMill$Whole", name := "isOne", desc := "(I)Z" } : Jvm.MethodName) ∈ lw_gd := lw_in (List.mem_of_getElem? (i := 530) (by decide +kernel)) (by decide +kernel)
theorem wS_W_isOne : Jvm.Cond.selects "SignedMill$Whole" ({ cls := "SignedMill$Whole", name := "isOne", desc := "(I)Z" } : Jvm.MethodName) ({ cls := "SignedMill$Whole", name := "isOne", desc := "(I)Z" } : Jvm.MethodName) ∈ lw_gd := lw_in (List.mem_of_getElem? (i := 531) (by decide +kernel)) (by decide +kernel)
theorem wC_W_isOne : Jvm.Cond.code ({ cls := "SignedMill$Whole", name := "isOne", desc := "(I)Z" } : Jvm.MethodName) prog_4_method_11_code (2 : Nat) (Option.some Jvm.ClassFile.FieldType.boolean) ∈ lw_gd := lw_in (List.mem_of_getElem? (i := 532) (by decide +kernel)) (by decide +kernel)
theorem wL_L_81 : Jvm.Cond.methodLink "SignedMillLaw" (81 : Nat) ({ cls := "SignedMill", name := "compare", desc := "(II)I" } : Jvm.MethodName) ∈ lw_gd := lw_in (List.mem_of_getElem? (i := 533) (by decide +kernel)) (by decide +kernel)
theorem wI_M_compare : Jvm.Cond.instanceMethod ({ cls := "SignedMill", name := "compare", desc := "(II)I" } : Jvm.MethodName) ∈ lw_gd := lw_in (List.mem_of_getElem? (i := 534) (by decide +kernel)) (by decide +kernel)
theorem wS_M_compare : Jvm.Cond.selects "SignedMill" ({ cls := "SignedMill", name := "compare", desc := "(II)I" } : Jvm.MethodName) ({ cls := "SignedMill", name := "compare", desc := "(II)I" } : Jvm.MethodName) ∈ lw_gd := lw_in (List.mem_of_getElem? (i := 535) (by decide +kernel)) (by decide +kernel)
theorem wC_M_compare : Jvm.Cond.code ({ cls := "SignedMill", name := "compare", desc := "(II)I" } : Jvm.MethodName) prog_1_method_17_code (4 : Nat) (Option.some Jvm.ClassFile.FieldType.int) ∈ lw_gd := lw_in (List.mem_of_getElem? (i := 536) (by decide +kernel)) (by decide +kernel)
theorem wL_L_86 : Jvm.Cond.methodLink "SignedMillLaw" (86 : Nat) ({ cls := "SignedMill", name := "sign", desc := "(I)I" } : Jvm.MethodName) ∈ lw_gd := lw_in (List.mem_of_getElem? (i := 537) (by decide +kernel)) (by decide +kernel)
theorem wI_M_sign : Jvm.Cond.instanceMethod ({ cls := "SignedMill", name := "sign", desc := "(I)I" } : Jvm.MethodName) ∈ lw_gd := lw_in (List.mem_of_getElem? (i := 538) (by decide +kernel)) (by decide +kernel)
theorem wS_M_sign : Jvm.Cond.selects "SignedMill" ({ cls := "SignedMill", name := "sign", desc := "(I)I" } : Jvm.MethodName) ({ cls := "SignedMill", name := "sign", desc := "(I)I" } : Jvm.MethodName) ∈ lw_gd := lw_in (List.mem_of_getElem? (i := 539) (by decide +kernel)) (by decide +kernel)
theorem wC_M_sign : Jvm.Cond.code ({ cls := "SignedMill", name := "sign", desc := "(I)I" } : Jvm.MethodName) prog_1_method_18_code (2 : Nat) (Option.some Jvm.ClassFile.FieldType.int) ∈ lw_gd := lw_in (List.mem_of_getElem? (i := 540) (by decide +kernel)) (by decide +kernel)
theorem wL_L_91 : Jvm.Cond.methodLink "SignedMillLaw" (91 : Nat) ({ cls := "SignedMill", name := "length", desc := "(I)I" } : Jvm.MethodName) ∈ lw_gd := lw_in (List.mem_of_getElem? (i := 541) (by decide +kernel)) (by decide +kernel)
theorem wI_M_length : Jvm.Cond.instanceMethod ({ cls := "SignedMill", name := "length", desc := "(I)I" } : Jvm.MethodName) ∈ lw_gd := lw_in (List.mem_of_getElem? (i := 542) (by decide +kernel)) (by decide +kernel)
theorem wS_M_length : Jvm.Cond.selects "SignedMill" ({ cls := "SignedMill", name := "length", desc := "(I)I" } : Jvm.MethodName) ({ cls := "SignedMill", name := "length", desc := "(I)I" } : Jvm.MethodName) ∈ lw_gd := lw_in (List.mem_of_getElem? (i := 543) (by decide +kernel)) (by decide +kernel)
theorem wC_M_length : Jvm.Cond.code ({ cls := "SignedMill", name := "length", desc := "(I)I" } : Jvm.MethodName) prog_1_method_19_code (4 : Nat) (Option.some Jvm.ClassFile.FieldType.int) ∈ lw_gd := lw_in (List.mem_of_getElem? (i := 544) (by decide +kernel)) (by decide +kernel)
theorem wL_L_95 : Jvm.Cond.methodLink "SignedMillLaw" (95 : Nat) ({ cls := "SignedMill", name := "ones", desc := "(I)I" } : Jvm.MethodName) ∈ lw_gd := lw_in (List.mem_of_getElem? (i := 545) (by decide +kernel)) (by decide +kernel)
theorem wI_M_ones : Jvm.Cond.instanceMethod ({ cls := "SignedMill", name := "ones", desc := "(I)I" } : Jvm.MethodName) ∈ lw_gd := lw_in (List.mem_of_getElem? (i := 546) (by decide +kernel)) (by decide +kernel)
theorem wS_M_ones : Jvm.Cond.selects "SignedMill" ({ cls := "SignedMill", name := "ones", desc := "(I)I" } : Jvm.MethodName) ({ cls := "SignedMill", name := "ones", desc := "(I)I" } : Jvm.MethodName) ∈ lw_gd := lw_in (List.mem_of_getElem? (i := 547) (by decide +kernel)) (by decide +kernel)
theorem wC_M_ones : Jvm.Cond.code ({ cls := "SignedMill", name := "ones", desc := "(I)I" } : Jvm.MethodName) prog_1_method_20_code (3 : Nat) (Option.some Jvm.ClassFile.FieldType.int) ∈ lw_gd := lw_in (List.mem_of_getElem? (i := 548) (by decide +kernel)) (by decide +kernel)
theorem wL_M_189 : Jvm.Cond.methodLink "SignedMill" (189 : Nat) ({ cls := "SignedMill$Whole", name := "countOnes", desc := "()I" } : Jvm.MethodName) ∈ lw_gd := lw_in (List.mem_of_getElem? (i := 549) (by decide +kernel)) (by decide +kernel)
theorem wI_W_countOnes : Jvm.Cond.instanceMethod ({ cls := "SignedMill$Whole", name := "countOnes", desc := "()I" } : Jvm.MethodName) ∈ lw_gd := lw_in (List.mem_of_getElem? (i := 550) (by decide +kernel)) (by decide +kernel)
theorem wS_W_countOnes : Jvm.Cond.selects "SignedMill$Whole" ({ cls := "SignedMill$Whole", name := "countOnes", desc := "()I" } : Jvm.MethodName) ({ cls := "SignedMill$Whole", name := "countOnes", desc := "()I" } : Jvm.MethodName) ∈ lw_gd := lw_in (List.mem_of_getElem? (i := 551) (by decide +kernel)) (by decide +kernel)
theorem wC_W_countOnes : Jvm.Cond.code ({ cls := "SignedMill$Whole", name := "countOnes", desc := "()I" } : Jvm.MethodName) prog_4_method_16_code (3 : Nat) (Option.some Jvm.ClassFile.FieldType.int) ∈ lw_gd := lw_in (List.mem_of_getElem? (i := 552) (by decide +kernel)) (by decide +kernel)
theorem wL_W_63 : Jvm.Cond.methodLink "SignedMill$Whole" (63 : Nat) ({ cls := "java/lang/Long", name := "bitCount", desc := "(J)I" } : Jvm.MethodName) ∈ lw_gd := lw_in (List.mem_of_getElem? (i := 553) (by decide +kernel)) (by decide +kernel)
theorem wT_JL_bitCount : Jvm.Cond.static ({ cls := "java/lang/Long", name := "bitCount", desc := "(J)I" } : Jvm.MethodName) ∈ lw_gd := lw_in (List.mem_of_getElem? (i := 554) (by decide +kernel)) (by decide +kernel)
theorem wC_JL_bitCount : Jvm.Cond.code ({ cls := "java/lang/Long", name := "bitCount", desc := "(J)I" } : Jvm.MethodName) prog_9_method_50_code (2 : Nat) (Option.some Jvm.ClassFile.FieldType.int) ∈ lw_gd := lw_in (List.mem_of_getElem? (i := 555) (by decide +kernel)) (by decide +kernel)
theorem wK_JL_314 : Jvm.Cond.constantLong "java/lang/Long" (314 : Nat) (6148914691236517205 : Int64) ∈ lw_gd := lw_in (List.mem_of_getElem? (i := 556) (by decide +kernel)) (by decide +kernel)
theorem wK_JL_316 : Jvm.Cond.constantLong "java/lang/Long" (316 : Nat) (3689348814741910323 : Int64) ∈ lw_gd := lw_in (List.mem_of_getElem? (i := 557) (by decide +kernel)) (by decide +kernel)
theorem wK_JL_318 : Jvm.Cond.constantLong "java/lang/Long" (318 : Nat) (1085102592571150095 : Int64) ∈ lw_gd := lw_in (List.mem_of_getElem? (i := 558) (by decide +kernel)) (by decide +kernel)
theorem wL_L_99 : Jvm.Cond.methodLink "SignedMillLaw" (99 : Nat) ({ cls := "SignedMill", name := "lowest", desc := "(I)I" } : Jvm.MethodName) ∈ lw_gd := lw_in (List.mem_of_getElem? (i := 559) (by decide +kernel)) (by decide +kernel)
theorem wI_M_lowest : Jvm.Cond.instanceMethod ({ cls := "SignedMill", name := "lowest", desc := "(I)I" } : Jvm.MethodName) ∈ lw_gd := lw_in (List.mem_of_getElem? (i := 560) (by decide +kernel)) (by decide +kernel)
theorem wS_M_lowest : Jvm.Cond.selects "SignedMill" ({ cls := "SignedMill", name := "lowest", desc := "(I)I" } : Jvm.MethodName) ({ cls := "SignedMill", name := "lowest", desc := "(I)I" } : Jvm.MethodName) ∈ lw_gd := lw_in (List.mem_of_getElem? (i := 561) (by decide +kernel)) (by decide +kernel)
theorem wC_M_lowest : Jvm.Cond.code ({ cls := "SignedMill", name := "lowest", desc := "(I)I" } : Jvm.MethodName) prog_1_method_21_code (2 : Nat) (Option.some Jvm.ClassFile.FieldType.int) ∈ lw_gd := lw_in (List.mem_of_getElem? (i := 562) (by decide +kernel)) (by decide +kernel)
theorem wL_L_103 : Jvm.Cond.methodLink "SignedMillLaw" (103 : Nat) ({ cls := "SignedMill", name := "word", desc := "(II)I" } : Jvm.MethodName) ∈ lw_gd := lw_in (List.mem_of_getElem? (i := 563) (by decide +kernel)) (by decide +kernel)
theorem wI_M_word : Jvm.Cond.instanceMethod ({ cls := "SignedMill", name := "word", desc := "(II)I" } : Jvm.MethodName) ∈ lw_gd := lw_in (List.mem_of_getElem? (i := 564) (by decide +kernel)) (by decide +kernel)
theorem wS_M_word : Jvm.Cond.selects "SignedMill" ({ cls := "SignedMill", name := "word", desc := "(II)I" } : Jvm.MethodName) ({ cls := "SignedMill", name := "word", desc := "(II)I" } : Jvm.MethodName) ∈ lw_gd := lw_in (List.mem_of_getElem? (i := 565) (by decide +kernel)) (by decide +kernel)
theorem wC_M_word : Jvm.Cond.code ({ cls := "SignedMill", name := "word", desc := "(II)I" } : Jvm.MethodName) prog_1_method_22_code (3 : Nat) (Option.some Jvm.ClassFile.FieldType.int) ∈ lw_gd := lw_in (List.mem_of_getElem? (i := 566) (by decide +kernel)) (by decide +kernel)
theorem wY_L_10 : Jvm.Cond.classLink "SignedMillLaw" (10 : Nat) "SignedMillModel" ∈ lw_gd := lw_in (List.mem_of_getElem? (i := 567) (by decide +kernel)) (by decide +kernel)
theorem wZ_R : Jvm.Cond.instantiable "SignedMillModel" (3 : Nat) ∈ lw_gd := lw_in (List.mem_of_getElem? (i := 568) (by decide +kernel)) (by decide +kernel)
theorem wL_L_12 : Jvm.Cond.methodLink "SignedMillLaw" (12 : Nat) ({ cls := "SignedMillModel", name := "<init>", desc := "()V" } : Jvm.MethodName) ∈ lw_gd := lw_in (List.mem_of_getElem? (i := 569) (by decide +kernel)) (by decide +kernel)
theorem wI_R_init : Jvm.Cond.instanceMethod ({ cls := "SignedMillModel", name := "<init>", desc := "()V" } : Jvm.MethodName) ∈ lw_gd := lw_in (List.mem_of_getElem? (i := 570) (by decide +kernel)) (by decide +kernel)
theorem wC_R_init : Jvm.Cond.code ({ cls := "SignedMillModel", name := "<init>", desc := "()V" } : Jvm.MethodName) prog_6_method_1_code (1 : Nat) (Option.none : Option Jvm.ClassFile.FieldType) ∈ lw_gd := lw_in (List.mem_of_getElem? (i := 571) (by decide +kernel)) (by decide +kernel)
theorem wL_R_1 : Jvm.Cond.methodLink "SignedMillModel" (1 : Nat) ({ cls := "java/lang/Object", name := "<init>", desc := "()V" } : Jvm.MethodName) ∈ lw_gd := lw_in (List.mem_of_getElem? (i := 572) (by decide +kernel)) (by decide +kernel)
theorem wK_R_7 : Jvm.Cond.constant "SignedMillModel" (7 : Nat) (131136 : Int32) ∈ lw_gd := lw_in (List.mem_of_getElem? (i := 573) (by decide +kernel)) (by decide +kernel)
theorem wF_R_8 : Jvm.Cond.fieldLink "SignedMillModel" (8 : Nat) "SignedMillModel" "m" "[I" ∈ lw_gd := lw_in (List.mem_of_getElem? (i := 574) (by decide +kernel)) (by decide +kernel)
theorem wF_R_14 : Jvm.Cond.fieldLink "SignedMillModel" (14 : Nat) "SignedMillModel" "n" "[I" ∈ lw_gd := lw_in (List.mem_of_getElem? (i := 575) (by decide +kernel)) (by decide +kernel)
theorem wF_R_17 : Jvm.Cond.fieldLink "SignedMillModel" (17 : Nat) "SignedMillModel" "below" "[Z" ∈ lw_gd := lw_in (List.mem_of_getElem? (i := 576) (by decide +kernel)) (by decide +kernel)
theorem wA_int : Jvm.Cond.arrayClass Jvm.ClassFile.FieldType.int ∈ lw_gd := lw_in (List.mem_of_getElem? (i := 584) (by decide +kernel)) (by decide +kernel)
theorem wL_L_19 : Jvm.Cond.methodLink "SignedMillLaw" (19 : Nat) ({ cls := "SignedMillModel", name := "put", desc := "(IJ)Z" } : Jvm.MethodName) ∈ lw_gd := lw_in (List.mem_of_getElem? (i := 585) (by decide +kernel)) (by decide +kernel)
theorem wI_R_put : Jvm.Cond.instanceMethod ({ cls := "SignedMillModel", name := "put", desc := "(IJ)Z" } : Jvm.MethodName) ∈ lw_gd := lw_in (List.mem_of_getElem? (i := 586) (by decide +kernel)) (by decide +kernel)
theorem wS_R_put : Jvm.Cond.selects "SignedMillModel" ({ cls := "SignedMillModel", name := "put", desc := "(IJ)Z" } : Jvm.MethodName) ({ cls := "SignedMillModel", name := "put", desc := "(IJ)Z" } : Jvm.MethodName) ∈ lw_gd := lw_in (List.mem_of_getElem? (i := 587) (by decide +kernel)) (by decide +kernel)
theorem wC_R_put : Jvm.Cond.code ({ cls := "SignedMillModel", name := "put", desc := "(IJ)Z" } : Jvm.MethodName) prog_6_method_21_code (4 : Nat) (Option.some Jvm.ClassFile.FieldType.boolean) ∈ lw_gd := lw_in (List.mem_of_getElem? (i := 588) (by decide +kernel)) (by decide +kernel)
theorem wL_R_67 : Jvm.Cond.methodLink "SignedMillModel" (67 : Nat) ({ cls := "SignedMillModel", name := "is", desc := "(I)Z" } : Jvm.MethodName) ∈ lw_gd := lw_in (List.mem_of_getElem? (i := 589) (by decide +kernel)) (by decide +kernel)
theorem wT_R_is : Jvm.Cond.static ({ cls := "SignedMillModel", name := "is", desc := "(I)Z" } : Jvm.MethodName) ∈ lw_gd := lw_in (List.mem_of_getElem? (i := 590) (by decide +kernel)) (by decide +kernel)
theorem wC_R_is : Jvm.Cond.code ({ cls := "SignedMillModel", name := "is", desc := "(I)Z" } : Jvm.MethodName) prog_6_method_2_code (1 : Nat) (Option.some Jvm.ClassFile.FieldType.boolean) ∈ lw_gd := lw_in (List.mem_of_getElem? (i := 591) (by decide +kernel)) (by decide +kernel)
theorem wL_R_71 : Jvm.Cond.methodLink "SignedMillModel" (71 : Nat) ({ cls := "SignedMillModel", name := "set", desc := "(IJ)V" } : Jvm.MethodName) ∈ lw_gd := lw_in (List.mem_of_getElem? (i := 592) (by decide +kernel)) (by decide +kernel)
theorem wI_R_set : Jvm.Cond.instanceMethod ({ cls := "SignedMillModel", name := "set", desc := "(IJ)V" } : Jvm.MethodName) ∈ lw_gd := lw_in (List.mem_of_getElem? (i := 594) (by decide +kernel)) (by decide +kernel)
theorem wC_R_set : Jvm.Cond.code ({ cls := "SignedMillModel", name := "set", desc := "(IJ)V" } : Jvm.MethodName) prog_6_method_7_code (5 : Nat) (Option.none : Option Jvm.ClassFile.FieldType) ∈ lw_gd := lw_in (List.mem_of_getElem? (i := 595) (by decide +kernel)) (by decide +kernel)
theorem wL_R_22 : Jvm.Cond.methodLink "SignedMillModel" (22 : Nat) ({ cls := "SignedMillModel", name := "at", desc := "(I)I" } : Jvm.MethodName) ∈ lw_gd := lw_in (List.mem_of_getElem? (i := 596) (by decide +kernel)) (by decide +kernel)
theorem wT_R_at : Jvm.Cond.static ({ cls := "SignedMillModel", name := "at", desc := "(I)I" } : Jvm.MethodName) ∈ lw_gd := lw_in (List.mem_of_getElem? (i := 597) (by decide +kernel)) (by decide +kernel)
theorem wC_R_at : Jvm.Cond.code ({ cls := "SignedMillModel", name := "at", desc := "(I)I" } : Jvm.MethodName) prog_6_method_3_code (1 : Nat) (Option.some Jvm.ClassFile.FieldType.int) ∈ lw_gd := lw_in (List.mem_of_getElem? (i := 598) (by decide +kernel)) (by decide +kernel)
theorem wK_R_21 : Jvm.Cond.constant "SignedMillModel" (21 : Nat) (65536 : Int32) ∈ lw_gd := lw_in (List.mem_of_getElem? (i := 599) (by decide +kernel)) (by decide +kernel)
theorem wK_R_26 : Jvm.Cond.constantLong "SignedMillModel" (26 : Nat) (65535 : Int64) ∈ lw_gd := lw_in (List.mem_of_getElem? (i := 600) (by decide +kernel)) (by decide +kernel)
theorem wL_R_28 : Jvm.Cond.methodLink "SignedMillModel" (28 : Nat) ({ cls := "SignedMillModel", name := "trim", desc := "(II)V" } : Jvm.MethodName) ∈ lw_gd := lw_in (List.mem_of_getElem? (i := 601) (by decide +kernel)) (by decide +kernel)
theorem wI_R_trim : Jvm.Cond.instanceMethod ({ cls := "SignedMillModel", name := "trim", desc := "(II)V" } : Jvm.MethodName) ∈ lw_gd := lw_in (List.mem_of_getElem? (i := 603) (by decide +kernel)) (by decide +kernel)
theorem wC_R_trim : Jvm.Cond.code ({ cls := "SignedMillModel", name := "trim", desc := "(II)V" } : Jvm.MethodName) prog_6_method_4_code (4 : Nat) (Option.none : Option Jvm.ClassFile.FieldType) ∈ lw_gd := lw_in (List.mem_of_getElem? (i := 604) (by decide +kernel)) (by decide +kernel)
theorem wL_R_75 : Jvm.Cond.methodLink "SignedMillModel" (75 : Nat) ({ cls := "SignedMillModel", name := "store", desc := "(IIZ)Z" } : Jvm.MethodName) ∈ lw_gd := lw_in (List.mem_of_getElem? (i := 605) (by decide +kernel)) (by decide +kernel)
theorem wI_R_store : Jvm.Cond.instanceMethod ({ cls := "SignedMillModel", name := "store", desc := "(IIZ)Z" } : Jvm.MethodName) ∈ lw_gd := lw_in (List.mem_of_getElem? (i := 607) (by decide +kernel)) (by decide +kernel)
theorem wC_R_store : Jvm.Cond.code ({ cls := "SignedMillModel", name := "store", desc := "(IIZ)Z" } : Jvm.MethodName) prog_6_method_20_code (4 : Nat) (Option.some Jvm.ClassFile.FieldType.boolean) ∈ lw_gd := lw_in (List.mem_of_getElem? (i := 608) (by decide +kernel)) (by decide +kernel)
theorem wL_R_64 : Jvm.Cond.methodLink "SignedMillModel" (64 : Nat) ({ cls := "SignedMillModel", name := "move", desc := "(II)V" } : Jvm.MethodName) ∈ lw_gd := lw_in (List.mem_of_getElem? (i := 609) (by decide +kernel)) (by decide +kernel)
theorem wI_R_move : Jvm.Cond.instanceMethod ({ cls := "SignedMillModel", name := "move", desc := "(II)V" } : Jvm.MethodName) ∈ lw_gd := lw_in (List.mem_of_getElem? (i := 611) (by decide +kernel)) (by decide +kernel)
theorem wC_R_move : Jvm.Cond.code ({ cls := "SignedMillModel", name := "move", desc := "(II)V" } : Jvm.MethodName) prog_6_method_5_code (4 : Nat) (Option.none : Option Jvm.ClassFile.FieldType) ∈ lw_gd := lw_in (List.mem_of_getElem? (i := 612) (by decide +kernel)) (by decide +kernel)
theorem wL_L_23 : Jvm.Cond.methodLink "SignedMillLaw" (23 : Nat) ({ cls := "SignedMillModel", name := "push", desc := "(IJ)Z" } : Jvm.MethodName) ∈ lw_gd := lw_in (List.mem_of_getElem? (i := 613) (by decide +kernel)) (by decide +kernel)
theorem wI_R_push : Jvm.Cond.instanceMethod ({ cls := "SignedMillModel", name := "push", desc := "(IJ)Z" } : Jvm.MethodName) ∈ lw_gd := lw_in (List.mem_of_getElem? (i := 614) (by decide +kernel)) (by decide +kernel)
theorem wS_R_push : Jvm.Cond.selects "SignedMillModel" ({ cls := "SignedMillModel", name := "push", desc := "(IJ)Z" } : Jvm.MethodName) ({ cls := "SignedMillModel", name := "push", desc := "(IJ)Z" } : Jvm.MethodName) ∈ lw_gd := lw_in (List.mem_of_getElem? (i := 615) (by decide +kernel)) (by decide +kernel)
theorem wC_R_push : Jvm.Cond.code ({ cls := "SignedMillModel", name := "push", desc := "(IJ)Z" } : Jvm.MethodName) prog_6_method_22_code (5 : Nat) (Option.some Jvm.ClassFile.FieldType.boolean) ∈ lw_gd := lw_in (List.mem_of_getElem? (i := 616) (by decide +kernel)) (by decide +kernel)
theorem wL_L_28 : Jvm.Cond.methodLink "SignedMillLaw" (28 : Nat) ({ cls := "SignedMillModel", name := "spread", desc := "(IJI)Z" } : Jvm.MethodName) ∈ lw_gd := lw_in (List.mem_of_getElem? (i := 617) (by decide +kernel)) (by decide +kernel)
theorem wI_R_spread : Jvm.Cond.instanceMethod ({ cls := "SignedMillModel", name := "spread", desc := "(IJI)Z" } : Jvm.MethodName) ∈ lw_gd := lw_in (List.mem_of_getElem? (i := 618) (by decide +kernel)) (by decide +kernel)
theorem wS_R_spread : Jvm.Cond.selects "SignedMillModel" ({ cls := "SignedMillModel", name := "spread", desc := "(IJI)Z" } : Jvm.MethodName) ({ cls := "SignedMillModel", name := "spread", desc := "(IJI)Z" } : Jvm.MethodName) ∈ lw_gd := lw_in (List.mem_of_getElem? (i := 619) (by decide +kernel)) (by decide +kernel)
theorem wC_R_spread : Jvm.Cond.code ({ cls := "SignedMillModel", name := "spread", desc := "(IJI)Z" } : Jvm.MethodName) prog_6_method_23_code (6 : Nat) (Option.some Jvm.ClassFile.FieldType.boolean) ∈ lw_gd := lw_in (List.mem_of_getElem? (i := 620) (by decide +kernel)) (by decide +kernel)
theorem wL_L_33 : Jvm.Cond.methodLink "SignedMillLaw" (33 : Nat) ({ cls := "SignedMillModel", name := "negate", desc := "(II)Z" } : Jvm.MethodName) ∈ lw_gd := lw_in (List.mem_of_getElem? (i := 621) (by decide +kernel)) (by decide +kernel)
theorem wI_R_negate : Jvm.Cond.instanceMethod ({ cls := "SignedMillModel", name := "negate", desc := "(II)Z" } : Jvm.MethodName) ∈ lw_gd := lw_in (List.mem_of_getElem? (i := 622) (by decide +kernel)) (by decide +kernel)
theorem wS_R_negate : Jvm.Cond.selects "SignedMillModel" ({ cls := "SignedMillModel", name := "negate", desc := "(II)Z" } : Jvm.MethodName) ({ cls := "SignedMillModel", name := "negate", desc := "(II)Z" } : Jvm.MethodName) ∈ lw_gd := lw_in (List.mem_of_getElem? (i := 623) (by decide +kernel)) (by decide +kernel)
theorem wC_R_negate : Jvm.Cond.code ({ cls := "SignedMillModel", name := "negate", desc := "(II)Z" } : Jvm.MethodName) prog_6_method_24_code (3 : Nat) (Option.some Jvm.ClassFile.FieldType.boolean) ∈ lw_gd := lw_in (List.mem_of_getElem? (i := 624) (by decide +kernel)) (by decide +kernel)
theorem wL_L_38 : Jvm.Cond.methodLink "SignedMillLaw" (38 : Nat) ({ cls := "SignedMillModel", name := "add", desc := "(III)Z" } : Jvm.MethodName) ∈ lw_gd := lw_in (List.mem_of_getElem? (i := 625) (by decide +kernel)) (by decide +kernel)
theorem wI_R_add : Jvm.Cond.instanceMethod ({ cls := "SignedMillModel", name := "add", desc := "(III)Z" } : Jvm.MethodName) ∈ lw_gd := lw_in (List.mem_of_getElem? (i := 626) (by decide +kernel)) (by decide +kernel)
theorem wS_R_add : Jvm.Cond.selects "SignedMillModel" ({ cls := "SignedMillModel", name := "add", desc := "(III)Z" } : Jvm.MethodName) ({ cls := "SignedMillModel", name := "add", desc := "(III)Z" } : Jvm.MethodName) ∈ lw_gd := lw_in (List.mem_of_getElem? (i := 627) (by decide +kernel)) (by decide +kernel)
theorem wC_R_add : Jvm.Cond.code ({ cls := "SignedMillModel", name := "add", desc := "(III)Z" } : Jvm.MethodName) prog_6_method_26_code (4 : Nat) (Option.some Jvm.ClassFile.FieldType.boolean) ∈ lw_gd := lw_in (List.mem_of_getElem? (i := 628) (by decide +kernel)) (by decide +kernel)
theorem wL_R_82 : Jvm.Cond.methodLink "SignedMillModel" (82 : Nat) ({ cls := "SignedMillModel", name := "added", desc := "(IIZIZ)Z" } : Jvm.MethodName) ∈ lw_gd := lw_in (List.mem_of_getElem? (i := 629) (by decide +kernel)) (by decide +kernel)
theorem wI_R_added : Jvm.Cond.instanceMethod ({ cls := "SignedMillModel", name := "added", desc := "(IIZIZ)Z" } : Jvm.MethodName) ∈ lw_gd := lw_in (List.mem_of_getElem? (i := 631) (by decide +kernel)) (by decide +kernel)
theorem wC_R_added : Jvm.Cond.code ({ cls := "SignedMillModel", name := "added", desc := "(IIZIZ)Z" } : Jvm.MethodName) prog_6_method_25_code (7 : Nat) (Option.some Jvm.ClassFile.FieldType.boolean) ∈ lw_gd := lw_in (List.mem_of_getElem? (i := 632) (by decide +kernel)) (by decide +kernel)
theorem wL_R_54 : Jvm.Cond.methodLink "SignedMillModel" (54 : Nat) ({ cls := "SignedMillModel", name := "compareRows", desc := "(II)I" } : Jvm.MethodName) ∈ lw_gd := lw_in (List.mem_of_getElem? (i := 633) (by decide +kernel)) (by decide +kernel)
theorem wI_R_compareRows : Jvm.Cond.instanceMethod ({ cls := "SignedMillModel", name := "compareRows", desc := "(II)I" } : Jvm.MethodName) ∈ lw_gd := lw_in (List.mem_of_getElem? (i := 635) (by decide +kernel)) (by decide +kernel)
theorem wC_R_compareRows : Jvm.Cond.code ({ cls := "SignedMillModel", name := "compareRows", desc := "(II)I" } : Jvm.MethodName) prog_6_method_8_code (6 : Nat) (Option.some Jvm.ClassFile.FieldType.int) ∈ lw_gd := lw_in (List.mem_of_getElem? (i := 636) (by decide +kernel)) (by decide +kernel)
theorem wL_R_79 : Jvm.Cond.methodLink "SignedMillModel" (79 : Nat) ({ cls := "SignedMillModel", name := "sum", desc := "(III)V" } : Jvm.MethodName) ∈ lw_gd := lw_in (List.mem_of_getElem? (i := 637) (by decide +kernel)) (by decide +kernel)
theorem wI_R_sum : Jvm.Cond.instanceMethod ({ cls := "SignedMillModel", name := "sum", desc := "(III)V" } : Jvm.MethodName) ∈ lw_gd := lw_in (List.mem_of_getElem? (i := 639) (by decide +kernel)) (by decide +kernel)
theorem wC_R_sum : Jvm.Cond.code ({ cls := "SignedMillModel", name := "sum", desc := "(III)V" } : Jvm.MethodName) prog_6_method_9_code (8 : Nat) (Option.none : Option Jvm.ClassFile.FieldType) ∈ lw_gd := lw_in (List.mem_of_getElem? (i := 640) (by decide +kernel)) (by decide +kernel)
theorem wL_R_32 : Jvm.Cond.methodLink "SignedMillModel" (32 : Nat) ({ cls := "SignedMillModel", name := "digit", desc := "(II)I" } : Jvm.MethodName) ∈ lw_gd := lw_in (List.mem_of_getElem? (i := 641) (by decide +kernel)) (by decide +kernel)
theorem wI_R_digit : Jvm.Cond.instanceMethod ({ cls := "SignedMillModel", name := "digit", desc := "(II)I" } : Jvm.MethodName) ∈ lw_gd := lw_in (List.mem_of_getElem? (i := 643) (by decide +kernel)) (by decide +kernel)
theorem wC_R_digit : Jvm.Cond.code ({ cls := "SignedMillModel", name := "digit", desc := "(II)I" } : Jvm.MethodName) prog_6_method_6_code (3 : Nat) (Option.some Jvm.ClassFile.FieldType.int) ∈ lw_gd := lw_in (List.mem_of_getElem? (i := 644) (by decide +kernel)) (by decide +kernel)
theorem wK_R_36 : Jvm.Cond.constant "SignedMillModel" (36 : Nat) (65535 : Int32) ∈ lw_gd := lw_in (List.mem_of_getElem? (i := 645) (by decide +kernel)) (by decide +kernel)
theorem wL_R_57 : Jvm.Cond.methodLink "SignedMillModel" (57 : Nat) ({ cls := "SignedMillModel", name := "lessen", desc := "(III)V" } : Jvm.MethodName) ∈ lw_gd := lw_in (List.mem_of_getElem? (i := 646) (by decide +kernel)) (by decide +kernel)
theorem wI_R_lessen : Jvm.Cond.instanceMethod ({ cls := "SignedMillModel", name := "lessen", desc := "(III)V" } : Jvm.MethodName) ∈ lw_gd := lw_in (List.mem_of_getElem? (i := 648) (by decide +kernel)) (by decide +kernel)
theorem wC_R_lessen : Jvm.Cond.code ({ cls := "SignedMillModel", name := "lessen", desc := "(III)V" } : Jvm.MethodName) prog_6_method_10_code (8 : Nat) (Option.none : Option Jvm.ClassFile.FieldType) ∈ lw_gd := lw_in (List.mem_of_getElem? (i := 649) (by decide +kernel)) (by decide +kernel)
theorem wL_L_42 : Jvm.Cond.methodLink "SignedMillLaw" (42 : Nat) ({ cls := "SignedMillModel", name := "take", desc := "(III)Z" } : Jvm.MethodName) ∈ lw_gd := lw_in (List.mem_of_getElem? (i := 650) (by decide +kernel)) (by decide +kernel)
theorem wI_R_take : Jvm.Cond.instanceMethod ({ cls := "SignedMillModel", name := "take", desc := "(III)Z" } : Jvm.MethodName) ∈ lw_gd := lw_in (List.mem_of_getElem? (i := 651) (by decide +kernel)) (by decide +kernel)
theorem wS_R_take : Jvm.Cond.selects "SignedMillModel" ({ cls := "SignedMillModel", name := "take", desc := "(III)Z" } : Jvm.MethodName) ({ cls := "SignedMillModel", name := "take", desc := "(III)Z" } : Jvm.MethodName) ∈ lw_gd := lw_in (List.mem_of_getElem? (i := 652) (by decide +kernel)) (by decide +kernel)
theorem wC_R_take : Jvm.Cond.code ({ cls := "SignedMillModel", name := "take", desc := "(III)Z" } : Jvm.MethodName) prog_6_method_27_code (4 : Nat) (Option.some Jvm.ClassFile.FieldType.boolean) ∈ lw_gd := lw_in (List.mem_of_getElem? (i := 653) (by decide +kernel)) (by decide +kernel)
theorem wL_L_46 : Jvm.Cond.methodLink "SignedMillLaw" (46 : Nat) ({ cls := "SignedMillModel", name := "times", desc := "(III)Z" } : Jvm.MethodName) ∈ lw_gd := lw_in (List.mem_of_getElem? (i := 654) (by decide +kernel)) (by decide +kernel)
theorem wI_R_times : Jvm.Cond.instanceMethod ({ cls := "SignedMillModel", name := "times", desc := "(III)Z" } : Jvm.MethodName) ∈ lw_gd := lw_in (List.mem_of_getElem? (i := 655) (by decide +kernel)) (by decide +kernel)
theorem wS_R_times : Jvm.Cond.selects "SignedMillModel" ({ cls := "SignedMillModel", name := "times", desc := "(III)Z" } : Jvm.MethodName) ({ cls := "SignedMillModel", name := "times", desc := "(III)Z" } : Jvm.MethodName) ∈ lw_gd := lw_in (List.mem_of_getElem? (i := 656) (by decide +kernel)) (by decide +kernel)
theorem wC_R_times : Jvm.Cond.code ({ cls := "SignedMillModel", name := "times", desc := "(III)Z" } : Jvm.MethodName) prog_6_method_28_code (4 : Nat) (Option.some Jvm.ClassFile.FieldType.boolean) ∈ lw_gd := lw_in (List.mem_of_getElem? (i := 657) (by decide +kernel)) (by decide +kernel)
theorem wL_R_86 : Jvm.Cond.methodLink "SignedMillModel" (86 : Nat) ({ cls := "SignedMillModel", name := "product", desc := "(III)V" } : Jvm.MethodName) ∈ lw_gd := lw_in (List.mem_of_getElem? (i := 658) (by decide +kernel)) (by decide +kernel)
theorem wI_R_product : Jvm.Cond.instanceMethod ({ cls := "SignedMillModel", name := "product", desc := "(III)V" } : Jvm.MethodName) ∈ lw_gd := lw_in (List.mem_of_getElem? (i := 660) (by decide +kernel)) (by decide +kernel)
theorem wC_R_product : Jvm.Cond.code ({ cls := "SignedMillModel", name := "product", desc := "(III)V" } : Jvm.MethodName) prog_6_method_11_code (13 : Nat) (Option.none : Option Jvm.ClassFile.FieldType) ∈ lw_gd := lw_in (List.mem_of_getElem? (i := 661) (by decide +kernel)) (by decide +kernel)
theorem wL_L_51 : Jvm.Cond.methodLink "SignedMillLaw" (51 : Nat) ({ cls := "SignedMillModel", name := "divide", desc := "(IIIIZ)Z" } : Jvm.MethodName) ∈ lw_gd := lw_in (List.mem_of_getElem? (i := 662) (by decide +kernel)) (by decide +kernel)
theorem wI_R_divide : Jvm.Cond.instanceMethod ({ cls := "SignedMillModel", name := "divide", desc := "(IIIIZ)Z" } : Jvm.MethodName) ∈ lw_gd := lw_in (List.mem_of_getElem? (i := 663) (by decide +kernel)) (by decide +kernel)
theorem wS_R_divide : Jvm.Cond.selects "SignedMillModel" ({ cls := "SignedMillModel", name := "divide", desc := "(IIIIZ)Z" } : Jvm.MethodName) ({ cls := "SignedMillModel", name := "divide", desc := "(IIIIZ)Z" } : Jvm.MethodName) ∈ lw_gd := lw_in (List.mem_of_getElem? (i := 664) (by decide +kernel)) (by decide +kernel)
theorem wC_R_divide : Jvm.Cond.code ({ cls := "SignedMillModel", name := "divide", desc := "(IIIIZ)Z" } : Jvm.MethodName) prog_6_method_29_code (10 : Nat) (Option.some Jvm.ClassFile.FieldType.boolean) ∈ lw_gd := lw_in (List.mem_of_getElem? (i := 665) (by decide +kernel)) (by decide +kernel)
theorem wL_R_89 : Jvm.Cond.methodLink "SignedMillModel" (89 : Nat) ({ cls := "SignedMillModel", name := "quotient", desc := "(IIII)V" } : Jvm.MethodName) ∈ lw_gd := lw_in (List.mem_of_getElem? (i := 666) (by decide +kernel)) (by decide +kernel)
theorem wI_R_quotient : Jvm.Cond.instanceMethod ({ cls := "SignedMillModel", name := "quotient", desc := "(IIII)V" } : Jvm.MethodName) ∈ lw_gd := lw_in (List.mem_of_getElem? (i := 668) (by decide +kernel)) (by decide +kernel)
theorem wC_R_quotient : Jvm.Cond.code ({ cls := "SignedMillModel", name := "quotient", desc := "(IIII)V" } : Jvm.MethodName) prog_6_method_17_code (7 : Nat) (Option.none : Option Jvm.ClassFile.FieldType) ∈ lw_gd := lw_in (List.mem_of_getElem? (i := 669) (by decide +kernel)) (by decide +kernel)
theorem wL_R_41 : Jvm.Cond.methodLink "SignedMillModel" (41 : Nat) ({ cls := "SignedMillModel", name := "bitsOf", desc := "(I)I" } : Jvm.MethodName) ∈ lw_gd := lw_in (List.mem_of_getElem? (i := 670) (by decide +kernel)) (by decide +kernel)
theorem wI_R_bitsOf : Jvm.Cond.instanceMethod ({ cls := "SignedMillModel", name := "bitsOf", desc := "(I)I" } : Jvm.MethodName) ∈ lw_gd := lw_in (List.mem_of_getElem? (i := 672) (by decide +kernel)) (by decide +kernel)
theorem wC_R_bitsOf : Jvm.Cond.code ({ cls := "SignedMillModel", name := "bitsOf", desc := "(I)I" } : Jvm.MethodName) prog_6_method_12_code (4 : Nat) (Option.some Jvm.ClassFile.FieldType.int) ∈ lw_gd := lw_in (List.mem_of_getElem? (i := 673) (by decide +kernel)) (by decide +kernel)
theorem wL_R_44 : Jvm.Cond.methodLink "SignedMillModel" (44 : Nat) ({ cls := "SignedMillModel", name := "lower", desc := "(IIJ)V" } : Jvm.MethodName) ∈ lw_gd := lw_in (List.mem_of_getElem? (i := 674) (by decide +kernel)) (by decide +kernel)
theorem wI_R_lower : Jvm.Cond.instanceMethod ({ cls := "SignedMillModel", name := "lower", desc := "(IIJ)V" } : Jvm.MethodName) ∈ lw_gd := lw_in (List.mem_of_getElem? (i := 676) (by decide +kernel)) (by decide +kernel)
theorem wC_R_lower : Jvm.Cond.code ({ cls := "SignedMillModel", name := "lower", desc := "(IIJ)V" } : Jvm.MethodName) prog_6_method_15_code (10 : Nat) (Option.none : Option Jvm.ClassFile.FieldType) ∈ lw_gd := lw_in (List.mem_of_getElem? (i := 677) (by decide +kernel)) (by decide +kernel)
theorem wK_R_37 : Jvm.Cond.constantLong "SignedMillModel" (37 : Nat) (16 : Int64) ∈ lw_gd := lw_in (List.mem_of_getElem? (i := 678) (by decide +kernel)) (by decide +kernel)
theorem wK_R_39 : Jvm.Cond.constantLong "SignedMillModel" (39 : Nat) (8192 : Int64) ∈ lw_gd := lw_in (List.mem_of_getElem? (i := 679) (by decide +kernel)) (by decide +kernel)
theorem wL_R_48 : Jvm.Cond.methodLink "SignedMillModel" (48 : Nat) ({ cls := "SignedMillModel", name := "bitOf", desc := "(II)I" } : Jvm.MethodName) ∈ lw_gd := lw_in (List.mem_of_getElem? (i := 680) (by decide +kernel)) (by decide +kernel)
theorem wI_R_bitOf : Jvm.Cond.instanceMethod ({ cls := "SignedMillModel", name := "bitOf", desc := "(II)I" } : Jvm.MethodName) ∈ lw_gd := lw_in (List.mem_of_getElem? (i := 682) (by decide +kernel)) (by decide +kernel)
theorem wC_R_bitOf : Jvm.Cond.code ({ cls := "SignedMillModel", name := "bitOf", desc := "(II)I" } : Jvm.MethodName) prog_6_method_13_code (3 : Nat) (Option.some Jvm.ClassFile.FieldType.int) ∈ lw_gd := lw_in (List.mem_of_getElem? (i := 683) (by decide +kernel)) (by decide +kernel)
theorem wL_R_51 : Jvm.Cond.methodLink "SignedMillModel" (51 : Nat) ({ cls := "SignedMillModel", name := "twice", desc := "(II)V" } : Jvm.MethodName) ∈ lw_gd := lw_in (List.mem_of_getElem? (i := 684) (by decide +kernel)) (by decide +kernel)
theorem wI_R_twice : Jvm.Cond.instanceMethod ({ cls := "SignedMillModel", name := "twice", desc := "(II)V" } : Jvm.MethodName) ∈ lw_gd := lw_in (List.mem_of_getElem? (i := 686) (by decide +kernel)) (by decide +kernel)
theorem wC_R_twice : Jvm.Cond.code ({ cls := "SignedMillModel", name := "twice", desc := "(II)V" } : Jvm.MethodName) prog_6_method_14_code (6 : Nat) (Option.none : Option Jvm.ClassFile.FieldType) ∈ lw_gd := lw_in (List.mem_of_getElem? (i := 687) (by decide +kernel)) (by decide +kernel)
theorem wL_L_56 : Jvm.Cond.methodLink "SignedMillLaw" (56 : Nat) ({ cls := "SignedMillModel", name := "logic", desc := "(IIII)Z" } : Jvm.MethodName) ∈ lw_gd := lw_in (List.mem_of_getElem? (i := 688) (by decide +kernel)) (by decide +kernel)
theorem wI_R_logic : Jvm.Cond.instanceMethod ({ cls := "SignedMillModel", name := "logic", desc := "(IIII)Z" } : Jvm.MethodName) ∈ lw_gd := lw_in (List.mem_of_getElem? (i := 689) (by decide +kernel)) (by decide +kernel)
theorem wS_R_logic : Jvm.Cond.selects "SignedMillModel" ({ cls := "SignedMillModel", name := "logic", desc := "(IIII)Z" } : Jvm.MethodName) ({ cls := "SignedMillModel", name := "logic", desc := "(IIII)Z" } : Jvm.MethodName) ∈ lw_gd := lw_in (List.mem_of_getElem? (i := 690) (by decide +kernel)) (by decide +kernel)
theorem wC_R_logic : Jvm.Cond.code ({ cls := "SignedMillModel", name := "logic", desc := "(IIII)Z" } : Jvm.MethodName) prog_6_method_33_code (13 : Nat) (Option.some Jvm.ClassFile.FieldType.boolean) ∈ lw_gd := lw_in (List.mem_of_getElem? (i := 691) (by decide +kernel)) (by decide +kernel)
theorem wL_R_93 : Jvm.Cond.methodLink "SignedMillModel" (93 : Nat) ({ cls := "SignedMillModel", name := "lowestDigit", desc := "(I)I" } : Jvm.MethodName) ∈ lw_gd := lw_in (List.mem_of_getElem? (i := 692) (by decide +kernel)) (by decide +kernel)
theorem wI_R_lowestDigit : Jvm.Cond.instanceMethod ({ cls := "SignedMillModel", name := "lowestDigit", desc := "(I)I" } : Jvm.MethodName) ∈ lw_gd := lw_in (List.mem_of_getElem? (i := 694) (by decide +kernel)) (by decide +kernel)
theorem wC_R_lowestDigit : Jvm.Cond.code ({ cls := "SignedMillModel", name := "lowestDigit", desc := "(I)I" } : Jvm.MethodName) prog_6_method_31_code (3 : Nat) (Option.some Jvm.ClassFile.FieldType.int) ∈ lw_gd := lw_in (List.mem_of_getElem? (i := 695) (by decide +kernel)) (by decide +kernel)
theorem wL_R_96 : Jvm.Cond.methodLink "SignedMillModel" (96 : Nat) ({ cls := "SignedMillModel", name := "joined", desc := "(III)I" } : Jvm.MethodName) ∈ lw_gd := lw_in (List.mem_of_getElem? (i := 696) (by decide +kernel)) (by decide +kernel)
theorem wT_R_joined : Jvm.Cond.static ({ cls := "SignedMillModel", name := "joined", desc := "(III)I" } : Jvm.MethodName) ∈ lw_gd := lw_in (List.mem_of_getElem? (i := 697) (by decide +kernel)) (by decide +kernel)
theorem wC_R_joined : Jvm.Cond.code ({ cls := "SignedMillModel", name := "joined", desc := "(III)I" } : Jvm.MethodName) prog_6_method_32_code (3 : Nat) (Option.some Jvm.ClassFile.FieldType.int) ∈ lw_gd := lw_in (List.mem_of_getElem? (i := 698) (by decide +kernel)) (by decide +kernel)
theorem wL_R_100 : Jvm.Cond.methodLink "SignedMillModel" (100 : Nat) ({ cls := "SignedMillModel", name := "bitsDigit", desc := "(III)I" } : Jvm.MethodName) ∈ lw_gd := lw_in (List.mem_of_getElem? (i := 699) (by decide +kernel)) (by decide +kernel)
theorem wI_R_bitsDigit : Jvm.Cond.instanceMethod ({ cls := "SignedMillModel", name := "bitsDigit", desc := "(III)I" } : Jvm.MethodName) ∈ lw_gd := lw_in (List.mem_of_getElem? (i := 701) (by decide +kernel)) (by decide +kernel)
theorem wC_R_bitsDigit : Jvm.Cond.code ({ cls := "SignedMillModel", name := "bitsDigit", desc := "(III)I" } : Jvm.MethodName) prog_6_method_30_code (5 : Nat) (Option.some Jvm.ClassFile.FieldType.int) ∈ lw_gd := lw_in (List.mem_of_getElem? (i := 702) (by decide +kernel)) (by decide +kernel)
theorem wL_L_60 : Jvm.Cond.methodLink "SignedMillLaw" (60 : Nat) ({ cls := "SignedMillModel", name := "shift", desc := "(III)Z" } : Jvm.MethodName) ∈ lw_gd := lw_in (List.mem_of_getElem? (i := 703) (by decide +kernel)) (by decide +kernel)
theorem wI_R_shift : Jvm.Cond.instanceMethod ({ cls := "SignedMillModel", name := "shift", desc := "(III)Z" } : Jvm.MethodName) ∈ lw_gd := lw_in (List.mem_of_getElem? (i := 704) (by decide +kernel)) (by decide +kernel)
theorem wS_R_shift : Jvm.Cond.selects "SignedMillModel" ({ cls := "SignedMillModel", name := "shift", desc := "(III)Z" } : Jvm.MethodName) ({ cls := "SignedMillModel", name := "shift", desc := "(III)Z" } : Jvm.MethodName) ∈ lw_gd := lw_in (List.mem_of_getElem? (i := 705) (by decide +kernel)) (by decide +kernel)
theorem wC_R_shift : Jvm.Cond.code ({ cls := "SignedMillModel", name := "shift", desc := "(III)Z" } : Jvm.MethodName) prog_6_method_34_code (9 : Nat) (Option.some Jvm.ClassFile.FieldType.boolean) ∈ lw_gd := lw_in (List.mem_of_getElem? (i := 706) (by decide +kernel)) (by decide +kernel)
theorem wK_R_103 : Jvm.Cond.constantLong "SignedMillModel" (103 : Nat) (65536 : Int64) ∈ lw_gd := lw_in (List.mem_of_getElem? (i := 707) (by decide +kernel)) (by decide +kernel)
theorem wL_R_105 : Jvm.Cond.methodLink "SignedMillModel" (105 : Nat) ({ cls := "SignedMillModel", name := "raise", desc := "(III)V" } : Jvm.MethodName) ∈ lw_gd := lw_in (List.mem_of_getElem? (i := 708) (by decide +kernel)) (by decide +kernel)
theorem wI_R_raise : Jvm.Cond.instanceMethod ({ cls := "SignedMillModel", name := "raise", desc := "(III)V" } : Jvm.MethodName) ∈ lw_gd := lw_in (List.mem_of_getElem? (i := 710) (by decide +kernel)) (by decide +kernel)
theorem wC_R_raise : Jvm.Cond.code ({ cls := "SignedMillModel", name := "raise", desc := "(III)V" } : Jvm.MethodName) prog_6_method_16_code (10 : Nat) (Option.none : Option Jvm.ClassFile.FieldType) ∈ lw_gd := lw_in (List.mem_of_getElem? (i := 711) (by decide +kernel)) (by decide +kernel)
theorem wL_L_64 : Jvm.Cond.methodLink "SignedMillLaw" (64 : Nat) ({ cls := "SignedMillModel", name := "change", desc := "(IIII)Z" } : Jvm.MethodName) ∈ lw_gd := lw_in (List.mem_of_getElem? (i := 712) (by decide +kernel)) (by decide +kernel)
theorem wI_R_change : Jvm.Cond.instanceMethod ({ cls := "SignedMillModel", name := "change", desc := "(IIII)Z" } : Jvm.MethodName) ∈ lw_gd := lw_in (List.mem_of_getElem? (i := 713) (by decide +kernel)) (by decide +kernel)
theorem wS_R_change : Jvm.Cond.selects "SignedMillModel" ({ cls := "SignedMillModel", name := "change", desc := "(IIII)Z" } : Jvm.MethodName) ({ cls := "SignedMillModel", name := "change", desc := "(IIII)Z" } : Jvm.MethodName) ∈ lw_gd := lw_in (List.mem_of_getElem? (i := 714) (by decide +kernel)) (by decide +kernel)
theorem wC_R_change : Jvm.Cond.code ({ cls := "SignedMillModel", name := "change", desc := "(IIII)Z" } : Jvm.MethodName) prog_6_method_36_code (7 : Nat) (Option.some Jvm.ClassFile.FieldType.boolean) ∈ lw_gd := lw_in (List.mem_of_getElem? (i := 715) (by decide +kernel)) (by decide +kernel)
theorem wL_R_108 : Jvm.Cond.methodLink "SignedMillModel" (108 : Nat) ({ cls := "SignedMillModel", name := "bitAt", desc := "(II)I" } : Jvm.MethodName) ∈ lw_gd := lw_in (List.mem_of_getElem? (i := 716) (by decide +kernel)) (by decide +kernel)
theorem wI_R_bitAt : Jvm.Cond.instanceMethod ({ cls := "SignedMillModel", name := "bitAt", desc := "(II)I" } : Jvm.MethodName) ∈ lw_gd := lw_in (List.mem_of_getElem? (i := 718) (by decide +kernel)) (by decide +kernel)
theorem wC_R_bitAt : Jvm.Cond.code ({ cls := "SignedMillModel", name := "bitAt", desc := "(II)I" } : Jvm.MethodName) prog_6_method_35_code (3 : Nat) (Option.some Jvm.ClassFile.FieldType.int) ∈ lw_gd := lw_in (List.mem_of_getElem? (i := 719) (by decide +kernel)) (by decide +kernel)
theorem wL_L_68 : Jvm.Cond.methodLink "SignedMillLaw" (68 : Nat) ({ cls := "SignedMillModel", name := "power", desc := "(III)Z" } : Jvm.MethodName) ∈ lw_gd := lw_in (List.mem_of_getElem? (i := 720) (by decide +kernel)) (by decide +kernel)
theorem wI_R_power : Jvm.Cond.instanceMethod ({ cls := "SignedMillModel", name := "power", desc := "(III)Z" } : Jvm.MethodName) ∈ lw_gd := lw_in (List.mem_of_getElem? (i := 721) (by decide +kernel)) (by decide +kernel)
theorem wS_R_power : Jvm.Cond.selects "SignedMillModel" ({ cls := "SignedMillModel", name := "power", desc := "(III)Z" } : Jvm.MethodName) ({ cls := "SignedMillModel", name := "power", desc := "(III)Z" } : Jvm.MethodName) ∈ lw_gd := lw_in (List.mem_of_getElem? (i := 722) (by decide +kernel)) (by decide +kernel)
theorem wC_R_power : Jvm.Cond.code ({ cls := "SignedMillModel", name := "power", desc := "(III)Z" } : Jvm.MethodName) prog_6_method_37_code (8 : Nat) (Option.some Jvm.ClassFile.FieldType.boolean) ∈ lw_gd := lw_in (List.mem_of_getElem? (i := 723) (by decide +kernel)) (by decide +kernel)
theorem wL_L_72 : Jvm.Cond.methodLink "SignedMillLaw" (72 : Nat) ({ cls := "SignedMillModel", name := "common", desc := "(III)Z" } : Jvm.MethodName) ∈ lw_gd := lw_in (List.mem_of_getElem? (i := 724) (by decide +kernel)) (by decide +kernel)
theorem wI_R_common : Jvm.Cond.instanceMethod ({ cls := "SignedMillModel", name := "common", desc := "(III)Z" } : Jvm.MethodName) ∈ lw_gd := lw_in (List.mem_of_getElem? (i := 725) (by decide +kernel)) (by decide +kernel)
theorem wS_R_common : Jvm.Cond.selects "SignedMillModel" ({ cls := "SignedMillModel", name := "common", desc := "(III)Z" } : Jvm.MethodName) ({ cls := "SignedMillModel", name := "common", desc := "(III)Z" } : Jvm.MethodName) ∈ lw_gd := lw_in (List.mem_of_getElem? (i := 726) (by decide +kernel)) (by decide +kernel)
theorem wC_R_common : Jvm.Cond.code ({ cls := "SignedMillModel", name := "common", desc := "(III)Z" } : Jvm.MethodName) prog_6_method_38_code (4 : Nat) (Option.some Jvm.ClassFile.FieldType.boolean) ∈ lw_gd := lw_in (List.mem_of_getElem? (i := 727) (by decide +kernel)) (by decide +kernel)
theorem wL_L_76 : Jvm.Cond.methodLink "SignedMillLaw" (76 : Nat) ({ cls := "SignedMillModel", name := "inverse", desc := "(III)Z" } : Jvm.MethodName) ∈ lw_gd := lw_in (List.mem_of_getElem? (i := 728) (by decide +kernel)) (by decide +kernel)
theorem wI_R_inverse : Jvm.Cond.instanceMethod ({ cls := "SignedMillModel", name := "inverse", desc := "(III)Z" } : Jvm.MethodName) ∈ lw_gd := lw_in (List.mem_of_getElem? (i := 729) (by decide +kernel)) (by decide +kernel)
theorem wS_R_inverse : Jvm.Cond.selects "SignedMillModel" ({ cls := "SignedMillModel", name := "inverse", desc := "(III)Z" } : Jvm.MethodName) ({ cls := "SignedMillModel", name := "inverse", desc := "(III)Z" } : Jvm.MethodName) ∈ lw_gd := lw_in (List.mem_of_getElem? (i := 730) (by decide +kernel)) (by decide +kernel)
theorem wC_R_inverse : Jvm.Cond.code ({ cls := "SignedMillModel", name := "inverse", desc := "(III)Z" } : Jvm.MethodName) prog_6_method_41_code (4 : Nat) (Option.some Jvm.ClassFile.FieldType.boolean) ∈ lw_gd := lw_in (List.mem_of_getElem? (i := 731) (by decide +kernel)) (by decide +kernel)
theorem wL_R_117 : Jvm.Cond.methodLink "SignedMillModel" (117 : Nat) ({ cls := "SignedMillModel", name := "inverted", desc := "(I)Z" } : Jvm.MethodName) ∈ lw_gd := lw_in (List.mem_of_getElem? (i := 732) (by decide +kernel)) (by decide +kernel)
theorem wI_R_inverted : Jvm.Cond.instanceMethod ({ cls := "SignedMillModel", name := "inverted", desc := "(I)Z" } : Jvm.MethodName) ∈ lw_gd := lw_in (List.mem_of_getElem? (i := 734) (by decide +kernel)) (by decide +kernel)
theorem wC_R_inverted : Jvm.Cond.code ({ cls := "SignedMillModel", name := "inverted", desc := "(I)Z" } : Jvm.MethodName) prog_6_method_39_code (5 : Nat) (Option.some Jvm.ClassFile.FieldType.boolean) ∈ lw_gd := lw_in (List.mem_of_getElem? (i := 735) (by decide +kernel)) (by decide +kernel)
theorem wL_R_111 : Jvm.Cond.methodLink "SignedMillModel" (111 : Nat) ({ cls := "SignedMillModel", name := "residue", desc := "(II)V" } : Jvm.MethodName) ∈ lw_gd := lw_in (List.mem_of_getElem? (i := 736) (by decide +kernel)) (by decide +kernel)
theorem wI_R_residue : Jvm.Cond.instanceMethod ({ cls := "SignedMillModel", name := "residue", desc := "(II)V" } : Jvm.MethodName) ∈ lw_gd := lw_in (List.mem_of_getElem? (i := 738) (by decide +kernel)) (by decide +kernel)
theorem wC_R_residue : Jvm.Cond.code ({ cls := "SignedMillModel", name := "residue", desc := "(II)V" } : Jvm.MethodName) prog_6_method_40_code (3 : Nat) (Option.none : Option Jvm.ClassFile.FieldType) ∈ lw_gd := lw_in (List.mem_of_getElem? (i := 739) (by decide +kernel)) (by decide +kernel)
theorem wL_R_114 : Jvm.Cond.methodLink "SignedMillModel" (114 : Nat) ({ cls := "SignedMillModel", name := "rest", desc := "(III)V" } : Jvm.MethodName) ∈ lw_gd := lw_in (List.mem_of_getElem? (i := 740) (by decide +kernel)) (by decide +kernel)
theorem wI_R_rest : Jvm.Cond.instanceMethod ({ cls := "SignedMillModel", name := "rest", desc := "(III)V" } : Jvm.MethodName) ∈ lw_gd := lw_in (List.mem_of_getElem? (i := 742) (by decide +kernel)) (by decide +kernel)
theorem wC_R_rest : Jvm.Cond.code ({ cls := "SignedMillModel", name := "rest", desc := "(III)V" } : Jvm.MethodName) prog_6_method_18_code (12 : Nat) (Option.none : Option Jvm.ClassFile.FieldType) ∈ lw_gd := lw_in (List.mem_of_getElem? (i := 743) (by decide +kernel)) (by decide +kernel)
theorem wL_R_61 : Jvm.Cond.methodLink "SignedMillModel" (61 : Nat) ({ cls := "SignedMillModel", name := "takeTimes", desc := "(IIJ)V" } : Jvm.MethodName) ∈ lw_gd := lw_in (List.mem_of_getElem? (i := 744) (by decide +kernel)) (by decide +kernel)
theorem wI_R_takeTimes : Jvm.Cond.instanceMethod ({ cls := "SignedMillModel", name := "takeTimes", desc := "(IIJ)V" } : Jvm.MethodName) ∈ lw_gd := lw_in (List.mem_of_getElem? (i := 746) (by decide +kernel)) (by decide +kernel)
theorem wC_R_takeTimes : Jvm.Cond.code ({ cls := "SignedMillModel", name := "takeTimes", desc := "(IIJ)V" } : Jvm.MethodName) prog_6_method_19_code (10 : Nat) (Option.none : Option Jvm.ClassFile.FieldType) ∈ lw_gd := lw_in (List.mem_of_getElem? (i := 747) (by decide +kernel)) (by decide +kernel)
theorem wL_L_80 : Jvm.Cond.methodLink "SignedMillLaw" (80 : Nat) ({ cls := "SignedMillModel", name := "modulo", desc := "(IIII)Z" } : Jvm.MethodName) ∈ lw_gd := lw_in (List.mem_of_getElem? (i := 748) (by decide +kernel)) (by decide +kernel)
theorem wI_R_modulo : Jvm.Cond.instanceMethod ({ cls := "SignedMillModel", name := "modulo", desc := "(IIII)Z" } : Jvm.MethodName) ∈ lw_gd := lw_in (List.mem_of_getElem? (i := 749) (by decide +kernel)) (by decide +kernel)
theorem wS_R_modulo : Jvm.Cond.selects "SignedMillModel" ({ cls := "SignedMillModel", name := "modulo", desc := "(IIII)Z" } : Jvm.MethodName) ({ cls := "SignedMillModel", name := "modulo", desc := "(IIII)Z" } : Jvm.MethodName) ∈ lw_gd := lw_in (List.mem_of_getElem? (i := 750) (by decide +kernel)) (by decide +kernel)
theorem wC_R_modulo : Jvm.Cond.code ({ cls := "SignedMillModel", name := "modulo", desc := "(IIII)Z" } : Jvm.MethodName) prog_6_method_42_code (6 : Nat) (Option.some Jvm.ClassFile.FieldType.boolean) ∈ lw_gd := lw_in (List.mem_of_getElem? (i := 751) (by decide +kernel)) (by decide +kernel)
theorem wK_R_120 : Jvm.Cond.constantLong "SignedMillModel" (120 : Nat) (4294967296 : Int64) ∈ lw_gd := lw_in (List.mem_of_getElem? (i := 752) (by decide +kernel)) (by decide +kernel)
theorem wL_L_85 : Jvm.Cond.methodLink "SignedMillLaw" (85 : Nat) ({ cls := "SignedMillModel", name := "compare", desc := "(II)I" } : Jvm.MethodName) ∈ lw_gd := lw_in (List.mem_of_getElem? (i := 753) (by decide +kernel)) (by decide +kernel)
theorem wI_R_compare : Jvm.Cond.instanceMethod ({ cls := "SignedMillModel", name := "compare", desc := "(II)I" } : Jvm.MethodName) ∈ lw_gd := lw_in (List.mem_of_getElem? (i := 754) (by decide +kernel)) (by decide +kernel)
theorem wS_R_compare : Jvm.Cond.selects "SignedMillModel" ({ cls := "SignedMillModel", name := "compare", desc := "(II)I" } : Jvm.MethodName) ({ cls := "SignedMillModel", name := "compare", desc := "(II)I" } : Jvm.MethodName) ∈ lw_gd := lw_in (List.mem_of_getElem? (i := 755) (by decide +kernel)) (by decide +kernel)
theorem wC_R_compare : Jvm.Cond.code ({ cls := "SignedMillModel", name := "compare", desc := "(II)I" } : Jvm.MethodName) prog_6_method_43_code (3 : Nat) (Option.some Jvm.ClassFile.FieldType.int) ∈ lw_gd := lw_in (List.mem_of_getElem? (i := 756) (by decide +kernel)) (by decide +kernel)
theorem wL_L_90 : Jvm.Cond.methodLink "SignedMillLaw" (90 : Nat) ({ cls := "SignedMillModel", name := "sign", desc := "(I)I" } : Jvm.MethodName) ∈ lw_gd := lw_in (List.mem_of_getElem? (i := 757) (by decide +kernel)) (by decide +kernel)
theorem wI_R_sign : Jvm.Cond.instanceMethod ({ cls := "SignedMillModel", name := "sign", desc := "(I)I" } : Jvm.MethodName) ∈ lw_gd := lw_in (List.mem_of_getElem? (i := 758) (by decide +kernel)) (by decide +kernel)
theorem wS_R_sign : Jvm.Cond.selects "SignedMillModel" ({ cls := "SignedMillModel", name := "sign", desc := "(I)I" } : Jvm.MethodName) ({ cls := "SignedMillModel", name := "sign", desc := "(I)I" } : Jvm.MethodName) ∈ lw_gd := lw_in (List.mem_of_getElem? (i := 759) (by decide +kernel)) (by decide +kernel)
theorem wC_R_sign : Jvm.Cond.code ({ cls := "SignedMillModel", name := "sign", desc := "(I)I" } : Jvm.MethodName) prog_6_method_44_code (2 : Nat) (Option.some Jvm.ClassFile.FieldType.int) ∈ lw_gd := lw_in (List.mem_of_getElem? (i := 760) (by decide +kernel)) (by decide +kernel)
theorem wL_L_94 : Jvm.Cond.methodLink "SignedMillLaw" (94 : Nat) ({ cls := "SignedMillModel", name := "length", desc := "(I)I" } : Jvm.MethodName) ∈ lw_gd := lw_in (List.mem_of_getElem? (i := 761) (by decide +kernel)) (by decide +kernel)
theorem wI_R_length : Jvm.Cond.instanceMethod ({ cls := "SignedMillModel", name := "length", desc := "(I)I" } : Jvm.MethodName) ∈ lw_gd := lw_in (List.mem_of_getElem? (i := 762) (by decide +kernel)) (by decide +kernel)
theorem wS_R_length : Jvm.Cond.selects "SignedMillModel" ({ cls := "SignedMillModel", name := "length", desc := "(I)I" } : Jvm.MethodName) ({ cls := "SignedMillModel", name := "length", desc := "(I)I" } : Jvm.MethodName) ∈ lw_gd := lw_in (List.mem_of_getElem? (i := 763) (by decide +kernel)) (by decide +kernel)
theorem wC_R_length : Jvm.Cond.code ({ cls := "SignedMillModel", name := "length", desc := "(I)I" } : Jvm.MethodName) prog_6_method_45_code (4 : Nat) (Option.some Jvm.ClassFile.FieldType.int) ∈ lw_gd := lw_in (List.mem_of_getElem? (i := 764) (by decide +kernel)) (by decide +kernel)
theorem wL_L_98 : Jvm.Cond.methodLink "SignedMillLaw" (98 : Nat) ({ cls := "SignedMillModel", name := "ones", desc := "(I)I" } : Jvm.MethodName) ∈ lw_gd := lw_in (List.mem_of_getElem? (i := 765) (by decide +kernel)) (by decide +kernel)
theorem wI_R_ones : Jvm.Cond.instanceMethod ({ cls := "SignedMillModel", name := "ones", desc := "(I)I" } : Jvm.MethodName) ∈ lw_gd := lw_in (List.mem_of_getElem? (i := 766) (by decide +kernel)) (by decide +kernel)
theorem wS_R_ones : Jvm.Cond.selects "SignedMillModel" ({ cls := "SignedMillModel", name := "ones", desc := "(I)I" } : Jvm.MethodName) ({ cls := "SignedMillModel", name := "ones", desc := "(I)I" } : Jvm.MethodName) ∈ lw_gd := lw_in (List.mem_of_getElem? (i := 767) (by decide +kernel)) (by decide +kernel)
theorem wC_R_ones : Jvm.Cond.code ({ cls := "SignedMillModel", name := "ones", desc := "(I)I" } : Jvm.MethodName) prog_6_method_46_code (8 : Nat) (Option.some Jvm.ClassFile.FieldType.int) ∈ lw_gd := lw_in (List.mem_of_getElem? (i := 768) (by decide +kernel)) (by decide +kernel)
theorem wL_L_102 : Jvm.Cond.methodLink "SignedMillLaw" (102 : Nat) ({ cls := "SignedMillModel", name := "lowest", desc := "(I)I" } : Jvm.MethodName) ∈ lw_gd := lw_in (List.mem_of_getElem? (i := 769) (by decide +kernel)) (by decide +kernel)
theorem wI_R_lowest : Jvm.Cond.instanceMethod ({ cls := "SignedMillModel", name := "lowest", desc := "(I)I" } : Jvm.MethodName) ∈ lw_gd := lw_in (List.mem_of_getElem? (i := 770) (by decide +kernel)) (by decide +kernel)
theorem wS_R_lowest : Jvm.Cond.selects "SignedMillModel" ({ cls := "SignedMillModel", name := "lowest", desc := "(I)I" } : Jvm.MethodName) ({ cls := "SignedMillModel", name := "lowest", desc := "(I)I" } : Jvm.MethodName) ∈ lw_gd := lw_in (List.mem_of_getElem? (i := 771) (by decide +kernel)) (by decide +kernel)
theorem wC_R_lowest : Jvm.Cond.code ({ cls := "SignedMillModel", name := "lowest", desc := "(I)I" } : Jvm.MethodName) prog_6_method_47_code (3 : Nat) (Option.some Jvm.ClassFile.FieldType.int) ∈ lw_gd := lw_in (List.mem_of_getElem? (i := 772) (by decide +kernel)) (by decide +kernel)
theorem wL_L_106 : Jvm.Cond.methodLink "SignedMillLaw" (106 : Nat) ({ cls := "SignedMillModel", name := "word", desc := "(II)I" } : Jvm.MethodName) ∈ lw_gd := lw_in (List.mem_of_getElem? (i := 773) (by decide +kernel)) (by decide +kernel)
theorem wI_R_word : Jvm.Cond.instanceMethod ({ cls := "SignedMillModel", name := "word", desc := "(II)I" } : Jvm.MethodName) ∈ lw_gd := lw_in (List.mem_of_getElem? (i := 774) (by decide +kernel)) (by decide +kernel)
theorem wS_R_word : Jvm.Cond.selects "SignedMillModel" ({ cls := "SignedMillModel", name := "word", desc := "(II)I" } : Jvm.MethodName) ({ cls := "SignedMillModel", name := "word", desc := "(II)I" } : Jvm.MethodName) ∈ lw_gd := lw_in (List.mem_of_getElem? (i := 775) (by decide +kernel)) (by decide +kernel)
theorem wC_R_word : Jvm.Cond.code ({ cls := "SignedMillModel", name := "word", desc := "(II)I" } : Jvm.MethodName) prog_6_method_48_code (4 : Nat) (Option.some Jvm.ClassFile.FieldType.int) ∈ lw_gd := lw_in (List.mem_of_getElem? (i := 776) (by decide +kernel)) (by decide +kernel)
theorem wK_L_13 : Jvm.Cond.constantLong "SignedMillLaw" (13 : Nat) (4294967295 : Int64) ∈ lw_gd := lw_in (List.mem_of_getElem? (i := 777) (by decide +kernel)) (by decide +kernel)
theorem wS_M_keep : Jvm.Cond.selects "SignedMill" ⟨"SignedMill", "keep", "(IZ)Z"⟩ ⟨"SignedMill", "keep", "(IZ)Z"⟩ ∈ lw_gd := lw_in (List.mem_of_getElem? (i := 0) (by decide +kernel)) (by decide +kernel)
theorem wS_M_settle : Jvm.Cond.selects "SignedMill" ⟨"SignedMill", "settle", "(ILSignedMill$Whole;Z)V"⟩ ⟨"SignedMill", "settle", "(ILSignedMill$Whole;Z)V"⟩ ∈ lw_gd := lw_in (List.mem_of_getElem? (i := 1) (by decide +kernel)) (by decide +kernel)
theorem wS_M_keepSum : Jvm.Cond.selects "SignedMill" ⟨"SignedMill", "keepSum", "(IILSignedMill$Whole;Z)Z"⟩ ⟨"SignedMill", "keepSum", "(IILSignedMill$Whole;Z)Z"⟩ ∈ lw_gd := lw_in (List.mem_of_getElem? (i := 2) (by decide +kernel)) (by decide +kernel)
theorem wS_W_addMultiple : Jvm.Cond.selects "SignedMill$Whole" ⟨"SignedMill$Whole", "addMultiple", "(IJLSignedMill$Whole;)V"⟩ ⟨"SignedMill$Whole", "addMultiple", "(IJLSignedMill$Whole;)V"⟩ ∈ lw_gd := lw_in (List.mem_of_getElem? (i := 3) (by decide +kernel)) (by decide +kernel)
theorem wS_D_takeOut : Jvm.Cond.selects "SignedMill$Divider" ⟨"SignedMill$Divider", "takeOut", "(II)J"⟩ ⟨"SignedMill$Divider", "takeOut", "(II)J"⟩ ∈ lw_gd := lw_in (List.mem_of_getElem? (i := 4) (by decide +kernel)) (by decide +kernel)
theorem wS_D_guess : Jvm.Cond.selects "SignedMill$Divider" ⟨"SignedMill$Divider", "guess", "(II)J"⟩ ⟨"SignedMill$Divider", "guess", "(II)J"⟩ ∈ lw_gd := lw_in (List.mem_of_getElem? (i := 5) (by decide +kernel)) (by decide +kernel)
theorem wS_D_subtract : Jvm.Cond.selects "SignedMill$Divider" ⟨"SignedMill$Divider", "subtract", "(IIJ)Z"⟩ ⟨"SignedMill$Divider", "subtract", "(IIJ)Z"⟩ ∈ lw_gd := lw_in (List.mem_of_getElem? (i := 6) (by decide +kernel)) (by decide +kernel)
theorem wS_D_addBack : Jvm.Cond.selects "SignedMill$Divider" ⟨"SignedMill$Divider", "addBack", "(II)V"⟩ ⟨"SignedMill$Divider", "addBack", "(II)V"⟩ ∈ lw_gd := lw_in (List.mem_of_getElem? (i := 7) (by decide +kernel)) (by decide +kernel)
theorem wS_M_endlessDigit : Jvm.Cond.selects "SignedMill" ⟨"SignedMill", "endlessDigit", "(III)J"⟩ ⟨"SignedMill", "endlessDigit", "(III)J"⟩ ∈ lw_gd := lw_in (List.mem_of_getElem? (i := 8) (by decide +kernel)) (by decide +kernel)
theorem wS_M_shiftUp : Jvm.Cond.selects "SignedMill" ⟨"SignedMill", "shiftUp", "(III)Z"⟩ ⟨"SignedMill", "shiftUp", "(III)Z"⟩ ∈ lw_gd := lw_in (List.mem_of_getElem? (i := 9) (by decide +kernel)) (by decide +kernel)
theorem wS_M_shiftDown : Jvm.Cond.selects "SignedMill" ⟨"SignedMill", "shiftDown", "(III)Z"⟩ ⟨"SignedMill", "shiftDown", "(III)Z"⟩ ∈ lw_gd := lw_in (List.mem_of_getElem? (i := 10) (by decide +kernel)) (by decide +kernel)
theorem wS_M_findPower : Jvm.Cond.selects "SignedMill" ⟨"SignedMill", "findPower", "(LSignedMill$Whole;I)Z"⟩ ⟨"SignedMill", "findPower", "(LSignedMill$Whole;I)Z"⟩ ∈ lw_gd := lw_in (List.mem_of_getElem? (i := 11) (by decide +kernel)) (by decide +kernel)
theorem wS_M_multiplyResult : Jvm.Cond.selects "SignedMill" ⟨"SignedMill", "multiplyResult", "(LSignedMill$Whole;)Z"⟩ ⟨"SignedMill", "multiplyResult", "(LSignedMill$Whole;)Z"⟩ ∈ lw_gd := lw_in (List.mem_of_getElem? (i := 12) (by decide +kernel)) (by decide +kernel)
theorem wS_E_foresee : Jvm.Cond.selects "SignedMill$Euclid" ⟨"SignedMill$Euclid", "foresee", "()Z"⟩ ⟨"SignedMill$Euclid", "foresee", "()Z"⟩ ∈ lw_gd := lw_in (List.mem_of_getElem? (i := 13) (by decide +kernel)) (by decide +kernel)
theorem wS_E_turn : Jvm.Cond.selects "SignedMill$Euclid" ⟨"SignedMill$Euclid", "turn", "(J)Z"⟩ ⟨"SignedMill$Euclid", "turn", "(J)Z"⟩ ∈ lw_gd := lw_in (List.mem_of_getElem? (i := 14) (by decide +kernel)) (by decide +kernel)
theorem wS_E_leap : Jvm.Cond.selects "SignedMill$Euclid" ⟨"SignedMill$Euclid", "leap", "(Z)V"⟩ ⟨"SignedMill$Euclid", "leap", "(Z)V"⟩ ∈ lw_gd := lw_in (List.mem_of_getElem? (i := 15) (by decide +kernel)) (by decide +kernel)
theorem wS_E_leapRemainders : Jvm.Cond.selects "SignedMill$Euclid" ⟨"SignedMill$Euclid", "leapRemainders", "()V"⟩ ⟨"SignedMill$Euclid", "leapRemainders", "()V"⟩ ∈ lw_gd := lw_in (List.mem_of_getElem? (i := 16) (by decide +kernel)) (by decide +kernel)
theorem wS_E_leapFactors : Jvm.Cond.selects "SignedMill$Euclid" ⟨"SignedMill$Euclid", "leapFactors", "()V"⟩ ⟨"SignedMill$Euclid", "leapFactors", "()V"⟩ ∈ lw_gd := lw_in (List.mem_of_getElem? (i := 17) (by decide +kernel)) (by decide +kernel)
theorem wS_E_step : Jvm.Cond.selects "SignedMill$Euclid" ⟨"SignedMill$Euclid", "step", "(Z)V"⟩ ⟨"SignedMill$Euclid", "step", "(Z)V"⟩ ∈ lw_gd := lw_in (List.mem_of_getElem? (i := 18) (by decide +kernel)) (by decide +kernel)
theorem wS_M_isModulus : Jvm.Cond.selects "SignedMill" ⟨"SignedMill", "isModulus", "(I)Z"⟩ ⟨"SignedMill", "isModulus", "(I)Z"⟩ ∈ lw_gd := lw_in (List.mem_of_getElem? (i := 19) (by decide +kernel)) (by decide +kernel)
theorem wS_M_findInverse : Jvm.Cond.selects "SignedMill" ⟨"SignedMill", "findInverse", "(II)Z"⟩ ⟨"SignedMill", "findInverse", "(II)Z"⟩ ∈ lw_gd := lw_in (List.mem_of_getElem? (i := 20) (by decide +kernel)) (by decide +kernel)
theorem wS_M_reduce : Jvm.Cond.selects "SignedMill" ⟨"SignedMill", "reduce", "(II)V"⟩ ⟨"SignedMill", "reduce", "(II)V"⟩ ∈ lw_gd := lw_in (List.mem_of_getElem? (i := 21) (by decide +kernel)) (by decide +kernel)
theorem wS_M_findPowerByModulus : Jvm.Cond.selects "SignedMill" ⟨"SignedMill", "findPowerByModulus", "(LSignedMill$Whole;LSignedMill$Whole;)V"⟩ ⟨"SignedMill", "findPowerByModulus", "(LSignedMill$Whole;LSignedMill$Whole;)V"⟩ ∈ lw_gd := lw_in (List.mem_of_getElem? (i := 22) (by decide +kernel)) (by decide +kernel)
theorem wS_M_multiplyByModulus : Jvm.Cond.selects "SignedMill" ⟨"SignedMill", "multiplyByModulus", "(LSignedMill$Whole;LSignedMill$Whole;)V"⟩ ⟨"SignedMill", "multiplyByModulus", "(LSignedMill$Whole;LSignedMill$Whole;)V"⟩ ∈ lw_gd := lw_in (List.mem_of_getElem? (i := 23) (by decide +kernel)) (by decide +kernel)
theorem wS_R_set : Jvm.Cond.selects "SignedMillModel" ⟨"SignedMillModel", "set", "(IJ)V"⟩ ⟨"SignedMillModel", "set", "(IJ)V"⟩ ∈ lw_gd := lw_in (List.mem_of_getElem? (i := 24) (by decide +kernel)) (by decide +kernel)
theorem wS_R_trim : Jvm.Cond.selects "SignedMillModel" ⟨"SignedMillModel", "trim", "(II)V"⟩ ⟨"SignedMillModel", "trim", "(II)V"⟩ ∈ lw_gd := lw_in (List.mem_of_getElem? (i := 25) (by decide +kernel)) (by decide +kernel)
theorem wS_R_store : Jvm.Cond.selects "SignedMillModel" ⟨"SignedMillModel", "store", "(IIZ)Z"⟩ ⟨"SignedMillModel", "store", "(IIZ)Z"⟩ ∈ lw_gd := lw_in (List.mem_of_getElem? (i := 26) (by decide +kernel)) (by decide +kernel)
theorem wS_R_move : Jvm.Cond.selects "SignedMillModel" ⟨"SignedMillModel", "move", "(II)V"⟩ ⟨"SignedMillModel", "move", "(II)V"⟩ ∈ lw_gd := lw_in (List.mem_of_getElem? (i := 27) (by decide +kernel)) (by decide +kernel)
theorem wS_R_added : Jvm.Cond.selects "SignedMillModel" ⟨"SignedMillModel", "added", "(IIZIZ)Z"⟩ ⟨"SignedMillModel", "added", "(IIZIZ)Z"⟩ ∈ lw_gd := lw_in (List.mem_of_getElem? (i := 28) (by decide +kernel)) (by decide +kernel)
theorem wS_R_compareRows : Jvm.Cond.selects "SignedMillModel" ⟨"SignedMillModel", "compareRows", "(II)I"⟩ ⟨"SignedMillModel", "compareRows", "(II)I"⟩ ∈ lw_gd := lw_in (List.mem_of_getElem? (i := 29) (by decide +kernel)) (by decide +kernel)
theorem wS_R_sum : Jvm.Cond.selects "SignedMillModel" ⟨"SignedMillModel", "sum", "(III)V"⟩ ⟨"SignedMillModel", "sum", "(III)V"⟩ ∈ lw_gd := lw_in (List.mem_of_getElem? (i := 30) (by decide +kernel)) (by decide +kernel)
theorem wS_R_digit : Jvm.Cond.selects "SignedMillModel" ⟨"SignedMillModel", "digit", "(II)I"⟩ ⟨"SignedMillModel", "digit", "(II)I"⟩ ∈ lw_gd := lw_in (List.mem_of_getElem? (i := 31) (by decide +kernel)) (by decide +kernel)
theorem wS_R_lessen : Jvm.Cond.selects "SignedMillModel" ⟨"SignedMillModel", "lessen", "(III)V"⟩ ⟨"SignedMillModel", "lessen", "(III)V"⟩ ∈ lw_gd := lw_in (List.mem_of_getElem? (i := 32) (by decide +kernel)) (by decide +kernel)
theorem wS_R_product : Jvm.Cond.selects "SignedMillModel" ⟨"SignedMillModel", "product", "(III)V"⟩ ⟨"SignedMillModel", "product", "(III)V"⟩ ∈ lw_gd := lw_in (List.mem_of_getElem? (i := 33) (by decide +kernel)) (by decide +kernel)
theorem wS_R_quotient : Jvm.Cond.selects "SignedMillModel" ⟨"SignedMillModel", "quotient", "(IIII)V"⟩ ⟨"SignedMillModel", "quotient", "(IIII)V"⟩ ∈ lw_gd := lw_in (List.mem_of_getElem? (i := 34) (by decide +kernel)) (by decide +kernel)
theorem wS_R_bitsOf : Jvm.Cond.selects "SignedMillModel" ⟨"SignedMillModel", "bitsOf", "(I)I"⟩ ⟨"SignedMillModel", "bitsOf", "(I)I"⟩ ∈ lw_gd := lw_in (List.mem_of_getElem? (i := 35) (by decide +kernel)) (by decide +kernel)
theorem wS_R_lower : Jvm.Cond.selects "SignedMillModel" ⟨"SignedMillModel", "lower", "(IIJ)V"⟩ ⟨"SignedMillModel", "lower", "(IIJ)V"⟩ ∈ lw_gd := lw_in (List.mem_of_getElem? (i := 36) (by decide +kernel)) (by decide +kernel)
theorem wS_R_bitOf : Jvm.Cond.selects "SignedMillModel" ⟨"SignedMillModel", "bitOf", "(II)I"⟩ ⟨"SignedMillModel", "bitOf", "(II)I"⟩ ∈ lw_gd := lw_in (List.mem_of_getElem? (i := 37) (by decide +kernel)) (by decide +kernel)
theorem wS_R_twice : Jvm.Cond.selects "SignedMillModel" ⟨"SignedMillModel", "twice", "(II)V"⟩ ⟨"SignedMillModel", "twice", "(II)V"⟩ ∈ lw_gd := lw_in (List.mem_of_getElem? (i := 38) (by decide +kernel)) (by decide +kernel)
theorem wS_R_lowestDigit : Jvm.Cond.selects "SignedMillModel" ⟨"SignedMillModel", "lowestDigit", "(I)I"⟩ ⟨"SignedMillModel", "lowestDigit", "(I)I"⟩ ∈ lw_gd := lw_in (List.mem_of_getElem? (i := 39) (by decide +kernel)) (by decide +kernel)
theorem wS_R_bitsDigit : Jvm.Cond.selects "SignedMillModel" ⟨"SignedMillModel", "bitsDigit", "(III)I"⟩ ⟨"SignedMillModel", "bitsDigit", "(III)I"⟩ ∈ lw_gd := lw_in (List.mem_of_getElem? (i := 40) (by decide +kernel)) (by decide +kernel)
theorem wS_R_raise : Jvm.Cond.selects "SignedMillModel" ⟨"SignedMillModel", "raise", "(III)V"⟩ ⟨"SignedMillModel", "raise", "(III)V"⟩ ∈ lw_gd := lw_in (List.mem_of_getElem? (i := 41) (by decide +kernel)) (by decide +kernel)
theorem wS_R_bitAt : Jvm.Cond.selects "SignedMillModel" ⟨"SignedMillModel", "bitAt", "(II)I"⟩ ⟨"SignedMillModel", "bitAt", "(II)I"⟩ ∈ lw_gd := lw_in (List.mem_of_getElem? (i := 42) (by decide +kernel)) (by decide +kernel)
theorem wS_R_inverted : Jvm.Cond.selects "SignedMillModel" ⟨"SignedMillModel", "inverted", "(I)Z"⟩ ⟨"SignedMillModel", "inverted", "(I)Z"⟩ ∈ lw_gd := lw_in (List.mem_of_getElem? (i := 43) (by decide +kernel)) (by decide +kernel)
theorem wS_R_residue : Jvm.Cond.selects "SignedMillModel" ⟨"SignedMillModel", "residue", "(II)V"⟩ ⟨"SignedMillModel", "residue", "(II)V"⟩ ∈ lw_gd := lw_in (List.mem_of_getElem? (i := 44) (by decide +kernel)) (by decide +kernel)
theorem wS_R_rest : Jvm.Cond.selects "SignedMillModel" ⟨"SignedMillModel", "rest", "(III)V"⟩ ⟨"SignedMillModel", "rest", "(III)V"⟩ ∈ lw_gd := lw_in (List.mem_of_getElem? (i := 45) (by decide +kernel)) (by decide +kernel)
theorem wS_R_takeTimes : Jvm.Cond.selects "SignedMillModel" ⟨"SignedMillModel", "takeTimes", "(IIJ)V"⟩ ⟨"SignedMillModel", "takeTimes", "(IIJ)V"⟩ ∈ lw_gd := lw_in (List.mem_of_getElem? (i := 46) (by decide +kernel)) (by decide +kernel)
end
section
theorem dc_W_init_0 : decode bc_W_init 0 = .ok (.aload_n 0, 1) := by decide +kernel
theorem dc_W_init_1 : decode bc_W_init 1 = .ok (.invokespecial 3, 3) := by decide +kernel
theorem dc_W_init_4 : decode bc_W_init 4 = .ok (.aload_n 0, 1) := by decide +kernel
theorem dc_W_init_5 : decode bc_W_init 5 = .ok (.iconst 4, 1) := by decide +kernel
theorem dc_W_init_6 : decode bc_W_init 6 = .ok (.newarray .long, 2) := by decide +kernel
theorem dc_W_init_8 : decode bc_W_init 8 = .ok (.putfield 11, 3) := by decide +kernel
theorem dc_W_init_11 : decode bc_W_init 11 = .ok (.aload_n 0, 1) := by decide +kernel
theorem dc_W_init_12 : decode bc_W_init 12 = .ok (.iconst 0, 1) := by decide +kernel
theorem dc_W_init_13 : decode bc_W_init 13 = .ok (.putfield 15, 3) := by decide +kernel
theorem dc_W_init_16 : decode bc_W_init 16 = .ok (.return_, 1) := by decide +kernel
theorem dc_W_load_0 : decode bc_W_load 0 = .ok (.aload_n 0, 1) := by decide +kernel
theorem dc_W_load_1 : decode bc_W_load 1 = .ok (.getfield 11, 3) := by decide +kernel
theorem dc_W_load_4 : decode bc_W_load 4 = .ok (.iconst 0, 1) := by decide +kernel
theorem dc_W_load_5 : decode bc_W_load 5 = .ok (.lload_n 1, 1) := by decide +kernel
theorem dc_W_load_6 : decode bc_W_load 6 = .ok (.ldc2_w 35, 3) := by decide +kernel
theorem dc_W_load_9 : decode bc_W_load 9 = .ok (.land, 1) := by decide +kernel
theorem dc_W_load_10 : decode bc_W_load 10 = .ok (.lastore, 1) := by decide +kernel
theorem dc_W_load_11 : decode bc_W_load 11 = .ok (.aload_n 0, 1) := by decide +kernel
theorem dc_W_load_12 : decode bc_W_load 12 = .ok (.getfield 11, 3) := by decide +kernel
theorem dc_W_load_15 : decode bc_W_load 15 = .ok (.iconst 1, 1) := by decide +kernel
theorem dc_W_load_16 : decode bc_W_load 16 = .ok (.lload_n 1, 1) := by decide +kernel
theorem dc_W_load_17 : decode bc_W_load 17 = .ok (.bipush 32, 2) := by decide +kernel
theorem dc_W_load_19 : decode bc_W_load 19 = .ok (.lushr, 1) := by decide +kernel
theorem dc_W_load_20 : decode bc_W_load 20 = .ok (.lastore, 1) := by decide +kernel
theorem dc_W_load_21 : decode bc_W_load 21 = .ok (.aload_n 0, 1) := by decide +kernel
theorem dc_W_load_22 : decode bc_W_load 22 = .ok (.iconst 2, 1) := by decide +kernel
theorem dc_W_load_23 : decode bc_W_load 23 = .ok (.invokevirtual 37, 3) := by decide +kernel
theorem dc_W_load_26 : decode bc_W_load 26 = .ok (.return_, 1) := by decide +kernel
theorem dc_W_trim_0 : decode bc_W_trim 0 = .ok (.aload_n 0, 1) := by decide +kernel
theorem dc_W_trim_1 : decode bc_W_trim 1 = .ok (.iload_n 1, 1) := by decide +kernel
theorem dc_W_trim_2 : decode bc_W_trim 2 = .ok (.putfield 15, 3) := by decide +kernel
theorem dc_W_trim_5 : decode bc_W_trim 5 = .ok (.aload_n 0, 1) := by decide +kernel
theorem dc_W_trim_6 : decode bc_W_trim 6 = .ok (.getfield 15, 3) := by decide +kernel
theorem dc_W_trim_9 : decode bc_W_trim 9 = .ok (.ifCond .le 32, 3) := by decide +kernel
theorem dc_W_trim_12 : decode bc_W_trim 12 = .ok (.aload_n 0, 1) := by decide +kernel
theorem dc_W_trim_13 : decode bc_W_trim 13 = .ok (.getfield 11, 3) := by decide +kernel
theorem dc_W_trim_16 : decode bc_W_trim 16 = .ok (.aload_n 0, 1) := by decide +kernel
theorem dc_W_trim_17 : decode bc_W_trim 17 = .ok (.getfield 15, 3) := by decide +kernel
theorem dc_W_trim_20 : decode bc_W_trim 20 = .ok (.iconst 1, 1) := by decide +kernel
theorem dc_W_trim_21 : decode bc_W_trim 21 = .ok (.isub, 1) := by decide +kernel
theorem dc_W_trim_22 : decode bc_W_trim 22 = .ok (.laload, 1) := by decide +kernel
theorem dc_W_trim_23 : decode bc_W_trim 23 = .ok (.lconst 0, 1) := by decide +kernel
theorem dc_W_trim_24 : decode bc_W_trim 24 = .ok (.lcmp, 1) := by decide +kernel
theorem dc_W_trim_25 : decode bc_W_trim 25 = .ok (.ifCond .ne 16, 3) := by decide +kernel
theorem dc_W_trim_28 : decode bc_W_trim 28 = .ok (.aload_n 0, 1) := by decide +kernel
theorem dc_W_trim_29 : decode bc_W_trim 29 = .ok (.dup, 1) := by decide +kernel
theorem dc_W_trim_30 : decode bc_W_trim 30 = .ok (.getfield 15, 3) := by decide +kernel
theorem dc_W_trim_33 : decode bc_W_trim 33 = .ok (.iconst 1, 1) := by decide +kernel
theorem dc_W_trim_34 : decode bc_W_trim 34 = .ok (.isub, 1) := by decide +kernel
theorem dc_W_trim_35 : decode bc_W_trim 35 = .ok (.putfield 15, 3) := by decide +kernel
theorem dc_W_trim_38 : decode bc_W_trim 38 = .ok (.goto (-33), 3) := by decide +kernel
theorem dc_W_trim_41 : decode bc_W_trim 41 = .ok (.return_, 1) := by decide +kernel
theorem dc_W_bits_0 : decode bc_W_bits 0 = .ok (.aload_n 0, 1) := by decide +kernel
theorem dc_W_bits_1 : decode bc_W_bits 1 = .ok (.getfield 15, 3) := by decide +kernel
theorem dc_W_bits_4 : decode bc_W_bits 4 = .ok (.ifCond .ne 5, 3) := by decide +kernel
theorem dc_W_bits_7 : decode bc_W_bits 7 = .ok (.iconst 0, 1) := by decide +kernel
theorem dc_W_bits_8 : decode bc_W_bits 8 = .ok (.ireturn, 1) := by decide +kernel
theorem dc_W_bits_9 : decode bc_W_bits 9 = .ok (.bipush 32, 2) := by decide +kernel
theorem dc_W_bits_11 : decode bc_W_bits 11 = .ok (.aload_n 0, 1) := by decide +kernel
theorem dc_W_bits_12 : decode bc_W_bits 12 = .ok (.getfield 15, 3) := by decide +kernel
theorem dc_W_bits_15 : decode bc_W_bits 15 = .ok (.imul, 1) := by decide +kernel
theorem dc_W_bits_16 : decode bc_W_bits 16 = .ok (.bipush 32, 2) := by decide +kernel
theorem dc_W_bits_18 : decode bc_W_bits 18 = .ok (.iadd, 1) := by decide +kernel
theorem dc_W_bits_19 : decode bc_W_bits 19 = .ok (.aload_n 0, 1) := by decide +kernel
theorem dc_W_bits_20 : decode bc_W_bits 20 = .ok (.getfield 11, 3) := by decide +kernel
theorem dc_W_bits_23 : decode bc_W_bits 23 = .ok (.aload_n 0, 1) := by decide +kernel
theorem dc_W_bits_24 : decode bc_W_bits 24 = .ok (.getfield 15, 3) := by decide +kernel
theorem dc_W_bits_27 : decode bc_W_bits 27 = .ok (.iconst 1, 1) := by decide +kernel
theorem dc_W_bits_28 : decode bc_W_bits 28 = .ok (.isub, 1) := by decide +kernel
theorem dc_W_bits_29 : decode bc_W_bits 29 = .ok (.laload, 1) := by decide +kernel
theorem dc_W_bits_30 : decode bc_W_bits 30 = .ok (.invokestatic 50, 3) := by decide +kernel
theorem dc_W_bits_33 : decode bc_W_bits 33 = .ok (.isub, 1) := by decide +kernel
theorem dc_W_bits_34 : decode bc_W_bits 34 = .ok (.ireturn, 1) := by decide +kernel
theorem dc_W_copy_0 : decode bc_W_copy 0 = .ok (.aload_n 0, 1) := by decide +kernel
theorem dc_W_copy_1 : decode bc_W_copy 1 = .ok (.aload_n 1, 1) := by decide +kernel
theorem dc_W_copy_2 : decode bc_W_copy 2 = .ok (.getfield 15, 3) := by decide +kernel
theorem dc_W_copy_5 : decode bc_W_copy 5 = .ok (.invokevirtual 31, 3) := by decide +kernel
theorem dc_W_copy_8 : decode bc_W_copy 8 = .ok (.aload_n 1, 1) := by decide +kernel
theorem dc_W_copy_9 : decode bc_W_copy 9 = .ok (.getfield 11, 3) := by decide +kernel
theorem dc_W_copy_12 : decode bc_W_copy 12 = .ok (.iconst 0, 1) := by decide +kernel
theorem dc_W_copy_13 : decode bc_W_copy 13 = .ok (.aload_n 0, 1) := by decide +kernel
theorem dc_W_copy_14 : decode bc_W_copy 14 = .ok (.getfield 11, 3) := by decide +kernel
theorem dc_W_copy_17 : decode bc_W_copy 17 = .ok (.iconst 0, 1) := by decide +kernel
theorem dc_W_copy_18 : decode bc_W_copy 18 = .ok (.aload_n 1, 1) := by decide +kernel
theorem dc_W_copy_19 : decode bc_W_copy 19 = .ok (.getfield 15, 3) := by decide +kernel
theorem dc_W_copy_22 : decode bc_W_copy 22 = .ok (.invokestatic 40, 3) := by decide +kernel
theorem dc_W_copy_25 : decode bc_W_copy 25 = .ok (.aload_n 0, 1) := by decide +kernel
theorem dc_W_copy_26 : decode bc_W_copy 26 = .ok (.aload_n 1, 1) := by decide +kernel
theorem dc_W_copy_27 : decode bc_W_copy 27 = .ok (.getfield 15, 3) := by decide +kernel
theorem dc_W_copy_30 : decode bc_W_copy 30 = .ok (.putfield 15, 3) := by decide +kernel
theorem dc_W_copy_33 : decode bc_W_copy 33 = .ok (.return_, 1) := by decide +kernel
theorem dc_W_room_0 : decode bc_W_room 0 = .ok (.iload_n 1, 1) := by decide +kernel
theorem dc_W_room_1 : decode bc_W_room 1 = .ok (.aload_n 0, 1) := by decide +kernel
theorem dc_W_room_2 : decode bc_W_room 2 = .ok (.getfield 11, 3) := by decide +kernel
theorem dc_W_room_5 : decode bc_W_room 5 = .ok (.arraylength, 1) := by decide +kernel
theorem dc_W_room_6 : decode bc_W_room 6 = .ok (.if_icmp .le 25, 3) := by decide +kernel
theorem dc_W_room_9 : decode bc_W_room 9 = .ok (.aload_n 0, 1) := by decide +kernel
theorem dc_W_room_10 : decode bc_W_room 10 = .ok (.aload_n 0, 1) := by decide +kernel
theorem dc_W_room_11 : decode bc_W_room 11 = .ok (.getfield 11, 3) := by decide +kernel
theorem dc_W_room_14 : decode bc_W_room 14 = .ok (.iload_n 1, 1) := by decide +kernel
theorem dc_W_room_15 : decode bc_W_room 15 = .ok (.iconst 2, 1) := by decide +kernel
theorem dc_W_room_16 : decode bc_W_room 16 = .ok (.aload_n 0, 1) := by decide +kernel
theorem dc_W_room_17 : decode bc_W_room 17 = .ok (.getfield 11, 3) := by decide +kernel
theorem dc_W_room_20 : decode bc_W_room 20 = .ok (.arraylength, 1) := by decide +kernel
theorem dc_W_room_21 : decode bc_W_room 21 = .ok (.imul, 1) := by decide +kernel
theorem dc_W_room_22 : decode bc_W_room 22 = .ok (.invokestatic 19, 3) := by decide +kernel
theorem dc_W_room_25 : decode bc_W_room 25 = .ok (.invokestatic 25, 3) := by decide +kernel
theorem dc_W_room_28 : decode bc_W_room 28 = .ok (.putfield 11, 3) := by decide +kernel
theorem dc_W_room_31 : decode bc_W_room 31 = .ok (.return_, 1) := by decide +kernel
theorem dc_W_isZero_0 : decode bc_W_isZero 0 = .ok (.aload_n 0, 1) := by decide +kernel
theorem dc_W_isZero_1 : decode bc_W_isZero 1 = .ok (.getfield 15, 3) := by decide +kernel
theorem dc_W_isZero_4 : decode bc_W_isZero 4 = .ok (.ifCond .ne 7, 3) := by decide +kernel
theorem dc_W_isZero_7 : decode bc_W_isZero 7 = .ok (.iconst 1, 1) := by decide +kernel
theorem dc_W_isZero_8 : decode bc_W_isZero 8 = .ok (.goto 4, 3) := by decide +kernel
theorem dc_W_isZero_11 : decode bc_W_isZero 11 = .ok (.iconst 0, 1) := by decide +kernel
theorem dc_W_isZero_12 : decode bc_W_isZero 12 = .ok (.ireturn, 1) := by decide +kernel
theorem dc_W_raise_0 : decode bc_W_raise 0 = .ok (.iload_n 2, 1) := by decide +kernel
theorem dc_W_raise_1 : decode bc_W_raise 1 = .ok (.bipush 32, 2) := by decide +kernel
theorem dc_W_raise_3 : decode bc_W_raise 3 = .ok (.idiv, 1) := by decide +kernel
theorem dc_W_raise_4 : decode bc_W_raise 4 = .ok (.istore_n 3, 1) := by decide +kernel
theorem dc_W_raise_5 : decode bc_W_raise 5 = .ok (.iload_n 2, 1) := by decide +kernel
theorem dc_W_raise_6 : decode bc_W_raise 6 = .ok (.bipush 31, 2) := by decide +kernel
theorem dc_W_raise_8 : decode bc_W_raise 8 = .ok (.iand, 1) := by decide +kernel
theorem dc_W_raise_9 : decode bc_W_raise 9 = .ok (.istore 4, 2) := by decide +kernel
theorem dc_W_raise_11 : decode bc_W_raise 11 = .ok (.aload_n 1, 1) := by decide +kernel
theorem dc_W_raise_12 : decode bc_W_raise 12 = .ok (.getfield 15, 3) := by decide +kernel
theorem dc_W_raise_15 : decode bc_W_raise 15 = .ok (.istore 5, 2) := by decide +kernel
theorem dc_W_raise_17 : decode bc_W_raise 17 = .ok (.aload_n 0, 1) := by decide +kernel
theorem dc_W_raise_18 : decode bc_W_raise 18 = .ok (.iload 5, 2) := by decide +kernel
theorem dc_W_raise_20 : decode bc_W_raise 20 = .ok (.iload_n 3, 1) := by decide +kernel
theorem dc_W_raise_21 : decode bc_W_raise 21 = .ok (.iadd, 1) := by decide +kernel
theorem dc_W_raise_22 : decode bc_W_raise 22 = .ok (.iconst 1, 1) := by decide +kernel
theorem dc_W_raise_23 : decode bc_W_raise 23 = .ok (.iadd, 1) := by decide +kernel
theorem dc_W_raise_24 : decode bc_W_raise 24 = .ok (.invokevirtual 31, 3) := by decide +kernel
theorem dc_W_raise_27 : decode bc_W_raise 27 = .ok (.iload 5, 2) := by decide +kernel
theorem dc_W_raise_29 : decode bc_W_raise 29 = .ok (.istore 6, 2) := by decide +kernel
theorem dc_W_raise_31 : decode bc_W_raise 31 = .ok (.iload 6, 2) := by decide +kernel
theorem dc_W_raise_33 : decode bc_W_raise 33 = .ok (.ifCond .lt 76, 3) := by decide +kernel
theorem dc_W_raise_36 : decode bc_W_raise 36 = .ok (.iload 6, 2) := by decide +kernel
theorem dc_W_raise_38 : decode bc_W_raise 38 = .ok (.iload 5, 2) := by decide +kernel
theorem dc_W_raise_40 : decode bc_W_raise 40 = .ok (.if_icmp .ge 16, 3) := by decide +kernel
theorem dc_W_raise_43 : decode bc_W_raise 43 = .ok (.aload_n 1, 1) := by decide +kernel
theorem dc_W_raise_44 : decode bc_W_raise 44 = .ok (.getfield 11, 3) := by decide +kernel
theorem dc_W_raise_47 : decode bc_W_raise 47 = .ok (.iload 6, 2) := by decide +kernel
theorem dc_W_raise_49 : decode bc_W_raise 49 = .ok (.laload, 1) := by decide +kernel
theorem dc_W_raise_50 : decode bc_W_raise 50 = .ok (.iload 4, 2) := by decide +kernel
theorem dc_W_raise_52 : decode bc_W_raise 52 = .ok (.lshl, 1) := by decide +kernel
theorem dc_W_raise_53 : decode bc_W_raise 53 = .ok (.goto 4, 3) := by decide +kernel
theorem dc_W_raise_56 : decode bc_W_raise 56 = .ok (.lconst 0, 1) := by decide +kernel
theorem dc_W_raise_57 : decode bc_W_raise 57 = .ok (.lstore 7, 2) := by decide +kernel
theorem dc_W_raise_59 : decode bc_W_raise 59 = .ok (.iload 6, 2) := by decide +kernel
theorem dc_W_raise_61 : decode bc_W_raise 61 = .ok (.ifCond .le 21, 3) := by decide +kernel
theorem dc_W_raise_64 : decode bc_W_raise 64 = .ok (.aload_n 1, 1) := by decide +kernel
theorem dc_W_raise_65 : decode bc_W_raise 65 = .ok (.getfield 11, 3) := by decide +kernel
theorem dc_W_raise_68 : decode bc_W_raise 68 = .ok (.iload 6, 2) := by decide +kernel
theorem dc_W_raise_70 : decode bc_W_raise 70 = .ok (.iconst 1, 1) := by decide +kernel
theorem dc_W_raise_71 : decode bc_W_raise 71 = .ok (.isub, 1) := by decide +kernel
theorem dc_W_raise_72 : decode bc_W_raise 72 = .ok (.laload, 1) := by decide +kernel
theorem dc_W_raise_73 : decode bc_W_raise 73 = .ok (.bipush 32, 2) := by decide +kernel
theorem dc_W_raise_75 : decode bc_W_raise 75 = .ok (.iload 4, 2) := by decide +kernel
theorem dc_W_raise_77 : decode bc_W_raise 77 = .ok (.isub, 1) := by decide +kernel
theorem dc_W_raise_78 : decode bc_W_raise 78 = .ok (.lushr, 1) := by decide +kernel
theorem dc_W_raise_79 : decode bc_W_raise 79 = .ok (.goto 4, 3) := by decide +kernel
theorem dc_W_raise_82 : decode bc_W_raise 82 = .ok (.lconst 0, 1) := by decide +kernel
theorem dc_W_raise_83 : decode bc_W_raise 83 = .ok (.lstore 9, 2) := by decide +kernel
theorem dc_W_raise_85 : decode bc_W_raise 85 = .ok (.aload_n 0, 1) := by decide +kernel
theorem dc_W_raise_86 : decode bc_W_raise 86 = .ok (.getfield 11, 3) := by decide +kernel
theorem dc_W_raise_89 : decode bc_W_raise 89 = .ok (.iload 6, 2) := by decide +kernel
theorem dc_W_raise_91 : decode bc_W_raise 91 = .ok (.iload_n 3, 1) := by decide +kernel
theorem dc_W_raise_92 : decode bc_W_raise 92 = .ok (.iadd, 1) := by decide +kernel
theorem dc_W_raise_93 : decode bc_W_raise 93 = .ok (.lload 7, 2) := by decide +kernel
theorem dc_W_raise_95 : decode bc_W_raise 95 = .ok (.lload 9, 2) := by decide +kernel
theorem dc_W_raise_97 : decode bc_W_raise 97 = .ok (.lor, 1) := by decide +kernel
theorem dc_W_raise_98 : decode bc_W_raise 98 = .ok (.ldc2_w 35, 3) := by decide +kernel
theorem dc_W_raise_101 : decode bc_W_raise 101 = .ok (.land, 1) := by decide +kernel
theorem dc_W_raise_102 : decode bc_W_raise 102 = .ok (.lastore, 1) := by decide +kernel
theorem dc_W_raise_103 : decode bc_W_raise 103 = .ok (.iinc 6 (-1), 3) := by decide +kernel
theorem dc_W_raise_106 : decode bc_W_raise 106 = .ok (.goto (-75), 3) := by decide +kernel
theorem dc_W_raise_109 : decode bc_W_raise 109 = .ok (.iconst 0, 1) := by decide +kernel
theorem dc_W_raise_110 : decode bc_W_raise 110 = .ok (.istore 6, 2) := by decide +kernel
theorem dc_W_raise_112 : decode bc_W_raise 112 = .ok (.iload 6, 2) := by decide +kernel
theorem dc_W_raise_114 : decode bc_W_raise 114 = .ok (.iload_n 3, 1) := by decide +kernel
theorem dc_W_raise_115 : decode bc_W_raise 115 = .ok (.if_icmp .ge 17, 3) := by decide +kernel
theorem dc_W_raise_118 : decode bc_W_raise 118 = .ok (.aload_n 0, 1) := by decide +kernel
theorem dc_W_raise_119 : decode bc_W_raise 119 = .ok (.getfield 11, 3) := by decide +kernel
theorem dc_W_raise_122 : decode bc_W_raise 122 = .ok (.iload 6, 2) := by decide +kernel
theorem dc_W_raise_124 : decode bc_W_raise 124 = .ok (.lconst 0, 1) := by decide +kernel
theorem dc_W_raise_125 : decode bc_W_raise 125 = .ok (.lastore, 1) := by decide +kernel
theorem dc_W_raise_126 : decode bc_W_raise 126 = .ok (.iinc 6 1, 3) := by decide +kernel
theorem dc_W_raise_129 : decode bc_W_raise 129 = .ok (.goto (-17), 3) := by decide +kernel
theorem dc_W_raise_132 : decode bc_W_raise 132 = .ok (.aload_n 0, 1) := by decide +kernel
theorem dc_W_raise_133 : decode bc_W_raise 133 = .ok (.iload 5, 2) := by decide +kernel
theorem dc_W_raise_135 : decode bc_W_raise 135 = .ok (.iload_n 3, 1) := by decide +kernel
theorem dc_W_raise_136 : decode bc_W_raise 136 = .ok (.iadd, 1) := by decide +kernel
theorem dc_W_raise_137 : decode bc_W_raise 137 = .ok (.iconst 1, 1) := by decide +kernel
theorem dc_W_raise_138 : decode bc_W_raise 138 = .ok (.iadd, 1) := by decide +kernel
theorem dc_W_raise_139 : decode bc_W_raise 139 = .ok (.invokevirtual 37, 3) := by decide +kernel
theorem dc_W_raise_142 : decode bc_W_raise 142 = .ok (.return_, 1) := by decide +kernel
theorem dc_W_sum_0 : decode bc_W_sum 0 = .ok (.aload_n 1, 1) := by decide +kernel
theorem dc_W_sum_1 : decode bc_W_sum 1 = .ok (.getfield 15, 3) := by decide +kernel
theorem dc_W_sum_4 : decode bc_W_sum 4 = .ok (.aload_n 2, 1) := by decide +kernel
theorem dc_W_sum_5 : decode bc_W_sum 5 = .ok (.getfield 15, 3) := by decide +kernel
theorem dc_W_sum_8 : decode bc_W_sum 8 = .ok (.if_icmp .lt 7, 3) := by decide +kernel
theorem dc_W_sum_11 : decode bc_W_sum 11 = .ok (.aload_n 1, 1) := by decide +kernel
theorem dc_W_sum_12 : decode bc_W_sum 12 = .ok (.goto 4, 3) := by decide +kernel
theorem dc_W_sum_15 : decode bc_W_sum 15 = .ok (.aload_n 2, 1) := by decide +kernel
theorem dc_W_sum_16 : decode bc_W_sum 16 = .ok (.astore_n 3, 1) := by decide +kernel
theorem dc_W_sum_17 : decode bc_W_sum 17 = .ok (.aload_n 1, 1) := by decide +kernel
theorem dc_W_sum_18 : decode bc_W_sum 18 = .ok (.getfield 15, 3) := by decide +kernel
theorem dc_W_sum_21 : decode bc_W_sum 21 = .ok (.aload_n 2, 1) := by decide +kernel
theorem dc_W_sum_22 : decode bc_W_sum 22 = .ok (.getfield 15, 3) := by decide +kernel
theorem dc_W_sum_25 : decode bc_W_sum 25 = .ok (.if_icmp .lt 7, 3) := by decide +kernel
theorem dc_W_sum_28 : decode bc_W_sum 28 = .ok (.aload_n 2, 1) := by decide +kernel
theorem dc_W_sum_29 : decode bc_W_sum 29 = .ok (.goto 4, 3) := by decide +kernel
theorem dc_W_sum_32 : decode bc_W_sum 32 = .ok (.aload_n 1, 1) := by decide +kernel
theorem dc_W_sum_33 : decode bc_W_sum 33 = .ok (.astore 4, 2) := by decide +kernel
theorem dc_W_sum_35 : decode bc_W_sum 35 = .ok (.aload_n 3, 1) := by decide +kernel
theorem dc_W_sum_36 : decode bc_W_sum 36 = .ok (.getfield 15, 3) := by decide +kernel
theorem dc_W_sum_39 : decode bc_W_sum 39 = .ok (.istore 5, 2) := by decide +kernel
theorem dc_W_sum_41 : decode bc_W_sum 41 = .ok (.aload 4, 2) := by decide +kernel
theorem dc_W_sum_43 : decode bc_W_sum 43 = .ok (.getfield 15, 3) := by decide +kernel
theorem dc_W_sum_46 : decode bc_W_sum 46 = .ok (.istore 6, 2) := by decide +kernel
theorem dc_W_sum_48 : decode bc_W_sum 48 = .ok (.aload_n 0, 1) := by decide +kernel
theorem dc_W_sum_49 : decode bc_W_sum 49 = .ok (.iload 5, 2) := by decide +kernel
theorem dc_W_sum_51 : decode bc_W_sum 51 = .ok (.iconst 1, 1) := by decide +kernel
theorem dc_W_sum_52 : decode bc_W_sum 52 = .ok (.iadd, 1) := by decide +kernel
theorem dc_W_sum_53 : decode bc_W_sum 53 = .ok (.invokevirtual 31, 3) := by decide +kernel
theorem dc_W_sum_56 : decode bc_W_sum 56 = .ok (.lconst 0, 1) := by decide +kernel
theorem dc_W_sum_57 : decode bc_W_sum 57 = .ok (.lstore 7, 2) := by decide +kernel
theorem dc_W_sum_59 : decode bc_W_sum 59 = .ok (.iconst 0, 1) := by decide +kernel
theorem dc_W_sum_60 : decode bc_W_sum 60 = .ok (.istore 9, 2) := by decide +kernel
theorem dc_W_sum_62 : decode bc_W_sum 62 = .ok (.iload 9, 2) := by decide +kernel
theorem dc_W_sum_64 : decode bc_W_sum 64 = .ok (.iload 5, 2) := by decide +kernel
theorem dc_W_sum_66 : decode bc_W_sum 66 = .ok (.if_icmp .ge 61, 3) := by decide +kernel
theorem dc_W_sum_69 : decode bc_W_sum 69 = .ok (.aload_n 3, 1) := by decide +kernel
theorem dc_W_sum_70 : decode bc_W_sum 70 = .ok (.getfield 11, 3) := by decide +kernel
theorem dc_W_sum_73 : decode bc_W_sum 73 = .ok (.iload 9, 2) := by decide +kernel
theorem dc_W_sum_75 : decode bc_W_sum 75 = .ok (.laload, 1) := by decide +kernel
theorem dc_W_sum_76 : decode bc_W_sum 76 = .ok (.lload 7, 2) := by decide +kernel
theorem dc_W_sum_78 : decode bc_W_sum 78 = .ok (.ladd, 1) := by decide +kernel
theorem dc_W_sum_79 : decode bc_W_sum 79 = .ok (.iload 9, 2) := by decide +kernel
theorem dc_W_sum_81 : decode bc_W_sum 81 = .ok (.iload 6, 2) := by decide +kernel
theorem dc_W_sum_83 : decode bc_W_sum 83 = .ok (.if_icmp .ge 14, 3) := by decide +kernel
theorem dc_W_sum_86 : decode bc_W_sum 86 = .ok (.aload 4, 2) := by decide +kernel
theorem dc_W_sum_88 : decode bc_W_sum 88 = .ok (.getfield 11, 3) := by decide +kernel
theorem dc_W_sum_91 : decode bc_W_sum 91 = .ok (.iload 9, 2) := by decide +kernel
theorem dc_W_sum_93 : decode bc_W_sum 93 = .ok (.laload, 1) := by decide +kernel
theorem dc_W_sum_94 : decode bc_W_sum 94 = .ok (.goto 4, 3) := by decide +kernel
theorem dc_W_sum_97 : decode bc_W_sum 97 = .ok (.lconst 0, 1) := by decide +kernel
theorem dc_W_sum_98 : decode bc_W_sum 98 = .ok (.ladd, 1) := by decide +kernel
theorem dc_W_sum_99 : decode bc_W_sum 99 = .ok (.lstore 10, 2) := by decide +kernel
theorem dc_W_sum_101 : decode bc_W_sum 101 = .ok (.aload_n 0, 1) := by decide +kernel
theorem dc_W_sum_102 : decode bc_W_sum 102 = .ok (.getfield 11, 3) := by decide +kernel
theorem dc_W_sum_105 : decode bc_W_sum 105 = .ok (.iload 9, 2) := by decide +kernel
theorem dc_W_sum_107 : decode bc_W_sum 107 = .ok (.lload 10, 2) := by decide +kernel
theorem dc_W_sum_109 : decode bc_W_sum 109 = .ok (.ldc2_w 35, 3) := by decide +kernel
theorem dc_W_sum_112 : decode bc_W_sum 112 = .ok (.land, 1) := by decide +kernel
theorem dc_W_sum_113 : decode bc_W_sum 113 = .ok (.lastore, 1) := by decide +kernel
theorem dc_W_sum_114 : decode bc_W_sum 114 = .ok (.lload 10, 2) := by decide +kernel
theorem dc_W_sum_116 : decode bc_W_sum 116 = .ok (.bipush 32, 2) := by decide +kernel
theorem dc_W_sum_118 : decode bc_W_sum 118 = .ok (.lushr, 1) := by decide +kernel
theorem dc_W_sum_119 : decode bc_W_sum 119 = .ok (.lstore 7, 2) := by decide +kernel
theorem dc_W_sum_121 : decode bc_W_sum 121 = .ok (.iinc 9 1, 3) := by decide +kernel
theorem dc_W_sum_124 : decode bc_W_sum 124 = .ok (.goto (-62), 3) := by decide +kernel
theorem dc_W_sum_127 : decode bc_W_sum 127 = .ok (.aload_n 0, 1) := by decide +kernel
theorem dc_W_sum_128 : decode bc_W_sum 128 = .ok (.getfield 11, 3) := by decide +kernel
theorem dc_W_sum_131 : decode bc_W_sum 131 = .ok (.iload 5, 2) := by decide +kernel
theorem dc_W_sum_133 : decode bc_W_sum 133 = .ok (.lload 7, 2) := by decide +kernel
theorem dc_W_sum_135 : decode bc_W_sum 135 = .ok (.lastore, 1) := by decide +kernel
theorem dc_W_sum_136 : decode bc_W_sum 136 = .ok (.aload_n 0, 1) := by decide +kernel
theorem dc_W_sum_137 : decode bc_W_sum 137 = .ok (.iload 5, 2) := by decide +kernel
theorem dc_W_sum_139 : decode bc_W_sum 139 = .ok (.iconst 1, 1) := by decide +kernel
theorem dc_W_sum_140 : decode bc_W_sum 140 = .ok (.iadd, 1) := by decide +kernel
theorem dc_W_sum_141 : decode bc_W_sum 141 = .ok (.invokevirtual 37, 3) := by decide +kernel
theorem dc_W_sum_144 : decode bc_W_sum 144 = .ok (.return_, 1) := by decide +kernel
theorem dc_W_repeat_0 : decode bc_W_repeat 0 = .ok (.aload_n 0, 1) := by decide +kernel
theorem dc_W_repeat_1 : decode bc_W_repeat 1 = .ok (.iconst 2, 1) := by decide +kernel
theorem dc_W_repeat_2 : decode bc_W_repeat 2 = .ok (.iload_n 3, 1) := by decide +kernel
theorem dc_W_repeat_3 : decode bc_W_repeat 3 = .ok (.imul, 1) := by decide +kernel
theorem dc_W_repeat_4 : decode bc_W_repeat 4 = .ok (.invokevirtual 31, 3) := by decide +kernel
theorem dc_W_repeat_7 : decode bc_W_repeat 7 = .ok (.iconst 0, 1) := by decide +kernel
theorem dc_W_repeat_8 : decode bc_W_repeat 8 = .ok (.istore 4, 2) := by decide +kernel
theorem dc_W_repeat_10 : decode bc_W_repeat 10 = .ok (.iload 4, 2) := by decide +kernel
theorem dc_W_repeat_12 : decode bc_W_repeat 12 = .ok (.iload_n 3, 1) := by decide +kernel
theorem dc_W_repeat_13 : decode bc_W_repeat 13 = .ok (.if_icmp .ge 38, 3) := by decide +kernel
theorem dc_W_repeat_16 : decode bc_W_repeat 16 = .ok (.aload_n 0, 1) := by decide +kernel
theorem dc_W_repeat_17 : decode bc_W_repeat 17 = .ok (.getfield 11, 3) := by decide +kernel
theorem dc_W_repeat_20 : decode bc_W_repeat 20 = .ok (.iconst 2, 1) := by decide +kernel
theorem dc_W_repeat_21 : decode bc_W_repeat 21 = .ok (.iload 4, 2) := by decide +kernel
theorem dc_W_repeat_23 : decode bc_W_repeat 23 = .ok (.imul, 1) := by decide +kernel
theorem dc_W_repeat_24 : decode bc_W_repeat 24 = .ok (.lload_n 1, 1) := by decide +kernel
theorem dc_W_repeat_25 : decode bc_W_repeat 25 = .ok (.ldc2_w 35, 3) := by decide +kernel
theorem dc_W_repeat_28 : decode bc_W_repeat 28 = .ok (.land, 1) := by decide +kernel
theorem dc_W_repeat_29 : decode bc_W_repeat 29 = .ok (.lastore, 1) := by decide +kernel
theorem dc_W_repeat_30 : decode bc_W_repeat 30 = .ok (.aload_n 0, 1) := by decide +kernel
theorem dc_W_repeat_31 : decode bc_W_repeat 31 = .ok (.getfield 11, 3) := by decide +kernel
theorem dc_W_repeat_34 : decode bc_W_repeat 34 = .ok (.iconst 2, 1) := by decide +kernel
theorem dc_W_repeat_35 : decode bc_W_repeat 35 = .ok (.iload 4, 2) := by decide +kernel
theorem dc_W_repeat_37 : decode bc_W_repeat 37 = .ok (.imul, 1) := by decide +kernel
theorem dc_W_repeat_38 : decode bc_W_repeat 38 = .ok (.iconst 1, 1) := by decide +kernel
theorem dc_W_repeat_39 : decode bc_W_repeat 39 = .ok (.iadd, 1) := by decide +kernel
theorem dc_W_repeat_40 : decode bc_W_repeat 40 = .ok (.lload_n 1, 1) := by decide +kernel
theorem dc_W_repeat_41 : decode bc_W_repeat 41 = .ok (.bipush 32, 2) := by decide +kernel
theorem dc_W_repeat_43 : decode bc_W_repeat 43 = .ok (.lushr, 1) := by decide +kernel
theorem dc_W_repeat_44 : decode bc_W_repeat 44 = .ok (.lastore, 1) := by decide +kernel
theorem dc_W_repeat_45 : decode bc_W_repeat 45 = .ok (.iinc 4 1, 3) := by decide +kernel
theorem dc_W_repeat_48 : decode bc_W_repeat 48 = .ok (.goto (-38), 3) := by decide +kernel
theorem dc_W_repeat_51 : decode bc_W_repeat 51 = .ok (.aload_n 0, 1) := by decide +kernel
theorem dc_W_repeat_52 : decode bc_W_repeat 52 = .ok (.iconst 2, 1) := by decide +kernel
theorem dc_W_repeat_53 : decode bc_W_repeat 53 = .ok (.iload_n 3, 1) := by decide +kernel
theorem dc_W_repeat_54 : decode bc_W_repeat 54 = .ok (.imul, 1) := by decide +kernel
theorem dc_W_repeat_55 : decode bc_W_repeat 55 = .ok (.invokevirtual 37, 3) := by decide +kernel
theorem dc_W_repeat_58 : decode bc_W_repeat 58 = .ok (.return_, 1) := by decide +kernel
theorem dc_W_against_0 : decode bc_W_against 0 = .ok (.aload_n 0, 1) := by decide +kernel
theorem dc_W_against_1 : decode bc_W_against 1 = .ok (.getfield 15, 3) := by decide +kernel
theorem dc_W_against_4 : decode bc_W_against 4 = .ok (.aload_n 1, 1) := by decide +kernel
theorem dc_W_against_5 : decode bc_W_against 5 = .ok (.getfield 15, 3) := by decide +kernel
theorem dc_W_against_8 : decode bc_W_against 8 = .ok (.if_icmp .eq 20, 3) := by decide +kernel
theorem dc_W_against_11 : decode bc_W_against 11 = .ok (.aload_n 0, 1) := by decide +kernel
theorem dc_W_against_12 : decode bc_W_against 12 = .ok (.getfield 15, 3) := by decide +kernel
theorem dc_W_against_15 : decode bc_W_against 15 = .ok (.aload_n 1, 1) := by decide +kernel
theorem dc_W_against_16 : decode bc_W_against 16 = .ok (.getfield 15, 3) := by decide +kernel
theorem dc_W_against_19 : decode bc_W_against 19 = .ok (.if_icmp .ge 7, 3) := by decide +kernel
theorem dc_W_against_22 : decode bc_W_against 22 = .ok (.iconst (-1), 1) := by decide +kernel
theorem dc_W_against_23 : decode bc_W_against 23 = .ok (.goto 4, 3) := by decide +kernel
theorem dc_W_against_26 : decode bc_W_against 26 = .ok (.iconst 1, 1) := by decide +kernel
theorem dc_W_against_27 : decode bc_W_against 27 = .ok (.ireturn, 1) := by decide +kernel
theorem dc_W_against_28 : decode bc_W_against 28 = .ok (.aload_n 0, 1) := by decide +kernel
theorem dc_W_against_29 : decode bc_W_against 29 = .ok (.getfield 15, 3) := by decide +kernel
theorem dc_W_against_32 : decode bc_W_against 32 = .ok (.iconst 1, 1) := by decide +kernel
theorem dc_W_against_33 : decode bc_W_against 33 = .ok (.isub, 1) := by decide +kernel
theorem dc_W_against_34 : decode bc_W_against 34 = .ok (.istore_n 2, 1) := by decide +kernel
theorem dc_W_against_35 : decode bc_W_against 35 = .ok (.iload_n 2, 1) := by decide +kernel
theorem dc_W_against_36 : decode bc_W_against 36 = .ok (.ifCond .lt 47, 3) := by decide +kernel
theorem dc_W_against_39 : decode bc_W_against 39 = .ok (.aload_n 0, 1) := by decide +kernel
theorem dc_W_against_40 : decode bc_W_against 40 = .ok (.getfield 11, 3) := by decide +kernel
theorem dc_W_against_43 : decode bc_W_against 43 = .ok (.iload_n 2, 1) := by decide +kernel
theorem dc_W_against_44 : decode bc_W_against 44 = .ok (.laload, 1) := by decide +kernel
theorem dc_W_against_45 : decode bc_W_against 45 = .ok (.aload_n 1, 1) := by decide +kernel
theorem dc_W_against_46 : decode bc_W_against 46 = .ok (.getfield 11, 3) := by decide +kernel
theorem dc_W_against_49 : decode bc_W_against 49 = .ok (.iload_n 2, 1) := by decide +kernel
theorem dc_W_against_50 : decode bc_W_against 50 = .ok (.laload, 1) := by decide +kernel
theorem dc_W_against_51 : decode bc_W_against 51 = .ok (.lcmp, 1) := by decide +kernel
theorem dc_W_against_52 : decode bc_W_against 52 = .ok (.ifCond .eq 25, 3) := by decide +kernel
theorem dc_W_against_55 : decode bc_W_against 55 = .ok (.aload_n 0, 1) := by decide +kernel
theorem dc_W_against_56 : decode bc_W_against 56 = .ok (.getfield 11, 3) := by decide +kernel
theorem dc_W_against_59 : decode bc_W_against 59 = .ok (.iload_n 2, 1) := by decide +kernel
theorem dc_W_against_60 : decode bc_W_against 60 = .ok (.laload, 1) := by decide +kernel
theorem dc_W_against_61 : decode bc_W_against 61 = .ok (.aload_n 1, 1) := by decide +kernel
theorem dc_W_against_62 : decode bc_W_against 62 = .ok (.getfield 11, 3) := by decide +kernel
theorem dc_W_against_65 : decode bc_W_against 65 = .ok (.iload_n 2, 1) := by decide +kernel
theorem dc_W_against_66 : decode bc_W_against 66 = .ok (.laload, 1) := by decide +kernel
theorem dc_W_against_67 : decode bc_W_against 67 = .ok (.lcmp, 1) := by decide +kernel
theorem dc_W_against_68 : decode bc_W_against 68 = .ok (.ifCond .ge 7, 3) := by decide +kernel
theorem dc_W_against_71 : decode bc_W_against 71 = .ok (.iconst (-1), 1) := by decide +kernel
theorem dc_W_against_72 : decode bc_W_against 72 = .ok (.goto 4, 3) := by decide +kernel
theorem dc_W_against_75 : decode bc_W_against 75 = .ok (.iconst 1, 1) := by decide +kernel
theorem dc_W_against_76 : decode bc_W_against 76 = .ok (.ireturn, 1) := by decide +kernel
theorem dc_W_against_77 : decode bc_W_against 77 = .ok (.iinc 2 (-1), 3) := by decide +kernel
theorem dc_W_against_80 : decode bc_W_against 80 = .ok (.goto (-45), 3) := by decide +kernel
theorem dc_W_against_83 : decode bc_W_against 83 = .ok (.iconst 0, 1) := by decide +kernel
theorem dc_W_against_84 : decode bc_W_against 84 = .ok (.ireturn, 1) := by decide +kernel
theorem dc_W_difference_0 : decode bc_W_difference 0 = .ok (.aload_n 1, 1) := by decide +kernel
theorem dc_W_difference_1 : decode bc_W_difference 1 = .ok (.getfield 15, 3) := by decide +kernel
theorem dc_W_difference_4 : decode bc_W_difference 4 = .ok (.istore_n 3, 1) := by decide +kernel
theorem dc_W_difference_5 : decode bc_W_difference 5 = .ok (.aload_n 2, 1) := by decide +kernel
theorem dc_W_difference_6 : decode bc_W_difference 6 = .ok (.getfield 15, 3) := by decide +kernel
theorem dc_W_difference_9 : decode bc_W_difference 9 = .ok (.istore 4, 2) := by decide +kernel
theorem dc_W_difference_11 : decode bc_W_difference 11 = .ok (.aload_n 0, 1) := by decide +kernel
theorem dc_W_difference_12 : decode bc_W_difference 12 = .ok (.iload_n 3, 1) := by decide +kernel
theorem dc_W_difference_13 : decode bc_W_difference 13 = .ok (.invokevirtual 31, 3) := by decide +kernel
theorem dc_W_difference_16 : decode bc_W_difference 16 = .ok (.lconst 0, 1) := by decide +kernel
theorem dc_W_difference_17 : decode bc_W_difference 17 = .ok (.lstore 5, 2) := by decide +kernel
theorem dc_W_difference_19 : decode bc_W_difference 19 = .ok (.iconst 0, 1) := by decide +kernel
theorem dc_W_difference_20 : decode bc_W_difference 20 = .ok (.istore 7, 2) := by decide +kernel
theorem dc_W_difference_22 : decode bc_W_difference 22 = .ok (.iload 7, 2) := by decide +kernel
theorem dc_W_difference_24 : decode bc_W_difference 24 = .ok (.iload_n 3, 1) := by decide +kernel
theorem dc_W_difference_25 : decode bc_W_difference 25 = .ok (.if_icmp .ge 60, 3) := by decide +kernel
theorem dc_W_difference_28 : decode bc_W_difference 28 = .ok (.aload_n 1, 1) := by decide +kernel
theorem dc_W_difference_29 : decode bc_W_difference 29 = .ok (.getfield 11, 3) := by decide +kernel
theorem dc_W_difference_32 : decode bc_W_difference 32 = .ok (.iload 7, 2) := by decide +kernel
theorem dc_W_difference_34 : decode bc_W_difference 34 = .ok (.laload, 1) := by decide +kernel
theorem dc_W_difference_35 : decode bc_W_difference 35 = .ok (.lload 5, 2) := by decide +kernel
theorem dc_W_difference_37 : decode bc_W_difference 37 = .ok (.lsub, 1) := by decide +kernel
theorem dc_W_difference_38 : decode bc_W_difference 38 = .ok (.iload 7, 2) := by decide +kernel
theorem dc_W_difference_40 : decode bc_W_difference 40 = .ok (.iload 4, 2) := by decide +kernel
theorem dc_W_difference_42 : decode bc_W_difference 42 = .ok (.if_icmp .ge 13, 3) := by decide +kernel
theorem dc_W_difference_45 : decode bc_W_difference 45 = .ok (.aload_n 2, 1) := by decide +kernel
theorem dc_W_difference_46 : decode bc_W_difference 46 = .ok (.getfield 11, 3) := by decide +kernel
theorem dc_W_difference_49 : decode bc_W_difference 49 = .ok (.iload 7, 2) := by decide +kernel
theorem dc_W_difference_51 : decode bc_W_difference 51 = .ok (.laload, 1) := by decide +kernel
theorem dc_W_difference_52 : decode bc_W_difference 52 = .ok (.goto 4, 3) := by decide +kernel
theorem dc_W_difference_55 : decode bc_W_difference 55 = .ok (.lconst 0, 1) := by decide +kernel
theorem dc_W_difference_56 : decode bc_W_difference 56 = .ok (.lsub, 1) := by decide +kernel
theorem dc_W_difference_57 : decode bc_W_difference 57 = .ok (.lstore 8, 2) := by decide +kernel
theorem dc_W_difference_59 : decode bc_W_difference 59 = .ok (.aload_n 0, 1) := by decide +kernel
theorem dc_W_difference_60 : decode bc_W_difference 60 = .ok (.getfield 11, 3) := by decide +kernel
theorem dc_W_difference_63 : decode bc_W_difference 63 = .ok (.iload 7, 2) := by decide +kernel
theorem dc_W_difference_65 : decode bc_W_difference 65 = .ok (.lload 8, 2) := by decide +kernel
theorem dc_W_difference_67 : decode bc_W_difference 67 = .ok (.ldc2_w 35, 3) := by decide +kernel
theorem dc_W_difference_70 : decode bc_W_difference 70 = .ok (.land, 1) := by decide +kernel
theorem dc_W_difference_71 : decode bc_W_difference 71 = .ok (.lastore, 1) := by decide +kernel
theorem dc_W_difference_72 : decode bc_W_difference 72 = .ok (.lload 8, 2) := by decide +kernel
theorem dc_W_difference_74 : decode bc_W_difference 74 = .ok (.bipush 63, 2) := by decide +kernel
theorem dc_W_difference_76 : decode bc_W_difference 76 = .ok (.lushr, 1) := by decide +kernel
theorem dc_W_difference_77 : decode bc_W_difference 77 = .ok (.lstore 5, 2) := by decide +kernel
theorem dc_W_difference_79 : decode bc_W_difference 79 = .ok (.iinc 7 1, 3) := by decide +kernel
theorem dc_W_difference_82 : decode bc_W_difference 82 = .ok (.goto (-60), 3) := by decide +kernel
theorem dc_W_difference_85 : decode bc_W_difference 85 = .ok (.aload_n 0, 1) := by decide +kernel
theorem dc_W_difference_86 : decode bc_W_difference 86 = .ok (.iload_n 3, 1) := by decide +kernel
theorem dc_W_difference_87 : decode bc_W_difference 87 = .ok (.invokevirtual 37, 3) := by decide +kernel
theorem dc_W_difference_90 : decode bc_W_difference 90 = .ok (.return_, 1) := by decide +kernel
theorem dc_W_product_0 : decode bc_W_product 0 = .ok (.aload_n 1, 1) := by decide +kernel
theorem dc_W_product_1 : decode bc_W_product 1 = .ok (.getfield 15, 3) := by decide +kernel
theorem dc_W_product_4 : decode bc_W_product 4 = .ok (.aload_n 2, 1) := by decide +kernel
theorem dc_W_product_5 : decode bc_W_product 5 = .ok (.getfield 15, 3) := by decide +kernel
theorem dc_W_product_8 : decode bc_W_product 8 = .ok (.iadd, 1) := by decide +kernel
theorem dc_W_product_9 : decode bc_W_product 9 = .ok (.istore_n 3, 1) := by decide +kernel
theorem dc_W_product_10 : decode bc_W_product 10 = .ok (.aload_n 0, 1) := by decide +kernel
theorem dc_W_product_11 : decode bc_W_product 11 = .ok (.invokevirtual 66, 3) := by decide +kernel
theorem dc_W_product_14 : decode bc_W_product 14 = .ok (.aload_n 0, 1) := by decide +kernel
theorem dc_W_product_15 : decode bc_W_product 15 = .ok (.iload_n 3, 1) := by decide +kernel
theorem dc_W_product_16 : decode bc_W_product 16 = .ok (.invokevirtual 69, 3) := by decide +kernel
theorem dc_W_product_19 : decode bc_W_product 19 = .ok (.iconst 0, 1) := by decide +kernel
theorem dc_W_product_20 : decode bc_W_product 20 = .ok (.istore 4, 2) := by decide +kernel
theorem dc_W_product_22 : decode bc_W_product 22 = .ok (.iload 4, 2) := by decide +kernel
theorem dc_W_product_24 : decode bc_W_product 24 = .ok (.aload_n 1, 1) := by decide +kernel
theorem dc_W_product_25 : decode bc_W_product 25 = .ok (.getfield 15, 3) := by decide +kernel
theorem dc_W_product_28 : decode bc_W_product 28 = .ok (.if_icmp .ge 35, 3) := by decide +kernel
theorem dc_W_product_31 : decode bc_W_product 31 = .ok (.aload_n 1, 1) := by decide +kernel
theorem dc_W_product_32 : decode bc_W_product 32 = .ok (.getfield 11, 3) := by decide +kernel
theorem dc_W_product_35 : decode bc_W_product 35 = .ok (.iload 4, 2) := by decide +kernel
theorem dc_W_product_37 : decode bc_W_product 37 = .ok (.laload, 1) := by decide +kernel
theorem dc_W_product_38 : decode bc_W_product 38 = .ok (.lconst 0, 1) := by decide +kernel
theorem dc_W_product_39 : decode bc_W_product 39 = .ok (.lcmp, 1) := by decide +kernel
theorem dc_W_product_40 : decode bc_W_product 40 = .ok (.ifCond .eq 17, 3) := by decide +kernel
theorem dc_W_product_43 : decode bc_W_product 43 = .ok (.aload_n 0, 1) := by decide +kernel
theorem dc_W_product_44 : decode bc_W_product 44 = .ok (.iload 4, 2) := by decide +kernel
theorem dc_W_product_46 : decode bc_W_product 46 = .ok (.aload_n 1, 1) := by decide +kernel
theorem dc_W_product_47 : decode bc_W_product 47 = .ok (.getfield 11, 3) := by decide +kernel
theorem dc_W_product_50 : decode bc_W_product 50 = .ok (.iload 4, 2) := by decide +kernel
theorem dc_W_product_52 : decode bc_W_product 52 = .ok (.laload, 1) := by decide +kernel
theorem dc_W_product_53 : decode bc_W_product 53 = .ok (.aload_n 2, 1) := by decide +kernel
theorem dc_W_product_54 : decode bc_W_product 54 = .ok (.invokevirtual 72, 3) := by decide +kernel
theorem dc_W_product_57 : decode bc_W_product 57 = .ok (.iinc 4 1, 3) := by decide +kernel
theorem dc_W_product_60 : decode bc_W_product 60 = .ok (.goto (-38), 3) := by decide +kernel
theorem dc_W_product_63 : decode bc_W_product 63 = .ok (.aload_n 0, 1) := by decide +kernel
theorem dc_W_product_64 : decode bc_W_product 64 = .ok (.iload_n 3, 1) := by decide +kernel
theorem dc_W_product_65 : decode bc_W_product 65 = .ok (.invokevirtual 37, 3) := by decide +kernel
theorem dc_W_product_68 : decode bc_W_product 68 = .ok (.return_, 1) := by decide +kernel
theorem dc_W_clear_0 : decode bc_W_clear 0 = .ok (.aload_n 0, 1) := by decide +kernel
theorem dc_W_clear_1 : decode bc_W_clear 1 = .ok (.iconst 0, 1) := by decide +kernel
theorem dc_W_clear_2 : decode bc_W_clear 2 = .ok (.putfield 15, 3) := by decide +kernel
theorem dc_W_clear_5 : decode bc_W_clear 5 = .ok (.return_, 1) := by decide +kernel
theorem dc_W_widen_0 : decode bc_W_widen 0 = .ok (.aload_n 0, 1) := by decide +kernel
theorem dc_W_widen_1 : decode bc_W_widen 1 = .ok (.iload_n 1, 1) := by decide +kernel
theorem dc_W_widen_2 : decode bc_W_widen 2 = .ok (.invokevirtual 31, 3) := by decide +kernel
theorem dc_W_widen_5 : decode bc_W_widen 5 = .ok (.aload_n 0, 1) := by decide +kernel
theorem dc_W_widen_6 : decode bc_W_widen 6 = .ok (.getfield 15, 3) := by decide +kernel
theorem dc_W_widen_9 : decode bc_W_widen 9 = .ok (.istore_n 2, 1) := by decide +kernel
theorem dc_W_widen_10 : decode bc_W_widen 10 = .ok (.iload_n 2, 1) := by decide +kernel
theorem dc_W_widen_11 : decode bc_W_widen 11 = .ok (.iload_n 1, 1) := by decide +kernel
theorem dc_W_widen_12 : decode bc_W_widen 12 = .ok (.if_icmp .ge 16, 3) := by decide +kernel
theorem dc_W_widen_15 : decode bc_W_widen 15 = .ok (.aload_n 0, 1) := by decide +kernel
theorem dc_W_widen_16 : decode bc_W_widen 16 = .ok (.getfield 11, 3) := by decide +kernel
theorem dc_W_widen_19 : decode bc_W_widen 19 = .ok (.iload_n 2, 1) := by decide +kernel
theorem dc_W_widen_20 : decode bc_W_widen 20 = .ok (.lconst 0, 1) := by decide +kernel
theorem dc_W_widen_21 : decode bc_W_widen 21 = .ok (.lastore, 1) := by decide +kernel
theorem dc_W_widen_22 : decode bc_W_widen 22 = .ok (.iinc 2 1, 3) := by decide +kernel
theorem dc_W_widen_25 : decode bc_W_widen 25 = .ok (.goto (-15), 3) := by decide +kernel
theorem dc_W_widen_28 : decode bc_W_widen 28 = .ok (.return_, 1) := by decide +kernel
theorem dc_W_addMultiple_0 : decode bc_W_addMultiple 0 = .ok (.aload_n 0, 1) := by decide +kernel
theorem dc_W_addMultiple_1 : decode bc_W_addMultiple 1 = .ok (.getfield 11, 3) := by decide +kernel
theorem dc_W_addMultiple_4 : decode bc_W_addMultiple 4 = .ok (.astore 5, 2) := by decide +kernel
theorem dc_W_addMultiple_6 : decode bc_W_addMultiple 6 = .ok (.aload 4, 2) := by decide +kernel
theorem dc_W_addMultiple_8 : decode bc_W_addMultiple 8 = .ok (.getfield 11, 3) := by decide +kernel
theorem dc_W_addMultiple_11 : decode bc_W_addMultiple 11 = .ok (.astore 6, 2) := by decide +kernel
theorem dc_W_addMultiple_13 : decode bc_W_addMultiple 13 = .ok (.aload 4, 2) := by decide +kernel
theorem dc_W_addMultiple_15 : decode bc_W_addMultiple 15 = .ok (.getfield 15, 3) := by decide +kernel
theorem dc_W_addMultiple_18 : decode bc_W_addMultiple 18 = .ok (.istore 7, 2) := by decide +kernel
theorem dc_W_addMultiple_20 : decode bc_W_addMultiple 20 = .ok (.lconst 0, 1) := by decide +kernel
theorem dc_W_addMultiple_21 : decode bc_W_addMultiple 21 = .ok (.lstore 8, 2) := by decide +kernel
theorem dc_W_addMultiple_23 : decode bc_W_addMultiple 23 = .ok (.iconst 0, 1) := by decide +kernel
theorem dc_W_addMultiple_24 : decode bc_W_addMultiple 24 = .ok (.istore 10, 2) := by decide +kernel
theorem dc_W_addMultiple_26 : decode bc_W_addMultiple 26 = .ok (.iload 10, 2) := by decide +kernel
theorem dc_W_addMultiple_28 : decode bc_W_addMultiple 28 = .ok (.iload 7, 2) := by decide +kernel
theorem dc_W_addMultiple_30 : decode bc_W_addMultiple 30 = .ok (.if_icmp .ge 49, 3) := by decide +kernel
theorem dc_W_addMultiple_33 : decode bc_W_addMultiple 33 = .ok (.lload_n 2, 1) := by decide +kernel
theorem dc_W_addMultiple_34 : decode bc_W_addMultiple 34 = .ok (.aload 6, 2) := by decide +kernel
theorem dc_W_addMultiple_36 : decode bc_W_addMultiple 36 = .ok (.iload 10, 2) := by decide +kernel
theorem dc_W_addMultiple_38 : decode bc_W_addMultiple 38 = .ok (.laload, 1) := by decide +kernel
theorem dc_W_addMultiple_39 : decode bc_W_addMultiple 39 = .ok (.lmul, 1) := by decide +kernel
theorem dc_W_addMultiple_40 : decode bc_W_addMultiple 40 = .ok (.aload 5, 2) := by decide +kernel
theorem dc_W_addMultiple_42 : decode bc_W_addMultiple 42 = .ok (.iload_n 1, 1) := by decide +kernel
theorem dc_W_addMultiple_43 : decode bc_W_addMultiple 43 = .ok (.iload 10, 2) := by decide +kernel
theorem dc_W_addMultiple_45 : decode bc_W_addMultiple 45 = .ok (.iadd, 1) := by decide +kernel
theorem dc_W_addMultiple_46 : decode bc_W_addMultiple 46 = .ok (.laload, 1) := by decide +kernel
theorem dc_W_addMultiple_47 : decode bc_W_addMultiple 47 = .ok (.ladd, 1) := by decide +kernel
theorem dc_W_addMultiple_48 : decode bc_W_addMultiple 48 = .ok (.lload 8, 2) := by decide +kernel
theorem dc_W_addMultiple_50 : decode bc_W_addMultiple 50 = .ok (.ladd, 1) := by decide +kernel
theorem dc_W_addMultiple_51 : decode bc_W_addMultiple 51 = .ok (.lstore 11, 2) := by decide +kernel
theorem dc_W_addMultiple_53 : decode bc_W_addMultiple 53 = .ok (.aload 5, 2) := by decide +kernel
theorem dc_W_addMultiple_55 : decode bc_W_addMultiple 55 = .ok (.iload_n 1, 1) := by decide +kernel
theorem dc_W_addMultiple_56 : decode bc_W_addMultiple 56 = .ok (.iload 10, 2) := by decide +kernel
theorem dc_W_addMultiple_58 : decode bc_W_addMultiple 58 = .ok (.iadd, 1) := by decide +kernel
theorem dc_W_addMultiple_59 : decode bc_W_addMultiple 59 = .ok (.lload 11, 2) := by decide +kernel
theorem dc_W_addMultiple_61 : decode bc_W_addMultiple 61 = .ok (.ldc2_w 35, 3) := by decide +kernel
theorem dc_W_addMultiple_64 : decode bc_W_addMultiple 64 = .ok (.land, 1) := by decide +kernel
theorem dc_W_addMultiple_65 : decode bc_W_addMultiple 65 = .ok (.lastore, 1) := by decide +kernel
theorem dc_W_addMultiple_66 : decode bc_W_addMultiple 66 = .ok (.lload 11, 2) := by decide +kernel
theorem dc_W_addMultiple_68 : decode bc_W_addMultiple 68 = .ok (.bipush 32, 2) := by decide +kernel
theorem dc_W_addMultiple_70 : decode bc_W_addMultiple 70 = .ok (.lushr, 1) := by decide +kernel
theorem dc_W_addMultiple_71 : decode bc_W_addMultiple 71 = .ok (.lstore 8, 2) := by decide +kernel
theorem dc_W_addMultiple_73 : decode bc_W_addMultiple 73 = .ok (.iinc 10 1, 3) := by decide +kernel
theorem dc_W_addMultiple_76 : decode bc_W_addMultiple 76 = .ok (.goto (-50), 3) := by decide +kernel
theorem dc_W_addMultiple_79 : decode bc_W_addMultiple 79 = .ok (.aload 5, 2) := by decide +kernel
theorem dc_W_addMultiple_81 : decode bc_W_addMultiple 81 = .ok (.iload_n 1, 1) := by decide +kernel
theorem dc_W_addMultiple_82 : decode bc_W_addMultiple 82 = .ok (.iload 7, 2) := by decide +kernel
theorem dc_W_addMultiple_84 : decode bc_W_addMultiple 84 = .ok (.iadd, 1) := by decide +kernel
theorem dc_W_addMultiple_85 : decode bc_W_addMultiple 85 = .ok (.lload 8, 2) := by decide +kernel
theorem dc_W_addMultiple_87 : decode bc_W_addMultiple 87 = .ok (.lastore, 1) := by decide +kernel
theorem dc_W_addMultiple_88 : decode bc_W_addMultiple 88 = .ok (.return_, 1) := by decide +kernel
theorem dc_W_lower_0 : decode bc_W_lower 0 = .ok (.iload_n 2, 1) := by decide +kernel
theorem dc_W_lower_1 : decode bc_W_lower 1 = .ok (.bipush 32, 2) := by decide +kernel
theorem dc_W_lower_3 : decode bc_W_lower 3 = .ok (.idiv, 1) := by decide +kernel
theorem dc_W_lower_4 : decode bc_W_lower 4 = .ok (.istore_n 3, 1) := by decide +kernel
theorem dc_W_lower_5 : decode bc_W_lower 5 = .ok (.iload_n 2, 1) := by decide +kernel
theorem dc_W_lower_6 : decode bc_W_lower 6 = .ok (.bipush 31, 2) := by decide +kernel
theorem dc_W_lower_8 : decode bc_W_lower 8 = .ok (.iand, 1) := by decide +kernel
theorem dc_W_lower_9 : decode bc_W_lower 9 = .ok (.istore 4, 2) := by decide +kernel
theorem dc_W_lower_11 : decode bc_W_lower 11 = .ok (.aload_n 1, 1) := by decide +kernel
theorem dc_W_lower_12 : decode bc_W_lower 12 = .ok (.getfield 15, 3) := by decide +kernel
theorem dc_W_lower_15 : decode bc_W_lower 15 = .ok (.istore 5, 2) := by decide +kernel
theorem dc_W_lower_17 : decode bc_W_lower 17 = .ok (.iconst 0, 1) := by decide +kernel
theorem dc_W_lower_18 : decode bc_W_lower 18 = .ok (.iload 5, 2) := by decide +kernel
theorem dc_W_lower_20 : decode bc_W_lower 20 = .ok (.iload_n 3, 1) := by decide +kernel
theorem dc_W_lower_21 : decode bc_W_lower 21 = .ok (.isub, 1) := by decide +kernel
theorem dc_W_lower_22 : decode bc_W_lower 22 = .ok (.invokestatic 19, 3) := by decide +kernel
theorem dc_W_lower_25 : decode bc_W_lower 25 = .ok (.istore 6, 2) := by decide +kernel
theorem dc_W_lower_27 : decode bc_W_lower 27 = .ok (.aload_n 0, 1) := by decide +kernel
theorem dc_W_lower_28 : decode bc_W_lower 28 = .ok (.iload 6, 2) := by decide +kernel
theorem dc_W_lower_30 : decode bc_W_lower 30 = .ok (.invokevirtual 31, 3) := by decide +kernel
theorem dc_W_lower_33 : decode bc_W_lower 33 = .ok (.iconst 0, 1) := by decide +kernel
theorem dc_W_lower_34 : decode bc_W_lower 34 = .ok (.istore 7, 2) := by decide +kernel
theorem dc_W_lower_36 : decode bc_W_lower 36 = .ok (.iload 7, 2) := by decide +kernel
theorem dc_W_lower_38 : decode bc_W_lower 38 = .ok (.iload 6, 2) := by decide +kernel
theorem dc_W_lower_40 : decode bc_W_lower 40 = .ok (.if_icmp .ge 69, 3) := by decide +kernel
theorem dc_W_lower_43 : decode bc_W_lower 43 = .ok (.iload 7, 2) := by decide +kernel
theorem dc_W_lower_45 : decode bc_W_lower 45 = .ok (.iload_n 3, 1) := by decide +kernel
theorem dc_W_lower_46 : decode bc_W_lower 46 = .ok (.iadd, 1) := by decide +kernel
theorem dc_W_lower_47 : decode bc_W_lower 47 = .ok (.iconst 1, 1) := by decide +kernel
theorem dc_W_lower_48 : decode bc_W_lower 48 = .ok (.iadd, 1) := by decide +kernel
theorem dc_W_lower_49 : decode bc_W_lower 49 = .ok (.iload 5, 2) := by decide +kernel
theorem dc_W_lower_51 : decode bc_W_lower 51 = .ok (.if_icmp .ge 23, 3) := by decide +kernel
theorem dc_W_lower_54 : decode bc_W_lower 54 = .ok (.aload_n 1, 1) := by decide +kernel
theorem dc_W_lower_55 : decode bc_W_lower 55 = .ok (.getfield 11, 3) := by decide +kernel
theorem dc_W_lower_58 : decode bc_W_lower 58 = .ok (.iload 7, 2) := by decide +kernel
theorem dc_W_lower_60 : decode bc_W_lower 60 = .ok (.iload_n 3, 1) := by decide +kernel
theorem dc_W_lower_61 : decode bc_W_lower 61 = .ok (.iadd, 1) := by decide +kernel
theorem dc_W_lower_62 : decode bc_W_lower 62 = .ok (.iconst 1, 1) := by decide +kernel
theorem dc_W_lower_63 : decode bc_W_lower 63 = .ok (.iadd, 1) := by decide +kernel
theorem dc_W_lower_64 : decode bc_W_lower 64 = .ok (.laload, 1) := by decide +kernel
theorem dc_W_lower_65 : decode bc_W_lower 65 = .ok (.bipush 32, 2) := by decide +kernel
theorem dc_W_lower_67 : decode bc_W_lower 67 = .ok (.iload 4, 2) := by decide +kernel
theorem dc_W_lower_69 : decode bc_W_lower 69 = .ok (.isub, 1) := by decide +kernel
theorem dc_W_lower_70 : decode bc_W_lower 70 = .ok (.lshl, 1) := by decide +kernel
theorem dc_W_lower_71 : decode bc_W_lower 71 = .ok (.goto 4, 3) := by decide +kernel
theorem dc_W_lower_74 : decode bc_W_lower 74 = .ok (.lconst 0, 1) := by decide +kernel
theorem dc_W_lower_75 : decode bc_W_lower 75 = .ok (.lstore 8, 2) := by decide +kernel
theorem dc_W_lower_77 : decode bc_W_lower 77 = .ok (.aload_n 0, 1) := by decide +kernel
theorem dc_W_lower_78 : decode bc_W_lower 78 = .ok (.getfield 11, 3) := by decide +kernel
theorem dc_W_lower_81 : decode bc_W_lower 81 = .ok (.iload 7, 2) := by decide +kernel
theorem dc_W_lower_83 : decode bc_W_lower 83 = .ok (.aload_n 1, 1) := by decide +kernel
theorem dc_W_lower_84 : decode bc_W_lower 84 = .ok (.getfield 11, 3) := by decide +kernel
theorem dc_W_lower_87 : decode bc_W_lower 87 = .ok (.iload 7, 2) := by decide +kernel
theorem dc_W_lower_89 : decode bc_W_lower 89 = .ok (.iload_n 3, 1) := by decide +kernel
theorem dc_W_lower_90 : decode bc_W_lower 90 = .ok (.iadd, 1) := by decide +kernel
theorem dc_W_lower_91 : decode bc_W_lower 91 = .ok (.laload, 1) := by decide +kernel
theorem dc_W_lower_92 : decode bc_W_lower 92 = .ok (.iload 4, 2) := by decide +kernel
theorem dc_W_lower_94 : decode bc_W_lower 94 = .ok (.lushr, 1) := by decide +kernel
theorem dc_W_lower_95 : decode bc_W_lower 95 = .ok (.lload 8, 2) := by decide +kernel
theorem dc_W_lower_97 : decode bc_W_lower 97 = .ok (.lor, 1) := by decide +kernel
theorem dc_W_lower_98 : decode bc_W_lower 98 = .ok (.ldc2_w 35, 3) := by decide +kernel
theorem dc_W_lower_101 : decode bc_W_lower 101 = .ok (.land, 1) := by decide +kernel
theorem dc_W_lower_102 : decode bc_W_lower 102 = .ok (.lastore, 1) := by decide +kernel
theorem dc_W_lower_103 : decode bc_W_lower 103 = .ok (.iinc 7 1, 3) := by decide +kernel
theorem dc_W_lower_106 : decode bc_W_lower 106 = .ok (.goto (-70), 3) := by decide +kernel
theorem dc_W_lower_109 : decode bc_W_lower 109 = .ok (.aload_n 0, 1) := by decide +kernel
theorem dc_W_lower_110 : decode bc_W_lower 110 = .ok (.iload 6, 2) := by decide +kernel
theorem dc_W_lower_112 : decode bc_W_lower 112 = .ok (.invokevirtual 37, 3) := by decide +kernel
theorem dc_W_lower_115 : decode bc_W_lower 115 = .ok (.return_, 1) := by decide +kernel
theorem dc_W_firstDigit_0 : decode bc_W_firstDigit 0 = .ok (.iconst 0, 1) := by decide +kernel
theorem dc_W_firstDigit_1 : decode bc_W_firstDigit 1 = .ok (.istore_n 1, 1) := by decide +kernel
theorem dc_W_firstDigit_2 : decode bc_W_firstDigit 2 = .ok (.iload_n 1, 1) := by decide +kernel
theorem dc_W_firstDigit_3 : decode bc_W_firstDigit 3 = .ok (.aload_n 0, 1) := by decide +kernel
theorem dc_W_firstDigit_4 : decode bc_W_firstDigit 4 = .ok (.getfield 15, 3) := by decide +kernel
theorem dc_W_firstDigit_7 : decode bc_W_firstDigit 7 = .ok (.if_icmp .ge 22, 3) := by decide +kernel
theorem dc_W_firstDigit_10 : decode bc_W_firstDigit 10 = .ok (.aload_n 0, 1) := by decide +kernel
theorem dc_W_firstDigit_11 : decode bc_W_firstDigit 11 = .ok (.getfield 11, 3) := by decide +kernel
theorem dc_W_firstDigit_14 : decode bc_W_firstDigit 14 = .ok (.iload_n 1, 1) := by decide +kernel
theorem dc_W_firstDigit_15 : decode bc_W_firstDigit 15 = .ok (.laload, 1) := by decide +kernel
theorem dc_W_firstDigit_16 : decode bc_W_firstDigit 16 = .ok (.lconst 0, 1) := by decide +kernel
theorem dc_W_firstDigit_17 : decode bc_W_firstDigit 17 = .ok (.lcmp, 1) := by decide +kernel
theorem dc_W_firstDigit_18 : decode bc_W_firstDigit 18 = .ok (.ifCond .eq 5, 3) := by decide +kernel
theorem dc_W_firstDigit_21 : decode bc_W_firstDigit 21 = .ok (.iload_n 1, 1) := by decide +kernel
theorem dc_W_firstDigit_22 : decode bc_W_firstDigit 22 = .ok (.ireturn, 1) := by decide +kernel
theorem dc_W_firstDigit_23 : decode bc_W_firstDigit 23 = .ok (.iinc 1 1, 3) := by decide +kernel
theorem dc_W_firstDigit_26 : decode bc_W_firstDigit 26 = .ok (.goto (-24), 3) := by decide +kernel
theorem dc_W_firstDigit_29 : decode bc_W_firstDigit 29 = .ok (.iconst 0, 1) := by decide +kernel
theorem dc_W_firstDigit_30 : decode bc_W_firstDigit 30 = .ok (.ireturn, 1) := by decide +kernel
theorem dc_W_digitAt_0 : decode bc_W_digitAt 0 = .ok (.iload_n 1, 1) := by decide +kernel
theorem dc_W_digitAt_1 : decode bc_W_digitAt 1 = .ok (.ifCond .lt 20, 3) := by decide +kernel
theorem dc_W_digitAt_4 : decode bc_W_digitAt 4 = .ok (.iload_n 1, 1) := by decide +kernel
theorem dc_W_digitAt_5 : decode bc_W_digitAt 5 = .ok (.aload_n 0, 1) := by decide +kernel
theorem dc_W_digitAt_6 : decode bc_W_digitAt 6 = .ok (.getfield 15, 3) := by decide +kernel
theorem dc_W_digitAt_9 : decode bc_W_digitAt 9 = .ok (.if_icmp .ge 12, 3) := by decide +kernel
theorem dc_W_digitAt_12 : decode bc_W_digitAt 12 = .ok (.aload_n 0, 1) := by decide +kernel
theorem dc_W_digitAt_13 : decode bc_W_digitAt 13 = .ok (.getfield 11, 3) := by decide +kernel
theorem dc_W_digitAt_16 : decode bc_W_digitAt 16 = .ok (.iload_n 1, 1) := by decide +kernel
theorem dc_W_digitAt_17 : decode bc_W_digitAt 17 = .ok (.laload, 1) := by decide +kernel
theorem dc_W_digitAt_18 : decode bc_W_digitAt 18 = .ok (.goto 4, 3) := by decide +kernel
theorem dc_W_digitAt_21 : decode bc_W_digitAt 21 = .ok (.lconst 0, 1) := by decide +kernel
theorem dc_W_digitAt_22 : decode bc_W_digitAt 22 = .ok (.lreturn, 1) := by decide +kernel
theorem dc_W_turnOver_0 : decode bc_W_turnOver 0 = .ok (.lconst 1, 1) := by decide +kernel
theorem dc_W_turnOver_1 : decode bc_W_turnOver 1 = .ok (.lstore_n 2, 1) := by decide +kernel
theorem dc_W_turnOver_2 : decode bc_W_turnOver 2 = .ok (.iconst 0, 1) := by decide +kernel
theorem dc_W_turnOver_3 : decode bc_W_turnOver 3 = .ok (.istore 4, 2) := by decide +kernel
theorem dc_W_turnOver_5 : decode bc_W_turnOver 5 = .ok (.iload 4, 2) := by decide +kernel
theorem dc_W_turnOver_7 : decode bc_W_turnOver 7 = .ok (.iload_n 1, 1) := by decide +kernel
theorem dc_W_turnOver_8 : decode bc_W_turnOver 8 = .ok (.if_icmp .ge 47, 3) := by decide +kernel
theorem dc_W_turnOver_11 : decode bc_W_turnOver 11 = .ok (.aload_n 0, 1) := by decide +kernel
theorem dc_W_turnOver_12 : decode bc_W_turnOver 12 = .ok (.getfield 11, 3) := by decide +kernel
theorem dc_W_turnOver_15 : decode bc_W_turnOver 15 = .ok (.iload 4, 2) := by decide +kernel
theorem dc_W_turnOver_17 : decode bc_W_turnOver 17 = .ok (.laload, 1) := by decide +kernel
theorem dc_W_turnOver_18 : decode bc_W_turnOver 18 = .ok (.ldc2_w 76, 3) := by decide +kernel
theorem dc_W_turnOver_21 : decode bc_W_turnOver 21 = .ok (.lxor, 1) := by decide +kernel
theorem dc_W_turnOver_22 : decode bc_W_turnOver 22 = .ok (.ldc2_w 35, 3) := by decide +kernel
theorem dc_W_turnOver_25 : decode bc_W_turnOver 25 = .ok (.land, 1) := by decide +kernel
theorem dc_W_turnOver_26 : decode bc_W_turnOver 26 = .ok (.lload_n 2, 1) := by decide +kernel
theorem dc_W_turnOver_27 : decode bc_W_turnOver 27 = .ok (.ladd, 1) := by decide +kernel
theorem dc_W_turnOver_28 : decode bc_W_turnOver 28 = .ok (.lstore 5, 2) := by decide +kernel
theorem dc_W_turnOver_30 : decode bc_W_turnOver 30 = .ok (.aload_n 0, 1) := by decide +kernel
theorem dc_W_turnOver_31 : decode bc_W_turnOver 31 = .ok (.getfield 11, 3) := by decide +kernel
theorem dc_W_turnOver_34 : decode bc_W_turnOver 34 = .ok (.iload 4, 2) := by decide +kernel
theorem dc_W_turnOver_36 : decode bc_W_turnOver 36 = .ok (.lload 5, 2) := by decide +kernel
theorem dc_W_turnOver_38 : decode bc_W_turnOver 38 = .ok (.ldc2_w 35, 3) := by decide +kernel
theorem dc_W_turnOver_41 : decode bc_W_turnOver 41 = .ok (.land, 1) := by decide +kernel
theorem dc_W_turnOver_42 : decode bc_W_turnOver 42 = .ok (.lastore, 1) := by decide +kernel
theorem dc_W_turnOver_43 : decode bc_W_turnOver 43 = .ok (.lload 5, 2) := by decide +kernel
theorem dc_W_turnOver_45 : decode bc_W_turnOver 45 = .ok (.bipush 32, 2) := by decide +kernel
theorem dc_W_turnOver_47 : decode bc_W_turnOver 47 = .ok (.lushr, 1) := by decide +kernel
theorem dc_W_turnOver_48 : decode bc_W_turnOver 48 = .ok (.lstore_n 2, 1) := by decide +kernel
theorem dc_W_turnOver_49 : decode bc_W_turnOver 49 = .ok (.iinc 4 1, 3) := by decide +kernel
theorem dc_W_turnOver_52 : decode bc_W_turnOver 52 = .ok (.goto (-47), 3) := by decide +kernel
theorem dc_W_turnOver_55 : decode bc_W_turnOver 55 = .ok (.aload_n 0, 1) := by decide +kernel
theorem dc_W_turnOver_56 : decode bc_W_turnOver 56 = .ok (.iload_n 1, 1) := by decide +kernel
theorem dc_W_turnOver_57 : decode bc_W_turnOver 57 = .ok (.invokevirtual 37, 3) := by decide +kernel
theorem dc_W_turnOver_60 : decode bc_W_turnOver 60 = .ok (.return_, 1) := by decide +kernel
theorem dc_W_lowestOne_0 : decode bc_W_lowestOne 0 = .ok (.aload_n 0, 1) := by decide +kernel
theorem dc_W_lowestOne_1 : decode bc_W_lowestOne 1 = .ok (.getfield 15, 3) := by decide +kernel
theorem dc_W_lowestOne_4 : decode bc_W_lowestOne 4 = .ok (.ifCond .ne 5, 3) := by decide +kernel
theorem dc_W_lowestOne_7 : decode bc_W_lowestOne 7 = .ok (.iconst (-1), 1) := by decide +kernel
theorem dc_W_lowestOne_8 : decode bc_W_lowestOne 8 = .ok (.ireturn, 1) := by decide +kernel
theorem dc_W_lowestOne_9 : decode bc_W_lowestOne 9 = .ok (.aload_n 0, 1) := by decide +kernel
theorem dc_W_lowestOne_10 : decode bc_W_lowestOne 10 = .ok (.invokevirtual 56, 3) := by decide +kernel
theorem dc_W_lowestOne_13 : decode bc_W_lowestOne 13 = .ok (.istore_n 1, 1) := by decide +kernel
theorem dc_W_lowestOne_14 : decode bc_W_lowestOne 14 = .ok (.bipush 32, 2) := by decide +kernel
theorem dc_W_lowestOne_16 : decode bc_W_lowestOne 16 = .ok (.iload_n 1, 1) := by decide +kernel
theorem dc_W_lowestOne_17 : decode bc_W_lowestOne 17 = .ok (.imul, 1) := by decide +kernel
theorem dc_W_lowestOne_18 : decode bc_W_lowestOne 18 = .ok (.aload_n 0, 1) := by decide +kernel
theorem dc_W_lowestOne_19 : decode bc_W_lowestOne 19 = .ok (.getfield 11, 3) := by decide +kernel
theorem dc_W_lowestOne_22 : decode bc_W_lowestOne 22 = .ok (.iload_n 1, 1) := by decide +kernel
theorem dc_W_lowestOne_23 : decode bc_W_lowestOne 23 = .ok (.laload, 1) := by decide +kernel
theorem dc_W_lowestOne_24 : decode bc_W_lowestOne 24 = .ok (.invokestatic 60, 3) := by decide +kernel
theorem dc_W_lowestOne_27 : decode bc_W_lowestOne 27 = .ok (.iadd, 1) := by decide +kernel
theorem dc_W_lowestOne_28 : decode bc_W_lowestOne 28 = .ok (.ireturn, 1) := by decide +kernel
theorem dc_W_bitsFrom_0 : decode bc_W_bitsFrom 0 = .ok (.iload_n 1, 1) := by decide +kernel
theorem dc_W_bitsFrom_1 : decode bc_W_bitsFrom 1 = .ok (.bipush 32, 2) := by decide +kernel
theorem dc_W_bitsFrom_3 : decode bc_W_bitsFrom 3 = .ok (.idiv, 1) := by decide +kernel
theorem dc_W_bitsFrom_4 : decode bc_W_bitsFrom 4 = .ok (.istore_n 2, 1) := by decide +kernel
theorem dc_W_bitsFrom_5 : decode bc_W_bitsFrom 5 = .ok (.iload_n 1, 1) := by decide +kernel
theorem dc_W_bitsFrom_6 : decode bc_W_bitsFrom 6 = .ok (.bipush 31, 2) := by decide +kernel
theorem dc_W_bitsFrom_8 : decode bc_W_bitsFrom 8 = .ok (.iand, 1) := by decide +kernel
theorem dc_W_bitsFrom_9 : decode bc_W_bitsFrom 9 = .ok (.istore_n 3, 1) := by decide +kernel
theorem dc_W_bitsFrom_10 : decode bc_W_bitsFrom 10 = .ok (.aload_n 0, 1) := by decide +kernel
theorem dc_W_bitsFrom_11 : decode bc_W_bitsFrom 11 = .ok (.iload_n 2, 1) := by decide +kernel
theorem dc_W_bitsFrom_12 : decode bc_W_bitsFrom 12 = .ok (.invokevirtual 46, 3) := by decide +kernel
theorem dc_W_bitsFrom_15 : decode bc_W_bitsFrom 15 = .ok (.iload_n 3, 1) := by decide +kernel
theorem dc_W_bitsFrom_16 : decode bc_W_bitsFrom 16 = .ok (.lushr, 1) := by decide +kernel
theorem dc_W_bitsFrom_17 : decode bc_W_bitsFrom 17 = .ok (.aload_n 0, 1) := by decide +kernel
theorem dc_W_bitsFrom_18 : decode bc_W_bitsFrom 18 = .ok (.iload_n 2, 1) := by decide +kernel
theorem dc_W_bitsFrom_19 : decode bc_W_bitsFrom 19 = .ok (.iconst 1, 1) := by decide +kernel
theorem dc_W_bitsFrom_20 : decode bc_W_bitsFrom 20 = .ok (.iadd, 1) := by decide +kernel
theorem dc_W_bitsFrom_21 : decode bc_W_bitsFrom 21 = .ok (.invokevirtual 46, 3) := by decide +kernel
theorem dc_W_bitsFrom_24 : decode bc_W_bitsFrom 24 = .ok (.bipush 32, 2) := by decide +kernel
theorem dc_W_bitsFrom_26 : decode bc_W_bitsFrom 26 = .ok (.iload_n 3, 1) := by decide +kernel
theorem dc_W_bitsFrom_27 : decode bc_W_bitsFrom 27 = .ok (.isub, 1) := by decide +kernel
theorem dc_W_bitsFrom_28 : decode bc_W_bitsFrom 28 = .ok (.lshl, 1) := by decide +kernel
theorem dc_W_bitsFrom_29 : decode bc_W_bitsFrom 29 = .ok (.lor, 1) := by decide +kernel
theorem dc_W_bitsFrom_30 : decode bc_W_bitsFrom 30 = .ok (.lstore 4, 2) := by decide +kernel
theorem dc_W_bitsFrom_32 : decode bc_W_bitsFrom 32 = .ok (.iload_n 3, 1) := by decide +kernel
theorem dc_W_bitsFrom_33 : decode bc_W_bitsFrom 33 = .ok (.ifCond .ne 8, 3) := by decide +kernel
theorem dc_W_bitsFrom_36 : decode bc_W_bitsFrom 36 = .ok (.lload 4, 2) := by decide +kernel
theorem dc_W_bitsFrom_38 : decode bc_W_bitsFrom 38 = .ok (.goto 18, 3) := by decide +kernel
theorem dc_W_bitsFrom_41 : decode bc_W_bitsFrom 41 = .ok (.lload 4, 2) := by decide +kernel
theorem dc_W_bitsFrom_43 : decode bc_W_bitsFrom 43 = .ok (.aload_n 0, 1) := by decide +kernel
theorem dc_W_bitsFrom_44 : decode bc_W_bitsFrom 44 = .ok (.iload_n 2, 1) := by decide +kernel
theorem dc_W_bitsFrom_45 : decode bc_W_bitsFrom 45 = .ok (.iconst 2, 1) := by decide +kernel
theorem dc_W_bitsFrom_46 : decode bc_W_bitsFrom 46 = .ok (.iadd, 1) := by decide +kernel
theorem dc_W_bitsFrom_47 : decode bc_W_bitsFrom 47 = .ok (.invokevirtual 46, 3) := by decide +kernel
theorem dc_W_bitsFrom_50 : decode bc_W_bitsFrom 50 = .ok (.bipush 64, 2) := by decide +kernel
theorem dc_W_bitsFrom_52 : decode bc_W_bitsFrom 52 = .ok (.iload_n 3, 1) := by decide +kernel
theorem dc_W_bitsFrom_53 : decode bc_W_bitsFrom 53 = .ok (.isub, 1) := by decide +kernel
theorem dc_W_bitsFrom_54 : decode bc_W_bitsFrom 54 = .ok (.lshl, 1) := by decide +kernel
theorem dc_W_bitsFrom_55 : decode bc_W_bitsFrom 55 = .ok (.lor, 1) := by decide +kernel
theorem dc_W_bitsFrom_56 : decode bc_W_bitsFrom 56 = .ok (.lreturn, 1) := by decide +kernel
theorem dc_W_isOne_0 : decode bc_W_isOne 0 = .ok (.aload_n 0, 1) := by decide +kernel
theorem dc_W_isOne_1 : decode bc_W_isOne 1 = .ok (.iload_n 1, 1) := by decide +kernel
theorem dc_W_isOne_2 : decode bc_W_isOne 2 = .ok (.bipush 32, 2) := by decide +kernel
theorem dc_W_isOne_4 : decode bc_W_isOne 4 = .ok (.idiv, 1) := by decide +kernel
theorem dc_W_isOne_5 : decode bc_W_isOne 5 = .ok (.invokevirtual 46, 3) := by decide +kernel
theorem dc_W_isOne_8 : decode bc_W_isOne 8 = .ok (.iload_n 1, 1) := by decide +kernel
theorem dc_W_isOne_9 : decode bc_W_isOne 9 = .ok (.bipush 31, 2) := by decide +kernel
theorem dc_W_isOne_11 : decode bc_W_isOne 11 = .ok (.iand, 1) := by decide +kernel
theorem dc_W_isOne_12 : decode bc_W_isOne 12 = .ok (.lushr, 1) := by decide +kernel
theorem dc_W_isOne_13 : decode bc_W_isOne 13 = .ok (.lconst 1, 1) := by decide +kernel
theorem dc_W_isOne_14 : decode bc_W_isOne 14 = .ok (.land, 1) := by decide +kernel
theorem dc_W_isOne_15 : decode bc_W_isOne 15 = .ok (.lconst 0, 1) := by decide +kernel
theorem dc_W_isOne_16 : decode bc_W_isOne 16 = .ok (.lcmp, 1) := by decide +kernel
theorem dc_W_isOne_17 : decode bc_W_isOne 17 = .ok (.ifCond .eq 7, 3) := by decide +kernel
theorem dc_W_isOne_20 : decode bc_W_isOne 20 = .ok (.iconst 1, 1) := by decide +kernel
theorem dc_W_isOne_21 : decode bc_W_isOne 21 = .ok (.goto 4, 3) := by decide +kernel
theorem dc_W_isOne_24 : decode bc_W_isOne 24 = .ok (.iconst 0, 1) := by decide +kernel
theorem dc_W_isOne_25 : decode bc_W_isOne 25 = .ok (.ireturn, 1) := by decide +kernel
theorem dc_W_countOnes_0 : decode bc_W_countOnes 0 = .ok (.iconst 0, 1) := by decide +kernel
theorem dc_W_countOnes_1 : decode bc_W_countOnes 1 = .ok (.istore_n 1, 1) := by decide +kernel
theorem dc_W_countOnes_2 : decode bc_W_countOnes 2 = .ok (.iconst 0, 1) := by decide +kernel
theorem dc_W_countOnes_3 : decode bc_W_countOnes 3 = .ok (.istore_n 2, 1) := by decide +kernel
theorem dc_W_countOnes_4 : decode bc_W_countOnes 4 = .ok (.iload_n 2, 1) := by decide +kernel
theorem dc_W_countOnes_5 : decode bc_W_countOnes 5 = .ok (.aload_n 0, 1) := by decide +kernel
theorem dc_W_countOnes_6 : decode bc_W_countOnes 6 = .ok (.getfield 15, 3) := by decide +kernel
theorem dc_W_countOnes_9 : decode bc_W_countOnes 9 = .ok (.if_icmp .ge 21, 3) := by decide +kernel
theorem dc_W_countOnes_12 : decode bc_W_countOnes 12 = .ok (.iload_n 1, 1) := by decide +kernel
theorem dc_W_countOnes_13 : decode bc_W_countOnes 13 = .ok (.aload_n 0, 1) := by decide +kernel
theorem dc_W_countOnes_14 : decode bc_W_countOnes 14 = .ok (.getfield 11, 3) := by decide +kernel
theorem dc_W_countOnes_17 : decode bc_W_countOnes 17 = .ok (.iload_n 2, 1) := by decide +kernel
theorem dc_W_countOnes_18 : decode bc_W_countOnes 18 = .ok (.laload, 1) := by decide +kernel
theorem dc_W_countOnes_19 : decode bc_W_countOnes 19 = .ok (.invokestatic 63, 3) := by decide +kernel
theorem dc_W_countOnes_22 : decode bc_W_countOnes 22 = .ok (.iadd, 1) := by decide +kernel
theorem dc_W_countOnes_23 : decode bc_W_countOnes 23 = .ok (.istore_n 1, 1) := by decide +kernel
theorem dc_W_countOnes_24 : decode bc_W_countOnes 24 = .ok (.iinc 2 1, 3) := by decide +kernel
theorem dc_W_countOnes_27 : decode bc_W_countOnes 27 = .ok (.goto (-23), 3) := by decide +kernel
theorem dc_W_countOnes_30 : decode bc_W_countOnes 30 = .ok (.iload_n 1, 1) := by decide +kernel
theorem dc_W_countOnes_31 : decode bc_W_countOnes 31 = .ok (.ireturn, 1) := by decide +kernel
end
section
theorem dc_JL_numberOfLeadingZeros_0 : decode bc_JL_numberOfLeadingZeros 0 = .ok (.lload_n 0, 1) := by decide +kernel
theorem dc_JL_numberOfLeadingZeros_1 : decode bc_JL_numberOfLeadingZeros 1 = .ok (.bipush 32, 2) := by decide +kernel
theorem dc_JL_numberOfLeadingZeros_3 : decode bc_JL_numberOfLeadingZeros 3 = .ok (.lushr, 1) := by decide +kernel
theorem dc_JL_numberOfLeadingZeros_4 : decode bc_JL_numberOfLeadingZeros 4 = .ok (.l2i, 1) := by decide +kernel
theorem dc_JL_numberOfLeadingZeros_5 : decode bc_JL_numberOfLeadingZeros 5 = .ok (.istore_n 2, 1) := by decide +kernel
theorem dc_JL_numberOfLeadingZeros_6 : decode bc_JL_numberOfLeadingZeros 6 = .ok (.iload_n 2, 1) := by decide +kernel
theorem dc_JL_numberOfLeadingZeros_7 : decode bc_JL_numberOfLeadingZeros 7 = .ok (.ifCond .ne 14, 3) := by decide +kernel
theorem dc_JL_numberOfLeadingZeros_10 : decode bc_JL_numberOfLeadingZeros 10 = .ok (.bipush 32, 2) := by decide +kernel
theorem dc_JL_numberOfLeadingZeros_12 : decode bc_JL_numberOfLeadingZeros 12 = .ok (.lload_n 0, 1) := by decide +kernel
theorem dc_JL_numberOfLeadingZeros_13 : decode bc_JL_numberOfLeadingZeros 13 = .ok (.l2i, 1) := by decide +kernel
theorem dc_JL_numberOfLeadingZeros_14 : decode bc_JL_numberOfLeadingZeros 14 = .ok (.invokestatic 308, 3) := by decide +kernel
theorem dc_JL_numberOfLeadingZeros_17 : decode bc_JL_numberOfLeadingZeros 17 = .ok (.iadd, 1) := by decide +kernel
theorem dc_JL_numberOfLeadingZeros_18 : decode bc_JL_numberOfLeadingZeros 18 = .ok (.goto 7, 3) := by decide +kernel
theorem dc_JL_numberOfLeadingZeros_21 : decode bc_JL_numberOfLeadingZeros 21 = .ok (.iload_n 2, 1) := by decide +kernel
theorem dc_JL_numberOfLeadingZeros_22 : decode bc_JL_numberOfLeadingZeros 22 = .ok (.invokestatic 308, 3) := by decide +kernel
theorem dc_JL_numberOfLeadingZeros_25 : decode bc_JL_numberOfLeadingZeros 25 = .ok (.ireturn, 1) := by decide +kernel
theorem dc_JI_numberOfLeadingZeros_0 : decode bc_JI_numberOfLeadingZeros 0 = .ok (.iload_n 0, 1) := by decide +kernel
theorem dc_JI_numberOfLeadingZeros_1 : decode bc_JI_numberOfLeadingZeros 1 = .ok (.ifCond .gt 14, 3) := by decide +kernel
theorem dc_JI_numberOfLeadingZeros_4 : decode bc_JI_numberOfLeadingZeros 4 = .ok (.iload_n 0, 1) := by decide +kernel
theorem dc_JI_numberOfLeadingZeros_5 : decode bc_JI_numberOfLeadingZeros 5 = .ok (.ifCond .ne 8, 3) := by decide +kernel
theorem dc_JI_numberOfLeadingZeros_8 : decode bc_JI_numberOfLeadingZeros 8 = .ok (.bipush 32, 2) := by decide +kernel
theorem dc_JI_numberOfLeadingZeros_10 : decode bc_JI_numberOfLeadingZeros 10 = .ok (.goto 4, 3) := by decide +kernel
theorem dc_JI_numberOfLeadingZeros_13 : decode bc_JI_numberOfLeadingZeros 13 = .ok (.iconst 0, 1) := by decide +kernel
theorem dc_JI_numberOfLeadingZeros_14 : decode bc_JI_numberOfLeadingZeros 14 = .ok (.ireturn, 1) := by decide +kernel
theorem dc_JI_numberOfLeadingZeros_15 : decode bc_JI_numberOfLeadingZeros 15 = .ok (.bipush 31, 2) := by decide +kernel
theorem dc_JI_numberOfLeadingZeros_17 : decode bc_JI_numberOfLeadingZeros 17 = .ok (.istore_n 1, 1) := by decide +kernel
theorem dc_JI_numberOfLeadingZeros_18 : decode bc_JI_numberOfLeadingZeros 18 = .ok (.iload_n 0, 1) := by decide +kernel
theorem dc_JI_numberOfLeadingZeros_19 : decode bc_JI_numberOfLeadingZeros 19 = .ok (.ldc_w 264, 3) := by decide +kernel
theorem dc_JI_numberOfLeadingZeros_22 : decode bc_JI_numberOfLeadingZeros 22 = .ok (.if_icmp .lt 11, 3) := by decide +kernel
theorem dc_JI_numberOfLeadingZeros_25 : decode bc_JI_numberOfLeadingZeros 25 = .ok (.iinc 1 (-16), 3) := by decide +kernel
theorem dc_JI_numberOfLeadingZeros_28 : decode bc_JI_numberOfLeadingZeros 28 = .ok (.iload_n 0, 1) := by decide +kernel
theorem dc_JI_numberOfLeadingZeros_29 : decode bc_JI_numberOfLeadingZeros 29 = .ok (.bipush 16, 2) := by decide +kernel
theorem dc_JI_numberOfLeadingZeros_31 : decode bc_JI_numberOfLeadingZeros 31 = .ok (.iushr, 1) := by decide +kernel
theorem dc_JI_numberOfLeadingZeros_32 : decode bc_JI_numberOfLeadingZeros 32 = .ok (.istore_n 0, 1) := by decide +kernel
theorem dc_JI_numberOfLeadingZeros_33 : decode bc_JI_numberOfLeadingZeros 33 = .ok (.iload_n 0, 1) := by decide +kernel
theorem dc_JI_numberOfLeadingZeros_34 : decode bc_JI_numberOfLeadingZeros 34 = .ok (.sipush 256, 3) := by decide +kernel
theorem dc_JI_numberOfLeadingZeros_37 : decode bc_JI_numberOfLeadingZeros 37 = .ok (.if_icmp .lt 11, 3) := by decide +kernel
theorem dc_JI_numberOfLeadingZeros_40 : decode bc_JI_numberOfLeadingZeros 40 = .ok (.iinc 1 (-8), 3) := by decide +kernel
theorem dc_JI_numberOfLeadingZeros_43 : decode bc_JI_numberOfLeadingZeros 43 = .ok (.iload_n 0, 1) := by decide +kernel
theorem dc_JI_numberOfLeadingZeros_44 : decode bc_JI_numberOfLeadingZeros 44 = .ok (.bipush 8, 2) := by decide +kernel
theorem dc_JI_numberOfLeadingZeros_46 : decode bc_JI_numberOfLeadingZeros 46 = .ok (.iushr, 1) := by decide +kernel
theorem dc_JI_numberOfLeadingZeros_47 : decode bc_JI_numberOfLeadingZeros 47 = .ok (.istore_n 0, 1) := by decide +kernel
theorem dc_JI_numberOfLeadingZeros_48 : decode bc_JI_numberOfLeadingZeros 48 = .ok (.iload_n 0, 1) := by decide +kernel
theorem dc_JI_numberOfLeadingZeros_49 : decode bc_JI_numberOfLeadingZeros 49 = .ok (.bipush 16, 2) := by decide +kernel
theorem dc_JI_numberOfLeadingZeros_51 : decode bc_JI_numberOfLeadingZeros 51 = .ok (.if_icmp .lt 10, 3) := by decide +kernel
theorem dc_JI_numberOfLeadingZeros_54 : decode bc_JI_numberOfLeadingZeros 54 = .ok (.iinc 1 (-4), 3) := by decide +kernel
theorem dc_JI_numberOfLeadingZeros_57 : decode bc_JI_numberOfLeadingZeros 57 = .ok (.iload_n 0, 1) := by decide +kernel
theorem dc_JI_numberOfLeadingZeros_58 : decode bc_JI_numberOfLeadingZeros 58 = .ok (.iconst 4, 1) := by decide +kernel
theorem dc_JI_numberOfLeadingZeros_59 : decode bc_JI_numberOfLeadingZeros 59 = .ok (.iushr, 1) := by decide +kernel
theorem dc_JI_numberOfLeadingZeros_60 : decode bc_JI_numberOfLeadingZeros 60 = .ok (.istore_n 0, 1) := by decide +kernel
theorem dc_JI_numberOfLeadingZeros_61 : decode bc_JI_numberOfLeadingZeros 61 = .ok (.iload_n 0, 1) := by decide +kernel
theorem dc_JI_numberOfLeadingZeros_62 : decode bc_JI_numberOfLeadingZeros 62 = .ok (.iconst 4, 1) := by decide +kernel
theorem dc_JI_numberOfLeadingZeros_63 : decode bc_JI_numberOfLeadingZeros 63 = .ok (.if_icmp .lt 10, 3) := by decide +kernel
theorem dc_JI_numberOfLeadingZeros_66 : decode bc_JI_numberOfLeadingZeros 66 = .ok (.iinc 1 (-2), 3) := by decide +kernel
theorem dc_JI_numberOfLeadingZeros_69 : decode bc_JI_numberOfLeadingZeros 69 = .ok (.iload_n 0, 1) := by decide +kernel
theorem dc_JI_numberOfLeadingZeros_70 : decode bc_JI_numberOfLeadingZeros 70 = .ok (.iconst 2, 1) := by decide +kernel
theorem dc_JI_numberOfLeadingZeros_71 : decode bc_JI_numberOfLeadingZeros 71 = .ok (.iushr, 1) := by decide +kernel
theorem dc_JI_numberOfLeadingZeros_72 : decode bc_JI_numberOfLeadingZeros 72 = .ok (.istore_n 0, 1) := by decide +kernel
theorem dc_JI_numberOfLeadingZeros_73 : decode bc_JI_numberOfLeadingZeros 73 = .ok (.iload_n 1, 1) := by decide +kernel
theorem dc_JI_numberOfLeadingZeros_74 : decode bc_JI_numberOfLeadingZeros 74 = .ok (.iload_n 0, 1) := by decide +kernel
theorem dc_JI_numberOfLeadingZeros_75 : decode bc_JI_numberOfLeadingZeros 75 = .ok (.iconst 1, 1) := by decide +kernel
theorem dc_JI_numberOfLeadingZeros_76 : decode bc_JI_numberOfLeadingZeros 76 = .ok (.iushr, 1) := by decide +kernel
theorem dc_JI_numberOfLeadingZeros_77 : decode bc_JI_numberOfLeadingZeros 77 = .ok (.isub, 1) := by decide +kernel
theorem dc_JI_numberOfLeadingZeros_78 : decode bc_JI_numberOfLeadingZeros 78 = .ok (.ireturn, 1) := by decide +kernel
theorem dc_JM_max_II_0 : decode bc_JM_max_II 0 = .ok (.iload_n 0, 1) := by decide +kernel
theorem dc_JM_max_II_1 : decode bc_JM_max_II 1 = .ok (.iload_n 1, 1) := by decide +kernel
theorem dc_JM_max_II_2 : decode bc_JM_max_II 2 = .ok (.if_icmp .lt 7, 3) := by decide +kernel
theorem dc_JM_max_II_5 : decode bc_JM_max_II 5 = .ok (.iload_n 0, 1) := by decide +kernel
theorem dc_JM_max_II_6 : decode bc_JM_max_II 6 = .ok (.goto 4, 3) := by decide +kernel
theorem dc_JM_max_II_9 : decode bc_JM_max_II 9 = .ok (.iload_n 1, 1) := by decide +kernel
theorem dc_JM_max_II_10 : decode bc_JM_max_II 10 = .ok (.ireturn, 1) := by decide +kernel
theorem dc_JA_copyOf_0 : decode bc_JA_copyOf 0 = .ok (.iload_n 1, 1) := by decide +kernel
theorem dc_JA_copyOf_1 : decode bc_JA_copyOf 1 = .ok (.aload_n 0, 1) := by decide +kernel
theorem dc_JA_copyOf_2 : decode bc_JA_copyOf 2 = .ok (.arraylength, 1) := by decide +kernel
theorem dc_JA_copyOf_3 : decode bc_JA_copyOf 3 = .ok (.if_icmp .ne 11, 3) := by decide +kernel
theorem dc_JA_copyOf_6 : decode bc_JA_copyOf 6 = .ok (.aload_n 0, 1) := by decide +kernel
theorem dc_JA_copyOf_7 : decode bc_JA_copyOf 7 = .ok (.invokevirtual 319, 3) := by decide +kernel
theorem dc_JA_copyOf_10 : decode bc_JA_copyOf 10 = .ok (.checkcast 320, 3) := by decide +kernel
theorem dc_JA_copyOf_13 : decode bc_JA_copyOf 13 = .ok (.areturn, 1) := by decide +kernel
theorem dc_JA_copyOf_14 : decode bc_JA_copyOf 14 = .ok (.iload_n 1, 1) := by decide +kernel
theorem dc_JA_copyOf_15 : decode bc_JA_copyOf 15 = .ok (.newarray .long, 2) := by decide +kernel
theorem dc_JA_copyOf_17 : decode bc_JA_copyOf 17 = .ok (.astore_n 2, 1) := by decide +kernel
theorem dc_JA_copyOf_18 : decode bc_JA_copyOf 18 = .ok (.aload_n 0, 1) := by decide +kernel
theorem dc_JA_copyOf_19 : decode bc_JA_copyOf 19 = .ok (.iconst 0, 1) := by decide +kernel
theorem dc_JA_copyOf_20 : decode bc_JA_copyOf 20 = .ok (.aload_n 2, 1) := by decide +kernel
theorem dc_JA_copyOf_21 : decode bc_JA_copyOf 21 = .ok (.iconst 0, 1) := by decide +kernel
theorem dc_JA_copyOf_22 : decode bc_JA_copyOf 22 = .ok (.aload_n 0, 1) := by decide +kernel
theorem dc_JA_copyOf_23 : decode bc_JA_copyOf 23 = .ok (.arraylength, 1) := by decide +kernel
theorem dc_JA_copyOf_24 : decode bc_JA_copyOf 24 = .ok (.iload_n 1, 1) := by decide +kernel
theorem dc_JA_copyOf_25 : decode bc_JA_copyOf 25 = .ok (.invokestatic 304, 3) := by decide +kernel
theorem dc_JA_copyOf_28 : decode bc_JA_copyOf 28 = .ok (.invokestatic 150, 3) := by decide +kernel
theorem dc_JA_copyOf_31 : decode bc_JA_copyOf 31 = .ok (.aload_n 2, 1) := by decide +kernel
theorem dc_JA_copyOf_32 : decode bc_JA_copyOf 32 = .ok (.areturn, 1) := by decide +kernel
theorem dc_JM_min_0 : decode bc_JM_min 0 = .ok (.iload_n 0, 1) := by decide +kernel
theorem dc_JM_min_1 : decode bc_JM_min 1 = .ok (.iload_n 1, 1) := by decide +kernel
theorem dc_JM_min_2 : decode bc_JM_min 2 = .ok (.if_icmp .gt 7, 3) := by decide +kernel
theorem dc_JM_min_5 : decode bc_JM_min 5 = .ok (.iload_n 0, 1) := by decide +kernel
theorem dc_JM_min_6 : decode bc_JM_min 6 = .ok (.goto 4, 3) := by decide +kernel
theorem dc_JM_min_9 : decode bc_JM_min 9 = .ok (.iload_n 1, 1) := by decide +kernel
theorem dc_JM_min_10 : decode bc_JM_min 10 = .ok (.ireturn, 1) := by decide +kernel
theorem dc_JL_compareUnsigned_0 : decode bc_JL_compareUnsigned 0 = .ok (.lload_n 0, 1) := by decide +kernel
theorem dc_JL_compareUnsigned_1 : decode bc_JL_compareUnsigned 1 = .ok (.ldc2_w 168, 3) := by decide +kernel
theorem dc_JL_compareUnsigned_4 : decode bc_JL_compareUnsigned 4 = .ok (.ladd, 1) := by decide +kernel
theorem dc_JL_compareUnsigned_5 : decode bc_JL_compareUnsigned 5 = .ok (.lload_n 2, 1) := by decide +kernel
theorem dc_JL_compareUnsigned_6 : decode bc_JL_compareUnsigned 6 = .ok (.ldc2_w 168, 3) := by decide +kernel
theorem dc_JL_compareUnsigned_9 : decode bc_JL_compareUnsigned 9 = .ok (.ladd, 1) := by decide +kernel
theorem dc_JL_compareUnsigned_10 : decode bc_JL_compareUnsigned 10 = .ok (.invokestatic 302, 3) := by decide +kernel
theorem dc_JL_compareUnsigned_13 : decode bc_JL_compareUnsigned 13 = .ok (.ireturn, 1) := by decide +kernel
theorem dc_JL_compare_0 : decode bc_JL_compare 0 = .ok (.lload_n 0, 1) := by decide +kernel
theorem dc_JL_compare_1 : decode bc_JL_compare 1 = .ok (.lload_n 2, 1) := by decide +kernel
theorem dc_JL_compare_2 : decode bc_JL_compare 2 = .ok (.lcmp, 1) := by decide +kernel
theorem dc_JL_compare_3 : decode bc_JL_compare 3 = .ok (.ifCond .ge 7, 3) := by decide +kernel
theorem dc_JL_compare_6 : decode bc_JL_compare 6 = .ok (.iconst (-1), 1) := by decide +kernel
theorem dc_JL_compare_7 : decode bc_JL_compare 7 = .ok (.goto 14, 3) := by decide +kernel
theorem dc_JL_compare_10 : decode bc_JL_compare 10 = .ok (.lload_n 0, 1) := by decide +kernel
theorem dc_JL_compare_11 : decode bc_JL_compare 11 = .ok (.lload_n 2, 1) := by decide +kernel
theorem dc_JL_compare_12 : decode bc_JL_compare 12 = .ok (.lcmp, 1) := by decide +kernel
theorem dc_JL_compare_13 : decode bc_JL_compare 13 = .ok (.ifCond .ne 7, 3) := by decide +kernel
theorem dc_JL_compare_16 : decode bc_JL_compare 16 = .ok (.iconst 0, 1) := by decide +kernel
theorem dc_JL_compare_17 : decode bc_JL_compare 17 = .ok (.goto 4, 3) := by decide +kernel
theorem dc_JL_compare_20 : decode bc_JL_compare 20 = .ok (.iconst 1, 1) := by decide +kernel
theorem dc_JL_compare_21 : decode bc_JL_compare 21 = .ok (.ireturn, 1) := by decide +kernel
theorem dc_JL_numberOfTrailingZeros_0 : decode bc_JL_numberOfTrailingZeros 0 = .ok (.lload_n 0, 1) := by decide +kernel
theorem dc_JL_numberOfTrailingZeros_1 : decode bc_JL_numberOfTrailingZeros 1 = .ok (.l2i, 1) := by decide +kernel
theorem dc_JL_numberOfTrailingZeros_2 : decode bc_JL_numberOfTrailingZeros 2 = .ok (.istore_n 2, 1) := by decide +kernel
theorem dc_JL_numberOfTrailingZeros_3 : decode bc_JL_numberOfTrailingZeros 3 = .ok (.iload_n 2, 1) := by decide +kernel
theorem dc_JL_numberOfTrailingZeros_4 : decode bc_JL_numberOfTrailingZeros 4 = .ok (.ifCond .ne 17, 3) := by decide +kernel
theorem dc_JL_numberOfTrailingZeros_7 : decode bc_JL_numberOfTrailingZeros 7 = .ok (.bipush 32, 2) := by decide +kernel
theorem dc_JL_numberOfTrailingZeros_9 : decode bc_JL_numberOfTrailingZeros 9 = .ok (.lload_n 0, 1) := by decide +kernel
theorem dc_JL_numberOfTrailingZeros_10 : decode bc_JL_numberOfTrailingZeros 10 = .ok (.bipush 32, 2) := by decide +kernel
theorem dc_JL_numberOfTrailingZeros_12 : decode bc_JL_numberOfTrailingZeros 12 = .ok (.lushr, 1) := by decide +kernel
theorem dc_JL_numberOfTrailingZeros_13 : decode bc_JL_numberOfTrailingZeros 13 = .ok (.l2i, 1) := by decide +kernel
theorem dc_JL_numberOfTrailingZeros_14 : decode bc_JL_numberOfTrailingZeros 14 = .ok (.invokestatic 311, 3) := by decide +kernel
theorem dc_JL_numberOfTrailingZeros_17 : decode bc_JL_numberOfTrailingZeros 17 = .ok (.iadd, 1) := by decide +kernel
theorem dc_JL_numberOfTrailingZeros_18 : decode bc_JL_numberOfTrailingZeros 18 = .ok (.goto 7, 3) := by decide +kernel
theorem dc_JL_numberOfTrailingZeros_21 : decode bc_JL_numberOfTrailingZeros 21 = .ok (.iload_n 2, 1) := by decide +kernel
theorem dc_JL_numberOfTrailingZeros_22 : decode bc_JL_numberOfTrailingZeros 22 = .ok (.invokestatic 311, 3) := by decide +kernel
theorem dc_JL_numberOfTrailingZeros_25 : decode bc_JL_numberOfTrailingZeros 25 = .ok (.ireturn, 1) := by decide +kernel
theorem dc_JI_numberOfTrailingZeros_0 : decode bc_JI_numberOfTrailingZeros 0 = .ok (.iload_n 0, 1) := by decide +kernel
theorem dc_JI_numberOfTrailingZeros_1 : decode bc_JI_numberOfTrailingZeros 1 = .ok (.iconst (-1), 1) := by decide +kernel
theorem dc_JI_numberOfTrailingZeros_2 : decode bc_JI_numberOfTrailingZeros 2 = .ok (.ixor, 1) := by decide +kernel
theorem dc_JI_numberOfTrailingZeros_3 : decode bc_JI_numberOfTrailingZeros 3 = .ok (.iload_n 0, 1) := by decide +kernel
theorem dc_JI_numberOfTrailingZeros_4 : decode bc_JI_numberOfTrailingZeros 4 = .ok (.iconst 1, 1) := by decide +kernel
theorem dc_JI_numberOfTrailingZeros_5 : decode bc_JI_numberOfTrailingZeros 5 = .ok (.isub, 1) := by decide +kernel
theorem dc_JI_numberOfTrailingZeros_6 : decode bc_JI_numberOfTrailingZeros 6 = .ok (.iand, 1) := by decide +kernel
theorem dc_JI_numberOfTrailingZeros_7 : decode bc_JI_numberOfTrailingZeros 7 = .ok (.istore_n 0, 1) := by decide +kernel
theorem dc_JI_numberOfTrailingZeros_8 : decode bc_JI_numberOfTrailingZeros 8 = .ok (.iload_n 0, 1) := by decide +kernel
theorem dc_JI_numberOfTrailingZeros_9 : decode bc_JI_numberOfTrailingZeros 9 = .ok (.ifCond .gt 8, 3) := by decide +kernel
theorem dc_JI_numberOfTrailingZeros_12 : decode bc_JI_numberOfTrailingZeros 12 = .ok (.iload_n 0, 1) := by decide +kernel
theorem dc_JI_numberOfTrailingZeros_13 : decode bc_JI_numberOfTrailingZeros 13 = .ok (.bipush 32, 2) := by decide +kernel
theorem dc_JI_numberOfTrailingZeros_15 : decode bc_JI_numberOfTrailingZeros 15 = .ok (.iand, 1) := by decide +kernel
theorem dc_JI_numberOfTrailingZeros_16 : decode bc_JI_numberOfTrailingZeros 16 = .ok (.ireturn, 1) := by decide +kernel
theorem dc_JI_numberOfTrailingZeros_17 : decode bc_JI_numberOfTrailingZeros 17 = .ok (.iconst 1, 1) := by decide +kernel
theorem dc_JI_numberOfTrailingZeros_18 : decode bc_JI_numberOfTrailingZeros 18 = .ok (.istore_n 1, 1) := by decide +kernel
theorem dc_JI_numberOfTrailingZeros_19 : decode bc_JI_numberOfTrailingZeros 19 = .ok (.iload_n 0, 1) := by decide +kernel
theorem dc_JI_numberOfTrailingZeros_20 : decode bc_JI_numberOfTrailingZeros 20 = .ok (.ldc_w 264, 3) := by decide +kernel
theorem dc_JI_numberOfTrailingZeros_23 : decode bc_JI_numberOfTrailingZeros 23 = .ok (.if_icmp .le 11, 3) := by decide +kernel
theorem dc_JI_numberOfTrailingZeros_26 : decode bc_JI_numberOfTrailingZeros 26 = .ok (.iinc 1 16, 3) := by decide +kernel
theorem dc_JI_numberOfTrailingZeros_29 : decode bc_JI_numberOfTrailingZeros 29 = .ok (.iload_n 0, 1) := by decide +kernel
theorem dc_JI_numberOfTrailingZeros_30 : decode bc_JI_numberOfTrailingZeros 30 = .ok (.bipush 16, 2) := by decide +kernel
theorem dc_JI_numberOfTrailingZeros_32 : decode bc_JI_numberOfTrailingZeros 32 = .ok (.iushr, 1) := by decide +kernel
theorem dc_JI_numberOfTrailingZeros_33 : decode bc_JI_numberOfTrailingZeros 33 = .ok (.istore_n 0, 1) := by decide +kernel
theorem dc_JI_numberOfTrailingZeros_34 : decode bc_JI_numberOfTrailingZeros 34 = .ok (.iload_n 0, 1) := by decide +kernel
theorem dc_JI_numberOfTrailingZeros_35 : decode bc_JI_numberOfTrailingZeros 35 = .ok (.sipush 256, 3) := by decide +kernel
theorem dc_JI_numberOfTrailingZeros_38 : decode bc_JI_numberOfTrailingZeros 38 = .ok (.if_icmp .le 11, 3) := by decide +kernel
theorem dc_JI_numberOfTrailingZeros_41 : decode bc_JI_numberOfTrailingZeros 41 = .ok (.iinc 1 8, 3) := by decide +kernel
theorem dc_JI_numberOfTrailingZeros_44 : decode bc_JI_numberOfTrailingZeros 44 = .ok (.iload_n 0, 1) := by decide +kernel
theorem dc_JI_numberOfTrailingZeros_45 : decode bc_JI_numberOfTrailingZeros 45 = .ok (.bipush 8, 2) := by decide +kernel
theorem dc_JI_numberOfTrailingZeros_47 : decode bc_JI_numberOfTrailingZeros 47 = .ok (.iushr, 1) := by decide +kernel
theorem dc_JI_numberOfTrailingZeros_48 : decode bc_JI_numberOfTrailingZeros 48 = .ok (.istore_n 0, 1) := by decide +kernel
theorem dc_JI_numberOfTrailingZeros_49 : decode bc_JI_numberOfTrailingZeros 49 = .ok (.iload_n 0, 1) := by decide +kernel
theorem dc_JI_numberOfTrailingZeros_50 : decode bc_JI_numberOfTrailingZeros 50 = .ok (.bipush 16, 2) := by decide +kernel
theorem dc_JI_numberOfTrailingZeros_52 : decode bc_JI_numberOfTrailingZeros 52 = .ok (.if_icmp .le 10, 3) := by decide +kernel
theorem dc_JI_numberOfTrailingZeros_55 : decode bc_JI_numberOfTrailingZeros 55 = .ok (.iinc 1 4, 3) := by decide +kernel
theorem dc_JI_numberOfTrailingZeros_58 : decode bc_JI_numberOfTrailingZeros 58 = .ok (.iload_n 0, 1) := by decide +kernel
theorem dc_JI_numberOfTrailingZeros_59 : decode bc_JI_numberOfTrailingZeros 59 = .ok (.iconst 4, 1) := by decide +kernel
theorem dc_JI_numberOfTrailingZeros_60 : decode bc_JI_numberOfTrailingZeros 60 = .ok (.iushr, 1) := by decide +kernel
theorem dc_JI_numberOfTrailingZeros_61 : decode bc_JI_numberOfTrailingZeros 61 = .ok (.istore_n 0, 1) := by decide +kernel
theorem dc_JI_numberOfTrailingZeros_62 : decode bc_JI_numberOfTrailingZeros 62 = .ok (.iload_n 0, 1) := by decide +kernel
theorem dc_JI_numberOfTrailingZeros_63 : decode bc_JI_numberOfTrailingZeros 63 = .ok (.iconst 4, 1) := by decide +kernel
theorem dc_JI_numberOfTrailingZeros_64 : decode bc_JI_numberOfTrailingZeros 64 = .ok (.if_icmp .le 10, 3) := by decide +kernel
theorem dc_JI_numberOfTrailingZeros_67 : decode bc_JI_numberOfTrailingZeros 67 = .ok (.iinc 1 2, 3) := by decide +kernel
theorem dc_JI_numberOfTrailingZeros_70 : decode bc_JI_numberOfTrailingZeros 70 = .ok (.iload_n 0, 1) := by decide +kernel
theorem dc_JI_numberOfTrailingZeros_71 : decode bc_JI_numberOfTrailingZeros 71 = .ok (.iconst 2, 1) := by decide +kernel
theorem dc_JI_numberOfTrailingZeros_72 : decode bc_JI_numberOfTrailingZeros 72 = .ok (.iushr, 1) := by decide +kernel
theorem dc_JI_numberOfTrailingZeros_73 : decode bc_JI_numberOfTrailingZeros 73 = .ok (.istore_n 0, 1) := by decide +kernel
theorem dc_JI_numberOfTrailingZeros_74 : decode bc_JI_numberOfTrailingZeros 74 = .ok (.iload_n 1, 1) := by decide +kernel
theorem dc_JI_numberOfTrailingZeros_75 : decode bc_JI_numberOfTrailingZeros 75 = .ok (.iload_n 0, 1) := by decide +kernel
theorem dc_JI_numberOfTrailingZeros_76 : decode bc_JI_numberOfTrailingZeros 76 = .ok (.iconst 1, 1) := by decide +kernel
theorem dc_JI_numberOfTrailingZeros_77 : decode bc_JI_numberOfTrailingZeros 77 = .ok (.iushr, 1) := by decide +kernel
theorem dc_JI_numberOfTrailingZeros_78 : decode bc_JI_numberOfTrailingZeros 78 = .ok (.iadd, 1) := by decide +kernel
theorem dc_JI_numberOfTrailingZeros_79 : decode bc_JI_numberOfTrailingZeros 79 = .ok (.ireturn, 1) := by decide +kernel
theorem dc_JM_abs_0 : decode bc_JM_abs 0 = .ok (.lload_n 0, 1) := by decide +kernel
theorem dc_JM_abs_1 : decode bc_JM_abs 1 = .ok (.lconst 0, 1) := by decide +kernel
theorem dc_JM_abs_2 : decode bc_JM_abs 2 = .ok (.lcmp, 1) := by decide +kernel
theorem dc_JM_abs_3 : decode bc_JM_abs 3 = .ok (.ifCond .ge 8, 3) := by decide +kernel
theorem dc_JM_abs_6 : decode bc_JM_abs 6 = .ok (.lload_n 0, 1) := by decide +kernel
theorem dc_JM_abs_7 : decode bc_JM_abs 7 = .ok (.lneg, 1) := by decide +kernel
theorem dc_JM_abs_8 : decode bc_JM_abs 8 = .ok (.goto 4, 3) := by decide +kernel
theorem dc_JM_abs_11 : decode bc_JM_abs 11 = .ok (.lload_n 0, 1) := by decide +kernel
theorem dc_JM_abs_12 : decode bc_JM_abs 12 = .ok (.lreturn, 1) := by decide +kernel
theorem dc_JM_max_JJ_0 : decode bc_JM_max_JJ 0 = .ok (.lload_n 0, 1) := by decide +kernel
theorem dc_JM_max_JJ_1 : decode bc_JM_max_JJ 1 = .ok (.lload_n 2, 1) := by decide +kernel
theorem dc_JM_max_JJ_2 : decode bc_JM_max_JJ 2 = .ok (.lcmp, 1) := by decide +kernel
theorem dc_JM_max_JJ_3 : decode bc_JM_max_JJ 3 = .ok (.ifCond .lt 7, 3) := by decide +kernel
theorem dc_JM_max_JJ_6 : decode bc_JM_max_JJ 6 = .ok (.lload_n 0, 1) := by decide +kernel
theorem dc_JM_max_JJ_7 : decode bc_JM_max_JJ 7 = .ok (.goto 4, 3) := by decide +kernel
theorem dc_JM_max_JJ_10 : decode bc_JM_max_JJ 10 = .ok (.lload_n 2, 1) := by decide +kernel
theorem dc_JM_max_JJ_11 : decode bc_JM_max_JJ 11 = .ok (.lreturn, 1) := by decide +kernel
theorem dc_JL_bitCount_0 : decode bc_JL_bitCount 0 = .ok (.lload_n 0, 1) := by decide +kernel
theorem dc_JL_bitCount_1 : decode bc_JL_bitCount 1 = .ok (.lload_n 0, 1) := by decide +kernel
theorem dc_JL_bitCount_2 : decode bc_JL_bitCount 2 = .ok (.iconst 1, 1) := by decide +kernel
theorem dc_JL_bitCount_3 : decode bc_JL_bitCount 3 = .ok (.lushr, 1) := by decide +kernel
theorem dc_JL_bitCount_4 : decode bc_JL_bitCount 4 = .ok (.ldc2_w 314, 3) := by decide +kernel
theorem dc_JL_bitCount_7 : decode bc_JL_bitCount 7 = .ok (.land, 1) := by decide +kernel
theorem dc_JL_bitCount_8 : decode bc_JL_bitCount 8 = .ok (.lsub, 1) := by decide +kernel
theorem dc_JL_bitCount_9 : decode bc_JL_bitCount 9 = .ok (.lstore_n 0, 1) := by decide +kernel
theorem dc_JL_bitCount_10 : decode bc_JL_bitCount 10 = .ok (.lload_n 0, 1) := by decide +kernel
theorem dc_JL_bitCount_11 : decode bc_JL_bitCount 11 = .ok (.ldc2_w 316, 3) := by decide +kernel
theorem dc_JL_bitCount_14 : decode bc_JL_bitCount 14 = .ok (.land, 1) := by decide +kernel
theorem dc_JL_bitCount_15 : decode bc_JL_bitCount 15 = .ok (.lload_n 0, 1) := by decide +kernel
theorem dc_JL_bitCount_16 : decode bc_JL_bitCount 16 = .ok (.iconst 2, 1) := by decide +kernel
theorem dc_JL_bitCount_17 : decode bc_JL_bitCount 17 = .ok (.lushr, 1) := by decide +kernel
theorem dc_JL_bitCount_18 : decode bc_JL_bitCount 18 = .ok (.ldc2_w 316, 3) := by decide +kernel
theorem dc_JL_bitCount_21 : decode bc_JL_bitCount 21 = .ok (.land, 1) := by decide +kernel
theorem dc_JL_bitCount_22 : decode bc_JL_bitCount 22 = .ok (.ladd, 1) := by decide +kernel
theorem dc_JL_bitCount_23 : decode bc_JL_bitCount 23 = .ok (.lstore_n 0, 1) := by decide +kernel
theorem dc_JL_bitCount_24 : decode bc_JL_bitCount 24 = .ok (.lload_n 0, 1) := by decide +kernel
theorem dc_JL_bitCount_25 : decode bc_JL_bitCount 25 = .ok (.lload_n 0, 1) := by decide +kernel
theorem dc_JL_bitCount_26 : decode bc_JL_bitCount 26 = .ok (.iconst 4, 1) := by decide +kernel
theorem dc_JL_bitCount_27 : decode bc_JL_bitCount 27 = .ok (.lushr, 1) := by decide +kernel
theorem dc_JL_bitCount_28 : decode bc_JL_bitCount 28 = .ok (.ladd, 1) := by decide +kernel
theorem dc_JL_bitCount_29 : decode bc_JL_bitCount 29 = .ok (.ldc2_w 318, 3) := by decide +kernel
theorem dc_JL_bitCount_32 : decode bc_JL_bitCount 32 = .ok (.land, 1) := by decide +kernel
theorem dc_JL_bitCount_33 : decode bc_JL_bitCount 33 = .ok (.lstore_n 0, 1) := by decide +kernel
theorem dc_JL_bitCount_34 : decode bc_JL_bitCount 34 = .ok (.lload_n 0, 1) := by decide +kernel
theorem dc_JL_bitCount_35 : decode bc_JL_bitCount 35 = .ok (.lload_n 0, 1) := by decide +kernel
theorem dc_JL_bitCount_36 : decode bc_JL_bitCount 36 = .ok (.bipush 8, 2) := by decide +kernel
theorem dc_JL_bitCount_38 : decode bc_JL_bitCount 38 = .ok (.lushr, 1) := by decide +kernel
theorem dc_JL_bitCount_39 : decode bc_JL_bitCount 39 = .ok (.ladd, 1) := by decide +kernel
theorem dc_JL_bitCount_40 : decode bc_JL_bitCount 40 = .ok (.lstore_n 0, 1) := by decide +kernel
theorem dc_JL_bitCount_41 : decode bc_JL_bitCount 41 = .ok (.lload_n 0, 1) := by decide +kernel
theorem dc_JL_bitCount_42 : decode bc_JL_bitCount 42 = .ok (.lload_n 0, 1) := by decide +kernel
theorem dc_JL_bitCount_43 : decode bc_JL_bitCount 43 = .ok (.bipush 16, 2) := by decide +kernel
theorem dc_JL_bitCount_45 : decode bc_JL_bitCount 45 = .ok (.lushr, 1) := by decide +kernel
theorem dc_JL_bitCount_46 : decode bc_JL_bitCount 46 = .ok (.ladd, 1) := by decide +kernel
theorem dc_JL_bitCount_47 : decode bc_JL_bitCount 47 = .ok (.lstore_n 0, 1) := by decide +kernel
theorem dc_JL_bitCount_48 : decode bc_JL_bitCount 48 = .ok (.lload_n 0, 1) := by decide +kernel
theorem dc_JL_bitCount_49 : decode bc_JL_bitCount 49 = .ok (.lload_n 0, 1) := by decide +kernel
theorem dc_JL_bitCount_50 : decode bc_JL_bitCount 50 = .ok (.bipush 32, 2) := by decide +kernel
theorem dc_JL_bitCount_52 : decode bc_JL_bitCount 52 = .ok (.lushr, 1) := by decide +kernel
theorem dc_JL_bitCount_53 : decode bc_JL_bitCount 53 = .ok (.ladd, 1) := by decide +kernel
theorem dc_JL_bitCount_54 : decode bc_JL_bitCount 54 = .ok (.lstore_n 0, 1) := by decide +kernel
theorem dc_JL_bitCount_55 : decode bc_JL_bitCount 55 = .ok (.lload_n 0, 1) := by decide +kernel
theorem dc_JL_bitCount_56 : decode bc_JL_bitCount 56 = .ok (.l2i, 1) := by decide +kernel
theorem dc_JL_bitCount_57 : decode bc_JL_bitCount 57 = .ok (.bipush 127, 2) := by decide +kernel
theorem dc_JL_bitCount_59 : decode bc_JL_bitCount 59 = .ok (.iand, 1) := by decide +kernel
theorem dc_JL_bitCount_60 : decode bc_JL_bitCount 60 = .ok (.ireturn, 1) := by decide +kernel
end
section
/-! the JDK's own methods -/
abbrev rm_ (f c s o : Nat) : Room := { frames := f, cells := c, slots := s, locals := o }
section
variable {l : Launch} {D : va_G} {tys : List (ClassId × FieldType)}
set_option maxRecDepth 100000 in
set_option maxHeartbeats 4000000 in
theorem cJM_min (h : vx_h) (a b : Int32) : vx_M l D vcl tys my_JM_min lw_gd (rm_ 0 0 0 0) [.int a, .int b] h (fun v h' k n => v = some (.int (if b < a then b else a)) ∧ h' = h ∧ k = 0 ∧ n = 0) := by
  refine vx_M.ofV (cc := bc_JM_min) (maxL := 2) (ret := some .int) (own := "java/lang/Math") false rfl (by decide +kernel) wC_JM_min (fun q => by cases q) (Nat.le_of_ble_eq_true rfl) (fun A H0 G IG RG => ?_)
  show vx_V _ _ _ _ _ _ _ _ _ 0 [(0, .int a), (1, .int b)] []
  refine vx_iload_n IG dc_JM_min_0 rfl 0 rfl ?_
  refine vx_iload_n IG dc_JM_min_1 rfl 1 rfl ?_
  refine vx_icmp_gt (tgt := 9) IG dc_JM_min_2 (by decide) (fun c => ?_) (fun c => ?_)
  · refine vx_iload_n IG dc_JM_min_9 rfl 1 rfl ?_
    refine vx_ret (some (.int b)) RG (vx_endi (by first | rfl | decide) dc_JM_min_10) rfl ?_
    exact ⟨by rw [if_pos c], rfl, rfl, rfl⟩
  · refine vx_iload_n IG dc_JM_min_5 rfl 0 rfl ?_
    refine vx_goto (tgt := 10) IG dc_JM_min_6 (by decide) ?_
    refine vx_ret (some (.int a)) RG (vx_endi (by first | rfl | decide) dc_JM_min_10) rfl ?_
    exact ⟨by rw [if_neg c], rfl, rfl, rfl⟩
set_option maxRecDepth 100000 in
set_option maxHeartbeats 4000000 in
theorem cJM_max (h : vx_h) (a b : Int32) : vx_M l D vcl tys my_JM_max_II lw_gd (rm_ 0 0 0 0) [.int a, .int b] h (fun v h' k n => v = some (.int (if a < b then b else a)) ∧ h' = h ∧ k = 0 ∧ n = 0) := by
  refine vx_M.ofV (cc := bc_JM_max_II) (maxL := 2) (ret := some .int) (own := "java/lang/Math") false rfl (by decide +kernel) wC_JM_max_II (fun q => by cases q) (Nat.le_of_ble_eq_true rfl) (fun A H0 G IG RG => ?_)
  show vx_V _ _ _ _ _ _ _ _ _ 0 [(0, .int a), (1, .int b)] []
  refine vx_iload_n IG dc_JM_max_II_0 rfl 0 rfl ?_
  refine vx_iload_n IG dc_JM_max_II_1 rfl 1 rfl ?_
  refine vx_icmp_lt (tgt := 9) IG dc_JM_max_II_2 (by decide) (fun c => ?_) (fun c => ?_)
  · refine vx_iload_n IG dc_JM_max_II_9 rfl 1 rfl ?_
    refine vx_ret (some (.int b)) RG (vx_endi (by first | rfl | decide) dc_JM_max_II_10) rfl ?_
    exact ⟨by rw [if_pos c], rfl, rfl, rfl⟩
  · refine vx_iload_n IG dc_JM_max_II_5 rfl 0 rfl ?_
    refine vx_goto (tgt := 10) IG dc_JM_max_II_6 (by decide) ?_
    refine vx_ret (some (.int a)) RG (vx_endi (by first | rfl | decide) dc_JM_max_II_10) rfl ?_
    exact ⟨by rw [if_neg c], rfl, rfl, rfl⟩
set_option maxRecDepth 100000 in
set_option maxHeartbeats 4000000 in
/-- Arrays.copyOf of a row of longs to a longer one -/
theorem cJA_copyOf (h : vx_h) {cJ : ClassId} (t0 : Nat) (ht : tys[t0]? = some (cJ, .long)) {a len N : Nat} {f : Nat → Int64} (he : h a = some (.inl (cJ, len, .inr (.inl f)))) (hlt : len < N) (hN : N ≤ 8200) : vx_M l D vcl tys my_JA_copyOf lw_gd (rm_ 1 1 N 21) [.ref a, .int (nI N)] h (fun v h' k n => ∃ (q : Nat) (g : Nat → Int64), v = some (.ref q) ∧ h q = none ∧ h' = vx_up h q (.inl (cJ, N, .inr (.inl g))) ∧ (∀ i, i < len → g i = f i) ∧ k = 1 ∧ n = N) := by
  refine vx_M.ofV (cc := bc_JA_copyOf) (maxL := 3) (ret := some (.array .long)) (own := "java/util/Arrays") false rfl (by decide +kernel) wC_JA_copyOf (fun q => by cases q) (Nat.le_of_ble_eq_true rfl) (fun A H0 G IG RG => ?_)
  show vx_V _ _ _ _ _ _ _ _ _ 0 [(0, .ref a), (1, .int (nI N))] []
  have c1 : (nI N).toNatClampNeg = N := nI_clamp (by omega)
  have c2 : (nI len).toNatClampNeg = len := nI_clamp (by omega)
  refine vx_iload_n IG dc_JA_copyOf_0 rfl 1 rfl ?_
  refine vx_aload_n IG dc_JA_copyOf_1 rfl 0 rfl ?_
  refine vx_alen IG he t0 ht (v := nI len) rfl dc_JA_copyOf_2 ?_
  refine vx_icmp_ne (tgt := 14) IG dc_JA_copyOf_3 (by decide) (fun _ => ?_) (fun c_ => absurd c_ (fun q => by have := (nI_eq (a := N) (b := len) (by omega) (by omega)).mp q; omega))
  refine vx_iload_n IG dc_JA_copyOf_14 rfl 1 rfl ?_
  refine vx_newa (atype := .long) (ty := .long) IG wA_long rfl t0 ht (fun U c z => z) (N := N) (a0 := (N, .inr (.inl (fun _ => 0)))) (fun cA => rfl) (nI_pos (by omega)) c1 (by show N * 8 ≤ _; omega) (Nat.le_refl 1) (by show 0 + N ≤ N; omega) dc_JA_copyOf_15 (fun q hq => ?_)
  have hqa : a ≠ q := fun z => by rw [z, hq] at he; cases he
  have he0 : vx_up h q (.inl (cJ, N, .inr (.inl (fun _ => 0)))) a = some (.inl (cJ, len, .inr (.inl f))) := by rw [vx_up_n hqa]; exact he
  refine vx_astore_n (lv' := [(2, .ref q), (0, .ref a), (1, .int (nI N))]) IG dc_JA_copyOf_17 rfl (by decide) rfl ?_
  refine vx_aload_n IG dc_JA_copyOf_18 rfl 1 rfl ?_
  refine vx_iconst (v := 0) IG dc_JA_copyOf_19 (by decide) ?_
  refine vx_aload_n IG dc_JA_copyOf_20 rfl 0 rfl ?_
  refine vx_iconst (v := 0) IG dc_JA_copyOf_21 (by decide) ?_
  refine vx_aload_n IG dc_JA_copyOf_22 rfl 1 rfl ?_
  refine vx_alen IG he0 t0 ht (v := nI len) rfl dc_JA_copyOf_23 ?_
  refine vx_iload_n IG dc_JA_copyOf_24 rfl 2 rfl ?_
  refine vx_callS (As := [.int (nI len), .int (nI N)]) (st := [.int 0, .ref q, .int 0, .ref a]) IG lw_good (cJM_min _ (nI len) (nI N)) wC_JM_min wL_JA_304 wT_JM_min wX_JM 2 (by decide +kernel) rfl ⟨Nat.le_of_ble_eq_true rfl, Nat.le_of_ble_eq_true rfl⟩ ⟨by show 0 + 1 + 0 ≤ 1; omega, by show 0 + N + 0 ≤ N; omega⟩ rfl (Nat.le_of_ble_eq_true rfl) dc_JA_copyOf_25 (fun v h' k n hp => ?_)
  obtain ⟨rfl, rfl, rfl, rfl⟩ := hp
  rw [if_neg (nI_nlt (Nat.le_of_lt hlt) (by omega))]
  show vx_V _ _ _ _ _ _ _ _ _ 28 [(2, .ref q), (0, .ref a), (1, .int (nI N))] [.int (nI len), .int 0, .ref q, .int 0, .ref a]
  refine vx_copyl IG wL_JA_150 wV_JS_arraycopy wT_JS_arraycopy wX_JS he0 vx_up_s t0 ht (by decide) (by decide) (nI_pos (by omega)) (by rw [c2]; show 0 + len ≤ len; omega) (by rw [c2]; show 0 + len ≤ N; omega) (Nat.le_refl 1) (Nat.le_of_ble_eq_true rfl) dc_JA_copyOf_28 ?_
  refine vx_aload_n IG dc_JA_copyOf_31 rfl 0 rfl ?_
  refine vx_ret (some (.ref q)) RG (vx_enda (by first | exact Or.inr ⟨_, rfl⟩ | exact Or.inl ⟨_, rfl⟩) dc_JA_copyOf_32) rfl ?_
  refine ⟨q, va_cpy f (fun _ => 0) 0 0 len, rfl, hq, ?_, fun i hi => pk_cpy_in (Nat.zero_le i) (by omega) |>.trans (by rw [Nat.zero_add, Nat.sub_zero]), rfl, by show 0 + N + 0 = N; omega⟩
  funext b
  rw [c2]
  by_cases z : b = q
  · subst z; rw [vx_up_s, vx_up_s]; rfl
  · rw [vx_up_n z, vx_up_n z, vx_up_n z]
end
end
section
/-! rows over the pool of Wholes -/
section
variable {l : Launch} {D : va_G} {tys : List (ClassId × FieldType)} {R : Room} {own : String} {cc : ByteArray} {nL : Nat} {ct : Bool} {A : Nat → Prop} {H0 : Heap} {G : vx_G} {h : vx_h} {k n pc : Nat} {lv : List (Nat × Value)} {st : List Value}
variable {cJ : ClassId} {L : List Nat} {r : vx_h} {ar cp : Nat → Nat} {cn : Nat → Int32} {fn : Nat → Nat → Int64} {p : Nat}
theorem wr_cnt (IG : vx_I l D vcl tys R own cc nL lw_gd ct A H0 G) (HR : rw_at 2 cJ L r ar cp cn fn h) (hp : p ∈ L) {index : Nat} (hm : Cond.fieldLink own index rW "count" "I" ∈ lw_gd) (hd : decode cc pc = .ok (.getfield index, 3)) (K : vx_V D vcl A H0 nL G h k n (pc + 3) lv (.int (cn p) :: st)) : vx_V D vcl A H0 nL G h k n pc lv (.ref p :: st) :=
  vx_get IG (rw_obj HR hp) rfl 1 (by decide) inW hm rfl rfl hd K
theorem wr_dig (IG : vx_I l D vcl tys R own cc nL lw_gd ct A H0 G) (HR : rw_at 2 cJ L r ar cp cn fn h) (hp : p ∈ L) {index : Nat} (hm : Cond.fieldLink own index rW "digits" "[J" ∈ lw_gd) (hd : decode cc pc = .ok (.getfield index, 3)) (K : vx_V D vcl A H0 nL G h k n (pc + 3) lv (.ref (ar p) :: st)) : vx_V D vcl A H0 nL G h k n pc lv (.ref p :: st) :=
  vx_get IG (rw_obj HR hp) rfl 0 (by decide) inW hm rfl rfl hd K
theorem wr_setc (IG : vx_I l D vcl tys R own cc nL lw_gd ct A H0 G) (HR : rw_at 2 cJ L r ar cp cn fn h) (hp : p ∈ L) {c : Int32} {index : Nat} (hm : Cond.fieldLink own index rW "count" "I" ∈ lw_gd) (hd : decode cc pc = .ok (.putfield index, 3)) (K : ∀ h' : vx_h, rw_at 2 cJ L r ar cp (va_up cn p c) fn h' → vx_V D vcl A H0 nL G h' k n (pc + 3) lv st) : vx_V D vcl A H0 nL G h k n pc lv (.int c :: .ref p :: st) :=
  vx_put IG (rw_obj HR hp) rfl 1 (by decide) inW fW tyW nmW hm rfl rfl (ty := .int) (by decide +kernel) rfl rfl (Nat.le_of_ble_eq_true rfl) hd (K _ (rw_cn HR hp c))
theorem wr_setd (IG : vx_I l D vcl tys R own cc nL lw_gd ct A H0 G) (HR : rw_at 2 cJ L r ar cp cn fn h) (hp : p ∈ L) {a c : Nat} {g : Nat → Int64} (ha : h a = none) (hc : 4 ≤ c) (hc2 : c ≤ 8200) {index : Nat} (hm : Cond.fieldLink own index rW "digits" "[J" ∈ lw_gd) (hd : decode cc pc = .ok (.putfield index, 3)) (K : ∀ h' : vx_h, rw_at 2 cJ L r (va_up ar p a) (va_up cp p c) cn (va_up fn p g) h' → vx_V D vcl A H0 nL G h' k n (pc + 3) lv st) : vx_V D vcl A H0 nL G (vx_up h a (.inl (cJ, c, .inr (.inl g)))) k n pc lv (.ref a :: .ref p :: st) := by
  have hpa : p ≠ a := fun z => by rw [← z, rw_obj HR hp] at ha; cases ha
  have ho : vx_up h a (.inl (cJ, c, .inr (.inl g))) p = some (.inr (2, [.ref (ar p), .int (cn p)])) := by rw [vx_up_n hpa]; exact rw_obj HR hp
  exact vx_put IG ho rfl 0 (by decide) inW fW tyW nmW hm rfl rfl (ty := .array .long) (by decide +kernel) rfl rfl (Nat.le_of_ble_eq_true rfl) hd (K _ (rw_new HR hp ha hc hc2 g))
theorem wr_ald (IG : vx_I l D vcl tys R own cc nL lw_gd ct A H0 G) (HR : rw_at 2 cJ L r ar cp cn fn h) (hp : p ∈ L) (ht : tys[0]? = some (cJ, .long)) {i : Int32} (j : Nat) (hi : i = nI j) (hj : j < cp p) (hd : decode cc pc = .ok (.laload, 1)) (K : vx_V D vcl A H0 nL G h k n (pc + 1) lv (.long (fn p j) :: st)) : vx_V D vcl A H0 nL G h k n pc lv (.int i :: .ref (ar p) :: st) := by
  have hc := rw_cap HR hp
  subst hi
  exact vx_lald IG (rw_row HR hp) 0 ht (vp_in_nI hj (by omega)) (by rw [nI_clamp (by omega)]) hd K
theorem wr_ast (IG : vx_I l D vcl tys R own cc nL lw_gd ct A H0 G) (HR : rw_at 2 cJ L r ar cp cn fn h) (hp : p ∈ L) (ht : tys[0]? = some (cJ, .long)) {i : Int32} {x : Int64} (j : Nat) (hi : i = nI j) (hj : j < cp p) (hd : decode cc pc = .ok (.lastore, 1)) (K : ∀ h' : vx_h, rw_at 2 cJ L r ar cp cn (va_up fn p (vp_updL (fn p) j x)) h' → vx_V D vcl A H0 nL G h' k n (pc + 1) lv st) : vx_V D vcl A H0 nL G h k n pc lv (.long x :: .int i :: .ref (ar p) :: st) := by
  have hc := rw_cap HR hp
  subst hi
  refine vx_last IG (rw_row HR hp) 0 ht (vp_in_nI hj (by omega)) hd ?_
  rw [nI_clamp (by omega)]
  exact K _ (rw_fn HR hp _)
theorem wr_len (IG : vx_I l D vcl tys R own cc nL lw_gd ct A H0 G) (HR : rw_at 2 cJ L r ar cp cn fn h) (hp : p ∈ L) (ht : tys[0]? = some (cJ, .long)) (hd : decode cc pc = .ok (.arraylength, 1)) (K : vx_V D vcl A H0 nL G h k n (pc + 1) lv (.int (nI (cp p)) :: st)) : vx_V D vcl A H0 nL G h k n pc lv (.ref (ar p) :: st) :=
  vx_alen IG (rw_row HR hp) 0 ht rfl hd K
end
end
section
/-! Whole: trim, room, clear, load, isZero, digitAt, widen, copy -/
theorem bB1 : 1 < 4294967296 := by decide
theorem nI_max {a b : Nat} (ha : a < 2 ^ 31) (hb : b < 2 ^ 31) : (if nI a < nI b then nI b else nI a) = nI (max a b) := by
  by_cases z : a < b
  · rw [if_pos (nI_lt z hb), Nat.max_eq_right (by omega)]
  · rw [if_neg (nI_nlt (by omega) ha), Nat.max_eq_left (by omega)]
section
variable {l : Launch} {D : va_G} {tys : List (ClassId × FieldType)} {cJ : ClassId} {L : List Nat} {r : vx_h} {ar cp : Nat → Nat} {cn : Nat → Int32} {fn : Nat → Nat → Int64} {p : Nat} {h : vx_h}
set_option maxRecDepth 100000 in
set_option maxHeartbeats 4000000 in
/-- trim(n): the count becomes that of the number which the n lowest places hold -/
theorem cW_trim (HR : rw_at 2 cJ L r ar cp cn fn h) (hp : p ∈ L) (ht : tys[0]? = some (cJ, .long)) {n : Nat} (hn : n ≤ cp p) (d : Nat → Nat) (hd : ∀ i, i < n → d i < 4294967296 ∧ fn p i = lN (d i)) : vx_M l D vcl tys my_W_trim lw_gd (rm_ 0 0 0 0) [.ref p, .int (nI n)] h (fun v h' k m => v = none ∧ k = 0 ∧ m = 0 ∧ rw_at 2 cJ L r ar cp (va_up cn p (nI (nd 4294967296 (vl 4294967296 d n)))) fn h') := by
  have hc := rw_cap HR hp
  refine vx_M.ofV (cc := bc_W_trim) (maxL := 2) (ret := none) (own := rW) false rfl (by decide +kernel) wC_W_trim (fun q => by cases q) (Nat.le_of_ble_eq_true rfl) (fun A H0 G IG RG => ?_)
  show vx_V _ _ _ _ _ _ _ _ _ 0 [(0, .ref p), (1, .int (nI n))] []
  have loop : ∀ (c : Nat), c ≤ n → vl 4294967296 d c = vl 4294967296 d n → ∀ (h : vx_h) (cn1 : Nat → Int32), cn1 = va_up cn p (nI c) → rw_at 2 cJ L r ar cp cn1 fn h → vx_V D vcl A H0 2 G h 0 0 5 [(0, .ref p), (1, .int (nI n))] [] := by
    intro c
    induction c with
    | zero =>
      intro hcn hv h cn1 e HR
      have ec : cn1 p = nI 0 := by rw [e, va_up_self]
      refine vx_aload_n IG dc_W_trim_5 rfl 0 rfl ?_
      refine wr_cnt IG HR hp wF_W_15 dc_W_trim_6 ?_
      refine vx_topi (y := nI 0) ec ?_
      refine vx_if_le (tgt := 41) IG dc_W_trim_9 (by decide) (fun _ => ?_) (fun c_ => absurd (by decide) c_)
      refine vx_ret none RG (vx_endv dc_W_trim_41) rfl ?_
      refine ⟨rfl, rfl, rfl, ?_⟩
      rw [← hv, show nd 4294967296 (vl 4294967296 d 0) = 0 from rfl, ← e]
      exact HR
    | succ c ih =>
      intro hcn hv h cn1 e HR
      have ec : cn1 p = nI (c + 1) := by rw [e, va_up_self]
      have hdc := hd c (by omega)
      refine vx_aload_n IG dc_W_trim_5 rfl 0 rfl ?_
      refine wr_cnt IG HR hp wF_W_15 dc_W_trim_6 ?_
      refine vx_topi (y := nI (c + 1)) ec ?_
      refine vx_if_le (tgt := 41) IG dc_W_trim_9 (by decide) (fun c_ => absurd c_ (nI_nle (by omega) (by omega))) (fun _ => ?_)
      refine vx_aload_n IG dc_W_trim_12 rfl 0 rfl ?_
      refine wr_dig IG HR hp wF_W_11 dc_W_trim_13 ?_
      refine vx_aload_n IG dc_W_trim_16 rfl 0 rfl ?_
      refine wr_cnt IG HR hp wF_W_15 dc_W_trim_17 ?_
      refine vx_iconst (v := 1) IG dc_W_trim_20 (by decide) ?_
      refine vx_isub IG dc_W_trim_21 ?_
      refine vx_topi (y := nI c) (by rw [ec]; exact nI_pred c) ?_
      refine wr_ald IG HR hp ht c rfl (by omega) dc_W_trim_22 ?_
      refine vx_topl (y := lN (d c)) hdc.2 ?_
      refine vx_lconst (v := 0) IG dc_W_trim_23 (by decide) ?_
      refine vx_lcmp IG dc_W_trim_24 ?_
      by_cases hz : d c = 0
      · refine vx_if_ne (tgt := 41) IG dc_W_trim_25 (by decide) (fun c_ => absurd ((lg_cmp_eq _ _).mpr (by rw [hz]; rfl)) c_) (fun _ => ?_)
        refine vx_aload_n IG dc_W_trim_28 rfl 0 rfl ?_
        refine vx_dup IG dc_W_trim_29 rfl ?_
        refine wr_cnt IG HR hp wF_W_15 dc_W_trim_30 ?_
        refine vx_iconst (v := 1) IG dc_W_trim_33 (by decide) ?_
        refine vx_isub IG dc_W_trim_34 ?_
        refine vx_topi (y := nI c) (by rw [ec]; exact nI_pred c) ?_
        refine wr_setc IG HR hp wF_W_15 dc_W_trim_35 (fun h HR => ?_)
        obtain ⟨cn2, e_cn2⟩ : ∃ z, z = va_up cn1 p (nI c) := ⟨_, rfl⟩
        rw [← e_cn2] at HR
        refine vx_goto (tgt := 5) IG dc_W_trim_38 (by decide) ?_
        refine ih (by omega) ?_ h cn2 ?_ HR
        · rw [← hv, vl_succ, hz]; simp
        · rw [e_cn2, e]; exact bx_uu cn p _ _
      · refine vx_if_ne (tgt := 41) IG dc_W_trim_25 (by decide) (fun _ => ?_) (fun c_ => absurd c_ (fun q => hz (ln_eq (by omega) (by decide) ((lg_cmp_eq _ _).mp q))))
        refine vx_ret none RG (vx_endv dc_W_trim_41) rfl ?_
        refine ⟨rfl, rfl, rfl, ?_⟩
        rw [← hv, nd_vl bB1 (fun i hi => (hd i (by omega)).1) (Or.inr (by simpa using hz)), ← e]
        exact HR
  refine vx_aload_n IG dc_W_trim_0 rfl 0 rfl ?_
  refine vx_iload_n IG dc_W_trim_1 rfl 1 rfl ?_
  refine wr_setc IG HR hp wF_W_15 dc_W_trim_2 (fun h HR => ?_)
  obtain ⟨cn1, e_cn1⟩ : ∃ z, z = va_up cn p (nI n) := ⟨_, rfl⟩
  rw [← e_cn1] at HR
  exact loop n (Nat.le_refl n) rfl h cn1 e_cn1 HR
set_option maxRecDepth 100000 in
set_option maxHeartbeats 4000000 in
/-- room(n): the row has n places or more, what it held stays -/
theorem cW_room (HR : rw_at 2 cJ L r ar cp cn fn h) (hL : L.Nodup) (hp : p ∈ L) (ht : tys[0]? = some (cJ, .long)) {n C S : Nat} (hn : n ≤ 4100) (hC : pc_ cp L ≤ C) (hS : ph cp L ≤ S) : vx_M l D vcl tys my_W_room lw_gd (rm_ 2 C S 43) [.ref p, .int (nI n)] h (fun v h' k m => v = none ∧ ∃ (ar' cp' : Nat → Nat) (fn' : Nat → Nat → Int64), rw_at 2 cJ L r ar' cp' cn fn' h' ∧ (∀ q, q ≠ p → cp' q = cp q ∧ fn' q = fn q) ∧ n ≤ cp' p ∧ cp p ≤ cp' p ∧ (∀ i, i < cp p → fn' p i = fn p i) ∧ k + pc_ cp' L ≤ pc_ cp L ∧ m + ph cp' L ≤ ph cp L) := by
  have hc := rw_cap HR hp
  refine vx_M.ofV (cc := bc_W_room) (maxL := 2) (ret := none) (own := rW) false rfl (by decide +kernel) wC_W_room (fun q => by cases q) (Nat.le_of_ble_eq_true rfl) (fun A H0 G IG RG => ?_)
  show vx_V _ _ _ _ _ _ _ _ _ 0 [(0, .ref p), (1, .int (nI n))] []
  refine vx_iload_n IG dc_W_room_0 rfl 1 rfl ?_
  refine vx_aload_n IG dc_W_room_1 rfl 0 rfl ?_
  refine wr_dig IG HR hp wF_W_11 dc_W_room_2 ?_
  refine wr_len IG HR hp ht dc_W_room_5 ?_
  by_cases hle : n ≤ cp p
  · refine vx_icmp_le (tgt := 31) IG dc_W_room_6 (by decide) (fun _ => ?_) (fun c_ => absurd (nI_le hle (by omega)) c_)
    refine vx_ret none RG (vx_endv dc_W_room_31) rfl ?_
    exact ⟨rfl, ar, cp, fn, HR, fun q _ => ⟨rfl, rfl⟩, hle, Nat.le_refl _, fun i _ => rfl, by omega, by omega⟩
  · refine vx_icmp_le (tgt := 31) IG dc_W_room_6 (by decide) (fun c_ => absurd c_ (nI_ge (by omega) (by omega))) (fun _ => ?_)
    have hN1 : 2 * cp p ≤ max n (2 * cp p) := Nat.le_max_right _ _
    have hN2 : n ≤ max n (2 * cp p) := Nat.le_max_left _ _
    have hN3 : max n (2 * cp p) ≤ 8200 := Nat.max_le.mpr ⟨by omega, by omega⟩
    obtain ⟨N, eN⟩ : ∃ N, N = max n (2 * cp p) := ⟨_, rfl⟩
    rw [← eN] at hN1 hN2 hN3
    have k1 := pc_up hL hp hc.1 hN1 hN3
    have k2 := ph_up hL hp hN1 hN3
    refine vx_aload_n IG dc_W_room_9 rfl 0 rfl ?_
    refine vx_aload_n IG dc_W_room_10 rfl 0 rfl ?_
    refine wr_dig IG HR hp wF_W_11 dc_W_room_11 ?_
    refine vx_iload_n IG dc_W_room_14 rfl 1 rfl ?_
    refine vx_iconst (v := 2) IG dc_W_room_15 (by decide) ?_
    refine vx_aload_n IG dc_W_room_16 rfl 0 rfl ?_
    refine wr_dig IG HR hp wF_W_11 dc_W_room_17 ?_
    refine wr_len IG HR hp ht dc_W_room_20 ?_
    refine vx_imul IG dc_W_room_21 ?_
    refine vx_topi (y := nI (2 * cp p)) (pk_mul 2 (cp p)) ?_
    refine vx_callS (As := [.int (nI n), .int (nI (2 * cp p))]) (st := [.ref (ar p), .ref p]) IG lw_good (cJM_max _ (nI n) (nI (2 * cp p))) wC_JM_max_II wL_W_19 wT_JM_max_II wX_JM 2 (by decide +kernel) rfl ⟨Nat.le_of_ble_eq_true rfl, Nat.le_of_ble_eq_true rfl⟩ ⟨(by show 0 + 0 ≤ C; omega), (by show 0 + 0 ≤ S; omega)⟩ rfl (Nat.le_of_ble_eq_true rfl) dc_W_room_22 (fun v h k_ n_ hq => ?_)
    obtain ⟨rfl, rfl, rfl, rfl⟩ := hq
    show vx_V _ _ _ _ _ _ _ _ _ 25 [(0, .ref p), (1, .int (nI n))] [.int (if nI n < nI (2 * cp p) then nI (2 * cp p) else nI n), .ref (ar p), .ref p]
    refine vx_topi (y := nI N) (by rw [eN]; exact nI_max (by omega) (by omega)) ?_
    refine vx_callS (As := [.ref (ar p), .int (nI N)]) (st := [.ref p]) IG lw_good (cJA_copyOf _ 0 ht (rw_row HR hp) (N := N) (by omega) hN3) wC_JA_copyOf wL_W_25 wT_JA_copyOf wX_JA 2 (by decide +kernel) rfl ⟨Nat.le_of_ble_eq_true rfl, Nat.le_of_ble_eq_true rfl⟩ ⟨(by show 0 + 0 + 1 ≤ C; omega), (by show 0 + 0 + N ≤ S; omega)⟩ rfl (Nat.le_of_ble_eq_true rfl) dc_W_room_25 (fun v h k_ n_ hq => ?_)
    obtain ⟨a, g, rfl, ha, rfl, hg, rfl, rfl⟩ := hq
    show vx_V _ _ _ _ _ _ _ _ _ 28 [(0, .ref p), (1, .int (nI n))] [.ref a, .ref p]
    refine wr_setd IG HR hp ha (by omega) hN3 wF_W_11 dc_W_room_28 (fun h HR => ?_)
    refine vx_ret none RG (vx_endv dc_W_room_31) rfl ?_
    refine ⟨rfl, _, _, _, HR, fun q z => ⟨va_up_ne _ _ z, va_up_ne _ _ z⟩, ?_, ?_, ?_, ?_, ?_⟩
    · rw [va_up_self]; omega
    · rw [va_up_self]; omega
    · intro i hi; rw [va_up_self]; exact hg i hi
    · omega
    · omega
set_option maxRecDepth 100000 in
set_option maxHeartbeats 4000000 in
/-- clear() -/
theorem cW_clear (HR : rw_at 2 cJ L r ar cp cn fn h) (hp : p ∈ L) : vx_M l D vcl tys my_W_clear lw_gd (rm_ 0 0 0 0) [.ref p] h (fun v h' k m => v = none ∧ k = 0 ∧ m = 0 ∧ rw_at 2 cJ L r ar cp (va_up cn p 0) fn h') := by
  refine vx_M.ofV (cc := bc_W_clear) (maxL := 1) (ret := none) (own := rW) false rfl (by decide +kernel) wC_W_clear (fun q => by cases q) (Nat.le_of_ble_eq_true rfl) (fun A H0 G IG RG => ?_)
  show vx_V _ _ _ _ _ _ _ _ _ 0 [(0, .ref p)] []
  refine vx_aload_n IG dc_W_clear_0 rfl 0 rfl ?_
  refine vx_iconst (v := 0) IG dc_W_clear_1 (by decide) ?_
  refine wr_setc IG HR hp wF_W_15 dc_W_clear_2 (fun h HR => ?_)
  obtain ⟨cn1, e_cn1⟩ : ∃ z, z = va_up cn p 0 := ⟨_, rfl⟩
  rw [← e_cn1] at HR
  refine vx_ret none RG (vx_endv dc_W_clear_5) rfl ?_
  exact ⟨rfl, rfl, rfl, by rw [← e_cn1]; exact HR⟩
set_option maxRecDepth 100000 in
set_option maxHeartbeats 4000000 in
/-- isZero() -/
theorem cW_isZero (HR : rw_at 2 cJ L r ar cp cn fn h) (hp : p ∈ L) {c : Nat} (hcn : cn p = nI c) (hc2 : c < 2 ^ 31) : vx_M l D vcl tys my_W_isZero lw_gd (rm_ 0 0 0 0) [.ref p] h (fun v h' k m => v = some (.int (if c = 0 then 1 else 0)) ∧ h' = h ∧ k = 0 ∧ m = 0) := by
  refine vx_M.ofV (cc := bc_W_isZero) (maxL := 1) (ret := some .boolean) (own := rW) false rfl (by decide +kernel) wC_W_isZero (fun q => by cases q) (Nat.le_of_ble_eq_true rfl) (fun A H0 G IG RG => ?_)
  show vx_V _ _ _ _ _ _ _ _ _ 0 [(0, .ref p)] []
  refine vx_aload_n IG dc_W_isZero_0 rfl 0 rfl ?_
  refine wr_cnt IG HR hp wF_W_15 dc_W_isZero_1 ?_
  refine vx_topi (y := nI c) hcn ?_
  by_cases z : c = 0
  · refine vx_if_ne (tgt := 11) IG dc_W_isZero_4 (by decide) (fun c_ => absurd (by rw [z]; rfl) c_) (fun _ => ?_)
    refine vx_iconst (v := 1) IG dc_W_isZero_7 (by decide) ?_
    refine vx_goto (tgt := 12) IG dc_W_isZero_8 (by decide) ?_
    refine vx_ret (some (.int 1)) RG (vx_endi (by first | rfl | decide) dc_W_isZero_12) rfl ?_
    exact ⟨by rw [if_pos z], rfl, rfl, rfl⟩
  · refine vx_if_ne (tgt := 11) IG dc_W_isZero_4 (by decide) (fun _ => ?_) (fun c_ => absurd c_ (nI_ne0 (by omega) hc2))
    refine vx_iconst (v := 0) IG dc_W_isZero_11 (by decide) ?_
    refine vx_ret (some (.int 0)) RG (vx_endi (by first | rfl | decide) dc_W_isZero_12) rfl ?_
    exact ⟨by rw [if_neg z], rfl, rfl, rfl⟩
set_option maxRecDepth 100000 in
set_option maxHeartbeats 4000000 in
/-- digitAt(k) of a Whole that holds N -/
theorem cW_digitAt (HR : rw_at 2 cJ L r ar cp cn fn h) (hp : p ∈ L) (ht : tys[0]? = some (cJ, .long)) {N : Nat} (hv : wv cp cn fn p N) {j : Nat} (hj : j < 2 ^ 31) : vx_M l D vcl tys my_W_digitAt lw_gd (rm_ 0 0 0 0) [.ref p, .int (nI j)] h (fun v h' k m => v = some (.long (lN (dg 4294967296 N j))) ∧ h' = h ∧ k = 0 ∧ m = 0) := by
  have hc := rw_cap HR hp
  have hv2 := hv.2.1
  refine vx_M.ofV (cc := bc_W_digitAt) (maxL := 2) (ret := some .long) (own := rW) false rfl (by decide +kernel) wC_W_digitAt (fun q => by cases q) (Nat.le_of_ble_eq_true rfl) (fun A H0 G IG RG => ?_)
  show vx_V _ _ _ _ _ _ _ _ _ 0 [(0, .ref p), (1, .int (nI j))] []
  refine vx_iload_n IG dc_W_digitAt_0 rfl 1 rfl ?_
  refine vx_if_lt (tgt := 21) IG dc_W_digitAt_1 (by decide) (fun c_ => absurd c_ (nI_pos hj)) (fun _ => ?_)
  refine vx_iload_n IG dc_W_digitAt_4 rfl 1 rfl ?_
  refine vx_aload_n IG dc_W_digitAt_5 rfl 0 rfl ?_
  refine wr_cnt IG HR hp wF_W_15 dc_W_digitAt_6 ?_
  refine vx_topi (y := nI (nd 4294967296 N)) hv.1 ?_
  by_cases z : j < nd 4294967296 N
  · refine vx_icmp_ge (tgt := 21) IG dc_W_digitAt_9 (by decide) (fun c_ => absurd c_ (nI_ge z (by omega))) (fun _ => ?_)
    refine vx_aload_n IG dc_W_digitAt_12 rfl 0 rfl ?_
    refine wr_dig IG HR hp wF_W_11 dc_W_digitAt_13 ?_
    refine vx_iload_n IG dc_W_digitAt_16 rfl 1 rfl ?_
    refine wr_ald IG HR hp ht j rfl (by omega) dc_W_digitAt_17 ?_
    refine vx_topl (y := lN (dg 4294967296 N j)) (hv.2.2 j z) ?_
    refine vx_goto (tgt := 22) IG dc_W_digitAt_18 (by decide) ?_
    refine vx_ret (some (.long (lN (dg 4294967296 N j)))) RG (vx_endl dc_W_digitAt_22) rfl ?_
    exact ⟨rfl, rfl, rfl, rfl⟩
  · refine vx_icmp_ge (tgt := 21) IG dc_W_digitAt_9 (by decide) (fun _ => ?_) (fun c_ => absurd (nI_le (by omega) hj) c_)
    refine vx_lconst (v := 0) IG dc_W_digitAt_21 (by decide) ?_
    refine vx_ret (some (.long 0)) RG (vx_endl dc_W_digitAt_22) rfl ?_
    exact ⟨by rw [dg_big (Nat.lt_of_lt_of_le (lt_nd bB1 N) (Nat.pow_le_pow_right (by decide) (by omega)))]; rfl, rfl, rfl, rfl⟩
end
end
section
/-! the pool by its numbers; load, copy, widen -/
/-- the pool holds the numbers V; what its rows may still cost is at most C cells of S slots -/
def pool (cJ : ClassId) (L : List Nat) (r : vx_h) (V : Nat → Nat) (h : vx_h) (C S : Nat) : Prop := ∃ (ar cp : Nat → Nat) (cn : Nat → Int32) (fn : Nat → Nat → Int64), rw_at 2 cJ L r ar cp cn fn h ∧ (∀ q ∈ L, wv cp cn fn q (V q)) ∧ pc_ cp L ≤ C ∧ ph cp L ≤ S
/-- the end of a method that gives p the number N -/
def pend (cJ : ClassId) (L : List Nat) (r : vx_h) (V : Nat → Nat) (C S : Nat) (v0 : Option Value) : Option Value → vx_h → Nat → Nat → Prop := fun v h' k m => v = v0 ∧ ∃ C' S', pool cJ L r V h' C' S' ∧ k + C' ≤ C ∧ m + S' ≤ S
section
variable {l : Launch} {D : va_G} {tys : List (ClassId × FieldType)} {cJ : ClassId} {L : List Nat} {r : vx_h} {ar cp : Nat → Nat} {cn : Nat → Int32} {fn : Nat → Nat → Int64} {p : Nat} {h : vx_h} {V : Nat → Nat} {C S : Nat}
theorem wv_trim {cn' : Nat → Int32} {n : Nat} {d : Nat → Nat} (hd : ∀ i, i < n → d i < 4294967296 ∧ fn p i = lN (d i)) (hn : n ≤ cp p) (hc : cn' p = nI (nd 4294967296 (vl 4294967296 d n))) : wv cp cn' fn p (vl 4294967296 d n) := by
  have h1 : nd 4294967296 (vl 4294967296 d n) ≤ n := (nd_le bB1).mpr (vl_lt bB1 (fun i hi => (hd i hi).1))
  exact ⟨hc, Nat.le_trans h1 hn, fun i hi => by rw [dg_vl bB1 (fun i hi => (hd i hi).1) (by omega)]; exact (hd i (by omega)).2⟩
theorem wv_same {cp' : Nat → Nat} {cn' : Nat → Int32} {fn' : Nat → Nat → Int64} {q N : Nat} (hv : wv cp cn fn q N) (h1 : cp' q = cp q) (h2 : cn' q = cn q) (h3 : fn' q = fn q) : wv cp' cn' fn' q N := by
  unfold wv
  rw [h1, h2, h3]
  exact hv
theorem pool_end {ar' cp' : Nat → Nat} {cn' : Nat → Int32} {fn' : Nat → Nat → Int64} {h' : vx_h} {k m N : Nat} {v0 : Option Value} (hV : ∀ q ∈ L, wv cp cn fn q (V q)) (HR : rw_at 2 cJ L r ar' cp' cn' fn' h') (ho : ∀ q, q ≠ p → cp' q = cp q ∧ cn' q = cn q ∧ fn' q = fn q) (hN : wv cp' cn' fn' p N) (hk : k + pc_ cp' L ≤ C) (hm : m + ph cp' L ≤ S) : pend cJ L r (va_up V p N) C S v0 v0 h' k m := by
  refine ⟨rfl, pc_ cp' L, ph cp' L, ⟨ar', cp', cn', fn', HR, fun q hq => ?_, Nat.le_refl _, Nat.le_refl _⟩, hk, hm⟩
  by_cases z : q = p
  · subst z
    rw [va_up_self]
    exact hN
  · rw [va_up_ne _ _ z]
    exact wv_same (hV q hq) (ho q z).1 (ho q z).2.1 (ho q z).2.2
theorem nI_dig {N : Nat} (hv : wv cp cn fn p N) (HR : rw_at 2 cJ L r ar cp cn fn h) (hp : p ∈ L) : nd 4294967296 N ≤ 8200 := Nat.le_trans hv.2.1 (rw_cap HR hp).2
set_option maxRecDepth 100000 in
set_option maxHeartbeats 4000000 in
/-- load(bits): the number that the 64 bits are -/
theorem cW_load (HP : pool cJ L r V h C S) (hp : p ∈ L) (ht : tys[0]? = some (cJ, .long)) {b : Nat} (hb : b < 18446744073709551616) : vx_M l D vcl tys my_W_load lw_gd (rm_ 1 C S 21) [.ref p, .long (lN b)] h (pend cJ L r (va_up V p b) C S none) := by
  obtain ⟨ar, cp, cn, fn, HR, hV, hC, hS⟩ := HP
  have hc := rw_cap HR hp
  refine vx_M.ofV (cc := bc_W_load) (maxL := 3) (ret := none) (own := rW) false rfl (by decide +kernel) wC_W_load (fun q => by cases q) (Nat.le_of_ble_eq_true rfl) (fun A H0 G IG RG => ?_)
  show vx_V _ _ _ _ _ _ _ _ _ 0 [(0, .ref p), (1, .long (lN b))] []
  refine vx_aload_n IG dc_W_load_0 rfl 0 rfl ?_
  refine wr_dig IG HR hp wF_W_11 dc_W_load_1 ?_
  refine vx_iconst (v := 0) IG dc_W_load_4 (by decide) ?_
  refine vx_lload_n IG dc_W_load_5 rfl 1 rfl ?_
  refine vx_ldc2 (v := 4294967295) IG (by decide +kernel) dc_W_load_6 ?_
  refine vx_land IG dc_W_load_9 ?_
  refine vx_topl (y := lN (b % 4294967296)) (ln_mask b) ?_
  refine wr_ast IG HR hp ht 0 rfl (by omega) dc_W_load_10 (fun h HR => ?_)
  obtain ⟨fn1, e_fn1⟩ : ∃ z, z = va_up fn p (vp_updL (fn p) 0 (lN (b % 4294967296))) := ⟨_, rfl⟩
  rw [← e_fn1] at HR
  refine vx_aload_n IG dc_W_load_11 rfl 0 rfl ?_
  refine wr_dig IG HR hp wF_W_11 dc_W_load_12 ?_
  refine vx_iconst (v := 1) IG dc_W_load_15 (by decide) ?_
  refine vx_lload_n IG dc_W_load_16 rfl 1 rfl ?_
  refine vx_bipush (v := 32) IG dc_W_load_17 (by decide) ?_
  refine vx_lushr (v := lN (b / 4294967296)) IG dc_W_load_19 (ln_shr32 hb) ?_
  refine wr_ast IG HR hp ht 1 rfl (by omega) dc_W_load_20 (fun h HR => ?_)
  obtain ⟨fn2, e_fn2⟩ : ∃ z, z = va_up fn1 p (vp_updL (fn1 p) 1 (lN (b / 4294967296))) := ⟨_, rfl⟩
  rw [← e_fn2] at HR
  refine vx_aload_n IG dc_W_load_21 rfl 0 rfl ?_
  refine vx_iconst (v := 2) IG dc_W_load_22 (by decide) ?_
  have hd : ∀ i, i < 2 → (fun i => if i = 0 then b % 4294967296 else b / 4294967296) i < 4294967296 ∧ fn2 p i = lN ((fun i => if i = 0 then b % 4294967296 else b / 4294967296) i) := by
    intro i hi
    rcases (show i = 0 ∨ i = 1 by omega) with rfl | rfl
    · refine ⟨by show b % 4294967296 < _; omega, ?_⟩
      rw [e_fn2, va_up_self, pk_uLn (by decide), e_fn1, va_up_self, pk_uLs]
      rfl
    · refine ⟨by show b / 4294967296 < _; omega, ?_⟩
      rw [e_fn2, va_up_self, pk_uLs]
      rfl
  refine vx_callV (As := [.int (nI 2)]) (st := []) IG lw_good (cW_trim HR hp ht (n := 2) (by omega) _ hd) (rw_obj HR hp) rfl wC_W_trim wL_W_37 wI_W_trim wS_W_trim wX_W 1 (by decide +kernel) rfl ⟨Nat.le_of_ble_eq_true rfl, Nat.le_of_ble_eq_true rfl⟩ ⟨(by show 0 + 0 ≤ C; omega), (by show 0 + 0 ≤ S; omega)⟩ rfl (Nat.le_of_ble_eq_true rfl) dc_W_load_23 (fun v h k_ n_ hq => ?_)
  obtain ⟨rfl, rfl, rfl, HR⟩ := hq
  show vx_V _ _ _ _ _ _ _ _ _ 26 [(0, .ref p), (1, .long (lN b))] []
  refine vx_ret none RG (vx_endv dc_W_load_26) rfl ?_
  have e : vl 4294967296 (fun i => if i = 0 then b % 4294967296 else b / 4294967296) 2 = b := by
    show 0 + b % 4294967296 * 4294967296 ^ 0 + b / 4294967296 * 4294967296 ^ 1 = b
    omega
  have hw := wv_trim (cp := cp) (cn' := va_up cn p (nI (nd 4294967296 (vl 4294967296 (fun i => if i = 0 then b % 4294967296 else b / 4294967296) 2)))) hd (by omega) (va_up_self _ _ _)
  rw [e] at HR hw
  refine pool_end (p := p) hV HR (fun q z => ⟨rfl, va_up_ne _ _ z, ?_⟩) hw (by omega) (by omega)
  rw [e_fn2, va_up_ne _ _ z, e_fn1, va_up_ne _ _ z]
theorem wr_copy {R : Room} {own : String} {cc : ByteArray} {nL : Nat} {ct : Bool} {A : Nat → Prop} {H0 : Heap} {G : vx_G} {k n pc : Nat} {lv : List (Nat × Value)} {st : List Value} {q : Nat} (IG : vx_I l D vcl tys R own cc nL lw_gd ct A H0 G) (HR : rw_at 2 cJ L r ar cp cn fn h) (hp : p ∈ L) (hq : q ∈ L) (ht : tys[0]? = some (cJ, .long)) {index : Nat} (hm : Cond.methodLink own index arraycopyName ∈ lw_gd) {c : Nat} (h4 : c ≤ cp q) (h5 : c ≤ cp p) (hfr : 1 ≤ R.frames) (hlo : (st.map fun v => v.category).sum + (nativeFrameWords "java/lang/System" "arraycopy" 5 + 11) ≤ R.locals) (hd : decode cc pc = .ok (.invokestatic index, 3)) (K : ∀ h' : vx_h, rw_at 2 cJ L r ar cp cn (va_up fn p (va_cpy (fn q) (fn p) 0 0 c)) h' → vx_V D vcl A H0 nL G h' k n (pc + 3) lv st) : vx_V D vcl A H0 nL G h k n pc lv (.int (nI c) :: .int 0 :: .ref (ar p) :: .int 0 :: .ref (ar q) :: st) := by
  have c1 := rw_cap HR hp
  have c2 : (nI c).toNatClampNeg = c := nI_clamp (by omega)
  refine vx_copyl IG hm wV_JS_arraycopy wT_JS_arraycopy wX_JS (rw_row HR hq) (rw_row HR hp) 0 ht (by decide) (by decide) (nI_pos (by omega)) (by rw [c2]; show 0 + c ≤ _; omega) (by rw [c2]; show 0 + c ≤ _; omega) hfr hlo hd ?_
  rw [c2]
  exact K _ (rw_fn HR hp _)
set_option maxRecDepth 100000 in
set_option maxHeartbeats 4000000 in
/-- copy(from) -/
theorem cW_copy (HP : pool cJ L r V h C S) (hL : L.Nodup) (hp : p ∈ L) {q : Nat} (hqL : q ∈ L) (ht : tys[0]? = some (cJ, .long)) (hsz : nd 4294967296 (V q) ≤ 4100) : vx_M l D vcl tys my_W_copy lw_gd (rm_ 3 C S 64) [.ref p, .ref q] h (pend cJ L r (va_up V p (V q)) C S none) := by
  obtain ⟨ar, cp, cn, fn, HR, hV, hC, hS⟩ := HP
  have hvq := hV q hqL
  refine vx_M.ofV (cc := bc_W_copy) (maxL := 2) (ret := none) (own := rW) false rfl (by decide +kernel) wC_W_copy (fun q => by cases q) (Nat.le_of_ble_eq_true rfl) (fun A H0 G IG RG => ?_)
  show vx_V _ _ _ _ _ _ _ _ _ 0 [(0, .ref p), (1, .ref q)] []
  refine vx_aload_n IG dc_W_copy_0 rfl 0 rfl ?_
  refine vx_aload_n IG dc_W_copy_1 rfl 1 rfl ?_
  refine wr_cnt IG HR hqL wF_W_15 dc_W_copy_2 ?_
  refine vx_topi (y := nI (nd 4294967296 (V q))) hvq.1 ?_
  refine vx_callV (As := [.int (nI (nd 4294967296 (V q)))]) (st := []) IG lw_good (cW_room HR hL hp ht hsz hC hS) (rw_obj HR hp) rfl wC_W_room wL_W_31 wI_W_room wS_W_room wX_W 1 (by decide +kernel) rfl ⟨Nat.le_of_ble_eq_true rfl, Nat.le_of_ble_eq_true rfl⟩ ⟨(by show 0 + C ≤ C; omega), (by show 0 + S ≤ S; omega)⟩ rfl (Nat.le_of_ble_eq_true rfl) dc_W_copy_5 (fun v h k_ n_ hq => ?_)
  obtain ⟨rfl, ar1, cp1, fn1, HR, ho, hn, hge, hsame, kc, ks⟩ := hq
  have hq1 : wv cp1 cn fn1 q (V q) := by
    by_cases z : q = p
    · subst z
      exact ⟨hvq.1, hn, fun i hi => by rw [hsame i (by have := hvq.2.1; omega)]; exact hvq.2.2 i hi⟩
    · exact wv_same hvq (ho q z).1 rfl (ho q z).2
  show vx_V _ _ _ _ _ _ _ _ _ 8 [(0, .ref p), (1, .ref q)] []
  refine vx_aload_n IG dc_W_copy_8 rfl 1 rfl ?_
  refine wr_dig IG HR hqL wF_W_11 dc_W_copy_9 ?_
  refine vx_iconst (v := 0) IG dc_W_copy_12 (by decide) ?_
  refine vx_aload_n IG dc_W_copy_13 rfl 0 rfl ?_
  refine wr_dig IG HR hp wF_W_11 dc_W_copy_14 ?_
  refine vx_iconst (v := 0) IG dc_W_copy_17 (by decide) ?_
  refine vx_aload_n IG dc_W_copy_18 rfl 1 rfl ?_
  refine wr_cnt IG HR hqL wF_W_15 dc_W_copy_19 ?_
  refine vx_topi (y := nI (nd 4294967296 (V q))) hq1.1 ?_
  refine wr_copy IG HR hp hqL ht wL_W_40 hq1.2.1 hn (Nat.le_of_ble_eq_true rfl) (Nat.le_of_ble_eq_true rfl) dc_W_copy_22 (fun h HR => ?_)
  obtain ⟨fn2, e_fn2⟩ : ∃ z, z = va_up fn1 p (va_cpy (fn1 q) (fn1 p) 0 0 (nd 4294967296 (V q))) := ⟨_, rfl⟩
  rw [← e_fn2] at HR
  refine vx_aload_n IG dc_W_copy_25 rfl 0 rfl ?_
  refine vx_aload_n IG dc_W_copy_26 rfl 1 rfl ?_
  refine wr_cnt IG HR hqL wF_W_15 dc_W_copy_27 ?_
  refine vx_topi (y := nI (nd 4294967296 (V q))) hq1.1 ?_
  refine wr_setc IG HR hp wF_W_15 dc_W_copy_30 (fun h HR => ?_)
  obtain ⟨cn2, e_cn2⟩ : ∃ z, z = va_up cn p (nI (nd 4294967296 (V q))) := ⟨_, rfl⟩
  rw [← e_cn2] at HR
  refine vx_ret none RG (vx_endv dc_W_copy_33) rfl ?_
  refine pool_end (p := p) hV HR (fun x z => ⟨(ho x z).1, ?_, ?_⟩) ⟨?_, hn, fun i hi => ?_⟩ (by omega) (by omega)
  · rw [e_cn2, va_up_ne _ _ z]
  · rw [e_fn2, va_up_ne _ _ z, (ho x z).2]
  · rw [e_cn2, va_up_self]
  · rw [e_fn2, va_up_self, pk_cpy_in (Nat.zero_le i) (by omega), Nat.zero_add, Nat.sub_zero]
    exact hq1.2.2 i hi
set_option maxRecDepth 100000 in
set_option maxHeartbeats 4000000 in
/-- widen(n): the places from the count on to n are 0 -/
theorem cW_widen (HR : rw_at 2 cJ L r ar cp cn fn h) (hL : L.Nodup) (hp : p ∈ L) (ht : tys[0]? = some (cJ, .long)) {n c : Nat} (hcn : cn p = nI c) (hc2 : c ≤ cp p) (hn : n ≤ 4100) (hC : pc_ cp L ≤ C) (hS : ph cp L ≤ S) : vx_M l D vcl tys my_W_widen lw_gd (rm_ 3 C S 64) [.ref p, .int (nI n)] h (fun v h' k m => v = none ∧ ∃ (ar' cp' : Nat → Nat) (fn' : Nat → Nat → Int64), rw_at 2 cJ L r ar' cp' cn fn' h' ∧ (∀ q, q ≠ p → cp' q = cp q ∧ fn' q = fn q) ∧ n ≤ cp' p ∧ cp p ≤ cp' p ∧ (∀ i, i < c → fn' p i = fn p i) ∧ (∀ i, c ≤ i → i < n → fn' p i = 0) ∧ k + pc_ cp' L ≤ pc_ cp L ∧ m + ph cp' L ≤ ph cp L) := by
  have hc := rw_cap HR hp
  refine vx_M.ofV (cc := bc_W_widen) (maxL := 3) (ret := none) (own := rW) false rfl (by decide +kernel) wC_W_widen (fun q => by cases q) (Nat.le_of_ble_eq_true rfl) (fun A H0 G IG RG => ?_)
  show vx_V _ _ _ _ _ _ _ _ _ 0 [(0, .ref p), (1, .int (nI n))] []
  refine vx_aload_n IG dc_W_widen_0 rfl 0 rfl ?_
  refine vx_iload_n IG dc_W_widen_1 rfl 1 rfl ?_
  refine vx_callV (As := [.int (nI n)]) (st := []) IG lw_good (cW_room HR hL hp ht hn hC hS) (rw_obj HR hp) rfl wC_W_room wL_W_31 wI_W_room wS_W_room wX_W 1 (by decide +kernel) rfl ⟨Nat.le_of_ble_eq_true rfl, Nat.le_of_ble_eq_true rfl⟩ ⟨(by show 0 + C ≤ C; omega), (by show 0 + S ≤ S; omega)⟩ rfl (Nat.le_of_ble_eq_true rfl) dc_W_widen_2 (fun v h k_ n_ hq => ?_)
  obtain ⟨rfl, ar1, cp1, fn1, HR, ho, hn1, hge, hsame, kc, ks⟩ := hq
  have hc1 := rw_cap HR hp
  show vx_V _ _ _ _ _ _ _ _ _ 5 [(0, .ref p), (1, .int (nI n))] []
  have loop : ∀ (m i : Nat), c ≤ i → n ≤ i + m → ∀ (h : vx_h) (fn2 : Nat → Nat → Int64), (∀ q, q ≠ p → fn2 q = fn1 q) → (∀ j, j < c → fn2 p j = fn1 p j) → (∀ j, c ≤ j → j < i → j < n → fn2 p j = 0) → i ≤ 8200 → rw_at 2 cJ L r ar1 cp1 cn fn2 h → vx_V D vcl A H0 3 G h (0 + k_) (0 + n_) 10 [(2, .int (nI i)), (0, .ref p), (1, .int (nI n))] [] := by
    intro m
    induction m with
    | zero =>
      intro i hci hin h fn2 f1 f2 f3 hi8 HR
      refine vx_iload_n IG dc_W_widen_10 rfl 0 rfl ?_
      refine vx_iload_n IG dc_W_widen_11 rfl 2 rfl ?_
      refine vx_icmp_ge (tgt := 28) IG dc_W_widen_12 (by decide) (fun _ => ?_) (fun c_ => absurd (nI_le (by omega) (by omega)) c_)
      refine vx_ret none RG (vx_endv dc_W_widen_28) rfl ?_
      exact ⟨rfl, ar1, cp1, fn2, HR, fun q z => ⟨(ho q z).1, (f1 q z).trans (ho q z).2⟩, hn1, hge, fun j hj => (f2 j hj).trans (hsame j (by omega)), fun j h1 h2 => f3 j h1 (by omega) h2, by omega, by omega⟩
    | succ m ih =>
      intro i hci hin h fn2 f1 f2 f3 hi8 HR
      refine vx_iload_n IG dc_W_widen_10 rfl 0 rfl ?_
      refine vx_iload_n IG dc_W_widen_11 rfl 2 rfl ?_
      by_cases z : n ≤ i
      · refine vx_icmp_ge (tgt := 28) IG dc_W_widen_12 (by decide) (fun _ => ?_) (fun c_ => absurd (nI_le z (by omega)) c_)
        refine vx_ret none RG (vx_endv dc_W_widen_28) rfl ?_
        exact ⟨rfl, ar1, cp1, fn2, HR, fun q z => ⟨(ho q z).1, (f1 q z).trans (ho q z).2⟩, hn1, hge, fun j hj => (f2 j hj).trans (hsame j (by omega)), fun j h1 h2 => f3 j h1 (by omega) h2, by omega, by omega⟩
      · refine vx_icmp_ge (tgt := 28) IG dc_W_widen_12 (by decide) (fun c_ => absurd c_ (nI_ge (by omega) (by omega))) (fun _ => ?_)
        refine vx_aload_n IG dc_W_widen_15 rfl 1 rfl ?_
        refine wr_dig IG HR hp wF_W_11 dc_W_widen_16 ?_
        refine vx_iload_n IG dc_W_widen_19 rfl 0 rfl ?_
        refine vx_lconst (v := 0) IG dc_W_widen_20 (by decide) ?_
        refine wr_ast IG HR hp ht i rfl (by omega) dc_W_widen_21 (fun h HR => ?_)
        obtain ⟨fn3, e_fn3⟩ : ∃ z, z = va_up fn2 p (vp_updL (fn2 p) i 0) := ⟨_, rfl⟩
        rw [← e_fn3] at HR
        refine vx_iinc (q := 0) (v := nI (i + 1)) (lv' := [(2, .int (nI (i + 1))), (0, .ref p), (1, .int (nI n))]) IG dc_W_widen_22 rfl (nI_1 i) (by decide) rfl ?_
        refine vx_goto (tgt := 10) IG dc_W_widen_25 (by decide) ?_
        refine vx_same (lv' := [(2, .int (nI (i + 1))), (0, .ref p), (1, .int (nI n))]) IG [0, 1, 2] rfl ?_
        refine ih (i + 1) (by omega) (by omega) h fn3 (fun q y => ?_) (fun j hj => ?_) (fun j h1 h2 h3 => ?_) (by omega) HR
        · rw [e_fn3, va_up_ne _ _ y]; exact f1 q y
        · rw [e_fn3, va_up_self, pk_uLn (by omega)]; exact f2 j hj
        · by_cases y : j = i
          · rw [y, e_fn3, va_up_self, pk_uLs]
          · rw [e_fn3, va_up_self, pk_uLn y]; exact f3 j h1 (by omega) h3
  refine vx_aload_n IG dc_W_widen_5 rfl 0 rfl ?_
  refine wr_cnt IG HR hp wF_W_15 dc_W_widen_6 ?_
  refine vx_topi (y := nI c) hcn ?_
  refine vx_istore_n (lv' := [(2, .int (nI c)), (0, .ref p), (1, .int (nI n))]) IG dc_W_widen_9 rfl (by decide) rfl ?_
  exact loop n c (Nat.le_refl c) (by omega) h fn1 (fun _ _ => rfl) (fun _ _ => rfl) (fun j h1 h2 => by omega) (by omega) HR
end
end
section
/-! Whole: sum, difference, against -/
section
variable {l : Launch} {D : va_G} {tys : List (ClassId × FieldType)} {cJ : ClassId} {L : List Nat} {r : vx_h} {p p1 p2 : Nat} {h : vx_h} {V : Nat → Nat} {C S : Nat}
/-- behind room: a Whole holds what it held -/
theorem wv_room {cp cp1 : Nat → Nat} {cn : Nat → Int32} {fn fn1 : Nat → Nat → Int64} {q N : Nat} (hv : wv cp cn fn q N) (ho : ∀ q, q ≠ p → cp1 q = cp q ∧ fn1 q = fn q) (hge : cp p ≤ cp1 p) (hsame : ∀ i, i < cp p → fn1 p i = fn p i) : wv cp1 cn fn1 q N := by
  by_cases z : q = p
  · subst z
    exact ⟨hv.1, Nat.le_trans hv.2.1 hge, fun i hi => by rw [hsame i (by have := hv.2.1; omega)]; exact hv.2.2 i hi⟩
  · exact wv_same hv (ho q z).1 rfl (ho q z).2
set_option maxRecDepth 100000 in
set_option maxHeartbeats 4000000 in
/-- sum(a, b): this becomes a + b; it may be one of them -/
theorem cW_sum (HP : pool cJ L r V h C S) (hL : L.Nodup) (hp : p ∈ L) (hp1 : p1 ∈ L) (hp2 : p2 ∈ L) (ht : tys[0]? = some (cJ, .long)) (hs1 : nd 4294967296 (V p1) ≤ 4099) (hs2 : nd 4294967296 (V p2) ≤ 4099) : vx_M l D vcl tys my_W_sum lw_gd (rm_ 3 C S 64) [.ref p, .ref p1, .ref p2] h (pend cJ L r (va_up V p (V p1 + V p2)) C S none) := by
  obtain ⟨ar, cp, cn, fn, HR, hV, hC, hS⟩ := HP
  refine vx_M.ofV (cc := bc_W_sum) (maxL := 12) (ret := none) (own := rW) false rfl (by decide +kernel) wC_W_sum (fun q => by cases q) (Nat.le_of_ble_eq_true rfl) (fun A H0 G IG RG => ?_)
  show vx_V _ _ _ _ _ _ _ _ _ 0 [(0, .ref p), (1, .ref p1), (2, .ref p2)] []
  have main : ∀ (x y : Nat), x ∈ L → y ∈ L → nd 4294967296 (V y) ≤ nd 4294967296 (V x) → nd 4294967296 (V x) ≤ 4099 → V x + V y = V p1 + V p2 → vx_V D vcl A H0 12 G h 0 0 35 [(4, .ref y), (3, .ref x), (0, .ref p), (1, .ref p1), (2, .ref p2)] [] := by
    intro x y hx hy hxy hsx hsum
    have hvx := hV x hx
    have hvy := hV y hy
    refine vx_aload_n IG dc_W_sum_35 rfl 1 rfl ?_
    refine wr_cnt IG HR hx wF_W_15 dc_W_sum_36 ?_
    refine vx_topi (y := nI (nd 4294967296 (V x))) hvx.1 ?_
    refine vx_istore (lv' := [(5, .int (nI (nd 4294967296 (V x)))), (4, .ref y), (3, .ref x), (0, .ref p), (1, .ref p1), (2, .ref p2)]) IG dc_W_sum_39 (by decide) rfl ?_
    refine vx_aload IG dc_W_sum_41 1 rfl ?_
    refine wr_cnt IG HR hy wF_W_15 dc_W_sum_43 ?_
    refine vx_topi (y := nI (nd 4294967296 (V y))) hvy.1 ?_
    refine vx_istore (lv' := [(6, .int (nI (nd 4294967296 (V y)))), (5, .int (nI (nd 4294967296 (V x)))), (4, .ref y), (3, .ref x), (0, .ref p), (1, .ref p1), (2, .ref p2)]) IG dc_W_sum_46 (by decide) rfl ?_
    refine vx_aload_n IG dc_W_sum_48 rfl 4 rfl ?_
    refine vx_iload IG dc_W_sum_49 1 rfl ?_
    refine vx_iconst (v := 1) IG dc_W_sum_51 (by decide) ?_
    refine vx_iadd IG dc_W_sum_52 ?_
    refine vx_topi (y := nI (nd 4294967296 (V x) + 1)) (nI_1 _) ?_
    refine vx_callV (As := [.int (nI (nd 4294967296 (V x) + 1))]) (st := []) IG lw_good (cW_room HR hL hp ht (n := nd 4294967296 (V x) + 1) (by omega) hC hS) (rw_obj HR hp) rfl wC_W_room wL_W_31 wI_W_room wS_W_room wX_W 1 (by decide +kernel) rfl ⟨Nat.le_of_ble_eq_true rfl, Nat.le_of_ble_eq_true rfl⟩ ⟨(by show 0 + C ≤ C; omega), (by show 0 + S ≤ S; omega)⟩ rfl (Nat.le_of_ble_eq_true rfl) dc_W_sum_53 (fun v h k_ n_ hq => ?_)
    obtain ⟨rfl, ar1, cp1, fn1, HR, ho, hn1, hge, hsame, kc, ks⟩ := hq
    have hvx1 := wv_room hvx ho hge hsame
    have hvy1 := wv_room hvy ho hge hsame
    have hc1 := rw_cap HR hp
    have hcx := rw_cap HR hx
    have hcy := rw_cap HR hy
    have hcx2 := hvx1.2.1
    have hcy2 := hvy1.2.1
    show vx_V _ _ _ _ _ _ _ _ _ 56 [(6, .int (nI (nd 4294967296 (V y)))), (5, .int (nI (nd 4294967296 (V x)))), (4, .ref y), (3, .ref x), (0, .ref p), (1, .ref p1), (2, .ref p2)] []
    generalize eX : V x = X at *
    generalize eY : V y = Y at *
    have loop : ∀ (m i : Nat), i + m = nd 4294967296 X → ∀ (z10 : List (Nat × Value)) (h : vx_h) (fn2 : Nat → Nat → Int64), (∀ q, q ≠ p → fn2 q = fn1 q) → (∀ j, j < i → fn2 p j = lN (dg 4294967296 (X + Y) j)) → (∀ j, i ≤ j → j < nd 4294967296 X → fn2 x j = lN (dg 4294967296 X j)) → (∀ j, i ≤ j → j < nd 4294967296 Y → fn2 y j = lN (dg 4294967296 Y j)) → rw_at 2 cJ L r ar1 cp1 cn fn2 h → vx_V D vcl A H0 12 G h (0 + k_) (0 + n_) 62 [(9, .int (nI i)), (7, .long (lN (cy 4294967296 X Y i))), (6, .int (nI (nd 4294967296 Y))), (5, .int (nI (nd 4294967296 X))), (4, .ref y), (3, .ref x), (0, .ref p), (1, .ref p1), (2, .ref p2)] [] := by
      intro m
      induction m with
      | zero =>
        intro i him z10 h fn2 f1 f2 f3 f4 HR
        obtain rfl : i = nd 4294967296 X := by omega
        refine vx_iload IG dc_W_sum_62 0 rfl ?_
        refine vx_iload IG dc_W_sum_64 3 rfl ?_
        refine vx_icmp_ge (tgt := 127) IG dc_W_sum_66 (by decide) (fun _ => ?_) (fun c_ => absurd (nI_le (Nat.le_refl _) (by omega)) c_)
        refine vx_aload_n IG dc_W_sum_127 rfl 6 rfl ?_
        refine wr_dig IG HR hp wF_W_11 dc_W_sum_128 ?_
        refine vx_iload IG dc_W_sum_131 3 rfl ?_
        refine vx_lload IG dc_W_sum_133 1 rfl ?_
        refine wr_ast IG HR hp ht (nd 4294967296 X) rfl (by omega) dc_W_sum_135 (fun h HR => ?_)
        obtain ⟨fn3, e_fn3⟩ : ∃ z, z = va_up fn2 p (vp_updL (fn2 p) (nd 4294967296 X) (lN (cy 4294967296 X Y (nd 4294967296 X)))) := ⟨_, rfl⟩
        rw [← e_fn3] at HR
        refine vx_aload_n IG dc_W_sum_136 rfl 6 rfl ?_
        refine vx_iload IG dc_W_sum_137 3 rfl ?_
        refine vx_iconst (v := 1) IG dc_W_sum_139 (by decide) ?_
        refine vx_iadd IG dc_W_sum_140 ?_
        refine vx_topi (y := nI (nd 4294967296 X + 1)) (nI_1 _) ?_
        have hd : ∀ i, i < nd 4294967296 X + 1 → dg 4294967296 (X + Y) i < 4294967296 ∧ fn3 p i = lN (dg 4294967296 (X + Y) i) := by
          intro i hi
          refine ⟨dg_lt bB1 _ _, ?_⟩
          by_cases z : i = nd 4294967296 X
          · rw [e_fn3, va_up_self, z, pk_uLs, cy_end bB1 (lt_nd bB1 X) ((nd_le bB1).mp hxy)]
          · rw [e_fn3, va_up_self, pk_uLn z]; exact f2 i (by omega)
        refine vx_callV (As := [.int (nI (nd 4294967296 X + 1))]) (st := []) IG lw_good (cW_trim HR hp ht (n := nd 4294967296 X + 1) hn1 _ hd) (rw_obj HR hp) rfl wC_W_trim wL_W_37 wI_W_trim wS_W_trim wX_W 1 (by decide +kernel) rfl ⟨Nat.le_of_ble_eq_true rfl, Nat.le_of_ble_eq_true rfl⟩ ⟨(by show 0 + k_ + 0 ≤ C; omega), (by show 0 + n_ + 0 ≤ S; omega)⟩ rfl (Nat.le_of_ble_eq_true rfl) dc_W_sum_141 (fun v h k_ n_ hq => ?_)
        obtain ⟨rfl, rfl, rfl, HR⟩ := hq
        show vx_V _ _ _ _ _ _ _ _ _ 144 [(9, .int (nI (nd 4294967296 X))), (7, .long (lN (cy 4294967296 X Y (nd 4294967296 X)))), (6, .int (nI (nd 4294967296 Y))), (5, .int (nI (nd 4294967296 X))), (4, .ref y), (3, .ref x), (0, .ref p), (1, .ref p1), (2, .ref p2)] []
        refine vx_ret none RG (vx_endv dc_W_sum_144) rfl ?_
        have hle : nd 4294967296 (X + Y) ≤ nd 4294967296 X + 1 := by have := nd_add bB1 X Y; rw [Nat.max_eq_left hxy] at this; exact this
        have e : vl 4294967296 (dg 4294967296 (X + Y)) (nd 4294967296 X + 1) = X + Y := vl_nd_le bB1 hle
        have hw := wv_trim (cp := cp1) (cn' := va_up cn p (nI (nd 4294967296 (vl 4294967296 (dg 4294967296 (X + Y)) (nd 4294967296 X + 1))))) hd hn1 (va_up_self _ _ _)
        rw [e] at HR hw
        rw [← hsum]
        refine pool_end (p := p) hV HR (fun q z => ⟨(ho q z).1, va_up_ne _ _ z, ?_⟩) hw (by omega) (by omega)
        rw [e_fn3, va_up_ne _ _ z, f1 q z, (ho q z).2]
      | succ m ih =>
        intro i him z10 h fn2 f1 f2 f3 f4 HR
        have hX := dg_lt bB1 X i
        have hY := dg_lt bB1 Y i
        have hcy0 := cy_le bB1 X Y i
        refine vx_iload IG dc_W_sum_62 0 rfl ?_
        refine vx_iload IG dc_W_sum_64 3 rfl ?_
        refine vx_icmp_ge (tgt := 127) IG dc_W_sum_66 (by decide) (fun c_ => absurd c_ (nI_ge (by omega) (by omega))) (fun _ => ?_)
        refine vx_aload_n IG dc_W_sum_69 rfl 5 rfl ?_
        refine wr_dig IG HR hx wF_W_11 dc_W_sum_70 ?_
        refine vx_iload IG dc_W_sum_73 0 rfl ?_
        refine wr_ald IG HR hx ht i rfl (by omega) dc_W_sum_75 ?_
        refine vx_topl (y := lN (dg 4294967296 X i)) (f3 i (Nat.le_refl i) (by omega)) ?_
        refine vx_lload IG dc_W_sum_76 1 rfl ?_
        refine vx_ladd IG dc_W_sum_78 ?_
        refine vx_topl (y := lN (dg 4294967296 X i + cy 4294967296 X Y i)) (lN_add _ _) ?_
        have join : vx_V D vcl A H0 12 G h (0 + k_) (0 + n_) 98 [(9, .int (nI i)), (7, .long (lN (cy 4294967296 X Y i))), (6, .int (nI (nd 4294967296 Y))), (5, .int (nI (nd 4294967296 X))), (4, .ref y), (3, .ref x), (0, .ref p), (1, .ref p1), (2, .ref p2)] [.long (lN (dg 4294967296 Y i)), .long (lN (dg 4294967296 X i + cy 4294967296 X Y i))] := by
          refine vx_ladd IG dc_W_sum_98 ?_
          refine vx_topl (y := lN (dg 4294967296 X i + dg 4294967296 Y i + cy 4294967296 X Y i)) (by rw [lN_add]; congr 1; omega) ?_
          refine vx_lstore (lv' := [(10, .long (lN (dg 4294967296 X i + dg 4294967296 Y i + cy 4294967296 X Y i))), (9, .int (nI i)), (7, .long (lN (cy 4294967296 X Y i))), (6, .int (nI (nd 4294967296 Y))), (5, .int (nI (nd 4294967296 X))), (4, .ref y), (3, .ref x), (0, .ref p), (1, .ref p1), (2, .ref p2)]) IG dc_W_sum_99 (by decide) rfl ?_
          refine vx_aload_n IG dc_W_sum_101 rfl 7 rfl ?_
          refine wr_dig IG HR hp wF_W_11 dc_W_sum_102 ?_
          refine vx_iload IG dc_W_sum_105 1 rfl ?_
          refine vx_lload IG dc_W_sum_107 0 rfl ?_
          refine vx_ldc2 (v := 4294967295) IG (by decide +kernel) dc_W_sum_109 ?_
          refine vx_land IG dc_W_sum_112 ?_
          refine vx_topl (y := lN (dg 4294967296 (X + Y) i)) (by rw [ln_mask, cy_dg bB1]) ?_
          refine wr_ast IG HR hp ht i rfl (by omega) dc_W_sum_113 (fun h HR => ?_)
          obtain ⟨fn3, e_fn3⟩ : ∃ z, z = va_up fn2 p (vp_updL (fn2 p) i (lN (dg 4294967296 (X + Y) i))) := ⟨_, rfl⟩
          rw [← e_fn3] at HR
          refine vx_lload IG dc_W_sum_114 0 rfl ?_
          refine vx_bipush (v := 32) IG dc_W_sum_116 (by decide) ?_
          refine vx_lushr (v := lN (cy 4294967296 X Y (i + 1))) IG dc_W_sum_118 (by rw [← cy_succ bB1]; exact ln_shr32 (by omega)) ?_
          refine vx_lstore (lv' := [(7, .long (lN (cy 4294967296 X Y (i + 1)))), (10, .long (lN (dg 4294967296 X i + dg 4294967296 Y i + cy 4294967296 X Y i))), (9, .int (nI i)), (6, .int (nI (nd 4294967296 Y))), (5, .int (nI (nd 4294967296 X))), (4, .ref y), (3, .ref x), (0, .ref p), (1, .ref p1), (2, .ref p2)]) IG dc_W_sum_119 (by decide) rfl ?_
          refine vx_iinc (q := 2) (v := nI (i + 1)) (lv' := [(9, .int (nI (i + 1))), (7, .long (lN (cy 4294967296 X Y (i + 1)))), (10, .long (lN (dg 4294967296 X i + dg 4294967296 Y i + cy 4294967296 X Y i))), (6, .int (nI (nd 4294967296 Y))), (5, .int (nI (nd 4294967296 X))), (4, .ref y), (3, .ref x), (0, .ref p), (1, .ref p1), (2, .ref p2)]) IG dc_W_sum_121 rfl (nI_1 i) (by decide) rfl ?_
          refine vx_goto (tgt := 62) IG dc_W_sum_124 (by decide) ?_
          refine vx_same (lv' := [(9, .int (nI (i + 1))), (7, .long (lN (cy 4294967296 X Y (i + 1)))), (6, .int (nI (nd 4294967296 Y))), (5, .int (nI (nd 4294967296 X))), (4, .ref y), (3, .ref x), (0, .ref p), (1, .ref p1), (2, .ref p2)]) IG [0, 1, 3, 4, 5, 6, 7, 8, 9] rfl ?_
          refine ih (i + 1) (by omega) z10 h fn3 (fun q z => ?_) (fun j hj => ?_) (fun j h1 h2 => ?_) (fun j h1 h2 => ?_) HR
          · rw [e_fn3, va_up_ne _ _ z]; exact f1 q z
          · by_cases z : j = i
            · rw [z, e_fn3, va_up_self, pk_uLs]
            · rw [e_fn3, va_up_self, pk_uLn z]; exact f2 j (by omega)
          · by_cases z : x = p
            · rw [e_fn3, z, va_up_self, pk_uLn (by omega), ← z]; exact f3 j (by omega) h2
            · rw [e_fn3, va_up_ne _ _ z]; exact f3 j (by omega) h2
          · by_cases z : y = p
            · rw [e_fn3, z, va_up_self, pk_uLn (by omega), ← z]; exact f4 j (by omega) h2
            · rw [e_fn3, va_up_ne _ _ z]; exact f4 j (by omega) h2
        refine vx_iload IG dc_W_sum_79 0 rfl ?_
        refine vx_iload IG dc_W_sum_81 2 rfl ?_
        by_cases z : i < nd 4294967296 Y
        · refine vx_icmp_ge (tgt := 97) IG dc_W_sum_83 (by decide) (fun c_ => absurd c_ (nI_ge z (by omega))) (fun _ => ?_)
          refine vx_aload IG dc_W_sum_86 4 rfl ?_
          refine wr_dig IG HR hy wF_W_11 dc_W_sum_88 ?_
          refine vx_iload IG dc_W_sum_91 0 rfl ?_
          refine wr_ald IG HR hy ht i rfl (by omega) dc_W_sum_93 ?_
          refine vx_topl (y := lN (dg 4294967296 Y i)) (f4 i (Nat.le_refl i) z) ?_
          refine vx_goto (tgt := 98) IG dc_W_sum_94 (by decide) ?_
          exact join
        · refine vx_icmp_ge (tgt := 97) IG dc_W_sum_83 (by decide) (fun _ => ?_) (fun c_ => absurd (nI_le (by omega) (by omega)) c_)
          refine vx_lconst (v := 0) IG dc_W_sum_97 (by decide) ?_
          refine vx_topl (y := lN (dg 4294967296 Y i)) (by rw [dg_big (Nat.lt_of_lt_of_le (lt_nd bB1 Y) (Nat.pow_le_pow_right (by decide) (by omega)))]; rfl) ?_
          exact join
    refine vx_lconst (v := 0) IG dc_W_sum_56 (by decide) ?_
    refine vx_lstore (lv' := [(7, .long 0), (6, .int (nI (nd 4294967296 Y))), (5, .int (nI (nd 4294967296 X))), (4, .ref y), (3, .ref x), (0, .ref p), (1, .ref p1), (2, .ref p2)]) IG dc_W_sum_57 (by decide) rfl ?_
    refine vx_iconst (v := 0) IG dc_W_sum_59 (by decide) ?_
    refine vx_istore (lv' := [(9, .int 0), (7, .long 0), (6, .int (nI (nd 4294967296 Y))), (5, .int (nI (nd 4294967296 X))), (4, .ref y), (3, .ref x), (0, .ref p), (1, .ref p1), (2, .ref p2)]) IG dc_W_sum_60 (by decide) rfl ?_
    rw [show (0 : Int64) = lN (cy 4294967296 X Y 0) by rw [cy_zero]; rfl, show (0 : Int32) = nI 0 from rfl]
    exact loop (nd 4294967296 X) 0 (by omega) [] h fn1 (fun _ _ => rfl) (fun j hj => by omega) (fun j _ hj => hvx1.2.2 j hj) (fun j _ hj => hvy1.2.2 j hj) HR
  have hv1 := hV p1 hp1
  have hv2 := hV p2 hp2
  refine vx_aload_n IG dc_W_sum_0 rfl 1 rfl ?_
  refine wr_cnt IG HR hp1 wF_W_15 dc_W_sum_1 ?_
  refine vx_topi (y := nI (nd 4294967296 (V p1))) hv1.1 ?_
  refine vx_aload_n IG dc_W_sum_4 rfl 2 rfl ?_
  refine wr_cnt IG HR hp2 wF_W_15 dc_W_sum_5 ?_
  refine vx_topi (y := nI (nd 4294967296 (V p2))) hv2.1 ?_
  by_cases z : nd 4294967296 (V p2) ≤ nd 4294967296 (V p1)
  · refine vx_icmp_lt (tgt := 15) IG dc_W_sum_8 (by decide) (fun c_ => absurd c_ (nI_nlt z (by omega))) (fun _ => ?_)
    refine vx_aload_n IG dc_W_sum_11 rfl 1 rfl ?_
    refine vx_goto (tgt := 16) IG dc_W_sum_12 (by decide) ?_
    refine vx_astore_n (lv' := [(3, .ref p1), (0, .ref p), (1, .ref p1), (2, .ref p2)]) IG dc_W_sum_16 rfl (by decide) rfl ?_
    refine vx_aload_n IG dc_W_sum_17 rfl 2 rfl ?_
    refine wr_cnt IG HR hp1 wF_W_15 dc_W_sum_18 ?_
    refine vx_topi (y := nI (nd 4294967296 (V p1))) hv1.1 ?_
    refine vx_aload_n IG dc_W_sum_21 rfl 3 rfl ?_
    refine wr_cnt IG HR hp2 wF_W_15 dc_W_sum_22 ?_
    refine vx_topi (y := nI (nd 4294967296 (V p2))) hv2.1 ?_
    refine vx_icmp_lt (tgt := 32) IG dc_W_sum_25 (by decide) (fun c_ => absurd c_ (nI_nlt z (by omega))) (fun _ => ?_)
    refine vx_aload_n IG dc_W_sum_28 rfl 3 rfl ?_
    refine vx_goto (tgt := 33) IG dc_W_sum_29 (by decide) ?_
    refine vx_astore (lv' := [(4, .ref p2), (3, .ref p1), (0, .ref p), (1, .ref p1), (2, .ref p2)]) IG dc_W_sum_33 (by decide) rfl ?_
    exact main p1 p2 hp1 hp2 z hs1 rfl
  · refine vx_icmp_lt (tgt := 15) IG dc_W_sum_8 (by decide) (fun _ => ?_) (fun c_ => absurd (nI_lt (by omega) (by omega)) c_)
    refine vx_aload_n IG dc_W_sum_15 rfl 2 rfl ?_
    refine vx_astore_n (lv' := [(3, .ref p2), (0, .ref p), (1, .ref p1), (2, .ref p2)]) IG dc_W_sum_16 rfl (by decide) rfl ?_
    refine vx_aload_n IG dc_W_sum_17 rfl 2 rfl ?_
    refine wr_cnt IG HR hp1 wF_W_15 dc_W_sum_18 ?_
    refine vx_topi (y := nI (nd 4294967296 (V p1))) hv1.1 ?_
    refine vx_aload_n IG dc_W_sum_21 rfl 3 rfl ?_
    refine wr_cnt IG HR hp2 wF_W_15 dc_W_sum_22 ?_
    refine vx_topi (y := nI (nd 4294967296 (V p2))) hv2.1 ?_
    refine vx_icmp_lt (tgt := 32) IG dc_W_sum_25 (by decide) (fun _ => ?_) (fun c_ => absurd (nI_lt (by omega) (by omega)) c_)
    refine vx_aload_n IG dc_W_sum_32 rfl 2 rfl ?_
    refine vx_astore (lv' := [(4, .ref p1), (3, .ref p2), (0, .ref p), (1, .ref p1), (2, .ref p2)]) IG dc_W_sum_33 (by decide) rfl ?_
    exact main p2 p1 hp2 hp1 (by omega) hs2 (Nat.add_comm _ _)
end
end
section
/-! Whole: difference, against -/
/-- -1, 0 or 1 -/
def cmpI (A B : Nat) : Int32 := if A < B then -1 else if A = B then 0 else 1
theorem ln_bor {a w b : Nat} (ha : a < 4294967296) (hw : w ≤ 1) (hb : b < 4294967296) : ((lN (a + 18446744073709551616 - w - b)).toUInt64 >>> ((63 : Int32).toInt64.toUInt64 &&& Int64.toUInt64 63)).toInt64 = lN (if a < b + w then 1 else 0) := by
  by_cases z : a < b + w
  · rw [if_pos z, ln_shr63 (by omega)]
    congr 1
    omega
  · rw [if_neg z, show a + 18446744073709551616 - w - b = (a - w - b) + 18446744073709551616 by omega, ln_wrap, ln_shr63 (by omega)]
    congr 1
    omega
theorem i32_dec (x : Int32) : x + Int32.ofInt (-1) = x - 1 := by rw [Int32.sub_eq_add_neg]; rfl
section
variable {l : Launch} {D : va_G} {tys : List (ClassId × FieldType)} {cJ : ClassId} {L : List Nat} {r : vx_h} {p p1 p2 : Nat} {h : vx_h} {V : Nat → Nat} {C S : Nat}
set_option maxRecDepth 100000 in
set_option maxHeartbeats 4000000 in
/-- difference(a, b), b not above a; it may be one of them -/
theorem cW_difference (HP : pool cJ L r V h C S) (hL : L.Nodup) (hp : p ∈ L) (hp1 : p1 ∈ L) (hp2 : p2 ∈ L) (ht : tys[0]? = some (cJ, .long)) (hs1 : nd 4294967296 (V p1) ≤ 4100) (hle : V p2 ≤ V p1) : vx_M l D vcl tys my_W_difference lw_gd (rm_ 3 C S 64) [.ref p, .ref p1, .ref p2] h (pend cJ L r (va_up V p (V p1 - V p2)) C S none) := by
  obtain ⟨ar, cp, cn, fn, HR, hV, hC, hS⟩ := HP
  refine vx_M.ofV (cc := bc_W_difference) (maxL := 10) (ret := none) (own := rW) false rfl (by decide +kernel) wC_W_difference (fun q => by cases q) (Nat.le_of_ble_eq_true rfl) (fun A H0 G IG RG => ?_)
  show vx_V _ _ _ _ _ _ _ _ _ 0 [(0, .ref p), (1, .ref p1), (2, .ref p2)] []
  have hvx := hV p1 hp1
  have hvy := hV p2 hp2
  refine vx_aload_n IG dc_W_difference_0 rfl 1 rfl ?_
  refine wr_cnt IG HR hp1 wF_W_15 dc_W_difference_1 ?_
  refine vx_topi (y := nI (nd 4294967296 (V p1))) hvx.1 ?_
  refine vx_istore_n (lv' := [(3, .int (nI (nd 4294967296 (V p1)))), (0, .ref p), (1, .ref p1), (2, .ref p2)]) IG dc_W_difference_4 rfl (by decide) rfl ?_
  refine vx_aload_n IG dc_W_difference_5 rfl 3 rfl ?_
  refine wr_cnt IG HR hp2 wF_W_15 dc_W_difference_6 ?_
  refine vx_topi (y := nI (nd 4294967296 (V p2))) hvy.1 ?_
  refine vx_istore (lv' := [(4, .int (nI (nd 4294967296 (V p2)))), (3, .int (nI (nd 4294967296 (V p1)))), (0, .ref p), (1, .ref p1), (2, .ref p2)]) IG dc_W_difference_9 (by decide) rfl ?_
  refine vx_aload_n IG dc_W_difference_11 rfl 2 rfl ?_
  refine vx_iload_n IG dc_W_difference_12 rfl 1 rfl ?_
  refine vx_callV (As := [.int (nI (nd 4294967296 (V p1)))]) (st := []) IG lw_good (cW_room HR hL hp ht (n := nd 4294967296 (V p1)) hs1 hC hS) (rw_obj HR hp) rfl wC_W_room wL_W_31 wI_W_room wS_W_room wX_W 1 (by decide +kernel) rfl ⟨Nat.le_of_ble_eq_true rfl, Nat.le_of_ble_eq_true rfl⟩ ⟨(by show 0 + C ≤ C; omega), (by show 0 + S ≤ S; omega)⟩ rfl (Nat.le_of_ble_eq_true rfl) dc_W_difference_13 (fun v h k_ n_ hq => ?_)
  obtain ⟨rfl, ar1, cp1, fn1, HR, ho, hn1, hge, hsame, kc, ks⟩ := hq
  have hvx1 := wv_room hvx ho hge hsame
  have hvy1 := wv_room hvy ho hge hsame
  have hc1 := rw_cap HR hp
  have hcx2 := hvx1.2.1
  have hcy2 := hvy1.2.1
  have hnn : nd 4294967296 (V p2) ≤ nd 4294967296 (V p1) := nd_mono bB1 hle
  show vx_V _ _ _ _ _ _ _ _ _ 16 [(4, .int (nI (nd 4294967296 (V p2)))), (3, .int (nI (nd 4294967296 (V p1)))), (0, .ref p), (1, .ref p1), (2, .ref p2)] []
  generalize eX : V p1 = X at *
  generalize eY : V p2 = Y at *
  have loop : ∀ (m i : Nat), i + m = nd 4294967296 X → ∀ (h : vx_h) (fn2 : Nat → Nat → Int64), (∀ q, q ≠ p → fn2 q = fn1 q) → (∀ j, j < i → fn2 p j = lN (dg 4294967296 (X - Y) j)) → (∀ j, i ≤ j → j < nd 4294967296 X → fn2 p1 j = lN (dg 4294967296 X j)) → (∀ j, i ≤ j → j < nd 4294967296 Y → fn2 p2 j = lN (dg 4294967296 Y j)) → rw_at 2 cJ L r ar1 cp1 cn fn2 h → vx_V D vcl A H0 10 G h (0 + k_) (0 + n_) 22 [(7, .int (nI i)), (5, .long (lN (bw 4294967296 X Y i))), (4, .int (nI (nd 4294967296 Y))), (3, .int (nI (nd 4294967296 X))), (0, .ref p), (1, .ref p1), (2, .ref p2)] [] := by
    intro m
    induction m with
    | zero =>
      intro i him h fn2 f1 f2 f3 f4 HR
      obtain rfl : i = nd 4294967296 X := by omega
      refine vx_iload IG dc_W_difference_22 0 rfl ?_
      refine vx_iload_n IG dc_W_difference_24 rfl 3 rfl ?_
      refine vx_icmp_ge (tgt := 85) IG dc_W_difference_25 (by decide) (fun _ => ?_) (fun c_ => absurd (nI_le (Nat.le_refl _) (by omega)) c_)
      refine vx_aload_n IG dc_W_difference_85 rfl 4 rfl ?_
      refine vx_iload_n IG dc_W_difference_86 rfl 3 rfl ?_
      have hd : ∀ i, i < nd 4294967296 X → dg 4294967296 (X - Y) i < 4294967296 ∧ fn2 p i = lN (dg 4294967296 (X - Y) i) := fun i hi => ⟨dg_lt bB1 _ _, f2 i hi⟩
      refine vx_callV (As := [.int (nI (nd 4294967296 X))]) (st := []) IG lw_good (cW_trim HR hp ht (n := nd 4294967296 X) hn1 _ hd) (rw_obj HR hp) rfl wC_W_trim wL_W_37 wI_W_trim wS_W_trim wX_W 1 (by decide +kernel) rfl ⟨Nat.le_of_ble_eq_true rfl, Nat.le_of_ble_eq_true rfl⟩ ⟨(by show 0 + k_ + 0 ≤ C; omega), (by show 0 + n_ + 0 ≤ S; omega)⟩ rfl (Nat.le_of_ble_eq_true rfl) dc_W_difference_87 (fun v h k_ n_ hq => ?_)
      obtain ⟨rfl, rfl, rfl, HR⟩ := hq
      show vx_V _ _ _ _ _ _ _ _ _ 90 [(7, .int (nI (nd 4294967296 X))), (5, .long (lN (bw 4294967296 X Y (nd 4294967296 X)))), (4, .int (nI (nd 4294967296 Y))), (3, .int (nI (nd 4294967296 X))), (0, .ref p), (1, .ref p1), (2, .ref p2)] []
      refine vx_ret none RG (vx_endv dc_W_difference_90) rfl ?_
      have e : vl 4294967296 (dg 4294967296 (X - Y)) (nd 4294967296 X) = X - Y := vl_nd_le bB1 (nd_mono bB1 (Nat.sub_le X Y))
      have hw := wv_trim (cp := cp1) (cn' := va_up cn p (nI (nd 4294967296 (vl 4294967296 (dg 4294967296 (X - Y)) (nd 4294967296 X))))) hd hn1 (va_up_self _ _ _)
      rw [e] at HR hw
      refine pool_end (p := p) hV HR (fun q z => ⟨(ho q z).1, va_up_ne _ _ z, ?_⟩) hw (by omega) (by omega)
      rw [f1 q z, (ho q z).2]
    | succ m ih =>
      intro i him h fn2 f1 f2 f3 f4 HR
      have hX := dg_lt bB1 X i
      have hY := dg_lt bB1 Y i
      have hb0 := bw_le 4294967296 X Y i
      refine vx_iload IG dc_W_difference_22 0 rfl ?_
      refine vx_iload_n IG dc_W_difference_24 rfl 3 rfl ?_
      refine vx_icmp_ge (tgt := 85) IG dc_W_difference_25 (by decide) (fun c_ => absurd c_ (nI_ge (by omega) (by omega))) (fun _ => ?_)
      refine vx_aload_n IG dc_W_difference_28 rfl 5 rfl ?_
      refine wr_dig IG HR hp1 wF_W_11 dc_W_difference_29 ?_
      refine vx_iload IG dc_W_difference_32 0 rfl ?_
      refine wr_ald IG HR hp1 ht i rfl (by omega) dc_W_difference_34 ?_
      refine vx_topl (y := lN (dg 4294967296 X i)) (f3 i (Nat.le_refl i) (by omega)) ?_
      refine vx_lload IG dc_W_difference_35 1 rfl ?_
      refine vx_lsub IG dc_W_difference_37 ?_
      have join : vx_V D vcl A H0 10 G h (0 + k_) (0 + n_) 56 [(7, .int (nI i)), (5, .long (lN (bw 4294967296 X Y i))), (4, .int (nI (nd 4294967296 Y))), (3, .int (nI (nd 4294967296 X))), (0, .ref p), (1, .ref p1), (2, .ref p2)] [.long (lN (dg 4294967296 Y i)), .long (lN (dg 4294967296 X i) - lN (bw 4294967296 X Y i))] := by
        refine vx_lsub IG dc_W_difference_56 ?_
        refine vx_topl (y := lN (dg 4294967296 X i + 18446744073709551616 - bw 4294967296 X Y i - dg 4294967296 Y i)) (ln_sub2 hb0 hY) ?_
        refine vx_lstore (lv' := [(8, .long (lN (dg 4294967296 X i + 18446744073709551616 - bw 4294967296 X Y i - dg 4294967296 Y i))), (7, .int (nI i)), (5, .long (lN (bw 4294967296 X Y i))), (4, .int (nI (nd 4294967296 Y))), (3, .int (nI (nd 4294967296 X))), (0, .ref p), (1, .ref p1), (2, .ref p2)]) IG dc_W_difference_57 (by decide) rfl ?_
        refine vx_aload_n IG dc_W_difference_59 rfl 5 rfl ?_
        refine wr_dig IG HR hp wF_W_11 dc_W_difference_60 ?_
        refine vx_iload IG dc_W_difference_63 1 rfl ?_
        refine vx_lload IG dc_W_difference_65 0 rfl ?_
        refine vx_ldc2 (v := 4294967295) IG (by decide +kernel) dc_W_difference_67 ?_
        refine vx_land IG dc_W_difference_70 ?_
        refine vx_topl (y := lN (dg 4294967296 (X - Y) i)) (by rw [ln_mask, ← bw_dg bB1 hle]; congr 1; omega) ?_
        refine wr_ast IG HR hp ht i rfl (by omega) dc_W_difference_71 (fun h HR => ?_)
        obtain ⟨fn3, e_fn3⟩ : ∃ z, z = va_up fn2 p (vp_updL (fn2 p) i (lN (dg 4294967296 (X - Y) i))) := ⟨_, rfl⟩
        rw [← e_fn3] at HR
        refine vx_lload IG dc_W_difference_72 0 rfl ?_
        refine vx_bipush (v := 63) IG dc_W_difference_74 (by decide) ?_
        refine vx_lushr (v := lN (bw 4294967296 X Y (i + 1))) IG dc_W_difference_76 (by rw [bw_succ bB1]; exact ln_bor hX hb0 hY) ?_
        refine vx_lstore (lv' := [(5, .long (lN (bw 4294967296 X Y (i + 1)))), (8, .long (lN (dg 4294967296 X i + 18446744073709551616 - bw 4294967296 X Y i - dg 4294967296 Y i))), (7, .int (nI i)), (4, .int (nI (nd 4294967296 Y))), (3, .int (nI (nd 4294967296 X))), (0, .ref p), (1, .ref p1), (2, .ref p2)]) IG dc_W_difference_77 (by decide) rfl ?_
        refine vx_iinc (q := 2) (v := nI (i + 1)) (lv' := [(7, .int (nI (i + 1))), (5, .long (lN (bw 4294967296 X Y (i + 1)))), (8, .long (lN (dg 4294967296 X i + 18446744073709551616 - bw 4294967296 X Y i - dg 4294967296 Y i))), (4, .int (nI (nd 4294967296 Y))), (3, .int (nI (nd 4294967296 X))), (0, .ref p), (1, .ref p1), (2, .ref p2)]) IG dc_W_difference_79 rfl (nI_1 i) (by decide) rfl ?_
        refine vx_goto (tgt := 22) IG dc_W_difference_82 (by decide) ?_
        refine vx_same (lv' := [(7, .int (nI (i + 1))), (5, .long (lN (bw 4294967296 X Y (i + 1)))), (4, .int (nI (nd 4294967296 Y))), (3, .int (nI (nd 4294967296 X))), (0, .ref p), (1, .ref p1), (2, .ref p2)]) IG [0, 1, 3, 4, 5, 6, 7] rfl ?_
        refine ih (i + 1) (by omega) h fn3 (fun q z => ?_) (fun j hj => ?_) (fun j h1 h2 => ?_) (fun j h1 h2 => ?_) HR
        · rw [e_fn3, va_up_ne _ _ z]; exact f1 q z
        · by_cases z : j = i
          · rw [z, e_fn3, va_up_self, pk_uLs]
          · rw [e_fn3, va_up_self, pk_uLn z]; exact f2 j (by omega)
        · by_cases z : p1 = p
          · rw [e_fn3, z, va_up_self, pk_uLn (by omega), ← z]; exact f3 j (by omega) h2
          · rw [e_fn3, va_up_ne _ _ z]; exact f3 j (by omega) h2
        · by_cases z : p2 = p
          · rw [e_fn3, z, va_up_self, pk_uLn (by omega), ← z]; exact f4 j (by omega) h2
          · rw [e_fn3, va_up_ne _ _ z]; exact f4 j (by omega) h2
      refine vx_iload IG dc_W_difference_38 0 rfl ?_
      refine vx_iload IG dc_W_difference_40 2 rfl ?_
      by_cases z : i < nd 4294967296 Y
      · refine vx_icmp_ge (tgt := 55) IG dc_W_difference_42 (by decide) (fun c_ => absurd c_ (nI_ge z (by omega))) (fun _ => ?_)
        refine vx_aload_n IG dc_W_difference_45 rfl 6 rfl ?_
        refine wr_dig IG HR hp2 wF_W_11 dc_W_difference_46 ?_
        refine vx_iload IG dc_W_difference_49 0 rfl ?_
        refine wr_ald IG HR hp2 ht i rfl (by omega) dc_W_difference_51 ?_
        refine vx_topl (y := lN (dg 4294967296 Y i)) (f4 i (Nat.le_refl i) z) ?_
        refine vx_goto (tgt := 56) IG dc_W_difference_52 (by decide) ?_
        exact join
      · refine vx_icmp_ge (tgt := 55) IG dc_W_difference_42 (by decide) (fun _ => ?_) (fun c_ => absurd (nI_le (by omega) (by omega)) c_)
        refine vx_lconst (v := 0) IG dc_W_difference_55 (by decide) ?_
        refine vx_topl (y := lN (dg 4294967296 Y i)) (by rw [dg_big (Nat.lt_of_lt_of_le (lt_nd bB1 Y) (Nat.pow_le_pow_right (by decide) (by omega)))]; rfl) ?_
        exact join
  refine vx_lconst (v := 0) IG dc_W_difference_16 (by decide) ?_
  refine vx_lstore (lv' := [(5, .long 0), (4, .int (nI (nd 4294967296 Y))), (3, .int (nI (nd 4294967296 X))), (0, .ref p), (1, .ref p1), (2, .ref p2)]) IG dc_W_difference_17 (by decide) rfl ?_
  refine vx_iconst (v := 0) IG dc_W_difference_19 (by decide) ?_
  refine vx_istore (lv' := [(7, .int 0), (5, .long 0), (4, .int (nI (nd 4294967296 Y))), (3, .int (nI (nd 4294967296 X))), (0, .ref p), (1, .ref p1), (2, .ref p2)]) IG dc_W_difference_20 (by decide) rfl ?_
  rw [show (0 : Int64) = lN (bw 4294967296 X Y 0) by rw [bw_zero]; rfl, show (0 : Int32) = nI 0 from rfl]
  exact loop (nd 4294967296 X) 0 (by omega) h fn1 (fun _ _ => rfl) (fun j hj => by omega) (fun j _ hj => hvx1.2.2 j hj) (fun j _ hj => hvy1.2.2 j hj) HR
theorem ln_lt {a b : Nat} (ha : a < 4294967296) (hb : b < 4294967296) : lN a < lN b ↔ a < b := pk_lLT (by omega) (by omega)
set_option maxRecDepth 100000 in
set_option maxHeartbeats 4000000 in
/-- against(b): -1, 0 or 1 -/
theorem cW_against (HP : pool cJ L r V h C S) (hp : p ∈ L) (hp1 : p1 ∈ L) (ht : tys[0]? = some (cJ, .long)) : vx_M l D vcl tys my_W_against lw_gd (rm_ 0 0 0 0) [.ref p, .ref p1] h (fun v h' k m => v = some (.int (cmpI (V p) (V p1))) ∧ h' = h ∧ k = 0 ∧ m = 0) := by
  obtain ⟨ar, cp, cn, fn, HR, hV, hC, hS⟩ := HP
  have hvx := hV p hp
  have hvy := hV p1 hp1
  have hcx := rw_cap HR hp
  have hcy := rw_cap HR hp1
  have hx2 := hvx.2.1
  have hy2 := hvy.2.1
  refine vx_M.ofV (cc := bc_W_against) (maxL := 3) (ret := some .int) (own := rW) false rfl (by decide +kernel) wC_W_against (fun q => by cases q) (Nat.le_of_ble_eq_true rfl) (fun A H0 G IG RG => ?_)
  show vx_V _ _ _ _ _ _ _ _ _ 0 [(0, .ref p), (1, .ref p1)] []
  generalize eX : V p = X at *
  generalize eY : V p1 = Y at *
  refine vx_aload_n IG dc_W_against_0 rfl 0 rfl ?_
  refine wr_cnt IG HR hp wF_W_15 dc_W_against_1 ?_
  refine vx_topi (y := nI (nd 4294967296 X)) hvx.1 ?_
  refine vx_aload_n IG dc_W_against_4 rfl 1 rfl ?_
  refine wr_cnt IG HR hp1 wF_W_15 dc_W_against_5 ?_
  refine vx_topi (y := nI (nd 4294967296 Y)) hvy.1 ?_
  by_cases hne : nd 4294967296 X = nd 4294967296 Y
  · refine vx_icmp_eq (tgt := 28) IG dc_W_against_8 (by decide) (fun _ => ?_) (fun c_ => absurd (congrArg nI hne) c_)
    refine vx_aload_n IG dc_W_against_28 rfl 0 rfl ?_
    refine wr_cnt IG HR hp wF_W_15 dc_W_against_29 ?_
    refine vx_topi (y := nI (nd 4294967296 X)) hvx.1 ?_
    have loop : ∀ (i : Nat), i ≤ nd 4294967296 X → X / 4294967296 ^ i = Y / 4294967296 ^ i → vx_V D vcl A H0 3 G h 0 0 35 [(2, .int (nI i - 1)), (0, .ref p), (1, .ref p1)] [] := by
      intro i
      induction i with
      | zero =>
        intro hi he
        refine vx_iload_n IG dc_W_against_35 rfl 0 rfl ?_
        refine vx_if_lt (tgt := 83) IG dc_W_against_36 (by decide) (fun _ => ?_) (fun c_ => absurd (by decide) c_)
        refine vx_iconst (v := 0) IG dc_W_against_83 (by decide) ?_
        refine vx_ret (some (.int 0)) RG (vx_endi (by first | rfl | decide) dc_W_against_84) rfl ?_
        have : X = Y := by simpa using he
        exact ⟨by rw [cmpI, if_neg (by omega), if_pos this], rfl, rfl, rfl⟩
      | succ i ih =>
        intro hi he
        have gx := dg_lt bB1 X i
        have gy := dg_lt bB1 Y i
        rw [nI_pred]
        refine vx_iload_n IG dc_W_against_35 rfl 0 rfl ?_
        refine vx_if_lt (tgt := 83) IG dc_W_against_36 (by decide) (fun c_ => absurd c_ (nI_pos (by omega))) (fun _ => ?_)
        refine vx_aload_n IG dc_W_against_39 rfl 1 rfl ?_
        refine wr_dig IG HR hp wF_W_11 dc_W_against_40 ?_
        refine vx_iload_n IG dc_W_against_43 rfl 0 rfl ?_
        refine wr_ald IG HR hp ht i rfl (by omega) dc_W_against_44 ?_
        refine vx_topl (y := lN (dg 4294967296 X i)) (hvx.2.2 i (by omega)) ?_
        refine vx_aload_n IG dc_W_against_45 rfl 2 rfl ?_
        refine wr_dig IG HR hp1 wF_W_11 dc_W_against_46 ?_
        refine vx_iload_n IG dc_W_against_49 rfl 0 rfl ?_
        refine wr_ald IG HR hp1 ht i rfl (by omega) dc_W_against_50 ?_
        refine vx_topl (y := lN (dg 4294967296 Y i)) (hvy.2.2 i (by omega)) ?_
        refine vx_lcmp IG dc_W_against_51 ?_
        by_cases z : dg 4294967296 X i = dg 4294967296 Y i
        · refine vx_if_eq (tgt := 77) IG dc_W_against_52 (by decide) (fun _ => ?_) (fun c_ => absurd ((lg_cmp_eq _ _).mpr (by rw [z])) c_)
          refine vx_iinc (q := 0) (v := nI i - 1) (lv' := [(2, .int (nI i - 1)), (0, .ref p), (1, .ref p1)]) IG dc_W_against_77 rfl (i32_dec _) (by decide) rfl ?_
          refine vx_goto (tgt := 35) IG dc_W_against_80 (by decide) ?_
          exact ih (by omega) (bcm_eq 4294967296 he z)
        · refine vx_if_eq (tgt := 77) IG dc_W_against_52 (by decide) (fun c_ => absurd c_ (fun q => z (ln_eq (by omega) (by omega) ((lg_cmp_eq _ _).mp q)))) (fun _ => ?_)
          refine vx_aload_n IG dc_W_against_55 rfl 1 rfl ?_
          refine wr_dig IG HR hp wF_W_11 dc_W_against_56 ?_
          refine vx_iload_n IG dc_W_against_59 rfl 0 rfl ?_
          refine wr_ald IG HR hp ht i rfl (by omega) dc_W_against_60 ?_
          refine vx_topl (y := lN (dg 4294967296 X i)) (hvx.2.2 i (by omega)) ?_
          refine vx_aload_n IG dc_W_against_61 rfl 2 rfl ?_
          refine wr_dig IG HR hp1 wF_W_11 dc_W_against_62 ?_
          refine vx_iload_n IG dc_W_against_65 rfl 0 rfl ?_
          refine wr_ald IG HR hp1 ht i rfl (by omega) dc_W_against_66 ?_
          refine vx_topl (y := lN (dg 4294967296 Y i)) (hvy.2.2 i (by omega)) ?_
          refine vx_lcmp IG dc_W_against_67 ?_
          by_cases w : dg 4294967296 X i < dg 4294967296 Y i
          · refine vx_if_ge (tgt := 75) IG dc_W_against_68 (by decide) (fun c_ => absurd c_ (fun q => absurd ((ln_lt gx gy).mpr w) (Int64.not_lt.mpr ((lg_cmp_ge _ _).mp q)))) (fun _ => ?_)
            refine vx_iconst (v := -1) IG dc_W_against_71 (by decide) ?_
            refine vx_goto (tgt := 76) IG dc_W_against_72 (by decide) ?_
            refine vx_ret (some (.int (-1))) RG (vx_endi (by first | rfl | decide) dc_W_against_76) rfl ?_
            exact ⟨by rw [cmpI, if_pos (bcm_lt 4294967296 he w)], rfl, rfl, rfl⟩
          · refine vx_if_ge (tgt := 75) IG dc_W_against_68 (by decide) (fun _ => ?_) (fun c_ => absurd ((lg_cmp_ge _ _).mpr (Int64.not_lt.mp (fun q => w ((ln_lt gx gy).mp q)))) c_)
            refine vx_iconst (v := 1) IG dc_W_against_75 (by decide) ?_
            refine vx_ret (some (.int 1)) RG (vx_endi (by first | rfl | decide) dc_W_against_76) rfl ?_
            have := bcm_lt 4294967296 he.symm (show dg 4294967296 Y i < dg 4294967296 X i by omega)
            exact ⟨by rw [cmpI, if_neg (by omega), if_neg (by omega)], rfl, rfl, rfl⟩
    refine vx_iconst (v := 1) IG dc_W_against_32 (by decide) ?_
    refine vx_isub IG dc_W_against_33 ?_
    refine vx_istore_n (lv' := [(2, .int ((nI (nd 4294967296 X)) - 1)), (0, .ref p), (1, .ref p1)]) IG dc_W_against_34 rfl (by decide) rfl ?_
    exact loop (nd 4294967296 X) (Nat.le_refl _) (by rw [bcm_top bB1 (Nat.le_refl _), bcm_top bB1 (by omega)])
  · refine vx_icmp_eq (tgt := 28) IG dc_W_against_8 (by decide) (fun c_ => absurd c_ (fun q => hne ((nI_eq (by omega) (by omega)).mp q))) (fun _ => ?_)
    refine vx_aload_n IG dc_W_against_11 rfl 0 rfl ?_
    refine wr_cnt IG HR hp wF_W_15 dc_W_against_12 ?_
    refine vx_topi (y := nI (nd 4294967296 X)) hvx.1 ?_
    refine vx_aload_n IG dc_W_against_15 rfl 1 rfl ?_
    refine wr_cnt IG HR hp1 wF_W_15 dc_W_against_16 ?_
    refine vx_topi (y := nI (nd 4294967296 Y)) hvy.1 ?_
    by_cases z : nd 4294967296 X < nd 4294967296 Y
    · refine vx_icmp_ge (tgt := 26) IG dc_W_against_19 (by decide) (fun c_ => absurd c_ (nI_ge z (by omega))) (fun _ => ?_)
      refine vx_iconst (v := -1) IG dc_W_against_22 (by decide) ?_
      refine vx_goto (tgt := 27) IG dc_W_against_23 (by decide) ?_
      refine vx_ret (some (.int (-1))) RG (vx_endi (by first | rfl | decide) dc_W_against_27) rfl ?_
      exact ⟨by rw [cmpI, if_pos (bcm_nd bB1 z)], rfl, rfl, rfl⟩
    · refine vx_icmp_ge (tgt := 26) IG dc_W_against_19 (by decide) (fun _ => ?_) (fun c_ => absurd (nI_le (by omega) (by omega)) c_)
      refine vx_iconst (v := 1) IG dc_W_against_26 (by decide) ?_
      refine vx_ret (some (.int 1)) RG (vx_endi (by first | rfl | decide) dc_W_against_27) rfl ?_
      have := bcm_nd bB1 (show nd 4294967296 Y < nd 4294967296 X by omega)
      exact ⟨by rw [cmpI, if_neg (by omega), if_neg (by omega)], rfl, rfl, rfl⟩
end
end
section
/-! Whole: addMultiple, product -/
section
variable {l : Launch} {D : va_G} {tys : List (ClassId × FieldType)} {cJ : ClassId} {L : List Nat} {r : vx_h} {ar cp : Nat → Nat} {cn : Nat → Int32} {fn : Nat → Nat → Int64} {p p1 p2 : Nat} {h : vx_h} {V : Nat → Nat} {C S : Nat}
set_option maxRecDepth 100000 in
set_option maxHeartbeats 4000000 in
/-- addMultiple(place, f, b): f * b is added at this place, whose digit behind b's places is 0 -/
theorem cW_addMultiple (HR : rw_at 2 cJ L r ar cp cn fn h) (hp : p ∈ L) (hp2 : p2 ∈ L) (hne : p2 ≠ p) (ht : tys[0]? = some (cJ, .long)) {B : Nat} (hB : wv cp cn fn p2 B) {place tot f : Nat} (hf : f < 4294967296) (d : Nat → Nat) (hd : ∀ i, i < tot → d i < 4294967296 ∧ fn p i = lN (d i)) (htot : tot ≤ cp p) (hpl : place + nd 4294967296 B < tot) : vx_M l D vcl tys my_W_addMultiple lw_gd (rm_ 0 0 0 0) [.ref p, .int (nI place), .long (lN f), .ref p2] h (fun v h' k m => v = none ∧ k = 0 ∧ m = 0 ∧ ∃ (fn' : Nat → Nat → Int64) (e : Nat → Nat), rw_at 2 cJ L r ar cp cn fn' h' ∧ (∀ q, q ≠ p → fn' q = fn q) ∧ (∀ i, i < tot → e i < 4294967296 ∧ fn' p i = lN (e i)) ∧ (d (place + nd 4294967296 B) = 0 → vl 4294967296 e tot = vl 4294967296 d tot + f * B * 4294967296 ^ place)) := by
  have hc := rw_cap HR hp
  have hc2 := rw_cap HR hp2
  have hB2 := hB.2.1
  refine vx_M.ofV (cc := bc_W_addMultiple) (maxL := 13) (ret := none) (own := rW) false rfl (by decide +kernel) wC_W_addMultiple (fun q => by cases q) (Nat.le_of_ble_eq_true rfl) (fun A H0 G IG RG => ?_)
  show vx_V _ _ _ _ _ _ _ _ _ 0 [(0, .ref p), (1, .int (nI place)), (2, .long (lN f)), (4, .ref p2)] []
  have loop : ∀ (m i : Nat), i + m = nd 4294967296 B → ∀ (h : vx_h) (fn2 : Nat → Nat → Int64) (c : Nat → Nat) (cr : Nat), cr < 4294967296 → (∀ q, q ≠ p → fn2 q = fn q) → (∀ j, j < tot → c j < 4294967296 ∧ fn2 p j = lN (c j)) → (∀ j, j < place ∨ place + i ≤ j → c j = d j) → vl 4294967296 (fun j => c (place + j)) i + cr * 4294967296 ^ i = f * vl 4294967296 (dg 4294967296 B) i + vl 4294967296 (fun j => d (place + j)) i → rw_at 2 cJ L r ar cp cn fn2 h → vx_V D vcl A H0 13 G h 0 0 26 [(10, .int (nI i)), (8, .long (lN cr)), (7, .int (nI (nd 4294967296 B))), (6, .ref (ar p2)), (5, .ref (ar p)), (0, .ref p), (1, .int (nI place)), (2, .long (lN f)), (4, .ref p2)] [] := by
    intro m
    induction m with
    | zero =>
      intro i him h fn2 c cr hcr f1 f2 f3 f4 HR
      obtain rfl : i = nd 4294967296 B := by omega
      refine vx_iload IG dc_W_addMultiple_26 0 rfl ?_
      refine vx_iload IG dc_W_addMultiple_28 2 rfl ?_
      refine vx_icmp_ge (tgt := 79) IG dc_W_addMultiple_30 (by decide) (fun _ => ?_) (fun c_ => absurd (nI_le (Nat.le_refl _) (by omega)) c_)
      refine vx_aload IG dc_W_addMultiple_79 4 rfl ?_
      refine vx_iload_n IG dc_W_addMultiple_81 rfl 6 rfl ?_
      refine vx_iload IG dc_W_addMultiple_82 2 rfl ?_
      refine vx_iadd IG dc_W_addMultiple_84 ?_
      refine vx_topi (y := nI (place + nd 4294967296 B)) (nI_add _ _) ?_
      refine vx_lload IG dc_W_addMultiple_85 1 rfl ?_
      refine wr_ast IG HR hp ht (place + nd 4294967296 B) rfl (by omega) dc_W_addMultiple_87 (fun h HR => ?_)
      obtain ⟨fn3, e_fn3⟩ : ∃ z, z = va_up fn2 p (vp_updL (fn2 p) (place + nd 4294967296 B) (lN cr)) := ⟨_, rfl⟩
      rw [← e_fn3] at HR
      refine vx_ret none RG (vx_endv dc_W_addMultiple_88) rfl ?_
      refine ⟨rfl, rfl, rfl, fn3, (fun j => if j = place + nd 4294967296 B then cr else c j), HR, fun q z => ?_, fun j hj => ?_, fun hz => ?_⟩
      · rw [e_fn3, va_up_ne _ _ z]; exact f1 q z
      · by_cases z : j = place + nd 4294967296 B
        · simp only [z, if_true]
          exact ⟨hcr, by rw [e_fn3, va_up_self, pk_uLs]⟩
        · simp only [z, if_false]
          exact ⟨(f2 j hj).1, by rw [e_fn3, va_up_self, pk_uLn z]; exact (f2 j hj).2⟩
      · obtain ⟨rest, hrest⟩ : ∃ rest, tot = place + (nd 4294967296 B + 1) + rest := ⟨tot - (place + (nd 4294967296 B + 1)), by omega⟩
        rw [hrest]
        refine am_end (fun j hj => ?_) (fun j hj => ?_) ?_
        · show (if j = place + nd 4294967296 B then cr else c j) = d j
          rw [if_neg (by omega)]; exact f3 j (Or.inl hj)
        · show (if j = place + nd 4294967296 B then cr else c j) = d j
          rw [if_neg (by omega)]; exact f3 j (Or.inr (by omega))
        · rw [vl_succ, vl_succ]
          show vl 4294967296 (fun j => if place + j = place + nd 4294967296 B then cr else c (place + j)) (nd 4294967296 B) + (if place + nd 4294967296 B = place + nd 4294967296 B then cr else c (place + nd 4294967296 B)) * 4294967296 ^ nd 4294967296 B = f * B + (vl 4294967296 (fun j => d (place + j)) (nd 4294967296 B) + d (place + nd 4294967296 B) * 4294967296 ^ nd 4294967296 B)
          rw [if_pos rfl, hz, Nat.zero_mul, vl_congr (d := fun j => if place + j = place + nd 4294967296 B then cr else c (place + j)) (e := fun j => c (place + j)) (fun j hj => by show (if _ then _ else _) = _; rw [if_neg (by omega)]), f4, vl_nd bB1]
          omega
    | succ m ih =>
      intro i him h fn2 c cr hcr f1 f2 f3 f4 HR
      have hbi := dg_lt bB1 B i
      have hci := f2 (place + i) (by omega)
      have hdi := f3 (place + i) (Or.inr (Nat.le_refl _))
      have htb := am_bound hf hbi hci.1 hcr
      refine vx_iload IG dc_W_addMultiple_26 0 rfl ?_
      refine vx_iload IG dc_W_addMultiple_28 2 rfl ?_
      refine vx_icmp_ge (tgt := 79) IG dc_W_addMultiple_30 (by decide) (fun c_ => absurd c_ (nI_ge (by omega) (by omega))) (fun _ => ?_)
      refine vx_lload_n IG dc_W_addMultiple_33 rfl 7 rfl ?_
      refine vx_aload IG dc_W_addMultiple_34 3 rfl ?_
      refine vx_iload IG dc_W_addMultiple_36 0 rfl ?_
      refine wr_ald IG HR hp2 ht i rfl (by omega) dc_W_addMultiple_38 ?_
      refine vx_topl (y := lN (dg 4294967296 B i)) (by rw [f1 p2 hne]; exact hB.2.2 i (by omega)) ?_
      refine vx_lmul IG dc_W_addMultiple_39 ?_
      refine vx_topl (y := lN (f * dg 4294967296 B i)) (lN_mul _ _) ?_
      refine vx_aload IG dc_W_addMultiple_40 4 rfl ?_
      refine vx_iload_n IG dc_W_addMultiple_42 rfl 6 rfl ?_
      refine vx_iload IG dc_W_addMultiple_43 0 rfl ?_
      refine vx_iadd IG dc_W_addMultiple_45 ?_
      refine vx_topi (y := nI (place + i)) (nI_add _ _) ?_
      refine wr_ald IG HR hp ht (place + i) rfl (by omega) dc_W_addMultiple_46 ?_
      refine vx_topl (y := lN (c (place + i))) hci.2 ?_
      refine vx_ladd IG dc_W_addMultiple_47 ?_
      refine vx_topl (y := lN (f * dg 4294967296 B i + c (place + i))) (lN_add _ _) ?_
      refine vx_lload IG dc_W_addMultiple_48 1 rfl ?_
      refine vx_ladd IG dc_W_addMultiple_50 ?_
      refine vx_topl (y := lN (f * dg 4294967296 B i + c (place + i) + cr)) (lN_add _ _) ?_
      refine vx_lstore (lv' := [(11, .long (lN (f * dg 4294967296 B i + c (place + i) + cr))), (10, .int (nI i)), (8, .long (lN cr)), (7, .int (nI (nd 4294967296 B))), (6, .ref (ar p2)), (5, .ref (ar p)), (0, .ref p), (1, .int (nI place)), (2, .long (lN f)), (4, .ref p2)]) IG dc_W_addMultiple_51 (by decide) rfl ?_
      refine vx_aload IG dc_W_addMultiple_53 5 rfl ?_
      refine vx_iload_n IG dc_W_addMultiple_55 rfl 7 rfl ?_
      refine vx_iload IG dc_W_addMultiple_56 1 rfl ?_
      refine vx_iadd IG dc_W_addMultiple_58 ?_
      refine vx_topi (y := nI (place + i)) (nI_add _ _) ?_
      refine vx_lload IG dc_W_addMultiple_59 0 rfl ?_
      refine vx_ldc2 (v := 4294967295) IG (by decide +kernel) dc_W_addMultiple_61 ?_
      refine vx_land IG dc_W_addMultiple_64 ?_
      refine vx_topl (y := lN ((f * dg 4294967296 B i + c (place + i) + cr) % 4294967296)) (ln_mask _) ?_
      refine wr_ast IG HR hp ht (place + i) rfl (by omega) dc_W_addMultiple_65 (fun h HR => ?_)
      obtain ⟨fn3, e_fn3⟩ : ∃ z, z = va_up fn2 p (vp_updL (fn2 p) (place + i) (lN ((f * dg 4294967296 B i + c (place + i) + cr) % 4294967296))) := ⟨_, rfl⟩
      rw [← e_fn3] at HR
      refine vx_lload IG dc_W_addMultiple_66 0 rfl ?_
      refine vx_bipush (v := 32) IG dc_W_addMultiple_68 (by decide) ?_
      refine vx_lushr (v := lN ((f * dg 4294967296 B i + c (place + i) + cr) / 4294967296)) IG dc_W_addMultiple_70 (ln_shr32 (by omega)) ?_
      refine vx_lstore (lv' := [(8, .long (lN ((f * dg 4294967296 B i + c (place + i) + cr) / 4294967296))), (11, .long (lN (f * dg 4294967296 B i + c (place + i) + cr))), (10, .int (nI i)), (7, .int (nI (nd 4294967296 B))), (6, .ref (ar p2)), (5, .ref (ar p)), (0, .ref p), (1, .int (nI place)), (2, .long (lN f)), (4, .ref p2)]) IG dc_W_addMultiple_71 (by decide) rfl ?_
      refine vx_iinc (q := 2) (v := nI (i + 1)) (lv' := [(10, .int (nI (i + 1))), (8, .long (lN ((f * dg 4294967296 B i + c (place + i) + cr) / 4294967296))), (11, .long (lN (f * dg 4294967296 B i + c (place + i) + cr))), (7, .int (nI (nd 4294967296 B))), (6, .ref (ar p2)), (5, .ref (ar p)), (0, .ref p), (1, .int (nI place)), (2, .long (lN f)), (4, .ref p2)]) IG dc_W_addMultiple_73 rfl (nI_1 i) (by decide) rfl ?_
      refine vx_goto (tgt := 26) IG dc_W_addMultiple_76 (by decide) ?_
      refine vx_same (lv' := [(10, .int (nI (i + 1))), (8, .long (lN ((f * dg 4294967296 B i + c (place + i) + cr) / 4294967296))), (7, .int (nI (nd 4294967296 B))), (6, .ref (ar p2)), (5, .ref (ar p)), (0, .ref p), (1, .int (nI place)), (2, .long (lN f)), (4, .ref p2)]) IG [0, 1, 3, 4, 5, 6, 7, 8, 9] rfl ?_
      refine ih (i + 1) (by omega) h fn3 (fun j => if j = place + i then (f * dg 4294967296 B i + c (place + i) + cr) % 4294967296 else c j) _ (by omega) (fun q z => ?_) (fun j hj => ?_) (fun j hj => ?_) ?_ HR
      · rw [e_fn3, va_up_ne _ _ z]; exact f1 q z
      · by_cases z : j = place + i
        · simp only [z, if_true]
          exact ⟨by omega, by rw [e_fn3, va_up_self, pk_uLs]⟩
        · simp only [z, if_false]
          exact ⟨(f2 j hj).1, by rw [e_fn3, va_up_self, pk_uLn z]; exact (f2 j hj).2⟩
      · show (if j = place + i then _ else c j) = d j
        rw [if_neg (by omega)]; exact f3 j (by omega)
      · refine am_step 4294967296 (cr := cr) ?_ (by rw [hdi]) ?_
        · rw [← f4]
          congr 1
          exact vl_congr (fun j hj => by show (if _ then _ else _) = _; rw [if_neg (by omega)])
        · show (if place + i = place + i then _ else _) = _
          rw [if_pos rfl]
  refine vx_aload_n IG dc_W_addMultiple_0 rfl 0 rfl ?_
  refine wr_dig IG HR hp wF_W_11 dc_W_addMultiple_1 ?_
  refine vx_astore (lv' := [(5, .ref (ar p)), (0, .ref p), (1, .int (nI place)), (2, .long (lN f)), (4, .ref p2)]) IG dc_W_addMultiple_4 (by decide) rfl ?_
  refine vx_aload IG dc_W_addMultiple_6 4 rfl ?_
  refine wr_dig IG HR hp2 wF_W_11 dc_W_addMultiple_8 ?_
  refine vx_astore (lv' := [(6, .ref (ar p2)), (5, .ref (ar p)), (0, .ref p), (1, .int (nI place)), (2, .long (lN f)), (4, .ref p2)]) IG dc_W_addMultiple_11 (by decide) rfl ?_
  refine vx_aload IG dc_W_addMultiple_13 5 rfl ?_
  refine wr_cnt IG HR hp2 wF_W_15 dc_W_addMultiple_15 ?_
  refine vx_topi (y := nI (nd 4294967296 B)) hB.1 ?_
  refine vx_istore (lv' := [(7, .int (nI (nd 4294967296 B))), (6, .ref (ar p2)), (5, .ref (ar p)), (0, .ref p), (1, .int (nI place)), (2, .long (lN f)), (4, .ref p2)]) IG dc_W_addMultiple_18 (by decide) rfl ?_
  refine vx_lconst (v := 0) IG dc_W_addMultiple_20 (by decide) ?_
  refine vx_lstore (lv' := [(8, .long 0), (7, .int (nI (nd 4294967296 B))), (6, .ref (ar p2)), (5, .ref (ar p)), (0, .ref p), (1, .int (nI place)), (2, .long (lN f)), (4, .ref p2)]) IG dc_W_addMultiple_21 (by decide) rfl ?_
  refine vx_iconst (v := 0) IG dc_W_addMultiple_23 (by decide) ?_
  refine vx_istore (lv' := [(10, .int 0), (8, .long 0), (7, .int (nI (nd 4294967296 B))), (6, .ref (ar p2)), (5, .ref (ar p)), (0, .ref p), (1, .int (nI place)), (2, .long (lN f)), (4, .ref p2)]) IG dc_W_addMultiple_24 (by decide) rfl ?_
  exact loop (nd 4294967296 B) 0 (by omega) h fn d 0 (by decide) (fun _ _ => rfl) hd (fun _ _ => rfl) (by simp [vl]) HR
theorem dg_zero_of {d : Nat → Nat} {n j c : Nat} (hd : ∀ i, i < n → d i < 4294967296) (hj : j < n) (hc : c ≤ j) (h : vl 4294967296 d n < 4294967296 ^ c) : d j = 0 := by
  rw [← dg_vl bB1 hd hj]
  exact dg_big (Nat.lt_of_lt_of_le h (Nat.pow_le_pow_right (by decide) hc))
set_option maxRecDepth 100000 in
set_option maxHeartbeats 4000000 in
/-- product(a, b): this becomes a * b; it is neither of them -/
theorem cW_product (HP : pool cJ L r V h C S) (hL : L.Nodup) (hp : p ∈ L) (hp1 : p1 ∈ L) (hp2 : p2 ∈ L) (hn1 : p1 ≠ p) (hn2 : p2 ≠ p) (ht : tys[0]? = some (cJ, .long)) (hs : nd 4294967296 (V p1) + nd 4294967296 (V p2) ≤ 4100) : vx_M l D vcl tys my_W_product lw_gd (rm_ 4 C S 86) [.ref p, .ref p1, .ref p2] h (pend cJ L r (va_up V p (V p1 * V p2)) C S none) := by
  obtain ⟨ar, cp, cn, fn, HR, hV, hC, hS⟩ := HP
  have hvx := hV p1 hp1
  have hvy := hV p2 hp2
  have hc0 := rw_cap HR hp
  refine vx_M.ofV (cc := bc_W_product) (maxL := 5) (ret := none) (own := rW) false rfl (by decide +kernel) wC_W_product (fun q => by cases q) (Nat.le_of_ble_eq_true rfl) (fun A H0 G IG RG => ?_)
  show vx_V _ _ _ _ _ _ _ _ _ 0 [(0, .ref p), (1, .ref p1), (2, .ref p2)] []
  refine vx_aload_n IG dc_W_product_0 rfl 1 rfl ?_
  refine wr_cnt IG HR hp1 wF_W_15 dc_W_product_1 ?_
  refine vx_topi (y := nI (nd 4294967296 (V p1))) hvx.1 ?_
  refine vx_aload_n IG dc_W_product_4 rfl 2 rfl ?_
  refine wr_cnt IG HR hp2 wF_W_15 dc_W_product_5 ?_
  refine vx_topi (y := nI (nd 4294967296 (V p2))) hvy.1 ?_
  refine vx_iadd IG dc_W_product_8 ?_
  refine vx_topi (y := nI (nd 4294967296 (V p1) + nd 4294967296 (V p2))) (nI_add _ _) ?_
  refine vx_istore_n (lv' := [(3, .int (nI (nd 4294967296 (V p1) + nd 4294967296 (V p2)))), (0, .ref p), (1, .ref p1), (2, .ref p2)]) IG dc_W_product_9 rfl (by decide) rfl ?_
  refine vx_aload_n IG dc_W_product_10 rfl 1 rfl ?_
  refine vx_callV (As := []) (st := []) IG lw_good (cW_clear HR hp) (rw_obj HR hp) rfl wC_W_clear wL_W_66 wI_W_clear wS_W_clear wX_W 0 (by decide +kernel) rfl ⟨Nat.le_of_ble_eq_true rfl, Nat.le_of_ble_eq_true rfl⟩ ⟨(by show 0 + 0 ≤ C; omega), (by show 0 + 0 ≤ S; omega)⟩ rfl (Nat.le_of_ble_eq_true rfl) dc_W_product_11 (fun v h k_ n_ hq => ?_)
  obtain ⟨rfl, rfl, rfl, HR⟩ := hq
  show vx_V _ _ _ _ _ _ _ _ _ 14 [(3, .int (nI (nd 4294967296 (V p1) + nd 4294967296 (V p2)))), (0, .ref p), (1, .ref p1), (2, .ref p2)] []
  refine vx_aload_n IG dc_W_product_14 rfl 1 rfl ?_
  refine vx_iload_n IG dc_W_product_15 rfl 0 rfl ?_
  refine vx_callV (As := [.int (nI (nd 4294967296 (V p1) + nd 4294967296 (V p2)))]) (st := []) IG lw_good (cW_widen HR hL hp ht (n := nd 4294967296 (V p1) + nd 4294967296 (V p2)) (c := 0) (by rw [va_up_self]; rfl) (by omega) hs hC hS) (rw_obj HR hp) rfl wC_W_widen wL_W_69 wI_W_widen wS_W_widen wX_W 1 (by decide +kernel) rfl ⟨Nat.le_of_ble_eq_true rfl, Nat.le_of_ble_eq_true rfl⟩ ⟨(by show 0 + 0 + C ≤ C; omega), (by show 0 + 0 + S ≤ S; omega)⟩ rfl (Nat.le_of_ble_eq_true rfl) dc_W_product_16 (fun v h k_ n_ hq => ?_)
  obtain ⟨rfl, ar1, cp1, fn1, HR, ho, hnn, hge, -, hzero, kc, ks⟩ := hq
  show vx_V _ _ _ _ _ _ _ _ _ 19 [(3, .int (nI (nd 4294967296 (V p1) + nd 4294967296 (V p2)))), (0, .ref p), (1, .ref p1), (2, .ref p2)] []
  obtain ⟨cn1, e_cn1⟩ : ∃ z, z = va_up cn p 0 := ⟨_, rfl⟩
  rw [← e_cn1] at HR
  have hvx1 : wv cp1 cn1 fn1 p1 (V p1) := wv_same hvx (ho p1 hn1).1 (by rw [e_cn1, va_up_ne _ _ hn1]) (ho p1 hn1).2
  have hvy1 : wv cp1 cn1 fn1 p2 (V p2) := wv_same hvy (ho p2 hn2).1 (by rw [e_cn1, va_up_ne _ _ hn2]) (ho p2 hn2).2
  have hc1 := rw_cap HR hp
  have hcx := hvx1.2.1
  generalize eX : V p1 = X at *
  generalize eY : V p2 = Y at *
  have hlt2 : ∀ i, X % 4294967296 ^ i * Y < 4294967296 ^ (i + nd 4294967296 Y) := by
    intro i
    rw [Nat.pow_add]
    rcases Nat.eq_zero_or_pos Y with z | z
    · rw [z, Nat.mul_zero]; exact Nat.mul_pos (bp_pos bB1 _) (bp_pos bB1 _)
    · exact Nat.lt_of_lt_of_le (Nat.mul_lt_mul_of_pos_right (Nat.mod_lt _ (bp_pos bB1 i)) z) (Nat.mul_le_mul_left _ (Nat.le_of_lt (lt_nd bB1 Y)))
  have loop : ∀ (m i : Nat), i + m = nd 4294967296 X → ∀ (h : vx_h) (fn2 : Nat → Nat → Int64) (d : Nat → Nat), (∀ q, q ≠ p → fn2 q = fn1 q) → (∀ j, j < nd 4294967296 X + nd 4294967296 Y → d j < 4294967296 ∧ fn2 p j = lN (d j)) → vl 4294967296 d (nd 4294967296 X + nd 4294967296 Y) = X % 4294967296 ^ i * Y → rw_at 2 cJ L r ar1 cp1 cn1 fn2 h → vx_V D vcl A H0 5 G h (0 + 0 + k_) (0 + 0 + n_) 22 [(4, .int (nI i)), (3, .int (nI (nd 4294967296 X + nd 4294967296 Y))), (0, .ref p), (1, .ref p1), (2, .ref p2)] [] := by
    intro m
    induction m with
    | zero =>
      intro i him h fn2 d f1 f2 f3 HR
      obtain rfl : i = nd 4294967296 X := by omega
      refine vx_iload IG dc_W_product_22 0 rfl ?_
      refine vx_aload_n IG dc_W_product_24 rfl 3 rfl ?_
      refine wr_cnt IG HR hp1 wF_W_15 dc_W_product_25 ?_
      refine vx_topi (y := nI (nd 4294967296 X)) hvx1.1 ?_
      refine vx_icmp_ge (tgt := 63) IG dc_W_product_28 (by decide) (fun _ => ?_) (fun c_ => absurd (nI_le (Nat.le_refl _) (by omega)) c_)
      refine vx_aload_n IG dc_W_product_63 rfl 2 rfl ?_
      refine vx_iload_n IG dc_W_product_64 rfl 1 rfl ?_
      refine vx_callV (As := [.int (nI (nd 4294967296 X + nd 4294967296 Y))]) (st := []) IG lw_good (cW_trim HR hp ht hnn d f2) (rw_obj HR hp) rfl wC_W_trim wL_W_37 wI_W_trim wS_W_trim wX_W 1 (by decide +kernel) rfl ⟨Nat.le_of_ble_eq_true rfl, Nat.le_of_ble_eq_true rfl⟩ ⟨(by show 0 + 0 + k_ + 0 ≤ C; omega), (by show 0 + 0 + n_ + 0 ≤ S; omega)⟩ rfl (Nat.le_of_ble_eq_true rfl) dc_W_product_65 (fun v h k_ n_ hq => ?_)
      obtain ⟨rfl, rfl, rfl, HR⟩ := hq
      show vx_V _ _ _ _ _ _ _ _ _ 68 [(4, .int (nI (nd 4294967296 X))), (3, .int (nI (nd 4294967296 X + nd 4294967296 Y))), (0, .ref p), (1, .ref p1), (2, .ref p2)] []
      refine vx_ret none RG (vx_endv dc_W_product_68) rfl ?_
      have e : vl 4294967296 d (nd 4294967296 X + nd 4294967296 Y) = X * Y := by rw [f3, Nat.mod_eq_of_lt (lt_nd bB1 X)]
      have hw := wv_trim (cp := cp1) (cn' := va_up cn1 p (nI (nd 4294967296 (vl 4294967296 d (nd 4294967296 X + nd 4294967296 Y))))) f2 hnn (va_up_self _ _ _)
      rw [e] at HR hw
      refine pool_end (p := p) hV HR (fun q z => ⟨(ho q z).1, ?_, ?_⟩) hw (by omega) (by omega)
      · rw [va_up_ne _ _ z, e_cn1, va_up_ne _ _ z]
      · rw [f1 q z, (ho q z).2]
    | succ m ih =>
      intro i him h fn2 d f1 f2 f3 HR
      have gx := dg_lt bB1 X i
      have hmd : X % 4294967296 ^ (i + 1) * Y = X % 4294967296 ^ i * Y + dg 4294967296 X i * Y * 4294967296 ^ i := by
        rw [md_split, Nat.add_mul, Nat.mul_comm (4294967296 ^ i), Nat.mul_assoc, Nat.mul_assoc, Nat.mul_comm (4294967296 ^ i)]
      refine vx_iload IG dc_W_product_22 0 rfl ?_
      refine vx_aload_n IG dc_W_product_24 rfl 3 rfl ?_
      refine wr_cnt IG HR hp1 wF_W_15 dc_W_product_25 ?_
      refine vx_topi (y := nI (nd 4294967296 X)) hvx1.1 ?_
      refine vx_icmp_ge (tgt := 63) IG dc_W_product_28 (by decide) (fun c_ => absurd c_ (nI_ge (by omega) (by omega))) (fun _ => ?_)
      refine vx_aload_n IG dc_W_product_31 rfl 3 rfl ?_
      refine wr_dig IG HR hp1 wF_W_11 dc_W_product_32 ?_
      refine vx_iload IG dc_W_product_35 0 rfl ?_
      refine wr_ald IG HR hp1 ht i rfl (by omega) dc_W_product_37 ?_
      refine vx_topl (y := lN (dg 4294967296 X i)) (by rw [f1 p1 hn1]; exact hvx1.2.2 i (by omega)) ?_
      refine vx_lconst (v := 0) IG dc_W_product_38 (by decide) ?_
      refine vx_lcmp IG dc_W_product_39 ?_
      by_cases z : dg 4294967296 X i = 0
      · refine vx_if_eq (tgt := 57) IG dc_W_product_40 (by decide) (fun _ => ?_) (fun c_ => absurd ((lg_cmp_eq _ _).mpr (by rw [z]; rfl)) c_)
        refine vx_iinc (q := 0) (v := nI (i + 1)) (lv' := [(4, .int (nI (i + 1))), (3, .int (nI (nd 4294967296 X + nd 4294967296 Y))), (0, .ref p), (1, .ref p1), (2, .ref p2)]) IG dc_W_product_57 rfl (nI_1 i) (by decide) rfl ?_
        refine vx_goto (tgt := 22) IG dc_W_product_60 (by decide) ?_
        exact ih (i + 1) (by omega) h fn2 d f1 f2 (by rw [f3, hmd, z]; simp) HR
      · refine vx_if_eq (tgt := 57) IG dc_W_product_40 (by decide) (fun c_ => absurd c_ (fun q => z (ln_eq (by omega) (by decide) ((lg_cmp_eq _ _).mp q)))) (fun _ => ?_)
        refine vx_aload_n IG dc_W_product_43 rfl 2 rfl ?_
        refine vx_iload IG dc_W_product_44 0 rfl ?_
        refine vx_aload_n IG dc_W_product_46 rfl 3 rfl ?_
        refine wr_dig IG HR hp1 wF_W_11 dc_W_product_47 ?_
        refine vx_iload IG dc_W_product_50 0 rfl ?_
        refine wr_ald IG HR hp1 ht i rfl (by omega) dc_W_product_52 ?_
        refine vx_topl (y := lN (dg 4294967296 X i)) (by rw [f1 p1 hn1]; exact hvx1.2.2 i (by omega)) ?_
        refine vx_aload_n IG dc_W_product_53 rfl 4 rfl ?_
        have hvy2 : wv cp1 cn1 fn2 p2 Y := wv_same hvy1 rfl rfl (f1 p2 hn2)
        refine vx_callV (As := [.int (nI i), .long (lN (dg 4294967296 X i)), .ref p2]) (st := []) IG lw_good (cW_addMultiple HR hp hp2 hn2 ht hvy2 gx d f2 hnn (by omega)) (rw_obj HR hp) rfl wC_W_addMultiple wL_W_72 wI_W_addMultiple wS_W_addMultiple wX_W 3 (by decide +kernel) rfl ⟨Nat.le_of_ble_eq_true rfl, Nat.le_of_ble_eq_true rfl⟩ ⟨(by show 0 + 0 + k_ + 0 ≤ C; omega), (by show 0 + 0 + n_ + 0 ≤ S; omega)⟩ rfl (Nat.le_of_ble_eq_true rfl) dc_W_product_54 (fun v h k_ n_ hq => ?_)
        obtain ⟨rfl, rfl, rfl, fn3, e, HR, g1, g2, g3⟩ := hq
        show vx_V _ _ _ _ _ _ _ _ _ 57 [(4, .int (nI i)), (3, .int (nI (nd 4294967296 X + nd 4294967296 Y))), (0, .ref p), (1, .ref p1), (2, .ref p2)] []
        refine vx_iinc (q := 0) (v := nI (i + 1)) (lv' := [(4, .int (nI (i + 1))), (3, .int (nI (nd 4294967296 X + nd 4294967296 Y))), (0, .ref p), (1, .ref p1), (2, .ref p2)]) IG dc_W_product_57 rfl (nI_1 i) (by decide) rfl ?_
        refine vx_goto (tgt := 22) IG dc_W_product_60 (by decide) ?_
        refine ih (i + 1) (by omega) h fn3 e (fun q z => (g1 q z).trans (f1 q z)) g2 ?_ HR
        rw [g3 (dg_zero_of (fun j hj => (f2 j hj).1) (by omega) (Nat.le_refl _) (by rw [f3]; exact hlt2 i)), f3, hmd]
  refine vx_iconst (v := 0) IG dc_W_product_19 (by decide) ?_
  refine vx_istore (lv' := [(4, .int 0), (3, .int (nI (nd 4294967296 X + nd 4294967296 Y))), (0, .ref p), (1, .ref p1), (2, .ref p2)]) IG dc_W_product_20 (by decide) rfl ?_
  exact loop (nd 4294967296 X) 0 (by omega) h fn1 (fun _ => 0) (fun _ _ => rfl) (fun j hj => ⟨by decide, by rw [hzero j (Nat.zero_le j) hj]; rfl⟩) (by rw [vl_zero (fun _ _ => rfl)]; simp [Nat.mod_one]) HR
end
end
section
/-! Whole: raise, lower, turnOver, repeat -/
theorem bB2 {l : Nat} (h : l ≤ 32) : 4294967296 = 2 ^ l * 2 ^ (32 - l) := bb_split (w := 32) h
/-- a digit of A * 2^l, as the machine joins it -/
theorem rs_dg {A k l : Nat} (h : l ≤ 32) : (dg 4294967296 A k * 2 ^ l + (if k = 0 then 0 else dg 4294967296 A (k - 1) / 2 ^ (32 - l))) % 4294967296 = dg 4294967296 (A * 2 ^ l) k := by
  cases k with
  | zero => rw [if_pos rfl, Nat.add_zero, dg_shl0]
  | succ k =>
    have hq : 0 < 2 ^ (32 - l) := Nat.pow_pos (by decide)
    have hc : dg 4294967296 A k / 2 ^ (32 - l) < 2 ^ l := by
      rw [Nat.div_lt_iff_lt_mul hq, ← bB2 h]
      exact dg_lt bB1 A k
    rw [if_neg (by omega), Nat.add_sub_cancel, dg_shl_g bB1 (bB2 h)]
    have := md_shift (x := dg 4294967296 A (k + 1)) hq hc
    rw [← bB2 h] at this
    exact this
theorem ls_dg {A k l : Nat} (h : l ≤ 32) : (dg 4294967296 A k / 2 ^ l + dg 4294967296 A (k + 1) * 2 ^ (32 - l)) % 4294967296 = dg 4294967296 (A / 2 ^ l) k := by
  have hp : 0 < 2 ^ l := Nat.pow_pos (by decide)
  have hc : dg 4294967296 A k / 2 ^ l < 2 ^ (32 - l) := by
    rw [Nat.div_lt_iff_lt_mul hp, Nat.mul_comm, ← bB2 h]
    exact dg_lt bB1 A k
  rw [dg_shr_g bB1 (bB2 h), Nat.add_comm]
  have := md_shift (x := dg 4294967296 A (k + 1)) hp hc
  rw [Nat.mul_comm (2 ^ (32 - l)), ← bB2 h] at this
  exact this
theorem nI_sub32 {l : Nat} (h : l ≤ 32) : (32 : Int32) - nI l = nI (32 - l) := pk_sub h
theorem nI_and31 {n : Nat} (h : n < 2 ^ 31) : nI n &&& 31 = nI (n % 32) := pk_andN (by omega) 5 (by decide)
theorem nI_div32 {n : Nat} (h : n < 2 ^ 31) : nI n / 32 = nI (n / 32) := pk_div h (by decide) (by decide)
theorem nI_ne32 : ¬ (32 : Int32) = 0 := by decide
theorem p2_32 (n : Nat) : 2 ^ n = 2 ^ (n % 32) * 4294967296 ^ (n / 32) := by
  rw [show 4294967296 = 2 ^ 32 from rfl, ← Nat.pow_mul, ← Nat.pow_add]
  congr 1
  omega
theorem nd_raise {A n : Nat} : nd 4294967296 (A * 2 ^ n) ≤ nd 4294967296 A + n / 32 + 1 := by
  rw [nd_le bB1, p2_32 n, ← Nat.mul_assoc, Nat.add_right_comm, Nat.pow_add, bp_succ]
  refine Nat.mul_lt_mul_of_pos_right ?_ (bp_pos bB1 _)
  have h1 := lt_nd bB1 A
  have h2 : 2 ^ (n % 32) ≤ 4294967296 := Nat.pow_le_pow_right (show 0 < 2 by decide) (show n % 32 ≤ 32 by omega)
  exact Nat.lt_of_lt_of_le (Nat.mul_lt_mul_of_pos_right h1 (Nat.pow_pos (by decide))) (Nat.mul_le_mul_left _ h2)
theorem dg_raise {A n k : Nat} : dg 4294967296 (A * 2 ^ n) (k + n / 32) = dg 4294967296 (A * 2 ^ (n % 32)) k := by
  rw [p2_32 n, ← Nat.mul_assoc, dg_up bB1]
theorem dg_raise0 {A n k : Nat} (h : k < n / 32) : dg 4294967296 (A * 2 ^ n) k = 0 := by
  rw [p2_32 n, ← Nat.mul_assoc, dg_up0 bB1 h]
theorem dg_lower {A n k : Nat} : dg 4294967296 (A / 2 ^ n) k = dg 4294967296 (A / 2 ^ (n % 32)) (k + n / 32) := by
  rw [p2_32 n, ← Nat.div_div_eq_div_mul, dg_down]
theorem dg_lower2 {A n k : Nat} : (dg 4294967296 A (k + n / 32) / 2 ^ (n % 32) + dg 4294967296 A (k + n / 32 + 1) * 2 ^ (32 - n % 32)) % 4294967296 = dg 4294967296 (A / 2 ^ n) k := by
  rw [dg_lower]
  exact ls_dg (by omega)
theorem nd_lower {A n : Nat} : nd 4294967296 (A / 2 ^ n) ≤ nd 4294967296 A - n / 32 := by
  rw [nd_le bB1, p2_32 n, Nat.mul_comm, ← Nat.div_div_eq_div_mul]
  refine Nat.lt_of_le_of_lt (Nat.div_le_self _ _) ?_
  rw [Nat.div_lt_iff_lt_mul (bp_pos bB1 _), ← Nat.pow_add]
  exact Nat.lt_of_lt_of_le (lt_nd bB1 A) (Nat.pow_le_pow_right (by decide) (by omega))
theorem nI_maxsub {a b : Nat} (ha : a < 2 ^ 30) (hb : b < 2 ^ 30) : (if (0 : Int32) < nI a - nI b then nI a - nI b else 0) = nI (a - b) := by
  by_cases z : b < a
  · rw [pk_sub (by omega), if_pos (show (0 : Int32) < nI (a - b) from nI_lt (a := 0) (by omega) (by omega))]
  · have e : a - b = 0 := by omega
    rw [e]
    by_cases w : a = b
    · rw [w, pk_sub (Nat.le_refl b), Nat.sub_self]; rfl
    · rw [if_neg]; · rfl
      intro q
      have := pk_sneg (a := a) (b := b) hb (by omega)
      have h1 := Int32.lt_iff_toInt_lt.mp q
      have h2 := Int32.lt_iff_toInt_lt.mp this
      omega
section
variable {l : Launch} {D : va_G} {tys : List (ClassId × FieldType)} {cJ : ClassId} {L : List Nat} {r : vx_h} {ar cp : Nat → Nat} {cn : Nat → Int32} {fn : Nat → Nat → Int64} {p p1 p2 : Nat} {h : vx_h} {V : Nat → Nat} {C S : Nat}
set_option maxRecDepth 100000 in
set_option maxHeartbeats 4000000 in
/-- raise(a, n): this becomes a * 2^n; it may be a -/
theorem cW_raise (HP : pool cJ L r V h C S) (hL : L.Nodup) (hp : p ∈ L) (hp1 : p1 ∈ L) (ht : tys[0]? = some (cJ, .long)) {n : Nat} (hn : n < 2 ^ 30) (hs : nd 4294967296 (V p1) + n / 32 + 1 ≤ 4100) : vx_M l D vcl tys my_W_raise lw_gd (rm_ 3 C S 64) [.ref p, .ref p1, .int (nI n)] h (pend cJ L r (va_up V p (V p1 * 2 ^ n)) C S none) := by
  obtain ⟨ar, cp, cn, fn, HR, hV, hC, hS⟩ := HP
  have hvx := hV p1 hp1
  refine vx_M.ofV (cc := bc_W_raise) (maxL := 11) (ret := none) (own := rW) false rfl (by decide +kernel) wC_W_raise (fun q => by cases q) (Nat.le_of_ble_eq_true rfl) (fun A H0 G IG RG => ?_)
  show vx_V _ _ _ _ _ _ _ _ _ 0 [(0, .ref p), (1, .ref p1), (2, .int (nI n))] []
  refine vx_iload_n IG dc_W_raise_0 rfl 2 rfl ?_
  refine vx_bipush (v := 32) IG dc_W_raise_1 (by decide) ?_
  refine vx_idiv IG dc_W_raise_3 nI_ne32 ?_
  refine vx_topi (y := nI (n / 32)) (nI_div32 (by omega)) ?_
  refine vx_istore_n (lv' := [(3, .int (nI (n / 32))), (0, .ref p), (1, .ref p1), (2, .int (nI n))]) IG dc_W_raise_4 rfl (by decide) rfl ?_
  refine vx_iload_n IG dc_W_raise_5 rfl 3 rfl ?_
  refine vx_bipush (v := 31) IG dc_W_raise_6 (by decide) ?_
  refine vx_iand IG dc_W_raise_8 ?_
  refine vx_topi (y := nI (n % 32)) (nI_and31 (by omega)) ?_
  refine vx_istore (lv' := [(4, .int (nI (n % 32))), (3, .int (nI (n / 32))), (0, .ref p), (1, .ref p1), (2, .int (nI n))]) IG dc_W_raise_9 (by decide) rfl ?_
  refine vx_aload_n IG dc_W_raise_11 rfl 3 rfl ?_
  refine wr_cnt IG HR hp1 wF_W_15 dc_W_raise_12 ?_
  refine vx_topi (y := nI (nd 4294967296 (V p1))) hvx.1 ?_
  refine vx_istore (lv' := [(5, .int (nI (nd 4294967296 (V p1)))), (4, .int (nI (n % 32))), (3, .int (nI (n / 32))), (0, .ref p), (1, .ref p1), (2, .int (nI n))]) IG dc_W_raise_15 (by decide) rfl ?_
  refine vx_aload_n IG dc_W_raise_17 rfl 3 rfl ?_
  refine vx_iload IG dc_W_raise_18 0 rfl ?_
  refine vx_iload_n IG dc_W_raise_20 rfl 2 rfl ?_
  refine vx_iadd IG dc_W_raise_21 ?_
  refine vx_topi (y := nI (nd 4294967296 (V p1) + n / 32)) (nI_add _ _) ?_
  refine vx_iconst (v := 1) IG dc_W_raise_22 (by decide) ?_
  refine vx_iadd IG dc_W_raise_23 ?_
  refine vx_topi (y := nI (nd 4294967296 (V p1) + n / 32 + 1)) (nI_1 _) ?_
  refine vx_callV (As := [.int (nI (nd 4294967296 (V p1) + n / 32 + 1))]) (st := []) IG lw_good (cW_room HR hL hp ht (n := nd 4294967296 (V p1) + n / 32 + 1) hs hC hS) (rw_obj HR hp) rfl wC_W_room wL_W_31 wI_W_room wS_W_room wX_W 1 (by decide +kernel) rfl ⟨Nat.le_of_ble_eq_true rfl, Nat.le_of_ble_eq_true rfl⟩ ⟨(by show 0 + C ≤ C; omega), (by show 0 + S ≤ S; omega)⟩ rfl (Nat.le_of_ble_eq_true rfl) dc_W_raise_24 (fun v h k_ n_ hq => ?_)
  obtain ⟨rfl, ar1, cp1, fn1, HR, ho, hnn, hge, hsame, kc, ks⟩ := hq
  have hvx1 := wv_room hvx ho hge hsame
  have hc1 := rw_cap HR hp
  have hcx := hvx1.2.1
  show vx_V _ _ _ _ _ _ _ _ _ 27 [(5, .int (nI (nd 4294967296 (V p1)))), (4, .int (nI (n % 32))), (3, .int (nI (n / 32))), (0, .ref p), (1, .ref p1), (2, .int (nI n))] []
  generalize eX : V p1 = X at *
  have hl : n % 32 ≤ 31 := by omega
  -- the places below n / 32 are 0, and it ends
  have low : ∀ (m i : Nat), i + m = n / 32 → ∀ (h : vx_h) (fn2 : Nat → Nat → Int64) (z6 : List (Nat × Value)), (∀ q, q ≠ p → fn2 q = fn1 q) → (∀ j, j < i → fn2 p j = 0) → (∀ j, j ≤ nd 4294967296 X → fn2 p (j + n / 32) = lN (dg 4294967296 (X * 2 ^ n) (j + n / 32))) → rw_at 2 cJ L r ar1 cp1 cn fn2 h → vx_V D vcl A H0 11 G h (0 + k_) (0 + n_) 112 [(6, .int (nI i)), (5, .int (nI (nd 4294967296 X))), (3, .int (nI (n / 32))), (0, .ref p)] [] := by
    intro m
    induction m with
    | zero =>
      intro i him h fn2 z6 f1 f2 f3 HR
      obtain rfl : i = n / 32 := by omega
      refine vx_iload IG dc_W_raise_112 0 rfl ?_
      refine vx_iload_n IG dc_W_raise_114 rfl 2 rfl ?_
      refine vx_icmp_ge (tgt := 132) IG dc_W_raise_115 (by decide) (fun _ => ?_) (fun c_ => absurd (nI_le (Nat.le_refl _) (by omega)) c_)
      refine vx_aload_n IG dc_W_raise_132 rfl 3 rfl ?_
      refine vx_iload IG dc_W_raise_133 1 rfl ?_
      refine vx_iload_n IG dc_W_raise_135 rfl 2 rfl ?_
      refine vx_iadd IG dc_W_raise_136 ?_
      refine vx_topi (y := nI (nd 4294967296 X + n / 32)) (nI_add _ _) ?_
      refine vx_iconst (v := 1) IG dc_W_raise_137 (by decide) ?_
      refine vx_iadd IG dc_W_raise_138 ?_
      refine vx_topi (y := nI (nd 4294967296 X + n / 32 + 1)) (nI_1 _) ?_
      have hd : ∀ i, i < nd 4294967296 X + n / 32 + 1 → dg 4294967296 (X * 2 ^ n) i < 4294967296 ∧ fn2 p i = lN (dg 4294967296 (X * 2 ^ n) i) := by
        intro i hi
        refine ⟨dg_lt bB1 _ _, ?_⟩
        by_cases z : i < n / 32
        · rw [f2 i z, dg_raise0 z]; rfl
        · have := f3 (i - n / 32) (by omega)
          rw [show i - n / 32 + n / 32 = i by omega] at this
          exact this
      refine vx_callV (As := [.int (nI (nd 4294967296 X + n / 32 + 1))]) (st := []) IG lw_good (cW_trim HR hp ht hnn _ hd) (rw_obj HR hp) rfl wC_W_trim wL_W_37 wI_W_trim wS_W_trim wX_W 1 (by decide +kernel) rfl ⟨Nat.le_of_ble_eq_true rfl, Nat.le_of_ble_eq_true rfl⟩ ⟨(by show 0 + k_ + 0 ≤ C; omega), (by show 0 + n_ + 0 ≤ S; omega)⟩ rfl (Nat.le_of_ble_eq_true rfl) dc_W_raise_139 (fun v h k_ n_ hq => ?_)
      obtain ⟨rfl, rfl, rfl, HR⟩ := hq
      show vx_V _ _ _ _ _ _ _ _ _ 142 [(6, .int (nI (n / 32))), (5, .int (nI (nd 4294967296 X))), (3, .int (nI (n / 32))), (0, .ref p)] []
      refine vx_ret none RG (vx_endv dc_W_raise_142) rfl ?_
      have e : vl 4294967296 (dg 4294967296 (X * 2 ^ n)) (nd 4294967296 X + n / 32 + 1) = X * 2 ^ n := vl_nd_le bB1 nd_raise
      have hw := wv_trim (cp := cp1) (cn' := va_up cn p (nI (nd 4294967296 (vl 4294967296 (dg 4294967296 (X * 2 ^ n)) (nd 4294967296 X + n / 32 + 1))))) hd hnn (va_up_self _ _ _)
      rw [e] at HR hw
      refine pool_end (p := p) hV HR (fun q z => ⟨(ho q z).1, va_up_ne _ _ z, ?_⟩) hw (by omega) (by omega)
      rw [f1 q z, (ho q z).2]
    | succ m ih =>
      intro i him h fn2 z6 f1 f2 f3 HR
      refine vx_iload IG dc_W_raise_112 0 rfl ?_
      refine vx_iload_n IG dc_W_raise_114 rfl 2 rfl ?_
      refine vx_icmp_ge (tgt := 132) IG dc_W_raise_115 (by decide) (fun c_ => absurd c_ (nI_ge (by omega) (by omega))) (fun _ => ?_)
      refine vx_aload_n IG dc_W_raise_118 rfl 3 rfl ?_
      refine wr_dig IG HR hp wF_W_11 dc_W_raise_119 ?_
      refine vx_iload IG dc_W_raise_122 0 rfl ?_
      refine vx_lconst (v := 0) IG dc_W_raise_124 (by decide) ?_
      refine wr_ast IG HR hp ht i rfl (by omega) dc_W_raise_125 (fun h HR => ?_)
      obtain ⟨fn3, e_fn3⟩ : ∃ z, z = va_up fn2 p (vp_updL (fn2 p) i 0) := ⟨_, rfl⟩
      rw [← e_fn3] at HR
      refine vx_iinc (q := 0) (v := nI (i + 1)) (lv' := [(6, .int (nI (i + 1))), (5, .int (nI (nd 4294967296 X))), (3, .int (nI (n / 32))), (0, .ref p)]) IG dc_W_raise_126 rfl (nI_1 i) (by decide) rfl ?_
      refine vx_goto (tgt := 112) IG dc_W_raise_129 (by decide) ?_
      refine ih (i + 1) (by omega) h fn3 z6 (fun q z => ?_) (fun j hj => ?_) (fun j hj => ?_) HR
      · rw [e_fn3, va_up_ne _ _ z]; exact f1 q z
      · by_cases z : j = i
        · rw [z, e_fn3, va_up_self, pk_uLs]
        · rw [e_fn3, va_up_self, pk_uLn z]; exact f2 j (by omega)
      · rw [e_fn3, va_up_self, pk_uLn (by omega)]; exact f3 j hj
  have high : ∀ (i : Nat), i ≤ nd 4294967296 X + 1 → ∀ (h : vx_h) (fn2 : Nat → Nat → Int64), (∀ q, q ≠ p → fn2 q = fn1 q) → (∀ j, i ≤ j → j ≤ nd 4294967296 X → fn2 p (j + n / 32) = lN (dg 4294967296 (X * 2 ^ n) (j + n / 32))) → (∀ j, j < i → j < nd 4294967296 X → fn2 p1 j = lN (dg 4294967296 X j)) → rw_at 2 cJ L r ar1 cp1 cn fn2 h → vx_V D vcl A H0 11 G h (0 + k_) (0 + n_) 31 [(6, .int (nI i - 1)), (5, .int (nI (nd 4294967296 X))), (4, .int (nI (n % 32))), (3, .int (nI (n / 32))), (0, .ref p), (1, .ref p1), (2, .int (nI n))] [] := by
    intro i
    induction i with
    | zero =>
      intro hi h fn2 f1 f2 f3 HR
      refine vx_iload IG dc_W_raise_31 0 rfl ?_
      refine vx_if_lt (tgt := 109) IG dc_W_raise_33 (by decide) (fun _ => ?_) (fun c_ => absurd (by decide) c_)
      refine vx_iconst (v := 0) IG dc_W_raise_109 (by decide) ?_
      refine vx_istore (lv' := [(6, .int 0), (5, .int (nI (nd 4294967296 X))), (4, .int (nI (n % 32))), (3, .int (nI (n / 32))), (0, .ref p), (1, .ref p1), (2, .int (nI n))]) IG dc_W_raise_110 (by decide) rfl ?_
      refine vx_same (lv' := [(6, .int 0), (5, .int (nI (nd 4294967296 X))), (3, .int (nI (n / 32))), (0, .ref p)]) IG [0, 1, 3, 4] rfl ?_
      exact low (n / 32) 0 (by omega) h fn2 [] f1 (fun j hj => by omega) (fun j hj => f2 j (Nat.zero_le j) hj) HR
    | succ i ih =>
      intro hi h fn2 f1 f2 f3 HR
      have gx := dg_lt bB1 X i
      rw [nI_pred]
      refine vx_iload IG dc_W_raise_31 0 rfl ?_
      refine vx_if_lt (tgt := 109) IG dc_W_raise_33 (by decide) (fun c_ => absurd c_ (nI_pos (by omega))) (fun _ => ?_)
      refine vx_iload IG dc_W_raise_36 0 rfl ?_
      refine vx_iload IG dc_W_raise_38 1 rfl ?_
      have join2 : ∀ (w : Nat), w = (if i = 0 then 0 else dg 4294967296 X (i - 1) / 2 ^ (32 - n % 32)) → vx_V D vcl A H0 11 G h (0 + k_) (0 + n_) 83 [(7, .long (lN (dg 4294967296 X i * 2 ^ (n % 32)))), (6, .int (nI i)), (5, .int (nI (nd 4294967296 X))), (4, .int (nI (n % 32))), (3, .int (nI (n / 32))), (0, .ref p), (1, .ref p1), (2, .int (nI n))] [.long (lN w)] := by
        intro w hw
        have hw2 : w < 2 ^ (n % 32) := by
          rw [hw]
          split
          · exact Nat.pow_pos (by decide)
          · rw [Nat.div_lt_iff_lt_mul (Nat.pow_pos (by decide)), ← bB2 (by omega)]; exact dg_lt bB1 _ _
        have hbig : dg 4294967296 X i * 2 ^ (n % 32) + w < 2 ^ 64 := by
          have h1 : (dg 4294967296 X i + 1) * 2 ^ (n % 32) ≤ 4294967296 * 2 ^ 31 := Nat.mul_le_mul gx (Nat.pow_le_pow_right (by decide) hl)
          rw [Nat.add_mul] at h1
          omega
        refine vx_lstore (lv' := [(9, .long (lN w)), (7, .long (lN (dg 4294967296 X i * 2 ^ (n % 32)))), (6, .int (nI i)), (5, .int (nI (nd 4294967296 X))), (4, .int (nI (n % 32))), (3, .int (nI (n / 32))), (0, .ref p), (1, .ref p1), (2, .int (nI n))]) IG dc_W_raise_83 (by decide) rfl ?_
        refine vx_aload_n IG dc_W_raise_85 rfl 6 rfl ?_
        refine wr_dig IG HR hp wF_W_11 dc_W_raise_86 ?_
        refine vx_iload IG dc_W_raise_89 2 rfl ?_
        refine vx_iload_n IG dc_W_raise_91 rfl 5 rfl ?_
        refine vx_iadd IG dc_W_raise_92 ?_
        refine vx_topi (y := nI (i + n / 32)) (nI_add _ _) ?_
        refine vx_lload IG dc_W_raise_93 1 rfl ?_
        refine vx_lload IG dc_W_raise_95 0 rfl ?_
        refine vx_lor IG dc_W_raise_97 ?_
        refine vx_topl (y := lN (dg 4294967296 X i * 2 ^ (n % 32) + w)) (g_or (k := n % 32) rfl hw2 hbig) ?_
        refine vx_ldc2 (v := 4294967295) IG (by decide +kernel) dc_W_raise_98 ?_
        refine vx_land IG dc_W_raise_101 ?_
        refine vx_topl (y := lN (dg 4294967296 (X * 2 ^ n) (i + n / 32))) (by rw [ln_mask, hw, rs_dg (by omega), dg_raise]) ?_
        refine wr_ast IG HR hp ht (i + n / 32) rfl (by omega) dc_W_raise_102 (fun h HR => ?_)
        obtain ⟨fn3, e_fn3⟩ : ∃ z, z = va_up fn2 p (vp_updL (fn2 p) (i + n / 32) (lN (dg 4294967296 (X * 2 ^ n) (i + n / 32)))) := ⟨_, rfl⟩
        rw [← e_fn3] at HR
        refine vx_iinc (q := 2) (v := nI i - 1) (lv' := [(6, .int (nI i - 1)), (9, .long (lN w)), (7, .long (lN (dg 4294967296 X i * 2 ^ (n % 32)))), (5, .int (nI (nd 4294967296 X))), (4, .int (nI (n % 32))), (3, .int (nI (n / 32))), (0, .ref p), (1, .ref p1), (2, .int (nI n))]) IG dc_W_raise_103 rfl (i32_dec _) (by decide) rfl ?_
        refine vx_goto (tgt := 31) IG dc_W_raise_106 (by decide) ?_
        refine vx_same (lv' := [(6, .int (nI i - 1)), (5, .int (nI (nd 4294967296 X))), (4, .int (nI (n % 32))), (3, .int (nI (n / 32))), (0, .ref p), (1, .ref p1), (2, .int (nI n))]) IG [0, 3, 4, 5, 6, 7, 8] rfl ?_
        refine ih (by omega) h fn3 (fun q z => ?_) (fun j h1 h2 => ?_) (fun j h1 h2 => ?_) HR
        · rw [e_fn3, va_up_ne _ _ z]; exact f1 q z
        · by_cases z : j = i
          · rw [z, e_fn3, va_up_self, pk_uLs]
          · rw [e_fn3, va_up_self, pk_uLn (by omega)]; exact f2 j (by omega) h2
        · by_cases z : p1 = p
          · rw [e_fn3, z, va_up_self, pk_uLn (by omega), ← z]; exact f3 j (by omega) h2
          · rw [e_fn3, va_up_ne _ _ z]; exact f3 j (by omega) h2
      have join1 : vx_V D vcl A H0 11 G h (0 + k_) (0 + n_) 57 [(6, .int (nI i)), (5, .int (nI (nd 4294967296 X))), (4, .int (nI (n % 32))), (3, .int (nI (n / 32))), (0, .ref p), (1, .ref p1), (2, .int (nI n))] [.long (lN (dg 4294967296 X i * 2 ^ (n % 32)))] := by
        refine vx_lstore (lv' := [(7, .long (lN (dg 4294967296 X i * 2 ^ (n % 32)))), (6, .int (nI i)), (5, .int (nI (nd 4294967296 X))), (4, .int (nI (n % 32))), (3, .int (nI (n / 32))), (0, .ref p), (1, .ref p1), (2, .int (nI n))]) IG dc_W_raise_57 (by decide) rfl ?_
        refine vx_iload IG dc_W_raise_59 1 rfl ?_
        by_cases z : i = 0
        · refine vx_if_le (tgt := 82) IG dc_W_raise_61 (by decide) (fun _ => ?_) (fun c_ => absurd (by rw [z]; decide) c_)
          refine vx_lconst (v := 0) IG dc_W_raise_82 (by decide) ?_
          exact join2 0 (by rw [if_pos z])
        · refine vx_if_le (tgt := 82) IG dc_W_raise_61 (by decide) (fun c_ => absurd c_ (nI_nle (by omega) (by omega))) (fun _ => ?_)
          refine vx_aload_n IG dc_W_raise_64 rfl 6 rfl ?_
          refine wr_dig IG HR hp1 wF_W_11 dc_W_raise_65 ?_
          refine vx_iload IG dc_W_raise_68 1 rfl ?_
          refine vx_iconst (v := 1) IG dc_W_raise_70 (by decide) ?_
          refine vx_isub IG dc_W_raise_71 ?_
          refine vx_topi (y := nI (i - 1)) (by obtain ⟨b, rfl⟩ : ∃ b, i = b + 1 := ⟨i - 1, by omega⟩; exact nI_pred b) ?_
          refine wr_ald IG HR hp1 ht (i - 1) rfl (by omega) dc_W_raise_72 ?_
          refine vx_topl (y := lN (dg 4294967296 X (i - 1))) (f3 (i - 1) (by omega) (by omega)) ?_
          refine vx_bipush (v := 32) IG dc_W_raise_73 (by decide) ?_
          refine vx_iload IG dc_W_raise_75 3 rfl ?_
          refine vx_isub IG dc_W_raise_77 ?_
          refine vx_topi (y := nI (32 - n % 32)) (nI_sub32 (by omega)) ?_
          refine vx_lushr (v := lN (dg 4294967296 X (i - 1) / 2 ^ (32 - n % 32))) IG dc_W_raise_78 (wb_shr (Nat.lt_trans (dg_lt bB1 _ _) (by decide)) (by omega)) ?_
          refine vx_goto (tgt := 83) IG dc_W_raise_79 (by decide) ?_
          exact join2 _ (by rw [if_neg z])
      by_cases z : i < nd 4294967296 X
      · refine vx_icmp_ge (tgt := 56) IG dc_W_raise_40 (by decide) (fun c_ => absurd c_ (nI_ge z (by omega))) (fun _ => ?_)
        refine vx_aload_n IG dc_W_raise_43 rfl 5 rfl ?_
        refine wr_dig IG HR hp1 wF_W_11 dc_W_raise_44 ?_
        refine vx_iload IG dc_W_raise_47 0 rfl ?_
        refine wr_ald IG HR hp1 ht i rfl (by omega) dc_W_raise_49 ?_
        refine vx_topl (y := lN (dg 4294967296 X i)) (f3 i (by omega) z) ?_
        refine vx_iload IG dc_W_raise_50 2 rfl ?_
        refine vx_lshl (v := lN (dg 4294967296 X i * 2 ^ (n % 32))) IG dc_W_raise_52 (wb_shl _ (by omega)) ?_
        refine vx_goto (tgt := 57) IG dc_W_raise_53 (by decide) ?_
        exact join1
      · refine vx_icmp_ge (tgt := 56) IG dc_W_raise_40 (by decide) (fun _ => ?_) (fun c_ => absurd (nI_le (by omega) (by omega)) c_)
        refine vx_lconst (v := 0) IG dc_W_raise_56 (by decide) ?_
        refine vx_topl (y := lN (dg 4294967296 X i * 2 ^ (n % 32))) (by rw [dg_big (Nat.lt_of_lt_of_le (lt_nd bB1 X) (Nat.pow_le_pow_right (by decide) (by omega))), Nat.zero_mul]; rfl) ?_
        exact join1
  refine vx_iload IG dc_W_raise_27 0 rfl ?_
  refine vx_istore (lv' := [(6, .int (nI (nd 4294967296 X))), (5, .int (nI (nd 4294967296 X))), (4, .int (nI (n % 32))), (3, .int (nI (n / 32))), (0, .ref p), (1, .ref p1), (2, .int (nI n))]) IG dc_W_raise_29 (by decide) rfl ?_
  have hh := high (nd 4294967296 X + 1) (Nat.le_refl _) h fn1 (fun _ _ => rfl) (fun j h1 h2 => by omega) (fun j _ hj => hvx1.2.2 j hj) HR
  rw [nI_pred] at hh
  exact hh
end
end
section
/-! Whole: lower, turnOver, repeat -/
section
variable {l : Launch} {D : va_G} {tys : List (ClassId × FieldType)} {cJ : ClassId} {L : List Nat} {r : vx_h} {ar cp : Nat → Nat} {cn : Nat → Int32} {fn : Nat → Nat → Int64} {p p1 p2 : Nat} {h : vx_h} {V : Nat → Nat} {C S : Nat}
set_option maxRecDepth 100000 in
set_option maxHeartbeats 4000000 in
/-- lower(a, n): this becomes a / 2^n, cut; it may be a -/
theorem cW_lower (HP : pool cJ L r V h C S) (hL : L.Nodup) (hp : p ∈ L) (hp1 : p1 ∈ L) (ht : tys[0]? = some (cJ, .long)) {n : Nat} (hn : n < 2 ^ 30) (hs : nd 4294967296 (V p1) ≤ 4100) : vx_M l D vcl tys my_W_lower lw_gd (rm_ 3 C S 64) [.ref p, .ref p1, .int (nI n)] h (pend cJ L r (va_up V p (V p1 / 2 ^ n)) C S none) := by
  obtain ⟨ar, cp, cn, fn, HR, hV, hC, hS⟩ := HP
  have hvx := hV p1 hp1
  refine vx_M.ofV (cc := bc_W_lower) (maxL := 10) (ret := none) (own := rW) false rfl (by decide +kernel) wC_W_lower (fun q => by cases q) (Nat.le_of_ble_eq_true rfl) (fun A H0 G IG RG => ?_)
  show vx_V _ _ _ _ _ _ _ _ _ 0 [(0, .ref p), (1, .ref p1), (2, .int (nI n))] []
  refine vx_iload_n IG dc_W_lower_0 rfl 2 rfl ?_
  refine vx_bipush (v := 32) IG dc_W_lower_1 (by decide) ?_
  refine vx_idiv IG dc_W_lower_3 nI_ne32 ?_
  refine vx_topi (y := nI (n / 32)) (nI_div32 (by omega)) ?_
  refine vx_istore_n (lv' := [(3, .int (nI (n / 32))), (0, .ref p), (1, .ref p1), (2, .int (nI n))]) IG dc_W_lower_4 rfl (by decide) rfl ?_
  refine vx_iload_n IG dc_W_lower_5 rfl 3 rfl ?_
  refine vx_bipush (v := 31) IG dc_W_lower_6 (by decide) ?_
  refine vx_iand IG dc_W_lower_8 ?_
  refine vx_topi (y := nI (n % 32)) (nI_and31 (by omega)) ?_
  refine vx_istore (lv' := [(4, .int (nI (n % 32))), (3, .int (nI (n / 32))), (0, .ref p), (1, .ref p1), (2, .int (nI n))]) IG dc_W_lower_9 (by decide) rfl ?_
  refine vx_aload_n IG dc_W_lower_11 rfl 3 rfl ?_
  refine wr_cnt IG HR hp1 wF_W_15 dc_W_lower_12 ?_
  refine vx_topi (y := nI (nd 4294967296 (V p1))) hvx.1 ?_
  refine vx_istore (lv' := [(5, .int (nI (nd 4294967296 (V p1)))), (4, .int (nI (n % 32))), (3, .int (nI (n / 32))), (0, .ref p), (1, .ref p1), (2, .int (nI n))]) IG dc_W_lower_15 (by decide) rfl ?_
  refine vx_iconst (v := 0) IG dc_W_lower_17 (by decide) ?_
  refine vx_iload IG dc_W_lower_18 0 rfl ?_
  refine vx_iload_n IG dc_W_lower_20 rfl 2 rfl ?_
  refine vx_isub IG dc_W_lower_21 ?_
  refine vx_callS (As := [.int 0, .int ((nI (nd 4294967296 (V p1))) - (nI (n / 32)))]) (st := []) IG lw_good (cJM_max _ 0 (nI (nd 4294967296 (V p1)) - nI (n / 32))) wC_JM_max_II wL_W_19 wT_JM_max_II wX_JM 2 (by decide +kernel) rfl ⟨Nat.le_of_ble_eq_true rfl, Nat.le_of_ble_eq_true rfl⟩ ⟨(by show 0 + 0 ≤ C; omega), (by show 0 + 0 ≤ S; omega)⟩ rfl (Nat.le_of_ble_eq_true rfl) dc_W_lower_22 (fun v h k_ n_ hq => ?_)
  obtain ⟨rfl, rfl, rfl, rfl⟩ := hq
  show vx_V _ _ _ _ _ _ _ _ _ 25 [(5, .int (nI (nd 4294967296 (V p1)))), (4, .int (nI (n % 32))), (3, .int (nI (n / 32))), (0, .ref p), (1, .ref p1), (2, .int (nI n))] [.int (if (0 : Int32) < nI (nd 4294967296 (V p1)) - nI (n / 32) then nI (nd 4294967296 (V p1)) - nI (n / 32) else 0)]
  refine vx_topi (y := nI (nd 4294967296 (V p1) - n / 32)) (nI_maxsub (by omega) (by omega)) ?_
  refine vx_istore (lv' := [(6, .int (nI (nd 4294967296 (V p1) - n / 32))), (5, .int (nI (nd 4294967296 (V p1)))), (4, .int (nI (n % 32))), (3, .int (nI (n / 32))), (0, .ref p), (1, .ref p1), (2, .int (nI n))]) IG dc_W_lower_25 (by decide) rfl ?_
  refine vx_aload_n IG dc_W_lower_27 rfl 4 rfl ?_
  refine vx_iload IG dc_W_lower_28 0 rfl ?_
  refine vx_callV (As := [.int (nI (nd 4294967296 (V p1) - n / 32))]) (st := []) IG lw_good (cW_room HR hL hp ht (n := nd 4294967296 (V p1) - n / 32) (by omega) hC hS) (rw_obj HR hp) rfl wC_W_room wL_W_31 wI_W_room wS_W_room wX_W 1 (by decide +kernel) rfl ⟨Nat.le_of_ble_eq_true rfl, Nat.le_of_ble_eq_true rfl⟩ ⟨(by show 0 + 0 + C ≤ C; omega), (by show 0 + 0 + S ≤ S; omega)⟩ rfl (Nat.le_of_ble_eq_true rfl) dc_W_lower_30 (fun v h k_ n_ hq => ?_)
  obtain ⟨rfl, ar1, cp1, fn1, HR, ho, hnn, hge, hsame, kc, ks⟩ := hq
  have hvx1 := wv_room hvx ho hge hsame
  have hc1 := rw_cap HR hp
  have hcx := hvx1.2.1
  have hcx8 := (rw_cap HR hp1).2
  show vx_V _ _ _ _ _ _ _ _ _ 33 [(6, .int (nI (nd 4294967296 (V p1) - n / 32))), (5, .int (nI (nd 4294967296 (V p1)))), (4, .int (nI (n % 32))), (3, .int (nI (n / 32))), (0, .ref p), (1, .ref p1), (2, .int (nI n))] []
  generalize eX : V p1 = X at *
  have hl : n % 32 ≤ 31 := by omega
  have loop : ∀ (m i : Nat), i + m = nd 4294967296 X - n / 32 → ∀ (h : vx_h) (fn2 : Nat → Nat → Int64), (∀ q, q ≠ p → fn2 q = fn1 q) → (∀ j, j < i → fn2 p j = lN (dg 4294967296 (X / 2 ^ n) j)) → (∀ j, i ≤ j → j < nd 4294967296 X → fn2 p1 j = lN (dg 4294967296 X j)) → rw_at 2 cJ L r ar1 cp1 cn fn2 h → vx_V D vcl A H0 10 G h (0 + 0 + k_) (0 + 0 + n_) 36 [(7, .int (nI i)), (6, .int (nI (nd 4294967296 X - n / 32))), (5, .int (nI (nd 4294967296 X))), (4, .int (nI (n % 32))), (3, .int (nI (n / 32))), (0, .ref p), (1, .ref p1), (2, .int (nI n))] [] := by
    intro m
    induction m with
    | zero =>
      intro i him h fn2 f1 f2 f3 HR
      obtain rfl : i = nd 4294967296 X - n / 32 := by omega
      refine vx_iload IG dc_W_lower_36 0 rfl ?_
      refine vx_iload IG dc_W_lower_38 1 rfl ?_
      refine vx_icmp_ge (tgt := 109) IG dc_W_lower_40 (by decide) (fun _ => ?_) (fun c_ => absurd (nI_le (Nat.le_refl _) (by omega)) c_)
      refine vx_aload_n IG dc_W_lower_109 rfl 5 rfl ?_
      refine vx_iload IG dc_W_lower_110 1 rfl ?_
      have hd : ∀ i, i < nd 4294967296 X - n / 32 → dg 4294967296 (X / 2 ^ n) i < 4294967296 ∧ fn2 p i = lN (dg 4294967296 (X / 2 ^ n) i) := fun i hi => ⟨dg_lt bB1 _ _, f2 i hi⟩
      refine vx_callV (As := [.int (nI (nd 4294967296 X - n / 32))]) (st := []) IG lw_good (cW_trim HR hp ht hnn _ hd) (rw_obj HR hp) rfl wC_W_trim wL_W_37 wI_W_trim wS_W_trim wX_W 1 (by decide +kernel) rfl ⟨Nat.le_of_ble_eq_true rfl, Nat.le_of_ble_eq_true rfl⟩ ⟨(by show 0 + 0 + k_ + 0 ≤ C; omega), (by show 0 + 0 + n_ + 0 ≤ S; omega)⟩ rfl (Nat.le_of_ble_eq_true rfl) dc_W_lower_112 (fun v h k_ n_ hq => ?_)
      obtain ⟨rfl, rfl, rfl, HR⟩ := hq
      show vx_V _ _ _ _ _ _ _ _ _ 115 [(7, .int (nI (nd 4294967296 X - n / 32))), (6, .int (nI (nd 4294967296 X - n / 32))), (5, .int (nI (nd 4294967296 X))), (4, .int (nI (n % 32))), (3, .int (nI (n / 32))), (0, .ref p), (1, .ref p1), (2, .int (nI n))] []
      refine vx_ret none RG (vx_endv dc_W_lower_115) rfl ?_
      have e : vl 4294967296 (dg 4294967296 (X / 2 ^ n)) (nd 4294967296 X - n / 32) = X / 2 ^ n := vl_nd_le bB1 nd_lower
      have hw := wv_trim (cp := cp1) (cn' := va_up cn p (nI (nd 4294967296 (vl 4294967296 (dg 4294967296 (X / 2 ^ n)) (nd 4294967296 X - n / 32))))) hd hnn (va_up_self _ _ _)
      rw [e] at HR hw
      refine pool_end (p := p) hV HR (fun q z => ⟨(ho q z).1, va_up_ne _ _ z, ?_⟩) hw (by omega) (by omega)
      rw [f1 q z, (ho q z).2]
    | succ m ih =>
      intro i him h fn2 f1 f2 f3 HR
      have gx := dg_lt bB1 X (i + n / 32)
      have gy := dg_lt bB1 X (i + n / 32 + 1)
      have hlow : dg 4294967296 X (i + n / 32) / 2 ^ (n % 32) < 2 ^ (32 - n % 32) := by
        rw [Nat.div_lt_iff_lt_mul (Nat.pow_pos (by decide)), Nat.mul_comm, ← bB2 (by omega)]; exact gx
      have hbig : dg 4294967296 X (i + n / 32) / 2 ^ (n % 32) + dg 4294967296 X (i + n / 32 + 1) * 2 ^ (32 - n % 32) < 2 ^ 64 := by
        have h1 : (dg 4294967296 X (i + n / 32 + 1) + 1) * 2 ^ (32 - n % 32) ≤ 4294967296 * 2 ^ 32 := Nat.mul_le_mul gy (Nat.pow_le_pow_right (by decide) (by omega))
        rw [Nat.add_mul] at h1
        omega
      refine vx_iload IG dc_W_lower_36 0 rfl ?_
      refine vx_iload IG dc_W_lower_38 1 rfl ?_
      refine vx_icmp_ge (tgt := 109) IG dc_W_lower_40 (by decide) (fun c_ => absurd c_ (nI_ge (by omega) (by omega))) (fun _ => ?_)
      refine vx_iload IG dc_W_lower_43 0 rfl ?_
      refine vx_iload_n IG dc_W_lower_45 rfl 4 rfl ?_
      refine vx_iadd IG dc_W_lower_46 ?_
      refine vx_topi (y := nI (i + n / 32)) (nI_add _ _) ?_
      refine vx_iconst (v := 1) IG dc_W_lower_47 (by decide) ?_
      refine vx_iadd IG dc_W_lower_48 ?_
      refine vx_topi (y := nI (i + n / 32 + 1)) (nI_1 _) ?_
      refine vx_iload IG dc_W_lower_49 2 rfl ?_
      have join : vx_V D vcl A H0 10 G h (0 + 0 + k_) (0 + 0 + n_) 75 [(7, .int (nI i)), (6, .int (nI (nd 4294967296 X - n / 32))), (5, .int (nI (nd 4294967296 X))), (4, .int (nI (n % 32))), (3, .int (nI (n / 32))), (0, .ref p), (1, .ref p1), (2, .int (nI n))] [.long (lN (dg 4294967296 X (i + n / 32 + 1) * 2 ^ (32 - n % 32)))] := by
        refine vx_lstore (lv' := [(8, .long (lN (dg 4294967296 X (i + n / 32 + 1) * 2 ^ (32 - n % 32)))), (7, .int (nI i)), (6, .int (nI (nd 4294967296 X - n / 32))), (5, .int (nI (nd 4294967296 X))), (4, .int (nI (n % 32))), (3, .int (nI (n / 32))), (0, .ref p), (1, .ref p1), (2, .int (nI n))]) IG dc_W_lower_75 (by decide) rfl ?_
        refine vx_aload_n IG dc_W_lower_77 rfl 6 rfl ?_
        refine wr_dig IG HR hp wF_W_11 dc_W_lower_78 ?_
        refine vx_iload IG dc_W_lower_81 1 rfl ?_
        refine vx_aload_n IG dc_W_lower_83 rfl 7 rfl ?_
        refine wr_dig IG HR hp1 wF_W_11 dc_W_lower_84 ?_
        refine vx_iload IG dc_W_lower_87 1 rfl ?_
        refine vx_iload_n IG dc_W_lower_89 rfl 5 rfl ?_
        refine vx_iadd IG dc_W_lower_90 ?_
        refine vx_topi (y := nI (i + n / 32)) (nI_add _ _) ?_
        refine wr_ald IG HR hp1 ht (i + n / 32) rfl (by omega) dc_W_lower_91 ?_
        refine vx_topl (y := lN (dg 4294967296 X (i + n / 32))) (f3 (i + n / 32) (by omega) (by omega)) ?_
        refine vx_iload IG dc_W_lower_92 4 rfl ?_
        refine vx_lushr (v := lN (dg 4294967296 X (i + n / 32) / 2 ^ (n % 32))) IG dc_W_lower_94 (wb_shr (Nat.lt_trans gx (by decide)) (by omega)) ?_
        refine vx_lload IG dc_W_lower_95 0 rfl ?_
        refine vx_lor IG dc_W_lower_97 ?_
        refine vx_topl (y := lN (dg 4294967296 X (i + n / 32) / 2 ^ (n % 32) + dg 4294967296 X (i + n / 32 + 1) * 2 ^ (32 - n % 32))) (g_or' (k := 32 - n % 32) rfl hlow hbig) ?_
        refine vx_ldc2 (v := 4294967295) IG (by decide +kernel) dc_W_lower_98 ?_
        refine vx_land IG dc_W_lower_101 ?_
        refine vx_topl (y := lN (dg 4294967296 (X / 2 ^ n) i)) (by rw [ln_mask, dg_lower2]) ?_
        refine wr_ast IG HR hp ht i rfl (by omega) dc_W_lower_102 (fun h HR => ?_)
        obtain ⟨fn3, e_fn3⟩ : ∃ z, z = va_up fn2 p (vp_updL (fn2 p) i (lN (dg 4294967296 (X / 2 ^ n) i))) := ⟨_, rfl⟩
        rw [← e_fn3] at HR
        refine vx_iinc (q := 1) (v := nI (i + 1)) (lv' := [(7, .int (nI (i + 1))), (8, .long (lN (dg 4294967296 X (i + n / 32 + 1) * 2 ^ (32 - n % 32)))), (6, .int (nI (nd 4294967296 X - n / 32))), (5, .int (nI (nd 4294967296 X))), (4, .int (nI (n % 32))), (3, .int (nI (n / 32))), (0, .ref p), (1, .ref p1), (2, .int (nI n))]) IG dc_W_lower_103 rfl (nI_1 i) (by decide) rfl ?_
        refine vx_goto (tgt := 36) IG dc_W_lower_106 (by decide) ?_
        refine vx_same (lv' := [(7, .int (nI (i + 1))), (6, .int (nI (nd 4294967296 X - n / 32))), (5, .int (nI (nd 4294967296 X))), (4, .int (nI (n % 32))), (3, .int (nI (n / 32))), (0, .ref p), (1, .ref p1), (2, .int (nI n))]) IG [0, 2, 3, 4, 5, 6, 7, 8] rfl ?_
        refine ih (i + 1) (by omega) h fn3 (fun q z => ?_) (fun j hj => ?_) (fun j h1 h2 => ?_) HR
        · rw [e_fn3, va_up_ne _ _ z]; exact f1 q z
        · by_cases z : j = i
          · rw [z, e_fn3, va_up_self, pk_uLs]
          · rw [e_fn3, va_up_self, pk_uLn z]; exact f2 j (by omega)
        · by_cases z : p1 = p
          · rw [e_fn3, z, va_up_self, pk_uLn (by omega), ← z]; exact f3 j (by omega) h2
          · rw [e_fn3, va_up_ne _ _ z]; exact f3 j (by omega) h2
      by_cases z : i + n / 32 + 1 < nd 4294967296 X
      · refine vx_icmp_ge (tgt := 74) IG dc_W_lower_51 (by decide) (fun c_ => absurd c_ (nI_ge z (by omega))) (fun _ => ?_)
        refine vx_aload_n IG dc_W_lower_54 rfl 6 rfl ?_
        refine wr_dig IG HR hp1 wF_W_11 dc_W_lower_55 ?_
        refine vx_iload IG dc_W_lower_58 0 rfl ?_
        refine vx_iload_n IG dc_W_lower_60 rfl 4 rfl ?_
        refine vx_iadd IG dc_W_lower_61 ?_
        refine vx_topi (y := nI (i + n / 32)) (nI_add _ _) ?_
        refine vx_iconst (v := 1) IG dc_W_lower_62 (by decide) ?_
        refine vx_iadd IG dc_W_lower_63 ?_
        refine vx_topi (y := nI (i + n / 32 + 1)) (nI_1 _) ?_
        refine wr_ald IG HR hp1 ht (i + n / 32 + 1) rfl (by omega) dc_W_lower_64 ?_
        refine vx_topl (y := lN (dg 4294967296 X (i + n / 32 + 1))) (f3 _ (by omega) z) ?_
        refine vx_bipush (v := 32) IG dc_W_lower_65 (by decide) ?_
        refine vx_iload IG dc_W_lower_67 3 rfl ?_
        refine vx_isub IG dc_W_lower_69 ?_
        refine vx_topi (y := nI (32 - n % 32)) (nI_sub32 (by omega)) ?_
        refine vx_lshl (v := lN (dg 4294967296 X (i + n / 32 + 1) * 2 ^ (32 - n % 32))) IG dc_W_lower_70 (wb_shl _ (by omega)) ?_
        refine vx_goto (tgt := 75) IG dc_W_lower_71 (by decide) ?_
        exact join
      · refine vx_icmp_ge (tgt := 74) IG dc_W_lower_51 (by decide) (fun _ => ?_) (fun c_ => absurd (nI_le (by omega) (by omega)) c_)
        refine vx_lconst (v := 0) IG dc_W_lower_74 (by decide) ?_
        refine vx_topl (y := lN (dg 4294967296 X (i + n / 32 + 1) * 2 ^ (32 - n % 32))) (by rw [dg_big (Nat.lt_of_lt_of_le (lt_nd bB1 X) (Nat.pow_le_pow_right (by decide) (by omega))), Nat.zero_mul]; rfl) ?_
        exact join
  refine vx_iconst (v := 0) IG dc_W_lower_33 (by decide) ?_
  refine vx_istore (lv' := [(7, .int 0), (6, .int (nI (nd 4294967296 X - n / 32))), (5, .int (nI (nd 4294967296 X))), (4, .int (nI (n % 32))), (3, .int (nI (n / 32))), (0, .ref p), (1, .ref p1), (2, .int (nI n))]) IG dc_W_lower_34 (by decide) rfl ?_
  exact loop (nd 4294967296 X - n / 32) 0 (by omega) h fn1 (fun _ _ => rfl) (fun j hj => by omega) (fun j _ hj => hvx1.2.2 j hj) HR
theorem to_step {w d : Nat → Nat} {i cr t : Nat} (h : vl 4294967296 w i + cr * 4294967296 ^ i + vl 4294967296 d i = 4294967296 ^ i) (hd : d i < 4294967296) (ht : t = 4294967295 - d i + cr) (hw : w i = t % 4294967296) : vl 4294967296 w (i + 1) + t / 4294967296 * 4294967296 ^ (i + 1) + vl 4294967296 d (i + 1) = 4294967296 ^ (i + 1) := by
  rw [vl_succ, vl_succ, bp_succ, hw]
  have h1 : t * 4294967296 ^ i = t % 4294967296 * 4294967296 ^ i + t / 4294967296 * (4294967296 ^ i * 4294967296) := by
    rw [Nat.mul_comm (4294967296 ^ i) 4294967296, ← Nat.mul_assoc, ← Nat.add_mul]
    congr 1
    omega
  have h2 : t * 4294967296 ^ i + d i * 4294967296 ^ i = 4294967295 * 4294967296 ^ i + cr * 4294967296 ^ i := by
    rw [← Nat.add_mul, ← Nat.add_mul]
    congr 1
    omega
  have h3 : 4294967296 ^ i * 4294967296 = 4294967295 * 4294967296 ^ i + 4294967296 ^ i := by omega
  omega
theorem ln_not {d : Nat} (hd : d < 4294967296) : (lN d ^^^ (-1)) &&& 4294967295 = lN (4294967295 - d) := by
  apply wb_inj
  apply BitVec.eq_of_toNat_eq
  rw [Int64.toBitVec_and, Int64.toBitVec_xor, wb_tb, wb_tb, show (-1 : Int64).toBitVec = BitVec.allOnes 64 from rfl, BitVec.xor_allOnes, BitVec.toNat_and, BitVec.toNat_not, BitVec.toNat_ofNat, BitVec.toNat_ofNat, show (4294967295 : Int64).toBitVec.toNat = 2 ^ 32 - 1 from rfl, Nat.and_two_pow_sub_one_eq_mod]
  omega
set_option maxRecDepth 100000 in
set_option maxHeartbeats 4000000 in
/-- turnOver(n): this becomes 2^(32 n) less what the n lowest places hold, which is not 0 -/
theorem cW_turnOver (HR : rw_at 2 cJ L r ar cp cn fn h) (hp : p ∈ L) (ht : tys[0]? = some (cJ, .long)) {n : Nat} (hn : n ≤ cp p) (d : Nat → Nat) (hd : ∀ i, i < n → d i < 4294967296 ∧ fn p i = lN (d i)) (hpos : 0 < vl 4294967296 d n) : vx_M l D vcl tys my_W_turnOver lw_gd (rm_ 1 0 0 21) [.ref p, .int (nI n)] h (fun v h' k m => v = none ∧ k = 0 ∧ m = 0 ∧ ∃ (cn' : Nat → Int32) (fn' : Nat → Nat → Int64), rw_at 2 cJ L r ar cp cn' fn' h' ∧ (∀ q, q ≠ p → cn' q = cn q ∧ fn' q = fn q) ∧ wv cp cn' fn' p (4294967296 ^ n - vl 4294967296 d n)) := by
  have hc := rw_cap HR hp
  refine vx_M.ofV (cc := bc_W_turnOver) (maxL := 7) (ret := none) (own := rW) false rfl (by decide +kernel) wC_W_turnOver (fun q => by cases q) (Nat.le_of_ble_eq_true rfl) (fun A H0 G IG RG => ?_)
  show vx_V _ _ _ _ _ _ _ _ _ 0 [(0, .ref p), (1, .int (nI n))] []
  have loop : ∀ (m i : Nat), i + m = n → ∀ (h : vx_h) (fn2 : Nat → Nat → Int64) (w : Nat → Nat) (cr : Nat), cr ≤ 1 → (∀ q, q ≠ p → fn2 q = fn q) → (∀ j, j < i → w j < 4294967296 ∧ fn2 p j = lN (w j)) → (∀ j, i ≤ j → fn2 p j = fn p j) → vl 4294967296 w i + cr * 4294967296 ^ i + vl 4294967296 d i = 4294967296 ^ i → rw_at 2 cJ L r ar cp cn fn2 h → vx_V D vcl A H0 7 G h 0 0 5 [(4, .int (nI i)), (2, .long (lN cr)), (0, .ref p), (1, .int (nI n))] [] := by
    intro m
    induction m with
    | zero =>
      intro i him h fn2 w cr hcr f1 f2 f3 f4 HR
      obtain rfl : i = n := by omega
      refine vx_iload IG dc_W_turnOver_5 0 rfl ?_
      refine vx_iload_n IG dc_W_turnOver_7 rfl 3 rfl ?_
      refine vx_icmp_ge (tgt := 55) IG dc_W_turnOver_8 (by decide) (fun _ => ?_) (fun c_ => absurd (nI_le (Nat.le_refl _) (by omega)) c_)
      refine vx_aload_n IG dc_W_turnOver_55 rfl 2 rfl ?_
      refine vx_iload_n IG dc_W_turnOver_56 rfl 3 rfl ?_
      refine vx_callV (As := [.int (nI i)]) (st := []) IG lw_good (cW_trim HR hp ht hn w f2) (rw_obj HR hp) rfl wC_W_trim wL_W_37 wI_W_trim wS_W_trim wX_W 1 (by decide +kernel) rfl ⟨Nat.le_of_ble_eq_true rfl, Nat.le_of_ble_eq_true rfl⟩ ⟨(by decide), (by decide)⟩ rfl (Nat.le_of_ble_eq_true rfl) dc_W_turnOver_57 (fun v h k_ n_ hq => ?_)
      obtain ⟨rfl, rfl, rfl, HR⟩ := hq
      show vx_V _ _ _ _ _ _ _ _ _ 60 [(4, .int (nI i)), (2, .long (lN cr)), (0, .ref p), (1, .int (nI i))] []
      refine vx_ret none RG (vx_endv dc_W_turnOver_60) rfl ?_
      have hcr0 : cr = 0 := by
        rcases (show cr = 0 ∨ cr = 1 by omega) with z | z
        · exact z
        · rw [z] at f4; omega
      have e : vl 4294967296 w i = 4294967296 ^ i - vl 4294967296 d i := by rw [hcr0] at f4; omega
      have hw := wv_trim (cp := cp) (cn' := va_up cn p (nI (nd 4294967296 (vl 4294967296 w i)))) f2 hn (va_up_self _ _ _)
      refine ⟨rfl, rfl, rfl, _, fn2, HR, fun q z => ⟨va_up_ne _ _ z, f1 q z⟩, ?_⟩
      rw [← e]
      exact hw
    | succ m ih =>
      intro i him h fn2 w cr hcr f1 f2 f3 f4 HR
      have hdi := hd i (by omega)
      refine vx_iload IG dc_W_turnOver_5 0 rfl ?_
      refine vx_iload_n IG dc_W_turnOver_7 rfl 3 rfl ?_
      refine vx_icmp_ge (tgt := 55) IG dc_W_turnOver_8 (by decide) (fun c_ => absurd c_ (nI_ge (by omega) (by omega))) (fun _ => ?_)
      refine vx_aload_n IG dc_W_turnOver_11 rfl 2 rfl ?_
      refine wr_dig IG HR hp wF_W_11 dc_W_turnOver_12 ?_
      refine vx_iload IG dc_W_turnOver_15 0 rfl ?_
      refine wr_ald IG HR hp ht i rfl (by omega) dc_W_turnOver_17 ?_
      refine vx_topl (y := lN (d i)) ((f3 i (Nat.le_refl i)).trans hdi.2) ?_
      refine vx_ldc2 (v := -1) IG (by decide +kernel) dc_W_turnOver_18 ?_
      refine vx_lxor IG dc_W_turnOver_21 ?_
      refine vx_ldc2 (v := 4294967295) IG (by decide +kernel) dc_W_turnOver_22 ?_
      refine vx_land IG dc_W_turnOver_25 ?_
      refine vx_topl (y := lN (4294967295 - d i)) (ln_not hdi.1) ?_
      refine vx_lload_n IG dc_W_turnOver_26 rfl 1 rfl ?_
      refine vx_ladd IG dc_W_turnOver_27 ?_
      refine vx_topl (y := lN (4294967295 - d i + cr)) (lN_add _ _) ?_
      refine vx_lstore (lv' := [(5, .long (lN (4294967295 - d i + cr))), (4, .int (nI i)), (2, .long (lN cr)), (0, .ref p), (1, .int (nI n))]) IG dc_W_turnOver_28 (by decide) rfl ?_
      refine vx_aload_n IG dc_W_turnOver_30 rfl 3 rfl ?_
      refine wr_dig IG HR hp wF_W_11 dc_W_turnOver_31 ?_
      refine vx_iload IG dc_W_turnOver_34 1 rfl ?_
      refine vx_lload IG dc_W_turnOver_36 0 rfl ?_
      refine vx_ldc2 (v := 4294967295) IG (by decide +kernel) dc_W_turnOver_38 ?_
      refine vx_land IG dc_W_turnOver_41 ?_
      refine vx_topl (y := lN ((4294967295 - d i + cr) % 4294967296)) (ln_mask _) ?_
      refine wr_ast IG HR hp ht i rfl (by omega) dc_W_turnOver_42 (fun h HR => ?_)
      obtain ⟨fn3, e_fn3⟩ : ∃ z, z = va_up fn2 p (vp_updL (fn2 p) i (lN ((4294967295 - d i + cr) % 4294967296))) := ⟨_, rfl⟩
      rw [← e_fn3] at HR
      refine vx_lload IG dc_W_turnOver_43 0 rfl ?_
      refine vx_bipush (v := 32) IG dc_W_turnOver_45 (by decide) ?_
      refine vx_lushr (v := lN ((4294967295 - d i + cr) / 4294967296)) IG dc_W_turnOver_47 (ln_shr32 (by omega)) ?_
      refine vx_lstore_n (lv' := [(2, .long (lN ((4294967295 - d i + cr) / 4294967296))), (5, .long (lN (4294967295 - d i + cr))), (4, .int (nI i)), (0, .ref p), (1, .int (nI n))]) IG dc_W_turnOver_48 rfl (by decide) rfl ?_
      refine vx_iinc (q := 2) (v := nI (i + 1)) (lv' := [(4, .int (nI (i + 1))), (2, .long (lN ((4294967295 - d i + cr) / 4294967296))), (5, .long (lN (4294967295 - d i + cr))), (0, .ref p), (1, .int (nI n))]) IG dc_W_turnOver_49 rfl (nI_1 i) (by decide) rfl ?_
      refine vx_goto (tgt := 5) IG dc_W_turnOver_52 (by decide) ?_
      refine vx_same (lv' := [(4, .int (nI (i + 1))), (2, .long (lN ((4294967295 - d i + cr) / 4294967296))), (0, .ref p), (1, .int (nI n))]) IG [0, 1, 3, 4] rfl ?_
      refine ih (i + 1) (by omega) h fn3 (fun j => if j = i then (4294967295 - d i + cr) % 4294967296 else w j) _ (by omega) (fun q z => ?_) (fun j hj => ?_) (fun j hj => ?_) ?_ HR
      · rw [e_fn3, va_up_ne _ _ z]; exact f1 q z
      · by_cases z : j = i
        · simp only [z, if_true]
          exact ⟨by omega, by rw [e_fn3, va_up_self, pk_uLs]⟩
        · simp only [z, if_false]
          exact ⟨(f2 j (by omega)).1, by rw [e_fn3, va_up_self, pk_uLn z]; exact (f2 j (by omega)).2⟩
      · rw [e_fn3, va_up_self, pk_uLn (by omega)]; exact f3 j (by omega)
      · refine to_step (cr := cr) ?_ hdi.1 rfl (by show (if i = i then _ else _) = _; rw [if_pos rfl])
        rw [vl_congr (e := w) (fun j hj => by show (if _ then _ else _) = _; rw [if_neg (by omega)])]
        exact f4
  refine vx_lconst (v := 1) IG dc_W_turnOver_0 (by decide) ?_
  refine vx_lstore_n (lv' := [(2, .long 1), (0, .ref p), (1, .int (nI n))]) IG dc_W_turnOver_1 rfl (by decide) rfl ?_
  refine vx_iconst (v := 0) IG dc_W_turnOver_2 (by decide) ?_
  refine vx_istore (lv' := [(4, .int 0), (2, .long 1), (0, .ref p), (1, .int (nI n))]) IG dc_W_turnOver_3 (by decide) rfl ?_
  exact loop n 0 (by omega) h fn (fun _ => 0) 1 (by decide) (fun _ _ => rfl) (fun j hj => by omega) (fun _ _ => rfl) (by simp [vl]) HR
theorem vl_rep {b : Nat} (d : Nat → Nat) (h0 : ∀ k, d (2 * k) = b % 4294967296) (h1 : ∀ k, d (2 * k + 1) = b / 4294967296) (n : Nat) : vl 4294967296 d (2 * n) = vl 18446744073709551616 (fun _ => b) n := by
  induction n with
  | zero => rfl
  | succ n ih =>
    rw [show 2 * (n + 1) = 2 * n + 1 + 1 by omega, vl_succ, vl_succ, vl_succ, ih, h0, h1, bp_succ, show 18446744073709551616 ^ n = 4294967296 ^ (2 * n) by rw [Nat.pow_mul]]
    have e : b * 4294967296 ^ (2 * n) = b % 4294967296 * 4294967296 ^ (2 * n) + b / 4294967296 * (4294967296 ^ (2 * n) * 4294967296) := by
      rw [Nat.mul_comm (4294967296 ^ (2 * n)) 4294967296, ← Nat.mul_assoc, ← Nat.add_mul]
      congr 1
      omega
    rw [e]
    omega
theorem nI_2 (k : Nat) : 2 * nI k = nI (2 * k) := pk_mul 2 k
set_option maxRecDepth 100000 in
set_option maxHeartbeats 4000000 in
/-- repeat(bits, n): n times the 64 bits, one beside the other -/
theorem cW_repeat (HP : pool cJ L r V h C S) (hL : L.Nodup) (hp : p ∈ L) (ht : tys[0]? = some (cJ, .long)) {b n : Nat} (hb : b < 18446744073709551616) (hn : n ≤ 2050) : vx_M l D vcl tys my_W_repeat lw_gd (rm_ 3 C S 64) [.ref p, .long (lN b), .int (nI n)] h (pend cJ L r (va_up V p (vl 18446744073709551616 (fun _ => b) n)) C S none) := by
  obtain ⟨ar, cp, cn, fn, HR, hV, hC, hS⟩ := HP
  refine vx_M.ofV (cc := bc_W_repeat) (maxL := 5) (ret := none) (own := rW) false rfl (by decide +kernel) wC_W_repeat (fun q => by cases q) (Nat.le_of_ble_eq_true rfl) (fun A H0 G IG RG => ?_)
  show vx_V _ _ _ _ _ _ _ _ _ 0 [(0, .ref p), (1, .long (lN b)), (3, .int (nI n))] []
  refine vx_aload_n IG dc_W_repeat_0 rfl 0 rfl ?_
  refine vx_iconst (v := 2) IG dc_W_repeat_1 (by decide) ?_
  refine vx_iload_n IG dc_W_repeat_2 rfl 2 rfl ?_
  refine vx_imul IG dc_W_repeat_3 ?_
  refine vx_topi (y := nI (2 * n)) (nI_2 n) ?_
  refine vx_callV (As := [.int (nI (2 * n))]) (st := []) IG lw_good (cW_room HR hL hp ht (n := 2 * n) (by omega) hC hS) (rw_obj HR hp) rfl wC_W_room wL_W_31 wI_W_room wS_W_room wX_W 1 (by decide +kernel) rfl ⟨Nat.le_of_ble_eq_true rfl, Nat.le_of_ble_eq_true rfl⟩ ⟨(by show 0 + C ≤ C; omega), (by show 0 + S ≤ S; omega)⟩ rfl (Nat.le_of_ble_eq_true rfl) dc_W_repeat_4 (fun v h k_ n_ hq => ?_)
  obtain ⟨rfl, ar1, cp1, fn1, HR, ho, hnn, hge, hsame, kc, ks⟩ := hq
  have hc1 := rw_cap HR hp
  show vx_V _ _ _ _ _ _ _ _ _ 7 [(0, .ref p), (1, .long (lN b)), (3, .int (nI n))] []
  obtain ⟨d, ed⟩ : ∃ d : Nat → Nat, d = fun j => if j % 2 = 0 then b % 4294967296 else b / 4294967296 := ⟨_, rfl⟩
  have d0 : ∀ k, d (2 * k) = b % 4294967296 := fun k => by rw [ed]; show (if _ then _ else _) = _; rw [if_pos (by omega)]
  have d1 : ∀ k, d (2 * k + 1) = b / 4294967296 := fun k => by rw [ed]; show (if _ then _ else _) = _; rw [if_neg (by omega)]
  have dlt : ∀ j, d j < 4294967296 := fun j => by rw [ed]; show (if j % 2 = 0 then b % 4294967296 else b / 4294967296) < 4294967296; split <;> omega
  have loop : ∀ (m i : Nat), i + m = n → ∀ (h : vx_h) (fn2 : Nat → Nat → Int64), (∀ q, q ≠ p → fn2 q = fn1 q) → (∀ j, j < 2 * i → fn2 p j = lN (d j)) → rw_at 2 cJ L r ar1 cp1 cn fn2 h → vx_V D vcl A H0 5 G h (0 + k_) (0 + n_) 10 [(4, .int (nI i)), (0, .ref p), (1, .long (lN b)), (3, .int (nI n))] [] := by
    intro m
    induction m with
    | zero =>
      intro i him h fn2 f1 f2 HR
      obtain rfl : i = n := by omega
      refine vx_iload IG dc_W_repeat_10 0 rfl ?_
      refine vx_iload_n IG dc_W_repeat_12 rfl 3 rfl ?_
      refine vx_icmp_ge (tgt := 51) IG dc_W_repeat_13 (by decide) (fun _ => ?_) (fun c_ => absurd (nI_le (Nat.le_refl _) (by omega)) c_)
      refine vx_aload_n IG dc_W_repeat_51 rfl 1 rfl ?_
      refine vx_iconst (v := 2) IG dc_W_repeat_52 (by decide) ?_
      refine vx_iload_n IG dc_W_repeat_53 rfl 3 rfl ?_
      refine vx_imul IG dc_W_repeat_54 ?_
      refine vx_topi (y := nI (2 * i)) (nI_2 i) ?_
      have hd : ∀ j, j < 2 * i → d j < 4294967296 ∧ fn2 p j = lN (d j) := fun j hj => ⟨dlt j, f2 j hj⟩
      refine vx_callV (As := [.int (nI (2 * i))]) (st := []) IG lw_good (cW_trim HR hp ht hnn d hd) (rw_obj HR hp) rfl wC_W_trim wL_W_37 wI_W_trim wS_W_trim wX_W 1 (by decide +kernel) rfl ⟨Nat.le_of_ble_eq_true rfl, Nat.le_of_ble_eq_true rfl⟩ ⟨(by show 0 + k_ + 0 ≤ C; omega), (by show 0 + n_ + 0 ≤ S; omega)⟩ rfl (Nat.le_of_ble_eq_true rfl) dc_W_repeat_55 (fun v h k_ n_ hq => ?_)
      obtain ⟨rfl, rfl, rfl, HR⟩ := hq
      show vx_V _ _ _ _ _ _ _ _ _ 58 [(4, .int (nI i)), (0, .ref p), (1, .long (lN b)), (3, .int (nI i))] []
      refine vx_ret none RG (vx_endv dc_W_repeat_58) rfl ?_
      have hw := wv_trim (cp := cp1) (cn' := va_up cn p (nI (nd 4294967296 (vl 4294967296 d (2 * i))))) hd hnn (va_up_self _ _ _)
      rw [vl_rep d d0 d1] at HR hw
      refine pool_end (p := p) hV HR (fun q z => ⟨(ho q z).1, va_up_ne _ _ z, ?_⟩) hw (by omega) (by omega)
      rw [f1 q z, (ho q z).2]
    | succ m ih =>
      intro i him h fn2 f1 f2 HR
      refine vx_iload IG dc_W_repeat_10 0 rfl ?_
      refine vx_iload_n IG dc_W_repeat_12 rfl 3 rfl ?_
      refine vx_icmp_ge (tgt := 51) IG dc_W_repeat_13 (by decide) (fun c_ => absurd c_ (nI_ge (by omega) (by omega))) (fun _ => ?_)
      refine vx_aload_n IG dc_W_repeat_16 rfl 1 rfl ?_
      refine wr_dig IG HR hp wF_W_11 dc_W_repeat_17 ?_
      refine vx_iconst (v := 2) IG dc_W_repeat_20 (by decide) ?_
      refine vx_iload IG dc_W_repeat_21 0 rfl ?_
      refine vx_imul IG dc_W_repeat_23 ?_
      refine vx_topi (y := nI (2 * i)) (nI_2 i) ?_
      refine vx_lload_n IG dc_W_repeat_24 rfl 2 rfl ?_
      refine vx_ldc2 (v := 4294967295) IG (by decide +kernel) dc_W_repeat_25 ?_
      refine vx_land IG dc_W_repeat_28 ?_
      refine vx_topl (y := lN (b % 4294967296)) (ln_mask b) ?_
      refine wr_ast IG HR hp ht (2 * i) rfl (by omega) dc_W_repeat_29 (fun h HR => ?_)
      obtain ⟨fn3, e_fn3⟩ : ∃ z, z = va_up fn2 p (vp_updL (fn2 p) (2 * i) (lN (b % 4294967296))) := ⟨_, rfl⟩
      rw [← e_fn3] at HR
      refine vx_aload_n IG dc_W_repeat_30 rfl 1 rfl ?_
      refine wr_dig IG HR hp wF_W_11 dc_W_repeat_31 ?_
      refine vx_iconst (v := 2) IG dc_W_repeat_34 (by decide) ?_
      refine vx_iload IG dc_W_repeat_35 0 rfl ?_
      refine vx_imul IG dc_W_repeat_37 ?_
      refine vx_topi (y := nI (2 * i)) (nI_2 i) ?_
      refine vx_iconst (v := 1) IG dc_W_repeat_38 (by decide) ?_
      refine vx_iadd IG dc_W_repeat_39 ?_
      refine vx_topi (y := nI (2 * i + 1)) (nI_1 _) ?_
      refine vx_lload_n IG dc_W_repeat_40 rfl 2 rfl ?_
      refine vx_bipush (v := 32) IG dc_W_repeat_41 (by decide) ?_
      refine vx_lushr (v := lN (b / 4294967296)) IG dc_W_repeat_43 (ln_shr32 hb) ?_
      refine wr_ast IG HR hp ht (2 * i + 1) rfl (by omega) dc_W_repeat_44 (fun h HR => ?_)
      obtain ⟨fn4, e_fn4⟩ : ∃ z, z = va_up fn3 p (vp_updL (fn3 p) (2 * i + 1) (lN (b / 4294967296))) := ⟨_, rfl⟩
      rw [← e_fn4] at HR
      refine vx_iinc (q := 0) (v := nI (i + 1)) (lv' := [(4, .int (nI (i + 1))), (0, .ref p), (1, .long (lN b)), (3, .int (nI n))]) IG dc_W_repeat_45 rfl (nI_1 i) (by decide) rfl ?_
      refine vx_goto (tgt := 10) IG dc_W_repeat_48 (by decide) ?_
      refine ih (i + 1) (by omega) h fn4 (fun q z => ?_) (fun j hj => ?_) HR
      · rw [e_fn4, va_up_ne _ _ z, e_fn3, va_up_ne _ _ z]; exact f1 q z
      · rw [e_fn4, va_up_self]
        by_cases z : j = 2 * i + 1
        · rw [z, pk_uLs, d1]
        · rw [pk_uLn z, e_fn3, va_up_self]
          by_cases y : j = 2 * i
          · rw [y, pk_uLs, d0]
          · rw [pk_uLn y]; exact f2 j (by omega)
  refine vx_iconst (v := 0) IG dc_W_repeat_7 (by decide) ?_
  refine vx_istore (lv' := [(4, .int 0), (0, .ref p), (1, .long (lN b)), (3, .int (nI n))]) IG dc_W_repeat_8 (by decide) rfl ?_
  exact loop n 0 (by omega) h fn1 (fun _ _ => rfl) (fun j hj => by omega) HR
end
end
section
/-! leading zeros; Whole.bits -/
section
variable {l : Launch} {D : va_G} {cl : List vw_C} {tys : List (ClassId × FieldType)} {R : Room} {own : String} {cc : ByteArray} {nL : Nat} {Ts : List Cond} {ct : Bool} {A : Nat → Prop} {H0 : Heap} {G : vx_G} {h : vx_h} {k n pc : Nat} {lv : List (Nat × Value)} {st : List Value}
theorem vx_ldcw (IG : vx_I l D cl tys R own cc nL Ts ct A H0 G) {index : Nat} {v : Int32} (hm : Cond.constant own index v ∈ Ts) (hd : decode cc pc = .ok (.ldc_w index, 3)) (K : vx_V D cl A H0 nL G h k n (pc + 3) lv (.int v :: st)) : vx_V D cl A H0 nL G h k n pc lv st := by
  obtain ⟨p, e, s, m, args, below, meth, c, Q, rfl, hx, hb, hml, hown, hts, -⟩ := IG
  intro H locs ls g1 g2 g3
  exact lv_ldcw hx hb hown (hts _ hm) hd (K H locs ls g1 g2 g3)
end
theorem bl_shift {N s : Nat} (h : 0 < N / 2 ^ s) : bl N = s + bl (N / 2 ^ s) := by
  obtain ⟨c, hc⟩ : ∃ c, bl (N / 2 ^ s) = c + 1 := ⟨bl (N / 2 ^ s) - 1, by have := bl_pos h; omega⟩
  have h1 : 2 ^ c ≤ N / 2 ^ s := bl_lt.mp (by omega)
  have h2 : N / 2 ^ s < 2 ^ (c + 1) := bl_le.mp (by omega)
  have hp : 0 < 2 ^ s := Nat.pow_pos (by decide)
  rw [Nat.le_div_iff_mul_le hp, ← Nat.pow_add] at h1
  rw [Nat.div_lt_iff_lt_mul hp, ← Nat.pow_add] at h2
  rw [hc, bl_eq (c := c + s) h1 (by rw [show c + s + 1 = c + 1 + s by omega]; exact h2)]
  omega
theorem bl_123 {i : Nat} (h0 : 0 < i) (h : i < 4) : bl i = 1 + i / 2 := by
  rcases (show i = 1 ∨ i = 2 ∨ i = 3 by omega) with rfl | rfl | rfl
  · exact bl_eq (c := 0) (by decide) (by decide)
  · exact bl_eq (c := 1) (by decide) (by decide)
  · exact bl_eq (c := 1) (by decide) (by decide)
theorem nI_dec {a c : Nat} {x : Int32} (h : c ≤ a) (hx : x = -nI c) : nI a + x = nI (a - c) := by
  rw [hx, ← Int32.sub_eq_add_neg]
  exact pk_sub h
theorem dv_pow (d s k : Nat) : d / 2 ^ s / 2 ^ k = d / 2 ^ (s + k) := by rw [Nat.div_div_eq_div_mul, ← Nat.pow_add]
theorem nI_neg {d : Nat} (h : 2147483648 ≤ d) (h2 : d < 4294967296) : nI d < 0 := by
  rw [Int32.lt_iff_toInt_lt]
  show (Int32.ofNat d).toInt < (0 : Int32).toInt
  have e : (Int32.ofNat d).toInt = (d : Int) - 4294967296 := by
    show (BitVec.ofNat 32 d).toInt = _
    rw [BitVec.toInt_eq_toNat_cond, BitVec.toNat_ofNat, Nat.mod_eq_of_lt (by omega), if_neg (by omega)]
    rfl
  rw [e]
  show _ < (0 : Int)
  omega
section
variable {l : Launch} {D : va_G} {tys : List (ClassId × FieldType)}
set_option maxRecDepth 100000 in
set_option maxHeartbeats 4000000 in
theorem cJI_nlz (h : vx_h) {d : Nat} (hd : d < 4294967296) : vx_M l D vcl tys my_JI_numberOfLeadingZeros lw_gd (rm_ 0 0 0 0) [.int (nI d)] h (fun v h' k n => v = some (.int (nI (32 - bl d))) ∧ h' = h ∧ k = 0 ∧ n = 0) := by
  refine vx_M.ofV (cc := bc_JI_numberOfLeadingZeros) (maxL := 2) (ret := some .int) (own := "java/lang/Integer") false rfl (by decide +kernel) wC_JI_numberOfLeadingZeros (fun q => by cases q) (Nat.le_of_ble_eq_true rfl) (fun A H0 G IG RG => ?_)
  show vx_V _ _ _ _ _ _ _ _ _ 0 [(0, .int (nI d))] []
  have p73 : ∀ (s i : Nat), i = d / 2 ^ s → 0 < i → i < 4 → bl d ≤ 31 → vx_V D vcl A H0 2 G h 0 0 73 [(0, .int (nI i)), (1, .int (nI (31 - s)))] [] := by
    intro s i hi h0 h4 hb
    have e1 := bl_shift (N := d) (s := s) (by omega)
    rw [← hi, bl_123 h0 h4] at e1
    refine vx_iload_n IG dc_JI_numberOfLeadingZeros_73 rfl 1 rfl ?_
    refine vx_iload_n IG dc_JI_numberOfLeadingZeros_74 rfl 0 rfl ?_
    refine vx_iconst (v := 1) IG dc_JI_numberOfLeadingZeros_75 (by decide) ?_
    refine vx_iushr (v := nI (i / 2 ^ 1)) IG dc_JI_numberOfLeadingZeros_76 (pk_ushrN (by omega) 1 1 (by decide)) ?_
    refine vx_isub IG dc_JI_numberOfLeadingZeros_77 ?_
    refine vx_topi (y := nI (32 - bl d)) (by rw [pk_sub (by omega)]; congr 1; omega) ?_
    refine vx_ret (some (.int (nI (32 - bl d)))) RG (vx_endi (by first | rfl | decide) dc_JI_numberOfLeadingZeros_78) rfl ?_
    exact ⟨rfl, rfl, rfl, rfl⟩
  have p61 : ∀ (s i : Nat), i = d / 2 ^ s → 0 < i → i < 16 → bl d ≤ 31 → vx_V D vcl A H0 2 G h 0 0 61 [(0, .int (nI i)), (1, .int (nI (31 - s)))] [] := by
    intro s i hi h0 h4 hb
    have e1 := bl_shift (N := d) (s := s) (by omega)
    have e2 := bl_pos h0
    refine vx_iload_n IG dc_JI_numberOfLeadingZeros_61 rfl 0 rfl ?_
    refine vx_iconst (v := 4) IG dc_JI_numberOfLeadingZeros_62 (by decide) ?_
    by_cases z : i < 4
    · refine vx_icmp_lt (tgt := 73) IG dc_JI_numberOfLeadingZeros_63 (by decide) (fun _ => ?_) (fun c_ => absurd (nI_lt (b := 4) z (by decide)) c_)
      exact p73 s i hi h0 z hb
    · refine vx_icmp_lt (tgt := 73) IG dc_JI_numberOfLeadingZeros_63 (by decide) (fun c_ => absurd c_ (nI_nlt (b := 4) (by omega) (by omega))) (fun _ => ?_)
      have e3 : i / 2 ^ 2 = d / 2 ^ (s + 2) := by rw [hi, dv_pow]
      have e4 := bl_shift (N := d) (s := s + 2) (by rw [← e3]; omega)
      refine vx_iinc (q := 1) (v := nI (31 - (s + 2))) (lv' := [(1, .int (nI (31 - (s + 2)))), (0, .int (nI i))]) IG dc_JI_numberOfLeadingZeros_66 rfl (by rw [nI_dec (c := 2) (by omega) (by decide)]; congr 1) (by decide) rfl ?_
      refine vx_iload_n IG dc_JI_numberOfLeadingZeros_69 rfl 1 rfl ?_
      refine vx_iconst (v := 2) IG dc_JI_numberOfLeadingZeros_70 (by decide) ?_
      refine vx_iushr (v := nI (i / 2 ^ 2)) IG dc_JI_numberOfLeadingZeros_71 (pk_ushrN (by omega) 2 2 (by decide)) ?_
      refine vx_istore_n (lv' := [(0, .int (nI (i / 2 ^ 2))), (1, .int (nI (31 - (s + 2))))]) IG dc_JI_numberOfLeadingZeros_72 rfl (by decide) rfl ?_
      exact p73 (s + 2) _ e3 (by omega) (by omega) hb
  have p48 : ∀ (s i : Nat), i = d / 2 ^ s → 0 < i → i < 256 → bl d ≤ 31 → vx_V D vcl A H0 2 G h 0 0 48 [(0, .int (nI i)), (1, .int (nI (31 - s)))] [] := by
    intro s i hi h0 h4 hb
    refine vx_iload_n IG dc_JI_numberOfLeadingZeros_48 rfl 0 rfl ?_
    refine vx_bipush (v := 16) IG dc_JI_numberOfLeadingZeros_49 (by decide) ?_
    by_cases z : i < 16
    · refine vx_icmp_lt (tgt := 61) IG dc_JI_numberOfLeadingZeros_51 (by decide) (fun _ => ?_) (fun c_ => absurd (nI_lt (b := 16) z (by decide)) c_)
      exact p61 s i hi h0 z hb
    · refine vx_icmp_lt (tgt := 61) IG dc_JI_numberOfLeadingZeros_51 (by decide) (fun c_ => absurd c_ (nI_nlt (b := 16) (by omega) (by omega))) (fun _ => ?_)
      have e3 : i / 2 ^ 4 = d / 2 ^ (s + 4) := by rw [hi, dv_pow]
      have e4 := bl_shift (N := d) (s := s + 4) (by rw [← e3]; omega)
      refine vx_iinc (q := 1) (v := nI (31 - (s + 4))) (lv' := [(1, .int (nI (31 - (s + 4)))), (0, .int (nI i))]) IG dc_JI_numberOfLeadingZeros_54 rfl (by rw [nI_dec (c := 4) (by omega) (by decide)]; congr 1) (by decide) rfl ?_
      refine vx_iload_n IG dc_JI_numberOfLeadingZeros_57 rfl 1 rfl ?_
      refine vx_iconst (v := 4) IG dc_JI_numberOfLeadingZeros_58 (by decide) ?_
      refine vx_iushr (v := nI (i / 2 ^ 4)) IG dc_JI_numberOfLeadingZeros_59 (pk_ushrN (by omega) 4 4 (by decide)) ?_
      refine vx_istore_n (lv' := [(0, .int (nI (i / 2 ^ 4))), (1, .int (nI (31 - (s + 4))))]) IG dc_JI_numberOfLeadingZeros_60 rfl (by decide) rfl ?_
      exact p61 (s + 4) _ e3 (by omega) (by omega) hb
  have p33 : ∀ (s i : Nat), i = d / 2 ^ s → 0 < i → i < 65536 → bl d ≤ 31 → vx_V D vcl A H0 2 G h 0 0 33 [(0, .int (nI i)), (1, .int (nI (31 - s)))] [] := by
    intro s i hi h0 h4 hb
    refine vx_iload_n IG dc_JI_numberOfLeadingZeros_33 rfl 0 rfl ?_
    refine vx_sipush (v := 256) IG dc_JI_numberOfLeadingZeros_34 (by decide) ?_
    by_cases z : i < 256
    · refine vx_icmp_lt (tgt := 48) IG dc_JI_numberOfLeadingZeros_37 (by decide) (fun _ => ?_) (fun c_ => absurd (nI_lt (b := 256) z (by decide)) c_)
      exact p48 s i hi h0 z hb
    · refine vx_icmp_lt (tgt := 48) IG dc_JI_numberOfLeadingZeros_37 (by decide) (fun c_ => absurd c_ (nI_nlt (b := 256) (by omega) (by omega))) (fun _ => ?_)
      have e3 : i / 2 ^ 8 = d / 2 ^ (s + 8) := by rw [hi, dv_pow]
      have e4 := bl_shift (N := d) (s := s + 8) (by rw [← e3]; omega)
      refine vx_iinc (q := 1) (v := nI (31 - (s + 8))) (lv' := [(1, .int (nI (31 - (s + 8)))), (0, .int (nI i))]) IG dc_JI_numberOfLeadingZeros_40 rfl (by rw [nI_dec (c := 8) (by omega) (by decide)]; congr 1) (by decide) rfl ?_
      refine vx_iload_n IG dc_JI_numberOfLeadingZeros_43 rfl 1 rfl ?_
      refine vx_bipush (v := 8) IG dc_JI_numberOfLeadingZeros_44 (by decide) ?_
      refine vx_iushr (v := nI (i / 2 ^ 8)) IG dc_JI_numberOfLeadingZeros_46 (pk_ushrN (by omega) 8 8 (by decide)) ?_
      refine vx_istore_n (lv' := [(0, .int (nI (i / 2 ^ 8))), (1, .int (nI (31 - (s + 8))))]) IG dc_JI_numberOfLeadingZeros_47 rfl (by decide) rfl ?_
      exact p48 (s + 8) _ e3 (by omega) (by omega) hb
  refine vx_iload_n IG dc_JI_numberOfLeadingZeros_0 rfl 0 rfl ?_
  by_cases z : 0 < d ∧ d < 2147483648
  · refine vx_if_gt (tgt := 15) IG dc_JI_numberOfLeadingZeros_1 (by decide) (fun _ => ?_) (fun c_ => absurd (nI_lt (a := 0) z.1 (by omega)) c_)
    have hb : bl d ≤ 31 := bl_le.mpr (by omega)
    refine vx_bipush (v := 31) IG dc_JI_numberOfLeadingZeros_15 (by decide) ?_
    refine vx_istore_n (lv' := [(1, .int 31), (0, .int (nI d))]) IG dc_JI_numberOfLeadingZeros_17 rfl (by decide) rfl ?_
    refine vx_iload_n IG dc_JI_numberOfLeadingZeros_18 rfl 1 rfl ?_
    refine vx_ldcw (v := 65536) IG wK_JI_264 dc_JI_numberOfLeadingZeros_19 ?_
    by_cases y : d < 65536
    · refine vx_icmp_lt (tgt := 33) IG dc_JI_numberOfLeadingZeros_22 (by decide) (fun _ => ?_) (fun c_ => absurd (nI_lt (b := 65536) y (by decide)) c_)
      refine vx_same (lv' := [(0, .int (nI d)), (1, .int 31)]) IG [1, 0] rfl ?_
      exact p33 0 d (by simp) z.1 y hb
    · refine vx_icmp_lt (tgt := 33) IG dc_JI_numberOfLeadingZeros_22 (by decide) (fun c_ => absurd c_ (nI_nlt (b := 65536) (by omega) (by omega))) (fun _ => ?_)
      have e4 := bl_shift (N := d) (s := 16) (by omega)
      refine vx_iinc (q := 0) (v := nI (31 - 16)) (lv' := [(1, .int (nI (31 - 16))), (0, .int (nI d))]) IG dc_JI_numberOfLeadingZeros_25 rfl (by decide) (by decide) rfl ?_
      refine vx_iload_n IG dc_JI_numberOfLeadingZeros_28 rfl 1 rfl ?_
      refine vx_bipush (v := 16) IG dc_JI_numberOfLeadingZeros_29 (by decide) ?_
      refine vx_iushr (v := nI (d / 2 ^ 16)) IG dc_JI_numberOfLeadingZeros_31 (pk_ushrN (by omega) 16 16 (by decide)) ?_
      refine vx_istore_n (lv' := [(0, .int (nI (d / 2 ^ 16))), (1, .int (nI (31 - 16)))]) IG dc_JI_numberOfLeadingZeros_32 rfl (by decide) rfl ?_
      exact p33 16 _ rfl (by omega) (by omega) hb
  · by_cases y : d = 0
    · refine vx_if_gt (tgt := 15) IG dc_JI_numberOfLeadingZeros_1 (by decide) (fun c_ => absurd c_ (by rw [y]; decide)) (fun _ => ?_)
      refine vx_iload_n IG dc_JI_numberOfLeadingZeros_4 rfl 0 rfl ?_
      refine vx_if_ne (tgt := 13) IG dc_JI_numberOfLeadingZeros_5 (by decide) (fun c_ => absurd (by rw [y]; decide) c_) (fun _ => ?_)
      refine vx_bipush (v := 32) IG dc_JI_numberOfLeadingZeros_8 (by decide) ?_
      refine vx_goto (tgt := 14) IG dc_JI_numberOfLeadingZeros_10 (by decide) ?_
      refine vx_ret (some (.int 32)) RG (vx_endi (by first | rfl | decide) dc_JI_numberOfLeadingZeros_14) rfl ?_
      exact ⟨by rw [y]; rfl, rfl, rfl, rfl⟩
    · have hneg := nI_neg (d := d) (by omega) hd
      refine vx_if_gt (tgt := 15) IG dc_JI_numberOfLeadingZeros_1 (by decide) (fun c_ => absurd c_ (fun q => by have h1 := Int32.lt_iff_toInt_lt.mp q; have h2 := Int32.lt_iff_toInt_lt.mp hneg; omega)) (fun _ => ?_)
      refine vx_iload_n IG dc_JI_numberOfLeadingZeros_4 rfl 0 rfl ?_
      refine vx_if_ne (tgt := 13) IG dc_JI_numberOfLeadingZeros_5 (by decide) (fun _ => ?_) (fun c_ => absurd c_ (fun q => by rw [q] at hneg; revert hneg; decide))
      refine vx_iconst (v := 0) IG dc_JI_numberOfLeadingZeros_13 (by decide) ?_
      refine vx_ret (some (.int 0)) RG (vx_endi (by first | rfl | decide) dc_JI_numberOfLeadingZeros_14) rfl ?_
      exact ⟨by rw [bl_eq (c := 31) (by omega) (by omega)]; rfl, rfl, rfl, rfl⟩
set_option maxRecDepth 100000 in
set_option maxHeartbeats 4000000 in
theorem cJL_nlz (h : vx_h) {d : Nat} (hd : d < 4294967296) : vx_M l D vcl tys my_JL_numberOfLeadingZeros lw_gd (rm_ 1 0 0 21) [.long (lN d)] h (fun v h' k n => v = some (.int (nI (64 - bl d))) ∧ h' = h ∧ k = 0 ∧ n = 0) := by
  have hb : bl d ≤ 32 := bl_le.mpr hd
  refine vx_M.ofV (cc := bc_JL_numberOfLeadingZeros) (maxL := 3) (ret := some .int) (own := "java/lang/Long") false rfl (by decide +kernel) wC_JL_numberOfLeadingZeros (fun q => by cases q) (Nat.le_of_ble_eq_true rfl) (fun A H0 G IG RG => ?_)
  show vx_V _ _ _ _ _ _ _ _ _ 0 [(0, .long (lN d))] []
  refine vx_lload_n IG dc_JL_numberOfLeadingZeros_0 rfl 0 rfl ?_
  refine vx_bipush (v := 32) IG dc_JL_numberOfLeadingZeros_1 (by decide) ?_
  refine vx_lushr (v := lN 0) IG dc_JL_numberOfLeadingZeros_3 (by rw [ln_shr32 (by omega)]; congr 1; omega) ?_
  refine vx_l2i (v := nI 0) IG dc_JL_numberOfLeadingZeros_4 (lN_i 0) ?_
  refine vx_istore_n (lv' := [(2, .int (nI 0)), (0, .long (lN d))]) IG dc_JL_numberOfLeadingZeros_5 rfl (by decide) rfl ?_
  refine vx_iload_n IG dc_JL_numberOfLeadingZeros_6 rfl 0 rfl ?_
  refine vx_if_ne (tgt := 21) IG dc_JL_numberOfLeadingZeros_7 (by decide) (fun c_ => absurd (by decide) c_) (fun _ => ?_)
  refine vx_bipush (v := 32) IG dc_JL_numberOfLeadingZeros_10 (by decide) ?_
  refine vx_lload_n IG dc_JL_numberOfLeadingZeros_12 rfl 1 rfl ?_
  refine vx_l2i (v := nI d) IG dc_JL_numberOfLeadingZeros_13 (lN_i d) ?_
  refine vx_callS (As := [.int (nI d)]) (st := [.int 32]) IG lw_good (cJI_nlz _ hd) wC_JI_numberOfLeadingZeros wL_JL_308 wT_JI_numberOfLeadingZeros wX_JI 1 (by decide +kernel) rfl ⟨Nat.le_of_ble_eq_true rfl, Nat.le_of_ble_eq_true rfl⟩ ⟨(by decide), (by decide)⟩ rfl (Nat.le_of_ble_eq_true rfl) dc_JL_numberOfLeadingZeros_14 (fun v h k_ n_ hq => ?_)
  obtain ⟨rfl, rfl, rfl, rfl⟩ := hq
  show vx_V _ _ _ _ _ _ _ _ _ 17 [(2, .int (nI 0)), (0, .long (lN d))] [.int (nI (32 - bl d)), .int 32]
  refine vx_iadd IG dc_JL_numberOfLeadingZeros_17 ?_
  refine vx_topi (y := nI (64 - bl d)) (by rw [show (32 : Int32) = nI 32 from rfl, nI_add]; congr 1; omega) ?_
  refine vx_goto (tgt := 25) IG dc_JL_numberOfLeadingZeros_18 (by decide) ?_
  refine vx_ret (some (.int (nI (64 - bl d)))) RG (vx_endi (by first | rfl | decide) dc_JL_numberOfLeadingZeros_25) rfl ?_
  exact ⟨rfl, rfl, rfl, rfl⟩
end
section
variable {l : Launch} {D : va_G} {tys : List (ClassId × FieldType)} {cJ : ClassId} {L : List Nat} {r : vx_h} {p : Nat} {h : vx_h} {V : Nat → Nat} {C S : Nat}
set_option maxRecDepth 100000 in
set_option maxHeartbeats 4000000 in
/-- bits(): how many bits the number has -/
theorem cW_bits (HP : pool cJ L r V h C S) (hp : p ∈ L) (ht : tys[0]? = some (cJ, .long)) : vx_M l D vcl tys my_W_bits lw_gd (rm_ 2 0 0 43) [.ref p] h (fun v h' k m => v = some (.int (nI (bl (V p)))) ∧ h' = h ∧ k = 0 ∧ m = 0) := by
  obtain ⟨ar, cp, cn, fn, HR, hV, hC, hS⟩ := HP
  have hvx := hV p hp
  have hcx := rw_cap HR hp
  have hx2 := hvx.2.1
  refine vx_M.ofV (cc := bc_W_bits) (maxL := 1) (ret := some .int) (own := rW) false rfl (by decide +kernel) wC_W_bits (fun q => by cases q) (Nat.le_of_ble_eq_true rfl) (fun A H0 G IG RG => ?_)
  show vx_V _ _ _ _ _ _ _ _ _ 0 [(0, .ref p)] []
  generalize eX : V p = X at *
  refine vx_aload_n IG dc_W_bits_0 rfl 0 rfl ?_
  refine wr_cnt IG HR hp wF_W_15 dc_W_bits_1 ?_
  refine vx_topi (y := nI (nd 4294967296 X)) hvx.1 ?_
  by_cases z : X = 0
  · refine vx_if_ne (tgt := 9) IG dc_W_bits_4 (by decide) (fun c_ => absurd (by rw [z]; rfl) c_) (fun _ => ?_)
    refine vx_iconst (v := 0) IG dc_W_bits_7 (by decide) ?_
    refine vx_ret (some (.int 0)) RG (vx_endi (by first | rfl | decide) dc_W_bits_8) rfl ?_
    exact ⟨by rw [z]; rfl, rfl, rfl, rfl⟩
  · have hz : 0 < nd 4294967296 X := by
      rcases Nat.eq_zero_or_pos (nd 4294967296 X) with q | q
      · exact absurd ((nd_eq_zero bB1).mp q) z
      · exact q
    have htop := bl_top (w := 32) (N := X) (by decide) (by omega)
    have htb : bl (dg 4294967296 X (nd 4294967296 X - 1)) ≤ 32 := bl_le.mpr (dg_lt bB1 _ _)
    refine vx_if_ne (tgt := 9) IG dc_W_bits_4 (by decide) (fun _ => ?_) (fun c_ => absurd c_ (nI_ne0 hz (by omega)))
    refine vx_bipush (v := 32) IG dc_W_bits_9 (by decide) ?_
    refine vx_aload_n IG dc_W_bits_11 rfl 0 rfl ?_
    refine wr_cnt IG HR hp wF_W_15 dc_W_bits_12 ?_
    refine vx_topi (y := nI (nd 4294967296 X)) hvx.1 ?_
    refine vx_imul IG dc_W_bits_15 ?_
    refine vx_topi (y := nI (32 * nd 4294967296 X)) (pk_mul 32 _) ?_
    refine vx_bipush (v := 32) IG dc_W_bits_16 (by decide) ?_
    refine vx_iadd IG dc_W_bits_18 ?_
    refine vx_topi (y := nI (32 * nd 4294967296 X + 32)) (nI_add _ 32) ?_
    refine vx_aload_n IG dc_W_bits_19 rfl 0 rfl ?_
    refine wr_dig IG HR hp wF_W_11 dc_W_bits_20 ?_
    refine vx_aload_n IG dc_W_bits_23 rfl 0 rfl ?_
    refine wr_cnt IG HR hp wF_W_15 dc_W_bits_24 ?_
    refine vx_topi (y := nI (nd 4294967296 X)) hvx.1 ?_
    refine vx_iconst (v := 1) IG dc_W_bits_27 (by decide) ?_
    refine vx_isub IG dc_W_bits_28 ?_
    refine vx_topi (y := nI (nd 4294967296 X - 1)) (by obtain ⟨b, hb⟩ : ∃ b, nd 4294967296 X = b + 1 := ⟨nd 4294967296 X - 1, by omega⟩; rw [hb]; exact nI_pred b) ?_
    refine wr_ald IG HR hp ht (nd 4294967296 X - 1) rfl (by omega) dc_W_bits_29 ?_
    refine vx_topl (y := lN (dg 4294967296 X (nd 4294967296 X - 1))) (hvx.2.2 _ (by omega)) ?_
    refine vx_callS (As := [.long (lN (dg 4294967296 X (nd 4294967296 X - 1)))]) (st := [.int (nI (32 * nd 4294967296 X + 32))]) IG lw_good (cJL_nlz _ (dg_lt bB1 _ _)) wC_JL_numberOfLeadingZeros wL_W_50 wT_JL_numberOfLeadingZeros wX_JL 1 (by decide +kernel) rfl ⟨Nat.le_of_ble_eq_true rfl, Nat.le_of_ble_eq_true rfl⟩ ⟨(by decide), (by decide)⟩ rfl (Nat.le_of_ble_eq_true rfl) dc_W_bits_30 (fun v h k_ n_ hq => ?_)
    obtain ⟨rfl, rfl, rfl, rfl⟩ := hq
    show vx_V _ _ _ _ _ _ _ _ _ 33 [(0, .ref p)] [.int (nI (64 - bl (dg 4294967296 X (nd 4294967296 X - 1)))), .int (nI (32 * nd 4294967296 X + 32))]
    refine vx_isub IG dc_W_bits_33 ?_
    refine vx_topi (y := nI (bl X)) (by rw [pk_sub (by omega)]; congr 1; have h9 : bl X + 32 = 32 * nd 4294967296 X + bl (dg 4294967296 X (nd 4294967296 X - 1)) := htop; omega) ?_
    refine vx_ret (some (.int (nI (bl X)))) RG (vx_endi (by first | rfl | decide) dc_W_bits_34) rfl ?_
    exact ⟨rfl, rfl, rfl, rfl⟩
end
end
section
theorem dc_D_init_0 : decode bc_D_init 0 = .ok (.aload_n 0, 1) := by decide +kernel
theorem dc_D_init_1 : decode bc_D_init 1 = .ok (.invokespecial 3, 3) := by decide +kernel
theorem dc_D_init_4 : decode bc_D_init 4 = .ok (.aload_n 0, 1) := by decide +kernel
theorem dc_D_init_5 : decode bc_D_init 5 = .ok (.new 9, 3) := by decide +kernel
theorem dc_D_init_8 : decode bc_D_init 8 = .ok (.dup, 1) := by decide +kernel
theorem dc_D_init_9 : decode bc_D_init 9 = .ok (.invokespecial 11, 3) := by decide +kernel
theorem dc_D_init_12 : decode bc_D_init 12 = .ok (.putfield 12, 3) := by decide +kernel
theorem dc_D_init_15 : decode bc_D_init 15 = .ok (.aload_n 0, 1) := by decide +kernel
theorem dc_D_init_16 : decode bc_D_init 16 = .ok (.new 9, 3) := by decide +kernel
theorem dc_D_init_19 : decode bc_D_init 19 = .ok (.dup, 1) := by decide +kernel
theorem dc_D_init_20 : decode bc_D_init 20 = .ok (.invokespecial 11, 3) := by decide +kernel
theorem dc_D_init_23 : decode bc_D_init 23 = .ok (.putfield 18, 3) := by decide +kernel
theorem dc_D_init_26 : decode bc_D_init 26 = .ok (.aload_n 0, 1) := by decide +kernel
theorem dc_D_init_27 : decode bc_D_init 27 = .ok (.new 9, 3) := by decide +kernel
theorem dc_D_init_30 : decode bc_D_init 30 = .ok (.dup, 1) := by decide +kernel
theorem dc_D_init_31 : decode bc_D_init 31 = .ok (.invokespecial 11, 3) := by decide +kernel
theorem dc_D_init_34 : decode bc_D_init 34 = .ok (.putfield 21, 3) := by decide +kernel
theorem dc_D_init_37 : decode bc_D_init 37 = .ok (.return_, 1) := by decide +kernel
theorem dc_D_run_0 : decode bc_D_run 0 = .ok (.aload_n 2, 1) := by decide +kernel
theorem dc_D_run_1 : decode bc_D_run 1 = .ok (.invokevirtual 24, 3) := by decide +kernel
theorem dc_D_run_4 : decode bc_D_run 4 = .ok (.ifCond .ne 11, 3) := by decide +kernel
theorem dc_D_run_7 : decode bc_D_run 7 = .ok (.aload_n 1, 1) := by decide +kernel
theorem dc_D_run_8 : decode bc_D_run 8 = .ok (.aload_n 2, 1) := by decide +kernel
theorem dc_D_run_9 : decode bc_D_run 9 = .ok (.invokevirtual 28, 3) := by decide +kernel
theorem dc_D_run_12 : decode bc_D_run 12 = .ok (.ifCond .ge 19, 3) := by decide +kernel
theorem dc_D_run_15 : decode bc_D_run 15 = .ok (.aload_n 0, 1) := by decide +kernel
theorem dc_D_run_16 : decode bc_D_run 16 = .ok (.getfield 12, 3) := by decide +kernel
theorem dc_D_run_19 : decode bc_D_run 19 = .ok (.invokevirtual 32, 3) := by decide +kernel
theorem dc_D_run_22 : decode bc_D_run 22 = .ok (.aload_n 0, 1) := by decide +kernel
theorem dc_D_run_23 : decode bc_D_run 23 = .ok (.getfield 18, 3) := by decide +kernel
theorem dc_D_run_26 : decode bc_D_run 26 = .ok (.aload_n 1, 1) := by decide +kernel
theorem dc_D_run_27 : decode bc_D_run 27 = .ok (.invokevirtual 35, 3) := by decide +kernel
theorem dc_D_run_30 : decode bc_D_run 30 = .ok (.return_, 1) := by decide +kernel
theorem dc_D_run_31 : decode bc_D_run 31 = .ok (.aload_n 2, 1) := by decide +kernel
theorem dc_D_run_32 : decode bc_D_run 32 = .ok (.getfield 39, 3) := by decide +kernel
theorem dc_D_run_35 : decode bc_D_run 35 = .ok (.istore_n 3, 1) := by decide +kernel
theorem dc_D_run_36 : decode bc_D_run 36 = .ok (.aload_n 1, 1) := by decide +kernel
theorem dc_D_run_37 : decode bc_D_run 37 = .ok (.getfield 39, 3) := by decide +kernel
theorem dc_D_run_40 : decode bc_D_run 40 = .ok (.iload_n 3, 1) := by decide +kernel
theorem dc_D_run_41 : decode bc_D_run 41 = .ok (.isub, 1) := by decide +kernel
theorem dc_D_run_42 : decode bc_D_run 42 = .ok (.iconst 1, 1) := by decide +kernel
theorem dc_D_run_43 : decode bc_D_run 43 = .ok (.iadd, 1) := by decide +kernel
theorem dc_D_run_44 : decode bc_D_run 44 = .ok (.istore 4, 2) := by decide +kernel
theorem dc_D_run_46 : decode bc_D_run 46 = .ok (.bipush 32, 2) := by decide +kernel
theorem dc_D_run_48 : decode bc_D_run 48 = .ok (.iload_n 3, 1) := by decide +kernel
theorem dc_D_run_49 : decode bc_D_run 49 = .ok (.imul, 1) := by decide +kernel
theorem dc_D_run_50 : decode bc_D_run 50 = .ok (.aload_n 2, 1) := by decide +kernel
theorem dc_D_run_51 : decode bc_D_run 51 = .ok (.invokevirtual 43, 3) := by decide +kernel
theorem dc_D_run_54 : decode bc_D_run 54 = .ok (.isub, 1) := by decide +kernel
theorem dc_D_run_55 : decode bc_D_run 55 = .ok (.istore 5, 2) := by decide +kernel
theorem dc_D_run_57 : decode bc_D_run 57 = .ok (.aload_n 0, 1) := by decide +kernel
theorem dc_D_run_58 : decode bc_D_run 58 = .ok (.getfield 21, 3) := by decide +kernel
theorem dc_D_run_61 : decode bc_D_run 61 = .ok (.aload_n 2, 1) := by decide +kernel
theorem dc_D_run_62 : decode bc_D_run 62 = .ok (.iload 5, 2) := by decide +kernel
theorem dc_D_run_64 : decode bc_D_run 64 = .ok (.invokevirtual 47, 3) := by decide +kernel
theorem dc_D_run_67 : decode bc_D_run 67 = .ok (.aload_n 0, 1) := by decide +kernel
theorem dc_D_run_68 : decode bc_D_run 68 = .ok (.getfield 18, 3) := by decide +kernel
theorem dc_D_run_71 : decode bc_D_run 71 = .ok (.aload_n 1, 1) := by decide +kernel
theorem dc_D_run_72 : decode bc_D_run 72 = .ok (.iload 5, 2) := by decide +kernel
theorem dc_D_run_74 : decode bc_D_run 74 = .ok (.invokevirtual 47, 3) := by decide +kernel
theorem dc_D_run_77 : decode bc_D_run 77 = .ok (.aload_n 0, 1) := by decide +kernel
theorem dc_D_run_78 : decode bc_D_run 78 = .ok (.getfield 18, 3) := by decide +kernel
theorem dc_D_run_81 : decode bc_D_run 81 = .ok (.aload_n 1, 1) := by decide +kernel
theorem dc_D_run_82 : decode bc_D_run 82 = .ok (.getfield 39, 3) := by decide +kernel
theorem dc_D_run_85 : decode bc_D_run 85 = .ok (.iconst 1, 1) := by decide +kernel
theorem dc_D_run_86 : decode bc_D_run 86 = .ok (.iadd, 1) := by decide +kernel
theorem dc_D_run_87 : decode bc_D_run 87 = .ok (.invokevirtual 51, 3) := by decide +kernel
theorem dc_D_run_90 : decode bc_D_run 90 = .ok (.aload_n 0, 1) := by decide +kernel
theorem dc_D_run_91 : decode bc_D_run 91 = .ok (.getfield 12, 3) := by decide +kernel
theorem dc_D_run_94 : decode bc_D_run 94 = .ok (.iload 4, 2) := by decide +kernel
theorem dc_D_run_96 : decode bc_D_run 96 = .ok (.invokevirtual 55, 3) := by decide +kernel
theorem dc_D_run_99 : decode bc_D_run 99 = .ok (.iload 4, 2) := by decide +kernel
theorem dc_D_run_101 : decode bc_D_run 101 = .ok (.iconst 1, 1) := by decide +kernel
theorem dc_D_run_102 : decode bc_D_run 102 = .ok (.isub, 1) := by decide +kernel
theorem dc_D_run_103 : decode bc_D_run 103 = .ok (.istore 6, 2) := by decide +kernel
theorem dc_D_run_105 : decode bc_D_run 105 = .ok (.iload 6, 2) := by decide +kernel
theorem dc_D_run_107 : decode bc_D_run 107 = .ok (.ifCond .lt 26, 3) := by decide +kernel
theorem dc_D_run_110 : decode bc_D_run 110 = .ok (.aload_n 0, 1) := by decide +kernel
theorem dc_D_run_111 : decode bc_D_run 111 = .ok (.getfield 12, 3) := by decide +kernel
theorem dc_D_run_114 : decode bc_D_run 114 = .ok (.getfield 58, 3) := by decide +kernel
theorem dc_D_run_117 : decode bc_D_run 117 = .ok (.iload 6, 2) := by decide +kernel
theorem dc_D_run_119 : decode bc_D_run 119 = .ok (.aload_n 0, 1) := by decide +kernel
theorem dc_D_run_120 : decode bc_D_run 120 = .ok (.iload 6, 2) := by decide +kernel
theorem dc_D_run_122 : decode bc_D_run 122 = .ok (.iload_n 3, 1) := by decide +kernel
theorem dc_D_run_123 : decode bc_D_run 123 = .ok (.invokevirtual 62, 3) := by decide +kernel
theorem dc_D_run_126 : decode bc_D_run 126 = .ok (.lastore, 1) := by decide +kernel
theorem dc_D_run_127 : decode bc_D_run 127 = .ok (.iinc 6 (-1), 3) := by decide +kernel
theorem dc_D_run_130 : decode bc_D_run 130 = .ok (.goto (-25), 3) := by decide +kernel
theorem dc_D_run_133 : decode bc_D_run 133 = .ok (.aload_n 0, 1) := by decide +kernel
theorem dc_D_run_134 : decode bc_D_run 134 = .ok (.getfield 12, 3) := by decide +kernel
theorem dc_D_run_137 : decode bc_D_run 137 = .ok (.iload 4, 2) := by decide +kernel
theorem dc_D_run_139 : decode bc_D_run 139 = .ok (.invokevirtual 66, 3) := by decide +kernel
theorem dc_D_run_142 : decode bc_D_run 142 = .ok (.aload_n 0, 1) := by decide +kernel
theorem dc_D_run_143 : decode bc_D_run 143 = .ok (.getfield 18, 3) := by decide +kernel
theorem dc_D_run_146 : decode bc_D_run 146 = .ok (.iload_n 3, 1) := by decide +kernel
theorem dc_D_run_147 : decode bc_D_run 147 = .ok (.invokevirtual 66, 3) := by decide +kernel
theorem dc_D_run_150 : decode bc_D_run 150 = .ok (.aload_n 0, 1) := by decide +kernel
theorem dc_D_run_151 : decode bc_D_run 151 = .ok (.getfield 18, 3) := by decide +kernel
theorem dc_D_run_154 : decode bc_D_run 154 = .ok (.aload_n 0, 1) := by decide +kernel
theorem dc_D_run_155 : decode bc_D_run 155 = .ok (.getfield 18, 3) := by decide +kernel
theorem dc_D_run_158 : decode bc_D_run 158 = .ok (.iload 5, 2) := by decide +kernel
theorem dc_D_run_160 : decode bc_D_run 160 = .ok (.invokevirtual 69, 3) := by decide +kernel
theorem dc_D_run_163 : decode bc_D_run 163 = .ok (.return_, 1) := by decide +kernel
theorem dc_D_takeOut_0 : decode bc_D_takeOut 0 = .ok (.aload_n 0, 1) := by decide +kernel
theorem dc_D_takeOut_1 : decode bc_D_takeOut 1 = .ok (.iload_n 1, 1) := by decide +kernel
theorem dc_D_takeOut_2 : decode bc_D_takeOut 2 = .ok (.iload_n 2, 1) := by decide +kernel
theorem dc_D_takeOut_3 : decode bc_D_takeOut 3 = .ok (.invokevirtual 72, 3) := by decide +kernel
theorem dc_D_takeOut_6 : decode bc_D_takeOut 6 = .ok (.lstore_n 3, 1) := by decide +kernel
theorem dc_D_takeOut_7 : decode bc_D_takeOut 7 = .ok (.lload_n 3, 1) := by decide +kernel
theorem dc_D_takeOut_8 : decode bc_D_takeOut 8 = .ok (.lconst 0, 1) := by decide +kernel
theorem dc_D_takeOut_9 : decode bc_D_takeOut 9 = .ok (.lcmp, 1) := by decide +kernel
theorem dc_D_takeOut_10 : decode bc_D_takeOut 10 = .ok (.ifCond .ne 5, 3) := by decide +kernel
theorem dc_D_takeOut_13 : decode bc_D_takeOut 13 = .ok (.lconst 0, 1) := by decide +kernel
theorem dc_D_takeOut_14 : decode bc_D_takeOut 14 = .ok (.lreturn, 1) := by decide +kernel
theorem dc_D_takeOut_15 : decode bc_D_takeOut 15 = .ok (.aload_n 0, 1) := by decide +kernel
theorem dc_D_takeOut_16 : decode bc_D_takeOut 16 = .ok (.iload_n 1, 1) := by decide +kernel
theorem dc_D_takeOut_17 : decode bc_D_takeOut 17 = .ok (.iload_n 2, 1) := by decide +kernel
theorem dc_D_takeOut_18 : decode bc_D_takeOut 18 = .ok (.lload_n 3, 1) := by decide +kernel
theorem dc_D_takeOut_19 : decode bc_D_takeOut 19 = .ok (.invokevirtual 75, 3) := by decide +kernel
theorem dc_D_takeOut_22 : decode bc_D_takeOut 22 = .ok (.ifCond .ne 5, 3) := by decide +kernel
theorem dc_D_takeOut_25 : decode bc_D_takeOut 25 = .ok (.lload_n 3, 1) := by decide +kernel
theorem dc_D_takeOut_26 : decode bc_D_takeOut 26 = .ok (.lreturn, 1) := by decide +kernel
theorem dc_D_takeOut_27 : decode bc_D_takeOut 27 = .ok (.aload_n 0, 1) := by decide +kernel
theorem dc_D_takeOut_28 : decode bc_D_takeOut 28 = .ok (.iload_n 1, 1) := by decide +kernel
theorem dc_D_takeOut_29 : decode bc_D_takeOut 29 = .ok (.iload_n 2, 1) := by decide +kernel
theorem dc_D_takeOut_30 : decode bc_D_takeOut 30 = .ok (.invokevirtual 79, 3) := by decide +kernel
theorem dc_D_takeOut_33 : decode bc_D_takeOut 33 = .ok (.lload_n 3, 1) := by decide +kernel
theorem dc_D_takeOut_34 : decode bc_D_takeOut 34 = .ok (.lconst 1, 1) := by decide +kernel
theorem dc_D_takeOut_35 : decode bc_D_takeOut 35 = .ok (.lsub, 1) := by decide +kernel
theorem dc_D_takeOut_36 : decode bc_D_takeOut 36 = .ok (.lreturn, 1) := by decide +kernel
theorem dc_D_guess_0 : decode bc_D_guess 0 = .ok (.aload_n 0, 1) := by decide +kernel
theorem dc_D_guess_1 : decode bc_D_guess 1 = .ok (.getfield 18, 3) := by decide +kernel
theorem dc_D_guess_4 : decode bc_D_guess 4 = .ok (.getfield 58, 3) := by decide +kernel
theorem dc_D_guess_7 : decode bc_D_guess 7 = .ok (.astore_n 3, 1) := by decide +kernel
theorem dc_D_guess_8 : decode bc_D_guess 8 = .ok (.aload_n 0, 1) := by decide +kernel
theorem dc_D_guess_9 : decode bc_D_guess 9 = .ok (.getfield 21, 3) := by decide +kernel
theorem dc_D_guess_12 : decode bc_D_guess 12 = .ok (.getfield 58, 3) := by decide +kernel
theorem dc_D_guess_15 : decode bc_D_guess 15 = .ok (.iload_n 2, 1) := by decide +kernel
theorem dc_D_guess_16 : decode bc_D_guess 16 = .ok (.iconst 1, 1) := by decide +kernel
theorem dc_D_guess_17 : decode bc_D_guess 17 = .ok (.isub, 1) := by decide +kernel
theorem dc_D_guess_18 : decode bc_D_guess 18 = .ok (.laload, 1) := by decide +kernel
theorem dc_D_guess_19 : decode bc_D_guess 19 = .ok (.lstore 4, 2) := by decide +kernel
theorem dc_D_guess_21 : decode bc_D_guess 21 = .ok (.aload_n 3, 1) := by decide +kernel
theorem dc_D_guess_22 : decode bc_D_guess 22 = .ok (.iload_n 1, 1) := by decide +kernel
theorem dc_D_guess_23 : decode bc_D_guess 23 = .ok (.iload_n 2, 1) := by decide +kernel
theorem dc_D_guess_24 : decode bc_D_guess 24 = .ok (.iadd, 1) := by decide +kernel
theorem dc_D_guess_25 : decode bc_D_guess 25 = .ok (.laload, 1) := by decide +kernel
theorem dc_D_guess_26 : decode bc_D_guess 26 = .ok (.bipush 32, 2) := by decide +kernel
theorem dc_D_guess_28 : decode bc_D_guess 28 = .ok (.lshl, 1) := by decide +kernel
theorem dc_D_guess_29 : decode bc_D_guess 29 = .ok (.aload_n 3, 1) := by decide +kernel
theorem dc_D_guess_30 : decode bc_D_guess 30 = .ok (.iload_n 1, 1) := by decide +kernel
theorem dc_D_guess_31 : decode bc_D_guess 31 = .ok (.iload_n 2, 1) := by decide +kernel
theorem dc_D_guess_32 : decode bc_D_guess 32 = .ok (.iadd, 1) := by decide +kernel
theorem dc_D_guess_33 : decode bc_D_guess 33 = .ok (.iconst 1, 1) := by decide +kernel
theorem dc_D_guess_34 : decode bc_D_guess 34 = .ok (.isub, 1) := by decide +kernel
theorem dc_D_guess_35 : decode bc_D_guess 35 = .ok (.laload, 1) := by decide +kernel
theorem dc_D_guess_36 : decode bc_D_guess 36 = .ok (.lor, 1) := by decide +kernel
theorem dc_D_guess_37 : decode bc_D_guess 37 = .ok (.lstore 6, 2) := by decide +kernel
theorem dc_D_guess_39 : decode bc_D_guess 39 = .ok (.ldc2_w 83, 3) := by decide +kernel
theorem dc_D_guess_42 : decode bc_D_guess 42 = .ok (.lstore 8, 2) := by decide +kernel
theorem dc_D_guess_44 : decode bc_D_guess 44 = .ok (.aload_n 3, 1) := by decide +kernel
theorem dc_D_guess_45 : decode bc_D_guess 45 = .ok (.iload_n 1, 1) := by decide +kernel
theorem dc_D_guess_46 : decode bc_D_guess 46 = .ok (.iload_n 2, 1) := by decide +kernel
theorem dc_D_guess_47 : decode bc_D_guess 47 = .ok (.iadd, 1) := by decide +kernel
theorem dc_D_guess_48 : decode bc_D_guess 48 = .ok (.laload, 1) := by decide +kernel
theorem dc_D_guess_49 : decode bc_D_guess 49 = .ok (.lload 4, 2) := by decide +kernel
theorem dc_D_guess_51 : decode bc_D_guess 51 = .ok (.lcmp, 1) := by decide +kernel
theorem dc_D_guess_52 : decode bc_D_guess 52 = .ok (.ifCond .ge 12, 3) := by decide +kernel
theorem dc_D_guess_55 : decode bc_D_guess 55 = .ok (.lload 6, 2) := by decide +kernel
theorem dc_D_guess_57 : decode bc_D_guess 57 = .ok (.lload 4, 2) := by decide +kernel
theorem dc_D_guess_59 : decode bc_D_guess 59 = .ok (.invokestatic 85, 3) := by decide +kernel
theorem dc_D_guess_62 : decode bc_D_guess 62 = .ok (.lstore 8, 2) := by decide +kernel
theorem dc_D_guess_64 : decode bc_D_guess 64 = .ok (.iload_n 2, 1) := by decide +kernel
theorem dc_D_guess_65 : decode bc_D_guess 65 = .ok (.iconst 2, 1) := by decide +kernel
theorem dc_D_guess_66 : decode bc_D_guess 66 = .ok (.if_icmp .ge 6, 3) := by decide +kernel
theorem dc_D_guess_69 : decode bc_D_guess 69 = .ok (.lload 8, 2) := by decide +kernel
theorem dc_D_guess_71 : decode bc_D_guess 71 = .ok (.lreturn, 1) := by decide +kernel
theorem dc_D_guess_72 : decode bc_D_guess 72 = .ok (.aload_n 0, 1) := by decide +kernel
theorem dc_D_guess_73 : decode bc_D_guess 73 = .ok (.getfield 21, 3) := by decide +kernel
theorem dc_D_guess_76 : decode bc_D_guess 76 = .ok (.getfield 58, 3) := by decide +kernel
theorem dc_D_guess_79 : decode bc_D_guess 79 = .ok (.iload_n 2, 1) := by decide +kernel
theorem dc_D_guess_80 : decode bc_D_guess 80 = .ok (.iconst 2, 1) := by decide +kernel
theorem dc_D_guess_81 : decode bc_D_guess 81 = .ok (.isub, 1) := by decide +kernel
theorem dc_D_guess_82 : decode bc_D_guess 82 = .ok (.laload, 1) := by decide +kernel
theorem dc_D_guess_83 : decode bc_D_guess 83 = .ok (.lstore 10, 2) := by decide +kernel
theorem dc_D_guess_85 : decode bc_D_guess 85 = .ok (.aload_n 3, 1) := by decide +kernel
theorem dc_D_guess_86 : decode bc_D_guess 86 = .ok (.iload_n 1, 1) := by decide +kernel
theorem dc_D_guess_87 : decode bc_D_guess 87 = .ok (.iload_n 2, 1) := by decide +kernel
theorem dc_D_guess_88 : decode bc_D_guess 88 = .ok (.iadd, 1) := by decide +kernel
theorem dc_D_guess_89 : decode bc_D_guess 89 = .ok (.iconst 2, 1) := by decide +kernel
theorem dc_D_guess_90 : decode bc_D_guess 90 = .ok (.isub, 1) := by decide +kernel
theorem dc_D_guess_91 : decode bc_D_guess 91 = .ok (.laload, 1) := by decide +kernel
theorem dc_D_guess_92 : decode bc_D_guess 92 = .ok (.lstore 12, 2) := by decide +kernel
theorem dc_D_guess_94 : decode bc_D_guess 94 = .ok (.lload 6, 2) := by decide +kernel
theorem dc_D_guess_96 : decode bc_D_guess 96 = .ok (.lload 8, 2) := by decide +kernel
theorem dc_D_guess_98 : decode bc_D_guess 98 = .ok (.lload 4, 2) := by decide +kernel
theorem dc_D_guess_100 : decode bc_D_guess 100 = .ok (.lmul, 1) := by decide +kernel
theorem dc_D_guess_101 : decode bc_D_guess 101 = .ok (.lsub, 1) := by decide +kernel
theorem dc_D_guess_102 : decode bc_D_guess 102 = .ok (.lstore 14, 2) := by decide +kernel
theorem dc_D_guess_104 : decode bc_D_guess 104 = .ok (.iconst 0, 1) := by decide +kernel
theorem dc_D_guess_105 : decode bc_D_guess 105 = .ok (.istore 16, 2) := by decide +kernel
theorem dc_D_guess_107 : decode bc_D_guess 107 = .ok (.iload 16, 2) := by decide +kernel
theorem dc_D_guess_109 : decode bc_D_guess 109 = .ok (.iconst 2, 1) := by decide +kernel
theorem dc_D_guess_110 : decode bc_D_guess 110 = .ok (.if_icmp .ge 53, 3) := by decide +kernel
theorem dc_D_guess_113 : decode bc_D_guess 113 = .ok (.lload 14, 2) := by decide +kernel
theorem dc_D_guess_115 : decode bc_D_guess 115 = .ok (.ldc2_w 83, 3) := by decide +kernel
theorem dc_D_guess_118 : decode bc_D_guess 118 = .ok (.lcmp, 1) := by decide +kernel
theorem dc_D_guess_119 : decode bc_D_guess 119 = .ok (.ifCond .gt 44, 3) := by decide +kernel
theorem dc_D_guess_122 : decode bc_D_guess 122 = .ok (.lload 8, 2) := by decide +kernel
theorem dc_D_guess_124 : decode bc_D_guess 124 = .ok (.lload 10, 2) := by decide +kernel
theorem dc_D_guess_126 : decode bc_D_guess 126 = .ok (.lmul, 1) := by decide +kernel
theorem dc_D_guess_127 : decode bc_D_guess 127 = .ok (.lload 14, 2) := by decide +kernel
theorem dc_D_guess_129 : decode bc_D_guess 129 = .ok (.bipush 32, 2) := by decide +kernel
theorem dc_D_guess_131 : decode bc_D_guess 131 = .ok (.lshl, 1) := by decide +kernel
theorem dc_D_guess_132 : decode bc_D_guess 132 = .ok (.lload 12, 2) := by decide +kernel
theorem dc_D_guess_134 : decode bc_D_guess 134 = .ok (.lor, 1) := by decide +kernel
theorem dc_D_guess_135 : decode bc_D_guess 135 = .ok (.invokestatic 89, 3) := by decide +kernel
theorem dc_D_guess_138 : decode bc_D_guess 138 = .ok (.ifCond .gt 6, 3) := by decide +kernel
theorem dc_D_guess_141 : decode bc_D_guess 141 = .ok (.goto 22, 3) := by decide +kernel
theorem dc_D_guess_144 : decode bc_D_guess 144 = .ok (.lload 8, 2) := by decide +kernel
theorem dc_D_guess_146 : decode bc_D_guess 146 = .ok (.lconst 1, 1) := by decide +kernel
theorem dc_D_guess_147 : decode bc_D_guess 147 = .ok (.lsub, 1) := by decide +kernel
theorem dc_D_guess_148 : decode bc_D_guess 148 = .ok (.lstore 8, 2) := by decide +kernel
theorem dc_D_guess_150 : decode bc_D_guess 150 = .ok (.lload 14, 2) := by decide +kernel
theorem dc_D_guess_152 : decode bc_D_guess 152 = .ok (.lload 4, 2) := by decide +kernel
theorem dc_D_guess_154 : decode bc_D_guess 154 = .ok (.ladd, 1) := by decide +kernel
theorem dc_D_guess_155 : decode bc_D_guess 155 = .ok (.lstore 14, 2) := by decide +kernel
theorem dc_D_guess_157 : decode bc_D_guess 157 = .ok (.iinc 16 1, 3) := by decide +kernel
theorem dc_D_guess_160 : decode bc_D_guess 160 = .ok (.goto (-53), 3) := by decide +kernel
theorem dc_D_guess_163 : decode bc_D_guess 163 = .ok (.lload 8, 2) := by decide +kernel
theorem dc_D_guess_165 : decode bc_D_guess 165 = .ok (.lreturn, 1) := by decide +kernel
theorem dc_D_quotientOfPair_0 : decode bc_D_quotientOfPair 0 = .ok (.lload_n 2, 1) := by decide +kernel
theorem dc_D_quotientOfPair_1 : decode bc_D_quotientOfPair 1 = .ok (.lconst 0, 1) := by decide +kernel
theorem dc_D_quotientOfPair_2 : decode bc_D_quotientOfPair 2 = .ok (.lcmp, 1) := by decide +kernel
theorem dc_D_quotientOfPair_3 : decode bc_D_quotientOfPair 3 = .ok (.ifCond .gt 5, 3) := by decide +kernel
theorem dc_D_quotientOfPair_6 : decode bc_D_quotientOfPair 6 = .ok (.lconst 0, 1) := by decide +kernel
theorem dc_D_quotientOfPair_7 : decode bc_D_quotientOfPair 7 = .ok (.lreturn, 1) := by decide +kernel
theorem dc_D_quotientOfPair_8 : decode bc_D_quotientOfPair 8 = .ok (.lload_n 0, 1) := by decide +kernel
theorem dc_D_quotientOfPair_9 : decode bc_D_quotientOfPair 9 = .ok (.iconst 1, 1) := by decide +kernel
theorem dc_D_quotientOfPair_10 : decode bc_D_quotientOfPair 10 = .ok (.lushr, 1) := by decide +kernel
theorem dc_D_quotientOfPair_11 : decode bc_D_quotientOfPair 11 = .ok (.lload_n 2, 1) := by decide +kernel
theorem dc_D_quotientOfPair_12 : decode bc_D_quotientOfPair 12 = .ok (.ldiv, 1) := by decide +kernel
theorem dc_D_quotientOfPair_13 : decode bc_D_quotientOfPair 13 = .ok (.iconst 1, 1) := by decide +kernel
theorem dc_D_quotientOfPair_14 : decode bc_D_quotientOfPair 14 = .ok (.lshl, 1) := by decide +kernel
theorem dc_D_quotientOfPair_15 : decode bc_D_quotientOfPair 15 = .ok (.lstore 4, 2) := by decide +kernel
theorem dc_D_quotientOfPair_17 : decode bc_D_quotientOfPair 17 = .ok (.lload_n 0, 1) := by decide +kernel
theorem dc_D_quotientOfPair_18 : decode bc_D_quotientOfPair 18 = .ok (.lload 4, 2) := by decide +kernel
theorem dc_D_quotientOfPair_20 : decode bc_D_quotientOfPair 20 = .ok (.lload_n 2, 1) := by decide +kernel
theorem dc_D_quotientOfPair_21 : decode bc_D_quotientOfPair 21 = .ok (.lmul, 1) := by decide +kernel
theorem dc_D_quotientOfPair_22 : decode bc_D_quotientOfPair 22 = .ok (.lsub, 1) := by decide +kernel
theorem dc_D_quotientOfPair_23 : decode bc_D_quotientOfPair 23 = .ok (.lload_n 2, 1) := by decide +kernel
theorem dc_D_quotientOfPair_24 : decode bc_D_quotientOfPair 24 = .ok (.lcmp, 1) := by decide +kernel
theorem dc_D_quotientOfPair_25 : decode bc_D_quotientOfPair 25 = .ok (.ifCond .lt 10, 3) := by decide +kernel
theorem dc_D_quotientOfPair_28 : decode bc_D_quotientOfPair 28 = .ok (.lload 4, 2) := by decide +kernel
theorem dc_D_quotientOfPair_30 : decode bc_D_quotientOfPair 30 = .ok (.lconst 1, 1) := by decide +kernel
theorem dc_D_quotientOfPair_31 : decode bc_D_quotientOfPair 31 = .ok (.ladd, 1) := by decide +kernel
theorem dc_D_quotientOfPair_32 : decode bc_D_quotientOfPair 32 = .ok (.goto 5, 3) := by decide +kernel
theorem dc_D_quotientOfPair_35 : decode bc_D_quotientOfPair 35 = .ok (.lload 4, 2) := by decide +kernel
theorem dc_D_quotientOfPair_37 : decode bc_D_quotientOfPair 37 = .ok (.lreturn, 1) := by decide +kernel
theorem dc_D_subtract_0 : decode bc_D_subtract 0 = .ok (.aload_n 0, 1) := by decide +kernel
theorem dc_D_subtract_1 : decode bc_D_subtract 1 = .ok (.getfield 18, 3) := by decide +kernel
theorem dc_D_subtract_4 : decode bc_D_subtract 4 = .ok (.getfield 58, 3) := by decide +kernel
theorem dc_D_subtract_7 : decode bc_D_subtract 7 = .ok (.astore 5, 2) := by decide +kernel
theorem dc_D_subtract_9 : decode bc_D_subtract 9 = .ok (.aload_n 0, 1) := by decide +kernel
theorem dc_D_subtract_10 : decode bc_D_subtract 10 = .ok (.getfield 21, 3) := by decide +kernel
theorem dc_D_subtract_13 : decode bc_D_subtract 13 = .ok (.getfield 58, 3) := by decide +kernel
theorem dc_D_subtract_16 : decode bc_D_subtract 16 = .ok (.astore 6, 2) := by decide +kernel
theorem dc_D_subtract_18 : decode bc_D_subtract 18 = .ok (.lconst 0, 1) := by decide +kernel
theorem dc_D_subtract_19 : decode bc_D_subtract 19 = .ok (.lstore 7, 2) := by decide +kernel
theorem dc_D_subtract_21 : decode bc_D_subtract 21 = .ok (.iconst 0, 1) := by decide +kernel
theorem dc_D_subtract_22 : decode bc_D_subtract 22 = .ok (.istore 9, 2) := by decide +kernel
theorem dc_D_subtract_24 : decode bc_D_subtract 24 = .ok (.iload 9, 2) := by decide +kernel
theorem dc_D_subtract_26 : decode bc_D_subtract 26 = .ok (.iload_n 2, 1) := by decide +kernel
theorem dc_D_subtract_27 : decode bc_D_subtract 27 = .ok (.if_icmp .ge 63, 3) := by decide +kernel
theorem dc_D_subtract_30 : decode bc_D_subtract 30 = .ok (.lload_n 3, 1) := by decide +kernel
theorem dc_D_subtract_31 : decode bc_D_subtract 31 = .ok (.aload 6, 2) := by decide +kernel
theorem dc_D_subtract_33 : decode bc_D_subtract 33 = .ok (.iload 9, 2) := by decide +kernel
theorem dc_D_subtract_35 : decode bc_D_subtract 35 = .ok (.laload, 1) := by decide +kernel
theorem dc_D_subtract_36 : decode bc_D_subtract 36 = .ok (.lmul, 1) := by decide +kernel
theorem dc_D_subtract_37 : decode bc_D_subtract 37 = .ok (.lload 7, 2) := by decide +kernel
theorem dc_D_subtract_39 : decode bc_D_subtract 39 = .ok (.ladd, 1) := by decide +kernel
theorem dc_D_subtract_40 : decode bc_D_subtract 40 = .ok (.lstore 10, 2) := by decide +kernel
theorem dc_D_subtract_42 : decode bc_D_subtract 42 = .ok (.aload 5, 2) := by decide +kernel
theorem dc_D_subtract_44 : decode bc_D_subtract 44 = .ok (.iload_n 1, 1) := by decide +kernel
theorem dc_D_subtract_45 : decode bc_D_subtract 45 = .ok (.iload 9, 2) := by decide +kernel
theorem dc_D_subtract_47 : decode bc_D_subtract 47 = .ok (.iadd, 1) := by decide +kernel
theorem dc_D_subtract_48 : decode bc_D_subtract 48 = .ok (.laload, 1) := by decide +kernel
theorem dc_D_subtract_49 : decode bc_D_subtract 49 = .ok (.lload 10, 2) := by decide +kernel
theorem dc_D_subtract_51 : decode bc_D_subtract 51 = .ok (.ldc2_w 83, 3) := by decide +kernel
theorem dc_D_subtract_54 : decode bc_D_subtract 54 = .ok (.land, 1) := by decide +kernel
theorem dc_D_subtract_55 : decode bc_D_subtract 55 = .ok (.lsub, 1) := by decide +kernel
theorem dc_D_subtract_56 : decode bc_D_subtract 56 = .ok (.lstore 12, 2) := by decide +kernel
theorem dc_D_subtract_58 : decode bc_D_subtract 58 = .ok (.aload 5, 2) := by decide +kernel
theorem dc_D_subtract_60 : decode bc_D_subtract 60 = .ok (.iload_n 1, 1) := by decide +kernel
theorem dc_D_subtract_61 : decode bc_D_subtract 61 = .ok (.iload 9, 2) := by decide +kernel
theorem dc_D_subtract_63 : decode bc_D_subtract 63 = .ok (.iadd, 1) := by decide +kernel
theorem dc_D_subtract_64 : decode bc_D_subtract 64 = .ok (.lload 12, 2) := by decide +kernel
theorem dc_D_subtract_66 : decode bc_D_subtract 66 = .ok (.ldc2_w 83, 3) := by decide +kernel
theorem dc_D_subtract_69 : decode bc_D_subtract 69 = .ok (.land, 1) := by decide +kernel
theorem dc_D_subtract_70 : decode bc_D_subtract 70 = .ok (.lastore, 1) := by decide +kernel
theorem dc_D_subtract_71 : decode bc_D_subtract 71 = .ok (.lload 10, 2) := by decide +kernel
theorem dc_D_subtract_73 : decode bc_D_subtract 73 = .ok (.bipush 32, 2) := by decide +kernel
theorem dc_D_subtract_75 : decode bc_D_subtract 75 = .ok (.lushr, 1) := by decide +kernel
theorem dc_D_subtract_76 : decode bc_D_subtract 76 = .ok (.lload 12, 2) := by decide +kernel
theorem dc_D_subtract_78 : decode bc_D_subtract 78 = .ok (.bipush 63, 2) := by decide +kernel
theorem dc_D_subtract_80 : decode bc_D_subtract 80 = .ok (.lushr, 1) := by decide +kernel
theorem dc_D_subtract_81 : decode bc_D_subtract 81 = .ok (.ladd, 1) := by decide +kernel
theorem dc_D_subtract_82 : decode bc_D_subtract 82 = .ok (.lstore 7, 2) := by decide +kernel
theorem dc_D_subtract_84 : decode bc_D_subtract 84 = .ok (.iinc 9 1, 3) := by decide +kernel
theorem dc_D_subtract_87 : decode bc_D_subtract 87 = .ok (.goto (-63), 3) := by decide +kernel
theorem dc_D_subtract_90 : decode bc_D_subtract 90 = .ok (.aload 5, 2) := by decide +kernel
theorem dc_D_subtract_92 : decode bc_D_subtract 92 = .ok (.iload_n 1, 1) := by decide +kernel
theorem dc_D_subtract_93 : decode bc_D_subtract 93 = .ok (.iload_n 2, 1) := by decide +kernel
theorem dc_D_subtract_94 : decode bc_D_subtract 94 = .ok (.iadd, 1) := by decide +kernel
theorem dc_D_subtract_95 : decode bc_D_subtract 95 = .ok (.laload, 1) := by decide +kernel
theorem dc_D_subtract_96 : decode bc_D_subtract 96 = .ok (.lload 7, 2) := by decide +kernel
theorem dc_D_subtract_98 : decode bc_D_subtract 98 = .ok (.lsub, 1) := by decide +kernel
theorem dc_D_subtract_99 : decode bc_D_subtract 99 = .ok (.lstore 9, 2) := by decide +kernel
theorem dc_D_subtract_101 : decode bc_D_subtract 101 = .ok (.aload 5, 2) := by decide +kernel
theorem dc_D_subtract_103 : decode bc_D_subtract 103 = .ok (.iload_n 1, 1) := by decide +kernel
theorem dc_D_subtract_104 : decode bc_D_subtract 104 = .ok (.iload_n 2, 1) := by decide +kernel
theorem dc_D_subtract_105 : decode bc_D_subtract 105 = .ok (.iadd, 1) := by decide +kernel
theorem dc_D_subtract_106 : decode bc_D_subtract 106 = .ok (.lload 9, 2) := by decide +kernel
theorem dc_D_subtract_108 : decode bc_D_subtract 108 = .ok (.ldc2_w 83, 3) := by decide +kernel
theorem dc_D_subtract_111 : decode bc_D_subtract 111 = .ok (.land, 1) := by decide +kernel
theorem dc_D_subtract_112 : decode bc_D_subtract 112 = .ok (.lastore, 1) := by decide +kernel
theorem dc_D_subtract_113 : decode bc_D_subtract 113 = .ok (.lload 9, 2) := by decide +kernel
theorem dc_D_subtract_115 : decode bc_D_subtract 115 = .ok (.lconst 0, 1) := by decide +kernel
theorem dc_D_subtract_116 : decode bc_D_subtract 116 = .ok (.lcmp, 1) := by decide +kernel
theorem dc_D_subtract_117 : decode bc_D_subtract 117 = .ok (.ifCond .ge 7, 3) := by decide +kernel
theorem dc_D_subtract_120 : decode bc_D_subtract 120 = .ok (.iconst 1, 1) := by decide +kernel
theorem dc_D_subtract_121 : decode bc_D_subtract 121 = .ok (.goto 4, 3) := by decide +kernel
theorem dc_D_subtract_124 : decode bc_D_subtract 124 = .ok (.iconst 0, 1) := by decide +kernel
theorem dc_D_subtract_125 : decode bc_D_subtract 125 = .ok (.ireturn, 1) := by decide +kernel
theorem dc_D_addBack_0 : decode bc_D_addBack 0 = .ok (.aload_n 0, 1) := by decide +kernel
theorem dc_D_addBack_1 : decode bc_D_addBack 1 = .ok (.getfield 18, 3) := by decide +kernel
theorem dc_D_addBack_4 : decode bc_D_addBack 4 = .ok (.getfield 58, 3) := by decide +kernel
theorem dc_D_addBack_7 : decode bc_D_addBack 7 = .ok (.astore_n 3, 1) := by decide +kernel
theorem dc_D_addBack_8 : decode bc_D_addBack 8 = .ok (.aload_n 0, 1) := by decide +kernel
theorem dc_D_addBack_9 : decode bc_D_addBack 9 = .ok (.getfield 21, 3) := by decide +kernel
theorem dc_D_addBack_12 : decode bc_D_addBack 12 = .ok (.getfield 58, 3) := by decide +kernel
theorem dc_D_addBack_15 : decode bc_D_addBack 15 = .ok (.astore 4, 2) := by decide +kernel
theorem dc_D_addBack_17 : decode bc_D_addBack 17 = .ok (.lconst 0, 1) := by decide +kernel
theorem dc_D_addBack_18 : decode bc_D_addBack 18 = .ok (.lstore 5, 2) := by decide +kernel
theorem dc_D_addBack_20 : decode bc_D_addBack 20 = .ok (.iconst 0, 1) := by decide +kernel
theorem dc_D_addBack_21 : decode bc_D_addBack 21 = .ok (.istore 7, 2) := by decide +kernel
theorem dc_D_addBack_23 : decode bc_D_addBack 23 = .ok (.iload 7, 2) := by decide +kernel
theorem dc_D_addBack_25 : decode bc_D_addBack 25 = .ok (.iload_n 2, 1) := by decide +kernel
theorem dc_D_addBack_26 : decode bc_D_addBack 26 = .ok (.if_icmp .ge 45, 3) := by decide +kernel
theorem dc_D_addBack_29 : decode bc_D_addBack 29 = .ok (.aload_n 3, 1) := by decide +kernel
theorem dc_D_addBack_30 : decode bc_D_addBack 30 = .ok (.iload_n 1, 1) := by decide +kernel
theorem dc_D_addBack_31 : decode bc_D_addBack 31 = .ok (.iload 7, 2) := by decide +kernel
theorem dc_D_addBack_33 : decode bc_D_addBack 33 = .ok (.iadd, 1) := by decide +kernel
theorem dc_D_addBack_34 : decode bc_D_addBack 34 = .ok (.laload, 1) := by decide +kernel
theorem dc_D_addBack_35 : decode bc_D_addBack 35 = .ok (.aload 4, 2) := by decide +kernel
theorem dc_D_addBack_37 : decode bc_D_addBack 37 = .ok (.iload 7, 2) := by decide +kernel
theorem dc_D_addBack_39 : decode bc_D_addBack 39 = .ok (.laload, 1) := by decide +kernel
theorem dc_D_addBack_40 : decode bc_D_addBack 40 = .ok (.ladd, 1) := by decide +kernel
theorem dc_D_addBack_41 : decode bc_D_addBack 41 = .ok (.lload 5, 2) := by decide +kernel
theorem dc_D_addBack_43 : decode bc_D_addBack 43 = .ok (.ladd, 1) := by decide +kernel
theorem dc_D_addBack_44 : decode bc_D_addBack 44 = .ok (.lstore 8, 2) := by decide +kernel
theorem dc_D_addBack_46 : decode bc_D_addBack 46 = .ok (.aload_n 3, 1) := by decide +kernel
theorem dc_D_addBack_47 : decode bc_D_addBack 47 = .ok (.iload_n 1, 1) := by decide +kernel
theorem dc_D_addBack_48 : decode bc_D_addBack 48 = .ok (.iload 7, 2) := by decide +kernel
theorem dc_D_addBack_50 : decode bc_D_addBack 50 = .ok (.iadd, 1) := by decide +kernel
theorem dc_D_addBack_51 : decode bc_D_addBack 51 = .ok (.lload 8, 2) := by decide +kernel
theorem dc_D_addBack_53 : decode bc_D_addBack 53 = .ok (.ldc2_w 83, 3) := by decide +kernel
theorem dc_D_addBack_56 : decode bc_D_addBack 56 = .ok (.land, 1) := by decide +kernel
theorem dc_D_addBack_57 : decode bc_D_addBack 57 = .ok (.lastore, 1) := by decide +kernel
theorem dc_D_addBack_58 : decode bc_D_addBack 58 = .ok (.lload 8, 2) := by decide +kernel
theorem dc_D_addBack_60 : decode bc_D_addBack 60 = .ok (.bipush 32, 2) := by decide +kernel
theorem dc_D_addBack_62 : decode bc_D_addBack 62 = .ok (.lushr, 1) := by decide +kernel
theorem dc_D_addBack_63 : decode bc_D_addBack 63 = .ok (.lstore 5, 2) := by decide +kernel
theorem dc_D_addBack_65 : decode bc_D_addBack 65 = .ok (.iinc 7 1, 3) := by decide +kernel
theorem dc_D_addBack_68 : decode bc_D_addBack 68 = .ok (.goto (-45), 3) := by decide +kernel
theorem dc_D_addBack_71 : decode bc_D_addBack 71 = .ok (.aload_n 3, 1) := by decide +kernel
theorem dc_D_addBack_72 : decode bc_D_addBack 72 = .ok (.iload_n 1, 1) := by decide +kernel
theorem dc_D_addBack_73 : decode bc_D_addBack 73 = .ok (.iload_n 2, 1) := by decide +kernel
theorem dc_D_addBack_74 : decode bc_D_addBack 74 = .ok (.iadd, 1) := by decide +kernel
theorem dc_D_addBack_75 : decode bc_D_addBack 75 = .ok (.aload_n 3, 1) := by decide +kernel
theorem dc_D_addBack_76 : decode bc_D_addBack 76 = .ok (.iload_n 1, 1) := by decide +kernel
theorem dc_D_addBack_77 : decode bc_D_addBack 77 = .ok (.iload_n 2, 1) := by decide +kernel
theorem dc_D_addBack_78 : decode bc_D_addBack 78 = .ok (.iadd, 1) := by decide +kernel
theorem dc_D_addBack_79 : decode bc_D_addBack 79 = .ok (.laload, 1) := by decide +kernel
theorem dc_D_addBack_80 : decode bc_D_addBack 80 = .ok (.lload 5, 2) := by decide +kernel
theorem dc_D_addBack_82 : decode bc_D_addBack 82 = .ok (.ladd, 1) := by decide +kernel
theorem dc_D_addBack_83 : decode bc_D_addBack 83 = .ok (.ldc2_w 83, 3) := by decide +kernel
theorem dc_D_addBack_86 : decode bc_D_addBack 86 = .ok (.land, 1) := by decide +kernel
theorem dc_D_addBack_87 : decode bc_D_addBack 87 = .ok (.lastore, 1) := by decide +kernel
theorem dc_D_addBack_88 : decode bc_D_addBack 88 = .ok (.return_, 1) := by decide +kernel
end
section
/-! Divider: the pieces -/
theorem mn_toInt {a : Nat} (h : a < 2 ^ 64) : (lN a + (-9223372036854775808)).toInt = (a : Int) - 9223372036854775808 := by
  rw [Int64.toInt_add, lN_ti h, show (-9223372036854775808 : Int64).toInt = -9223372036854775808 from rfl, Int.bmod_def]
  split <;> split <;> omega
section
variable {l : Launch} {D : va_G} {tys : List (ClassId × FieldType)}
set_option maxRecDepth 100000 in
set_option maxHeartbeats 4000000 in
theorem cJL_compare (h : vx_h) {x y : Int64} {a b : Nat} (hlt : x < y ↔ a < b) (heq : x = y ↔ a = b) : vx_M l D vcl tys my_JL_compare lw_gd (rm_ 0 0 0 0) [.long x, .long y] h (fun v h' k n => v = some (.int (cmpI a b)) ∧ h' = h ∧ k = 0 ∧ n = 0) := by
  refine vx_M.ofV (cc := bc_JL_compare) (maxL := 4) (ret := some .int) (own := "java/lang/Long") false rfl (by decide +kernel) wC_JL_compare (fun q => by cases q) (Nat.le_of_ble_eq_true rfl) (fun A H0 G IG RG => ?_)
  show vx_V _ _ _ _ _ _ _ _ _ 0 [(0, .long x), (2, .long y)] []
  refine vx_lload_n IG dc_JL_compare_0 rfl 0 rfl ?_
  refine vx_lload_n IG dc_JL_compare_1 rfl 1 rfl ?_
  refine vx_lcmp IG dc_JL_compare_2 ?_
  refine vx_if_ge (tgt := 10) IG dc_JL_compare_3 (by decide) (fun c => ?_) (fun c => ?_)
  · have c1 : ¬ x < y := Int64.not_lt.mpr ((lg_cmp_ge _ _).mp c)
    refine vx_lload_n IG dc_JL_compare_10 rfl 0 rfl ?_
    refine vx_lload_n IG dc_JL_compare_11 rfl 1 rfl ?_
    refine vx_lcmp IG dc_JL_compare_12 ?_
    refine vx_if_ne (tgt := 20) IG dc_JL_compare_13 (by decide) (fun c2 => ?_) (fun c2 => ?_)
    · refine vx_iconst (v := 1) IG dc_JL_compare_20 (by decide) ?_
      refine vx_ret (some (.int 1)) RG (vx_endi (by first | rfl | decide) dc_JL_compare_21) rfl ?_
      exact ⟨by rw [cmpI, if_neg (fun q => c1 (hlt.mpr q)), if_neg (fun q => c2 ((lg_cmp_eq _ _).mpr (heq.mpr q)))], rfl, rfl, rfl⟩
    · refine vx_iconst (v := 0) IG dc_JL_compare_16 (by decide) ?_
      refine vx_goto (tgt := 21) IG dc_JL_compare_17 (by decide) ?_
      refine vx_ret (some (.int 0)) RG (vx_endi (by first | rfl | decide) dc_JL_compare_21) rfl ?_
      exact ⟨by rw [cmpI, if_neg (fun q => c1 (hlt.mpr q)), if_pos (heq.mp ((lg_cmp_eq _ _).mp c2))], rfl, rfl, rfl⟩
  · have c1 : x < y := Int64.not_le.mp (fun q => c ((lg_cmp_ge _ _).mpr q))
    refine vx_iconst (v := -1) IG dc_JL_compare_6 (by decide) ?_
    refine vx_goto (tgt := 21) IG dc_JL_compare_7 (by decide) ?_
    refine vx_ret (some (.int (-1))) RG (vx_endi (by first | rfl | decide) dc_JL_compare_21) rfl ?_
    exact ⟨by rw [cmpI, if_pos (hlt.mp c1)], rfl, rfl, rfl⟩
set_option maxRecDepth 100000 in
set_option maxHeartbeats 4000000 in
theorem cJL_compareUnsigned (h : vx_h) {a b : Nat} (ha : a < 2 ^ 64) (hb : b < 2 ^ 64) : vx_M l D vcl tys my_JL_compareUnsigned lw_gd (rm_ 1 0 0 23) [.long (lN a), .long (lN b)] h (fun v h' k n => v = some (.int (cmpI a b)) ∧ h' = h ∧ k = 0 ∧ n = 0) := by
  refine vx_M.ofV (cc := bc_JL_compareUnsigned) (maxL := 4) (ret := some .int) (own := "java/lang/Long") false rfl (by decide +kernel) wC_JL_compareUnsigned (fun q => by cases q) (Nat.le_of_ble_eq_true rfl) (fun A H0 G IG RG => ?_)
  show vx_V _ _ _ _ _ _ _ _ _ 0 [(0, .long (lN a)), (2, .long (lN b))] []
  refine vx_lload_n IG dc_JL_compareUnsigned_0 rfl 0 rfl ?_
  refine vx_ldc2 (v := -9223372036854775808) IG wK_JL_168 dc_JL_compareUnsigned_1 ?_
  refine vx_ladd IG dc_JL_compareUnsigned_4 ?_
  refine vx_lload_n IG dc_JL_compareUnsigned_5 rfl 1 rfl ?_
  refine vx_ldc2 (v := -9223372036854775808) IG wK_JL_168 dc_JL_compareUnsigned_6 ?_
  refine vx_ladd IG dc_JL_compareUnsigned_9 ?_
  refine vx_callS (As := [.long (lN a + (-9223372036854775808)), .long (lN b + (-9223372036854775808))]) (st := []) IG lw_good (cJL_compare _ (a := a) (b := b) (by rw [Int64.lt_iff_toInt_lt, mn_toInt ha, mn_toInt hb]; omega) (by rw [← Int64.toInt_inj, mn_toInt ha, mn_toInt hb]; omega)) wC_JL_compare wL_JL_302 wT_JL_compare wX_JL 2 (by decide +kernel) rfl ⟨Nat.le_of_ble_eq_true rfl, Nat.le_of_ble_eq_true rfl⟩ ⟨(by decide), (by decide)⟩ rfl (Nat.le_of_ble_eq_true rfl) dc_JL_compareUnsigned_10 (fun v h k_ n_ hq => ?_)
  obtain ⟨rfl, rfl, rfl, rfl⟩ := hq
  show vx_V _ _ _ _ _ _ _ _ _ 13 [(0, .long (lN a)), (2, .long (lN b))] [.int (cmpI a b)]
  refine vx_ret (some (.int (cmpI a b))) RG (vx_endi (by first | rfl | decide) dc_JL_compareUnsigned_13) rfl ?_
  exact ⟨rfl, rfl, rfl, rfl⟩
theorem qp_lt {u v : Nat} (hv : 0 < v) : u - u / 2 / v * 2 * v < 2 * v + 1 ∧ u / 2 / v * 2 * v ≤ u := by
  have h0 := Nat.div_add_mod u v
  have h1 := Nat.mod_lt u hv
  have hc : v * (u / v) = u / v * v := Nat.mul_comm _ _
  rcases qp_half (u := u) hv with q | q
  · rw [← q]; omega
  · have e : u / v * v = u / 2 / v * 2 * v + v := by rw [q, Nat.add_mul, Nat.one_mul]
    omega
set_option maxRecDepth 100000 in
set_option maxHeartbeats 4000000 in
/-- quotientOfPair: of 64 bits without a sign by a digit -/
theorem cD_quotientOfPair (h : vx_h) {u v : Nat} (hu : u < 2 ^ 64) (hv : 0 < v) (hv2 : v < 4294967296) : vx_M l D vcl tys my_D_quotientOfPair lw_gd (rm_ 0 0 0 0) [.long (lN u), .long (lN v)] h (fun w h' k n => w = some (.long (lN (u / v))) ∧ h' = h ∧ k = 0 ∧ n = 0) := by
  have hl := qp_lt (u := u) hv
  have hr := qp_rest (u := u) hv
  refine vx_M.ofV (cc := bc_D_quotientOfPair) (maxL := 6) (ret := some .long) (own := rD) false rfl (by decide +kernel) wC_D_quotientOfPair (fun q => by cases q) (Nat.le_of_ble_eq_true rfl) (fun A H0 G IG RG => ?_)
  show vx_V _ _ _ _ _ _ _ _ _ 0 [(0, .long (lN u)), (2, .long (lN v))] []
  refine vx_lload_n IG dc_D_quotientOfPair_0 rfl 1 rfl ?_
  refine vx_lconst (v := 0) IG dc_D_quotientOfPair_1 (by decide) ?_
  refine vx_lcmp IG dc_D_quotientOfPair_2 ?_
  refine vx_if_gt (tgt := 8) IG dc_D_quotientOfPair_3 (by decide) (fun _ => ?_) (fun c_ => absurd ((lg_cmp_gt _ _).mpr ((pk_lLT (a := 0) (b := v) (by decide) (by omega)).mpr hv)) c_)
  refine vx_lload_n IG dc_D_quotientOfPair_8 rfl 0 rfl ?_
  refine vx_iconst (v := 1) IG dc_D_quotientOfPair_9 (by decide) ?_
  refine vx_lushr (v := lN (u / 2)) IG dc_D_quotientOfPair_10 (wb_shr (k := 1) hu (by decide)) ?_
  refine vx_lload_n IG dc_D_quotientOfPair_11 rfl 1 rfl ?_
  refine vx_ldiv IG dc_D_quotientOfPair_12 (fun q => by have := ln_eq (b := 0) (by omega) (by decide) q; omega) ?_
  refine vx_topl (y := lN (u / 2 / v)) (pk_lDiv (by omega) hv (by omega)) ?_
  refine vx_iconst (v := 1) IG dc_D_quotientOfPair_13 (by decide) ?_
  refine vx_lshl (v := lN (u / 2 / v * 2)) IG dc_D_quotientOfPair_14 (wb_shl (k := 1) _ (by decide)) ?_
  refine vx_lstore (lv' := [(4, .long (lN (u / 2 / v * 2))), (0, .long (lN u)), (2, .long (lN v))]) IG dc_D_quotientOfPair_15 (by decide) rfl ?_
  refine vx_lload_n IG dc_D_quotientOfPair_17 rfl 1 rfl ?_
  refine vx_lload IG dc_D_quotientOfPair_18 0 rfl ?_
  refine vx_lload_n IG dc_D_quotientOfPair_20 rfl 2 rfl ?_
  refine vx_lmul IG dc_D_quotientOfPair_21 ?_
  refine vx_topl (y := lN (u / 2 / v * 2 * v)) (lN_mul _ _) ?_
  refine vx_lsub IG dc_D_quotientOfPair_22 ?_
  refine vx_topl (y := lN (u - u / 2 / v * 2 * v)) (lN_sub hl.2) ?_
  refine vx_lload_n IG dc_D_quotientOfPair_23 rfl 2 rfl ?_
  refine vx_lcmp IG dc_D_quotientOfPair_24 ?_
  by_cases z : v ≤ u - u / 2 / v * 2 * v
  · refine vx_if_lt (tgt := 35) IG dc_D_quotientOfPair_25 (by decide) (fun c_ => absurd c_ (fun q => absurd ((lg_cmp_lt _ _).mp q) (Int64.not_lt.mpr ((pk_lLE (by omega) (by omega)).mpr z)))) (fun _ => ?_)
    refine vx_lload IG dc_D_quotientOfPair_28 0 rfl ?_
    refine vx_lconst (v := 1) IG dc_D_quotientOfPair_30 (by decide) ?_
    refine vx_ladd IG dc_D_quotientOfPair_31 ?_
    refine vx_topl (y := lN (u / v)) (by rw [if_pos z] at hr; rw [← hr]; exact lN_1 _) ?_
    refine vx_goto (tgt := 37) IG dc_D_quotientOfPair_32 (by decide) ?_
    refine vx_ret (some (.long (lN (u / v)))) RG (vx_endl dc_D_quotientOfPair_37) rfl ?_
    exact ⟨rfl, rfl, rfl, rfl⟩
  · refine vx_if_lt (tgt := 35) IG dc_D_quotientOfPair_25 (by decide) (fun _ => ?_) (fun c_ => absurd ((lg_cmp_lt _ _).mpr ((pk_lLT (by omega) (by omega)).mpr (by omega))) c_)
    refine vx_lload IG dc_D_quotientOfPair_35 0 rfl ?_
    refine vx_topl (y := lN (u / v)) (by rw [if_neg z] at hr; rw [← hr]) ?_
    refine vx_ret (some (.long (lN (u / v)))) RG (vx_endl dc_D_quotientOfPair_37) rfl ?_
    exact ⟨rfl, rfl, rfl, rfl⟩
end
end
section
/-! Divider: subtract, addBack -/
theorem ln_sub1 {a b : Nat} (hb : b ≤ 18446744073709551616) : lN a - lN b = lN (a + 18446744073709551616 - b) := by
  rw [← ln_wrap a, lN_sub (by omega)]
theorem ln_bor1 {a b : Nat} (ha : a < 4294967296) (hb : b < 4294967296) : ((lN (a + 18446744073709551616 - b)).toUInt64 >>> ((63 : Int32).toInt64.toUInt64 &&& Int64.toUInt64 63)).toInt64 = lN (if a < b then 1 else 0) := ln_bor (w := 0) ha (by decide) hb
theorem sb_step {w s e : Nat → Nat} {f i cr t : Nat} (h : vl 4294967296 w i + f * vl 4294967296 s i = vl 4294967296 e i + cr * 4294967296 ^ i) (ht : t = f * s i + cr) (he : e i < 4294967296) (hw : w i = (e i + 18446744073709551616 - t % 4294967296) % 4294967296) : vl 4294967296 w (i + 1) + f * vl 4294967296 s (i + 1) = vl 4294967296 e (i + 1) + (t / 4294967296 + (if e i < t % 4294967296 then 1 else 0)) * 4294967296 ^ (i + 1) := by
  have key : w i + t = e i + (t / 4294967296 + (if e i < t % 4294967296 then 1 else 0)) * 4294967296 := by
    rw [hw]
    split <;> omega
  generalize (t / 4294967296 + (if e i < t % 4294967296 then 1 else 0)) = c at *
  have k2 := congrArg (· * 4294967296 ^ i) key
  simp only [Nat.add_mul] at k2
  have k3 : t * 4294967296 ^ i = f * (s i * 4294967296 ^ i) + cr * 4294967296 ^ i := by rw [ht, Nat.add_mul, Nat.mul_assoc]
  rw [vl_succ, vl_succ, vl_succ, bp_succ, Nat.mul_add, Nat.mul_comm (4294967296 ^ i) 4294967296, ← Nat.mul_assoc c]
  omega
section
variable {l : Launch} {D : va_G} {tys : List (ClassId × FieldType)} {cJ : ClassId} {L : List Nat} {r : vx_h} {ar cp : Nat → Nat} {cn : Nat → Int32} {fn : Nat → Nat → Int64} {dv qo rs sc : Nat} {h : vx_h}
set_option maxRecDepth 100000 in
set_option maxHeartbeats 4000000 in
/-- subtract(place, n, f): f times the divisor is taken from the rest at this place; whether it went below 0 -/
theorem cD_subtract (HR : rw_at 2 cJ L r ar cp cn fn h) (hdv : r dv = some (.inr (0, [.ref qo, .ref rs, .ref sc]))) (hrs : rs ∈ L) (hsc : sc ∈ L) (hne : sc ≠ rs) (ht : tys[0]? = some (cJ, .long)) {place n tot f : Nat} (hf : f < 4294967296) (d : Nat → Nat) (hd : ∀ i, i < tot → d i < 4294967296 ∧ fn rs i = lN (d i)) (htot : tot ≤ cp rs) (hpl : place + n < tot) (s : Nat → Nat) (hs : ∀ i, i < n → s i < 4294967296 ∧ fn sc i = lN (s i)) (hn : n ≤ cp sc) : vx_M l D vcl tys my_D_subtract lw_gd (rm_ 0 0 0 0) [.ref dv, .int (nI place), .int (nI n), .long (lN f)] h (fun v h' k m => k = 0 ∧ m = 0 ∧ ∃ (fn' : Nat → Nat → Int64) (e : Nat → Nat), rw_at 2 cJ L r ar cp cn fn' h' ∧ (∀ q, q ≠ rs → fn' q = fn q) ∧ (∀ i, i < tot → e i < 4294967296 ∧ fn' rs i = lN (e i)) ∧ (∀ j, j < place ∨ place + (n + 1) ≤ j → e j = d j) ∧ ((v = some (.int 0) ∧ vl 4294967296 (fun j => e (place + j)) (n + 1) + f * vl 4294967296 s n = vl 4294967296 (fun j => d (place + j)) (n + 1)) ∨ (v = some (.int 1) ∧ vl 4294967296 (fun j => e (place + j)) (n + 1) + f * vl 4294967296 s n = vl 4294967296 (fun j => d (place + j)) (n + 1) + 4294967296 ^ (n + 1)))) := by
  have hc := rw_cap HR hrs
  have hc2 := rw_cap HR hsc
  refine vx_M.ofV (cc := bc_D_subtract) (maxL := 14) (ret := some .boolean) (own := rD) false rfl (by decide +kernel) wC_D_subtract (fun q => by cases q) (Nat.le_of_ble_eq_true rfl) (fun A H0 G IG RG => ?_)
  show vx_V _ _ _ _ _ _ _ _ _ 0 [(0, .ref dv), (1, .int (nI place)), (2, .int (nI n)), (3, .long (lN f))] []
  have loop : ∀ (m i : Nat), i + m = n → ∀ (h : vx_h) (fn2 : Nat → Nat → Int64) (c : Nat → Nat) (cr : Nat), cr < 4294967296 → (∀ q, q ≠ rs → fn2 q = fn q) → (∀ j, j < tot → c j < 4294967296 ∧ fn2 rs j = lN (c j)) → (∀ j, j < place ∨ place + i ≤ j → c j = d j) → vl 4294967296 (fun j => c (place + j)) i + f * vl 4294967296 s i = vl 4294967296 (fun j => d (place + j)) i + cr * 4294967296 ^ i → rw_at 2 cJ L r ar cp cn fn2 h → vx_V D vcl A H0 14 G h 0 0 24 [(9, .int (nI i)), (7, .long (lN cr)), (6, .ref (ar sc)), (5, .ref (ar rs)), (0, .ref dv), (1, .int (nI place)), (2, .int (nI n)), (3, .long (lN f))] [] := by
    intro m
    induction m with
    | zero =>
      intro i him h fn2 c cr hcr f1 f2 f3 f4 HR
      obtain rfl : i = n := by omega
      have hdn := f2 (place + i) (by omega)
      have hdn2 := f3 (place + i) (Or.inr (Nat.le_refl _))
      refine vx_iload IG dc_D_subtract_24 0 rfl ?_
      refine vx_iload_n IG dc_D_subtract_26 rfl 6 rfl ?_
      refine vx_icmp_ge (tgt := 90) IG dc_D_subtract_27 (by decide) (fun _ => ?_) (fun c_ => absurd (nI_le (Nat.le_refl _) (by omega)) c_)
      refine vx_aload IG dc_D_subtract_90 3 rfl ?_
      refine vx_iload_n IG dc_D_subtract_92 rfl 5 rfl ?_
      refine vx_iload_n IG dc_D_subtract_93 rfl 6 rfl ?_
      refine vx_iadd IG dc_D_subtract_94 ?_
      refine vx_topi (y := nI (place + i)) (nI_add _ _) ?_
      refine wr_ald IG HR hrs ht (place + i) rfl (by omega) dc_D_subtract_95 ?_
      refine vx_topl (y := lN (d (place + i))) (by rw [hdn.2, hdn2]) ?_
      refine vx_lload IG dc_D_subtract_96 1 rfl ?_
      refine vx_lsub IG dc_D_subtract_98 ?_
      refine vx_topl (y := lN (d (place + i) + 18446744073709551616 - cr)) (ln_sub1 (by omega)) ?_
      refine vx_lstore (lv' := [(9, .long (lN (d (place + i) + 18446744073709551616 - cr))), (7, .long (lN cr)), (6, .ref (ar sc)), (5, .ref (ar rs)), (0, .ref dv), (1, .int (nI place)), (2, .int (nI i)), (3, .long (lN f))]) IG dc_D_subtract_99 (by decide) rfl ?_
      refine vx_aload IG dc_D_subtract_101 3 rfl ?_
      refine vx_iload_n IG dc_D_subtract_103 rfl 5 rfl ?_
      refine vx_iload_n IG dc_D_subtract_104 rfl 6 rfl ?_
      refine vx_iadd IG dc_D_subtract_105 ?_
      refine vx_topi (y := nI (place + i)) (nI_add _ _) ?_
      refine vx_lload IG dc_D_subtract_106 0 rfl ?_
      refine vx_ldc2 (v := 4294967295) IG wK_D_83 dc_D_subtract_108 ?_
      refine vx_land IG dc_D_subtract_111 ?_
      refine vx_topl (y := lN ((d (place + i) + 18446744073709551616 - cr) % 4294967296)) (ln_mask _) ?_
      refine wr_ast IG HR hrs ht (place + i) rfl (by omega) dc_D_subtract_112 (fun h HR => ?_)
      obtain ⟨fn3, e_fn3⟩ : ∃ z, z = va_up fn2 rs (vp_updL (fn2 rs) (place + i) (lN ((d (place + i) + 18446744073709551616 - cr) % 4294967296))) := ⟨_, rfl⟩
      rw [← e_fn3] at HR
      have hd0 : d (place + i) < 4294967296 := (hd (place + i) (by omega)).1
      have e1 : ∀ j, j < tot → (fun j => if j = place + i then (d (place + i) + 18446744073709551616 - cr) % 4294967296 else c j) j < 4294967296 ∧ fn3 rs j = lN ((fun j => if j = place + i then (d (place + i) + 18446744073709551616 - cr) % 4294967296 else c j) j) := by
        intro j hj
        by_cases z : j = place + i
        · simp only [z, if_true]
          exact ⟨by omega, by rw [e_fn3, va_up_self, pk_uLs]⟩
        · simp only [z, if_false]
          exact ⟨(f2 j hj).1, by rw [e_fn3, va_up_self, pk_uLn z]; exact (f2 j hj).2⟩
      have e2 : ∀ j, j < place ∨ place + (i + 1) ≤ j → (fun j => if j = place + i then (d (place + i) + 18446744073709551616 - cr) % 4294967296 else c j) j = d j := by
        intro j hj
        show (if j = place + i then _ else c j) = d j
        rw [if_neg (by omega)]; exact f3 j (by omega)
      have e3 : vl 4294967296 (fun j => (fun j => if j = place + i then (d (place + i) + 18446744073709551616 - cr) % 4294967296 else c j) (place + j)) (i + 1) = vl 4294967296 (fun j => c (place + j)) i + (d (place + i) + 18446744073709551616 - cr) % 4294967296 * 4294967296 ^ i := by
        rw [vl_succ]
        show vl 4294967296 (fun j => if place + j = place + i then _ else c (place + j)) i + (if place + i = place + i then _ else _) * _ = _
        rw [if_pos rfl, vl_congr (e := fun j => c (place + j)) (fun j hj => by show (if _ then _ else _) = _; rw [if_neg (by omega)])]
      have e4 : vl 4294967296 (fun j => d (place + j)) (i + 1) = vl 4294967296 (fun j => d (place + j)) i + d (place + i) * 4294967296 ^ i := vl_succ _ _ _
      refine vx_lload IG dc_D_subtract_113 0 rfl ?_
      refine vx_lconst (v := 0) IG dc_D_subtract_115 (by decide) ?_
      refine vx_lcmp IG dc_D_subtract_116 ?_
      by_cases z : cr ≤ d (place + i)
      · refine vx_if_ge (tgt := 124) IG dc_D_subtract_117 (by decide) (fun _ => ?_) (fun c_ => absurd ((lg_cmp_ge _ _).mpr (by rw [show d (place + i) + 18446744073709551616 - cr = (d (place + i) - cr) + 18446744073709551616 by omega, ln_wrap]; exact (pk_lLE (a := 0) (by decide) (by omega)).mpr (Nat.zero_le _))) c_)
        refine vx_iconst (v := 0) IG dc_D_subtract_124 (by decide) ?_
        refine vx_ret (some (.int 0)) RG (vx_endi (by first | rfl | decide) dc_D_subtract_125) rfl ?_
        refine ⟨rfl, rfl, fn3, _, HR, fun q z => ?_, e1, e2, Or.inl ⟨rfl, ?_⟩⟩
        · rw [e_fn3, va_up_ne _ _ z]; exact f1 q z
        · rw [e3, e4, show (d (place + i) + 18446744073709551616 - cr) % 4294967296 = d (place + i) - cr by omega]
          have := Nat.mul_le_mul_right (4294967296 ^ i) z
          rw [Nat.sub_mul]
          omega
      · refine vx_if_ge (tgt := 124) IG dc_D_subtract_117 (by decide) (fun c_ => absurd c_ (fun q => by have h1 := (lg_cmp_ge _ _).mp q; rw [Int64.le_iff_toInt_le, lN_ti (by omega), if_neg (by omega)] at h1; have h2 : (0 : Int64).toInt = 0 := rfl; rw [h2] at h1; omega)) (fun _ => ?_)
        refine vx_iconst (v := 1) IG dc_D_subtract_120 (by decide) ?_
        refine vx_goto (tgt := 125) IG dc_D_subtract_121 (by decide) ?_
        refine vx_ret (some (.int 1)) RG (vx_endi (by first | rfl | decide) dc_D_subtract_125) rfl ?_
        refine ⟨rfl, rfl, fn3, _, HR, fun q z => ?_, e1, e2, Or.inr ⟨rfl, ?_⟩⟩
        · rw [e_fn3, va_up_ne _ _ z]; exact f1 q z
        · rw [e3, e4, show (d (place + i) + 18446744073709551616 - cr) % 4294967296 = d (place + i) + 4294967296 - cr by omega, bp_succ, Nat.mul_comm (4294967296 ^ i) 4294967296]
          have h1 : (d (place + i) + 4294967296 - cr) * 4294967296 ^ i + cr * 4294967296 ^ i = (d (place + i) + 4294967296) * 4294967296 ^ i := by
            rw [← Nat.add_mul]; congr 1; omega
          rw [Nat.add_mul (d (place + i))] at h1
          omega
    | succ m ih =>
      intro i him h fn2 c cr hcr f1 f2 f3 f4 HR
      have hsi := hs i (by omega)
      have hci := f2 (place + i) (by omega)
      have hdi := f3 (place + i) (Or.inr (Nat.le_refl _))
      have hd0 : d (place + i) < 4294967296 := (hd (place + i) (by omega)).1
      have htb : f * s i + 0 + cr < 4294967296 * 4294967296 := am_bound hf hsi.1 (by decide) hcr
      have htb2 : f * s i ≤ 4294967295 * 4294967295 := Nat.mul_le_mul (by omega) (by omega)
      refine vx_iload IG dc_D_subtract_24 0 rfl ?_
      refine vx_iload_n IG dc_D_subtract_26 rfl 6 rfl ?_
      refine vx_icmp_ge (tgt := 90) IG dc_D_subtract_27 (by decide) (fun c_ => absurd c_ (nI_ge (by omega) (by omega))) (fun _ => ?_)
      refine vx_lload_n IG dc_D_subtract_30 rfl 7 rfl ?_
      refine vx_aload IG dc_D_subtract_31 2 rfl ?_
      refine vx_iload IG dc_D_subtract_33 0 rfl ?_
      refine wr_ald IG HR hsc ht i rfl (by omega) dc_D_subtract_35 ?_
      refine vx_topl (y := lN (s i)) (by rw [f1 sc hne]; exact hsi.2) ?_
      refine vx_lmul IG dc_D_subtract_36 ?_
      refine vx_topl (y := lN (f * s i)) (lN_mul _ _) ?_
      refine vx_lload IG dc_D_subtract_37 1 rfl ?_
      refine vx_ladd IG dc_D_subtract_39 ?_
      refine vx_topl (y := lN (f * s i + cr)) (lN_add _ _) ?_
      refine vx_lstore (lv' := [(10, .long (lN (f * s i + cr))), (9, .int (nI i)), (7, .long (lN cr)), (6, .ref (ar sc)), (5, .ref (ar rs)), (0, .ref dv), (1, .int (nI place)), (2, .int (nI n)), (3, .long (lN f))]) IG dc_D_subtract_40 (by decide) rfl ?_
      refine vx_aload IG dc_D_subtract_42 4 rfl ?_
      refine vx_iload_n IG dc_D_subtract_44 rfl 6 rfl ?_
      refine vx_iload IG dc_D_subtract_45 1 rfl ?_
      refine vx_iadd IG dc_D_subtract_47 ?_
      refine vx_topi (y := nI (place + i)) (nI_add _ _) ?_
      refine wr_ald IG HR hrs ht (place + i) rfl (by omega) dc_D_subtract_48 ?_
      refine vx_topl (y := lN (d (place + i))) (by rw [hci.2, hdi]) ?_
      refine vx_lload IG dc_D_subtract_49 0 rfl ?_
      refine vx_ldc2 (v := 4294967295) IG wK_D_83 dc_D_subtract_51 ?_
      refine vx_land IG dc_D_subtract_54 ?_
      refine vx_topl (y := lN ((f * s i + cr) % 4294967296)) (ln_mask _) ?_
      refine vx_lsub IG dc_D_subtract_55 ?_
      refine vx_topl (y := lN (d (place + i) + 18446744073709551616 - (f * s i + cr) % 4294967296)) (ln_sub1 (by omega)) ?_
      refine vx_lstore (lv' := [(12, .long (lN (d (place + i) + 18446744073709551616 - (f * s i + cr) % 4294967296))), (10, .long (lN (f * s i + cr))), (9, .int (nI i)), (7, .long (lN cr)), (6, .ref (ar sc)), (5, .ref (ar rs)), (0, .ref dv), (1, .int (nI place)), (2, .int (nI n)), (3, .long (lN f))]) IG dc_D_subtract_56 (by decide) rfl ?_
      refine vx_aload IG dc_D_subtract_58 5 rfl ?_
      refine vx_iload_n IG dc_D_subtract_60 rfl 7 rfl ?_
      refine vx_iload IG dc_D_subtract_61 2 rfl ?_
      refine vx_iadd IG dc_D_subtract_63 ?_
      refine vx_topi (y := nI (place + i)) (nI_add _ _) ?_
      refine vx_lload IG dc_D_subtract_64 0 rfl ?_
      refine vx_ldc2 (v := 4294967295) IG wK_D_83 dc_D_subtract_66 ?_
      refine vx_land IG dc_D_subtract_69 ?_
      refine vx_topl (y := lN ((d (place + i) + 18446744073709551616 - (f * s i + cr) % 4294967296) % 4294967296)) (ln_mask _) ?_
      refine wr_ast IG HR hrs ht (place + i) rfl (by omega) dc_D_subtract_70 (fun h HR => ?_)
      obtain ⟨fn3, e_fn3⟩ : ∃ z, z = va_up fn2 rs (vp_updL (fn2 rs) (place + i) (lN ((d (place + i) + 18446744073709551616 - (f * s i + cr) % 4294967296) % 4294967296))) := ⟨_, rfl⟩
      rw [← e_fn3] at HR
      refine vx_lload IG dc_D_subtract_71 1 rfl ?_
      refine vx_bipush (v := 32) IG dc_D_subtract_73 (by decide) ?_
      refine vx_lushr (v := lN ((f * s i + cr) / 4294967296)) IG dc_D_subtract_75 (ln_shr32 (by omega)) ?_
      refine vx_lload IG dc_D_subtract_76 0 rfl ?_
      refine vx_bipush (v := 63) IG dc_D_subtract_78 (by decide) ?_
      refine vx_lushr (v := lN (if d (place + i) < (f * s i + cr) % 4294967296 then 1 else 0)) IG dc_D_subtract_80 (ln_bor1 hd0 (by omega)) ?_
      refine vx_ladd IG dc_D_subtract_81 ?_
      refine vx_topl (y := lN ((f * s i + cr) / 4294967296 + (if d (place + i) < (f * s i + cr) % 4294967296 then 1 else 0))) (lN_add _ _) ?_
      refine vx_lstore (lv' := [(7, .long (lN ((f * s i + cr) / 4294967296 + (if d (place + i) < (f * s i + cr) % 4294967296 then 1 else 0)))), (12, .long (lN (d (place + i) + 18446744073709551616 - (f * s i + cr) % 4294967296))), (10, .long (lN (f * s i + cr))), (9, .int (nI i)), (6, .ref (ar sc)), (5, .ref (ar rs)), (0, .ref dv), (1, .int (nI place)), (2, .int (nI n)), (3, .long (lN f))]) IG dc_D_subtract_82 (by decide) rfl ?_
      refine vx_iinc (q := 3) (v := nI (i + 1)) (lv' := [(9, .int (nI (i + 1))), (7, .long (lN ((f * s i + cr) / 4294967296 + (if d (place + i) < (f * s i + cr) % 4294967296 then 1 else 0)))), (12, .long (lN (d (place + i) + 18446744073709551616 - (f * s i + cr) % 4294967296))), (10, .long (lN (f * s i + cr))), (6, .ref (ar sc)), (5, .ref (ar rs)), (0, .ref dv), (1, .int (nI place)), (2, .int (nI n)), (3, .long (lN f))]) IG dc_D_subtract_84 rfl (nI_1 i) (by decide) rfl ?_
      refine vx_goto (tgt := 24) IG dc_D_subtract_87 (by decide) ?_
      refine vx_same (lv' := [(9, .int (nI (i + 1))), (7, .long (lN ((f * s i + cr) / 4294967296 + (if d (place + i) < (f * s i + cr) % 4294967296 then 1 else 0)))), (6, .ref (ar sc)), (5, .ref (ar rs)), (0, .ref dv), (1, .int (nI place)), (2, .int (nI n)), (3, .long (lN f))]) IG [0, 1, 4, 5, 6, 7, 8, 9] rfl ?_
      refine ih (i + 1) (by omega) h fn3 (fun j => if j = place + i then (d (place + i) + 18446744073709551616 - (f * s i + cr) % 4294967296) % 4294967296 else c j) _ (by split <;> omega) (fun q z => ?_) (fun j hj => ?_) (fun j hj => ?_) ?_ HR
      · rw [e_fn3, va_up_ne _ _ z]; exact f1 q z
      · by_cases z : j = place + i
        · simp only [z, if_true]
          exact ⟨by omega, by rw [e_fn3, va_up_self, pk_uLs]⟩
        · simp only [z, if_false]
          exact ⟨(f2 j hj).1, by rw [e_fn3, va_up_self, pk_uLn z]; exact (f2 j hj).2⟩
      · show (if j = place + i then _ else c j) = d j
        rw [if_neg (by omega)]; exact f3 j (by omega)
      · refine sb_step (cr := cr) ?_ rfl hd0 ?_
        · rw [vl_congr (e := fun j => c (place + j)) (fun j hj => by show (if _ then _ else _) = _; rw [if_neg (by omega)])]
          exact f4
        · show (if place + i = place + i then _ else _) = _
          rw [if_pos rfl]
  refine vx_aload_n IG dc_D_subtract_0 rfl 0 rfl ?_
  refine vx_get IG (rw_r HR hdv) rfl 1 (by decide) inD wF_D_18 rfl rfl dc_D_subtract_1 ?_
  refine wr_dig IG HR hrs wF_D_58 dc_D_subtract_4 ?_
  refine vx_astore (lv' := [(5, .ref (ar rs)), (0, .ref dv), (1, .int (nI place)), (2, .int (nI n)), (3, .long (lN f))]) IG dc_D_subtract_7 (by decide) rfl ?_
  refine vx_aload_n IG dc_D_subtract_9 rfl 1 rfl ?_
  refine vx_get IG (rw_r HR hdv) rfl 2 (by decide) inD wF_D_21 rfl rfl dc_D_subtract_10 ?_
  refine wr_dig IG HR hsc wF_D_58 dc_D_subtract_13 ?_
  refine vx_astore (lv' := [(6, .ref (ar sc)), (5, .ref (ar rs)), (0, .ref dv), (1, .int (nI place)), (2, .int (nI n)), (3, .long (lN f))]) IG dc_D_subtract_16 (by decide) rfl ?_
  refine vx_lconst (v := 0) IG dc_D_subtract_18 (by decide) ?_
  refine vx_lstore (lv' := [(7, .long 0), (6, .ref (ar sc)), (5, .ref (ar rs)), (0, .ref dv), (1, .int (nI place)), (2, .int (nI n)), (3, .long (lN f))]) IG dc_D_subtract_19 (by decide) rfl ?_
  refine vx_iconst (v := 0) IG dc_D_subtract_21 (by decide) ?_
  refine vx_istore (lv' := [(9, .int 0), (7, .long 0), (6, .ref (ar sc)), (5, .ref (ar rs)), (0, .ref dv), (1, .int (nI place)), (2, .int (nI n)), (3, .long (lN f))]) IG dc_D_subtract_22 (by decide) rfl ?_
  exact loop n 0 (by omega) h fn d 0 (by decide) (fun _ _ => rfl) hd (fun _ _ => rfl) (by simp [vl]) HR
set_option maxRecDepth 100000 in
set_option maxHeartbeats 4000000 in
/-- addBack(place, n): the divisor is added to the rest at this place -/
theorem cD_addBack (HR : rw_at 2 cJ L r ar cp cn fn h) (hdv : r dv = some (.inr (0, [.ref qo, .ref rs, .ref sc]))) (hrs : rs ∈ L) (hsc : sc ∈ L) (hne : sc ≠ rs) (ht : tys[0]? = some (cJ, .long)) {place n tot : Nat} (d : Nat → Nat) (hd : ∀ i, i < tot → d i < 4294967296 ∧ fn rs i = lN (d i)) (htot : tot ≤ cp rs) (hpl : place + n < tot) (s : Nat → Nat) (hs : ∀ i, i < n → s i < 4294967296 ∧ fn sc i = lN (s i)) (hn : n ≤ cp sc) : vx_M l D vcl tys my_D_addBack lw_gd (rm_ 0 0 0 0) [.ref dv, .int (nI place), .int (nI n)] h (fun v h' k m => v = none ∧ k = 0 ∧ m = 0 ∧ ∃ (fn' : Nat → Nat → Int64) (e : Nat → Nat), rw_at 2 cJ L r ar cp cn fn' h' ∧ (∀ q, q ≠ rs → fn' q = fn q) ∧ (∀ i, i < tot → e i < 4294967296 ∧ fn' rs i = lN (e i)) ∧ (∀ j, j < place ∨ place + (n + 1) ≤ j → e j = d j) ∧ vl 4294967296 (fun j => e (place + j)) (n + 1) = (vl 4294967296 (fun j => d (place + j)) (n + 1) + vl 4294967296 s n) % 4294967296 ^ (n + 1)) := by
  have hc := rw_cap HR hrs
  have hc2 := rw_cap HR hsc
  refine vx_M.ofV (cc := bc_D_addBack) (maxL := 10) (ret := none) (own := rD) false rfl (by decide +kernel) wC_D_addBack (fun q => by cases q) (Nat.le_of_ble_eq_true rfl) (fun A H0 G IG RG => ?_)
  show vx_V _ _ _ _ _ _ _ _ _ 0 [(0, .ref dv), (1, .int (nI place)), (2, .int (nI n))] []
  have loop : ∀ (m i : Nat), i + m = n → ∀ (h : vx_h) (fn2 : Nat → Nat → Int64) (c : Nat → Nat) (cr : Nat), cr ≤ 1 → (∀ q, q ≠ rs → fn2 q = fn q) → (∀ j, j < tot → c j < 4294967296 ∧ fn2 rs j = lN (c j)) → (∀ j, j < place ∨ place + i ≤ j → c j = d j) → vl 4294967296 (fun j => c (place + j)) i + cr * 4294967296 ^ i = 1 * vl 4294967296 s i + vl 4294967296 (fun j => d (place + j)) i → rw_at 2 cJ L r ar cp cn fn2 h → vx_V D vcl A H0 10 G h 0 0 23 [(7, .int (nI i)), (5, .long (lN cr)), (4, .ref (ar sc)), (3, .ref (ar rs)), (0, .ref dv), (1, .int (nI place)), (2, .int (nI n))] [] := by
    intro m
    induction m with
    | zero =>
      intro i him h fn2 c cr hcr f1 f2 f3 f4 HR
      obtain rfl : i = n := by omega
      have hdn := f2 (place + i) (by omega)
      have hdn2 := f3 (place + i) (Or.inr (Nat.le_refl _))
      have hd0 : d (place + i) < 4294967296 := (hd (place + i) (by omega)).1
      refine vx_iload IG dc_D_addBack_23 0 rfl ?_
      refine vx_iload_n IG dc_D_addBack_25 rfl 6 rfl ?_
      refine vx_icmp_ge (tgt := 71) IG dc_D_addBack_26 (by decide) (fun _ => ?_) (fun c_ => absurd (nI_le (Nat.le_refl _) (by omega)) c_)
      refine vx_aload_n IG dc_D_addBack_71 rfl 3 rfl ?_
      refine vx_iload_n IG dc_D_addBack_72 rfl 5 rfl ?_
      refine vx_iload_n IG dc_D_addBack_73 rfl 6 rfl ?_
      refine vx_iadd IG dc_D_addBack_74 ?_
      refine vx_topi (y := nI (place + i)) (nI_add _ _) ?_
      refine vx_aload_n IG dc_D_addBack_75 rfl 3 rfl ?_
      refine vx_iload_n IG dc_D_addBack_76 rfl 5 rfl ?_
      refine vx_iload_n IG dc_D_addBack_77 rfl 6 rfl ?_
      refine vx_iadd IG dc_D_addBack_78 ?_
      refine vx_topi (y := nI (place + i)) (nI_add _ _) ?_
      refine wr_ald IG HR hrs ht (place + i) rfl (by omega) dc_D_addBack_79 ?_
      refine vx_topl (y := lN (d (place + i))) (by rw [hdn.2, hdn2]) ?_
      refine vx_lload IG dc_D_addBack_80 1 rfl ?_
      refine vx_ladd IG dc_D_addBack_82 ?_
      refine vx_topl (y := lN (d (place + i) + cr)) (lN_add _ _) ?_
      refine vx_ldc2 (v := 4294967295) IG wK_D_83 dc_D_addBack_83 ?_
      refine vx_land IG dc_D_addBack_86 ?_
      refine vx_topl (y := lN ((d (place + i) + cr) % 4294967296)) (ln_mask _) ?_
      refine wr_ast IG HR hrs ht (place + i) rfl (by omega) dc_D_addBack_87 (fun h HR => ?_)
      obtain ⟨fn3, e_fn3⟩ : ∃ z, z = va_up fn2 rs (vp_updL (fn2 rs) (place + i) (lN ((d (place + i) + cr) % 4294967296))) := ⟨_, rfl⟩
      rw [← e_fn3] at HR
      refine vx_ret none RG (vx_endv dc_D_addBack_88) rfl ?_
      refine ⟨rfl, rfl, rfl, fn3, (fun j => if j = place + i then (d (place + i) + cr) % 4294967296 else c j), HR, fun q z => ?_, fun j hj => ?_, fun j hj => ?_, ?_⟩
      · rw [e_fn3, va_up_ne _ _ z]; exact f1 q z
      · by_cases z : j = place + i
        · simp only [z, if_true]
          exact ⟨by omega, by rw [e_fn3, va_up_self, pk_uLs]⟩
        · simp only [z, if_false]
          exact ⟨(f2 j hj).1, by rw [e_fn3, va_up_self, pk_uLn z]; exact (f2 j hj).2⟩
      · show (if j = place + i then _ else c j) = d j
        rw [if_neg (by omega)]; exact f3 j (by omega)
      · have hlt : vl 4294967296 (fun j => c (place + j)) i < 4294967296 ^ i := vl_lt bB1 (fun j hj => (f2 (place + j) (by omega)).1)
        rw [vl_succ, vl_succ]
        show vl 4294967296 (fun j => if place + j = place + i then _ else c (place + j)) i + (if place + i = place + i then _ else _) * _ = _
        rw [if_pos rfl, vl_congr (e := fun j => c (place + j)) (fun j hj => by show (if _ then _ else _) = _; rw [if_neg (by omega)])]
        have e5 : vl 4294967296 (fun j => d (place + j)) i + d (place + i) * 4294967296 ^ i + vl 4294967296 s i = vl 4294967296 (fun j => c (place + j)) i + 4294967296 ^ i * (d (place + i) + cr) := by
          rw [Nat.mul_add, Nat.mul_comm _ (d (place + i)), Nat.mul_comm _ cr]
          omega
        show _ = (vl 4294967296 (fun j => d (place + j)) i + d (place + i) * 4294967296 ^ i + vl 4294967296 s i) % _
        rw [e5, bp_succ, Nat.mod_mul, Nat.add_mul_mod_self_left, Nat.mod_eq_of_lt hlt, Nat.add_mul_div_left _ _ (bp_pos bB1 i), Nat.div_eq_of_lt hlt, Nat.zero_add, Nat.mul_comm]
    | succ m ih =>
      intro i him h fn2 c cr hcr f1 f2 f3 f4 HR
      have hsi := hs i (by omega)
      have hci := f2 (place + i) (by omega)
      have hdi := f3 (place + i) (Or.inr (Nat.le_refl _))
      refine vx_iload IG dc_D_addBack_23 0 rfl ?_
      refine vx_iload_n IG dc_D_addBack_25 rfl 6 rfl ?_
      refine vx_icmp_ge (tgt := 71) IG dc_D_addBack_26 (by decide) (fun c_ => absurd c_ (nI_ge (by omega) (by omega))) (fun _ => ?_)
      refine vx_aload_n IG dc_D_addBack_29 rfl 3 rfl ?_
      refine vx_iload_n IG dc_D_addBack_30 rfl 5 rfl ?_
      refine vx_iload IG dc_D_addBack_31 0 rfl ?_
      refine vx_iadd IG dc_D_addBack_33 ?_
      refine vx_topi (y := nI (place + i)) (nI_add _ _) ?_
      refine wr_ald IG HR hrs ht (place + i) rfl (by omega) dc_D_addBack_34 ?_
      refine vx_topl (y := lN (c (place + i))) hci.2 ?_
      refine vx_aload IG dc_D_addBack_35 2 rfl ?_
      refine vx_iload IG dc_D_addBack_37 0 rfl ?_
      refine wr_ald IG HR hsc ht i rfl (by omega) dc_D_addBack_39 ?_
      refine vx_topl (y := lN (s i)) (by rw [f1 sc hne]; exact hsi.2) ?_
      refine vx_ladd IG dc_D_addBack_40 ?_
      refine vx_topl (y := lN (c (place + i) + s i)) (lN_add _ _) ?_
      refine vx_lload IG dc_D_addBack_41 1 rfl ?_
      refine vx_ladd IG dc_D_addBack_43 ?_
      refine vx_topl (y := lN (c (place + i) + s i + cr)) (lN_add _ _) ?_
      refine vx_lstore (lv' := [(8, .long (lN (c (place + i) + s i + cr))), (7, .int (nI i)), (5, .long (lN cr)), (4, .ref (ar sc)), (3, .ref (ar rs)), (0, .ref dv), (1, .int (nI place)), (2, .int (nI n))]) IG dc_D_addBack_44 (by decide) rfl ?_
      refine vx_aload_n IG dc_D_addBack_46 rfl 4 rfl ?_
      refine vx_iload_n IG dc_D_addBack_47 rfl 6 rfl ?_
      refine vx_iload IG dc_D_addBack_48 1 rfl ?_
      refine vx_iadd IG dc_D_addBack_50 ?_
      refine vx_topi (y := nI (place + i)) (nI_add _ _) ?_
      refine vx_lload IG dc_D_addBack_51 0 rfl ?_
      refine vx_ldc2 (v := 4294967295) IG wK_D_83 dc_D_addBack_53 ?_
      refine vx_land IG dc_D_addBack_56 ?_
      refine vx_topl (y := lN ((c (place + i) + s i + cr) % 4294967296)) (ln_mask _) ?_
      refine wr_ast IG HR hrs ht (place + i) rfl (by omega) dc_D_addBack_57 (fun h HR => ?_)
      obtain ⟨fn3, e_fn3⟩ : ∃ z, z = va_up fn2 rs (vp_updL (fn2 rs) (place + i) (lN ((c (place + i) + s i + cr) % 4294967296))) := ⟨_, rfl⟩
      rw [← e_fn3] at HR
      refine vx_lload IG dc_D_addBack_58 0 rfl ?_
      refine vx_bipush (v := 32) IG dc_D_addBack_60 (by decide) ?_
      refine vx_lushr (v := lN ((c (place + i) + s i + cr) / 4294967296)) IG dc_D_addBack_62 (ln_shr32 (by omega)) ?_
      refine vx_lstore (lv' := [(5, .long (lN ((c (place + i) + s i + cr) / 4294967296))), (8, .long (lN (c (place + i) + s i + cr))), (7, .int (nI i)), (4, .ref (ar sc)), (3, .ref (ar rs)), (0, .ref dv), (1, .int (nI place)), (2, .int (nI n))]) IG dc_D_addBack_63 (by decide) rfl ?_
      refine vx_iinc (q := 2) (v := nI (i + 1)) (lv' := [(7, .int (nI (i + 1))), (5, .long (lN ((c (place + i) + s i + cr) / 4294967296))), (8, .long (lN (c (place + i) + s i + cr))), (4, .ref (ar sc)), (3, .ref (ar rs)), (0, .ref dv), (1, .int (nI place)), (2, .int (nI n))]) IG dc_D_addBack_65 rfl (nI_1 i) (by decide) rfl ?_
      refine vx_goto (tgt := 23) IG dc_D_addBack_68 (by decide) ?_
      refine vx_same (lv' := [(7, .int (nI (i + 1))), (5, .long (lN ((c (place + i) + s i + cr) / 4294967296))), (4, .ref (ar sc)), (3, .ref (ar rs)), (0, .ref dv), (1, .int (nI place)), (2, .int (nI n))]) IG [0, 1, 3, 4, 5, 6, 7] rfl ?_
      refine ih (i + 1) (by omega) h fn3 (fun j => if j = place + i then (c (place + i) + s i + cr) % 4294967296 else c j) _ (by omega) (fun q z => ?_) (fun j hj => ?_) (fun j hj => ?_) ?_ HR
      · rw [e_fn3, va_up_ne _ _ z]; exact f1 q z
      · by_cases z : j = place + i
        · simp only [z, if_true]
          exact ⟨by omega, by rw [e_fn3, va_up_self, pk_uLs]⟩
        · simp only [z, if_false]
          exact ⟨(f2 j hj).1, by rw [e_fn3, va_up_self, pk_uLn z]; exact (f2 j hj).2⟩
      · show (if j = place + i then _ else c j) = d j
        rw [if_neg (by omega)]; exact f3 j (by omega)
      · refine am_step 4294967296 (cr := cr) ?_ (by rw [hdi]; omega) ?_
        · rw [vl_congr (e := fun j => c (place + j)) (fun j hj => by show (if _ then _ else _) = _; rw [if_neg (by omega)])]
          exact f4
        · show (if place + i = place + i then _ else _) = _
          rw [if_pos rfl]
  refine vx_aload_n IG dc_D_addBack_0 rfl 0 rfl ?_
  refine vx_get IG (rw_r HR hdv) rfl 1 (by decide) inD wF_D_18 rfl rfl dc_D_addBack_1 ?_
  refine wr_dig IG HR hrs wF_D_58 dc_D_addBack_4 ?_
  refine vx_astore_n (lv' := [(3, .ref (ar rs)), (0, .ref dv), (1, .int (nI place)), (2, .int (nI n))]) IG dc_D_addBack_7 rfl (by decide) rfl ?_
  refine vx_aload_n IG dc_D_addBack_8 rfl 1 rfl ?_
  refine vx_get IG (rw_r HR hdv) rfl 2 (by decide) inD wF_D_21 rfl rfl dc_D_addBack_9 ?_
  refine wr_dig IG HR hsc wF_D_58 dc_D_addBack_12 ?_
  refine vx_astore (lv' := [(4, .ref (ar sc)), (3, .ref (ar rs)), (0, .ref dv), (1, .int (nI place)), (2, .int (nI n))]) IG dc_D_addBack_15 (by decide) rfl ?_
  refine vx_lconst (v := 0) IG dc_D_addBack_17 (by decide) ?_
  refine vx_lstore (lv' := [(5, .long 0), (4, .ref (ar sc)), (3, .ref (ar rs)), (0, .ref dv), (1, .int (nI place)), (2, .int (nI n))]) IG dc_D_addBack_18 (by decide) rfl ?_
  refine vx_iconst (v := 0) IG dc_D_addBack_20 (by decide) ?_
  refine vx_istore (lv' := [(7, .int 0), (5, .long 0), (4, .ref (ar sc)), (3, .ref (ar rs)), (0, .ref dv), (1, .int (nI place)), (2, .int (nI n))]) IG dc_D_addBack_21 (by decide) rfl ?_
  exact loop n 0 (by omega) h fn d 0 (by decide) (fun _ _ => rfl) hd (fun _ _ => rfl) (by simp [vl]) HR
end
end
section
/-! Divider: guess, takeOut -/
theorem vl_top2 {w : Nat → Nat} {m : Nat} (hw : ∀ j, j < m → w j < 4294967296) : vl 4294967296 w (m + 2) / 4294967296 ^ m = w (m + 1) * 4294967296 + w m := by
  rw [vl_split, Nat.add_mul_div_right _ _ (bp_pos bB1 m), Nat.div_eq_of_lt (vl_lt bB1 hw), Nat.zero_add]
  show 0 + w (m + 0) * 4294967296 ^ 0 + w (m + 1) * 4294967296 ^ 1 = _
  rw [Nat.add_zero]
  omega
theorem vl_top3 {w : Nat → Nat} {m : Nat} (hw : ∀ j, j < m → w j < 4294967296) : vl 4294967296 w (m + 3) / 4294967296 ^ m = (w (m + 2) * 4294967296 + w (m + 1)) * 4294967296 + w m := by
  rw [vl_split, Nat.add_mul_div_right _ _ (bp_pos bB1 m), Nat.div_eq_of_lt (vl_lt bB1 hw), Nat.zero_add]
  show 0 + w (m + 0) * 4294967296 ^ 0 + w (m + 1) * 4294967296 ^ 1 + w (m + 2) * 4294967296 ^ 2 = _
  rw [Nat.add_zero]
  omega
theorem gs_big {left x : Nat} (h : ¬ 4294967295 < left) (hx : x < 4294967296) : left * 4294967296 + x < 2 ^ 64 := by omega
theorem gs_prod {g s : Nat} (hg : g < 4294967296) (hs : s < 4294967296) : g * s < 2 ^ 64 := by
  have : g * s ≤ 4294967295 * 4294967295 := Nat.mul_le_mul (by omega) (by omega)
  omega
theorem gs_dn {g v1 v2 left pr u2 : Nat} (h3 : g * v1 + left = pr) (x : ¬ g * v2 ≤ left * 4294967296 + u2) : pr * 4294967296 + u2 < g * (v1 * 4294967296 + v2) := by
  rw [Nat.mul_add, ← Nat.mul_assoc, ← h3]
  generalize g * v1 = a at *
  generalize g * v2 = b at *
  omega
theorem gs_up {g v1 v2 left pr u2 : Nat} (h3 : g * v1 + left = pr) (x : g * v2 ≤ left * 4294967296 + u2) : g * (v1 * 4294967296 + v2) ≤ pr * 4294967296 + u2 := by
  rw [Nat.mul_add, ← Nat.mul_assoc, ← h3]
  generalize g * v1 = a at *
  generalize g * v2 = b at *
  omega
theorem cmpI_gt (a b : Nat) : 0 < cmpI a b ↔ b < a := by
  unfold cmpI
  by_cases h : a < b
  · rw [if_pos h]; exact ⟨fun q => absurd q (by decide), fun q => by omega⟩
  · rw [if_neg h]
    by_cases e : a = b
    · rw [if_pos e]; exact ⟨fun q => absurd q (by decide), fun q => by omega⟩
    · rw [if_neg e]; exact ⟨fun _ => by omega, fun _ => by decide⟩
theorem cmpI_ge (a b : Nat) : 0 ≤ cmpI a b ↔ b ≤ a := by
  unfold cmpI
  by_cases h : a < b
  · rw [if_pos h]; exact ⟨fun q => absurd q (by decide), fun q => by omega⟩
  · rw [if_neg h]
    by_cases e : a = b
    · rw [if_pos e]; exact ⟨fun _ => by omega, fun _ => by decide⟩
    · rw [if_neg e]; exact ⟨fun _ => by omega, fun _ => by decide⟩
section
variable {l : Launch} {D : va_G} {tys : List (ClassId × FieldType)} {cJ : ClassId} {L : List Nat} {r : vx_h} {ar cp : Nat → Nat} {cn : Nat → Int32} {fn : Nat → Nat → Int64} {dv qo rs sc : Nat} {h : vx_h}
set_option maxRecDepth 100000 in
set_option maxHeartbeats 4000000 in
/-- guess(place, n): the quotient's digit, or 1 more -/
theorem cD_guess (HR : rw_at 2 cJ L r ar cp cn fn h) (hdv : r dv = some (.inr (0, [.ref qo, .ref rs, .ref sc]))) (hrs : rs ∈ L) (hsc : sc ∈ L) (ht : tys[0]? = some (cJ, .long)) {place m tot : Nat} (d : Nat → Nat) (hd : ∀ i, i < tot → d i < 4294967296 ∧ fn rs i = lN (d i)) (htot : tot ≤ cp rs) (hpl : place + (m + 1) < tot) (s : Nat → Nat) (hs : ∀ i, i < m + 1 → s i < 4294967296 ∧ fn sc i = lN (s i)) (hn : m + 1 ≤ cp sc) (hhi : 2147483648 ≤ s m) (hW : vl 4294967296 (fun j => d (place + j)) (m + 2) < vl 4294967296 s (m + 1) * 4294967296) : vx_M l D vcl tys my_D_guess lw_gd (rm_ 2 0 0 46) [.ref dv, .int (nI place), .int (nI (m + 1))] h (fun v h' k n => h' = h ∧ k = 0 ∧ n = 0 ∧ ∃ g, v = some (.long (lN g)) ∧ g < 4294967296 ∧ vl 4294967296 (fun j => d (place + j)) (m + 2) / vl 4294967296 s (m + 1) ≤ g ∧ g ≤ vl 4294967296 (fun j => d (place + j)) (m + 2) / vl 4294967296 s (m + 1) + 1) := by
  have hc := rw_cap HR hrs
  have hc2 := rw_cap HR hsc
  have hu0 := hd (place + (m + 1)) (by omega)
  have hu1 := hd (place + m) (by omega)
  have hv1 := hs m (by omega)
  have hwd : ∀ j, j < m + 2 → (fun j => d (place + j)) j < 4294967296 := fun j hj => (hd (place + j) (by omega)).1
  have F1 : vl 4294967296 (fun j => d (place + j)) (m + 2) / 4294967296 ^ m = d (place + (m + 1)) * 4294967296 + d (place + m) := vl_top2 (fun j hj => hwd j (by omega))
  have hslt : vl 4294967296 s m < 4294967296 ^ m := vl_lt bB1 (fun j hj => (hs j (by omega)).1)
  have F2 : s m * 4294967296 ^ m ≤ vl 4294967296 s (m + 1) := by rw [vl_succ]; exact Nat.le_add_left _ _
  have F3 : vl 4294967296 s (m + 1) < (s m + 1) * 4294967296 ^ m := by rw [vl_succ, Nat.add_mul, Nat.one_mul]; omega
  have hbp := bp_pos bB1 m
  have hSpos : 0 < vl 4294967296 s (m + 1) := by
    have : 1 * 4294967296 ^ m ≤ s m * 4294967296 ^ m := Nat.mul_le_mul_right _ (by omega)
    omega
  have hq : vl 4294967296 (fun j => d (place + j)) (m + 2) / vl 4294967296 s (m + 1) < 4294967296 := by
    rw [Nat.div_lt_iff_lt_mul hSpos, Nat.mul_comm]; exact hW
  have F4 : d (place + (m + 1)) * 4294967296 + d (place + m) < (s m + 1) * 4294967296 := by
    rw [← F1, Nat.div_lt_iff_lt_mul hbp]
    have h1 := Nat.mul_lt_mul_of_pos_right F3 (show 0 < 4294967296 by decide)
    rw [Nat.mul_assoc, Nat.mul_comm (4294967296 ^ m), ← Nat.mul_assoc] at h1
    omega
  have hlo : vl 4294967296 (fun j => d (place + j)) (m + 2) / vl 4294967296 s (m + 1) ≤ (d (place + (m + 1)) * 4294967296 + d (place + m)) / s m := qg_lo hSpos hbp F2 F1.symm (by omega)
  generalize eW : vl 4294967296 (fun j => d (place + j)) (m + 2) = Wd at *
  generalize eS : vl 4294967296 s (m + 1) = Sv at *
  generalize eU : d (place + (m + 1)) = u0 at *
  generalize eV : d (place + m) = u1 at *
  refine vx_M.ofV (cc := bc_D_guess) (maxL := 17) (ret := some .long) (own := rD) false rfl (by decide +kernel) wC_D_guess (fun q => by cases q) (Nat.le_of_ble_eq_true rfl) (fun A H0 G IG RG => ?_)
  show vx_V _ _ _ _ _ _ _ _ _ 0 [(0, .ref dv), (1, .int (nI place)), (2, .int (nI (m + 1)))] []
  -- behind the first guess
  have second : ∀ (g : Nat), g < 4294967296 → Wd / Sv ≤ g → g * s m ≤ u0 * 4294967296 + u1 → (u0 * 4294967296 + u1) - g * s m < 8589934592 → (m = 0 → g = Wd / Sv) → vx_V D vcl A H0 17 G h 0 0 64 [(8, .long (lN g)), (6, .long (lN (u0 * 4294967296 + u1))), (4, .long (lN (s m))), (3, .ref (ar rs)), (0, .ref dv), (1, .int (nI place)), (2, .int (nI (m + 1)))] [] := by
    intro g hg hqg hgm hleft hm0
    refine vx_iload_n IG dc_D_guess_64 rfl 6 rfl ?_
    refine vx_iconst (v := 2) IG dc_D_guess_65 (by decide) ?_
    by_cases z : m = 0
    · refine vx_icmp_ge (tgt := 72) IG dc_D_guess_66 (by decide) (fun c_ => absurd c_ (nI_ge (b := 2) (by omega) (by decide))) (fun _ => ?_)
      refine vx_lload IG dc_D_guess_69 0 rfl ?_
      refine vx_ret (some (.long (lN g))) RG (vx_endl dc_D_guess_71) rfl ?_
      exact ⟨rfl, rfl, rfl, g, rfl, hg, hqg, by rw [hm0 z]; omega⟩
    · refine vx_icmp_ge (tgt := 72) IG dc_D_guess_66 (by decide) (fun _ => ?_) (fun c_ => absurd (nI_le (a := 2) (by omega) (by omega)) c_)
      obtain ⟨b, rfl⟩ : ∃ b, m = b + 1 := ⟨m - 1, by omega⟩
      have hv2 := hs b (by omega)
      have hu2 := hd (place + b) (by omega)
      have F5 : Wd / 4294967296 ^ b = (u0 * 4294967296 + u1) * 4294967296 + d (place + b) := by rw [← eW, ← eU, ← eV]; exact vl_top3 (fun j hj => hwd j (by omega))
      have hslt2 : vl 4294967296 s b < 4294967296 ^ b := vl_lt bB1 (fun j hj => (hs j (by omega)).1)
      have hSv : Sv = vl 4294967296 s b + (s (b + 1) * 4294967296 + s b) * 4294967296 ^ b := by
        rw [← eS, vl_succ, vl_succ, bp_succ, Nat.add_mul, Nat.mul_assoc, Nat.mul_comm 4294967296]
        omega
      have F6 : (s (b + 1) * 4294967296 + s b) * 4294967296 ^ b ≤ Sv := by omega
      have F7 : Sv < (s (b + 1) * 4294967296 + s b + 1) * 4294967296 ^ b := by rw [Nat.add_mul _ 1, Nat.one_mul]; omega
      have hbp2 := bp_pos bB1 b
      refine vx_aload_n IG dc_D_guess_72 rfl 4 rfl ?_
      refine vx_get IG (rw_r HR hdv) rfl 2 (by decide) inD wF_D_21 rfl rfl dc_D_guess_73 ?_
      refine wr_dig IG HR hsc wF_D_58 dc_D_guess_76 ?_
      refine vx_iload_n IG dc_D_guess_79 rfl 6 rfl ?_
      refine vx_iconst (v := 2) IG dc_D_guess_80 (by decide) ?_
      refine vx_isub IG dc_D_guess_81 ?_
      refine vx_topi (y := nI b) (by rw [show (2 : Int32) = nI 2 from rfl, pk_sub (by omega)]; congr 1) ?_
      refine wr_ald IG HR hsc ht b rfl (by omega) dc_D_guess_82 ?_
      refine vx_topl (y := lN (s b)) hv2.2 ?_
      refine vx_lstore (lv' := [(10, .long (lN (s b))), (8, .long (lN g)), (6, .long (lN (u0 * 4294967296 + u1))), (4, .long (lN (s (b + 1)))), (3, .ref (ar rs)), (0, .ref dv), (1, .int (nI place)), (2, .int (nI (b + 1 + 1)))]) IG dc_D_guess_83 (by decide) rfl ?_
      refine vx_aload_n IG dc_D_guess_85 rfl 4 rfl ?_
      refine vx_iload_n IG dc_D_guess_86 rfl 6 rfl ?_
      refine vx_iload_n IG dc_D_guess_87 rfl 7 rfl ?_
      refine vx_iadd IG dc_D_guess_88 ?_
      refine vx_topi (y := nI (place + (b + 1 + 1))) (nI_add _ _) ?_
      refine vx_iconst (v := 2) IG dc_D_guess_89 (by decide) ?_
      refine vx_isub IG dc_D_guess_90 ?_
      refine vx_topi (y := nI (place + b)) (by rw [show (2 : Int32) = nI 2 from rfl, pk_sub (by omega)]; congr 1) ?_
      refine wr_ald IG HR hrs ht (place + b) rfl (by omega) dc_D_guess_91 ?_
      refine vx_topl (y := lN (d (place + b))) hu2.2 ?_
      refine vx_lstore (lv' := [(12, .long (lN (d (place + b)))), (10, .long (lN (s b))), (8, .long (lN g)), (6, .long (lN (u0 * 4294967296 + u1))), (4, .long (lN (s (b + 1)))), (3, .ref (ar rs)), (0, .ref dv), (1, .int (nI place)), (2, .int (nI (b + 1 + 1)))]) IG dc_D_guess_92 (by decide) rfl ?_
      refine vx_lload IG dc_D_guess_94 3 rfl ?_
      refine vx_lload IG dc_D_guess_96 2 rfl ?_
      refine vx_lload IG dc_D_guess_98 4 rfl ?_
      refine vx_lmul IG dc_D_guess_100 ?_
      refine vx_topl (y := lN (g * s (b + 1))) (lN_mul _ _) ?_
      refine vx_lsub IG dc_D_guess_101 ?_
      refine vx_topl (y := lN (u0 * 4294967296 + u1 - g * s (b + 1))) (lN_sub hgm) ?_
      refine vx_lstore (lv' := [(14, .long (lN (u0 * 4294967296 + u1 - g * s (b + 1)))), (12, .long (lN (d (place + b)))), (10, .long (lN (s b))), (8, .long (lN g)), (6, .long (lN (u0 * 4294967296 + u1))), (4, .long (lN (s (b + 1)))), (3, .ref (ar rs)), (0, .ref dv), (1, .int (nI place)), (2, .int (nI (b + 1 + 1)))]) IG dc_D_guess_102 (by decide) rfl ?_
      refine vx_iconst (v := 0) IG dc_D_guess_104 (by decide) ?_
      refine vx_istore (lv' := [(16, .int 0), (14, .long (lN (u0 * 4294967296 + u1 - g * s (b + 1)))), (12, .long (lN (d (place + b)))), (10, .long (lN (s b))), (8, .long (lN g)), (6, .long (lN (u0 * 4294967296 + u1))), (4, .long (lN (s (b + 1)))), (3, .ref (ar rs)), (0, .ref dv), (1, .int (nI place)), (2, .int (nI (b + 1 + 1)))]) IG dc_D_guess_105 (by decide) rfl ?_
      have fin : ∀ (i g left : Nat), g < 4294967296 → Wd / Sv ≤ g → g * s (b + 1) + left = u0 * 4294967296 + u1 → g * s b ≤ left * 4294967296 + d (place + b) → g ≤ Wd / Sv + 1 := by
        intro i g left h1 h2 h3 h4
        exact qg_up hbp2 hSpos F7 F5.symm (gs_up h3 h4) (by omega)
      have loop : ∀ (j i g left : Nat), i + j = 2 → g < 4294967296 → Wd / Sv ≤ g → g * s (b + 1) + left = u0 * 4294967296 + u1 → i * s (b + 1) ≤ left → left < 17179869184 → vx_V D vcl A H0 17 G h 0 0 107 [(16, .int (nI i)), (14, .long (lN left)), (12, .long (lN (d (place + b)))), (10, .long (lN (s b))), (8, .long (lN g)), (6, .long (lN (u0 * 4294967296 + u1))), (4, .long (lN (s (b + 1)))), (3, .ref (ar rs)), (0, .ref dv), (1, .int (nI place)), (2, .int (nI (b + 1 + 1)))] [] := by
        intro j
        induction j with
        | zero =>
          intro i g left hij h1 h2 h3 h4 h5
          obtain rfl : i = 2 := by omega
          have h6 : g * s b ≤ 4294967295 * 4294967295 := Nat.mul_le_mul (by omega) (by omega)
          refine vx_iload IG dc_D_guess_107 0 rfl ?_
          refine vx_iconst (v := 2) IG dc_D_guess_109 (by decide) ?_
          refine vx_icmp_ge (tgt := 163) IG dc_D_guess_110 (by decide) (fun _ => ?_) (fun c_ => absurd (by decide) c_)
          refine vx_lload IG dc_D_guess_163 4 rfl ?_
          refine vx_ret (some (.long (lN g))) RG (vx_endl dc_D_guess_165) rfl ?_
          exact ⟨rfl, rfl, rfl, g, rfl, h1, h2, fin 2 g left h1 h2 h3 (by omega)⟩
        | succ j ih =>
          intro i g left hij h1 h2 h3 h4 h5
          have h6 : g * s b ≤ 4294967295 * 4294967295 := Nat.mul_le_mul (by omega) (by omega)
          refine vx_iload IG dc_D_guess_107 0 rfl ?_
          refine vx_iconst (v := 2) IG dc_D_guess_109 (by decide) ?_
          refine vx_icmp_ge (tgt := 163) IG dc_D_guess_110 (by decide) (fun c_ => absurd c_ (nI_ge (b := 2) (by omega) (by decide))) (fun _ => ?_)
          refine vx_lload IG dc_D_guess_113 1 rfl ?_
          refine vx_ldc2 (v := 4294967295) IG wK_D_83 dc_D_guess_115 ?_
          refine vx_lcmp IG dc_D_guess_118 ?_
          by_cases y : 4294967295 < left
          · refine vx_if_gt (tgt := 163) IG dc_D_guess_119 (by decide) (fun _ => ?_) (fun c_ => absurd ((lg_cmp_gt _ _).mpr ((pk_lLT (a := 4294967295) (by decide) (by omega)).mpr y)) c_)
            refine vx_lload IG dc_D_guess_163 4 rfl ?_
            refine vx_ret (some (.long (lN g))) RG (vx_endl dc_D_guess_165) rfl ?_
            exact ⟨rfl, rfl, rfl, g, rfl, h1, h2, fin i g left h1 h2 h3 (by omega)⟩
          · refine vx_if_gt (tgt := 163) IG dc_D_guess_119 (by decide) (fun c_ => absurd c_ (fun q => y ((pk_lLT (a := 4294967295) (by decide) (by omega)).mp ((lg_cmp_gt _ _).mp q)))) (fun _ => ?_)
            refine vx_lload IG dc_D_guess_122 4 rfl ?_
            refine vx_lload IG dc_D_guess_124 3 rfl ?_
            refine vx_lmul IG dc_D_guess_126 ?_
            refine vx_topl (y := lN (g * s b)) (lN_mul _ _) ?_
            refine vx_lload IG dc_D_guess_127 1 rfl ?_
            refine vx_bipush (v := 32) IG dc_D_guess_129 (by decide) ?_
            refine vx_lshl (v := lN (left * 4294967296)) IG dc_D_guess_131 (wb_shl (k := 32) _ (by decide)) ?_
            refine vx_lload IG dc_D_guess_132 2 rfl ?_
            refine vx_lor IG dc_D_guess_134 ?_
            refine vx_topl (y := lN (left * 4294967296 + d (place + b))) (g_or (k := 32) (p := 4294967296) rfl hu2.1 (gs_big y hu2.1)) ?_
            refine vx_callS (As := [.long (lN (g * s b)), .long (lN (left * 4294967296 + d (place + b)))]) (st := []) IG lw_good (cJL_compareUnsigned _ (a := g * s b) (b := left * 4294967296 + d (place + b)) (gs_prod h1 hv2.1) (gs_big y hu2.1)) wC_JL_compareUnsigned wL_D_89 wT_JL_compareUnsigned wX_JL 2 (by decide +kernel) rfl ⟨Nat.le_of_ble_eq_true rfl, Nat.le_of_ble_eq_true rfl⟩ ⟨(by decide), (by decide)⟩ rfl (Nat.le_of_ble_eq_true rfl) dc_D_guess_135 (fun v h k_ n_ hq => ?_)
            obtain ⟨rfl, rfl, rfl, rfl⟩ := hq
            show vx_V _ _ _ _ _ _ _ _ _ 138 [(16, .int (nI i)), (14, .long (lN left)), (12, .long (lN (d (place + b)))), (10, .long (lN (s b))), (8, .long (lN g)), (6, .long (lN (u0 * 4294967296 + u1))), (4, .long (lN (s (b + 1)))), (3, .ref (ar rs)), (0, .ref dv), (1, .int (nI place)), (2, .int (nI (b + 1 + 1)))] [.int (cmpI (g * s b) (left * 4294967296 + d (place + b)))]
            by_cases x : g * s b ≤ left * 4294967296 + d (place + b)
            · refine vx_if_gt (tgt := 144) IG dc_D_guess_138 (by decide) (fun c_ => absurd c_ (fun q => absurd ((cmpI_gt _ _).mp q) (Nat.not_lt.mpr x))) (fun _ => ?_)
              refine vx_goto (tgt := 163) IG dc_D_guess_141 (by decide) ?_
              refine vx_lload IG dc_D_guess_163 4 rfl ?_
              refine vx_ret (some (.long (lN g))) RG (vx_endl dc_D_guess_165) rfl ?_
              exact ⟨rfl, rfl, rfl, g, rfl, h1, h2, fin i g left h1 h2 h3 x⟩
            · refine vx_if_gt (tgt := 144) IG dc_D_guess_138 (by decide) (fun _ => ?_) (fun c_ => absurd ((cmpI_gt _ _).mpr (Nat.lt_of_not_le x)) c_)
              have hdn : Wd / Sv < g := by
                exact qg_down (t := (u0 * 4294967296 + u1) * 4294967296 + d (place + b)) hbp2 hSpos F6 F5.symm (gs_dn h3 x)
              obtain ⟨g', rfl⟩ : ∃ g', g = g' + 1 := ⟨g - 1, by have := Nat.lt_of_le_of_lt (Nat.zero_le _) hdn; omega⟩
              refine vx_lload IG dc_D_guess_144 4 rfl ?_
              refine vx_lconst (v := 1) IG dc_D_guess_146 (by decide) ?_
              refine vx_lsub IG dc_D_guess_147 ?_
              refine vx_topl (y := lN g') (by rw [show (1 : Int64) = lN 1 from rfl, lN_sub (by omega)]; congr 1) ?_
              refine vx_lstore (lv' := [(8, .long (lN g')), (16, .int (nI i)), (14, .long (lN left)), (12, .long (lN (d (place + b)))), (10, .long (lN (s b))), (6, .long (lN (u0 * 4294967296 + u1))), (4, .long (lN (s (b + 1)))), (3, .ref (ar rs)), (0, .ref dv), (1, .int (nI place)), (2, .int (nI (b + 1 + 1)))]) IG dc_D_guess_148 (by decide) rfl ?_
              refine vx_lload IG dc_D_guess_150 2 rfl ?_
              refine vx_lload IG dc_D_guess_152 6 rfl ?_
              refine vx_ladd IG dc_D_guess_154 ?_
              refine vx_topl (y := lN (left + s (b + 1))) (lN_add _ _) ?_
              refine vx_lstore (lv' := [(14, .long (lN (left + s (b + 1)))), (8, .long (lN g')), (16, .int (nI i)), (12, .long (lN (d (place + b)))), (10, .long (lN (s b))), (6, .long (lN (u0 * 4294967296 + u1))), (4, .long (lN (s (b + 1)))), (3, .ref (ar rs)), (0, .ref dv), (1, .int (nI place)), (2, .int (nI (b + 1 + 1)))]) IG dc_D_guess_155 (by decide) rfl ?_
              refine vx_iinc (q := 2) (v := nI (i + 1)) (lv' := [(16, .int (nI (i + 1))), (14, .long (lN (left + s (b + 1)))), (8, .long (lN g')), (12, .long (lN (d (place + b)))), (10, .long (lN (s b))), (6, .long (lN (u0 * 4294967296 + u1))), (4, .long (lN (s (b + 1)))), (3, .ref (ar rs)), (0, .ref dv), (1, .int (nI place)), (2, .int (nI (b + 1 + 1)))]) IG dc_D_guess_157 rfl (nI_1 i) (by decide) rfl ?_
              refine vx_goto (tgt := 107) IG dc_D_guess_160 (by decide) ?_
              refine vx_same (lv' := [(16, .int (nI (i + 1))), (14, .long (lN (left + s (b + 1)))), (12, .long (lN (d (place + b)))), (10, .long (lN (s b))), (8, .long (lN g')), (6, .long (lN (u0 * 4294967296 + u1))), (4, .long (lN (s (b + 1)))), (3, .ref (ar rs)), (0, .ref dv), (1, .int (nI place)), (2, .int (nI (b + 1 + 1)))]) IG [0, 1, 3, 4, 2, 5, 6, 7, 8, 9, 10] rfl ?_
              exact ih (i + 1) g' (left + s (b + 1)) (by omega) (by omega) (by omega) (by rw [Nat.add_mul] at h3; omega) (by rw [Nat.add_mul]; omega) (by omega)
      rw [show (0 : Int32) = nI 0 from rfl]
      exact loop 2 0 g _ rfl hg hqg (by omega) (by omega) (by omega)
  refine vx_aload_n IG dc_D_guess_0 rfl 0 rfl ?_
  refine vx_get IG (rw_r HR hdv) rfl 1 (by decide) inD wF_D_18 rfl rfl dc_D_guess_1 ?_
  refine wr_dig IG HR hrs wF_D_58 dc_D_guess_4 ?_
  refine vx_astore_n (lv' := [(3, .ref (ar rs)), (0, .ref dv), (1, .int (nI place)), (2, .int (nI (m + 1)))]) IG dc_D_guess_7 rfl (by decide) rfl ?_
  refine vx_aload_n IG dc_D_guess_8 rfl 1 rfl ?_
  refine vx_get IG (rw_r HR hdv) rfl 2 (by decide) inD wF_D_21 rfl rfl dc_D_guess_9 ?_
  refine wr_dig IG HR hsc wF_D_58 dc_D_guess_12 ?_
  refine vx_iload_n IG dc_D_guess_15 rfl 3 rfl ?_
  refine vx_iconst (v := 1) IG dc_D_guess_16 (by decide) ?_
  refine vx_isub IG dc_D_guess_17 ?_
  refine vx_topi (y := nI m) (nI_pred m) ?_
  refine wr_ald IG HR hsc ht m rfl (by omega) dc_D_guess_18 ?_
  refine vx_topl (y := lN (s m)) hv1.2 ?_
  refine vx_lstore (lv' := [(4, .long (lN (s m))), (3, .ref (ar rs)), (0, .ref dv), (1, .int (nI place)), (2, .int (nI (m + 1)))]) IG dc_D_guess_19 (by decide) rfl ?_
  refine vx_aload_n IG dc_D_guess_21 rfl 1 rfl ?_
  refine vx_iload_n IG dc_D_guess_22 rfl 3 rfl ?_
  refine vx_iload_n IG dc_D_guess_23 rfl 4 rfl ?_
  refine vx_iadd IG dc_D_guess_24 ?_
  refine vx_topi (y := nI (place + (m + 1))) (nI_add _ _) ?_
  refine wr_ald IG HR hrs ht (place + (m + 1)) rfl (by omega) dc_D_guess_25 ?_
  refine vx_topl (y := lN u0) hu0.2 ?_
  refine vx_bipush (v := 32) IG dc_D_guess_26 (by decide) ?_
  refine vx_lshl (v := lN (u0 * 4294967296)) IG dc_D_guess_28 (wb_shl (k := 32) _ (by decide)) ?_
  refine vx_aload_n IG dc_D_guess_29 rfl 1 rfl ?_
  refine vx_iload_n IG dc_D_guess_30 rfl 3 rfl ?_
  refine vx_iload_n IG dc_D_guess_31 rfl 4 rfl ?_
  refine vx_iadd IG dc_D_guess_32 ?_
  refine vx_topi (y := nI (place + (m + 1))) (nI_add _ _) ?_
  refine vx_iconst (v := 1) IG dc_D_guess_33 (by decide) ?_
  refine vx_isub IG dc_D_guess_34 ?_
  refine vx_topi (y := nI (place + m)) (nI_pred (place + m)) ?_
  refine wr_ald IG HR hrs ht (place + m) rfl (by omega) dc_D_guess_35 ?_
  refine vx_topl (y := lN u1) hu1.2 ?_
  refine vx_lor IG dc_D_guess_36 ?_
  refine vx_topl (y := lN (u0 * 4294967296 + u1)) (g_or (k := 32) (p := 4294967296) rfl hu1.1 (by omega)) ?_
  refine vx_lstore (lv' := [(6, .long (lN (u0 * 4294967296 + u1))), (4, .long (lN (s m))), (3, .ref (ar rs)), (0, .ref dv), (1, .int (nI place)), (2, .int (nI (m + 1)))]) IG dc_D_guess_37 (by decide) rfl ?_
  refine vx_ldc2 (v := 4294967295) IG wK_D_83 dc_D_guess_39 ?_
  refine vx_lstore (lv' := [(8, .long 4294967295), (6, .long (lN (u0 * 4294967296 + u1))), (4, .long (lN (s m))), (3, .ref (ar rs)), (0, .ref dv), (1, .int (nI place)), (2, .int (nI (m + 1)))]) IG dc_D_guess_42 (by decide) rfl ?_
  refine vx_aload_n IG dc_D_guess_44 rfl 3 rfl ?_
  refine vx_iload_n IG dc_D_guess_45 rfl 5 rfl ?_
  refine vx_iload_n IG dc_D_guess_46 rfl 6 rfl ?_
  refine vx_iadd IG dc_D_guess_47 ?_
  refine vx_topi (y := nI (place + (m + 1))) (nI_add _ _) ?_
  refine wr_ald IG HR hrs ht (place + (m + 1)) rfl (by omega) dc_D_guess_48 ?_
  refine vx_topl (y := lN u0) hu0.2 ?_
  refine vx_lload IG dc_D_guess_49 2 rfl ?_
  refine vx_lcmp IG dc_D_guess_51 ?_
  by_cases z : u0 < s m
  · refine vx_if_ge (tgt := 64) IG dc_D_guess_52 (by decide) (fun c_ => absurd c_ (fun q => absurd ((pk_lLT (by omega) (by omega)).mpr z) (Int64.not_lt.mpr ((lg_cmp_ge _ _).mp q)))) (fun _ => ?_)
    refine vx_lload IG dc_D_guess_55 1 rfl ?_
    refine vx_lload IG dc_D_guess_57 2 rfl ?_
    refine vx_callS (As := [.long (lN (u0 * 4294967296 + u1)), .long (lN (s m))]) (st := []) IG lw_good (cD_quotientOfPair _ (u := u0 * 4294967296 + u1) (v := s m) (by omega) (by omega) hv1.1) wC_D_quotientOfPair wL_D_85 wT_D_quotientOfPair wX_D 2 (by decide +kernel) rfl ⟨Nat.le_of_ble_eq_true rfl, Nat.le_of_ble_eq_true rfl⟩ ⟨(by decide), (by decide)⟩ rfl (Nat.le_of_ble_eq_true rfl) dc_D_guess_59 (fun v h k_ n_ hq => ?_)
    obtain ⟨rfl, rfl, rfl, rfl⟩ := hq
    show vx_V _ _ _ _ _ _ _ _ _ 62 [(8, .long 4294967295), (6, .long (lN (u0 * 4294967296 + u1))), (4, .long (lN (s m))), (3, .ref (ar rs)), (0, .ref dv), (1, .int (nI place)), (2, .int (nI (m + 1)))] [.long (lN ((u0 * 4294967296 + u1) / s m))]
    refine vx_lstore (lv' := [(8, .long (lN ((u0 * 4294967296 + u1) / s m))), (6, .long (lN (u0 * 4294967296 + u1))), (4, .long (lN (s m))), (3, .ref (ar rs)), (0, .ref dv), (1, .int (nI place)), (2, .int (nI (m + 1)))]) IG dc_D_guess_62 (by decide) rfl ?_
    refine vx_same (lv' := [(8, .long (lN ((u0 * 4294967296 + u1) / s m))), (6, .long (lN (u0 * 4294967296 + u1))), (4, .long (lN (s m))), (3, .ref (ar rs)), (0, .ref dv), (1, .int (nI place)), (2, .int (nI (m + 1)))]) IG [0, 1, 2, 3, 4, 5, 6] rfl ?_
    have hdm := Nat.div_add_mod (u0 * 4294967296 + u1) (s m)
    have hml := Nat.mod_lt (u0 * 4294967296 + u1) (show 0 < s m by omega)
    have hcm := Nat.mul_comm (s m) ((u0 * 4294967296 + u1) / s m)
    refine second _ ?_ hlo (by omega) (by omega) (fun hm => ?_)
    · rw [Nat.div_lt_iff_lt_mul (by omega)]
      have : (u0 + 1) * 4294967296 ≤ s m * 4294967296 := Nat.mul_le_mul_right _ z
      rw [Nat.mul_comm]
      omega
    · subst hm
      rw [Nat.pow_zero, Nat.div_one] at F1
      rw [← F1]
      congr 1
      rw [← eS]
      show s 0 = 0 + s 0 * 4294967296 ^ 0
      omega
  · refine vx_if_ge (tgt := 64) IG dc_D_guess_52 (by decide) (fun _ => ?_) (fun c_ => absurd ((lg_cmp_ge _ _).mpr ((pk_lLE (by omega) (by omega)).mpr (by omega))) c_)
    refine vx_same (lv' := [(8, .long 4294967295), (6, .long (lN (u0 * 4294967296 + u1))), (4, .long (lN (s m))), (3, .ref (ar rs)), (0, .ref dv), (1, .int (nI place)), (2, .int (nI (m + 1)))]) IG [0, 1, 2, 3, 4, 5, 6] rfl ?_
    have hus : u0 = s m := by omega
    refine second 4294967295 (by decide) (by omega) (by rw [hus]; omega) (by rw [hus]; omega) (fun hm => ?_)
    subst hm
    rw [Nat.pow_zero, Nat.div_one] at F1
    have e9 : Sv = s 0 := by rw [← eS]; show 0 + s 0 * 4294967296 ^ 0 = s 0; omega
    rw [F1, e9, hus] at hW
    omega
end
end
section
/-! Divider: takeOut, run -/
theorem bp32 (n : Nat) : 4294967296 ^ n = 2 ^ (32 * n) := by rw [show (4294967296 : Nat) = 2 ^ 32 from rfl, ← Nat.pow_mul]
theorem scale_facts {B : Nat} (hB : 0 < B) : bl B ≤ 32 * nd 4294967296 B ∧ 32 * nd 4294967296 B - bl B < 32 ∧ nd 4294967296 (B * 2 ^ (32 * nd 4294967296 B - bl B)) = nd 4294967296 B ∧ 2147483648 ≤ dg 4294967296 (B * 2 ^ (32 * nd 4294967296 B - bl B)) (nd 4294967296 B - 1) := by
  have h0 : 0 < nd 4294967296 B := by
    rcases Nat.eq_zero_or_pos (nd 4294967296 B) with q | q
    · have := (nd_eq_zero bB1).mp q; omega
    · exact q
  have ht : bl B + 32 = 32 * nd 4294967296 B + bl (dg 4294967296 B (nd 4294967296 B - 1)) := bl_top (w := 32) (by decide) hB
  have ht1 : 0 < bl (dg 4294967296 B (nd 4294967296 B - 1)) := bl_pos (Nat.pos_of_ne_zero (dg_top bB1 hB))
  have ht2 : bl (dg 4294967296 B (nd 4294967296 B - 1)) ≤ 32 := bl_le.mpr (dg_lt bB1 _ _)
  have hb1 : 2 ^ (bl B - 1) ≤ B := bl_lt.mp (by have := bl_pos hB; omega)
  have hb2 : B < 2 ^ bl B := lt_bl B
  have hbp := bl_pos hB
  generalize hsc : 32 * nd 4294967296 B - bl B = sc at *
  have hlt : B * 2 ^ sc < 4294967296 ^ nd 4294967296 B := by
    rw [show 4294967296 ^ nd 4294967296 B = 2 ^ bl B * 2 ^ sc by rw [bp32, ← Nat.pow_add]; congr 1; omega]
    exact Nat.mul_lt_mul_of_pos_right hb2 (Nat.pow_pos (by decide))
  have hge : 2147483648 * 4294967296 ^ (nd 4294967296 B - 1) ≤ B * 2 ^ sc := by
    rw [show 2147483648 * 4294967296 ^ (nd 4294967296 B - 1) = 2 ^ (bl B - 1) * 2 ^ sc by rw [bp32, ← Nat.pow_add, show (2147483648 : Nat) = 2 ^ 31 from rfl, ← Nat.pow_add]; congr 1; omega]
    exact Nat.mul_le_mul_right _ hb1
  have hnd : nd 4294967296 (B * 2 ^ sc) = nd 4294967296 B := by
    have a1 := (nd_le bB1).mpr hlt
    have a2 : nd 4294967296 B - 1 < nd 4294967296 (B * 2 ^ sc) := (nd_lt bB1).mpr (by have := bp_pos bB1 (nd 4294967296 B - 1); omega)
    omega
  refine ⟨by omega, by omega, hnd, ?_⟩
  have hpos : 0 < B * 2 ^ sc := Nat.mul_pos hB (Nat.pow_pos (by decide))
  have := dg_top_eq bB1 hpos
  rw [hnd] at this
  rw [this, Nat.le_div_iff_mul_le (bp_pos bB1 _)]
  exact hge
section
variable {l : Launch} {D : va_G} {tys : List (ClassId × FieldType)} {cJ : ClassId} {L : List Nat} {r : vx_h} {ar cp : Nat → Nat} {cn : Nat → Int32} {fn : Nat → Nat → Int64} {dv qo rs sc : Nat} {h : vx_h}
set_option maxRecDepth 100000 in
set_option maxHeartbeats 4000000 in
/-- takeOut(place, n): the quotient's digit; the window keeps what is left -/
theorem cD_takeOut (HR : rw_at 2 cJ L r ar cp cn fn h) (hdv : r dv = some (.inr (0, [.ref qo, .ref rs, .ref sc]))) (hrs : rs ∈ L) (hsc : sc ∈ L) (hne : sc ≠ rs) (ht : tys[0]? = some (cJ, .long)) {place m tot : Nat} (d : Nat → Nat) (hd : ∀ i, i < tot → d i < 4294967296 ∧ fn rs i = lN (d i)) (htot : tot ≤ cp rs) (hpl : place + (m + 1) < tot) (s : Nat → Nat) (hs : ∀ i, i < m + 1 → s i < 4294967296 ∧ fn sc i = lN (s i)) (hn : m + 1 ≤ cp sc) (hhi : 2147483648 ≤ s m) (hW : vl 4294967296 (fun j => d (place + j)) (m + 2) < vl 4294967296 s (m + 1) * 4294967296) : vx_M l D vcl tys my_D_takeOut lw_gd (rm_ 3 0 0 82) [.ref dv, .int (nI place), .int (nI (m + 1))] h (fun v h' k n => v = some (.long (lN (vl 4294967296 (fun j => d (place + j)) (m + 2) / vl 4294967296 s (m + 1)))) ∧ k = 0 ∧ n = 0 ∧ ∃ (fn' : Nat → Nat → Int64) (e : Nat → Nat), rw_at 2 cJ L r ar cp cn fn' h' ∧ (∀ q, q ≠ rs → fn' q = fn q) ∧ (∀ i, i < tot → e i < 4294967296 ∧ fn' rs i = lN (e i)) ∧ (∀ j, j < place ∨ place + (m + 2) ≤ j → e j = d j) ∧ vl 4294967296 (fun j => e (place + j)) (m + 2) = vl 4294967296 (fun j => d (place + j)) (m + 2) % vl 4294967296 s (m + 1)) := by
  have hslt : vl 4294967296 s (m + 1) < 4294967296 ^ (m + 1) := vl_lt bB1 (fun j hj => (hs j hj).1)
  have hSpos : 0 < vl 4294967296 s (m + 1) := by
    rw [vl_succ]
    have := bp_pos bB1 m
    have h2 : 1 * 4294967296 ^ m ≤ s m * 4294967296 ^ m := Nat.mul_le_mul_right _ (by omega)
    omega
  refine vx_M.ofV (cc := bc_D_takeOut) (maxL := 5) (ret := some .long) (own := rD) false rfl (by decide +kernel) wC_D_takeOut (fun q => by cases q) (Nat.le_of_ble_eq_true rfl) (fun A H0 G IG RG => ?_)
  show vx_V _ _ _ _ _ _ _ _ _ 0 [(0, .ref dv), (1, .int (nI place)), (2, .int (nI (m + 1)))] []
  refine vx_aload_n IG dc_D_takeOut_0 rfl 0 rfl ?_
  refine vx_iload_n IG dc_D_takeOut_1 rfl 1 rfl ?_
  refine vx_iload_n IG dc_D_takeOut_2 rfl 2 rfl ?_
  refine vx_callV (As := [.int (nI place), .int (nI (m + 1))]) (st := []) IG lw_good (cD_guess HR hdv hrs hsc ht d hd htot hpl s hs hn hhi hW) (rw_r HR hdv) rfl wC_D_guess wL_D_72 wI_D_guess wS_D_guess wX_D 2 (by decide +kernel) rfl ⟨Nat.le_of_ble_eq_true rfl, Nat.le_of_ble_eq_true rfl⟩ ⟨(by decide), (by decide)⟩ rfl (Nat.le_of_ble_eq_true rfl) dc_D_takeOut_3 (fun v h k_ n_ hq => ?_)
  obtain ⟨rfl, rfl, rfl, g, rfl, hg, hg1, hg2⟩ := hq
  show vx_V _ _ _ _ _ _ _ _ _ 6 [(0, .ref dv), (1, .int (nI place)), (2, .int (nI (m + 1)))] [.long (lN g)]
  have hdm := Nat.div_add_mod (vl 4294967296 (fun j => d (place + j)) (m + 2)) (vl 4294967296 s (m + 1))
  have hml := Nat.mod_lt (vl 4294967296 (fun j => d (place + j)) (m + 2)) hSpos
  have hwlt : ∀ (e : Nat → Nat), (∀ i, i < tot → e i < 4294967296 ∧ True) → vl 4294967296 (fun j => e (place + j)) (m + 2) < 4294967296 ^ (m + 2) := fun e he => vl_lt bB1 (fun j hj => (he (place + j) (by omega)).1)
  generalize eW : vl 4294967296 (fun j => d (place + j)) (m + 2) = Wd at *
  generalize eS : vl 4294967296 s (m + 1) = Sv at *
  refine vx_lstore_n (lv' := [(3, .long (lN g)), (0, .ref dv), (1, .int (nI place)), (2, .int (nI (m + 1)))]) IG dc_D_takeOut_6 rfl (by decide) rfl ?_
  refine vx_lload_n IG dc_D_takeOut_7 rfl 0 rfl ?_
  refine vx_lconst (v := 0) IG dc_D_takeOut_8 (by decide) ?_
  refine vx_lcmp IG dc_D_takeOut_9 ?_
  by_cases z : g = 0
  · refine vx_if_ne (tgt := 15) IG dc_D_takeOut_10 (by decide) (fun c_ => absurd ((lg_cmp_eq _ _).mpr (by rw [z]; rfl)) c_) (fun _ => ?_)
    refine vx_lconst (v := 0) IG dc_D_takeOut_13 (by decide) ?_
    refine vx_ret (some (.long 0)) RG (vx_endl dc_D_takeOut_14) rfl ?_
    have hq0 : Wd / Sv = 0 := by rw [z] at hg1; exact Nat.le_zero.mp hg1
    refine ⟨by rw [hq0]; rfl, rfl, rfl, fn, d, HR, fun _ _ => rfl, hd, fun _ _ => rfl, ?_⟩
    rw [hq0, Nat.mul_zero, Nat.zero_add] at hdm
    rw [hdm]; exact eW
  · refine vx_if_ne (tgt := 15) IG dc_D_takeOut_10 (by decide) (fun _ => ?_) (fun c_ => absurd c_ (fun q => z (ln_eq (by omega) (by decide) ((lg_cmp_eq _ _).mp q))))
    refine vx_aload_n IG dc_D_takeOut_15 rfl 1 rfl ?_
    refine vx_iload_n IG dc_D_takeOut_16 rfl 2 rfl ?_
    refine vx_iload_n IG dc_D_takeOut_17 rfl 3 rfl ?_
    refine vx_lload_n IG dc_D_takeOut_18 rfl 0 rfl ?_
    refine vx_callV (As := [.int (nI place), .int (nI (m + 1)), .long (lN g)]) (st := []) IG lw_good (cD_subtract HR hdv hrs hsc hne ht hg d hd htot hpl s hs hn) (rw_r HR hdv) rfl wC_D_subtract wL_D_75 wI_D_subtract wS_D_subtract wX_D 3 (by decide +kernel) rfl ⟨Nat.le_of_ble_eq_true rfl, Nat.le_of_ble_eq_true rfl⟩ ⟨(by decide), (by decide)⟩ rfl (Nat.le_of_ble_eq_true rfl) dc_D_takeOut_19 (fun v h k_ n_ hq => ?_)
    obtain ⟨rfl, rfl, fn1, e, HR, h1, h2, h3, h4⟩ := hq
    rcases h4 with ⟨rfl, h4⟩ | ⟨rfl, h4⟩
    · show vx_V _ _ _ _ _ _ _ _ _ 22 [(3, .long (lN g)), (0, .ref dv), (1, .int (nI place)), (2, .int (nI (m + 1)))] [.int 0]
      refine vx_if_ne (tgt := 27) IG dc_D_takeOut_22 (by decide) (fun c_ => absurd rfl c_) (fun _ => ?_)
      refine vx_lload_n IG dc_D_takeOut_25 rfl 0 rfl ?_
      refine vx_ret (some (.long (lN g))) RG (vx_endl dc_D_takeOut_26) rfl ?_
      have h5 : vl 4294967296 (fun j => e (place + j)) (m + 2) + g * Sv = Wd := by rw [← eW, ← eS]; exact h4
      have h6 : g ≤ Wd / Sv := by rw [Nat.le_div_iff_mul_le hSpos]; omega
      obtain rfl : g = Wd / Sv := Nat.le_antisymm h6 hg1
      refine ⟨rfl, rfl, rfl, fn1, e, HR, h1, h2, h3, ?_⟩
      rw [Nat.mul_comm] at hdm
      omega
    · show vx_V _ _ _ _ _ _ _ _ _ 22 [(3, .long (lN g)), (0, .ref dv), (1, .int (nI place)), (2, .int (nI (m + 1)))] [.int 1]
      refine vx_if_ne (tgt := 27) IG dc_D_takeOut_22 (by decide) (fun _ => ?_) (fun c_ => absurd c_ (by decide))
      refine vx_aload_n IG dc_D_takeOut_27 rfl 1 rfl ?_
      refine vx_iload_n IG dc_D_takeOut_28 rfl 2 rfl ?_
      refine vx_iload_n IG dc_D_takeOut_29 rfl 3 rfl ?_
      have h5 : vl 4294967296 (fun j => e (place + j)) (m + 2) + g * Sv = Wd + 4294967296 ^ (m + 2) := by rw [← eW, ← eS]; exact h4
      have h6 := hwlt e (fun i hi => ⟨(h2 i hi).1, trivial⟩)
      have h7 : ¬ g ≤ Wd / Sv := by
        rw [Nat.le_div_iff_mul_le hSpos]
        omega
      have h8 : g = Wd / Sv + 1 := Nat.le_antisymm hg2 (Nat.lt_of_not_le h7)
      refine vx_callV (As := [.int (nI place), .int (nI (m + 1))]) (st := []) IG lw_good (cD_addBack HR hdv hrs hsc hne ht e h2 htot hpl s (fun i hi => ⟨(hs i hi).1, by rw [h1 sc hne]; exact (hs i hi).2⟩) hn) (rw_r HR hdv) rfl wC_D_addBack wL_D_79 wI_D_addBack wS_D_addBack wX_D 2 (by decide +kernel) rfl ⟨Nat.le_of_ble_eq_true rfl, Nat.le_of_ble_eq_true rfl⟩ ⟨(by decide), (by decide)⟩ rfl (Nat.le_of_ble_eq_true rfl) dc_D_takeOut_30 (fun v h k_ n_ hq => ?_)
      obtain ⟨rfl, rfl, rfl, fn2, e2, HR, g1, g2, g3, g4⟩ := hq
      show vx_V _ _ _ _ _ _ _ _ _ 33 [(3, .long (lN g)), (0, .ref dv), (1, .int (nI place)), (2, .int (nI (m + 1)))] []
      refine vx_lload_n IG dc_D_takeOut_33 rfl 0 rfl ?_
      refine vx_lconst (v := 1) IG dc_D_takeOut_34 (by decide) ?_
      refine vx_lsub IG dc_D_takeOut_35 ?_
      refine vx_topl (y := lN (Wd / Sv)) (by rw [h8, show (1 : Int64) = lN 1 from rfl, lN_sub (Nat.le_add_left _ _), Nat.add_sub_cancel]) ?_
      refine vx_ret (some (.long (lN (Wd / Sv)))) RG (vx_endl dc_D_takeOut_36) rfl ?_
      refine ⟨rfl, rfl, rfl, fn2, e2, HR, fun q z => (g1 q z).trans (h1 q z), g2, fun j hj => (g3 j hj).trans (h3 j hj), ?_⟩
      have g5 : vl 4294967296 (fun j => e2 (place + j)) (m + 2) = (vl 4294967296 (fun j => e (place + j)) (m + 2) + Sv) % 4294967296 ^ (m + 2) := by rw [← eS]; exact g4
      rw [g5]
      have h9 : vl 4294967296 (fun j => e (place + j)) (m + 2) + Sv = Wd % Sv + 4294967296 ^ (m + 2) := by
        rw [h8, Nat.add_mul, Nat.one_mul] at h5
        rw [Nat.mul_comm] at hdm
        omega
      rw [h9, Nat.add_mod_right, Nat.mod_eq_of_lt]
      rw [bp_succ]
      omega
end
end
section
/-! Divider: run -/
theorem vl_hi0 {d : Nat → Nat} {k n t : Nat} (hd : ∀ i, i < k + n + t → d i < 4294967296) (h : vl 4294967296 d (k + n + t) < 4294967296 ^ (k + n)) : vl 4294967296 d (k + n + t) = vl 4294967296 d k + vl 4294967296 (fun j => d (k + j)) n * 4294967296 ^ k := by
  rw [vl_split 4294967296 d (k + n) t] at h ⊢
  have h0 : vl 4294967296 (fun j => d (k + n + j)) t = 0 := by
    rcases Nat.eq_zero_or_pos (vl 4294967296 (fun j => d (k + n + j)) t) with q | q
    · exact q
    · have : 1 * 4294967296 ^ (k + n) ≤ vl 4294967296 (fun j => d (k + n + j)) t * 4294967296 ^ (k + n) := Nat.mul_le_mul_right _ q
      omega
  rw [h0, Nat.zero_mul, Nat.add_zero, vl_split]
theorem vl_win {d e : Nat → Nat} {k n t : Nat} (h : vl 4294967296 d (k + n + t) < 4294967296 ^ (k + n)) (hlo : ∀ j, j < k → e j = d j) (hhi : ∀ j, k + n ≤ j → e j = d j) : vl 4294967296 e (k + n + t) = vl 4294967296 d k + vl 4294967296 (fun j => e (k + j)) n * 4294967296 ^ k := by
  rw [vl_split 4294967296 d (k + n) t] at h
  have h0 : vl 4294967296 (fun j => d (k + n + j)) t = 0 := by
    rcases Nat.eq_zero_or_pos (vl 4294967296 (fun j => d (k + n + j)) t) with q | q
    · exact q
    · have : 1 * 4294967296 ^ (k + n) ≤ vl 4294967296 (fun j => d (k + n + j)) t * 4294967296 ^ (k + n) := Nat.mul_le_mul_right _ q
      omega
  rw [vl_split 4294967296 e (k + n) t, vl_congr (d := fun j => e (k + n + j)) (e := fun j => d (k + n + j)) (fun j _ => hhi _ (by omega)), h0, Nat.zero_mul, Nat.add_zero, vl_split, vl_congr hlo]
theorem dv_step {Q S q R Wd P lo A2 : Nat} (h : Q * S + R = A2) (hR : R = lo + Wd * P) (hq : q = Wd / S) : (Q + q * P) * S + (lo + Wd % S * P) = A2 := by
  have h1 := Nat.div_add_mod Wd S
  have h2 : Wd * P = S * q * P + Wd % S * P := by rw [← Nat.add_mul, hq, h1]
  rw [← h, hR, h2, Nat.add_mul, Nat.mul_right_comm q P S, Nat.mul_comm q S]
  omega
section
variable {l : Launch} {D : va_G} {tys : List (ClassId × FieldType)} {cJ : ClassId} {L : List Nat} {r : vx_h} {dv qo rs sc pa pb p : Nat} {h : vx_h} {V : Nat → Nat} {C S : Nat}
theorem isZ_eq (N : Nat) : (if nd 4294967296 N = 0 then (1 : Int32) else 0) = if N = 0 then 1 else 0 := by
  by_cases z : N = 0
  · rw [if_pos z, if_pos (by rw [z]; rfl)]
  · rw [if_neg z, if_neg (fun q => z ((nd_eq_zero bB1).mp q))]
theorem cW_isZeroP (HP : pool cJ L r V h C S) (hp : p ∈ L) : vx_M l D vcl tys my_W_isZero lw_gd (rm_ 0 0 0 0) [.ref p] h (fun v h' k m => v = some (.int (if V p = 0 then 1 else 0)) ∧ h' = h ∧ k = 0 ∧ m = 0) := by
  obtain ⟨ar, cp, cn, fn, HR, hV, hC, hS⟩ := HP
  have hv := hV p hp
  have := nI_dig hv HR hp
  rw [← isZ_eq]
  exact cW_isZero HR hp hv.1 (by omega)
/-- what is the same where V' differs from V at three places alone -/
def dvEnd (cJ : ClassId) (L : List Nat) (r : vx_h) (V : Nat → Nat) (qo rs sc : Nat) (Q R : Nat) (C S : Nat) : Option Value → vx_h → Nat → Nat → Prop := fun v h' k m => v = none ∧ ∃ (V' : Nat → Nat) (C' S' : Nat), pool cJ L r V' h' C' S' ∧ V' qo = Q ∧ V' rs = R ∧ (∀ q, q ≠ qo → q ≠ rs → q ≠ sc → V' q = V q) ∧ k + C' ≤ C ∧ m + S' ≤ S
set_option maxRecDepth 100000 in
set_option maxHeartbeats 8000000 in
/-- run(a, b): quotient and rest -/
theorem cD_run (HP : pool cJ L r V h C S) (hL : L.Nodup) (hdv : r dv = some (.inr (0, [.ref qo, .ref rs, .ref sc]))) (hqo : qo ∈ L) (hrs : rs ∈ L) (hsc : sc ∈ L) (n1 : rs ≠ qo) (n2 : sc ≠ qo) (n3 : sc ≠ rs) (hpa : pa ∈ L) (hpb : pb ∈ L) (a1 : pa ≠ qo) (a2 : pa ≠ rs) (a3 : pa ≠ sc) (b1 : pb ≠ qo) (b2 : pb ≠ rs) (b3 : pb ≠ sc) (ht : tys[0]? = some (cJ, .long)) (hsa : nd 4294967296 (V pa) ≤ 4099) (hsb : nd 4294967296 (V pb) ≤ 4099) : vx_M l D vcl tys my_D_run lw_gd (rm_ 4 C S 106) [.ref dv, .ref pa, .ref pb] h (dvEnd cJ L r V qo rs sc (V pa / V pb) (V pa % V pb) C S) := by
  refine vx_M.ofV (cc := bc_D_run) (maxL := 7) (ret := none) (own := rD) false rfl (by decide +kernel) wC_D_run (fun q => by cases q) (Nat.le_of_ble_eq_true rfl) (fun A H0 G IG RG => ?_)
  show vx_V _ _ _ _ _ _ _ _ _ 0 [(0, .ref dv), (1, .ref pa), (2, .ref pb)] []
  have HP0 := HP
  obtain ⟨ar, cp, cn, fn, HR, hV, hC, hS⟩ := HP
  -- quotient 0, rest a
  have small : V pa < V pb ∨ V pb = 0 → vx_V D vcl A H0 7 G h 0 0 15 [(0, .ref dv), (1, .ref pa), (2, .ref pb)] [] := by
    intro hz
    refine vx_aload_n IG dc_D_run_15 rfl 0 rfl ?_
    refine vx_get IG (rw_r HR hdv) rfl 0 (by decide) inD wF_D_12 rfl rfl dc_D_run_16 ?_
    refine vx_callV (As := []) (st := []) IG lw_good (cW_clear HR hqo) (rw_obj HR hqo) rfl wC_W_clear wL_D_32 wI_W_clear wS_W_clear wX_W 0 (by decide +kernel) rfl ⟨Nat.le_of_ble_eq_true rfl, Nat.le_of_ble_eq_true rfl⟩ ⟨(by dsimp only [rm_]; omega), (by dsimp only [rm_]; omega)⟩ rfl (Nat.le_of_ble_eq_true rfl) dc_D_run_19 (fun v h k1 n1 hq => ?_)
    obtain ⟨rfl, rfl, rfl, HR⟩ := hq
    have HP1 : pool cJ L r (va_up V qo 0) h C S := by
      refine ⟨ar, cp, va_up cn qo 0, fn, HR, fun q hq => ?_, hC, hS⟩
      by_cases z : q = qo
      · subst z
        rw [va_up_self]
        exact ⟨va_up_self _ _ _, Nat.zero_le _, fun i hi => absurd hi (Nat.not_lt_zero i)⟩
      · rw [va_up_ne _ _ z]
        exact wv_same (hV q hq) rfl (va_up_ne _ _ z) rfl
    show vx_V _ _ _ _ _ _ _ _ _ 22 [(0, .ref dv), (1, .ref pa), (2, .ref pb)] []
    refine vx_aload_n IG dc_D_run_22 rfl 0 rfl ?_
    refine vx_get IG (rw_r HR hdv) rfl 1 (by decide) inD wF_D_18 rfl rfl dc_D_run_23 ?_
    refine vx_aload_n IG dc_D_run_26 rfl 1 rfl ?_
    refine vx_callV (As := [.ref pa]) (st := []) IG lw_good (cW_copy HP1 hL hrs hpa ht (by rw [va_up_ne _ _ a1]; omega)) (rw_obj HR hrs) rfl wC_W_copy wL_D_35 wI_W_copy wS_W_copy wX_W 1 (by decide +kernel) rfl ⟨Nat.le_of_ble_eq_true rfl, Nat.le_of_ble_eq_true rfl⟩ ⟨(by dsimp only [rm_]; omega), (by dsimp only [rm_]; omega)⟩ rfl (Nat.le_of_ble_eq_true rfl) dc_D_run_27 (fun v h k2 n2 hq => ?_)
    obtain ⟨rfl, C', S', HP2, hk, hm⟩ := hq
    show vx_V _ _ _ _ _ _ _ _ _ 30 [(0, .ref dv), (1, .ref pa), (2, .ref pb)] []
    refine vx_ret none RG (vx_endv dc_D_run_30) rfl ?_
    refine ⟨rfl, _, C', S', HP2, ?_, ?_, fun q z1 z2 z3 => ?_, by omega, by omega⟩
    · rw [va_up_ne _ _ (Ne.symm n1), va_up_self]
      rcases hz with z | z
      · exact (Nat.div_eq_of_lt z).symm
      · rw [z, Nat.div_zero]
    · rw [va_up_self, va_up_ne _ _ a1]
      rcases hz with z | z
      · exact (Nat.mod_eq_of_lt z).symm
      · rw [z, Nat.mod_zero]
    · rw [va_up_ne _ _ z2, va_up_ne _ _ z1]
  refine vx_aload_n IG dc_D_run_0 rfl 2 rfl ?_
  refine vx_callV (As := []) (st := []) IG lw_good (cW_isZeroP HP0 hpb) (rw_obj HR hpb) rfl wC_W_isZero wL_D_24 wI_W_isZero wS_W_isZero wX_W 0 (by decide +kernel) rfl ⟨Nat.le_of_ble_eq_true rfl, Nat.le_of_ble_eq_true rfl⟩ ⟨(by dsimp only [rm_]; omega), (by dsimp only [rm_]; omega)⟩ rfl (Nat.le_of_ble_eq_true rfl) dc_D_run_1 (fun v h k3 n3 hq => ?_)
  obtain ⟨rfl, rfl, rfl, rfl⟩ := hq
  show vx_V _ _ _ _ _ _ _ _ _ 4 [(0, .ref dv), (1, .ref pa), (2, .ref pb)] [.int (if V pb = 0 then 1 else 0)]
  by_cases z0 : V pb = 0
  · refine vx_topi (y := 1) (if_pos z0) ?_
    refine vx_if_ne (tgt := 15) IG dc_D_run_4 (by decide) (fun _ => ?_) (fun c_ => absurd c_ (by decide))
    exact small (Or.inr z0)
  · refine vx_topi (y := 0) (if_neg z0) ?_
    refine vx_if_ne (tgt := 15) IG dc_D_run_4 (by decide) (fun c_ => absurd rfl c_) (fun _ => ?_)
    refine vx_aload_n IG dc_D_run_7 rfl 1 rfl ?_
    refine vx_aload_n IG dc_D_run_8 rfl 2 rfl ?_
    refine vx_callV (As := [.ref pb]) (st := []) IG lw_good (cW_against HP0 hpa hpb ht) (rw_obj HR hpa) rfl wC_W_against wL_D_28 wI_W_against wS_W_against wX_W 1 (by decide +kernel) rfl ⟨Nat.le_of_ble_eq_true rfl, Nat.le_of_ble_eq_true rfl⟩ ⟨(by dsimp only [rm_]; omega), (by dsimp only [rm_]; omega)⟩ rfl (Nat.le_of_ble_eq_true rfl) dc_D_run_9 (fun v h k4 n4 hq => ?_)
    obtain ⟨rfl, rfl, rfl, rfl⟩ := hq
    show vx_V _ _ _ _ _ _ _ _ _ 12 [(0, .ref dv), (1, .ref pa), (2, .ref pb)] [.int (cmpI (V pa) (V pb))]
    by_cases z1 : V pa < V pb
    · refine vx_if_ge (tgt := 31) IG dc_D_run_12 (by decide) (fun c_ => absurd c_ (fun q => absurd ((cmpI_ge _ _).mp q) (Nat.not_le.mpr z1))) (fun _ => ?_)
      exact small (Or.inl z1)
    · refine vx_if_ge (tgt := 31) IG dc_D_run_12 (by decide) (fun _ => ?_) (fun c_ => absurd ((cmpI_ge _ _).mpr (Nat.le_of_not_lt z1)) c_)
      have hva := hV pa hpa
      have hvb := hV pb hpb
      obtain ⟨sf1, sf2, sf3, sf4⟩ := scale_facts (B := V pb) (Nat.pos_of_ne_zero z0)
      have hnab : nd 4294967296 (V pb) ≤ nd 4294967296 (V pa) := nd_mono bB1 (Nat.le_of_not_lt z1)
      refine vx_aload_n IG dc_D_run_31 rfl 2 rfl ?_
      refine wr_cnt IG HR hpb wF_D_39 dc_D_run_32 ?_
      refine vx_topi (y := nI (nd 4294967296 (V pb))) hvb.1 ?_
      refine vx_istore_n (lv' := [(3, .int (nI (nd 4294967296 (V pb)))), (0, .ref dv), (1, .ref pa), (2, .ref pb)]) IG dc_D_run_35 rfl (by decide) rfl ?_
      refine vx_aload_n IG dc_D_run_36 rfl 2 rfl ?_
      refine wr_cnt IG HR hpa wF_D_39 dc_D_run_37 ?_
      refine vx_topi (y := nI (nd 4294967296 (V pa))) hva.1 ?_
      refine vx_iload_n IG dc_D_run_40 rfl 0 rfl ?_
      refine vx_isub IG dc_D_run_41 ?_
      refine vx_topi (y := nI (nd 4294967296 (V pa) - nd 4294967296 (V pb))) (pk_sub hnab) ?_
      refine vx_iconst (v := 1) IG dc_D_run_42 (by decide) ?_
      refine vx_iadd IG dc_D_run_43 ?_
      refine vx_topi (y := nI (nd 4294967296 (V pa) - nd 4294967296 (V pb) + 1)) (nI_1 _) ?_
      refine vx_istore (lv' := [(4, .int (nI (nd 4294967296 (V pa) - nd 4294967296 (V pb) + 1))), (3, .int (nI (nd 4294967296 (V pb)))), (0, .ref dv), (1, .ref pa), (2, .ref pb)]) IG dc_D_run_44 (by decide) rfl ?_
      refine vx_bipush (v := 32) IG dc_D_run_46 (by decide) ?_
      refine vx_iload_n IG dc_D_run_48 rfl 1 rfl ?_
      refine vx_imul IG dc_D_run_49 ?_
      refine vx_topi (y := nI (32 * nd 4294967296 (V pb))) (pk_mul 32 _) ?_
      refine vx_aload_n IG dc_D_run_50 rfl 4 rfl ?_
      refine vx_callV (As := []) (st := [.int (nI (32 * nd 4294967296 (V pb)))]) IG lw_good (cW_bits HP0 hpb ht) (rw_obj HR hpb) rfl wC_W_bits wL_D_43 wI_W_bits wS_W_bits wX_W 0 (by decide +kernel) rfl ⟨Nat.le_of_ble_eq_true rfl, Nat.le_of_ble_eq_true rfl⟩ ⟨(by dsimp only [rm_]; omega), (by dsimp only [rm_]; omega)⟩ rfl (Nat.le_of_ble_eq_true rfl) dc_D_run_51 (fun v h k5 n5 hq => ?_)
      obtain ⟨rfl, rfl, rfl, rfl⟩ := hq
      show vx_V _ _ _ _ _ _ _ _ _ 54 [(4, .int (nI (nd 4294967296 (V pa) - nd 4294967296 (V pb) + 1))), (3, .int (nI (nd 4294967296 (V pb)))), (0, .ref dv), (1, .ref pa), (2, .ref pb)] [.int (nI (bl (V pb))), .int (nI (32 * nd 4294967296 (V pb)))]
      refine vx_isub IG dc_D_run_54 ?_
      refine vx_topi (y := nI (32 * nd 4294967296 (V pb) - bl (V pb))) (pk_sub sf1) ?_
      refine vx_istore (lv' := [(5, .int (nI (32 * nd 4294967296 (V pb) - bl (V pb)))), (4, .int (nI (nd 4294967296 (V pa) - nd 4294967296 (V pb) + 1))), (3, .int (nI (nd 4294967296 (V pb)))), (0, .ref dv), (1, .ref pa), (2, .ref pb)]) IG dc_D_run_55 (by decide) rfl ?_
      refine vx_aload_n IG dc_D_run_57 rfl 3 rfl ?_
      refine vx_get IG (rw_r HR hdv) rfl 2 (by decide) inD wF_D_21 rfl rfl dc_D_run_58 ?_
      refine vx_aload_n IG dc_D_run_61 rfl 5 rfl ?_
      refine vx_iload IG dc_D_run_62 0 rfl ?_
      refine vx_callV (As := [.ref pb, .int (nI (32 * nd 4294967296 (V pb) - bl (V pb)))]) (st := []) IG lw_good (cW_raise HP0 hL hsc hpb ht (by omega) (by omega)) (rw_obj HR hsc) rfl wC_W_raise wL_D_47 wI_W_raise wS_W_raise wX_W 2 (by decide +kernel) rfl ⟨Nat.le_of_ble_eq_true rfl, Nat.le_of_ble_eq_true rfl⟩ ⟨(by dsimp only [rm_]; omega), (by dsimp only [rm_]; omega)⟩ rfl (Nat.le_of_ble_eq_true rfl) dc_D_run_64 (fun v h k6 n6 hq => ?_)
      obtain ⟨rfl, C1, S1, HP1, hk1, hm1⟩ := hq
      have HP1c := HP1
      obtain ⟨ar1, cp1, cn1, fn1, HR1, hV1, hC1, hS1⟩ := HP1
      show vx_V _ _ _ _ _ _ _ _ _ 67 [(5, .int (nI (32 * nd 4294967296 (V pb) - bl (V pb)))), (4, .int (nI (nd 4294967296 (V pa) - nd 4294967296 (V pb) + 1))), (3, .int (nI (nd 4294967296 (V pb)))), (0, .ref dv), (1, .ref pa), (2, .ref pb)] []
      refine vx_aload_n IG dc_D_run_67 rfl 3 rfl ?_
      refine vx_get IG (rw_r HR1 hdv) rfl 1 (by decide) inD wF_D_18 rfl rfl dc_D_run_68 ?_
      refine vx_aload_n IG dc_D_run_71 rfl 4 rfl ?_
      refine vx_iload IG dc_D_run_72 0 rfl ?_
      refine vx_callV (As := [.ref pa, .int (nI (32 * nd 4294967296 (V pb) - bl (V pb)))]) (st := []) IG lw_good (cW_raise HP1c hL hrs hpa ht (by omega) (by rw [va_up_ne _ _ a3]; omega)) (rw_obj HR1 hrs) rfl wC_W_raise wL_D_47 wI_W_raise wS_W_raise wX_W 2 (by decide +kernel) rfl ⟨Nat.le_of_ble_eq_true rfl, Nat.le_of_ble_eq_true rfl⟩ ⟨(by dsimp only [rm_]; omega), (by dsimp only [rm_]; omega)⟩ rfl (Nat.le_of_ble_eq_true rfl) dc_D_run_74 (fun v h k7 n7 hq => ?_)
      obtain ⟨rfl, C2, S2, HP2, hk2, hm2⟩ := hq
      obtain ⟨ar2, cp2, cn2, fn2, HR2, hV2, hC2, hS2⟩ := HP2
      rw [va_up_ne _ _ a3] at hV2
      generalize esc : 32 * nd 4294967296 (V pb) - bl (V pb) = sl at *
      have vsc : wv cp2 cn2 fn2 sc (V pb * 2 ^ sl) := by have := hV2 sc hsc; rw [va_up_ne _ _ n3, va_up_self] at this; exact this
      have vrs : wv cp2 cn2 fn2 rs (V pa * 2 ^ sl) := by have := hV2 rs hrs; rw [va_up_self] at this; exact this
      have vpa : wv cp2 cn2 fn2 pa (V pa) := by have := hV2 pa hpa; rw [va_up_ne _ _ a2, va_up_ne _ _ a3] at this; exact this
      show vx_V _ _ _ _ _ _ _ _ _ 77 [(5, .int (nI sl)), (4, .int (nI (nd 4294967296 (V pa) - nd 4294967296 (V pb) + 1))), (3, .int (nI (nd 4294967296 (V pb)))), (0, .ref dv), (1, .ref pa), (2, .ref pb)] []
      refine vx_aload_n IG dc_D_run_77 rfl 3 rfl ?_
      refine vx_get IG (rw_r HR2 hdv) rfl 1 (by decide) inD wF_D_18 rfl rfl dc_D_run_78 ?_
      refine vx_aload_n IG dc_D_run_81 rfl 4 rfl ?_
      refine wr_cnt IG HR2 hpa wF_D_39 dc_D_run_82 ?_
      refine vx_topi (y := nI (nd 4294967296 (V pa))) vpa.1 ?_
      refine vx_iconst (v := 1) IG dc_D_run_85 (by decide) ?_
      refine vx_iadd IG dc_D_run_86 ?_
      refine vx_topi (y := nI (nd 4294967296 (V pa) + 1)) (nI_1 _) ?_
      have hsl0 : sl / 32 = 0 := by omega
      have hndA2 : nd 4294967296 (V pa * 2 ^ sl) ≤ nd 4294967296 (V pa) + 1 := by have := nd_raise (A := V pa) (n := sl); omega
      refine vx_callV (As := [.int (nI (nd 4294967296 (V pa) + 1))]) (st := []) IG lw_good (cW_widen HR2 hL hrs ht (n := nd 4294967296 (V pa) + 1) vrs.1 vrs.2.1 (by omega) hC2 hS2) (rw_obj HR2 hrs) rfl wC_W_widen wL_D_51 wI_W_widen wS_W_widen wX_W 1 (by decide +kernel) rfl ⟨Nat.le_of_ble_eq_true rfl, Nat.le_of_ble_eq_true rfl⟩ ⟨(by dsimp only [rm_]; omega), (by dsimp only [rm_]; omega)⟩ rfl (Nat.le_of_ble_eq_true rfl) dc_D_run_87 (fun v h k8 n8 hq => ?_)
      obtain ⟨rfl, ar3, cp3, fn3, HR3, ho3, hn3, hge3, hlow3, hzero3, hk3, hm3⟩ := hq
      have vsc3 : wv cp3 cn2 fn3 sc (V pb * 2 ^ sl) := wv_same vsc (ho3 sc n3).1 rfl (ho3 sc n3).2
      have drs3 : ∀ i, i < nd 4294967296 (V pa) + 1 → dg 4294967296 (V pa * 2 ^ sl) i < 4294967296 ∧ fn3 rs i = lN (dg 4294967296 (V pa * 2 ^ sl) i) := by
        intro i hi
        refine ⟨dg_lt bB1 _ _, ?_⟩
        by_cases z : i < nd 4294967296 (V pa * 2 ^ sl)
        · rw [hlow3 i z]; exact vrs.2.2 i z
        · rw [hzero3 i (Nat.le_of_not_lt z) hi, dg_big (Nat.lt_of_lt_of_le (lt_nd bB1 _) (Nat.pow_le_pow_right (by decide) (Nat.le_of_not_lt z)))]; rfl
      show vx_V _ _ _ _ _ _ _ _ _ 90 [(5, .int (nI sl)), (4, .int (nI (nd 4294967296 (V pa) - nd 4294967296 (V pb) + 1))), (3, .int (nI (nd 4294967296 (V pb)))), (0, .ref dv), (1, .ref pa), (2, .ref pb)] []
      refine vx_aload_n IG dc_D_run_90 rfl 3 rfl ?_
      refine vx_get IG (rw_r HR3 hdv) rfl 0 (by decide) inD wF_D_12 rfl rfl dc_D_run_91 ?_
      refine vx_iload IG dc_D_run_94 1 rfl ?_
      refine vx_callV (As := [.int (nI (nd 4294967296 (V pa) - nd 4294967296 (V pb) + 1))]) (st := []) IG lw_good (cW_room HR3 hL hqo ht (n := nd 4294967296 (V pa) - nd 4294967296 (V pb) + 1) (by omega) (Nat.le_refl _) (Nat.le_refl _)) (rw_obj HR3 hqo) rfl wC_W_room wL_D_55 wI_W_room wS_W_room wX_W 1 (by decide +kernel) rfl ⟨Nat.le_of_ble_eq_true rfl, Nat.le_of_ble_eq_true rfl⟩ ⟨(by dsimp only [rm_]; omega), (by dsimp only [rm_]; omega)⟩ rfl (Nat.le_of_ble_eq_true rfl) dc_D_run_96 (fun v h k9 n9 hq => ?_)
      obtain ⟨rfl, ar4, cp4, fn4, HR4, ho4, hn4, hge4, hsame4, hk4, hm4⟩ := hq
      have hcq := rw_cap HR4 hqo
      have hcr := rw_cap HR4 hrs
      have htr : nd 4294967296 (V pa) + 1 ≤ cp4 rs := by rw [(ho4 rs n1).1]; exact hn3
      have vsc4 : wv cp4 cn2 fn4 sc (V pb * 2 ^ sl) := wv_same vsc3 (ho4 sc n2).1 rfl (ho4 sc n2).2
      have hnB : 0 < nd 4294967296 (V pb) := by
        rcases Nat.eq_zero_or_pos (nd 4294967296 (V pb)) with q | q
        · exact absurd ((nd_eq_zero bB1).mp q) z0
        · exact q
      obtain ⟨m, em⟩ : ∃ m, nd 4294967296 (V pb) = m + 1 := ⟨nd 4294967296 (V pb) - 1, by omega⟩
      obtain ⟨pl, epl⟩ : ∃ pl, nd 4294967296 (V pa) = pl + m + 1 := ⟨nd 4294967296 (V pa) - (m + 1), by omega⟩
      have hSs : ∀ i, i < m + 1 → dg 4294967296 (V pb * 2 ^ sl) i < 4294967296 ∧ fn4 sc i = lN (dg 4294967296 (V pb * 2 ^ sl) i) := fun i hi => ⟨dg_lt bB1 _ _, vsc4.2.2 i (by rw [sf3]; omega)⟩
      have hScap : m + 1 ≤ cp4 sc := by have := vsc4.2.1; rw [sf3] at this; omega
      have hSv : vl 4294967296 (dg 4294967296 (V pb * 2 ^ sl)) (m + 1) = V pb * 2 ^ sl := vl_nd_le bB1 (by rw [sf3]; omega)
      have hShi : 2147483648 ≤ dg 4294967296 (V pb * 2 ^ sl) m := by rw [em, Nat.add_sub_cancel] at sf4; exact sf4
      have hSlt : V pb * 2 ^ sl < 4294967296 ^ (m + 1) := by rw [← em, ← sf3]; exact lt_nd bB1 _
      have hSpos : 0 < V pb * 2 ^ sl := Nat.mul_pos (Nat.pos_of_ne_zero z0) (Nat.pow_pos (by decide))
      have hstart : V pa * 2 ^ sl < V pb * 2 ^ sl * 4294967296 ^ (pl + 1) := by
        have q1 : 4294967296 ^ m ≤ V pb := (nd_lt bB1).mp (by omega)
        have q2 : V pa < 4294967296 ^ (m + (pl + 1)) := by rw [show m + (pl + 1) = nd 4294967296 (V pa) by omega]; exact lt_nd bB1 _
        rw [Nat.mul_right_comm]
        refine Nat.mul_lt_mul_of_pos_right (Nat.lt_of_lt_of_le q2 ?_) (Nat.pow_pos (by decide))
        rw [Nat.pow_add]
        exact Nat.mul_le_mul_right _ q1
      have epl1 : nd 4294967296 (V pa) - nd 4294967296 (V pb) + 1 = pl + 1 := by omega
      rw [epl1, em]
      show vx_V _ _ _ _ _ _ _ _ _ 99 [(5, .int (nI sl)), (4, .int (nI (pl + 1))), (3, .int (nI (m + 1))), (0, .ref dv), (1, .ref pa), (2, .ref pb)] []
      have loop : ∀ (i : Nat), i ≤ pl + 1 → ∀ (h : vx_h) (fn5 : Nat → Nat → Int64) (d qd : Nat → Nat), (∀ q, q ≠ rs → q ≠ qo → fn5 q = fn4 q) → (∀ j, j < pl + m + 2 → d j < 4294967296 ∧ fn5 rs j = lN (d j)) → (∀ j, i ≤ j → j < pl + 1 → qd j < 4294967296 ∧ fn5 qo j = lN (qd j)) → vl 4294967296 (fun j => if j < i then 0 else qd j) (pl + 1) * (V pb * 2 ^ sl) + vl 4294967296 d (pl + m + 2) = V pa * 2 ^ sl → vl 4294967296 d (pl + m + 2) < V pb * 2 ^ sl * 4294967296 ^ i → rw_at 2 cJ L r ar4 cp4 cn2 fn5 h → vx_V D vcl A H0 7 G h (0 + 0 + 0 + 0 + k6 + k7 + k8 + k9) (0 + 0 + 0 + 0 + n6 + n7 + n8 + n9) 105 [(6, .int (nI i - 1)), (5, .int (nI sl)), (4, .int (nI (pl + 1))), (3, .int (nI (m + 1))), (0, .ref dv), (1, .ref pa), (2, .ref pb)] [] := by
        intro i
        induction i with
        | zero =>
          intro hi h fn5 d qd f1 f2 f3 f4 f5 HR5
          rw [Nat.pow_zero, Nat.mul_one] at f5
          have eq0 : vl 4294967296 (fun j => if j < 0 then 0 else qd j) (pl + 1) = vl 4294967296 qd (pl + 1) := vl_congr (fun j _ => by show (if j < 0 then 0 else qd j) = qd j; rw [if_neg (Nat.not_lt_zero j)])
          rw [eq0] at f4
          have hRd : vl 4294967296 d (m + 1) = vl 4294967296 d (pl + m + 2) := by
            have := vl_hi0 (d := d) (k := 0) (n := m + 1) (t := pl + 1) (fun i hi => (f2 i (by omega)).1) (by rw [show 0 + (m + 1) + (pl + 1) = pl + m + 2 by omega, Nat.zero_add]; omega)
            rw [show 0 + (m + 1) + (pl + 1) = pl + m + 2 by omega] at this
            rw [this]
            simp [vl, Nat.zero_add]
          have hQ : vl 4294967296 qd (pl + 1) = V pa / V pb := by
            have q1 : V pa * 2 ^ sl / (V pb * 2 ^ sl) = V pa / V pb := Nat.mul_div_mul_right _ _ (Nat.pow_pos (by decide))
            rw [← q1, ← f4, Nat.mul_comm, Nat.mul_add_div hSpos, Nat.div_eq_of_lt f5]
            exact (Nat.add_zero _).symm
          have hR : vl 4294967296 d (m + 1) / 2 ^ sl = V pa % V pb := by
            have q1 : V pa * 2 ^ sl % (V pb * 2 ^ sl) = V pa % V pb * 2 ^ sl := Nat.mul_mod_mul_right _ _ _
            rw [← f4, Nat.mul_comm _ (V pb * 2 ^ sl), Nat.mul_add_mod, Nat.mod_eq_of_lt f5] at q1
            rw [hRd, q1, Nat.mul_div_cancel _ (Nat.pow_pos (by decide))]
          refine vx_iload IG dc_D_run_105 0 rfl ?_
          refine vx_if_lt (tgt := 133) IG dc_D_run_107 (by decide) (fun _ => ?_) (fun c_ => absurd (by decide) c_)
          refine vx_aload_n IG dc_D_run_133 rfl 4 rfl ?_
          refine vx_get IG (rw_r HR5 hdv) rfl 0 (by decide) inD wF_D_12 rfl rfl dc_D_run_134 ?_
          refine vx_iload IG dc_D_run_137 2 rfl ?_
          have hqd : ∀ j, j < pl + 1 → qd j < 4294967296 ∧ fn5 qo j = lN (qd j) := fun j hj => f3 j (Nat.zero_le j) hj
          have hrd : ∀ j, j < m + 1 → d j < 4294967296 ∧ fn5 rs j = lN (d j) := fun j hj => f2 j (by omega)
          refine vx_callV (As := [.int (nI (pl + 1))]) (st := []) IG lw_good (cW_trim HR5 hqo ht (n := pl + 1) (by omega) qd hqd) (rw_obj HR5 hqo) rfl wC_W_trim wL_D_66 wI_W_trim wS_W_trim wX_W 1 (by decide +kernel) rfl ⟨Nat.le_of_ble_eq_true rfl, Nat.le_of_ble_eq_true rfl⟩ ⟨(by dsimp only [rm_]; omega), (by dsimp only [rm_]; omega)⟩ rfl (Nat.le_of_ble_eq_true rfl) dc_D_run_139 (fun v h k10 n10 hq => ?_)
          obtain ⟨rfl, rfl, rfl, HR6⟩ := hq
          show vx_V _ _ _ _ _ _ _ _ _ 142 [(6, .int (nI 0 - 1)), (5, .int (nI sl)), (4, .int (nI (pl + 1))), (3, .int (nI (m + 1))), (0, .ref dv), (1, .ref pa), (2, .ref pb)] []
          refine vx_aload_n IG dc_D_run_142 rfl 4 rfl ?_
          refine vx_get IG (rw_r HR6 hdv) rfl 1 (by decide) inD wF_D_18 rfl rfl dc_D_run_143 ?_
          refine vx_iload_n IG dc_D_run_146 rfl 3 rfl ?_
          refine vx_callV (As := [.int (nI (m + 1))]) (st := []) IG lw_good (cW_trim HR6 hrs ht (n := m + 1) (by omega) d hrd) (rw_obj HR6 hrs) rfl wC_W_trim wL_D_66 wI_W_trim wS_W_trim wX_W 1 (by decide +kernel) rfl ⟨Nat.le_of_ble_eq_true rfl, Nat.le_of_ble_eq_true rfl⟩ ⟨(by dsimp only [rm_]; omega), (by dsimp only [rm_]; omega)⟩ rfl (Nat.le_of_ble_eq_true rfl) dc_D_run_147 (fun v h k11 n11 hq => ?_)
          obtain ⟨rfl, rfl, rfl, HR7⟩ := hq
          have HP7 : pool cJ L r (va_up (va_up (va_up V sc (V pb * 2 ^ sl)) qo (V pa / V pb)) rs (vl 4294967296 d (m + 1))) h (pc_ cp4 L) (ph cp4 L) := by
            refine ⟨ar4, cp4, _, fn5, HR7, fun q hq => ?_, Nat.le_refl _, Nat.le_refl _⟩
            by_cases z2 : q = rs
            · subst z2
              rw [va_up_self]
              exact wv_trim hrd (by omega) (va_up_self _ _ _)
            · rw [va_up_ne _ _ z2]
              by_cases z3 : q = qo
              · subst z3
                rw [va_up_self, ← hQ]
                have := wv_trim (cp := cp4) (fn := fn5) (p := q) (cn' := va_up cn2 q (nI (nd 4294967296 (vl 4294967296 qd (pl + 1))))) hqd (by omega) (va_up_self _ _ _)
                exact wv_same this rfl (va_up_ne _ _ z2) rfl
              · rw [va_up_ne _ _ z3]
                have hv2 := hV2 q hq
                rw [va_up_ne _ _ z2] at hv2
                refine wv_same hv2 ?_ ?_ ?_
                · rw [(ho4 q z3).1, (ho3 q z2).1]
                · rw [va_up_ne _ _ z2, va_up_ne _ _ z3]
                · rw [f1 q z2 z3, (ho4 q z3).2, (ho3 q z2).2]
          show vx_V _ _ _ _ _ _ _ _ _ 150 [(6, .int (nI 0 - 1)), (5, .int (nI sl)), (4, .int (nI (pl + 1))), (3, .int (nI (m + 1))), (0, .ref dv), (1, .ref pa), (2, .ref pb)] []
          refine vx_aload_n IG dc_D_run_150 rfl 4 rfl ?_
          refine vx_get IG (rw_r HR7 hdv) rfl 1 (by decide) inD wF_D_18 rfl rfl dc_D_run_151 ?_
          refine vx_aload_n IG dc_D_run_154 rfl 4 rfl ?_
          refine vx_get IG (rw_r HR7 hdv) rfl 1 (by decide) inD wF_D_18 rfl rfl dc_D_run_155 ?_
          refine vx_iload IG dc_D_run_158 1 rfl ?_
          have hrs4 : nd 4294967296 (vl 4294967296 d (m + 1)) ≤ 4100 := Nat.le_trans ((nd_le bB1).mpr (vl_lt bB1 (fun j hj => (hrd j hj).1))) (by omega)
          refine vx_callV (As := [.ref rs, .int (nI sl)]) (st := []) IG lw_good (cW_lower HP7 hL hrs hrs ht (n := sl) (by omega) (by rw [va_up_self]; exact hrs4)) (rw_obj HR7 hrs) rfl wC_W_lower wL_D_69 wI_W_lower wS_W_lower wX_W 2 (by decide +kernel) rfl ⟨Nat.le_of_ble_eq_true rfl, Nat.le_of_ble_eq_true rfl⟩ ⟨(by dsimp only [rm_]; omega), (by dsimp only [rm_]; omega)⟩ rfl (Nat.le_of_ble_eq_true rfl) dc_D_run_160 (fun v h k12 n12 hq => ?_)
          obtain ⟨rfl, C8, S8, HP8, hk8, hm8⟩ := hq
          show vx_V _ _ _ _ _ _ _ _ _ 163 [(6, .int (nI 0 - 1)), (5, .int (nI sl)), (4, .int (nI (pl + 1))), (3, .int (nI (m + 1))), (0, .ref dv), (1, .ref pa), (2, .ref pb)] []
          refine vx_ret none RG (vx_endv dc_D_run_163) rfl ?_
          refine ⟨rfl, _, C8, S8, HP8, ?_, ?_, fun q y1 y2 y3 => ?_, by omega, by omega⟩
          · rw [va_up_ne _ _ (Ne.symm n1), va_up_ne _ _ (Ne.symm n1), va_up_self]
          · rw [va_up_self, va_up_self, hR]
          · rw [va_up_ne _ _ y2, va_up_ne _ _ y2, va_up_ne _ _ y1, va_up_ne _ _ y3]
        | succ i ih =>
          intro hi h fn5 d qd f1 f2 f3 f4 f5 HR5
          have hwin : vl 4294967296 d (pl + m + 2) < 4294967296 ^ (i + (m + 2)) := by
            have : V pb * 2 ^ sl * 4294967296 ^ (i + 1) ≤ 4294967296 ^ (m + 1) * 4294967296 ^ (i + 1) := Nat.mul_le_mul_right _ (Nat.le_of_lt hSlt)
            rw [← Nat.pow_add, show m + 1 + (i + 1) = i + (m + 2) by omega] at this
            omega
          obtain ⟨t, et⟩ : ∃ t, pl + m + 2 = i + (m + 2) + t := ⟨pl - i, by omega⟩
          rw [et] at hwin f4 f5
          have hRe := vl_hi0 (d := d) (k := i) (n := m + 2) (t := t) (fun j hj => (f2 j (by omega)).1) hwin
          have hW : vl 4294967296 (fun j => d (i + j)) (m + 2) < V pb * 2 ^ sl * 4294967296 := by
            refine Nat.lt_of_mul_lt_mul_right (a := 4294967296 ^ i) ?_
            rw [Nat.mul_assoc, Nat.mul_comm 4294967296, ← bp_succ]
            omega
          rw [nI_pred]
          refine vx_iload IG dc_D_run_105 0 rfl ?_
          refine vx_if_lt (tgt := 133) IG dc_D_run_107 (by decide) (fun c_ => absurd c_ (nI_pos (by omega))) (fun _ => ?_)
          refine vx_aload_n IG dc_D_run_110 rfl 4 rfl ?_
          refine vx_get IG (rw_r HR5 hdv) rfl 0 (by decide) inD wF_D_12 rfl rfl dc_D_run_111 ?_
          refine wr_dig IG HR5 hqo wF_D_58 dc_D_run_114 ?_
          refine vx_iload IG dc_D_run_117 0 rfl ?_
          refine vx_aload_n IG dc_D_run_119 rfl 4 rfl ?_
          refine vx_iload IG dc_D_run_120 0 rfl ?_
          refine vx_iload_n IG dc_D_run_122 rfl 3 rfl ?_
          refine vx_callV (As := [.int (nI i), .int (nI (m + 1))]) (st := [.int (nI i), .ref (ar4 qo)]) IG lw_good (cD_takeOut HR5 hdv hrs hsc n3 ht (place := i) (m := m) (tot := pl + m + 2) d f2 (by omega) (by omega) (dg 4294967296 (V pb * 2 ^ sl)) (fun j hj => ⟨(hSs j hj).1, by rw [f1 sc n3 n2]; exact (hSs j hj).2⟩) hScap hShi (by rw [hSv]; exact hW)) (rw_r HR5 hdv) rfl wC_D_takeOut wL_D_62 wI_D_takeOut wS_D_takeOut wX_D 2 (by decide +kernel) rfl ⟨Nat.le_of_ble_eq_true rfl, Nat.le_of_ble_eq_true rfl⟩ ⟨(by dsimp only [rm_]; omega), (by dsimp only [rm_]; omega)⟩ rfl (Nat.le_of_ble_eq_true rfl) dc_D_run_123 (fun v h k13 n13 hq => ?_)
          obtain ⟨rfl, rfl, rfl, fn6, e, HR6, g1, g2, g3, g4⟩ := hq
          rw [hSv] at g4
          rw [hSv]
          show vx_V _ _ _ _ _ _ _ _ _ 126 [(6, .int (nI i)), (5, .int (nI sl)), (4, .int (nI (pl + 1))), (3, .int (nI (m + 1))), (0, .ref dv), (1, .ref pa), (2, .ref pb)] [.long (lN (vl 4294967296 (fun j => d (i + j)) (m + 2) / (V pb * 2 ^ sl))), .int (nI i), .ref (ar4 qo)]
          refine wr_ast IG HR6 hqo ht i rfl (by omega) dc_D_run_126 (fun h HR6 => ?_)
          obtain ⟨fn7, e_fn7⟩ : ∃ z, z = va_up fn6 qo (vp_updL (fn6 qo) i (lN (vl 4294967296 (fun j => d (i + j)) (m + 2) / (V pb * 2 ^ sl)))) := ⟨_, rfl⟩
          rw [← e_fn7] at HR6
          refine vx_iinc (q := 0) (v := nI i - 1) (lv' := [(6, .int (nI i - 1)), (5, .int (nI sl)), (4, .int (nI (pl + 1))), (3, .int (nI (m + 1))), (0, .ref dv), (1, .ref pa), (2, .ref pb)]) IG dc_D_run_127 rfl (i32_dec _) (by decide) rfl ?_
          refine vx_goto (tgt := 105) IG dc_D_run_130 (by decide) ?_
          have hRn := vl_win (d := d) (e := e) (k := i) (n := m + 2) (t := t) hwin (fun j hj => g3 j (Or.inl hj)) (fun j hj => g3 j (Or.inr hj))
          rw [g4] at hRn
          have hdlt : vl 4294967296 d i < 4294967296 ^ i := vl_lt bB1 (fun j hj => (f2 j (by omega)).1)
          have hqlt : vl 4294967296 (fun j => d (i + j)) (m + 2) / (V pb * 2 ^ sl) < 4294967296 := by rw [Nat.div_lt_iff_lt_mul hSpos, Nat.mul_comm]; exact hW
          refine ih (by omega) h fn7 e (fun j => if j = i then vl 4294967296 (fun j => d (i + j)) (m + 2) / (V pb * 2 ^ sl) else qd j) (fun q y1 y2 => ?_) (fun j hj => ?_) (fun j h1 h2 => ?_) ?_ ?_ HR6
          · rw [e_fn7, va_up_ne _ _ y2, g1 q y1]; exact f1 q y1 y2
          · refine ⟨(g2 j hj).1, ?_⟩
            rw [e_fn7, va_up_ne _ _ n1]; exact (g2 j hj).2
          · by_cases y : j = i
            · simp only [y, if_true]
              exact ⟨hqlt, by rw [e_fn7, va_up_self, pk_uLs]⟩
            · simp only [y, if_false]
              refine ⟨(f3 j (by omega) h2).1, ?_⟩
              rw [e_fn7, va_up_self, pk_uLn y, g1 qo (Ne.symm n1)]
              exact (f3 j (by omega) h2).2
          · rw [et, hRn]
            have hqs : vl 4294967296 (fun j => if j < i then 0 else (fun j => if j = i then vl 4294967296 (fun j => d (i + j)) (m + 2) / (V pb * 2 ^ sl) else qd j) j) (pl + 1) = vl 4294967296 (fun j => if j < i + 1 then 0 else qd j) (pl + 1) + vl 4294967296 (fun j => d (i + j)) (m + 2) / (V pb * 2 ^ sl) * 4294967296 ^ i := by
              rw [show pl + 1 = i + 1 + (pl - i) by omega]
              refine am_end (fun j hj => ?_) (fun j hj => ?_) ?_
              · show (if j < i then 0 else _) = if j < i + 1 then 0 else qd j
                rw [if_pos hj, if_pos (by omega)]
              · show (if j < i then 0 else if j = i then _ else qd j) = if j < i + 1 then 0 else qd j
                rw [if_neg (by omega), if_neg (by omega), if_neg (by omega)]
              · show 0 + (if i + 0 < i then 0 else if i + 0 = i then _ else qd (i + 0)) * 4294967296 ^ 0 = _ + (0 + (if i + 0 < i + 1 then 0 else qd (i + 0)) * 4294967296 ^ 0)
                rw [if_neg (by omega), if_pos (Nat.add_zero i), if_pos (by omega)]
                omega
            rw [hqs]
            exact dv_step f4 hRe rfl
          · rw [et, hRn]
            have hmlt := Nat.mod_lt (vl 4294967296 (fun j => d (i + j)) (m + 2)) hSpos
            have : (vl 4294967296 (fun j => d (i + j)) (m + 2) % (V pb * 2 ^ sl) + 1) * 4294967296 ^ i ≤ V pb * 2 ^ sl * 4294967296 ^ i := Nat.mul_le_mul_right _ hmlt
            rw [Nat.add_mul, Nat.one_mul] at this
            omega
      refine vx_iload IG dc_D_run_99 1 rfl ?_
      refine vx_iconst (v := 1) IG dc_D_run_101 (by decide) ?_
      refine vx_isub IG dc_D_run_102 ?_
      refine vx_istore (lv' := [(6, .int (nI (pl + 1) - 1)), (5, .int (nI sl)), (4, .int (nI (pl + 1))), (3, .int (nI (m + 1))), (0, .ref dv), (1, .ref pa), (2, .ref pb)]) IG dc_D_run_103 (by decide) rfl ?_
      refine loop (pl + 1) (Nat.le_refl _) h fn4 (dg 4294967296 (V pa * 2 ^ sl)) (fun _ => 0) (fun _ _ _ => rfl) (fun j hj => ?_) (fun j h1 h2 => by omega) ?_ ?_ HR4
      · rw [(ho4 rs n1).2]; exact drs3 j (by omega)
      · rw [vl_zero (fun j hj => by show (if j < pl + 1 then 0 else 0) = 0; split <;> rfl), Nat.zero_mul, Nat.zero_add]
        exact vl_nd_le bB1 (by omega)
      · rw [vl_nd_le bB1 (by omega)]; exact hstart
end
end
section
/-! Whole: isOne, firstDigit, lowestOne; trailing zeros -/
theorem dg_bit (N k : Nat) {j : Nat} (hj : j < 32) : dg 4294967296 N k / 2 ^ j % 2 = N / 2 ^ (32 * k + j) % 2 := by
  unfold dg
  have e1 : N / 2 ^ (32 * k + j) = N / 4294967296 ^ k / 2 ^ j := by rw [bp32, Nat.div_div_eq_div_mul, ← Nat.pow_add]
  rw [e1]
  generalize N / 4294967296 ^ k = x
  have e2 : x % 4294967296 / 2 ^ j = x / 2 ^ j % 2 ^ (32 - j) := by
    rw [bB2 (l := j) (by omega), Nat.mod_mul_right_div_self]
  rw [e2, Nat.mod_mod_of_dvd]
  rw [show 32 - j = (31 - j) + 1 by omega, Nat.pow_succ]
  exact Nat.dvd_mul_left 2 _
theorem ex_tz (N : Nat) (h : 0 < N) : ∃ t m, N = 2 ^ t * (2 * m + 1) := by
  induction N using Nat.strongRecOn with
  | _ N ih =>
    by_cases z : N % 2 = 1
    · exact ⟨0, N / 2, by rw [Nat.pow_zero]; omega⟩
    · obtain ⟨t, m, e⟩ := ih (N / 2) (by omega) (by omega)
      refine ⟨t + 1, m, ?_⟩
      rw [Nat.pow_succ, Nat.mul_comm (2 ^ t) 2, Nat.mul_assoc, ← e]
      omega
theorem tz_and {t m : Nat} (h : 2 ^ t * (2 * m + 1) < 2 ^ 32) : (2 ^ 32 - 1 - 2 ^ t * (2 * m + 1)) &&& (2 ^ t * (2 * m + 1) - 1) = 2 ^ t - 1 := by
  have hp : 0 < 2 ^ t := Nat.pow_pos (by decide)
  have e1 : 2 ^ t * (2 * m + 1) - 1 = 2 ^ t * (2 * m) + (2 ^ t - 1) := by rw [Nat.mul_add, Nat.mul_one]; omega
  apply Nat.eq_of_testBit_eq
  intro i
  rw [Nat.testBit_and, Nat.testBit_two_pow_sub_one, show 2 ^ 32 - 1 - 2 ^ t * (2 * m + 1) = 2 ^ 32 - (2 ^ t * (2 * m + 1) + 1) by omega, Nat.testBit_two_pow_sub_succ h, e1, Nat.testBit_two_pow_mul_add _ (by omega), Nat.testBit_two_pow_mul]
  by_cases z : i < t
  · rw [if_pos z, Nat.testBit_two_pow_sub_one]
    have z2 : i < 32 := by
      rcases Nat.lt_or_ge i 32 with q | q
      · exact q
      · have : 2 ^ 32 ≤ 2 ^ t := Nat.pow_le_pow_right (by decide) (by omega)
        have h3 : 2 ^ t * 1 ≤ 2 ^ t * (2 * m + 1) := Nat.mul_le_mul_left _ (by omega)
        omega
    simp [z, z2, Nat.not_le.mpr z]
  · rw [if_neg z]
    simp only [z, decide_false]
    by_cases y : i = t
    · subst y
      simp
    · obtain ⟨j, hj⟩ : ∃ j, i - t = j + 1 := ⟨i - t - 1, by omega⟩
      rw [hj, Nat.testBit_succ, Nat.testBit_succ, show 2 * m / 2 = m by omega, show (2 * m + 1) / 2 = m by omega]
      have : i ≥ t := by omega
      simp only [this, decide_true, Bool.true_and]
      cases (decide (i < 32)) <;> cases m.testBit j <;> rfl
theorem nI_tz {t m : Nat} (h : 2 ^ t * (2 * m + 1) < 2 ^ 32) : (nI (2 ^ t * (2 * m + 1)) ^^^ (-1)) &&& (nI (2 ^ t * (2 * m + 1)) - 1) = nI (2 ^ t - 1) := by
  have hp : 0 < 2 ^ t * (2 * m + 1) := Nat.mul_pos (Nat.pow_pos (by decide)) (by omega)
  have h0 := tz_and h
  generalize 2 ^ t * (2 * m + 1) = d at *
  have e1 : nI d - 1 = nI (d - 1) := by obtain ⟨b, rfl⟩ : ∃ b, d = b + 1 := ⟨d - 1, by omega⟩; exact nI_pred b
  rw [e1, ← h0]
  apply Int32.toBitVec_inj.mp
  apply BitVec.eq_of_toNat_eq
  show ((BitVec.ofNat 32 d ^^^ BitVec.allOnes 32) &&& BitVec.ofNat 32 (d - 1)).toNat = (BitVec.ofNat 32 _).toNat
  rw [BitVec.xor_allOnes, BitVec.toNat_and, BitVec.toNat_not, BitVec.toNat_ofNat, BitVec.toNat_ofNat, BitVec.toNat_ofNat, Nat.mod_eq_of_lt h, Nat.mod_eq_of_lt (show d - 1 < 2 ^ 32 by omega), Nat.mod_eq_of_lt]
  exact Nat.and_lt_two_pow _ (by omega)
theorem p2_gt {u w : Nat} : 2 ^ w < 2 ^ u - 1 ↔ w + 1 < u ∨ (w + 1 = u ∧ 0 < w) := by
  constructor
  · intro h
    rcases Nat.lt_or_ge (w + 1) u with q | q
    · exact Or.inl q
    · rcases Nat.lt_or_ge u (w + 1) with q2 | q2
      · have : 2 ^ u ≤ 2 ^ w := Nat.pow_le_pow_right (by decide) (by omega)
        exact absurd (Nat.lt_of_lt_of_le h (Nat.sub_le _ _)) (Nat.not_lt.mpr this)
      · refine Or.inr ⟨by omega, ?_⟩
        rcases Nat.eq_zero_or_pos w with z | z
        · rw [show u = 1 by omega, z] at h; omega
        · exact z
  · intro h
    rcases h with h | ⟨h, h0⟩
    · have h1 : 2 ^ (w + 2) ≤ 2 ^ u := Nat.pow_le_pow_right (by decide) (by omega)
      have h2 : 0 < 2 ^ w := Nat.pow_pos (by decide)
      rw [Nat.pow_add] at h1
      omega
    · rw [← h, Nat.pow_succ]
      have : 2 ^ 1 ≤ 2 ^ w := Nat.pow_le_pow_right (by decide) h0
      omega
theorem p2_div (u k : Nat) (h : k ≤ u) : (2 ^ u - 1) / 2 ^ k = 2 ^ (u - k) - 1 := by
  have hp : 0 < 2 ^ k := Nat.pow_pos (by decide)
  have hq : 0 < 2 ^ (u - k) := Nat.pow_pos (by decide)
  have e : 2 ^ u - 1 = (2 ^ k - 1) + 2 ^ k * (2 ^ (u - k) - 1) := by
    rw [Nat.mul_sub, Nat.mul_one, ← Nat.pow_add, show k + (u - k) = u by omega]
    have : 2 ^ k ≤ 2 ^ u := Nat.pow_le_pow_right (by decide) h
    omega
  rw [e, Nat.add_mul_div_left _ _ hp, Nat.div_eq_of_lt (by omega), Nat.zero_add]
section
variable {l : Launch} {D : va_G} {tys : List (ClassId × FieldType)}
set_option maxRecDepth 100000 in
set_option maxHeartbeats 4000000 in
theorem cJI_ntz (h : vx_h) {t m : Nat} (hd : 2 ^ t * (2 * m + 1) < 2 ^ 32) : vx_M l D vcl tys my_JI_numberOfTrailingZeros lw_gd (rm_ 0 0 0 0) [.int (nI (2 ^ t * (2 * m + 1)))] h (fun v h' k n => v = some (.int (nI t)) ∧ h' = h ∧ k = 0 ∧ n = 0) := by
  have ht31 : t < 32 := by
    rcases Nat.lt_or_ge t 32 with q | q
    · exact q
    · have : 2 ^ 32 ≤ 2 ^ t := Nat.pow_le_pow_right (by decide) q
      have h3 : 2 ^ t * 1 ≤ 2 ^ t * (2 * m + 1) := Nat.mul_le_mul_left _ (by omega)
      omega
  have h31 : ∀ u, u ≤ t → 2 ^ u - 1 < 2 ^ 31 := fun u hu => by
    have : 2 ^ u ≤ 2 ^ 31 := Nat.pow_le_pow_right (by decide) (by omega)
    have := Nat.pow_pos (n := u) (show 0 < 2 by decide)
    omega
  refine vx_M.ofV (cc := bc_JI_numberOfTrailingZeros) (maxL := 2) (ret := some .int) (own := "java/lang/Integer") false rfl (by decide +kernel) wC_JI_numberOfTrailingZeros (fun q => by cases q) (Nat.le_of_ble_eq_true rfl) (fun A H0 G IG RG => ?_)
  show vx_V _ _ _ _ _ _ _ _ _ 0 [(0, .int (nI (2 ^ t * (2 * m + 1))))] []
  have p74 : ∀ (u : Nat), u ≤ t → 0 < u → u ≤ 2 → vx_V D vcl A H0 2 G h 0 0 74 [(0, .int (nI (2 ^ u - 1))), (1, .int (nI (1 + (t - u))))] [] := by
    intro u h1 h2 h3
    refine vx_iload_n IG dc_JI_numberOfTrailingZeros_74 rfl 1 rfl ?_
    refine vx_iload_n IG dc_JI_numberOfTrailingZeros_75 rfl 0 rfl ?_
    refine vx_iconst (v := 1) IG dc_JI_numberOfTrailingZeros_76 (by decide) ?_
    refine vx_iushr (v := nI (u - 1)) IG dc_JI_numberOfTrailingZeros_77 (by rw [pk_ushrN (by have := h31 u h1; omega) 1 1 (by decide)]; congr 1; rcases (show u = 1 ∨ u = 2 by omega) with rfl | rfl <;> rfl) ?_
    refine vx_iadd IG dc_JI_numberOfTrailingZeros_78 ?_
    refine vx_topi (y := nI t) (by rw [nI_add]; congr 1; omega) ?_
    refine vx_ret (some (.int (nI t))) RG (vx_endi (by first | rfl | decide) dc_JI_numberOfTrailingZeros_79) rfl ?_
    exact ⟨rfl, rfl, rfl, rfl⟩
  have p62 : ∀ (u : Nat), u ≤ t → 0 < u → u ≤ 4 → vx_V D vcl A H0 2 G h 0 0 62 [(0, .int (nI (2 ^ u - 1))), (1, .int (nI (1 + (t - u))))] [] := by
    intro u h1 h2 h3
    have hb := h31 u h1
    refine vx_iload_n IG dc_JI_numberOfTrailingZeros_62 rfl 0 rfl ?_
    refine vx_iconst (v := 4) IG dc_JI_numberOfTrailingZeros_63 (by decide) ?_
    by_cases z : u ≤ 2
    · refine vx_icmp_le (tgt := 74) IG dc_JI_numberOfTrailingZeros_64 (by decide) (fun _ => ?_) (fun c_ => absurd (nI_le (b := 4) (Nat.le_of_not_lt (fun q => by rcases (p2_gt (w := 2)).mp q with y | y <;> omega)) (by decide)) c_)
      exact p74 u h1 h2 z
    · refine vx_icmp_le (tgt := 74) IG dc_JI_numberOfTrailingZeros_64 (by decide) (fun c_ => absurd c_ (nI_ge (a := 4) ((p2_gt (w := 2)).mpr (by omega)) hb)) (fun _ => ?_)
      refine vx_iinc (q := 1) (v := nI (1 + (t - (u - 2)))) (lv' := [(1, .int (nI (1 + (t - (u - 2))))), (0, .int (nI (2 ^ u - 1)))]) IG dc_JI_numberOfTrailingZeros_67 rfl (by rw [show Int32.ofInt 2 = nI 2 from rfl, nI_add]; congr 1; omega) (by decide) rfl ?_
      refine vx_iload_n IG dc_JI_numberOfTrailingZeros_70 rfl 1 rfl ?_
      refine vx_iconst (v := 2) IG dc_JI_numberOfTrailingZeros_71 (by decide) ?_
      refine vx_iushr (v := nI (2 ^ (u - 2) - 1)) IG dc_JI_numberOfTrailingZeros_72 (by rw [← p2_div u 2 (by omega)]; exact pk_ushrN (by omega) 2 2 (by decide)) ?_
      refine vx_istore_n (lv' := [(0, .int (nI (2 ^ (u - 2) - 1))), (1, .int (nI (1 + (t - (u - 2)))))]) IG dc_JI_numberOfTrailingZeros_73 rfl (by decide) rfl ?_
      exact p74 (u - 2) (by omega) (by omega) (by omega)
  have p49 : ∀ (u : Nat), u ≤ t → 0 < u → u ≤ 8 → vx_V D vcl A H0 2 G h 0 0 49 [(0, .int (nI (2 ^ u - 1))), (1, .int (nI (1 + (t - u))))] [] := by
    intro u h1 h2 h3
    have hb := h31 u h1
    refine vx_iload_n IG dc_JI_numberOfTrailingZeros_49 rfl 0 rfl ?_
    refine vx_bipush (v := 16) IG dc_JI_numberOfTrailingZeros_50 (by decide) ?_
    by_cases z : u ≤ 4
    · refine vx_icmp_le (tgt := 62) IG dc_JI_numberOfTrailingZeros_52 (by decide) (fun _ => ?_) (fun c_ => absurd (nI_le (b := 16) (Nat.le_of_not_lt (fun q => by rcases (p2_gt (w := 4)).mp q with y | y <;> omega)) (by decide)) c_)
      exact p62 u h1 h2 z
    · refine vx_icmp_le (tgt := 62) IG dc_JI_numberOfTrailingZeros_52 (by decide) (fun c_ => absurd c_ (nI_ge (a := 16) ((p2_gt (w := 4)).mpr (by omega)) hb)) (fun _ => ?_)
      refine vx_iinc (q := 1) (v := nI (1 + (t - (u - 4)))) (lv' := [(1, .int (nI (1 + (t - (u - 4))))), (0, .int (nI (2 ^ u - 1)))]) IG dc_JI_numberOfTrailingZeros_55 rfl (by rw [show Int32.ofInt 4 = nI 4 from rfl, nI_add]; congr 1; omega) (by decide) rfl ?_
      refine vx_iload_n IG dc_JI_numberOfTrailingZeros_58 rfl 1 rfl ?_
      refine vx_iconst (v := 4) IG dc_JI_numberOfTrailingZeros_59 (by decide) ?_
      refine vx_iushr (v := nI (2 ^ (u - 4) - 1)) IG dc_JI_numberOfTrailingZeros_60 (by rw [← p2_div u 4 (by omega)]; exact pk_ushrN (by omega) 4 4 (by decide)) ?_
      refine vx_istore_n (lv' := [(0, .int (nI (2 ^ (u - 4) - 1))), (1, .int (nI (1 + (t - (u - 4)))))]) IG dc_JI_numberOfTrailingZeros_61 rfl (by decide) rfl ?_
      exact p62 (u - 4) (by omega) (by omega) (by omega)
  have p34 : ∀ (u : Nat), u ≤ t → 0 < u → u ≤ 16 → vx_V D vcl A H0 2 G h 0 0 34 [(0, .int (nI (2 ^ u - 1))), (1, .int (nI (1 + (t - u))))] [] := by
    intro u h1 h2 h3
    have hb := h31 u h1
    refine vx_iload_n IG dc_JI_numberOfTrailingZeros_34 rfl 0 rfl ?_
    refine vx_sipush (v := 256) IG dc_JI_numberOfTrailingZeros_35 (by decide) ?_
    by_cases z : u ≤ 8
    · refine vx_icmp_le (tgt := 49) IG dc_JI_numberOfTrailingZeros_38 (by decide) (fun _ => ?_) (fun c_ => absurd (nI_le (b := 256) (Nat.le_of_not_lt (fun q => by rcases (p2_gt (w := 8)).mp q with y | y <;> omega)) (by decide)) c_)
      exact p49 u h1 h2 z
    · refine vx_icmp_le (tgt := 49) IG dc_JI_numberOfTrailingZeros_38 (by decide) (fun c_ => absurd c_ (nI_ge (a := 256) ((p2_gt (w := 8)).mpr (by omega)) hb)) (fun _ => ?_)
      refine vx_iinc (q := 1) (v := nI (1 + (t - (u - 8)))) (lv' := [(1, .int (nI (1 + (t - (u - 8))))), (0, .int (nI (2 ^ u - 1)))]) IG dc_JI_numberOfTrailingZeros_41 rfl (by rw [show Int32.ofInt 8 = nI 8 from rfl, nI_add]; congr 1; omega) (by decide) rfl ?_
      refine vx_iload_n IG dc_JI_numberOfTrailingZeros_44 rfl 1 rfl ?_
      refine vx_bipush (v := 8) IG dc_JI_numberOfTrailingZeros_45 (by decide) ?_
      refine vx_iushr (v := nI (2 ^ (u - 8) - 1)) IG dc_JI_numberOfTrailingZeros_47 (by rw [← p2_div u 8 (by omega)]; exact pk_ushrN (by omega) 8 8 (by decide)) ?_
      refine vx_istore_n (lv' := [(0, .int (nI (2 ^ (u - 8) - 1))), (1, .int (nI (1 + (t - (u - 8)))))]) IG dc_JI_numberOfTrailingZeros_48 rfl (by decide) rfl ?_
      exact p49 (u - 8) (by omega) (by omega) (by omega)
  refine vx_iload_n IG dc_JI_numberOfTrailingZeros_0 rfl 0 rfl ?_
  refine vx_iconst (v := -1) IG dc_JI_numberOfTrailingZeros_1 (by decide) ?_
  refine vx_ixor IG dc_JI_numberOfTrailingZeros_2 ?_
  refine vx_iload_n IG dc_JI_numberOfTrailingZeros_3 rfl 0 rfl ?_
  refine vx_iconst (v := 1) IG dc_JI_numberOfTrailingZeros_4 (by decide) ?_
  refine vx_isub IG dc_JI_numberOfTrailingZeros_5 ?_
  refine vx_iand IG dc_JI_numberOfTrailingZeros_6 ?_
  refine vx_topi (y := nI (2 ^ t - 1)) (nI_tz hd) ?_
  refine vx_istore_n (lv' := [(0, .int (nI (2 ^ t - 1)))]) IG dc_JI_numberOfTrailingZeros_7 rfl (by decide) rfl ?_
  refine vx_iload_n IG dc_JI_numberOfTrailingZeros_8 rfl 0 rfl ?_
  have hb := h31 t (Nat.le_refl t)
  by_cases z : t = 0
  · refine vx_if_gt (tgt := 17) IG dc_JI_numberOfTrailingZeros_9 (by decide) (fun c_ => absurd c_ (by rw [z]; decide)) (fun _ => ?_)
    refine vx_iload_n IG dc_JI_numberOfTrailingZeros_12 rfl 0 rfl ?_
    refine vx_bipush (v := 32) IG dc_JI_numberOfTrailingZeros_13 (by decide) ?_
    refine vx_iand IG dc_JI_numberOfTrailingZeros_15 ?_
    refine vx_topi (y := nI t) (by rw [z]; decide) ?_
    refine vx_ret (some (.int (nI t))) RG (vx_endi (by first | rfl | decide) dc_JI_numberOfTrailingZeros_16) rfl ?_
    exact ⟨rfl, rfl, rfl, rfl⟩
  · refine vx_if_gt (tgt := 17) IG dc_JI_numberOfTrailingZeros_9 (by decide) (fun _ => ?_) (fun c_ => absurd (nI_lt (a := 0) (by have : 2 ^ 1 ≤ 2 ^ t := Nat.pow_le_pow_right (by decide) (by omega); omega) hb) c_)
    refine vx_iconst (v := 1) IG dc_JI_numberOfTrailingZeros_17 (by decide) ?_
    refine vx_istore_n (lv' := [(1, .int 1), (0, .int (nI (2 ^ t - 1)))]) IG dc_JI_numberOfTrailingZeros_18 rfl (by decide) rfl ?_
    refine vx_iload_n IG dc_JI_numberOfTrailingZeros_19 rfl 1 rfl ?_
    refine vx_ldcw (v := 65536) IG wK_JI_264 dc_JI_numberOfTrailingZeros_20 ?_
    by_cases y : t ≤ 16
    · refine vx_icmp_le (tgt := 34) IG dc_JI_numberOfTrailingZeros_23 (by decide) (fun _ => ?_) (fun c_ => absurd (nI_le (b := 65536) (Nat.le_of_not_lt (fun q => by rcases (p2_gt (w := 16)).mp q with y | y <;> omega)) (by decide)) c_)
      refine vx_same (lv' := [(0, .int (nI (2 ^ t - 1))), (1, .int 1)]) IG [1, 0] rfl ?_
      have := p34 t (Nat.le_refl t) (by omega) y
      rw [Nat.sub_self] at this
      exact this
    · refine vx_icmp_le (tgt := 34) IG dc_JI_numberOfTrailingZeros_23 (by decide) (fun c_ => absurd c_ (nI_ge (a := 65536) ((p2_gt (w := 16)).mpr (by omega)) hb)) (fun _ => ?_)
      refine vx_iinc (q := 0) (v := nI (1 + (t - (t - 16)))) (lv' := [(1, .int (nI (1 + (t - (t - 16))))), (0, .int (nI (2 ^ t - 1)))]) IG dc_JI_numberOfTrailingZeros_26 rfl (by rw [show (1 : Int32) + Int32.ofInt 16 = nI 17 from rfl]; congr 1; omega) (by decide) rfl ?_
      refine vx_iload_n IG dc_JI_numberOfTrailingZeros_29 rfl 1 rfl ?_
      refine vx_bipush (v := 16) IG dc_JI_numberOfTrailingZeros_30 (by decide) ?_
      refine vx_iushr (v := nI (2 ^ (t - 16) - 1)) IG dc_JI_numberOfTrailingZeros_32 (by rw [← p2_div t 16 (by omega)]; exact pk_ushrN (by omega) 16 16 (by decide)) ?_
      refine vx_istore_n (lv' := [(0, .int (nI (2 ^ (t - 16) - 1))), (1, .int (nI (1 + (t - (t - 16)))))]) IG dc_JI_numberOfTrailingZeros_33 rfl (by decide) rfl ?_
      exact p34 (t - 16) (by omega) (by omega) (by omega)
set_option maxRecDepth 100000 in
set_option maxHeartbeats 4000000 in
theorem cJL_ntz (h : vx_h) {t m : Nat} (hd : 2 ^ t * (2 * m + 1) < 4294967296) : vx_M l D vcl tys my_JL_numberOfTrailingZeros lw_gd (rm_ 1 0 0 21) [.long (lN (2 ^ t * (2 * m + 1)))] h (fun v h' k n => v = some (.int (nI t)) ∧ h' = h ∧ k = 0 ∧ n = 0) := by
  have hp : 0 < 2 ^ t * (2 * m + 1) := Nat.mul_pos (Nat.pow_pos (by decide)) (by omega)
  refine vx_M.ofV (cc := bc_JL_numberOfTrailingZeros) (maxL := 3) (ret := some .int) (own := "java/lang/Long") false rfl (by decide +kernel) wC_JL_numberOfTrailingZeros (fun q => by cases q) (Nat.le_of_ble_eq_true rfl) (fun A H0 G IG RG => ?_)
  show vx_V _ _ _ _ _ _ _ _ _ 0 [(0, .long (lN (2 ^ t * (2 * m + 1))))] []
  refine vx_lload_n IG dc_JL_numberOfTrailingZeros_0 rfl 0 rfl ?_
  refine vx_l2i (v := nI (2 ^ t * (2 * m + 1))) IG dc_JL_numberOfTrailingZeros_1 (lN_i _) ?_
  refine vx_istore_n (lv' := [(2, .int (nI (2 ^ t * (2 * m + 1)))), (0, .long (lN (2 ^ t * (2 * m + 1))))]) IG dc_JL_numberOfTrailingZeros_2 rfl (by decide) rfl ?_
  refine vx_iload_n IG dc_JL_numberOfTrailingZeros_3 rfl 0 rfl ?_
  refine vx_if_ne (tgt := 21) IG dc_JL_numberOfTrailingZeros_4 (by decide) (fun _ => ?_) (fun c_ => absurd c_ (fun q => by have h1 := congrArg (fun x : Int32 => x.toBitVec.toNat) q; simp only [pk_tn hd] at h1; have h2 : (0 : Int32).toBitVec.toNat = 0 := rfl; omega))
  refine vx_iload_n IG dc_JL_numberOfTrailingZeros_21 rfl 0 rfl ?_
  refine vx_callS (As := [.int (nI (2 ^ t * (2 * m + 1)))]) (st := []) IG lw_good (cJI_ntz _ hd) wC_JI_numberOfTrailingZeros wL_JL_311 wT_JI_numberOfTrailingZeros wX_JI 1 (by decide +kernel) rfl ⟨Nat.le_of_ble_eq_true rfl, Nat.le_of_ble_eq_true rfl⟩ ⟨(by dsimp only [rm_]; omega), (by dsimp only [rm_]; omega)⟩ rfl (Nat.le_of_ble_eq_true rfl) dc_JL_numberOfTrailingZeros_22 (fun v h k_ n_ hq => ?_)
  obtain ⟨rfl, rfl, rfl, rfl⟩ := hq
  show vx_V _ _ _ _ _ _ _ _ _ 25 [(2, .int (nI (2 ^ t * (2 * m + 1)))), (0, .long (lN (2 ^ t * (2 * m + 1))))] [.int (nI t)]
  refine vx_ret (some (.int (nI t))) RG (vx_endi (by first | rfl | decide) dc_JL_numberOfTrailingZeros_25) rfl ?_
  exact ⟨rfl, rfl, rfl, rfl⟩
end
section
variable {l : Launch} {D : va_G} {tys : List (ClassId × FieldType)} {cJ : ClassId} {L : List Nat} {r : vx_h} {p : Nat} {h : vx_h} {V : Nat → Nat} {C S : Nat}
set_option maxRecDepth 100000 in
set_option maxHeartbeats 4000000 in
/-- isOne(place) -/
theorem cW_isOne (HP : pool cJ L r V h C S) (hp : p ∈ L) (ht : tys[0]? = some (cJ, .long)) {j : Nat} (hj : j < 2 ^ 31) : vx_M l D vcl tys my_W_isOne lw_gd (rm_ 1 0 0 21) [.ref p, .int (nI j)] h (fun v h' k m => v = some (.int (if V p / 2 ^ j % 2 = 1 then 1 else 0)) ∧ h' = h ∧ k = 0 ∧ m = 0) := by
  obtain ⟨ar, cp, cn, fn, HR, hV, hC, hS⟩ := HP
  have hv := hV p hp
  have gx := dg_lt bB1 (V p) (j / 32)
  have hbit := dg_bit (V p) (j / 32) (show j % 32 < 32 by omega)
  rw [show 32 * (j / 32) + j % 32 = j by omega] at hbit
  refine vx_M.ofV (cc := bc_W_isOne) (maxL := 2) (ret := some .boolean) (own := rW) false rfl (by decide +kernel) wC_W_isOne (fun q => by cases q) (Nat.le_of_ble_eq_true rfl) (fun A H0 G IG RG => ?_)
  show vx_V _ _ _ _ _ _ _ _ _ 0 [(0, .ref p), (1, .int (nI j))] []
  refine vx_aload_n IG dc_W_isOne_0 rfl 0 rfl ?_
  refine vx_iload_n IG dc_W_isOne_1 rfl 1 rfl ?_
  refine vx_bipush (v := 32) IG dc_W_isOne_2 (by decide) ?_
  refine vx_idiv IG dc_W_isOne_4 nI_ne32 ?_
  refine vx_topi (y := nI (j / 32)) (nI_div32 hj) ?_
  refine vx_callV (As := [.int (nI (j / 32))]) (st := []) IG lw_good (cW_digitAt HR hp ht hv (j := j / 32) (by omega)) (rw_obj HR hp) rfl wC_W_digitAt wL_W_46 wI_W_digitAt wS_W_digitAt wX_W 1 (by decide +kernel) rfl ⟨Nat.le_of_ble_eq_true rfl, Nat.le_of_ble_eq_true rfl⟩ ⟨(by dsimp only [rm_]; omega), (by dsimp only [rm_]; omega)⟩ rfl (Nat.le_of_ble_eq_true rfl) dc_W_isOne_5 (fun v h k1 n1 hq => ?_)
  obtain ⟨rfl, rfl, rfl, rfl⟩ := hq
  show vx_V _ _ _ _ _ _ _ _ _ 8 [(0, .ref p), (1, .int (nI j))] [.long (lN (dg 4294967296 (V p) (j / 32)))]
  refine vx_iload_n IG dc_W_isOne_8 rfl 1 rfl ?_
  refine vx_bipush (v := 31) IG dc_W_isOne_9 (by decide) ?_
  refine vx_iand IG dc_W_isOne_11 ?_
  refine vx_topi (y := nI (j % 32)) (nI_and31 hj) ?_
  refine vx_lushr (v := lN (dg 4294967296 (V p) (j / 32) / 2 ^ (j % 32))) IG dc_W_isOne_12 (wb_shr (Nat.lt_trans gx (by decide)) (by omega)) ?_
  refine vx_lconst (v := 1) IG dc_W_isOne_13 (by decide) ?_
  refine vx_land IG dc_W_isOne_14 ?_
  refine vx_topl (y := lN (V p / 2 ^ j % 2)) (by rw [wb_a1 (Nat.lt_of_le_of_lt (Nat.div_le_self _ _) (Nat.lt_trans gx (by decide))), hbit]) ?_
  refine vx_lconst (v := 0) IG dc_W_isOne_15 (by decide) ?_
  refine vx_lcmp IG dc_W_isOne_16 ?_
  by_cases z : V p / 2 ^ j % 2 = 1
  · refine vx_if_eq (tgt := 24) IG dc_W_isOne_17 (by decide) (fun c_ => absurd c_ (fun q => by rw [z] at q; exact absurd (ln_eq (a := 1) (b := 0) (by decide) (by decide) ((lg_cmp_eq _ _).mp q)) (by decide))) (fun _ => ?_)
    refine vx_iconst (v := 1) IG dc_W_isOne_20 (by decide) ?_
    refine vx_goto (tgt := 25) IG dc_W_isOne_21 (by decide) ?_
    refine vx_ret (some (.int 1)) RG (vx_endi (by first | rfl | decide) dc_W_isOne_25) rfl ?_
    exact ⟨by rw [if_pos z], rfl, rfl, rfl⟩
  · refine vx_if_eq (tgt := 24) IG dc_W_isOne_17 (by decide) (fun _ => ?_) (fun c_ => absurd ((lg_cmp_eq _ _).mpr (by rw [show V p / 2 ^ j % 2 = 0 by omega]; rfl)) c_)
    refine vx_iconst (v := 0) IG dc_W_isOne_24 (by decide) ?_
    refine vx_ret (some (.int 0)) RG (vx_endi (by first | rfl | decide) dc_W_isOne_25) rfl ?_
    exact ⟨by rw [if_neg z], rfl, rfl, rfl⟩
set_option maxRecDepth 100000 in
set_option maxHeartbeats 4000000 in
/-- firstDigit(): the lowest digit that is not 0, or 0 -/
theorem cW_firstDigit (HP : pool cJ L r V h C S) (hp : p ∈ L) (ht : tys[0]? = some (cJ, .long)) : vx_M l D vcl tys my_W_firstDigit lw_gd (rm_ 0 0 0 0) [.ref p] h (fun v h' k m => h' = h ∧ k = 0 ∧ m = 0 ∧ ∃ j, v = some (.int (nI j)) ∧ (V p = 0 → j = 0) ∧ (0 < V p → j < nd 4294967296 (V p) ∧ dg 4294967296 (V p) j ≠ 0) ∧ ∀ i, i < j → dg 4294967296 (V p) i = 0) := by
  obtain ⟨ar, cp, cn, fn, HR, hV, hC, hS⟩ := HP
  have hv := hV p hp
  have hcx := rw_cap HR hp
  have hx2 := hv.2.1
  refine vx_M.ofV (cc := bc_W_firstDigit) (maxL := 2) (ret := some .int) (own := rW) false rfl (by decide +kernel) wC_W_firstDigit (fun q => by cases q) (Nat.le_of_ble_eq_true rfl) (fun A H0 G IG RG => ?_)
  show vx_V _ _ _ _ _ _ _ _ _ 0 [(0, .ref p)] []
  generalize eX : V p = X at *
  have loop : ∀ (m i : Nat), i + m = nd 4294967296 X → (∀ j, j < i → dg 4294967296 X j = 0) → vx_V D vcl A H0 2 G h 0 0 2 [(1, .int (nI i)), (0, .ref p)] [] := by
    intro m
    induction m with
    | zero =>
      intro i him hz
      refine vx_iload_n IG dc_W_firstDigit_2 rfl 0 rfl ?_
      refine vx_aload_n IG dc_W_firstDigit_3 rfl 1 rfl ?_
      refine wr_cnt IG HR hp wF_W_15 dc_W_firstDigit_4 ?_
      refine vx_topi (y := nI (nd 4294967296 X)) hv.1 ?_
      refine vx_icmp_ge (tgt := 29) IG dc_W_firstDigit_7 (by decide) (fun _ => ?_) (fun c_ => absurd (nI_le (by omega) (by omega)) c_)
      refine vx_iconst (v := 0) IG dc_W_firstDigit_29 (by decide) ?_
      refine vx_ret (some (.int 0)) RG (vx_endi (by first | rfl | decide) dc_W_firstDigit_30) rfl ?_
      have hX : X = 0 := by
        rw [← vl_nd bB1 X]
        exact vl_zero (fun j hj => hz j (by omega))
      exact ⟨rfl, rfl, rfl, 0, rfl, fun _ => rfl, fun q => by omega, fun j hj => by omega⟩
    | succ m ih =>
      intro i him hz
      have gx := dg_lt bB1 X i
      refine vx_iload_n IG dc_W_firstDigit_2 rfl 0 rfl ?_
      refine vx_aload_n IG dc_W_firstDigit_3 rfl 1 rfl ?_
      refine wr_cnt IG HR hp wF_W_15 dc_W_firstDigit_4 ?_
      refine vx_topi (y := nI (nd 4294967296 X)) hv.1 ?_
      refine vx_icmp_ge (tgt := 29) IG dc_W_firstDigit_7 (by decide) (fun c_ => absurd c_ (nI_ge (by omega) (by omega))) (fun _ => ?_)
      refine vx_aload_n IG dc_W_firstDigit_10 rfl 1 rfl ?_
      refine wr_dig IG HR hp wF_W_11 dc_W_firstDigit_11 ?_
      refine vx_iload_n IG dc_W_firstDigit_14 rfl 0 rfl ?_
      refine wr_ald IG HR hp ht i rfl (by omega) dc_W_firstDigit_15 ?_
      refine vx_topl (y := lN (dg 4294967296 X i)) (hv.2.2 i (by omega)) ?_
      refine vx_lconst (v := 0) IG dc_W_firstDigit_16 (by decide) ?_
      refine vx_lcmp IG dc_W_firstDigit_17 ?_
      by_cases z : dg 4294967296 X i = 0
      · refine vx_if_eq (tgt := 23) IG dc_W_firstDigit_18 (by decide) (fun _ => ?_) (fun c_ => absurd ((lg_cmp_eq _ _).mpr (by rw [z]; rfl)) c_)
        refine vx_iinc (q := 0) (v := nI (i + 1)) (lv' := [(1, .int (nI (i + 1))), (0, .ref p)]) IG dc_W_firstDigit_23 rfl (nI_1 i) (by decide) rfl ?_
        refine vx_goto (tgt := 2) IG dc_W_firstDigit_26 (by decide) ?_
        exact ih (i + 1) (by omega) (fun j hj => (Nat.lt_succ_iff_lt_or_eq.mp hj).elim (hz j) (fun y => y ▸ z))
      · refine vx_if_eq (tgt := 23) IG dc_W_firstDigit_18 (by decide) (fun c_ => absurd c_ (fun q => z (ln_eq (by omega) (by decide) ((lg_cmp_eq _ _).mp q)))) (fun _ => ?_)
        refine vx_iload_n IG dc_W_firstDigit_21 rfl 0 rfl ?_
        refine vx_ret (some (.int (nI i))) RG (vx_endi (by first | rfl | decide) dc_W_firstDigit_22) rfl ?_
        exact ⟨rfl, rfl, rfl, i, rfl, fun q => by rw [q, dg_zero] at z; exact absurd rfl z, fun _ => ⟨by omega, z⟩, hz⟩
  refine vx_iconst (v := 0) IG dc_W_firstDigit_0 (by decide) ?_
  refine vx_istore_n (lv' := [(1, .int 0), (0, .ref p)]) IG dc_W_firstDigit_1 rfl (by decide) rfl ?_
  exact loop (nd 4294967296 X) 0 (by omega) (fun j hj => by omega)
/-- the lowest 1 of a number by its first digit -/
theorem low_one {N j t m : Nat} (hz : ∀ i, i < j → dg 4294967296 N i = 0) (hd : dg 4294967296 N j = 2 ^ t * (2 * m + 1)) (ht : t < 32) : N % 2 ^ (32 * j + t) = 0 ∧ N / 2 ^ (32 * j + t) % 2 = 1 := by
  constructor
  · have h1 : N % 4294967296 ^ j = 0 := by rw [← vl_dg]; exact vl_zero hz
    rw [Nat.pow_add, ← bp32, Nat.mod_mul, h1, Nat.zero_add]
    have h2 : N / 4294967296 ^ j % 2 ^ t = dg 4294967296 N j % 2 ^ t := by
      unfold dg
      rw [Nat.mod_mod_of_dvd]
      exact Nat.pow_dvd_pow 2 (show t ≤ 32 by omega)
    rw [h2, hd, Nat.mul_mod_right, Nat.mul_zero]
  · rw [← dg_bit N j ht, hd, Nat.mul_div_cancel_left _ (Nat.pow_pos (by decide))]
    omega
set_option maxRecDepth 100000 in
set_option maxHeartbeats 4000000 in
/-- lowestOne() -/
theorem cW_lowestOne (HP : pool cJ L r V h C S) (hp : p ∈ L) (ht : tys[0]? = some (cJ, .long)) : vx_M l D vcl tys my_W_lowestOne lw_gd (rm_ 2 0 0 43) [.ref p] h (fun v h' k m => h' = h ∧ k = 0 ∧ m = 0 ∧ ((V p = 0 ∧ v = some (.int (-1))) ∨ (0 < V p ∧ ∃ t, v = some (.int (nI t)) ∧ t < 32 * nd 4294967296 (V p) ∧ V p % 2 ^ t = 0 ∧ V p / 2 ^ t % 2 = 1))) := by
  have HP0 := HP
  obtain ⟨ar, cp, cn, fn, HR, hV, hC, hS⟩ := HP
  have hv := hV p hp
  have hcx := rw_cap HR hp
  have hx2 := hv.2.1
  refine vx_M.ofV (cc := bc_W_lowestOne) (maxL := 2) (ret := some .int) (own := rW) false rfl (by decide +kernel) wC_W_lowestOne (fun q => by cases q) (Nat.le_of_ble_eq_true rfl) (fun A H0 G IG RG => ?_)
  show vx_V _ _ _ _ _ _ _ _ _ 0 [(0, .ref p)] []
  refine vx_aload_n IG dc_W_lowestOne_0 rfl 0 rfl ?_
  refine wr_cnt IG HR hp wF_W_15 dc_W_lowestOne_1 ?_
  refine vx_topi (y := nI (nd 4294967296 (V p))) hv.1 ?_
  by_cases z : V p = 0
  · refine vx_if_ne (tgt := 9) IG dc_W_lowestOne_4 (by decide) (fun c_ => absurd (by rw [z]; rfl) c_) (fun _ => ?_)
    refine vx_iconst (v := -1) IG dc_W_lowestOne_7 (by decide) ?_
    refine vx_ret (some (.int (-1))) RG (vx_endi (by first | rfl | decide) dc_W_lowestOne_8) rfl ?_
    exact ⟨rfl, rfl, rfl, Or.inl ⟨z, rfl⟩⟩
  · have hz : 0 < nd 4294967296 (V p) := by
      rcases Nat.eq_zero_or_pos (nd 4294967296 (V p)) with q | q
      · exact absurd ((nd_eq_zero bB1).mp q) z
      · exact q
    refine vx_if_ne (tgt := 9) IG dc_W_lowestOne_4 (by decide) (fun _ => ?_) (fun c_ => absurd c_ (nI_ne0 hz (by omega)))
    refine vx_aload_n IG dc_W_lowestOne_9 rfl 0 rfl ?_
    refine vx_callV (As := []) (st := []) IG lw_good (cW_firstDigit HP0 hp ht) (rw_obj HR hp) rfl wC_W_firstDigit wL_W_56 wI_W_firstDigit wS_W_firstDigit wX_W 0 (by decide +kernel) rfl ⟨Nat.le_of_ble_eq_true rfl, Nat.le_of_ble_eq_true rfl⟩ ⟨(by dsimp only [rm_]; omega), (by dsimp only [rm_]; omega)⟩ rfl (Nat.le_of_ble_eq_true rfl) dc_W_lowestOne_10 (fun v h k2 n2 hq => ?_)
    obtain ⟨rfl, rfl, rfl, j, rfl, -, hj, hlow⟩ := hq
    obtain ⟨hj1, hj2⟩ := hj (by omega)
    obtain ⟨t, m, e⟩ := ex_tz (dg 4294967296 (V p) j) (by omega)
    have gx := dg_lt bB1 (V p) j
    have ht32 : t < 32 := by
      rcases Nat.lt_or_ge t 32 with q | q
      · exact q
      · have : 2 ^ 32 ≤ 2 ^ t := Nat.pow_le_pow_right (by decide) q
        have h3 : 2 ^ t * 1 ≤ 2 ^ t * (2 * m + 1) := Nat.mul_le_mul_left _ (by omega)
        omega
    show vx_V _ _ _ _ _ _ _ _ _ 13 [(0, .ref p)] [.int (nI j)]
    refine vx_istore_n (lv' := [(1, .int (nI j)), (0, .ref p)]) IG dc_W_lowestOne_13 rfl (by decide) rfl ?_
    refine vx_bipush (v := 32) IG dc_W_lowestOne_14 (by decide) ?_
    refine vx_iload_n IG dc_W_lowestOne_16 rfl 0 rfl ?_
    refine vx_imul IG dc_W_lowestOne_17 ?_
    refine vx_topi (y := nI (32 * j)) (pk_mul 32 j) ?_
    refine vx_aload_n IG dc_W_lowestOne_18 rfl 1 rfl ?_
    refine wr_dig IG HR hp wF_W_11 dc_W_lowestOne_19 ?_
    refine vx_iload_n IG dc_W_lowestOne_22 rfl 0 rfl ?_
    refine wr_ald IG HR hp ht j rfl (by omega) dc_W_lowestOne_23 ?_
    refine vx_topl (y := lN (2 ^ t * (2 * m + 1))) (by rw [hv.2.2 j hj1, e]) ?_
    refine vx_callS (As := [.long (lN (2 ^ t * (2 * m + 1)))]) (st := [.int (nI (32 * j))]) IG lw_good (cJL_ntz _ (by rw [← e]; exact gx)) wC_JL_numberOfTrailingZeros wL_W_60 wT_JL_numberOfTrailingZeros wX_JL 1 (by decide +kernel) rfl ⟨Nat.le_of_ble_eq_true rfl, Nat.le_of_ble_eq_true rfl⟩ ⟨(by dsimp only [rm_]; omega), (by dsimp only [rm_]; omega)⟩ rfl (Nat.le_of_ble_eq_true rfl) dc_W_lowestOne_24 (fun v h k3 n3 hq => ?_)
    obtain ⟨rfl, rfl, rfl, rfl⟩ := hq
    show vx_V _ _ _ _ _ _ _ _ _ 27 [(1, .int (nI j)), (0, .ref p)] [.int (nI t), .int (nI (32 * j))]
    refine vx_iadd IG dc_W_lowestOne_27 ?_
    refine vx_topi (y := nI (32 * j + t)) (nI_add _ _) ?_
    refine vx_ret (some (.int (nI (32 * j + t)))) RG (vx_endi (by first | rfl | decide) dc_W_lowestOne_28) rfl ?_
    have hlo := low_one hlow e ht32
    exact ⟨rfl, rfl, rfl, Or.inr ⟨by omega, 32 * j + t, rfl, by omega, hlo.1, hlo.2⟩⟩
end
end
section
/-! Long.bitCount, countOnes, bitsFrom -/
def pop (N : Nat) : Nat → Nat
  | 0 => 0
  | n + 1 => pop N n + N / 2 ^ n % 2
theorem pop_add (N a : Nat) : ∀ b, pop N (a + b) = pop N a + pop (N / 2 ^ a) b
  | 0 => rfl
  | b + 1 => by
    show pop N (a + b) + N / 2 ^ (a + b) % 2 = pop N a + (pop (N / 2 ^ a) b + N / 2 ^ a / 2 ^ b % 2)
    rw [pop_add N a b, Nat.div_div_eq_div_mul, ← Nat.pow_add, Nat.add_assoc]
theorem pop_mod (N a : Nat) : ∀ b, b ≤ a → pop (N % 2 ^ a) b = pop N b
  | 0, _ => rfl
  | b + 1, h => by
    show pop (N % 2 ^ a) b + N % 2 ^ a / 2 ^ b % 2 = pop N b + N / 2 ^ b % 2
    rw [pop_mod N a b (by omega)]
    congr 1
    rw [show 2 ^ a = 2 ^ b * 2 ^ (a - b) by rw [← Nat.pow_add]; congr 1; omega, Nat.mod_mul_right_div_self, Nat.mod_mod_of_dvd]
    rw [show a - b = (a - b - 1) + 1 by omega, Nat.pow_succ]
    exact Nat.dvd_mul_left 2 _
theorem pop_le (N : Nat) : ∀ n, pop N n ≤ n
  | 0 => Nat.le_refl 0
  | n + 1 => by show pop N n + N / 2 ^ n % 2 ≤ n + 1; have := pop_le N n; omega
theorem pop_zero : ∀ n, pop 0 n = 0
  | 0 => rfl
  | n + 1 => by show pop 0 n + 0 / 2 ^ n % 2 = 0; rw [pop_zero n, Nat.zero_div]
theorem pop_big {N a : Nat} (h : N < 2 ^ a) (b : Nat) (hb : a ≤ b) : pop N b = pop N a := by
  rw [show b = a + (b - a) by omega, pop_add, Nat.div_eq_of_lt h, pop_zero, Nat.add_zero]
theorem bc_split {c m Y M : Nat} (hc : c < 256) (hm : m < 256) : (c + 256 * Y) &&& (m + 256 * M) = (c &&& m) + 256 * (Y &&& M) := by
  have h1 : c &&& m < 256 := Nat.lt_of_le_of_lt Nat.and_le_left hc
  rw [Nat.add_comm c, Nat.add_comm m, Nat.add_comm (c &&& m)]
  show (2 ^ 8 * Y + c) &&& (2 ^ 8 * M + m) = 2 ^ 8 * (Y &&& M) + (c &&& m)
  apply Nat.eq_of_testBit_eq
  intro i
  rw [Nat.testBit_and, Nat.testBit_two_pow_mul_add _ hc, Nat.testBit_two_pow_mul_add _ hm, Nat.testBit_two_pow_mul_add _ h1]
  by_cases z : i < 8
  · rw [if_pos z, if_pos z, if_pos z, Nat.testBit_and]
  · rw [if_neg z, if_neg z, if_neg z, Nat.testBit_and]
def ba (c : Nat) : Nat := c - (c / 2 &&& 85)
def bb_ (c : Nat) : Nat := (ba c &&& 51) + (ba c / 4 &&& 51)
theorem bc_a : ∀ c, c < 256 → ∀ y, y < 2 → (c / 2 + 128 * y) &&& 85 = c / 2 &&& 85 := by decide +kernel
theorem bc_b : ∀ c, c < 256 → ∀ y, y < 4 → (c / 4 + 64 * y) &&& 51 = c / 4 &&& 51 := by decide +kernel
theorem bc_ab : ∀ c, c < 256 → ba c < 256 := by decide +kernel
theorem bc_bb : ∀ c, c < 256 → bb_ c ≤ 68 ∧ bb_ c % 16 ≤ 4 ∧ (bb_ c + bb_ c / 16) % 16 = pop c 8 := by decide +kernel
theorem bc_A {c Y M : Nat} (hc : c < 256) : (c + 256 * Y) - ((c + 256 * Y) / 2 &&& (85 + 256 * M)) = ba c + 256 * (Y - (Y / 2 &&& M)) := by
  have e : (c + 256 * Y) / 2 = (c / 2 + 128 * (Y % 2)) + 256 * (Y / 2) := by omega
  rw [e, bc_split (by omega) (by decide), bc_a c hc _ (Nat.mod_lt _ (by decide))]
  have h1 : c / 2 &&& 85 ≤ c / 2 := Nat.and_le_left
  have h2 : Y / 2 &&& M ≤ Y / 2 := Nat.and_le_left
  unfold ba
  omega
theorem bc_B {c Y M : Nat} (hc : c < 256) : ((c + 256 * Y) &&& (51 + 256 * M)) + ((c + 256 * Y) / 4 &&& (51 + 256 * M)) = ((c &&& 51) + (c / 4 &&& 51)) + 256 * ((Y &&& M) + (Y / 4 &&& M)) := by
  have e : (c + 256 * Y) / 4 = (c / 4 + 64 * (Y % 4)) + 256 * (Y / 4) := by omega
  rw [e, bc_split hc (by decide), bc_split (by omega) (by decide), bc_b c hc _ (Nat.mod_lt _ (by decide))]
  omega
theorem bc_C {c Y M : Nat} (hc : c ≤ 68) (hY : Y % 16 ≤ 4) : ((c + 256 * Y) + (c + 256 * Y) / 16) &&& (15 + 256 * M) = (c + c / 16) % 16 + 256 * ((Y + Y / 16) &&& M) := by
  have e : (c + 256 * Y) + (c + 256 * Y) / 16 = (c + c / 16 + 16 * (Y % 16)) + 256 * (Y + Y / 16) := by omega
  rw [e, bc_split (by omega) (by decide), show (15 : Nat) = 2 ^ 4 - 1 from rfl, Nat.and_two_pow_sub_one_eq_mod]
  omega
def b1 (d : Nat) : Nat := d - (d / 2 &&& 6148914691236517205)
def b2 (d : Nat) : Nat := (b1 d &&& 3689348814741910323) + (b1 d / 4 &&& 3689348814741910323)
def b3 (d : Nat) : Nat := (b2 d + b2 d / 16) &&& 1085102592571150095
theorem and_top (k : Nat) {x m M : Nat} (hx : x < 2 ^ k) (e : m = M % 2 ^ k) : x &&& M = x &&& m := by
  rw [e]
  have h1 : (x &&& M) % 2 ^ k = x &&& M % 2 ^ k := by
    rw [Nat.and_mod_two_pow, Nat.mod_eq_of_lt hx]
  rw [← h1, Nat.mod_eq_of_lt (Nat.lt_of_le_of_lt Nat.and_le_left hx)]
theorem bc_1 (c0 c1 c2 c3 : Nat) (h0 : c0 < 256) (h1 : c1 < 256) (h2 : c2 < 256) (h3 : c3 < 256) : b1 (c0 + 256 * (c1 + 256 * (c2 + 256 * (c3 + 256 * 0)))) = ba c0 + 256 * (ba c1 + 256 * (ba c2 + 256 * (ba c3 + 256 * 0))) := by
  unfold b1
  rw [show (6148914691236517205 : Nat) = 85 + 256 * (85 + 256 * (85 + 256 * (85 + 256 * 1431655765))) from rfl]
  rw [bc_A h0, bc_A h1, bc_A h2, bc_A h3]
  simp
theorem bc_2 (d c0 c1 c2 c3 : Nat) (h0 : c0 < 256) (h1 : c1 < 256) (h2 : c2 < 256) (h3 : c3 < 256) (e : d = c0 + 256 * (c1 + 256 * (c2 + 256 * (c3 + 256 * 0)))) : b2 d = bb_ c0 + 256 * (bb_ c1 + 256 * (bb_ c2 + 256 * (bb_ c3 + 256 * 0))) := by
  unfold b2
  rw [e, bc_1 c0 c1 c2 c3 h0 h1 h2 h3]
  rw [show (3689348814741910323 : Nat) = 51 + 256 * (51 + 256 * (51 + 256 * (51 + 256 * 858993459))) from rfl]
  rw [bc_B (bc_ab c0 h0), bc_B (bc_ab c1 h1), bc_B (bc_ab c2 h2), bc_B (bc_ab c3 h3)]
  simp [bb_]
theorem bc_3 (d c0 c1 c2 c3 : Nat) (h0 : c0 < 256) (h1 : c1 < 256) (h2 : c2 < 256) (h3 : c3 < 256) (e : d = c0 + 256 * (c1 + 256 * (c2 + 256 * (c3 + 256 * 0)))) : b3 d = pop c0 8 + 256 * (pop c1 8 + 256 * (pop c2 8 + 256 * pop c3 8)) := by
  unfold b3
  rw [bc_2 d c0 c1 c2 c3 h0 h1 h2 h3 e]
  obtain ⟨x0, y0, z0⟩ := bc_bb c0 h0
  obtain ⟨x1, y1, z1⟩ := bc_bb c1 h1
  obtain ⟨x2, y2, z2⟩ := bc_bb c2 h2
  obtain ⟨x3, y3, z3⟩ := bc_bb c3 h3
  rw [show (1085102592571150095 : Nat) = 15 + 256 * (15 + 256 * (15 + 256 * (15 + 256 * 252645135))) from rfl]
  rw [bc_C x0 (by omega), bc_C x1 (by omega), bc_C x2 (by omega), bc_C x3 (by omega), z0, z1, z2, z3]
  simp
theorem bc_fin {d : Nat} (hd : d < 4294967296) : ∃ p0 p1 p2 p3, p0 ≤ 8 ∧ p1 ≤ 8 ∧ p2 ≤ 8 ∧ p3 ≤ 8 ∧ b3 d = p0 + 256 * (p1 + 256 * (p2 + 256 * p3)) ∧ pop d 32 = p0 + p1 + p2 + p3 := by
  refine ⟨_, _, _, _, pop_le _ _, pop_le _ _, pop_le _ _, pop_le _ _, bc_3 d (d % 256) (d / 256 % 256) (d / 65536 % 256) (d / 16777216) (by omega) (by omega) (by omega) (by omega) (by omega), ?_⟩
  rw [show 32 = 8 + (8 + (8 + 8)) from rfl, pop_add, pop_add, pop_add, ← pop_mod d 8 8 (Nat.le_refl 8), ← pop_mod (d / 2 ^ 8) 8 8 (Nat.le_refl 8), ← pop_mod (d / 2 ^ 8 / 2 ^ 8) 8 8 (Nat.le_refl 8), Nat.div_div_eq_div_mul, Nat.div_div_eq_div_mul]
  simp only [show 2 ^ 8 = 256 from rfl, show 256 * 256 = 65536 from rfl, show 65536 * 256 = 16777216 from rfl]
  omega
theorem bc_end {p0 p1 p2 p3 n : Nat} (q0 : p0 ≤ 8) (q1 : p1 ≤ 8) (q2 : p2 ≤ 8) (q3 : p3 ≤ 8) (e : n = p0 + 256 * (p1 + 256 * (p2 + 256 * p3))) : (n + n / 256 + (n + n / 256) / 65536) % 128 = p0 + p1 + p2 + p3 := by
  have e1 : n / 256 = p1 + 256 * (p2 + 256 * p3) := by omega
  have e2 : (n + n / 256) / 65536 = p2 + p3 + 256 * p3 := by omega
  omega
theorem b3_le {d : Nat} (hd : d < 4294967296) : b1 d < 4294967296 ∧ b2 d < 4294967296 * 2 ∧ b3 d < 4294967296 := by
  have h1 : b1 d ≤ d := Nat.sub_le _ _
  have h2 : b1 d &&& 3689348814741910323 ≤ b1 d := Nat.and_le_left
  have h3 : b1 d / 4 &&& 3689348814741910323 ≤ b1 d / 4 := Nat.and_le_left
  obtain ⟨p0, p1, p2, p3, q0, q1, q2, q3, e, -⟩ := bc_fin hd
  refine ⟨by omega, ?_, by omega⟩
  unfold b2
  omega
theorem nI_127 {n : Nat} (hn : n < 2 ^ 31) : nI n &&& 127 = nI (n % 128) := by
  have e : nI n &&& nI 127 = nI (n &&& 127) := by
    apply Int32.toBitVec_inj.mp
    apply BitVec.eq_of_toNat_eq
    show (BitVec.ofNat 32 n &&& BitVec.ofNat 32 127).toNat = (BitVec.ofNat 32 (n &&& 127)).toNat
    rw [BitVec.toNat_and, BitVec.toNat_ofNat, BitVec.toNat_ofNat, BitVec.toNat_ofNat, Nat.mod_eq_of_lt (show n < 2 ^ 32 by omega), Nat.mod_eq_of_lt (show 127 < 2 ^ 32 by decide), Nat.mod_eq_of_lt]
    exact Nat.and_lt_two_pow _ (by decide)
  rw [show (127 : Int32) = nI 127 from rfl, e]
  congr 1
  exact Nat.and_two_pow_sub_one_eq_mod n 7
section
variable {l : Launch} {D : va_G} {tys : List (ClassId × FieldType)}
set_option maxRecDepth 100000 in
set_option maxHeartbeats 4000000 in
theorem cJL_bitCount (h : vx_h) {d : Nat} (hd : d < 4294967296) : vx_M l D vcl tys my_JL_bitCount lw_gd (rm_ 0 0 0 0) [.long (lN d)] h (fun v h' k n => v = some (.int (nI (pop d 32))) ∧ h' = h ∧ k = 0 ∧ n = 0) := by
  obtain ⟨g1, g2, g3⟩ := b3_le hd
  obtain ⟨p0, p1, p2, p3, q0, q1, q2, q3, e3, ep⟩ := bc_fin hd
  refine vx_M.ofV (cc := bc_JL_bitCount) (maxL := 2) (ret := some .int) (own := "java/lang/Long") false rfl (by decide +kernel) wC_JL_bitCount (fun q => by cases q) (Nat.le_of_ble_eq_true rfl) (fun A H0 G IG RG => ?_)
  show vx_V _ _ _ _ _ _ _ _ _ 0 [(0, .long (lN d))] []
  refine vx_lload_n IG dc_JL_bitCount_0 rfl 0 rfl ?_
  refine vx_lload_n IG dc_JL_bitCount_1 rfl 0 rfl ?_
  refine vx_iconst (v := 1) IG dc_JL_bitCount_2 (by decide) ?_
  refine vx_lushr (v := lN (d / 2)) IG dc_JL_bitCount_3 (wb_shr (k := 1) (Nat.lt_trans hd (by decide)) (by decide)) ?_
  refine vx_ldc2 (v := 6148914691236517205) IG wK_JL_314 dc_JL_bitCount_4 ?_
  refine vx_land IG dc_JL_bitCount_7 ?_
  refine vx_topl (y := lN (d / 2 &&& 6148914691236517205)) (wb_and (b := 6148914691236517205) (by omega) (by decide)) ?_
  refine vx_lsub IG dc_JL_bitCount_8 ?_
  refine vx_topl (y := lN (b1 d)) (lN_sub (Nat.le_trans Nat.and_le_left (Nat.div_le_self _ _))) ?_
  refine vx_lstore_n (lv' := [(0, .long (lN (b1 d)))]) IG dc_JL_bitCount_9 rfl (by decide) rfl ?_
  refine vx_lload_n IG dc_JL_bitCount_10 rfl 0 rfl ?_
  refine vx_ldc2 (v := 3689348814741910323) IG wK_JL_316 dc_JL_bitCount_11 ?_
  refine vx_land IG dc_JL_bitCount_14 ?_
  refine vx_topl (y := lN (b1 d &&& 3689348814741910323)) (wb_and (b := 3689348814741910323) (by omega) (by decide)) ?_
  refine vx_lload_n IG dc_JL_bitCount_15 rfl 0 rfl ?_
  refine vx_iconst (v := 2) IG dc_JL_bitCount_16 (by decide) ?_
  refine vx_lushr (v := lN (b1 d / 4)) IG dc_JL_bitCount_17 (wb_shr (k := 2) (Nat.lt_trans g1 (by decide)) (by decide)) ?_
  refine vx_ldc2 (v := 3689348814741910323) IG wK_JL_316 dc_JL_bitCount_18 ?_
  refine vx_land IG dc_JL_bitCount_21 ?_
  refine vx_topl (y := lN (b1 d / 4 &&& 3689348814741910323)) (wb_and (b := 3689348814741910323) (by omega) (by decide)) ?_
  refine vx_ladd IG dc_JL_bitCount_22 ?_
  refine vx_topl (y := lN (b2 d)) (lN_add _ _) ?_
  refine vx_lstore_n (lv' := [(0, .long (lN (b2 d)))]) IG dc_JL_bitCount_23 rfl (by decide) rfl ?_
  refine vx_lload_n IG dc_JL_bitCount_24 rfl 0 rfl ?_
  refine vx_lload_n IG dc_JL_bitCount_25 rfl 0 rfl ?_
  refine vx_iconst (v := 4) IG dc_JL_bitCount_26 (by decide) ?_
  refine vx_lushr (v := lN (b2 d / 16)) IG dc_JL_bitCount_27 (wb_shr (k := 4) (Nat.lt_trans g2 (by decide)) (by decide)) ?_
  refine vx_ladd IG dc_JL_bitCount_28 ?_
  refine vx_topl (y := lN (b2 d + b2 d / 16)) (lN_add _ _) ?_
  refine vx_ldc2 (v := 1085102592571150095) IG wK_JL_318 dc_JL_bitCount_29 ?_
  refine vx_land IG dc_JL_bitCount_32 ?_
  refine vx_topl (y := lN (b3 d)) (wb_and (b := 1085102592571150095) (by omega) (by decide)) ?_
  refine vx_lstore_n (lv' := [(0, .long (lN (b3 d)))]) IG dc_JL_bitCount_33 rfl (by decide) rfl ?_
  refine vx_lload_n IG dc_JL_bitCount_34 rfl 0 rfl ?_
  refine vx_lload_n IG dc_JL_bitCount_35 rfl 0 rfl ?_
  refine vx_bipush (v := 8) IG dc_JL_bitCount_36 (by decide) ?_
  refine vx_lushr (v := lN (b3 d / 256)) IG dc_JL_bitCount_38 (wb_shr (k := 8) (Nat.lt_trans g3 (by decide)) (by decide)) ?_
  refine vx_ladd IG dc_JL_bitCount_39 ?_
  refine vx_topl (y := lN (b3 d + b3 d / 256)) (lN_add _ _) ?_
  refine vx_lstore_n (lv' := [(0, .long (lN (b3 d + b3 d / 256)))]) IG dc_JL_bitCount_40 rfl (by decide) rfl ?_
  refine vx_lload_n IG dc_JL_bitCount_41 rfl 0 rfl ?_
  refine vx_lload_n IG dc_JL_bitCount_42 rfl 0 rfl ?_
  refine vx_bipush (v := 16) IG dc_JL_bitCount_43 (by decide) ?_
  refine vx_lushr (v := lN ((b3 d + b3 d / 256) / 65536)) IG dc_JL_bitCount_45 (wb_shr (k := 16) (by omega) (by decide)) ?_
  refine vx_ladd IG dc_JL_bitCount_46 ?_
  refine vx_topl (y := lN (b3 d + b3 d / 256 + (b3 d + b3 d / 256) / 65536)) (lN_add _ _) ?_
  refine vx_lstore_n (lv' := [(0, .long (lN (b3 d + b3 d / 256 + (b3 d + b3 d / 256) / 65536)))]) IG dc_JL_bitCount_47 rfl (by decide) rfl ?_
  refine vx_lload_n IG dc_JL_bitCount_48 rfl 0 rfl ?_
  refine vx_lload_n IG dc_JL_bitCount_49 rfl 0 rfl ?_
  refine vx_bipush (v := 32) IG dc_JL_bitCount_50 (by decide) ?_
  refine vx_lushr (v := lN 0) IG dc_JL_bitCount_52 ((wb_shr (k := 32) (by omega) (by decide)).trans (by congr 1; omega)) ?_
  refine vx_ladd IG dc_JL_bitCount_53 ?_
  refine vx_topl (y := lN (b3 d + b3 d / 256 + (b3 d + b3 d / 256) / 65536)) (lN_add _ _) ?_
  refine vx_lstore_n (lv' := [(0, .long (lN (b3 d + b3 d / 256 + (b3 d + b3 d / 256) / 65536)))]) IG dc_JL_bitCount_54 rfl (by decide) rfl ?_
  refine vx_lload_n IG dc_JL_bitCount_55 rfl 0 rfl ?_
  refine vx_l2i (v := nI (b3 d + b3 d / 256 + (b3 d + b3 d / 256) / 65536)) IG dc_JL_bitCount_56 (lN_i _) ?_
  refine vx_bipush (v := 127) IG dc_JL_bitCount_57 (by decide) ?_
  refine vx_iand IG dc_JL_bitCount_59 ?_
  refine vx_topi (y := nI (pop d 32)) (by rw [nI_127 (by omega), bc_end q0 q1 q2 q3 e3, ep]) ?_
  refine vx_ret (some (.int (nI (pop d 32)))) RG (vx_endi (by first | rfl | decide) dc_JL_bitCount_60) rfl ?_
  exact ⟨rfl, rfl, rfl, rfl⟩
end
section
variable {l : Launch} {D : va_G} {tys : List (ClassId × FieldType)} {cJ : ClassId} {L : List Nat} {r : vx_h} {p : Nat} {h : vx_h} {V : Nat → Nat} {C S : Nat}
theorem pop_digit (X i : Nat) : pop X (32 * (i + 1)) = pop X (32 * i) + pop (dg 4294967296 X i) 32 := by
  rw [Nat.mul_add, pop_add, ← bp32]
  congr 1
  unfold dg
  exact (pop_mod _ 32 32 (Nat.le_refl 32)).symm
set_option maxRecDepth 100000 in
set_option maxHeartbeats 4000000 in
/-- countOnes() -/
theorem cW_countOnes (HP : pool cJ L r V h C S) (hp : p ∈ L) (ht : tys[0]? = some (cJ, .long)) : vx_M l D vcl tys my_W_countOnes lw_gd (rm_ 1 0 0 21) [.ref p] h (fun v h' k m => v = some (.int (nI (pop (V p) (32 * nd 4294967296 (V p))))) ∧ h' = h ∧ k = 0 ∧ m = 0) := by
  obtain ⟨ar, cp, cn, fn, HR, hV, hC, hS⟩ := HP
  have hv := hV p hp
  have hcx := rw_cap HR hp
  have hx2 := hv.2.1
  refine vx_M.ofV (cc := bc_W_countOnes) (maxL := 3) (ret := some .int) (own := rW) false rfl (by decide +kernel) wC_W_countOnes (fun q => by cases q) (Nat.le_of_ble_eq_true rfl) (fun A H0 G IG RG => ?_)
  show vx_V _ _ _ _ _ _ _ _ _ 0 [(0, .ref p)] []
  generalize eX : V p = X at *
  have loop : ∀ (m i : Nat), i + m = nd 4294967296 X → vx_V D vcl A H0 3 G h 0 0 4 [(2, .int (nI i)), (1, .int (nI (pop X (32 * i)))), (0, .ref p)] [] := by
    intro m
    induction m with
    | zero =>
      intro i him
      refine vx_iload_n IG dc_W_countOnes_4 rfl 0 rfl ?_
      refine vx_aload_n IG dc_W_countOnes_5 rfl 2 rfl ?_
      refine wr_cnt IG HR hp wF_W_15 dc_W_countOnes_6 ?_
      refine vx_topi (y := nI (nd 4294967296 X)) hv.1 ?_
      refine vx_icmp_ge (tgt := 30) IG dc_W_countOnes_9 (by decide) (fun _ => ?_) (fun c_ => absurd (nI_le (by omega) (by omega)) c_)
      refine vx_iload_n IG dc_W_countOnes_30 rfl 1 rfl ?_
      refine vx_ret (some (.int (nI (pop X (32 * i))))) RG (vx_endi (by first | rfl | decide) dc_W_countOnes_31) rfl ?_
      exact ⟨by rw [show i = nd 4294967296 X by omega], rfl, rfl, rfl⟩
    | succ m ih =>
      intro i him
      have gx := dg_lt bB1 X i
      refine vx_iload_n IG dc_W_countOnes_4 rfl 0 rfl ?_
      refine vx_aload_n IG dc_W_countOnes_5 rfl 2 rfl ?_
      refine wr_cnt IG HR hp wF_W_15 dc_W_countOnes_6 ?_
      refine vx_topi (y := nI (nd 4294967296 X)) hv.1 ?_
      refine vx_icmp_ge (tgt := 30) IG dc_W_countOnes_9 (by decide) (fun c_ => absurd c_ (nI_ge (by omega) (by omega))) (fun _ => ?_)
      refine vx_iload_n IG dc_W_countOnes_12 rfl 1 rfl ?_
      refine vx_aload_n IG dc_W_countOnes_13 rfl 2 rfl ?_
      refine wr_dig IG HR hp wF_W_11 dc_W_countOnes_14 ?_
      refine vx_iload_n IG dc_W_countOnes_17 rfl 0 rfl ?_
      refine wr_ald IG HR hp ht i rfl (by omega) dc_W_countOnes_18 ?_
      refine vx_topl (y := lN (dg 4294967296 X i)) (hv.2.2 i (by omega)) ?_
      refine vx_callS (As := [.long (lN (dg 4294967296 X i))]) (st := [.int (nI (pop X (32 * i)))]) IG lw_good (cJL_bitCount _ gx) wC_JL_bitCount wL_W_63 wT_JL_bitCount wX_JL 1 (by decide +kernel) rfl ⟨Nat.le_of_ble_eq_true rfl, Nat.le_of_ble_eq_true rfl⟩ ⟨(by dsimp only [rm_]; omega), (by dsimp only [rm_]; omega)⟩ rfl (Nat.le_of_ble_eq_true rfl) dc_W_countOnes_19 (fun v h k_ n_ hq => ?_)
      obtain ⟨rfl, rfl, rfl, rfl⟩ := hq
      show vx_V _ _ _ _ _ _ _ _ _ 22 [(2, .int (nI i)), (1, .int (nI (pop X (32 * i)))), (0, .ref p)] [.int (nI (pop (dg 4294967296 X i) 32)), .int (nI (pop X (32 * i)))]
      refine vx_iadd IG dc_W_countOnes_22 ?_
      refine vx_topi (y := nI (pop X (32 * (i + 1)))) (by rw [nI_add, pop_digit]) ?_
      refine vx_istore_n (lv' := [(1, .int (nI (pop X (32 * (i + 1))))), (2, .int (nI i)), (0, .ref p)]) IG dc_W_countOnes_23 rfl (by decide) rfl ?_
      refine vx_iinc (q := 1) (v := nI (i + 1)) (lv' := [(2, .int (nI (i + 1))), (1, .int (nI (pop X (32 * (i + 1))))), (0, .ref p)]) IG dc_W_countOnes_24 rfl (nI_1 i) (by decide) rfl ?_
      refine vx_goto (tgt := 4) IG dc_W_countOnes_27 (by decide) ?_
      exact ih (i + 1) (by omega)
  refine vx_iconst (v := 0) IG dc_W_countOnes_0 (by decide) ?_
  refine vx_istore_n (lv' := [(1, .int 0), (0, .ref p)]) IG dc_W_countOnes_1 rfl (by decide) rfl ?_
  refine vx_iconst (v := 0) IG dc_W_countOnes_2 (by decide) ?_
  refine vx_istore_n (lv' := [(2, .int 0), (1, .int 0), (0, .ref p)]) IG dc_W_countOnes_3 rfl (by decide) rfl ?_
  exact loop (nd 4294967296 X) 0 (by omega)
theorem bf_num {B P Q Z : Nat} (hB : B = P * Q) : Z / P % (B * B) = Z % B / P + Z / B % B * Q + Z / (B * B) % B % P * (Q * B) := by
  have e1 : B * B = Q * (B * P) := by rw [Nat.mul_left_comm, Nat.mul_comm Q P, ← hB]
  have e2 : Z / P % Q = Z % B / P := by rw [hB, Nat.mod_mul_right_div_self]
  have e3 : Z / P / Q = Z / B := by rw [Nat.div_div_eq_div_mul, ← hB]
  have e4 : Z / (B * B) % B % P = Z / B / B % P := by rw [Nat.mod_mod_of_dvd _ ⟨Q, hB⟩, Nat.div_div_eq_div_mul]
  rw [show Z / P % (B * B) = Z / P % (Q * (B * P)) by rw [e1], Nat.mod_mul, e2, e3, Nat.mod_mul, e4, Nat.mul_add, ← Nat.add_assoc, Nat.mul_comm Q, Nat.mul_comm (Z / B / B % P), Nat.mul_assoc]
theorem bf_dg (N k j : Nat) : dg 4294967296 N (k + j) = N / 4294967296 ^ k / 4294967296 ^ j % 4294967296 := by
  unfold dg
  rw [Nat.pow_add, Nat.div_div_eq_div_mul]
theorem bf_all (N k : Nat) {w : Nat} (hw : w ≤ 32) : N / 2 ^ (32 * k + w) % 18446744073709551616 = dg 4294967296 N k / 2 ^ w + dg 4294967296 N (k + 1) * 2 ^ (32 - w) + dg 4294967296 N (k + 2) % 2 ^ w * 2 ^ (64 - w) := by
  have h := bf_num (Z := N / 4294967296 ^ k) (bB2 hw)
  rw [Nat.pow_add, ← bp32, ← Nat.div_div_eq_div_mul]
  rw [show (4294967296 : Nat) * 4294967296 = 18446744073709551616 from rfl] at h
  rw [h, bf_dg N k 1, bf_dg N k 2, Nat.pow_one]
  congr 2
  rw [show (4294967296 : Nat) = 2 ^ 32 from rfl, ← Nat.pow_add]
  congr 1
  omega
theorem bf_shl (x : Nat) {w : Nat} (hw : w ≤ 64) : lN (x * 2 ^ (64 - w)) = lN (x % 2 ^ w * 2 ^ (64 - w)) := by
  rw [wb_mod]
  congr 1
  rw [show 2 ^ 64 = 2 ^ w * 2 ^ (64 - w) by rw [← Nat.pow_add]; congr 1; omega, Nat.mul_mod_mul_right]
set_option maxRecDepth 100000 in
set_option maxHeartbeats 4000000 in
/-- bitsFrom(place) -/
theorem cW_bitsFrom (HP : pool cJ L r V h C S) (hp : p ∈ L) (ht : tys[0]? = some (cJ, .long)) {j : Nat} (hj : j < 1000000) : vx_M l D vcl tys my_W_bitsFrom lw_gd (rm_ 1 0 0 21) [.ref p, .int (nI j)] h (fun v h' k m => v = some (.long (lN (V p / 2 ^ j % 18446744073709551616))) ∧ h' = h ∧ k = 0 ∧ m = 0) := by
  obtain ⟨ar, cp, cn, fn, HR, hV, hC, hS⟩ := HP
  have hv := hV p hp
  have g0 := dg_lt bB1 (V p) (j / 32)
  have g1 := dg_lt bB1 (V p) (j / 32 + 1)
  have hw : j % 32 < 32 := by omega
  have hP : 0 < 2 ^ (j % 32) := Nat.pow_pos (by decide)
  have hall := bf_all (V p) (j / 32) (Nat.le_of_lt hw)
  rw [show 32 * (j / 32) + j % 32 = j by omega] at hall
  have hlow : dg 4294967296 (V p) (j / 32) / 2 ^ (j % 32) < 2 ^ (32 - j % 32) := by
    rw [Nat.div_lt_iff_lt_mul hP, Nat.mul_comm, ← bB2 (Nat.le_of_lt hw)]
    exact g0
  have hmid : dg 4294967296 (V p) (j / 32) / 2 ^ (j % 32) + dg 4294967296 (V p) (j / 32 + 1) * 2 ^ (32 - j % 32) < 2 ^ (64 - j % 32) := by
    have e : 2 ^ (64 - j % 32) = 4294967296 * 2 ^ (32 - j % 32) := by rw [show (4294967296 : Nat) = 2 ^ 32 from rfl, ← Nat.pow_add]; congr 1; omega
    rw [e]
    have h2 : (dg 4294967296 (V p) (j / 32 + 1) + 1) * 2 ^ (32 - j % 32) ≤ 4294967296 * 2 ^ (32 - j % 32) := Nat.mul_le_mul_right _ (by omega)
    rw [Nat.add_mul, Nat.one_mul] at h2
    omega
  have h64 : 2 ^ (64 - j % 32) ≤ 18446744073709551616 := Nat.pow_le_pow_right (n := 2) (by decide) (show 64 - j % 32 ≤ 64 by omega)
  refine vx_M.ofV (cc := bc_W_bitsFrom) (maxL := 6) (ret := some .long) (own := rW) false rfl (by decide +kernel) wC_W_bitsFrom (fun q => by cases q) (Nat.le_of_ble_eq_true rfl) (fun A H0 G IG RG => ?_)
  show vx_V _ _ _ _ _ _ _ _ _ 0 [(0, .ref p), (1, .int (nI j))] []
  refine vx_iload_n IG dc_W_bitsFrom_0 rfl 1 rfl ?_
  refine vx_bipush (v := 32) IG dc_W_bitsFrom_1 (by decide) ?_
  refine vx_idiv IG dc_W_bitsFrom_3 nI_ne32 ?_
  refine vx_topi (y := nI (j / 32)) (nI_div32 (by omega)) ?_
  refine vx_istore_n (lv' := [(2, .int (nI (j / 32))), (0, .ref p), (1, .int (nI j))]) IG dc_W_bitsFrom_4 rfl (by decide) rfl ?_
  refine vx_iload_n IG dc_W_bitsFrom_5 rfl 2 rfl ?_
  refine vx_bipush (v := 31) IG dc_W_bitsFrom_6 (by decide) ?_
  refine vx_iand IG dc_W_bitsFrom_8 ?_
  refine vx_topi (y := nI (j % 32)) (nI_and31 (by omega)) ?_
  refine vx_istore_n (lv' := [(3, .int (nI (j % 32))), (2, .int (nI (j / 32))), (0, .ref p), (1, .int (nI j))]) IG dc_W_bitsFrom_9 rfl (by decide) rfl ?_
  refine vx_aload_n IG dc_W_bitsFrom_10 rfl 2 rfl ?_
  refine vx_iload_n IG dc_W_bitsFrom_11 rfl 1 rfl ?_
  refine vx_callV (As := [.int (nI (j / 32))]) (st := []) IG lw_good (cW_digitAt HR hp ht hv (j := j / 32) (by omega)) (rw_obj HR hp) rfl wC_W_digitAt wL_W_46 wI_W_digitAt wS_W_digitAt wX_W 1 (by decide +kernel) rfl ⟨Nat.le_of_ble_eq_true rfl, Nat.le_of_ble_eq_true rfl⟩ ⟨(by dsimp only [rm_]; omega), (by dsimp only [rm_]; omega)⟩ rfl (Nat.le_of_ble_eq_true rfl) dc_W_bitsFrom_12 (fun v h k1 n1 hq => ?_)
  obtain ⟨rfl, rfl, rfl, rfl⟩ := hq
  show vx_V _ _ _ _ _ _ _ _ _ 15 [(3, .int (nI (j % 32))), (2, .int (nI (j / 32))), (0, .ref p), (1, .int (nI j))] [.long (lN (dg 4294967296 (V p) (j / 32)))]
  refine vx_iload_n IG dc_W_bitsFrom_15 rfl 0 rfl ?_
  refine vx_lushr (v := lN (dg 4294967296 (V p) (j / 32) / 2 ^ (j % 32))) IG dc_W_bitsFrom_16 (wb_shr (Nat.lt_trans g0 (by decide)) (by omega)) ?_
  refine vx_aload_n IG dc_W_bitsFrom_17 rfl 2 rfl ?_
  refine vx_iload_n IG dc_W_bitsFrom_18 rfl 1 rfl ?_
  refine vx_iconst (v := 1) IG dc_W_bitsFrom_19 (by decide) ?_
  refine vx_iadd IG dc_W_bitsFrom_20 ?_
  refine vx_topi (y := nI (j / 32 + 1)) (nI_1 _) ?_
  refine vx_callV (As := [.int (nI (j / 32 + 1))]) (st := [.long (lN (dg 4294967296 (V p) (j / 32) / 2 ^ (j % 32)))]) IG lw_good (cW_digitAt HR hp ht hv (j := j / 32 + 1) (by omega)) (rw_obj HR hp) rfl wC_W_digitAt wL_W_46 wI_W_digitAt wS_W_digitAt wX_W 1 (by decide +kernel) rfl ⟨Nat.le_of_ble_eq_true rfl, Nat.le_of_ble_eq_true rfl⟩ ⟨(by dsimp only [rm_]; omega), (by dsimp only [rm_]; omega)⟩ rfl (Nat.le_of_ble_eq_true rfl) dc_W_bitsFrom_21 (fun v h k2 n2 hq => ?_)
  obtain ⟨rfl, rfl, rfl, rfl⟩ := hq
  show vx_V _ _ _ _ _ _ _ _ _ 24 [(3, .int (nI (j % 32))), (2, .int (nI (j / 32))), (0, .ref p), (1, .int (nI j))] [.long (lN (dg 4294967296 (V p) (j / 32 + 1))), .long (lN (dg 4294967296 (V p) (j / 32) / 2 ^ (j % 32)))]
  refine vx_bipush (v := 32) IG dc_W_bitsFrom_24 (by decide) ?_
  refine vx_iload_n IG dc_W_bitsFrom_26 rfl 0 rfl ?_
  refine vx_isub IG dc_W_bitsFrom_27 ?_
  refine vx_topi (y := nI (32 - j % 32)) (nI_sub32 (Nat.le_of_lt hw)) ?_
  refine vx_lshl (v := lN (dg 4294967296 (V p) (j / 32 + 1) * 2 ^ (32 - j % 32))) IG dc_W_bitsFrom_28 (wb_shl _ (by omega)) ?_
  refine vx_lor IG dc_W_bitsFrom_29 ?_
  refine vx_topl (y := lN (dg 4294967296 (V p) (j / 32) / 2 ^ (j % 32) + dg 4294967296 (V p) (j / 32 + 1) * 2 ^ (32 - j % 32))) (g_or' rfl hlow (by omega)) ?_
  refine vx_lstore (lv' := [(4, .long (lN (dg 4294967296 (V p) (j / 32) / 2 ^ (j % 32) + dg 4294967296 (V p) (j / 32 + 1) * 2 ^ (32 - j % 32)))), (3, .int (nI (j % 32))), (2, .int (nI (j / 32))), (0, .ref p), (1, .int (nI j))]) IG dc_W_bitsFrom_30 (by decide) rfl ?_
  refine vx_iload_n IG dc_W_bitsFrom_32 rfl 1 rfl ?_
  by_cases z : j % 32 = 0
  · refine vx_if_ne (tgt := 41) IG dc_W_bitsFrom_33 (by decide) (fun c_ => absurd (by rw [z]; rfl) c_) (fun _ => ?_)
    refine vx_lload IG dc_W_bitsFrom_36 0 rfl ?_
    refine vx_goto (tgt := 56) IG dc_W_bitsFrom_38 (by decide) ?_
    refine vx_ret (some (.long (lN (dg 4294967296 (V p) (j / 32) / 2 ^ (j % 32) + dg 4294967296 (V p) (j / 32 + 1) * 2 ^ (32 - j % 32))))) RG (vx_endl dc_W_bitsFrom_56) rfl ?_
    refine ⟨?_, rfl, rfl, rfl⟩
    rw [hall, show dg 4294967296 (V p) (j / 32 + 2) % 2 ^ (j % 32) = 0 by rw [z, Nat.pow_zero, Nat.mod_one], Nat.zero_mul]
    exact congrArg (fun x => some (Value.long (lN x))) (Nat.add_zero _).symm
  · refine vx_if_ne (tgt := 41) IG dc_W_bitsFrom_33 (by decide) (fun _ => ?_) (fun c_ => absurd c_ (nI_ne0 (by omega) (by omega)))
    refine vx_lload IG dc_W_bitsFrom_41 0 rfl ?_
    refine vx_aload_n IG dc_W_bitsFrom_43 rfl 3 rfl ?_
    refine vx_iload_n IG dc_W_bitsFrom_44 rfl 2 rfl ?_
    refine vx_iconst (v := 2) IG dc_W_bitsFrom_45 (by decide) ?_
    refine vx_iadd IG dc_W_bitsFrom_46 ?_
    refine vx_topi (y := nI (j / 32 + 2)) (nI_add _ 2) ?_
    refine vx_callV (As := [.int (nI (j / 32 + 2))]) (st := [.long (lN (dg 4294967296 (V p) (j / 32) / 2 ^ (j % 32) + dg 4294967296 (V p) (j / 32 + 1) * 2 ^ (32 - j % 32)))]) IG lw_good (cW_digitAt HR hp ht hv (j := j / 32 + 2) (by omega)) (rw_obj HR hp) rfl wC_W_digitAt wL_W_46 wI_W_digitAt wS_W_digitAt wX_W 1 (by decide +kernel) rfl ⟨Nat.le_of_ble_eq_true rfl, Nat.le_of_ble_eq_true rfl⟩ ⟨(by dsimp only [rm_]; omega), (by dsimp only [rm_]; omega)⟩ rfl (Nat.le_of_ble_eq_true rfl) dc_W_bitsFrom_47 (fun v h k3 n3 hq => ?_)
    obtain ⟨rfl, rfl, rfl, rfl⟩ := hq
    show vx_V _ _ _ _ _ _ _ _ _ 50 [(4, .long (lN (dg 4294967296 (V p) (j / 32) / 2 ^ (j % 32) + dg 4294967296 (V p) (j / 32 + 1) * 2 ^ (32 - j % 32)))), (3, .int (nI (j % 32))), (2, .int (nI (j / 32))), (0, .ref p), (1, .int (nI j))] [.long (lN (dg 4294967296 (V p) (j / 32 + 2))), .long (lN (dg 4294967296 (V p) (j / 32) / 2 ^ (j % 32) + dg 4294967296 (V p) (j / 32 + 1) * 2 ^ (32 - j % 32)))]
    refine vx_bipush (v := 64) IG dc_W_bitsFrom_50 (by decide) ?_
    refine vx_iload_n IG dc_W_bitsFrom_52 rfl 1 rfl ?_
    refine vx_isub IG dc_W_bitsFrom_53 ?_
    refine vx_topi (y := nI (64 - j % 32)) (pk_sub (a := 64) (show j % 32 ≤ 64 by omega)) ?_
    refine vx_lshl (v := lN (dg 4294967296 (V p) (j / 32 + 2) % 2 ^ (j % 32) * 2 ^ (64 - j % 32))) IG dc_W_bitsFrom_54 ((wb_shl _ (by omega)).trans (bf_shl _ (by omega))) ?_
    refine vx_lor IG dc_W_bitsFrom_55 ?_
    refine vx_topl (y := lN (V p / 2 ^ j % 18446744073709551616)) (by rw [hall]; exact g_or' rfl hmid (by rw [← hall]; exact Nat.mod_lt _ (by decide))) ?_
    refine vx_ret (some (.long (lN (V p / 2 ^ j % 18446744073709551616)))) RG (vx_endl dc_W_bitsFrom_56) rfl ?_
    exact ⟨rfl, rfl, rfl, rfl⟩
end
end
section
theorem dc_E_init_0 : decode bc_E_init 0 = .ok (.aload_n 0, 1) := by decide +kernel
theorem dc_E_init_1 : decode bc_E_init 1 = .ok (.invokespecial 3, 3) := by decide +kernel
theorem dc_E_init_4 : decode bc_E_init 4 = .ok (.aload_n 0, 1) := by decide +kernel
theorem dc_E_init_5 : decode bc_E_init 5 = .ok (.new 9, 3) := by decide +kernel
theorem dc_E_init_8 : decode bc_E_init 8 = .ok (.dup, 1) := by decide +kernel
theorem dc_E_init_9 : decode bc_E_init 9 = .ok (.invokespecial 11, 3) := by decide +kernel
theorem dc_E_init_12 : decode bc_E_init 12 = .ok (.putfield 12, 3) := by decide +kernel
theorem dc_E_init_15 : decode bc_E_init 15 = .ok (.aload_n 0, 1) := by decide +kernel
theorem dc_E_init_16 : decode bc_E_init 16 = .ok (.new 9, 3) := by decide +kernel
theorem dc_E_init_19 : decode bc_E_init 19 = .ok (.dup, 1) := by decide +kernel
theorem dc_E_init_20 : decode bc_E_init 20 = .ok (.invokespecial 11, 3) := by decide +kernel
theorem dc_E_init_23 : decode bc_E_init 23 = .ok (.putfield 18, 3) := by decide +kernel
theorem dc_E_init_26 : decode bc_E_init 26 = .ok (.aload_n 0, 1) := by decide +kernel
theorem dc_E_init_27 : decode bc_E_init 27 = .ok (.iconst 0, 1) := by decide +kernel
theorem dc_E_init_28 : decode bc_E_init 28 = .ok (.putfield 21, 3) := by decide +kernel
theorem dc_E_init_31 : decode bc_E_init 31 = .ok (.aload_n 0, 1) := by decide +kernel
theorem dc_E_init_32 : decode bc_E_init 32 = .ok (.new 9, 3) := by decide +kernel
theorem dc_E_init_35 : decode bc_E_init 35 = .ok (.dup, 1) := by decide +kernel
theorem dc_E_init_36 : decode bc_E_init 36 = .ok (.invokespecial 11, 3) := by decide +kernel
theorem dc_E_init_39 : decode bc_E_init 39 = .ok (.putfield 25, 3) := by decide +kernel
theorem dc_E_init_42 : decode bc_E_init 42 = .ok (.aload_n 0, 1) := by decide +kernel
theorem dc_E_init_43 : decode bc_E_init 43 = .ok (.new 9, 3) := by decide +kernel
theorem dc_E_init_46 : decode bc_E_init 46 = .ok (.dup, 1) := by decide +kernel
theorem dc_E_init_47 : decode bc_E_init 47 = .ok (.invokespecial 11, 3) := by decide +kernel
theorem dc_E_init_50 : decode bc_E_init 50 = .ok (.putfield 28, 3) := by decide +kernel
theorem dc_E_init_53 : decode bc_E_init 53 = .ok (.aload_n 0, 1) := by decide +kernel
theorem dc_E_init_54 : decode bc_E_init 54 = .ok (.new 9, 3) := by decide +kernel
theorem dc_E_init_57 : decode bc_E_init 57 = .ok (.dup, 1) := by decide +kernel
theorem dc_E_init_58 : decode bc_E_init 58 = .ok (.invokespecial 11, 3) := by decide +kernel
theorem dc_E_init_61 : decode bc_E_init 61 = .ok (.putfield 31, 3) := by decide +kernel
theorem dc_E_init_64 : decode bc_E_init 64 = .ok (.aload_n 0, 1) := by decide +kernel
theorem dc_E_init_65 : decode bc_E_init 65 = .ok (.new 34, 3) := by decide +kernel
theorem dc_E_init_68 : decode bc_E_init 68 = .ok (.dup, 1) := by decide +kernel
theorem dc_E_init_69 : decode bc_E_init 69 = .ok (.invokespecial 36, 3) := by decide +kernel
theorem dc_E_init_72 : decode bc_E_init 72 = .ok (.putfield 37, 3) := by decide +kernel
theorem dc_E_init_75 : decode bc_E_init 75 = .ok (.aload_n 0, 1) := by decide +kernel
theorem dc_E_init_76 : decode bc_E_init 76 = .ok (.lconst 1, 1) := by decide +kernel
theorem dc_E_init_77 : decode bc_E_init 77 = .ok (.putfield 41, 3) := by decide +kernel
theorem dc_E_init_80 : decode bc_E_init 80 = .ok (.aload_n 0, 1) := by decide +kernel
theorem dc_E_init_81 : decode bc_E_init 81 = .ok (.lconst 0, 1) := by decide +kernel
theorem dc_E_init_82 : decode bc_E_init 82 = .ok (.putfield 45, 3) := by decide +kernel
theorem dc_E_init_85 : decode bc_E_init 85 = .ok (.aload_n 0, 1) := by decide +kernel
theorem dc_E_init_86 : decode bc_E_init 86 = .ok (.lconst 0, 1) := by decide +kernel
theorem dc_E_init_87 : decode bc_E_init 87 = .ok (.putfield 48, 3) := by decide +kernel
theorem dc_E_init_90 : decode bc_E_init 90 = .ok (.aload_n 0, 1) := by decide +kernel
theorem dc_E_init_91 : decode bc_E_init 91 = .ok (.lconst 1, 1) := by decide +kernel
theorem dc_E_init_92 : decode bc_E_init 92 = .ok (.putfield 51, 3) := by decide +kernel
theorem dc_E_init_95 : decode bc_E_init 95 = .ok (.return_, 1) := by decide +kernel
theorem dc_E_run_0 : decode bc_E_run 0 = .ok (.aload_n 1, 1) := by decide +kernel
theorem dc_E_run_1 : decode bc_E_run 1 = .ok (.aload_n 2, 1) := by decide +kernel
theorem dc_E_run_2 : decode bc_E_run 2 = .ok (.invokevirtual 54, 3) := by decide +kernel
theorem dc_E_run_5 : decode bc_E_run 5 = .ok (.ifCond .lt 7, 3) := by decide +kernel
theorem dc_E_run_8 : decode bc_E_run 8 = .ok (.iconst 1, 1) := by decide +kernel
theorem dc_E_run_9 : decode bc_E_run 9 = .ok (.goto 4, 3) := by decide +kernel
theorem dc_E_run_12 : decode bc_E_run 12 = .ok (.iconst 0, 1) := by decide +kernel
theorem dc_E_run_13 : decode bc_E_run 13 = .ok (.istore 4, 2) := by decide +kernel
theorem dc_E_run_15 : decode bc_E_run 15 = .ok (.aload_n 0, 1) := by decide +kernel
theorem dc_E_run_16 : decode bc_E_run 16 = .ok (.getfield 12, 3) := by decide +kernel
theorem dc_E_run_19 : decode bc_E_run 19 = .ok (.iload 4, 2) := by decide +kernel
theorem dc_E_run_21 : decode bc_E_run 21 = .ok (.ifCond .eq 7, 3) := by decide +kernel
theorem dc_E_run_24 : decode bc_E_run 24 = .ok (.aload_n 1, 1) := by decide +kernel
theorem dc_E_run_25 : decode bc_E_run 25 = .ok (.goto 4, 3) := by decide +kernel
theorem dc_E_run_28 : decode bc_E_run 28 = .ok (.aload_n 2, 1) := by decide +kernel
theorem dc_E_run_29 : decode bc_E_run 29 = .ok (.invokevirtual 58, 3) := by decide +kernel
theorem dc_E_run_32 : decode bc_E_run 32 = .ok (.aload_n 0, 1) := by decide +kernel
theorem dc_E_run_33 : decode bc_E_run 33 = .ok (.getfield 25, 3) := by decide +kernel
theorem dc_E_run_36 : decode bc_E_run 36 = .ok (.iload 4, 2) := by decide +kernel
theorem dc_E_run_38 : decode bc_E_run 38 = .ok (.ifCond .eq 7, 3) := by decide +kernel
theorem dc_E_run_41 : decode bc_E_run 41 = .ok (.aload_n 2, 1) := by decide +kernel
theorem dc_E_run_42 : decode bc_E_run 42 = .ok (.goto 4, 3) := by decide +kernel
theorem dc_E_run_45 : decode bc_E_run 45 = .ok (.aload_n 1, 1) := by decide +kernel
theorem dc_E_run_46 : decode bc_E_run 46 = .ok (.invokevirtual 58, 3) := by decide +kernel
theorem dc_E_run_49 : decode bc_E_run 49 = .ok (.aload_n 0, 1) := by decide +kernel
theorem dc_E_run_50 : decode bc_E_run 50 = .ok (.getfield 18, 3) := by decide +kernel
theorem dc_E_run_53 : decode bc_E_run 53 = .ok (.invokevirtual 62, 3) := by decide +kernel
theorem dc_E_run_56 : decode bc_E_run 56 = .ok (.aload_n 0, 1) := by decide +kernel
theorem dc_E_run_57 : decode bc_E_run 57 = .ok (.getfield 28, 3) := by decide +kernel
theorem dc_E_run_60 : decode bc_E_run 60 = .ok (.lconst 1, 1) := by decide +kernel
theorem dc_E_run_61 : decode bc_E_run 61 = .ok (.invokevirtual 65, 3) := by decide +kernel
theorem dc_E_run_64 : decode bc_E_run 64 = .ok (.aload_n 0, 1) := by decide +kernel
theorem dc_E_run_65 : decode bc_E_run 65 = .ok (.iconst 1, 1) := by decide +kernel
theorem dc_E_run_66 : decode bc_E_run 66 = .ok (.putfield 21, 3) := by decide +kernel
theorem dc_E_run_69 : decode bc_E_run 69 = .ok (.iconst 0, 1) := by decide +kernel
theorem dc_E_run_70 : decode bc_E_run 70 = .ok (.istore 5, 2) := by decide +kernel
theorem dc_E_run_72 : decode bc_E_run 72 = .ok (.iload 5, 2) := by decide +kernel
theorem dc_E_run_74 : decode bc_E_run 74 = .ok (.ldc 69, 2) := by decide +kernel
theorem dc_E_run_76 : decode bc_E_run 76 = .ok (.if_icmp .ge 54, 3) := by decide +kernel
theorem dc_E_run_79 : decode bc_E_run 79 = .ok (.aload_n 0, 1) := by decide +kernel
theorem dc_E_run_80 : decode bc_E_run 80 = .ok (.getfield 25, 3) := by decide +kernel
theorem dc_E_run_83 : decode bc_E_run 83 = .ok (.invokevirtual 70, 3) := by decide +kernel
theorem dc_E_run_86 : decode bc_E_run 86 = .ok (.ifCond .ne 44, 3) := by decide +kernel
theorem dc_E_run_89 : decode bc_E_run 89 = .ok (.aload_n 0, 1) := by decide +kernel
theorem dc_E_run_90 : decode bc_E_run 90 = .ok (.invokevirtual 74, 3) := by decide +kernel
theorem dc_E_run_93 : decode bc_E_run 93 = .ok (.ifCond .eq 11, 3) := by decide +kernel
theorem dc_E_run_96 : decode bc_E_run 96 = .ok (.aload_n 0, 1) := by decide +kernel
theorem dc_E_run_97 : decode bc_E_run 97 = .ok (.iload_n 3, 1) := by decide +kernel
theorem dc_E_run_98 : decode bc_E_run 98 = .ok (.invokevirtual 77, 3) := by decide +kernel
theorem dc_E_run_101 : decode bc_E_run 101 = .ok (.goto 23, 3) := by decide +kernel
theorem dc_E_run_104 : decode bc_E_run 104 = .ok (.aload_n 0, 1) := by decide +kernel
theorem dc_E_run_105 : decode bc_E_run 105 = .ok (.getfield 37, 3) := by decide +kernel
theorem dc_E_run_108 : decode bc_E_run 108 = .ok (.aload_n 0, 1) := by decide +kernel
theorem dc_E_run_109 : decode bc_E_run 109 = .ok (.getfield 12, 3) := by decide +kernel
theorem dc_E_run_112 : decode bc_E_run 112 = .ok (.aload_n 0, 1) := by decide +kernel
theorem dc_E_run_113 : decode bc_E_run 113 = .ok (.getfield 25, 3) := by decide +kernel
theorem dc_E_run_116 : decode bc_E_run 116 = .ok (.invokevirtual 81, 3) := by decide +kernel
theorem dc_E_run_119 : decode bc_E_run 119 = .ok (.aload_n 0, 1) := by decide +kernel
theorem dc_E_run_120 : decode bc_E_run 120 = .ok (.iload_n 3, 1) := by decide +kernel
theorem dc_E_run_121 : decode bc_E_run 121 = .ok (.invokevirtual 85, 3) := by decide +kernel
theorem dc_E_run_124 : decode bc_E_run 124 = .ok (.iinc 5 1, 3) := by decide +kernel
theorem dc_E_run_127 : decode bc_E_run 127 = .ok (.goto (-55), 3) := by decide +kernel
theorem dc_E_run_130 : decode bc_E_run 130 = .ok (.return_, 1) := by decide +kernel
theorem dc_E_foresee_0 : decode bc_E_foresee 0 = .ok (.iconst 0, 1) := by decide +kernel
theorem dc_E_foresee_1 : decode bc_E_foresee 1 = .ok (.aload_n 0, 1) := by decide +kernel
theorem dc_E_foresee_2 : decode bc_E_foresee 2 = .ok (.getfield 12, 3) := by decide +kernel
theorem dc_E_foresee_5 : decode bc_E_foresee 5 = .ok (.invokevirtual 88, 3) := by decide +kernel
theorem dc_E_foresee_8 : decode bc_E_foresee 8 = .ok (.bipush 62, 2) := by decide +kernel
theorem dc_E_foresee_10 : decode bc_E_foresee 10 = .ok (.isub, 1) := by decide +kernel
theorem dc_E_foresee_11 : decode bc_E_foresee 11 = .ok (.invokestatic 92, 3) := by decide +kernel
theorem dc_E_foresee_14 : decode bc_E_foresee 14 = .ok (.istore_n 1, 1) := by decide +kernel
theorem dc_E_foresee_15 : decode bc_E_foresee 15 = .ok (.aload_n 0, 1) := by decide +kernel
theorem dc_E_foresee_16 : decode bc_E_foresee 16 = .ok (.getfield 12, 3) := by decide +kernel
theorem dc_E_foresee_19 : decode bc_E_foresee 19 = .ok (.iload_n 1, 1) := by decide +kernel
theorem dc_E_foresee_20 : decode bc_E_foresee 20 = .ok (.invokevirtual 98, 3) := by decide +kernel
theorem dc_E_foresee_23 : decode bc_E_foresee 23 = .ok (.lstore_n 2, 1) := by decide +kernel
theorem dc_E_foresee_24 : decode bc_E_foresee 24 = .ok (.aload_n 0, 1) := by decide +kernel
theorem dc_E_foresee_25 : decode bc_E_foresee 25 = .ok (.getfield 25, 3) := by decide +kernel
theorem dc_E_foresee_28 : decode bc_E_foresee 28 = .ok (.iload_n 1, 1) := by decide +kernel
theorem dc_E_foresee_29 : decode bc_E_foresee 29 = .ok (.invokevirtual 98, 3) := by decide +kernel
theorem dc_E_foresee_32 : decode bc_E_foresee 32 = .ok (.lstore 4, 2) := by decide +kernel
theorem dc_E_foresee_34 : decode bc_E_foresee 34 = .ok (.aload_n 0, 1) := by decide +kernel
theorem dc_E_foresee_35 : decode bc_E_foresee 35 = .ok (.lconst 1, 1) := by decide +kernel
theorem dc_E_foresee_36 : decode bc_E_foresee 36 = .ok (.putfield 41, 3) := by decide +kernel
theorem dc_E_foresee_39 : decode bc_E_foresee 39 = .ok (.aload_n 0, 1) := by decide +kernel
theorem dc_E_foresee_40 : decode bc_E_foresee 40 = .ok (.lconst 0, 1) := by decide +kernel
theorem dc_E_foresee_41 : decode bc_E_foresee 41 = .ok (.putfield 45, 3) := by decide +kernel
theorem dc_E_foresee_44 : decode bc_E_foresee 44 = .ok (.aload_n 0, 1) := by decide +kernel
theorem dc_E_foresee_45 : decode bc_E_foresee 45 = .ok (.lconst 0, 1) := by decide +kernel
theorem dc_E_foresee_46 : decode bc_E_foresee 46 = .ok (.putfield 48, 3) := by decide +kernel
theorem dc_E_foresee_49 : decode bc_E_foresee 49 = .ok (.aload_n 0, 1) := by decide +kernel
theorem dc_E_foresee_50 : decode bc_E_foresee 50 = .ok (.lconst 1, 1) := by decide +kernel
theorem dc_E_foresee_51 : decode bc_E_foresee 51 = .ok (.putfield 51, 3) := by decide +kernel
theorem dc_E_foresee_54 : decode bc_E_foresee 54 = .ok (.iconst 0, 1) := by decide +kernel
theorem dc_E_foresee_55 : decode bc_E_foresee 55 = .ok (.istore 6, 2) := by decide +kernel
theorem dc_E_foresee_57 : decode bc_E_foresee 57 = .ok (.iload 6, 2) := by decide +kernel
theorem dc_E_foresee_59 : decode bc_E_foresee 59 = .ok (.bipush 64, 2) := by decide +kernel
theorem dc_E_foresee_61 : decode bc_E_foresee 61 = .ok (.if_icmp .ge 100, 3) := by decide +kernel
theorem dc_E_foresee_64 : decode bc_E_foresee 64 = .ok (.lload 4, 2) := by decide +kernel
theorem dc_E_foresee_66 : decode bc_E_foresee 66 = .ok (.aload_n 0, 1) := by decide +kernel
theorem dc_E_foresee_67 : decode bc_E_foresee 67 = .ok (.getfield 48, 3) := by decide +kernel
theorem dc_E_foresee_70 : decode bc_E_foresee 70 = .ok (.ladd, 1) := by decide +kernel
theorem dc_E_foresee_71 : decode bc_E_foresee 71 = .ok (.lconst 0, 1) := by decide +kernel
theorem dc_E_foresee_72 : decode bc_E_foresee 72 = .ok (.lcmp, 1) := by decide +kernel
theorem dc_E_foresee_73 : decode bc_E_foresee 73 = .ok (.ifCond .le 88, 3) := by decide +kernel
theorem dc_E_foresee_76 : decode bc_E_foresee 76 = .ok (.lload 4, 2) := by decide +kernel
theorem dc_E_foresee_78 : decode bc_E_foresee 78 = .ok (.aload_n 0, 1) := by decide +kernel
theorem dc_E_foresee_79 : decode bc_E_foresee 79 = .ok (.getfield 51, 3) := by decide +kernel
theorem dc_E_foresee_82 : decode bc_E_foresee 82 = .ok (.ladd, 1) := by decide +kernel
theorem dc_E_foresee_83 : decode bc_E_foresee 83 = .ok (.lconst 0, 1) := by decide +kernel
theorem dc_E_foresee_84 : decode bc_E_foresee 84 = .ok (.lcmp, 1) := by decide +kernel
theorem dc_E_foresee_85 : decode bc_E_foresee 85 = .ok (.ifCond .gt 6, 3) := by decide +kernel
theorem dc_E_foresee_88 : decode bc_E_foresee 88 = .ok (.goto 73, 3) := by decide +kernel
theorem dc_E_foresee_91 : decode bc_E_foresee 91 = .ok (.lload_n 2, 1) := by decide +kernel
theorem dc_E_foresee_92 : decode bc_E_foresee 92 = .ok (.aload_n 0, 1) := by decide +kernel
theorem dc_E_foresee_93 : decode bc_E_foresee 93 = .ok (.getfield 41, 3) := by decide +kernel
theorem dc_E_foresee_96 : decode bc_E_foresee 96 = .ok (.ladd, 1) := by decide +kernel
theorem dc_E_foresee_97 : decode bc_E_foresee 97 = .ok (.lload 4, 2) := by decide +kernel
theorem dc_E_foresee_99 : decode bc_E_foresee 99 = .ok (.aload_n 0, 1) := by decide +kernel
theorem dc_E_foresee_100 : decode bc_E_foresee 100 = .ok (.getfield 48, 3) := by decide +kernel
theorem dc_E_foresee_103 : decode bc_E_foresee 103 = .ok (.ladd, 1) := by decide +kernel
theorem dc_E_foresee_104 : decode bc_E_foresee 104 = .ok (.ldiv, 1) := by decide +kernel
theorem dc_E_foresee_105 : decode bc_E_foresee 105 = .ok (.lstore 7, 2) := by decide +kernel
theorem dc_E_foresee_107 : decode bc_E_foresee 107 = .ok (.lload 7, 2) := by decide +kernel
theorem dc_E_foresee_109 : decode bc_E_foresee 109 = .ok (.lload_n 2, 1) := by decide +kernel
theorem dc_E_foresee_110 : decode bc_E_foresee 110 = .ok (.aload_n 0, 1) := by decide +kernel
theorem dc_E_foresee_111 : decode bc_E_foresee 111 = .ok (.getfield 45, 3) := by decide +kernel
theorem dc_E_foresee_114 : decode bc_E_foresee 114 = .ok (.ladd, 1) := by decide +kernel
theorem dc_E_foresee_115 : decode bc_E_foresee 115 = .ok (.lload 4, 2) := by decide +kernel
theorem dc_E_foresee_117 : decode bc_E_foresee 117 = .ok (.aload_n 0, 1) := by decide +kernel
theorem dc_E_foresee_118 : decode bc_E_foresee 118 = .ok (.getfield 51, 3) := by decide +kernel
theorem dc_E_foresee_121 : decode bc_E_foresee 121 = .ok (.ladd, 1) := by decide +kernel
theorem dc_E_foresee_122 : decode bc_E_foresee 122 = .ok (.ldiv, 1) := by decide +kernel
theorem dc_E_foresee_123 : decode bc_E_foresee 123 = .ok (.lcmp, 1) := by decide +kernel
theorem dc_E_foresee_124 : decode bc_E_foresee 124 = .ok (.ifCond .ne 37, 3) := by decide +kernel
theorem dc_E_foresee_127 : decode bc_E_foresee 127 = .ok (.aload_n 0, 1) := by decide +kernel
theorem dc_E_foresee_128 : decode bc_E_foresee 128 = .ok (.lload 7, 2) := by decide +kernel
theorem dc_E_foresee_130 : decode bc_E_foresee 130 = .ok (.invokevirtual 102, 3) := by decide +kernel
theorem dc_E_foresee_133 : decode bc_E_foresee 133 = .ok (.ifCond .ne 6, 3) := by decide +kernel
theorem dc_E_foresee_136 : decode bc_E_foresee 136 = .ok (.goto 25, 3) := by decide +kernel
theorem dc_E_foresee_139 : decode bc_E_foresee 139 = .ok (.lload_n 2, 1) := by decide +kernel
theorem dc_E_foresee_140 : decode bc_E_foresee 140 = .ok (.lload 7, 2) := by decide +kernel
theorem dc_E_foresee_142 : decode bc_E_foresee 142 = .ok (.lload 4, 2) := by decide +kernel
theorem dc_E_foresee_144 : decode bc_E_foresee 144 = .ok (.lmul, 1) := by decide +kernel
theorem dc_E_foresee_145 : decode bc_E_foresee 145 = .ok (.lsub, 1) := by decide +kernel
theorem dc_E_foresee_146 : decode bc_E_foresee 146 = .ok (.lstore 9, 2) := by decide +kernel
theorem dc_E_foresee_148 : decode bc_E_foresee 148 = .ok (.lload 4, 2) := by decide +kernel
theorem dc_E_foresee_150 : decode bc_E_foresee 150 = .ok (.lstore_n 2, 1) := by decide +kernel
theorem dc_E_foresee_151 : decode bc_E_foresee 151 = .ok (.lload 9, 2) := by decide +kernel
theorem dc_E_foresee_153 : decode bc_E_foresee 153 = .ok (.lstore 4, 2) := by decide +kernel
theorem dc_E_foresee_155 : decode bc_E_foresee 155 = .ok (.iinc 6 1, 3) := by decide +kernel
theorem dc_E_foresee_158 : decode bc_E_foresee 158 = .ok (.goto (-101), 3) := by decide +kernel
theorem dc_E_foresee_161 : decode bc_E_foresee 161 = .ok (.aload_n 0, 1) := by decide +kernel
theorem dc_E_foresee_162 : decode bc_E_foresee 162 = .ok (.getfield 45, 3) := by decide +kernel
theorem dc_E_foresee_165 : decode bc_E_foresee 165 = .ok (.lconst 0, 1) := by decide +kernel
theorem dc_E_foresee_166 : decode bc_E_foresee 166 = .ok (.lcmp, 1) := by decide +kernel
theorem dc_E_foresee_167 : decode bc_E_foresee 167 = .ok (.ifCond .eq 7, 3) := by decide +kernel
theorem dc_E_foresee_170 : decode bc_E_foresee 170 = .ok (.iconst 1, 1) := by decide +kernel
theorem dc_E_foresee_171 : decode bc_E_foresee 171 = .ok (.goto 4, 3) := by decide +kernel
theorem dc_E_foresee_174 : decode bc_E_foresee 174 = .ok (.iconst 0, 1) := by decide +kernel
theorem dc_E_foresee_175 : decode bc_E_foresee 175 = .ok (.ireturn, 1) := by decide +kernel
theorem dc_E_turn_0 : decode bc_E_turn 0 = .ok (.lload_n 1, 1) := by decide +kernel
theorem dc_E_turn_1 : decode bc_E_turn 1 = .ok (.ldc2_w 106, 3) := by decide +kernel
theorem dc_E_turn_4 : decode bc_E_turn 4 = .ok (.lcmp, 1) := by decide +kernel
theorem dc_E_turn_5 : decode bc_E_turn 5 = .ok (.ifCond .le 5, 3) := by decide +kernel
theorem dc_E_turn_8 : decode bc_E_turn 8 = .ok (.iconst 0, 1) := by decide +kernel
theorem dc_E_turn_9 : decode bc_E_turn 9 = .ok (.ireturn, 1) := by decide +kernel
theorem dc_E_turn_10 : decode bc_E_turn 10 = .ok (.aload_n 0, 1) := by decide +kernel
theorem dc_E_turn_11 : decode bc_E_turn 11 = .ok (.getfield 41, 3) := by decide +kernel
theorem dc_E_turn_14 : decode bc_E_turn 14 = .ok (.lload_n 1, 1) := by decide +kernel
theorem dc_E_turn_15 : decode bc_E_turn 15 = .ok (.aload_n 0, 1) := by decide +kernel
theorem dc_E_turn_16 : decode bc_E_turn 16 = .ok (.getfield 48, 3) := by decide +kernel
theorem dc_E_turn_19 : decode bc_E_turn 19 = .ok (.lmul, 1) := by decide +kernel
theorem dc_E_turn_20 : decode bc_E_turn 20 = .ok (.lsub, 1) := by decide +kernel
theorem dc_E_turn_21 : decode bc_E_turn 21 = .ok (.lstore_n 3, 1) := by decide +kernel
theorem dc_E_turn_22 : decode bc_E_turn 22 = .ok (.aload_n 0, 1) := by decide +kernel
theorem dc_E_turn_23 : decode bc_E_turn 23 = .ok (.getfield 45, 3) := by decide +kernel
theorem dc_E_turn_26 : decode bc_E_turn 26 = .ok (.lload_n 1, 1) := by decide +kernel
theorem dc_E_turn_27 : decode bc_E_turn 27 = .ok (.aload_n 0, 1) := by decide +kernel
theorem dc_E_turn_28 : decode bc_E_turn 28 = .ok (.getfield 51, 3) := by decide +kernel
theorem dc_E_turn_31 : decode bc_E_turn 31 = .ok (.lmul, 1) := by decide +kernel
theorem dc_E_turn_32 : decode bc_E_turn 32 = .ok (.lsub, 1) := by decide +kernel
theorem dc_E_turn_33 : decode bc_E_turn 33 = .ok (.lstore 5, 2) := by decide +kernel
theorem dc_E_turn_35 : decode bc_E_turn 35 = .ok (.lload_n 3, 1) := by decide +kernel
theorem dc_E_turn_36 : decode bc_E_turn 36 = .ok (.invokestatic 108, 3) := by decide +kernel
theorem dc_E_turn_39 : decode bc_E_turn 39 = .ok (.lload 5, 2) := by decide +kernel
theorem dc_E_turn_41 : decode bc_E_turn 41 = .ok (.invokestatic 108, 3) := by decide +kernel
theorem dc_E_turn_44 : decode bc_E_turn 44 = .ok (.invokestatic 112, 3) := by decide +kernel
theorem dc_E_turn_47 : decode bc_E_turn 47 = .ok (.ldc2_w 106, 3) := by decide +kernel
theorem dc_E_turn_50 : decode bc_E_turn 50 = .ok (.lcmp, 1) := by decide +kernel
theorem dc_E_turn_51 : decode bc_E_turn 51 = .ok (.ifCond .le 5, 3) := by decide +kernel
theorem dc_E_turn_54 : decode bc_E_turn 54 = .ok (.iconst 0, 1) := by decide +kernel
theorem dc_E_turn_55 : decode bc_E_turn 55 = .ok (.ireturn, 1) := by decide +kernel
theorem dc_E_turn_56 : decode bc_E_turn 56 = .ok (.aload_n 0, 1) := by decide +kernel
theorem dc_E_turn_57 : decode bc_E_turn 57 = .ok (.aload_n 0, 1) := by decide +kernel
theorem dc_E_turn_58 : decode bc_E_turn 58 = .ok (.getfield 48, 3) := by decide +kernel
theorem dc_E_turn_61 : decode bc_E_turn 61 = .ok (.putfield 41, 3) := by decide +kernel
theorem dc_E_turn_64 : decode bc_E_turn 64 = .ok (.aload_n 0, 1) := by decide +kernel
theorem dc_E_turn_65 : decode bc_E_turn 65 = .ok (.aload_n 0, 1) := by decide +kernel
theorem dc_E_turn_66 : decode bc_E_turn 66 = .ok (.getfield 51, 3) := by decide +kernel
theorem dc_E_turn_69 : decode bc_E_turn 69 = .ok (.putfield 45, 3) := by decide +kernel
theorem dc_E_turn_72 : decode bc_E_turn 72 = .ok (.aload_n 0, 1) := by decide +kernel
theorem dc_E_turn_73 : decode bc_E_turn 73 = .ok (.lload_n 3, 1) := by decide +kernel
theorem dc_E_turn_74 : decode bc_E_turn 74 = .ok (.putfield 48, 3) := by decide +kernel
theorem dc_E_turn_77 : decode bc_E_turn 77 = .ok (.aload_n 0, 1) := by decide +kernel
theorem dc_E_turn_78 : decode bc_E_turn 78 = .ok (.lload 5, 2) := by decide +kernel
theorem dc_E_turn_80 : decode bc_E_turn 80 = .ok (.putfield 51, 3) := by decide +kernel
theorem dc_E_turn_83 : decode bc_E_turn 83 = .ok (.iconst 1, 1) := by decide +kernel
theorem dc_E_turn_84 : decode bc_E_turn 84 = .ok (.ireturn, 1) := by decide +kernel
theorem dc_E_leap_0 : decode bc_E_leap 0 = .ok (.aload_n 0, 1) := by decide +kernel
theorem dc_E_leap_1 : decode bc_E_leap 1 = .ok (.invokevirtual 115, 3) := by decide +kernel
theorem dc_E_leap_4 : decode bc_E_leap 4 = .ok (.iload_n 1, 1) := by decide +kernel
theorem dc_E_leap_5 : decode bc_E_leap 5 = .ok (.ifCond .eq 7, 3) := by decide +kernel
theorem dc_E_leap_8 : decode bc_E_leap 8 = .ok (.aload_n 0, 1) := by decide +kernel
theorem dc_E_leap_9 : decode bc_E_leap 9 = .ok (.invokevirtual 118, 3) := by decide +kernel
theorem dc_E_leap_12 : decode bc_E_leap 12 = .ok (.aload_n 0, 1) := by decide +kernel
theorem dc_E_leap_13 : decode bc_E_leap 13 = .ok (.getfield 51, 3) := by decide +kernel
theorem dc_E_leap_16 : decode bc_E_leap 16 = .ok (.lconst 0, 1) := by decide +kernel
theorem dc_E_leap_17 : decode bc_E_leap 17 = .ok (.lcmp, 1) := by decide +kernel
theorem dc_E_leap_18 : decode bc_E_leap 18 = .ok (.ifCond .ge 19, 3) := by decide +kernel
theorem dc_E_leap_21 : decode bc_E_leap 21 = .ok (.aload_n 0, 1) := by decide +kernel
theorem dc_E_leap_22 : decode bc_E_leap 22 = .ok (.aload_n 0, 1) := by decide +kernel
theorem dc_E_leap_23 : decode bc_E_leap 23 = .ok (.getfield 21, 3) := by decide +kernel
theorem dc_E_leap_26 : decode bc_E_leap 26 = .ok (.ifCond .ne 7, 3) := by decide +kernel
theorem dc_E_leap_29 : decode bc_E_leap 29 = .ok (.iconst 1, 1) := by decide +kernel
theorem dc_E_leap_30 : decode bc_E_leap 30 = .ok (.goto 4, 3) := by decide +kernel
theorem dc_E_leap_33 : decode bc_E_leap 33 = .ok (.iconst 0, 1) := by decide +kernel
theorem dc_E_leap_34 : decode bc_E_leap 34 = .ok (.putfield 21, 3) := by decide +kernel
theorem dc_E_leap_37 : decode bc_E_leap 37 = .ok (.return_, 1) := by decide +kernel
theorem dc_E_leapRemainders_0 : decode bc_E_leapRemainders 0 = .ok (.aload_n 0, 1) := by decide +kernel
theorem dc_E_leapRemainders_1 : decode bc_E_leapRemainders 1 = .ok (.getfield 12, 3) := by decide +kernel
theorem dc_E_leapRemainders_4 : decode bc_E_leapRemainders 4 = .ok (.getfield 121, 3) := by decide +kernel
theorem dc_E_leapRemainders_7 : decode bc_E_leapRemainders 7 = .ok (.istore_n 1, 1) := by decide +kernel
theorem dc_E_leapRemainders_8 : decode bc_E_leapRemainders 8 = .ok (.aload_n 0, 1) := by decide +kernel
theorem dc_E_leapRemainders_9 : decode bc_E_leapRemainders 9 = .ok (.getfield 25, 3) := by decide +kernel
theorem dc_E_leapRemainders_12 : decode bc_E_leapRemainders 12 = .ok (.iload_n 1, 1) := by decide +kernel
theorem dc_E_leapRemainders_13 : decode bc_E_leapRemainders 13 = .ok (.invokevirtual 125, 3) := by decide +kernel
theorem dc_E_leapRemainders_16 : decode bc_E_leapRemainders 16 = .ok (.aload_n 0, 1) := by decide +kernel
theorem dc_E_leapRemainders_17 : decode bc_E_leapRemainders 17 = .ok (.getfield 12, 3) := by decide +kernel
theorem dc_E_leapRemainders_20 : decode bc_E_leapRemainders 20 = .ok (.getfield 129, 3) := by decide +kernel
theorem dc_E_leapRemainders_23 : decode bc_E_leapRemainders 23 = .ok (.aload_n 0, 1) := by decide +kernel
theorem dc_E_leapRemainders_24 : decode bc_E_leapRemainders 24 = .ok (.getfield 25, 3) := by decide +kernel
theorem dc_E_leapRemainders_27 : decode bc_E_leapRemainders 27 = .ok (.getfield 129, 3) := by decide +kernel
theorem dc_E_leapRemainders_30 : decode bc_E_leapRemainders 30 = .ok (.iload_n 1, 1) := by decide +kernel
theorem dc_E_leapRemainders_31 : decode bc_E_leapRemainders 31 = .ok (.aload_n 0, 1) := by decide +kernel
theorem dc_E_leapRemainders_32 : decode bc_E_leapRemainders 32 = .ok (.getfield 41, 3) := by decide +kernel
theorem dc_E_leapRemainders_35 : decode bc_E_leapRemainders 35 = .ok (.aload_n 0, 1) := by decide +kernel
theorem dc_E_leapRemainders_36 : decode bc_E_leapRemainders 36 = .ok (.getfield 45, 3) := by decide +kernel
theorem dc_E_leapRemainders_39 : decode bc_E_leapRemainders 39 = .ok (.aload_n 0, 1) := by decide +kernel
theorem dc_E_leapRemainders_40 : decode bc_E_leapRemainders 40 = .ok (.getfield 48, 3) := by decide +kernel
theorem dc_E_leapRemainders_43 : decode bc_E_leapRemainders 43 = .ok (.aload_n 0, 1) := by decide +kernel
theorem dc_E_leapRemainders_44 : decode bc_E_leapRemainders 44 = .ok (.getfield 51, 3) := by decide +kernel
theorem dc_E_leapRemainders_47 : decode bc_E_leapRemainders 47 = .ok (.invokestatic 133, 3) := by decide +kernel
theorem dc_E_leapRemainders_50 : decode bc_E_leapRemainders 50 = .ok (.aload_n 0, 1) := by decide +kernel
theorem dc_E_leapRemainders_51 : decode bc_E_leapRemainders 51 = .ok (.getfield 12, 3) := by decide +kernel
theorem dc_E_leapRemainders_54 : decode bc_E_leapRemainders 54 = .ok (.iload_n 1, 1) := by decide +kernel
theorem dc_E_leapRemainders_55 : decode bc_E_leapRemainders 55 = .ok (.invokevirtual 137, 3) := by decide +kernel
theorem dc_E_leapRemainders_58 : decode bc_E_leapRemainders 58 = .ok (.aload_n 0, 1) := by decide +kernel
theorem dc_E_leapRemainders_59 : decode bc_E_leapRemainders 59 = .ok (.getfield 25, 3) := by decide +kernel
theorem dc_E_leapRemainders_62 : decode bc_E_leapRemainders 62 = .ok (.iload_n 1, 1) := by decide +kernel
theorem dc_E_leapRemainders_63 : decode bc_E_leapRemainders 63 = .ok (.invokevirtual 137, 3) := by decide +kernel
theorem dc_E_leapRemainders_66 : decode bc_E_leapRemainders 66 = .ok (.return_, 1) := by decide +kernel
theorem dc_E_multiply_0 : decode bc_E_multiply 0 = .ok (.lconst 0, 1) := by decide +kernel
theorem dc_E_multiply_1 : decode bc_E_multiply 1 = .ok (.lstore 11, 2) := by decide +kernel
theorem dc_E_multiply_3 : decode bc_E_multiply 3 = .ok (.lconst 0, 1) := by decide +kernel
theorem dc_E_multiply_4 : decode bc_E_multiply 4 = .ok (.lstore 13, 2) := by decide +kernel
theorem dc_E_multiply_6 : decode bc_E_multiply 6 = .ok (.iconst 0, 1) := by decide +kernel
theorem dc_E_multiply_7 : decode bc_E_multiply 7 = .ok (.istore 15, 2) := by decide +kernel
theorem dc_E_multiply_9 : decode bc_E_multiply 9 = .ok (.iload 15, 2) := by decide +kernel
theorem dc_E_multiply_11 : decode bc_E_multiply 11 = .ok (.iload_n 2, 1) := by decide +kernel
theorem dc_E_multiply_12 : decode bc_E_multiply 12 = .ok (.if_icmp .ge 82, 3) := by decide +kernel
theorem dc_E_multiply_15 : decode bc_E_multiply 15 = .ok (.lload_n 3, 1) := by decide +kernel
theorem dc_E_multiply_16 : decode bc_E_multiply 16 = .ok (.aload_n 0, 1) := by decide +kernel
theorem dc_E_multiply_17 : decode bc_E_multiply 17 = .ok (.iload 15, 2) := by decide +kernel
theorem dc_E_multiply_19 : decode bc_E_multiply 19 = .ok (.laload, 1) := by decide +kernel
theorem dc_E_multiply_20 : decode bc_E_multiply 20 = .ok (.lmul, 1) := by decide +kernel
theorem dc_E_multiply_21 : decode bc_E_multiply 21 = .ok (.lload 5, 2) := by decide +kernel
theorem dc_E_multiply_23 : decode bc_E_multiply 23 = .ok (.aload_n 1, 1) := by decide +kernel
theorem dc_E_multiply_24 : decode bc_E_multiply 24 = .ok (.iload 15, 2) := by decide +kernel
theorem dc_E_multiply_26 : decode bc_E_multiply 26 = .ok (.laload, 1) := by decide +kernel
theorem dc_E_multiply_27 : decode bc_E_multiply 27 = .ok (.lmul, 1) := by decide +kernel
theorem dc_E_multiply_28 : decode bc_E_multiply 28 = .ok (.ladd, 1) := by decide +kernel
theorem dc_E_multiply_29 : decode bc_E_multiply 29 = .ok (.lload 11, 2) := by decide +kernel
theorem dc_E_multiply_31 : decode bc_E_multiply 31 = .ok (.ladd, 1) := by decide +kernel
theorem dc_E_multiply_32 : decode bc_E_multiply 32 = .ok (.lstore 16, 2) := by decide +kernel
theorem dc_E_multiply_34 : decode bc_E_multiply 34 = .ok (.lload 7, 2) := by decide +kernel
theorem dc_E_multiply_36 : decode bc_E_multiply 36 = .ok (.aload_n 0, 1) := by decide +kernel
theorem dc_E_multiply_37 : decode bc_E_multiply 37 = .ok (.iload 15, 2) := by decide +kernel
theorem dc_E_multiply_39 : decode bc_E_multiply 39 = .ok (.laload, 1) := by decide +kernel
theorem dc_E_multiply_40 : decode bc_E_multiply 40 = .ok (.lmul, 1) := by decide +kernel
theorem dc_E_multiply_41 : decode bc_E_multiply 41 = .ok (.lload 9, 2) := by decide +kernel
theorem dc_E_multiply_43 : decode bc_E_multiply 43 = .ok (.aload_n 1, 1) := by decide +kernel
theorem dc_E_multiply_44 : decode bc_E_multiply 44 = .ok (.iload 15, 2) := by decide +kernel
theorem dc_E_multiply_46 : decode bc_E_multiply 46 = .ok (.laload, 1) := by decide +kernel
theorem dc_E_multiply_47 : decode bc_E_multiply 47 = .ok (.lmul, 1) := by decide +kernel
theorem dc_E_multiply_48 : decode bc_E_multiply 48 = .ok (.ladd, 1) := by decide +kernel
theorem dc_E_multiply_49 : decode bc_E_multiply 49 = .ok (.lload 13, 2) := by decide +kernel
theorem dc_E_multiply_51 : decode bc_E_multiply 51 = .ok (.ladd, 1) := by decide +kernel
theorem dc_E_multiply_52 : decode bc_E_multiply 52 = .ok (.lstore 18, 2) := by decide +kernel
theorem dc_E_multiply_54 : decode bc_E_multiply 54 = .ok (.aload_n 0, 1) := by decide +kernel
theorem dc_E_multiply_55 : decode bc_E_multiply 55 = .ok (.iload 15, 2) := by decide +kernel
theorem dc_E_multiply_57 : decode bc_E_multiply 57 = .ok (.lload 16, 2) := by decide +kernel
theorem dc_E_multiply_59 : decode bc_E_multiply 59 = .ok (.ldc2_w 140, 3) := by decide +kernel
theorem dc_E_multiply_62 : decode bc_E_multiply 62 = .ok (.land, 1) := by decide +kernel
theorem dc_E_multiply_63 : decode bc_E_multiply 63 = .ok (.lastore, 1) := by decide +kernel
theorem dc_E_multiply_64 : decode bc_E_multiply 64 = .ok (.aload_n 1, 1) := by decide +kernel
theorem dc_E_multiply_65 : decode bc_E_multiply 65 = .ok (.iload 15, 2) := by decide +kernel
theorem dc_E_multiply_67 : decode bc_E_multiply 67 = .ok (.lload 18, 2) := by decide +kernel
theorem dc_E_multiply_69 : decode bc_E_multiply 69 = .ok (.ldc2_w 140, 3) := by decide +kernel
theorem dc_E_multiply_72 : decode bc_E_multiply 72 = .ok (.land, 1) := by decide +kernel
theorem dc_E_multiply_73 : decode bc_E_multiply 73 = .ok (.lastore, 1) := by decide +kernel
theorem dc_E_multiply_74 : decode bc_E_multiply 74 = .ok (.lload 16, 2) := by decide +kernel
theorem dc_E_multiply_76 : decode bc_E_multiply 76 = .ok (.bipush 32, 2) := by decide +kernel
theorem dc_E_multiply_78 : decode bc_E_multiply 78 = .ok (.lshr, 1) := by decide +kernel
theorem dc_E_multiply_79 : decode bc_E_multiply 79 = .ok (.lstore 11, 2) := by decide +kernel
theorem dc_E_multiply_81 : decode bc_E_multiply 81 = .ok (.lload 18, 2) := by decide +kernel
theorem dc_E_multiply_83 : decode bc_E_multiply 83 = .ok (.bipush 32, 2) := by decide +kernel
theorem dc_E_multiply_85 : decode bc_E_multiply 85 = .ok (.lshr, 1) := by decide +kernel
theorem dc_E_multiply_86 : decode bc_E_multiply 86 = .ok (.lstore 13, 2) := by decide +kernel
theorem dc_E_multiply_88 : decode bc_E_multiply 88 = .ok (.iinc 15 1, 3) := by decide +kernel
theorem dc_E_multiply_91 : decode bc_E_multiply 91 = .ok (.goto (-82), 3) := by decide +kernel
theorem dc_E_multiply_94 : decode bc_E_multiply 94 = .ok (.return_, 1) := by decide +kernel
theorem dc_E_leapFactors_0 : decode bc_E_leapFactors 0 = .ok (.aload_n 0, 1) := by decide +kernel
theorem dc_E_leapFactors_1 : decode bc_E_leapFactors 1 = .ok (.getfield 18, 3) := by decide +kernel
theorem dc_E_leapFactors_4 : decode bc_E_leapFactors 4 = .ok (.getfield 121, 3) := by decide +kernel
theorem dc_E_leapFactors_7 : decode bc_E_leapFactors 7 = .ok (.aload_n 0, 1) := by decide +kernel
theorem dc_E_leapFactors_8 : decode bc_E_leapFactors 8 = .ok (.getfield 28, 3) := by decide +kernel
theorem dc_E_leapFactors_11 : decode bc_E_leapFactors 11 = .ok (.getfield 121, 3) := by decide +kernel
theorem dc_E_leapFactors_14 : decode bc_E_leapFactors 14 = .ok (.invokestatic 92, 3) := by decide +kernel
theorem dc_E_leapFactors_17 : decode bc_E_leapFactors 17 = .ok (.iconst 1, 1) := by decide +kernel
theorem dc_E_leapFactors_18 : decode bc_E_leapFactors 18 = .ok (.iadd, 1) := by decide +kernel
theorem dc_E_leapFactors_19 : decode bc_E_leapFactors 19 = .ok (.istore_n 1, 1) := by decide +kernel
theorem dc_E_leapFactors_20 : decode bc_E_leapFactors 20 = .ok (.aload_n 0, 1) := by decide +kernel
theorem dc_E_leapFactors_21 : decode bc_E_leapFactors 21 = .ok (.getfield 18, 3) := by decide +kernel
theorem dc_E_leapFactors_24 : decode bc_E_leapFactors 24 = .ok (.iload_n 1, 1) := by decide +kernel
theorem dc_E_leapFactors_25 : decode bc_E_leapFactors 25 = .ok (.invokevirtual 125, 3) := by decide +kernel
theorem dc_E_leapFactors_28 : decode bc_E_leapFactors 28 = .ok (.aload_n 0, 1) := by decide +kernel
theorem dc_E_leapFactors_29 : decode bc_E_leapFactors 29 = .ok (.getfield 28, 3) := by decide +kernel
theorem dc_E_leapFactors_32 : decode bc_E_leapFactors 32 = .ok (.iload_n 1, 1) := by decide +kernel
theorem dc_E_leapFactors_33 : decode bc_E_leapFactors 33 = .ok (.invokevirtual 125, 3) := by decide +kernel
theorem dc_E_leapFactors_36 : decode bc_E_leapFactors 36 = .ok (.aload_n 0, 1) := by decide +kernel
theorem dc_E_leapFactors_37 : decode bc_E_leapFactors 37 = .ok (.getfield 18, 3) := by decide +kernel
theorem dc_E_leapFactors_40 : decode bc_E_leapFactors 40 = .ok (.getfield 129, 3) := by decide +kernel
theorem dc_E_leapFactors_43 : decode bc_E_leapFactors 43 = .ok (.aload_n 0, 1) := by decide +kernel
theorem dc_E_leapFactors_44 : decode bc_E_leapFactors 44 = .ok (.getfield 28, 3) := by decide +kernel
theorem dc_E_leapFactors_47 : decode bc_E_leapFactors 47 = .ok (.getfield 129, 3) := by decide +kernel
theorem dc_E_leapFactors_50 : decode bc_E_leapFactors 50 = .ok (.iload_n 1, 1) := by decide +kernel
theorem dc_E_leapFactors_51 : decode bc_E_leapFactors 51 = .ok (.aload_n 0, 1) := by decide +kernel
theorem dc_E_leapFactors_52 : decode bc_E_leapFactors 52 = .ok (.getfield 41, 3) := by decide +kernel
theorem dc_E_leapFactors_55 : decode bc_E_leapFactors 55 = .ok (.invokestatic 108, 3) := by decide +kernel
theorem dc_E_leapFactors_58 : decode bc_E_leapFactors 58 = .ok (.aload_n 0, 1) := by decide +kernel
theorem dc_E_leapFactors_59 : decode bc_E_leapFactors 59 = .ok (.getfield 45, 3) := by decide +kernel
theorem dc_E_leapFactors_62 : decode bc_E_leapFactors 62 = .ok (.invokestatic 108, 3) := by decide +kernel
theorem dc_E_leapFactors_65 : decode bc_E_leapFactors 65 = .ok (.aload_n 0, 1) := by decide +kernel
theorem dc_E_leapFactors_66 : decode bc_E_leapFactors 66 = .ok (.getfield 48, 3) := by decide +kernel
theorem dc_E_leapFactors_69 : decode bc_E_leapFactors 69 = .ok (.invokestatic 108, 3) := by decide +kernel
theorem dc_E_leapFactors_72 : decode bc_E_leapFactors 72 = .ok (.aload_n 0, 1) := by decide +kernel
theorem dc_E_leapFactors_73 : decode bc_E_leapFactors 73 = .ok (.getfield 51, 3) := by decide +kernel
theorem dc_E_leapFactors_76 : decode bc_E_leapFactors 76 = .ok (.invokestatic 108, 3) := by decide +kernel
theorem dc_E_leapFactors_79 : decode bc_E_leapFactors 79 = .ok (.invokestatic 133, 3) := by decide +kernel
theorem dc_E_leapFactors_82 : decode bc_E_leapFactors 82 = .ok (.aload_n 0, 1) := by decide +kernel
theorem dc_E_leapFactors_83 : decode bc_E_leapFactors 83 = .ok (.getfield 18, 3) := by decide +kernel
theorem dc_E_leapFactors_86 : decode bc_E_leapFactors 86 = .ok (.iload_n 1, 1) := by decide +kernel
theorem dc_E_leapFactors_87 : decode bc_E_leapFactors 87 = .ok (.invokevirtual 137, 3) := by decide +kernel
theorem dc_E_leapFactors_90 : decode bc_E_leapFactors 90 = .ok (.aload_n 0, 1) := by decide +kernel
theorem dc_E_leapFactors_91 : decode bc_E_leapFactors 91 = .ok (.getfield 28, 3) := by decide +kernel
theorem dc_E_leapFactors_94 : decode bc_E_leapFactors 94 = .ok (.iload_n 1, 1) := by decide +kernel
theorem dc_E_leapFactors_95 : decode bc_E_leapFactors 95 = .ok (.invokevirtual 137, 3) := by decide +kernel
theorem dc_E_leapFactors_98 : decode bc_E_leapFactors 98 = .ok (.return_, 1) := by decide +kernel
theorem dc_E_step_0 : decode bc_E_step 0 = .ok (.aload_n 0, 1) := by decide +kernel
theorem dc_E_step_1 : decode bc_E_step 1 = .ok (.getfield 12, 3) := by decide +kernel
theorem dc_E_step_4 : decode bc_E_step 4 = .ok (.aload_n 0, 1) := by decide +kernel
theorem dc_E_step_5 : decode bc_E_step 5 = .ok (.getfield 25, 3) := by decide +kernel
theorem dc_E_step_8 : decode bc_E_step 8 = .ok (.invokevirtual 58, 3) := by decide +kernel
theorem dc_E_step_11 : decode bc_E_step 11 = .ok (.aload_n 0, 1) := by decide +kernel
theorem dc_E_step_12 : decode bc_E_step 12 = .ok (.getfield 25, 3) := by decide +kernel
theorem dc_E_step_15 : decode bc_E_step 15 = .ok (.aload_n 0, 1) := by decide +kernel
theorem dc_E_step_16 : decode bc_E_step 16 = .ok (.getfield 37, 3) := by decide +kernel
theorem dc_E_step_19 : decode bc_E_step 19 = .ok (.getfield 142, 3) := by decide +kernel
theorem dc_E_step_22 : decode bc_E_step 22 = .ok (.invokevirtual 58, 3) := by decide +kernel
theorem dc_E_step_25 : decode bc_E_step 25 = .ok (.iload_n 1, 1) := by decide +kernel
theorem dc_E_step_26 : decode bc_E_step 26 = .ok (.ifCond .eq 58, 3) := by decide +kernel
theorem dc_E_step_29 : decode bc_E_step 29 = .ok (.aload_n 0, 1) := by decide +kernel
theorem dc_E_step_30 : decode bc_E_step 30 = .ok (.getfield 31, 3) := by decide +kernel
theorem dc_E_step_33 : decode bc_E_step 33 = .ok (.aload_n 0, 1) := by decide +kernel
theorem dc_E_step_34 : decode bc_E_step 34 = .ok (.getfield 37, 3) := by decide +kernel
theorem dc_E_step_37 : decode bc_E_step 37 = .ok (.getfield 145, 3) := by decide +kernel
theorem dc_E_step_40 : decode bc_E_step 40 = .ok (.aload_n 0, 1) := by decide +kernel
theorem dc_E_step_41 : decode bc_E_step 41 = .ok (.getfield 28, 3) := by decide +kernel
theorem dc_E_step_44 : decode bc_E_step 44 = .ok (.invokevirtual 148, 3) := by decide +kernel
theorem dc_E_step_47 : decode bc_E_step 47 = .ok (.aload_n 0, 1) := by decide +kernel
theorem dc_E_step_48 : decode bc_E_step 48 = .ok (.getfield 31, 3) := by decide +kernel
theorem dc_E_step_51 : decode bc_E_step 51 = .ok (.aload_n 0, 1) := by decide +kernel
theorem dc_E_step_52 : decode bc_E_step 52 = .ok (.getfield 31, 3) := by decide +kernel
theorem dc_E_step_55 : decode bc_E_step 55 = .ok (.aload_n 0, 1) := by decide +kernel
theorem dc_E_step_56 : decode bc_E_step 56 = .ok (.getfield 18, 3) := by decide +kernel
theorem dc_E_step_59 : decode bc_E_step 59 = .ok (.invokevirtual 151, 3) := by decide +kernel
theorem dc_E_step_62 : decode bc_E_step 62 = .ok (.aload_n 0, 1) := by decide +kernel
theorem dc_E_step_63 : decode bc_E_step 63 = .ok (.getfield 18, 3) := by decide +kernel
theorem dc_E_step_66 : decode bc_E_step 66 = .ok (.aload_n 0, 1) := by decide +kernel
theorem dc_E_step_67 : decode bc_E_step 67 = .ok (.getfield 28, 3) := by decide +kernel
theorem dc_E_step_70 : decode bc_E_step 70 = .ok (.invokevirtual 58, 3) := by decide +kernel
theorem dc_E_step_73 : decode bc_E_step 73 = .ok (.aload_n 0, 1) := by decide +kernel
theorem dc_E_step_74 : decode bc_E_step 74 = .ok (.getfield 28, 3) := by decide +kernel
theorem dc_E_step_77 : decode bc_E_step 77 = .ok (.aload_n 0, 1) := by decide +kernel
theorem dc_E_step_78 : decode bc_E_step 78 = .ok (.getfield 31, 3) := by decide +kernel
theorem dc_E_step_81 : decode bc_E_step 81 = .ok (.invokevirtual 58, 3) := by decide +kernel
theorem dc_E_step_84 : decode bc_E_step 84 = .ok (.aload_n 0, 1) := by decide +kernel
theorem dc_E_step_85 : decode bc_E_step 85 = .ok (.aload_n 0, 1) := by decide +kernel
theorem dc_E_step_86 : decode bc_E_step 86 = .ok (.getfield 21, 3) := by decide +kernel
theorem dc_E_step_89 : decode bc_E_step 89 = .ok (.ifCond .ne 7, 3) := by decide +kernel
theorem dc_E_step_92 : decode bc_E_step 92 = .ok (.iconst 1, 1) := by decide +kernel
theorem dc_E_step_93 : decode bc_E_step 93 = .ok (.goto 4, 3) := by decide +kernel
theorem dc_E_step_96 : decode bc_E_step 96 = .ok (.iconst 0, 1) := by decide +kernel
theorem dc_E_step_97 : decode bc_E_step 97 = .ok (.putfield 21, 3) := by decide +kernel
theorem dc_E_step_100 : decode bc_E_step 100 = .ok (.return_, 1) := by decide +kernel
end
section
/-! Euclid's steps: numbers alone -/
/-- k steps lead from x, y to X, Y, by the matrix a b / c d -/
def Eu (x y : Nat) : Nat → Int → Int → Int → Int → Nat → Nat → Prop
  | 0, a, b, c, d, X, Y => a = 1 ∧ b = 0 ∧ c = 0 ∧ d = 1 ∧ X = x ∧ Y = y
  | k + 1, a, b, c, d, X, Y => ∃ (a0 b0 c0 d0 : Int) (X0 Y0 : Nat), Eu x y k a0 b0 c0 d0 X0 Y0 ∧ 0 < Y0 ∧ a = c0 ∧ b = d0 ∧ c = a0 - ((X0 / Y0 : Nat) : Int) * c0 ∧ d = b0 - ((X0 / Y0 : Nat) : Int) * d0 ∧ X = Y0 ∧ Y = X0 % Y0
theorem dm_int (X Y : Nat) : ((X % Y : Nat) : Int) = (X : Int) - ((X / Y : Nat) : Int) * (Y : Int) := by
  have h := Nat.div_add_mod X Y
  have h2 : ((Y * (X / Y) + X % Y : Nat) : Int) = (X : Int) := by rw [h]
  rw [Int.natCast_add, Int.natCast_mul] at h2
  grind
theorem Eu_lin {x y : Nat} : ∀ (k : Nat) (a b c d : Int) (X Y : Nat), Eu x y k a b c d X Y → (X : Int) = a * x + b * y ∧ (Y : Int) = c * x + d * y
  | 0, a, b, c, d, X, Y, h => by
    obtain ⟨rfl, rfl, rfl, rfl, rfl, rfl⟩ := h
    constructor <;> grind
  | k + 1, a, b, c, d, X, Y, h => by
    obtain ⟨a0, b0, c0, d0, X0, Y0, h, h0, rfl, rfl, rfl, rfl, rfl, rfl⟩ := h
    obtain ⟨h1, h2⟩ := Eu_lin k _ _ _ _ _ _ h
    refine ⟨h2, ?_⟩
    rw [dm_int]
    generalize ((X0 / X : Nat) : Int) = q
    grind
theorem Eu_ord {x y : Nat} (hxy : y ≤ x) : ∀ (k : Nat) (a b c d : Int) (X Y : Nat), Eu x y k a b c d X Y → Y ≤ X
  | 0, a, b, c, d, X, Y, h => by obtain ⟨-, -, -, -, rfl, rfl⟩ := h; exact hxy
  | k + 1, a, b, c, d, X, Y, h => by
    obtain ⟨a0, b0, c0, d0, X0, Y0, h, h0, -, -, -, -, rfl, rfl⟩ := h
    exact Nat.le_of_lt (Nat.mod_lt _ h0)
theorem Eu_le {x y : Nat} (hxy : y ≤ x) : ∀ (k : Nat) (a b c d : Int) (X Y : Nat), Eu x y k a b c d X Y → X ≤ x
  | 0, a, b, c, d, X, Y, h => by obtain ⟨-, -, -, -, rfl, rfl⟩ := h; exact Nat.le_refl _
  | k + 1, a, b, c, d, X, Y, h => by
    obtain ⟨a0, b0, c0, d0, X0, Y0, h, h0, -, -, -, -, rfl, rfl⟩ := h
    exact Nat.le_trans (Eu_ord hxy k _ _ _ _ _ _ h) (Eu_le hxy k _ _ _ _ _ _ h)
theorem Eu_gcd {x y : Nat} : ∀ (k : Nat) (a b c d : Int) (X Y : Nat), Eu x y k a b c d X Y → Nat.gcd X Y = Nat.gcd x y
  | 0, a, b, c, d, X, Y, h => by obtain ⟨-, -, -, -, rfl, rfl⟩ := h; rfl
  | k + 1, a, b, c, d, X, Y, h => by
    obtain ⟨a0, b0, c0, d0, X0, Y0, h, h0, -, -, -, -, rfl, rfl⟩ := h
    rw [← Eu_gcd k _ _ _ _ _ _ h, Nat.gcd_comm X0 X, Nat.gcd_rec X X0, Nat.gcd_comm]
theorem mod_half {X Y : Nat} (h0 : 0 < Y) (h : Y ≤ X) : 2 * (X % Y) ≤ X := by
  have h1 := Nat.div_add_mod X Y
  have h2 : 1 ≤ X / Y := (Nat.one_le_div_iff h0).mpr h
  have h3 : Y * 1 ≤ Y * (X / Y) := Nat.mul_le_mul_left _ h2
  have h4 := Nat.mod_lt X h0
  omega
theorem Eu_half {x y : Nat} (hxy : y ≤ x) : ∀ (k : Nat) (a b c d : Int) (X Y : Nat), Eu x y k a b c d X Y → 2 ^ k * (X * Y) ≤ x * y
  | 0, a, b, c, d, X, Y, h => by obtain ⟨-, -, -, -, rfl, rfl⟩ := h; omega
  | k + 1, a, b, c, d, X, Y, h => by
    obtain ⟨a0, b0, c0, d0, X0, Y0, h, h0, -, -, -, -, rfl, rfl⟩ := h
    have h1 := Eu_half hxy k _ _ _ _ _ _ h
    have h2 := mod_half h0 (Eu_ord hxy k _ _ _ _ _ _ h)
    refine Nat.le_trans ?_ h1
    rw [Nat.pow_succ, Nat.mul_assoc]
    refine Nat.mul_le_mul_left _ ?_
    have h3 : X * (2 * (X0 % X)) ≤ X * X0 := Nat.mul_le_mul_left _ h2
    rw [Nat.mul_comm X0 X]
    rw [Nat.mul_left_comm] at h3
    exact h3
theorem mul_sgn1 {q c : Int} (hq : 0 ≤ q) (hc : c ≤ 0) : q * c ≤ 0 := Int.mul_nonpos_of_nonneg_of_nonpos hq hc
theorem mul_sgn2 {q c : Int} (hq : 0 ≤ q) (hc : 0 ≤ c) : 0 ≤ q * c := Int.mul_nonneg hq hc
/-- signs -/
theorem Eu_sgn {x y : Nat} (hxy : y ≤ x) : ∀ (k : Nat) (a b c d : Int) (X Y : Nat), Eu x y k a b c d X Y → (k % 2 = 0 ∧ 0 ≤ a ∧ b ≤ 0 ∧ c ≤ 0 ∧ 1 ≤ d) ∨ (k % 2 = 1 ∧ a ≤ 0 ∧ 0 ≤ b ∧ 0 ≤ c ∧ d ≤ -1)
  | 0, a, b, c, d, X, Y, h => by
    obtain ⟨rfl, rfl, rfl, rfl, -, -⟩ := h
    omega
  | k + 1, a, b, c, d, X, Y, h => by
    obtain ⟨a0, b0, c0, d0, X0, Y0, h, h0, rfl, rfl, rfl, rfl, rfl, rfl⟩ := h
    have hq : 1 ≤ X0 / X := (Nat.one_le_div_iff h0).mpr (Eu_ord hxy k _ _ _ _ _ _ h)
    generalize X0 / X = q at *
    have hq0 : (0 : Int) ≤ (q : Int) - 1 := by omega
    rcases Eu_sgn hxy k _ _ _ _ _ _ h with ⟨e, s1, s2, s3, s4⟩ | ⟨e, s1, s2, s3, s4⟩
    · right
      have h1 := mul_sgn1 (q := q) (by omega) s3
      have h2 := mul_sgn2 (q := (q : Int) - 1) hq0 (show 0 ≤ b by omega)
      rw [Int.sub_mul, Int.one_mul] at h2
      omega
    · left
      have h1 := mul_sgn2 (q := q) (by omega) s3
      have h2 := mul_sgn1 (q := (q : Int) - 1) hq0 (show b ≤ 0 by omega)
      rw [Int.sub_mul, Int.one_mul] at h2
      omega
theorem Eu_b {x y : Nat} (hxy : y ≤ x) {k : Nat} {a b c d : Int} {X Y : Nat} (h : Eu x y k a b c d X Y) : (b = 0 ↔ k = 0) := by
  cases k with
  | zero => obtain ⟨-, rfl, -⟩ := h; exact ⟨fun _ => rfl, fun _ => rfl⟩
  | succ k =>
    obtain ⟨a0, b0, c0, d0, X0, Y0, h, h0, rfl, rfl, -⟩ := h
    have := Eu_sgn hxy k _ _ _ _ _ _ h
    constructor <;> intro <;> omega
theorem Eu_pos {x y : Nat} {k : Nat} {a b c d : Int} {X Y : Nat} (hk : 0 < k) (h : Eu x y k a b c d X Y) : 0 < X := by
  cases k with
  | zero => omega
  | succ k => obtain ⟨a0, b0, c0, d0, X0, Y0, h, h0, -, -, -, -, rfl, -⟩ := h; exact h0
/-- what the factors keep -/
def FI (a0 b0 : Nat) (s : Int) (x y fx fy : Nat) : Prop := fx * y + fy * x = a0 ∧ fx ≤ fy ∧ (a0 : Int) ∣ (x : Int) + s * fx * b0 ∧ (a0 : Int) ∣ (y : Int) - s * fy * b0
theorem FI_step {a0 b0 x y fx fy : Nat} {s : Int} (h : FI a0 b0 s x y fx fy) (h0 : 0 < y) (hxy : y ≤ x) : FI a0 b0 (-s) y (x % y) fy (x / y * fy + fx) := by
  obtain ⟨h1, h2, h3, h4⟩ := h
  have hq : 1 ≤ x / y := (Nat.one_le_div_iff h0).mpr hxy
  refine ⟨?_, ?_, ?_, ?_⟩
  · have hd := Nat.div_add_mod x y
    rw [← h1]
    generalize x / y = q at *
    generalize x % y = m at *
    subst hd
    grind
  · have : 1 * fy ≤ x / y * fy := Nat.mul_le_mul_right _ hq
    omega
  · rw [show (y : Int) + -s * fy * b0 = (y : Int) - s * fy * b0 by grind]
    exact h4
  · rw [dm_int, show (x : Int) - ((x / y : Nat) : Int) * y - -s * ((x / y * fy + fx : Nat) : Int) * b0 = ((x : Int) + s * fx * b0) - ((x / y : Nat) : Int) * ((y : Int) - s * fy * b0) by
      rw [Int.natCast_add, Int.natCast_mul]
      generalize ((x / y : Nat) : Int) = q
      grind]
    exact Int.dvd_sub h3 (Int.dvd_mul_of_dvd_right h4)
theorem abs_step {a c : Int} {q : Nat} (h : (0 ≤ a ∧ c ≤ 0) ∨ (a ≤ 0 ∧ 0 ≤ c)) : (a - (q : Int) * c).natAbs = a.natAbs + q * c.natAbs := by
  have h2 : ((q * c.natAbs : Nat) : Int) = (q : Int) * (c.natAbs : Int) := Int.natCast_mul _ _
  rcases h with ⟨h1, h3⟩ | ⟨h1, h3⟩
  · have e : (c.natAbs : Int) = -c := by omega
    rw [e, Int.mul_neg] at h2
    have h4 := mul_sgn1 (q := q) (by omega) h3
    omega
  · have e : (c.natAbs : Int) = c := by omega
    rw [e] at h2
    have h4 := mul_sgn2 (q := q) (by omega) h3
    omega
def sg (k : Nat) (s : Int) : Int := if k % 2 = 0 then s else -s
theorem Eu_fac {x y : Nat} (hxy : y ≤ x) {a0 b0 fx fy : Nat} {s : Int} (hF : FI a0 b0 s x y fx fy) : ∀ (k : Nat) (a b c d : Int) (X Y : Nat), Eu x y k a b c d X Y → FI a0 b0 (sg k s) X Y (a.natAbs * fx + b.natAbs * fy) (c.natAbs * fx + d.natAbs * fy)
  | 0, a, b, c, d, X, Y, h => by
    obtain ⟨rfl, rfl, rfl, rfl, rfl, rfl⟩ := h
    simpa [sg] using hF
  | k + 1, a, b, c, d, X, Y, h => by
    obtain ⟨a1, b1, c1, d1, X0, Y0, h, h0, rfl, rfl, rfl, rfl, rfl, rfl⟩ := h
    have hs := Eu_sgn hxy k _ _ _ _ _ _ h
    have ho := Eu_ord hxy k _ _ _ _ _ _ h
    have h1 := FI_step (Eu_fac hxy hF k _ _ _ _ _ _ h) h0 ho
    have e1 : sg (k + 1) s = -sg k s := by unfold sg; rcases Nat.mod_two_eq_zero_or_one k with e | e <;> simp [e, Nat.add_mod]
    rw [e1, abs_step (by omega), abs_step (by omega)]
    rw [show (a1.natAbs + X0 / X * a.natAbs) * fx + (b1.natAbs + X0 / X * b.natAbs) * fy = X0 / X * (a.natAbs * fx + b.natAbs * fy) + (a1.natAbs * fx + b1.natAbs * fy) by
      generalize X0 / X = q
      grind]
    exact h1
/-- a sum with two cut parts lies above its lower corner -/
theorem corner {m e1 e2 P t1 t2 c : Int} (h1 : 0 ≤ t1) (h2 : t1 ≤ P) (h3 : 0 ≤ t2) (h4 : t2 ≤ P) (hs : (0 ≤ e1 ∧ e2 ≤ 0) ∨ (e1 ≤ 0 ∧ 0 ≤ e2)) (c1 : c ≤ m + e1) (c2 : c ≤ m + e2) : P * c ≤ P * m + e1 * t1 + e2 * t2 := by
  have hP : 0 ≤ P := by omega
  rcases hs with ⟨s1, s2⟩ | ⟨s1, s2⟩
  · have q1 := Int.mul_nonneg s1 h1
    have q2 : e2 * (P - t2) ≤ 0 := Int.mul_nonpos_of_nonpos_of_nonneg s2 (by omega)
    have q3 : 0 ≤ P * (m + e2 - c) := Int.mul_nonneg hP (by omega)
    rw [Int.mul_sub] at q2
    rw [Int.mul_sub, Int.mul_add, Int.mul_comm P e2] at q3
    omega
  · have q1 := Int.mul_nonneg s2 h3
    have q2 : e1 * (P - t1) ≤ 0 := Int.mul_nonpos_of_nonpos_of_nonneg s1 (by omega)
    have q3 : 0 ≤ P * (m + e1 - c) := Int.mul_nonneg hP (by omega)
    rw [Int.mul_sub] at q2
    rw [Int.mul_sub, Int.mul_add, Int.mul_comm P e1] at q3
    omega
/-- a foreseen quotient is the quotient -/
theorem fs_step {x y u0 v0 P t1 t2 k : Nat} {a b c d : Int} {X Y : Nat} {u v q : Int} (hxy : y ≤ x) (h : Eu x y k a b c d X Y) (hx : x = P * u0 + t1) (hy : y = P * v0 + t2) (ht1 : t1 < P) (ht2 : t2 < P) (hu : u = a * u0 + b * v0) (hv : v = c * u0 + d * v0) (g1 : 0 < v + c) (g2 : 0 < v + d) (hq0 : 0 ≤ q) (l1 : q * (v + c) ≤ u + a) (r1 : u + a < (q + 1) * (v + c)) (l2 : q * (v + d) ≤ u + b) (r2 : u + b < (q + 1) * (v + d)) : 0 < Y ∧ ((X / Y : Nat) : Int) = q ∧ 0 ≤ u - q * v ∧ u - q * v < v ∧ 0 ≤ (u - q * v) + (a - q * c) ∧ 0 ≤ (u - q * v) + (b - q * d) := by
  obtain ⟨e1, e2⟩ := Eu_lin k _ _ _ _ _ _ h
  have hs := Eu_sgn hxy k _ _ _ _ _ _ h
  have hX : (X : Int) = P * u + a * t1 + b * t2 := by
    rw [e1, hu, hx, hy, Int.natCast_add, Int.natCast_add, Int.natCast_mul, Int.natCast_mul]
    grind
  have hY : (Y : Int) = P * v + c * t1 + d * t2 := by
    rw [e2, hv, hx, hy, Int.natCast_add, Int.natCast_add, Int.natCast_mul, Int.natCast_mul]
    grind
  have hY0 : (P : Int) * 1 ≤ Y := by
    rw [hY]
    exact corner (by omega) (by omega) (by omega) (by omega) (by omega) (by omega) (by omega)
  have hYp : 0 < Y := by omega
  have qc : (c ≤ 0 → q * c ≤ 0) ∧ (0 ≤ c → 0 ≤ q * c) := ⟨fun z => mul_sgn1 hq0 z, fun z => mul_sgn2 hq0 z⟩
  have qd : (d ≤ 0 → q * d ≤ 0) ∧ (0 ≤ d → 0 ≤ q * d) := ⟨fun z => mul_sgn1 hq0 z, fun z => mul_sgn2 hq0 z⟩
  rw [Int.mul_add] at l1 l2
  rw [Int.add_mul, Int.one_mul, Int.mul_add] at r1 r2
  have lo : (P : Int) * 0 ≤ P * (u - q * v) + (a - q * c) * t1 + (b - q * d) * t2 := corner (by omega) (by omega) (by omega) (by omega) (by omega) (by omega) (by omega)
  have hi : (P : Int) * 1 ≤ P * (q * v + v - u) + (q * c + c - a) * t1 + (q * d + d - b) * t2 := corner (by omega) (by omega) (by omega) (by omega) (by omega) (by omega) (by omega)
  have lo2 : 0 ≤ (X : Int) - q * Y := by
    rw [hX, hY]
    have : (P : Int) * u + a * t1 + b * t2 - q * (P * v + c * t1 + d * t2) = P * (u - q * v) + (a - q * c) * t1 + (b - q * d) * t2 := by grind
    omega
  have hi2 : 0 < q * Y + Y - X := by
    rw [hX, hY]
    have : q * (P * v + c * t1 + d * t2) + (P * v + c * t1 + d * t2) - ((P : Int) * u + a * t1 + b * t2) = P * (q * v + v - u) + (q * c + c - a) * t1 + (q * d + d - b) * t2 := by grind
    omega
  refine ⟨hYp, ?_, by omega, by omega, by omega, by omega⟩
  obtain ⟨w, rfl⟩ : ∃ w : Nat, q = w := ⟨q.toNat, by omega⟩
  have n1 : w * Y ≤ X := by
    have : ((w * Y : Nat) : Int) = (w : Int) * Y := Int.natCast_mul _ _
    omega
  have n2 : X < w * Y + Y := by
    have : ((w * Y : Nat) : Int) = (w : Int) * Y := Int.natCast_mul _ _
    omega
  have : X / Y = w := by
    apply Nat.div_eq_of_lt_le
    · exact n1
    · rw [Nat.add_mul, Nat.one_mul]; exact n2
  rw [this]
def lZ (z : Int) : Int64 := Int64.ofInt z
theorem lZ_nat (n : Nat) : lZ n = lN n := Int64.ofInt_eq_ofNat
theorem lZ_add (a b : Int) : lZ a + lZ b = lZ (a + b) := (Int64.ofInt_add a b).symm
theorem lZ_sub (a b : Int) : lZ a - lZ b = lZ (a - b) := (Int64.ofInt_sub a b).symm
theorem lZ_mul (a b : Int) : lZ a * lZ b = lZ (a * b) := (Int64.ofInt_mul a b).symm
theorem lZ_neg (a : Int) : -lZ a = lZ (-a) := (Int64.ofInt_neg a).symm
theorem lZ_int {a : Int} (h1 : -9223372036854775808 ≤ a) (h2 : a < 9223372036854775808) : (lZ a).toInt = a := Int64.toInt_ofInt_of_le h1 h2
theorem lZ_lt {a b : Int} (h1 : -9223372036854775808 ≤ a) (h2 : a < 9223372036854775808) (h3 : -9223372036854775808 ≤ b) (h4 : b < 9223372036854775808) : lZ a < lZ b ↔ a < b := by
  rw [Int64.lt_iff_toInt_lt, lZ_int h1 h2, lZ_int h3 h4]
theorem lZ_le {a b : Int} (h1 : -9223372036854775808 ≤ a) (h2 : a < 9223372036854775808) (h3 : -9223372036854775808 ≤ b) (h4 : b < 9223372036854775808) : lZ a ≤ lZ b ↔ a ≤ b := by
  rw [Int64.le_iff_toInt_le, lZ_int h1 h2, lZ_int h3 h4]
theorem lZ_eq {a b : Int} (h1 : -9223372036854775808 ≤ a) (h2 : a < 9223372036854775808) (h3 : -9223372036854775808 ≤ b) (h4 : b < 9223372036854775808) : lZ a = lZ b ↔ a = b := by
  rw [← Int64.toInt_inj, lZ_int h1 h2, lZ_int h3 h4]
theorem lZ_div {a b : Int} (h1 : 0 ≤ a) (h2 : a < 9223372036854775808) (h3 : 0 ≤ b) (h4 : b < 9223372036854775808) : lZ a / lZ b = lZ (a / b) := by
  have hq : 0 ≤ a / b := Int.ediv_nonneg h1 h3
  have hq2 : a / b ≤ a := Int.ediv_le_self b h1
  rw [← Int64.toInt_inj, Int64.toInt_div_of_ne_left, lZ_int (by omega) h2, lZ_int (by omega) h4, lZ_int (by omega) (by omega), Int.tdiv_eq_ediv_of_nonneg h1]
  intro q
  have := congrArg Int64.toInt q
  rw [lZ_int (by omega) h2] at this
  have h5 : Int64.minValue.toInt = -9223372036854775808 := by decide
  omega
theorem lZ_mask (s : Int) : lZ s &&& 4294967295 = lN (s % 4294967296).toNat := by
  apply Int64.toBitVec_inj.mp
  apply BitVec.eq_of_toNat_eq
  rw [Int64.toBitVec_and, BitVec.toNat_and]
  show (BitVec.ofInt 64 s).toNat &&& (2 ^ 32 - 1) = (BitVec.ofNat 64 _).toNat
  rw [Nat.and_two_pow_sub_one_eq_mod, BitVec.toNat_ofInt, BitVec.toNat_ofNat]
  have e : (2 : Nat) ^ 64 = 18446744073709551616 := rfl
  have e2 : (2 : Nat) ^ 32 = 4294967296 := rfl
  rw [e, e2]
  omega
theorem lZ_shr32 {s : Int} (h1 : -9223372036854775808 ≤ s) (h2 : s < 9223372036854775808) : lZ s >>> ((32 : Int32).toInt64 &&& 63) = lZ (s / 4294967296) := by
  rw [← Int64.toInt_inj, lZ_int (by omega) (by omega)]
  show ((lZ s >>> ((32 : Int32).toInt64 &&& 63)).toBitVec).toInt = _
  rw [Int64.toBitVec_shiftRight]
  show ((lZ s).toBitVec.sshiftRight 32).toInt = _
  rw [BitVec.toInt_sshiftRight]
  show (lZ s).toInt >>> 32 = _
  rw [lZ_int h1 h2, Int.shiftRight_eq_div_pow]
  rfl
end
section
/-! Euclid: abs, max, turn -/
theorem vx_up_up {h : vx_h} {a : Nat} {e e' : va_E} : vx_up (vx_up h a e) a e' = vx_up h a e' := by
  funext b
  unfold vx_up
  split <;> rfl
/-- the object of Euclid -/
abbrev eOb (ex ef ey eg es ed : Nat) (b : Int32) (xx xy yx yy : Int) : va_E := .inr (1, [.ref ex, .ref ef, .int b, .ref ey, .ref eg, .ref es, .ref ed, .long (lZ xx), .long (lZ xy), .long (lZ yx), .long (lZ yy)])
section
variable {l : Launch} {D : va_G} {tys : List (ClassId × FieldType)}
set_option maxRecDepth 100000 in
set_option maxHeartbeats 4000000 in
theorem cJM_abs (h : vx_h) {z : Int} (h1 : -9223372036854775807 ≤ z) (h2 : z < 9223372036854775808) : vx_M l D vcl tys my_JM_abs lw_gd (rm_ 0 0 0 0) [.long (lZ z)] h (fun v h' k n => v = some (.long (lZ z.natAbs)) ∧ h' = h ∧ k = 0 ∧ n = 0) := by
  refine vx_M.ofV (cc := bc_JM_abs) (maxL := 2) (ret := some .long) (own := "java/lang/Math") false rfl (by decide +kernel) wC_JM_abs (fun q => by cases q) (Nat.le_of_ble_eq_true rfl) (fun A H0 G IG RG => ?_)
  show vx_V _ _ _ _ _ _ _ _ _ 0 [(0, .long (lZ z))] []
  refine vx_lload_n IG dc_JM_abs_0 rfl 0 rfl ?_
  refine vx_lconst (v := 0) IG dc_JM_abs_1 (by decide) ?_
  refine vx_lcmp IG dc_JM_abs_2 ?_
  have hc := lZ_le (a := 0) (b := z) (by omega) (by omega) (by omega) h2
  by_cases q : 0 ≤ z
  · refine vx_if_ge (tgt := 11) IG dc_JM_abs_3 (by decide) (fun _ => ?_) (fun c_ => absurd ((lg_cmp_ge _ _).mpr (hc.mpr q)) c_)
    refine vx_lload_n IG dc_JM_abs_11 rfl 0 rfl ?_
    refine vx_ret (some (.long (lZ z))) RG (vx_endl dc_JM_abs_12) rfl ?_
    exact ⟨by rw [show (z.natAbs : Int) = z by omega], rfl, rfl, rfl⟩
  · refine vx_if_ge (tgt := 11) IG dc_JM_abs_3 (by decide) (fun c_ => absurd c_ (fun c => q (hc.mp ((lg_cmp_ge _ _).mp c)))) (fun _ => ?_)
    refine vx_lload_n IG dc_JM_abs_6 rfl 0 rfl ?_
    refine vx_lneg IG dc_JM_abs_7 ?_
    refine vx_topl (y := lZ z.natAbs) ((lZ_neg z).trans (congrArg lZ (by omega))) ?_
    refine vx_goto (tgt := 12) IG dc_JM_abs_8 (by decide) ?_
    refine vx_ret (some (.long (lZ z.natAbs))) RG (vx_endl dc_JM_abs_12) rfl ?_
    exact ⟨rfl, rfl, rfl, rfl⟩
set_option maxRecDepth 100000 in
set_option maxHeartbeats 4000000 in
theorem cJM_maxJ (h : vx_h) {a b : Int} (a1 : -9223372036854775808 ≤ a) (a2 : a < 9223372036854775808) (b1 : -9223372036854775808 ≤ b) (b2 : b < 9223372036854775808) : vx_M l D vcl tys my_JM_max_JJ lw_gd (rm_ 0 0 0 0) [.long (lZ a), .long (lZ b)] h (fun v h' k n => v = some (.long (lZ (max a b))) ∧ h' = h ∧ k = 0 ∧ n = 0) := by
  refine vx_M.ofV (cc := bc_JM_max_JJ) (maxL := 4) (ret := some .long) (own := "java/lang/Math") false rfl (by decide +kernel) wC_JM_max_JJ (fun q => by cases q) (Nat.le_of_ble_eq_true rfl) (fun A H0 G IG RG => ?_)
  show vx_V _ _ _ _ _ _ _ _ _ 0 [(0, .long (lZ a)), (2, .long (lZ b))] []
  refine vx_lload_n IG dc_JM_max_JJ_0 rfl 0 rfl ?_
  refine vx_lload_n IG dc_JM_max_JJ_1 rfl 1 rfl ?_
  refine vx_lcmp IG dc_JM_max_JJ_2 ?_
  have hc := lZ_lt a1 a2 b1 b2
  by_cases q : a < b
  · refine vx_if_lt (tgt := 10) IG dc_JM_max_JJ_3 (by decide) (fun _ => ?_) (fun c_ => absurd ((lg_cmp_lt _ _).mpr (hc.mpr q)) c_)
    refine vx_lload_n IG dc_JM_max_JJ_10 rfl 1 rfl ?_
    refine vx_ret (some (.long (lZ b))) RG (vx_endl dc_JM_max_JJ_11) rfl ?_
    exact ⟨by rw [show max a b = b by omega], rfl, rfl, rfl⟩
  · refine vx_if_lt (tgt := 10) IG dc_JM_max_JJ_3 (by decide) (fun c_ => absurd c_ (fun c => q (hc.mp ((lg_cmp_lt _ _).mp c)))) (fun _ => ?_)
    refine vx_lload_n IG dc_JM_max_JJ_6 rfl 0 rfl ?_
    refine vx_goto (tgt := 11) IG dc_JM_max_JJ_7 (by decide) ?_
    refine vx_ret (some (.long (lZ a))) RG (vx_endl dc_JM_max_JJ_11) rfl ?_
    exact ⟨by rw [show max a b = a by omega], rfl, rfl, rfl⟩
end
section
variable {l : Launch} {D : va_G} {tys : List (ClassId × FieldType)} {cJ : ClassId} {L : List Nat} {r : vx_h} {ar cp : Nat → Nat} {cn : Nat → Int32} {fn : Nat → Nat → Int64} {h : vx_h} {eu ex ef ey eg es ed : Nat} {R : Room} {own : String} {cc : ByteArray} {nL : Nat} {ct : Bool} {A : Nat → Prop} {H0 : Heap} {G : vx_G} {k n pc : Nat} {lv : List (Nat × Value)} {st : List Value} {b : Int32} {xx xy yx yy : Int}
theorem er_put (IG : vx_I l D vcl tys R own cc nL lw_gd ct A H0 G) {fs : List Value} (HR : rw_at 2 cJ L (vx_up r eu (.inr (1, fs))) ar cp cn fn h) {v : Value} {ty : FieldType} {index : Nat} (j : Nat) (hj : j < 11) (hm : Cond.fieldLink own index rE (tE j).2.1 (tE j).2.2.1 ∈ lw_gd) (hr : (tE j).1 = rE) (hfin : (tE j).2.2.2 = false) (hpd : parseFieldDescriptor (tE j).2.2.1 = some ty) (hn : narrow ty v = v) (hfit : fits ty v = true) (hl : j < fs.length) (hd : decode cc pc = .ok (.putfield index, 3)) (K : ∀ h' : vx_h, rw_at 2 cJ L (vx_up r eu (.inr (1, fs.set j v))) ar cp cn fn h' → vx_V D vcl A H0 nL G h' k n (pc + 3) lv st) : vx_V D vcl A H0 nL G h k n pc lv (v :: .ref eu :: st) := by
  refine vx_put IG (rw_r HR vx_up_s) rfl j hj inE fE tyE nmE hm hr hfin hpd hn hfit hl hd (K _ ?_)
  have := rw_rset HR (vx_up_s) (.inr (1, fs.set j v))
  rw [vx_up_up] at this
  exact this
set_option maxRecDepth 100000 in
set_option maxHeartbeats 4000000 in
/-- turn(quotient) -/
theorem cE_turn (HR : rw_at 2 cJ L (vx_up r eu (eOb ex ef ey eg es ed b xx xy yx yy)) ar cp cn fn h) {q : Int} (hq : 0 ≤ q) (hq2 : q < 9223372036854775808) (b1 : xx.natAbs ≤ 1073741823) (b2 : xy.natAbs ≤ 1073741823) (b3 : yx.natAbs ≤ 1073741823) (b4 : yy.natAbs ≤ 1073741823) : vx_M l D vcl tys my_E_turn lw_gd (rm_ 1 0 0 23) [.ref eu, .long (lZ q)] h (fun v h' k n => k = 0 ∧ n = 0 ∧ ((v = some (.int 0) ∧ h' = h) ∨ (v = some (.int 1) ∧ (xx - q * yx).natAbs ≤ 1073741823 ∧ (xy - q * yy).natAbs ≤ 1073741823 ∧ rw_at 2 cJ L (vx_up r eu (eOb ex ef ey eg es ed b yx yy (xx - q * yx) (xy - q * yy))) ar cp cn fn h'))) := by
  refine vx_M.ofV (cc := bc_E_turn) (maxL := 7) (ret := some .boolean) (own := rE) false rfl (by decide +kernel) wC_E_turn (fun q => by cases q) (Nat.le_of_ble_eq_true rfl) (fun A H0 G IG RG => ?_)
  show vx_V _ _ _ _ _ _ _ _ _ 0 [(0, .ref eu), (1, .long (lZ q))] []
  refine vx_lload_n IG dc_E_turn_0 rfl 1 rfl ?_
  refine vx_ldc2 (v := 1073741823) IG wK_E_106 dc_E_turn_1 ?_
  refine vx_lcmp IG dc_E_turn_4 ?_
  have hc := lZ_le (a := q) (b := 1073741823) (by omega) hq2 (by omega) (by omega)
  by_cases z : q ≤ 1073741823
  · refine vx_if_le (tgt := 10) IG dc_E_turn_5 (by decide) (fun _ => ?_) (fun c_ => absurd ((lg_cmp_le _ _).mpr (hc.mpr z)) c_)
    have p1 : (q * yx).natAbs ≤ 1073741823 * 1073741823 := by rw [Int.natAbs_mul]; exact Nat.mul_le_mul (by omega) b3
    have p2 : (q * yy).natAbs ≤ 1073741823 * 1073741823 := by rw [Int.natAbs_mul]; exact Nat.mul_le_mul (by omega) b4
    refine vx_aload_n IG dc_E_turn_10 rfl 0 rfl ?_
    refine vx_get IG (rw_r HR vx_up_s) rfl 7 (by decide) inE wF_E_41 rfl rfl dc_E_turn_11 ?_
    refine vx_lload_n IG dc_E_turn_14 rfl 1 rfl ?_
    refine vx_aload_n IG dc_E_turn_15 rfl 0 rfl ?_
    refine vx_get IG (rw_r HR vx_up_s) rfl 9 (by decide) inE wF_E_48 rfl rfl dc_E_turn_16 ?_
    refine vx_lmul IG dc_E_turn_19 ?_
    refine vx_topl (y := lZ (q * yx)) (lZ_mul _ _) ?_
    refine vx_lsub IG dc_E_turn_20 ?_
    refine vx_topl (y := lZ (xx - q * yx)) (lZ_sub _ _) ?_
    refine vx_lstore_n (lv' := [(3, .long (lZ (xx - q * yx))), (0, .ref eu), (1, .long (lZ q))]) IG dc_E_turn_21 rfl (by decide) rfl ?_
    refine vx_aload_n IG dc_E_turn_22 rfl 1 rfl ?_
    refine vx_get IG (rw_r HR vx_up_s) rfl 8 (by decide) inE wF_E_45 rfl rfl dc_E_turn_23 ?_
    refine vx_lload_n IG dc_E_turn_26 rfl 2 rfl ?_
    refine vx_aload_n IG dc_E_turn_27 rfl 1 rfl ?_
    refine vx_get IG (rw_r HR vx_up_s) rfl 10 (by decide) inE wF_E_51 rfl rfl dc_E_turn_28 ?_
    refine vx_lmul IG dc_E_turn_31 ?_
    refine vx_topl (y := lZ (q * yy)) (lZ_mul _ _) ?_
    refine vx_lsub IG dc_E_turn_32 ?_
    refine vx_topl (y := lZ (xy - q * yy)) (lZ_sub _ _) ?_
    refine vx_lstore (lv' := [(5, .long (lZ (xy - q * yy))), (3, .long (lZ (xx - q * yx))), (0, .ref eu), (1, .long (lZ q))]) IG dc_E_turn_33 (by decide) rfl ?_
    refine vx_lload_n IG dc_E_turn_35 rfl 1 rfl ?_
    refine vx_callS (As := [.long (lZ (xx - q * yx))]) (st := []) IG lw_good (cJM_abs _ (by omega) (by omega)) wC_JM_abs wL_E_108 wT_JM_abs wX_JM 1 (by decide +kernel) rfl ⟨Nat.le_of_ble_eq_true rfl, Nat.le_of_ble_eq_true rfl⟩ ⟨(by dsimp only [rm_]; omega), (by dsimp only [rm_]; omega)⟩ rfl (Nat.le_of_ble_eq_true rfl) dc_E_turn_36 (fun v h k1 n1 hq => ?_)
    obtain ⟨rfl, rfl, rfl, rfl⟩ := hq
    show vx_V _ _ _ _ _ _ _ _ _ 39 [(5, .long (lZ (xy - q * yy))), (3, .long (lZ (xx - q * yx))), (0, .ref eu), (1, .long (lZ q))] [.long (lZ ((xx - q * yx).natAbs : Int))]
    refine vx_lload IG dc_E_turn_39 0 rfl ?_
    refine vx_callS (As := [.long (lZ (xy - q * yy))]) (st := [.long (lZ ((xx - q * yx).natAbs : Int))]) IG lw_good (cJM_abs _ (by omega) (by omega)) wC_JM_abs wL_E_108 wT_JM_abs wX_JM 1 (by decide +kernel) rfl ⟨Nat.le_of_ble_eq_true rfl, Nat.le_of_ble_eq_true rfl⟩ ⟨(by dsimp only [rm_]; omega), (by dsimp only [rm_]; omega)⟩ rfl (Nat.le_of_ble_eq_true rfl) dc_E_turn_41 (fun v h k2 n2 hq => ?_)
    obtain ⟨rfl, rfl, rfl, rfl⟩ := hq
    show vx_V _ _ _ _ _ _ _ _ _ 44 [(5, .long (lZ (xy - q * yy))), (3, .long (lZ (xx - q * yx))), (0, .ref eu), (1, .long (lZ q))] [.long (lZ ((xy - q * yy).natAbs : Int)), .long (lZ ((xx - q * yx).natAbs : Int))]
    refine vx_callS (As := [.long (lZ ((xx - q * yx).natAbs : Int)), .long (lZ ((xy - q * yy).natAbs : Int))]) (st := []) IG lw_good (cJM_maxJ _ (by omega) (by omega) (by omega) (by omega)) wC_JM_max_JJ wL_E_112 wT_JM_max_JJ wX_JM 2 (by decide +kernel) rfl ⟨Nat.le_of_ble_eq_true rfl, Nat.le_of_ble_eq_true rfl⟩ ⟨(by dsimp only [rm_]; omega), (by dsimp only [rm_]; omega)⟩ rfl (Nat.le_of_ble_eq_true rfl) dc_E_turn_44 (fun v h k3 n3 hq => ?_)
    obtain ⟨rfl, rfl, rfl, rfl⟩ := hq
    show vx_V _ _ _ _ _ _ _ _ _ 47 [(5, .long (lZ (xy - q * yy))), (3, .long (lZ (xx - q * yx))), (0, .ref eu), (1, .long (lZ q))] [.long (lZ (max ((xx - q * yx).natAbs : Int) ((xy - q * yy).natAbs : Int)))]
    refine vx_ldc2 (v := 1073741823) IG wK_E_106 dc_E_turn_47 ?_
    refine vx_lcmp IG dc_E_turn_50 ?_
    have hc2 := lZ_le (a := max ((xx - q * yx).natAbs : Int) ((xy - q * yy).natAbs : Int)) (b := 1073741823) (by omega) (by omega) (by omega) (by omega)
    by_cases y : max ((xx - q * yx).natAbs : Int) ((xy - q * yy).natAbs : Int) ≤ 1073741823
    · refine vx_if_le (tgt := 56) IG dc_E_turn_51 (by decide) (fun _ => ?_) (fun c_ => absurd ((lg_cmp_le _ _).mpr (hc2.mpr y)) c_)
      refine vx_aload_n IG dc_E_turn_56 rfl 2 rfl ?_
      refine vx_aload_n IG dc_E_turn_57 rfl 2 rfl ?_
      refine vx_get IG (rw_r HR vx_up_s) rfl 9 (by decide) inE wF_E_48 rfl rfl dc_E_turn_58 ?_
      refine er_put IG HR 7 (by decide) wF_E_41 rfl rfl (ty := .long) (by decide +kernel) rfl rfl (Nat.le_of_ble_eq_true rfl) dc_E_turn_61 (fun h HR => ?_)
      replace HR : rw_at 2 cJ L (vx_up r eu (eOb ex ef ey eg es ed b yx xy yx yy)) ar cp cn fn h := HR
      refine vx_aload_n IG dc_E_turn_64 rfl 2 rfl ?_
      refine vx_aload_n IG dc_E_turn_65 rfl 2 rfl ?_
      refine vx_get IG (rw_r HR vx_up_s) rfl 10 (by decide) inE wF_E_51 rfl rfl dc_E_turn_66 ?_
      refine er_put IG HR 8 (by decide) wF_E_45 rfl rfl (ty := .long) (by decide +kernel) rfl rfl (Nat.le_of_ble_eq_true rfl) dc_E_turn_69 (fun h HR => ?_)
      replace HR : rw_at 2 cJ L (vx_up r eu (eOb ex ef ey eg es ed b yx yy yx yy)) ar cp cn fn h := HR
      refine vx_aload_n IG dc_E_turn_72 rfl 2 rfl ?_
      refine vx_lload_n IG dc_E_turn_73 rfl 1 rfl ?_
      refine er_put IG HR 9 (by decide) wF_E_48 rfl rfl (ty := .long) (by decide +kernel) rfl rfl (Nat.le_of_ble_eq_true rfl) dc_E_turn_74 (fun h HR => ?_)
      replace HR : rw_at 2 cJ L (vx_up r eu (eOb ex ef ey eg es ed b yx yy (xx - q * yx) yy)) ar cp cn fn h := HR
      refine vx_aload_n IG dc_E_turn_77 rfl 2 rfl ?_
      refine vx_lload IG dc_E_turn_78 0 rfl ?_
      refine er_put IG HR 10 (by decide) wF_E_51 rfl rfl (ty := .long) (by decide +kernel) rfl rfl (Nat.le_of_ble_eq_true rfl) dc_E_turn_80 (fun h HR => ?_)
      replace HR : rw_at 2 cJ L (vx_up r eu (eOb ex ef ey eg es ed b yx yy (xx - q * yx) (xy - q * yy))) ar cp cn fn h := HR
      refine vx_iconst (v := 1) IG dc_E_turn_83 (by decide) ?_
      refine vx_ret (some (.int 1)) RG (vx_endi (by first | rfl | decide) dc_E_turn_84) rfl ?_
      exact ⟨rfl, rfl, Or.inr ⟨rfl, by omega, by omega, HR⟩⟩
    · refine vx_if_le (tgt := 56) IG dc_E_turn_51 (by decide) (fun c_ => absurd c_ (fun c => y (hc2.mp ((lg_cmp_le _ _).mp c)))) (fun _ => ?_)
      refine vx_iconst (v := 0) IG dc_E_turn_54 (by decide) ?_
      refine vx_ret (some (.int 0)) RG (vx_endi (by first | rfl | decide) dc_E_turn_55) rfl ?_
      exact ⟨rfl, rfl, Or.inl ⟨rfl, rfl⟩⟩
  · refine vx_if_le (tgt := 10) IG dc_E_turn_5 (by decide) (fun c_ => absurd c_ (fun c => z (hc.mp ((lg_cmp_le _ _).mp c)))) (fun _ => ?_)
    refine vx_iconst (v := 0) IG dc_E_turn_8 (by decide) ?_
    refine vx_ret (some (.int 0)) RG (vx_endi (by first | rfl | decide) dc_E_turn_9) rfl ?_
    exact ⟨rfl, rfl, Or.inl ⟨rfl, rfl⟩⟩
end
end
section
/-! Euclid: multiply -/
theorem mu_step {E U V P cu a b u v s : Int} (h : E + cu * P = a * U + b * V) (hs : s = a * u + b * v + cu) : (E + (s % 4294967296) * P) + (s / 4294967296) * (P * 4294967296) = a * (U + u * P) + b * (V + v * P) := by
  have h2 : s % 4294967296 = s - 4294967296 * (s / 4294967296) := by omega
  rw [h2]
  generalize s / 4294967296 = w
  grind
theorem mu_bound {a b cu : Int} {u v : Nat} (ha : a.natAbs ≤ 1073741823) (hb : b.natAbs ≤ 1073741823) (hu : u < 4294967296) (hv : v < 4294967296) (hc : cu.natAbs ≤ 2147483648) : (a * u + b * v + cu).natAbs < 9223372036854775808 := by
  have h1 : (a * u).natAbs ≤ 1073741823 * 4294967295 := by rw [Int.natAbs_mul]; exact Nat.mul_le_mul ha (by omega)
  have h2 : (b * v).natAbs ≤ 1073741823 * 4294967295 := by rw [Int.natAbs_mul]; exact Nat.mul_le_mul hb (by omega)
  omega
/-- the carry falls away where the sum is short -/
theorem mu_end {E P : Nat} {c : Int} {X : Nat} (h : (E : Int) + c * (P : Int) = (X : Int)) (hE : E < P) (hX : X < P) : E = X := by
  have h1 : c = 0 := by
    rcases Int.lt_trichotomy c 0 with z | z | z
    · have : (c + 1) * P ≤ 0 := Int.mul_nonpos_of_nonpos_of_nonneg (by omega) (by omega)
      rw [Int.add_mul, Int.one_mul] at this
      omega
    · exact z
    · have : 0 ≤ (c - 1) * P := Int.mul_nonneg (by omega) (by omega)
      rw [Int.sub_mul, Int.one_mul] at this
      omega
  rw [h1, Int.zero_mul] at h
  omega
theorem vl_snoc {e : Nat → Nat} {i x : Nat} : vl 4294967296 (fun j => if j = i then x else e j) (i + 1) = vl 4294967296 e i + x * 4294967296 ^ i := by
  rw [vl_succ, vl_congr (e := e) (fun j hj => by show (if j = i then x else e j) = e j; rw [if_neg (by omega)])]
  show _ + (if i = i then x else e i) * _ = _
  rw [if_pos rfl]
section
variable {l : Launch} {D : va_G} {tys : List (ClassId × FieldType)} {cJ : ClassId} {L : List Nat} {r : vx_h} {ar cp : Nat → Nat} {cn : Nat → Int32} {fn : Nat → Nat → Int64} {h : vx_h} {pu pv : Nat} {a b c d : Int}
set_option maxRecDepth 100000 in
set_option maxHeartbeats 8000000 in
/-- multiply(u, v, n, a, b, c, d) -/
theorem cE_multiply (HR : rw_at 2 cJ L r ar cp cn fn h) (hpu : pu ∈ L) (hpv : pv ∈ L) (hne : pv ≠ pu) (ht : tys[0]? = some (cJ, .long)) {n : Nat} (du dv : Nat → Nat) (hdu : ∀ i, i < n → du i < 4294967296 ∧ fn pu i = lN (du i)) (hdv : ∀ i, i < n → dv i < 4294967296 ∧ fn pv i = lN (dv i)) (hnu : n ≤ cp pu) (hnv : n ≤ cp pv) (ha : a.natAbs ≤ 1073741823) (hb : b.natAbs ≤ 1073741823) (hc : c.natAbs ≤ 1073741823) (hd : d.natAbs ≤ 1073741823) : vx_M l D vcl tys my_E_multiply lw_gd (rm_ 0 0 0 0) [.ref (ar pu), .ref (ar pv), .int (nI n), .long (lZ a), .long (lZ b), .long (lZ c), .long (lZ d)] h (fun v h' k m => v = none ∧ k = 0 ∧ m = 0 ∧ ∃ (fn' : Nat → Nat → Int64) (eu ev : Nat → Nat) (cu cv : Int), rw_at 2 cJ L r ar cp cn fn' h' ∧ (∀ q, q ≠ pu → q ≠ pv → fn' q = fn q) ∧ (∀ i, i < n → eu i < 4294967296 ∧ fn' pu i = lN (eu i)) ∧ (∀ i, i < n → ev i < 4294967296 ∧ fn' pv i = lN (ev i)) ∧ (vl 4294967296 eu n : Int) + cu * ((4294967296 ^ n : Nat) : Int) = a * (vl 4294967296 du n : Int) + b * (vl 4294967296 dv n : Int) ∧ (vl 4294967296 ev n : Int) + cv * ((4294967296 ^ n : Nat) : Int) = c * (vl 4294967296 du n : Int) + d * (vl 4294967296 dv n : Int)) := by
  have hcu := rw_cap HR hpu
  refine vx_M.ofV (cc := bc_E_multiply) (maxL := 20) (ret := none) (own := rE) false rfl (by decide +kernel) wC_E_multiply (fun q => by cases q) (Nat.le_of_ble_eq_true rfl) (fun A H0 G IG RG => ?_)
  show vx_V _ _ _ _ _ _ _ _ _ 0 [(0, .ref (ar pu)), (1, .ref (ar pv)), (2, .int (nI n)), (3, .long (lZ a)), (5, .long (lZ b)), (7, .long (lZ c)), (9, .long (lZ d))] []
  have loop : ∀ (m i : Nat), i + m = n → ∀ (h : vx_h) (fn5 : Nat → Nat → Int64) (eu ev : Nat → Nat) (cu cv : Int), rw_at 2 cJ L r ar cp cn fn5 h → (∀ q, q ≠ pu → q ≠ pv → fn5 q = fn q) → (∀ j, j < i → eu j < 4294967296 ∧ fn5 pu j = lN (eu j)) → (∀ j, j < i → ev j < 4294967296 ∧ fn5 pv j = lN (ev j)) → (∀ j, i ≤ j → fn5 pu j = fn pu j) → (∀ j, i ≤ j → fn5 pv j = fn pv j) → cu.natAbs ≤ 2147483648 → cv.natAbs ≤ 2147483648 → (vl 4294967296 eu i : Int) + cu * ((4294967296 ^ i : Nat) : Int) = a * (vl 4294967296 du i : Int) + b * (vl 4294967296 dv i : Int) → (vl 4294967296 ev i : Int) + cv * ((4294967296 ^ i : Nat) : Int) = c * (vl 4294967296 du i : Int) + d * (vl 4294967296 dv i : Int) → vx_V D vcl A H0 20 G h 0 0 9 [(15, .int (nI i)), (13, .long (lZ cv)), (11, .long (lZ cu)), (0, .ref (ar pu)), (1, .ref (ar pv)), (2, .int (nI n)), (3, .long (lZ a)), (5, .long (lZ b)), (7, .long (lZ c)), (9, .long (lZ d))] [] := by
    intro m
    induction m with
    | zero =>
      intro i him h fn5 eu ev cu cv HR5 f1 f2 f3 f4 f5 b1 b2 q1 q2
      refine vx_iload IG dc_E_multiply_9 0 rfl ?_
      refine vx_iload_n IG dc_E_multiply_11 rfl 5 rfl ?_
      refine vx_icmp_ge (tgt := 94) IG dc_E_multiply_12 (by decide) (fun _ => ?_) (fun c_ => absurd (nI_le (by omega) (by omega)) c_)
      refine vx_ret none RG (vx_endv dc_E_multiply_94) rfl ?_
      obtain rfl : i = n := by omega
      exact ⟨rfl, rfl, rfl, fn5, eu, ev, cu, cv, HR5, f1, f2, f3, q1, q2⟩
    | succ m ih =>
      intro i him h fn5 eu ev cu cv HR5 f1 f2 f3 f4 f5 b1 b2 q1 q2
      obtain ⟨u1, u2⟩ := hdu i (by omega)
      obtain ⟨v1, v2⟩ := hdv i (by omega)
      have hu5 : fn5 pu i = lZ (du i : Int) := by rw [f4 i (Nat.le_refl i), u2, lZ_nat]
      have hv5 : fn5 pv i = lZ (dv i : Int) := by rw [f5 i (Nat.le_refl i), v2, lZ_nat]
      have s1 := mu_bound ha hb u1 v1 b1
      have s2 := mu_bound hc hd u1 v1 b2
      refine vx_iload IG dc_E_multiply_9 0 rfl ?_
      refine vx_iload_n IG dc_E_multiply_11 rfl 5 rfl ?_
      refine vx_icmp_ge (tgt := 94) IG dc_E_multiply_12 (by decide) (fun c_ => absurd c_ (nI_ge (by omega) (by omega))) (fun _ => ?_)
      refine vx_lload_n IG dc_E_multiply_15 rfl 6 rfl ?_
      refine vx_aload_n IG dc_E_multiply_16 rfl 3 rfl ?_
      refine vx_iload IG dc_E_multiply_17 0 rfl ?_
      refine wr_ald IG HR5 hpu ht i rfl (by omega) dc_E_multiply_19 ?_
      refine vx_topl (y := lZ (du i : Int)) hu5 ?_
      refine vx_lmul IG dc_E_multiply_20 ?_
      refine vx_topl (y := lZ (a * (du i : Int))) (lZ_mul _ _) ?_
      refine vx_lload IG dc_E_multiply_21 7 rfl ?_
      refine vx_aload_n IG dc_E_multiply_23 rfl 4 rfl ?_
      refine vx_iload IG dc_E_multiply_24 0 rfl ?_
      refine wr_ald IG HR5 hpv ht i rfl (by omega) dc_E_multiply_26 ?_
      refine vx_topl (y := lZ (dv i : Int)) hv5 ?_
      refine vx_lmul IG dc_E_multiply_27 ?_
      refine vx_topl (y := lZ (b * (dv i : Int))) (lZ_mul _ _) ?_
      refine vx_ladd IG dc_E_multiply_28 ?_
      refine vx_topl (y := lZ (a * (du i : Int) + b * (dv i : Int))) (lZ_add _ _) ?_
      refine vx_lload IG dc_E_multiply_29 2 rfl ?_
      refine vx_ladd IG dc_E_multiply_31 ?_
      refine vx_topl (y := lZ (a * (du i : Int) + b * (dv i : Int) + cu)) (lZ_add _ _) ?_
      refine vx_lstore (lv' := [(16, .long (lZ (a * (du i : Int) + b * (dv i : Int) + cu))), (15, .int (nI i)), (13, .long (lZ cv)), (11, .long (lZ cu)), (0, .ref (ar pu)), (1, .ref (ar pv)), (2, .int (nI n)), (3, .long (lZ a)), (5, .long (lZ b)), (7, .long (lZ c)), (9, .long (lZ d))]) IG dc_E_multiply_32 (by decide) rfl ?_
      refine vx_lload IG dc_E_multiply_34 9 rfl ?_
      refine vx_aload_n IG dc_E_multiply_36 rfl 4 rfl ?_
      refine vx_iload IG dc_E_multiply_37 1 rfl ?_
      refine wr_ald IG HR5 hpu ht i rfl (by omega) dc_E_multiply_39 ?_
      refine vx_topl (y := lZ (du i : Int)) hu5 ?_
      refine vx_lmul IG dc_E_multiply_40 ?_
      refine vx_topl (y := lZ (c * (du i : Int))) (lZ_mul _ _) ?_
      refine vx_lload IG dc_E_multiply_41 10 rfl ?_
      refine vx_aload_n IG dc_E_multiply_43 rfl 5 rfl ?_
      refine vx_iload IG dc_E_multiply_44 1 rfl ?_
      refine wr_ald IG HR5 hpv ht i rfl (by omega) dc_E_multiply_46 ?_
      refine vx_topl (y := lZ (dv i : Int)) hv5 ?_
      refine vx_lmul IG dc_E_multiply_47 ?_
      refine vx_topl (y := lZ (d * (dv i : Int))) (lZ_mul _ _) ?_
      refine vx_ladd IG dc_E_multiply_48 ?_
      refine vx_topl (y := lZ (c * (du i : Int) + d * (dv i : Int))) (lZ_add _ _) ?_
      refine vx_lload IG dc_E_multiply_49 2 rfl ?_
      refine vx_ladd IG dc_E_multiply_51 ?_
      refine vx_topl (y := lZ (c * (du i : Int) + d * (dv i : Int) + cv)) (lZ_add _ _) ?_
      refine vx_lstore (lv' := [(18, .long (lZ (c * (du i : Int) + d * (dv i : Int) + cv))), (16, .long (lZ (a * (du i : Int) + b * (dv i : Int) + cu))), (15, .int (nI i)), (13, .long (lZ cv)), (11, .long (lZ cu)), (0, .ref (ar pu)), (1, .ref (ar pv)), (2, .int (nI n)), (3, .long (lZ a)), (5, .long (lZ b)), (7, .long (lZ c)), (9, .long (lZ d))]) IG dc_E_multiply_52 (by decide) rfl ?_
      refine vx_aload_n IG dc_E_multiply_54 rfl 5 rfl ?_
      refine vx_iload IG dc_E_multiply_55 2 rfl ?_
      refine vx_lload IG dc_E_multiply_57 1 rfl ?_
      refine vx_ldc2 (v := 4294967295) IG wK_E_140 dc_E_multiply_59 ?_
      generalize es : a * (du i : Int) + b * (dv i : Int) + cu = s at *
      generalize et : c * (du i : Int) + d * (dv i : Int) + cv = t at *
      refine vx_land IG dc_E_multiply_62 ?_
      refine vx_topl (y := lN (s % 4294967296).toNat) (lZ_mask _) ?_
      refine wr_ast IG HR5 hpu ht i rfl (by omega) dc_E_multiply_63 (fun h HR5 => ?_)
      obtain ⟨fn6, e_fn6⟩ : ∃ z, z = va_up fn5 pu (vp_updL (fn5 pu) i (lN (s % 4294967296).toNat)) := ⟨_, rfl⟩
      rw [← e_fn6] at HR5
      refine vx_aload_n IG dc_E_multiply_64 rfl 6 rfl ?_
      refine vx_iload IG dc_E_multiply_65 2 rfl ?_
      refine vx_lload IG dc_E_multiply_67 0 rfl ?_
      refine vx_ldc2 (v := 4294967295) IG wK_E_140 dc_E_multiply_69 ?_
      refine vx_land IG dc_E_multiply_72 ?_
      refine vx_topl (y := lN (t % 4294967296).toNat) (lZ_mask _) ?_
      refine wr_ast IG HR5 hpv ht i rfl (by omega) dc_E_multiply_73 (fun h HR5 => ?_)
      obtain ⟨fn7, e_fn7⟩ : ∃ z, z = va_up fn6 pv (vp_updL (fn6 pv) i (lN (t % 4294967296).toNat)) := ⟨_, rfl⟩
      rw [← e_fn7] at HR5
      refine vx_lload IG dc_E_multiply_74 1 rfl ?_
      refine vx_bipush (v := 32) IG dc_E_multiply_76 (by decide) ?_
      refine vx_lshr (v := lZ (s / 4294967296)) IG dc_E_multiply_78 (lZ_shr32 (by omega) (by omega)) ?_
      refine vx_lstore (lv' := [(11, .long (lZ (s / 4294967296))), (18, .long (lZ t)), (16, .long (lZ s)), (15, .int (nI i)), (13, .long (lZ cv)), (0, .ref (ar pu)), (1, .ref (ar pv)), (2, .int (nI n)), (3, .long (lZ a)), (5, .long (lZ b)), (7, .long (lZ c)), (9, .long (lZ d))]) IG dc_E_multiply_79 (by decide) rfl ?_
      refine vx_lload IG dc_E_multiply_81 1 rfl ?_
      refine vx_bipush (v := 32) IG dc_E_multiply_83 (by decide) ?_
      refine vx_lshr (v := lZ (t / 4294967296)) IG dc_E_multiply_85 (lZ_shr32 (by omega) (by omega)) ?_
      refine vx_lstore (lv' := [(13, .long (lZ (t / 4294967296))), (11, .long (lZ (s / 4294967296))), (18, .long (lZ t)), (16, .long (lZ s)), (15, .int (nI i)), (0, .ref (ar pu)), (1, .ref (ar pv)), (2, .int (nI n)), (3, .long (lZ a)), (5, .long (lZ b)), (7, .long (lZ c)), (9, .long (lZ d))]) IG dc_E_multiply_86 (by decide) rfl ?_
      refine vx_iinc (q := 4) (v := nI (i + 1)) (lv' := [(15, .int (nI (i + 1))), (13, .long (lZ (t / 4294967296))), (11, .long (lZ (s / 4294967296))), (18, .long (lZ t)), (16, .long (lZ s)), (0, .ref (ar pu)), (1, .ref (ar pv)), (2, .int (nI n)), (3, .long (lZ a)), (5, .long (lZ b)), (7, .long (lZ c)), (9, .long (lZ d))]) IG dc_E_multiply_88 rfl (nI_1 i) (by decide) rfl ?_
      refine vx_goto (tgt := 9) IG dc_E_multiply_91 (by decide) ?_
      refine vx_same (lv' := [(15, .int (nI (i + 1))), (13, .long (lZ (t / 4294967296))), (11, .long (lZ (s / 4294967296))), (0, .ref (ar pu)), (1, .ref (ar pv)), (2, .int (nI n)), (3, .long (lZ a)), (5, .long (lZ b)), (7, .long (lZ c)), (9, .long (lZ d))]) IG [0, 1, 2, 5, 6, 7, 8, 9, 10, 11] rfl ?_
      have hP : ((4294967296 ^ (i + 1) : Nat) : Int) = ((4294967296 ^ i : Nat) : Int) * 4294967296 := by rw [bp_succ, Int.natCast_mul]; rfl
      refine ih (i + 1) (by omega) h fn7 (fun j => if j = i then (s % 4294967296).toNat else eu j) (fun j => if j = i then (t % 4294967296).toNat else ev j) (s / 4294967296) (t / 4294967296) HR5 (fun q y1 y2 => ?_) (fun j hj => ?_) (fun j hj => ?_) (fun j hj => ?_) (fun j hj => ?_) (by omega) (by omega) ?_ ?_
      · rw [e_fn7, va_up_ne _ _ y2, e_fn6, va_up_ne _ _ y1]; exact f1 q y1 y2
      · rw [e_fn7, va_up_ne _ _ (Ne.symm hne), e_fn6, va_up_self]
        by_cases y : j = i
        · rw [y, pk_uLs]
          simp only [if_true]
          exact ⟨by omega, trivial⟩
        · rw [pk_uLn y]
          simp only [y, if_false]
          exact f2 j (by omega)
      · rw [e_fn7, va_up_self]
        by_cases y : j = i
        · rw [y, pk_uLs]
          simp only [if_true]
          exact ⟨by omega, trivial⟩
        · rw [pk_uLn y, e_fn6, va_up_ne _ _ hne]
          simp only [y, if_false]
          exact f3 j (by omega)
      · rw [e_fn7, va_up_ne _ _ (Ne.symm hne), e_fn6, va_up_self, pk_uLn (by omega)]; exact f4 j (by omega)
      · rw [e_fn7, va_up_self, pk_uLn (by omega), e_fn6, va_up_ne _ _ hne]; exact f5 j (by omega)
      · rw [vl_snoc, vl_succ, vl_succ, hP, Int.natCast_add, Int.natCast_add, Int.natCast_add, Int.natCast_mul, Int.natCast_mul, Int.natCast_mul, show (((s % 4294967296).toNat : Nat) : Int) = s % 4294967296 by omega]
        exact mu_step q1 es.symm
      · rw [vl_snoc, vl_succ, vl_succ, hP, Int.natCast_add, Int.natCast_add, Int.natCast_add, Int.natCast_mul, Int.natCast_mul, Int.natCast_mul, show (((t % 4294967296).toNat : Nat) : Int) = t % 4294967296 by omega]
        exact mu_step q2 et.symm
  refine vx_lconst (v := 0) IG dc_E_multiply_0 (by decide) ?_
  refine vx_lstore (lv' := [(11, .long 0), (0, .ref (ar pu)), (1, .ref (ar pv)), (2, .int (nI n)), (3, .long (lZ a)), (5, .long (lZ b)), (7, .long (lZ c)), (9, .long (lZ d))]) IG dc_E_multiply_1 (by decide) rfl ?_
  refine vx_lconst (v := 0) IG dc_E_multiply_3 (by decide) ?_
  refine vx_lstore (lv' := [(13, .long 0), (11, .long 0), (0, .ref (ar pu)), (1, .ref (ar pv)), (2, .int (nI n)), (3, .long (lZ a)), (5, .long (lZ b)), (7, .long (lZ c)), (9, .long (lZ d))]) IG dc_E_multiply_4 (by decide) rfl ?_
  refine vx_iconst (v := 0) IG dc_E_multiply_6 (by decide) ?_
  refine vx_istore (lv' := [(15, .int 0), (13, .long 0), (11, .long 0), (0, .ref (ar pu)), (1, .ref (ar pv)), (2, .int (nI n)), (3, .long (lZ a)), (5, .long (lZ b)), (7, .long (lZ c)), (9, .long (lZ d))]) IG dc_E_multiply_7 (by decide) rfl ?_
  refine loop n 0 (by omega) h fn (fun _ => 0) (fun _ => 0) 0 0 HR (fun _ _ _ => rfl) (fun j hj => by omega) (fun j hj => by omega) (fun _ _ => rfl) (fun _ _ => rfl) (by decide) (by decide) ?_ ?_ <;> simp [vl]
end
end
section
/-! Euclid: foresee -/
theorem lead_lt (N : Nat) : N / 2 ^ (bl N - 62) < 4611686018427387904 := by
  rw [Nat.div_lt_iff_lt_mul (Nat.pow_pos (by decide))]
  refine Nat.lt_of_lt_of_le (lt_bl N) ?_
  rw [show (4611686018427387904 : Nat) = 2 ^ 62 from rfl, ← Nat.pow_add]
  exact Nat.pow_le_pow_right (by decide) (by omega)
theorem lZ_ne0 {a : Int} (h1 : 0 < a) (h2 : a < 9223372036854775808) : ¬ lZ a = 0 := fun q => by
  have := (lZ_eq (a := a) (b := 0) (by omega) h2 (by omega) (by omega)).mp q
  omega
section
variable {l : Launch} {D : va_G} {tys : List (ClassId × FieldType)} {cJ : ClassId} {L : List Nat} {r : vx_h} {h : vx_h} {eu ex ef ey eg es ed : Nat} {V : Nat → Nat} {C S : Nat} {bw_ : Int32} {xx xy yx yy : Int}
set_option maxRecDepth 100000 in
set_option maxHeartbeats 8000000 in
/-- foresee() -/
theorem cE_foresee (HP : pool cJ L (vx_up r eu (eOb ex ef ey eg es ed bw_ xx xy yx yy)) V h C S) (hex : ex ∈ L) (hey : ey ∈ L) (ht : tys[0]? = some (cJ, .long)) (hle : V ey ≤ V ex) (hsz : bl (V ex) < 900000) : vx_M l D vcl tys my_E_foresee lw_gd (rm_ 3 0 0 69) [.ref eu] h (fun v h' k n => k = 0 ∧ n = 0 ∧ ∃ (i : Nat) (a b c d : Int) (X Y : Nat), Eu (V ex) (V ey) i a b c d X Y ∧ a.natAbs ≤ 1073741823 ∧ b.natAbs ≤ 1073741823 ∧ c.natAbs ≤ 1073741823 ∧ d.natAbs ≤ 1073741823 ∧ v = some (.int (if i = 0 then 0 else 1)) ∧ pool cJ L (vx_up r eu (eOb ex ef ey eg es ed bw_ a b c d)) V h' C S) := by
  have HP0 := HP
  obtain ⟨ar, cp, cn, fn, HR, hV, hC, hS⟩ := HP
  refine vx_M.ofV (cc := bc_E_foresee) (maxL := 11) (ret := some .boolean) (own := rE) false rfl (by decide +kernel) wC_E_foresee (fun q => by cases q) (Nat.le_of_ble_eq_true rfl) (fun A H0 G IG RG => ?_)
  show vx_V _ _ _ _ _ _ _ _ _ 0 [(0, .ref eu)] []
  refine vx_iconst (v := 0) IG dc_E_foresee_0 (by decide) ?_
  refine vx_aload_n IG dc_E_foresee_1 rfl 0 rfl ?_
  refine vx_get IG (rw_r HR vx_up_s) rfl 0 (by decide) inE wF_E_12 rfl rfl dc_E_foresee_2 ?_
  refine vx_callV (As := []) (st := [.int 0]) IG lw_good (cW_bits HP0 hex ht) (rw_obj HR hex) rfl wC_W_bits wL_E_88 wI_W_bits wS_W_bits wX_W 0 (by decide +kernel) rfl ⟨Nat.le_of_ble_eq_true rfl, Nat.le_of_ble_eq_true rfl⟩ ⟨(by dsimp only [rm_]; omega), (by dsimp only [rm_]; omega)⟩ rfl (Nat.le_of_ble_eq_true rfl) dc_E_foresee_5 (fun v h k1 n1 hq => ?_)
  obtain ⟨rfl, rfl, rfl, rfl⟩ := hq
  show vx_V _ _ _ _ _ _ _ _ _ 8 [(0, .ref eu)] [.int (nI (bl (V ex))), .int 0]
  refine vx_bipush (v := 62) IG dc_E_foresee_8 (by decide) ?_
  refine vx_isub IG dc_E_foresee_10 ?_
  refine vx_callS (As := [.int 0, .int (nI (bl (V ex)) - 62)]) (st := []) IG lw_good (cJM_max _ _ _) wC_JM_max_II wL_E_92 wT_JM_max_II wX_JM 2 (by decide +kernel) rfl ⟨Nat.le_of_ble_eq_true rfl, Nat.le_of_ble_eq_true rfl⟩ ⟨(by dsimp only [rm_]; omega), (by dsimp only [rm_]; omega)⟩ rfl (Nat.le_of_ble_eq_true rfl) dc_E_foresee_11 (fun v h k2 n2 hq => ?_)
  obtain ⟨rfl, rfl, rfl, rfl⟩ := hq
  show vx_V _ _ _ _ _ _ _ _ _ 14 [(0, .ref eu)] [.int (if (0 : Int32) < nI (bl (V ex)) - 62 then nI (bl (V ex)) - 62 else 0)]
  refine vx_topi (y := nI (bl (V ex) - 62)) (nI_maxsub (b := 62) (by omega) (by decide)) ?_
  refine vx_istore_n (lv' := [(1, .int (nI (bl (V ex) - 62))), (0, .ref eu)]) IG dc_E_foresee_14 rfl (by decide) rfl ?_
  refine vx_aload_n IG dc_E_foresee_15 rfl 1 rfl ?_
  refine vx_get IG (rw_r HR vx_up_s) rfl 0 (by decide) inE wF_E_12 rfl rfl dc_E_foresee_16 ?_
  refine vx_iload_n IG dc_E_foresee_19 rfl 0 rfl ?_
  refine vx_callV (As := [.int (nI (bl (V ex) - 62))]) (st := []) IG lw_good (cW_bitsFrom HP0 hex ht (j := bl (V ex) - 62) (by omega)) (rw_obj HR hex) rfl wC_W_bitsFrom wL_E_98 wI_W_bitsFrom wS_W_bitsFrom wX_W 1 (by decide +kernel) rfl ⟨Nat.le_of_ble_eq_true rfl, Nat.le_of_ble_eq_true rfl⟩ ⟨(by dsimp only [rm_]; omega), (by dsimp only [rm_]; omega)⟩ rfl (Nat.le_of_ble_eq_true rfl) dc_E_foresee_20 (fun v h k3 n3 hq => ?_)
  obtain ⟨rfl, rfl, rfl, rfl⟩ := hq
  have l0 := lead_lt (V ex)
  generalize elow : bl (V ex) - 62 = low at *
  have l1 : V ey / 2 ^ low ≤ V ex / 2 ^ low := Nat.div_le_div_right hle
  show vx_V _ _ _ _ _ _ _ _ _ 23 [(1, .int (nI low)), (0, .ref eu)] [.long (lN (V ex / 2 ^ low % 18446744073709551616))]
  refine vx_topl (y := lZ ((V ex / 2 ^ low : Nat) : Int)) (by rw [Nat.mod_eq_of_lt (by omega), lZ_nat]) ?_
  refine vx_lstore_n (lv' := [(2, .long (lZ ((V ex / 2 ^ low : Nat) : Int))), (1, .int (nI low)), (0, .ref eu)]) IG dc_E_foresee_23 rfl (by decide) rfl ?_
  refine vx_aload_n IG dc_E_foresee_24 rfl 2 rfl ?_
  refine vx_get IG (rw_r HR vx_up_s) rfl 3 (by decide) inE wF_E_25 rfl rfl dc_E_foresee_25 ?_
  refine vx_iload_n IG dc_E_foresee_28 rfl 1 rfl ?_
  refine vx_callV (As := [.int (nI low)]) (st := []) IG lw_good (cW_bitsFrom HP0 hey ht (j := low) (by omega)) (rw_obj HR hey) rfl wC_W_bitsFrom wL_E_98 wI_W_bitsFrom wS_W_bitsFrom wX_W 1 (by decide +kernel) rfl ⟨Nat.le_of_ble_eq_true rfl, Nat.le_of_ble_eq_true rfl⟩ ⟨(by dsimp only [rm_]; omega), (by dsimp only [rm_]; omega)⟩ rfl (Nat.le_of_ble_eq_true rfl) dc_E_foresee_29 (fun v h k4 n4 hq => ?_)
  obtain ⟨rfl, rfl, rfl, rfl⟩ := hq
  show vx_V _ _ _ _ _ _ _ _ _ 32 [(2, .long (lZ ((V ex / 2 ^ low : Nat) : Int))), (1, .int (nI low)), (0, .ref eu)] [.long (lN (V ey / 2 ^ low % 18446744073709551616))]
  refine vx_topl (y := lZ ((V ey / 2 ^ low : Nat) : Int)) (by rw [Nat.mod_eq_of_lt (by omega), lZ_nat]) ?_
  refine vx_lstore (lv' := [(4, .long (lZ ((V ey / 2 ^ low : Nat) : Int))), (2, .long (lZ ((V ex / 2 ^ low : Nat) : Int))), (1, .int (nI low)), (0, .ref eu)]) IG dc_E_foresee_32 (by decide) rfl ?_
  refine vx_aload_n IG dc_E_foresee_34 rfl 3 rfl ?_
  refine vx_lconst (v := 1) IG dc_E_foresee_35 (by decide) ?_
  have hx0 := (Nat.div_add_mod (V ex) (2 ^ low)).symm
  have hy0 := (Nat.div_add_mod (V ey) (2 ^ low)).symm
  have hm1 := Nat.mod_lt (V ex) (show 0 < 2 ^ low from Nat.pow_pos (by decide))
  have hm2 := Nat.mod_lt (V ey) (show 0 < 2 ^ low from Nat.pow_pos (by decide))
  generalize V ex / 2 ^ low = u0 at *
  generalize V ey / 2 ^ low = v0 at *
  generalize V ex % 2 ^ low = t1 at *
  generalize V ey % 2 ^ low = t2 at *
  refine er_put IG HR 7 (by decide) wF_E_41 rfl rfl (ty := .long) (by decide +kernel) rfl rfl (Nat.le_of_ble_eq_true rfl) dc_E_foresee_36 (fun h HR => ?_)
  replace HR : rw_at 2 cJ L (vx_up r eu (eOb ex ef ey eg es ed bw_ 1 xy yx yy)) ar cp cn fn h := HR
  refine vx_aload_n IG dc_E_foresee_39 rfl 3 rfl ?_
  refine vx_lconst (v := 0) IG dc_E_foresee_40 (by decide) ?_
  refine er_put IG HR 8 (by decide) wF_E_45 rfl rfl (ty := .long) (by decide +kernel) rfl rfl (Nat.le_of_ble_eq_true rfl) dc_E_foresee_41 (fun h HR => ?_)
  replace HR : rw_at 2 cJ L (vx_up r eu (eOb ex ef ey eg es ed bw_ 1 0 yx yy)) ar cp cn fn h := HR
  refine vx_aload_n IG dc_E_foresee_44 rfl 3 rfl ?_
  refine vx_lconst (v := 0) IG dc_E_foresee_45 (by decide) ?_
  refine er_put IG HR 9 (by decide) wF_E_48 rfl rfl (ty := .long) (by decide +kernel) rfl rfl (Nat.le_of_ble_eq_true rfl) dc_E_foresee_46 (fun h HR => ?_)
  replace HR : rw_at 2 cJ L (vx_up r eu (eOb ex ef ey eg es ed bw_ 1 0 0 yy)) ar cp cn fn h := HR
  refine vx_aload_n IG dc_E_foresee_49 rfl 3 rfl ?_
  refine vx_lconst (v := 1) IG dc_E_foresee_50 (by decide) ?_
  refine er_put IG HR 10 (by decide) wF_E_51 rfl rfl (ty := .long) (by decide +kernel) rfl rfl (Nat.le_of_ble_eq_true rfl) dc_E_foresee_51 (fun h HR => ?_)
  replace HR : rw_at 2 cJ L (vx_up r eu (eOb ex ef ey eg es ed bw_ 1 0 0 1)) ar cp cn fn h := HR
  refine vx_iconst (v := 0) IG dc_E_foresee_54 (by decide) ?_
  refine vx_istore (lv' := [(6, .int 0), (4, .long (lZ (v0 : Int))), (2, .long (lZ (u0 : Int))), (1, .int (nI low)), (0, .ref eu)]) IG dc_E_foresee_55 (by decide) rfl ?_
  have fin : ∀ (h : vx_h) (i : Nat) (a b c d : Int) (X Y : Nat), rw_at 2 cJ L (vx_up r eu (eOb ex ef ey eg es ed bw_ a b c d)) ar cp cn fn h → Eu (V ex) (V ey) i a b c d X Y → a.natAbs ≤ 1073741823 → b.natAbs ≤ 1073741823 → c.natAbs ≤ 1073741823 → d.natAbs ≤ 1073741823 → vx_V D vcl A H0 11 G h (0 + 0 + 0 + 0 + 0) (0 + 0 + 0 + 0 + 0) 161 [(0, .ref eu)] [] := by
    intro h i a b c d X Y HR hE g1 g2 g3 g4
    have hb := Eu_b hle hE
    refine vx_aload_n IG dc_E_foresee_161 rfl 0 rfl ?_
    refine vx_get IG (rw_r HR vx_up_s) rfl 8 (by decide) inE wF_E_45 rfl rfl dc_E_foresee_162 ?_
    refine vx_lconst (v := 0) IG dc_E_foresee_165 (by decide) ?_
    refine vx_lcmp IG dc_E_foresee_166 ?_
    have hc := lZ_eq (a := b) (b := 0) (by omega) (by omega) (by omega) (by omega)
    by_cases z : i = 0
    · refine vx_if_eq (tgt := 174) IG dc_E_foresee_167 (by decide) (fun _ => ?_) (fun c_ => absurd ((lg_cmp_eq _ _).mpr (hc.mpr (hb.mpr z))) c_)
      refine vx_iconst (v := 0) IG dc_E_foresee_174 (by decide) ?_
      refine vx_ret (some (.int 0)) RG (vx_endi (by first | rfl | decide) dc_E_foresee_175) rfl ?_
      exact ⟨rfl, rfl, i, a, b, c, d, X, Y, hE, g1, g2, g3, g4, by rw [if_pos z], ar, cp, cn, fn, HR, hV, hC, hS⟩
    · refine vx_if_eq (tgt := 174) IG dc_E_foresee_167 (by decide) (fun c_ => absurd c_ (fun q => z (hb.mp (hc.mp ((lg_cmp_eq _ _).mp q))))) (fun _ => ?_)
      refine vx_iconst (v := 1) IG dc_E_foresee_170 (by decide) ?_
      refine vx_goto (tgt := 175) IG dc_E_foresee_171 (by decide) ?_
      refine vx_ret (some (.int 1)) RG (vx_endi (by first | rfl | decide) dc_E_foresee_175) rfl ?_
      exact ⟨rfl, rfl, i, a, b, c, d, X, Y, hE, g1, g2, g3, g4, by rw [if_neg z], ar, cp, cn, fn, HR, hV, hC, hS⟩
  have loop : ∀ (m i : Nat), i + m = 64 → ∀ (h : vx_h) (a b c d u v : Int) (X Y : Nat), rw_at 2 cJ L (vx_up r eu (eOb ex ef ey eg es ed bw_ a b c d)) ar cp cn fn h → Eu (V ex) (V ey) i a b c d X Y → a.natAbs ≤ 1073741823 → b.natAbs ≤ 1073741823 → c.natAbs ≤ 1073741823 → d.natAbs ≤ 1073741823 → u = a * u0 + b * v0 → v = c * u0 + d * v0 → 0 ≤ u + a → 0 ≤ u + b → 0 ≤ v → v ≤ u → u < 4611686018427387904 → vx_V D vcl A H0 11 G h (0 + 0 + 0 + 0 + 0) (0 + 0 + 0 + 0 + 0) 57 [(6, .int (nI i)), (4, .long (lZ v)), (2, .long (lZ u)), (1, .int (nI low)), (0, .ref eu)] [] := by
    intro m
    induction m with
    | zero =>
      intro i him h a b c d u v X Y HR hE g1 g2 g3 g4 eu_ ev_ i1 i2 i3 i4 i5
      refine vx_iload IG dc_E_foresee_57 0 rfl ?_
      refine vx_bipush (v := 64) IG dc_E_foresee_59 (by decide) ?_
      refine vx_icmp_ge (tgt := 161) IG dc_E_foresee_61 (by decide) (fun _ => ?_) (fun c_ => absurd (nI_le (a := 64) (by omega) (by omega)) c_)
      refine vx_same (lv' := [(0, .ref eu)]) IG [4] rfl ?_
      exact fin h i a b c d X Y HR hE g1 g2 g3 g4
    | succ m ih =>
      intro i him h a b c d u v X Y HR hE g1 g2 g3 g4 eu_ ev_ i1 i2 i3 i4 i5
      refine vx_iload IG dc_E_foresee_57 0 rfl ?_
      refine vx_bipush (v := 64) IG dc_E_foresee_59 (by decide) ?_
      refine vx_icmp_ge (tgt := 161) IG dc_E_foresee_61 (by decide) (fun c_ => absurd c_ (nI_ge (b := 64) (by omega) (by omega))) (fun _ => ?_)
      refine vx_lload IG dc_E_foresee_64 1 rfl ?_
      refine vx_aload_n IG dc_E_foresee_66 rfl 4 rfl ?_
      refine vx_get IG (rw_r HR vx_up_s) rfl 9 (by decide) inE wF_E_48 rfl rfl dc_E_foresee_67 ?_
      refine vx_ladd IG dc_E_foresee_70 ?_
      refine vx_topl (y := lZ (v + c)) (lZ_add _ _) ?_
      refine vx_lconst (v := 0) IG dc_E_foresee_71 (by decide) ?_
      refine vx_lcmp IG dc_E_foresee_72 ?_
      have c1 := lZ_le (a := v + c) (b := 0) (by omega) (by omega) (by omega) (by omega)
      by_cases z1 : v + c ≤ 0
      · refine vx_if_le (tgt := 161) IG dc_E_foresee_73 (by decide) (fun _ => ?_) (fun c_ => absurd ((lg_cmp_le _ _).mpr (c1.mpr z1)) c_)
        refine vx_same (lv' := [(0, .ref eu)]) IG [4] rfl ?_
        exact fin h i a b c d X Y HR hE g1 g2 g3 g4
      · refine vx_if_le (tgt := 161) IG dc_E_foresee_73 (by decide) (fun c_ => absurd c_ (fun q => z1 (c1.mp ((lg_cmp_le _ _).mp q)))) (fun _ => ?_)
        refine vx_lload IG dc_E_foresee_76 1 rfl ?_
        refine vx_aload_n IG dc_E_foresee_78 rfl 4 rfl ?_
        refine vx_get IG (rw_r HR vx_up_s) rfl 10 (by decide) inE wF_E_51 rfl rfl dc_E_foresee_79 ?_
        refine vx_ladd IG dc_E_foresee_82 ?_
        refine vx_topl (y := lZ (v + d)) (lZ_add _ _) ?_
        refine vx_lconst (v := 0) IG dc_E_foresee_83 (by decide) ?_
        refine vx_lcmp IG dc_E_foresee_84 ?_
        have c2 := lZ_lt (a := 0) (b := v + d) (by omega) (by omega) (by omega) (by omega)
        by_cases z2 : 0 < v + d
        · refine vx_if_gt (tgt := 91) IG dc_E_foresee_85 (by decide) (fun _ => ?_) (fun c_ => absurd ((lg_cmp_gt _ _).mpr (c2.mpr z2)) c_)
          refine vx_lload_n IG dc_E_foresee_91 rfl 2 rfl ?_
          refine vx_aload_n IG dc_E_foresee_92 rfl 4 rfl ?_
          refine vx_get IG (rw_r HR vx_up_s) rfl 7 (by decide) inE wF_E_41 rfl rfl dc_E_foresee_93 ?_
          refine vx_ladd IG dc_E_foresee_96 ?_
          refine vx_topl (y := lZ (u + a)) (lZ_add _ _) ?_
          refine vx_lload IG dc_E_foresee_97 1 rfl ?_
          refine vx_aload_n IG dc_E_foresee_99 rfl 4 rfl ?_
          refine vx_get IG (rw_r HR vx_up_s) rfl 9 (by decide) inE wF_E_48 rfl rfl dc_E_foresee_100 ?_
          refine vx_ladd IG dc_E_foresee_103 ?_
          refine vx_topl (y := lZ (v + c)) (lZ_add _ _) ?_
          refine vx_ldiv IG dc_E_foresee_104 (lZ_ne0 (by omega) (by omega)) ?_
          refine vx_topl (y := lZ ((u + a) / (v + c))) (lZ_div i1 (by omega) (by omega) (by omega)) ?_
          refine vx_lstore (lv' := [(7, .long (lZ ((u + a) / (v + c)))), (6, .int (nI i)), (4, .long (lZ v)), (2, .long (lZ u)), (1, .int (nI low)), (0, .ref eu)]) IG dc_E_foresee_105 (by decide) rfl ?_
          refine vx_lload IG dc_E_foresee_107 0 rfl ?_
          refine vx_lload_n IG dc_E_foresee_109 rfl 3 rfl ?_
          refine vx_aload_n IG dc_E_foresee_110 rfl 5 rfl ?_
          refine vx_get IG (rw_r HR vx_up_s) rfl 8 (by decide) inE wF_E_45 rfl rfl dc_E_foresee_111 ?_
          refine vx_ladd IG dc_E_foresee_114 ?_
          refine vx_topl (y := lZ (u + b)) (lZ_add _ _) ?_
          refine vx_lload IG dc_E_foresee_115 2 rfl ?_
          refine vx_aload_n IG dc_E_foresee_117 rfl 5 rfl ?_
          refine vx_get IG (rw_r HR vx_up_s) rfl 10 (by decide) inE wF_E_51 rfl rfl dc_E_foresee_118 ?_
          refine vx_ladd IG dc_E_foresee_121 ?_
          refine vx_topl (y := lZ (v + d)) (lZ_add _ _) ?_
          refine vx_ldiv IG dc_E_foresee_122 (lZ_ne0 (by omega) (by omega)) ?_
          refine vx_topl (y := lZ ((u + b) / (v + d))) (lZ_div i2 (by omega) (by omega) (by omega)) ?_
          refine vx_lcmp IG dc_E_foresee_123 ?_
          have k1 : 0 ≤ (u + a) / (v + c) := Int.ediv_nonneg i1 (by omega)
          have k2 : (u + a) / (v + c) ≤ u + a := Int.ediv_le_self _ i1
          have k3 : 0 ≤ (u + b) / (v + d) := Int.ediv_nonneg i2 (by omega)
          have k4 : (u + b) / (v + d) ≤ u + b := Int.ediv_le_self _ i2
          have c3 := lZ_eq (a := (u + a) / (v + c)) (b := (u + b) / (v + d)) (by omega) (by omega) (by omega) (by omega)
          by_cases z3 : (u + a) / (v + c) = (u + b) / (v + d)
          · refine vx_if_ne (tgt := 161) IG dc_E_foresee_124 (by decide) (fun c_ => absurd ((lg_cmp_eq _ _).mpr (c3.mpr z3)) c_) (fun _ => ?_)
            have l1 := Int.ediv_mul_le (u + a) (b := v + c) (by omega)
            have r1 := Int.lt_ediv_add_one_mul_self (u + a) (b := v + c) (by omega)
            have l2 := Int.ediv_mul_le (u + b) (b := v + d) (by omega)
            have r2 := Int.lt_ediv_add_one_mul_self (u + b) (b := v + d) (by omega)
            rw [← z3] at l2 r2
            generalize (u + a) / (v + c) = q at *
            have hst := fs_step hle hE hx0 hy0 hm1 hm2 eu_ ev_ (by omega) z2 k1 l1 r1 l2 r2
            obtain ⟨w1, w2, w3, w4, w5, w6⟩ := hst
            refine vx_aload_n IG dc_E_foresee_127 rfl 5 rfl ?_
            refine vx_lload IG dc_E_foresee_128 0 rfl ?_
            refine vx_callV (As := [.long (lZ q)]) (st := []) IG lw_good (cE_turn HR k1 (by omega) g1 g2 g3 g4) (rw_r HR vx_up_s) rfl wC_E_turn wL_E_102 wI_E_turn wS_E_turn wX_E 1 (by decide +kernel) rfl ⟨Nat.le_of_ble_eq_true rfl, Nat.le_of_ble_eq_true rfl⟩ ⟨(by dsimp only [rm_]; omega), (by dsimp only [rm_]; omega)⟩ rfl (Nat.le_of_ble_eq_true rfl) dc_E_foresee_130 (fun v h k5 n5 hq => ?_)
            obtain ⟨rfl, rfl, hq⟩ := hq
            rcases hq with ⟨rfl, rfl⟩ | ⟨rfl, n1, n2, HR⟩
            · show vx_V _ _ _ _ _ _ _ _ _ 133 [(7, .long (lZ q)), (6, .int (nI i)), (4, .long (lZ v)), (2, .long (lZ u)), (1, .int (nI low)), (0, .ref eu)] [.int 0]
              refine vx_if_ne (tgt := 139) IG dc_E_foresee_133 (by decide) (fun c_ => absurd (by decide) c_) (fun _ => ?_)
              refine vx_goto (tgt := 161) IG dc_E_foresee_136 (by decide) ?_
              refine vx_same (lv' := [(0, .ref eu)]) IG [5] rfl ?_
              exact fin h i a b c d X Y HR hE g1 g2 g3 g4
            · show vx_V _ _ _ _ _ _ _ _ _ 133 [(7, .long (lZ q)), (6, .int (nI i)), (4, .long (lZ v)), (2, .long (lZ u)), (1, .int (nI low)), (0, .ref eu)] [.int 1]
              refine vx_if_ne (tgt := 139) IG dc_E_foresee_133 (by decide) (fun _ => ?_) (fun c_ => absurd c_ (by decide))
              refine vx_lload_n IG dc_E_foresee_139 rfl 3 rfl ?_
              refine vx_lload IG dc_E_foresee_140 0 rfl ?_
              refine vx_lload IG dc_E_foresee_142 2 rfl ?_
              refine vx_lmul IG dc_E_foresee_144 ?_
              refine vx_topl (y := lZ (q * v)) (lZ_mul _ _) ?_
              refine vx_lsub IG dc_E_foresee_145 ?_
              refine vx_topl (y := lZ (u - q * v)) (lZ_sub _ _) ?_
              refine vx_lstore (lv' := [(9, .long (lZ (u - q * v))), (7, .long (lZ q)), (6, .int (nI i)), (4, .long (lZ v)), (2, .long (lZ u)), (1, .int (nI low)), (0, .ref eu)]) IG dc_E_foresee_146 (by decide) rfl ?_
              refine vx_lload IG dc_E_foresee_148 3 rfl ?_
              refine vx_lstore_n (lv' := [(2, .long (lZ v)), (9, .long (lZ (u - q * v))), (7, .long (lZ q)), (6, .int (nI i)), (4, .long (lZ v)), (1, .int (nI low)), (0, .ref eu)]) IG dc_E_foresee_150 rfl (by decide) rfl ?_
              refine vx_lload IG dc_E_foresee_151 1 rfl ?_
              refine vx_lstore (lv' := [(4, .long (lZ (u - q * v))), (2, .long (lZ v)), (9, .long (lZ (u - q * v))), (7, .long (lZ q)), (6, .int (nI i)), (1, .int (nI low)), (0, .ref eu)]) IG dc_E_foresee_153 (by decide) rfl ?_
              refine vx_iinc (q := 4) (v := nI (i + 1)) (lv' := [(6, .int (nI (i + 1))), (4, .long (lZ (u - q * v))), (2, .long (lZ v)), (9, .long (lZ (u - q * v))), (7, .long (lZ q)), (1, .int (nI low)), (0, .ref eu)]) IG dc_E_foresee_155 rfl (nI_1 i) (by decide) rfl ?_
              refine vx_goto (tgt := 57) IG dc_E_foresee_158 (by decide) ?_
              refine vx_same (lv' := [(6, .int (nI (i + 1))), (4, .long (lZ (u - q * v))), (2, .long (lZ v)), (1, .int (nI low)), (0, .ref eu)]) IG [0, 1, 2, 5, 6] rfl ?_
              have hE2 : Eu (V ex) (V ey) (i + 1) c d (a - q * c) (b - q * d) Y (X % Y) := ⟨a, b, c, d, X, Y, hE, w1, rfl, rfl, by rw [w2], by rw [w2], rfl, rfl⟩
              exact ih (i + 1) (by omega) h c d (a - q * c) (b - q * d) v (u - q * v) Y (X % Y) HR hE2 g3 g4 n1 n2 ev_ (by rw [eu_, ev_]; grind) (by omega) (by omega) w3 (by omega) (by omega)
          · refine vx_if_ne (tgt := 161) IG dc_E_foresee_124 (by decide) (fun _ => ?_) (fun c_ => absurd c_ (fun q => z3 (c3.mp ((lg_cmp_eq _ _).mp q))))
            refine vx_same (lv' := [(0, .ref eu)]) IG [5] rfl ?_
            exact fin h i a b c d X Y HR hE g1 g2 g3 g4
        · refine vx_if_gt (tgt := 91) IG dc_E_foresee_85 (by decide) (fun c_ => absurd c_ (fun q => z2 (c2.mp ((lg_cmp_gt _ _).mp q)))) (fun _ => ?_)
          refine vx_goto (tgt := 161) IG dc_E_foresee_88 (by decide) ?_
          refine vx_same (lv' := [(0, .ref eu)]) IG [4] rfl ?_
          exact fin h i a b c d X Y HR hE g1 g2 g3 g4
  refine loop 64 0 (by decide) h 1 0 0 1 u0 v0 _ _ HR ⟨rfl, rfl, rfl, rfl, rfl, rfl⟩ (by decide) (by decide) (by decide) (by decide) (by omega) (by omega) (by omega) (by omega) (by omega) (by omega) (by omega)
end
end
section
/-! a call with more below it on the stack -/
section
variable {l : Launch} {D : va_G} {cl : List vw_C} {tys : List (ClassId × FieldType)} {R : Room} {own : String} {cc : ByteArray} {nL : Nat} {Ts : List Cond} {ct : Bool} {A : Nat → Prop} {H0 : Heap} {G : vx_G} {h : vx_h} {k n pc : Nat} {lv : List (Nat × Value)} {st : List Value}
variable {y : MethodName} {ws : List Cond} {rm : Room} {av : List Value} {post : Option Value → vx_h → Nat → Nat → Prop} {bytes : ByteArray} {maxL : Nat} {ret : Option FieldType}
theorem vx_callSW (IG : vx_I l D cl tys R own cc nL Ts ct A H0 G) (hg : GoodIn Ts Ts) {As : List Value} (hM : vx_M l D cl tys y Ts rm As h post) {index : Nat} (hcode : Cond.code y bytes maxL ret ∈ Ts) (hm1 : Cond.methodLink own index y ∈ Ts) (hm2 : Cond.static y ∈ Ts) (hm4 : Cond.initialized y.cls ∈ Ts) (na : Nat) (hy : vx_nm y na) (hna : As.length = na) (hR : rm.frames + 1 ≤ R.frames ∧ 12 + (maxL + 11) + rm.locals ≤ R.locals) (hf : k + rm.cells ≤ R.cells ∧ n + rm.slots ≤ R.slots) {st0 : List Value} (hs : st0 = As.reverse ++ st) (hW : (st.map fun v => v.category).sum ≤ 12) (hd : decode cc pc = .ok (.invokestatic index, 3))
    (K : ∀ (v : Option Value) (h' : vx_h) (k' n' : Nat), post v h' k' n' → vx_V D cl A H0 nL G h' (k + k') (n + n') (pc + 3) lv (v.toList ++ st)) : vx_V D cl A H0 nL G h k n pc lv st0 := by
  obtain ⟨p, e, s, m, args, below, meth, c, Q, rfl, hx, hb, hml, hown, hts, hK, hN, hh0, hA, -⟩ := IG
  intro H locs ls g1 g2 g3
  refine vx_goes hA g1 g2 g3 ?_ K
  intro T hT X
  obtain ⟨v, vm₁, ⟨U', l2, c2, s2⟩, hW₁, X', ⟨L, k', n', h', e1, e2, e3, e4, e5, e6, e7, e8⟩, go⟩ := callS X hx (bytes := bytes) (maxL := maxL) (ret := ret) hown (hts _ hm1) (hts _ hm2) (hts _ hm4) (hts _ hcode) ⟨hy.1, hy.2.1⟩
    (vx_back (bytes := bytes) (maxL := maxL) (ret := ret) (W0 := 12) hM hR.1 hR.2 (vx_words hg hts) hcode hm4) (g := F0 m pc ls st0) rfl (by rw [hml]; exact g3.1) (argsL := As) (rest := st) (fun sig hsig => hna.trans (vx_len hy sig hsig)) hs (by have h0 : (F0 m pc ls st0).monitorRoom = 0 := rfl; rw [h0]; omega) (by rw [hb]; exact hd)
    (fun vm₁ hW₁ => ⟨hf.1, hf.2, rfl, (show vx_AH D cl (fun _ => True) h T.heap by rw [hT]; exact fun a e z => ⟨(g1 a e z).1, trivial⟩), va_K.moved hW₁.alike hK, vx_N.warm (U := T.setVm vm₁) hW₁ hN⟩)
  dsimp only [Pt.U, Pt.locs, Pt.cells, Pt.slots] at X' e1 e2 e3 e4 e6 e7 e8 go
  subst e1; subst e2; subst e3
  have hTv : (T.setVm vm₁).heap = H := hT
  rw [hTv] at e4 e6 e7 e8
  exact ⟨v, U', L, k', n', h', X', e4, e5, e6, e7, e8, go⟩
end
end
section
/-! Euclid: leapRemainders, leapFactors, leap, step -/
section
variable {l : Launch} {D : va_G} {tys : List (ClassId × FieldType)} {cJ : ClassId} {L : List Nat} {r : vx_h} {h : vx_h} {eu ex ef ey eg es ed qo rs sc : Nat} {V : Nat → Nat} {C S : Nat} {bw_ : Int32} {a b c d : Int} {ar cp : Nat → Nat} {cn : Nat → Int32} {fn : Nat → Nat → Int64}
theorem wide_dg {p N n : Nat} {fn' : Nat → Nat → Int64} (hv : wv cp cn fn p N) (hlo : ∀ i, i < nd 4294967296 N → fn' p i = fn p i) (hz : ∀ i, nd 4294967296 N ≤ i → i < n → fn' p i = 0) (i : Nat) (hi : i < n) : dg 4294967296 N i < 4294967296 ∧ fn' p i = lN (dg 4294967296 N i) := by
  refine ⟨dg_lt bB1 _ _, ?_⟩
  by_cases z : i < nd 4294967296 N
  · rw [hlo i z]; exact hv.2.2 i z
  · rw [hz i (Nat.le_of_not_lt z) hi, dg_big (Nat.lt_of_lt_of_le (lt_nd bB1 _) (Nat.pow_le_pow_right (by decide) (Nat.le_of_not_lt z)))]; rfl
set_option maxRecDepth 100000 in
set_option maxHeartbeats 8000000 in
theorem cE_leapRemainders (HP : pool cJ L (vx_up r eu (eOb ex ef ey eg es ed bw_ a b c d)) V h C S) (hL : L.Nodup) (hex : ex ∈ L) (hey : ey ∈ L) (hne : ey ≠ ex) (ht : tys[0]? = some (cJ, .long)) (hle : V ey ≤ V ex) (hsz : nd 4294967296 (V ex) ≤ 4100) {i X Y : Nat} (hE : Eu (V ex) (V ey) i a b c d X Y) (g1 : a.natAbs ≤ 1073741823) (g2 : b.natAbs ≤ 1073741823) (g3 : c.natAbs ≤ 1073741823) (g4 : d.natAbs ≤ 1073741823) : vx_M l D vcl tys my_E_leapRemainders lw_gd (rm_ 4 C S 86) [.ref eu] h (pend cJ L (vx_up r eu (eOb ex ef ey eg es ed bw_ a b c d)) (va_up (va_up V ex X) ey Y) C S none) := by
  obtain ⟨ar, cp, cn, fn, HR, hV, hC, hS⟩ := HP
  have hvx := hV ex hex
  have hvy := hV ey hey
  have hnd := nd_mono bB1 hle
  obtain ⟨lin1, lin2⟩ := Eu_lin i _ _ _ _ _ _ hE
  have hXx := Eu_le hle i _ _ _ _ _ _ hE
  have hYX := Eu_ord hle i _ _ _ _ _ _ hE
  refine vx_M.ofV (cc := bc_E_leapRemainders) (maxL := 2) (ret := none) (own := rE) false rfl (by decide +kernel) wC_E_leapRemainders (fun q => by cases q) (Nat.le_of_ble_eq_true rfl) (fun A H0 G IG RG => ?_)
  show vx_V _ _ _ _ _ _ _ _ _ 0 [(0, .ref eu)] []
  refine vx_aload_n IG dc_E_leapRemainders_0 rfl 0 rfl ?_
  refine vx_get IG (rw_r HR vx_up_s) rfl 0 (by decide) inE wF_E_12 rfl rfl dc_E_leapRemainders_1 ?_
  refine wr_cnt IG HR hex wF_E_121 dc_E_leapRemainders_4 ?_
  refine vx_topi (y := nI (nd 4294967296 (V ex))) hvx.1 ?_
  refine vx_istore_n (lv' := [(1, .int (nI (nd 4294967296 (V ex)))), (0, .ref eu)]) IG dc_E_leapRemainders_7 rfl (by decide) rfl ?_
  refine vx_aload_n IG dc_E_leapRemainders_8 rfl 1 rfl ?_
  refine vx_get IG (rw_r HR vx_up_s) rfl 3 (by decide) inE wF_E_25 rfl rfl dc_E_leapRemainders_9 ?_
  refine vx_iload_n IG dc_E_leapRemainders_12 rfl 0 rfl ?_
  refine vx_callV (As := [.int (nI (nd 4294967296 (V ex)))]) (st := []) IG lw_good (cW_widen HR hL hey ht (n := nd 4294967296 (V ex)) hvy.1 hvy.2.1 hsz hC hS) (rw_obj HR hey) rfl wC_W_widen wL_E_125 wI_W_widen wS_W_widen wX_W 1 (by decide +kernel) rfl ⟨Nat.le_of_ble_eq_true rfl, Nat.le_of_ble_eq_true rfl⟩ ⟨(by dsimp only [rm_]; omega), (by dsimp only [rm_]; omega)⟩ rfl (Nat.le_of_ble_eq_true rfl) dc_E_leapRemainders_13 (fun v h k1 n1 hq => ?_)
  obtain ⟨rfl, ar1, cp1, fn1, HR1, ho, hn1, hge, hlow, hzero, hk1, hm1⟩ := hq
  have hfx : ∀ i, i < nd 4294967296 (V ex) → dg 4294967296 (V ex) i < 4294967296 ∧ fn1 ex i = lN (dg 4294967296 (V ex) i) := fun i hi => ⟨dg_lt bB1 _ _, by rw [(ho ex (Ne.symm hne)).2]; exact hvx.2.2 i hi⟩
  have hfy := wide_dg (n := nd 4294967296 (V ex)) hvy hlow hzero
  have hcx : nd 4294967296 (V ex) ≤ cp1 ex := by rw [(ho ex (Ne.symm hne)).1]; exact hvx.2.1
  show vx_V _ _ _ _ _ _ _ _ _ 16 [(1, .int (nI (nd 4294967296 (V ex)))), (0, .ref eu)] []
  refine vx_aload_n IG dc_E_leapRemainders_16 rfl 1 rfl ?_
  refine vx_get IG (rw_r HR1 vx_up_s) rfl 0 (by decide) inE wF_E_12 rfl rfl dc_E_leapRemainders_17 ?_
  refine wr_dig IG HR1 hex wF_E_129 dc_E_leapRemainders_20 ?_
  refine vx_aload_n IG dc_E_leapRemainders_23 rfl 1 rfl ?_
  refine vx_get IG (rw_r HR1 vx_up_s) rfl 3 (by decide) inE wF_E_25 rfl rfl dc_E_leapRemainders_24 ?_
  refine wr_dig IG HR1 hey wF_E_129 dc_E_leapRemainders_27 ?_
  refine vx_iload_n IG dc_E_leapRemainders_30 rfl 0 rfl ?_
  refine vx_aload_n IG dc_E_leapRemainders_31 rfl 1 rfl ?_
  refine vx_get IG (rw_r HR1 vx_up_s) rfl 7 (by decide) inE wF_E_41 rfl rfl dc_E_leapRemainders_32 ?_
  refine vx_aload_n IG dc_E_leapRemainders_35 rfl 1 rfl ?_
  refine vx_get IG (rw_r HR1 vx_up_s) rfl 8 (by decide) inE wF_E_45 rfl rfl dc_E_leapRemainders_36 ?_
  refine vx_aload_n IG dc_E_leapRemainders_39 rfl 1 rfl ?_
  refine vx_get IG (rw_r HR1 vx_up_s) rfl 9 (by decide) inE wF_E_48 rfl rfl dc_E_leapRemainders_40 ?_
  refine vx_aload_n IG dc_E_leapRemainders_43 rfl 1 rfl ?_
  refine vx_get IG (rw_r HR1 vx_up_s) rfl 10 (by decide) inE wF_E_51 rfl rfl dc_E_leapRemainders_44 ?_
  refine vx_callS (As := [.ref (ar1 ex), .ref (ar1 ey), .int (nI (nd 4294967296 (V ex))), .long (lZ a), .long (lZ b), .long (lZ c), .long (lZ d)]) (st := []) IG lw_good (cE_multiply HR1 hex hey hne ht (n := nd 4294967296 (V ex)) (dg 4294967296 (V ex)) (dg 4294967296 (V ey)) hfx hfy hcx hn1 g1 g2 g3 g4) wC_E_multiply wL_E_133 wT_E_multiply wX_E 7 (by decide +kernel) rfl ⟨Nat.le_of_ble_eq_true rfl, Nat.le_of_ble_eq_true rfl⟩ ⟨(by dsimp only [rm_]; omega), (by dsimp only [rm_]; omega)⟩ rfl (Nat.le_of_ble_eq_true rfl) dc_E_leapRemainders_47 (fun v h k2 n2 hq => ?_)
  obtain ⟨rfl, rfl, rfl, fn2, e1, e2, cu, cv, HR2, f1, f2, f3, q1, q2⟩ := hq
  rw [vl_nd bB1, vl_nd_le bB1 hnd, ← lin1] at q1
  rw [vl_nd bB1, vl_nd_le bB1 hnd, ← lin2] at q2
  have hlt := lt_nd bB1 (V ex)
  have r1 := mu_end q1 (vl_lt bB1 (fun j hj => (f2 j hj).1)) (by omega)
  have r2 := mu_end q2 (vl_lt bB1 (fun j hj => (f3 j hj).1)) (by omega)
  show vx_V _ _ _ _ _ _ _ _ _ 50 [(1, .int (nI (nd 4294967296 (V ex)))), (0, .ref eu)] []
  refine vx_aload_n IG dc_E_leapRemainders_50 rfl 1 rfl ?_
  refine vx_get IG (rw_r HR2 vx_up_s) rfl 0 (by decide) inE wF_E_12 rfl rfl dc_E_leapRemainders_51 ?_
  refine vx_iload_n IG dc_E_leapRemainders_54 rfl 0 rfl ?_
  refine vx_callV (As := [.int (nI (nd 4294967296 (V ex)))]) (st := []) IG lw_good (cW_trim HR2 hex ht (n := nd 4294967296 (V ex)) hcx e1 f2) (rw_obj HR2 hex) rfl wC_W_trim wL_E_137 wI_W_trim wS_W_trim wX_W 1 (by decide +kernel) rfl ⟨Nat.le_of_ble_eq_true rfl, Nat.le_of_ble_eq_true rfl⟩ ⟨(by dsimp only [rm_]; omega), (by dsimp only [rm_]; omega)⟩ rfl (Nat.le_of_ble_eq_true rfl) dc_E_leapRemainders_55 (fun v h k3 n3 hq => ?_)
  obtain ⟨rfl, rfl, rfl, HR3⟩ := hq
  show vx_V _ _ _ _ _ _ _ _ _ 58 [(1, .int (nI (nd 4294967296 (V ex)))), (0, .ref eu)] []
  refine vx_aload_n IG dc_E_leapRemainders_58 rfl 1 rfl ?_
  refine vx_get IG (rw_r HR3 vx_up_s) rfl 3 (by decide) inE wF_E_25 rfl rfl dc_E_leapRemainders_59 ?_
  refine vx_iload_n IG dc_E_leapRemainders_62 rfl 0 rfl ?_
  refine vx_callV (As := [.int (nI (nd 4294967296 (V ex)))]) (st := []) IG lw_good (cW_trim HR3 hey ht (n := nd 4294967296 (V ex)) hn1 e2 f3) (rw_obj HR3 hey) rfl wC_W_trim wL_E_137 wI_W_trim wS_W_trim wX_W 1 (by decide +kernel) rfl ⟨Nat.le_of_ble_eq_true rfl, Nat.le_of_ble_eq_true rfl⟩ ⟨(by dsimp only [rm_]; omega), (by dsimp only [rm_]; omega)⟩ rfl (Nat.le_of_ble_eq_true rfl) dc_E_leapRemainders_63 (fun v h k4 n4 hq => ?_)
  obtain ⟨rfl, rfl, rfl, HR4⟩ := hq
  show vx_V _ _ _ _ _ _ _ _ _ 66 [(1, .int (nI (nd 4294967296 (V ex)))), (0, .ref eu)] []
  refine vx_ret none RG (vx_endv dc_E_leapRemainders_66) rfl ?_
  rw [r1, r2] at HR4
  refine ⟨rfl, pc_ cp1 L, ph cp1 L, ⟨ar1, cp1, _, fn2, HR4, fun q hq => ?_, Nat.le_refl _, Nat.le_refl _⟩, by omega, by omega⟩
  by_cases z : q = ey
  · subst z
    rw [va_up_self, ← r2]
    exact wv_trim f3 hn1 (by rw [va_up_self, r2])
  · rw [va_up_ne _ _ z]
    by_cases z2 : q = ex
    · subst z2
      rw [va_up_self, ← r1]
      exact wv_trim f2 hcx (by rw [va_up_ne _ _ z, va_up_self])
    · rw [va_up_ne _ _ z2]
      exact wv_same (hV q hq) (ho q z).1 (by rw [va_up_ne _ _ z, va_up_ne _ _ z2]) (by rw [f1 q z2 z, (ho q z).2])
theorem fac_lt {m n x y N : Nat} (hm : m ≤ 1073741823) (hn : n ≤ 1073741823) (hx : x < 4294967296 ^ N) (hy : y < 4294967296 ^ N) : m * x + n * y < 4294967296 ^ (N + 1) := by
  have h1 : m * x ≤ 1073741823 * 4294967296 ^ N := Nat.mul_le_mul hm (Nat.le_of_lt hx)
  have h2 : n * y ≤ 1073741823 * 4294967296 ^ N := Nat.mul_le_mul hn (Nat.le_of_lt hy)
  have h3 : 0 < 4294967296 ^ N := Nat.pow_pos (by decide)
  rw [Nat.pow_succ]
  omega
theorem nI_max2 {x y : Nat} (hx : x < 2 ^ 31) (hy : y < 2 ^ 31) : (if nI x < nI y then nI y else nI x) = nI (max x y) := nI_max hx hy
set_option maxRecDepth 100000 in
set_option maxHeartbeats 8000000 in
theorem cE_leapFactors (HP : pool cJ L (vx_up r eu (eOb ex ef ey eg es ed bw_ a b c d)) V h C S) (hL : L.Nodup) (hef : ef ∈ L) (heg : eg ∈ L) (hne : eg ≠ ef) (ht : tys[0]? = some (cJ, .long)) (hs1 : nd 4294967296 (V ef) ≤ 4099) (hs2 : nd 4294967296 (V eg) ≤ 4099) (g1 : a.natAbs ≤ 1073741823) (g2 : b.natAbs ≤ 1073741823) (g3 : c.natAbs ≤ 1073741823) (g4 : d.natAbs ≤ 1073741823) : vx_M l D vcl tys my_E_leapFactors lw_gd (rm_ 4 C S 86) [.ref eu] h (pend cJ L (vx_up r eu (eOb ex ef ey eg es ed bw_ a b c d)) (va_up (va_up V ef (a.natAbs * V ef + b.natAbs * V eg)) eg (c.natAbs * V ef + d.natAbs * V eg)) C S none) := by
  obtain ⟨ar, cp, cn, fn, HR, hV, hC, hS⟩ := HP
  have hvx := hV ef hef
  have hvy := hV eg heg
  refine vx_M.ofV (cc := bc_E_leapFactors) (maxL := 2) (ret := none) (own := rE) false rfl (by decide +kernel) wC_E_leapFactors (fun q => by cases q) (Nat.le_of_ble_eq_true rfl) (fun A H0 G IG RG => ?_)
  show vx_V _ _ _ _ _ _ _ _ _ 0 [(0, .ref eu)] []
  refine vx_aload_n IG dc_E_leapFactors_0 rfl 0 rfl ?_
  refine vx_get IG (rw_r HR vx_up_s) rfl 1 (by decide) inE wF_E_18 rfl rfl dc_E_leapFactors_1 ?_
  refine wr_cnt IG HR hef wF_E_121 dc_E_leapFactors_4 ?_
  refine vx_topi (y := nI (nd 4294967296 (V ef))) hvx.1 ?_
  refine vx_aload_n IG dc_E_leapFactors_7 rfl 0 rfl ?_
  refine vx_get IG (rw_r HR vx_up_s) rfl 4 (by decide) inE wF_E_28 rfl rfl dc_E_leapFactors_8 ?_
  refine wr_cnt IG HR heg wF_E_121 dc_E_leapFactors_11 ?_
  refine vx_topi (y := nI (nd 4294967296 (V eg))) hvy.1 ?_
  refine vx_callS (As := [.int (nI (nd 4294967296 (V ef))), .int (nI (nd 4294967296 (V eg)))]) (st := []) IG lw_good (cJM_max _ _ _) wC_JM_max_II wL_E_92 wT_JM_max_II wX_JM 2 (by decide +kernel) rfl ⟨Nat.le_of_ble_eq_true rfl, Nat.le_of_ble_eq_true rfl⟩ ⟨(by dsimp only [rm_]; omega), (by dsimp only [rm_]; omega)⟩ rfl (Nat.le_of_ble_eq_true rfl) dc_E_leapFactors_14 (fun v h k1 n1 hq => ?_)
  obtain ⟨rfl, rfl, rfl, rfl⟩ := hq
  show vx_V _ _ _ _ _ _ _ _ _ 17 [(0, .ref eu)] [.int (if nI (nd 4294967296 (V ef)) < nI (nd 4294967296 (V eg)) then nI (nd 4294967296 (V eg)) else nI (nd 4294967296 (V ef)))]
  refine vx_topi (y := nI (max (nd 4294967296 (V ef)) (nd 4294967296 (V eg)))) (nI_max2 (by omega) (by omega)) ?_
  have m1 : nd 4294967296 (V ef) ≤ max (nd 4294967296 (V ef)) (nd 4294967296 (V eg)) := Nat.le_max_left _ _
  have m2 : nd 4294967296 (V eg) ≤ max (nd 4294967296 (V ef)) (nd 4294967296 (V eg)) := Nat.le_max_right _ _
  have m3 : max (nd 4294967296 (V ef)) (nd 4294967296 (V eg)) ≤ 4099 := by omega
  generalize max (nd 4294967296 (V ef)) (nd 4294967296 (V eg)) = n at *
  refine vx_iconst (v := 1) IG dc_E_leapFactors_17 (by decide) ?_
  refine vx_iadd IG dc_E_leapFactors_18 ?_
  refine vx_topi (y := nI (n + 1)) (nI_1 n) ?_
  refine vx_istore_n (lv' := [(1, .int (nI (n + 1))), (0, .ref eu)]) IG dc_E_leapFactors_19 rfl (by decide) rfl ?_
  refine vx_aload_n IG dc_E_leapFactors_20 rfl 1 rfl ?_
  refine vx_get IG (rw_r HR vx_up_s) rfl 1 (by decide) inE wF_E_18 rfl rfl dc_E_leapFactors_21 ?_
  refine vx_iload_n IG dc_E_leapFactors_24 rfl 0 rfl ?_
  refine vx_callV (As := [.int (nI (n + 1))]) (st := []) IG lw_good (cW_widen HR hL hef ht (n := n + 1) hvx.1 hvx.2.1 (by omega) hC hS) (rw_obj HR hef) rfl wC_W_widen wL_E_125 wI_W_widen wS_W_widen wX_W 1 (by decide +kernel) rfl ⟨Nat.le_of_ble_eq_true rfl, Nat.le_of_ble_eq_true rfl⟩ ⟨(by dsimp only [rm_]; omega), (by dsimp only [rm_]; omega)⟩ rfl (Nat.le_of_ble_eq_true rfl) dc_E_leapFactors_25 (fun v h k2 n2 hq => ?_)
  obtain ⟨rfl, ar0, cp0, fn0, HR0, ho0, hn0, hge0, hlow0, hzero0, hk0, hm0⟩ := hq
  have hfx0 := wide_dg (n := n + 1) hvx hlow0 hzero0
  have hvy0 : wv cp0 cn fn0 eg (V eg) := wv_same hvy (ho0 eg hne).1 rfl (ho0 eg hne).2
  show vx_V _ _ _ _ _ _ _ _ _ 28 [(1, .int (nI (n + 1))), (0, .ref eu)] []
  refine vx_aload_n IG dc_E_leapFactors_28 rfl 1 rfl ?_
  refine vx_get IG (rw_r HR0 vx_up_s) rfl 4 (by decide) inE wF_E_28 rfl rfl dc_E_leapFactors_29 ?_
  refine vx_iload_n IG dc_E_leapFactors_32 rfl 0 rfl ?_
  refine vx_callV (As := [.int (nI (n + 1))]) (st := []) IG lw_good (cW_widen HR0 hL heg ht (n := n + 1) hvy0.1 hvy0.2.1 (by omega) (Nat.le_refl _) (Nat.le_refl _)) (rw_obj HR0 heg) rfl wC_W_widen wL_E_125 wI_W_widen wS_W_widen wX_W 1 (by decide +kernel) rfl ⟨Nat.le_of_ble_eq_true rfl, Nat.le_of_ble_eq_true rfl⟩ ⟨(by dsimp only [rm_]; omega), (by dsimp only [rm_]; omega)⟩ rfl (Nat.le_of_ble_eq_true rfl) dc_E_leapFactors_33 (fun v h k3 n3 hq => ?_)
  obtain ⟨rfl, ar1, cp1, fn1, HR1, ho, hn1, hge, hlow, hzero, hk1, hm1⟩ := hq
  have hfx : ∀ i, i < n + 1 → dg 4294967296 (V ef) i < 4294967296 ∧ fn1 ef i = lN (dg 4294967296 (V ef) i) := fun i hi => by rw [(ho ef (Ne.symm hne)).2]; exact hfx0 i hi
  have hfy := wide_dg (n := n + 1) hvy0 hlow hzero
  have hcx : n + 1 ≤ cp1 ef := by rw [(ho ef (Ne.symm hne)).1]; exact hn0
  show vx_V _ _ _ _ _ _ _ _ _ 36 [(1, .int (nI (n + 1))), (0, .ref eu)] []
  refine vx_aload_n IG dc_E_leapFactors_36 rfl 1 rfl ?_
  refine vx_get IG (rw_r HR1 vx_up_s) rfl 1 (by decide) inE wF_E_18 rfl rfl dc_E_leapFactors_37 ?_
  refine wr_dig IG HR1 hef wF_E_129 dc_E_leapFactors_40 ?_
  refine vx_aload_n IG dc_E_leapFactors_43 rfl 1 rfl ?_
  refine vx_get IG (rw_r HR1 vx_up_s) rfl 4 (by decide) inE wF_E_28 rfl rfl dc_E_leapFactors_44 ?_
  refine wr_dig IG HR1 heg wF_E_129 dc_E_leapFactors_47 ?_
  refine vx_iload_n IG dc_E_leapFactors_50 rfl 0 rfl ?_
  refine vx_aload_n IG dc_E_leapFactors_51 rfl 1 rfl ?_
  refine vx_get IG (rw_r HR1 vx_up_s) rfl 7 (by decide) inE wF_E_41 rfl rfl dc_E_leapFactors_52 ?_
  refine vx_callSW (As := [.long (lZ a)]) (st := [.int (nI (n + 1)), .ref (ar1 eg), .ref (ar1 ef)]) IG lw_good (cJM_abs _ (by omega) (by omega)) wC_JM_abs wL_E_108 wT_JM_abs wX_JM 1 (by decide +kernel) rfl ⟨Nat.le_of_ble_eq_true rfl, Nat.le_of_ble_eq_true rfl⟩ ⟨(by dsimp only [rm_]; omega), (by dsimp only [rm_]; omega)⟩ rfl (Nat.le_of_ble_eq_true rfl) dc_E_leapFactors_55 (fun v h k4 n4 hq => ?_)
  obtain ⟨rfl, rfl, rfl, rfl⟩ := hq
  show vx_V _ _ _ _ _ _ _ _ _ 58 [(1, .int (nI (n + 1))), (0, .ref eu)] [.long (lZ (a.natAbs : Int)), .int (nI (n + 1)), .ref (ar1 eg), .ref (ar1 ef)]
  refine vx_aload_n IG dc_E_leapFactors_58 rfl 1 rfl ?_
  refine vx_get IG (rw_r HR1 vx_up_s) rfl 8 (by decide) inE wF_E_45 rfl rfl dc_E_leapFactors_59 ?_
  refine vx_callSW (As := [.long (lZ b)]) (st := [.long (lZ (a.natAbs : Int)), .int (nI (n + 1)), .ref (ar1 eg), .ref (ar1 ef)]) IG lw_good (cJM_abs _ (by omega) (by omega)) wC_JM_abs wL_E_108 wT_JM_abs wX_JM 1 (by decide +kernel) rfl ⟨Nat.le_of_ble_eq_true rfl, Nat.le_of_ble_eq_true rfl⟩ ⟨(by dsimp only [rm_]; omega), (by dsimp only [rm_]; omega)⟩ rfl (Nat.le_of_ble_eq_true rfl) dc_E_leapFactors_62 (fun v h k5 n5 hq => ?_)
  obtain ⟨rfl, rfl, rfl, rfl⟩ := hq
  show vx_V _ _ _ _ _ _ _ _ _ 65 [(1, .int (nI (n + 1))), (0, .ref eu)] [.long (lZ (b.natAbs : Int)), .long (lZ (a.natAbs : Int)), .int (nI (n + 1)), .ref (ar1 eg), .ref (ar1 ef)]
  refine vx_aload_n IG dc_E_leapFactors_65 rfl 1 rfl ?_
  refine vx_get IG (rw_r HR1 vx_up_s) rfl 9 (by decide) inE wF_E_48 rfl rfl dc_E_leapFactors_66 ?_
  refine vx_callSW (As := [.long (lZ c)]) (st := [.long (lZ (b.natAbs : Int)), .long (lZ (a.natAbs : Int)), .int (nI (n + 1)), .ref (ar1 eg), .ref (ar1 ef)]) IG lw_good (cJM_abs _ (by omega) (by omega)) wC_JM_abs wL_E_108 wT_JM_abs wX_JM 1 (by decide +kernel) rfl ⟨Nat.le_of_ble_eq_true rfl, Nat.le_of_ble_eq_true rfl⟩ ⟨(by dsimp only [rm_]; omega), (by dsimp only [rm_]; omega)⟩ rfl (Nat.le_of_ble_eq_true rfl) dc_E_leapFactors_69 (fun v h k6 n6 hq => ?_)
  obtain ⟨rfl, rfl, rfl, rfl⟩ := hq
  show vx_V _ _ _ _ _ _ _ _ _ 72 [(1, .int (nI (n + 1))), (0, .ref eu)] [.long (lZ (c.natAbs : Int)), .long (lZ (b.natAbs : Int)), .long (lZ (a.natAbs : Int)), .int (nI (n + 1)), .ref (ar1 eg), .ref (ar1 ef)]
  refine vx_aload_n IG dc_E_leapFactors_72 rfl 1 rfl ?_
  refine vx_get IG (rw_r HR1 vx_up_s) rfl 10 (by decide) inE wF_E_51 rfl rfl dc_E_leapFactors_73 ?_
  refine vx_callSW (As := [.long (lZ d)]) (st := [.long (lZ (c.natAbs : Int)), .long (lZ (b.natAbs : Int)), .long (lZ (a.natAbs : Int)), .int (nI (n + 1)), .ref (ar1 eg), .ref (ar1 ef)]) IG lw_good (cJM_abs _ (by omega) (by omega)) wC_JM_abs wL_E_108 wT_JM_abs wX_JM 1 (by decide +kernel) rfl ⟨Nat.le_of_ble_eq_true rfl, Nat.le_of_ble_eq_true rfl⟩ ⟨(by dsimp only [rm_]; omega), (by dsimp only [rm_]; omega)⟩ rfl (Nat.le_of_ble_eq_true rfl) dc_E_leapFactors_76 (fun v h k7 n7 hq => ?_)
  obtain ⟨rfl, rfl, rfl, rfl⟩ := hq
  show vx_V _ _ _ _ _ _ _ _ _ 79 [(1, .int (nI (n + 1))), (0, .ref eu)] [.long (lZ (d.natAbs : Int)), .long (lZ (c.natAbs : Int)), .long (lZ (b.natAbs : Int)), .long (lZ (a.natAbs : Int)), .int (nI (n + 1)), .ref (ar1 eg), .ref (ar1 ef)]
  refine vx_callS (As := [.ref (ar1 ef), .ref (ar1 eg), .int (nI (n + 1)), .long (lZ (a.natAbs : Int)), .long (lZ (b.natAbs : Int)), .long (lZ (c.natAbs : Int)), .long (lZ (d.natAbs : Int))]) (st := []) IG lw_good (cE_multiply HR1 hef heg hne ht (n := n + 1) (dg 4294967296 (V ef)) (dg 4294967296 (V eg)) hfx hfy hcx hn1 (by omega) (by omega) (by omega) (by omega)) wC_E_multiply wL_E_133 wT_E_multiply wX_E 7 (by decide +kernel) rfl ⟨Nat.le_of_ble_eq_true rfl, Nat.le_of_ble_eq_true rfl⟩ ⟨(by dsimp only [rm_]; omega), (by dsimp only [rm_]; omega)⟩ rfl (Nat.le_of_ble_eq_true rfl) dc_E_leapFactors_79 (fun v h k8 n8 hq => ?_)
  obtain ⟨rfl, rfl, rfl, fn2, e1, e2, cu, cv, HR2, f1, f2, f3, q1, q2⟩ := hq
  rw [vl_nd_le bB1 (show nd 4294967296 (V ef) ≤ n + 1 by omega), vl_nd_le bB1 (show nd 4294967296 (V eg) ≤ n + 1 by omega), ← Int.natCast_mul, ← Int.natCast_mul, ← Int.natCast_add] at q1 q2
  have hb1 : V ef < 4294967296 ^ n := (nd_le bB1).mp m1
  have hb2 : V eg < 4294967296 ^ n := (nd_le bB1).mp m2
  have r1 := mu_end q1 (vl_lt bB1 (fun j hj => (f2 j hj).1)) (fac_lt g1 g2 hb1 hb2)
  have r2 := mu_end q2 (vl_lt bB1 (fun j hj => (f3 j hj).1)) (fac_lt g3 g4 hb1 hb2)
  show vx_V _ _ _ _ _ _ _ _ _ 82 [(1, .int (nI (n + 1))), (0, .ref eu)] []
  refine vx_aload_n IG dc_E_leapFactors_82 rfl 1 rfl ?_
  refine vx_get IG (rw_r HR2 vx_up_s) rfl 1 (by decide) inE wF_E_18 rfl rfl dc_E_leapFactors_83 ?_
  refine vx_iload_n IG dc_E_leapFactors_86 rfl 0 rfl ?_
  refine vx_callV (As := [.int (nI (n + 1))]) (st := []) IG lw_good (cW_trim HR2 hef ht (n := n + 1) hcx e1 f2) (rw_obj HR2 hef) rfl wC_W_trim wL_E_137 wI_W_trim wS_W_trim wX_W 1 (by decide +kernel) rfl ⟨Nat.le_of_ble_eq_true rfl, Nat.le_of_ble_eq_true rfl⟩ ⟨(by dsimp only [rm_]; omega), (by dsimp only [rm_]; omega)⟩ rfl (Nat.le_of_ble_eq_true rfl) dc_E_leapFactors_87 (fun v h k9 n9 hq => ?_)
  obtain ⟨rfl, rfl, rfl, HR3⟩ := hq
  show vx_V _ _ _ _ _ _ _ _ _ 90 [(1, .int (nI (n + 1))), (0, .ref eu)] []
  refine vx_aload_n IG dc_E_leapFactors_90 rfl 1 rfl ?_
  refine vx_get IG (rw_r HR3 vx_up_s) rfl 4 (by decide) inE wF_E_28 rfl rfl dc_E_leapFactors_91 ?_
  refine vx_iload_n IG dc_E_leapFactors_94 rfl 0 rfl ?_
  refine vx_callV (As := [.int (nI (n + 1))]) (st := []) IG lw_good (cW_trim HR3 heg ht (n := n + 1) hn1 e2 f3) (rw_obj HR3 heg) rfl wC_W_trim wL_E_137 wI_W_trim wS_W_trim wX_W 1 (by decide +kernel) rfl ⟨Nat.le_of_ble_eq_true rfl, Nat.le_of_ble_eq_true rfl⟩ ⟨(by dsimp only [rm_]; omega), (by dsimp only [rm_]; omega)⟩ rfl (Nat.le_of_ble_eq_true rfl) dc_E_leapFactors_95 (fun v h k10 n10 hq => ?_)
  obtain ⟨rfl, rfl, rfl, HR4⟩ := hq
  show vx_V _ _ _ _ _ _ _ _ _ 98 [(1, .int (nI (n + 1))), (0, .ref eu)] []
  refine vx_ret none RG (vx_endv dc_E_leapFactors_98) rfl ?_
  rw [r1, r2] at HR4
  refine ⟨rfl, pc_ cp1 L, ph cp1 L, ⟨ar1, cp1, _, fn2, HR4, fun q hq => ?_, Nat.le_refl _, Nat.le_refl _⟩, by omega, by omega⟩
  by_cases z : q = eg
  · subst z
    rw [va_up_self, ← r2]
    exact wv_trim f3 hn1 (by rw [va_up_self, r2])
  · rw [va_up_ne _ _ z]
    by_cases z2 : q = ef
    · subst z2
      rw [va_up_self, ← r1]
      exact wv_trim f2 hcx (by rw [va_up_ne _ _ z, va_up_self])
    · rw [va_up_ne _ _ z2]
      exact wv_same (hV q hq) (by rw [(ho q z).1, (ho0 q z2).1]) (by rw [va_up_ne _ _ z, va_up_ne _ _ z2]) (by rw [f1 q z2 z, (ho q z).2, (ho0 q z2).2])
end
end
section
/-! Euclid: leap, step, run -/
def bj (j : Nat) : Int32 := if j % 2 = 0 then 1 else 0
theorem bj_flip {j : Nat} (h : bj j = 0) : bj (j + 1) = 1 := by
  unfold bj at h ⊢
  by_cases z : j % 2 = 0
  · rw [if_pos z] at h; exact absurd h (by decide)
  · rw [if_pos (by omega)]
theorem bj_flip1 {j : Nat} (h : ¬ bj j = 0) : bj (j + 1) = 0 := by
  unfold bj at h ⊢
  by_cases z : j % 2 = 0
  · rw [if_neg (by omega)]
  · rw [if_neg z] at h; exact absurd rfl h
theorem bj_add {i j : Nat} : bj (j + i) = if i % 2 = 0 then bj j else bj (j + 1) := by
  unfold bj
  by_cases z : i % 2 = 0
  · rw [if_pos z, show (j + i) % 2 = j % 2 by omega]
  · rw [if_neg z, show (j + i) % 2 = (j + 1) % 2 by omega]
theorem sg_add (i j : Nat) : sg i (sg j 1) = sg (j + i) 1 := by
  unfold sg
  rcases Nat.mod_two_eq_zero_or_one i with e | e <;> rcases Nat.mod_two_eq_zero_or_one j with e2 | e2 <;> simp [e, e2, Nat.add_mod]
theorem nd_mul (A B : Nat) : nd 4294967296 (A * B) ≤ nd 4294967296 A + nd 4294967296 B := by
  rw [nd_le bB1, Nat.pow_add]
  have h1 := lt_nd bB1 A
  have h2 := lt_nd bB1 B
  rcases Nat.eq_zero_or_pos B with z | z
  · rw [z, Nat.mul_zero]; exact Nat.mul_pos (Nat.pow_pos (by decide)) (Nat.pow_pos (by decide))
  · exact Nat.lt_of_lt_of_le (Nat.mul_lt_mul_of_pos_right h1 z) (Nat.mul_le_mul_left _ (Nat.le_of_lt h2))
section
variable {l : Launch} {D : va_G} {tys : List (ClassId × FieldType)} {cJ : ClassId} {L : List Nat} {r : vx_h} {h : vx_h} {eu ex ef ey eg es ed qo rs sc pa pb : Nat} {V : Nat → Nat} {C S : Nat} {bw_ : Int32} {a b c d : Int} {w : Int32}
set_option maxRecDepth 100000 in
set_option maxHeartbeats 8000000 in
theorem cE_leap {j : Nat} (HP : pool cJ L (vx_up r eu (eOb ex ef ey eg es ed (bj j) a b c d)) V h C S) (hL : L.Nodup) (hex : ex ∈ L) (hey : ey ∈ L) (hef : ef ∈ L) (heg : eg ∈ L) (d1 : ey ≠ ex) (d2 : ef ≠ ex) (d3 : ef ≠ ey) (d4 : eg ≠ ex) (d5 : eg ≠ ey) (d6 : eg ≠ ef) (ht : tys[0]? = some (cJ, .long)) (hle : V ey ≤ V ex) (hsz : nd 4294967296 (V ex) ≤ 4100) {i X Y : Nat} (hE : Eu (V ex) (V ey) i a b c d X Y) (g1 : a.natAbs ≤ 1073741823) (g2 : b.natAbs ≤ 1073741823) (g3 : c.natAbs ≤ 1073741823) (g4 : d.natAbs ≤ 1073741823) (hw : w = 0 ∨ w = 1) (hs : w = 1 → nd 4294967296 (V ef) ≤ 4099 ∧ nd 4294967296 (V eg) ≤ 4099) : vx_M l D vcl tys my_E_leap lw_gd (rm_ 5 C S 107) [.ref eu, .int w] h (fun v h' k n => v = none ∧ ∃ (V' : Nat → Nat) (C' S' : Nat), pool cJ L (vx_up r eu (eOb ex ef ey eg es ed (bj (j + i)) a b c d)) V' h' C' S' ∧ V' ex = X ∧ V' ey = Y ∧ (w = 1 → V' ef = a.natAbs * V ef + b.natAbs * V eg ∧ V' eg = c.natAbs * V ef + d.natAbs * V eg) ∧ (∀ q, q ≠ ex → q ≠ ey → q ≠ ef → q ≠ eg → V' q = V q) ∧ k + C' ≤ C ∧ n + S' ≤ S) := by
  have hsg := Eu_sgn hle i _ _ _ _ _ _ hE
  refine vx_M.ofV (cc := bc_E_leap) (maxL := 2) (ret := none) (own := rE) false rfl (by decide +kernel) wC_E_leap (fun q => by cases q) (Nat.le_of_ble_eq_true rfl) (fun A H0 G IG RG => ?_)
  show vx_V _ _ _ _ _ _ _ _ _ 0 [(0, .ref eu), (1, .int w)] []
  have tail : ∀ (V' : Nat → Nat) (C' S' k n : Nat) (h : vx_h), pool cJ L (vx_up r eu (eOb ex ef ey eg es ed (bj j) a b c d)) V' h C' S' → V' ex = X → V' ey = Y → (w = 1 → V' ef = a.natAbs * V ef + b.natAbs * V eg ∧ V' eg = c.natAbs * V ef + d.natAbs * V eg) → (∀ q, q ≠ ex → q ≠ ey → q ≠ ef → q ≠ eg → V' q = V q) → k + C' ≤ C → n + S' ≤ S → vx_V D vcl A H0 2 G h k n 12 [(0, .ref eu), (1, .int w)] [] := by
    intro V' C' S' k n h HP1 e1 e2 e3 e4 hk hn
    obtain ⟨ar, cp, cn, fn, HR, hV, hC, hS⟩ := HP1
    refine vx_aload_n IG dc_E_leap_12 rfl 0 rfl ?_
    refine vx_get IG (rw_r HR vx_up_s) rfl 10 (by decide) inE wF_E_51 rfl rfl dc_E_leap_13 ?_
    refine vx_lconst (v := 0) IG dc_E_leap_16 (by decide) ?_
    refine vx_lcmp IG dc_E_leap_17 ?_
    have hc := lZ_le (a := 0) (b := d) (by omega) (by omega) (by omega) (by omega)
    by_cases z : 0 ≤ d
    · refine vx_if_ge (tgt := 37) IG dc_E_leap_18 (by decide) (fun _ => ?_) (fun c_ => absurd ((lg_cmp_ge _ _).mpr (hc.mpr z)) c_)
      refine vx_ret none RG (vx_endv dc_E_leap_37) rfl ?_
      refine ⟨rfl, V', C', S', ⟨ar, cp, cn, fn, ?_, hV, hC, hS⟩, e1, e2, e3, e4, hk, hn⟩
      rw [bj_add, if_pos (by omega)]
      exact HR
    · refine vx_if_ge (tgt := 37) IG dc_E_leap_18 (by decide) (fun c_ => absurd c_ (fun q => z (hc.mp ((lg_cmp_ge _ _).mp q)))) (fun _ => ?_)
      refine vx_aload_n IG dc_E_leap_21 rfl 0 rfl ?_
      refine vx_aload_n IG dc_E_leap_22 rfl 0 rfl ?_
      refine vx_get IG (rw_r HR vx_up_s) rfl 2 (by decide) inE wF_E_21 rfl rfl dc_E_leap_23 ?_
      by_cases y : bj j = 0
      · refine vx_if_ne (tgt := 33) IG dc_E_leap_26 (by decide) (fun c_ => absurd y c_) (fun _ => ?_)
        refine vx_iconst (v := 1) IG dc_E_leap_29 (by decide) ?_
        refine vx_goto (tgt := 34) IG dc_E_leap_30 (by decide) ?_
        refine er_put IG HR 2 (by decide) wF_E_21 rfl rfl (ty := .boolean) (by decide +kernel) rfl rfl (Nat.le_of_ble_eq_true rfl) dc_E_leap_34 (fun h HR => ?_)
        replace HR : rw_at 2 cJ L (vx_up r eu (eOb ex ef ey eg es ed 1 a b c d)) ar cp cn fn h := HR
        refine vx_ret none RG (vx_endv dc_E_leap_37) rfl ?_
        refine ⟨rfl, V', C', S', ⟨ar, cp, cn, fn, ?_, hV, hC, hS⟩, e1, e2, e3, e4, hk, hn⟩
        rw [bj_add, if_neg (by omega), bj_flip y]
        exact HR
      · refine vx_if_ne (tgt := 33) IG dc_E_leap_26 (by decide) (fun _ => ?_) (fun c_ => absurd c_ y)
        refine vx_iconst (v := 0) IG dc_E_leap_33 (by decide) ?_
        refine er_put IG HR 2 (by decide) wF_E_21 rfl rfl (ty := .boolean) (by decide +kernel) rfl rfl (Nat.le_of_ble_eq_true rfl) dc_E_leap_34 (fun h HR => ?_)
        replace HR : rw_at 2 cJ L (vx_up r eu (eOb ex ef ey eg es ed 0 a b c d)) ar cp cn fn h := HR
        refine vx_ret none RG (vx_endv dc_E_leap_37) rfl ?_
        refine ⟨rfl, V', C', S', ⟨ar, cp, cn, fn, ?_, hV, hC, hS⟩, e1, e2, e3, e4, hk, hn⟩
        rw [bj_add, if_neg (by omega), bj_flip1 y]
        exact HR
  refine vx_aload_n IG dc_E_leap_0 rfl 0 rfl ?_
  have hob : h eu = some (eOb ex ef ey eg es ed (bj j) a b c d) := by
    obtain ⟨ar, cp, cn, fn, HR, hV, hC, hS⟩ := HP
    exact rw_r HR vx_up_s
  refine vx_callV (As := []) (st := []) IG lw_good (cE_leapRemainders HP hL hex hey d1 ht hle hsz hE g1 g2 g3 g4) hob rfl wC_E_leapRemainders wL_E_115 wI_E_leapRemainders wS_E_leapRemainders wX_E 0 (by decide +kernel) rfl ⟨Nat.le_of_ble_eq_true rfl, Nat.le_of_ble_eq_true rfl⟩ ⟨(by dsimp only [rm_]; omega), (by dsimp only [rm_]; omega)⟩ rfl (Nat.le_of_ble_eq_true rfl) dc_E_leap_1 (fun v h k1 n1 hq => ?_)
  obtain ⟨rfl, C1, S1, HP1, hk1, hm1⟩ := hq
  show vx_V _ _ _ _ _ _ _ _ _ 4 [(0, .ref eu), (1, .int w)] []
  refine vx_iload_n IG dc_E_leap_4 rfl 1 rfl ?_
  by_cases hw0 : w = 0
  · refine vx_if_eq (tgt := 12) IG dc_E_leap_5 (by decide) (fun _ => ?_) (fun c_ => absurd hw0 c_)
    refine tail _ C1 S1 _ _ h HP1 ?_ ?_ (fun q => absurd (hw0.symm.trans q) (by decide)) (fun q y1 y2 y3 y4 => ?_) (by omega) (by omega)
    · rw [va_up_ne _ _ (Ne.symm d1), va_up_self]
    · rw [va_up_self]
    · rw [va_up_ne _ _ y2, va_up_ne _ _ y1]
  · refine vx_if_eq (tgt := 12) IG dc_E_leap_5 (by decide) (fun c_ => absurd c_ hw0) (fun _ => ?_)
    have hw1 : w = 1 := hw.resolve_left hw0
    refine vx_aload_n IG dc_E_leap_8 rfl 0 rfl ?_
    have hob1 : h eu = some (eOb ex ef ey eg es ed (bj j) a b c d) := by
      obtain ⟨ar, cp, cn, fn, HR, hV, hC, hS⟩ := HP1
      exact rw_r HR vx_up_s
    have v1 : va_up (va_up V ex X) ey Y ef = V ef := by rw [va_up_ne _ _ d3, va_up_ne _ _ d2]
    have v2 : va_up (va_up V ex X) ey Y eg = V eg := by rw [va_up_ne _ _ d5, va_up_ne _ _ d4]
    refine vx_callV (As := []) (st := []) IG lw_good (cE_leapFactors HP1 hL hef heg d6 ht (by rw [v1]; exact (hs hw1).1) (by rw [v2]; exact (hs hw1).2) g1 g2 g3 g4) hob1 rfl wC_E_leapFactors wL_E_118 wI_E_leapFactors wS_E_leapFactors wX_E 0 (by decide +kernel) rfl ⟨Nat.le_of_ble_eq_true rfl, Nat.le_of_ble_eq_true rfl⟩ ⟨(by dsimp only [rm_]; omega), (by dsimp only [rm_]; omega)⟩ rfl (Nat.le_of_ble_eq_true rfl) dc_E_leap_9 (fun v h k2 n2 hq => ?_)
    obtain ⟨rfl, C2, S2, HP2, hk2, hm2⟩ := hq
    rw [v1, v2] at HP2
    show vx_V _ _ _ _ _ _ _ _ _ 12 [(0, .ref eu), (1, .int w)] []
    refine tail _ C2 S2 _ _ h HP2 ?_ ?_ (fun _ => ⟨?_, ?_⟩) (fun q y1 y2 y3 y4 => ?_) (by omega) (by omega)
    · rw [va_up_ne _ _ (Ne.symm d4), va_up_ne _ _ (Ne.symm d2), va_up_ne _ _ (Ne.symm d1), va_up_self]
    · rw [va_up_ne _ _ (Ne.symm d5), va_up_ne _ _ (Ne.symm d3), va_up_self]
    · rw [va_up_ne _ _ (Ne.symm d6), va_up_self]
    · rw [va_up_self]
    · rw [va_up_ne _ _ y4, va_up_ne _ _ y3, va_up_ne _ _ y2, va_up_ne _ _ y1]
theorem pool_r {r' : vx_h} (HP : pool cJ L r' V h C S) {b : Nat} {e : va_E} (he : r' b = some e) : h b = some e := by
  obtain ⟨ar, cp, cn, fn, HR, hV, hC, hS⟩ := HP
  exact rw_r HR he
theorem pool_o {r' : vx_h} (HP : pool cJ L r' V h C S) {p : Nat} (hp : p ∈ L) : ∃ e, h p = some (.inr (2, e)) := by
  obtain ⟨ar, cp, cn, fn, HR, hV, hC, hS⟩ := HP
  exact ⟨_, rw_obj HR hp⟩
set_option maxRecDepth 100000 in
set_option maxHeartbeats 8000000 in
theorem cE_step {j : Nat} (HP : pool cJ L (vx_up r eu (eOb ex ef ey eg es ed (bj j) a b c d)) V h C S) (hL : L.Nodup) (hdv : r ed = some (.inr (0, [.ref qo, .ref rs, .ref sc]))) (hed : ed ≠ eu) (hm : ∀ q ∈ [ex, ef, ey, eg, es, qo, rs, sc], q ∈ L) (hN : [ex, ef, ey, eg, es, qo, rs, sc].Nodup) (ht : tys[0]? = some (cJ, .long)) (s1 : nd 4294967296 (V ey) ≤ 2049) (s2 : nd 4294967296 (V rs) ≤ 2049) (s3 : nd 4294967296 (V qo) ≤ 2049) (hw : w = 0 ∨ w = 1) (hs : w = 1 → nd 4294967296 (V ef) ≤ 2049 ∧ nd 4294967296 (V eg) ≤ 2049) : vx_M l D vcl tys my_E_step lw_gd (rm_ 5 C S 110) [.ref eu, .int w] h (fun v h' k n => v = none ∧ ∃ (V' : Nat → Nat) (C' S' : Nat), pool cJ L (vx_up r eu (eOb ex ef ey eg es ed (bj (j + 1)) a b c d)) V' h' C' S' ∧ V' ex = V ey ∧ V' ey = V rs ∧ (w = 1 → V' ef = V eg ∧ V' eg = V qo * V eg + V ef) ∧ (∀ q, q ∉ [ex, ef, ey, eg, es] → V' q = V q) ∧ k + C' ≤ C ∧ n + S' ≤ S) := by
  have hN0 := hN
  simp only [List.nodup_cons, List.mem_cons, not_or, List.not_mem_nil, not_false_eq_true, and_true] at hN
  obtain ⟨⟨x1, x2, x3, x4, x5, x6, x7⟩, ⟨f1, f2, f3, f4, f5, f6⟩, ⟨y1, y2, y3, y4, y5⟩, ⟨g1, g2, g3, g4⟩, ⟨p1, p2, p3⟩, ⟨q1, q2⟩, r1, -⟩ := hN
  have hex := hm ex (by simp)
  have hef := hm ef (by simp)
  have hey := hm ey (by simp)
  have heg := hm eg (by simp)
  have hes := hm es (by simp)
  have hqo := hm qo (by simp)
  have hrs := hm rs (by simp)
  refine vx_M.ofV (cc := bc_E_step) (maxL := 2) (ret := none) (own := rE) false rfl (by decide +kernel) wC_E_step (fun q => by cases q) (Nat.le_of_ble_eq_true rfl) (fun A H0 G IG RG => ?_)
  show vx_V _ _ _ _ _ _ _ _ _ 0 [(0, .ref eu), (1, .int w)] []
  have tail : ∀ (V' : Nat → Nat) (C' S' k n : Nat) (h : vx_h), pool cJ L (vx_up r eu (eOb ex ef ey eg es ed (bj j) a b c d)) V' h C' S' → V' ex = V ey → V' ey = V rs → (w = 1 → V' ef = V eg ∧ V' eg = V qo * V eg + V ef) → (∀ q, q ∉ [ex, ef, ey, eg, es] → V' q = V q) → k + C' ≤ C → n + S' ≤ S → vx_V D vcl A H0 2 G h k n 84 [(0, .ref eu), (1, .int w)] [] := by
    intro V' C' S' k n h HP1 e1 e2 e3 e4 hk hn
    obtain ⟨ar, cp, cn, fn, HR, hV, hC, hS⟩ := HP1
    refine vx_aload_n IG dc_E_step_84 rfl 0 rfl ?_
    refine vx_aload_n IG dc_E_step_85 rfl 0 rfl ?_
    refine vx_get IG (rw_r HR vx_up_s) rfl 2 (by decide) inE wF_E_21 rfl rfl dc_E_step_86 ?_
    by_cases y : bj j = 0
    · refine vx_if_ne (tgt := 96) IG dc_E_step_89 (by decide) (fun c_ => absurd y c_) (fun _ => ?_)
      refine vx_iconst (v := 1) IG dc_E_step_92 (by decide) ?_
      refine vx_goto (tgt := 97) IG dc_E_step_93 (by decide) ?_
      refine er_put IG HR 2 (by decide) wF_E_21 rfl rfl (ty := .boolean) (by decide +kernel) rfl rfl (Nat.le_of_ble_eq_true rfl) dc_E_step_97 (fun h HR => ?_)
      replace HR : rw_at 2 cJ L (vx_up r eu (eOb ex ef ey eg es ed 1 a b c d)) ar cp cn fn h := HR
      refine vx_ret none RG (vx_endv dc_E_step_100) rfl ?_
      refine ⟨rfl, V', C', S', ⟨ar, cp, cn, fn, ?_, hV, hC, hS⟩, e1, e2, e3, e4, hk, hn⟩
      rw [bj_flip y]
      exact HR
    · refine vx_if_ne (tgt := 96) IG dc_E_step_89 (by decide) (fun _ => ?_) (fun c_ => absurd c_ y)
      refine vx_iconst (v := 0) IG dc_E_step_96 (by decide) ?_
      refine er_put IG HR 2 (by decide) wF_E_21 rfl rfl (ty := .boolean) (by decide +kernel) rfl rfl (Nat.le_of_ble_eq_true rfl) dc_E_step_97 (fun h HR => ?_)
      replace HR : rw_at 2 cJ L (vx_up r eu (eOb ex ef ey eg es ed 0 a b c d)) ar cp cn fn h := HR
      refine vx_ret none RG (vx_endv dc_E_step_100) rfl ?_
      refine ⟨rfl, V', C', S', ⟨ar, cp, cn, fn, ?_, hV, hC, hS⟩, e1, e2, e3, e4, hk, hn⟩
      rw [bj_flip1 y]
      exact HR
  have hdv' : (vx_up r eu (eOb ex ef ey eg es ed (bj j) a b c d)) ed = some (.inr (0, [.ref qo, .ref rs, .ref sc])) := by rw [vx_up_n hed]; exact hdv
  refine vx_aload_n IG dc_E_step_0 rfl 0 rfl ?_
  refine vx_get IG (pool_r HP vx_up_s) rfl 0 (by decide) inE wF_E_12 rfl rfl dc_E_step_1 ?_
  refine vx_aload_n IG dc_E_step_4 rfl 0 rfl ?_
  refine vx_get IG (pool_r HP vx_up_s) rfl 3 (by decide) inE wF_E_25 rfl rfl dc_E_step_5 ?_
  refine vx_callV (As := [.ref ey]) (st := []) IG lw_good (cW_copy HP hL hex hey ht (by omega)) ((pool_o HP hex).choose_spec) rfl wC_W_copy wL_E_58 wI_W_copy wS_W_copy wX_W 1 (by decide +kernel) rfl ⟨Nat.le_of_ble_eq_true rfl, Nat.le_of_ble_eq_true rfl⟩ ⟨(by dsimp only [rm_]; omega), (by dsimp only [rm_]; omega)⟩ rfl (Nat.le_of_ble_eq_true rfl) dc_E_step_8 (fun v h k1 n1 hq => ?_)
  obtain ⟨rfl, C1, S1, HP1, hk1, hm1⟩ := hq
  show vx_V _ _ _ _ _ _ _ _ _ 11 [(0, .ref eu), (1, .int w)] []
  refine vx_aload_n IG dc_E_step_11 rfl 0 rfl ?_
  refine vx_get IG (pool_r HP1 vx_up_s) rfl 3 (by decide) inE wF_E_25 rfl rfl dc_E_step_12 ?_
  refine vx_aload_n IG dc_E_step_15 rfl 0 rfl ?_
  refine vx_get IG (pool_r HP1 vx_up_s) rfl 6 (by decide) inE wF_E_37 rfl rfl dc_E_step_16 ?_
  refine vx_get IG (pool_r HP1 hdv') rfl 1 (by decide) inD wF_E_142 rfl rfl dc_E_step_19 ?_
  refine vx_callV (As := [.ref rs]) (st := []) IG lw_good (cW_copy HP1 hL hey hrs ht (by rw [va_up_ne _ _ (Ne.symm x6)]; omega)) ((pool_o HP1 hey).choose_spec) rfl wC_W_copy wL_E_58 wI_W_copy wS_W_copy wX_W 1 (by decide +kernel) rfl ⟨Nat.le_of_ble_eq_true rfl, Nat.le_of_ble_eq_true rfl⟩ ⟨(by dsimp only [rm_]; omega), (by dsimp only [rm_]; omega)⟩ rfl (Nat.le_of_ble_eq_true rfl) dc_E_step_22 (fun v h k2 n2 hq => ?_)
  obtain ⟨rfl, C2, S2, HP2, hk2, hm2⟩ := hq
  rw [va_up_ne _ _ (Ne.symm x6)] at HP2
  show vx_V _ _ _ _ _ _ _ _ _ 25 [(0, .ref eu), (1, .int w)] []
  refine vx_iload_n IG dc_E_step_25 rfl 1 rfl ?_
  have w1 : va_up (va_up V ex (V ey)) ey (V rs) ex = V ey := by rw [va_up_ne _ _ x2, va_up_self]
  by_cases hw0 : w = 0
  · refine vx_if_eq (tgt := 84) IG dc_E_step_26 (by decide) (fun _ => ?_) (fun c_ => absurd hw0 c_)
    refine tail _ C2 S2 _ _ h HP2 w1 (va_up_self _ _ _) (fun q => absurd (hw0.symm.trans q) (by decide)) (fun q hq => ?_) (by omega) (by omega)
    simp only [List.mem_cons, not_or] at hq
    rw [va_up_ne _ _ hq.2.2.1, va_up_ne _ _ hq.1]
  · refine vx_if_eq (tgt := 84) IG dc_E_step_26 (by decide) (fun c_ => absurd c_ hw0) (fun _ => ?_)
    have hw1 : w = 1 := hw.resolve_left hw0
    have v1 : va_up (va_up V ex (V ey)) ey (V rs) ef = V ef := by rw [va_up_ne _ _ f1, va_up_ne _ _ (Ne.symm x1)]
    have v2 : va_up (va_up V ex (V ey)) ey (V rs) eg = V eg := by rw [va_up_ne _ _ (Ne.symm y1), va_up_ne _ _ (Ne.symm x3)]
    have v3 : va_up (va_up V ex (V ey)) ey (V rs) qo = V qo := by rw [va_up_ne _ _ (Ne.symm y3), va_up_ne _ _ (Ne.symm x5)]
    have v4 : va_up (va_up V ex (V ey)) ey (V rs) ey = V rs := va_up_self _ _ _
    have v5 : ∀ q, q ≠ ex → q ≠ ey → va_up (va_up V ex (V ey)) ey (V rs) q = V q := fun q z1 z2 => by rw [va_up_ne _ _ z2, va_up_ne _ _ z1]
    generalize va_up (va_up V ex (V ey)) ey (V rs) = V2 at *
    obtain ⟨t1, t2⟩ := hs hw1
    refine vx_aload_n IG dc_E_step_29 rfl 0 rfl ?_
    refine vx_get IG (pool_r HP2 vx_up_s) rfl 5 (by decide) inE wF_E_31 rfl rfl dc_E_step_30 ?_
    refine vx_aload_n IG dc_E_step_33 rfl 0 rfl ?_
    refine vx_get IG (pool_r HP2 vx_up_s) rfl 6 (by decide) inE wF_E_37 rfl rfl dc_E_step_34 ?_
    refine vx_get IG (pool_r HP2 hdv') rfl 0 (by decide) inD wF_E_145 rfl rfl dc_E_step_37 ?_
    refine vx_aload_n IG dc_E_step_40 rfl 0 rfl ?_
    refine vx_get IG (pool_r HP2 vx_up_s) rfl 4 (by decide) inE wF_E_28 rfl rfl dc_E_step_41 ?_
    refine vx_callV (As := [.ref qo, .ref eg]) (st := []) IG lw_good (cW_product HP2 hL hes hqo heg (Ne.symm p1) g1 ht (by rw [v3, v2]; omega)) ((pool_o HP2 hes).choose_spec) rfl wC_W_product wL_E_148 wI_W_product wS_W_product wX_W 2 (by decide +kernel) rfl ⟨Nat.le_of_ble_eq_true rfl, Nat.le_of_ble_eq_true rfl⟩ ⟨(by dsimp only [rm_]; omega), (by dsimp only [rm_]; omega)⟩ rfl (Nat.le_of_ble_eq_true rfl) dc_E_step_44 (fun v h k3 n3 hq => ?_)
    obtain ⟨rfl, C3, S3, HP3, hk3, hm3⟩ := hq
    rw [v3, v2] at HP3
    have t3 := nd_mul (V qo) (V eg)
    show vx_V _ _ _ _ _ _ _ _ _ 47 [(0, .ref eu), (1, .int w)] []
    refine vx_aload_n IG dc_E_step_47 rfl 0 rfl ?_
    refine vx_get IG (pool_r HP3 vx_up_s) rfl 5 (by decide) inE wF_E_31 rfl rfl dc_E_step_48 ?_
    refine vx_aload_n IG dc_E_step_51 rfl 0 rfl ?_
    refine vx_get IG (pool_r HP3 vx_up_s) rfl 5 (by decide) inE wF_E_31 rfl rfl dc_E_step_52 ?_
    refine vx_aload_n IG dc_E_step_55 rfl 0 rfl ?_
    refine vx_get IG (pool_r HP3 vx_up_s) rfl 1 (by decide) inE wF_E_18 rfl rfl dc_E_step_56 ?_
    refine vx_callV (As := [.ref es, .ref ef]) (st := []) IG lw_good (cW_sum HP3 hL hes hes hef ht (by rw [va_up_self]; omega) (by rw [va_up_ne _ _ f3, v1]; omega)) ((pool_o HP3 hes).choose_spec) rfl wC_W_sum wL_E_151 wI_W_sum wS_W_sum wX_W 2 (by decide +kernel) rfl ⟨Nat.le_of_ble_eq_true rfl, Nat.le_of_ble_eq_true rfl⟩ ⟨(by dsimp only [rm_]; omega), (by dsimp only [rm_]; omega)⟩ rfl (Nat.le_of_ble_eq_true rfl) dc_E_step_59 (fun v h k4 n4 hq => ?_)
    obtain ⟨rfl, C4, S4, HP4, hk4, hm4⟩ := hq
    rw [va_up_self, va_up_ne _ _ f3, v1] at HP4
    have t4 := nd_add bB1 (V qo * V eg) (V ef)
    have t5 : nd 4294967296 (V qo * V eg + V ef) ≤ 4099 := by omega
    have u2 : va_up (va_up V2 es (V qo * V eg)) es (V qo * V eg + V ef) eg = V eg := by rw [va_up_ne _ _ g1, va_up_ne _ _ g1, v2]
    show vx_V _ _ _ _ _ _ _ _ _ 62 [(0, .ref eu), (1, .int w)] []
    refine vx_aload_n IG dc_E_step_62 rfl 0 rfl ?_
    refine vx_get IG (pool_r HP4 vx_up_s) rfl 1 (by decide) inE wF_E_18 rfl rfl dc_E_step_63 ?_
    refine vx_aload_n IG dc_E_step_66 rfl 0 rfl ?_
    refine vx_get IG (pool_r HP4 vx_up_s) rfl 4 (by decide) inE wF_E_28 rfl rfl dc_E_step_67 ?_
    refine vx_callV (As := [.ref eg]) (st := []) IG lw_good (cW_copy HP4 hL hef heg ht (by rw [u2]; omega)) ((pool_o HP4 hef).choose_spec) rfl wC_W_copy wL_E_58 wI_W_copy wS_W_copy wX_W 1 (by decide +kernel) rfl ⟨Nat.le_of_ble_eq_true rfl, Nat.le_of_ble_eq_true rfl⟩ ⟨(by dsimp only [rm_]; omega), (by dsimp only [rm_]; omega)⟩ rfl (Nat.le_of_ble_eq_true rfl) dc_E_step_70 (fun v h k5 n5 hq => ?_)
    obtain ⟨rfl, C5, S5, HP5, hk5, hm5⟩ := hq
    rw [u2] at HP5
    have u3 : va_up (va_up (va_up V2 es (V qo * V eg)) es (V qo * V eg + V ef)) ef (V eg) es = V qo * V eg + V ef := by rw [va_up_ne _ _ (Ne.symm f3), va_up_self]
    show vx_V _ _ _ _ _ _ _ _ _ 73 [(0, .ref eu), (1, .int w)] []
    refine vx_aload_n IG dc_E_step_73 rfl 0 rfl ?_
    refine vx_get IG (pool_r HP5 vx_up_s) rfl 4 (by decide) inE wF_E_28 rfl rfl dc_E_step_74 ?_
    refine vx_aload_n IG dc_E_step_77 rfl 0 rfl ?_
    refine vx_get IG (pool_r HP5 vx_up_s) rfl 5 (by decide) inE wF_E_31 rfl rfl dc_E_step_78 ?_
    refine vx_callV (As := [.ref es]) (st := []) IG lw_good (cW_copy HP5 hL heg hes ht (by rw [u3]; omega)) ((pool_o HP5 heg).choose_spec) rfl wC_W_copy wL_E_58 wI_W_copy wS_W_copy wX_W 1 (by decide +kernel) rfl ⟨Nat.le_of_ble_eq_true rfl, Nat.le_of_ble_eq_true rfl⟩ ⟨(by dsimp only [rm_]; omega), (by dsimp only [rm_]; omega)⟩ rfl (Nat.le_of_ble_eq_true rfl) dc_E_step_81 (fun v h k6 n6 hq => ?_)
    obtain ⟨rfl, C6, S6, HP6, hk6, hm6⟩ := hq
    rw [u3] at HP6
    show vx_V _ _ _ _ _ _ _ _ _ 84 [(0, .ref eu), (1, .int w)] []
    refine tail _ C6 S6 _ _ h HP6 ?_ ?_ (fun _ => ⟨?_, ?_⟩) (fun q hq => ?_) (by omega) (by omega)
    · rw [va_up_ne _ _ x3, va_up_ne _ _ x1, va_up_ne _ _ x4, va_up_ne _ _ x4, w1]
    · rw [va_up_ne _ _ y1, va_up_ne _ _ (Ne.symm f1), va_up_ne _ _ y2, va_up_ne _ _ y2, v4]
    · rw [va_up_ne _ _ f2, va_up_self]
    · rw [va_up_self]
    · simp only [List.mem_cons, not_or] at hq
      rw [va_up_ne _ _ hq.2.2.2.1, va_up_ne _ _ hq.2.1, va_up_ne _ _ hq.2.2.2.2.1, va_up_ne _ _ hq.2.2.2.2.1, v5 q hq.1 hq.2.2.1]
end
end
section
/-! Euclid: run -/
theorem FI_start (a0 b0 : Nat) : FI a0 b0 (sg 0 1) a0 b0 0 1 := by
  refine ⟨by omega, by omega, ?_, ?_⟩
  · exact ⟨1, by simp [sg]⟩
  · exact ⟨0, by simp [sg]⟩
theorem FI_small {a0 b0 x y fx fy : Nat} {s : Int} (h : FI a0 b0 s x y fx fy) (hx : 0 < x) : fx ≤ a0 ∧ fy ≤ a0 := by
  obtain ⟨h1, h2, -, -⟩ := h
  have : fy * 1 ≤ fy * x := Nat.mul_le_mul_left _ hx
  have := Nat.zero_le (fx * y)
  omega
theorem er_steps {x y P i : Nat} (hx : 0 < x) (hy : 0 < y) (h : 2 ^ i * (x * y) ≤ P) (hP : P < 2 ^ 131136) : i < 131136 := by
  have h1 : 2 ^ i * 1 ≤ 2 ^ i * (x * y) := Nat.mul_le_mul_left _ (Nat.mul_pos hx hy)
  rcases Nat.lt_or_ge i 131136 with q | q
  · exact q
  · have : 2 ^ 131136 ≤ 2 ^ i := Nat.pow_le_pow_right (by decide) q
    generalize 2 ^ 131136 = z at *
    omega
theorem er_prod {x y : Nat} (hx : nd 4294967296 x ≤ 2049) (hy : nd 4294967296 y ≤ 2049) : x * y < 2 ^ 131136 := by
  have h1 := (nd_le bB1).mp hx
  have h2 := (nd_le bB1).mp hy
  rw [bp32] at h1 h2
  have e : 2 ^ 131136 = 2 ^ (32 * 2049) * 2 ^ (32 * 2049) := by rw [← Nat.pow_add]
  rw [e]
  generalize 2 ^ (32 * 2049) = z at *
  exact Nat.lt_of_le_of_lt (Nat.mul_le_mul_right _ (Nat.le_of_lt h1)) (Nat.mul_lt_mul_of_pos_left h2 (by omega))
theorem er_next {P j i x y X Y : Nat} (h : 2 ^ j * (x * y) ≤ P) (h2 : 2 ^ i * (X * Y) ≤ x * y) : 2 ^ (j + i) * (X * Y) ≤ P := by
  rw [Nat.pow_add, Nat.mul_assoc]
  exact Nat.le_trans (Nat.mul_le_mul_left _ h2) h
theorem Eu_one {x y : Nat} (hy : 0 < y) : Eu x y 1 0 1 (1 - ((x / y : Nat) : Int) * 0) (0 - ((x / y : Nat) : Int) * 1) y (x % y) := ⟨1, 0, 0, 1, x, y, ⟨rfl, rfl, rfl, rfl, rfl, rfl⟩, hy, rfl, rfl, rfl, rfl, rfl, rfl⟩
section
variable {l : Launch} {D : va_G} {tys : List (ClassId × FieldType)} {cJ : ClassId} {L : List Nat} {r : vx_h} {h : vx_h} {eu ex ef ey eg es ed qo rs sc pa pb : Nat} {V : Nat → Nat} {C S : Nat} {bw_ : Int32} {a b c d : Int} {w : Int32}
/-- the end of Euclid.run -/
def erEnd (cJ : ClassId) (L : List Nat) (r : vx_h) (V : Nat → Nat) (eu ex ef ey eg es ed qo rs sc : Nat) (A B : Nat) (w : Int32) (C S : Nat) : Option Value → vx_h → Nat → Nat → Prop := fun v h' k m => v = none ∧ ∃ (V' : Nat → Nat) (C' S' j : Nat) (a b c d : Int), pool cJ L (vx_up r eu (eOb ex ef ey eg es ed (bj j) a b c d)) V' h' C' S' ∧ V' ex = Nat.gcd A B ∧ (w = 1 → FI A B (sg j 1) (Nat.gcd A B) 0 (V' ef) (V' eg)) ∧ (∀ q, q ∉ [ex, ef, ey, eg, es, qo, rs, sc] → V' q = V q) ∧ k + C' ≤ C ∧ m + S' ≤ S
set_option maxRecDepth 100000 in
set_option maxHeartbeats 16000000 in
theorem cE_run (HP : pool cJ L (vx_up r eu (eOb ex ef ey eg es ed bw_ a b c d)) V h C S) (hL : L.Nodup) (hdv : r ed = some (.inr (0, [.ref qo, .ref rs, .ref sc]))) (hed : ed ≠ eu) (hm : ∀ q ∈ [ex, ef, ey, eg, es, qo, rs, sc], q ∈ L) (hN : [ex, ef, ey, eg, es, qo, rs, sc].Nodup) (ht : tys[0]? = some (cJ, .long)) (hpa : pa ∈ L) (hpb : pb ∈ L) (npa : pa ∉ [ex, ef, ey, eg, es, qo, rs, sc]) (npb : pb ∉ [ex, ef, ey, eg, es, qo, rs, sc]) (s1 : nd 4294967296 (V pa) ≤ 2049) (s2 : nd 4294967296 (V pb) ≤ 2049) (hw : w = 0 ∨ w = 1) (ho : w = 1 → V pb ≤ V pa) : vx_M l D vcl tys my_E_run lw_gd (rm_ 6 C S 132) [.ref eu, .ref pa, .ref pb, .int w] h (erEnd cJ L r V eu ex ef ey eg es ed qo rs sc (V pa) (V pb) w C S) := by
  have hN0 := hN
  simp only [List.nodup_cons, List.mem_cons, not_or, List.not_mem_nil, not_false_eq_true, and_true] at hN
  obtain ⟨⟨x1, x2, x3, x4, x5, x6, x7⟩, ⟨f1, f2, f3, f4, f5, f6⟩, ⟨y1, y2, y3, y4, y5⟩, ⟨g1, g2, g3, g4⟩, ⟨p1, p2, p3⟩, ⟨q1, q2⟩, r1, -⟩ := hN
  have hex := hm ex (by simp)
  have hef := hm ef (by simp)
  have hey := hm ey (by simp)
  have heg := hm eg (by simp)
  have hes := hm es (by simp)
  have hqo := hm qo (by simp)
  have hrs := hm rs (by simp)
  have hsc := hm sc (by simp)
  have npa0 := npa
  have npb0 := npb
  simp only [List.mem_cons, not_or, List.not_mem_nil, not_false_eq_true, and_true] at npa npb
  refine vx_M.ofV (cc := bc_E_run) (maxL := 6) (ret := none) (own := rE) false rfl (by decide +kernel) wC_E_run (fun q => by cases q) (Nat.le_of_ble_eq_true rfl) (fun A H0 G IG RG => ?_)
  show vx_V _ _ _ _ _ _ _ _ _ 0 [(0, .ref eu), (1, .ref pa), (2, .ref pb), (3, .int w)] []
  -- the loop
  have loop : ∀ (m t : Nat), t + m = 131137 → ∀ (h : vx_h) (V' : Nat → Nat) (C' S' k n j : Nat) (a b c d : Int) (io : Int32), pool cJ L (vx_up r eu (eOb ex ef ey eg es ed (bj j) a b c d)) V' h C' S' → t ≤ j → V' ey ≤ V' ex → Nat.gcd (V' ex) (V' ey) = Nat.gcd (V pa) (V pb) → 2 ^ j * (V' ex * V' ey) ≤ V pa * V pb → nd 4294967296 (V' ex) ≤ 2049 → (w = 1 → FI (V pa) (V pb) (sg j 1) (V' ex) (V' ey) (V' ef) (V' eg)) → (∀ q, q ∉ [ex, ef, ey, eg, es, qo, rs, sc] → V' q = V q) → k + C' ≤ C → n + S' ≤ S → vx_V D vcl A H0 6 G h k n 72 [(5, .int (nI t)), (4, .int io), (0, .ref eu), (1, .ref pa), (2, .ref pb), (3, .int w)] [] := by
    intro m
    induction m with
    | zero =>
      intro t htm h V' C' S' k n j a b c d io HP1 htj hle hg hpr hsx hF ho' hk hn
      have hy0 : V' ey = 0 := by
        rcases Nat.eq_zero_or_pos (V' ey) with z | z
        · exact z
        · have := er_steps (by omega) z hpr (er_prod s1 s2)
          omega
      refine vx_iload IG dc_E_run_72 0 rfl ?_
      refine vx_ldc (v := 1000000) IG wK_E_69 dc_E_run_74 ?_
      refine vx_icmp_ge (tgt := 130) IG dc_E_run_76 (by decide) (fun c_ => absurd c_ (nI_ge (b := 1000000) (by omega) (by omega))) (fun _ => ?_)
      refine vx_aload_n IG dc_E_run_79 rfl 2 rfl ?_
      refine vx_get IG (pool_r HP1 vx_up_s) rfl 3 (by decide) inE wF_E_25 rfl rfl dc_E_run_80 ?_
      refine vx_callV (As := []) (st := []) IG lw_good (cW_isZeroP HP1 hey) ((pool_o HP1 hey).choose_spec) rfl wC_W_isZero wL_E_70 wI_W_isZero wS_W_isZero wX_W 0 (by decide +kernel) rfl ⟨Nat.le_of_ble_eq_true rfl, Nat.le_of_ble_eq_true rfl⟩ ⟨(by dsimp only [rm_]; omega), (by dsimp only [rm_]; omega)⟩ rfl (Nat.le_of_ble_eq_true rfl) dc_E_run_83 (fun v h k1 n1 hq => ?_)
      obtain ⟨rfl, rfl, rfl, rfl⟩ := hq
      show vx_V _ _ _ _ _ _ _ _ _ 86 [(5, .int (nI t)), (4, .int io), (0, .ref eu), (1, .ref pa), (2, .ref pb), (3, .int w)] [.int (if V' ey = 0 then 1 else 0)]
      refine vx_topi (y := 1) (if_pos hy0) ?_
      refine vx_if_ne (tgt := 130) IG dc_E_run_86 (by decide) (fun _ => ?_) (fun c_ => absurd c_ (by decide))
      refine vx_ret none RG (vx_endv dc_E_run_130) rfl ?_
      rw [hy0, Nat.gcd_zero_right] at hg
      refine ⟨rfl, V', C', S', j, a, b, c, d, HP1, hg, fun q => ?_, ho', by omega, by omega⟩
      have := hF q
      rw [hy0, hg] at this
      exact this
    | succ m ih =>
      intro t htm h V' C' S' k n j a b c d io HP1 htj hle hg hpr hsx hF ho' hk hn
      refine vx_iload IG dc_E_run_72 0 rfl ?_
      refine vx_ldc (v := 1000000) IG wK_E_69 dc_E_run_74 ?_
      refine vx_icmp_ge (tgt := 130) IG dc_E_run_76 (by decide) (fun c_ => absurd c_ (nI_ge (b := 1000000) (by omega) (by omega))) (fun _ => ?_)
      refine vx_aload_n IG dc_E_run_79 rfl 2 rfl ?_
      refine vx_get IG (pool_r HP1 vx_up_s) rfl 3 (by decide) inE wF_E_25 rfl rfl dc_E_run_80 ?_
      refine vx_callV (As := []) (st := []) IG lw_good (cW_isZeroP HP1 hey) ((pool_o HP1 hey).choose_spec) rfl wC_W_isZero wL_E_70 wI_W_isZero wS_W_isZero wX_W 0 (by decide +kernel) rfl ⟨Nat.le_of_ble_eq_true rfl, Nat.le_of_ble_eq_true rfl⟩ ⟨(by dsimp only [rm_]; omega), (by dsimp only [rm_]; omega)⟩ rfl (Nat.le_of_ble_eq_true rfl) dc_E_run_83 (fun v h k2 n2 hq => ?_)
      obtain ⟨rfl, rfl, rfl, rfl⟩ := hq
      show vx_V _ _ _ _ _ _ _ _ _ 86 [(5, .int (nI t)), (4, .int io), (0, .ref eu), (1, .ref pa), (2, .ref pb), (3, .int w)] [.int (if V' ey = 0 then 1 else 0)]
      by_cases hy0 : V' ey = 0
      · refine vx_topi (y := 1) (if_pos hy0) ?_
        refine vx_if_ne (tgt := 130) IG dc_E_run_86 (by decide) (fun _ => ?_) (fun c_ => absurd c_ (by decide))
        refine vx_ret none RG (vx_endv dc_E_run_130) rfl ?_
        rw [hy0, Nat.gcd_zero_right] at hg
        refine ⟨rfl, V', C', S', j, a, b, c, d, HP1, hg, fun q => ?_, ho', by omega, by omega⟩
        have := hF q
        rw [hy0, hg] at this
        exact this
      · refine vx_topi (y := 0) (if_neg hy0) ?_
        refine vx_if_ne (tgt := 130) IG dc_E_run_86 (by decide) (fun c_ => absurd rfl c_) (fun _ => ?_)
        refine vx_aload_n IG dc_E_run_89 rfl 2 rfl ?_
        have hyp : 0 < V' ey := Nat.pos_of_ne_zero hy0
        have hxp : 0 < V' ex := by omega
        have hbx : bl (V' ex) < 900000 := by
          have h1 := (nd_le bB1).mp hsx
          rw [bp32] at h1
          have := bl_le.mpr h1
          omega
        refine vx_callV (As := []) (st := []) IG lw_good (cE_foresee HP1 hex hey ht hle hbx) (pool_r HP1 vx_up_s) rfl wC_E_foresee wL_E_74 wI_E_foresee wS_E_foresee wX_E 0 (by decide +kernel) rfl ⟨Nat.le_of_ble_eq_true rfl, Nat.le_of_ble_eq_true rfl⟩ ⟨(by dsimp only [rm_]; omega), (by dsimp only [rm_]; omega)⟩ rfl (Nat.le_of_ble_eq_true rfl) dc_E_run_90 (fun v h k3 n3 hq => ?_)
        obtain ⟨rfl, rfl, i, a1, b1, c1, d1, X, Y, hE, u1, u2, u3, u4, rfl, HP2⟩ := hq
        show vx_V _ _ _ _ _ _ _ _ _ 93 [(5, .int (nI t)), (4, .int io), (0, .ref eu), (1, .ref pa), (2, .ref pb), (3, .int w)] [.int (if i = 0 then 0 else 1)]
        by_cases hi : i = 0
        · refine vx_topi (y := 0) (if_pos hi) ?_
          refine vx_if_eq (tgt := 104) IG dc_E_run_93 (by decide) (fun _ => ?_) (fun c_ => absurd rfl c_)
          have hdv' : (vx_up r eu (eOb ex ef ey eg es ed (bj j) a1 b1 c1 d1)) ed = some (.inr (0, [.ref qo, .ref rs, .ref sc])) := by rw [vx_up_n hed]; exact hdv
          refine vx_aload_n IG dc_E_run_104 rfl 2 rfl ?_
          refine vx_get IG (pool_r HP2 vx_up_s) rfl 6 (by decide) inE wF_E_37 rfl rfl dc_E_run_105 ?_
          refine vx_aload_n IG dc_E_run_108 rfl 2 rfl ?_
          refine vx_get IG (pool_r HP2 vx_up_s) rfl 0 (by decide) inE wF_E_12 rfl rfl dc_E_run_109 ?_
          refine vx_aload_n IG dc_E_run_112 rfl 2 rfl ?_
          refine vx_get IG (pool_r HP2 vx_up_s) rfl 3 (by decide) inE wF_E_25 rfl rfl dc_E_run_113 ?_
          have hsy : nd 4294967296 (V' ey) ≤ 2049 := Nat.le_trans (nd_mono bB1 hle) hsx
          refine vx_callV (As := [.ref ex, .ref ey]) (st := []) IG lw_good (cD_run HP2 hL hdv' hqo hrs hsc (Ne.symm q1) (Ne.symm q2) (Ne.symm r1) hex hey x5 x6 x7 y3 y4 y5 ht (by omega) (by omega)) (pool_r HP2 hdv') rfl wC_D_run wL_E_81 wI_D_run wS_D_run wX_D 2 (by decide +kernel) rfl ⟨Nat.le_of_ble_eq_true rfl, Nat.le_of_ble_eq_true rfl⟩ ⟨(by dsimp only [rm_]; omega), (by dsimp only [rm_]; omega)⟩ rfl (Nat.le_of_ble_eq_true rfl) dc_E_run_116 (fun v h k4 n4 hq => ?_)
          obtain ⟨rfl, V3, C3, S3, HP3, e1, e2, e3, hk3, hn3⟩ := hq
          have w1 : V3 ey = V' ey := e3 ey y3 y4 y5
          have w2 : V3 ef = V' ef := e3 ef f4 f5 f6
          have w3 : V3 eg = V' eg := e3 eg g2 g3 g4
          show vx_V _ _ _ _ _ _ _ _ _ 119 [(5, .int (nI t)), (4, .int io), (0, .ref eu), (1, .ref pa), (2, .ref pb), (3, .int w)] []
          refine vx_aload_n IG dc_E_run_119 rfl 2 rfl ?_
          refine vx_iload_n IG dc_E_run_120 rfl 5 rfl ?_
          have hmod := Nat.mod_lt (V' ex) hyp
          have hdivle := Nat.div_le_self (V' ex) (V' ey)
          refine vx_callV (As := [.int w]) (st := []) IG lw_good (cE_step HP3 hL hdv hed hm hN0 ht (by rw [w1]; omega) (by rw [e2]; exact Nat.le_trans (nd_mono bB1 (Nat.le_of_lt hmod)) hsy) (by rw [e1]; exact Nat.le_trans (nd_mono bB1 hdivle) hsx) hw (fun q => by rw [w2, w3]; have := FI_small (hF q) hxp; exact ⟨Nat.le_trans (nd_mono bB1 this.1) s1, Nat.le_trans (nd_mono bB1 this.2) s1⟩)) (pool_r HP3 vx_up_s) rfl wC_E_step wL_E_85 wI_E_step wS_E_step wX_E 1 (by decide +kernel) rfl ⟨Nat.le_of_ble_eq_true rfl, Nat.le_of_ble_eq_true rfl⟩ ⟨(by dsimp only [rm_]; omega), (by dsimp only [rm_]; omega)⟩ rfl (Nat.le_of_ble_eq_true rfl) dc_E_run_121 (fun v h k5 n5 hq => ?_)
          obtain ⟨rfl, V4, C4, S4, HP4, z1, z2, z3, z4, hk4, hn4⟩ := hq
          rw [w1] at z1
          rw [e2] at z2
          rw [w2, w3, e1] at z3
          show vx_V _ _ _ _ _ _ _ _ _ 124 [(5, .int (nI t)), (4, .int io), (0, .ref eu), (1, .ref pa), (2, .ref pb), (3, .int w)] []
          refine vx_iinc (q := 0) (v := nI (t + 1)) (lv' := [(5, .int (nI (t + 1))), (4, .int io), (0, .ref eu), (1, .ref pa), (2, .ref pb), (3, .int w)]) IG dc_E_run_124 rfl (nI_1 t) (by decide) rfl ?_
          refine vx_goto (tgt := 72) IG dc_E_run_127 (by decide) ?_
          refine ih (t + 1) (by omega) h V4 C4 S4 _ _ (j + 1) a1 b1 c1 d1 io HP4 (by omega) (by rw [z1, z2]; omega) ?_ ?_ (by rw [z1]; exact hsy) (fun q => ?_) (fun q hq => ?_) (by omega) (by omega)
          · rw [z1, z2, ← hg]; exact Eu_gcd 1 _ _ _ _ _ _ (Eu_one hyp)
          · rw [z1, z2]
            exact er_next hpr (Eu_half hle 1 _ _ _ _ _ _ (Eu_one hyp))
          · rw [z1, z2, (z3 q).1, (z3 q).2]
            have := FI_step (hF q) hyp hle
            rw [show -sg j 1 = sg (j + 1) 1 by unfold sg; rcases Nat.mod_two_eq_zero_or_one j with e | e <;> simp [e, Nat.add_mod]] at this
            exact this
          · have hq' := hq
            simp only [List.mem_cons, not_or, List.not_mem_nil, not_false_eq_true, and_true] at hq
            obtain ⟨o1, o2, o3, o4, o5, o6, o7, o8⟩ := hq
            rw [z4 q (by simp [o1, o2, o3, o4, o5]), e3 q o6 o7 o8, ho' q hq']
        · refine vx_topi (y := 1) (if_neg hi) ?_
          refine vx_if_eq (tgt := 104) IG dc_E_run_93 (by decide) (fun c_ => absurd c_ (by decide)) (fun _ => ?_)
          refine vx_aload_n IG dc_E_run_96 rfl 2 rfl ?_
          refine vx_iload_n IG dc_E_run_97 rfl 5 rfl ?_
          refine vx_callV (As := [.int w]) (st := []) IG lw_good (cE_leap HP2 hL hex hey hef heg (Ne.symm x2) (Ne.symm x1) f1 (Ne.symm x3) (Ne.symm y1) (Ne.symm f2) ht hle (by omega) hE u1 u2 u3 u4 hw (fun q => by have := FI_small (hF q) hxp; exact ⟨Nat.le_trans (nd_mono bB1 this.1) (by omega), Nat.le_trans (nd_mono bB1 this.2) (by omega)⟩)) (pool_r HP2 vx_up_s) rfl wC_E_leap wL_E_77 wI_E_leap wS_E_leap wX_E 1 (by decide +kernel) rfl ⟨Nat.le_of_ble_eq_true rfl, Nat.le_of_ble_eq_true rfl⟩ ⟨(by dsimp only [rm_]; omega), (by dsimp only [rm_]; omega)⟩ rfl (Nat.le_of_ble_eq_true rfl) dc_E_run_98 (fun v h k6 n6 hq => ?_)
          obtain ⟨rfl, V4, C4, S4, HP4, z1, z2, z3, z4, hk4, hn4⟩ := hq
          show vx_V _ _ _ _ _ _ _ _ _ 101 [(5, .int (nI t)), (4, .int io), (0, .ref eu), (1, .ref pa), (2, .ref pb), (3, .int w)] []
          refine vx_goto (tgt := 124) IG dc_E_run_101 (by decide) ?_
          refine vx_iinc (q := 0) (v := nI (t + 1)) (lv' := [(5, .int (nI (t + 1))), (4, .int io), (0, .ref eu), (1, .ref pa), (2, .ref pb), (3, .int w)]) IG dc_E_run_124 rfl (nI_1 t) (by decide) rfl ?_
          refine vx_goto (tgt := 72) IG dc_E_run_127 (by decide) ?_
          have hXx := Eu_le hle i _ _ _ _ _ _ hE
          have hYX := Eu_ord hle i _ _ _ _ _ _ hE
          refine ih (t + 1) (by omega) h V4 C4 S4 _ _ (j + i) a1 b1 c1 d1 io HP4 (by omega) (by rw [z1, z2]; exact hYX) ?_ ?_ (by rw [z1]; exact Nat.le_trans (nd_mono bB1 hXx) hsx) (fun q => ?_) (fun q hq => ?_) (by omega) (by omega)
          · rw [z1, z2, ← hg]; exact Eu_gcd i _ _ _ _ _ _ hE
          · rw [z1, z2]
            exact er_next hpr (Eu_half hle i _ _ _ _ _ _ hE)
          · rw [z1, z2, (z3 q).1, (z3 q).2, ← sg_add]
            exact Eu_fac hle (hF q) i _ _ _ _ _ _ hE
          · have hq' := hq
            simp only [List.mem_cons, not_or, List.not_mem_nil, not_false_eq_true, and_true] at hq
            obtain ⟨o1, o2, o3, o4, o5, o6, o7, o8⟩ := hq
            rw [z4 q o1 o3 o2 o4, ho' q hq']
  -- what stands before the loop, once x and y are known
  have pre : ∀ (V2 : Nat → Nat) (C2 S2 k n : Nat) (h : vx_h) (io : Int32), pool cJ L (vx_up r eu (eOb ex ef ey eg es ed bw_ a b c d)) V2 h C2 S2 → V2 ey ≤ V2 ex → Nat.gcd (V2 ex) (V2 ey) = Nat.gcd (V pa) (V pb) → V2 ex * V2 ey = V pa * V pb → nd 4294967296 (V2 ex) ≤ 2049 → (w = 1 → V2 ex = V pa ∧ V2 ey = V pb) → (∀ q, q ∉ [ex, ey] → V2 q = V q) → k + C2 ≤ C → n + S2 ≤ S → vx_V D vcl A H0 6 G h k n 49 [(4, .int io), (0, .ref eu), (1, .ref pa), (2, .ref pb), (3, .int w)] [] := by
    intro V2 C2 S2 k n h io HP2 hle hg hpr hsx hF ho' hk hn
    obtain ⟨ar, cp, cn, fn, HR, hV, hC, hS⟩ := HP2
    refine vx_aload_n IG dc_E_run_49 rfl 1 rfl ?_
    refine vx_get IG (rw_r HR vx_up_s) rfl 1 (by decide) inE wF_E_18 rfl rfl dc_E_run_50 ?_
    refine vx_callV (As := []) (st := []) IG lw_good (cW_clear HR hef) (rw_obj HR hef) rfl wC_W_clear wL_E_62 wI_W_clear wS_W_clear wX_W 0 (by decide +kernel) rfl ⟨Nat.le_of_ble_eq_true rfl, Nat.le_of_ble_eq_true rfl⟩ ⟨(by dsimp only [rm_]; omega), (by dsimp only [rm_]; omega)⟩ rfl (Nat.le_of_ble_eq_true rfl) dc_E_run_53 (fun v h k7 n7 hq => ?_)
    obtain ⟨rfl, rfl, rfl, HR⟩ := hq
    have HP3 : pool cJ L (vx_up r eu (eOb ex ef ey eg es ed bw_ a b c d)) (va_up V2 ef 0) h C2 S2 := by
      refine ⟨ar, cp, va_up cn ef 0, fn, HR, fun q hq => ?_, hC, hS⟩
      by_cases z : q = ef
      · subst z
        rw [va_up_self]
        exact ⟨va_up_self _ _ _, Nat.zero_le _, fun i hi => absurd hi (Nat.not_lt_zero i)⟩
      · rw [va_up_ne _ _ z]
        exact wv_same (hV q hq) rfl (va_up_ne _ _ z) rfl
    show vx_V _ _ _ _ _ _ _ _ _ 56 [(4, .int io), (0, .ref eu), (1, .ref pa), (2, .ref pb), (3, .int w)] []
    refine vx_aload_n IG dc_E_run_56 rfl 1 rfl ?_
    refine vx_get IG (pool_r HP3 vx_up_s) rfl 4 (by decide) inE wF_E_28 rfl rfl dc_E_run_57 ?_
    refine vx_lconst (v := 1) IG dc_E_run_60 (by decide) ?_
    refine vx_callV (As := [.long 1]) (st := []) IG lw_good (cW_load HP3 heg ht (b := 1) (by decide)) ((pool_o HP3 heg).choose_spec) rfl wC_W_load wL_E_65 wI_W_load wS_W_load wX_W 1 (by decide +kernel) rfl ⟨Nat.le_of_ble_eq_true rfl, Nat.le_of_ble_eq_true rfl⟩ ⟨(by dsimp only [rm_]; omega), (by dsimp only [rm_]; omega)⟩ rfl (Nat.le_of_ble_eq_true rfl) dc_E_run_61 (fun v h k8 n8 hq => ?_)
    obtain ⟨rfl, C4, S4, HP4, hk4, hn4⟩ := hq
    obtain ⟨ar4, cp4, cn4, fn4, HR4, hV4, hC4, hS4⟩ := HP4
    show vx_V _ _ _ _ _ _ _ _ _ 64 [(4, .int io), (0, .ref eu), (1, .ref pa), (2, .ref pb), (3, .int w)] []
    refine vx_aload_n IG dc_E_run_64 rfl 1 rfl ?_
    refine vx_iconst (v := 1) IG dc_E_run_65 (by decide) ?_
    refine er_put IG HR4 2 (by decide) wF_E_21 rfl rfl (ty := .boolean) (by decide +kernel) rfl rfl (Nat.le_of_ble_eq_true rfl) dc_E_run_66 (fun h HR4 => ?_)
    replace HR4 : rw_at 2 cJ L (vx_up r eu (eOb ex ef ey eg es ed (bj 0) a b c d)) ar4 cp4 cn4 fn4 h := HR4
    refine vx_iconst (v := 0) IG dc_E_run_69 (by decide) ?_
    refine vx_istore (lv' := [(5, .int 0), (4, .int io), (0, .ref eu), (1, .ref pa), (2, .ref pb), (3, .int w)]) IG dc_E_run_70 (by decide) rfl ?_
    have w1 : va_up (va_up V2 ef 0) eg 1 ex = V2 ex := by rw [va_up_ne _ _ x3, va_up_ne _ _ x1]
    have w2 : va_up (va_up V2 ef 0) eg 1 ey = V2 ey := by rw [va_up_ne _ _ y1, va_up_ne _ _ (Ne.symm f1)]
    have w3 : va_up (va_up V2 ef 0) eg 1 ef = 0 := by rw [va_up_ne _ _ f2, va_up_self]
    refine loop 131137 0 (by decide) h (va_up (va_up V2 ef 0) eg 1) C4 S4 _ _ 0 a b c d io ⟨ar4, cp4, cn4, fn4, HR4, hV4, hC4, hS4⟩ (Nat.le_refl 0) (by rw [w1, w2]; exact hle) (by rw [w1, w2]; exact hg) (by rw [w1, w2, Nat.pow_zero, Nat.one_mul, hpr]; exact Nat.le_refl _) (by rw [w1]; exact hsx) (fun q => ?_) (fun q hq => ?_) (by omega) (by omega)
    · rw [w1, w2, w3, va_up_self, (hF q).1, (hF q).2]
      exact FI_start _ _
    · simp only [List.mem_cons, not_or, List.not_mem_nil, not_false_eq_true, and_true] at hq
      rw [va_up_ne _ _ hq.2.2.2.1, va_up_ne _ _ hq.2.1]
      exact ho' q (by simp [hq.1, hq.2.2.1])
  refine vx_aload_n IG dc_E_run_0 rfl 1 rfl ?_
  refine vx_aload_n IG dc_E_run_1 rfl 2 rfl ?_
  refine vx_callV (As := [.ref pb]) (st := []) IG lw_good (cW_against HP hpa hpb ht) ((pool_o HP hpa).choose_spec) rfl wC_W_against wL_E_54 wI_W_against wS_W_against wX_W 1 (by decide +kernel) rfl ⟨Nat.le_of_ble_eq_true rfl, Nat.le_of_ble_eq_true rfl⟩ ⟨(by dsimp only [rm_]; omega), (by dsimp only [rm_]; omega)⟩ rfl (Nat.le_of_ble_eq_true rfl) dc_E_run_2 (fun v h k9 n9 hq => ?_)
  obtain ⟨rfl, rfl, rfl, rfl⟩ := hq
  show vx_V _ _ _ _ _ _ _ _ _ 5 [(0, .ref eu), (1, .ref pa), (2, .ref pb), (3, .int w)] [.int (cmpI (V pa) (V pb))]
  by_cases z1 : V pb ≤ V pa
  · refine vx_if_lt (tgt := 12) IG dc_E_run_5 (by decide) (fun c_ => absurd c_ (fun q => absurd ((cmpI_ge _ _).mpr z1) (Int32.not_le.mpr q))) (fun _ => ?_)
    refine vx_iconst (v := 1) IG dc_E_run_8 (by decide) ?_
    refine vx_goto (tgt := 13) IG dc_E_run_9 (by decide) ?_
    refine vx_istore (lv' := [(4, .int 1), (0, .ref eu), (1, .ref pa), (2, .ref pb), (3, .int w)]) IG dc_E_run_13 (by decide) rfl ?_
    refine vx_aload_n IG dc_E_run_15 rfl 1 rfl ?_
    refine vx_get IG (pool_r HP vx_up_s) rfl 0 (by decide) inE wF_E_12 rfl rfl dc_E_run_16 ?_
    refine vx_iload IG dc_E_run_19 0 rfl ?_
    refine vx_if_eq (tgt := 28) IG dc_E_run_21 (by decide) (fun c_ => absurd c_ (by decide)) (fun _ => ?_)
    refine vx_aload_n IG dc_E_run_24 rfl 2 rfl ?_
    refine vx_goto (tgt := 29) IG dc_E_run_25 (by decide) ?_
    refine vx_callV (As := [.ref pa]) (st := []) IG lw_good (cW_copy HP hL hex hpa ht (by omega)) ((pool_o HP hex).choose_spec) rfl wC_W_copy wL_E_58 wI_W_copy wS_W_copy wX_W 1 (by decide +kernel) rfl ⟨Nat.le_of_ble_eq_true rfl, Nat.le_of_ble_eq_true rfl⟩ ⟨(by dsimp only [rm_]; omega), (by dsimp only [rm_]; omega)⟩ rfl (Nat.le_of_ble_eq_true rfl) dc_E_run_29 (fun v h k10 n10 hq => ?_)
    obtain ⟨rfl, C1, S1, HP1, hk1, hn1⟩ := hq
    have v1 : va_up V ex (V pa) pb = V pb := va_up_ne _ _ npb.1
    show vx_V _ _ _ _ _ _ _ _ _ 32 [(4, .int 1), (0, .ref eu), (1, .ref pa), (2, .ref pb), (3, .int w)] []
    refine vx_aload_n IG dc_E_run_32 rfl 1 rfl ?_
    refine vx_get IG (pool_r HP1 vx_up_s) rfl 3 (by decide) inE wF_E_25 rfl rfl dc_E_run_33 ?_
    refine vx_iload IG dc_E_run_36 0 rfl ?_
    refine vx_if_eq (tgt := 45) IG dc_E_run_38 (by decide) (fun c_ => absurd c_ (by decide)) (fun _ => ?_)
    refine vx_aload_n IG dc_E_run_41 rfl 3 rfl ?_
    refine vx_goto (tgt := 46) IG dc_E_run_42 (by decide) ?_
    refine vx_callV (As := [.ref pb]) (st := []) IG lw_good (cW_copy HP1 hL hey hpb ht (by rw [v1]; omega)) ((pool_o HP1 hey).choose_spec) rfl wC_W_copy wL_E_58 wI_W_copy wS_W_copy wX_W 1 (by decide +kernel) rfl ⟨Nat.le_of_ble_eq_true rfl, Nat.le_of_ble_eq_true rfl⟩ ⟨(by dsimp only [rm_]; omega), (by dsimp only [rm_]; omega)⟩ rfl (Nat.le_of_ble_eq_true rfl) dc_E_run_46 (fun v h k11 n11 hq => ?_)
    obtain ⟨rfl, C2, S2, HP2, hk2, hn2⟩ := hq
    rw [v1] at HP2
    have w1 : va_up (va_up V ex (V pa)) ey (V pb) ex = V pa := by rw [va_up_ne _ _ x2, va_up_self]
    have w2 : va_up (va_up V ex (V pa)) ey (V pb) ey = V pb := va_up_self _ _ _
    show vx_V _ _ _ _ _ _ _ _ _ 49 [(4, .int 1), (0, .ref eu), (1, .ref pa), (2, .ref pb), (3, .int w)] []
    refine pre _ C2 S2 _ _ h 1 HP2 (by rw [w1, w2]; exact z1) (by rw [w1, w2]) (by rw [w1, w2]) (by rw [w1]; exact s1) (fun _ => ⟨w1, w2⟩) (fun q hq => ?_) (by omega) (by omega)
    simp only [List.mem_cons, not_or, List.not_mem_nil, not_false_eq_true, and_true] at hq
    rw [va_up_ne _ _ hq.2, va_up_ne _ _ hq.1]
  · refine vx_if_lt (tgt := 12) IG dc_E_run_5 (by decide) (fun _ => ?_) (fun c_ => absurd (Int32.not_le.mp (fun q => z1 ((cmpI_ge _ _).mp q))) c_)
    refine vx_iconst (v := 0) IG dc_E_run_12 (by decide) ?_
    refine vx_istore (lv' := [(4, .int 0), (0, .ref eu), (1, .ref pa), (2, .ref pb), (3, .int w)]) IG dc_E_run_13 (by decide) rfl ?_
    refine vx_aload_n IG dc_E_run_15 rfl 1 rfl ?_
    refine vx_get IG (pool_r HP vx_up_s) rfl 0 (by decide) inE wF_E_12 rfl rfl dc_E_run_16 ?_
    refine vx_iload IG dc_E_run_19 0 rfl ?_
    refine vx_if_eq (tgt := 28) IG dc_E_run_21 (by decide) (fun _ => ?_) (fun c_ => absurd rfl c_)
    refine vx_aload_n IG dc_E_run_28 rfl 3 rfl ?_
    refine vx_callV (As := [.ref pb]) (st := []) IG lw_good (cW_copy HP hL hex hpb ht (by omega)) ((pool_o HP hex).choose_spec) rfl wC_W_copy wL_E_58 wI_W_copy wS_W_copy wX_W 1 (by decide +kernel) rfl ⟨Nat.le_of_ble_eq_true rfl, Nat.le_of_ble_eq_true rfl⟩ ⟨(by dsimp only [rm_]; omega), (by dsimp only [rm_]; omega)⟩ rfl (Nat.le_of_ble_eq_true rfl) dc_E_run_29 (fun v h k12 n12 hq => ?_)
    obtain ⟨rfl, C1, S1, HP1, hk1, hn1⟩ := hq
    have v1 : va_up V ex (V pb) pa = V pa := va_up_ne _ _ npa.1
    show vx_V _ _ _ _ _ _ _ _ _ 32 [(4, .int 0), (0, .ref eu), (1, .ref pa), (2, .ref pb), (3, .int w)] []
    refine vx_aload_n IG dc_E_run_32 rfl 1 rfl ?_
    refine vx_get IG (pool_r HP1 vx_up_s) rfl 3 (by decide) inE wF_E_25 rfl rfl dc_E_run_33 ?_
    refine vx_iload IG dc_E_run_36 0 rfl ?_
    refine vx_if_eq (tgt := 45) IG dc_E_run_38 (by decide) (fun _ => ?_) (fun c_ => absurd rfl c_)
    refine vx_aload_n IG dc_E_run_45 rfl 2 rfl ?_
    refine vx_callV (As := [.ref pa]) (st := []) IG lw_good (cW_copy HP1 hL hey hpa ht (by rw [v1]; omega)) ((pool_o HP1 hey).choose_spec) rfl wC_W_copy wL_E_58 wI_W_copy wS_W_copy wX_W 1 (by decide +kernel) rfl ⟨Nat.le_of_ble_eq_true rfl, Nat.le_of_ble_eq_true rfl⟩ ⟨(by dsimp only [rm_]; omega), (by dsimp only [rm_]; omega)⟩ rfl (Nat.le_of_ble_eq_true rfl) dc_E_run_46 (fun v h k13 n13 hq => ?_)
    obtain ⟨rfl, C2, S2, HP2, hk2, hn2⟩ := hq
    rw [v1] at HP2
    have w1 : va_up (va_up V ex (V pb)) ey (V pa) ex = V pb := by rw [va_up_ne _ _ x2, va_up_self]
    have w2 : va_up (va_up V ex (V pb)) ey (V pa) ey = V pa := va_up_self _ _ _
    show vx_V _ _ _ _ _ _ _ _ _ 49 [(4, .int 0), (0, .ref eu), (1, .ref pa), (2, .ref pb), (3, .int w)] []
    refine pre _ C2 S2 _ _ h 0 HP2 (by rw [w1, w2]; omega) (by rw [w1, w2, Nat.gcd_comm]) (by rw [w1, w2, Nat.mul_comm]) (by rw [w1]; exact s2) (fun q => absurd (ho q) z1) (fun q hq => ?_) (by omega) (by omega)
    simp only [List.mem_cons, not_or, List.not_mem_nil, not_false_eq_true, and_true] at hq
    rw [va_up_ne _ _ hq.2, va_up_ne _ _ hq.1]
end
end
