section
-- ===== PART A: goes FIRST, ahead of the names: the tables' words, and 'selects' of the private methods out of them =====
/-- a private method of a class that the tables say can be made, by its rows of tables_1 -/
def lw_okq (q : MethodName × Nat) : Prop := (q.1.cls ≠ "java/lang/invoke/MethodHandle" ∧ q.1.cls ≠ "java/lang/invoke/VarHandle") ∧ Cond.instantiable q.1.cls q.2 ∈ tables_1 ∧ Cond.privateMethod q.1 ∈ tables_1 ∧ Cond.instanceMethod q.1 ∈ tables_1
theorem lw_p0 : lw_okq (⟨"SignedMill", "keep", "(IZ)Z"⟩, 7) := ⟨⟨by decide +kernel, by decide +kernel⟩, List.mem_of_getElem? (i := 12) (by decide +kernel), List.mem_of_getElem? (i := 149) (by decide +kernel), List.mem_of_getElem? (i := 150) (by decide +kernel)⟩
theorem lw_p1 : lw_okq (⟨"SignedMill", "settle", "(ILSignedMill$Whole;Z)V"⟩, 7) := ⟨⟨by decide +kernel, by decide +kernel⟩, List.mem_of_getElem? (i := 12) (by decide +kernel), List.mem_of_getElem? (i := 165) (by decide +kernel), List.mem_of_getElem? (i := 166) (by decide +kernel)⟩
theorem lw_p2 : lw_okq (⟨"SignedMill", "keepSum", "(IILSignedMill$Whole;Z)Z"⟩, 7) := ⟨⟨by decide +kernel, by decide +kernel⟩, List.mem_of_getElem? (i := 12) (by decide +kernel), List.mem_of_getElem? (i := 232) (by decide +kernel), List.mem_of_getElem? (i := 233) (by decide +kernel)⟩
theorem lw_p3 : lw_okq (⟨"SignedMill$Whole", "addMultiple", "(IJLSignedMill$Whole;)V"⟩, 2) := ⟨⟨by decide +kernel, by decide +kernel⟩, List.mem_of_getElem? (i := 21) (by decide +kernel), List.mem_of_getElem? (i := 268) (by decide +kernel), List.mem_of_getElem? (i := 269) (by decide +kernel)⟩
theorem lw_p4 : lw_okq (⟨"SignedMill$Divider", "takeOut", "(II)J"⟩, 3) := ⟨⟨by decide +kernel, by decide +kernel⟩, List.mem_of_getElem? (i := 42) (by decide +kernel), List.mem_of_getElem? (i := 288) (by decide +kernel), List.mem_of_getElem? (i := 289) (by decide +kernel)⟩
theorem lw_p5 : lw_okq (⟨"SignedMill$Divider", "guess", "(II)J"⟩, 3) := ⟨⟨by decide +kernel, by decide +kernel⟩, List.mem_of_getElem? (i := 42) (by decide +kernel), List.mem_of_getElem? (i := 292) (by decide +kernel), List.mem_of_getElem? (i := 293) (by decide +kernel)⟩
theorem lw_p6 : lw_okq (⟨"SignedMill$Divider", "subtract", "(IIJ)Z"⟩, 3) := ⟨⟨by decide +kernel, by decide +kernel⟩, List.mem_of_getElem? (i := 42) (by decide +kernel), List.mem_of_getElem? (i := 307) (by decide +kernel), List.mem_of_getElem? (i := 308) (by decide +kernel)⟩
theorem lw_p7 : lw_okq (⟨"SignedMill$Divider", "addBack", "(II)V"⟩, 3) := ⟨⟨by decide +kernel, by decide +kernel⟩, List.mem_of_getElem? (i := 42) (by decide +kernel), List.mem_of_getElem? (i := 311) (by decide +kernel), List.mem_of_getElem? (i := 312) (by decide +kernel)⟩
theorem lw_p8 : lw_okq (⟨"SignedMill", "endlessDigit", "(III)J"⟩, 7) := ⟨⟨by decide +kernel, by decide +kernel⟩, List.mem_of_getElem? (i := 12) (by decide +kernel), List.mem_of_getElem? (i := 330) (by decide +kernel), List.mem_of_getElem? (i := 331) (by decide +kernel)⟩
theorem lw_p9 : lw_okq (⟨"SignedMill", "shiftUp", "(III)Z"⟩, 7) := ⟨⟨by decide +kernel, by decide +kernel⟩, List.mem_of_getElem? (i := 12) (by decide +kernel), List.mem_of_getElem? (i := 353) (by decide +kernel), List.mem_of_getElem? (i := 354) (by decide +kernel)⟩
theorem lw_p10 : lw_okq (⟨"SignedMill", "shiftDown", "(III)Z"⟩, 7) := ⟨⟨by decide +kernel, by decide +kernel⟩, List.mem_of_getElem? (i := 12) (by decide +kernel), List.mem_of_getElem? (i := 359) (by decide +kernel), List.mem_of_getElem? (i := 360) (by decide +kernel)⟩
theorem lw_p11 : lw_okq (⟨"SignedMill", "findPower", "(LSignedMill$Whole;I)Z"⟩, 7) := ⟨⟨by decide +kernel, by decide +kernel⟩, List.mem_of_getElem? (i := 12) (by decide +kernel), List.mem_of_getElem? (i := 383) (by decide +kernel), List.mem_of_getElem? (i := 384) (by decide +kernel)⟩
theorem lw_p12 : lw_okq (⟨"SignedMill", "multiplyResult", "(LSignedMill$Whole;)Z"⟩, 7) := ⟨⟨by decide +kernel, by decide +kernel⟩, List.mem_of_getElem? (i := 12) (by decide +kernel), List.mem_of_getElem? (i := 389) (by decide +kernel), List.mem_of_getElem? (i := 390) (by decide +kernel)⟩
theorem lw_p13 : lw_okq (⟨"SignedMill$Euclid", "foresee", "()Z"⟩, 11) := ⟨⟨by decide +kernel, by decide +kernel⟩, List.mem_of_getElem? (i := 64) (by decide +kernel), List.mem_of_getElem? (i := 407) (by decide +kernel), List.mem_of_getElem? (i := 408) (by decide +kernel)⟩
theorem lw_p14 : lw_okq (⟨"SignedMill$Euclid", "turn", "(J)Z"⟩, 11) := ⟨⟨by decide +kernel, by decide +kernel⟩, List.mem_of_getElem? (i := 64) (by decide +kernel), List.mem_of_getElem? (i := 418) (by decide +kernel), List.mem_of_getElem? (i := 419) (by decide +kernel)⟩
theorem lw_p15 : lw_okq (⟨"SignedMill$Euclid", "leap", "(Z)V"⟩, 11) := ⟨⟨by decide +kernel, by decide +kernel⟩, List.mem_of_getElem? (i := 64) (by decide +kernel), List.mem_of_getElem? (i := 429) (by decide +kernel), List.mem_of_getElem? (i := 430) (by decide +kernel)⟩
def lw_privs_1 : List (MethodName × Nat) := [(⟨"SignedMill", "keep", "(IZ)Z"⟩, 7), (⟨"SignedMill", "settle", "(ILSignedMill$Whole;Z)V"⟩, 7), (⟨"SignedMill", "keepSum", "(IILSignedMill$Whole;Z)Z"⟩, 7), (⟨"SignedMill$Whole", "addMultiple", "(IJLSignedMill$Whole;)V"⟩, 2), (⟨"SignedMill$Divider", "takeOut", "(II)J"⟩, 3), (⟨"SignedMill$Divider", "guess", "(II)J"⟩, 3), (⟨"SignedMill$Divider", "subtract", "(IIJ)Z"⟩, 3), (⟨"SignedMill$Divider", "addBack", "(II)V"⟩, 3), (⟨"SignedMill", "endlessDigit", "(III)J"⟩, 7), (⟨"SignedMill", "shiftUp", "(III)Z"⟩, 7), (⟨"SignedMill", "shiftDown", "(III)Z"⟩, 7), (⟨"SignedMill", "findPower", "(LSignedMill$Whole;I)Z"⟩, 7), (⟨"SignedMill", "multiplyResult", "(LSignedMill$Whole;)Z"⟩, 7), (⟨"SignedMill$Euclid", "foresee", "()Z"⟩, 11), (⟨"SignedMill$Euclid", "turn", "(J)Z"⟩, 11), (⟨"SignedMill$Euclid", "leap", "(Z)V"⟩, 11)]
theorem lw_r1 : ∀ q ∈ lw_privs_1, lw_okq q := List.forall_mem_cons.mpr ⟨lw_p0, List.forall_mem_cons.mpr ⟨lw_p1, List.forall_mem_cons.mpr ⟨lw_p2, List.forall_mem_cons.mpr ⟨lw_p3, List.forall_mem_cons.mpr ⟨lw_p4, List.forall_mem_cons.mpr ⟨lw_p5, List.forall_mem_cons.mpr ⟨lw_p6, List.forall_mem_cons.mpr ⟨lw_p7, List.forall_mem_cons.mpr ⟨lw_p8, List.forall_mem_cons.mpr ⟨lw_p9, List.forall_mem_cons.mpr ⟨lw_p10, List.forall_mem_cons.mpr ⟨lw_p11, List.forall_mem_cons.mpr ⟨lw_p12, List.forall_mem_cons.mpr ⟨lw_p13, List.forall_mem_cons.mpr ⟨lw_p14, List.forall_mem_cons.mpr ⟨lw_p15, fun _ h => absurd h List.not_mem_nil⟩⟩⟩⟩⟩⟩⟩⟩⟩⟩⟩⟩⟩⟩⟩⟩
theorem lw_p16 : lw_okq (⟨"SignedMill$Euclid", "leapRemainders", "()V"⟩, 11) := ⟨⟨by decide +kernel, by decide +kernel⟩, List.mem_of_getElem? (i := 64) (by decide +kernel), List.mem_of_getElem? (i := 433) (by decide +kernel), List.mem_of_getElem? (i := 434) (by decide +kernel)⟩
theorem lw_p17 : lw_okq (⟨"SignedMill$Euclid", "leapFactors", "()V"⟩, 11) := ⟨⟨by decide +kernel, by decide +kernel⟩, List.mem_of_getElem? (i := 64) (by decide +kernel), List.mem_of_getElem? (i := 443) (by decide +kernel), List.mem_of_getElem? (i := 444) (by decide +kernel)⟩
theorem lw_p18 : lw_okq (⟨"SignedMill$Euclid", "step", "(Z)V"⟩, 11) := ⟨⟨by decide +kernel, by decide +kernel⟩, List.mem_of_getElem? (i := 64) (by decide +kernel), List.mem_of_getElem? (i := 448) (by decide +kernel), List.mem_of_getElem? (i := 449) (by decide +kernel)⟩
theorem lw_p19 : lw_okq (⟨"SignedMill", "isModulus", "(I)Z"⟩, 7) := ⟨⟨by decide +kernel, by decide +kernel⟩, List.mem_of_getElem? (i := 12) (by decide +kernel), List.mem_of_getElem? (i := 458) (by decide +kernel), List.mem_of_getElem? (i := 459) (by decide +kernel)⟩
theorem lw_p20 : lw_okq (⟨"SignedMill", "findInverse", "(II)Z"⟩, 7) := ⟨⟨by decide +kernel, by decide +kernel⟩, List.mem_of_getElem? (i := 12) (by decide +kernel), List.mem_of_getElem? (i := 462) (by decide +kernel), List.mem_of_getElem? (i := 463) (by decide +kernel)⟩
theorem lw_p21 : lw_okq (⟨"SignedMill", "reduce", "(II)V"⟩, 7) := ⟨⟨by decide +kernel, by decide +kernel⟩, List.mem_of_getElem? (i := 12) (by decide +kernel), List.mem_of_getElem? (i := 466) (by decide +kernel), List.mem_of_getElem? (i := 467) (by decide +kernel)⟩
theorem lw_p22 : lw_okq (⟨"SignedMill", "findPowerByModulus", "(LSignedMill$Whole;LSignedMill$Whole;)V"⟩, 7) := ⟨⟨by decide +kernel, by decide +kernel⟩, List.mem_of_getElem? (i := 12) (by decide +kernel), List.mem_of_getElem? (i := 475) (by decide +kernel), List.mem_of_getElem? (i := 476) (by decide +kernel)⟩
theorem lw_p23 : lw_okq (⟨"SignedMill", "multiplyByModulus", "(LSignedMill$Whole;LSignedMill$Whole;)V"⟩, 7) := ⟨⟨by decide +kernel, by decide +kernel⟩, List.mem_of_getElem? (i := 12) (by decide +kernel), List.mem_of_getElem? (i := 479) (by decide +kernel), List.mem_of_getElem? (i := 480) (by decide +kernel)⟩
theorem lw_p24 : lw_okq (⟨"SignedMillModel", "set", "(IJ)V"⟩, 3) := ⟨⟨by decide +kernel, by decide +kernel⟩, List.mem_of_getElem? (i := 521) (by decide +kernel), List.mem_of_getElem? (i := 546) (by decide +kernel), List.mem_of_getElem? (i := 547) (by decide +kernel)⟩
theorem lw_p25 : lw_okq (⟨"SignedMillModel", "trim", "(II)V"⟩, 3) := ⟨⟨by decide +kernel, by decide +kernel⟩, List.mem_of_getElem? (i := 521) (by decide +kernel), List.mem_of_getElem? (i := 555) (by decide +kernel), List.mem_of_getElem? (i := 556) (by decide +kernel)⟩
theorem lw_p26 : lw_okq (⟨"SignedMillModel", "store", "(IIZ)Z"⟩, 3) := ⟨⟨by decide +kernel, by decide +kernel⟩, List.mem_of_getElem? (i := 521) (by decide +kernel), List.mem_of_getElem? (i := 559) (by decide +kernel), List.mem_of_getElem? (i := 560) (by decide +kernel)⟩
theorem lw_p27 : lw_okq (⟨"SignedMillModel", "move", "(II)V"⟩, 3) := ⟨⟨by decide +kernel, by decide +kernel⟩, List.mem_of_getElem? (i := 521) (by decide +kernel), List.mem_of_getElem? (i := 563) (by decide +kernel), List.mem_of_getElem? (i := 564) (by decide +kernel)⟩
theorem lw_p28 : lw_okq (⟨"SignedMillModel", "added", "(IIZIZ)Z"⟩, 3) := ⟨⟨by decide +kernel, by decide +kernel⟩, List.mem_of_getElem? (i := 521) (by decide +kernel), List.mem_of_getElem? (i := 583) (by decide +kernel), List.mem_of_getElem? (i := 584) (by decide +kernel)⟩
theorem lw_p29 : lw_okq (⟨"SignedMillModel", "compareRows", "(II)I"⟩, 3) := ⟨⟨by decide +kernel, by decide +kernel⟩, List.mem_of_getElem? (i := 521) (by decide +kernel), List.mem_of_getElem? (i := 587) (by decide +kernel), List.mem_of_getElem? (i := 588) (by decide +kernel)⟩
theorem lw_p30 : lw_okq (⟨"SignedMillModel", "sum", "(III)V"⟩, 3) := ⟨⟨by decide +kernel, by decide +kernel⟩, List.mem_of_getElem? (i := 521) (by decide +kernel), List.mem_of_getElem? (i := 591) (by decide +kernel), List.mem_of_getElem? (i := 592) (by decide +kernel)⟩
theorem lw_p31 : lw_okq (⟨"SignedMillModel", "digit", "(II)I"⟩, 3) := ⟨⟨by decide +kernel, by decide +kernel⟩, List.mem_of_getElem? (i := 521) (by decide +kernel), List.mem_of_getElem? (i := 595) (by decide +kernel), List.mem_of_getElem? (i := 596) (by decide +kernel)⟩
def lw_privs_2 : List (MethodName × Nat) := [(⟨"SignedMill$Euclid", "leapRemainders", "()V"⟩, 11), (⟨"SignedMill$Euclid", "leapFactors", "()V"⟩, 11), (⟨"SignedMill$Euclid", "step", "(Z)V"⟩, 11), (⟨"SignedMill", "isModulus", "(I)Z"⟩, 7), (⟨"SignedMill", "findInverse", "(II)Z"⟩, 7), (⟨"SignedMill", "reduce", "(II)V"⟩, 7), (⟨"SignedMill", "findPowerByModulus", "(LSignedMill$Whole;LSignedMill$Whole;)V"⟩, 7), (⟨"SignedMill", "multiplyByModulus", "(LSignedMill$Whole;LSignedMill$Whole;)V"⟩, 7), (⟨"SignedMillModel", "set", "(IJ)V"⟩, 3), (⟨"SignedMillModel", "trim", "(II)V"⟩, 3), (⟨"SignedMillModel", "store", "(IIZ)Z"⟩, 3), (⟨"SignedMillModel", "move", "(II)V"⟩, 3), (⟨"SignedMillModel", "added", "(IIZIZ)Z"⟩, 3), (⟨"SignedMillModel", "compareRows", "(II)I"⟩, 3), (⟨"SignedMillModel", "sum", "(III)V"⟩, 3), (⟨"SignedMillModel", "digit", "(II)I"⟩, 3)]
theorem lw_r2 : ∀ q ∈ lw_privs_2, lw_okq q := List.forall_mem_cons.mpr ⟨lw_p16, List.forall_mem_cons.mpr ⟨lw_p17, List.forall_mem_cons.mpr ⟨lw_p18, List.forall_mem_cons.mpr ⟨lw_p19, List.forall_mem_cons.mpr ⟨lw_p20, List.forall_mem_cons.mpr ⟨lw_p21, List.forall_mem_cons.mpr ⟨lw_p22, List.forall_mem_cons.mpr ⟨lw_p23, List.forall_mem_cons.mpr ⟨lw_p24, List.forall_mem_cons.mpr ⟨lw_p25, List.forall_mem_cons.mpr ⟨lw_p26, List.forall_mem_cons.mpr ⟨lw_p27, List.forall_mem_cons.mpr ⟨lw_p28, List.forall_mem_cons.mpr ⟨lw_p29, List.forall_mem_cons.mpr ⟨lw_p30, List.forall_mem_cons.mpr ⟨lw_p31, fun _ h => absurd h List.not_mem_nil⟩⟩⟩⟩⟩⟩⟩⟩⟩⟩⟩⟩⟩⟩⟩⟩
theorem lw_p32 : lw_okq (⟨"SignedMillModel", "lessen", "(III)V"⟩, 3) := ⟨⟨by decide +kernel, by decide +kernel⟩, List.mem_of_getElem? (i := 521) (by decide +kernel), List.mem_of_getElem? (i := 600) (by decide +kernel), List.mem_of_getElem? (i := 601) (by decide +kernel)⟩
theorem lw_p33 : lw_okq (⟨"SignedMillModel", "product", "(III)V"⟩, 3) := ⟨⟨by decide +kernel, by decide +kernel⟩, List.mem_of_getElem? (i := 521) (by decide +kernel), List.mem_of_getElem? (i := 612) (by decide +kernel), List.mem_of_getElem? (i := 613) (by decide +kernel)⟩
theorem lw_p34 : lw_okq (⟨"SignedMillModel", "quotient", "(IIII)V"⟩, 3) := ⟨⟨by decide +kernel, by decide +kernel⟩, List.mem_of_getElem? (i := 521) (by decide +kernel), List.mem_of_getElem? (i := 620) (by decide +kernel), List.mem_of_getElem? (i := 621) (by decide +kernel)⟩
theorem lw_p35 : lw_okq (⟨"SignedMillModel", "bitsOf", "(I)I"⟩, 3) := ⟨⟨by decide +kernel, by decide +kernel⟩, List.mem_of_getElem? (i := 521) (by decide +kernel), List.mem_of_getElem? (i := 624) (by decide +kernel), List.mem_of_getElem? (i := 625) (by decide +kernel)⟩
theorem lw_p36 : lw_okq (⟨"SignedMillModel", "lower", "(IIJ)V"⟩, 3) := ⟨⟨by decide +kernel, by decide +kernel⟩, List.mem_of_getElem? (i := 521) (by decide +kernel), List.mem_of_getElem? (i := 628) (by decide +kernel), List.mem_of_getElem? (i := 629) (by decide +kernel)⟩
theorem lw_p37 : lw_okq (⟨"SignedMillModel", "bitOf", "(II)I"⟩, 3) := ⟨⟨by decide +kernel, by decide +kernel⟩, List.mem_of_getElem? (i := 521) (by decide +kernel), List.mem_of_getElem? (i := 634) (by decide +kernel), List.mem_of_getElem? (i := 635) (by decide +kernel)⟩
theorem lw_p38 : lw_okq (⟨"SignedMillModel", "twice", "(II)V"⟩, 3) := ⟨⟨by decide +kernel, by decide +kernel⟩, List.mem_of_getElem? (i := 521) (by decide +kernel), List.mem_of_getElem? (i := 638) (by decide +kernel), List.mem_of_getElem? (i := 639) (by decide +kernel)⟩
theorem lw_p39 : lw_okq (⟨"SignedMillModel", "lowestDigit", "(I)I"⟩, 3) := ⟨⟨by decide +kernel, by decide +kernel⟩, List.mem_of_getElem? (i := 521) (by decide +kernel), List.mem_of_getElem? (i := 646) (by decide +kernel), List.mem_of_getElem? (i := 647) (by decide +kernel)⟩
theorem lw_p40 : lw_okq (⟨"SignedMillModel", "bitsDigit", "(III)I"⟩, 3) := ⟨⟨by decide +kernel, by decide +kernel⟩, List.mem_of_getElem? (i := 521) (by decide +kernel), List.mem_of_getElem? (i := 653) (by decide +kernel), List.mem_of_getElem? (i := 654) (by decide +kernel)⟩
theorem lw_p41 : lw_okq (⟨"SignedMillModel", "raise", "(III)V"⟩, 3) := ⟨⟨by decide +kernel, by decide +kernel⟩, List.mem_of_getElem? (i := 521) (by decide +kernel), List.mem_of_getElem? (i := 662) (by decide +kernel), List.mem_of_getElem? (i := 663) (by decide +kernel)⟩
theorem lw_p42 : lw_okq (⟨"SignedMillModel", "bitAt", "(II)I"⟩, 3) := ⟨⟨by decide +kernel, by decide +kernel⟩, List.mem_of_getElem? (i := 521) (by decide +kernel), List.mem_of_getElem? (i := 670) (by decide +kernel), List.mem_of_getElem? (i := 671) (by decide +kernel)⟩
theorem lw_p43 : lw_okq (⟨"SignedMillModel", "inverted", "(I)Z"⟩, 3) := ⟨⟨by decide +kernel, by decide +kernel⟩, List.mem_of_getElem? (i := 521) (by decide +kernel), List.mem_of_getElem? (i := 686) (by decide +kernel), List.mem_of_getElem? (i := 687) (by decide +kernel)⟩
theorem lw_p44 : lw_okq (⟨"SignedMillModel", "residue", "(II)V"⟩, 3) := ⟨⟨by decide +kernel, by decide +kernel⟩, List.mem_of_getElem? (i := 521) (by decide +kernel), List.mem_of_getElem? (i := 690) (by decide +kernel), List.mem_of_getElem? (i := 691) (by decide +kernel)⟩
theorem lw_p45 : lw_okq (⟨"SignedMillModel", "rest", "(III)V"⟩, 3) := ⟨⟨by decide +kernel, by decide +kernel⟩, List.mem_of_getElem? (i := 521) (by decide +kernel), List.mem_of_getElem? (i := 694) (by decide +kernel), List.mem_of_getElem? (i := 695) (by decide +kernel)⟩
theorem lw_p46 : lw_okq (⟨"SignedMillModel", "takeTimes", "(IIJ)V"⟩, 3) := ⟨⟨by decide +kernel, by decide +kernel⟩, List.mem_of_getElem? (i := 521) (by decide +kernel), List.mem_of_getElem? (i := 698) (by decide +kernel), List.mem_of_getElem? (i := 699) (by decide +kernel)⟩
def lw_privs_3 : List (MethodName × Nat) := [(⟨"SignedMillModel", "lessen", "(III)V"⟩, 3), (⟨"SignedMillModel", "product", "(III)V"⟩, 3), (⟨"SignedMillModel", "quotient", "(IIII)V"⟩, 3), (⟨"SignedMillModel", "bitsOf", "(I)I"⟩, 3), (⟨"SignedMillModel", "lower", "(IIJ)V"⟩, 3), (⟨"SignedMillModel", "bitOf", "(II)I"⟩, 3), (⟨"SignedMillModel", "twice", "(II)V"⟩, 3), (⟨"SignedMillModel", "lowestDigit", "(I)I"⟩, 3), (⟨"SignedMillModel", "bitsDigit", "(III)I"⟩, 3), (⟨"SignedMillModel", "raise", "(III)V"⟩, 3), (⟨"SignedMillModel", "bitAt", "(II)I"⟩, 3), (⟨"SignedMillModel", "inverted", "(I)Z"⟩, 3), (⟨"SignedMillModel", "residue", "(II)V"⟩, 3), (⟨"SignedMillModel", "rest", "(III)V"⟩, 3), (⟨"SignedMillModel", "takeTimes", "(IIJ)V"⟩, 3)]
theorem lw_r3 : ∀ q ∈ lw_privs_3, lw_okq q := List.forall_mem_cons.mpr ⟨lw_p32, List.forall_mem_cons.mpr ⟨lw_p33, List.forall_mem_cons.mpr ⟨lw_p34, List.forall_mem_cons.mpr ⟨lw_p35, List.forall_mem_cons.mpr ⟨lw_p36, List.forall_mem_cons.mpr ⟨lw_p37, List.forall_mem_cons.mpr ⟨lw_p38, List.forall_mem_cons.mpr ⟨lw_p39, List.forall_mem_cons.mpr ⟨lw_p40, List.forall_mem_cons.mpr ⟨lw_p41, List.forall_mem_cons.mpr ⟨lw_p42, List.forall_mem_cons.mpr ⟨lw_p43, List.forall_mem_cons.mpr ⟨lw_p44, List.forall_mem_cons.mpr ⟨lw_p45, List.forall_mem_cons.mpr ⟨lw_p46, fun _ h => absurd h List.not_mem_nil⟩⟩⟩⟩⟩⟩⟩⟩⟩⟩⟩⟩⟩⟩⟩
def lw_privs : List (MethodName × Nat) := lw_privs_1 ++ (lw_privs_2 ++ (lw_privs_3))
def lw_tbl : List Cond := k2_sels lw_privs ++ tables_1
theorem lw_privs_ok : ∀ q ∈ lw_privs, lw_okq q := by
  show ∀ q ∈ lw_privs_1 ++ (lw_privs_2 ++ (lw_privs_3)), lw_okq q
  exact List.forall_mem_append.mpr ⟨lw_r1, List.forall_mem_append.mpr ⟨lw_r2, lw_r3⟩⟩
-- ===== end of PART A; then your names; then what follows =====
theorem goodIn_r {big : List Cond} (ws : List Cond) (ps : List Nat) (hp : ws = ps.filterMap (fun i => big[i]?)) (h : ws.all goodWord = true) : GoodIn big ws := by
  intro w hw
  have h1 := List.all_eq_true.mp h w hw
  rw [hp] at hw
  obtain ⟨i, -, hi⟩ := List.mem_filterMap.mp hw
  have hm : w ∈ big := by first | exact List.mem_of_getElem? hi | exact List.getElem?_mem hi
  exact ⟨hm, good_of_word h1⟩
theorem goodIn_app {big a b : List Cond} (ha : GoodIn big a) (hb : GoodIn big b) : GoodIn big (a ++ b) := fun w h => (List.mem_append.mp h).elim (ha w) (hb w)
theorem goodIn_ca {big a b : List Cond} {c : Cond} (ha : GoodIn big (c :: a)) (hb : GoodIn big b) : GoodIn big (c :: (a ++ b)) := fun w h => (List.mem_cons.mp h).elim (fun e => ha w (List.mem_cons.mpr (Or.inl e))) (fun h => (List.mem_append.mp h).elim (fun h => ha w (List.mem_cons.mpr (Or.inr h))) (hb w))
theorem goodIn_sub {big ws : List Cond} (hm : ∀ w ∈ ws, w ∈ big) (h : ws.all goodWord = true) : GoodIn big ws := fun w hw => ⟨hm w hw, good_of_word (List.all_eq_true.mp h w hw)⟩
/-- the words that a callee may take over: all contracts of ours stand on this one list -/
def lw_gd : List Cond := lw_tbl.filter goodWord
theorem lw_good : GoodIn lw_gd lw_gd := fun _ h => ⟨h, good_of_word (List.mem_filter.mp h).2⟩
theorem lw_in {w : Cond} (h : w ∈ lw_tbl) (hg : goodWord w = true) : w ∈ lw_gd := List.mem_filter.mpr ⟨h, hg⟩
end
section
/-! A WALK OVER A MAP OF CELLS. vx_h: the tracked cells by their addresses; vx_AH: the heap holds them; vx_V: the walk of a body from a pc, whatever heap holds the map; vx_M: a method's contract over maps, whose end may speak of the cells and slots that were made. -/
abbrev vx_h : Type := Nat → Option va_E
def vx_up (h : vx_h) (a : Nat) (e : va_E) : vx_h := fun b => if b = a then some e else h b
theorem vx_up_s {h : vx_h} {a : Nat} {e : va_E} : vx_up h a e a = some e := by simp [vx_up]
theorem vx_up_n {h : vx_h} {a b : Nat} {e : va_E} (hb : b ≠ a) : vx_up h a e b = h b := by simp [vx_up, hb]
def vx_AH (D : va_G) (cl : List vw_C) (A : Nat → Prop) (h : vx_h) (H : Heap) : Prop := ∀ (a : Nat) (e : va_E), h a = some e → va_at D cl (a, e) H ∧ A a
theorem vx_rep (h : vx_h) (n : Nat) : ∃ ws : va_W, (∀ (k : Nat) (q : Nat × va_E), ws[k]? = some q → q.1 < n ∧ h q.1 = some q.2) ∧ (∀ (a : Nat) (e : va_E), a < n → h a = some e → ∃ k : Nat, ws[k]? = some (a, e)) ∧ (∀ (i j : Nat) (p q : Nat × va_E), ws[i]? = some p → ws[j]? = some q → p.1 = q.1 → i = j) := by
  induction n with
  | zero => exact ⟨[], fun k q hk => by simp at hk, fun a e ha => absurd ha (Nat.not_lt_zero a), fun i j p q hi => by simp at hi⟩
  | succ n ih =>
    obtain ⟨ws, h1, h2, h3⟩ := ih
    cases hn : h n with
    | none =>
      refine ⟨ws, fun k q hk => ⟨Nat.lt_succ_of_lt (h1 k q hk).1, (h1 k q hk).2⟩, fun a e ha he => ?_, h3⟩
      rcases Nat.lt_succ_iff_lt_or_eq.mp ha with q | q
      · exact h2 a e q he
      · rw [q, hn] at he; cases he
    | some x =>
      refine ⟨ws ++ [(n, x)], fun k q hk => ?_, fun a e ha he => ?_, fun i j p q hi hj hpq => ?_⟩
      · rcases Nat.lt_or_ge k ws.length with g | g
        · rw [List.getElem?_append_left g] at hk
          exact ⟨Nat.lt_succ_of_lt (h1 k q hk).1, (h1 k q hk).2⟩
        · rw [List.getElem?_append_right g] at hk
          have hq : q = (n, x) := by
            have := List.mem_of_getElem? hk
            simpa using this
          rw [hq]
          exact ⟨Nat.lt_succ_self n, hn⟩
      · rcases Nat.lt_succ_iff_lt_or_eq.mp ha with g | g
        · obtain ⟨k, hk⟩ := h2 a e g he
          exact ⟨k, by rw [List.getElem?_append_left (List.getElem?_eq_some_iff.mp hk).1]; exact hk⟩
        · subst g
          rw [hn] at he
          cases he
          exact ⟨ws.length, by simp⟩
      · have key : ∀ (i : Nat) (p : Nat × va_E), (ws ++ [(n, x)])[i]? = some p → (ws[i]? = some p ∧ p.1 < n) ∨ (i = ws.length ∧ p.1 = n) := by
          intro i p hi
          rcases Nat.lt_or_ge i ws.length with g | g
          · rw [List.getElem?_append_left g] at hi
            exact Or.inl ⟨hi, (h1 i p hi).1⟩
          · have hl := (List.getElem?_eq_some_iff.mp hi).1
            rw [List.getElem?_append_right g] at hi
            have hq : p = (n, x) := by
              have := List.mem_of_getElem? hi
              simpa using this
            simp at hl
            exact Or.inr ⟨by omega, by rw [hq]⟩
        rcases key i p hi with ⟨a1, a2⟩ | ⟨a1, a2⟩ <;> rcases key j q hj with ⟨b1, b2⟩ | ⟨b1, b2⟩
        · exact h3 i j p q a1 b1 hpq
        · omega
        · omega
        · omega
theorem vx_list {D : va_G} {cl : List vw_C} {A : Nat → Prop} {h : vx_h} {H : Heap} (hA : vx_AH D cl A h H) : ∃ ws : va_W, va_P D cl ws H ∧ va_D A ws ∧ (∀ (a : Nat) (e : va_E), h a = some e → ∃ k : Nat, ws[k]? = some (a, e)) := by
  obtain ⟨ws, h1, h2, h3⟩ := vx_rep h H.size
  refine ⟨ws, fun k q hk => (hA q.1 q.2 (h1 k q hk).2).1, ⟨h3, fun k q hk => (hA q.1 q.2 (h1 k q hk).2).2⟩, fun a e he => h2 a e ?_ he⟩
  exact (hA a e he).1.lt
theorem vx_set {D : va_G} {cl : List vw_C} {A : Nat → Prop} {h : vx_h} {H1 : Heap} {ws : va_W} {k a : Nat} {e e0 : va_E} (hk : ws[k]? = some (a, e0)) (cov : ∀ (b : Nat) (e : va_E), h b = some e → ∃ k : Nat, ws[k]? = some (b, e)) (hP : va_P D cl (ws.set k (a, e)) H1) (hD : va_D A (ws.set k (a, e))) : vx_AH D cl A (vx_up h a e) H1 := by
  intro b e' hb
  by_cases hba : b = a
  · subst hba
    rw [vx_up_s] at hb
    cases hb
    have hs : (ws.set k (b, e))[k]? = some (b, e) := List.getElem?_set_self (List.getElem?_eq_some_iff.mp hk).1
    exact ⟨hP k _ hs, hD.2 k _ hs⟩
  · rw [vx_up_n hba] at hb
    obtain ⟨j, hj⟩ := cov b e' hb
    have hjk : k ≠ j := by
      intro q
      subst q
      rw [hk] at hj
      cases hj
      exact hba rfl
    have hs : (ws.set k (a, e))[j]? = some (b, e') := by rw [List.getElem?_set_ne hjk]; exact hj
    exact ⟨hP j _ hs, hD.2 j _ hs⟩
theorem vx_push {D : va_G} {cl : List vw_C} {A : Nat → Prop} {h : vx_h} {H1 : Heap} {ws : va_W} {a : Nat} {e : va_E} (cov : ∀ (b : Nat) (e : va_E), h b = some e → ∃ k : Nat, ws[k]? = some (b, e)) (hP : va_P D cl (ws ++ [(a, e)]) H1) (hD : va_D A (ws ++ [(a, e)])) : vx_AH D cl A (vx_up h a e) H1 := by
  intro b e' hb
  by_cases hba : b = a
  · subst hba
    rw [vx_up_s] at hb
    cases hb
    have hs : (ws ++ [(b, e)])[ws.length]? = some (b, e) := by simp
    exact ⟨hP _ _ hs, hD.2 _ _ hs⟩
  · rw [vx_up_n hba] at hb
    obtain ⟨j, hj⟩ := cov b e' hb
    have hs : (ws ++ [(a, e)])[j]? = some (b, e') := by rw [List.getElem?_append_left (List.getElem?_eq_some_iff.mp hj).1]; exact hj
    exact ⟨hP j _ hs, hD.2 j _ hs⟩
/-- what the tables say of nest mates' constructors and of Whole[]: no word that a callee could take over, so it goes with the state -/
def vx_N (U : State) : Prop := (∀ (a : String) (i : Nat) (x : MethodName) (t : String), Cond.methodLinkNest a i x t ∈ lw_tbl → va_Nw (.methodLinkNest a i x t) U) ∧ va_AO "SignedMill$Whole" U
theorem vx_N.warm {s U : State} (hW : s.WarmedH U.vm) (h : vx_N s) : vx_N U := ⟨fun a i x t hm => va_Nw.warmM hW (h.1 a i x t hm), va_AO.moved hW.alike h.2⟩
theorem vx_N.same {u U : State} (e : u.vm = U.vm) (h : vx_N u) : vx_N U := ⟨fun a i x t hm => va_Nw.same rfl e (h.1 a i x t hm), va_AO.moved (by rw [e]; exact Vm.Alike.refl _) h.2⟩
abbrev vx_G : Type := Heap → List Loc → Nat → Nat → Nat → Array Slot → List Value → Prop
/-- G is the walk of a body (of the class own, bytes cc, nL locals, words Ts, room R; a constructor where ct) -/
def vx_I (l : Launch) (D : va_G) (cl : List vw_C) (tys : List (ClassId × FieldType)) (R : Room) (own : String) (cc : ByteArray) (nL : Nat) (Ts : List Cond) (ct : Bool) (A : Nat → Prop) (H0 : Heap) (G : vx_G) : Prop :=
  ∃ (p : Program) (e : Env) (s : State) (m : MethodId) (args : Array Value) (below : List Frame) (meth : Method) (c : Code) (Q : State → Prop),
    (G = fun H locs k n pc ls st => W p l e R s m args below meth c H locs k n Q (F0 m pc ls st)) ∧ p.tables.exec = Jvm.exec ∧ c.code = cc ∧ c.maxLocals = nL ∧ s.vm.findClass own = some m.cls ∧ (∀ w ∈ Ts, w.before args s = true) ∧ va_K D cl tys s ∧ vx_N s ∧ s.heap = H0 ∧ (∀ q : Nat, H0.size ≤ q → A q) ∧ (ct = true → meth.name = "<init>")
def vx_V (D : va_G) (cl : List vw_C) (A : Nat → Prop) (H0 : Heap) (nL : Nat) (G : vx_G) (h : vx_h) (k n pc : Nat) (lv : List (Nat × Value)) (st : List Value) : Prop :=
  ∀ (H : Heap) (locs : List Loc) (ls : Array Slot), vx_AH D cl A h H → va_S A H0 H locs → lv_has ls nL lv → G H locs k n pc ls st
/-- which cells a method may change: the tracked ones, and those that come -/
def vx_A (h : vx_h) (sz : Nat) : Nat → Prop := fun q => (∃ e, h q = some e) ∨ sz ≤ q
/-- how a body may end with v at pc -/
def vx_end (ret : Option FieldType) (cc : ByteArray) (pc : Nat) (v : Option Value) : Prop :=
  (ret = none ∧ v = none ∧ decode cc pc = .ok (.return_, 1)) ∨ (∃ (ty : FieldType) (x : Int32), ret = some ty ∧ narrow ty (.int x) = .int x ∧ v = some (.int x) ∧ decode cc pc = .ok (.ireturn, 1)) ∨
  (∃ x : Int64, ret = some .long ∧ v = some (.long x) ∧ decode cc pc = .ok (.lreturn, 1)) ∨ (∃ (ty : FieldType) (x : Nat), ret = some ty ∧ ((∃ n, ty = .object n) ∨ ∃ t, ty = .array t) ∧ v = some (.ref x) ∧ decode cc pc = .ok (.areturn, 1))
/-- what a body's end must show -/
def vx_R (D : va_G) (cl : List vw_C) (A : Nat → Prop) (H0 : Heap) (cc : ByteArray) (ret : Option FieldType) (post : Option Value → vx_h → Nat → Nat → Prop) (G : vx_G) : Prop :=
  ∀ (H : Heap) (locs : List Loc) (ls : Array Slot) (pc k n : Nat) (h : vx_h) (v : Option Value), vx_AH D cl A h H → va_S A H0 H locs → vx_end ret cc pc v → post v h k n → G H locs k n pc ls v.toList
def vx_Q (D : va_G) (cl : List vw_C) (h : vx_h) (post : Option Value → vx_h → Nat → Nat → Prop) : Array Value → State → Outcome → State → Prop := fun _ st o t =>
  ∃ (v : Option Value) (h' : vx_h) (L : List Loc) (k n : Nat), o = .returned v ∧ FrameEnd st o t L k n ∧ (∀ q ∈ L, vx_A h st.heap.size q.base) ∧ post v h' k n ∧ vx_AH D cl (vx_A h st.heap.size) h' t.heap ∧ va_F (vx_A h st.heap.size) st t
/-- A METHOD'S CONTRACT: from any state whose heap holds h, called with av, it returns some v, the heap then holds some h', k cells of n slots came, and post of these -/
def vx_M (l : Launch) (D : va_G) (cl : List vw_C) (tys : List (ClassId × FieldType)) (y : MethodName) (ws : List Cond) (rm : Room) (av : List Value) (h : vx_h) (post : Option Value → vx_h → Nat → Nat → Prop) : Prop :=
  MetFree l y (headSpec ws rm) (fun args U => args = av.toArray ∧ vx_AH D cl (fun _ => True) h U.heap ∧ va_K D cl tys U ∧ vx_N U) (fun _ _ _ _ _ => True) (vx_Q D cl h post)
theorem vx_M.ofV {l : Launch} {D : va_G} {cl : List vw_C} {tys : List (ClassId × FieldType)} {y : MethodName} {ws : List Cond} {rm : Room} {av : List Value} {h : vx_h} {post : Option Value → vx_h → Nat → Nat → Prop} {cc : ByteArray} {maxL : Nat} {ret : Option FieldType} {own : String} (ct : Bool) (ho : y.cls = own)
    (hy : plainName y.cls = true) (hw : Cond.code y cc maxL ret ∈ ws) (hct : ct = true → y.name = "<init>") (hsl : (lg_sl av).length ≤ maxL)
    (body : ∀ (A : Nat → Prop) (H0 : Heap) (G : vx_G), vx_I l D cl tys rm own cc maxL ws ct A H0 G → vx_R D cl A H0 cc ret post G → vx_V D cl A H0 maxL G h 0 0 0 (lv_args 0 av) []) : vx_M l D cl tys y ws rm av h post := by
  refine MetFree.of_bodyS (code := cc) (maxLocals := maxL) (ret := ret) hy ?_ ?_
  · intro args s m hh hn
    obtain ⟨meth, c, h1, h2, h3, h4, h5, h6, -, -⟩ := Cond.code_spec hn (atoms_spec (ws := ws) hh _ hw)
    exact ⟨meth, c, h1, h2, h3, h4, h5, h6⟩
  · intro p e s m args below meth c s₁ B hml hP _
    obtain ⟨rfl, hAH, hK, hN⟩ := hP
    have hh0 : s₁.heap = s.heap := by rw [B.state]; rfl
    have hA0 : vx_AH D cl (vx_A h s.heap.size) h s.heap := fun a e he => ⟨(hAH a e he).1, Or.inl ⟨e, he⟩⟩
    have hx := B.exec
    have hb := B.bytes
    have hr := B.returns
    have hlocks := B.notSynchronized
    have K := body (vx_A h s.heap.size) s.heap (fun H locs k n pc ls st => W p l e rm s m av.toArray below meth c H locs k n (fun t => ∃ o, t.status = .running ∧ Ended t below o ∧ vx_Q D cl h post av.toArray s o t) (F0 m pc ls st))
      ⟨p, e, s, m, av.toArray, below, meth, c, _, rfl, B.exec, B.bytes, hml, (by rw [← ho]; exact findClass_of_methodNamed B.named), atoms_spec (ws := ws) B.pre, hK, hN, rfl, fun q hq => Or.inr hq, fun q => (name_of_methodNamed B.named B.method).1.trans (hct q)⟩
      (by
        intro H locs ls pc k n h' v g1 g2 g3 g4
        have fin : ∀ t, MQ below (fun _ st o t => o = .returned v ∧ t.heap = H) av.toArray s k n (vx_A h s.heap.size) t → ∃ o, t.status = .running ∧ Ended t below o ∧ vx_Q D cl h post av.toArray s o t := by
          intro t ⟨o, f1, f2, ⟨f3, f4⟩, L, f5, f6⟩
          exact ⟨o, f1, f2, v, h', L, k, n, f3, f5, f6, g4, by rw [f4]; exact g1, g2.F f4⟩
        rcases g3 with ⟨e1, e2, e3⟩ | ⟨ty, x, e1, e2, e3, e4⟩ | ⟨x, e1, e2, e3⟩ | ⟨ty, x, e1, e2, e3, e4⟩
        · subst e2
          intro T hT X
          obtain ⟨t, a1, b1⟩ := W.vret (Qc := fun _ st o t => o = .returned none ∧ t.heap = H) (free := vx_A h s.heap.size) (locs := locs) (cells := k) (slots := n) (args := av.toArray) (H := H) (ls := ls) hx hb (hr.trans e1) (fun t ht _ => ⟨rfl, ht⟩) g2.2.2 e3 hlocks T hT X
          exact ⟨t, a1, fin t b1⟩
        · subst e3
          intro T hT X
          obtain ⟨t, a1, b1⟩ := W.zret (Qc := fun _ st o t => o = .returned (some (.int x)) ∧ t.heap = H) (free := vx_A h s.heap.size) (locs := locs) (cells := k) (slots := n) (args := av.toArray) (H := H) (ls := ls) hx hb (hr.trans e1) e2 (fun t ht _ => ⟨rfl, ht⟩) g2.2.2 e4 hlocks T hT X
          exact ⟨t, a1, fin t b1⟩
        · subst e2
          intro T hT X
          obtain ⟨t, a1, b1⟩ := W.lret (Qc := fun _ st o t => o = .returned (some (.long x)) ∧ t.heap = H) (free := vx_A h s.heap.size) (locs := locs) (cells := k) (slots := n) (args := av.toArray) (H := H) (ls := ls) hx hb (hr.trans e1) (fun t ht _ => ⟨rfl, ht⟩) g2.2.2 e3 hlocks T hT X
          exact ⟨t, a1, fin t b1⟩
        · subst e3
          intro T hT X
          obtain ⟨t, a1, b1⟩ := W.aret (Qc := fun _ st o t => o = .returned (some (.ref x)) ∧ t.heap = H) (free := vx_A h s.heap.size) (locs := locs) (cells := k) (slots := n) (args := av.toArray) (H := H) (ls := ls) hx hb (hr.trans e1) e2 (Or.inr ⟨x, rfl⟩) (fun t ht _ => ⟨rfl, ht⟩) g2.2.2 e4 hlocks T hT X
          exact ⟨t, a1, fin t b1⟩)
    have hl := lv_entry av (n := maxL) hsl
    have K1 := K s.heap [] _ hA0 va_S.rf hl
    obtain ⟨t, a1, o, b1, b2, b3⟩ := K1 s₁ hh0 (Stand.of_body B)
    refine ⟨t, o, ?_, b1, b2, b3⟩
    rw [lg_entry_eq]
    exact a1
end
section
/-! the walk's rows, an instruction a row (written by wip/whole/draft/mkrows.py) -/
section
variable {l : Launch} {D : va_G} {cl : List vw_C} {tys : List (ClassId × FieldType)} {R : Room} {own : String} {cc : ByteArray} {nL : Nat} {Ts : List Cond} {ct : Bool} {A : Nat → Prop} {H0 : Heap} {G : vx_G} {h : vx_h} {k n pc : Nat} {lv : List (Nat × Value)} {st : List Value}
theorem vx_iconst (IG : vx_I l D cl tys R own cc nL Ts ct A H0 G) {c : Int} {v : Int32} (hd : decode cc pc = .ok (.iconst c, 1)) (hv : Int32.ofInt c = v) (K : vx_V D cl A H0 nL G h k n (pc + 1) lv (.int v :: st)) : vx_V D cl A H0 nL G h k n pc lv (st) := by
  obtain ⟨p, e, s, m, args, below, meth, c, Q, rfl, hx, hb, -⟩ := IG
  intro H locs ls g1 g2 g3
  exact lv_iconst hx hb hd hv (K H locs ls g1 g2 g3)
theorem vx_bipush (IG : vx_I l D cl tys R own cc nL Ts ct A H0 G) {c : Int} {v : Int32} (hd : decode cc pc = .ok (.bipush c, 2)) (hv : (Int8.ofInt c).toInt32 = v) (K : vx_V D cl A H0 nL G h k n (pc + 2) lv (.int v :: st)) : vx_V D cl A H0 nL G h k n pc lv (st) := by
  obtain ⟨p, e, s, m, args, below, meth, c, Q, rfl, hx, hb, -⟩ := IG
  intro H locs ls g1 g2 g3
  exact lv_bipush hx hb hd hv (K H locs ls g1 g2 g3)
theorem vx_sipush (IG : vx_I l D cl tys R own cc nL Ts ct A H0 G) {c : Int} {v : Int32} (hd : decode cc pc = .ok (.sipush c, 3)) (hv : (Int16.ofInt c).toInt32 = v) (K : vx_V D cl A H0 nL G h k n (pc + 3) lv (.int v :: st)) : vx_V D cl A H0 nL G h k n pc lv (st) := by
  obtain ⟨p, e, s, m, args, below, meth, c, Q, rfl, hx, hb, -⟩ := IG
  intro H locs ls g1 g2 g3
  exact lv_sipush hx hb hd hv (K H locs ls g1 g2 g3)
theorem vx_lconst (IG : vx_I l D cl tys R own cc nL Ts ct A H0 G) {c : Fin 2} {v : Int64} (hd : decode cc pc = .ok (.lconst c, 1)) (hv : Int64.ofNat (c : Nat) = v) (K : vx_V D cl A H0 nL G h k n (pc + 1) lv (.long v :: st)) : vx_V D cl A H0 nL G h k n pc lv (st) := by
  obtain ⟨p, e, s, m, args, below, meth, c, Q, rfl, hx, hb, -⟩ := IG
  intro H locs ls g1 g2 g3
  exact lv_lconst hx hb hd hv (K H locs ls g1 g2 g3)
theorem vx_null (IG : vx_I l D cl tys R own cc nL Ts ct A H0 G)  (hd : decode cc pc = .ok (.aconst_null, 1)) (K : vx_V D cl A H0 nL G h k n (pc + 1) lv (.null :: st)) : vx_V D cl A H0 nL G h k n pc lv (st) := by
  obtain ⟨p, e, s, m, args, below, meth, c, Q, rfl, hx, hb, -⟩ := IG
  intro H locs ls g1 g2 g3
  exact lv_null hx hb hd (K H locs ls g1 g2 g3)
theorem vx_iadd (IG : vx_I l D cl tys R own cc nL Ts ct A H0 G) {x y : Int32} (hd : decode cc pc = .ok (.iadd, 1)) (K : vx_V D cl A H0 nL G h k n (pc + 1) lv (.int (x + y) :: st)) : vx_V D cl A H0 nL G h k n pc lv (.int y :: .int x :: st) := by
  obtain ⟨p, e, s, m, args, below, meth, c, Q, rfl, hx, hb, -⟩ := IG
  intro H locs ls g1 g2 g3
  exact lv_iadd hx hb hd (K H locs ls g1 g2 g3)
theorem vx_isub (IG : vx_I l D cl tys R own cc nL Ts ct A H0 G) {x y : Int32} (hd : decode cc pc = .ok (.isub, 1)) (K : vx_V D cl A H0 nL G h k n (pc + 1) lv (.int (x - y) :: st)) : vx_V D cl A H0 nL G h k n pc lv (.int y :: .int x :: st) := by
  obtain ⟨p, e, s, m, args, below, meth, c, Q, rfl, hx, hb, -⟩ := IG
  intro H locs ls g1 g2 g3
  exact lv_isub hx hb hd (K H locs ls g1 g2 g3)
theorem vx_imul (IG : vx_I l D cl tys R own cc nL Ts ct A H0 G) {x y : Int32} (hd : decode cc pc = .ok (.imul, 1)) (K : vx_V D cl A H0 nL G h k n (pc + 1) lv (.int (x * y) :: st)) : vx_V D cl A H0 nL G h k n pc lv (.int y :: .int x :: st) := by
  obtain ⟨p, e, s, m, args, below, meth, c, Q, rfl, hx, hb, -⟩ := IG
  intro H locs ls g1 g2 g3
  exact lv_imul hx hb hd (K H locs ls g1 g2 g3)
theorem vx_iand (IG : vx_I l D cl tys R own cc nL Ts ct A H0 G) {x y : Int32} (hd : decode cc pc = .ok (.iand, 1)) (K : vx_V D cl A H0 nL G h k n (pc + 1) lv (.int (x &&& y) :: st)) : vx_V D cl A H0 nL G h k n pc lv (.int y :: .int x :: st) := by
  obtain ⟨p, e, s, m, args, below, meth, c, Q, rfl, hx, hb, -⟩ := IG
  intro H locs ls g1 g2 g3
  exact lv_iand hx hb hd (K H locs ls g1 g2 g3)
theorem vx_ior (IG : vx_I l D cl tys R own cc nL Ts ct A H0 G) {x y : Int32} (hd : decode cc pc = .ok (.ior, 1)) (K : vx_V D cl A H0 nL G h k n (pc + 1) lv (.int (x ||| y) :: st)) : vx_V D cl A H0 nL G h k n pc lv (.int y :: .int x :: st) := by
  obtain ⟨p, e, s, m, args, below, meth, c, Q, rfl, hx, hb, -⟩ := IG
  intro H locs ls g1 g2 g3
  exact lv_ior hx hb hd (K H locs ls g1 g2 g3)
theorem vx_ixor (IG : vx_I l D cl tys R own cc nL Ts ct A H0 G) {x y : Int32} (hd : decode cc pc = .ok (.ixor, 1)) (K : vx_V D cl A H0 nL G h k n (pc + 1) lv (.int (x ^^^ y) :: st)) : vx_V D cl A H0 nL G h k n pc lv (.int y :: .int x :: st) := by
  obtain ⟨p, e, s, m, args, below, meth, c, Q, rfl, hx, hb, -⟩ := IG
  intro H locs ls g1 g2 g3
  exact lv_ixor hx hb hd (K H locs ls g1 g2 g3)
theorem vx_ladd (IG : vx_I l D cl tys R own cc nL Ts ct A H0 G) {x y : Int64} (hd : decode cc pc = .ok (.ladd, 1)) (K : vx_V D cl A H0 nL G h k n (pc + 1) lv (.long (x + y) :: st)) : vx_V D cl A H0 nL G h k n pc lv (.long y :: .long x :: st) := by
  obtain ⟨p, e, s, m, args, below, meth, c, Q, rfl, hx, hb, -⟩ := IG
  intro H locs ls g1 g2 g3
  exact lv_ladd hx hb hd (K H locs ls g1 g2 g3)
theorem vx_lsub (IG : vx_I l D cl tys R own cc nL Ts ct A H0 G) {x y : Int64} (hd : decode cc pc = .ok (.lsub, 1)) (K : vx_V D cl A H0 nL G h k n (pc + 1) lv (.long (x - y) :: st)) : vx_V D cl A H0 nL G h k n pc lv (.long y :: .long x :: st) := by
  obtain ⟨p, e, s, m, args, below, meth, c, Q, rfl, hx, hb, -⟩ := IG
  intro H locs ls g1 g2 g3
  exact lv_lsub hx hb hd (K H locs ls g1 g2 g3)
theorem vx_lmul (IG : vx_I l D cl tys R own cc nL Ts ct A H0 G) {x y : Int64} (hd : decode cc pc = .ok (.lmul, 1)) (K : vx_V D cl A H0 nL G h k n (pc + 1) lv (.long (x * y) :: st)) : vx_V D cl A H0 nL G h k n pc lv (.long y :: .long x :: st) := by
  obtain ⟨p, e, s, m, args, below, meth, c, Q, rfl, hx, hb, -⟩ := IG
  intro H locs ls g1 g2 g3
  exact lv_lmul hx hb hd (K H locs ls g1 g2 g3)
theorem vx_land (IG : vx_I l D cl tys R own cc nL Ts ct A H0 G) {x y : Int64} (hd : decode cc pc = .ok (.land, 1)) (K : vx_V D cl A H0 nL G h k n (pc + 1) lv (.long (x &&& y) :: st)) : vx_V D cl A H0 nL G h k n pc lv (.long y :: .long x :: st) := by
  obtain ⟨p, e, s, m, args, below, meth, c, Q, rfl, hx, hb, -⟩ := IG
  intro H locs ls g1 g2 g3
  exact lv_land hx hb hd (K H locs ls g1 g2 g3)
theorem vx_lor (IG : vx_I l D cl tys R own cc nL Ts ct A H0 G) {x y : Int64} (hd : decode cc pc = .ok (.lor, 1)) (K : vx_V D cl A H0 nL G h k n (pc + 1) lv (.long (x ||| y) :: st)) : vx_V D cl A H0 nL G h k n pc lv (.long y :: .long x :: st) := by
  obtain ⟨p, e, s, m, args, below, meth, c, Q, rfl, hx, hb, -⟩ := IG
  intro H locs ls g1 g2 g3
  exact lv_lor hx hb hd (K H locs ls g1 g2 g3)
theorem vx_lxor (IG : vx_I l D cl tys R own cc nL Ts ct A H0 G) {x y : Int64} (hd : decode cc pc = .ok (.lxor, 1)) (K : vx_V D cl A H0 nL G h k n (pc + 1) lv (.long (x ^^^ y) :: st)) : vx_V D cl A H0 nL G h k n pc lv (.long y :: .long x :: st) := by
  obtain ⟨p, e, s, m, args, below, meth, c, Q, rfl, hx, hb, -⟩ := IG
  intro H locs ls g1 g2 g3
  exact lv_lxor hx hb hd (K H locs ls g1 g2 g3)
theorem vx_idiv (IG : vx_I l D cl tys R own cc nL Ts ct A H0 G) {x y : Int32} (hd : decode cc pc = .ok (.idiv, 1)) (hne : ¬ y = 0) (K : vx_V D cl A H0 nL G h k n (pc + 1) lv (.int (x / y) :: st)) : vx_V D cl A H0 nL G h k n pc lv (.int y :: .int x :: st) := by
  obtain ⟨p, e, s, m, args, below, meth, c, Q, rfl, hx, hb, -⟩ := IG
  intro H locs ls g1 g2 g3
  exact lv_idiv hx hb hd hne (K H locs ls g1 g2 g3)
theorem vx_ldiv (IG : vx_I l D cl tys R own cc nL Ts ct A H0 G) {x y : Int64} (hd : decode cc pc = .ok (.ldiv, 1)) (hne : ¬ y = 0) (K : vx_V D cl A H0 nL G h k n (pc + 1) lv (.long (x / y) :: st)) : vx_V D cl A H0 nL G h k n pc lv (.long y :: .long x :: st) := by
  obtain ⟨p, e, s, m, args, below, meth, c, Q, rfl, hx, hb, -⟩ := IG
  intro H locs ls g1 g2 g3
  exact lv_ldiv hx hb hd hne (K H locs ls g1 g2 g3)
theorem vx_irem (IG : vx_I l D cl tys R own cc nL Ts ct A H0 G) {x y : Int32} (hd : decode cc pc = .ok (.irem, 1)) (hne : ¬ y = 0) (K : vx_V D cl A H0 nL G h k n (pc + 1) lv (.int (x - x / y * y) :: st)) : vx_V D cl A H0 nL G h k n pc lv (.int y :: .int x :: st) := by
  obtain ⟨p, e, s, m, args, below, meth, c, Q, rfl, hx, hb, -⟩ := IG
  intro H locs ls g1 g2 g3
  exact lv_irem hx hb hd hne (K H locs ls g1 g2 g3)
theorem vx_lrem (IG : vx_I l D cl tys R own cc nL Ts ct A H0 G) {x y : Int64} (hd : decode cc pc = .ok (.lrem, 1)) (hne : ¬ y = 0) (K : vx_V D cl A H0 nL G h k n (pc + 1) lv (.long (x - x / y * y) :: st)) : vx_V D cl A H0 nL G h k n pc lv (.long y :: .long x :: st) := by
  obtain ⟨p, e, s, m, args, below, meth, c, Q, rfl, hx, hb, -⟩ := IG
  intro H locs ls g1 g2 g3
  exact lv_lrem hx hb hd hne (K H locs ls g1 g2 g3)
theorem vx_ineg (IG : vx_I l D cl tys R own cc nL Ts ct A H0 G) {x : Int32} (hd : decode cc pc = .ok (.ineg, 1)) (K : vx_V D cl A H0 nL G h k n (pc + 1) lv (.int (-x) :: st)) : vx_V D cl A H0 nL G h k n pc lv (.int x :: st) := by
  obtain ⟨p, e, s, m, args, below, meth, c, Q, rfl, hx, hb, -⟩ := IG
  intro H locs ls g1 g2 g3
  exact lv_ineg hx hb hd (K H locs ls g1 g2 g3)
theorem vx_lneg (IG : vx_I l D cl tys R own cc nL Ts ct A H0 G) {x : Int64} (hd : decode cc pc = .ok (.lneg, 1)) (K : vx_V D cl A H0 nL G h k n (pc + 1) lv (.long (-x) :: st)) : vx_V D cl A H0 nL G h k n pc lv (.long x :: st) := by
  obtain ⟨p, e, s, m, args, below, meth, c, Q, rfl, hx, hb, -⟩ := IG
  intro H locs ls g1 g2 g3
  exact lv_lneg hx hb hd (K H locs ls g1 g2 g3)
theorem vx_ishl (IG : vx_I l D cl tys R own cc nL Ts ct A H0 G) {x y : Int32} (hd : decode cc pc = .ok (.ishl, 1)) (K : vx_V D cl A H0 nL G h k n (pc + 1) lv (.int (x <<< (y &&& 31)) :: st)) : vx_V D cl A H0 nL G h k n pc lv (.int y :: .int x :: st) := by
  obtain ⟨p, e, s, m, args, below, meth, c, Q, rfl, hx, hb, -⟩ := IG
  intro H locs ls g1 g2 g3
  exact lv_ishl hx hb hd (K H locs ls g1 g2 g3)
theorem vx_ishr (IG : vx_I l D cl tys R own cc nL Ts ct A H0 G) {x y : Int32} (hd : decode cc pc = .ok (.ishr, 1)) (K : vx_V D cl A H0 nL G h k n (pc + 1) lv (.int (x >>> (y &&& 31)) :: st)) : vx_V D cl A H0 nL G h k n pc lv (.int y :: .int x :: st) := by
  obtain ⟨p, e, s, m, args, below, meth, c, Q, rfl, hx, hb, -⟩ := IG
  intro H locs ls g1 g2 g3
  exact lv_ishr hx hb hd (K H locs ls g1 g2 g3)
theorem vx_i2l (IG : vx_I l D cl tys R own cc nL Ts ct A H0 G) {x : Int32} {v : Int64} (hd : decode cc pc = .ok (.i2l, 1)) (hv : x.toInt64 = v) (K : vx_V D cl A H0 nL G h k n (pc + 1) lv (.long v :: st)) : vx_V D cl A H0 nL G h k n pc lv (.int x :: st) := by
  obtain ⟨p, e, s, m, args, below, meth, c, Q, rfl, hx, hb, -⟩ := IG
  intro H locs ls g1 g2 g3
  exact lv_i2l hx hb hd hv (K H locs ls g1 g2 g3)
theorem vx_l2i (IG : vx_I l D cl tys R own cc nL Ts ct A H0 G) {x : Int64} {v : Int32} (hd : decode cc pc = .ok (.l2i, 1)) (hv : x.toInt32 = v) (K : vx_V D cl A H0 nL G h k n (pc + 1) lv (.int v :: st)) : vx_V D cl A H0 nL G h k n pc lv (.long x :: st) := by
  obtain ⟨p, e, s, m, args, below, meth, c, Q, rfl, hx, hb, -⟩ := IG
  intro H locs ls g1 g2 g3
  exact lv_l2i hx hb hd hv (K H locs ls g1 g2 g3)
theorem vx_i2b (IG : vx_I l D cl tys R own cc nL Ts ct A H0 G) {x v : Int32} (hd : decode cc pc = .ok (.i2b, 1)) (hv : x.toInt8.toInt32 = v) (K : vx_V D cl A H0 nL G h k n (pc + 1) lv (.int v :: st)) : vx_V D cl A H0 nL G h k n pc lv (.int x :: st) := by
  obtain ⟨p, e, s, m, args, below, meth, c, Q, rfl, hx, hb, -⟩ := IG
  intro H locs ls g1 g2 g3
  exact lv_i2b hx hb hd hv (K H locs ls g1 g2 g3)
theorem vx_iushr (IG : vx_I l D cl tys R own cc nL Ts ct A H0 G) {x y v : Int32} (hd : decode cc pc = .ok (.iushr, 1)) (hv : (x.toUInt32 >>> (y.toUInt32 &&& Int32.toUInt32 31)).toInt32 = v) (K : vx_V D cl A H0 nL G h k n (pc + 1) lv (.int v :: st)) : vx_V D cl A H0 nL G h k n pc lv (.int y :: .int x :: st) := by
  obtain ⟨p, e, s, m, args, below, meth, c, Q, rfl, hx, hb, -⟩ := IG
  intro H locs ls g1 g2 g3
  exact lv_iushr hx hb hd hv (K H locs ls g1 g2 g3)
theorem vx_lushr (IG : vx_I l D cl tys R own cc nL Ts ct A H0 G) {x v : Int64} {y : Int32} (hd : decode cc pc = .ok (.lushr, 1)) (hv : (x.toUInt64 >>> (y.toInt64.toUInt64 &&& Int64.toUInt64 63)).toInt64 = v) (K : vx_V D cl A H0 nL G h k n (pc + 1) lv (.long v :: st)) : vx_V D cl A H0 nL G h k n pc lv (.int y :: .long x :: st) := by
  obtain ⟨p, e, s, m, args, below, meth, c, Q, rfl, hx, hb, -⟩ := IG
  intro H locs ls g1 g2 g3
  exact lv_lushr hx hb hd hv (K H locs ls g1 g2 g3)
theorem vx_lshl (IG : vx_I l D cl tys R own cc nL Ts ct A H0 G) {x v : Int64} {y : Int32} (hd : decode cc pc = .ok (.lshl, 1)) (hv : x <<< (y.toInt64 &&& 63) = v) (K : vx_V D cl A H0 nL G h k n (pc + 1) lv (.long v :: st)) : vx_V D cl A H0 nL G h k n pc lv (.int y :: .long x :: st) := by
  obtain ⟨p, e, s, m, args, below, meth, c, Q, rfl, hx, hb, -⟩ := IG
  intro H locs ls g1 g2 g3
  exact lv_lshl hx hb hd hv (K H locs ls g1 g2 g3)
theorem vx_lshr (IG : vx_I l D cl tys R own cc nL Ts ct A H0 G) {x v : Int64} {y : Int32} (hd : decode cc pc = .ok (.lshr, 1)) (hv : x >>> (y.toInt64 &&& 63) = v) (K : vx_V D cl A H0 nL G h k n (pc + 1) lv (.long v :: st)) : vx_V D cl A H0 nL G h k n pc lv (.int y :: .long x :: st) := by
  obtain ⟨p, e, s, m, args, below, meth, c, Q, rfl, hx, hb, -⟩ := IG
  intro H locs ls g1 g2 g3
  exact lv_lshr hx hb hd hv (K H locs ls g1 g2 g3)
theorem vx_lcmp (IG : vx_I l D cl tys R own cc nL Ts ct A H0 G) {x y : Int64} (hd : decode cc pc = .ok (.lcmp, 1)) (K : vx_V D cl A H0 nL G h k n (pc + 1) lv (.int (lg_cmp x y) :: st)) : vx_V D cl A H0 nL G h k n pc lv (.long y :: .long x :: st) := by
  obtain ⟨p, e, s, m, args, below, meth, c, Q, rfl, hx, hb, -⟩ := IG
  intro H locs ls g1 g2 g3
  exact W.lcmp hx hb hd (K H locs ls g1 g2 g3)
theorem vx_dup (IG : vx_I l D cl tys R own cc nL Ts ct A H0 G) {va : Value} (hd : decode cc pc = .ok (.dup, 1)) (hva : va.category = 1) (K : vx_V D cl A H0 nL G h k n (pc + 1) lv (va :: va :: st)) : vx_V D cl A H0 nL G h k n pc lv (va :: st) := by
  obtain ⟨p, e, s, m, args, below, meth, c, Q, rfl, hx, hb, -⟩ := IG
  intro H locs ls g1 g2 g3
  exact lv_dup hx hb hd hva (K H locs ls g1 g2 g3)
theorem vx_pop (IG : vx_I l D cl tys R own cc nL Ts ct A H0 G) {va : Value} (hd : decode cc pc = .ok (.pop, 1)) (hva : va.category = 1) (K : vx_V D cl A H0 nL G h k n (pc + 1) lv (st)) : vx_V D cl A H0 nL G h k n pc lv (va :: st) := by
  obtain ⟨p, e, s, m, args, below, meth, c, Q, rfl, hx, hb, -⟩ := IG
  intro H locs ls g1 g2 g3
  exact lv_pop hx hb hd hva (K H locs ls g1 g2 g3)
theorem vx_dup_x1 (IG : vx_I l D cl tys R own cc nL Ts ct A H0 G) {va vb : Value} (hd : decode cc pc = .ok (.dup_x1, 1)) (hva : va.category = 1) (hvb : vb.category = 1) (K : vx_V D cl A H0 nL G h k n (pc + 1) lv (va :: vb :: va :: st)) : vx_V D cl A H0 nL G h k n pc lv (va :: vb :: st) := by
  obtain ⟨p, e, s, m, args, below, meth, c, Q, rfl, hx, hb, -⟩ := IG
  intro H locs ls g1 g2 g3
  exact lv_dup_x1 hx hb hd hva hvb (K H locs ls g1 g2 g3)
theorem vx_dup_x2 (IG : vx_I l D cl tys R own cc nL Ts ct A H0 G) {va vb vd : Value} (hd : decode cc pc = .ok (.dup_x2, 1)) (hva : va.category = 1) (hvb : vb.category = 1) (hvd : vd.category = 1) (K : vx_V D cl A H0 nL G h k n (pc + 1) lv (va :: vb :: vd :: va :: st)) : vx_V D cl A H0 nL G h k n pc lv (va :: vb :: vd :: st) := by
  obtain ⟨p, e, s, m, args, below, meth, c, Q, rfl, hx, hb, -⟩ := IG
  intro H locs ls g1 g2 g3
  exact lv_dup_x2 hx hb hd hva hvb hvd (K H locs ls g1 g2 g3)
theorem vx_dup2 (IG : vx_I l D cl tys R own cc nL Ts ct A H0 G) {va vb : Value} (hd : decode cc pc = .ok (.dup2, 1)) (hva : va.category = 1) (hvb : vb.category = 1) (K : vx_V D cl A H0 nL G h k n (pc + 1) lv (va :: vb :: va :: vb :: st)) : vx_V D cl A H0 nL G h k n pc lv (va :: vb :: st) := by
  obtain ⟨p, e, s, m, args, below, meth, c, Q, rfl, hx, hb, -⟩ := IG
  intro H locs ls g1 g2 g3
  exact lv_dup2_11 hx hb hd hva hvb (K H locs ls g1 g2 g3)
theorem vx_dup2_2 (IG : vx_I l D cl tys R own cc nL Ts ct A H0 G) {va : Value} (hd : decode cc pc = .ok (.dup2, 1)) (hva : va.category = 2) (K : vx_V D cl A H0 nL G h k n (pc + 1) lv (va :: va :: st)) : vx_V D cl A H0 nL G h k n pc lv (va :: st) := by
  obtain ⟨p, e, s, m, args, below, meth, c, Q, rfl, hx, hb, -⟩ := IG
  intro H locs ls g1 g2 g3
  exact lv_dup2_2 hx hb hd hva (K H locs ls g1 g2 g3)
theorem vx_pop2_2 (IG : vx_I l D cl tys R own cc nL Ts ct A H0 G) {va : Value} (hd : decode cc pc = .ok (.pop2, 1)) (hva : va.category = 2) (K : vx_V D cl A H0 nL G h k n (pc + 1) lv (st)) : vx_V D cl A H0 nL G h k n pc lv (va :: st) := by
  obtain ⟨p, e, s, m, args, below, meth, c, Q, rfl, hx, hb, -⟩ := IG
  intro H locs ls g1 g2 g3
  exact lv_pop2_2 hx hb hd hva (K H locs ls g1 g2 g3)
theorem vx_dup2_x1_2 (IG : vx_I l D cl tys R own cc nL Ts ct A H0 G) {va vb : Value} (hd : decode cc pc = .ok (.dup2_x1, 1)) (hva : va.category = 2) (hvb : vb.category = 1) (K : vx_V D cl A H0 nL G h k n (pc + 1) lv (va :: vb :: va :: st)) : vx_V D cl A H0 nL G h k n pc lv (va :: vb :: st) := by
  obtain ⟨p, e, s, m, args, below, meth, c, Q, rfl, hx, hb, -⟩ := IG
  intro H locs ls g1 g2 g3
  exact lv_dup2_x1_2 hx hb hd hva hvb (K H locs ls g1 g2 g3)
theorem vx_dup2_x2_2 (IG : vx_I l D cl tys R own cc nL Ts ct A H0 G) {va vb vd : Value} (hd : decode cc pc = .ok (.dup2_x2, 1)) (hva : va.category = 2) (hvb : vb.category = 1) (hvd : vd.category = 1) (K : vx_V D cl A H0 nL G h k n (pc + 1) lv (va :: vb :: vd :: va :: st)) : vx_V D cl A H0 nL G h k n pc lv (va :: vb :: vd :: st) := by
  obtain ⟨p, e, s, m, args, below, meth, c, Q, rfl, hx, hb, -⟩ := IG
  intro H locs ls g1 g2 g3
  exact lv_dup2_x2_2 hx hb hd hva hvb hvd (K H locs ls g1 g2 g3)
theorem vx_iload_n (IG : vx_I l D cl tys R own cc nL Ts ct A H0 G) {j : Fin 4} {i : Nat} {x : Int32} (hd : decode cc pc = .ok (.iload_n j, 1)) (hi : (j : Nat) = i) (q : Nat) (hq : lv[q]? = some (i, .int x)) (K : vx_V D cl A H0 nL G h k n (pc + 1) lv (.int x :: st)) : vx_V D cl A H0 nL G h k n pc lv (st) := by
  obtain ⟨p, e, s, m, args, below, meth, c, Q, rfl, hx, hb, -⟩ := IG
  intro H locs ls g1 g2 g3
  exact lv_iload_n hx hb hd hi (lv_at g3 q hq) (K H locs ls g1 g2 g3)
theorem vx_iload (IG : vx_I l D cl tys R own cc nL Ts ct A H0 G) {i : Nat} {x : Int32} (hd : decode cc pc = .ok (.iload i, 2)) (q : Nat) (hq : lv[q]? = some (i, .int x)) (K : vx_V D cl A H0 nL G h k n (pc + 2) lv (.int x :: st)) : vx_V D cl A H0 nL G h k n pc lv (st) := by
  obtain ⟨p, e, s, m, args, below, meth, c, Q, rfl, hx, hb, -⟩ := IG
  intro H locs ls g1 g2 g3
  exact lv_iload hx hb hd (lv_at g3 q hq) (K H locs ls g1 g2 g3)
theorem vx_istore_n (IG : vx_I l D cl tys R own cc nL Ts ct A H0 G) {j : Fin 4} {i : Nat} {x : Int32} {lv' : List (Nat × Value)} (hd : decode cc pc = .ok (.istore_n j, 1)) (hi : (j : Nat) = i) (hn : i < nL) (hl : (i, Value.int x) :: lv.filter (fun q => !(q.1 == i) && !(q.1 + 1 == i && q.2.category == 2)) = lv') (K : vx_V D cl A H0 nL G h k n (pc + 1) lv' st) : vx_V D cl A H0 nL G h k n pc lv (.int x :: st) := by
  obtain ⟨p, e, s, m, args, below, meth, c, Q, rfl, hx, hb, -⟩ := IG
  intro H locs ls g1 g2 g3
  exact lv_istore_n hx hb hd hi g3 hn hl (fun ls' g3' => K H locs ls' g1 g2 g3')
theorem vx_istore (IG : vx_I l D cl tys R own cc nL Ts ct A H0 G) {i : Nat} {x : Int32} {lv' : List (Nat × Value)} (hd : decode cc pc = .ok (.istore i, 2)) (hn : i < nL) (hl : (i, Value.int x) :: lv.filter (fun q => !(q.1 == i) && !(q.1 + 1 == i && q.2.category == 2)) = lv') (K : vx_V D cl A H0 nL G h k n (pc + 2) lv' st) : vx_V D cl A H0 nL G h k n pc lv (.int x :: st) := by
  obtain ⟨p, e, s, m, args, below, meth, c, Q, rfl, hx, hb, -⟩ := IG
  intro H locs ls g1 g2 g3
  exact lv_istore hx hb hd g3 hn hl (fun ls' g3' => K H locs ls' g1 g2 g3')
theorem vx_lload_n (IG : vx_I l D cl tys R own cc nL Ts ct A H0 G) {j : Fin 4} {i : Nat} {x : Int64} (hd : decode cc pc = .ok (.lload_n j, 1)) (hi : (j : Nat) = i) (q : Nat) (hq : lv[q]? = some (i, .long x)) (K : vx_V D cl A H0 nL G h k n (pc + 1) lv (.long x :: st)) : vx_V D cl A H0 nL G h k n pc lv (st) := by
  obtain ⟨p, e, s, m, args, below, meth, c, Q, rfl, hx, hb, -⟩ := IG
  intro H locs ls g1 g2 g3
  exact lv_lload_n hx hb hd hi (lv_at g3 q hq) (K H locs ls g1 g2 g3)
theorem vx_lload (IG : vx_I l D cl tys R own cc nL Ts ct A H0 G) {i : Nat} {x : Int64} (hd : decode cc pc = .ok (.lload i, 2)) (q : Nat) (hq : lv[q]? = some (i, .long x)) (K : vx_V D cl A H0 nL G h k n (pc + 2) lv (.long x :: st)) : vx_V D cl A H0 nL G h k n pc lv (st) := by
  obtain ⟨p, e, s, m, args, below, meth, c, Q, rfl, hx, hb, -⟩ := IG
  intro H locs ls g1 g2 g3
  exact lv_lload hx hb hd (lv_at g3 q hq) (K H locs ls g1 g2 g3)
theorem vx_lstore_n (IG : vx_I l D cl tys R own cc nL Ts ct A H0 G) {j : Fin 4} {i : Nat} {x : Int64} {lv' : List (Nat × Value)} (hd : decode cc pc = .ok (.lstore_n j, 1)) (hi : (j : Nat) = i) (hn : i + 1 < nL) (hl : (i, Value.long x) :: lv.filter (fun q => !(q.1 == i) && (!(q.1 == i + 1) && !(q.1 + 1 == i && q.2.category == 2))) = lv') (K : vx_V D cl A H0 nL G h k n (pc + 1) lv' st) : vx_V D cl A H0 nL G h k n pc lv (.long x :: st) := by
  obtain ⟨p, e, s, m, args, below, meth, c, Q, rfl, hx, hb, -⟩ := IG
  intro H locs ls g1 g2 g3
  exact lv_lstore_n hx hb hd hi g3 hn hl (fun ls' g3' => K H locs ls' g1 g2 g3')
theorem vx_lstore (IG : vx_I l D cl tys R own cc nL Ts ct A H0 G) {i : Nat} {x : Int64} {lv' : List (Nat × Value)} (hd : decode cc pc = .ok (.lstore i, 2)) (hn : i + 1 < nL) (hl : (i, Value.long x) :: lv.filter (fun q => !(q.1 == i) && (!(q.1 == i + 1) && !(q.1 + 1 == i && q.2.category == 2))) = lv') (K : vx_V D cl A H0 nL G h k n (pc + 2) lv' st) : vx_V D cl A H0 nL G h k n pc lv (.long x :: st) := by
  obtain ⟨p, e, s, m, args, below, meth, c, Q, rfl, hx, hb, -⟩ := IG
  intro H locs ls g1 g2 g3
  exact lv_lstore hx hb hd g3 hn hl (fun ls' g3' => K H locs ls' g1 g2 g3')
theorem vx_aload_n (IG : vx_I l D cl tys R own cc nL Ts ct A H0 G) {j : Fin 4} {i : Nat} {x : Nat} (hd : decode cc pc = .ok (.aload_n j, 1)) (hi : (j : Nat) = i) (q : Nat) (hq : lv[q]? = some (i, .ref x)) (K : vx_V D cl A H0 nL G h k n (pc + 1) lv (.ref x :: st)) : vx_V D cl A H0 nL G h k n pc lv (st) := by
  obtain ⟨p, e, s, m, args, below, meth, c, Q, rfl, hx, hb, -⟩ := IG
  intro H locs ls g1 g2 g3
  exact lv_aload_n hx hb hd hi (lv_at g3 q hq) (K H locs ls g1 g2 g3)
theorem vx_aload (IG : vx_I l D cl tys R own cc nL Ts ct A H0 G) {i : Nat} {x : Nat} (hd : decode cc pc = .ok (.aload i, 2)) (q : Nat) (hq : lv[q]? = some (i, .ref x)) (K : vx_V D cl A H0 nL G h k n (pc + 2) lv (.ref x :: st)) : vx_V D cl A H0 nL G h k n pc lv (st) := by
  obtain ⟨p, e, s, m, args, below, meth, c, Q, rfl, hx, hb, -⟩ := IG
  intro H locs ls g1 g2 g3
  exact lv_aload hx hb hd (lv_at g3 q hq) (K H locs ls g1 g2 g3)
theorem vx_astore_n (IG : vx_I l D cl tys R own cc nL Ts ct A H0 G) {j : Fin 4} {i : Nat} {x : Nat} {lv' : List (Nat × Value)} (hd : decode cc pc = .ok (.astore_n j, 1)) (hi : (j : Nat) = i) (hn : i < nL) (hl : (i, Value.ref x) :: lv.filter (fun q => !(q.1 == i) && !(q.1 + 1 == i && q.2.category == 2)) = lv') (K : vx_V D cl A H0 nL G h k n (pc + 1) lv' st) : vx_V D cl A H0 nL G h k n pc lv (.ref x :: st) := by
  obtain ⟨p, e, s, m, args, below, meth, c, Q, rfl, hx, hb, -⟩ := IG
  intro H locs ls g1 g2 g3
  exact lv_astore_n hx hb hd hi g3 hn hl (fun ls' g3' => K H locs ls' g1 g2 g3')
theorem vx_astore (IG : vx_I l D cl tys R own cc nL Ts ct A H0 G) {i : Nat} {x : Nat} {lv' : List (Nat × Value)} (hd : decode cc pc = .ok (.astore i, 2)) (hn : i < nL) (hl : (i, Value.ref x) :: lv.filter (fun q => !(q.1 == i) && !(q.1 + 1 == i && q.2.category == 2)) = lv') (K : vx_V D cl A H0 nL G h k n (pc + 2) lv' st) : vx_V D cl A H0 nL G h k n pc lv (.ref x :: st) := by
  obtain ⟨p, e, s, m, args, below, meth, c, Q, rfl, hx, hb, -⟩ := IG
  intro H locs ls g1 g2 g3
  exact lv_astore hx hb hd g3 hn hl (fun ls' g3' => K H locs ls' g1 g2 g3')
theorem vx_iinc (IG : vx_I l D cl tys R own cc nL Ts ct A H0 G) {i q : Nat} {c : Int} {x v : Int32} {lv' : List (Nat × Value)} (hd : decode cc pc = .ok (.iinc i c, 3)) (hq : lv[q]? = some (i, .int x)) (hv : x + Int32.ofInt c = v) (hn : i < nL) (hl : (i, Value.int v) :: lv.filter (fun q => !(q.1 == i) && !(q.1 + 1 == i && q.2.category == 2)) = lv') (K : vx_V D cl A H0 nL G h k n (pc + 3) lv' st) : vx_V D cl A H0 nL G h k n pc lv (st) := by
  obtain ⟨p, e, s, m, args, below, meth, c, Q, rfl, hx, hb, -⟩ := IG
  intro H locs ls g1 g2 g3
  exact lv_iinc hx hb hd g3 hq hv hn hl (fun ls' g3' => K H locs ls' g1 g2 g3')
theorem vx_if_eq (IG : vx_I l D cl tys R own cc nL Ts ct A H0 G) {x : Int32} {off : Int} {tgt : Nat} (hd : decode cc pc = .ok (.ifCond .eq off, 3)) (ht : (pc : Int) + off = (tgt : Int)) (KT : x = 0 → vx_V D cl A H0 nL G h k n tgt lv st) (KF : ¬ x = 0 → vx_V D cl A H0 nL G h k n (pc + 3) lv st) : vx_V D cl A H0 nL G h k n pc lv (.int x :: st) := by
  obtain ⟨p, e, s, m, args, below, meth, c, Q, rfl, hx, hb, -⟩ := IG
  intro H locs ls g1 g2 g3
  exact lv_if_eq hx hb hd ht (fun q => KT q H locs ls g1 g2 g3) (fun q => KF q H locs ls g1 g2 g3)
theorem vx_icmp_eq (IG : vx_I l D cl tys R own cc nL Ts ct A H0 G) {x y : Int32} {off : Int} {tgt : Nat} (hd : decode cc pc = .ok (.if_icmp .eq off, 3)) (ht : (pc : Int) + off = (tgt : Int)) (KT : x = y → vx_V D cl A H0 nL G h k n tgt lv st) (KF : ¬ x = y → vx_V D cl A H0 nL G h k n (pc + 3) lv st) : vx_V D cl A H0 nL G h k n pc lv (.int y :: .int x :: st) := by
  obtain ⟨p, e, s, m, args, below, meth, c, Q, rfl, hx, hb, -⟩ := IG
  intro H locs ls g1 g2 g3
  exact lv_icmp_eq hx hb hd ht (fun q => KT q H locs ls g1 g2 g3) (fun q => KF q H locs ls g1 g2 g3)
theorem vx_if_ne (IG : vx_I l D cl tys R own cc nL Ts ct A H0 G) {x : Int32} {off : Int} {tgt : Nat} (hd : decode cc pc = .ok (.ifCond .ne off, 3)) (ht : (pc : Int) + off = (tgt : Int)) (KT : ¬ x = 0 → vx_V D cl A H0 nL G h k n tgt lv st) (KF : x = 0 → vx_V D cl A H0 nL G h k n (pc + 3) lv st) : vx_V D cl A H0 nL G h k n pc lv (.int x :: st) := by
  obtain ⟨p, e, s, m, args, below, meth, c, Q, rfl, hx, hb, -⟩ := IG
  intro H locs ls g1 g2 g3
  exact lv_if_ne hx hb hd ht (fun q => KT q H locs ls g1 g2 g3) (fun q => KF q H locs ls g1 g2 g3)
theorem vx_icmp_ne (IG : vx_I l D cl tys R own cc nL Ts ct A H0 G) {x y : Int32} {off : Int} {tgt : Nat} (hd : decode cc pc = .ok (.if_icmp .ne off, 3)) (ht : (pc : Int) + off = (tgt : Int)) (KT : ¬ x = y → vx_V D cl A H0 nL G h k n tgt lv st) (KF : x = y → vx_V D cl A H0 nL G h k n (pc + 3) lv st) : vx_V D cl A H0 nL G h k n pc lv (.int y :: .int x :: st) := by
  obtain ⟨p, e, s, m, args, below, meth, c, Q, rfl, hx, hb, -⟩ := IG
  intro H locs ls g1 g2 g3
  exact lv_icmp_ne hx hb hd ht (fun q => KT q H locs ls g1 g2 g3) (fun q => KF q H locs ls g1 g2 g3)
theorem vx_if_lt (IG : vx_I l D cl tys R own cc nL Ts ct A H0 G) {x : Int32} {off : Int} {tgt : Nat} (hd : decode cc pc = .ok (.ifCond .lt off, 3)) (ht : (pc : Int) + off = (tgt : Int)) (KT : x < 0 → vx_V D cl A H0 nL G h k n tgt lv st) (KF : ¬ x < 0 → vx_V D cl A H0 nL G h k n (pc + 3) lv st) : vx_V D cl A H0 nL G h k n pc lv (.int x :: st) := by
  obtain ⟨p, e, s, m, args, below, meth, c, Q, rfl, hx, hb, -⟩ := IG
  intro H locs ls g1 g2 g3
  exact lv_if_lt hx hb hd ht (fun q => KT q H locs ls g1 g2 g3) (fun q => KF q H locs ls g1 g2 g3)
theorem vx_icmp_lt (IG : vx_I l D cl tys R own cc nL Ts ct A H0 G) {x y : Int32} {off : Int} {tgt : Nat} (hd : decode cc pc = .ok (.if_icmp .lt off, 3)) (ht : (pc : Int) + off = (tgt : Int)) (KT : x < y → vx_V D cl A H0 nL G h k n tgt lv st) (KF : ¬ x < y → vx_V D cl A H0 nL G h k n (pc + 3) lv st) : vx_V D cl A H0 nL G h k n pc lv (.int y :: .int x :: st) := by
  obtain ⟨p, e, s, m, args, below, meth, c, Q, rfl, hx, hb, -⟩ := IG
  intro H locs ls g1 g2 g3
  exact lv_icmp_lt hx hb hd ht (fun q => KT q H locs ls g1 g2 g3) (fun q => KF q H locs ls g1 g2 g3)
theorem vx_if_ge (IG : vx_I l D cl tys R own cc nL Ts ct A H0 G) {x : Int32} {off : Int} {tgt : Nat} (hd : decode cc pc = .ok (.ifCond .ge off, 3)) (ht : (pc : Int) + off = (tgt : Int)) (KT : 0 ≤ x → vx_V D cl A H0 nL G h k n tgt lv st) (KF : ¬ 0 ≤ x → vx_V D cl A H0 nL G h k n (pc + 3) lv st) : vx_V D cl A H0 nL G h k n pc lv (.int x :: st) := by
  obtain ⟨p, e, s, m, args, below, meth, c, Q, rfl, hx, hb, -⟩ := IG
  intro H locs ls g1 g2 g3
  exact lv_if_ge hx hb hd ht (fun q => KT q H locs ls g1 g2 g3) (fun q => KF q H locs ls g1 g2 g3)
theorem vx_icmp_ge (IG : vx_I l D cl tys R own cc nL Ts ct A H0 G) {x y : Int32} {off : Int} {tgt : Nat} (hd : decode cc pc = .ok (.if_icmp .ge off, 3)) (ht : (pc : Int) + off = (tgt : Int)) (KT : y ≤ x → vx_V D cl A H0 nL G h k n tgt lv st) (KF : ¬ y ≤ x → vx_V D cl A H0 nL G h k n (pc + 3) lv st) : vx_V D cl A H0 nL G h k n pc lv (.int y :: .int x :: st) := by
  obtain ⟨p, e, s, m, args, below, meth, c, Q, rfl, hx, hb, -⟩ := IG
  intro H locs ls g1 g2 g3
  exact lv_icmp_ge hx hb hd ht (fun q => KT q H locs ls g1 g2 g3) (fun q => KF q H locs ls g1 g2 g3)
theorem vx_if_gt (IG : vx_I l D cl tys R own cc nL Ts ct A H0 G) {x : Int32} {off : Int} {tgt : Nat} (hd : decode cc pc = .ok (.ifCond .gt off, 3)) (ht : (pc : Int) + off = (tgt : Int)) (KT : 0 < x → vx_V D cl A H0 nL G h k n tgt lv st) (KF : ¬ 0 < x → vx_V D cl A H0 nL G h k n (pc + 3) lv st) : vx_V D cl A H0 nL G h k n pc lv (.int x :: st) := by
  obtain ⟨p, e, s, m, args, below, meth, c, Q, rfl, hx, hb, -⟩ := IG
  intro H locs ls g1 g2 g3
  exact lv_if_gt hx hb hd ht (fun q => KT q H locs ls g1 g2 g3) (fun q => KF q H locs ls g1 g2 g3)
theorem vx_icmp_gt (IG : vx_I l D cl tys R own cc nL Ts ct A H0 G) {x y : Int32} {off : Int} {tgt : Nat} (hd : decode cc pc = .ok (.if_icmp .gt off, 3)) (ht : (pc : Int) + off = (tgt : Int)) (KT : y < x → vx_V D cl A H0 nL G h k n tgt lv st) (KF : ¬ y < x → vx_V D cl A H0 nL G h k n (pc + 3) lv st) : vx_V D cl A H0 nL G h k n pc lv (.int y :: .int x :: st) := by
  obtain ⟨p, e, s, m, args, below, meth, c, Q, rfl, hx, hb, -⟩ := IG
  intro H locs ls g1 g2 g3
  exact lv_icmp_gt hx hb hd ht (fun q => KT q H locs ls g1 g2 g3) (fun q => KF q H locs ls g1 g2 g3)
theorem vx_if_le (IG : vx_I l D cl tys R own cc nL Ts ct A H0 G) {x : Int32} {off : Int} {tgt : Nat} (hd : decode cc pc = .ok (.ifCond .le off, 3)) (ht : (pc : Int) + off = (tgt : Int)) (KT : x ≤ 0 → vx_V D cl A H0 nL G h k n tgt lv st) (KF : ¬ x ≤ 0 → vx_V D cl A H0 nL G h k n (pc + 3) lv st) : vx_V D cl A H0 nL G h k n pc lv (.int x :: st) := by
  obtain ⟨p, e, s, m, args, below, meth, c, Q, rfl, hx, hb, -⟩ := IG
  intro H locs ls g1 g2 g3
  exact lv_if_le hx hb hd ht (fun q => KT q H locs ls g1 g2 g3) (fun q => KF q H locs ls g1 g2 g3)
theorem vx_icmp_le (IG : vx_I l D cl tys R own cc nL Ts ct A H0 G) {x y : Int32} {off : Int} {tgt : Nat} (hd : decode cc pc = .ok (.if_icmp .le off, 3)) (ht : (pc : Int) + off = (tgt : Int)) (KT : x ≤ y → vx_V D cl A H0 nL G h k n tgt lv st) (KF : ¬ x ≤ y → vx_V D cl A H0 nL G h k n (pc + 3) lv st) : vx_V D cl A H0 nL G h k n pc lv (.int y :: .int x :: st) := by
  obtain ⟨p, e, s, m, args, below, meth, c, Q, rfl, hx, hb, -⟩ := IG
  intro H locs ls g1 g2 g3
  exact lv_icmp_le hx hb hd ht (fun q => KT q H locs ls g1 g2 g3) (fun q => KF q H locs ls g1 g2 g3)
theorem vx_goto (IG : vx_I l D cl tys R own cc nL Ts ct A H0 G) {off : Int} {tgt : Nat} (hd : decode cc pc = .ok (.goto off, 3)) (ht : (pc : Int) + off = (tgt : Int)) (K : vx_V D cl A H0 nL G h k n tgt lv st) : vx_V D cl A H0 nL G h k n pc lv (st) := by
  obtain ⟨p, e, s, m, args, below, meth, c, Q, rfl, hx, hb, -⟩ := IG
  intro H locs ls g1 g2 g3
  exact lv_goto hx hb hd ht (K H locs ls g1 g2 g3)
theorem vx_same (IG : vx_I l D cl tys R own cc nL Ts ct A H0 G) {lv' : List (Nat × Value)} (ks : List Nat) (hl : lv_pick lv ks = lv') (K : vx_V D cl A H0 nL G h k n pc lv' st) : vx_V D cl A H0 nL G h k n pc lv st :=
  fun H locs ls g1 g2 g3 => K H locs ls g1 g2 (lv_sub g3 ks hl)
theorem vx_widen (IG : vx_I l D cl tys R own cc nL Ts ct A H0 G) {k' n' : Nat} (hk : k ≤ k') (hn : n ≤ n') (K : vx_V D cl A H0 nL G h k' n' pc lv st) : vx_V D cl A H0 nL G h k n pc lv st := by
  obtain ⟨p, e, s, m, args, below, meth, c, Q, rfl, hx, hb, -⟩ := IG
  intro H locs ls g1 g2 g3
  exact W.widen hk hn (K H locs ls g1 g2 g3)
theorem vx_ldc (IG : vx_I l D cl tys R own cc nL Ts ct A H0 G) {index : Nat} {v : Int32} (hm : Cond.constant own index v ∈ Ts) (hd : decode cc pc = .ok (.ldc index, 2)) (K : vx_V D cl A H0 nL G h k n (pc + 2) lv (.int v :: st)) : vx_V D cl A H0 nL G h k n pc lv st := by
  obtain ⟨p, e, s, m, args, below, meth, c, Q, rfl, hx, hb, hml, hown, hts, -⟩ := IG
  intro H locs ls g1 g2 g3
  exact lv_ldc hx hb hown (hts _ hm) hd (K H locs ls g1 g2 g3)
theorem vx_ldc2 (IG : vx_I l D cl tys R own cc nL Ts ct A H0 G) {index : Nat} {v : Int64} (hm : Cond.constantLong own index v ∈ Ts) (hd : decode cc pc = .ok (.ldc2_w index, 3)) (K : vx_V D cl A H0 nL G h k n (pc + 3) lv (.long v :: st)) : vx_V D cl A H0 nL G h k n pc lv st := by
  obtain ⟨p, e, s, m, args, below, meth, c, Q, rfl, hx, hb, hml, hown, hts, -⟩ := IG
  intro H locs ls g1 g2 g3
  exact lv_ldc2 hx hb hown (hts _ hm) hd (K H locs ls g1 g2 g3)
/-- the body's end -/
theorem vx_ret {ret : Option FieldType} {post : Option Value → vx_h → Nat → Nat → Prop} (v : Option Value) (RG : vx_R D cl A H0 cc ret post G) (he : vx_end ret cc pc v) (hs : v.toList = st) (hp : post v h k n) : vx_V D cl A H0 nL G h k n pc lv st := by
  intro H locs ls g1 g2 g3
  rw [← hs]
  exact RG H locs ls pc k n h v g1 g2 he hp
theorem vx_endv (hd : decode cc pc = .ok (.return_, 1)) : vx_end none cc pc none := Or.inl ⟨rfl, rfl, hd⟩
theorem vx_endi {ty : FieldType} {x : Int32} (hn : narrow ty (.int x) = .int x) (hd : decode cc pc = .ok (.ireturn, 1)) : vx_end (some ty) cc pc (some (.int x)) := Or.inr (Or.inl ⟨ty, x, rfl, hn, rfl, hd⟩)
theorem vx_endl {x : Int64} (hd : decode cc pc = .ok (.lreturn, 1)) : vx_end (some .long) cc pc (some (.long x)) := Or.inr (Or.inr (Or.inl ⟨x, rfl, rfl, hd⟩))
theorem vx_enda {ty : FieldType} {x : Nat} (ht : (∃ n, ty = .object n) ∨ ∃ t, ty = .array t) (hd : decode cc pc = .ok (.areturn, 1)) : vx_end (some ty) cc pc (some (.ref x)) := Or.inr (Or.inr (Or.inr ⟨ty, x, rfl, ht, rfl, hd⟩))
/-- a field is read -/
theorem vx_get (IG : vx_I l D cl tys R own cc nL Ts ct A H0 G) {C ref : String} {T : u_T} {N ci index a : Nat} {fs : List Value} {v : Value} (he : h a = some (.inr (ci, fs))) (hc : cl[ci]? = some (C, T, N)) (j : Nat) (hj : j < N) (hin : ∀ w ∈ u_ws C T N, w ∈ Ts) (hm : Cond.fieldLink own index ref (T j).2.1 (T j).2.2.1 ∈ Ts) (hr : (T j).1 = ref) (hv : fs[j]? = some v) (hd : decode cc pc = .ok (.getfield index, 3)) (K : vx_V D cl A H0 nL G h k n (pc + 3) lv (v :: st)) : vx_V D cl A H0 nL G h k n pc lv (.ref a :: st) := by
  obtain ⟨p, e, s, m, args, below, meth, c, Q, rfl, hx, hb, hml, hown, hts, hK, -⟩ := IG
  intro H locs ls g1 g2 g3
  obtain ⟨ws, hP, hD, cov⟩ := vx_list g1
  obtain ⟨q, hq⟩ := cov a _ he
  subst hr
  exact va_get hx hb hts hin hown hK hP q hq hc j hj (hts _ hm) (fun _ z => z) hv hd (K H locs ls g1 g2 g3)
theorem vx_getN (IG : vx_I l D cl tys R own cc nL Ts ct A H0 G) {C ref host : String} {T : u_T} {N ci index a : Nat} {fs : List Value} {v : Value} (he : h a = some (.inr (ci, fs))) (hc : cl[ci]? = some (C, T, N)) (j : Nat) (hj : j < N) (hin : ∀ w ∈ u_ws C T N, w ∈ Ts) (hm : Cond.fieldLinkNest own index ref (T j).2.1 (T j).2.2.1 host ∈ Ts) (hr : (T j).1 = ref) (hv : fs[j]? = some v) (hd : decode cc pc = .ok (.getfield index, 3)) (K : vx_V D cl A H0 nL G h k n (pc + 3) lv (v :: st)) : vx_V D cl A H0 nL G h k n pc lv (.ref a :: st) := by
  obtain ⟨p, e, s, m, args, below, meth, c, Q, rfl, hx, hb, hml, hown, hts, hK, -⟩ := IG
  intro H locs ls g1 g2 g3
  obtain ⟨ws, hP, hD, cov⟩ := vx_list g1
  obtain ⟨q, hq⟩ := cov a _ he
  subst hr
  exact va_getN hx hb hts hin hown hK hP q hq hc j hj (hts _ hm) (fun _ z => z) hv hd (K H locs ls g1 g2 g3)
/-- a field is written -/
theorem vx_put (IG : vx_I l D cl tys R own cc nL Ts ct A H0 G) {C ref : String} {T : u_T} {N ci index a : Nat} {fs : List Value} {v : Value} {ty : FieldType} (he : h a = some (.inr (ci, fs))) (hc : cl[ci]? = some (C, T, N)) (j : Nat) (hj : j < N) (hin : ∀ w ∈ u_ws C T N, w ∈ Ts) (ty0 : Nat → FieldType) (hty : ∀ k, k < N → parseFieldDescriptor (T k).2.2.1 = some (ty0 k)) (hnm : ∀ a, a < N → ∀ b, b < N → a ≠ b → (T a).2.1 ≠ (T b).2.1) (hm : Cond.fieldLink own index ref (T j).2.1 (T j).2.2.1 ∈ Ts) (hr : (T j).1 = ref) (hfin : (T j).2.2.2 = false) (hpd : parseFieldDescriptor (T j).2.2.1 = some ty) (hn : narrow ty v = v) (hfit : fits ty v = true) (hl : j < fs.length) (hd : decode cc pc = .ok (.putfield index, 3)) (K : vx_V D cl A H0 nL G (vx_up h a (.inr (ci, fs.set j v))) k n (pc + 3) lv st) : vx_V D cl A H0 nL G h k n pc lv (v :: .ref a :: st) := by
  obtain ⟨p, e, s, m, args, below, meth, c, Q, rfl, hx, hb, hml, hown, hts, hK, -⟩ := IG
  intro H locs ls g1 g2 g3
  obtain ⟨ws, hP, hD, cov⟩ := vx_list g1
  obtain ⟨q, hq⟩ := cov a _ he
  subst hr
  exact va_put hx hb hts hin ty0 hty hnm hown hK hP hD g2 q hq hc j hj (hts _ hm) (fun _ z => z) hfin hpd hn hfit hl hd (fun H1 locs1 hP1 hD1 hS1 => K H1 locs1 ls (vx_set hq cov hP1 hD1) hS1 g3)
theorem vx_putF (IG : vx_I l D cl tys R own cc nL Ts true A H0 G) {C : String} {T : u_T} {N ci index a : Nat} {fs : List Value} {v : Value} {ty : FieldType} (he : h a = some (.inr (ci, fs))) (hc : cl[ci]? = some (C, T, N)) (j : Nat) (hj : j < N) (hin : ∀ w ∈ u_ws C T N, w ∈ Ts) (ty0 : Nat → FieldType) (hty : ∀ k, k < N → parseFieldDescriptor (T k).2.2.1 = some (ty0 k)) (hnm : ∀ a, a < N → ∀ b, b < N → a ≠ b → (T a).2.1 ≠ (T b).2.1) (hm : Cond.fieldLink own index own (T j).2.1 (T j).2.2.1 ∈ Ts) (hr : (T j).1 = own) (hfin : (T j).2.2.2 = true) (hpd : parseFieldDescriptor (T j).2.2.1 = some ty) (hn : narrow ty v = v) (hfit : fits ty v = true) (hl : j < fs.length) (hd : decode cc pc = .ok (.putfield index, 3)) (K : vx_V D cl A H0 nL G (vx_up h a (.inr (ci, fs.set j v))) k n (pc + 3) lv st) : vx_V D cl A H0 nL G h k n pc lv (v :: .ref a :: st) := by
  obtain ⟨p, e, s, m, args, below, meth, c, Q, rfl, hx, hb, hml, hown, hts, hK, hN, hh0, hA, hin2⟩ := IG
  intro H locs ls g1 g2 g3
  obtain ⟨ws, hP, hD, cov⟩ := vx_list g1
  obtain ⟨q, hq⟩ := cov a _ he
  exact va_putF hx hb hts hin ty0 hty hnm hown hK hP hD g2 q hq hc j hj (hts _ hm) (fun _ z => by rw [← hr]; exact z) hfin (hin2 rfl) hr hpd hn hfit hl hd (fun H1 locs1 hP1 hD1 hS1 => K H1 locs1 ls (vx_set hq cov hP1 hD1) hS1 g3)
/-- arrays -/
theorem vx_lald (IG : vx_I l D cl tys R own cc nL Ts ct A H0 G) {a : Nat} {cA : ClassId} {N : Nat} {f : Nat → Int64} {i : Int32} {x : Int64} (he : h a = some (.inl (cA, N, .inr (.inl f)))) (t0 : Nat) (ht : tys[t0]? = some (cA, .long)) (hin : vp_in i N) (hv : f i.toNatClampNeg = x) (hd : decode cc pc = .ok (.laload, 1)) (K : vx_V D cl A H0 nL G h k n (pc + 1) lv (.long x :: st)) : vx_V D cl A H0 nL G h k n pc lv (.int i :: .ref a :: st) := by
  obtain ⟨p, e, s, m, args, below, meth, c, Q, rfl, hx, hb, hml, hown, hts, hK, -⟩ := IG
  intro H locs ls g1 g2 g3
  obtain ⟨ws, hP, hD, cov⟩ := vx_list g1
  obtain ⟨q, hq⟩ := cov a _ he
  subst hv
  exact va_lald hx hb hK hP q t0 hq ht hin hd (K H locs ls g1 g2 g3)
theorem vx_last (IG : vx_I l D cl tys R own cc nL Ts ct A H0 G) {a : Nat} {cA : ClassId} {N : Nat} {f : Nat → Int64} {i : Int32} {x : Int64} (he : h a = some (.inl (cA, N, .inr (.inl f)))) (t0 : Nat) (ht : tys[t0]? = some (cA, .long)) (hin : vp_in i N) (hd : decode cc pc = .ok (.lastore, 1)) (K : vx_V D cl A H0 nL G (vx_up h a (.inl (cA, N, .inr (.inl (vp_updL f i.toNatClampNeg x))))) k n (pc + 1) lv st) : vx_V D cl A H0 nL G h k n pc lv (.long x :: .int i :: .ref a :: st) := by
  obtain ⟨p, e, s, m, args, below, meth, c, Q, rfl, hx, hb, hml, hown, hts, hK, -⟩ := IG
  intro H locs ls g1 g2 g3
  obtain ⟨ws, hP, hD, cov⟩ := vx_list g1
  obtain ⟨q, hq⟩ := cov a _ he
  exact va_last hx hb hK hP hD g2 q t0 hq ht hin hd (fun H1 locs1 hP1 hD1 hS1 => K H1 locs1 ls (vx_set hq cov hP1 hD1) hS1 g3)
theorem vx_iald (IG : vx_I l D cl tys R own cc nL Ts ct A H0 G) {a : Nat} {cA : ClassId} {N : Nat} {f : Nat → Int32} {i : Int32} {x : Int32} (he : h a = some (.inl (cA, N, .inl f))) (t0 : Nat) (ht : tys[t0]? = some (cA, .int)) (hin : vp_in i N) (hv : f i.toNatClampNeg = x) (hd : decode cc pc = .ok (.iaload, 1)) (K : vx_V D cl A H0 nL G h k n (pc + 1) lv (.int x :: st)) : vx_V D cl A H0 nL G h k n pc lv (.int i :: .ref a :: st) := by
  obtain ⟨p, e, s, m, args, below, meth, c, Q, rfl, hx, hb, hml, hown, hts, hK, -⟩ := IG
  intro H locs ls g1 g2 g3
  obtain ⟨ws, hP, hD, cov⟩ := vx_list g1
  obtain ⟨q, hq⟩ := cov a _ he
  subst hv
  exact va_iald hx hb hK hP q t0 hq ht hin hd (K H locs ls g1 g2 g3)
theorem vx_iast (IG : vx_I l D cl tys R own cc nL Ts ct A H0 G) {a : Nat} {cA : ClassId} {N : Nat} {f : Nat → Int32} {i : Int32} {x : Int32} (he : h a = some (.inl (cA, N, .inl f))) (t0 : Nat) (ht : tys[t0]? = some (cA, .int)) (hin : vp_in i N) (hd : decode cc pc = .ok (.iastore, 1)) (K : vx_V D cl A H0 nL G (vx_up h a (.inl (cA, N, .inl (upd f i.toNatClampNeg x)))) k n (pc + 1) lv st) : vx_V D cl A H0 nL G h k n pc lv (.int x :: .int i :: .ref a :: st) := by
  obtain ⟨p, e, s, m, args, below, meth, c, Q, rfl, hx, hb, hml, hown, hts, hK, -⟩ := IG
  intro H locs ls g1 g2 g3
  obtain ⟨ws, hP, hD, cov⟩ := vx_list g1
  obtain ⟨q, hq⟩ := cov a _ he
  exact va_iast hx hb hK hP hD g2 q t0 hq ht hin hd (fun H1 locs1 hP1 hD1 hS1 => K H1 locs1 ls (vx_set hq cov hP1 hD1) hS1 g3)
theorem vx_zald (IG : vx_I l D cl tys R own cc nL Ts ct A H0 G) {a : Nat} {cA : ClassId} {N : Nat} {f : Nat → Int32} {i : Int32} {x : Int32} (he : h a = some (.inl (cA, N, .inl f))) (t0 : Nat) (ht : tys[t0]? = some (cA, .boolean)) (hin : vp_in i N) (hv : f i.toNatClampNeg = x) (hd : decode cc pc = .ok (.baload, 1)) (K : vx_V D cl A H0 nL G h k n (pc + 1) lv (.int x :: st)) : vx_V D cl A H0 nL G h k n pc lv (.int i :: .ref a :: st) := by
  obtain ⟨p, e, s, m, args, below, meth, c, Q, rfl, hx, hb, hml, hown, hts, hK, -⟩ := IG
  intro H locs ls g1 g2 g3
  obtain ⟨ws, hP, hD, cov⟩ := vx_list g1
  obtain ⟨q, hq⟩ := cov a _ he
  subst hv
  exact va_zald hx hb hK hP q t0 hq ht hin hd (K H locs ls g1 g2 g3)
theorem vx_zast (IG : vx_I l D cl tys R own cc nL Ts ct A H0 G) {a : Nat} {cA : ClassId} {N : Nat} {f : Nat → Int32} {i : Int32} {x : Int32} (he : h a = some (.inl (cA, N, .inl f))) (t0 : Nat) (ht : tys[t0]? = some (cA, .boolean)) (hin : vp_in i N) (hd : decode cc pc = .ok (.bastore, 1)) (K : vx_V D cl A H0 nL G (vx_up h a (.inl (cA, N, .inl (upd f i.toNatClampNeg (vp_nar .boolean x))))) k n (pc + 1) lv st) : vx_V D cl A H0 nL G h k n pc lv (.int x :: .int i :: .ref a :: st) := by
  obtain ⟨p, e, s, m, args, below, meth, c, Q, rfl, hx, hb, hml, hown, hts, hK, -⟩ := IG
  intro H locs ls g1 g2 g3
  obtain ⟨ws, hP, hD, cov⟩ := vx_list g1
  obtain ⟨q, hq⟩ := cov a _ he
  exact va_zast hx hb hK hP hD g2 q t0 hq ht hin hd (fun H1 locs1 hP1 hD1 hS1 => K H1 locs1 ls (vx_set hq cov hP1 hD1) hS1 g3)
theorem vx_aald (IG : vx_I l D cl tys R own cc nL Ts ct A H0 G) {a x : Nat} {cA : ClassId} {C : String} {N : Nat} {f : Nat → Option Nat} {i : Int32} (he : h a = some (.inl (cA, N, .inr (.inr (.inr (.inr f)))))) (t0 : Nat) (ht : tys[t0]? = some (cA, .object C)) (hin : vp_in i N) (hv : f i.toNatClampNeg = some x) (hd : decode cc pc = .ok (.aaload, 1)) (K : vx_V D cl A H0 nL G h k n (pc + 1) lv (.ref x :: st)) : vx_V D cl A H0 nL G h k n pc lv (.int i :: .ref a :: st) := by
  obtain ⟨p, e, s, m, args, below, meth, c, Q, rfl, hx, hb, hml, hown, hts, hK, -⟩ := IG
  intro H locs ls g1 g2 g3
  obtain ⟨ws, hP, hD, cov⟩ := vx_list g1
  obtain ⟨q, hq⟩ := cov a _ he
  refine va_aldq hx hb hK hP q t0 hq ht hin hd ?_
  rw [hv]
  exact K H locs ls g1 g2 g3
theorem vx_aast (IG : vx_I l D cl tys R own cc nL Ts ct A H0 G) {a v ci : Nat} {cA : ClassId} {r : vw_C} {N : Nat} {vs : List Value} {f : Nat → Option Nat} {i : Int32} (he : h a = some (.inl (cA, N, .inr (.inr (.inr (.inr f)))))) (t0 : Nat) (ht : tys[t0]? = some (cA, .object r.1)) (hv : h v = some (.inr (ci, vs))) (hc : cl[ci]? = some r) (hin : vp_in i N) (hd : decode cc pc = .ok (.aastore, 1)) (K : vx_V D cl A H0 nL G (vx_up h a (.inl (cA, N, .inr (.inr (.inr (.inr (va_up f i.toNatClampNeg (some v)))))))) k n (pc + 1) lv st) : vx_V D cl A H0 nL G h k n pc lv (.ref v :: .int i :: .ref a :: st) := by
  obtain ⟨p, e, s, m, args, below, meth, c, Q, rfl, hx, hb, hml, hown, hts, hK, -⟩ := IG
  intro H locs ls g1 g2 g3
  obtain ⟨ws, hP, hD, cov⟩ := vx_list g1
  obtain ⟨q, hq⟩ := cov a _ he
  obtain ⟨q2, hq2⟩ := cov v _ hv
  exact va_astq hx hb hK hP hD g2 q t0 q2 ci hq ht hq2 hc hin hd (fun H1 locs1 hP1 hD1 hS1 => K H1 locs1 ls (vx_set hq cov hP1 hD1) hS1 g3)
theorem vx_alen (IG : vx_I l D cl tys R own cc nL Ts ct A H0 G) {a : Nat} {cA : ClassId} {x : vp_A} (he : h a = some (.inl (cA, x))) (t0 : Nat) {ty : FieldType} (ht : tys[t0]? = some (cA, ty)) {v : Int32} (hv : Int32.ofNat x.1 = v) (hd : decode cc pc = .ok (.arraylength, 1)) (K : vx_V D cl A H0 nL G h k n (pc + 1) lv (.int v :: st)) : vx_V D cl A H0 nL G h k n pc lv (.ref a :: st) := by
  obtain ⟨p, e, s, m, args, below, meth, c, Q, rfl, hx, hb, hml, hown, hts, hK, -⟩ := IG
  intro H locs ls g1 g2 g3
  obtain ⟨ws, hP, hD, cov⟩ := vx_list g1
  obtain ⟨q, hq⟩ := cov a _ he
  exact va_alen hx hb hK hP q t0 hq ht hv hd (K H locs ls g1 g2 g3)
/-- a new array of numbers: a is none of the tracked -/
theorem vx_newa (IG : vx_I l D cl tys R own cc nL Ts ct A H0 G) {atype : ArrayType} {ty : FieldType} {cA : ClassId} (hm : Cond.arrayClass (newarray.typeOf atype) ∈ Ts) (hty : newarray.typeOf atype = ty) (t0 : Nat) (ht : tys[t0]? = some (cA, ty)) (hRA : ∀ (U : State) (c : ClassId), va_RA U c ty → U.vm.findClass ("[" ++ ty.toString) = some c) {i : Int32} {N : Nat} {a0 : vp_A} (ha : ∀ cA : ClassId, vp_cell cA a0 = arrV cA N (fun _ => defaultValue ty)) (hn : ¬ i < 0) (hN : i.toNatClampNeg = N) (hby : N * componentBytes ty ≤ 536870912) (hcells : k + 1 ≤ R.cells) (hslots : n + N ≤ R.slots) (hd : decode cc pc = .ok (.newarray atype, 2)) (K : ∀ a : Nat, h a = none → vx_V D cl A H0 nL G (vx_up h a (.inl (cA, a0))) (k + 1) (n + N) (pc + 2) lv (.ref a :: st)) : vx_V D cl A H0 nL G h k n pc lv (.int i :: st) := by
  obtain ⟨p, e, s, m, args, below, meth, c, Q, rfl, hx, hb, hml, hown, hts, hK, hNn, hh0, hA, -⟩ := IG
  intro H locs ls g1 g2 g3
  obtain ⟨ws, hP, hD, cov⟩ := vx_list g1
  refine va_newa hx hb (hts _ hm) hty hK hP hD g2 hA ha hn hN hby hcells hslots hd (fun q cB H1 hK1 hP1 hD1 hS1 => ?_)
  have e1 := hRA s cB (hK1.2 tys.length (cB, ty) (by simp)).2
  have e2 := hRA s cA (hK.2 t0 _ ht).2
  obtain rfl : cB = cA := Option.some.inj (e1.symm.trans e2)
  refine K q ?_ H1 locs ls (vx_push cov hP1 hD1) hS1 g3
  cases hq : h q with
  | none => rfl
  | some z =>
    obtain ⟨j, hj⟩ := cov q z hq
    have hl := (List.getElem?_eq_some_iff.mp hj).1
    have h1 : (ws ++ [(q, Sum.inl (cB, a0))])[j]? = some (q, z) := by rw [List.getElem?_append_left hl]; exact hj
    have h2 : (ws ++ [((q, Sum.inl (cB, a0)) : Nat × va_E)])[ws.length]? = some (q, Sum.inl (cB, a0)) := by simp
    have := hD1.1 j ws.length _ _ h1 h2 rfl
    omega
/-- a new object -/
theorem vx_new (IG : vx_I l D cl tys R own cc nL Ts ct A H0 G) {C : String} {T : u_T} {N ci index : Nat} {fs : List Value} (hc : cl[ci]? = some (C, T, N)) (hin : ∀ w ∈ u_ws C T N, w ∈ Ts) (ty0 : Nat → FieldType) (hty : ∀ k, k < N → parseFieldDescriptor (T k).2.2.1 = some (ty0 k)) (hm1 : Cond.classLink own index C ∈ Ts) (hm2 : Cond.instantiable C N ∈ Ts) (hm3 : Cond.initialized C ∈ Ts) (hfs : ∀ j, j < N → defaultValue (ty0 j) = vp_V fs j) (hcells : k + 1 ≤ R.cells) (hslots : n + N ≤ R.slots) (hd : decode cc pc = .ok (.new index, 3)) (K : ∀ a : Nat, h a = none → vx_V D cl A H0 nL G (vx_up h a (.inr (ci, fs))) (k + 1) (n + N) (pc + 3) lv (.ref a :: st)) : vx_V D cl A H0 nL G h k n pc lv st := by
  obtain ⟨p, e, s, m, args, below, meth, c, Q, rfl, hx, hb, hml, hown, hts, hK, hN, hh0, hA, -⟩ := IG
  intro H locs ls g1 g2 g3
  obtain ⟨ws, hP, hD, cov⟩ := vx_list g1
  refine va_new hx hb hts hin ty0 hty hown (hts _ hm1) (hts _ hm2) (hts _ hm3) hK hP hD g2 hA hc hfs hcells hslots hd (fun q H1 hP1 hD1 hS1 => ?_)
  refine K q ?_ H1 locs ls (vx_push cov hP1 hD1) hS1 g3
  cases hq : h q with
  | none => rfl
  | some z =>
    obtain ⟨j, hj⟩ := cov q z hq
    have hl := (List.getElem?_eq_some_iff.mp hj).1
    have h1 : (ws ++ [(q, Sum.inr (ci, fs))])[j]? = some (q, z) := by rw [List.getElem?_append_left hl]; exact hj
    have h2 : (ws ++ [((q, Sum.inr (ci, fs)) : Nat × va_E)])[ws.length]? = some (q, Sum.inr (ci, fs)) := by simp
    have := hD1.1 j ws.length _ _ h1 h2 rfl
    omega
/-- System.arraycopy over longs -/
theorem vx_copyl (IG : vx_I l D cl tys R own cc nL Ts ct A H0 G) {index a0 a1 : Nat} {cA : ClassId} {n0 n1 : Nat} {f g : Nat → Int64} (hm1 : Cond.methodLink own index arraycopyName ∈ Ts) (hm2 : Cond.native arraycopyName ∈ Ts) (hm3 : Cond.static arraycopyName ∈ Ts) (hm4 : Cond.initialized "java/lang/System" ∈ Ts) (he0 : h a0 = some (.inl (cA, n0, .inr (.inl f)))) (he1 : h a1 = some (.inl (cA, n1, .inr (.inl g)))) (t0 : Nat) (ht : tys[t0]? = some (cA, .long)) {sp dp w : Int32} (h1 : ¬ sp < 0) (h2 : ¬ dp < 0) (h3 : ¬ w < 0) (h4 : sp.toNatClampNeg + w.toNatClampNeg ≤ n0) (h5 : dp.toNatClampNeg + w.toNatClampNeg ≤ n1) (hfr : 1 ≤ R.frames) (hlo : (st.map fun v => v.category).sum + (nativeFrameWords "java/lang/System" "arraycopy" 5 + 11) ≤ R.locals) (hd : decode cc pc = .ok (.invokestatic index, 3)) (K : vx_V D cl A H0 nL G (vx_up h a1 (.inl (cA, n1, .inr (.inl (va_cpy f g sp.toNatClampNeg dp.toNatClampNeg w.toNatClampNeg))))) k n (pc + 3) lv st) : vx_V D cl A H0 nL G h k n pc lv (.int w :: .int dp :: .ref a1 :: .int sp :: .ref a0 :: st) := by
  obtain ⟨p, e, s, m, args, below, meth, c, Q, rfl, hx, hb, hml, hown, hts, hK, -⟩ := IG
  intro H locs ls g1 g2 g3
  obtain ⟨ws, hP, hD, cov⟩ := vx_list g1
  obtain ⟨q, hq⟩ := cov a0 _ he0
  obtain ⟨q2, hq2⟩ := cov a1 _ he1
  exact va_copyl hx hb (hml.trans g3.1.symm) hown (hts _ hm1) (hts _ hm2) (hts _ hm3) (hts _ hm4) hK hP hD g2 q q2 t0 t0 hq hq2 ht ht rfl h1 h2 h3 h4 h5 (fun i hi => rfl) hfr hlo hd (fun H1 locs1 hP1 hD1 hS1 => K H1 locs1 ls (vx_set hq2 cov hP1 hD1) hS1 g3)
theorem vx_topi {x y : Int32} (e : x = y) (K : vx_V D cl A H0 nL G h k n pc lv (.int y :: st)) : vx_V D cl A H0 nL G h k n pc lv (.int x :: st) := by subst e; exact K
theorem vx_topl {x y : Int64} (e : x = y) (K : vx_V D cl A H0 nL G h k n pc lv (.long y :: st)) : vx_V D cl A H0 nL G h k n pc lv (.long x :: st) := by subst e; exact K
/-- a new array of references -/
theorem vx_newq (IG : vx_I l D cl tys R own cc nL Ts ct A H0 G) {index t0 : Nat} {cA : ClassId} (hm : Cond.classLink own index "SignedMill$Whole" ∈ Ts) (ht : tys[t0]? = some (cA, .object "SignedMill$Whole")) {i : Int32} {N : Nat} (hn : ¬ i < 0) (hN : i.toNatClampNeg = N) (hby : N * 4 ≤ 536870912) (hcells : k + 1 ≤ R.cells) (hslots : n + N ≤ R.slots) (hd : decode cc pc = .ok (.anewarray index, 3)) (K : ∀ a : Nat, h a = none → vx_V D cl A H0 nL G (vx_up h a (.inl (cA, N, .inr (.inr (.inr (.inr (fun _ => none))))))) (k + 1) (n + N) (pc + 3) lv (.ref a :: st)) : vx_V D cl A H0 nL G h k n pc lv (.int i :: st) := by
  obtain ⟨p, e, s, m, args, below, meth, c, Q, rfl, hx, hb, hml, hown, hts, hK, hNn, hh0, hA, -⟩ := IG
  intro H locs ls g1 g2 g3
  obtain ⟨ws, hP, hD, cov⟩ := vx_list g1
  refine va_newq hx hb hown (hts _ hm) hNn.2 hK hP hD g2 hA hn hN hby hcells hslots hd (fun q cB H1 hK1 hP1 hD1 hS1 => ?_)
  obtain ⟨-, -, -, -, -, e1⟩ := (hK1.2 tys.length (cB, .object "SignedMill$Whole") (by simp)).2
  obtain ⟨-, -, -, -, -, e2⟩ := (hK.2 t0 _ ht).2
  obtain rfl : cB = cA := Option.some.inj (e1.symm.trans e2)
  refine K q ?_ H1 locs ls (vx_push cov hP1 hD1) hS1 g3
  cases hq : h q with
  | none => rfl
  | some z =>
    obtain ⟨j, hj⟩ := cov q z hq
    have hl := (List.getElem?_eq_some_iff.mp hj).1
    have h1 := (List.getElem?_append_left (l₂ := [((q, Sum.inl (cB, N, .inr (.inr (.inr (.inr (fun _ => none)))))) : Nat × va_E)]) hl).trans hj
    have h2 : (ws ++ [((q, Sum.inl (cB, N, .inr (.inr (.inr (.inr (fun _ => none)))))) : Nat × va_E)])[ws.length]? = some (q, Sum.inl (cB, N, .inr (.inr (.inr (.inr (fun _ => none)))))) := by simp
    have := hD1.1 j ws.length _ _ h1 h2 rfl
    omega
end
end
section
/-! calls, by contract -/
section
variable {l : Launch} {D : va_G} {cl : List vw_C} {tys : List (ClassId × FieldType)} {R : Room} {own : String} {cc : ByteArray} {nL : Nat} {Ts : List Cond} {ct : Bool} {A : Nat → Prop} {H0 : Heap} {G : vx_G} {h : vx_h} {k n pc : Nat} {lv : List (Nat × Value)} {st : List Value}
variable {y : MethodName} {ws : List Cond} {rm : Room} {av : List Value} {post : Option Value → vx_h → Nat → Nat → Prop} {bytes : ByteArray} {maxL : Nat} {ret : Option FieldType}
def vx_Pre (R : Room) (D : va_G) (cl : List vw_C) (tys : List (ClassId × FieldType)) (rm : Room) (av : List Value) (h : vx_h) : Pt → Array Value → Prop := fun P a => P.cells + rm.cells ≤ R.cells ∧ P.slots + rm.slots ≤ R.slots ∧ a = av.toArray ∧ vx_AH D cl (fun _ => True) h P.U.heap ∧ va_K D cl tys P.U ∧ vx_N P.U
def vx_Post (D : va_G) (cl : List vw_C) (h : vx_h) (post : Option Value → vx_h → Nat → Nat → Prop) : Pt → Array Value → Option Value → Pt → Prop := fun P _ v B =>
  ∃ (L : List Loc) (k' n' : Nat) (h' : vx_h), B.locs = P.locs ++ L ∧ B.cells = P.cells + k' ∧ B.slots = P.slots + n' ∧ (∀ q ∈ L, vx_A h P.U.heap.size q.base) ∧ post v h' k' n' ∧ vx_AH D cl (vx_A h P.U.heap.size) h' B.U.heap ∧ P.U.heap.size ≤ B.U.heap.size ∧ ∀ q : Nat, q < P.U.heap.size → ¬ vx_A h P.U.heap.size q → B.U.heap[q]? = P.U.heap[q]?
theorem vx_back {p : Program} {e : Env} {s : State} {below : List Frame} {sargs : Array Value} {len W0 : Nat} (hM : vx_M l D cl tys y ws rm av h post) (hframes : rm.frames + 1 ≤ R.frames) (hlocals : W0 + (maxL + 11) + rm.locals ≤ R.locals)
    (hws : ∀ w ∈ ws, ∀ (a' : Array Value) (U : State), s.WarmedH U.vm → w.before a' U = true) (hcode : Cond.code y bytes maxL ret ∈ ws) (hinit : Cond.initialized y.cls ∈ ws) :
    Back l R p e below s sargs y len W0 (vx_Pre R D cl tys rm av h) (vx_Post D cl h post) := by
  refine Back.of_free (S := headSpec ws rm) (K := fun _ _ _ _ _ => True) (bytes := bytes) (maxL := maxL) (ret := ret)
    (E := fun a st o t L k n => ∃ (v : Option Value) (h' : vx_h), o = .returned v ∧ (∀ q ∈ L, vx_A h st.heap.size q.base) ∧ post v h' k n ∧ vx_AH D cl (vx_A h st.heap.size) h' t.heap ∧ va_F (vx_A h st.heap.size) st t) hM hframes hlocals ?_ ?_ (fun _ _ _ _ _ _ _ _ _ => trivial) ?_ ?_
  · intro m meth c P a X hp
    exact ⟨atoms_intro fun w hw => hws w hw _ _ X.warmed, hws _ hcode _ _ X.warmed, hws _ hinit _ _ X.warmed, hp.1, hp.2.1⟩
  · intro m meth c P a g mk X hp
    exact ⟨hp.2.2.1, hp.2.2.2.1, va_K.moved (u := P.U) (U := P.U.calling g mk a) (Vm.Alike.refl P.U.vm) hp.2.2.2.2.1, vx_N.same (u := P.U) (U := P.U.calling g mk a) rfl hp.2.2.2.2.2⟩
  · intro a st o t ⟨v, h', L, k, n, e1, e2, e3, e4, e5, e6⟩
    exact ⟨L, k, n, e2, v, h', e1, e3, e4, e5, e6⟩
  · intro m meth c P a g mk v t L k n X hp hq hF ⟨v', h', e1, e3, e4, e5, e6⟩
    cases e1
    exact ⟨L, k, n, h', rfl, rfl, rfl, e3, e4, e5, e6.1, e6.2⟩
def vx_Run (p : Program) (l : Launch) (e : Env) (R : Room) (s : State) (m : MethodId) (args : Array Value) (below : List Frame) (meth : Method) (c : Code) (D : va_G) (cl : List vw_C) (h : vx_h) (H : Heap) (locs : List Loc) (k n : Nat) (g : JFrame) (rest : List Value) (post : Option Value → vx_h → Nat → Nat → Prop) : Prop :=
  ∀ T : State, T.heap = H → Stand p l e R s m args below meth c T locs k n → ∃ (v : Option Value) (T' : State) (L : List Loc) (k' n' : Nat) (h' : vx_h), Stand p l e R s m args below meth c T' (locs ++ L) (k + k') (n + n') ∧ (∀ q ∈ L, vx_A h H.size q.base) ∧ post v h' k' n' ∧ vx_AH D cl (vx_A h H.size) h' T'.heap ∧ H.size ≤ T'.heap.size ∧ (∀ q : Nat, q < H.size → ¬ vx_A h H.size q → T'.heap[q]? = H[q]?) ∧ Goes p e below T g T' { g with pc := g.pc + 3, stack := v.toList ++ rest }
theorem vx_goes {p : Program} {e : Env} {s : State} {m : MethodId} {args : Array Value} {below : List Frame} {meth : Method} {c : Code} {Q : State → Prop} {H : Heap} {locs : List Loc} {ls : Array Slot} {st0 : List Value} (hA : ∀ q : Nat, H0.size ≤ q → A q) (g1 : vx_AH D cl A h H) (g2 : va_S A H0 H locs) (g3 : lv_has ls nL lv)
    (hr : vx_Run p l e R s m args below meth c D cl h H locs k n (F0 m pc ls st0) st post)
    (K : ∀ (v : Option Value) (h' : vx_h) (k' n' : Nat), post v h' k' n' → vx_V D cl A H0 nL (fun H locs k n pc ls st => W p l e R s m args below meth c H locs k n Q (F0 m pc ls st)) h' (k + k') (n + n') (pc + 3) lv (v.toList ++ st)) :
    W p l e R s m args below meth c H locs k n Q (F0 m pc ls st0) := by
  intro T hT X
  obtain ⟨v, T', L, k', n', h', X', hL, hp, hAH, hz, hk, hgo⟩ := hr T hT X
  have sub : ∀ q, vx_A h H.size q → A q := by
    intro q hq
    rcases hq with ⟨e, he⟩ | hq
    · exact (g1 q e he).2
    · exact hA q (Nat.le_trans g2.1 hq)
  obtain ⟨t, a1, b1⟩ := K v h' k' n' hp T'.heap (locs ++ L) ls (fun a e he => ⟨(hAH a e he).1, sub a (hAH a e he).2⟩)
    ⟨Nat.le_trans g2.1 hz, fun q h1 h2 => by rw [hk q (Nat.lt_of_lt_of_le h1 g2.1) (fun z => h2 (sub q z))]; exact g2.2.1 q h1 h2, fun q hq => by
      rcases List.mem_append.mp hq with z | z
      · exact g2.2.2 q z
      · exact sub _ (hL q z)⟩ g3 T' rfl X'
  exact ⟨t, hgo t a1, b1⟩
/-- the words of a callee, at the caller's later states -/
theorem vx_words {s : State} {args : Array Value} (hg : GoodIn Ts Ts) (hts : ∀ w ∈ Ts, w.before args s = true) : ∀ w ∈ Ts, ∀ (a' : Array Value) (U : State), s.WarmedH U.vm → w.before a' U = true :=
  fun w hw _ _ hW => word_at hW (hg w hw).2 (hts w hw)
abbrev vx_nm (y : MethodName) (a : Nat) : Prop := y.cls ≠ "java/lang/invoke/MethodHandle" ∧ y.cls ≠ "java/lang/invoke/VarHandle" ∧ (parseMethodDescriptor y.desc).map (fun d => d.parameters.length) = some a
theorem vx_len {a : Nat} (h : vx_nm y a) : ∀ sig, parseMethodDescriptor y.desc = some sig → a = sig.parameters.length := by
  intro sig hs
  have h2 := h.2.2
  rw [hs] at h2
  exact (Option.some.inj h2).symm
theorem vx_recv {s : State} {H : Heap} {C : String} {T : u_T} {N ci a : Nat} {fs : List Value} (hK : va_K D cl tys s) (g1 : vx_AH D cl A h H) (hc : cl[ci]? = some (C, T, N)) (he : h a = some (.inr (ci, fs))) : ∃ cell : Cell, H[a]? = some cell ∧ cell.vm.isStatics = false ∧ s.vm.findClass C = some cell.cls := by
  obtain ⟨ws, hP, hD, cov⟩ := vx_list g1
  obtain ⟨q, hq⟩ := cov a _ he
  exact va_recv hK hP hc hq
/-- invokevirtual -/
theorem vx_callV (IG : vx_I l D cl tys R own cc nL Ts ct A H0 G) (hg : GoodIn Ts Ts) {b : Nat} {As : List Value} (hM : vx_M l D cl tys y Ts rm (.ref b :: As) h post) {C : String} {T : u_T} {N ci index : Nat} {fs : List Value} (he : h b = some (.inr (ci, fs))) (hc : cl[ci]? = some (C, T, N)) (hcode : Cond.code y bytes maxL ret ∈ Ts) (hm1 : Cond.methodLink own index y ∈ Ts) (hm2 : Cond.instanceMethod y ∈ Ts) (hm3 : Cond.selects C y y ∈ Ts) (hm4 : Cond.initialized y.cls ∈ Ts) (hy : vx_nm y As.length) (hR : rm.frames + 1 ≤ R.frames ∧ 8 + (maxL + 11) + rm.locals ≤ R.locals) (hf : k + rm.cells ≤ R.cells ∧ n + rm.slots ≤ R.slots) {st0 : List Value} (hs : st0 = As.reverse ++ .ref b :: st) (hW : (st.map fun v => v.category).sum ≤ 8) (hd : decode cc pc = .ok (.invokevirtual index, 3))
    (K : ∀ (v : Option Value) (h' : vx_h) (k' n' : Nat), post v h' k' n' → vx_V D cl A H0 nL G h' (k + k') (n + n') (pc + 3) lv (v.toList ++ st)) : vx_V D cl A H0 nL G h k n pc lv st0 := by
  obtain ⟨p, e, s, m, args, below, meth, c, Q, rfl, hx, hb, hml, hown, hts, hK, hN, hh0, hA, -⟩ := IG
  intro H locs ls g1 g2 g3
  refine vx_goes hA g1 g2 g3 ?_ K
  intro T hT X
  obtain ⟨cellB, hcB, hoB, hclB⟩ := vx_recv hK g1 hc he
  obtain ⟨v, vm₁, ⟨U', l2, c2, s2⟩, hW₁, X', ⟨L, k', n', h', e1, e2, e3, e4, e5, e6, e7, e8⟩, go⟩ := callV X hx (C := C) (bytes := bytes) (maxL := maxL) (ret := ret) hown (hts _ hm1) (hts _ hm2) (hts _ hm3) (hts _ hcode) ⟨hy.1, hy.2.1⟩
    (vx_back (bytes := bytes) (maxL := maxL) (ret := ret) (W0 := 8) hM hR.1 hR.2 (vx_words hg hts) hcode hm4) (by rw [hT]; exact hcB) hoB hclB (g := F0 m pc ls st0) rfl (by rw [hml]; exact g3.1) (argsL := As) (rest := st) (vx_len hy) hs (lv_room (rest := st0) hW) (by rw [hb]; exact hd)
    (fun vm₁ hW₁ => ⟨hf.1, hf.2, rfl, (show vx_AH D cl (fun _ => True) h T.heap by rw [hT]; exact fun a e z => ⟨(g1 a e z).1, trivial⟩), va_K.moved hW₁.alike hK, vx_N.warm (U := T.setVm vm₁) hW₁ hN⟩)
  dsimp only [Pt.U, Pt.locs, Pt.cells, Pt.slots] at X' e1 e2 e3 e4 e6 e7 e8 go
  subst e1; subst e2; subst e3
  have hTv : (T.setVm vm₁).heap = H := hT
  rw [hTv] at e4 e6 e7 e8
  exact ⟨v, U', L, k', n', h', X', e4, e5, e6, e7, e8, go⟩
/-- invokestatic -/
theorem vx_callS (IG : vx_I l D cl tys R own cc nL Ts ct A H0 G) (hg : GoodIn Ts Ts) {As : List Value} (hM : vx_M l D cl tys y Ts rm As h post) {index : Nat} (hcode : Cond.code y bytes maxL ret ∈ Ts) (hm1 : Cond.methodLink own index y ∈ Ts) (hm2 : Cond.static y ∈ Ts) (hm4 : Cond.initialized y.cls ∈ Ts) (hy : vx_nm y As.length) (hR : rm.frames + 1 ≤ R.frames ∧ 8 + (maxL + 11) + rm.locals ≤ R.locals) (hf : k + rm.cells ≤ R.cells ∧ n + rm.slots ≤ R.slots) {st0 : List Value} (hs : st0 = As.reverse ++ st) (hW : (st.map fun v => v.category).sum ≤ 8) (hd : decode cc pc = .ok (.invokestatic index, 3))
    (K : ∀ (v : Option Value) (h' : vx_h) (k' n' : Nat), post v h' k' n' → vx_V D cl A H0 nL G h' (k + k') (n + n') (pc + 3) lv (v.toList ++ st)) : vx_V D cl A H0 nL G h k n pc lv st0 := by
  obtain ⟨p, e, s, m, args, below, meth, c, Q, rfl, hx, hb, hml, hown, hts, hK, hN, hh0, hA, -⟩ := IG
  intro H locs ls g1 g2 g3
  refine vx_goes hA g1 g2 g3 ?_ K
  intro T hT X
  obtain ⟨v, vm₁, ⟨U', l2, c2, s2⟩, hW₁, X', ⟨L, k', n', h', e1, e2, e3, e4, e5, e6, e7, e8⟩, go⟩ := callS X hx (bytes := bytes) (maxL := maxL) (ret := ret) hown (hts _ hm1) (hts _ hm2) (hts _ hm4) (hts _ hcode) ⟨hy.1, hy.2.1⟩
    (vx_back (bytes := bytes) (maxL := maxL) (ret := ret) (W0 := 8) hM hR.1 hR.2 (vx_words hg hts) hcode hm4) (g := F0 m pc ls st0) rfl (by rw [hml]; exact g3.1) (argsL := As) (rest := st) (vx_len hy) hs (lv_room (rest := st0) hW) (by rw [hb]; exact hd)
    (fun vm₁ hW₁ => ⟨hf.1, hf.2, rfl, (show vx_AH D cl (fun _ => True) h T.heap by rw [hT]; exact fun a e z => ⟨(g1 a e z).1, trivial⟩), va_K.moved hW₁.alike hK, vx_N.warm (U := T.setVm vm₁) hW₁ hN⟩)
  dsimp only [Pt.U, Pt.locs, Pt.cells, Pt.slots] at X' e1 e2 e3 e4 e6 e7 e8 go
  subst e1; subst e2; subst e3
  have hTv : (T.setVm vm₁).heap = H := hT
  rw [hTv] at e4 e6 e7 e8
  exact ⟨v, U', L, k', n', h', X', e4, e5, e6, e7, e8, go⟩
/-- invokespecial <init> -/
theorem vx_callI (IG : vx_I l D cl tys R own cc nL Ts ct A H0 G) (hg : GoodIn Ts Ts) {b : Nat} {As : List Value} (hM : vx_M l D cl tys y Ts rm (.ref b :: As) h post) {index : Nat} (hy1 : y.name = "<init>") (hcode : Cond.code y bytes maxL none ∈ Ts) (hm1 : Cond.methodLink own index y ∈ Ts) (hm2 : Cond.instanceMethod y ∈ Ts) (hm4 : Cond.initialized y.cls ∈ Ts) (hy : vx_nm y As.length) (hR : rm.frames + 1 ≤ R.frames ∧ 8 + (maxL + 11) + rm.locals ≤ R.locals) (hf : k + rm.cells ≤ R.cells ∧ n + rm.slots ≤ R.slots) {st0 : List Value} (hs : st0 = As.reverse ++ .ref b :: st) (hW : (st.map fun v => v.category).sum ≤ 8) (hd : decode cc pc = .ok (.invokespecial index, 3))
    (K : ∀ (v : Option Value) (h' : vx_h) (k' n' : Nat), post v h' k' n' → vx_V D cl A H0 nL G h' (k + k') (n + n') (pc + 3) lv (v.toList ++ st)) : vx_V D cl A H0 nL G h k n pc lv st0 := by
  obtain ⟨p, e, s, m, args, below, meth, c, Q, rfl, hx, hb, hml, hown, hts, hK, hN, hh0, hA, -⟩ := IG
  intro H locs ls g1 g2 g3
  refine vx_goes hA g1 g2 g3 ?_ K
  intro T hT X
  obtain ⟨v, vm₁, ⟨U', l2, c2, s2⟩, hW₁, X', ⟨L, k', n', h', e1, e2, e3, e4, e5, e6, e7, e8⟩, go⟩ := callI X hx (bytes := bytes) (maxL := maxL) hown hy1 (hts _ hm1) (hts _ hm2) (hts _ hcode) ⟨hy.1, hy.2.1⟩
    (vx_back (bytes := bytes) (maxL := maxL) (ret := none) (W0 := 8) hM hR.1 hR.2 (vx_words hg hts) hcode hm4) (g := F0 m pc ls st0) rfl (by rw [hml]; exact g3.1) (a := b) (argsL := As) (rest := st) (vx_len hy) hs (lv_room (rest := st0) hW) (by rw [hb]; exact hd)
    (fun vm₁ hW₁ => ⟨hf.1, hf.2, rfl, (show vx_AH D cl (fun _ => True) h T.heap by rw [hT]; exact fun a e z => ⟨(g1 a e z).1, trivial⟩), va_K.moved hW₁.alike hK, vx_N.warm (U := T.setVm vm₁) hW₁ hN⟩)
  dsimp only [Pt.U, Pt.locs, Pt.cells, Pt.slots] at X' e1 e2 e3 e4 e6 e7 e8 go
  subst e1; subst e2; subst e3
  have hTv : (T.setVm vm₁).heap = H := hT
  rw [hTv] at e4 e6 e7 e8
  exact ⟨v, U', L, k', n', h', X', e4, e5, e6, e7, e8, go⟩
/-- invokespecial <init> of a nest mate -/
theorem vx_callIN (IG : vx_I l D cl tys R own cc nL Ts ct A H0 G) (hg : GoodIn Ts Ts) {b : Nat} {As : List Value} (hM : vx_M l D cl tys y Ts rm (.ref b :: As) h post) {index : Nat} (hy1 : y.name = "<init>") (hcode : Cond.code y bytes maxL none ∈ Ts) {host : String} (hm1 : Cond.methodLinkNest own index y host ∈ lw_tbl) (hm2 : Cond.instanceMethod y ∈ Ts) (hm4 : Cond.initialized y.cls ∈ Ts) (hy : vx_nm y As.length) (hR : rm.frames + 1 ≤ R.frames ∧ 8 + (maxL + 11) + rm.locals ≤ R.locals) (hf : k + rm.cells ≤ R.cells ∧ n + rm.slots ≤ R.slots) {st0 : List Value} (hs : st0 = As.reverse ++ .ref b :: st) (hW : (st.map fun v => v.category).sum ≤ 8) (hd : decode cc pc = .ok (.invokespecial index, 3))
    (K : ∀ (v : Option Value) (h' : vx_h) (k' n' : Nat), post v h' k' n' → vx_V D cl A H0 nL G h' (k + k') (n + n') (pc + 3) lv (v.toList ++ st)) : vx_V D cl A H0 nL G h k n pc lv st0 := by
  obtain ⟨p, e, s, m, args, below, meth, c, Q, rfl, hx, hb, hml, hown, hts, hK, hN, hh0, hA, -⟩ := IG
  intro H locs ls g1 g2 g3
  refine vx_goes hA g1 g2 g3 ?_ K
  intro T hT X
  obtain ⟨v, vm₁, ⟨U', l2, c2, s2⟩, hW₁, X', ⟨L, k', n', h', e1, e2, e3, e4, e5, e6, e7, e8⟩, go⟩ := va_callIN X hx (bytes := bytes) (maxL := maxL) hown hy1 (va_Nw.use (A := args) rfl (hN.1 _ _ _ _ hm1)) (hts _ hm2) (hts _ hcode) ⟨hy.1, hy.2.1⟩
    (vx_back (bytes := bytes) (maxL := maxL) (ret := none) (W0 := 8) hM hR.1 hR.2 (vx_words hg hts) hcode hm4) (g := F0 m pc ls st0) rfl (by rw [hml]; exact g3.1) (a := b) (argsL := As) (rest := st) (vx_len hy) hs (lv_room (rest := st0) hW) (by rw [hb]; exact hd)
    (fun vm₁ hW₁ => ⟨hf.1, hf.2, rfl, (show vx_AH D cl (fun _ => True) h T.heap by rw [hT]; exact fun a e z => ⟨(g1 a e z).1, trivial⟩), va_K.moved hW₁.alike hK, vx_N.warm (U := T.setVm vm₁) hW₁ hN⟩)
  dsimp only [Pt.U, Pt.locs, Pt.cells, Pt.slots] at X' e1 e2 e3 e4 e6 e7 e8 go
  subst e1; subst e2; subst e3
  have hTv : (T.setVm vm₁).heap = H := hT
  rw [hTv] at e4 e6 e7 e8
  exact ⟨v, U', L, k', n', h', X', e4, e5, e6, e7, e8, go⟩
/-- Object.<init> -/
theorem vx_obj (IG : vx_I l D cl tys R own cc nL Ts ct A H0 G) {idx a : Nat} (hm1 : Cond.methodLink own idx Lib.objectInit ∈ Ts) (hm2 : Cond.instanceMethod Lib.objectInit ∈ Ts) (hm3 : Cond.code Lib.objectInit ⟨#[0xb1]⟩ 1 none ∈ Ts) (hd : decode cc pc = .ok (.invokespecial idx, 3)) (hfr : 1 ≤ R.frames) (hlo : (st.map fun v => v.category).sum + 12 ≤ R.locals) (K : vx_V D cl A H0 nL G h k n (pc + 3) lv st) : vx_V D cl A H0 nL G h k n pc lv (.ref a :: st) := by
  obtain ⟨p, e, s, m, args, below, meth, c, Q, rfl, hx, hb, hml, hown, hts, hK, -⟩ := IG
  intro H locs ls g1 g2 g3
  exact W.objInit hx hb hown (hts _ hm1) (hts _ hm2) (hts _ hm3) rfl (by rw [hml]; exact g3.1) rfl hd hfr (by show 2 * 0 + _ + _ ≤ _; omega) (K H locs ls g1 g2 g3)
end
end
section
/-! DIGITS in base b. dg b N i: the digit at place i; vl b d n: the number that the places below n hold; nd b N: how many digits N has; bl N: how many bits -/
def dg (b N i : Nat) : Nat := N / b ^ i % b
def vl (b : Nat) (d : Nat → Nat) : Nat → Nat
  | 0 => 0
  | n + 1 => vl b d n + d n * b ^ n
def ndf (b : Nat) : Nat → Nat → Nat
  | 0, _ => 0
  | f + 1, N => if N = 0 then 0 else ndf b f (N / b) + 1
def nd (b N : Nat) : Nat := ndf b N N
def bl (N : Nat) : Nat := if N = 0 then 0 else Nat.log2 N + 1
section
variable {b : Nat}
theorem bp_pos (hb : 1 < b) (n : Nat) : 0 < b ^ n := Nat.pow_pos (by omega)
theorem bp_succ (b n : Nat) : b ^ (n + 1) = b ^ n * b := by rw [Nat.pow_succ]
theorem dg_lt (hb : 1 < b) (N i : Nat) : dg b N i < b := Nat.mod_lt _ (by omega)
theorem vl_succ (b : Nat) (d : Nat → Nat) (n : Nat) : vl b d (n + 1) = vl b d n + d n * b ^ n := rfl
theorem vl_lt (hb : 1 < b) {d : Nat → Nat} {n : Nat} (h : ∀ i, i < n → d i < b) : vl b d n < b ^ n := by
  induction n with
  | zero => simp [vl]
  | succ n ih =>
    have h1 := ih (fun i hi => h i (by omega))
    have h2 := h n (by omega)
    have h3 : (d n + 1) * b ^ n ≤ b * b ^ n := Nat.mul_le_mul_right _ h2
    rw [Nat.add_mul, Nat.one_mul] at h3
    rw [bp_succ, Nat.mul_comm (b ^ n), vl_succ]
    omega
theorem vl_congr {d e : Nat → Nat} {n : Nat} (h : ∀ i, i < n → d i = e i) : vl b d n = vl b e n := by
  induction n with
  | zero => rfl
  | succ n ih => rw [vl_succ, vl_succ, ih (fun i hi => h i (by omega)), h n (by omega)]
theorem vl_dg (b N n : Nat) : vl b (dg b N) n = N % b ^ n := by
  induction n with
  | zero => simp [vl, Nat.mod_one]
  | succ n ih =>
    rw [vl_succ, ih, Nat.mod_pow_succ, Nat.mul_comm]
    rfl
theorem dg_add_hi (hb : 1 < b) {X Y n i : Nat} (h : i < n) : dg b (X + Y * b ^ n) i = dg b X i := by
  have e : b ^ n = b ^ i * (b * b ^ (n - i - 1)) := by
    rw [← Nat.mul_assoc, ← bp_succ, ← Nat.pow_add]
    congr 1
    omega
  unfold dg
  rw [e, Nat.mul_left_comm, Nat.add_mul_div_left _ _ (bp_pos hb i), Nat.mul_left_comm, Nat.add_mul_mod_self_left]
theorem dg_mod (hb : 1 < b) {N n i : Nat} (h : i < n) : dg b (N % b ^ n) i = dg b N i := by
  have e : N = N % b ^ n + N / b ^ n * b ^ n := by
    rw [Nat.mul_comm]
    exact (Nat.mod_add_div _ _).symm
  conv => rhs; rw [e]
  rw [dg_add_hi hb h]
theorem dg_vl (hb : 1 < b) {d : Nat → Nat} {n i : Nat} (h : ∀ i, i < n → d i < b) (hi : i < n) : dg b (vl b d n) i = d i := by
  induction n with
  | zero => omega
  | succ n ih =>
    rw [vl_succ]
    rcases Nat.lt_or_ge i n with q | q
    · rw [dg_add_hi hb q]
      exact ih (fun i hi => h i (by omega)) q
    · obtain rfl : i = n := by omega
      unfold dg
      rw [Nat.add_mul_div_right _ _ (bp_pos hb i), Nat.div_eq_of_lt (vl_lt hb (fun j hj => h j (by omega))), Nat.zero_add]
      exact Nat.mod_eq_of_lt (h i (by omega))
theorem dg_zero (b i : Nat) : dg b 0 i = 0 := by simp [dg]
theorem dg_big {N i : Nat} (h : N < b ^ i) : dg b N i = 0 := by
  unfold dg
  rw [Nat.div_eq_of_lt h]
  exact Nat.zero_mod b
theorem ndf_le (hb : 1 < b) (f : Nat) : ∀ (N c : Nat), N ≤ f → (ndf b f N ≤ c ↔ N < b ^ c) := by
  induction f with
  | zero =>
    intro N c h
    obtain rfl : N = 0 := by omega
    exact ⟨fun _ => bp_pos hb c, fun _ => Nat.zero_le c⟩
  | succ f ih =>
    intro N c h
    rw [ndf]
    split
    · rename_i z
      subst z
      exact ⟨fun _ => bp_pos hb c, fun _ => Nat.zero_le c⟩
    · rename_i z
      have hlt : N / b < N := Nat.div_lt_self (by omega) hb
      cases c with
      | zero => exact ⟨fun q => by omega, fun q => by rw [Nat.pow_zero] at q; omega⟩
      | succ c =>
        have := ih (N / b) c (by omega)
        rw [bp_succ, ← Nat.div_lt_iff_lt_mul (by omega), ← this]
        omega
theorem nd_le (hb : 1 < b) {N c : Nat} : nd b N ≤ c ↔ N < b ^ c := ndf_le hb N N c (Nat.le_refl N)
theorem nd_lt (hb : 1 < b) {N c : Nat} : c < nd b N ↔ b ^ c ≤ N := by
  have := @nd_le b hb N c
  omega
theorem lt_nd (hb : 1 < b) (N : Nat) : N < b ^ nd b N := (nd_le hb).mp (Nat.le_refl _)
theorem nd_zero (b : Nat) : nd b 0 = 0 := rfl
theorem nd_eq_zero (hb : 1 < b) {N : Nat} : nd b N = 0 ↔ N = 0 := by
  have := @nd_le b hb N 0
  rw [Nat.pow_zero] at this
  omega
theorem vl_nd (hb : 1 < b) (N : Nat) : vl b (dg b N) (nd b N) = N := by
  rw [vl_dg, Nat.mod_eq_of_lt (lt_nd hb N)]
theorem vl_nd_le (hb : 1 < b) {N n : Nat} (h : nd b N ≤ n) : vl b (dg b N) n = N := by
  rw [vl_dg, Nat.mod_eq_of_lt ((nd_le hb).mp h)]
theorem nd_mono (hb : 1 < b) {M N : Nat} (h : M ≤ N) : nd b M ≤ nd b N := (nd_le hb).mpr (Nat.lt_of_le_of_lt h (lt_nd hb N))
/-- behind a trim -/
theorem nd_vl (hb : 1 < b) {d : Nat → Nat} {c : Nat} (h : ∀ i, i < c → d i < b) (ht : c = 0 ∨ d (c - 1) ≠ 0) : nd b (vl b d c) = c := by
  have h1 : nd b (vl b d c) ≤ c := (nd_le hb).mpr (vl_lt hb h)
  cases c with
  | zero => omega
  | succ c =>
    have h2 : d c ≠ 0 := by
      rcases ht with z | z
      · omega
      · exact z
    have h3 : c < nd b (vl b d (c + 1)) := (nd_lt hb).mpr (by
      rw [vl_succ]
      have h4 : 1 * b ^ c ≤ d c * b ^ c := Nat.mul_le_mul_right _ (by omega)
      omega)
    omega
theorem dg_top_eq (hb : 1 < b) {N : Nat} (h : 0 < N) : dg b N (nd b N - 1) = N / b ^ (nd b N - 1) := by
  have h0 : nd b N ≠ 0 := fun q => by have := (nd_eq_zero hb).mp q; omega
  unfold dg
  apply Nat.mod_eq_of_lt
  rw [Nat.div_lt_iff_lt_mul (bp_pos hb _), Nat.mul_comm, ← bp_succ, show nd b N - 1 + 1 = nd b N by omega]
  exact lt_nd hb N
theorem dg_top (hb : 1 < b) {N : Nat} (h : 0 < N) : dg b N (nd b N - 1) ≠ 0 := by
  have h0 : nd b N ≠ 0 := fun q => by have := (nd_eq_zero hb).mp q; omega
  have h1 : b ^ (nd b N - 1) ≤ N := (nd_lt hb).mp (by omega)
  rw [dg_top_eq hb h]
  have h4 : 0 < N / b ^ (nd b N - 1) := Nat.div_pos h1 (bp_pos hb _)
  omega
theorem dv_split (b A k : Nat) : A / b ^ k = A / b ^ (k + 1) * b + dg b A k := by
  unfold dg
  rw [bp_succ, ← Nat.div_div_eq_div_mul, Nat.mul_comm]
  exact (Nat.div_add_mod _ _).symm
theorem md_split (b A k : Nat) : A % b ^ (k + 1) = A % b ^ k + b ^ k * dg b A k := Nat.mod_pow_succ
theorem vl_split (b : Nat) (d : Nat → Nat) (n m : Nat) : vl b d (n + m) = vl b d n + vl b (fun j => d (n + j)) m * b ^ n := by
  induction m with
  | zero => simp [vl]
  | succ m ih =>
    rw [← Nat.add_assoc, vl_succ, vl_succ, ih, Nat.add_mul, Nat.mul_assoc, ← Nat.pow_add, Nat.add_comm m n]
    omega
theorem vl_zero {d : Nat → Nat} {n : Nat} (h : ∀ i, i < n → d i = 0) : vl b d n = 0 := by
  induction n with
  | zero => rfl
  | succ n ih =>
    rw [vl_succ, ih (fun i hi => h i (by omega)), h n (by omega)]
    simp
/-! comparisons -/
theorem bcm_lt (b : Nat) {A B k : Nat} (h : A / b ^ (k + 1) = B / b ^ (k + 1)) (hd : dg b A k < dg b B k) : A < B := by
  have h1 := dv_split b A k
  have h2 := dv_split b B k
  rw [h] at h1
  rcases Nat.lt_or_ge A B with q | q
  · exact q
  · have := Nat.div_le_div_right (c := b ^ k) q
    omega
theorem bcm_eq (b : Nat) {A B k : Nat} (h : A / b ^ (k + 1) = B / b ^ (k + 1)) (hd : dg b A k = dg b B k) : A / b ^ k = B / b ^ k := by
  rw [dv_split b A k, dv_split b B k, h, hd]
theorem bcm_top (hb : 1 < b) {A n : Nat} (h : nd b A ≤ n) : A / b ^ n = 0 := Nat.div_eq_of_lt ((nd_le hb).mp h)
theorem bcm_nd (hb : 1 < b) {A B : Nat} (h : nd b A < nd b B) : A < B := Nat.lt_of_lt_of_le (lt_nd hb A) ((nd_lt hb).mp h)
/-! sums -/
def cy (b A B k : Nat) : Nat := (A % b ^ k + B % b ^ k) / b ^ k
theorem cy_zero (b A B : Nat) : cy b A B 0 = 0 := by simp [cy, Nat.mod_one]
theorem cy_le (hb : 1 < b) (A B k : Nat) : cy b A B k ≤ 1 := by
  unfold cy
  have h1 := Nat.mod_lt A (bp_pos hb k)
  have h2 := Nat.mod_lt B (bp_pos hb k)
  have : (A % b ^ k + B % b ^ k) / b ^ k < 2 := (Nat.div_lt_iff_lt_mul (bp_pos hb k)).mpr (by omega)
  omega
theorem cy_succ (hb : 1 < b) (A B k : Nat) : (dg b A k + dg b B k + cy b A B k) / b = cy b A B (k + 1) := by
  have h : A % b ^ (k + 1) + B % b ^ (k + 1) = (A % b ^ k + B % b ^ k) + b ^ k * (dg b A k + dg b B k) := by
    rw [md_split, md_split, Nat.mul_add]
    omega
  conv => rhs; unfold cy
  rw [h, bp_succ, ← Nat.div_div_eq_div_mul, Nat.add_mul_div_left _ _ (bp_pos hb k)]
  show _ = (cy b A B k + _) / _
  rw [Nat.add_comm]
theorem md_add3 (b x y c : Nat) : (x % b + y % b + c) % b = (c + (x + y)) % b := by
  rw [Nat.add_mod, ← Nat.add_mod x y b, ← Nat.add_mod, Nat.add_comm]
theorem cy_dg (hb : 1 < b) (A B k : Nat) : (dg b A k + dg b B k + cy b A B k) % b = dg b (A + B) k := by
  have hA := Nat.mod_add_div A (b ^ k)
  have hB := Nat.mod_add_div B (b ^ k)
  have h : A + B = (A % b ^ k + B % b ^ k) + b ^ k * (A / b ^ k + B / b ^ k) := by
    rw [Nat.mul_add]
    omega
  unfold dg
  conv => rhs; rw [h]
  rw [Nat.add_mul_div_left _ _ (bp_pos hb k)]
  exact md_add3 b _ _ _
theorem cy_end (hb : 1 < b) {A B n : Nat} (hA : A < b ^ n) (hB : B < b ^ n) : cy b A B n = dg b (A + B) n := by
  unfold cy dg
  rw [Nat.mod_eq_of_lt hA, Nat.mod_eq_of_lt hB, Nat.mod_eq_of_lt]
  exact (Nat.div_lt_iff_lt_mul (bp_pos hb n)).mpr (by
    have h1 : 2 * b ^ n ≤ b * b ^ n := Nat.mul_le_mul_right _ hb
    omega)
theorem nd_add (hb : 1 < b) (A B : Nat) : nd b (A + B) ≤ max (nd b A) (nd b B) + 1 := by
  rw [nd_le hb, bp_succ]
  have h1 : A < b ^ max (nd b A) (nd b B) := (nd_le hb).mp (Nat.le_max_left _ _)
  have h2 : B < b ^ max (nd b A) (nd b B) := (nd_le hb).mp (Nat.le_max_right _ _)
  have h3 : b ^ max (nd b A) (nd b B) * 2 ≤ b ^ max (nd b A) (nd b B) * b := Nat.mul_le_mul_left _ hb
  omega
/-! differences -/
def bw (b A B k : Nat) : Nat := if A % b ^ k < B % b ^ k then 1 else 0
theorem bw_zero (b A B : Nat) : bw b A B 0 = 0 := by simp [bw, Nat.mod_one]
theorem bw_le (b A B k : Nat) : bw b A B k ≤ 1 := by unfold bw; split <;> omega
theorem bw_succ (hb : 1 < b) (A B k : Nat) : bw b A B (k + 1) = if dg b A k < dg b B k + bw b A B k then 1 else 0 := by
  have hp := bp_pos hb k
  have h1 := Nat.mod_lt A hp
  have h2 := Nat.mod_lt B hp
  have key : A % b ^ (k + 1) < B % b ^ (k + 1) ↔ dg b A k < dg b B k + bw b A B k := by
    rw [md_split, md_split]
    unfold bw
    generalize A % b ^ k = a0 at *
    generalize B % b ^ k = b0 at *
    generalize dg b A k = x
    generalize dg b B k = y
    generalize b ^ k = P at *
    rcases Nat.lt_trichotomy x y with q | q | q
    · have : P * (x + 1) ≤ P * y := Nat.mul_le_mul_left _ q
      rw [Nat.mul_add] at this
      constructor
      · intro _; split <;> omega
      · intro _; omega
    · subst q
      constructor
      · intro z; rw [if_pos (show a0 < b0 by omega)]; omega
      · intro z
        by_cases c : a0 < b0
        · omega
        · rw [if_neg c] at z; omega
    · have : P * (y + 1) ≤ P * x := Nat.mul_le_mul_left _ q
      rw [Nat.mul_add] at this
      constructor
      · intro _; omega
      · intro z
        split at z <;> omega
  conv => lhs; unfold bw
  simp only [key]
theorem md_sub (b : Nat) (hb : 0 < b) {x y w : Nat} (h : y + w ≤ x) : (x % b + 2 * b - w - y % b) % b = (x - w - y) % b ∨ 1 < w := by
  rcases Nat.lt_or_ge 1 w with q | q
  · exact Or.inr q
  · left
    have hx := Nat.mod_add_div x b
    have hy := Nat.mod_add_div y b
    have h1 := Nat.mod_lt x hb
    have h2 := Nat.mod_lt y hb
    have hle : y / b ≤ x / b := Nat.div_le_div_right (by omega)
    have e : x % b + 2 * b - w - y % b + b * (x / b - y / b) = (x - w - y) + b * 2 := by
      rw [Nat.mul_sub]
      have := Nat.mul_le_mul_left b hle
      omega
    have e2 := congrArg (· % b) e
    simp only [Nat.add_mul_mod_self_left] at e2
    exact e2
theorem bw_core {P x y a0 b0 : Nat} (hb : 1 < b) (hp : 0 < P) (h1 : a0 < P) (h2 : b0 < P) (h : b0 + P * y ≤ a0 + P * x) : (x % b + 2 * b - (if a0 < b0 then 1 else 0) - y % b) % b = ((a0 + P * x) - (b0 + P * y)) / P % b := by
  by_cases c : a0 < b0
  · have hlt : y < x := by
      rcases Nat.lt_or_ge y x with q | q
      · exact q
      · have := Nat.mul_le_mul_left P q
        omega
    obtain ⟨z, rfl⟩ : ∃ z, x = y + 1 + z := ⟨x - y - 1, by omega⟩
    have e : a0 + P * (y + 1 + z) - (b0 + P * y) = (a0 + P - b0) + P * z := by
      rw [Nat.mul_add, Nat.mul_add, Nat.mul_one]
      omega
    rw [e, Nat.add_mul_div_left _ _ hp, Nat.div_eq_of_lt (show a0 + P - b0 < P by omega), Nat.zero_add, if_pos c]
    rcases md_sub b (by omega) (x := y + 1 + z) (y := y) (w := 1) (by omega) with q | q
    · rw [q, show y + 1 + z - 1 - y = z by omega]
    · omega
  · have hle : y ≤ x := by
      rcases Nat.lt_or_ge x y with q | q
      · have := Nat.mul_le_mul_left P q
        rw [Nat.mul_succ] at this
        omega
      · exact q
    obtain ⟨z, rfl⟩ : ∃ z, x = y + z := ⟨x - y, by omega⟩
    have e : a0 + P * (y + z) - (b0 + P * y) = (a0 - b0) + P * z := by
      rw [Nat.mul_add]
      omega
    rw [e, Nat.add_mul_div_left _ _ hp, Nat.div_eq_of_lt (show a0 - b0 < P by omega), Nat.zero_add, if_neg c]
    rcases md_sub b (by omega) (x := y + z) (y := y) (w := 0) (by omega) with q | q
    · rw [q, show y + z - 0 - y = z by omega]
    · omega
/-- bw_dg: the digit of the difference; the machine's own form is taken from it at each base -/
theorem bw_dg (hb : 1 < b) {A B : Nat} (h : B ≤ A) (k : Nat) : (dg b A k + 2 * b - bw b A B k - dg b B k) % b = dg b (A - B) k := by
  have hp := bp_pos hb k
  have hA := Nat.mod_add_div A (b ^ k)
  have hB := Nat.mod_add_div B (b ^ k)
  have := bw_core (x := A / b ^ k) (y := B / b ^ k) hb hp (Nat.mod_lt A hp) (Nat.mod_lt B hp) (by rw [hA, hB]; exact h)
  rw [hA, hB] at this
  exact this
/-! products: one step of 'a multiple is added': t = f * b + d + carry -/
theorem am_step (b : Nat) {w u e : Nat → Nat} {f k cr t : Nat} (h : vl b w k + cr * b ^ k = f * vl b u k + vl b e k) (ht : t = f * u k + e k + cr) (hw : w k = t % b) : vl b w (k + 1) + (t / b) * b ^ (k + 1) = f * vl b u (k + 1) + vl b e (k + 1) := by
  rw [vl_succ, vl_succ, vl_succ]
  have h1 : t * b ^ k = w k * b ^ k + t / b * b ^ (k + 1) := by
    rw [bp_succ, Nat.mul_comm (b ^ k), ← Nat.mul_assoc, ← Nat.add_mul, hw]
    congr 1
    have := Nat.mod_add_div t b
    rw [Nat.mul_comm (t / b)]
    omega
  have h2 : t * b ^ k = f * (u k * b ^ k) + e k * b ^ k + cr * b ^ k := by
    rw [ht, Nat.add_mul, Nat.add_mul, Nat.mul_assoc]
  rw [Nat.mul_add]
  omega
theorem am_bound {f u d c : Nat} (hf : f < b) (hu : u < b) (hd : d < b) (hc : c < b) : f * u + d + c < b * b := by
  have h1 : (f + 1) * (u + 1) ≤ b * b := Nat.mul_le_mul hf hu
  obtain ⟨m, rfl⟩ : ∃ m, b = m + 1 := ⟨b - 1, by omega⟩
  have h2 : f * u ≤ m * m := Nat.mul_le_mul (by omega) (by omega)
  have h3 : (m + 1) * (m + 1) = m * m + 2 * m + 1 := by rw [Nat.mul_add, Nat.add_mul]; omega
  omega
theorem am_end {c d : Nat → Nat} {place n rest X : Nat} (hlo : ∀ j, j < place → c j = d j) (hhi : ∀ j, place + n ≤ j → c j = d j) (hw : vl b (fun j => c (place + j)) n = X + vl b (fun j => d (place + j)) n) : vl b c (place + n + rest) = vl b d (place + n + rest) + X * b ^ place := by
  rw [vl_split b c (place + n), vl_split b d (place + n), vl_split b c place, vl_split b d place, hw, vl_congr hlo]
  rw [vl_congr (n := rest) (d := fun j => c (place + n + j)) (e := fun j => d (place + n + j)) (fun j _ => hhi _ (by omega))]
  rw [Nat.add_mul]
  omega
/-! shifts by whole digits -/
theorem dg_up (hb : 1 < b) {X u k : Nat} : dg b (X * b ^ u) (k + u) = dg b X k := by
  unfold dg
  rw [Nat.pow_add, Nat.mul_div_mul_right _ _ (bp_pos hb u)]
theorem dg_up0 (hb : 1 < b) {X u k : Nat} (h : k < u) : dg b (X * b ^ u) k = 0 := by
  have := dg_add_hi hb (X := 0) (Y := X) h
  rw [Nat.zero_add] at this
  rw [this, dg_zero]
theorem dg_down {X u k : Nat} : dg b (X / b ^ u) k = dg b X (k + u) := by
  unfold dg
  rw [Nat.div_div_eq_div_mul, ← Nat.pow_add, Nat.add_comm]
end
end
section
/-! BITS AND SHIFTS, in base 2^w -/
theorem bl_zero : bl 0 = 0 := rfl
theorem bl_le {N c : Nat} : bl N ≤ c ↔ N < 2 ^ c := by
  unfold bl
  split
  · rename_i h
    rw [h]
    exact ⟨fun _ => Nat.pow_pos (by decide), fun _ => Nat.zero_le c⟩
  · rename_i h
    rw [← Nat.log2_lt h]
    omega
theorem bl_lt {N c : Nat} : c < bl N ↔ 2 ^ c ≤ N := by
  have := @bl_le N c
  omega
theorem lt_bl (N : Nat) : N < 2 ^ bl N := bl_le.mp (Nat.le_refl _)
theorem bl_eq {N c : Nat} (h1 : 2 ^ c ≤ N) (h2 : N < 2 ^ (c + 1)) : bl N = c + 1 := by
  have := bl_le.mpr h2
  have := bl_lt.mpr h1
  omega
theorem bl_pos {N : Nat} (h : 0 < N) : 0 < bl N := (@bl_lt N 0).mpr (by rw [Nat.pow_zero]; exact h)
theorem bl_eq_zero {N : Nat} : bl N = 0 ↔ N = 0 := by
  have := @bl_le N 0
  rw [Nat.pow_zero] at this
  omega
theorem bl_mono {M N : Nat} (h : M ≤ N) : bl M ≤ bl N := bl_le.mpr (Nat.lt_of_le_of_lt h (lt_bl N))
theorem two_lt {w : Nat} (hw : 0 < w) : 1 < 2 ^ w := Nat.one_lt_two_pow (by omega)
theorem bp_two (w n : Nat) : (2 ^ w) ^ n = 2 ^ (w * n) := by rw [Nat.pow_mul]
theorem bl_top {w N : Nat} (hw : 0 < w) (h : 0 < N) : bl N + w = w * nd (2 ^ w) N + bl (dg (2 ^ w) N (nd (2 ^ w) N - 1)) := by
  have hb := two_lt hw
  have h0 : nd (2 ^ w) N ≠ 0 := fun q => by have := (nd_eq_zero hb).mp q; omega
  have ht := dg_top hb h
  obtain ⟨c, hc⟩ : ∃ c, bl (dg (2 ^ w) N (nd (2 ^ w) N - 1)) = c + 1 := ⟨bl (dg (2 ^ w) N (nd (2 ^ w) N - 1)) - 1, by have := bl_pos (Nat.pos_of_ne_zero ht); omega⟩
  have h1 : 2 ^ c ≤ dg (2 ^ w) N (nd (2 ^ w) N - 1) := bl_lt.mp (by omega)
  have h2 : dg (2 ^ w) N (nd (2 ^ w) N - 1) < 2 ^ (c + 1) := bl_le.mp (by omega)
  rw [dg_top_eq hb h] at h1 h2
  have h3 : 2 ^ (c + w * (nd (2 ^ w) N - 1)) ≤ N := by
    rw [Nat.pow_add, ← bp_two]
    exact (Nat.le_div_iff_mul_le (bp_pos hb _)).mp h1
  have h4 : N < 2 ^ (c + w * (nd (2 ^ w) N - 1) + 1) := by
    rw [show c + w * (nd (2 ^ w) N - 1) + 1 = (c + 1) + w * (nd (2 ^ w) N - 1) by omega, Nat.pow_add, ← bp_two]
    exact (Nat.div_lt_iff_lt_mul (bp_pos hb _)).mp h2
  rw [bl_eq h3 h4, hc]
  obtain ⟨m, hm⟩ : ∃ m, nd (2 ^ w) N = m + 1 := ⟨nd (2 ^ w) N - 1, by omega⟩
  rw [hm, Nat.mul_add, Nat.add_sub_cancel]
  omega
theorem bb_split {w l : Nat} (h : l ≤ w) : 2 ^ w = 2 ^ l * 2 ^ (w - l) := by
  rw [← Nat.pow_add, show l + (w - l) = w by omega]
theorem md_shift {x c p q : Nat} (hq : 0 < q) (hc : c < p) : (x * p + c) % (p * q) = x * p % (p * q) + c := by
  have hp : 0 < p := by omega
  rw [Nat.mul_comm x p, Nat.mul_mod_mul_left]
  have e : p * x + c = (p * (x % q) + c) + p * q * (x / q) := by
    have h1 := Nat.mod_add_div x q
    conv => lhs; rw [← h1, Nat.mul_add, ← Nat.mul_assoc]
    omega
  rw [e, Nat.add_mul_mod_self_left, Nat.mod_eq_of_lt]
  have h2 := Nat.mod_lt x hq
  have h3 : p * (x % q + 1) ≤ p * q := Nat.mul_le_mul_left _ h2
  rw [Nat.mul_add] at h3
  omega
theorem md_mul (x p b : Nat) : x * p % b = x % b * p % b := by
  conv => lhs; rw [Nat.mul_mod]
  conv => rhs; rw [Nat.mul_mod, Nat.mod_mod]
/-- a digit of A * 2^l -/
theorem dg_shl0 (b A p : Nat) : dg b (A * p) 0 = dg b A 0 * p % b := by
  unfold dg
  simp only [Nat.pow_zero, Nat.div_one]
  exact md_mul _ _ _
theorem dg_shl_g {b p q : Nat} (hb : 1 < b) (hbb : b = p * q) (A k : Nat) : dg b (A * p) (k + 1) = dg b A (k + 1) * p % b + dg b A k / q := by
  have hp : 0 < p := by rcases Nat.eq_zero_or_pos p with z | z; · rw [z] at hbb; omega
                        · exact z
  have hq : 0 < q := by rcases Nat.eq_zero_or_pos q with z | z; · rw [z] at hbb; omega
                        · exact z
  have hk := bp_pos hb k
  have e1 : A * p / b ^ k = A / b ^ k * p + A % b ^ k * p / b ^ k := by
    have h1 := Nat.mod_add_div A (b ^ k)
    have h2 : A * p = A % b ^ k * p + b ^ k * (A / b ^ k * p) := by
      conv => lhs; rw [← h1, Nat.add_mul, Nat.mul_assoc]
    rw [h2, Nat.add_mul_div_left _ _ hk, Nat.add_comm]
  have e2 : A % b ^ k * p / b ^ k < p := by
    rw [Nat.div_lt_iff_lt_mul hk, Nat.mul_comm p]
    exact Nat.mul_lt_mul_of_pos_right (Nat.mod_lt _ hk) hp
  have e3 : A * p / b ^ (k + 1) = A / b ^ (k + 1) * p + dg b A k / q := by
    have e30 : A * p / b ^ (k + 1) = A * p / b ^ k / b := by rw [bp_succ, Nat.div_div_eq_div_mul]
    rw [e30, e1, dv_split b A k]
    generalize A % b ^ k * p / b ^ k = c at e2
    generalize A / b ^ (k + 1) = x
    have hy : dg b A k / q < p + 1 := by
      have := dg_lt hb A k
      rw [Nat.div_lt_iff_lt_mul hq, Nat.add_mul]
      omega
    generalize dg b A k = y
    rw [show (x * b + y) * p + c = (y * p + c) + b * (x * p) by rw [Nat.add_mul, Nat.mul_comm x b, Nat.mul_assoc]; omega, Nat.add_mul_div_left _ _ (by omega)]
    have : (y * p + c) / b = y / q := by
      rw [hbb, ← Nat.div_div_eq_div_mul, Nat.add_comm, Nat.add_mul_div_right _ _ hp, Nat.div_eq_of_lt e2, Nat.zero_add]
    rw [this, Nat.add_comm]
  have e4 : dg b A k / q < p := by
    rw [Nat.div_lt_iff_lt_mul hq, ← hbb]
    exact dg_lt hb A k
  have e5 : dg b (A * p) (k + 1) = (A / b ^ (k + 1) * p + dg b A k / q) % (p * q) := by
    rw [← hbb, ← e3]
    rfl
  rw [e5, md_shift hq e4, ← hbb]
  congr 1
  conv => rhs; unfold dg
  exact md_mul _ _ _
/-- a digit of A / 2^l -/
theorem dg_shr_g {b p q : Nat} (hb : 1 < b) (hbb : b = p * q) (A k : Nat) : dg b (A / p) k = dg b A (k + 1) * q % b + dg b A k / p := by
  have hp : 0 < p := by rcases Nat.eq_zero_or_pos p with z | z; · rw [z] at hbb; omega
                        · exact z
  have hq : 0 < q := by rcases Nat.eq_zero_or_pos q with z | z; · rw [z] at hbb; omega
                        · exact z
  have e1 : A / p / b ^ k = A / b ^ (k + 1) * q + dg b A k / p := by
    rw [Nat.div_div_eq_div_mul, Nat.mul_comm, ← Nat.div_div_eq_div_mul, dv_split b A k]
    generalize A / b ^ (k + 1) = x
    generalize dg b A k = y
    rw [show x * b + y = y + (x * q) * p by rw [hbb, Nat.mul_assoc, Nat.mul_comm q p]; omega, Nat.add_mul_div_right _ _ hp, Nat.add_comm]
  have e2 : dg b A k / p < q := by
    rw [Nat.div_lt_iff_lt_mul hp, Nat.mul_comm, ← hbb]
    exact dg_lt hb A k
  have e5 : dg b (A / p) k = (A / b ^ (k + 1) * q + dg b A k / p) % (q * p) := by
    rw [Nat.mul_comm q p, ← hbb, ← e1]
    rfl
  rw [e5, md_shift hp e2, Nat.mul_comm q p, ← hbb]
  congr 1
  conv => rhs; unfold dg
  exact md_mul _ _ _
end
section
/-! THE GUESS OF A QUOTIENT'S DIGIT. S: the divisor, W: the window; v, t: what their places from some P on hold -/
theorem qg_lo {W S P v u : Nat} (hS : 0 < S) (hP : 0 < P) (hv : v * P ≤ S) (hu : u = W / P) (hv0 : 0 < v) : W / S ≤ u / v := by
  rw [Nat.le_div_iff_mul_le hv0, hu, Nat.le_div_iff_mul_le hP, Nat.mul_assoc]
  exact Nat.le_trans (Nat.mul_le_mul_left _ hv) (by rw [Nat.mul_comm]; exact Nat.mul_div_le W S)
theorem qg_down {W S P T t g : Nat} (hP : 0 < P) (hS : 0 < S) (hT : T * P ≤ S) (ht : t = W / P) (h : t < g * T) : W / S < g := by
  rw [Nat.div_lt_iff_lt_mul hS]
  have h1 : W < (t + 1) * P := by
    rw [ht]
    have := Nat.lt_mul_div_succ W hP
    rw [Nat.mul_comm]
    exact this
  have h2 : (t + 1) * P ≤ g * T * P := Nat.mul_le_mul_right _ h
  have h3 : g * T * P ≤ g * S := by rw [Nat.mul_assoc]; exact Nat.mul_le_mul_left _ hT
  omega
theorem qg_up {W S P T t g : Nat} (hP : 0 < P) (hS : 0 < S) (hT : S < (T + 1) * P) (ht : t = W / P) (h : g * T ≤ t) (hg : g ≤ T + 1) : g ≤ W / S + 1 := by
  rcases Nat.eq_zero_or_pos g with q | q
  · rw [q]; exact Nat.zero_le _
  · obtain ⟨b, rfl⟩ : ∃ b, g = b + 1 := ⟨g - 1, by omega⟩
    have h1 : b ≤ W / S := by
      rw [Nat.le_div_iff_mul_le hS]
      have h2 : b * S ≤ b * ((T + 1) * P) := Nat.mul_le_mul_left _ (Nat.le_of_lt hT)
      have h3 : b * (T + 1) ≤ (b + 1) * T := by
        rw [Nat.mul_add, Nat.add_mul]
        omega
      have h4 : b * ((T + 1) * P) ≤ (b + 1) * T * P := by rw [← Nat.mul_assoc]; exact Nat.mul_le_mul_right _ h3
      have h5 : (b + 1) * T * P ≤ t * P := Nat.mul_le_mul_right _ h
      have h6 : t * P ≤ W := by rw [ht, Nat.mul_comm]; exact Nat.mul_div_le W P
      omega
    omega
/-- a pair of 64 bits without a sign, halved, divided, doubled -/
theorem qp_half {u v : Nat} (hv : 0 < v) : u / v = u / 2 / v * 2 ∨ u / v = u / 2 / v * 2 + 1 := by
  have h1 : u / 2 / v = u / v / 2 := by rw [Nat.div_div_eq_div_mul, Nat.div_div_eq_div_mul, Nat.mul_comm]
  rw [h1]
  omega
theorem qp_rest {u v : Nat} (hv : 0 < v) : (if v ≤ u - u / 2 / v * 2 * v then u / 2 / v * 2 + 1 else u / 2 / v * 2) = u / v := by
  have h0 := Nat.div_add_mod u v
  have h1 := Nat.mod_lt u hv
  have hc : v * (u / v) = u / v * v := Nat.mul_comm _ _
  rcases qp_half (u := u) hv with q | q
  · rw [← q, if_neg (by omega)]
  · have e : u / v * v = u / 2 / v * 2 * v + v := by rw [q, Nat.add_mul, Nat.one_mul]
    rw [if_pos (by omega), ← q]
end
section
/-! ===== lN n to 2^64: shifts, and, or, masks, one bit ===== -/
theorem wb_tb (n : Nat) : (lN n).toBitVec = BitVec.ofNat 64 n := rfl
theorem wb_inj {a b : Int64} (h : a.toBitVec = b.toBitVec) : a = b := Int64.toBitVec_inj.mp h
theorem wb_tn {n : Nat} (h : n < 2 ^ 64) : (lN n).toBitVec.toNat = n := by rw [wb_tb, BitVec.toNat_ofNat, Nat.mod_eq_of_lt h]
theorem wb_of (x : Int64) : ∃ n, n < 2 ^ 64 ∧ x = lN n := ⟨x.toBitVec.toNat, x.toBitVec.isLt, wb_inj (by rw [wb_tb]; simp)⟩
theorem wb_of32 (x : Int32) : ∃ n, n < 2 ^ 32 ∧ x = nI n := ⟨x.toBitVec.toNat, x.toBitVec.isLt, Int32.toBitVec_inj.mp (by show _ = BitVec.ofNat 32 _; simp)⟩
theorem wb_c : ∀ k, k < 64 → ((nI k).toInt64 &&& 63) = lN k := by decide +kernel
theorem wb_cu : ∀ k, k < 64 → ((nI k).toInt64.toUInt64 &&& Int64.toUInt64 63) = UInt64.ofNat k := by decide +kernel
theorem wb_sm : ∀ k, k < 64 → (BitVec.ofNat 64 k).smod 64 = BitVec.ofNat 64 k := by decide +kernel
theorem wb_pw {a b : Nat} (h : a ≤ b) : 2 ^ b = 2 ^ a * 2 ^ (b - a) := by rw [← Nat.pow_add]; congr 1; omega
theorem wb_lt2 {a b : Nat} (h : a < b) : 2 ^ a < 2 ^ b := Nat.pow_lt_pow_right (by decide) h
theorem wb_mod (n : Nat) : lN n = lN (n % 2 ^ 64) := wb_inj (by rw [wb_tb, wb_tb]; apply BitVec.eq_of_toNat_eq; rw [BitVec.toNat_ofNat, BitVec.toNat_ofNat, Nat.mod_mod])
theorem wb_shr {n k : Nat} (hn : n < 2 ^ 64) (hk : k < 64) : ((lN n).toUInt64 >>> ((nI k).toInt64.toUInt64 &&& Int64.toUInt64 63)).toInt64 = lN (n / 2 ^ k) := by
  rw [wb_cu k hk]
  apply wb_inj
  apply BitVec.eq_of_toNat_eq
  show ((lN n).toUInt64 >>> UInt64.ofNat k).toNat = (BitVec.ofNat 64 _).toNat
  have h1 : (UInt64.ofNat k).toNat = k := by
    show (BitVec.ofNat 64 k).toNat = k
    rw [BitVec.toNat_ofNat, Nat.mod_eq_of_lt (by omega)]
  have h2 : (lN n).toUInt64.toNat = n := wb_tn hn
  rw [UInt64.toNat_shiftRight, h1, h2, Nat.mod_eq_of_lt hk, Nat.shiftRight_eq_div_pow, BitVec.toNat_ofNat, Nat.mod_eq_of_lt (Nat.lt_of_le_of_lt (Nat.div_le_self _ _) hn)]
theorem wb_shl (n : Nat) {k : Nat} (hk : k < 64) : lN n <<< ((nI k).toInt64 &&& 63) = lN (n * 2 ^ k) := by
  rw [wb_c k hk]
  apply wb_inj
  rw [Int64.toBitVec_shiftLeft, wb_tb, wb_tb, wb_tb, wb_sm k hk]
  apply BitVec.eq_of_toNat_eq
  rw [BitVec.shiftLeft_eq', BitVec.toNat_shiftLeft, BitVec.toNat_ofNat, BitVec.toNat_ofNat, BitVec.toNat_ofNat, Nat.mod_eq_of_lt (show k < 2 ^ 64 by omega), Nat.shiftLeft_eq, Nat.mul_mod, Nat.mod_mod, ← Nat.mul_mod]
theorem wb_and {a b : Nat} (ha : a < 2 ^ 64) (hb : b < 2 ^ 64) : lN a &&& lN b = lN (a &&& b) := by
  apply wb_inj
  rw [Int64.toBitVec_and, wb_tb, wb_tb, wb_tb]
  apply BitVec.eq_of_toNat_eq
  rw [BitVec.toNat_and, BitVec.toNat_ofNat, BitVec.toNat_ofNat, BitVec.toNat_ofNat, Nat.mod_eq_of_lt ha, Nat.mod_eq_of_lt hb, Nat.mod_eq_of_lt (Nat.and_lt_two_pow _ hb)]
theorem wb_or {a b : Nat} (ha : a < 2 ^ 64) (hb : b < 2 ^ 64) : lN a ||| lN b = lN (a ||| b) := by
  apply wb_inj
  rw [Int64.toBitVec_or, wb_tb, wb_tb, wb_tb]
  apply BitVec.eq_of_toNat_eq
  rw [BitVec.toNat_or, BitVec.toNat_ofNat, BitVec.toNat_ofNat, BitVec.toNat_ofNat, Nat.mod_eq_of_lt ha, Nat.mod_eq_of_lt hb, Nat.mod_eq_of_lt (Nat.or_lt_two_pow ha hb)]
theorem wb_mask {n k : Nat} (hn : n < 2 ^ 64) (hk : k < 64) : lN n &&& lN (2 ^ k - 1) = lN (n % 2 ^ k) := by
  rw [wb_and hn (by have := wb_lt2 hk; omega), Nat.and_two_pow_sub_one_eq_mod]
theorem wb_a1 {n : Nat} (hn : n < 2 ^ 64) : lN n &&& 1 = lN (n % 2) := wb_mask (k := 1) hn (by decide)
theorem wb_bit {n k : Nat} (hn : n < 2 ^ 64) (hk : k < 64) : ((lN n).toUInt64 >>> ((nI k).toInt64.toUInt64 &&& Int64.toUInt64 63)).toInt64 &&& 1 = lN (n / 2 ^ k % 2) := by
  rw [wb_shr hn hk, wb_a1 (Nat.lt_of_le_of_lt (Nat.div_le_self _ _) hn)]
theorem wb_xor {q k : Nat} (hk : k < 63) (h : 2 ^ k ≤ q) (h2 : q < 2 ^ (k + 1)) : lN q ^^^ lN (2 ^ k) = lN (q - 2 ^ k) := by
  obtain ⟨r, rfl⟩ : ∃ r, q = 2 ^ k + r := ⟨q - 2 ^ k, by omega⟩
  have hr : r < 2 ^ k := by rw [Nat.pow_succ] at h2; omega
  have hx : (2 ^ k + r) ^^^ 2 ^ k = r := by
    apply Nat.eq_of_testBit_eq
    intro i
    rw [Nat.testBit_xor, Nat.testBit_two_pow]
    rcases Nat.lt_trichotomy i k with h | h | h
    · rw [Nat.testBit_two_pow_add_gt h]
      simp [show ¬ k = i by omega]
    · subst h
      rw [Nat.testBit_two_pow_add_eq]
      simp
    · have a1 : 2 ^ (k + 1) ≤ 2 ^ i := Nat.pow_le_pow_right (by decide) h
      rw [Nat.testBit_lt_two_pow (show 2 ^ k + r < 2 ^ i by omega), Nat.testBit_lt_two_pow (show r < 2 ^ i by omega)]
      simp [show ¬ k = i by omega]
  have b1 := wb_lt2 (show k + 1 < 64 by omega)
  have b2 := wb_lt2 (show k < 64 by omega)
  apply wb_inj
  rw [Int64.toBitVec_xor, wb_tb, wb_tb, wb_tb]
  apply BitVec.eq_of_toNat_eq
  rw [BitVec.toNat_xor, BitVec.toNat_ofNat, BitVec.toNat_ofNat, BitVec.toNat_ofNat, Nat.mod_eq_of_lt (by omega : 2 ^ k + r < 2 ^ 64), Nat.mod_eq_of_lt b2, hx, Nat.add_sub_cancel_left, Nat.mod_eq_of_lt (by omega)]
/-! ===== lN: masks, 'or' of parts that don't overlap is a sum ===== -/
theorem u_tn {n : Nat} (h : n < 2 ^ 64) : (UInt64.ofNat n).toNat = n := Nat.mod_eq_of_lt h
theorem g_and {a b c : Nat} (ha : a < 2 ^ 64) (hb : b < 2 ^ 64) (hc : a &&& b = c) : lN a &&& lN b = lN c := by
  subst hc
  have h : UInt64.ofNat a &&& UInt64.ofNat b = UInt64.ofNat (a &&& b) := UInt64.toNat_inj.mp (by rw [UInt64.toNat_and, u_tn ha, u_tn hb, u_tn (Nat.and_lt_two_pow a hb)])
  have h2 := congrArg UInt64.toInt64 h
  exact h2
theorem g_and1 {a : Nat} (ha : a < 2 ^ 64) : lN a &&& 1 = lN (a % 2) := g_and (b := 1) ha (by decide) (Nat.and_two_pow_sub_one_eq_mod a 1)
theorem g_mask {a s p : Nat} (hp : 2 ^ s = p) (hs : s < 64) (ha : a < 2 ^ 64) : lN a &&& lN (p - 1) = lN (a % p) := by
  subst hp
  have := Nat.pow_lt_pow_right (show 1 < 2 by decide) hs
  exact g_and ha (by omega) (Nat.and_two_pow_sub_one_eq_mod a s)
theorem g_or {k p a b : Nat} (hp : 2 ^ k = p) (ha : a < p) (h : b * p + a < 2 ^ 64) : lN (b * p) ||| lN a = lN (b * p + a) := by
  subst hp
  have h1 : b * 2 ^ k ||| a = b * 2 ^ k + a := by rw [← Nat.shiftLeft_eq, Nat.shiftLeft_add_eq_or_of_lt ha]
  have h3 : UInt64.ofNat (b * 2 ^ k) ||| UInt64.ofNat a = UInt64.ofNat (b * 2 ^ k + a) := UInt64.toNat_inj.mp (by rw [UInt64.toNat_or, u_tn (by omega), u_tn (by omega), u_tn h, h1])
  have h2 := congrArg UInt64.toInt64 h3
  exact h2
theorem g_or' {k p a b : Nat} (hp : 2 ^ k = p) (ha : a < p) (h : a + b * p < 2 ^ 64) : lN a ||| lN (b * p) = lN (a + b * p) := by
  rw [Int64.or_comm, g_or hp ha (by omega), Nat.add_comm]
theorem g_ushr {a k p : Nat} {y : UInt64} (hy : y = UInt64.ofNat k) (hk : k < 64) (hp : 2 ^ k = p) (ha : a < 2 ^ 64) : ((lN a).toUInt64 >>> y).toInt64 = lN (a / p) := by
  subst hy hp
  have h : UInt64.ofNat a >>> UInt64.ofNat k = UInt64.ofNat (a / 2 ^ k) := UInt64.toNat_inj.mp (by rw [UInt64.toNat_shiftRight, u_tn ha, u_tn (by omega), u_tn (Nat.lt_of_le_of_lt (Nat.div_le_self _ _) ha), Nat.mod_eq_of_lt hk, Nat.shiftRight_eq_div_pow])
  have h2 := congrArg UInt64.toInt64 h
  exact h2
theorem g_shl {a k p : Nat} {y : Int64} (hy : y.toBitVec.smod 64 = BitVec.ofNat 64 k) (hk : k < 64) (hp : 2 ^ k = p) (ha : a < 2 ^ 64) : lN a <<< y = lN (a * p) := by
  subst hp
  apply Int64.toBitVec_inj.mp
  rw [Int64.toBitVec_shiftLeft, hy]
  apply BitVec.eq_of_toNat_eq
  have hb : (lN a).toBitVec.toNat = a := Nat.mod_eq_of_lt ha
  have hk' : (BitVec.ofNat 64 k).toNat = k := Nat.mod_eq_of_lt (by omega)
  have h : ((lN a).toBitVec <<< BitVec.ofNat 64 k).toNat = (a * 2 ^ k) % 2 ^ 64 := by simp only [BitVec.shiftLeft_eq', BitVec.toNat_shiftLeft, hb, hk', Nat.shiftLeft_eq]
  exact h
/-! ===== unsigned comparison by xor with the least ===== -/
theorem lN_bv (n : Nat) : (lN n).toBitVec = BitVec.ofNat 64 n := rfl
theorem lN_nat {n : Nat} (h : n < 2 ^ 64) : (lN n).toBitVec.toNat = n := by rw [lN_bv, BitVec.toNat_ofNat]; exact Nat.mod_eq_of_lt h
theorem lN_xor (a b : Nat) : lN a ^^^ lN b = lN (a ^^^ b) := by
  apply Int64.toBitVec_inj.mp; rw [Int64.toBitVec_xor, lN_bv, lN_bv, lN_bv]; apply BitVec.eq_of_getLsbD_eq; intro i hi; simp [BitVec.getLsbD_ofNat, Nat.testBit_xor, hi]
theorem lN_ti {m : Nat} (h : m < 2 ^ 64) : (lN m).toInt = if m < 2 ^ 63 then (m : Int) else (m : Int) - 2 ^ 64 := by
  have c := BitVec.toInt_eq_toNat_cond (lN m).toBitVec
  rw [lN_nat h] at c
  show (lN m).toBitVec.toInt = _
  rw [c]
  split <;> split <;> omega
theorem xor63 {x : Nat} (h : x < 2 ^ 63) : x ^^^ 2 ^ 63 = 2 ^ 63 + x := by
  apply Nat.eq_of_testBit_eq
  intro i
  rw [Nat.testBit_xor, Nat.testBit_two_pow]
  rcases Nat.lt_trichotomy i 63 with z | z | z
  · rw [Nat.testBit_two_pow_add_gt z, decide_eq_false (by omega)]; simp
  · subst z; rw [Nat.testBit_two_pow_add_eq]; simp
  · have hp : 2 ^ 64 ≤ 2 ^ i := Nat.pow_le_pow_right (by decide) z
    rw [Nat.testBit_lt_two_pow (show x < 2 ^ i by omega), Nat.testBit_lt_two_pow (show 2 ^ 63 + x < 2 ^ i by omega), decide_eq_false (by omega)]; rfl
theorem xorS {a : Nat} (h : a < 2 ^ 64) : (lN a ^^^ (-9223372036854775808)).toInt = (a : Int) - 2 ^ 63 := by
  rw [show (-9223372036854775808 : Int64) = lN (2 ^ 63) from by decide +kernel, lN_xor]
  rcases Nat.lt_or_ge a (2 ^ 63) with z | z
  · rw [xor63 z, lN_ti (by omega), if_neg (by omega)]; omega
  · obtain ⟨x, rfl⟩ : ∃ x, a = 2 ^ 63 + x := ⟨a - 2 ^ 63, by omega⟩
    rw [← xor63 (by omega), Nat.xor_assoc, Nat.xor_self, Nat.xor_zero, lN_ti (by omega), if_pos (by omega), xor63 (by omega)]; omega
theorem ultL {a b : Nat} (ha : a < 2 ^ 64) (hb : b < 2 ^ 64) : ((lN b ^^^ (-9223372036854775808)) ≤ (lN a ^^^ (-9223372036854775808))) ↔ b ≤ a := by
  rw [Int64.le_iff_toInt_le, xorS ha, xorS hb]; omega
/-! the longs of the loops -/
theorem ln_mask (n : Nat) : lN n &&& 4294967295 = lN (n % 4294967296) := by
  have h := wb_mask (n := n % 2 ^ 64) (k := 32) (Nat.mod_lt _ (by decide)) (by decide)
  rw [← wb_mod] at h
  have e : n % 2 ^ 64 % 2 ^ 32 = n % 4294967296 := by omega
  rw [e] at h
  exact h
theorem ln_shr32 {n : Nat} (h : n < 18446744073709551616) : ((lN n).toUInt64 >>> ((32 : Int32).toInt64.toUInt64 &&& Int64.toUInt64 63)).toInt64 = lN (n / 4294967296) := wb_shr (k := 32) h (by decide)
theorem ln_shr63 {n : Nat} (h : n < 18446744073709551616) : ((lN n).toUInt64 >>> ((63 : Int32).toInt64.toUInt64 &&& Int64.toUInt64 63)).toInt64 = lN (n / 9223372036854775808) := wb_shr (k := 63) h (by decide)
theorem ln_wrap (n : Nat) : lN (n + 18446744073709551616) = lN n := by
  have e : (n + 18446744073709551616) % 2 ^ 64 = n % 2 ^ 64 := by omega
  rw [wb_mod, e, ← wb_mod]
theorem ln_sub2 {a w b : Nat} (hw : w ≤ 1) (hb : b < 4294967296) : lN a - lN w - lN b = lN (a + 18446744073709551616 - w - b) := by
  rw [← ln_wrap a, lN_sub (by omega), lN_sub (by omega)]
theorem ln_eq {a b : Nat} (ha : a < 18446744073709551616) (hb : b < 18446744073709551616) (h : lN a = lN b) : a = b := by
  have h1 := wb_tn (n := a) ha
  have h2 := wb_tn (n := b) hb
  rw [h] at h1
  exact h1.symm.trans h2
theorem ln_ne0 {a : Nat} (ha : a < 18446744073709551616) (h : a ≠ 0) : lN a ≠ 0 := fun q => h (ln_eq ha (by decide) (q.trans (show (0 : Int64) = lN 0 from rfl)))
end
section
/-! THE POOL OF WHOLES. L: their addresses; ar, cp, cn, fn: of each its row's address, the row's length, its count, its digits; r: all other tracked cells. iW: the number of the class Whole in the table, cJ: the class of long[] -/
def rw_at (iW : Nat) (cJ : ClassId) (L : List Nat) (r : vx_h) (ar cp : Nat → Nat) (cn : Nat → Int32) (fn : Nat → Nat → Int64) (h : vx_h) : Prop :=
  (∀ (b : Nat) (e : va_E), r b = some e → h b = some e ∧ b ∉ L ∧ ∀ q ∈ L, b ≠ ar q) ∧
  (∀ p ∈ L, h p = some (.inr (iW, [.ref (ar p), .int (cn p)])) ∧ h (ar p) = some (.inl (cJ, cp p, .inr (.inl (fn p)))) ∧ 4 ≤ cp p ∧ cp p ≤ 8200) ∧
  (∀ p q : Nat, p ∈ L → q ∈ L → ar p = ar q → p = q)
section
variable {iW : Nat} {cJ : ClassId} {L : List Nat} {r : vx_h} {ar cp : Nat → Nat} {cn : Nat → Int32} {fn : Nat → Nat → Int64} {h : vx_h} {p : Nat}
theorem rw_obj (H : rw_at iW cJ L r ar cp cn fn h) (hp : p ∈ L) : h p = some (.inr (iW, [.ref (ar p), .int (cn p)])) := (H.2.1 p hp).1
theorem rw_row (H : rw_at iW cJ L r ar cp cn fn h) (hp : p ∈ L) : h (ar p) = some (.inl (cJ, cp p, .inr (.inl (fn p)))) := (H.2.1 p hp).2.1
theorem rw_cap (H : rw_at iW cJ L r ar cp cn fn h) (hp : p ∈ L) : 4 ≤ cp p ∧ cp p ≤ 8200 := (H.2.1 p hp).2.2
theorem rw_ne (H : rw_at iW cJ L r ar cp cn fn h) (hp : p ∈ L) {q : Nat} (hq : q ∈ L) : ar q ≠ p := by
  intro e
  have h1 := rw_row H hq
  rw [e, rw_obj H hp] at h1
  cases h1
theorem rw_r (H : rw_at iW cJ L r ar cp cn fn h) {b : Nat} {e : va_E} (he : r b = some e) : h b = some e := (H.1 b e he).1
theorem rw_cn (H : rw_at iW cJ L r ar cp cn fn h) (hp : p ∈ L) (c : Int32) : rw_at iW cJ L r ar cp (va_up cn p c) fn (vx_up h p (.inr (iW, [.ref (ar p), .int c]))) := by
  refine ⟨fun b e he => ?_, fun q hq => ?_, H.2.2⟩
  · obtain ⟨h1, h2, h3⟩ := H.1 b e he
    refine ⟨?_, h2, h3⟩
    rw [vx_up_n (show b ≠ p from fun z => h2 (by rw [z]; exact hp))]
    exact h1
  · obtain ⟨h1, h2, h3⟩ := H.2.1 q hq
    refine ⟨?_, ?_, h3⟩
    · by_cases z : q = p
      · subst z
        rw [vx_up_s, va_up_self]
      · rw [vx_up_n z, va_up_ne _ _ z]
        exact h1
    · rw [vx_up_n (rw_ne H hp hq)]
      exact h2
theorem rw_fn (H : rw_at iW cJ L r ar cp cn fn h) (hp : p ∈ L) (g : Nat → Int64) : rw_at iW cJ L r ar cp cn (va_up fn p g) (vx_up h (ar p) (.inl (cJ, cp p, .inr (.inl g)))) := by
  refine ⟨fun b e he => ?_, fun q hq => ?_, H.2.2⟩
  · obtain ⟨h1, h2, h3⟩ := H.1 b e he
    refine ⟨?_, h2, h3⟩
    rw [vx_up_n (h3 p hp)]
    exact h1
  · obtain ⟨h1, h2, h3⟩ := H.2.1 q hq
    refine ⟨?_, ?_, h3⟩
    · rw [vx_up_n (fun z => rw_ne H hq hp z.symm)]
      exact h1
    · by_cases z : q = p
      · subst z
        rw [vx_up_s, va_up_self]
      · rw [vx_up_n (fun y => z (H.2.2 q p hq hp y)), va_up_ne _ _ z]
        exact h2
/-- a new row for p -/
theorem rw_new (H : rw_at iW cJ L r ar cp cn fn h) (hp : p ∈ L) {a c : Nat} (ha : h a = none) (hc : 4 ≤ c) (hc2 : c ≤ 8200) (g : Nat → Int64) : rw_at iW cJ L r (va_up ar p a) (va_up cp p c) cn (va_up fn p g) (vx_up (vx_up h a (.inl (cJ, c, .inr (.inl g)))) p (.inr (iW, [.ref a, .int (cn p)]))) := by
  have hap : a ≠ p := fun z => by rw [z, rw_obj H hp] at ha; cases ha
  have hal : a ∉ L := fun z => by rw [rw_obj H z] at ha; cases ha
  have har : ∀ q ∈ L, ar q ≠ a := fun q hq z => by rw [← z, rw_row H hq] at ha; cases ha
  refine ⟨fun b e he => ?_, fun q hq => ?_, fun x y hx hy e => ?_⟩
  · obtain ⟨h1, h2, h3⟩ := H.1 b e he
    have hba : b ≠ a := fun z => by rw [z, ha] at h1; cases h1
    refine ⟨?_, h2, fun q hq => ?_⟩
    · rw [vx_up_n (show b ≠ p from fun z => h2 (by rw [z]; exact hp)), vx_up_n hba]
      exact h1
    · by_cases z : q = p
      · subst z
        rw [va_up_self]
        exact hba
      · rw [va_up_ne _ _ z]
        exact h3 q hq
  · obtain ⟨h1, h2, h3⟩ := H.2.1 q hq
    by_cases z : q = p
    · subst z
      rw [va_up_self, va_up_self, va_up_self, vx_up_s, vx_up_n hap, vx_up_s]
      exact ⟨rfl, rfl, hc, hc2⟩
    · rw [va_up_ne _ _ z, va_up_ne _ _ z, va_up_ne _ _ z, vx_up_n z, vx_up_n (show q ≠ a from fun y => hal (by rw [← y]; exact hq)), vx_up_n (rw_ne H hp hq), vx_up_n (har q hq)]
      exact ⟨h1, h2, h3⟩
  · by_cases z : x = p <;> by_cases w : y = p
    · rw [z, w]
    · subst z
      rw [va_up_self, va_up_ne _ _ w] at e
      exact absurd e.symm (har y hy)
    · subst w
      rw [va_up_self, va_up_ne _ _ z] at e
      exact absurd e (har x hx)
    · rw [va_up_ne _ _ z, va_up_ne _ _ w] at e
      exact H.2.2 x y hx hy e
/-- another cell is written -/
theorem rw_rset (H : rw_at iW cJ L r ar cp cn fn h) {b : Nat} {e0 : va_E} (hb : r b = some e0) (e : va_E) : rw_at iW cJ L (vx_up r b e) ar cp cn fn (vx_up h b e) := by
  obtain ⟨h1, h2, h3⟩ := H.1 b e0 hb
  refine ⟨fun x f hf => ?_, fun q hq => ?_, H.2.2⟩
  · by_cases z : x = b
    · subst z
      rw [vx_up_s] at hf ⊢
      exact ⟨hf, h2, h3⟩
    · rw [vx_up_n z] at hf ⊢
      exact H.1 x f hf
  · obtain ⟨g1, g2, g3⟩ := H.2.1 q hq
    rw [vx_up_n (show q ≠ b from fun z => h2 (by rw [← z]; exact hq)), vx_up_n (show ar q ≠ b from fun z => h3 q hq z.symm)]
    exact ⟨g1, g2, g3⟩
end
/-! numbers in the pool -/
/-- the Whole p holds the number N -/
def wv (cp : Nat → Nat) (cn : Nat → Int32) (fn : Nat → Nat → Int64) (p N : Nat) : Prop := cn p = nI (nd 4294967296 N) ∧ nd 4294967296 N ≤ cp p ∧ ∀ i, i < nd 4294967296 N → fn p i = lN (dg 4294967296 N i)
/-- what the rows may still cost: slots and cells -/
def ph (cp : Nat → Nat) : List Nat → Nat
  | [] => 0
  | p :: L => (16400 - 2 * cp p) + ph cp L
def pc_ (cp : Nat → Nat) : List Nat → Nat
  | [] => 0
  | p :: L => (8200 - cp p) / 4 + pc_ cp L
theorem ph_same {cp cp' : Nat → Nat} {L : List Nat} (h : ∀ q ∈ L, cp' q = cp q) : ph cp' L = ph cp L := by
  induction L with
  | nil => rfl
  | cons a L ih => rw [ph, ph, ih (fun q hq => h q (List.mem_cons_of_mem _ hq)), h a List.mem_cons_self]
theorem pc_same {cp cp' : Nat → Nat} {L : List Nat} (h : ∀ q ∈ L, cp' q = cp q) : pc_ cp' L = pc_ cp L := by
  induction L with
  | nil => rfl
  | cons a L ih => rw [pc_, pc_, ih (fun q hq => h q (List.mem_cons_of_mem _ hq)), h a List.mem_cons_self]
theorem ph_up {cp : Nat → Nat} {L : List Nat} {p c : Nat} (hn : L.Nodup) (hp : p ∈ L) (h1 : 2 * cp p ≤ c) (h2 : c ≤ 8200) : c + ph (va_up cp p c) L ≤ ph cp L := by
  induction L with
  | nil => cases hp
  | cons a L ih =>
    rw [List.nodup_cons] at hn
    rw [ph, ph]
    rcases List.mem_cons.mp hp with z | z
    · subst z
      rw [va_up_self, ph_same (cp := cp) (cp' := va_up cp p c) (fun q hq => va_up_ne _ _ (fun y => hn.1 (by rw [← y]; exact hq)))]
      omega
    · have ne : a ≠ p := fun y => hn.1 (by rw [y]; exact z)
      rw [va_up_ne _ _ ne]
      have := ih hn.2 z
      omega
theorem pc_up {cp : Nat → Nat} {L : List Nat} {p c : Nat} (hn : L.Nodup) (hp : p ∈ L) (h0 : 4 ≤ cp p) (h1 : 2 * cp p ≤ c) (h2 : c ≤ 8200) : 1 + pc_ (va_up cp p c) L ≤ pc_ cp L := by
  induction L with
  | nil => cases hp
  | cons a L ih =>
    rw [List.nodup_cons] at hn
    rw [pc_, pc_]
    rcases List.mem_cons.mp hp with z | z
    · subst z
      rw [va_up_self, pc_same (cp := cp) (cp' := va_up cp p c) (fun q hq => va_up_ne _ _ (fun y => hn.1 (by rw [← y]; exact hq)))]
      omega
    · have ne : a ≠ p := fun y => hn.1 (by rw [y]; exact z)
      rw [va_up_ne _ _ ne]
      have := ih hn.2 z
      omega
end
