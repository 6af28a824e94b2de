section
-- ===== PART A: goes FIRST, ahead of the names: the tables' words, and 'selects' of the private methods out of them =====
/-- a private method of a class that the tables say can be made, by its rows of tables_1 -/
def lw_okq (q : MethodName × Nat) : Prop := (q.1.cls ≠ "java/lang/invoke/MethodHandle" ∧ q.1.cls ≠ "java/lang/invoke/VarHandle") ∧ Cond.instantiable q.1.cls q.2 ∈ tables_1 ∧ Cond.privateMethod q.1 ∈ tables_1 ∧ Cond.instanceMethod q.1 ∈ tables_1
theorem lw_p0 : lw_okq (⟨"SignedMill", "keep", "(IZ)Z"⟩, 7) := ⟨⟨by decide +kernel, by decide +kernel⟩, List.mem_of_getElem? (i := 12) (by decide +kernel), List.mem_of_getElem? (i := 149) (by decide +kernel), List.mem_of_getElem? (i := 150) (by decide +kernel)⟩
theorem lw_p1 : lw_okq (⟨"SignedMill", "settle", "(ILSignedMill$Whole;Z)V"⟩, 7) := ⟨⟨by decide +kernel, by decide +kernel⟩, List.mem_of_getElem? (i := 12) (by decide +kernel), List.mem_of_getElem? (i := 165) (by decide +kernel), List.mem_of_getElem? (i := 166) (by decide +kernel)⟩
theorem lw_p2 : lw_okq (⟨"SignedMill", "keepSum", "(IILSignedMill$Whole;Z)Z"⟩, 7) := ⟨⟨by decide +kernel, by decide +kernel⟩, List.mem_of_getElem? (i := 12) (by decide +kernel), List.mem_of_getElem? (i := 232) (by decide +kernel), List.mem_of_getElem? (i := 233) (by decide +kernel)⟩
theorem lw_p3 : lw_okq (⟨"SignedMill$Whole", "addMultiple", "(IJLSignedMill$Whole;)V"⟩, 2) := ⟨⟨by decide +kernel, by decide +kernel⟩, List.mem_of_getElem? (i := 21) (by decide +kernel), List.mem_of_getElem? (i := 268) (by decide +kernel), List.mem_of_getElem? (i := 269) (by decide +kernel)⟩
theorem lw_p4 : lw_okq (⟨"SignedMill$Divider", "takeOut", "(II)J"⟩, 3) := ⟨⟨by decide +kernel, by decide +kernel⟩, List.mem_of_getElem? (i := 42) (by decide +kernel), List.mem_of_getElem? (i := 288) (by decide +kernel), List.mem_of_getElem? (i := 289) (by decide +kernel)⟩
theorem lw_p5 : lw_okq (⟨"SignedMill$Divider", "guess", "(II)J"⟩, 3) := ⟨⟨by decide +kernel, by decide +kernel⟩, List.mem_of_getElem? (i := 42) (by decide +kernel), List.mem_of_getElem? (i := 292) (by decide +kernel), List.mem_of_getElem? (i := 293) (by decide +kernel)⟩
theorem lw_p6 : lw_okq (⟨"SignedMill$Divider", "subtract", "(IIJ)Z"⟩, 3) := ⟨⟨by decide +kernel, by decide +kernel⟩, List.mem_of_getElem? (i := 42) (by decide +kernel), List.mem_of_getElem? (i := 307) (by decide +kernel), List.mem_of_getElem? (i := 308) (by decide +kernel)⟩
theorem lw_p7 : lw_okq (⟨"SignedMill$Divider", "addBack", "(II)V"⟩, 3) := ⟨⟨by decide +kernel, by decide +kernel⟩, List.mem_of_getElem? (i := 42) (by decide +kernel), List.mem_of_getElem? (i := 311) (by decide +kernel), List.mem_of_getElem? (i := 312) (by decide +kernel)⟩
theorem lw_p8 : lw_okq (⟨"SignedMill", "endlessDigit", "(III)J"⟩, 7) := ⟨⟨by decide +kernel, by decide +kernel⟩, List.mem_of_getElem? (i := 12) (by decide +kernel), List.mem_of_getElem? (i := 330) (by decide +kernel), List.mem_of_getElem? (i := 331) (by decide +kernel)⟩
theorem lw_p9 : lw_okq (⟨"SignedMill", "shiftUp", "(III)Z"⟩, 7) := ⟨⟨by decide +kernel, by decide +kernel⟩, List.mem_of_getElem? (i := 12) (by decide +kernel), List.mem_of_getElem? (i := 353) (by decide +kernel), List.mem_of_getElem? (i := 354) (by decide +kernel)⟩
theorem lw_p10 : lw_okq (⟨"SignedMill", "shiftDown", "(III)Z"⟩, 7) := ⟨⟨by decide +kernel, by decide +kernel⟩, List.mem_of_getElem? (i := 12) (by decide +kernel), List.mem_of_getElem? (i := 359) (by decide +kernel), List.mem_of_getElem? (i := 360) (by decide +kernel)⟩
theorem lw_p11 : lw_okq (⟨"SignedMill", "findPower", "(LSignedMill$Whole;I)Z"⟩, 7) := ⟨⟨by decide +kernel, by decide +kernel⟩, List.mem_of_getElem? (i := 12) (by decide +kernel), List.mem_of_getElem? (i := 383) (by decide +kernel), List.mem_of_getElem? (i := 384) (by decide +kernel)⟩
theorem lw_p12 : lw_okq (⟨"SignedMill", "multiplyResult", "(LSignedMill$Whole;)Z"⟩, 7) := ⟨⟨by decide +kernel, by decide +kernel⟩, List.mem_of_getElem? (i := 12) (by decide +kernel), List.mem_of_getElem? (i := 389) (by decide +kernel), List.mem_of_getElem? (i := 390) (by decide +kernel)⟩
theorem lw_p13 : lw_okq (⟨"SignedMill$Euclid", "foresee", "()Z"⟩, 11) := ⟨⟨by decide +kernel, by decide +kernel⟩, List.mem_of_getElem? (i := 64) (by decide +kernel), List.mem_of_getElem? (i := 407) (by decide +kernel), List.mem_of_getElem? (i := 408) (by decide +kernel)⟩
theorem lw_p14 : lw_okq (⟨"SignedMill$Euclid", "turn", "(J)Z"⟩, 11) := ⟨⟨by decide +kernel, by decide +kernel⟩, List.mem_of_getElem? (i := 64) (by decide +kernel), List.mem_of_getElem? (i := 418) (by decide +kernel), List.mem_of_getElem? (i := 419) (by decide +kernel)⟩
theorem lw_p15 : lw_okq (⟨"SignedMill$Euclid", "leap", "(Z)V"⟩, 11) := ⟨⟨by decide +kernel, by decide +kernel⟩, List.mem_of_getElem? (i := 64) (by decide +kernel), List.mem_of_getElem? (i := 429) (by decide +kernel), List.mem_of_getElem? (i := 430) (by decide +kernel)⟩
def lw_privs_1 : List (MethodName × Nat) := [(⟨"SignedMill", "keep", "(IZ)Z"⟩, 7), (⟨"SignedMill", "settle", "(ILSignedMill$Whole;Z)V"⟩, 7), (⟨"SignedMill", "keepSum", "(IILSignedMill$Whole;Z)Z"⟩, 7), (⟨"SignedMill$Whole", "addMultiple", "(IJLSignedMill$Whole;)V"⟩, 2), (⟨"SignedMill$Divider", "takeOut", "(II)J"⟩, 3), (⟨"SignedMill$Divider", "guess", "(II)J"⟩, 3), (⟨"SignedMill$Divider", "subtract", "(IIJ)Z"⟩, 3), (⟨"SignedMill$Divider", "addBack", "(II)V"⟩, 3), (⟨"SignedMill", "endlessDigit", "(III)J"⟩, 7), (⟨"SignedMill", "shiftUp", "(III)Z"⟩, 7), (⟨"SignedMill", "shiftDown", "(III)Z"⟩, 7), (⟨"SignedMill", "findPower", "(LSignedMill$Whole;I)Z"⟩, 7), (⟨"SignedMill", "multiplyResult", "(LSignedMill$Whole;)Z"⟩, 7), (⟨"SignedMill$Euclid", "foresee", "()Z"⟩, 11), (⟨"SignedMill$Euclid", "turn", "(J)Z"⟩, 11), (⟨"SignedMill$Euclid", "leap", "(Z)V"⟩, 11)]
theorem lw_r1 : ∀ q ∈ lw_privs_1, lw_okq q := List.forall_mem_cons.mpr ⟨lw_p0, List.forall_mem_cons.mpr ⟨lw_p1, List.forall_mem_cons.mpr ⟨lw_p2, List.forall_mem_cons.mpr ⟨lw_p3, List.forall_mem_cons.mpr ⟨lw_p4, List.forall_mem_cons.mpr ⟨lw_p5, List.forall_mem_cons.mpr ⟨lw_p6, List.forall_mem_cons.mpr ⟨lw_p7, List.forall_mem_cons.mpr ⟨lw_p8, List.forall_mem_cons.mpr ⟨lw_p9, List.forall_mem_cons.mpr ⟨lw_p10, List.forall_mem_cons.mpr ⟨lw_p11, List.forall_mem_cons.mpr ⟨lw_p12, List.forall_mem_cons.mpr ⟨lw_p13, List.forall_mem_cons.mpr ⟨lw_p14, List.forall_mem_cons.mpr ⟨lw_p15, fun _ h => absurd h List.not_mem_nil⟩⟩⟩⟩⟩⟩⟩⟩⟩⟩⟩⟩⟩⟩⟩⟩
theorem lw_p16 : lw_okq (⟨"SignedMill$Euclid", "leapRemainders", "()V"⟩, 11) := ⟨⟨by decide +kernel, by decide +kernel⟩, List.mem_of_getElem? (i := 64) (by decide +kernel), List.mem_of_getElem? (i := 433) (by decide +kernel), List.mem_of_getElem? (i := 434) (by decide +kernel)⟩
theorem lw_p17 : lw_okq (⟨"SignedMill$Euclid", "leapFactors", "()V"⟩, 11) := ⟨⟨by decide +kernel, by decide +kernel⟩, List.mem_of_getElem? (i := 64) (by decide +kernel), List.mem_of_getElem? (i := 443) (by decide +kernel), List.mem_of_getElem? (i := 444) (by decide +kernel)⟩
theorem lw_p18 : lw_okq (⟨"SignedMill$Euclid", "step", "(Z)V"⟩, 11) := ⟨⟨by decide +kernel, by decide +kernel⟩, List.mem_of_getElem? (i := 64) (by decide +kernel), List.mem_of_getElem? (i := 448) (by decide +kernel), List.mem_of_getElem? (i := 449) (by decide +kernel)⟩
theorem lw_p19 : lw_okq (⟨"SignedMill", "isModulus", "(I)Z"⟩, 7) := ⟨⟨by decide +kernel, by decide +kernel⟩, List.mem_of_getElem? (i := 12) (by decide +kernel), List.mem_of_getElem? (i := 458) (by decide +kernel), List.mem_of_getElem? (i := 459) (by decide +kernel)⟩
theorem lw_p20 : lw_okq (⟨"SignedMill", "findInverse", "(II)Z"⟩, 7) := ⟨⟨by decide +kernel, by decide +kernel⟩, List.mem_of_getElem? (i := 12) (by decide +kernel), List.mem_of_getElem? (i := 462) (by decide +kernel), List.mem_of_getElem? (i := 463) (by decide +kernel)⟩
theorem lw_p21 : lw_okq (⟨"SignedMill", "reduce", "(II)V"⟩, 7) := ⟨⟨by decide +kernel, by decide +kernel⟩, List.mem_of_getElem? (i := 12) (by decide +kernel), List.mem_of_getElem? (i := 466) (by decide +kernel), List.mem_of_getElem? (i := 467) (by decide +kernel)⟩
theorem lw_p22 : lw_okq (⟨"SignedMill", "findPowerByModulus", "(LSignedMill$Whole;LSignedMill$Whole;)V"⟩, 7) := ⟨⟨by decide +kernel, by decide +kernel⟩, List.mem_of_getElem? (i := 12) (by decide +kernel), List.mem_of_getElem? (i := 475) (by decide +kernel), List.mem_of_getElem? (i := 476) (by decide +kernel)⟩
theorem lw_p23 : lw_okq (⟨"SignedMill", "multiplyByModulus", "(LSignedMill$Whole;LSignedMill$Whole;)V"⟩, 7) := ⟨⟨by decide +kernel, by decide +kernel⟩, List.mem_of_getElem? (i := 12) (by decide +kernel), List.mem_of_getElem? (i := 479) (by decide +kernel), List.mem_of_getElem? (i := 480) (by decide +kernel)⟩
theorem lw_p24 : lw_okq (⟨"SignedMillModel", "set", "(IJ)V"⟩, 3) := ⟨⟨by decide +kernel, by decide +kernel⟩, List.mem_of_getElem? (i := 521) (by decide +kernel), List.mem_of_getElem? (i := 546) (by decide +kernel), List.mem_of_getElem? (i := 547) (by decide +kernel)⟩
theorem lw_p25 : lw_okq (⟨"SignedMillModel", "trim", "(II)V"⟩, 3) := ⟨⟨by decide +kernel, by decide +kernel⟩, List.mem_of_getElem? (i := 521) (by decide +kernel), List.mem_of_getElem? (i := 555) (by decide +kernel), List.mem_of_getElem? (i := 556) (by decide +kernel)⟩
theorem lw_p26 : lw_okq (⟨"SignedMillModel", "store", "(IIZ)Z"⟩, 3) := ⟨⟨by decide +kernel, by decide +kernel⟩, List.mem_of_getElem? (i := 521) (by decide +kernel), List.mem_of_getElem? (i := 559) (by decide +kernel), List.mem_of_getElem? (i := 560) (by decide +kernel)⟩
theorem lw_p27 : lw_okq (⟨"SignedMillModel", "move", "(II)V"⟩, 3) := ⟨⟨by decide +kernel, by decide +kernel⟩, List.mem_of_getElem? (i := 521) (by decide +kernel), List.mem_of_getElem? (i := 563) (by decide +kernel), List.mem_of_getElem? (i := 564) (by decide +kernel)⟩
theorem lw_p28 : lw_okq (⟨"SignedMillModel", "added", "(IIZIZ)Z"⟩, 3) := ⟨⟨by decide +kernel, by decide +kernel⟩, List.mem_of_getElem? (i := 521) (by decide +kernel), List.mem_of_getElem? (i := 583) (by decide +kernel), List.mem_of_getElem? (i := 584) (by decide +kernel)⟩
theorem lw_p29 : lw_okq (⟨"SignedMillModel", "compareRows", "(II)I"⟩, 3) := ⟨⟨by decide +kernel, by decide +kernel⟩, List.mem_of_getElem? (i := 521) (by decide +kernel), List.mem_of_getElem? (i := 587) (by decide +kernel), List.mem_of_getElem? (i := 588) (by decide +kernel)⟩
theorem lw_p30 : lw_okq (⟨"SignedMillModel", "sum", "(III)V"⟩, 3) := ⟨⟨by decide +kernel, by decide +kernel⟩, List.mem_of_getElem? (i := 521) (by decide +kernel), List.mem_of_getElem? (i := 591) (by decide +kernel), List.mem_of_getElem? (i := 592) (by decide +kernel)⟩
theorem lw_p31 : lw_okq (⟨"SignedMillModel", "digit", "(II)I"⟩, 3) := ⟨⟨by decide +kernel, by decide +kernel⟩, List.mem_of_getElem? (i := 521) (by decide +kernel), List.mem_of_getElem? (i := 595) (by decide +kernel), List.mem_of_getElem? (i := 596) (by decide +kernel)⟩
def lw_privs_2 : List (MethodName × Nat) := [(⟨"SignedMill$Euclid", "leapRemainders", "()V"⟩, 11), (⟨"SignedMill$Euclid", "leapFactors", "()V"⟩, 11), (⟨"SignedMill$Euclid", "step", "(Z)V"⟩, 11), (⟨"SignedMill", "isModulus", "(I)Z"⟩, 7), (⟨"SignedMill", "findInverse", "(II)Z"⟩, 7), (⟨"SignedMill", "reduce", "(II)V"⟩, 7), (⟨"SignedMill", "findPowerByModulus", "(LSignedMill$Whole;LSignedMill$Whole;)V"⟩, 7), (⟨"SignedMill", "multiplyByModulus", "(LSignedMill$Whole;LSignedMill$Whole;)V"⟩, 7), (⟨"SignedMillModel", "set", "(IJ)V"⟩, 3), (⟨"SignedMillModel", "trim", "(II)V"⟩, 3), (⟨"SignedMillModel", "store", "(IIZ)Z"⟩, 3), (⟨"SignedMillModel", "move", "(II)V"⟩, 3), (⟨"SignedMillModel", "added", "(IIZIZ)Z"⟩, 3), (⟨"SignedMillModel", "compareRows", "(II)I"⟩, 3), (⟨"SignedMillModel", "sum", "(III)V"⟩, 3), (⟨"SignedMillModel", "digit", "(II)I"⟩, 3)]
theorem lw_r2 : ∀ q ∈ lw_privs_2, lw_okq q := List.forall_mem_cons.mpr ⟨lw_p16, List.forall_mem_cons.mpr ⟨lw_p17, List.forall_mem_cons.mpr ⟨lw_p18, List.forall_mem_cons.mpr ⟨lw_p19, List.forall_mem_cons.mpr ⟨lw_p20, List.forall_mem_cons.mpr ⟨lw_p21, List.forall_mem_cons.mpr ⟨lw_p22, List.forall_mem_cons.mpr ⟨lw_p23, List.forall_mem_cons.mpr ⟨lw_p24, List.forall_mem_cons.mpr ⟨lw_p25, List.forall_mem_cons.mpr ⟨lw_p26, List.forall_mem_cons.mpr ⟨lw_p27, List.forall_mem_cons.mpr ⟨lw_p28, List.forall_mem_cons.mpr ⟨lw_p29, List.forall_mem_cons.mpr ⟨lw_p30, List.forall_mem_cons.mpr ⟨lw_p31, fun _ h => absurd h List.not_mem_nil⟩⟩⟩⟩⟩⟩⟩⟩⟩⟩⟩⟩⟩⟩⟩⟩
theorem lw_p32 : lw_okq (⟨"SignedMillModel", "lessen", "(III)V"⟩, 3) := ⟨⟨by decide +kernel, by decide +kernel⟩, List.mem_of_getElem? (i := 521) (by decide +kernel), List.mem_of_getElem? (i := 600) (by decide +kernel), List.mem_of_getElem? (i := 601) (by decide +kernel)⟩
theorem lw_p33 : lw_okq (⟨"SignedMillModel", "product", "(III)V"⟩, 3) := ⟨⟨by decide +kernel, by decide +kernel⟩, List.mem_of_getElem? (i := 521) (by decide +kernel), List.mem_of_getElem? (i := 612) (by decide +kernel), List.mem_of_getElem? (i := 613) (by decide +kernel)⟩
theorem lw_p34 : lw_okq (⟨"SignedMillModel", "quotient", "(IIII)V"⟩, 3) := ⟨⟨by decide +kernel, by decide +kernel⟩, List.mem_of_getElem? (i := 521) (by decide +kernel), List.mem_of_getElem? (i := 620) (by decide +kernel), List.mem_of_getElem? (i := 621) (by decide +kernel)⟩
theorem lw_p35 : lw_okq (⟨"SignedMillModel", "bitsOf", "(I)I"⟩, 3) := ⟨⟨by decide +kernel, by decide +kernel⟩, List.mem_of_getElem? (i := 521) (by decide +kernel), List.mem_of_getElem? (i := 624) (by decide +kernel), List.mem_of_getElem? (i := 625) (by decide +kernel)⟩
theorem lw_p36 : lw_okq (⟨"SignedMillModel", "lower", "(IIJ)V"⟩, 3) := ⟨⟨by decide +kernel, by decide +kernel⟩, List.mem_of_getElem? (i := 521) (by decide +kernel), List.mem_of_getElem? (i := 628) (by decide +kernel), List.mem_of_getElem? (i := 629) (by decide +kernel)⟩
theorem lw_p37 : lw_okq (⟨"SignedMillModel", "bitOf", "(II)I"⟩, 3) := ⟨⟨by decide +kernel, by decide +kernel⟩, List.mem_of_getElem? (i := 521) (by decide +kernel), List.mem_of_getElem? (i := 634) (by decide +kernel), List.mem_of_getElem? (i := 635) (by decide +kernel)⟩
theorem lw_p38 : lw_okq (⟨"SignedMillModel", "twice", "(II)V"⟩, 3) := ⟨⟨by decide +kernel, by decide +kernel⟩, List.mem_of_getElem? (i := 521) (by decide +kernel), List.mem_of_getElem? (i := 638) (by decide +kernel), List.mem_of_getElem? (i := 639) (by decide +kernel)⟩
theorem lw_p39 : lw_okq (⟨"SignedMillModel", "lowestDigit", "(I)I"⟩, 3) := ⟨⟨by decide +kernel, by decide +kernel⟩, List.mem_of_getElem? (i := 521) (by decide +kernel), List.mem_of_getElem? (i := 646) (by decide +kernel), List.mem_of_getElem? (i := 647) (by decide +kernel)⟩
theorem lw_p40 : lw_okq (⟨"SignedMillModel", "bitsDigit", "(III)I"⟩, 3) := ⟨⟨by decide +kernel, by decide +kernel⟩, List.mem_of_getElem? (i := 521) (by decide +kernel), List.mem_of_getElem? (i := 653) (by decide +kernel), List.mem_of_getElem? (i := 654) (by decide +kernel)⟩
theorem lw_p41 : lw_okq (⟨"SignedMillModel", "raise", "(III)V"⟩, 3) := ⟨⟨by decide +kernel, by decide +kernel⟩, List.mem_of_getElem? (i := 521) (by decide +kernel), List.mem_of_getElem? (i := 662) (by decide +kernel), List.mem_of_getElem? (i := 663) (by decide +kernel)⟩
theorem lw_p42 : lw_okq (⟨"SignedMillModel", "bitAt", "(II)I"⟩, 3) := ⟨⟨by decide +kernel, by decide +kernel⟩, List.mem_of_getElem? (i := 521) (by decide +kernel), List.mem_of_getElem? (i := 670) (by decide +kernel), List.mem_of_getElem? (i := 671) (by decide +kernel)⟩
theorem lw_p43 : lw_okq (⟨"SignedMillModel", "inverted", "(I)Z"⟩, 3) := ⟨⟨by decide +kernel, by decide +kernel⟩, List.mem_of_getElem? (i := 521) (by decide +kernel), List.mem_of_getElem? (i := 686) (by decide +kernel), List.mem_of_getElem? (i := 687) (by decide +kernel)⟩
theorem lw_p44 : lw_okq (⟨"SignedMillModel", "residue", "(II)V"⟩, 3) := ⟨⟨by decide +kernel, by decide +kernel⟩, List.mem_of_getElem? (i := 521) (by decide +kernel), List.mem_of_getElem? (i := 690) (by decide +kernel), List.mem_of_getElem? (i := 691) (by decide +kernel)⟩
theorem lw_p45 : lw_okq (⟨"SignedMillModel", "rest", "(III)V"⟩, 3) := ⟨⟨by decide +kernel, by decide +kernel⟩, List.mem_of_getElem? (i := 521) (by decide +kernel), List.mem_of_getElem? (i := 694) (by decide +kernel), List.mem_of_getElem? (i := 695) (by decide +kernel)⟩
theorem lw_p46 : lw_okq (⟨"SignedMillModel", "takeTimes", "(IIJ)V"⟩, 3) := ⟨⟨by decide +kernel, by decide +kernel⟩, List.mem_of_getElem? (i := 521) (by decide +kernel), List.mem_of_getElem? (i := 698) (by decide +kernel), List.mem_of_getElem? (i := 699) (by decide +kernel)⟩
def lw_privs_3 : List (MethodName × Nat) := [(⟨"SignedMillModel", "lessen", "(III)V"⟩, 3), (⟨"SignedMillModel", "product", "(III)V"⟩, 3), (⟨"SignedMillModel", "quotient", "(IIII)V"⟩, 3), (⟨"SignedMillModel", "bitsOf", "(I)I"⟩, 3), (⟨"SignedMillModel", "lower", "(IIJ)V"⟩, 3), (⟨"SignedMillModel", "bitOf", "(II)I"⟩, 3), (⟨"SignedMillModel", "twice", "(II)V"⟩, 3), (⟨"SignedMillModel", "lowestDigit", "(I)I"⟩, 3), (⟨"SignedMillModel", "bitsDigit", "(III)I"⟩, 3), (⟨"SignedMillModel", "raise", "(III)V"⟩, 3), (⟨"SignedMillModel", "bitAt", "(II)I"⟩, 3), (⟨"SignedMillModel", "inverted", "(I)Z"⟩, 3), (⟨"SignedMillModel", "residue", "(II)V"⟩, 3), (⟨"SignedMillModel", "rest", "(III)V"⟩, 3), (⟨"SignedMillModel", "takeTimes", "(IIJ)V"⟩, 3)]
theorem lw_r3 : ∀ q ∈ lw_privs_3, lw_okq q := List.forall_mem_cons.mpr ⟨lw_p32, List.forall_mem_cons.mpr ⟨lw_p33, List.forall_mem_cons.mpr ⟨lw_p34, List.forall_mem_cons.mpr ⟨lw_p35, List.forall_mem_cons.mpr ⟨lw_p36, List.forall_mem_cons.mpr ⟨lw_p37, List.forall_mem_cons.mpr ⟨lw_p38, List.forall_mem_cons.mpr ⟨lw_p39, List.forall_mem_cons.mpr ⟨lw_p40, List.forall_mem_cons.mpr ⟨lw_p41, List.forall_mem_cons.mpr ⟨lw_p42, List.forall_mem_cons.mpr ⟨lw_p43, List.forall_mem_cons.mpr ⟨lw_p44, List.forall_mem_cons.mpr ⟨lw_p45, List.forall_mem_cons.mpr ⟨lw_p46, fun _ h => absurd h List.not_mem_nil⟩⟩⟩⟩⟩⟩⟩⟩⟩⟩⟩⟩⟩⟩⟩
def lw_privs : List (MethodName × Nat) := lw_privs_1 ++ (lw_privs_2 ++ (lw_privs_3))
def lw_tbl : List Cond := k2_sels lw_privs ++ tables_1
theorem lw_privs_ok : ∀ q ∈ lw_privs, lw_okq q := by
  show ∀ q ∈ lw_privs_1 ++ (lw_privs_2 ++ (lw_privs_3)), lw_okq q
  exact List.forall_mem_append.mpr ⟨lw_r1, List.forall_mem_append.mpr ⟨lw_r2, lw_r3⟩⟩
-- ===== end of PART A; then your names; then what follows =====
theorem goodIn_r {big : List Cond} (ws : List Cond) (ps : List Nat) (hp : ws = ps.filterMap (fun i => big[i]?)) (h : ws.all goodWord = true) : GoodIn big ws := by
  intro w hw
  have h1 := List.all_eq_true.mp h w hw
  rw [hp] at hw
  obtain ⟨i, -, hi⟩ := List.mem_filterMap.mp hw
  have hm : w ∈ big := by first | exact List.mem_of_getElem? hi | exact List.getElem?_mem hi
  exact ⟨hm, good_of_word h1⟩
theorem goodIn_app {big a b : List Cond} (ha : GoodIn big a) (hb : GoodIn big b) : GoodIn big (a ++ b) := fun w h => (List.mem_append.mp h).elim (ha w) (hb w)
theorem goodIn_ca {big a b : List Cond} {c : Cond} (ha : GoodIn big (c :: a)) (hb : GoodIn big b) : GoodIn big (c :: (a ++ b)) := fun w h => (List.mem_cons.mp h).elim (fun e => ha w (List.mem_cons.mpr (Or.inl e))) (fun h => (List.mem_append.mp h).elim (fun h => ha w (List.mem_cons.mpr (Or.inr h))) (hb w))
theorem goodIn_sub {big ws : List Cond} (hm : ∀ w ∈ ws, w ∈ big) (h : ws.all goodWord = true) : GoodIn big ws := fun w hw => ⟨hm w hw, good_of_word (List.all_eq_true.mp h w hw)⟩
/-- the words that a callee may take over: all contracts of ours stand on this one list -/
def lw_gd : List Cond := lw_tbl.filter goodWord
theorem lw_good : GoodIn lw_gd lw_gd := fun _ h => ⟨h, good_of_word (List.mem_filter.mp h).2⟩
theorem lw_in {w : Cond} (h : w ∈ lw_tbl) (hg : goodWord w = true) : w ∈ lw_gd := List.mem_filter.mpr ⟨h, hg⟩
end
section
/-! A WALK OVER A MAP OF CELLS. vx_h: the tracked cells by their addresses; vx_AH: the heap holds them; vx_V: the walk of a body from a pc, whatever heap holds the map; vx_M: a method's contract over maps, whose end may speak of the cells and slots that were made. -/
abbrev vx_h : Type := Nat → Option va_E
def vx_up (h : vx_h) (a : Nat) (e : va_E) : vx_h := fun b => if b = a then some e else h b
theorem vx_up_s {h : vx_h} {a : Nat} {e : va_E} : vx_up h a e a = some e := by simp [vx_up]
theorem vx_up_n {h : vx_h} {a b : Nat} {e : va_E} (hb : b ≠ a) : vx_up h a e b = h b := by simp [vx_up, hb]
def vx_AH (D : va_G) (cl : List vw_C) (A : Nat → Prop) (h : vx_h) (H : Heap) : Prop := ∀ (a : Nat) (e : va_E), h a = some e → va_at D cl (a, e) H ∧ A a
theorem vx_rep (h : vx_h) (n : Nat) : ∃ ws : va_W, (∀ (k : Nat) (q : Nat × va_E), ws[k]? = some q → q.1 < n ∧ h q.1 = some q.2) ∧ (∀ (a : Nat) (e : va_E), a < n → h a = some e → ∃ k : Nat, ws[k]? = some (a, e)) ∧ (∀ (i j : Nat) (p q : Nat × va_E), ws[i]? = some p → ws[j]? = some q → p.1 = q.1 → i = j) := by
  induction n with
  | zero => exact ⟨[], fun k q hk => by simp at hk, fun a e ha => absurd ha (Nat.not_lt_zero a), fun i j p q hi => by simp at hi⟩
  | succ n ih =>
    obtain ⟨ws, h1, h2, h3⟩ := ih
    cases hn : h n with
    | none =>
      refine ⟨ws, fun k q hk => ⟨Nat.lt_succ_of_lt (h1 k q hk).1, (h1 k q hk).2⟩, fun a e ha he => ?_, h3⟩
      rcases Nat.lt_succ_iff_lt_or_eq.mp ha with q | q
      · exact h2 a e q he
      · rw [q, hn] at he; cases he
    | some x =>
      refine ⟨ws ++ [(n, x)], fun k q hk => ?_, fun a e ha he => ?_, fun i j p q hi hj hpq => ?_⟩
      · rcases Nat.lt_or_ge k ws.length with g | g
        · rw [List.getElem?_append_left g] at hk
          exact ⟨Nat.lt_succ_of_lt (h1 k q hk).1, (h1 k q hk).2⟩
        · rw [List.getElem?_append_right g] at hk
          have hq : q = (n, x) := by
            have := List.mem_of_getElem? hk
            simpa using this
          rw [hq]
          exact ⟨Nat.lt_succ_self n, hn⟩
      · rcases Nat.lt_succ_iff_lt_or_eq.mp ha with g | g
        · obtain ⟨k, hk⟩ := h2 a e g he
          exact ⟨k, by rw [List.getElem?_append_left (List.getElem?_eq_some_iff.mp hk).1]; exact hk⟩
        · subst g
          rw [hn] at he
          cases he
          exact ⟨ws.length, by simp⟩
      · have key : ∀ (i : Nat) (p : Nat × va_E), (ws ++ [(n, x)])[i]? = some p → (ws[i]? = some p ∧ p.1 < n) ∨ (i = ws.length ∧ p.1 = n) := by
          intro i p hi
          rcases Nat.lt_or_ge i ws.length with g | g
          · rw [List.getElem?_append_left g] at hi
            exact Or.inl ⟨hi, (h1 i p hi).1⟩
          · have hl := (List.getElem?_eq_some_iff.mp hi).1
            rw [List.getElem?_append_right g] at hi
            have hq : p = (n, x) := by
              have := List.mem_of_getElem? hi
              simpa using this
            simp at hl
            exact Or.inr ⟨by omega, by rw [hq]⟩
        rcases key i p hi with ⟨a1, a2⟩ | ⟨a1, a2⟩ <;> rcases key j q hj with ⟨b1, b2⟩ | ⟨b1, b2⟩
        · exact h3 i j p q a1 b1 hpq
        · omega
        · omega
        · omega
theorem vx_list {D : va_G} {cl : List vw_C} {A : Nat → Prop} {h : vx_h} {H : Heap} (hA : vx_AH D cl A h H) : ∃ ws : va_W, va_P D cl ws H ∧ va_D A ws ∧ (∀ (a : Nat) (e : va_E), h a = some e → ∃ k : Nat, ws[k]? = some (a, e)) := by
  obtain ⟨ws, h1, h2, h3⟩ := vx_rep h H.size
  refine ⟨ws, fun k q hk => (hA q.1 q.2 (h1 k q hk).2).1, ⟨h3, fun k q hk => (hA q.1 q.2 (h1 k q hk).2).2⟩, fun a e he => h2 a e ?_ he⟩
  exact (hA a e he).1.lt
theorem vx_set {D : va_G} {cl : List vw_C} {A : Nat → Prop} {h : vx_h} {H1 : Heap} {ws : va_W} {k a : Nat} {e e0 : va_E} (hk : ws[k]? = some (a, e0)) (cov : ∀ (b : Nat) (e : va_E), h b = some e → ∃ k : Nat, ws[k]? = some (b, e)) (hP : va_P D cl (ws.set k (a, e)) H1) (hD : va_D A (ws.set k (a, e))) : vx_AH D cl A (vx_up h a e) H1 := by
  intro b e' hb
  by_cases hba : b = a
  · subst hba
    rw [vx_up_s] at hb
    cases hb
    have hs : (ws.set k (b, e))[k]? = some (b, e) := List.getElem?_set_self (List.getElem?_eq_some_iff.mp hk).1
    exact ⟨hP k _ hs, hD.2 k _ hs⟩
  · rw [vx_up_n hba] at hb
    obtain ⟨j, hj⟩ := cov b e' hb
    have hjk : k ≠ j := by
      intro q
      subst q
      rw [hk] at hj
      cases hj
      exact hba rfl
    have hs : (ws.set k (a, e))[j]? = some (b, e') := by rw [List.getElem?_set_ne hjk]; exact hj
    exact ⟨hP j _ hs, hD.2 j _ hs⟩
theorem vx_push {D : va_G} {cl : List vw_C} {A : Nat → Prop} {h : vx_h} {H1 : Heap} {ws : va_W} {a : Nat} {e : va_E} (cov : ∀ (b : Nat) (e : va_E), h b = some e → ∃ k : Nat, ws[k]? = some (b, e)) (hP : va_P D cl (ws ++ [(a, e)]) H1) (hD : va_D A (ws ++ [(a, e)])) : vx_AH D cl A (vx_up h a e) H1 := by
  intro b e' hb
  by_cases hba : b = a
  · subst hba
    rw [vx_up_s] at hb
    cases hb
    have hs : (ws ++ [(b, e)])[ws.length]? = some (b, e) := by simp
    exact ⟨hP _ _ hs, hD.2 _ _ hs⟩
  · rw [vx_up_n hba] at hb
    obtain ⟨j, hj⟩ := cov b e' hb
    have hs : (ws ++ [(a, e)])[j]? = some (b, e') := by rw [List.getElem?_append_left (List.getElem?_eq_some_iff.mp hj).1]; exact hj
    exact ⟨hP j _ hs, hD.2 j _ hs⟩
abbrev vx_G : Type := Heap → List Loc → Nat → Nat → Nat → Array Slot → List Value → Prop
/-- G is the walk of a body (of the class own, bytes cc, nL locals, words Ts, room R; a constructor where ct) -/
def vx_I (l : Launch) (D : va_G) (cl : List vw_C) (tys : List (ClassId × FieldType)) (R : Room) (own : String) (cc : ByteArray) (nL : Nat) (Ts : List Cond) (ct : Bool) (A : Nat → Prop) (H0 : Heap) (G : vx_G) : Prop :=
  ∃ (p : Program) (e : Env) (s : State) (m : MethodId) (args : Array Value) (below : List Frame) (meth : Method) (c : Code) (Q : State → Prop),
    (G = fun H locs k n pc ls st => W p l e R s m args below meth c H locs k n Q (F0 m pc ls st)) ∧ p.tables.exec = Jvm.exec ∧ c.code = cc ∧ c.maxLocals = nL ∧ s.vm.findClass own = some m.cls ∧ (∀ w ∈ Ts, w.before args s = true) ∧ va_K D cl tys s ∧ s.heap = H0 ∧ (∀ q : Nat, H0.size ≤ q → A q) ∧ (ct = true → meth.name = "<init>")
def vx_V (D : va_G) (cl : List vw_C) (A : Nat → Prop) (H0 : Heap) (nL : Nat) (G : vx_G) (h : vx_h) (k n pc : Nat) (lv : List (Nat × Value)) (st : List Value) : Prop :=
  ∀ (H : Heap) (locs : List Loc) (ls : Array Slot), vx_AH D cl A h H → va_S A H0 H locs → lv_has ls nL lv → G H locs k n pc ls st
/-- which cells a method may change: the tracked ones, and those that come -/
def vx_A (h : vx_h) (sz : Nat) : Nat → Prop := fun q => (∃ e, h q = some e) ∨ sz ≤ q
/-- how a body may end with v at pc -/
def vx_end (ret : Option FieldType) (cc : ByteArray) (pc : Nat) (v : Option Value) : Prop :=
  (ret = none ∧ v = none ∧ decode cc pc = .ok (.return_, 1)) ∨ (∃ (ty : FieldType) (x : Int32), ret = some ty ∧ narrow ty (.int x) = .int x ∧ v = some (.int x) ∧ decode cc pc = .ok (.ireturn, 1)) ∨
  (∃ x : Int64, ret = some .long ∧ v = some (.long x) ∧ decode cc pc = .ok (.lreturn, 1)) ∨ (∃ (ty : FieldType) (x : Nat), ret = some ty ∧ ((∃ n, ty = .object n) ∨ ∃ t, ty = .array t) ∧ v = some (.ref x) ∧ decode cc pc = .ok (.areturn, 1))
/-- what a body's end must show -/
def vx_R (D : va_G) (cl : List vw_C) (A : Nat → Prop) (H0 : Heap) (cc : ByteArray) (ret : Option FieldType) (post : Option Value → vx_h → Nat → Nat → Prop) (G : vx_G) : Prop :=
  ∀ (H : Heap) (locs : List Loc) (ls : Array Slot) (pc k n : Nat) (h : vx_h) (v : Option Value), vx_AH D cl A h H → va_S A H0 H locs → vx_end ret cc pc v → post v h k n → G H locs k n pc ls v.toList
def vx_Q (D : va_G) (cl : List vw_C) (h : vx_h) (post : Option Value → vx_h → Nat → Nat → Prop) : Array Value → State → Outcome → State → Prop := fun _ st o t =>
  ∃ (v : Option Value) (h' : vx_h) (L : List Loc) (k n : Nat), o = .returned v ∧ FrameEnd st o t L k n ∧ (∀ q ∈ L, vx_A h st.heap.size q.base) ∧ post v h' k n ∧ vx_AH D cl (vx_A h st.heap.size) h' t.heap ∧ va_F (vx_A h st.heap.size) st t
/-- A METHOD'S CONTRACT: from any state whose heap holds h, called with av, it returns some v, the heap then holds some h', k cells of n slots came, and post of these -/
def vx_M (l : Launch) (D : va_G) (cl : List vw_C) (tys : List (ClassId × FieldType)) (y : MethodName) (ws : List Cond) (rm : Room) (av : List Value) (h : vx_h) (post : Option Value → vx_h → Nat → Nat → Prop) : Prop :=
  MetFree l y (headSpec ws rm) (fun args U => args = av.toArray ∧ vx_AH D cl (fun _ => True) h U.heap ∧ va_K D cl tys U) (fun _ _ _ _ _ => True) (vx_Q D cl h post)
theorem vx_M.ofV {l : Launch} {D : va_G} {cl : List vw_C} {tys : List (ClassId × FieldType)} {y : MethodName} {ws ws' : List Cond} {rm : Room} {av : List Value} {h : vx_h} {post : Option Value → vx_h → Nat → Nat → Prop} {cc : ByteArray} {maxL : Nat} {ret : Option FieldType} (ct : Bool)
    (hy : plainName y.cls = true) (hw : ws = Cond.code y cc maxL ret :: ws') (hct : ct = true → y.name = "<init>") (hsl : (lg_sl av).length ≤ maxL)
    (body : ∀ (A : Nat → Prop) (H0 : Heap) (G : vx_G), vx_I l D cl tys rm y.cls cc maxL ws ct A H0 G → vx_R D cl A H0 cc ret post G → vx_V D cl A H0 maxL G h 0 0 0 (lv_args 0 av) []) : vx_M l D cl tys y ws rm av h post := by
  refine MetFree.of_bodyS (code := cc) (maxLocals := maxL) (ret := ret) hy ?_ ?_
  · intro args s m hh hn
    obtain ⟨meth, c, h1, h2, h3, h4, h5, h6, -, -⟩ := Cond.code_spec hn (atoms_spec (ws := ws) hh _ (by rw [hw]; exact List.mem_cons_self))
    exact ⟨meth, c, h1, h2, h3, h4, h5, h6⟩
  · intro p e s m args below meth c s₁ B hml hP _
    obtain ⟨rfl, hAH, hK⟩ := hP
    have hh0 : s₁.heap = s.heap := by rw [B.state]; rfl
    have hA0 : vx_AH D cl (vx_A h s.heap.size) h s.heap := fun a e he => ⟨(hAH a e he).1, Or.inl ⟨e, he⟩⟩
    have hx := B.exec
    have hb := B.bytes
    have hr := B.returns
    have hlocks := B.notSynchronized
    have K := body (vx_A h s.heap.size) s.heap (fun H locs k n pc ls st => W p l e rm s m av.toArray below meth c H locs k n (fun t => ∃ o, t.status = .running ∧ Ended t below o ∧ vx_Q D cl h post av.toArray s o t) (F0 m pc ls st))
      ⟨p, e, s, m, av.toArray, below, meth, c, _, rfl, B.exec, B.bytes, hml, findClass_of_methodNamed B.named, atoms_spec (ws := ws) B.pre, hK, rfl, fun q hq => Or.inr hq, fun q => (name_of_methodNamed B.named B.method).1.trans (hct q)⟩
      (by
        intro H locs ls pc k n h' v g1 g2 g3 g4
        have fin : ∀ t, MQ below (fun _ st o t => o = .returned v ∧ t.heap = H) av.toArray s k n (vx_A h s.heap.size) t → ∃ o, t.status = .running ∧ Ended t below o ∧ vx_Q D cl h post av.toArray s o t := by
          intro t ⟨o, f1, f2, ⟨f3, f4⟩, L, f5, f6⟩
          exact ⟨o, f1, f2, v, h', L, k, n, f3, f5, f6, g4, by rw [f4]; exact g1, g2.F f4⟩
        rcases g3 with ⟨e1, e2, e3⟩ | ⟨ty, x, e1, e2, e3, e4⟩ | ⟨x, e1, e2, e3⟩ | ⟨ty, x, e1, e2, e3, e4⟩
        · subst e2
          intro T hT X
          obtain ⟨t, a1, b1⟩ := W.vret (Qc := fun _ st o t => o = .returned none ∧ t.heap = H) (free := vx_A h s.heap.size) (locs := locs) (cells := k) (slots := n) (args := av.toArray) (H := H) (ls := ls) hx hb (hr.trans e1) (fun t ht _ => ⟨rfl, ht⟩) g2.2.2 e3 hlocks T hT X
          exact ⟨t, a1, fin t b1⟩
        · subst e3
          intro T hT X
          obtain ⟨t, a1, b1⟩ := W.zret (Qc := fun _ st o t => o = .returned (some (.int x)) ∧ t.heap = H) (free := vx_A h s.heap.size) (locs := locs) (cells := k) (slots := n) (args := av.toArray) (H := H) (ls := ls) hx hb (hr.trans e1) e2 (fun t ht _ => ⟨rfl, ht⟩) g2.2.2 e4 hlocks T hT X
          exact ⟨t, a1, fin t b1⟩
        · subst e2
          intro T hT X
          obtain ⟨t, a1, b1⟩ := W.lret (Qc := fun _ st o t => o = .returned (some (.long x)) ∧ t.heap = H) (free := vx_A h s.heap.size) (locs := locs) (cells := k) (slots := n) (args := av.toArray) (H := H) (ls := ls) hx hb (hr.trans e1) (fun t ht _ => ⟨rfl, ht⟩) g2.2.2 e3 hlocks T hT X
          exact ⟨t, a1, fin t b1⟩
        · subst e3
          intro T hT X
          obtain ⟨t, a1, b1⟩ := W.aret (Qc := fun _ st o t => o = .returned (some (.ref x)) ∧ t.heap = H) (free := vx_A h s.heap.size) (locs := locs) (cells := k) (slots := n) (args := av.toArray) (H := H) (ls := ls) hx hb (hr.trans e1) e2 (Or.inr ⟨x, rfl⟩) (fun t ht _ => ⟨rfl, ht⟩) g2.2.2 e4 hlocks T hT X
          exact ⟨t, a1, fin t b1⟩)
    have hl := lv_entry av (n := maxL) hsl
    have K1 := K s.heap [] _ hA0 va_S.rf hl
    obtain ⟨t, a1, o, b1, b2, b3⟩ := K1 s₁ hh0 (Stand.of_body B)
    refine ⟨t, o, ?_, b1, b2, b3⟩
    rw [lg_entry_eq]
    exact a1
end
section
/-! the walk's rows, an instruction a row (written by wip/whole/draft/mkrows.py) -/
section
variable {l : Launch} {D : va_G} {cl : List vw_C} {tys : List (ClassId × FieldType)} {R : Room} {own : String} {cc : ByteArray} {nL : Nat} {Ts : List Cond} {ct : Bool} {A : Nat → Prop} {H0 : Heap} {G : vx_G} {h : vx_h} {k n pc : Nat} {lv : List (Nat × Value)} {st : List Value}
theorem vx_iconst (IG : vx_I l D cl tys R own cc nL Ts ct A H0 G) {c : Int} {v : Int32} (hd : decode cc pc = .ok (.iconst c, 1)) (hv : Int32.ofInt c = v) (K : vx_V D cl A H0 nL G h k n (pc + 1) lv (.int v :: st)) : vx_V D cl A H0 nL G h k n pc lv (st) := by
  obtain ⟨p, e, s, m, args, below, meth, c, Q, rfl, hx, hb, -⟩ := IG
  intro H locs ls g1 g2 g3
  exact lv_iconst hx hb hd hv (K H locs ls g1 g2 g3)
theorem vx_bipush (IG : vx_I l D cl tys R own cc nL Ts ct A H0 G) {c : Int} {v : Int32} (hd : decode cc pc = .ok (.bipush c, 2)) (hv : (Int8.ofInt c).toInt32 = v) (K : vx_V D cl A H0 nL G h k n (pc + 2) lv (.int v :: st)) : vx_V D cl A H0 nL G h k n pc lv (st) := by
  obtain ⟨p, e, s, m, args, below, meth, c, Q, rfl, hx, hb, -⟩ := IG
  intro H locs ls g1 g2 g3
  exact lv_bipush hx hb hd hv (K H locs ls g1 g2 g3)
theorem vx_sipush (IG : vx_I l D cl tys R own cc nL Ts ct A H0 G) {c : Int} {v : Int32} (hd : decode cc pc = .ok (.sipush c, 3)) (hv : (Int16.ofInt c).toInt32 = v) (K : vx_V D cl A H0 nL G h k n (pc + 3) lv (.int v :: st)) : vx_V D cl A H0 nL G h k n pc lv (st) := by
  obtain ⟨p, e, s, m, args, below, meth, c, Q, rfl, hx, hb, -⟩ := IG
  intro H locs ls g1 g2 g3
  exact lv_sipush hx hb hd hv (K H locs ls g1 g2 g3)
theorem vx_lconst (IG : vx_I l D cl tys R own cc nL Ts ct A H0 G) {c : Fin 2} {v : Int64} (hd : decode cc pc = .ok (.lconst c, 1)) (hv : Int64.ofNat (c : Nat) = v) (K : vx_V D cl A H0 nL G h k n (pc + 1) lv (.long v :: st)) : vx_V D cl A H0 nL G h k n pc lv (st) := by
  obtain ⟨p, e, s, m, args, below, meth, c, Q, rfl, hx, hb, -⟩ := IG
  intro H locs ls g1 g2 g3
  exact lv_lconst hx hb hd hv (K H locs ls g1 g2 g3)
theorem vx_null (IG : vx_I l D cl tys R own cc nL Ts ct A H0 G)  (hd : decode cc pc = .ok (.aconst_null, 1)) (K : vx_V D cl A H0 nL G h k n (pc + 1) lv (.null :: st)) : vx_V D cl A H0 nL G h k n pc lv (st) := by
  obtain ⟨p, e, s, m, args, below, meth, c, Q, rfl, hx, hb, -⟩ := IG
  intro H locs ls g1 g2 g3
  exact lv_null hx hb hd (K H locs ls g1 g2 g3)
theorem vx_iadd (IG : vx_I l D cl tys R own cc nL Ts ct A H0 G) {x y : Int32} (hd : decode cc pc = .ok (.iadd, 1)) (K : vx_V D cl A H0 nL G h k n (pc + 1) lv (.int (x + y) :: st)) : vx_V D cl A H0 nL G h k n pc lv (.int y :: .int x :: st) := by
  obtain ⟨p, e, s, m, args, below, meth, c, Q, rfl, hx, hb, -⟩ := IG
  intro H locs ls g1 g2 g3
  exact lv_iadd hx hb hd (K H locs ls g1 g2 g3)
theorem vx_isub (IG : vx_I l D cl tys R own cc nL Ts ct A H0 G) {x y : Int32} (hd : decode cc pc = .ok (.isub, 1)) (K : vx_V D cl A H0 nL G h k n (pc + 1) lv (.int (x - y) :: st)) : vx_V D cl A H0 nL G h k n pc lv (.int y :: .int x :: st) := by
  obtain ⟨p, e, s, m, args, below, meth, c, Q, rfl, hx, hb, -⟩ := IG
  intro H locs ls g1 g2 g3
  exact lv_isub hx hb hd (K H locs ls g1 g2 g3)
theorem vx_imul (IG : vx_I l D cl tys R own cc nL Ts ct A H0 G) {x y : Int32} (hd : decode cc pc = .ok (.imul, 1)) (K : vx_V D cl A H0 nL G h k n (pc + 1) lv (.int (x * y) :: st)) : vx_V D cl A H0 nL G h k n pc lv (.int y :: .int x :: st) := by
  obtain ⟨p, e, s, m, args, below, meth, c, Q, rfl, hx, hb, -⟩ := IG
  intro H locs ls g1 g2 g3
  exact lv_imul hx hb hd (K H locs ls g1 g2 g3)
theorem vx_iand (IG : vx_I l D cl tys R own cc nL Ts ct A H0 G) {x y : Int32} (hd : decode cc pc = .ok (.iand, 1)) (K : vx_V D cl A H0 nL G h k n (pc + 1) lv (.int (x &&& y) :: st)) : vx_V D cl A H0 nL G h k n pc lv (.int y :: .int x :: st) := by
  obtain ⟨p, e, s, m, args, below, meth, c, Q, rfl, hx, hb, -⟩ := IG
  intro H locs ls g1 g2 g3
  exact lv_iand hx hb hd (K H locs ls g1 g2 g3)
theorem vx_ior (IG : vx_I l D cl tys R own cc nL Ts ct A H0 G) {x y : Int32} (hd : decode cc pc = .ok (.ior, 1)) (K : vx_V D cl A H0 nL G h k n (pc + 1) lv (.int (x ||| y) :: st)) : vx_V D cl A H0 nL G h k n pc lv (.int y :: .int x :: st) := by
  obtain ⟨p, e, s, m, args, below, meth, c, Q, rfl, hx, hb, -⟩ := IG
  intro H locs ls g1 g2 g3
  exact lv_ior hx hb hd (K H locs ls g1 g2 g3)
theorem vx_ixor (IG : vx_I l D cl tys R own cc nL Ts ct A H0 G) {x y : Int32} (hd : decode cc pc = .ok (.ixor, 1)) (K : vx_V D cl A H0 nL G h k n (pc + 1) lv (.int (x ^^^ y) :: st)) : vx_V D cl A H0 nL G h k n pc lv (.int y :: .int x :: st) := by
  obtain ⟨p, e, s, m, args, below, meth, c, Q, rfl, hx, hb, -⟩ := IG
  intro H locs ls g1 g2 g3
  exact lv_ixor hx hb hd (K H locs ls g1 g2 g3)
theorem vx_ladd (IG : vx_I l D cl tys R own cc nL Ts ct A H0 G) {x y : Int64} (hd : decode cc pc = .ok (.ladd, 1)) (K : vx_V D cl A H0 nL G h k n (pc + 1) lv (.long (x + y) :: st)) : vx_V D cl A H0 nL G h k n pc lv (.long y :: .long x :: st) := by
  obtain ⟨p, e, s, m, args, below, meth, c, Q, rfl, hx, hb, -⟩ := IG
  intro H locs ls g1 g2 g3
  exact lv_ladd hx hb hd (K H locs ls g1 g2 g3)
theorem vx_lsub (IG : vx_I l D cl tys R own cc nL Ts ct A H0 G) {x y : Int64} (hd : decode cc pc = .ok (.lsub, 1)) (K : vx_V D cl A H0 nL G h k n (pc + 1) lv (.long (x - y) :: st)) : vx_V D cl A H0 nL G h k n pc lv (.long y :: .long x :: st) := by
  obtain ⟨p, e, s, m, args, below, meth, c, Q, rfl, hx, hb, -⟩ := IG
  intro H locs ls g1 g2 g3
  exact lv_lsub hx hb hd (K H locs ls g1 g2 g3)
theorem vx_lmul (IG : vx_I l D cl tys R own cc nL Ts ct A H0 G) {x y : Int64} (hd : decode cc pc = .ok (.lmul, 1)) (K : vx_V D cl A H0 nL G h k n (pc + 1) lv (.long (x * y) :: st)) : vx_V D cl A H0 nL G h k n pc lv (.long y :: .long x :: st) := by
  obtain ⟨p, e, s, m, args, below, meth, c, Q, rfl, hx, hb, -⟩ := IG
  intro H locs ls g1 g2 g3
  exact lv_lmul hx hb hd (K H locs ls g1 g2 g3)
theorem vx_land (IG : vx_I l D cl tys R own cc nL Ts ct A H0 G) {x y : Int64} (hd : decode cc pc = .ok (.land, 1)) (K : vx_V D cl A H0 nL G h k n (pc + 1) lv (.long (x &&& y) :: st)) : vx_V D cl A H0 nL G h k n pc lv (.long y :: .long x :: st) := by
  obtain ⟨p, e, s, m, args, below, meth, c, Q, rfl, hx, hb, -⟩ := IG
  intro H locs ls g1 g2 g3
  exact lv_land hx hb hd (K H locs ls g1 g2 g3)
theorem vx_lor (IG : vx_I l D cl tys R own cc nL Ts ct A H0 G) {x y : Int64} (hd : decode cc pc = .ok (.lor, 1)) (K : vx_V D cl A H0 nL G h k n (pc + 1) lv (.long (x ||| y) :: st)) : vx_V D cl A H0 nL G h k n pc lv (.long y :: .long x :: st) := by
  obtain ⟨p, e, s, m, args, below, meth, c, Q, rfl, hx, hb, -⟩ := IG
  intro H locs ls g1 g2 g3
  exact lv_lor hx hb hd (K H locs ls g1 g2 g3)
theorem vx_lxor (IG : vx_I l D cl tys R own cc nL Ts ct A H0 G) {x y : Int64} (hd : decode cc pc = .ok (.lxor, 1)) (K : vx_V D cl A H0 nL G h k n (pc + 1) lv (.long (x ^^^ y) :: st)) : vx_V D cl A H0 nL G h k n pc lv (.long y :: .long x :: st) := by
  obtain ⟨p, e, s, m, args, below, meth, c, Q, rfl, hx, hb, -⟩ := IG
  intro H locs ls g1 g2 g3
  exact lv_lxor hx hb hd (K H locs ls g1 g2 g3)
theorem vx_idiv (IG : vx_I l D cl tys R own cc nL Ts ct A H0 G) {x y : Int32} (hd : decode cc pc = .ok (.idiv, 1)) (hne : ¬ y = 0) (K : vx_V D cl A H0 nL G h k n (pc + 1) lv (.int (x / y) :: st)) : vx_V D cl A H0 nL G h k n pc lv (.int y :: .int x :: st) := by
  obtain ⟨p, e, s, m, args, below, meth, c, Q, rfl, hx, hb, -⟩ := IG
  intro H locs ls g1 g2 g3
  exact lv_idiv hx hb hd hne (K H locs ls g1 g2 g3)
theorem vx_ldiv (IG : vx_I l D cl tys R own cc nL Ts ct A H0 G) {x y : Int64} (hd : decode cc pc = .ok (.ldiv, 1)) (hne : ¬ y = 0) (K : vx_V D cl A H0 nL G h k n (pc + 1) lv (.long (x / y) :: st)) : vx_V D cl A H0 nL G h k n pc lv (.long y :: .long x :: st) := by
  obtain ⟨p, e, s, m, args, below, meth, c, Q, rfl, hx, hb, -⟩ := IG
  intro H locs ls g1 g2 g3
  exact lv_ldiv hx hb hd hne (K H locs ls g1 g2 g3)
theorem vx_irem (IG : vx_I l D cl tys R own cc nL Ts ct A H0 G) {x y : Int32} (hd : decode cc pc = .ok (.irem, 1)) (hne : ¬ y = 0) (K : vx_V D cl A H0 nL G h k n (pc + 1) lv (.int (x - x / y * y) :: st)) : vx_V D cl A H0 nL G h k n pc lv (.int y :: .int x :: st) := by
  obtain ⟨p, e, s, m, args, below, meth, c, Q, rfl, hx, hb, -⟩ := IG
  intro H locs ls g1 g2 g3
  exact lv_irem hx hb hd hne (K H locs ls g1 g2 g3)
theorem vx_lrem (IG : vx_I l D cl tys R own cc nL Ts ct A H0 G) {x y : Int64} (hd : decode cc pc = .ok (.lrem, 1)) (hne : ¬ y = 0) (K : vx_V D cl A H0 nL G h k n (pc + 1) lv (.long (x - x / y * y) :: st)) : vx_V D cl A H0 nL G h k n pc lv (.long y :: .long x :: st) := by
  obtain ⟨p, e, s, m, args, below, meth, c, Q, rfl, hx, hb, -⟩ := IG
  intro H locs ls g1 g2 g3
  exact lv_lrem hx hb hd hne (K H locs ls g1 g2 g3)
theorem vx_ineg (IG : vx_I l D cl tys R own cc nL Ts ct A H0 G) {x : Int32} (hd : decode cc pc = .ok (.ineg, 1)) (K : vx_V D cl A H0 nL G h k n (pc + 1) lv (.int (-x) :: st)) : vx_V D cl A H0 nL G h k n pc lv (.int x :: st) := by
  obtain ⟨p, e, s, m, args, below, meth, c, Q, rfl, hx, hb, -⟩ := IG
  intro H locs ls g1 g2 g3
  exact lv_ineg hx hb hd (K H locs ls g1 g2 g3)
theorem vx_lneg (IG : vx_I l D cl tys R own cc nL Ts ct A H0 G) {x : Int64} (hd : decode cc pc = .ok (.lneg, 1)) (K : vx_V D cl A H0 nL G h k n (pc + 1) lv (.long (-x) :: st)) : vx_V D cl A H0 nL G h k n pc lv (.long x :: st) := by
  obtain ⟨p, e, s, m, args, below, meth, c, Q, rfl, hx, hb, -⟩ := IG
  intro H locs ls g1 g2 g3
  exact lv_lneg hx hb hd (K H locs ls g1 g2 g3)
theorem vx_ishl (IG : vx_I l D cl tys R own cc nL Ts ct A H0 G) {x y : Int32} (hd : decode cc pc = .ok (.ishl, 1)) (K : vx_V D cl A H0 nL G h k n (pc + 1) lv (.int (x <<< (y &&& 31)) :: st)) : vx_V D cl A H0 nL G h k n pc lv (.int y :: .int x :: st) := by
  obtain ⟨p, e, s, m, args, below, meth, c, Q, rfl, hx, hb, -⟩ := IG
  intro H locs ls g1 g2 g3
  exact lv_ishl hx hb hd (K H locs ls g1 g2 g3)
theorem vx_ishr (IG : vx_I l D cl tys R own cc nL Ts ct A H0 G) {x y : Int32} (hd : decode cc pc = .ok (.ishr, 1)) (K : vx_V D cl A H0 nL G h k n (pc + 1) lv (.int (x >>> (y &&& 31)) :: st)) : vx_V D cl A H0 nL G h k n pc lv (.int y :: .int x :: st) := by
  obtain ⟨p, e, s, m, args, below, meth, c, Q, rfl, hx, hb, -⟩ := IG
  intro H locs ls g1 g2 g3
  exact lv_ishr hx hb hd (K H locs ls g1 g2 g3)
theorem vx_i2l (IG : vx_I l D cl tys R own cc nL Ts ct A H0 G) {x : Int32} {v : Int64} (hd : decode cc pc = .ok (.i2l, 1)) (hv : x.toInt64 = v) (K : vx_V D cl A H0 nL G h k n (pc + 1) lv (.long v :: st)) : vx_V D cl A H0 nL G h k n pc lv (.int x :: st) := by
  obtain ⟨p, e, s, m, args, below, meth, c, Q, rfl, hx, hb, -⟩ := IG
  intro H locs ls g1 g2 g3
  exact lv_i2l hx hb hd hv (K H locs ls g1 g2 g3)
theorem vx_l2i (IG : vx_I l D cl tys R own cc nL Ts ct A H0 G) {x : Int64} {v : Int32} (hd : decode cc pc = .ok (.l2i, 1)) (hv : x.toInt32 = v) (K : vx_V D cl A H0 nL G h k n (pc + 1) lv (.int v :: st)) : vx_V D cl A H0 nL G h k n pc lv (.long x :: st) := by
  obtain ⟨p, e, s, m, args, below, meth, c, Q, rfl, hx, hb, -⟩ := IG
  intro H locs ls g1 g2 g3
  exact lv_l2i hx hb hd hv (K H locs ls g1 g2 g3)
theorem vx_i2b (IG : vx_I l D cl tys R own cc nL Ts ct A H0 G) {x v : Int32} (hd : decode cc pc = .ok (.i2b, 1)) (hv : x.toInt8.toInt32 = v) (K : vx_V D cl A H0 nL G h k n (pc + 1) lv (.int v :: st)) : vx_V D cl A H0 nL G h k n pc lv (.int x :: st) := by
  obtain ⟨p, e, s, m, args, below, meth, c, Q, rfl, hx, hb, -⟩ := IG
  intro H locs ls g1 g2 g3
  exact lv_i2b hx hb hd hv (K H locs ls g1 g2 g3)
theorem vx_iushr (IG : vx_I l D cl tys R own cc nL Ts ct A H0 G) {x y v : Int32} (hd : decode cc pc = .ok (.iushr, 1)) (hv : (x.toUInt32 >>> (y.toUInt32 &&& Int32.toUInt32 31)).toInt32 = v) (K : vx_V D cl A H0 nL G h k n (pc + 1) lv (.int v :: st)) : vx_V D cl A H0 nL G h k n pc lv (.int y :: .int x :: st) := by
  obtain ⟨p, e, s, m, args, below, meth, c, Q, rfl, hx, hb, -⟩ := IG
  intro H locs ls g1 g2 g3
  exact lv_iushr hx hb hd hv (K H locs ls g1 g2 g3)
theorem vx_lushr (IG : vx_I l D cl tys R own cc nL Ts ct A H0 G) {x v : Int64} {y : Int32} (hd : decode cc pc = .ok (.lushr, 1)) (hv : (x.toUInt64 >>> (y.toInt64.toUInt64 &&& Int64.toUInt64 63)).toInt64 = v) (K : vx_V D cl A H0 nL G h k n (pc + 1) lv (.long v :: st)) : vx_V D cl A H0 nL G h k n pc lv (.int y :: .long x :: st) := by
  obtain ⟨p, e, s, m, args, below, meth, c, Q, rfl, hx, hb, -⟩ := IG
  intro H locs ls g1 g2 g3
  exact lv_lushr hx hb hd hv (K H locs ls g1 g2 g3)
theorem vx_lshl (IG : vx_I l D cl tys R own cc nL Ts ct A H0 G) {x v : Int64} {y : Int32} (hd : decode cc pc = .ok (.lshl, 1)) (hv : x <<< (y.toInt64 &&& 63) = v) (K : vx_V D cl A H0 nL G h k n (pc + 1) lv (.long v :: st)) : vx_V D cl A H0 nL G h k n pc lv (.int y :: .long x :: st) := by
  obtain ⟨p, e, s, m, args, below, meth, c, Q, rfl, hx, hb, -⟩ := IG
  intro H locs ls g1 g2 g3
  exact lv_lshl hx hb hd hv (K H locs ls g1 g2 g3)
theorem vx_lshr (IG : vx_I l D cl tys R own cc nL Ts ct A H0 G) {x v : Int64} {y : Int32} (hd : decode cc pc = .ok (.lshr, 1)) (hv : x >>> (y.toInt64 &&& 63) = v) (K : vx_V D cl A H0 nL G h k n (pc + 1) lv (.long v :: st)) : vx_V D cl A H0 nL G h k n pc lv (.int y :: .long x :: st) := by
  obtain ⟨p, e, s, m, args, below, meth, c, Q, rfl, hx, hb, -⟩ := IG
  intro H locs ls g1 g2 g3
  exact lv_lshr hx hb hd hv (K H locs ls g1 g2 g3)
theorem vx_lcmp (IG : vx_I l D cl tys R own cc nL Ts ct A H0 G) {x y : Int64} (hd : decode cc pc = .ok (.lcmp, 1)) (K : vx_V D cl A H0 nL G h k n (pc + 1) lv (.int (lg_cmp x y) :: st)) : vx_V D cl A H0 nL G h k n pc lv (.long y :: .long x :: st) := by
  obtain ⟨p, e, s, m, args, below, meth, c, Q, rfl, hx, hb, -⟩ := IG
  intro H locs ls g1 g2 g3
  exact W.lcmp hx hb hd (K H locs ls g1 g2 g3)
theorem vx_dup (IG : vx_I l D cl tys R own cc nL Ts ct A H0 G) {va : Value} (hd : decode cc pc = .ok (.dup, 1)) (hva : va.category = 1) (K : vx_V D cl A H0 nL G h k n (pc + 1) lv (va :: va :: st)) : vx_V D cl A H0 nL G h k n pc lv (va :: st) := by
  obtain ⟨p, e, s, m, args, below, meth, c, Q, rfl, hx, hb, -⟩ := IG
  intro H locs ls g1 g2 g3
  exact lv_dup hx hb hd hva (K H locs ls g1 g2 g3)
theorem vx_pop (IG : vx_I l D cl tys R own cc nL Ts ct A H0 G) {va : Value} (hd : decode cc pc = .ok (.pop, 1)) (hva : va.category = 1) (K : vx_V D cl A H0 nL G h k n (pc + 1) lv (st)) : vx_V D cl A H0 nL G h k n pc lv (va :: st) := by
  obtain ⟨p, e, s, m, args, below, meth, c, Q, rfl, hx, hb, -⟩ := IG
  intro H locs ls g1 g2 g3
  exact lv_pop hx hb hd hva (K H locs ls g1 g2 g3)
theorem vx_dup_x1 (IG : vx_I l D cl tys R own cc nL Ts ct A H0 G) {va vb : Value} (hd : decode cc pc = .ok (.dup_x1, 1)) (hva : va.category = 1) (hvb : vb.category = 1) (K : vx_V D cl A H0 nL G h k n (pc + 1) lv (va :: vb :: va :: st)) : vx_V D cl A H0 nL G h k n pc lv (va :: vb :: st) := by
  obtain ⟨p, e, s, m, args, below, meth, c, Q, rfl, hx, hb, -⟩ := IG
  intro H locs ls g1 g2 g3
  exact lv_dup_x1 hx hb hd hva hvb (K H locs ls g1 g2 g3)
theorem vx_dup_x2 (IG : vx_I l D cl tys R own cc nL Ts ct A H0 G) {va vb vd : Value} (hd : decode cc pc = .ok (.dup_x2, 1)) (hva : va.category = 1) (hvb : vb.category = 1) (hvd : vd.category = 1) (K : vx_V D cl A H0 nL G h k n (pc + 1) lv (va :: vb :: vd :: va :: st)) : vx_V D cl A H0 nL G h k n pc lv (va :: vb :: vd :: st) := by
  obtain ⟨p, e, s, m, args, below, meth, c, Q, rfl, hx, hb, -⟩ := IG
  intro H locs ls g1 g2 g3
  exact lv_dup_x2 hx hb hd hva hvb hvd (K H locs ls g1 g2 g3)
theorem vx_dup2 (IG : vx_I l D cl tys R own cc nL Ts ct A H0 G) {va vb : Value} (hd : decode cc pc = .ok (.dup2, 1)) (hva : va.category = 1) (hvb : vb.category = 1) (K : vx_V D cl A H0 nL G h k n (pc + 1) lv (va :: vb :: va :: vb :: st)) : vx_V D cl A H0 nL G h k n pc lv (va :: vb :: st) := by
  obtain ⟨p, e, s, m, args, below, meth, c, Q, rfl, hx, hb, -⟩ := IG
  intro H locs ls g1 g2 g3
  exact lv_dup2_11 hx hb hd hva hvb (K H locs ls g1 g2 g3)
theorem vx_dup2_2 (IG : vx_I l D cl tys R own cc nL Ts ct A H0 G) {va : Value} (hd : decode cc pc = .ok (.dup2, 1)) (hva : va.category = 2) (K : vx_V D cl A H0 nL G h k n (pc + 1) lv (va :: va :: st)) : vx_V D cl A H0 nL G h k n pc lv (va :: st) := by
  obtain ⟨p, e, s, m, args, below, meth, c, Q, rfl, hx, hb, -⟩ := IG
  intro H locs ls g1 g2 g3
  exact lv_dup2_2 hx hb hd hva (K H locs ls g1 g2 g3)
theorem vx_pop2_2 (IG : vx_I l D cl tys R own cc nL Ts ct A H0 G) {va : Value} (hd : decode cc pc = .ok (.pop2, 1)) (hva : va.category = 2) (K : vx_V D cl A H0 nL G h k n (pc + 1) lv (st)) : vx_V D cl A H0 nL G h k n pc lv (va :: st) := by
  obtain ⟨p, e, s, m, args, below, meth, c, Q, rfl, hx, hb, -⟩ := IG
  intro H locs ls g1 g2 g3
  exact lv_pop2_2 hx hb hd hva (K H locs ls g1 g2 g3)
theorem vx_dup2_x1_2 (IG : vx_I l D cl tys R own cc nL Ts ct A H0 G) {va vb : Value} (hd : decode cc pc = .ok (.dup2_x1, 1)) (hva : va.category = 2) (hvb : vb.category = 1) (K : vx_V D cl A H0 nL G h k n (pc + 1) lv (va :: vb :: va :: st)) : vx_V D cl A H0 nL G h k n pc lv (va :: vb :: st) := by
  obtain ⟨p, e, s, m, args, below, meth, c, Q, rfl, hx, hb, -⟩ := IG
  intro H locs ls g1 g2 g3
  exact lv_dup2_x1_2 hx hb hd hva hvb (K H locs ls g1 g2 g3)
theorem vx_dup2_x2_2 (IG : vx_I l D cl tys R own cc nL Ts ct A H0 G) {va vb vd : Value} (hd : decode cc pc = .ok (.dup2_x2, 1)) (hva : va.category = 2) (hvb : vb.category = 1) (hvd : vd.category = 1) (K : vx_V D cl A H0 nL G h k n (pc + 1) lv (va :: vb :: vd :: va :: st)) : vx_V D cl A H0 nL G h k n pc lv (va :: vb :: vd :: st) := by
  obtain ⟨p, e, s, m, args, below, meth, c, Q, rfl, hx, hb, -⟩ := IG
  intro H locs ls g1 g2 g3
  exact lv_dup2_x2_2 hx hb hd hva hvb hvd (K H locs ls g1 g2 g3)
theorem vx_iload_n (IG : vx_I l D cl tys R own cc nL Ts ct A H0 G) {j : Fin 4} {i : Nat} {x : Int32} (hd : decode cc pc = .ok (.iload_n j, 1)) (hi : (j : Nat) = i) (q : Nat) (hq : lv[q]? = some (i, .int x)) (K : vx_V D cl A H0 nL G h k n (pc + 1) lv (.int x :: st)) : vx_V D cl A H0 nL G h k n pc lv (st) := by
  obtain ⟨p, e, s, m, args, below, meth, c, Q, rfl, hx, hb, -⟩ := IG
  intro H locs ls g1 g2 g3
  exact lv_iload_n hx hb hd hi (lv_at g3 q hq) (K H locs ls g1 g2 g3)
theorem vx_iload (IG : vx_I l D cl tys R own cc nL Ts ct A H0 G) {i : Nat} {x : Int32} (hd : decode cc pc = .ok (.iload i, 2)) (q : Nat) (hq : lv[q]? = some (i, .int x)) (K : vx_V D cl A H0 nL G h k n (pc + 2) lv (.int x :: st)) : vx_V D cl A H0 nL G h k n pc lv (st) := by
  obtain ⟨p, e, s, m, args, below, meth, c, Q, rfl, hx, hb, -⟩ := IG
  intro H locs ls g1 g2 g3
  exact lv_iload hx hb hd (lv_at g3 q hq) (K H locs ls g1 g2 g3)
theorem vx_istore_n (IG : vx_I l D cl tys R own cc nL Ts ct A H0 G) {j : Fin 4} {i : Nat} {x : Int32} {lv' : List (Nat × Value)} (hd : decode cc pc = .ok (.istore_n j, 1)) (hi : (j : Nat) = i) (hn : i < nL) (hl : (i, Value.int x) :: lv.filter (fun q => !(q.1 == i) && !(q.1 + 1 == i && q.2.category == 2)) = lv') (K : vx_V D cl A H0 nL G h k n (pc + 1) lv' st) : vx_V D cl A H0 nL G h k n pc lv (.int x :: st) := by
  obtain ⟨p, e, s, m, args, below, meth, c, Q, rfl, hx, hb, -⟩ := IG
  intro H locs ls g1 g2 g3
  exact lv_istore_n hx hb hd hi g3 hn hl (fun ls' g3' => K H locs ls' g1 g2 g3')
theorem vx_istore (IG : vx_I l D cl tys R own cc nL Ts ct A H0 G) {i : Nat} {x : Int32} {lv' : List (Nat × Value)} (hd : decode cc pc = .ok (.istore i, 2)) (hn : i < nL) (hl : (i, Value.int x) :: lv.filter (fun q => !(q.1 == i) && !(q.1 + 1 == i && q.2.category == 2)) = lv') (K : vx_V D cl A H0 nL G h k n (pc + 2) lv' st) : vx_V D cl A H0 nL G h k n pc lv (.int x :: st) := by
  obtain ⟨p, e, s, m, args, below, meth, c, Q, rfl, hx, hb, -⟩ := IG
  intro H locs ls g1 g2 g3
  exact lv_istore hx hb hd g3 hn hl (fun ls' g3' => K H locs ls' g1 g2 g3')
theorem vx_lload_n (IG : vx_I l D cl tys R own cc nL Ts ct A H0 G) {j : Fin 4} {i : Nat} {x : Int64} (hd : decode cc pc = .ok (.lload_n j, 1)) (hi : (j : Nat) = i) (q : Nat) (hq : lv[q]? = some (i, .long x)) (K : vx_V D cl A H0 nL G h k n (pc + 1) lv (.long x :: st)) : vx_V D cl A H0 nL G h k n pc lv (st) := by
  obtain ⟨p, e, s, m, args, below, meth, c, Q, rfl, hx, hb, -⟩ := IG
  intro H locs ls g1 g2 g3
  exact lv_lload_n hx hb hd hi (lv_at g3 q hq) (K H locs ls g1 g2 g3)
theorem vx_lload (IG : vx_I l D cl tys R own cc nL Ts ct A H0 G) {i : Nat} {x : Int64} (hd : decode cc pc = .ok (.lload i, 2)) (q : Nat) (hq : lv[q]? = some (i, .long x)) (K : vx_V D cl A H0 nL G h k n (pc + 2) lv (.long x :: st)) : vx_V D cl A H0 nL G h k n pc lv (st) := by
  obtain ⟨p, e, s, m, args, below, meth, c, Q, rfl, hx, hb, -⟩ := IG
  intro H locs ls g1 g2 g3
  exact lv_lload hx hb hd (lv_at g3 q hq) (K H locs ls g1 g2 g3)
theorem vx_lstore_n (IG : vx_I l D cl tys R own cc nL Ts ct A H0 G) {j : Fin 4} {i : Nat} {x : Int64} {lv' : List (Nat × Value)} (hd : decode cc pc = .ok (.lstore_n j, 1)) (hi : (j : Nat) = i) (hn : i + 1 < nL) (hl : (i, Value.long x) :: lv.filter (fun q => !(q.1 == i) && (!(q.1 == i + 1) && !(q.1 + 1 == i && q.2.category == 2))) = lv') (K : vx_V D cl A H0 nL G h k n (pc + 1) lv' st) : vx_V D cl A H0 nL G h k n pc lv (.long x :: st) := by
  obtain ⟨p, e, s, m, args, below, meth, c, Q, rfl, hx, hb, -⟩ := IG
  intro H locs ls g1 g2 g3
  exact lv_lstore_n hx hb hd hi g3 hn hl (fun ls' g3' => K H locs ls' g1 g2 g3')
theorem vx_lstore (IG : vx_I l D cl tys R own cc nL Ts ct A H0 G) {i : Nat} {x : Int64} {lv' : List (Nat × Value)} (hd : decode cc pc = .ok (.lstore i, 2)) (hn : i + 1 < nL) (hl : (i, Value.long x) :: lv.filter (fun q => !(q.1 == i) && (!(q.1 == i + 1) && !(q.1 + 1 == i && q.2.category == 2))) = lv') (K : vx_V D cl A H0 nL G h k n (pc + 2) lv' st) : vx_V D cl A H0 nL G h k n pc lv (.long x :: st) := by
  obtain ⟨p, e, s, m, args, below, meth, c, Q, rfl, hx, hb, -⟩ := IG
  intro H locs ls g1 g2 g3
  exact lv_lstore hx hb hd g3 hn hl (fun ls' g3' => K H locs ls' g1 g2 g3')
theorem vx_aload_n (IG : vx_I l D cl tys R own cc nL Ts ct A H0 G) {j : Fin 4} {i : Nat} {x : Nat} (hd : decode cc pc = .ok (.aload_n j, 1)) (hi : (j : Nat) = i) (q : Nat) (hq : lv[q]? = some (i, .ref x)) (K : vx_V D cl A H0 nL G h k n (pc + 1) lv (.ref x :: st)) : vx_V D cl A H0 nL G h k n pc lv (st) := by
  obtain ⟨p, e, s, m, args, below, meth, c, Q, rfl, hx, hb, -⟩ := IG
  intro H locs ls g1 g2 g3
  exact lv_aload_n hx hb hd hi (lv_at g3 q hq) (K H locs ls g1 g2 g3)
theorem vx_aload (IG : vx_I l D cl tys R own cc nL Ts ct A H0 G) {i : Nat} {x : Nat} (hd : decode cc pc = .ok (.aload i, 2)) (q : Nat) (hq : lv[q]? = some (i, .ref x)) (K : vx_V D cl A H0 nL G h k n (pc + 2) lv (.ref x :: st)) : vx_V D cl A H0 nL G h k n pc lv (st) := by
  obtain ⟨p, e, s, m, args, below, meth, c, Q, rfl, hx, hb, -⟩ := IG
  intro H locs ls g1 g2 g3
  exact lv_aload hx hb hd (lv_at g3 q hq) (K H locs ls g1 g2 g3)
theorem vx_astore_n (IG : vx_I l D cl tys R own cc nL Ts ct A H0 G) {j : Fin 4} {i : Nat} {x : Nat} {lv' : List (Nat × Value)} (hd : decode cc pc = .ok (.astore_n j, 1)) (hi : (j : Nat) = i) (hn : i < nL) (hl : (i, Value.ref x) :: lv.filter (fun q => !(q.1 == i) && !(q.1 + 1 == i && q.2.category == 2)) = lv') (K : vx_V D cl A H0 nL G h k n (pc + 1) lv' st) : vx_V D cl A H0 nL G h k n pc lv (.ref x :: st) := by
  obtain ⟨p, e, s, m, args, below, meth, c, Q, rfl, hx, hb, -⟩ := IG
  intro H locs ls g1 g2 g3
  exact lv_astore_n hx hb hd hi g3 hn hl (fun ls' g3' => K H locs ls' g1 g2 g3')
theorem vx_astore (IG : vx_I l D cl tys R own cc nL Ts ct A H0 G) {i : Nat} {x : Nat} {lv' : List (Nat × Value)} (hd : decode cc pc = .ok (.astore i, 2)) (hn : i < nL) (hl : (i, Value.ref x) :: lv.filter (fun q => !(q.1 == i) && !(q.1 + 1 == i && q.2.category == 2)) = lv') (K : vx_V D cl A H0 nL G h k n (pc + 2) lv' st) : vx_V D cl A H0 nL G h k n pc lv (.ref x :: st) := by
  obtain ⟨p, e, s, m, args, below, meth, c, Q, rfl, hx, hb, -⟩ := IG
  intro H locs ls g1 g2 g3
  exact lv_astore hx hb hd g3 hn hl (fun ls' g3' => K H locs ls' g1 g2 g3')
theorem vx_iinc (IG : vx_I l D cl tys R own cc nL Ts ct A H0 G) {i q : Nat} {c : Int} {x v : Int32} {lv' : List (Nat × Value)} (hd : decode cc pc = .ok (.iinc i c, 3)) (hq : lv[q]? = some (i, .int x)) (hv : x + Int32.ofInt c = v) (hn : i < nL) (hl : (i, Value.int v) :: lv.filter (fun q => !(q.1 == i) && !(q.1 + 1 == i && q.2.category == 2)) = lv') (K : vx_V D cl A H0 nL G h k n (pc + 3) lv' st) : vx_V D cl A H0 nL G h k n pc lv (st) := by
  obtain ⟨p, e, s, m, args, below, meth, c, Q, rfl, hx, hb, -⟩ := IG
  intro H locs ls g1 g2 g3
  exact lv_iinc hx hb hd g3 hq hv hn hl (fun ls' g3' => K H locs ls' g1 g2 g3')
theorem vx_if_eq (IG : vx_I l D cl tys R own cc nL Ts ct A H0 G) {x : Int32} {off : Int} {tgt : Nat} (hd : decode cc pc = .ok (.ifCond .eq off, 3)) (ht : (pc : Int) + off = (tgt : Int)) (KT : x = 0 → vx_V D cl A H0 nL G h k n tgt lv st) (KF : ¬ x = 0 → vx_V D cl A H0 nL G h k n (pc + 3) lv st) : vx_V D cl A H0 nL G h k n pc lv (.int x :: st) := by
  obtain ⟨p, e, s, m, args, below, meth, c, Q, rfl, hx, hb, -⟩ := IG
  intro H locs ls g1 g2 g3
  exact lv_if_eq hx hb hd ht (fun q => KT q H locs ls g1 g2 g3) (fun q => KF q H locs ls g1 g2 g3)
theorem vx_icmp_eq (IG : vx_I l D cl tys R own cc nL Ts ct A H0 G) {x y : Int32} {off : Int} {tgt : Nat} (hd : decode cc pc = .ok (.if_icmp .eq off, 3)) (ht : (pc : Int) + off = (tgt : Int)) (KT : x = y → vx_V D cl A H0 nL G h k n tgt lv st) (KF : ¬ x = y → vx_V D cl A H0 nL G h k n (pc + 3) lv st) : vx_V D cl A H0 nL G h k n pc lv (.int y :: .int x :: st) := by
  obtain ⟨p, e, s, m, args, below, meth, c, Q, rfl, hx, hb, -⟩ := IG
  intro H locs ls g1 g2 g3
  exact lv_icmp_eq hx hb hd ht (fun q => KT q H locs ls g1 g2 g3) (fun q => KF q H locs ls g1 g2 g3)
theorem vx_if_ne (IG : vx_I l D cl tys R own cc nL Ts ct A H0 G) {x : Int32} {off : Int} {tgt : Nat} (hd : decode cc pc = .ok (.ifCond .ne off, 3)) (ht : (pc : Int) + off = (tgt : Int)) (KT : ¬ x = 0 → vx_V D cl A H0 nL G h k n tgt lv st) (KF : x = 0 → vx_V D cl A H0 nL G h k n (pc + 3) lv st) : vx_V D cl A H0 nL G h k n pc lv (.int x :: st) := by
  obtain ⟨p, e, s, m, args, below, meth, c, Q, rfl, hx, hb, -⟩ := IG
  intro H locs ls g1 g2 g3
  exact lv_if_ne hx hb hd ht (fun q => KT q H locs ls g1 g2 g3) (fun q => KF q H locs ls g1 g2 g3)
theorem vx_icmp_ne (IG : vx_I l D cl tys R own cc nL Ts ct A H0 G) {x y : Int32} {off : Int} {tgt : Nat} (hd : decode cc pc = .ok (.if_icmp .ne off, 3)) (ht : (pc : Int) + off = (tgt : Int)) (KT : ¬ x = y → vx_V D cl A H0 nL G h k n tgt lv st) (KF : x = y → vx_V D cl A H0 nL G h k n (pc + 3) lv st) : vx_V D cl A H0 nL G h k n pc lv (.int y :: .int x :: st) := by
  obtain ⟨p, e, s, m, args, below, meth, c, Q, rfl, hx, hb, -⟩ := IG
  intro H locs ls g1 g2 g3
  exact lv_icmp_ne hx hb hd ht (fun q => KT q H locs ls g1 g2 g3) (fun q => KF q H locs ls g1 g2 g3)
theorem vx_if_lt (IG : vx_I l D cl tys R own cc nL Ts ct A H0 G) {x : Int32} {off : Int} {tgt : Nat} (hd : decode cc pc = .ok (.ifCond .lt off, 3)) (ht : (pc : Int) + off = (tgt : Int)) (KT : x < 0 → vx_V D cl A H0 nL G h k n tgt lv st) (KF : ¬ x < 0 → vx_V D cl A H0 nL G h k n (pc + 3) lv st) : vx_V D cl A H0 nL G h k n pc lv (.int x :: st) := by
  obtain ⟨p, e, s, m, args, below, meth, c, Q, rfl, hx, hb, -⟩ := IG
  intro H locs ls g1 g2 g3
  exact lv_if_lt hx hb hd ht (fun q => KT q H locs ls g1 g2 g3) (fun q => KF q H locs ls g1 g2 g3)
theorem vx_icmp_lt (IG : vx_I l D cl tys R own cc nL Ts ct A H0 G) {x y : Int32} {off : Int} {tgt : Nat} (hd : decode cc pc = .ok (.if_icmp .lt off, 3)) (ht : (pc : Int) + off = (tgt : Int)) (KT : x < y → vx_V D cl A H0 nL G h k n tgt lv st) (KF : ¬ x < y → vx_V D cl A H0 nL G h k n (pc + 3) lv st) : vx_V D cl A H0 nL G h k n pc lv (.int y :: .int x :: st) := by
  obtain ⟨p, e, s, m, args, below, meth, c, Q, rfl, hx, hb, -⟩ := IG
  intro H locs ls g1 g2 g3
  exact lv_icmp_lt hx hb hd ht (fun q => KT q H locs ls g1 g2 g3) (fun q => KF q H locs ls g1 g2 g3)
theorem vx_if_ge (IG : vx_I l D cl tys R own cc nL Ts ct A H0 G) {x : Int32} {off : Int} {tgt : Nat} (hd : decode cc pc = .ok (.ifCond .ge off, 3)) (ht : (pc : Int) + off = (tgt : Int)) (KT : 0 ≤ x → vx_V D cl A H0 nL G h k n tgt lv st) (KF : ¬ 0 ≤ x → vx_V D cl A H0 nL G h k n (pc + 3) lv st) : vx_V D cl A H0 nL G h k n pc lv (.int x :: st) := by
  obtain ⟨p, e, s, m, args, below, meth, c, Q, rfl, hx, hb, -⟩ := IG
  intro H locs ls g1 g2 g3
  exact lv_if_ge hx hb hd ht (fun q => KT q H locs ls g1 g2 g3) (fun q => KF q H locs ls g1 g2 g3)
theorem vx_icmp_ge (IG : vx_I l D cl tys R own cc nL Ts ct A H0 G) {x y : Int32} {off : Int} {tgt : Nat} (hd : decode cc pc = .ok (.if_icmp .ge off, 3)) (ht : (pc : Int) + off = (tgt : Int)) (KT : y ≤ x → vx_V D cl A H0 nL G h k n tgt lv st) (KF : ¬ y ≤ x → vx_V D cl A H0 nL G h k n (pc + 3) lv st) : vx_V D cl A H0 nL G h k n pc lv (.int y :: .int x :: st) := by
  obtain ⟨p, e, s, m, args, below, meth, c, Q, rfl, hx, hb, -⟩ := IG
  intro H locs ls g1 g2 g3
  exact lv_icmp_ge hx hb hd ht (fun q => KT q H locs ls g1 g2 g3) (fun q => KF q H locs ls g1 g2 g3)
theorem vx_if_gt (IG : vx_I l D cl tys R own cc nL Ts ct A H0 G) {x : Int32} {off : Int} {tgt : Nat} (hd : decode cc pc = .ok (.ifCond .gt off, 3)) (ht : (pc : Int) + off = (tgt : Int)) (KT : 0 < x → vx_V D cl A H0 nL G h k n tgt lv st) (KF : ¬ 0 < x → vx_V D cl A H0 nL G h k n (pc + 3) lv st) : vx_V D cl A H0 nL G h k n pc lv (.int x :: st) := by
  obtain ⟨p, e, s, m, args, below, meth, c, Q, rfl, hx, hb, -⟩ := IG
  intro H locs ls g1 g2 g3
  exact lv_if_gt hx hb hd ht (fun q => KT q H locs ls g1 g2 g3) (fun q => KF q H locs ls g1 g2 g3)
theorem vx_icmp_gt (IG : vx_I l D cl tys R own cc nL Ts ct A H0 G) {x y : Int32} {off : Int} {tgt : Nat} (hd : decode cc pc = .ok (.if_icmp .gt off, 3)) (ht : (pc : Int) + off = (tgt : Int)) (KT : y < x → vx_V D cl A H0 nL G h k n tgt lv st) (KF : ¬ y < x → vx_V D cl A H0 nL G h k n (pc + 3) lv st) : vx_V D cl A H0 nL G h k n pc lv (.int y :: .int x :: st) := by
  obtain ⟨p, e, s, m, args, below, meth, c, Q, rfl, hx, hb, -⟩ := IG
  intro H locs ls g1 g2 g3
  exact lv_icmp_gt hx hb hd ht (fun q => KT q H locs ls g1 g2 g3) (fun q => KF q H locs ls g1 g2 g3)
theorem vx_if_le (IG : vx_I l D cl tys R own cc nL Ts ct A H0 G) {x : Int32} {off : Int} {tgt : Nat} (hd : decode cc pc = .ok (.ifCond .le off, 3)) (ht : (pc : Int) + off = (tgt : Int)) (KT : x ≤ 0 → vx_V D cl A H0 nL G h k n tgt lv st) (KF : ¬ x ≤ 0 → vx_V D cl A H0 nL G h k n (pc + 3) lv st) : vx_V D cl A H0 nL G h k n pc lv (.int x :: st) := by
  obtain ⟨p, e, s, m, args, below, meth, c, Q, rfl, hx, hb, -⟩ := IG
  intro H locs ls g1 g2 g3
  exact lv_if_le hx hb hd ht (fun q => KT q H locs ls g1 g2 g3) (fun q => KF q H locs ls g1 g2 g3)
theorem vx_icmp_le (IG : vx_I l D cl tys R own cc nL Ts ct A H0 G) {x y : Int32} {off : Int} {tgt : Nat} (hd : decode cc pc = .ok (.if_icmp .le off, 3)) (ht : (pc : Int) + off = (tgt : Int)) (KT : x ≤ y → vx_V D cl A H0 nL G h k n tgt lv st) (KF : ¬ x ≤ y → vx_V D cl A H0 nL G h k n (pc + 3) lv st) : vx_V D cl A H0 nL G h k n pc lv (.int y :: .int x :: st) := by
  obtain ⟨p, e, s, m, args, below, meth, c, Q, rfl, hx, hb, -⟩ := IG
  intro H locs ls g1 g2 g3
  exact lv_icmp_le hx hb hd ht (fun q => KT q H locs ls g1 g2 g3) (fun q => KF q H locs ls g1 g2 g3)
theorem vx_goto (IG : vx_I l D cl tys R own cc nL Ts ct A H0 G) {off : Int} {tgt : Nat} (hd : decode cc pc = .ok (.goto off, 3)) (ht : (pc : Int) + off = (tgt : Int)) (K : vx_V D cl A H0 nL G h k n tgt lv st) : vx_V D cl A H0 nL G h k n pc lv (st) := by
  obtain ⟨p, e, s, m, args, below, meth, c, Q, rfl, hx, hb, -⟩ := IG
  intro H locs ls g1 g2 g3
  exact lv_goto hx hb hd ht (K H locs ls g1 g2 g3)
theorem vx_same (IG : vx_I l D cl tys R own cc nL Ts ct A H0 G) {lv' : List (Nat × Value)} (ks : List Nat) (hl : lv_pick lv ks = lv') (K : vx_V D cl A H0 nL G h k n pc lv' st) : vx_V D cl A H0 nL G h k n pc lv st :=
  fun H locs ls g1 g2 g3 => K H locs ls g1 g2 (lv_sub g3 ks hl)
theorem vx_widen (IG : vx_I l D cl tys R own cc nL Ts ct A H0 G) {k' n' : Nat} (hk : k ≤ k') (hn : n ≤ n') (K : vx_V D cl A H0 nL G h k' n' pc lv st) : vx_V D cl A H0 nL G h k n pc lv st := by
  obtain ⟨p, e, s, m, args, below, meth, c, Q, rfl, hx, hb, -⟩ := IG
  intro H locs ls g1 g2 g3
  exact W.widen hk hn (K H locs ls g1 g2 g3)
theorem vx_ldc (IG : vx_I l D cl tys R own cc nL Ts ct A H0 G) {index : Nat} {v : Int32} (hm : Cond.constant own index v ∈ Ts) (hd : decode cc pc = .ok (.ldc index, 2)) (K : vx_V D cl A H0 nL G h k n (pc + 2) lv (.int v :: st)) : vx_V D cl A H0 nL G h k n pc lv st := by
  obtain ⟨p, e, s, m, args, below, meth, c, Q, rfl, hx, hb, hml, hown, hts, -⟩ := IG
  intro H locs ls g1 g2 g3
  exact lv_ldc hx hb hown (hts _ hm) hd (K H locs ls g1 g2 g3)
theorem vx_ldc2 (IG : vx_I l D cl tys R own cc nL Ts ct A H0 G) {index : Nat} {v : Int64} (hm : Cond.constantLong own index v ∈ Ts) (hd : decode cc pc = .ok (.ldc2_w index, 3)) (K : vx_V D cl A H0 nL G h k n (pc + 3) lv (.long v :: st)) : vx_V D cl A H0 nL G h k n pc lv st := by
  obtain ⟨p, e, s, m, args, below, meth, c, Q, rfl, hx, hb, hml, hown, hts, -⟩ := IG
  intro H locs ls g1 g2 g3
  exact lv_ldc2 hx hb hown (hts _ hm) hd (K H locs ls g1 g2 g3)
/-- the body's end -/
theorem vx_ret {ret : Option FieldType} {post : Option Value → vx_h → Nat → Nat → Prop} (v : Option Value) (RG : vx_R D cl A H0 cc ret post G) (he : vx_end ret cc pc v) (hs : v.toList = st) (hp : post v h k n) : vx_V D cl A H0 nL G h k n pc lv st := by
  intro H locs ls g1 g2 g3
  rw [← hs]
  exact RG H locs ls pc k n h v g1 g2 he hp
theorem vx_endv (hd : decode cc pc = .ok (.return_, 1)) : vx_end none cc pc none := Or.inl ⟨rfl, rfl, hd⟩
theorem vx_endi {ty : FieldType} {x : Int32} (hn : narrow ty (.int x) = .int x) (hd : decode cc pc = .ok (.ireturn, 1)) : vx_end (some ty) cc pc (some (.int x)) := Or.inr (Or.inl ⟨ty, x, rfl, hn, rfl, hd⟩)
theorem vx_endl {x : Int64} (hd : decode cc pc = .ok (.lreturn, 1)) : vx_end (some .long) cc pc (some (.long x)) := Or.inr (Or.inr (Or.inl ⟨x, rfl, rfl, hd⟩))
theorem vx_enda {ty : FieldType} {x : Nat} (ht : (∃ n, ty = .object n) ∨ ∃ t, ty = .array t) (hd : decode cc pc = .ok (.areturn, 1)) : vx_end (some ty) cc pc (some (.ref x)) := Or.inr (Or.inr (Or.inr ⟨ty, x, rfl, ht, rfl, hd⟩))
/-- a field is read -/
theorem vx_get (IG : vx_I l D cl tys R own cc nL Ts ct A H0 G) {C ref : String} {T : u_T} {N ci index a : Nat} {fs : List Value} {v : Value} (he : h a = some (.inr (ci, fs))) (hc : cl[ci]? = some (C, T, N)) (j : Nat) (hj : j < N) (hin : ∀ w ∈ u_ws C T N, w ∈ Ts) (hm : Cond.fieldLink own index ref (T j).2.1 (T j).2.2.1 ∈ Ts) (hr : (T j).1 = ref) (hv : fs[j]? = some v) (hd : decode cc pc = .ok (.getfield index, 3)) (K : vx_V D cl A H0 nL G h k n (pc + 3) lv (v :: st)) : vx_V D cl A H0 nL G h k n pc lv (.ref a :: st) := by
  obtain ⟨p, e, s, m, args, below, meth, c, Q, rfl, hx, hb, hml, hown, hts, hK, -⟩ := IG
  intro H locs ls g1 g2 g3
  obtain ⟨ws, hP, hD, cov⟩ := vx_list g1
  obtain ⟨q, hq⟩ := cov a _ he
  subst hr
  exact va_get hx hb hts hin hown hK hP q hq hc j hj (hts _ hm) (fun _ z => z) hv hd (K H locs ls g1 g2 g3)
theorem vx_getN (IG : vx_I l D cl tys R own cc nL Ts ct A H0 G) {C ref host : String} {T : u_T} {N ci index a : Nat} {fs : List Value} {v : Value} (he : h a = some (.inr (ci, fs))) (hc : cl[ci]? = some (C, T, N)) (j : Nat) (hj : j < N) (hin : ∀ w ∈ u_ws C T N, w ∈ Ts) (hm : Cond.fieldLinkNest own index ref (T j).2.1 (T j).2.2.1 host ∈ Ts) (hr : (T j).1 = ref) (hv : fs[j]? = some v) (hd : decode cc pc = .ok (.getfield index, 3)) (K : vx_V D cl A H0 nL G h k n (pc + 3) lv (v :: st)) : vx_V D cl A H0 nL G h k n pc lv (.ref a :: st) := by
  obtain ⟨p, e, s, m, args, below, meth, c, Q, rfl, hx, hb, hml, hown, hts, hK, -⟩ := IG
  intro H locs ls g1 g2 g3
  obtain ⟨ws, hP, hD, cov⟩ := vx_list g1
  obtain ⟨q, hq⟩ := cov a _ he
  subst hr
  exact va_getN hx hb hts hin hown hK hP q hq hc j hj (hts _ hm) (fun _ z => z) hv hd (K H locs ls g1 g2 g3)
/-- a field is written -/
theorem vx_put (IG : vx_I l D cl tys R own cc nL Ts ct A H0 G) {C ref : String} {T : u_T} {N ci index a : Nat} {fs : List Value} {v : Value} {ty : FieldType} (he : h a = some (.inr (ci, fs))) (hc : cl[ci]? = some (C, T, N)) (j : Nat) (hj : j < N) (hin : ∀ w ∈ u_ws C T N, w ∈ Ts) (ty0 : Nat → FieldType) (hty : ∀ k, k < N → parseFieldDescriptor (T k).2.2.1 = some (ty0 k)) (hnm : ∀ a, a < N → ∀ b, b < N → a ≠ b → (T a).2.1 ≠ (T b).2.1) (hm : Cond.fieldLink own index ref (T j).2.1 (T j).2.2.1 ∈ Ts) (hr : (T j).1 = ref) (hfin : (T j).2.2.2 = false) (hpd : parseFieldDescriptor (T j).2.2.1 = some ty) (hn : narrow ty v = v) (hfit : fits ty v = true) (hl : j < fs.length) (hd : decode cc pc = .ok (.putfield index, 3)) (K : vx_V D cl A H0 nL G (vx_up h a (.inr (ci, fs.set j v))) k n (pc + 3) lv st) : vx_V D cl A H0 nL G h k n pc lv (v :: .ref a :: st) := by
  obtain ⟨p, e, s, m, args, below, meth, c, Q, rfl, hx, hb, hml, hown, hts, hK, -⟩ := IG
  intro H locs ls g1 g2 g3
  obtain ⟨ws, hP, hD, cov⟩ := vx_list g1
  obtain ⟨q, hq⟩ := cov a _ he
  subst hr
  exact va_put hx hb hts hin ty0 hty hnm hown hK hP hD g2 q hq hc j hj (hts _ hm) (fun _ z => z) hfin hpd hn hfit hl hd (fun H1 locs1 hP1 hD1 hS1 => K H1 locs1 ls (vx_set hq cov hP1 hD1) hS1 g3)
theorem vx_putF (IG : vx_I l D cl tys R own cc nL Ts true A H0 G) {C : String} {T : u_T} {N ci index a : Nat} {fs : List Value} {v : Value} {ty : FieldType} (he : h a = some (.inr (ci, fs))) (hc : cl[ci]? = some (C, T, N)) (j : Nat) (hj : j < N) (hin : ∀ w ∈ u_ws C T N, w ∈ Ts) (ty0 : Nat → FieldType) (hty : ∀ k, k < N → parseFieldDescriptor (T k).2.2.1 = some (ty0 k)) (hnm : ∀ a, a < N → ∀ b, b < N → a ≠ b → (T a).2.1 ≠ (T b).2.1) (hm : Cond.fieldLink own index own (T j).2.1 (T j).2.2.1 ∈ Ts) (hr : (T j).1 = own) (hfin : (T j).2.2.2 = true) (hpd : parseFieldDescriptor (T j).2.2.1 = some ty) (hn : narrow ty v = v) (hfit : fits ty v = true) (hl : j < fs.length) (hd : decode cc pc = .ok (.putfield index, 3)) (K : vx_V D cl A H0 nL G (vx_up h a (.inr (ci, fs.set j v))) k n (pc + 3) lv st) : vx_V D cl A H0 nL G h k n pc lv (v :: .ref a :: st) := by
  obtain ⟨p, e, s, m, args, below, meth, c, Q, rfl, hx, hb, hml, hown, hts, hK, hh0, hA, hin2⟩ := IG
  intro H locs ls g1 g2 g3
  obtain ⟨ws, hP, hD, cov⟩ := vx_list g1
  obtain ⟨q, hq⟩ := cov a _ he
  exact va_putF hx hb hts hin ty0 hty hnm hown hK hP hD g2 q hq hc j hj (hts _ hm) (fun _ z => by rw [← hr]; exact z) hfin (hin2 rfl) hr hpd hn hfit hl hd (fun H1 locs1 hP1 hD1 hS1 => K H1 locs1 ls (vx_set hq cov hP1 hD1) hS1 g3)
/-- arrays -/
theorem vx_lald (IG : vx_I l D cl tys R own cc nL Ts ct A H0 G) {a : Nat} {cA : ClassId} {N : Nat} {f : Nat → Int64} {i : Int32} {x : Int64} (he : h a = some (.inl (cA, N, .inr (.inl f)))) (t0 : Nat) (ht : tys[t0]? = some (cA, .long)) (hin : vp_in i N) (hv : f i.toNatClampNeg = x) (hd : decode cc pc = .ok (.laload, 1)) (K : vx_V D cl A H0 nL G h k n (pc + 1) lv (.long x :: st)) : vx_V D cl A H0 nL G h k n pc lv (.int i :: .ref a :: st) := by
  obtain ⟨p, e, s, m, args, below, meth, c, Q, rfl, hx, hb, hml, hown, hts, hK, -⟩ := IG
  intro H locs ls g1 g2 g3
  obtain ⟨ws, hP, hD, cov⟩ := vx_list g1
  obtain ⟨q, hq⟩ := cov a _ he
  subst hv
  exact va_lald hx hb hK hP q t0 hq ht hin hd (K H locs ls g1 g2 g3)
theorem vx_last (IG : vx_I l D cl tys R own cc nL Ts ct A H0 G) {a : Nat} {cA : ClassId} {N : Nat} {f : Nat → Int64} {i : Int32} {x : Int64} (he : h a = some (.inl (cA, N, .inr (.inl f)))) (t0 : Nat) (ht : tys[t0]? = some (cA, .long)) (hin : vp_in i N) (hd : decode cc pc = .ok (.lastore, 1)) (K : vx_V D cl A H0 nL G (vx_up h a (.inl (cA, N, .inr (.inl (vp_updL f i.toNatClampNeg x))))) k n (pc + 1) lv st) : vx_V D cl A H0 nL G h k n pc lv (.long x :: .int i :: .ref a :: st) := by
  obtain ⟨p, e, s, m, args, below, meth, c, Q, rfl, hx, hb, hml, hown, hts, hK, -⟩ := IG
  intro H locs ls g1 g2 g3
  obtain ⟨ws, hP, hD, cov⟩ := vx_list g1
  obtain ⟨q, hq⟩ := cov a _ he
  exact va_last hx hb hK hP hD g2 q t0 hq ht hin hd (fun H1 locs1 hP1 hD1 hS1 => K H1 locs1 ls (vx_set hq cov hP1 hD1) hS1 g3)
theorem vx_iald (IG : vx_I l D cl tys R own cc nL Ts ct A H0 G) {a : Nat} {cA : ClassId} {N : Nat} {f : Nat → Int32} {i : Int32} {x : Int32} (he : h a = some (.inl (cA, N, .inl f))) (t0 : Nat) (ht : tys[t0]? = some (cA, .int)) (hin : vp_in i N) (hv : f i.toNatClampNeg = x) (hd : decode cc pc = .ok (.iaload, 1)) (K : vx_V D cl A H0 nL G h k n (pc + 1) lv (.int x :: st)) : vx_V D cl A H0 nL G h k n pc lv (.int i :: .ref a :: st) := by
  obtain ⟨p, e, s, m, args, below, meth, c, Q, rfl, hx, hb, hml, hown, hts, hK, -⟩ := IG
  intro H locs ls g1 g2 g3
  obtain ⟨ws, hP, hD, cov⟩ := vx_list g1
  obtain ⟨q, hq⟩ := cov a _ he
  subst hv
  exact va_iald hx hb hK hP q t0 hq ht hin hd (K H locs ls g1 g2 g3)
theorem vx_iast (IG : vx_I l D cl tys R own cc nL Ts ct A H0 G) {a : Nat} {cA : ClassId} {N : Nat} {f : Nat → Int32} {i : Int32} {x : Int32} (he : h a = some (.inl (cA, N, .inl f))) (t0 : Nat) (ht : tys[t0]? = some (cA, .int)) (hin : vp_in i N) (hd : decode cc pc = .ok (.iastore, 1)) (K : vx_V D cl A H0 nL G (vx_up h a (.inl (cA, N, .inl (upd f i.toNatClampNeg x)))) k n (pc + 1) lv st) : vx_V D cl A H0 nL G h k n pc lv (.int x :: .int i :: .ref a :: st) := by
  obtain ⟨p, e, s, m, args, below, meth, c, Q, rfl, hx, hb, hml, hown, hts, hK, -⟩ := IG
  intro H locs ls g1 g2 g3
  obtain ⟨ws, hP, hD, cov⟩ := vx_list g1
  obtain ⟨q, hq⟩ := cov a _ he
  exact va_iast hx hb hK hP hD g2 q t0 hq ht hin hd (fun H1 locs1 hP1 hD1 hS1 => K H1 locs1 ls (vx_set hq cov hP1 hD1) hS1 g3)
theorem vx_zald (IG : vx_I l D cl tys R own cc nL Ts ct A H0 G) {a : Nat} {cA : ClassId} {N : Nat} {f : Nat → Int32} {i : Int32} {x : Int32} (he : h a = some (.inl (cA, N, .inl f))) (t0 : Nat) (ht : tys[t0]? = some (cA, .boolean)) (hin : vp_in i N) (hv : f i.toNatClampNeg = x) (hd : decode cc pc = .ok (.baload, 1)) (K : vx_V D cl A H0 nL G h k n (pc + 1) lv (.int x :: st)) : vx_V D cl A H0 nL G h k n pc lv (.int i :: .ref a :: st) := by
  obtain ⟨p, e, s, m, args, below, meth, c, Q, rfl, hx, hb, hml, hown, hts, hK, -⟩ := IG
  intro H locs ls g1 g2 g3
  obtain ⟨ws, hP, hD, cov⟩ := vx_list g1
  obtain ⟨q, hq⟩ := cov a _ he
  subst hv
  exact va_zald hx hb hK hP q t0 hq ht hin hd (K H locs ls g1 g2 g3)
theorem vx_zast (IG : vx_I l D cl tys R own cc nL Ts ct A H0 G) {a : Nat} {cA : ClassId} {N : Nat} {f : Nat → Int32} {i : Int32} {x : Int32} (he : h a = some (.inl (cA, N, .inl f))) (t0 : Nat) (ht : tys[t0]? = some (cA, .boolean)) (hin : vp_in i N) (hd : decode cc pc = .ok (.bastore, 1)) (K : vx_V D cl A H0 nL G (vx_up h a (.inl (cA, N, .inl (upd f i.toNatClampNeg (vp_nar .boolean x))))) k n (pc + 1) lv st) : vx_V D cl A H0 nL G h k n pc lv (.int x :: .int i :: .ref a :: st) := by
  obtain ⟨p, e, s, m, args, below, meth, c, Q, rfl, hx, hb, hml, hown, hts, hK, -⟩ := IG
  intro H locs ls g1 g2 g3
  obtain ⟨ws, hP, hD, cov⟩ := vx_list g1
  obtain ⟨q, hq⟩ := cov a _ he
  exact va_zast hx hb hK hP hD g2 q t0 hq ht hin hd (fun H1 locs1 hP1 hD1 hS1 => K H1 locs1 ls (vx_set hq cov hP1 hD1) hS1 g3)
theorem vx_aald (IG : vx_I l D cl tys R own cc nL Ts ct A H0 G) {a x : Nat} {cA : ClassId} {C : String} {N : Nat} {f : Nat → Option Nat} {i : Int32} (he : h a = some (.inl (cA, N, .inr (.inr (.inr (.inr f)))))) (t0 : Nat) (ht : tys[t0]? = some (cA, .object C)) (hin : vp_in i N) (hv : f i.toNatClampNeg = some x) (hd : decode cc pc = .ok (.aaload, 1)) (K : vx_V D cl A H0 nL G h k n (pc + 1) lv (.ref x :: st)) : vx_V D cl A H0 nL G h k n pc lv (.int i :: .ref a :: st) := by
  obtain ⟨p, e, s, m, args, below, meth, c, Q, rfl, hx, hb, hml, hown, hts, hK, -⟩ := IG
  intro H locs ls g1 g2 g3
  obtain ⟨ws, hP, hD, cov⟩ := vx_list g1
  obtain ⟨q, hq⟩ := cov a _ he
  refine va_aldq hx hb hK hP q t0 hq ht hin hd ?_
  rw [hv]
  exact K H locs ls g1 g2 g3
theorem vx_aast (IG : vx_I l D cl tys R own cc nL Ts ct A H0 G) {a v ci : Nat} {cA : ClassId} {r : vw_C} {N : Nat} {vs : List Value} {f : Nat → Option Nat} {i : Int32} (he : h a = some (.inl (cA, N, .inr (.inr (.inr (.inr f)))))) (t0 : Nat) (ht : tys[t0]? = some (cA, .object r.1)) (hv : h v = some (.inr (ci, vs))) (hc : cl[ci]? = some r) (hin : vp_in i N) (hd : decode cc pc = .ok (.aastore, 1)) (K : vx_V D cl A H0 nL G (vx_up h a (.inl (cA, N, .inr (.inr (.inr (.inr (va_up f i.toNatClampNeg (some v)))))))) k n (pc + 1) lv st) : vx_V D cl A H0 nL G h k n pc lv (.ref v :: .int i :: .ref a :: st) := by
  obtain ⟨p, e, s, m, args, below, meth, c, Q, rfl, hx, hb, hml, hown, hts, hK, -⟩ := IG
  intro H locs ls g1 g2 g3
  obtain ⟨ws, hP, hD, cov⟩ := vx_list g1
  obtain ⟨q, hq⟩ := cov a _ he
  obtain ⟨q2, hq2⟩ := cov v _ hv
  exact va_astq hx hb hK hP hD g2 q t0 q2 ci hq ht hq2 hc hin hd (fun H1 locs1 hP1 hD1 hS1 => K H1 locs1 ls (vx_set hq cov hP1 hD1) hS1 g3)
theorem vx_alen (IG : vx_I l D cl tys R own cc nL Ts ct A H0 G) {a : Nat} {cA : ClassId} {x : vp_A} (he : h a = some (.inl (cA, x))) (t0 : Nat) {ty : FieldType} (ht : tys[t0]? = some (cA, ty)) {v : Int32} (hv : Int32.ofNat x.1 = v) (hd : decode cc pc = .ok (.arraylength, 1)) (K : vx_V D cl A H0 nL G h k n (pc + 1) lv (.int v :: st)) : vx_V D cl A H0 nL G h k n pc lv (.ref a :: st) := by
  obtain ⟨p, e, s, m, args, below, meth, c, Q, rfl, hx, hb, hml, hown, hts, hK, -⟩ := IG
  intro H locs ls g1 g2 g3
  obtain ⟨ws, hP, hD, cov⟩ := vx_list g1
  obtain ⟨q, hq⟩ := cov a _ he
  exact va_alen hx hb hK hP q t0 hq ht hv hd (K H locs ls g1 g2 g3)
/-- a new array of numbers: a is none of the tracked -/
theorem vx_newa (IG : vx_I l D cl tys R own cc nL Ts ct A H0 G) {atype : ArrayType} {ty : FieldType} {cA : ClassId} (hm : Cond.arrayClass (newarray.typeOf atype) ∈ Ts) (hty : newarray.typeOf atype = ty) (t0 : Nat) (ht : tys[t0]? = some (cA, ty)) (hRA : ∀ (U : State) (c : ClassId), va_RA U c ty → U.vm.findClass ("[" ++ ty.toString) = some c) {i : Int32} {N : Nat} {a0 : vp_A} (ha : ∀ cA : ClassId, vp_cell cA a0 = arrV cA N (fun _ => defaultValue ty)) (hn : ¬ i < 0) (hN : i.toNatClampNeg = N) (hby : N * componentBytes ty ≤ 536870912) (hcells : k + 1 ≤ R.cells) (hslots : n + N ≤ R.slots) (hd : decode cc pc = .ok (.newarray atype, 2)) (K : ∀ a : Nat, h a = none → vx_V D cl A H0 nL G (vx_up h a (.inl (cA, a0))) (k + 1) (n + N) (pc + 2) lv (.ref a :: st)) : vx_V D cl A H0 nL G h k n pc lv (.int i :: st) := by
  obtain ⟨p, e, s, m, args, below, meth, c, Q, rfl, hx, hb, hml, hown, hts, hK, hh0, hA, -⟩ := IG
  intro H locs ls g1 g2 g3
  obtain ⟨ws, hP, hD, cov⟩ := vx_list g1
  refine va_newa hx hb (hts _ hm) hty hK hP hD g2 hA ha hn hN hby hcells hslots hd (fun q cB H1 hK1 hP1 hD1 hS1 => ?_)
  have e1 := hRA s cB (hK1.2 tys.length (cB, ty) (by simp)).2
  have e2 := hRA s cA (hK.2 t0 _ ht).2
  obtain rfl : cB = cA := Option.some.inj (e1.symm.trans e2)
  refine K q ?_ H1 locs ls (vx_push cov hP1 hD1) hS1 g3
  cases hq : h q with
  | none => rfl
  | some z =>
    obtain ⟨j, hj⟩ := cov q z hq
    have hl := (List.getElem?_eq_some_iff.mp hj).1
    have h1 : (ws ++ [(q, Sum.inl (cB, a0))])[j]? = some (q, z) := by rw [List.getElem?_append_left hl]; exact hj
    have h2 : (ws ++ [((q, Sum.inl (cB, a0)) : Nat × va_E)])[ws.length]? = some (q, Sum.inl (cB, a0)) := by simp
    have := hD1.1 j ws.length _ _ h1 h2 rfl
    omega
/-- a new object -/
theorem vx_new (IG : vx_I l D cl tys R own cc nL Ts ct A H0 G) {C : String} {T : u_T} {N ci index : Nat} {fs : List Value} (hc : cl[ci]? = some (C, T, N)) (hin : ∀ w ∈ u_ws C T N, w ∈ Ts) (ty0 : Nat → FieldType) (hty : ∀ k, k < N → parseFieldDescriptor (T k).2.2.1 = some (ty0 k)) (hm1 : Cond.classLink own index C ∈ Ts) (hm2 : Cond.instantiable C N ∈ Ts) (hm3 : Cond.initialized C ∈ Ts) (hfs : ∀ j, j < N → defaultValue (ty0 j) = vp_V fs j) (hcells : k + 1 ≤ R.cells) (hslots : n + N ≤ R.slots) (hd : decode cc pc = .ok (.new index, 3)) (K : ∀ a : Nat, h a = none → vx_V D cl A H0 nL G (vx_up h a (.inr (ci, fs))) (k + 1) (n + N) (pc + 3) lv (.ref a :: st)) : vx_V D cl A H0 nL G h k n pc lv st := by
  obtain ⟨p, e, s, m, args, below, meth, c, Q, rfl, hx, hb, hml, hown, hts, hK, hh0, hA, -⟩ := IG
  intro H locs ls g1 g2 g3
  obtain ⟨ws, hP, hD, cov⟩ := vx_list g1
  refine va_new hx hb hts hin ty0 hty hown (hts _ hm1) (hts _ hm2) (hts _ hm3) hK hP hD g2 hA hc hfs hcells hslots hd (fun q H1 hP1 hD1 hS1 => ?_)
  refine K q ?_ H1 locs ls (vx_push cov hP1 hD1) hS1 g3
  cases hq : h q with
  | none => rfl
  | some z =>
    obtain ⟨j, hj⟩ := cov q z hq
    have hl := (List.getElem?_eq_some_iff.mp hj).1
    have h1 : (ws ++ [(q, Sum.inr (ci, fs))])[j]? = some (q, z) := by rw [List.getElem?_append_left hl]; exact hj
    have h2 : (ws ++ [((q, Sum.inr (ci, fs)) : Nat × va_E)])[ws.length]? = some (q, Sum.inr (ci, fs)) := by simp
    have := hD1.1 j ws.length _ _ h1 h2 rfl
    omega
/-- System.arraycopy over longs -/
theorem vx_copyl (IG : vx_I l D cl tys R own cc nL Ts ct A H0 G) {index a0 a1 : Nat} {cA : ClassId} {n0 n1 : Nat} {f g : Nat → Int64} (hm1 : Cond.methodLink own index arraycopyName ∈ Ts) (hm2 : Cond.native arraycopyName ∈ Ts) (hm3 : Cond.static arraycopyName ∈ Ts) (hm4 : Cond.initialized "java/lang/System" ∈ Ts) (he0 : h a0 = some (.inl (cA, n0, .inr (.inl f)))) (he1 : h a1 = some (.inl (cA, n1, .inr (.inl g)))) (t0 : Nat) (ht : tys[t0]? = some (cA, .long)) {sp dp w : Int32} (h1 : ¬ sp < 0) (h2 : ¬ dp < 0) (h3 : ¬ w < 0) (h4 : sp.toNatClampNeg + w.toNatClampNeg ≤ n0) (h5 : dp.toNatClampNeg + w.toNatClampNeg ≤ n1) (hfr : 1 ≤ R.frames) (hlo : (st.map fun v => v.category).sum + (nativeFrameWords "java/lang/System" "arraycopy" 5 + 11) ≤ R.locals) (hd : decode cc pc = .ok (.invokestatic index, 3)) (K : vx_V D cl A H0 nL G (vx_up h a1 (.inl (cA, n1, .inr (.inl (va_cpy f g sp.toNatClampNeg dp.toNatClampNeg w.toNatClampNeg))))) k n (pc + 3) lv st) : vx_V D cl A H0 nL G h k n pc lv (.int w :: .int dp :: .ref a1 :: .int sp :: .ref a0 :: st) := by
  obtain ⟨p, e, s, m, args, below, meth, c, Q, rfl, hx, hb, hml, hown, hts, hK, -⟩ := IG
  intro H locs ls g1 g2 g3
  obtain ⟨ws, hP, hD, cov⟩ := vx_list g1
  obtain ⟨q, hq⟩ := cov a0 _ he0
  obtain ⟨q2, hq2⟩ := cov a1 _ he1
  exact va_copyl hx hb (hml.trans g3.1.symm) hown (hts _ hm1) (hts _ hm2) (hts _ hm3) (hts _ hm4) hK hP hD g2 q q2 t0 t0 hq hq2 ht ht rfl h1 h2 h3 h4 h5 (fun i hi => rfl) hfr hlo hd (fun H1 locs1 hP1 hD1 hS1 => K H1 locs1 ls (vx_set hq2 cov hP1 hD1) hS1 g3)
theorem vx_topi {x y : Int32} (e : x = y) (K : vx_V D cl A H0 nL G h k n pc lv (.int y :: st)) : vx_V D cl A H0 nL G h k n pc lv (.int x :: st) := by subst e; exact K
theorem vx_topl {x y : Int64} (e : x = y) (K : vx_V D cl A H0 nL G h k n pc lv (.long y :: st)) : vx_V D cl A H0 nL G h k n pc lv (.long x :: st) := by subst e; exact K
end
end
section
/-! calls, by contract -/
section
variable {l : Launch} {D : va_G} {cl : List vw_C} {tys : List (ClassId × FieldType)} {R : Room} {own : String} {cc : ByteArray} {nL : Nat} {Ts : List Cond} {ct : Bool} {A : Nat → Prop} {H0 : Heap} {G : vx_G} {h : vx_h} {k n pc : Nat} {lv : List (Nat × Value)} {st : List Value}
variable {y : MethodName} {ws : List Cond} {rm : Room} {av : List Value} {post : Option Value → vx_h → Nat → Nat → Prop} {bytes : ByteArray} {maxL : Nat} {ret : Option FieldType}
def vx_Pre (R : Room) (D : va_G) (cl : List vw_C) (tys : List (ClassId × FieldType)) (rm : Room) (av : List Value) (h : vx_h) : Pt → Array Value → Prop := fun P a => P.cells + rm.cells ≤ R.cells ∧ P.slots + rm.slots ≤ R.slots ∧ a = av.toArray ∧ vx_AH D cl (fun _ => True) h P.U.heap ∧ va_K D cl tys P.U
def vx_Post (D : va_G) (cl : List vw_C) (h : vx_h) (post : Option Value → vx_h → Nat → Nat → Prop) : Pt → Array Value → Option Value → Pt → Prop := fun P _ v B =>
  ∃ (L : List Loc) (k' n' : Nat) (h' : vx_h), B.locs = P.locs ++ L ∧ B.cells = P.cells + k' ∧ B.slots = P.slots + n' ∧ (∀ q ∈ L, vx_A h P.U.heap.size q.base) ∧ post v h' k' n' ∧ vx_AH D cl (vx_A h P.U.heap.size) h' B.U.heap ∧ P.U.heap.size ≤ B.U.heap.size ∧ ∀ q : Nat, q < P.U.heap.size → ¬ vx_A h P.U.heap.size q → B.U.heap[q]? = P.U.heap[q]?
theorem vx_back {p : Program} {e : Env} {s : State} {below : List Frame} {sargs : Array Value} {len W0 : Nat} (hM : vx_M l D cl tys y ws rm av h post) (hframes : rm.frames + 1 ≤ R.frames) (hlocals : W0 + (maxL + 11) + rm.locals ≤ R.locals)
    (hws : ∀ w ∈ ws, ∀ (a' : Array Value) (U : State), s.WarmedH U.vm → w.before a' U = true) (hcode : Cond.code y bytes maxL ret ∈ ws) (hinit : Cond.initialized y.cls ∈ ws) :
    Back l R p e below s sargs y len W0 (vx_Pre R D cl tys rm av h) (vx_Post D cl h post) := by
  refine Back.of_free (S := headSpec ws rm) (K := fun _ _ _ _ _ => True) (bytes := bytes) (maxL := maxL) (ret := ret)
    (E := fun a st o t L k n => ∃ (v : Option Value) (h' : vx_h), o = .returned v ∧ (∀ q ∈ L, vx_A h st.heap.size q.base) ∧ post v h' k n ∧ vx_AH D cl (vx_A h st.heap.size) h' t.heap ∧ va_F (vx_A h st.heap.size) st t) hM hframes hlocals ?_ ?_ (fun _ _ _ _ _ _ _ _ _ => trivial) ?_ ?_
  · intro m meth c P a X hp
    exact ⟨atoms_intro fun w hw => hws w hw _ _ X.warmed, hws _ hcode _ _ X.warmed, hws _ hinit _ _ X.warmed, hp.1, hp.2.1⟩
  · intro m meth c P a g mk X hp
    exact ⟨hp.2.2.1, hp.2.2.2.1, va_K.moved (u := P.U) (U := P.U.calling g mk a) (Vm.Alike.refl P.U.vm) hp.2.2.2.2⟩
  · intro a st o t ⟨v, h', L, k, n, e1, e2, e3, e4, e5, e6⟩
    exact ⟨L, k, n, e2, v, h', e1, e3, e4, e5, e6⟩
  · intro m meth c P a g mk v t L k n X hp hq hF ⟨v', h', e1, e3, e4, e5, e6⟩
    cases e1
    exact ⟨L, k, n, h', rfl, rfl, rfl, e3, e4, e5, e6.1, e6.2⟩
def vx_Run (p : Program) (l : Launch) (e : Env) (R : Room) (s : State) (m : MethodId) (args : Array Value) (below : List Frame) (meth : Method) (c : Code) (D : va_G) (cl : List vw_C) (h : vx_h) (H : Heap) (locs : List Loc) (k n : Nat) (g : JFrame) (rest : List Value) (post : Option Value → vx_h → Nat → Nat → Prop) : Prop :=
  ∀ T : State, T.heap = H → Stand p l e R s m args below meth c T locs k n → ∃ (v : Option Value) (T' : State) (L : List Loc) (k' n' : Nat) (h' : vx_h), Stand p l e R s m args below meth c T' (locs ++ L) (k + k') (n + n') ∧ (∀ q ∈ L, vx_A h H.size q.base) ∧ post v h' k' n' ∧ vx_AH D cl (vx_A h H.size) h' T'.heap ∧ H.size ≤ T'.heap.size ∧ (∀ q : Nat, q < H.size → ¬ vx_A h H.size q → T'.heap[q]? = H[q]?) ∧ Goes p e below T g T' { g with pc := g.pc + 3, stack := v.toList ++ rest }
theorem vx_goes {p : Program} {e : Env} {s : State} {m : MethodId} {args : Array Value} {below : List Frame} {meth : Method} {c : Code} {Q : State → Prop} {H : Heap} {locs : List Loc} {ls : Array Slot} {st0 : List Value} (hA : ∀ q : Nat, H0.size ≤ q → A q) (g1 : vx_AH D cl A h H) (g2 : va_S A H0 H locs) (g3 : lv_has ls nL lv)
    (hr : vx_Run p l e R s m args below meth c D cl h H locs k n (F0 m pc ls st0) st post)
    (K : ∀ (v : Option Value) (h' : vx_h) (k' n' : Nat), post v h' k' n' → vx_V D cl A H0 nL (fun H locs k n pc ls st => W p l e R s m args below meth c H locs k n Q (F0 m pc ls st)) h' (k + k') (n + n') (pc + 3) lv (v.toList ++ st)) :
    W p l e R s m args below meth c H locs k n Q (F0 m pc ls st0) := by
  intro T hT X
  obtain ⟨v, T', L, k', n', h', X', hL, hp, hAH, hz, hk, hgo⟩ := hr T hT X
  have sub : ∀ q, vx_A h H.size q → A q := by
    intro q hq
    rcases hq with ⟨e, he⟩ | hq
    · exact (g1 q e he).2
    · exact hA q (Nat.le_trans g2.1 hq)
  obtain ⟨t, a1, b1⟩ := K v h' k' n' hp T'.heap (locs ++ L) ls (fun a e he => ⟨(hAH a e he).1, sub a (hAH a e he).2⟩)
    ⟨Nat.le_trans g2.1 hz, fun q h1 h2 => by rw [hk q (Nat.lt_of_lt_of_le h1 g2.1) (fun z => h2 (sub q z))]; exact g2.2.1 q h1 h2, fun q hq => by
      rcases List.mem_append.mp hq with z | z
      · exact g2.2.2 q z
      · exact sub _ (hL q z)⟩ g3 T' rfl X'
  exact ⟨t, hgo t a1, b1⟩
/-- the words of a callee, at the caller's later states -/
theorem vx_words {s : State} {args : Array Value} (hg : GoodIn Ts Ts) (hts : ∀ w ∈ Ts, w.before args s = true) : ∀ w ∈ Ts, ∀ (a' : Array Value) (U : State), s.WarmedH U.vm → w.before a' U = true :=
  fun w hw _ _ hW => word_at hW (hg w hw).2 (hts w hw)
abbrev vx_nm (y : MethodName) (a : Nat) : Prop := y.cls ≠ "java/lang/invoke/MethodHandle" ∧ y.cls ≠ "java/lang/invoke/VarHandle" ∧ (parseMethodDescriptor y.desc).map (fun d => d.parameters.length) = some a
theorem vx_len {a : Nat} (h : vx_nm y a) : ∀ sig, parseMethodDescriptor y.desc = some sig → a = sig.parameters.length := by
  intro sig hs
  have h2 := h.2.2
  rw [hs] at h2
  exact (Option.some.inj h2).symm
theorem vx_recv {s : State} {H : Heap} {C : String} {T : u_T} {N ci a : Nat} {fs : List Value} (hK : va_K D cl tys s) (g1 : vx_AH D cl A h H) (hc : cl[ci]? = some (C, T, N)) (he : h a = some (.inr (ci, fs))) : ∃ cell : Cell, H[a]? = some cell ∧ cell.vm.isStatics = false ∧ s.vm.findClass C = some cell.cls := by
  obtain ⟨ws, hP, hD, cov⟩ := vx_list g1
  obtain ⟨q, hq⟩ := cov a _ he
  exact va_recv hK hP hc hq
/-- invokevirtual -/
theorem vx_callV (IG : vx_I l D cl tys R own cc nL Ts ct A H0 G) (hg : GoodIn Ts Ts) {b : Nat} {As : List Value} (hM : vx_M l D cl tys y Ts rm (.ref b :: As) h post) {C : String} {T : u_T} {N ci index : Nat} {fs : List Value} (he : h b = some (.inr (ci, fs))) (hc : cl[ci]? = some (C, T, N)) (hcode : Cond.code y bytes maxL ret ∈ Ts) (hm1 : Cond.methodLink own index y ∈ Ts) (hm2 : Cond.instanceMethod y ∈ Ts) (hm3 : Cond.selects C y y ∈ Ts) (hm4 : Cond.initialized y.cls ∈ Ts) (hy : vx_nm y As.length) (hR : rm.frames + 1 ≤ R.frames ∧ 8 + (maxL + 11) + rm.locals ≤ R.locals) (hf : k + rm.cells ≤ R.cells ∧ n + rm.slots ≤ R.slots) {st0 : List Value} (hs : st0 = As.reverse ++ .ref b :: st) (hW : (st.map fun v => v.category).sum ≤ 8) (hd : decode cc pc = .ok (.invokevirtual index, 3))
    (K : ∀ (v : Option Value) (h' : vx_h) (k' n' : Nat), post v h' k' n' → vx_V D cl A H0 nL G h' (k + k') (n + n') (pc + 3) lv (v.toList ++ st)) : vx_V D cl A H0 nL G h k n pc lv st0 := by
  obtain ⟨p, e, s, m, args, below, meth, c, Q, rfl, hx, hb, hml, hown, hts, hK, hh0, hA, -⟩ := IG
  intro H locs ls g1 g2 g3
  refine vx_goes hA g1 g2 g3 ?_ K
  intro T hT X
  obtain ⟨cellB, hcB, hoB, hclB⟩ := vx_recv hK g1 hc he
  obtain ⟨v, vm₁, ⟨U', l2, c2, s2⟩, hW₁, X', ⟨L, k', n', h', e1, e2, e3, e4, e5, e6, e7, e8⟩, go⟩ := callV X hx (C := C) (bytes := bytes) (maxL := maxL) (ret := ret) hown (hts _ hm1) (hts _ hm2) (hts _ hm3) (hts _ hcode) ⟨hy.1, hy.2.1⟩
    (vx_back (bytes := bytes) (maxL := maxL) (ret := ret) (W0 := 8) hM hR.1 hR.2 (vx_words hg hts) hcode hm4) (by rw [hT]; exact hcB) hoB hclB (g := F0 m pc ls st0) rfl (by rw [hml]; exact g3.1) (argsL := As) (rest := st) (vx_len hy) hs (lv_room (rest := st0) hW) (by rw [hb]; exact hd)
    (fun vm₁ hW₁ => ⟨hf.1, hf.2, rfl, (show vx_AH D cl (fun _ => True) h T.heap by rw [hT]; exact fun a e z => ⟨(g1 a e z).1, trivial⟩), va_K.moved hW₁.alike hK⟩)
  dsimp only [Pt.U, Pt.locs, Pt.cells, Pt.slots] at X' e1 e2 e3 e4 e6 e7 e8 go
  subst e1; subst e2; subst e3
  have hTv : (T.setVm vm₁).heap = H := hT
  rw [hTv] at e4 e6 e7 e8
  exact ⟨v, U', L, k', n', h', X', e4, e5, e6, e7, e8, go⟩
/-- invokestatic -/
theorem vx_callS (IG : vx_I l D cl tys R own cc nL Ts ct A H0 G) (hg : GoodIn Ts Ts) {As : List Value} (hM : vx_M l D cl tys y Ts rm As h post) {index : Nat} (hcode : Cond.code y bytes maxL ret ∈ Ts) (hm1 : Cond.methodLink own index y ∈ Ts) (hm2 : Cond.static y ∈ Ts) (hm4 : Cond.initialized y.cls ∈ Ts) (hy : vx_nm y As.length) (hR : rm.frames + 1 ≤ R.frames ∧ 8 + (maxL + 11) + rm.locals ≤ R.locals) (hf : k + rm.cells ≤ R.cells ∧ n + rm.slots ≤ R.slots) {st0 : List Value} (hs : st0 = As.reverse ++ st) (hW : (st.map fun v => v.category).sum ≤ 8) (hd : decode cc pc = .ok (.invokestatic index, 3))
    (K : ∀ (v : Option Value) (h' : vx_h) (k' n' : Nat), post v h' k' n' → vx_V D cl A H0 nL G h' (k + k') (n + n') (pc + 3) lv (v.toList ++ st)) : vx_V D cl A H0 nL G h k n pc lv st0 := by
  obtain ⟨p, e, s, m, args, below, meth, c, Q, rfl, hx, hb, hml, hown, hts, hK, hh0, hA, -⟩ := IG
  intro H locs ls g1 g2 g3
  refine vx_goes hA g1 g2 g3 ?_ K
  intro T hT X
  obtain ⟨v, vm₁, ⟨U', l2, c2, s2⟩, hW₁, X', ⟨L, k', n', h', e1, e2, e3, e4, e5, e6, e7, e8⟩, go⟩ := callS X hx (bytes := bytes) (maxL := maxL) (ret := ret) hown (hts _ hm1) (hts _ hm2) (hts _ hm4) (hts _ hcode) ⟨hy.1, hy.2.1⟩
    (vx_back (bytes := bytes) (maxL := maxL) (ret := ret) (W0 := 8) hM hR.1 hR.2 (vx_words hg hts) hcode hm4) (g := F0 m pc ls st0) rfl (by rw [hml]; exact g3.1) (argsL := As) (rest := st) (vx_len hy) hs (lv_room (rest := st0) hW) (by rw [hb]; exact hd)
    (fun vm₁ hW₁ => ⟨hf.1, hf.2, rfl, (show vx_AH D cl (fun _ => True) h T.heap by rw [hT]; exact fun a e z => ⟨(g1 a e z).1, trivial⟩), va_K.moved hW₁.alike hK⟩)
  dsimp only [Pt.U, Pt.locs, Pt.cells, Pt.slots] at X' e1 e2 e3 e4 e6 e7 e8 go
  subst e1; subst e2; subst e3
  have hTv : (T.setVm vm₁).heap = H := hT
  rw [hTv] at e4 e6 e7 e8
  exact ⟨v, U', L, k', n', h', X', e4, e5, e6, e7, e8, go⟩
/-- invokespecial <init> -/
theorem vx_callI (IG : vx_I l D cl tys R own cc nL Ts ct A H0 G) (hg : GoodIn Ts Ts) {b : Nat} {As : List Value} (hM : vx_M l D cl tys y Ts rm (.ref b :: As) h post) {index : Nat} (hy1 : y.name = "<init>") (hcode : Cond.code y bytes maxL none ∈ Ts) (hm1 : Cond.methodLink own index y ∈ Ts) (hm2 : Cond.instanceMethod y ∈ Ts) (hm4 : Cond.initialized y.cls ∈ Ts) (hy : vx_nm y As.length) (hR : rm.frames + 1 ≤ R.frames ∧ 8 + (maxL + 11) + rm.locals ≤ R.locals) (hf : k + rm.cells ≤ R.cells ∧ n + rm.slots ≤ R.slots) {st0 : List Value} (hs : st0 = As.reverse ++ .ref b :: st) (hW : (st.map fun v => v.category).sum ≤ 8) (hd : decode cc pc = .ok (.invokespecial index, 3))
    (K : ∀ (v : Option Value) (h' : vx_h) (k' n' : Nat), post v h' k' n' → vx_V D cl A H0 nL G h' (k + k') (n + n') (pc + 3) lv (v.toList ++ st)) : vx_V D cl A H0 nL G h k n pc lv st0 := by
  obtain ⟨p, e, s, m, args, below, meth, c, Q, rfl, hx, hb, hml, hown, hts, hK, hh0, hA, -⟩ := IG
  intro H locs ls g1 g2 g3
  refine vx_goes hA g1 g2 g3 ?_ K
  intro T hT X
  obtain ⟨v, vm₁, ⟨U', l2, c2, s2⟩, hW₁, X', ⟨L, k', n', h', e1, e2, e3, e4, e5, e6, e7, e8⟩, go⟩ := callI X hx (bytes := bytes) (maxL := maxL) hown hy1 (hts _ hm1) (hts _ hm2) (hts _ hcode) ⟨hy.1, hy.2.1⟩
    (vx_back (bytes := bytes) (maxL := maxL) (ret := none) (W0 := 8) hM hR.1 hR.2 (vx_words hg hts) hcode hm4) (g := F0 m pc ls st0) rfl (by rw [hml]; exact g3.1) (a := b) (argsL := As) (rest := st) (vx_len hy) hs (lv_room (rest := st0) hW) (by rw [hb]; exact hd)
    (fun vm₁ hW₁ => ⟨hf.1, hf.2, rfl, (show vx_AH D cl (fun _ => True) h T.heap by rw [hT]; exact fun a e z => ⟨(g1 a e z).1, trivial⟩), va_K.moved hW₁.alike hK⟩)
  dsimp only [Pt.U, Pt.locs, Pt.cells, Pt.slots] at X' e1 e2 e3 e4 e6 e7 e8 go
  subst e1; subst e2; subst e3
  have hTv : (T.setVm vm₁).heap = H := hT
  rw [hTv] at e4 e6 e7 e8
  exact ⟨v, U', L, k', n', h', X', e4, e5, e6, e7, e8, go⟩
/-- Object.<init> -/
theorem vx_obj (IG : vx_I l D cl tys R own cc nL Ts ct A H0 G) {idx a : Nat} (hm1 : Cond.methodLink own idx Lib.objectInit ∈ Ts) (hm2 : Cond.instanceMethod Lib.objectInit ∈ Ts) (hm3 : Cond.code Lib.objectInit ⟨#[0xb1]⟩ 1 none ∈ Ts) (hd : decode cc pc = .ok (.invokespecial idx, 3)) (hfr : 1 ≤ R.frames) (hlo : (st.map fun v => v.category).sum + 12 ≤ R.locals) (K : vx_V D cl A H0 nL G h k n (pc + 3) lv st) : vx_V D cl A H0 nL G h k n pc lv (.ref a :: st) := by
  obtain ⟨p, e, s, m, args, below, meth, c, Q, rfl, hx, hb, hml, hown, hts, hK, -⟩ := IG
  intro H locs ls g1 g2 g3
  exact W.objInit hx hb hown (hts _ hm1) (hts _ hm2) (hts _ hm3) rfl (by rw [hml]; exact g3.1) rfl hd hfr (by show 2 * 0 + _ + _ ≤ _; omega) (K H locs ls g1 g2 g3)
end
end
