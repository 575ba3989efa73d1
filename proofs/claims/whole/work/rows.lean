section
-- ===== PART A: goes FIRST, ahead of the names: the tables' words, and 'selects' of the private methods out of them =====
/-- a private method of a class that the tables say can be made, by its rows of tables_1 -/
def lw_okq (q : MethodName × Nat) : Prop := (q.1.cls ≠ "java/lang/invoke/MethodHandle" ∧ q.1.cls ≠ "java/lang/invoke/VarHandle") ∧ Cond.instantiable q.1.cls q.2 ∈ tables_1 ∧ Cond.privateMethod q.1 ∈ tables_1 ∧ Cond.instanceMethod q.1 ∈ tables_1
theorem lw_p0 : lw_okq (⟨"ZipForms", "isUnknown", "(I)Z"⟩, 8) := ⟨⟨by decide +kernel, by decide +kernel⟩, List.mem_of_getElem? (i := 8) (by decide +kernel), List.mem_of_getElem? (i := 286) (by decide +kernel), List.mem_of_getElem? (i := 287) (by decide +kernel)⟩
theorem lw_p1 : lw_okq (⟨"ZipForms", "faultOf", "(I)I"⟩, 8) := ⟨⟨by decide +kernel, by decide +kernel⟩, List.mem_of_getElem? (i := 8) (by decide +kernel), List.mem_of_getElem? (i := 294) (by decide +kernel), List.mem_of_getElem? (i := 295) (by decide +kernel)⟩
theorem lw_p2 : lw_okq (⟨"ZipForms", "lacksData", "()Z"⟩, 8) := ⟨⟨by decide +kernel, by decide +kernel⟩, List.mem_of_getElem? (i := 8) (by decide +kernel), List.mem_of_getElem? (i := 330) (by decide +kernel), List.mem_of_getElem? (i := 331) (by decide +kernel)⟩
theorem lw_p3 : lw_okq (⟨"ZipForms", "lengthFrom", "(I)I"⟩, 8) := ⟨⟨by decide +kernel, by decide +kernel⟩, List.mem_of_getElem? (i := 8) (by decide +kernel), List.mem_of_getElem? (i := 338) (by decide +kernel), List.mem_of_getElem? (i := 339) (by decide +kernel)⟩
theorem lw_p4 : lw_okq (⟨"ZipForms", "putFrom", "(I)I"⟩, 8) := ⟨⟨by decide +kernel, by decide +kernel⟩, List.mem_of_getElem? (i := 8) (by decide +kernel), List.mem_of_getElem? (i := 354) (by decide +kernel), List.mem_of_getElem? (i := 355) (by decide +kernel)⟩
theorem lw_p5 : lw_okq (⟨"ZipForms$Store", "putCell", "(B)V"⟩, 2) := ⟨⟨by decide +kernel, by decide +kernel⟩, List.mem_of_getElem? (i := 18) (by decide +kernel), List.mem_of_getElem? (i := 367) (by decide +kernel), List.mem_of_getElem? (i := 368) (by decide +kernel)⟩
theorem lw_p6 : lw_okq (⟨"ZipForms$Entry", "putKindOfRow", "(LZipForms$Store;)V"⟩, 18) := ⟨⟨by decide +kernel, by decide +kernel⟩, List.mem_of_getElem? (i := 156) (by decide +kernel), List.mem_of_getElem? (i := 371) (by decide +kernel), List.mem_of_getElem? (i := 372) (by decide +kernel)⟩
theorem lw_p7 : lw_okq (⟨"ZipForms$Entry", "putSumAndSizes", "(LZipForms$Store;)V"⟩, 18) := ⟨⟨by decide +kernel, by decide +kernel⟩, List.mem_of_getElem? (i := 156) (by decide +kernel), List.mem_of_getElem? (i := 385) (by decide +kernel), List.mem_of_getElem? (i := 386) (by decide +kernel)⟩
theorem lw_p8 : lw_okq (⟨"ZipForms$Entry", "putNameAndExtra", "(LZipForms$Store;)V"⟩, 18) := ⟨⟨by decide +kernel, by decide +kernel⟩, List.mem_of_getElem? (i := 156) (by decide +kernel), List.mem_of_getElem? (i := 402) (by decide +kernel), List.mem_of_getElem? (i := 403) (by decide +kernel)⟩
theorem lw_p9 : lw_okq (⟨"ZipForms", "putEnd", "(I)V"⟩, 8) := ⟨⟨by decide +kernel, by decide +kernel⟩, List.mem_of_getElem? (i := 8) (by decide +kernel), List.mem_of_getElem? (i := 417) (by decide +kernel), List.mem_of_getElem? (i := 418) (by decide +kernel)⟩
theorem lw_p10 : lw_okq (⟨"ZipForms", "allPlacedBefore", "(I)Z"⟩, 8) := ⟨⟨by decide +kernel, by decide +kernel⟩, List.mem_of_getElem? (i := 8) (by decide +kernel), List.mem_of_getElem? (i := 428) (by decide +kernel), List.mem_of_getElem? (i := 429) (by decide +kernel)⟩
theorem lw_p11 : lw_okq (⟨"ZipForms$Reading", "findEnd", "()Z"⟩, 9) := ⟨⟨by decide +kernel, by decide +kernel⟩, List.mem_of_getElem? (i := 36) (by decide +kernel), List.mem_of_getElem? (i := 440) (by decide +kernel), List.mem_of_getElem? (i := 441) (by decide +kernel)⟩
theorem lw_p12 : lw_okq (⟨"ZipForms$Store", "longNumber", "(II)J"⟩, 2) := ⟨⟨by decide +kernel, by decide +kernel⟩, List.mem_of_getElem? (i := 18) (by decide +kernel), List.mem_of_getElem? (i := 448) (by decide +kernel), List.mem_of_getElem? (i := 449) (by decide +kernel)⟩
theorem lw_p13 : lw_okq (⟨"ZipForms$Reading", "fail", "(II)Z"⟩, 9) := ⟨⟨by decide +kernel, by decide +kernel⟩, List.mem_of_getElem? (i := 36) (by decide +kernel), List.mem_of_getElem? (i := 461) (by decide +kernel), List.mem_of_getElem? (i := 462) (by decide +kernel)⟩
theorem lw_p14 : lw_okq (⟨"ZipForms$Reading", "takeEnd", "()Z"⟩, 9) := ⟨⟨by decide +kernel, by decide +kernel⟩, List.mem_of_getElem? (i := 36) (by decide +kernel), List.mem_of_getElem? (i := 465) (by decide +kernel), List.mem_of_getElem? (i := 466) (by decide +kernel)⟩
theorem lw_p15 : lw_okq (⟨"ZipForms$Reading", "takeRows", "()Z"⟩, 9) := ⟨⟨by decide +kernel, by decide +kernel⟩, List.mem_of_getElem? (i := 36) (by decide +kernel), List.mem_of_getElem? (i := 469) (by decide +kernel), List.mem_of_getElem? (i := 470) (by decide +kernel)⟩
def lw_privs_1 : List (MethodName × Nat) := [(⟨"ZipForms", "isUnknown", "(I)Z"⟩, 8), (⟨"ZipForms", "faultOf", "(I)I"⟩, 8), (⟨"ZipForms", "lacksData", "()Z"⟩, 8), (⟨"ZipForms", "lengthFrom", "(I)I"⟩, 8), (⟨"ZipForms", "putFrom", "(I)I"⟩, 8), (⟨"ZipForms$Store", "putCell", "(B)V"⟩, 2), (⟨"ZipForms$Entry", "putKindOfRow", "(LZipForms$Store;)V"⟩, 18), (⟨"ZipForms$Entry", "putSumAndSizes", "(LZipForms$Store;)V"⟩, 18), (⟨"ZipForms$Entry", "putNameAndExtra", "(LZipForms$Store;)V"⟩, 18), (⟨"ZipForms", "putEnd", "(I)V"⟩, 8), (⟨"ZipForms", "allPlacedBefore", "(I)Z"⟩, 8), (⟨"ZipForms$Reading", "findEnd", "()Z"⟩, 9), (⟨"ZipForms$Store", "longNumber", "(II)J"⟩, 2), (⟨"ZipForms$Reading", "fail", "(II)Z"⟩, 9), (⟨"ZipForms$Reading", "takeEnd", "()Z"⟩, 9), (⟨"ZipForms$Reading", "takeRows", "()Z"⟩, 9)]
theorem lw_r1 : ∀ q ∈ lw_privs_1, lw_okq q := List.forall_mem_cons.mpr ⟨lw_p0, List.forall_mem_cons.mpr ⟨lw_p1, List.forall_mem_cons.mpr ⟨lw_p2, List.forall_mem_cons.mpr ⟨lw_p3, List.forall_mem_cons.mpr ⟨lw_p4, List.forall_mem_cons.mpr ⟨lw_p5, List.forall_mem_cons.mpr ⟨lw_p6, List.forall_mem_cons.mpr ⟨lw_p7, List.forall_mem_cons.mpr ⟨lw_p8, List.forall_mem_cons.mpr ⟨lw_p9, List.forall_mem_cons.mpr ⟨lw_p10, List.forall_mem_cons.mpr ⟨lw_p11, List.forall_mem_cons.mpr ⟨lw_p12, List.forall_mem_cons.mpr ⟨lw_p13, List.forall_mem_cons.mpr ⟨lw_p14, List.forall_mem_cons.mpr ⟨lw_p15, fun _ h => absurd h List.not_mem_nil⟩⟩⟩⟩⟩⟩⟩⟩⟩⟩⟩⟩⟩⟩⟩⟩
theorem lw_p16 : lw_okq (⟨"ZipForms$Reading", "takeRow", "(LZipForms$Row;I)Z"⟩, 9) := ⟨⟨by decide +kernel, by decide +kernel⟩, List.mem_of_getElem? (i := 36) (by decide +kernel), List.mem_of_getElem? (i := 473) (by decide +kernel), List.mem_of_getElem? (i := 474) (by decide +kernel)⟩
theorem lw_p17 : lw_okq (⟨"ZipForms$Reading", "isGoodEntry", "(I)Z"⟩, 9) := ⟨⟨by decide +kernel, by decide +kernel⟩, List.mem_of_getElem? (i := 36) (by decide +kernel), List.mem_of_getElem? (i := 493) (by decide +kernel), List.mem_of_getElem? (i := 494) (by decide +kernel)⟩
theorem lw_p18 : lw_okq (⟨"ZipForms$Row", "takeExtra", "(LZipForms$Store;)Z"⟩, 19) := ⟨⟨by decide +kernel, by decide +kernel⟩, List.mem_of_getElem? (i := 43) (by decide +kernel), List.mem_of_getElem? (i := 501) (by decide +kernel), List.mem_of_getElem? (i := 502) (by decide +kernel)⟩
theorem lw_p19 : lw_okq (⟨"ZipForms$Reading", "hasLocal", "(LZipForms$Row;)Z"⟩, 9) := ⟨⟨by decide +kernel, by decide +kernel⟩, List.mem_of_getElem? (i := 36) (by decide +kernel), List.mem_of_getElem? (i := 517) (by decide +kernel), List.mem_of_getElem? (i := 518) (by decide +kernel)⟩
theorem lw_p20 : lw_okq (⟨"ZipForms$Reading", "isLocalAsTold", "(LZipForms$Row;)Z"⟩, 9) := ⟨⟨by decide +kernel, by decide +kernel⟩, List.mem_of_getElem? (i := 36) (by decide +kernel), List.mem_of_getElem? (i := 523) (by decide +kernel), List.mem_of_getElem? (i := 524) (by decide +kernel)⟩
theorem lw_p21 : lw_okq (⟨"ZipForms$Reading", "hasDataAsTold", "(LZipForms$Row;)Z"⟩, 9) := ⟨⟨by decide +kernel, by decide +kernel⟩, List.mem_of_getElem? (i := 36) (by decide +kernel), List.mem_of_getElem? (i := 537) (by decide +kernel), List.mem_of_getElem? (i := 538) (by decide +kernel)⟩
theorem lw_p22 : lw_okq (⟨"ZipForms$Reading", "sharesBytes", "(I)Z"⟩, 9) := ⟨⟨by decide +kernel, by decide +kernel⟩, List.mem_of_getElem? (i := 36) (by decide +kernel), List.mem_of_getElem? (i := 546) (by decide +kernel), List.mem_of_getElem? (i := 547) (by decide +kernel)⟩
theorem lw_p23 : lw_okq (⟨"ZipForms$Entry", "takeParts", "(LZipForms$Row;LZipForms$Store;)V"⟩, 18) := ⟨⟨by decide +kernel, by decide +kernel⟩, List.mem_of_getElem? (i := 156) (by decide +kernel), List.mem_of_getElem? (i := 572) (by decide +kernel), List.mem_of_getElem? (i := 573) (by decide +kernel)⟩
theorem lw_p24 : lw_okq (⟨"ZipFormsModel", "begin", "(I)V"⟩, 44) := ⟨⟨by decide +kernel, by decide +kernel⟩, List.mem_of_getElem? (i := 677) (by decide +kernel), List.mem_of_getElem? (i := 675) (by decide +kernel), List.mem_of_getElem? (i := 676) (by decide +kernel)⟩
theorem lw_p25 : lw_okq (⟨"ZipFormsModel", "isEntry", "(I)Z"⟩, 44) := ⟨⟨by decide +kernel, by decide +kernel⟩, List.mem_of_getElem? (i := 677) (by decide +kernel), List.mem_of_getElem? (i := 684) (by decide +kernel), List.mem_of_getElem? (i := 685) (by decide +kernel)⟩
theorem lw_p26 : lw_okq (⟨"ZipFormsModel", "fails", "(I)I"⟩, 44) := ⟨⟨by decide +kernel, by decide +kernel⟩, List.mem_of_getElem? (i := 677) (by decide +kernel), List.mem_of_getElem? (i := 692) (by decide +kernel), List.mem_of_getElem? (i := 693) (by decide +kernel)⟩
theorem lw_p27 : lw_okq (⟨"ZipFormsModel", "goes", "(II)I"⟩, 44) := ⟨⟨by decide +kernel, by decide +kernel⟩, List.mem_of_getElem? (i := 677) (by decide +kernel), List.mem_of_getElem? (i := 731) (by decide +kernel), List.mem_of_getElem? (i := 732) (by decide +kernel)⟩
theorem lw_p28 : lw_okq (⟨"ZipFormsModel", "isBare", "()Z"⟩, 44) := ⟨⟨by decide +kernel, by decide +kernel⟩, List.mem_of_getElem? (i := 677) (by decide +kernel), List.mem_of_getElem? (i := 735) (by decide +kernel), List.mem_of_getElem? (i := 736) (by decide +kernel)⟩
theorem lw_p29 : lw_okq (⟨"ZipFormsModel", "centreLong", "(I)I"⟩, 44) := ⟨⟨by decide +kernel, by decide +kernel⟩, List.mem_of_getElem? (i := 677) (by decide +kernel), List.mem_of_getElem? (i := 739) (by decide +kernel), List.mem_of_getElem? (i := 740) (by decide +kernel)⟩
theorem lw_p30 : lw_okq (⟨"ZipFormsModel", "extraLong", "(I)I"⟩, 44) := ⟨⟨by decide +kernel, by decide +kernel⟩, List.mem_of_getElem? (i := 677) (by decide +kernel), List.mem_of_getElem? (i := 743) (by decide +kernel), List.mem_of_getElem? (i := 744) (by decide +kernel)⟩
theorem lw_p31 : lw_okq (⟨"ZipFormsModel", "localLong", "(I)I"⟩, 44) := ⟨⟨by decide +kernel, by decide +kernel⟩, List.mem_of_getElem? (i := 677) (by decide +kernel), List.mem_of_getElem? (i := 747) (by decide +kernel), List.mem_of_getElem? (i := 748) (by decide +kernel)⟩
def lw_privs_2 : List (MethodName × Nat) := [(⟨"ZipForms$Reading", "takeRow", "(LZipForms$Row;I)Z"⟩, 9), (⟨"ZipForms$Reading", "isGoodEntry", "(I)Z"⟩, 9), (⟨"ZipForms$Row", "takeExtra", "(LZipForms$Store;)Z"⟩, 19), (⟨"ZipForms$Reading", "hasLocal", "(LZipForms$Row;)Z"⟩, 9), (⟨"ZipForms$Reading", "isLocalAsTold", "(LZipForms$Row;)Z"⟩, 9), (⟨"ZipForms$Reading", "hasDataAsTold", "(LZipForms$Row;)Z"⟩, 9), (⟨"ZipForms$Reading", "sharesBytes", "(I)Z"⟩, 9), (⟨"ZipForms$Entry", "takeParts", "(LZipForms$Row;LZipForms$Store;)V"⟩, 18), (⟨"ZipFormsModel", "begin", "(I)V"⟩, 44), (⟨"ZipFormsModel", "isEntry", "(I)Z"⟩, 44), (⟨"ZipFormsModel", "fails", "(I)I"⟩, 44), (⟨"ZipFormsModel", "goes", "(II)I"⟩, 44), (⟨"ZipFormsModel", "isBare", "()Z"⟩, 44), (⟨"ZipFormsModel", "centreLong", "(I)I"⟩, 44), (⟨"ZipFormsModel", "extraLong", "(I)I"⟩, 44), (⟨"ZipFormsModel", "localLong", "(I)I"⟩, 44)]
theorem lw_r2 : ∀ q ∈ lw_privs_2, lw_okq q := List.forall_mem_cons.mpr ⟨lw_p16, List.forall_mem_cons.mpr ⟨lw_p17, List.forall_mem_cons.mpr ⟨lw_p18, List.forall_mem_cons.mpr ⟨lw_p19, List.forall_mem_cons.mpr ⟨lw_p20, List.forall_mem_cons.mpr ⟨lw_p21, List.forall_mem_cons.mpr ⟨lw_p22, List.forall_mem_cons.mpr ⟨lw_p23, List.forall_mem_cons.mpr ⟨lw_p24, List.forall_mem_cons.mpr ⟨lw_p25, List.forall_mem_cons.mpr ⟨lw_p26, List.forall_mem_cons.mpr ⟨lw_p27, List.forall_mem_cons.mpr ⟨lw_p28, List.forall_mem_cons.mpr ⟨lw_p29, List.forall_mem_cons.mpr ⟨lw_p30, List.forall_mem_cons.mpr ⟨lw_p31, fun _ h => absurd h List.not_mem_nil⟩⟩⟩⟩⟩⟩⟩⟩⟩⟩⟩⟩⟩⟩⟩⟩
theorem lw_p32 : lw_okq (⟨"ZipFormsModel", "putLocal", "(I)V"⟩, 44) := ⟨⟨by decide +kernel, by decide +kernel⟩, List.mem_of_getElem? (i := 677) (by decide +kernel), List.mem_of_getElem? (i := 751) (by decide +kernel), List.mem_of_getElem? (i := 752) (by decide +kernel)⟩
theorem lw_p33 : lw_okq (⟨"ZipFormsModel", "put", "(JI)V"⟩, 44) := ⟨⟨by decide +kernel, by decide +kernel⟩, List.mem_of_getElem? (i := 677) (by decide +kernel), List.mem_of_getElem? (i := 756) (by decide +kernel), List.mem_of_getElem? (i := 757) (by decide +kernel)⟩
theorem lw_p34 : lw_okq (⟨"ZipFormsModel", "putFields", "(IZ)V"⟩, 44) := ⟨⟨by decide +kernel, by decide +kernel⟩, List.mem_of_getElem? (i := 677) (by decide +kernel), List.mem_of_getElem? (i := 760) (by decide +kernel), List.mem_of_getElem? (i := 761) (by decide +kernel)⟩
theorem lw_p35 : lw_okq (⟨"ZipFormsModel", "sum", "(I)I"⟩, 44) := ⟨⟨by decide +kernel, by decide +kernel⟩, List.mem_of_getElem? (i := 677) (by decide +kernel), List.mem_of_getElem? (i := 766) (by decide +kernel), List.mem_of_getElem? (i := 767) (by decide +kernel)⟩
theorem lw_p36 : lw_okq (⟨"ZipFormsModel", "sumOf", "(I)I"⟩, 44) := ⟨⟨by decide +kernel, by decide +kernel⟩, List.mem_of_getElem? (i := 677) (by decide +kernel), List.mem_of_getElem? (i := 770) (by decide +kernel), List.mem_of_getElem? (i := 771) (by decide +kernel)⟩
theorem lw_p37 : lw_okq (⟨"ZipFormsModel", "trueSize", "(I)I"⟩, 44) := ⟨⟨by decide +kernel, by decide +kernel⟩, List.mem_of_getElem? (i := 677) (by decide +kernel), List.mem_of_getElem? (i := 776) (by decide +kernel), List.mem_of_getElem? (i := 777) (by decide +kernel)⟩
theorem lw_p38 : lw_okq (⟨"ZipFormsModel", "putName", "(I)V"⟩, 44) := ⟨⟨by decide +kernel, by decide +kernel⟩, List.mem_of_getElem? (i := 677) (by decide +kernel), List.mem_of_getElem? (i := 780) (by decide +kernel), List.mem_of_getElem? (i := 781) (by decide +kernel)⟩
theorem lw_p39 : lw_okq (⟨"ZipFormsModel", "findEnd", "()V"⟩, 44) := ⟨⟨by decide +kernel, by decide +kernel⟩, List.mem_of_getElem? (i := 677) (by decide +kernel), List.mem_of_getElem? (i := 796) (by decide +kernel), List.mem_of_getElem? (i := 797) (by decide +kernel)⟩
theorem lw_p40 : lw_okq (⟨"ZipFormsModel", "four", "(I)J"⟩, 44) := ⟨⟨by decide +kernel, by decide +kernel⟩, List.mem_of_getElem? (i := 677) (by decide +kernel), List.mem_of_getElem? (i := 800) (by decide +kernel), List.mem_of_getElem? (i := 801) (by decide +kernel)⟩
theorem lw_p41 : lw_okq (⟨"ZipFormsModel", "two", "(I)I"⟩, 44) := ⟨⟨by decide +kernel, by decide +kernel⟩, List.mem_of_getElem? (i := 677) (by decide +kernel), List.mem_of_getElem? (i := 804) (by decide +kernel), List.mem_of_getElem? (i := 805) (by decide +kernel)⟩
theorem lw_p42 : lw_okq (⟨"ZipFormsModel", "want", "(ZIJ)Z"⟩, 44) := ⟨⟨by decide +kernel, by decide +kernel⟩, List.mem_of_getElem? (i := 677) (by decide +kernel), List.mem_of_getElem? (i := 808) (by decide +kernel), List.mem_of_getElem? (i := 809) (by decide +kernel)⟩
theorem lw_p43 : lw_okq (⟨"ZipFormsModel", "findRows", "()V"⟩, 44) := ⟨⟨by decide +kernel, by decide +kernel⟩, List.mem_of_getElem? (i := 677) (by decide +kernel), List.mem_of_getElem? (i := 812) (by decide +kernel), List.mem_of_getElem? (i := 813) (by decide +kernel)⟩
theorem lw_p44 : lw_okq (⟨"ZipFormsModel", "checkRow", "(I)V"⟩, 44) := ⟨⟨by decide +kernel, by decide +kernel⟩, List.mem_of_getElem? (i := 677) (by decide +kernel), List.mem_of_getElem? (i := 816) (by decide +kernel), List.mem_of_getElem? (i := 817) (by decide +kernel)⟩
theorem lw_p45 : lw_okq (⟨"ZipFormsModel", "layRow", "(I)V"⟩, 44) := ⟨⟨by decide +kernel, by decide +kernel⟩, List.mem_of_getElem? (i := 677) (by decide +kernel), List.mem_of_getElem? (i := 820) (by decide +kernel), List.mem_of_getElem? (i := 821) (by decide +kernel)⟩
theorem lw_p46 : lw_okq (⟨"ZipFormsModel", "hasParts", "(II)Z"⟩, 44) := ⟨⟨by decide +kernel, by decide +kernel⟩, List.mem_of_getElem? (i := 677) (by decide +kernel), List.mem_of_getElem? (i := 824) (by decide +kernel), List.mem_of_getElem? (i := 825) (by decide +kernel)⟩
theorem lw_p47 : lw_okq (⟨"ZipFormsModel", "eight", "(I)J"⟩, 44) := ⟨⟨by decide +kernel, by decide +kernel⟩, List.mem_of_getElem? (i := 677) (by decide +kernel), List.mem_of_getElem? (i := 828) (by decide +kernel), List.mem_of_getElem? (i := 829) (by decide +kernel)⟩
def lw_privs_3 : List (MethodName × Nat) := [(⟨"ZipFormsModel", "putLocal", "(I)V"⟩, 44), (⟨"ZipFormsModel", "put", "(JI)V"⟩, 44), (⟨"ZipFormsModel", "putFields", "(IZ)V"⟩, 44), (⟨"ZipFormsModel", "sum", "(I)I"⟩, 44), (⟨"ZipFormsModel", "sumOf", "(I)I"⟩, 44), (⟨"ZipFormsModel", "trueSize", "(I)I"⟩, 44), (⟨"ZipFormsModel", "putName", "(I)V"⟩, 44), (⟨"ZipFormsModel", "findEnd", "()V"⟩, 44), (⟨"ZipFormsModel", "four", "(I)J"⟩, 44), (⟨"ZipFormsModel", "two", "(I)I"⟩, 44), (⟨"ZipFormsModel", "want", "(ZIJ)Z"⟩, 44), (⟨"ZipFormsModel", "findRows", "()V"⟩, 44), (⟨"ZipFormsModel", "checkRow", "(I)V"⟩, 44), (⟨"ZipFormsModel", "layRow", "(I)V"⟩, 44), (⟨"ZipFormsModel", "hasParts", "(II)Z"⟩, 44), (⟨"ZipFormsModel", "eight", "(I)J"⟩, 44)]
theorem lw_r3 : ∀ q ∈ lw_privs_3, lw_okq q := List.forall_mem_cons.mpr ⟨lw_p32, List.forall_mem_cons.mpr ⟨lw_p33, List.forall_mem_cons.mpr ⟨lw_p34, List.forall_mem_cons.mpr ⟨lw_p35, List.forall_mem_cons.mpr ⟨lw_p36, List.forall_mem_cons.mpr ⟨lw_p37, List.forall_mem_cons.mpr ⟨lw_p38, List.forall_mem_cons.mpr ⟨lw_p39, List.forall_mem_cons.mpr ⟨lw_p40, List.forall_mem_cons.mpr ⟨lw_p41, List.forall_mem_cons.mpr ⟨lw_p42, List.forall_mem_cons.mpr ⟨lw_p43, List.forall_mem_cons.mpr ⟨lw_p44, List.forall_mem_cons.mpr ⟨lw_p45, List.forall_mem_cons.mpr ⟨lw_p46, List.forall_mem_cons.mpr ⟨lw_p47, fun _ h => absurd h List.not_mem_nil⟩⟩⟩⟩⟩⟩⟩⟩⟩⟩⟩⟩⟩⟩⟩⟩
theorem lw_p48 : lw_okq (⟨"ZipFormsModel", "checkLocal", "(III)V"⟩, 44) := ⟨⟨by decide +kernel, by decide +kernel⟩, List.mem_of_getElem? (i := 677) (by decide +kernel), List.mem_of_getElem? (i := 833) (by decide +kernel), List.mem_of_getElem? (i := 834) (by decide +kernel)⟩
theorem lw_p49 : lw_okq (⟨"ZipFormsModel", "areAlike", "(III)Z"⟩, 44) := ⟨⟨by decide +kernel, by decide +kernel⟩, List.mem_of_getElem? (i := 677) (by decide +kernel), List.mem_of_getElem? (i := 838) (by decide +kernel), List.mem_of_getElem? (i := 839) (by decide +kernel)⟩
theorem lw_p50 : lw_okq (⟨"ZipFormsModel", "isSafe", "()Z"⟩, 44) := ⟨⟨by decide +kernel, by decide +kernel⟩, List.mem_of_getElem? (i := 677) (by decide +kernel), List.mem_of_getElem? (i := 842) (by decide +kernel), List.mem_of_getElem? (i := 843) (by decide +kernel)⟩
theorem lw_p51 : lw_okq (⟨"ZipFormsModel", "takeRow", "(I)V"⟩, 44) := ⟨⟨by decide +kernel, by decide +kernel⟩, List.mem_of_getElem? (i := 677) (by decide +kernel), List.mem_of_getElem? (i := 846) (by decide +kernel), List.mem_of_getElem? (i := 847) (by decide +kernel)⟩
theorem lw_p52 : lw_okq (⟨"ZipFormsModel", "isThere", "(II)Z"⟩, 44) := ⟨⟨by decide +kernel, by decide +kernel⟩, List.mem_of_getElem? (i := 677) (by decide +kernel), List.mem_of_getElem? (i := 870) (by decide +kernel), List.mem_of_getElem? (i := 871) (by decide +kernel)⟩
def lw_privs_4 : List (MethodName × Nat) := [(⟨"ZipFormsModel", "checkLocal", "(III)V"⟩, 44), (⟨"ZipFormsModel", "areAlike", "(III)Z"⟩, 44), (⟨"ZipFormsModel", "isSafe", "()Z"⟩, 44), (⟨"ZipFormsModel", "takeRow", "(I)V"⟩, 44), (⟨"ZipFormsModel", "isThere", "(II)Z"⟩, 44)]
theorem lw_r4 : ∀ q ∈ lw_privs_4, lw_okq q := List.forall_mem_cons.mpr ⟨lw_p48, List.forall_mem_cons.mpr ⟨lw_p49, List.forall_mem_cons.mpr ⟨lw_p50, List.forall_mem_cons.mpr ⟨lw_p51, List.forall_mem_cons.mpr ⟨lw_p52, fun _ h => absurd h List.not_mem_nil⟩⟩⟩⟩⟩
def lw_privs : List (MethodName × Nat) := lw_privs_1 ++ (lw_privs_2 ++ (lw_privs_3 ++ (lw_privs_4)))
def lw_tbl : List Cond := k2_sels lw_privs ++ tables_1
theorem lw_privs_ok : ∀ q ∈ lw_privs, lw_okq q := by
  show ∀ q ∈ lw_privs_1 ++ (lw_privs_2 ++ (lw_privs_3 ++ (lw_privs_4))), lw_okq q
  exact List.forall_mem_append.mpr ⟨lw_r1, List.forall_mem_append.mpr ⟨lw_r2, List.forall_mem_append.mpr ⟨lw_r3, lw_r4⟩⟩⟩
end
section
def RX0 : String := "ZipForms$Entry"
def TX0 : u_T := fun k => match k with
  | 0 => ("ZipForms$Entry", "letters", "[B", true)
  | 1 => ("ZipForms$Entry", "octets", "[B", true)
  | 2 => ("ZipForms$Entry", "partIds", "[I", true)
  | 3 => ("ZipForms$Entry", "partSizes", "[I", true)
  | 4 => ("ZipForms$Entry", "partOctets", "[B", true)
  | 5 => ("ZipForms$Entry", "kind", "I", false)
  | 6 => ("ZipForms$Entry", "form", "I", false)
  | 7 => ("ZipForms$Entry", "letterCount", "I", false)
  | 8 => ("ZipForms$Entry", "octetCount", "I", false)
  | 9 => ("ZipForms$Entry", "partCount", "I", false)
  | 10 => ("ZipForms$Entry", "hasData", "Z", false)
  | 11 => ("ZipForms$Entry", "sumWasRead", "Z", false)
  | 12 => ("ZipForms$Entry", "toldTrue", "I", false)
  | 13 => ("ZipForms$Entry", "toldSum", "I", false)
  | 14 => ("ZipForms$Entry", "timeBits", "I", false)
  | 15 => ("ZipForms$Entry", "dayBits", "I", false)
  | 16 => ("ZipForms$Entry", "attributeBits", "I", false)
  | _ => ("ZipForms$Entry", "localPlace", "I", false)
def tyX0 : Nat → FieldType := fun k => match k with
  | 0 => .array .byte
  | 1 => .array .byte
  | 2 => .array .int
  | 3 => .array .int
  | 4 => .array .byte
  | 5 => .int
  | 6 => .int
  | 7 => .int
  | 8 => .int
  | 9 => .int
  | 10 => .boolean
  | 11 => .boolean
  | 12 => .int
  | 13 => .int
  | 14 => .int
  | 15 => .int
  | 16 => .int
  | _ => .int
abbrev wsX00 : List Cond := u_ws RX0 TX0 18
theorem nmX0 : ∀ a, a < 18 → ∀ b, b < 18 → a ≠ b → (TX0 a).2.1 ≠ (TX0 b).2.1 := by decide +kernel
theorem tyX0_ok : ∀ k, k < 18 → parseFieldDescriptor (TX0 k).2.2.1 = some (tyX0 k) := by decide +kernel
abbrev cX0_init : ByteArray := prog_2_method_1_code
def yX0_init : MethodName := ⟨RX0, "<init>", "()V"⟩
abbrev cX0_begin : ByteArray := prog_2_method_2_code
def yX0_begin : MethodName := ⟨RX0, "begin", "(II)V"⟩
abbrev cX0_lengthenName : ByteArray := prog_2_method_3_code
def yX0_lengthenName : MethodName := ⟨RX0, "lengthenName", "(JI)V"⟩
abbrev cX0_lacksData : ByteArray := prog_2_method_4_code
def yX0_lacksData : MethodName := ⟨RX0, "lacksData", "()Z"⟩
abbrev cX0_hasNameOf : ByteArray := prog_2_method_5_code
def yX0_hasNameOf : MethodName := ⟨RX0, "hasNameOf", "(LZipForms$Entry;)Z"⟩
abbrev cX0_flags : ByteArray := prog_2_method_6_code
def yX0_flags : MethodName := ⟨RX0, "flags", "()I"⟩
abbrev cX0_method : ByteArray := prog_2_method_7_code
def yX0_method : MethodName := ⟨RX0, "method", "()I"⟩
abbrev cX0_trueSize : ByteArray := prog_2_method_8_code
def yX0_trueSize : MethodName := ⟨RX0, "trueSize", "()I"⟩
abbrev cX0_sum : ByteArray := prog_2_method_9_code
def yX0_sum : MethodName := ⟨RX0, "sum", "()I"⟩
abbrev cX0_extraLength : ByteArray := prog_2_method_10_code
def yX0_extraLength : MethodName := ⟨RX0, "extraLength", "()I"⟩
abbrev cX0_localLength : ByteArray := prog_2_method_11_code
def yX0_localLength : MethodName := ⟨RX0, "localLength", "()I"⟩
abbrev cX0_centreLength : ByteArray := prog_2_method_12_code
def yX0_centreLength : MethodName := ⟨RX0, "centreLength", "()I"⟩
abbrev cX0_putLocal : ByteArray := prog_2_method_13_code
def yX0_putLocal : MethodName := ⟨RX0, "putLocal", "(LZipForms$Store;)V"⟩
abbrev cX0_putCentre : ByteArray := prog_2_method_14_code
def yX0_putCentre : MethodName := ⟨RX0, "putCentre", "(LZipForms$Store;)V"⟩
abbrev cX0_putKindOfRow : ByteArray := prog_2_method_15_code
def yX0_putKindOfRow : MethodName := ⟨RX0, "putKindOfRow", "(LZipForms$Store;)V"⟩
abbrev cX0_putSumAndSizes : ByteArray := prog_2_method_16_code
def yX0_putSumAndSizes : MethodName := ⟨RX0, "putSumAndSizes", "(LZipForms$Store;)V"⟩
abbrev cX0_putNameAndExtra : ByteArray := prog_2_method_17_code
def yX0_putNameAndExtra : MethodName := ⟨RX0, "putNameAndExtra", "(LZipForms$Store;)V"⟩
abbrev cX0_takeFrom : ByteArray := prog_2_method_18_code
def yX0_takeFrom : MethodName := ⟨RX0, "takeFrom", "(LZipForms$Row;LZipForms$Store;)V"⟩
abbrev cX0_takeParts : ByteArray := prog_2_method_19_code
def yX0_takeParts : MethodName := ⟨RX0, "takeParts", "(LZipForms$Row;LZipForms$Store;)V"⟩
def RX1 : String := "ZipForms$Reading"
def TX1 : u_T := fun k => match k with
  | 0 => ("ZipForms$Reading", "store", "LZipForms$Store;", true)
  | 1 => ("ZipForms$Reading", "rows", "[LZipForms$Row;", true)
  | 2 => ("ZipForms$Reading", "rowCount", "I", false)
  | 3 => ("ZipForms$Reading", "endPlace", "I", false)
  | 4 => ("ZipForms$Reading", "remarkCount", "I", false)
  | 5 => ("ZipForms$Reading", "centrePlace", "I", false)
  | 6 => ("ZipForms$Reading", "centreEnd", "I", false)
  | 7 => ("ZipForms$Reading", "faultKind", "I", false)
  | _ => ("ZipForms$Reading", "faultPlace", "I", false)
def tyX1 : Nat → FieldType := fun k => match k with
  | 0 => .object "ZipForms$Store"
  | 1 => .array (.object "ZipForms$Row")
  | 2 => .int
  | 3 => .int
  | 4 => .int
  | 5 => .int
  | 6 => .int
  | 7 => .int
  | _ => .int
abbrev wsX10 : List Cond := u_ws RX1 TX1 9
theorem nmX1 : ∀ a, a < 9 → ∀ b, b < 9 → a ≠ b → (TX1 a).2.1 ≠ (TX1 b).2.1 := by decide +kernel
theorem tyX1_ok : ∀ k, k < 9 → parseFieldDescriptor (TX1 k).2.2.1 = some (tyX1 k) := by decide +kernel
abbrev cX1_init : ByteArray := prog_3_method_1_code
def yX1_init : MethodName := ⟨RX1, "<init>", "(LZipForms$Store;)V"⟩
abbrev cX1_isWhole : ByteArray := prog_3_method_2_code
def yX1_isWhole : MethodName := ⟨RX1, "isWhole", "()Z"⟩
abbrev cX1_fail : ByteArray := prog_3_method_3_code
def yX1_fail : MethodName := ⟨RX1, "fail", "(II)Z"⟩
abbrev cX1_findEnd : ByteArray := prog_3_method_4_code
def yX1_findEnd : MethodName := ⟨RX1, "findEnd", "()Z"⟩
abbrev cX1_takeEnd : ByteArray := prog_3_method_5_code
def yX1_takeEnd : MethodName := ⟨RX1, "takeEnd", "()Z"⟩
abbrev cX1_takeRows : ByteArray := prog_3_method_6_code
def yX1_takeRows : MethodName := ⟨RX1, "takeRows", "()Z"⟩
abbrev cX1_takeRow : ByteArray := prog_3_method_7_code
def yX1_takeRow : MethodName := ⟨RX1, "takeRow", "(LZipForms$Row;I)Z"⟩
abbrev cX1_isGoodEntry : ByteArray := prog_3_method_8_code
def yX1_isGoodEntry : MethodName := ⟨RX1, "isGoodEntry", "(I)Z"⟩
abbrev cX1_hasLocal : ByteArray := prog_3_method_9_code
def yX1_hasLocal : MethodName := ⟨RX1, "hasLocal", "(LZipForms$Row;)Z"⟩
abbrev cX1_isLocalAsTold : ByteArray := prog_3_method_10_code
def yX1_isLocalAsTold : MethodName := ⟨RX1, "isLocalAsTold", "(LZipForms$Row;)Z"⟩
abbrev cX1_hasDataAsTold : ByteArray := prog_3_method_11_code
def yX1_hasDataAsTold : MethodName := ⟨RX1, "hasDataAsTold", "(LZipForms$Row;)Z"⟩
abbrev cX1_sharesBytes : ByteArray := prog_3_method_12_code
def yX1_sharesBytes : MethodName := ⟨RX1, "sharesBytes", "(I)Z"⟩
def RX2 : String := "ZipForms$Row"
def TX2 : u_T := fun k => match k with
  | 0 => ("ZipForms$Row", "place", "I", false)
  | 1 => ("ZipForms$Row", "flags", "I", false)
  | 2 => ("ZipForms$Row", "method", "I", false)
  | 3 => ("ZipForms$Row", "timeBits", "I", false)
  | 4 => ("ZipForms$Row", "dayBits", "I", false)
  | 5 => ("ZipForms$Row", "attributeBits", "I", false)
  | 6 => ("ZipForms$Row", "nameCount", "I", false)
  | 7 => ("ZipForms$Row", "extraCount", "I", false)
  | 8 => ("ZipForms$Row", "partsPlace", "I", false)
  | 9 => ("ZipForms$Row", "partCount", "I", false)
  | 10 => ("ZipForms$Row", "isWide", "Z", false)
  | 11 => ("ZipForms$Row", "isFolder", "Z", false)
  | 12 => ("ZipForms$Row", "sumBits", "J", false)
  | 13 => ("ZipForms$Row", "shortSize", "J", false)
  | 14 => ("ZipForms$Row", "shortTrue", "J", false)
  | 15 => ("ZipForms$Row", "packedSize", "J", false)
  | 16 => ("ZipForms$Row", "trueSize", "J", false)
  | 17 => ("ZipForms$Row", "localPlace", "J", false)
  | _ => ("ZipForms$Row", "localEnd", "I", false)
def tyX2 : Nat → FieldType := fun k => match k with
  | 0 => .int
  | 1 => .int
  | 2 => .int
  | 3 => .int
  | 4 => .int
  | 5 => .int
  | 6 => .int
  | 7 => .int
  | 8 => .int
  | 9 => .int
  | 10 => .boolean
  | 11 => .boolean
  | 12 => .long
  | 13 => .long
  | 14 => .long
  | 15 => .long
  | 16 => .long
  | 17 => .long
  | _ => .int
abbrev wsX20 : List Cond := u_ws RX2 TX2 19
theorem nmX2 : ∀ a, a < 19 → ∀ b, b < 19 → a ≠ b → (TX2 a).2.1 ≠ (TX2 b).2.1 := by decide +kernel
theorem tyX2_ok : ∀ k, k < 19 → parseFieldDescriptor (TX2 k).2.2.1 = some (tyX2 k) := by decide +kernel
abbrev cX2_init : ByteArray := prog_4_method_1_code
def yX2_init : MethodName := ⟨RX2, "<init>", "()V"⟩
abbrev cX2_takeFixed : ByteArray := prog_4_method_2_code
def yX2_takeFixed : MethodName := ⟨RX2, "takeFixed", "(LZipForms$Store;I)V"⟩
abbrev cX2_namePlace : ByteArray := prog_4_method_3_code
def yX2_namePlace : MethodName := ⟨RX2, "namePlace", "()I"⟩
abbrev cX2_endPlace : ByteArray := prog_4_method_4_code
def yX2_endPlace : MethodName := ⟨RX2, "endPlace", "()I"⟩
abbrev cX2_dataPlace : ByteArray := prog_4_method_5_code
def yX2_dataPlace : MethodName := ⟨RX2, "dataPlace", "()I"⟩
abbrev cX2_kind : ByteArray := prog_4_method_6_code
def yX2_kind : MethodName := ⟨RX2, "kind", "()I"⟩
abbrev cX2_form : ByteArray := prog_4_method_7_code
def yX2_form : MethodName := ⟨RX2, "form", "()I"⟩
abbrev cX2_hasKnownForm : ByteArray := prog_4_method_8_code
def yX2_hasKnownForm : MethodName := ⟨RX2, "hasKnownForm", "(LZipForms$Store;)Z"⟩
abbrev cX2_takeExtra : ByteArray := prog_4_method_9_code
def yX2_takeExtra : MethodName := ⟨RX2, "takeExtra", "(LZipForms$Store;)Z"⟩
abbrev cX2_hasKnownSizes : ByteArray := prog_4_method_10_code
def yX2_hasKnownSizes : MethodName := ⟨RX2, "hasKnownSizes", "()Z"⟩
abbrev cX2_isSafe : ByteArray := prog_4_method_11_code
def yX2_isSafe : MethodName := ⟨RX2, "isSafe", "(LZipForms$Store;)Z"⟩
abbrev cX2_isSafeStep : ByteArray := prog_4_method_12_code
def yX2_isSafeStep : MethodName := ⟨RX2, "isSafeStep", "(LZipForms$Store;II)Z"⟩
def RX3 : String := "ZipForms$Store"
def TX3 : u_T := fun k => match k with
  | 0 => ("ZipForms$Store", "cells", "[B", true)
  | _ => ("ZipForms$Store", "count", "I", false)
def tyX3 : Nat → FieldType := fun k => match k with
  | 0 => .array .byte
  | _ => .int
abbrev wsX30 : List Cond := u_ws RX3 TX3 2
theorem nmX3 : ∀ a, a < 2 → ∀ b, b < 2 → a ≠ b → (TX3 a).2.1 ≠ (TX3 b).2.1 := by decide +kernel
theorem tyX3_ok : ∀ k, k < 2 → parseFieldDescriptor (TX3 k).2.2.1 = some (tyX3 k) := by decide +kernel
abbrev cX3_init : ByteArray := prog_5_method_1_code
def yX3_init : MethodName := ⟨RX3, "<init>", "()V"⟩
abbrev cX3_holds : ByteArray := prog_5_method_2_code
def yX3_holds : MethodName := ⟨RX3, "holds", "(II)Z"⟩
abbrev cX3_number1 : ByteArray := prog_5_method_3_code
def yX3_number1 : MethodName := ⟨RX3, "number1", "(I)I"⟩
abbrev cX3_number2 : ByteArray := prog_5_method_4_code
def yX3_number2 : MethodName := ⟨RX3, "number2", "(I)I"⟩
abbrev cX3_number4 : ByteArray := prog_5_method_5_code
def yX3_number4 : MethodName := ⟨RX3, "number4", "(I)J"⟩
abbrev cX3_number8 : ByteArray := prog_5_method_6_code
def yX3_number8 : MethodName := ⟨RX3, "number8", "(I)J"⟩
abbrev cX3_longNumber : ByteArray := prog_5_method_7_code
def yX3_longNumber : MethodName := ⟨RX3, "longNumber", "(II)J"⟩
abbrev cX3_isSame : ByteArray := prog_5_method_8_code
def yX3_isSame : MethodName := ⟨RX3, "isSame", "(III)Z"⟩
abbrev cX3_copyTo : ByteArray := prog_5_method_9_code
def yX3_copyTo : MethodName := ⟨RX3, "copyTo", "(II[BI)V"⟩
abbrev cX3_putNumber : ByteArray := prog_5_method_10_code
def yX3_putNumber : MethodName := ⟨RX3, "putNumber", "(JI)V"⟩
abbrev cX3_putCells : ByteArray := prog_5_method_11_code
def yX3_putCells : MethodName := ⟨RX3, "putCells", "([BII)V"⟩
abbrev cX3_putCell : ByteArray := prog_5_method_12_code
def yX3_putCell : MethodName := ⟨RX3, "putCell", "(B)V"⟩
def RX4 : String := "ZipForms"
def TX4 : u_T := fun k => match k with
  | 0 => ("ZipForms", "entries", "[LZipForms$Entry;", true)
  | 1 => ("ZipForms", "store", "LZipForms$Store;", true)
  | 2 => ("ZipForms", "reading", "LZipForms$Reading;", true)
  | 3 => ("ZipForms", "remark", "[B", true)
  | 4 => ("ZipForms", "entryCount", "I", false)
  | 5 => ("ZipForms", "remarkCount", "I", false)
  | 6 => ("ZipForms", "latestFault", "I", false)
  | _ => ("ZipForms", "faultPlace", "I", false)
def tyX4 : Nat → FieldType := fun k => match k with
  | 0 => .array (.object "ZipForms$Entry")
  | 1 => .object "ZipForms$Store"
  | 2 => .object "ZipForms$Reading"
  | 3 => .array .byte
  | 4 => .int
  | 5 => .int
  | 6 => .int
  | _ => .int
abbrev wsX40 : List Cond := u_ws RX4 TX4 8
theorem nmX4 : ∀ a, a < 8 → ∀ b, b < 8 → a ≠ b → (TX4 a).2.1 ≠ (TX4 b).2.1 := by decide +kernel
theorem tyX4_ok : ∀ k, k < 8 → parseFieldDescriptor (TX4 k).2.2.1 = some (tyX4 k) := by decide +kernel
abbrev cX4_init : ByteArray := prog_1_method_1_code
def yX4_init : MethodName := ⟨RX4, "<init>", "()V"⟩
abbrev cX4_entry : ByteArray := prog_1_method_2_code
def yX4_entry : MethodName := ⟨RX4, "entry", "(IIJI)I"⟩
abbrev cX4_name : ByteArray := prog_1_method_3_code
def yX4_name : MethodName := ⟨RX4, "name", "(IJI)I"⟩
abbrev cX4_data : ByteArray := prog_1_method_4_code
def yX4_data : MethodName := ⟨RX4, "data", "(IJI)I"⟩
abbrev cX4_packed : ByteArray := prog_1_method_5_code
def yX4_packed : MethodName := ⟨RX4, "packed", "(III)I"⟩
abbrev cX4_part : ByteArray := prog_1_method_6_code
def yX4_part : MethodName := ⟨RX4, "part", "(IIJI)I"⟩
abbrev cX4_stamp : ByteArray := prog_1_method_7_code
def yX4_stamp : MethodName := ⟨RX4, "stamp", "(IIIII)I"⟩
abbrev cX4_attributes : ByteArray := prog_1_method_8_code
def yX4_attributes : MethodName := ⟨RX4, "attributes", "(II)I"⟩
abbrev cX4_clear : ByteArray := prog_1_method_9_code
def yX4_clear : MethodName := ⟨RX4, "clear", "()I"⟩
abbrev cX4_comment : ByteArray := prog_1_method_10_code
def yX4_comment : MethodName := ⟨RX4, "comment", "(JI)I"⟩
abbrev cX4_write : ByteArray := prog_1_method_11_code
def yX4_write : MethodName := ⟨RX4, "write", "()I"⟩
abbrev cX4_add : ByteArray := prog_1_method_12_code
def yX4_add : MethodName := ⟨RX4, "add", "(I)I"⟩
abbrev cX4_read : ByteArray := prog_1_method_13_code
def yX4_read : MethodName := ⟨RX4, "read", "()I"⟩
abbrev cX4_place : ByteArray := prog_1_method_14_code
def yX4_place : MethodName := ⟨RX4, "place", "()I"⟩
abbrev cX4_feed : ByteArray := prog_1_method_15_code
def yX4_feed : MethodName := ⟨RX4, "feed", "(JI)I"⟩
abbrev cX4_cut : ByteArray := prog_1_method_16_code
def yX4_cut : MethodName := ⟨RX4, "cut", "(I)I"⟩
abbrev cX4_poke : ByteArray := prog_1_method_17_code
def yX4_poke : MethodName := ⟨RX4, "poke", "(II)I"⟩
abbrev cX4_at : ByteArray := prog_1_method_18_code
def yX4_at : MethodName := ⟨RX4, "at", "(I)I"⟩
abbrev cX4_half : ByteArray := prog_1_method_19_code
def yX4_half : MethodName := ⟨RX4, "half", "(I)I"⟩
abbrev cX4_word : ByteArray := prog_1_method_20_code
def yX4_word : MethodName := ⟨RX4, "word", "(I)J"⟩
abbrev cX4_about : ByteArray := prog_1_method_21_code
def yX4_about : MethodName := ⟨RX4, "about", "(II)I"⟩
abbrev cX4_letter : ByteArray := prog_1_method_22_code
def yX4_letter : MethodName := ⟨RX4, "letter", "(II)I"⟩
abbrev cX4_octet : ByteArray := prog_1_method_23_code
def yX4_octet : MethodName := ⟨RX4, "octet", "(II)I"⟩
abbrev cX4_size : ByteArray := prog_1_method_24_code
def yX4_size : MethodName := ⟨RX4, "size", "(II)J"⟩
abbrev cX4_extra : ByteArray := prog_1_method_25_code
def yX4_extra : MethodName := ⟨RX4, "extra", "(IIII)I"⟩
abbrev cX4_right : ByteArray := prog_1_method_26_code
def yX4_right : MethodName := ⟨RX4, "right", "(I)I"⟩
abbrev cX4_same : ByteArray := prog_1_method_27_code
def yX4_same : MethodName := ⟨RX4, "same", "(I)I"⟩
abbrev cX4_told : ByteArray := prog_1_method_28_code
def yX4_told : MethodName := ⟨RX4, "told", "(I)I"⟩
abbrev cX4_isUnknown : ByteArray := prog_1_method_29_code
def yX4_isUnknown : MethodName := ⟨RX4, "isUnknown", "(I)Z"⟩
abbrev cX4_faultOf : ByteArray := prog_1_method_30_code
def yX4_faultOf : MethodName := ⟨RX4, "faultOf", "(I)I"⟩
abbrev cX4_lacksData : ByteArray := prog_1_method_31_code
def yX4_lacksData : MethodName := ⟨RX4, "lacksData", "()Z"⟩
abbrev cX4_allPlacedBefore : ByteArray := prog_1_method_32_code
def yX4_allPlacedBefore : MethodName := ⟨RX4, "allPlacedBefore", "(I)Z"⟩
abbrev cX4_lengthFrom : ByteArray := prog_1_method_33_code
def yX4_lengthFrom : MethodName := ⟨RX4, "lengthFrom", "(I)I"⟩
abbrev cX4_putFrom : ByteArray := prog_1_method_34_code
def yX4_putFrom : MethodName := ⟨RX4, "putFrom", "(I)I"⟩
abbrev cX4_putEnd : ByteArray := prog_1_method_35_code
def yX4_putEnd : MethodName := ⟨RX4, "putEnd", "(I)V"⟩
abbrev cX4_fitsName : ByteArray := prog_1_method_36_code
def yX4_fitsName : MethodName := ⟨RX4, "fitsName", "(IJI)Z"⟩
abbrev cX4_octetOf : ByteArray := prog_1_method_37_code
def yX4_octetOf : MethodName := ⟨RX4, "octetOf", "(JII)I"⟩
abbrev cX4_spread : ByteArray := prog_1_method_38_code
def yX4_spread : MethodName := ⟨RX4, "spread", "(JI[BI)V"⟩
abbrev cX4_sumOf : ByteArray := prog_1_method_39_code
def yX4_sumOf : MethodName := ⟨RX4, "sumOf", "([BI)I"⟩
def RX5 : String := "ZipFormsModel"
def TX5 : u_T := fun k => match k with
  | 0 => ("ZipFormsModel", "thrown", "I", false)
  | 1 => ("ZipFormsModel", "lastFault", "I", false)
  | 2 => ("ZipFormsModel", "entries", "I", false)
  | 3 => ("ZipFormsModel", "kind", "[I", true)
  | 4 => ("ZipFormsModel", "form", "[I", true)
  | 5 => ("ZipFormsModel", "name", "[I", true)
  | 6 => ("ZipFormsModel", "nameLong", "[I", true)
  | 7 => ("ZipFormsModel", "time", "[I", true)
  | 8 => ("ZipFormsModel", "day", "[I", true)
  | 9 => ("ZipFormsModel", "attributes", "[I", true)
  | 10 => ("ZipFormsModel", "parts", "[I", true)
  | 11 => ("ZipFormsModel", "partId", "[I", true)
  | 12 => ("ZipFormsModel", "partLong", "[I", true)
  | 13 => ("ZipFormsModel", "partByte", "[I", true)
  | 14 => ("ZipFormsModel", "hasData", "[Z", true)
  | 15 => ("ZipFormsModel", "dataLong", "[I", true)
  | 16 => ("ZipFormsModel", "data", "[I", true)
  | 17 => ("ZipFormsModel", "toldSize", "[I", true)
  | 18 => ("ZipFormsModel", "toldSum", "[I", true)
  | 19 => ("ZipFormsModel", "isSumRead", "[Z", true)
  | 20 => ("ZipFormsModel", "local", "[I", true)
  | 21 => ("ZipFormsModel", "comment", "[I", true)
  | 22 => ("ZipFormsModel", "commentLong", "I", false)
  | 23 => ("ZipFormsModel", "bytes", "[I", true)
  | 24 => ("ZipFormsModel", "size", "I", false)
  | 25 => ("ZipFormsModel", "at", "I", false)
  | 26 => ("ZipFormsModel", "place", "I", false)
  | 27 => ("ZipFormsModel", "faultKind", "I", false)
  | 28 => ("ZipFormsModel", "faultPlace", "I", false)
  | 29 => ("ZipFormsModel", "end", "I", false)
  | 30 => ("ZipFormsModel", "rows", "I", false)
  | 31 => ("ZipFormsModel", "centre", "I", false)
  | 32 => ("ZipFormsModel", "centreEnd", "I", false)
  | 33 => ("ZipFormsModel", "rowAt", "[I", true)
  | 34 => ("ZipFormsModel", "nameAt", "I", false)
  | 35 => ("ZipFormsModel", "names", "I", false)
  | 36 => ("ZipFormsModel", "extras", "I", false)
  | 37 => ("ZipFormsModel", "isWide", "Z", false)
  | 38 => ("ZipFormsModel", "partMany", "I", false)
  | 39 => ("ZipFormsModel", "itsSize", "J", false)
  | 40 => ("ZipFormsModel", "itsTrue", "J", false)
  | 41 => ("ZipFormsModel", "itsLocal", "J", false)
  | 42 => ("ZipFormsModel", "takenFrom", "[I", true)
  | _ => ("ZipFormsModel", "takenTo", "[I", true)
def tyX5 : Nat → FieldType := fun k => match k with
  | 0 => .int
  | 1 => .int
  | 2 => .int
  | 3 => .array .int
  | 4 => .array .int
  | 5 => .array .int
  | 6 => .array .int
  | 7 => .array .int
  | 8 => .array .int
  | 9 => .array .int
  | 10 => .array .int
  | 11 => .array .int
  | 12 => .array .int
  | 13 => .array .int
  | 14 => .array .boolean
  | 15 => .array .int
  | 16 => .array .int
  | 17 => .array .int
  | 18 => .array .int
  | 19 => .array .boolean
  | 20 => .array .int
  | 21 => .array .int
  | 22 => .int
  | 23 => .array .int
  | 24 => .int
  | 25 => .int
  | 26 => .int
  | 27 => .int
  | 28 => .int
  | 29 => .int
  | 30 => .int
  | 31 => .int
  | 32 => .int
  | 33 => .array .int
  | 34 => .int
  | 35 => .int
  | 36 => .int
  | 37 => .boolean
  | 38 => .int
  | 39 => .long
  | 40 => .long
  | 41 => .long
  | 42 => .array .int
  | _ => .array .int
abbrev wsX50 : List Cond := u_ws RX5 TX5 44
theorem nmX5 : ∀ a, a < 44 → ∀ b, b < 44 → a ≠ b → (TX5 a).2.1 ≠ (TX5 b).2.1 := by decide +kernel
theorem tyX5_ok : ∀ k, k < 44 → parseFieldDescriptor (TX5 k).2.2.1 = some (tyX5 k) := by decide +kernel
abbrev cX5_in : ByteArray := prog_7_method_2_code
def yX5_in : MethodName := ⟨RX5, "in", "(JJJ)Z"⟩
abbrev cX5_fails : ByteArray := prog_7_method_3_code
def yX5_fails : MethodName := ⟨RX5, "fails", "(I)I"⟩
abbrev cX5_isEntry : ByteArray := prog_7_method_4_code
def yX5_isEntry : MethodName := ⟨RX5, "isEntry", "(I)Z"⟩
abbrev cX5_byteOf : ByteArray := prog_7_method_5_code
def yX5_byteOf : MethodName := ⟨RX5, "byteOf", "(JII)I"⟩
abbrev cX5_hasZero : ByteArray := prog_7_method_6_code
def yX5_hasZero : MethodName := ⟨RX5, "hasZero", "(JI)Z"⟩
abbrev cX5_begin : ByteArray := prog_7_method_7_code
def yX5_begin : MethodName := ⟨RX5, "begin", "(I)V"⟩
abbrev cX5_entry : ByteArray := prog_7_method_8_code
def yX5_entry : MethodName := ⟨RX5, "entry", "(IIJI)I"⟩
abbrev cX5_name : ByteArray := prog_7_method_9_code
def yX5_name : MethodName := ⟨RX5, "name", "(IJI)I"⟩
abbrev cX5_data : ByteArray := prog_7_method_10_code
def yX5_data : MethodName := ⟨RX5, "data", "(IJI)I"⟩
abbrev cX5_packed : ByteArray := prog_7_method_11_code
def yX5_packed : MethodName := ⟨RX5, "packed", "(III)I"⟩
abbrev cX5_part : ByteArray := prog_7_method_12_code
def yX5_part : MethodName := ⟨RX5, "part", "(IIJI)I"⟩
abbrev cX5_stamp : ByteArray := prog_7_method_13_code
def yX5_stamp : MethodName := ⟨RX5, "stamp", "(IIIII)I"⟩
abbrev cX5_attributes : ByteArray := prog_7_method_14_code
def yX5_attributes : MethodName := ⟨RX5, "attributes", "(II)I"⟩
abbrev cX5_clear : ByteArray := prog_7_method_15_code
def yX5_clear : MethodName := ⟨RX5, "clear", "()I"⟩
abbrev cX5_comment : ByteArray := prog_7_method_16_code
def yX5_comment : MethodName := ⟨RX5, "comment", "(JI)I"⟩
abbrev cX5_sumOf : ByteArray := prog_7_method_17_code
def yX5_sumOf : MethodName := ⟨RX5, "sumOf", "(I)I"⟩
abbrev cX5_sum : ByteArray := prog_7_method_18_code
def yX5_sum : MethodName := ⟨RX5, "sum", "(I)I"⟩
abbrev cX5_trueSize : ByteArray := prog_7_method_19_code
def yX5_trueSize : MethodName := ⟨RX5, "trueSize", "(I)I"⟩
abbrev cX5_put : ByteArray := prog_7_method_20_code
def yX5_put : MethodName := ⟨RX5, "put", "(JI)V"⟩
abbrev cX5_extraLong : ByteArray := prog_7_method_21_code
def yX5_extraLong : MethodName := ⟨RX5, "extraLong", "(I)I"⟩
abbrev cX5_putName : ByteArray := prog_7_method_22_code
def yX5_putName : MethodName := ⟨RX5, "putName", "(I)V"⟩
abbrev cX5_putFields : ByteArray := prog_7_method_23_code
def yX5_putFields : MethodName := ⟨RX5, "putFields", "(IZ)V"⟩
abbrev cX5_putLocal : ByteArray := prog_7_method_24_code
def yX5_putLocal : MethodName := ⟨RX5, "putLocal", "(I)V"⟩
abbrev cX5_localLong : ByteArray := prog_7_method_25_code
def yX5_localLong : MethodName := ⟨RX5, "localLong", "(I)I"⟩
abbrev cX5_centreLong : ByteArray := prog_7_method_26_code
def yX5_centreLong : MethodName := ⟨RX5, "centreLong", "(I)I"⟩
abbrev cX5_isBare : ByteArray := prog_7_method_27_code
def yX5_isBare : MethodName := ⟨RX5, "isBare", "()Z"⟩
abbrev cX5_goes : ByteArray := prog_7_method_28_code
def yX5_goes : MethodName := ⟨RX5, "goes", "(II)I"⟩
abbrev cX5_write : ByteArray := prog_7_method_29_code
def yX5_write : MethodName := ⟨RX5, "write", "()I"⟩
abbrev cX5_add : ByteArray := prog_7_method_30_code
def yX5_add : MethodName := ⟨RX5, "add", "(I)I"⟩
abbrev cX5_want : ByteArray := prog_7_method_31_code
def yX5_want : MethodName := ⟨RX5, "want", "(ZIJ)Z"⟩
abbrev cX5_two : ByteArray := prog_7_method_32_code
def yX5_two : MethodName := ⟨RX5, "two", "(I)I"⟩
abbrev cX5_four : ByteArray := prog_7_method_33_code
def yX5_four : MethodName := ⟨RX5, "four", "(I)J"⟩
abbrev cX5_eight : ByteArray := prog_7_method_34_code
def yX5_eight : MethodName := ⟨RX5, "eight", "(I)J"⟩
abbrev cX5_findEnd : ByteArray := prog_7_method_35_code
def yX5_findEnd : MethodName := ⟨RX5, "findEnd", "()V"⟩
abbrev cX5_findRows : ByteArray := prog_7_method_36_code
def yX5_findRows : MethodName := ⟨RX5, "findRows", "()V"⟩
abbrev cX5_hasParts : ByteArray := prog_7_method_37_code
def yX5_hasParts : MethodName := ⟨RX5, "hasParts", "(II)Z"⟩
abbrev cX5_isSafe : ByteArray := prog_7_method_38_code
def yX5_isSafe : MethodName := ⟨RX5, "isSafe", "()Z"⟩
abbrev cX5_areAlike : ByteArray := prog_7_method_39_code
def yX5_areAlike : MethodName := ⟨RX5, "areAlike", "(III)Z"⟩
abbrev cX5_layRow : ByteArray := prog_7_method_40_code
def yX5_layRow : MethodName := ⟨RX5, "layRow", "(I)V"⟩
abbrev cX5_checkRow : ByteArray := prog_7_method_41_code
def yX5_checkRow : MethodName := ⟨RX5, "checkRow", "(I)V"⟩
abbrev cX5_checkLocal : ByteArray := prog_7_method_42_code
def yX5_checkLocal : MethodName := ⟨RX5, "checkLocal", "(III)V"⟩
abbrev cX5_takeRow : ByteArray := prog_7_method_43_code
def yX5_takeRow : MethodName := ⟨RX5, "takeRow", "(I)V"⟩
abbrev cX5_read : ByteArray := prog_7_method_44_code
def yX5_read : MethodName := ⟨RX5, "read", "()I"⟩
abbrev cX5_place : ByteArray := prog_7_method_45_code
def yX5_place : MethodName := ⟨RX5, "place", "()I"⟩
abbrev cX5_feed : ByteArray := prog_7_method_46_code
def yX5_feed : MethodName := ⟨RX5, "feed", "(JI)I"⟩
abbrev cX5_cut : ByteArray := prog_7_method_47_code
def yX5_cut : MethodName := ⟨RX5, "cut", "(I)I"⟩
abbrev cX5_poke : ByteArray := prog_7_method_48_code
def yX5_poke : MethodName := ⟨RX5, "poke", "(II)I"⟩
abbrev cX5_isThere : ByteArray := prog_7_method_49_code
def yX5_isThere : MethodName := ⟨RX5, "isThere", "(II)Z"⟩
abbrev cX5_at : ByteArray := prog_7_method_50_code
def yX5_at : MethodName := ⟨RX5, "at", "(I)I"⟩
abbrev cX5_half : ByteArray := prog_7_method_51_code
def yX5_half : MethodName := ⟨RX5, "half", "(I)I"⟩
abbrev cX5_word : ByteArray := prog_7_method_52_code
def yX5_word : MethodName := ⟨RX5, "word", "(I)J"⟩
abbrev cX5_about : ByteArray := prog_7_method_53_code
def yX5_about : MethodName := ⟨RX5, "about", "(II)I"⟩
abbrev cX5_letter : ByteArray := prog_7_method_54_code
def yX5_letter : MethodName := ⟨RX5, "letter", "(II)I"⟩
abbrev cX5_octet : ByteArray := prog_7_method_55_code
def yX5_octet : MethodName := ⟨RX5, "octet", "(II)I"⟩
abbrev cX5_size : ByteArray := prog_7_method_56_code
def yX5_size : MethodName := ⟨RX5, "size", "(II)J"⟩
abbrev cX5_extra : ByteArray := prog_7_method_57_code
def yX5_extra : MethodName := ⟨RX5, "extra", "(IIII)I"⟩
abbrev cX5_right : ByteArray := prog_7_method_58_code
def yX5_right : MethodName := ⟨RX5, "right", "(I)I"⟩
abbrev cX5_same : ByteArray := prog_7_method_59_code
def yX5_same : MethodName := ⟨RX5, "same", "(I)I"⟩
abbrev cX5_told : ByteArray := prog_7_method_60_code
def yX5_told : MethodName := ⟨RX5, "told", "(I)I"⟩
abbrev cX5_init : ByteArray := prog_7_method_61_code
def yX5_init : MethodName := ⟨RX5, "<init>", "()V"⟩
def RL : String := "ZipFormsLaw"
abbrev cL_law : ByteArray := code
def yL_law : MethodName := ⟨RL, "law", "([I)Z"⟩
abbrev vwCl : List vw_C := [(RX0, TX0, 18), (RX1, TX1, 9), (RX2, TX2, 19), (RX3, TX3, 2), (RX4, TX4, 8), (RX5, TX5, 44)]
end
section
theorem dX0_init_0 : decode cX0_init 0 = .ok (.aload_n 0, 1) := by decide +kernel
theorem dX0_init_1 : decode cX0_init 1 = .ok (.invokespecial 3, 3) := by decide +kernel
theorem dX0_init_4 : decode cX0_init 4 = .ok (.aload_n 0, 1) := by decide +kernel
theorem dX0_init_5 : decode cX0_init 5 = .ok (.bipush 16, 2) := by decide +kernel
theorem dX0_init_7 : decode cX0_init 7 = .ok (.newarray .byte, 2) := by decide +kernel
theorem dX0_init_9 : decode cX0_init 9 = .ok (.putfield 9, 3) := by decide +kernel
theorem dX0_init_12 : decode cX0_init 12 = .ok (.aload_n 0, 1) := by decide +kernel
theorem dX0_init_13 : decode cX0_init 13 = .ok (.bipush 40, 2) := by decide +kernel
theorem dX0_init_15 : decode cX0_init 15 = .ok (.newarray .byte, 2) := by decide +kernel
theorem dX0_init_17 : decode cX0_init 17 = .ok (.putfield 15, 3) := by decide +kernel
theorem dX0_init_20 : decode cX0_init 20 = .ok (.aload_n 0, 1) := by decide +kernel
theorem dX0_init_21 : decode cX0_init 21 = .ok (.iconst 3, 1) := by decide +kernel
theorem dX0_init_22 : decode cX0_init 22 = .ok (.newarray .int, 2) := by decide +kernel
theorem dX0_init_24 : decode cX0_init 24 = .ok (.putfield 18, 3) := by decide +kernel
theorem dX0_init_27 : decode cX0_init 27 = .ok (.aload_n 0, 1) := by decide +kernel
theorem dX0_init_28 : decode cX0_init 28 = .ok (.iconst 3, 1) := by decide +kernel
theorem dX0_init_29 : decode cX0_init 29 = .ok (.newarray .int, 2) := by decide +kernel
theorem dX0_init_31 : decode cX0_init 31 = .ok (.putfield 22, 3) := by decide +kernel
theorem dX0_init_34 : decode cX0_init 34 = .ok (.aload_n 0, 1) := by decide +kernel
theorem dX0_init_35 : decode cX0_init 35 = .ok (.bipush 24, 2) := by decide +kernel
theorem dX0_init_37 : decode cX0_init 37 = .ok (.newarray .byte, 2) := by decide +kernel
theorem dX0_init_39 : decode cX0_init 39 = .ok (.putfield 25, 3) := by decide +kernel
theorem dX0_init_42 : decode cX0_init 42 = .ok (.aload_n 0, 1) := by decide +kernel
theorem dX0_init_43 : decode cX0_init 43 = .ok (.iconst 0, 1) := by decide +kernel
theorem dX0_init_44 : decode cX0_init 44 = .ok (.putfield 28, 3) := by decide +kernel
theorem dX0_init_47 : decode cX0_init 47 = .ok (.aload_n 0, 1) := by decide +kernel
theorem dX0_init_48 : decode cX0_init 48 = .ok (.iconst 0, 1) := by decide +kernel
theorem dX0_init_49 : decode cX0_init 49 = .ok (.putfield 32, 3) := by decide +kernel
theorem dX0_init_52 : decode cX0_init 52 = .ok (.aload_n 0, 1) := by decide +kernel
theorem dX0_init_53 : decode cX0_init 53 = .ok (.iconst 0, 1) := by decide +kernel
theorem dX0_init_54 : decode cX0_init 54 = .ok (.putfield 35, 3) := by decide +kernel
theorem dX0_init_57 : decode cX0_init 57 = .ok (.aload_n 0, 1) := by decide +kernel
theorem dX0_init_58 : decode cX0_init 58 = .ok (.iconst 0, 1) := by decide +kernel
theorem dX0_init_59 : decode cX0_init 59 = .ok (.putfield 38, 3) := by decide +kernel
theorem dX0_init_62 : decode cX0_init 62 = .ok (.aload_n 0, 1) := by decide +kernel
theorem dX0_init_63 : decode cX0_init 63 = .ok (.iconst 0, 1) := by decide +kernel
theorem dX0_init_64 : decode cX0_init 64 = .ok (.putfield 41, 3) := by decide +kernel
theorem dX0_init_67 : decode cX0_init 67 = .ok (.aload_n 0, 1) := by decide +kernel
theorem dX0_init_68 : decode cX0_init 68 = .ok (.iconst 0, 1) := by decide +kernel
theorem dX0_init_69 : decode cX0_init 69 = .ok (.putfield 44, 3) := by decide +kernel
theorem dX0_init_72 : decode cX0_init 72 = .ok (.aload_n 0, 1) := by decide +kernel
theorem dX0_init_73 : decode cX0_init 73 = .ok (.iconst 0, 1) := by decide +kernel
theorem dX0_init_74 : decode cX0_init 74 = .ok (.putfield 48, 3) := by decide +kernel
theorem dX0_init_77 : decode cX0_init 77 = .ok (.aload_n 0, 1) := by decide +kernel
theorem dX0_init_78 : decode cX0_init 78 = .ok (.iconst 0, 1) := by decide +kernel
theorem dX0_init_79 : decode cX0_init 79 = .ok (.putfield 51, 3) := by decide +kernel
theorem dX0_init_82 : decode cX0_init 82 = .ok (.aload_n 0, 1) := by decide +kernel
theorem dX0_init_83 : decode cX0_init 83 = .ok (.iconst 0, 1) := by decide +kernel
theorem dX0_init_84 : decode cX0_init 84 = .ok (.putfield 54, 3) := by decide +kernel
theorem dX0_init_87 : decode cX0_init 87 = .ok (.aload_n 0, 1) := by decide +kernel
theorem dX0_init_88 : decode cX0_init 88 = .ok (.iconst 0, 1) := by decide +kernel
theorem dX0_init_89 : decode cX0_init 89 = .ok (.putfield 57, 3) := by decide +kernel
theorem dX0_init_92 : decode cX0_init 92 = .ok (.aload_n 0, 1) := by decide +kernel
theorem dX0_init_93 : decode cX0_init 93 = .ok (.iconst 0, 1) := by decide +kernel
theorem dX0_init_94 : decode cX0_init 94 = .ok (.putfield 60, 3) := by decide +kernel
theorem dX0_init_97 : decode cX0_init 97 = .ok (.aload_n 0, 1) := by decide +kernel
theorem dX0_init_98 : decode cX0_init 98 = .ok (.iconst 0, 1) := by decide +kernel
theorem dX0_init_99 : decode cX0_init 99 = .ok (.putfield 63, 3) := by decide +kernel
theorem dX0_init_102 : decode cX0_init 102 = .ok (.aload_n 0, 1) := by decide +kernel
theorem dX0_init_103 : decode cX0_init 103 = .ok (.iconst (-1), 1) := by decide +kernel
theorem dX0_init_104 : decode cX0_init 104 = .ok (.putfield 66, 3) := by decide +kernel
theorem dX0_init_107 : decode cX0_init 107 = .ok (.return_, 1) := by decide +kernel
theorem dX0_begin_0 : decode cX0_begin 0 = .ok (.aload_n 0, 1) := by decide +kernel
theorem dX0_begin_1 : decode cX0_begin 1 = .ok (.iload_n 1, 1) := by decide +kernel
theorem dX0_begin_2 : decode cX0_begin 2 = .ok (.putfield 28, 3) := by decide +kernel
theorem dX0_begin_5 : decode cX0_begin 5 = .ok (.aload_n 0, 1) := by decide +kernel
theorem dX0_begin_6 : decode cX0_begin 6 = .ok (.iload_n 2, 1) := by decide +kernel
theorem dX0_begin_7 : decode cX0_begin 7 = .ok (.putfield 32, 3) := by decide +kernel
theorem dX0_begin_10 : decode cX0_begin 10 = .ok (.aload_n 0, 1) := by decide +kernel
theorem dX0_begin_11 : decode cX0_begin 11 = .ok (.iconst 0, 1) := by decide +kernel
theorem dX0_begin_12 : decode cX0_begin 12 = .ok (.putfield 35, 3) := by decide +kernel
theorem dX0_begin_15 : decode cX0_begin 15 = .ok (.aload_n 0, 1) := by decide +kernel
theorem dX0_begin_16 : decode cX0_begin 16 = .ok (.iconst 0, 1) := by decide +kernel
theorem dX0_begin_17 : decode cX0_begin 17 = .ok (.putfield 38, 3) := by decide +kernel
theorem dX0_begin_20 : decode cX0_begin 20 = .ok (.aload_n 0, 1) := by decide +kernel
theorem dX0_begin_21 : decode cX0_begin 21 = .ok (.iconst 0, 1) := by decide +kernel
theorem dX0_begin_22 : decode cX0_begin 22 = .ok (.putfield 41, 3) := by decide +kernel
theorem dX0_begin_25 : decode cX0_begin 25 = .ok (.aload_n 0, 1) := by decide +kernel
theorem dX0_begin_26 : decode cX0_begin 26 = .ok (.iconst 0, 1) := by decide +kernel
theorem dX0_begin_27 : decode cX0_begin 27 = .ok (.putfield 44, 3) := by decide +kernel
theorem dX0_begin_30 : decode cX0_begin 30 = .ok (.aload_n 0, 1) := by decide +kernel
theorem dX0_begin_31 : decode cX0_begin 31 = .ok (.iconst 0, 1) := by decide +kernel
theorem dX0_begin_32 : decode cX0_begin 32 = .ok (.putfield 48, 3) := by decide +kernel
theorem dX0_begin_35 : decode cX0_begin 35 = .ok (.aload_n 0, 1) := by decide +kernel
theorem dX0_begin_36 : decode cX0_begin 36 = .ok (.iconst 0, 1) := by decide +kernel
theorem dX0_begin_37 : decode cX0_begin 37 = .ok (.putfield 51, 3) := by decide +kernel
theorem dX0_begin_40 : decode cX0_begin 40 = .ok (.aload_n 0, 1) := by decide +kernel
theorem dX0_begin_41 : decode cX0_begin 41 = .ok (.iconst 0, 1) := by decide +kernel
theorem dX0_begin_42 : decode cX0_begin 42 = .ok (.putfield 54, 3) := by decide +kernel
theorem dX0_begin_45 : decode cX0_begin 45 = .ok (.aload_n 0, 1) := by decide +kernel
theorem dX0_begin_46 : decode cX0_begin 46 = .ok (.iconst 0, 1) := by decide +kernel
theorem dX0_begin_47 : decode cX0_begin 47 = .ok (.putfield 57, 3) := by decide +kernel
theorem dX0_begin_50 : decode cX0_begin 50 = .ok (.aload_n 0, 1) := by decide +kernel
theorem dX0_begin_51 : decode cX0_begin 51 = .ok (.iconst 0, 1) := by decide +kernel
theorem dX0_begin_52 : decode cX0_begin 52 = .ok (.putfield 60, 3) := by decide +kernel
theorem dX0_begin_55 : decode cX0_begin 55 = .ok (.aload_n 0, 1) := by decide +kernel
theorem dX0_begin_56 : decode cX0_begin 56 = .ok (.iconst 0, 1) := by decide +kernel
theorem dX0_begin_57 : decode cX0_begin 57 = .ok (.putfield 63, 3) := by decide +kernel
theorem dX0_begin_60 : decode cX0_begin 60 = .ok (.aload_n 0, 1) := by decide +kernel
theorem dX0_begin_61 : decode cX0_begin 61 = .ok (.iconst (-1), 1) := by decide +kernel
theorem dX0_begin_62 : decode cX0_begin 62 = .ok (.putfield 66, 3) := by decide +kernel
theorem dX0_begin_65 : decode cX0_begin 65 = .ok (.iload_n 1, 1) := by decide +kernel
theorem dX0_begin_66 : decode cX0_begin 66 = .ok (.iconst 2, 1) := by decide +kernel
theorem dX0_begin_67 : decode cX0_begin 67 = .ok (.if_icmp .ne 16, 3) := by decide +kernel
theorem dX0_begin_70 : decode cX0_begin 70 = .ok (.aload_n 0, 1) := by decide +kernel
theorem dX0_begin_71 : decode cX0_begin 71 = .ok (.getfield 9, 3) := by decide +kernel
theorem dX0_begin_74 : decode cX0_begin 74 = .ok (.iconst 0, 1) := by decide +kernel
theorem dX0_begin_75 : decode cX0_begin 75 = .ok (.bipush 47, 2) := by decide +kernel
theorem dX0_begin_77 : decode cX0_begin 77 = .ok (.bastore, 1) := by decide +kernel
theorem dX0_begin_78 : decode cX0_begin 78 = .ok (.aload_n 0, 1) := by decide +kernel
theorem dX0_begin_79 : decode cX0_begin 79 = .ok (.iconst 1, 1) := by decide +kernel
theorem dX0_begin_80 : decode cX0_begin 80 = .ok (.putfield 35, 3) := by decide +kernel
theorem dX0_begin_83 : decode cX0_begin 83 = .ok (.return_, 1) := by decide +kernel
theorem dX0_lengthenName_0 : decode cX0_lengthenName 0 = .ok (.aload_n 0, 1) := by decide +kernel
theorem dX0_lengthenName_1 : decode cX0_lengthenName 1 = .ok (.getfield 28, 3) := by decide +kernel
theorem dX0_lengthenName_4 : decode cX0_lengthenName 4 = .ok (.iconst 2, 1) := by decide +kernel
theorem dX0_lengthenName_5 : decode cX0_lengthenName 5 = .ok (.if_icmp .ne 7, 3) := by decide +kernel
theorem dX0_lengthenName_8 : decode cX0_lengthenName 8 = .ok (.iconst 1, 1) := by decide +kernel
theorem dX0_lengthenName_9 : decode cX0_lengthenName 9 = .ok (.goto 4, 3) := by decide +kernel
theorem dX0_lengthenName_12 : decode cX0_lengthenName 12 = .ok (.iconst 0, 1) := by decide +kernel
theorem dX0_lengthenName_13 : decode cX0_lengthenName 13 = .ok (.istore 4, 2) := by decide +kernel
theorem dX0_lengthenName_15 : decode cX0_lengthenName 15 = .ok (.lload_n 1, 1) := by decide +kernel
theorem dX0_lengthenName_16 : decode cX0_lengthenName 16 = .ok (.iload_n 3, 1) := by decide +kernel
theorem dX0_lengthenName_17 : decode cX0_lengthenName 17 = .ok (.aload_n 0, 1) := by decide +kernel
theorem dX0_lengthenName_18 : decode cX0_lengthenName 18 = .ok (.getfield 9, 3) := by decide +kernel
theorem dX0_lengthenName_21 : decode cX0_lengthenName 21 = .ok (.aload_n 0, 1) := by decide +kernel
theorem dX0_lengthenName_22 : decode cX0_lengthenName 22 = .ok (.getfield 35, 3) := by decide +kernel
theorem dX0_lengthenName_25 : decode cX0_lengthenName 25 = .ok (.iload 4, 2) := by decide +kernel
theorem dX0_lengthenName_27 : decode cX0_lengthenName 27 = .ok (.isub, 1) := by decide +kernel
theorem dX0_lengthenName_28 : decode cX0_lengthenName 28 = .ok (.invokestatic 69, 3) := by decide +kernel
theorem dX0_lengthenName_31 : decode cX0_lengthenName 31 = .ok (.aload_n 0, 1) := by decide +kernel
theorem dX0_lengthenName_32 : decode cX0_lengthenName 32 = .ok (.dup, 1) := by decide +kernel
theorem dX0_lengthenName_33 : decode cX0_lengthenName 33 = .ok (.getfield 35, 3) := by decide +kernel
theorem dX0_lengthenName_36 : decode cX0_lengthenName 36 = .ok (.iload_n 3, 1) := by decide +kernel
theorem dX0_lengthenName_37 : decode cX0_lengthenName 37 = .ok (.iadd, 1) := by decide +kernel
theorem dX0_lengthenName_38 : decode cX0_lengthenName 38 = .ok (.putfield 35, 3) := by decide +kernel
theorem dX0_lengthenName_41 : decode cX0_lengthenName 41 = .ok (.iload 4, 2) := by decide +kernel
theorem dX0_lengthenName_43 : decode cX0_lengthenName 43 = .ok (.iconst 1, 1) := by decide +kernel
theorem dX0_lengthenName_44 : decode cX0_lengthenName 44 = .ok (.if_icmp .ne 25, 3) := by decide +kernel
theorem dX0_lengthenName_47 : decode cX0_lengthenName 47 = .ok (.aload_n 0, 1) := by decide +kernel
theorem dX0_lengthenName_48 : decode cX0_lengthenName 48 = .ok (.getfield 35, 3) := by decide +kernel
theorem dX0_lengthenName_51 : decode cX0_lengthenName 51 = .ok (.bipush 16, 2) := by decide +kernel
theorem dX0_lengthenName_53 : decode cX0_lengthenName 53 = .ok (.if_icmp .gt 16, 3) := by decide +kernel
theorem dX0_lengthenName_56 : decode cX0_lengthenName 56 = .ok (.aload_n 0, 1) := by decide +kernel
theorem dX0_lengthenName_57 : decode cX0_lengthenName 57 = .ok (.getfield 9, 3) := by decide +kernel
theorem dX0_lengthenName_60 : decode cX0_lengthenName 60 = .ok (.aload_n 0, 1) := by decide +kernel
theorem dX0_lengthenName_61 : decode cX0_lengthenName 61 = .ok (.getfield 35, 3) := by decide +kernel
theorem dX0_lengthenName_64 : decode cX0_lengthenName 64 = .ok (.iconst 1, 1) := by decide +kernel
theorem dX0_lengthenName_65 : decode cX0_lengthenName 65 = .ok (.isub, 1) := by decide +kernel
theorem dX0_lengthenName_66 : decode cX0_lengthenName 66 = .ok (.bipush 47, 2) := by decide +kernel
theorem dX0_lengthenName_68 : decode cX0_lengthenName 68 = .ok (.bastore, 1) := by decide +kernel
theorem dX0_lengthenName_69 : decode cX0_lengthenName 69 = .ok (.return_, 1) := by decide +kernel
theorem dX0_lacksData_0 : decode cX0_lacksData 0 = .ok (.aload_n 0, 1) := by decide +kernel
theorem dX0_lacksData_1 : decode cX0_lacksData 1 = .ok (.getfield 28, 3) := by decide +kernel
theorem dX0_lacksData_4 : decode cX0_lacksData 4 = .ok (.iconst 2, 1) := by decide +kernel
theorem dX0_lacksData_5 : decode cX0_lacksData 5 = .ok (.if_icmp .eq 14, 3) := by decide +kernel
theorem dX0_lacksData_8 : decode cX0_lacksData 8 = .ok (.aload_n 0, 1) := by decide +kernel
theorem dX0_lacksData_9 : decode cX0_lacksData 9 = .ok (.getfield 44, 3) := by decide +kernel
theorem dX0_lacksData_12 : decode cX0_lacksData 12 = .ok (.ifCond .ne 7, 3) := by decide +kernel
theorem dX0_lacksData_15 : decode cX0_lacksData 15 = .ok (.iconst 1, 1) := by decide +kernel
theorem dX0_lacksData_16 : decode cX0_lacksData 16 = .ok (.goto 4, 3) := by decide +kernel
theorem dX0_lacksData_19 : decode cX0_lacksData 19 = .ok (.iconst 0, 1) := by decide +kernel
theorem dX0_lacksData_20 : decode cX0_lacksData 20 = .ok (.ireturn, 1) := by decide +kernel
theorem dX0_hasNameOf_0 : decode cX0_hasNameOf 0 = .ok (.aload_n 0, 1) := by decide +kernel
theorem dX0_hasNameOf_1 : decode cX0_hasNameOf 1 = .ok (.getfield 35, 3) := by decide +kernel
theorem dX0_hasNameOf_4 : decode cX0_hasNameOf 4 = .ok (.aload_n 1, 1) := by decide +kernel
theorem dX0_hasNameOf_5 : decode cX0_hasNameOf 5 = .ok (.getfield 35, 3) := by decide +kernel
theorem dX0_hasNameOf_8 : decode cX0_hasNameOf 8 = .ok (.if_icmp .eq 5, 3) := by decide +kernel
theorem dX0_hasNameOf_11 : decode cX0_hasNameOf 11 = .ok (.iconst 0, 1) := by decide +kernel
theorem dX0_hasNameOf_12 : decode cX0_hasNameOf 12 = .ok (.ireturn, 1) := by decide +kernel
theorem dX0_hasNameOf_13 : decode cX0_hasNameOf 13 = .ok (.iconst 0, 1) := by decide +kernel
theorem dX0_hasNameOf_14 : decode cX0_hasNameOf 14 = .ok (.istore_n 2, 1) := by decide +kernel
theorem dX0_hasNameOf_15 : decode cX0_hasNameOf 15 = .ok (.iload_n 2, 1) := by decide +kernel
theorem dX0_hasNameOf_16 : decode cX0_hasNameOf 16 = .ok (.aload_n 0, 1) := by decide +kernel
theorem dX0_hasNameOf_17 : decode cX0_hasNameOf 17 = .ok (.getfield 35, 3) := by decide +kernel
theorem dX0_hasNameOf_20 : decode cX0_hasNameOf 20 = .ok (.if_icmp .ge 32, 3) := by decide +kernel
theorem dX0_hasNameOf_23 : decode cX0_hasNameOf 23 = .ok (.iload_n 2, 1) := by decide +kernel
theorem dX0_hasNameOf_24 : decode cX0_hasNameOf 24 = .ok (.bipush 16, 2) := by decide +kernel
theorem dX0_hasNameOf_26 : decode cX0_hasNameOf 26 = .ok (.if_icmp .ge 26, 3) := by decide +kernel
theorem dX0_hasNameOf_29 : decode cX0_hasNameOf 29 = .ok (.aload_n 0, 1) := by decide +kernel
theorem dX0_hasNameOf_30 : decode cX0_hasNameOf 30 = .ok (.getfield 9, 3) := by decide +kernel
theorem dX0_hasNameOf_33 : decode cX0_hasNameOf 33 = .ok (.iload_n 2, 1) := by decide +kernel
theorem dX0_hasNameOf_34 : decode cX0_hasNameOf 34 = .ok (.baload, 1) := by decide +kernel
theorem dX0_hasNameOf_35 : decode cX0_hasNameOf 35 = .ok (.aload_n 1, 1) := by decide +kernel
theorem dX0_hasNameOf_36 : decode cX0_hasNameOf 36 = .ok (.getfield 9, 3) := by decide +kernel
theorem dX0_hasNameOf_39 : decode cX0_hasNameOf 39 = .ok (.iload_n 2, 1) := by decide +kernel
theorem dX0_hasNameOf_40 : decode cX0_hasNameOf 40 = .ok (.baload, 1) := by decide +kernel
theorem dX0_hasNameOf_41 : decode cX0_hasNameOf 41 = .ok (.if_icmp .eq 5, 3) := by decide +kernel
theorem dX0_hasNameOf_44 : decode cX0_hasNameOf 44 = .ok (.iconst 0, 1) := by decide +kernel
theorem dX0_hasNameOf_45 : decode cX0_hasNameOf 45 = .ok (.ireturn, 1) := by decide +kernel
theorem dX0_hasNameOf_46 : decode cX0_hasNameOf 46 = .ok (.iinc 2 1, 3) := by decide +kernel
theorem dX0_hasNameOf_49 : decode cX0_hasNameOf 49 = .ok (.goto (-34), 3) := by decide +kernel
theorem dX0_hasNameOf_52 : decode cX0_hasNameOf 52 = .ok (.iconst 1, 1) := by decide +kernel
theorem dX0_hasNameOf_53 : decode cX0_hasNameOf 53 = .ok (.ireturn, 1) := by decide +kernel
theorem dX0_flags_0 : decode cX0_flags 0 = .ok (.aload_n 0, 1) := by decide +kernel
theorem dX0_flags_1 : decode cX0_flags 1 = .ok (.getfield 32, 3) := by decide +kernel
theorem dX0_flags_4 : decode cX0_flags 4 = .ok (.iconst 1, 1) := by decide +kernel
theorem dX0_flags_5 : decode cX0_flags 5 = .ok (.if_icmp .ne 8, 3) := by decide +kernel
theorem dX0_flags_8 : decode cX0_flags 8 = .ok (.bipush 8, 2) := by decide +kernel
theorem dX0_flags_10 : decode cX0_flags 10 = .ok (.goto 4, 3) := by decide +kernel
theorem dX0_flags_13 : decode cX0_flags 13 = .ok (.iconst 0, 1) := by decide +kernel
theorem dX0_flags_14 : decode cX0_flags 14 = .ok (.ireturn, 1) := by decide +kernel
theorem dX0_method_0 : decode cX0_method 0 = .ok (.aload_n 0, 1) := by decide +kernel
theorem dX0_method_1 : decode cX0_method 1 = .ok (.getfield 28, 3) := by decide +kernel
theorem dX0_method_4 : decode cX0_method 4 = .ok (.iconst 1, 1) := by decide +kernel
theorem dX0_method_5 : decode cX0_method 5 = .ok (.if_icmp .ne 8, 3) := by decide +kernel
theorem dX0_method_8 : decode cX0_method 8 = .ok (.bipush 8, 2) := by decide +kernel
theorem dX0_method_10 : decode cX0_method 10 = .ok (.goto 4, 3) := by decide +kernel
theorem dX0_method_13 : decode cX0_method 13 = .ok (.iconst 0, 1) := by decide +kernel
theorem dX0_method_14 : decode cX0_method 14 = .ok (.ireturn, 1) := by decide +kernel
theorem dX0_trueSize_0 : decode cX0_trueSize 0 = .ok (.aload_n 0, 1) := by decide +kernel
theorem dX0_trueSize_1 : decode cX0_trueSize 1 = .ok (.getfield 28, 3) := by decide +kernel
theorem dX0_trueSize_4 : decode cX0_trueSize 4 = .ok (.iconst 1, 1) := by decide +kernel
theorem dX0_trueSize_5 : decode cX0_trueSize 5 = .ok (.if_icmp .ne 10, 3) := by decide +kernel
theorem dX0_trueSize_8 : decode cX0_trueSize 8 = .ok (.aload_n 0, 1) := by decide +kernel
theorem dX0_trueSize_9 : decode cX0_trueSize 9 = .ok (.getfield 51, 3) := by decide +kernel
theorem dX0_trueSize_12 : decode cX0_trueSize 12 = .ok (.goto 7, 3) := by decide +kernel
theorem dX0_trueSize_15 : decode cX0_trueSize 15 = .ok (.aload_n 0, 1) := by decide +kernel
theorem dX0_trueSize_16 : decode cX0_trueSize 16 = .ok (.getfield 38, 3) := by decide +kernel
theorem dX0_trueSize_19 : decode cX0_trueSize 19 = .ok (.ireturn, 1) := by decide +kernel
theorem dX0_sum_0 : decode cX0_sum 0 = .ok (.aload_n 0, 1) := by decide +kernel
theorem dX0_sum_1 : decode cX0_sum 1 = .ok (.getfield 28, 3) := by decide +kernel
theorem dX0_sum_4 : decode cX0_sum 4 = .ok (.iconst 2, 1) := by decide +kernel
theorem dX0_sum_5 : decode cX0_sum 5 = .ok (.if_icmp .ne 5, 3) := by decide +kernel
theorem dX0_sum_8 : decode cX0_sum 8 = .ok (.iconst 0, 1) := by decide +kernel
theorem dX0_sum_9 : decode cX0_sum 9 = .ok (.ireturn, 1) := by decide +kernel
theorem dX0_sum_10 : decode cX0_sum 10 = .ok (.aload_n 0, 1) := by decide +kernel
theorem dX0_sum_11 : decode cX0_sum 11 = .ok (.getfield 28, 3) := by decide +kernel
theorem dX0_sum_14 : decode cX0_sum 14 = .ok (.iconst 1, 1) := by decide +kernel
theorem dX0_sum_15 : decode cX0_sum 15 = .ok (.if_icmp .eq 10, 3) := by decide +kernel
theorem dX0_sum_18 : decode cX0_sum 18 = .ok (.aload_n 0, 1) := by decide +kernel
theorem dX0_sum_19 : decode cX0_sum 19 = .ok (.getfield 48, 3) := by decide +kernel
theorem dX0_sum_22 : decode cX0_sum 22 = .ok (.ifCond .eq 10, 3) := by decide +kernel
theorem dX0_sum_25 : decode cX0_sum 25 = .ok (.aload_n 0, 1) := by decide +kernel
theorem dX0_sum_26 : decode cX0_sum 26 = .ok (.getfield 54, 3) := by decide +kernel
theorem dX0_sum_29 : decode cX0_sum 29 = .ok (.goto 14, 3) := by decide +kernel
theorem dX0_sum_32 : decode cX0_sum 32 = .ok (.aload_n 0, 1) := by decide +kernel
theorem dX0_sum_33 : decode cX0_sum 33 = .ok (.getfield 15, 3) := by decide +kernel
theorem dX0_sum_36 : decode cX0_sum 36 = .ok (.aload_n 0, 1) := by decide +kernel
theorem dX0_sum_37 : decode cX0_sum 37 = .ok (.getfield 38, 3) := by decide +kernel
theorem dX0_sum_40 : decode cX0_sum 40 = .ok (.invokestatic 73, 3) := by decide +kernel
theorem dX0_sum_43 : decode cX0_sum 43 = .ok (.ireturn, 1) := by decide +kernel
theorem dX0_extraLength_0 : decode cX0_extraLength 0 = .ok (.aload_n 0, 1) := by decide +kernel
theorem dX0_extraLength_1 : decode cX0_extraLength 1 = .ok (.getfield 32, 3) := by decide +kernel
theorem dX0_extraLength_4 : decode cX0_extraLength 4 = .ok (.iconst 2, 1) := by decide +kernel
theorem dX0_extraLength_5 : decode cX0_extraLength 5 = .ok (.if_icmp .ne 8, 3) := by decide +kernel
theorem dX0_extraLength_8 : decode cX0_extraLength 8 = .ok (.bipush 20, 2) := by decide +kernel
theorem dX0_extraLength_10 : decode cX0_extraLength 10 = .ok (.goto 4, 3) := by decide +kernel
theorem dX0_extraLength_13 : decode cX0_extraLength 13 = .ok (.iconst 0, 1) := by decide +kernel
theorem dX0_extraLength_14 : decode cX0_extraLength 14 = .ok (.istore_n 1, 1) := by decide +kernel
theorem dX0_extraLength_15 : decode cX0_extraLength 15 = .ok (.iconst 0, 1) := by decide +kernel
theorem dX0_extraLength_16 : decode cX0_extraLength 16 = .ok (.istore_n 2, 1) := by decide +kernel
theorem dX0_extraLength_17 : decode cX0_extraLength 17 = .ok (.iload_n 2, 1) := by decide +kernel
theorem dX0_extraLength_18 : decode cX0_extraLength 18 = .ok (.aload_n 0, 1) := by decide +kernel
theorem dX0_extraLength_19 : decode cX0_extraLength 19 = .ok (.getfield 41, 3) := by decide +kernel
theorem dX0_extraLength_22 : decode cX0_extraLength 22 = .ok (.if_icmp .ge 25, 3) := by decide +kernel
theorem dX0_extraLength_25 : decode cX0_extraLength 25 = .ok (.iload_n 2, 1) := by decide +kernel
theorem dX0_extraLength_26 : decode cX0_extraLength 26 = .ok (.iconst 3, 1) := by decide +kernel
theorem dX0_extraLength_27 : decode cX0_extraLength 27 = .ok (.if_icmp .ge 20, 3) := by decide +kernel
theorem dX0_extraLength_30 : decode cX0_extraLength 30 = .ok (.iload_n 1, 1) := by decide +kernel
theorem dX0_extraLength_31 : decode cX0_extraLength 31 = .ok (.iconst 4, 1) := by decide +kernel
theorem dX0_extraLength_32 : decode cX0_extraLength 32 = .ok (.aload_n 0, 1) := by decide +kernel
theorem dX0_extraLength_33 : decode cX0_extraLength 33 = .ok (.getfield 22, 3) := by decide +kernel
theorem dX0_extraLength_36 : decode cX0_extraLength 36 = .ok (.iload_n 2, 1) := by decide +kernel
theorem dX0_extraLength_37 : decode cX0_extraLength 37 = .ok (.iaload, 1) := by decide +kernel
theorem dX0_extraLength_38 : decode cX0_extraLength 38 = .ok (.iadd, 1) := by decide +kernel
theorem dX0_extraLength_39 : decode cX0_extraLength 39 = .ok (.iadd, 1) := by decide +kernel
theorem dX0_extraLength_40 : decode cX0_extraLength 40 = .ok (.istore_n 1, 1) := by decide +kernel
theorem dX0_extraLength_41 : decode cX0_extraLength 41 = .ok (.iinc 2 1, 3) := by decide +kernel
theorem dX0_extraLength_44 : decode cX0_extraLength 44 = .ok (.goto (-27), 3) := by decide +kernel
theorem dX0_extraLength_47 : decode cX0_extraLength 47 = .ok (.iload_n 1, 1) := by decide +kernel
theorem dX0_extraLength_48 : decode cX0_extraLength 48 = .ok (.ireturn, 1) := by decide +kernel
theorem dX0_localLength_0 : decode cX0_localLength 0 = .ok (.aload_n 0, 1) := by decide +kernel
theorem dX0_localLength_1 : decode cX0_localLength 1 = .ok (.getfield 32, 3) := by decide +kernel
theorem dX0_localLength_4 : decode cX0_localLength 4 = .ok (.iconst 1, 1) := by decide +kernel
theorem dX0_localLength_5 : decode cX0_localLength 5 = .ok (.if_icmp .ne 8, 3) := by decide +kernel
theorem dX0_localLength_8 : decode cX0_localLength 8 = .ok (.bipush 16, 2) := by decide +kernel
theorem dX0_localLength_10 : decode cX0_localLength 10 = .ok (.goto 4, 3) := by decide +kernel
theorem dX0_localLength_13 : decode cX0_localLength 13 = .ok (.iconst 0, 1) := by decide +kernel
theorem dX0_localLength_14 : decode cX0_localLength 14 = .ok (.istore_n 1, 1) := by decide +kernel
theorem dX0_localLength_15 : decode cX0_localLength 15 = .ok (.bipush 30, 2) := by decide +kernel
theorem dX0_localLength_17 : decode cX0_localLength 17 = .ok (.aload_n 0, 1) := by decide +kernel
theorem dX0_localLength_18 : decode cX0_localLength 18 = .ok (.getfield 35, 3) := by decide +kernel
theorem dX0_localLength_21 : decode cX0_localLength 21 = .ok (.iadd, 1) := by decide +kernel
theorem dX0_localLength_22 : decode cX0_localLength 22 = .ok (.aload_n 0, 1) := by decide +kernel
theorem dX0_localLength_23 : decode cX0_localLength 23 = .ok (.invokevirtual 77, 3) := by decide +kernel
theorem dX0_localLength_26 : decode cX0_localLength 26 = .ok (.iadd, 1) := by decide +kernel
theorem dX0_localLength_27 : decode cX0_localLength 27 = .ok (.aload_n 0, 1) := by decide +kernel
theorem dX0_localLength_28 : decode cX0_localLength 28 = .ok (.getfield 38, 3) := by decide +kernel
theorem dX0_localLength_31 : decode cX0_localLength 31 = .ok (.iadd, 1) := by decide +kernel
theorem dX0_localLength_32 : decode cX0_localLength 32 = .ok (.iload_n 1, 1) := by decide +kernel
theorem dX0_localLength_33 : decode cX0_localLength 33 = .ok (.iadd, 1) := by decide +kernel
theorem dX0_localLength_34 : decode cX0_localLength 34 = .ok (.ireturn, 1) := by decide +kernel
theorem dX0_centreLength_0 : decode cX0_centreLength 0 = .ok (.bipush 46, 2) := by decide +kernel
theorem dX0_centreLength_2 : decode cX0_centreLength 2 = .ok (.aload_n 0, 1) := by decide +kernel
theorem dX0_centreLength_3 : decode cX0_centreLength 3 = .ok (.getfield 35, 3) := by decide +kernel
theorem dX0_centreLength_6 : decode cX0_centreLength 6 = .ok (.iadd, 1) := by decide +kernel
theorem dX0_centreLength_7 : decode cX0_centreLength 7 = .ok (.aload_n 0, 1) := by decide +kernel
theorem dX0_centreLength_8 : decode cX0_centreLength 8 = .ok (.invokevirtual 77, 3) := by decide +kernel
theorem dX0_centreLength_11 : decode cX0_centreLength 11 = .ok (.iadd, 1) := by decide +kernel
theorem dX0_centreLength_12 : decode cX0_centreLength 12 = .ok (.ireturn, 1) := by decide +kernel
theorem dX0_putLocal_0 : decode cX0_putLocal 0 = .ok (.aload_n 0, 1) := by decide +kernel
theorem dX0_putLocal_1 : decode cX0_putLocal 1 = .ok (.aload_n 1, 1) := by decide +kernel
theorem dX0_putLocal_2 : decode cX0_putLocal 2 = .ok (.getfield 81, 3) := by decide +kernel
theorem dX0_putLocal_5 : decode cX0_putLocal 5 = .ok (.putfield 66, 3) := by decide +kernel
theorem dX0_putLocal_8 : decode cX0_putLocal 8 = .ok (.aload_n 1, 1) := by decide +kernel
theorem dX0_putLocal_9 : decode cX0_putLocal 9 = .ok (.ldc2_w 86, 3) := by decide +kernel
theorem dX0_putLocal_12 : decode cX0_putLocal 12 = .ok (.iconst 4, 1) := by decide +kernel
theorem dX0_putLocal_13 : decode cX0_putLocal 13 = .ok (.invokevirtual 88, 3) := by decide +kernel
theorem dX0_putLocal_16 : decode cX0_putLocal 16 = .ok (.aload_n 0, 1) := by decide +kernel
theorem dX0_putLocal_17 : decode cX0_putLocal 17 = .ok (.aload_n 1, 1) := by decide +kernel
theorem dX0_putLocal_18 : decode cX0_putLocal 18 = .ok (.invokevirtual 92, 3) := by decide +kernel
theorem dX0_putLocal_21 : decode cX0_putLocal 21 = .ok (.aload_n 0, 1) := by decide +kernel
theorem dX0_putLocal_22 : decode cX0_putLocal 22 = .ok (.getfield 32, 3) := by decide +kernel
theorem dX0_putLocal_25 : decode cX0_putLocal 25 = .ok (.iconst 1, 1) := by decide +kernel
theorem dX0_putLocal_26 : decode cX0_putLocal 26 = .ok (.if_icmp .ne 19, 3) := by decide +kernel
theorem dX0_putLocal_29 : decode cX0_putLocal 29 = .ok (.aload_n 1, 1) := by decide +kernel
theorem dX0_putLocal_30 : decode cX0_putLocal 30 = .ok (.lconst 0, 1) := by decide +kernel
theorem dX0_putLocal_31 : decode cX0_putLocal 31 = .ok (.iconst 4, 1) := by decide +kernel
theorem dX0_putLocal_32 : decode cX0_putLocal 32 = .ok (.invokevirtual 88, 3) := by decide +kernel
theorem dX0_putLocal_35 : decode cX0_putLocal 35 = .ok (.aload_n 1, 1) := by decide +kernel
theorem dX0_putLocal_36 : decode cX0_putLocal 36 = .ok (.lconst 0, 1) := by decide +kernel
theorem dX0_putLocal_37 : decode cX0_putLocal 37 = .ok (.bipush 8, 2) := by decide +kernel
theorem dX0_putLocal_39 : decode cX0_putLocal 39 = .ok (.invokevirtual 88, 3) := by decide +kernel
theorem dX0_putLocal_42 : decode cX0_putLocal 42 = .ok (.goto 8, 3) := by decide +kernel
theorem dX0_putLocal_45 : decode cX0_putLocal 45 = .ok (.aload_n 0, 1) := by decide +kernel
theorem dX0_putLocal_46 : decode cX0_putLocal 46 = .ok (.aload_n 1, 1) := by decide +kernel
theorem dX0_putLocal_47 : decode cX0_putLocal 47 = .ok (.invokevirtual 96, 3) := by decide +kernel
theorem dX0_putLocal_50 : decode cX0_putLocal 50 = .ok (.aload_n 1, 1) := by decide +kernel
theorem dX0_putLocal_51 : decode cX0_putLocal 51 = .ok (.aload_n 0, 1) := by decide +kernel
theorem dX0_putLocal_52 : decode cX0_putLocal 52 = .ok (.getfield 35, 3) := by decide +kernel
theorem dX0_putLocal_55 : decode cX0_putLocal 55 = .ok (.i2l, 1) := by decide +kernel
theorem dX0_putLocal_56 : decode cX0_putLocal 56 = .ok (.iconst 2, 1) := by decide +kernel
theorem dX0_putLocal_57 : decode cX0_putLocal 57 = .ok (.invokevirtual 88, 3) := by decide +kernel
theorem dX0_putLocal_60 : decode cX0_putLocal 60 = .ok (.aload_n 1, 1) := by decide +kernel
theorem dX0_putLocal_61 : decode cX0_putLocal 61 = .ok (.aload_n 0, 1) := by decide +kernel
theorem dX0_putLocal_62 : decode cX0_putLocal 62 = .ok (.invokevirtual 77, 3) := by decide +kernel
theorem dX0_putLocal_65 : decode cX0_putLocal 65 = .ok (.i2l, 1) := by decide +kernel
theorem dX0_putLocal_66 : decode cX0_putLocal 66 = .ok (.iconst 2, 1) := by decide +kernel
theorem dX0_putLocal_67 : decode cX0_putLocal 67 = .ok (.invokevirtual 88, 3) := by decide +kernel
theorem dX0_putLocal_70 : decode cX0_putLocal 70 = .ok (.aload_n 0, 1) := by decide +kernel
theorem dX0_putLocal_71 : decode cX0_putLocal 71 = .ok (.aload_n 1, 1) := by decide +kernel
theorem dX0_putLocal_72 : decode cX0_putLocal 72 = .ok (.invokevirtual 99, 3) := by decide +kernel
theorem dX0_putLocal_75 : decode cX0_putLocal 75 = .ok (.aload_n 1, 1) := by decide +kernel
theorem dX0_putLocal_76 : decode cX0_putLocal 76 = .ok (.aload_n 0, 1) := by decide +kernel
theorem dX0_putLocal_77 : decode cX0_putLocal 77 = .ok (.getfield 15, 3) := by decide +kernel
theorem dX0_putLocal_80 : decode cX0_putLocal 80 = .ok (.iconst 0, 1) := by decide +kernel
theorem dX0_putLocal_81 : decode cX0_putLocal 81 = .ok (.aload_n 0, 1) := by decide +kernel
theorem dX0_putLocal_82 : decode cX0_putLocal 82 = .ok (.getfield 38, 3) := by decide +kernel
theorem dX0_putLocal_85 : decode cX0_putLocal 85 = .ok (.invokevirtual 102, 3) := by decide +kernel
theorem dX0_putLocal_88 : decode cX0_putLocal 88 = .ok (.aload_n 0, 1) := by decide +kernel
theorem dX0_putLocal_89 : decode cX0_putLocal 89 = .ok (.getfield 32, 3) := by decide +kernel
theorem dX0_putLocal_92 : decode cX0_putLocal 92 = .ok (.iconst 1, 1) := by decide +kernel
theorem dX0_putLocal_93 : decode cX0_putLocal 93 = .ok (.if_icmp .ne 16, 3) := by decide +kernel
theorem dX0_putLocal_96 : decode cX0_putLocal 96 = .ok (.aload_n 1, 1) := by decide +kernel
theorem dX0_putLocal_97 : decode cX0_putLocal 97 = .ok (.ldc2_w 106, 3) := by decide +kernel
theorem dX0_putLocal_100 : decode cX0_putLocal 100 = .ok (.iconst 4, 1) := by decide +kernel
theorem dX0_putLocal_101 : decode cX0_putLocal 101 = .ok (.invokevirtual 88, 3) := by decide +kernel
theorem dX0_putLocal_104 : decode cX0_putLocal 104 = .ok (.aload_n 0, 1) := by decide +kernel
theorem dX0_putLocal_105 : decode cX0_putLocal 105 = .ok (.aload_n 1, 1) := by decide +kernel
theorem dX0_putLocal_106 : decode cX0_putLocal 106 = .ok (.invokevirtual 96, 3) := by decide +kernel
theorem dX0_putLocal_109 : decode cX0_putLocal 109 = .ok (.return_, 1) := by decide +kernel
theorem dX0_putCentre_0 : decode cX0_putCentre 0 = .ok (.aload_n 1, 1) := by decide +kernel
theorem dX0_putCentre_1 : decode cX0_putCentre 1 = .ok (.ldc2_w 108, 3) := by decide +kernel
theorem dX0_putCentre_4 : decode cX0_putCentre 4 = .ok (.iconst 4, 1) := by decide +kernel
theorem dX0_putCentre_5 : decode cX0_putCentre 5 = .ok (.invokevirtual 88, 3) := by decide +kernel
theorem dX0_putCentre_8 : decode cX0_putCentre 8 = .ok (.aload_n 1, 1) := by decide +kernel
theorem dX0_putCentre_9 : decode cX0_putCentre 9 = .ok (.ldc2_w 110, 3) := by decide +kernel
theorem dX0_putCentre_12 : decode cX0_putCentre 12 = .ok (.iconst 2, 1) := by decide +kernel
theorem dX0_putCentre_13 : decode cX0_putCentre 13 = .ok (.invokevirtual 88, 3) := by decide +kernel
theorem dX0_putCentre_16 : decode cX0_putCentre 16 = .ok (.aload_n 0, 1) := by decide +kernel
theorem dX0_putCentre_17 : decode cX0_putCentre 17 = .ok (.aload_n 1, 1) := by decide +kernel
theorem dX0_putCentre_18 : decode cX0_putCentre 18 = .ok (.invokevirtual 92, 3) := by decide +kernel
theorem dX0_putCentre_21 : decode cX0_putCentre 21 = .ok (.aload_n 0, 1) := by decide +kernel
theorem dX0_putCentre_22 : decode cX0_putCentre 22 = .ok (.aload_n 1, 1) := by decide +kernel
theorem dX0_putCentre_23 : decode cX0_putCentre 23 = .ok (.invokevirtual 96, 3) := by decide +kernel
theorem dX0_putCentre_26 : decode cX0_putCentre 26 = .ok (.aload_n 1, 1) := by decide +kernel
theorem dX0_putCentre_27 : decode cX0_putCentre 27 = .ok (.aload_n 0, 1) := by decide +kernel
theorem dX0_putCentre_28 : decode cX0_putCentre 28 = .ok (.getfield 35, 3) := by decide +kernel
theorem dX0_putCentre_31 : decode cX0_putCentre 31 = .ok (.i2l, 1) := by decide +kernel
theorem dX0_putCentre_32 : decode cX0_putCentre 32 = .ok (.iconst 2, 1) := by decide +kernel
theorem dX0_putCentre_33 : decode cX0_putCentre 33 = .ok (.invokevirtual 88, 3) := by decide +kernel
theorem dX0_putCentre_36 : decode cX0_putCentre 36 = .ok (.aload_n 1, 1) := by decide +kernel
theorem dX0_putCentre_37 : decode cX0_putCentre 37 = .ok (.aload_n 0, 1) := by decide +kernel
theorem dX0_putCentre_38 : decode cX0_putCentre 38 = .ok (.invokevirtual 77, 3) := by decide +kernel
theorem dX0_putCentre_41 : decode cX0_putCentre 41 = .ok (.i2l, 1) := by decide +kernel
theorem dX0_putCentre_42 : decode cX0_putCentre 42 = .ok (.iconst 2, 1) := by decide +kernel
theorem dX0_putCentre_43 : decode cX0_putCentre 43 = .ok (.invokevirtual 88, 3) := by decide +kernel
theorem dX0_putCentre_46 : decode cX0_putCentre 46 = .ok (.aload_n 1, 1) := by decide +kernel
theorem dX0_putCentre_47 : decode cX0_putCentre 47 = .ok (.lconst 0, 1) := by decide +kernel
theorem dX0_putCentre_48 : decode cX0_putCentre 48 = .ok (.bipush 6, 2) := by decide +kernel
theorem dX0_putCentre_50 : decode cX0_putCentre 50 = .ok (.invokevirtual 88, 3) := by decide +kernel
theorem dX0_putCentre_53 : decode cX0_putCentre 53 = .ok (.aload_n 1, 1) := by decide +kernel
theorem dX0_putCentre_54 : decode cX0_putCentre 54 = .ok (.aload_n 0, 1) := by decide +kernel
theorem dX0_putCentre_55 : decode cX0_putCentre 55 = .ok (.getfield 63, 3) := by decide +kernel
theorem dX0_putCentre_58 : decode cX0_putCentre 58 = .ok (.i2l, 1) := by decide +kernel
theorem dX0_putCentre_59 : decode cX0_putCentre 59 = .ok (.iconst 4, 1) := by decide +kernel
theorem dX0_putCentre_60 : decode cX0_putCentre 60 = .ok (.invokevirtual 88, 3) := by decide +kernel
theorem dX0_putCentre_63 : decode cX0_putCentre 63 = .ok (.aload_n 1, 1) := by decide +kernel
theorem dX0_putCentre_64 : decode cX0_putCentre 64 = .ok (.aload_n 0, 1) := by decide +kernel
theorem dX0_putCentre_65 : decode cX0_putCentre 65 = .ok (.getfield 66, 3) := by decide +kernel
theorem dX0_putCentre_68 : decode cX0_putCentre 68 = .ok (.i2l, 1) := by decide +kernel
theorem dX0_putCentre_69 : decode cX0_putCentre 69 = .ok (.iconst 4, 1) := by decide +kernel
theorem dX0_putCentre_70 : decode cX0_putCentre 70 = .ok (.invokevirtual 88, 3) := by decide +kernel
theorem dX0_putCentre_73 : decode cX0_putCentre 73 = .ok (.aload_n 0, 1) := by decide +kernel
theorem dX0_putCentre_74 : decode cX0_putCentre 74 = .ok (.aload_n 1, 1) := by decide +kernel
theorem dX0_putCentre_75 : decode cX0_putCentre 75 = .ok (.invokevirtual 99, 3) := by decide +kernel
theorem dX0_putCentre_78 : decode cX0_putCentre 78 = .ok (.return_, 1) := by decide +kernel
theorem dX0_putKindOfRow_0 : decode cX0_putKindOfRow 0 = .ok (.aload_n 1, 1) := by decide +kernel
theorem dX0_putKindOfRow_1 : decode cX0_putKindOfRow 1 = .ok (.aload_n 0, 1) := by decide +kernel
theorem dX0_putKindOfRow_2 : decode cX0_putKindOfRow 2 = .ok (.getfield 32, 3) := by decide +kernel
theorem dX0_putKindOfRow_5 : decode cX0_putKindOfRow 5 = .ok (.iconst 2, 1) := by decide +kernel
theorem dX0_putKindOfRow_6 : decode cX0_putKindOfRow 6 = .ok (.if_icmp .ne 9, 3) := by decide +kernel
theorem dX0_putKindOfRow_9 : decode cX0_putKindOfRow 9 = .ok (.ldc2_w 112, 3) := by decide +kernel
theorem dX0_putKindOfRow_12 : decode cX0_putKindOfRow 12 = .ok (.goto 6, 3) := by decide +kernel
theorem dX0_putKindOfRow_15 : decode cX0_putKindOfRow 15 = .ok (.ldc2_w 110, 3) := by decide +kernel
theorem dX0_putKindOfRow_18 : decode cX0_putKindOfRow 18 = .ok (.iconst 2, 1) := by decide +kernel
theorem dX0_putKindOfRow_19 : decode cX0_putKindOfRow 19 = .ok (.invokevirtual 88, 3) := by decide +kernel
theorem dX0_putKindOfRow_22 : decode cX0_putKindOfRow 22 = .ok (.aload_n 1, 1) := by decide +kernel
theorem dX0_putKindOfRow_23 : decode cX0_putKindOfRow 23 = .ok (.aload_n 0, 1) := by decide +kernel
theorem dX0_putKindOfRow_24 : decode cX0_putKindOfRow 24 = .ok (.invokevirtual 114, 3) := by decide +kernel
theorem dX0_putKindOfRow_27 : decode cX0_putKindOfRow 27 = .ok (.i2l, 1) := by decide +kernel
theorem dX0_putKindOfRow_28 : decode cX0_putKindOfRow 28 = .ok (.iconst 2, 1) := by decide +kernel
theorem dX0_putKindOfRow_29 : decode cX0_putKindOfRow 29 = .ok (.invokevirtual 88, 3) := by decide +kernel
theorem dX0_putKindOfRow_32 : decode cX0_putKindOfRow 32 = .ok (.aload_n 1, 1) := by decide +kernel
theorem dX0_putKindOfRow_33 : decode cX0_putKindOfRow 33 = .ok (.aload_n 0, 1) := by decide +kernel
theorem dX0_putKindOfRow_34 : decode cX0_putKindOfRow 34 = .ok (.invokevirtual 117, 3) := by decide +kernel
theorem dX0_putKindOfRow_37 : decode cX0_putKindOfRow 37 = .ok (.i2l, 1) := by decide +kernel
theorem dX0_putKindOfRow_38 : decode cX0_putKindOfRow 38 = .ok (.iconst 2, 1) := by decide +kernel
theorem dX0_putKindOfRow_39 : decode cX0_putKindOfRow 39 = .ok (.invokevirtual 88, 3) := by decide +kernel
theorem dX0_putKindOfRow_42 : decode cX0_putKindOfRow 42 = .ok (.aload_n 1, 1) := by decide +kernel
theorem dX0_putKindOfRow_43 : decode cX0_putKindOfRow 43 = .ok (.aload_n 0, 1) := by decide +kernel
theorem dX0_putKindOfRow_44 : decode cX0_putKindOfRow 44 = .ok (.getfield 57, 3) := by decide +kernel
theorem dX0_putKindOfRow_47 : decode cX0_putKindOfRow 47 = .ok (.i2l, 1) := by decide +kernel
theorem dX0_putKindOfRow_48 : decode cX0_putKindOfRow 48 = .ok (.iconst 2, 1) := by decide +kernel
theorem dX0_putKindOfRow_49 : decode cX0_putKindOfRow 49 = .ok (.invokevirtual 88, 3) := by decide +kernel
theorem dX0_putKindOfRow_52 : decode cX0_putKindOfRow 52 = .ok (.aload_n 1, 1) := by decide +kernel
theorem dX0_putKindOfRow_53 : decode cX0_putKindOfRow 53 = .ok (.aload_n 0, 1) := by decide +kernel
theorem dX0_putKindOfRow_54 : decode cX0_putKindOfRow 54 = .ok (.getfield 60, 3) := by decide +kernel
theorem dX0_putKindOfRow_57 : decode cX0_putKindOfRow 57 = .ok (.i2l, 1) := by decide +kernel
theorem dX0_putKindOfRow_58 : decode cX0_putKindOfRow 58 = .ok (.iconst 2, 1) := by decide +kernel
theorem dX0_putKindOfRow_59 : decode cX0_putKindOfRow 59 = .ok (.invokevirtual 88, 3) := by decide +kernel
theorem dX0_putKindOfRow_62 : decode cX0_putKindOfRow 62 = .ok (.return_, 1) := by decide +kernel
theorem dX0_putSumAndSizes_0 : decode cX0_putSumAndSizes 0 = .ok (.aload_n 1, 1) := by decide +kernel
theorem dX0_putSumAndSizes_1 : decode cX0_putSumAndSizes 1 = .ok (.aload_n 0, 1) := by decide +kernel
theorem dX0_putSumAndSizes_2 : decode cX0_putSumAndSizes 2 = .ok (.invokevirtual 120, 3) := by decide +kernel
theorem dX0_putSumAndSizes_5 : decode cX0_putSumAndSizes 5 = .ok (.i2l, 1) := by decide +kernel
theorem dX0_putSumAndSizes_6 : decode cX0_putSumAndSizes 6 = .ok (.iconst 4, 1) := by decide +kernel
theorem dX0_putSumAndSizes_7 : decode cX0_putSumAndSizes 7 = .ok (.invokevirtual 88, 3) := by decide +kernel
theorem dX0_putSumAndSizes_10 : decode cX0_putSumAndSizes 10 = .ok (.aload_n 1, 1) := by decide +kernel
theorem dX0_putSumAndSizes_11 : decode cX0_putSumAndSizes 11 = .ok (.aload_n 0, 1) := by decide +kernel
theorem dX0_putSumAndSizes_12 : decode cX0_putSumAndSizes 12 = .ok (.getfield 32, 3) := by decide +kernel
theorem dX0_putSumAndSizes_15 : decode cX0_putSumAndSizes 15 = .ok (.iconst 2, 1) := by decide +kernel
theorem dX0_putSumAndSizes_16 : decode cX0_putSumAndSizes 16 = .ok (.if_icmp .ne 9, 3) := by decide +kernel
theorem dX0_putSumAndSizes_19 : decode cX0_putSumAndSizes 19 = .ok (.ldc2_w 123, 3) := by decide +kernel
theorem dX0_putSumAndSizes_22 : decode cX0_putSumAndSizes 22 = .ok (.goto 8, 3) := by decide +kernel
theorem dX0_putSumAndSizes_25 : decode cX0_putSumAndSizes 25 = .ok (.aload_n 0, 1) := by decide +kernel
theorem dX0_putSumAndSizes_26 : decode cX0_putSumAndSizes 26 = .ok (.getfield 38, 3) := by decide +kernel
theorem dX0_putSumAndSizes_29 : decode cX0_putSumAndSizes 29 = .ok (.i2l, 1) := by decide +kernel
theorem dX0_putSumAndSizes_30 : decode cX0_putSumAndSizes 30 = .ok (.iconst 4, 1) := by decide +kernel
theorem dX0_putSumAndSizes_31 : decode cX0_putSumAndSizes 31 = .ok (.invokevirtual 88, 3) := by decide +kernel
theorem dX0_putSumAndSizes_34 : decode cX0_putSumAndSizes 34 = .ok (.aload_n 1, 1) := by decide +kernel
theorem dX0_putSumAndSizes_35 : decode cX0_putSumAndSizes 35 = .ok (.aload_n 0, 1) := by decide +kernel
theorem dX0_putSumAndSizes_36 : decode cX0_putSumAndSizes 36 = .ok (.getfield 32, 3) := by decide +kernel
theorem dX0_putSumAndSizes_39 : decode cX0_putSumAndSizes 39 = .ok (.iconst 2, 1) := by decide +kernel
theorem dX0_putSumAndSizes_40 : decode cX0_putSumAndSizes 40 = .ok (.if_icmp .ne 9, 3) := by decide +kernel
theorem dX0_putSumAndSizes_43 : decode cX0_putSumAndSizes 43 = .ok (.ldc2_w 123, 3) := by decide +kernel
theorem dX0_putSumAndSizes_46 : decode cX0_putSumAndSizes 46 = .ok (.goto 8, 3) := by decide +kernel
theorem dX0_putSumAndSizes_49 : decode cX0_putSumAndSizes 49 = .ok (.aload_n 0, 1) := by decide +kernel
theorem dX0_putSumAndSizes_50 : decode cX0_putSumAndSizes 50 = .ok (.invokevirtual 125, 3) := by decide +kernel
theorem dX0_putSumAndSizes_53 : decode cX0_putSumAndSizes 53 = .ok (.i2l, 1) := by decide +kernel
theorem dX0_putSumAndSizes_54 : decode cX0_putSumAndSizes 54 = .ok (.iconst 4, 1) := by decide +kernel
theorem dX0_putSumAndSizes_55 : decode cX0_putSumAndSizes 55 = .ok (.invokevirtual 88, 3) := by decide +kernel
theorem dX0_putSumAndSizes_58 : decode cX0_putSumAndSizes 58 = .ok (.return_, 1) := by decide +kernel
theorem dX0_putNameAndExtra_0 : decode cX0_putNameAndExtra 0 = .ok (.aload_n 1, 1) := by decide +kernel
theorem dX0_putNameAndExtra_1 : decode cX0_putNameAndExtra 1 = .ok (.aload_n 0, 1) := by decide +kernel
theorem dX0_putNameAndExtra_2 : decode cX0_putNameAndExtra 2 = .ok (.getfield 9, 3) := by decide +kernel
theorem dX0_putNameAndExtra_5 : decode cX0_putNameAndExtra 5 = .ok (.iconst 0, 1) := by decide +kernel
theorem dX0_putNameAndExtra_6 : decode cX0_putNameAndExtra 6 = .ok (.aload_n 0, 1) := by decide +kernel
theorem dX0_putNameAndExtra_7 : decode cX0_putNameAndExtra 7 = .ok (.getfield 35, 3) := by decide +kernel
theorem dX0_putNameAndExtra_10 : decode cX0_putNameAndExtra 10 = .ok (.invokevirtual 102, 3) := by decide +kernel
theorem dX0_putNameAndExtra_13 : decode cX0_putNameAndExtra 13 = .ok (.aload_n 0, 1) := by decide +kernel
theorem dX0_putNameAndExtra_14 : decode cX0_putNameAndExtra 14 = .ok (.getfield 32, 3) := by decide +kernel
theorem dX0_putNameAndExtra_17 : decode cX0_putNameAndExtra 17 = .ok (.iconst 2, 1) := by decide +kernel
theorem dX0_putNameAndExtra_18 : decode cX0_putNameAndExtra 18 = .ok (.if_icmp .ne 39, 3) := by decide +kernel
theorem dX0_putNameAndExtra_21 : decode cX0_putNameAndExtra 21 = .ok (.aload_n 1, 1) := by decide +kernel
theorem dX0_putNameAndExtra_22 : decode cX0_putNameAndExtra 22 = .ok (.lconst 1, 1) := by decide +kernel
theorem dX0_putNameAndExtra_23 : decode cX0_putNameAndExtra 23 = .ok (.iconst 2, 1) := by decide +kernel
theorem dX0_putNameAndExtra_24 : decode cX0_putNameAndExtra 24 = .ok (.invokevirtual 88, 3) := by decide +kernel
theorem dX0_putNameAndExtra_27 : decode cX0_putNameAndExtra 27 = .ok (.aload_n 1, 1) := by decide +kernel
theorem dX0_putNameAndExtra_28 : decode cX0_putNameAndExtra 28 = .ok (.ldc2_w 128, 3) := by decide +kernel
theorem dX0_putNameAndExtra_31 : decode cX0_putNameAndExtra 31 = .ok (.iconst 2, 1) := by decide +kernel
theorem dX0_putNameAndExtra_32 : decode cX0_putNameAndExtra 32 = .ok (.invokevirtual 88, 3) := by decide +kernel
theorem dX0_putNameAndExtra_35 : decode cX0_putNameAndExtra 35 = .ok (.aload_n 1, 1) := by decide +kernel
theorem dX0_putNameAndExtra_36 : decode cX0_putNameAndExtra 36 = .ok (.aload_n 0, 1) := by decide +kernel
theorem dX0_putNameAndExtra_37 : decode cX0_putNameAndExtra 37 = .ok (.invokevirtual 125, 3) := by decide +kernel
theorem dX0_putNameAndExtra_40 : decode cX0_putNameAndExtra 40 = .ok (.i2l, 1) := by decide +kernel
theorem dX0_putNameAndExtra_41 : decode cX0_putNameAndExtra 41 = .ok (.bipush 8, 2) := by decide +kernel
theorem dX0_putNameAndExtra_43 : decode cX0_putNameAndExtra 43 = .ok (.invokevirtual 88, 3) := by decide +kernel
theorem dX0_putNameAndExtra_46 : decode cX0_putNameAndExtra 46 = .ok (.aload_n 1, 1) := by decide +kernel
theorem dX0_putNameAndExtra_47 : decode cX0_putNameAndExtra 47 = .ok (.aload_n 0, 1) := by decide +kernel
theorem dX0_putNameAndExtra_48 : decode cX0_putNameAndExtra 48 = .ok (.getfield 38, 3) := by decide +kernel
theorem dX0_putNameAndExtra_51 : decode cX0_putNameAndExtra 51 = .ok (.i2l, 1) := by decide +kernel
theorem dX0_putNameAndExtra_52 : decode cX0_putNameAndExtra 52 = .ok (.bipush 8, 2) := by decide +kernel
theorem dX0_putNameAndExtra_54 : decode cX0_putNameAndExtra 54 = .ok (.invokevirtual 88, 3) := by decide +kernel
theorem dX0_putNameAndExtra_57 : decode cX0_putNameAndExtra 57 = .ok (.iconst 0, 1) := by decide +kernel
theorem dX0_putNameAndExtra_58 : decode cX0_putNameAndExtra 58 = .ok (.istore_n 2, 1) := by decide +kernel
theorem dX0_putNameAndExtra_59 : decode cX0_putNameAndExtra 59 = .ok (.iload_n 2, 1) := by decide +kernel
theorem dX0_putNameAndExtra_60 : decode cX0_putNameAndExtra 60 = .ok (.aload_n 0, 1) := by decide +kernel
theorem dX0_putNameAndExtra_61 : decode cX0_putNameAndExtra 61 = .ok (.getfield 41, 3) := by decide +kernel
theorem dX0_putNameAndExtra_64 : decode cX0_putNameAndExtra 64 = .ok (.if_icmp .ge 56, 3) := by decide +kernel
theorem dX0_putNameAndExtra_67 : decode cX0_putNameAndExtra 67 = .ok (.iload_n 2, 1) := by decide +kernel
theorem dX0_putNameAndExtra_68 : decode cX0_putNameAndExtra 68 = .ok (.iconst 3, 1) := by decide +kernel
theorem dX0_putNameAndExtra_69 : decode cX0_putNameAndExtra 69 = .ok (.if_icmp .ge 51, 3) := by decide +kernel
theorem dX0_putNameAndExtra_72 : decode cX0_putNameAndExtra 72 = .ok (.aload_n 1, 1) := by decide +kernel
theorem dX0_putNameAndExtra_73 : decode cX0_putNameAndExtra 73 = .ok (.aload_n 0, 1) := by decide +kernel
theorem dX0_putNameAndExtra_74 : decode cX0_putNameAndExtra 74 = .ok (.getfield 18, 3) := by decide +kernel
theorem dX0_putNameAndExtra_77 : decode cX0_putNameAndExtra 77 = .ok (.iload_n 2, 1) := by decide +kernel
theorem dX0_putNameAndExtra_78 : decode cX0_putNameAndExtra 78 = .ok (.iaload, 1) := by decide +kernel
theorem dX0_putNameAndExtra_79 : decode cX0_putNameAndExtra 79 = .ok (.i2l, 1) := by decide +kernel
theorem dX0_putNameAndExtra_80 : decode cX0_putNameAndExtra 80 = .ok (.iconst 2, 1) := by decide +kernel
theorem dX0_putNameAndExtra_81 : decode cX0_putNameAndExtra 81 = .ok (.invokevirtual 88, 3) := by decide +kernel
theorem dX0_putNameAndExtra_84 : decode cX0_putNameAndExtra 84 = .ok (.aload_n 1, 1) := by decide +kernel
theorem dX0_putNameAndExtra_85 : decode cX0_putNameAndExtra 85 = .ok (.aload_n 0, 1) := by decide +kernel
theorem dX0_putNameAndExtra_86 : decode cX0_putNameAndExtra 86 = .ok (.getfield 22, 3) := by decide +kernel
theorem dX0_putNameAndExtra_89 : decode cX0_putNameAndExtra 89 = .ok (.iload_n 2, 1) := by decide +kernel
theorem dX0_putNameAndExtra_90 : decode cX0_putNameAndExtra 90 = .ok (.iaload, 1) := by decide +kernel
theorem dX0_putNameAndExtra_91 : decode cX0_putNameAndExtra 91 = .ok (.i2l, 1) := by decide +kernel
theorem dX0_putNameAndExtra_92 : decode cX0_putNameAndExtra 92 = .ok (.iconst 2, 1) := by decide +kernel
theorem dX0_putNameAndExtra_93 : decode cX0_putNameAndExtra 93 = .ok (.invokevirtual 88, 3) := by decide +kernel
theorem dX0_putNameAndExtra_96 : decode cX0_putNameAndExtra 96 = .ok (.aload_n 1, 1) := by decide +kernel
theorem dX0_putNameAndExtra_97 : decode cX0_putNameAndExtra 97 = .ok (.aload_n 0, 1) := by decide +kernel
theorem dX0_putNameAndExtra_98 : decode cX0_putNameAndExtra 98 = .ok (.getfield 25, 3) := by decide +kernel
theorem dX0_putNameAndExtra_101 : decode cX0_putNameAndExtra 101 = .ok (.iload_n 2, 1) := by decide +kernel
theorem dX0_putNameAndExtra_102 : decode cX0_putNameAndExtra 102 = .ok (.bipush 8, 2) := by decide +kernel
theorem dX0_putNameAndExtra_104 : decode cX0_putNameAndExtra 104 = .ok (.imul, 1) := by decide +kernel
theorem dX0_putNameAndExtra_105 : decode cX0_putNameAndExtra 105 = .ok (.aload_n 0, 1) := by decide +kernel
theorem dX0_putNameAndExtra_106 : decode cX0_putNameAndExtra 106 = .ok (.getfield 22, 3) := by decide +kernel
theorem dX0_putNameAndExtra_109 : decode cX0_putNameAndExtra 109 = .ok (.iload_n 2, 1) := by decide +kernel
theorem dX0_putNameAndExtra_110 : decode cX0_putNameAndExtra 110 = .ok (.iaload, 1) := by decide +kernel
theorem dX0_putNameAndExtra_111 : decode cX0_putNameAndExtra 111 = .ok (.invokevirtual 102, 3) := by decide +kernel
theorem dX0_putNameAndExtra_114 : decode cX0_putNameAndExtra 114 = .ok (.iinc 2 1, 3) := by decide +kernel
theorem dX0_putNameAndExtra_117 : decode cX0_putNameAndExtra 117 = .ok (.goto (-58), 3) := by decide +kernel
theorem dX0_putNameAndExtra_120 : decode cX0_putNameAndExtra 120 = .ok (.return_, 1) := by decide +kernel
theorem dX0_takeFrom_0 : decode cX0_takeFrom 0 = .ok (.aload_n 0, 1) := by decide +kernel
theorem dX0_takeFrom_1 : decode cX0_takeFrom 1 = .ok (.aload_n 1, 1) := by decide +kernel
theorem dX0_takeFrom_2 : decode cX0_takeFrom 2 = .ok (.invokevirtual 130, 3) := by decide +kernel
theorem dX0_takeFrom_5 : decode cX0_takeFrom 5 = .ok (.aload_n 1, 1) := by decide +kernel
theorem dX0_takeFrom_6 : decode cX0_takeFrom 6 = .ok (.invokevirtual 134, 3) := by decide +kernel
theorem dX0_takeFrom_9 : decode cX0_takeFrom 9 = .ok (.invokevirtual 136, 3) := by decide +kernel
theorem dX0_takeFrom_12 : decode cX0_takeFrom 12 = .ok (.aload_n 0, 1) := by decide +kernel
theorem dX0_takeFrom_13 : decode cX0_takeFrom 13 = .ok (.aload_n 1, 1) := by decide +kernel
theorem dX0_takeFrom_14 : decode cX0_takeFrom 14 = .ok (.getfield 140, 3) := by decide +kernel
theorem dX0_takeFrom_17 : decode cX0_takeFrom 17 = .ok (.putfield 35, 3) := by decide +kernel
theorem dX0_takeFrom_20 : decode cX0_takeFrom 20 = .ok (.aload_n 2, 1) := by decide +kernel
theorem dX0_takeFrom_21 : decode cX0_takeFrom 21 = .ok (.aload_n 1, 1) := by decide +kernel
theorem dX0_takeFrom_22 : decode cX0_takeFrom 22 = .ok (.invokevirtual 143, 3) := by decide +kernel
theorem dX0_takeFrom_25 : decode cX0_takeFrom 25 = .ok (.aload_n 0, 1) := by decide +kernel
theorem dX0_takeFrom_26 : decode cX0_takeFrom 26 = .ok (.getfield 35, 3) := by decide +kernel
theorem dX0_takeFrom_29 : decode cX0_takeFrom 29 = .ok (.aload_n 0, 1) := by decide +kernel
theorem dX0_takeFrom_30 : decode cX0_takeFrom 30 = .ok (.getfield 9, 3) := by decide +kernel
theorem dX0_takeFrom_33 : decode cX0_takeFrom 33 = .ok (.iconst 0, 1) := by decide +kernel
theorem dX0_takeFrom_34 : decode cX0_takeFrom 34 = .ok (.invokevirtual 146, 3) := by decide +kernel
theorem dX0_takeFrom_37 : decode cX0_takeFrom 37 = .ok (.aload_n 0, 1) := by decide +kernel
theorem dX0_takeFrom_38 : decode cX0_takeFrom 38 = .ok (.aload_n 1, 1) := by decide +kernel
theorem dX0_takeFrom_39 : decode cX0_takeFrom 39 = .ok (.getfield 150, 3) := by decide +kernel
theorem dX0_takeFrom_42 : decode cX0_takeFrom 42 = .ok (.putfield 57, 3) := by decide +kernel
theorem dX0_takeFrom_45 : decode cX0_takeFrom 45 = .ok (.aload_n 0, 1) := by decide +kernel
theorem dX0_takeFrom_46 : decode cX0_takeFrom 46 = .ok (.aload_n 1, 1) := by decide +kernel
theorem dX0_takeFrom_47 : decode cX0_takeFrom 47 = .ok (.getfield 151, 3) := by decide +kernel
theorem dX0_takeFrom_50 : decode cX0_takeFrom 50 = .ok (.putfield 60, 3) := by decide +kernel
theorem dX0_takeFrom_53 : decode cX0_takeFrom 53 = .ok (.aload_n 0, 1) := by decide +kernel
theorem dX0_takeFrom_54 : decode cX0_takeFrom 54 = .ok (.aload_n 1, 1) := by decide +kernel
theorem dX0_takeFrom_55 : decode cX0_takeFrom 55 = .ok (.getfield 152, 3) := by decide +kernel
theorem dX0_takeFrom_58 : decode cX0_takeFrom 58 = .ok (.putfield 63, 3) := by decide +kernel
theorem dX0_takeFrom_61 : decode cX0_takeFrom 61 = .ok (.aload_n 0, 1) := by decide +kernel
theorem dX0_takeFrom_62 : decode cX0_takeFrom 62 = .ok (.aload_n 1, 1) := by decide +kernel
theorem dX0_takeFrom_63 : decode cX0_takeFrom 63 = .ok (.getfield 153, 3) := by decide +kernel
theorem dX0_takeFrom_66 : decode cX0_takeFrom 66 = .ok (.l2i, 1) := by decide +kernel
theorem dX0_takeFrom_67 : decode cX0_takeFrom 67 = .ok (.putfield 66, 3) := by decide +kernel
theorem dX0_takeFrom_70 : decode cX0_takeFrom 70 = .ok (.aload_n 0, 1) := by decide +kernel
theorem dX0_takeFrom_71 : decode cX0_takeFrom 71 = .ok (.aload_n 1, 1) := by decide +kernel
theorem dX0_takeFrom_72 : decode cX0_takeFrom 72 = .ok (.aload_n 2, 1) := by decide +kernel
theorem dX0_takeFrom_73 : decode cX0_takeFrom 73 = .ok (.invokevirtual 156, 3) := by decide +kernel
theorem dX0_takeFrom_76 : decode cX0_takeFrom 76 = .ok (.aload_n 0, 1) := by decide +kernel
theorem dX0_takeFrom_77 : decode cX0_takeFrom 77 = .ok (.getfield 28, 3) := by decide +kernel
theorem dX0_takeFrom_80 : decode cX0_takeFrom 80 = .ok (.iconst 2, 1) := by decide +kernel
theorem dX0_takeFrom_81 : decode cX0_takeFrom 81 = .ok (.if_icmp .ne 4, 3) := by decide +kernel
theorem dX0_takeFrom_84 : decode cX0_takeFrom 84 = .ok (.return_, 1) := by decide +kernel
theorem dX0_takeFrom_85 : decode cX0_takeFrom 85 = .ok (.aload_n 0, 1) := by decide +kernel
theorem dX0_takeFrom_86 : decode cX0_takeFrom 86 = .ok (.iconst 1, 1) := by decide +kernel
theorem dX0_takeFrom_87 : decode cX0_takeFrom 87 = .ok (.putfield 44, 3) := by decide +kernel
theorem dX0_takeFrom_90 : decode cX0_takeFrom 90 = .ok (.aload_n 0, 1) := by decide +kernel
theorem dX0_takeFrom_91 : decode cX0_takeFrom 91 = .ok (.aload_n 1, 1) := by decide +kernel
theorem dX0_takeFrom_92 : decode cX0_takeFrom 92 = .ok (.getfield 160, 3) := by decide +kernel
theorem dX0_takeFrom_95 : decode cX0_takeFrom 95 = .ok (.l2i, 1) := by decide +kernel
theorem dX0_takeFrom_96 : decode cX0_takeFrom 96 = .ok (.putfield 38, 3) := by decide +kernel
theorem dX0_takeFrom_99 : decode cX0_takeFrom 99 = .ok (.aload_n 2, 1) := by decide +kernel
theorem dX0_takeFrom_100 : decode cX0_takeFrom 100 = .ok (.aload_n 1, 1) := by decide +kernel
theorem dX0_takeFrom_101 : decode cX0_takeFrom 101 = .ok (.invokevirtual 163, 3) := by decide +kernel
theorem dX0_takeFrom_104 : decode cX0_takeFrom 104 = .ok (.aload_n 0, 1) := by decide +kernel
theorem dX0_takeFrom_105 : decode cX0_takeFrom 105 = .ok (.getfield 38, 3) := by decide +kernel
theorem dX0_takeFrom_108 : decode cX0_takeFrom 108 = .ok (.aload_n 0, 1) := by decide +kernel
theorem dX0_takeFrom_109 : decode cX0_takeFrom 109 = .ok (.getfield 15, 3) := by decide +kernel
theorem dX0_takeFrom_112 : decode cX0_takeFrom 112 = .ok (.iconst 0, 1) := by decide +kernel
theorem dX0_takeFrom_113 : decode cX0_takeFrom 113 = .ok (.invokevirtual 146, 3) := by decide +kernel
theorem dX0_takeFrom_116 : decode cX0_takeFrom 116 = .ok (.aload_n 0, 1) := by decide +kernel
theorem dX0_takeFrom_117 : decode cX0_takeFrom 117 = .ok (.iconst 1, 1) := by decide +kernel
theorem dX0_takeFrom_118 : decode cX0_takeFrom 118 = .ok (.putfield 48, 3) := by decide +kernel
theorem dX0_takeFrom_121 : decode cX0_takeFrom 121 = .ok (.aload_n 0, 1) := by decide +kernel
theorem dX0_takeFrom_122 : decode cX0_takeFrom 122 = .ok (.aload_n 1, 1) := by decide +kernel
theorem dX0_takeFrom_123 : decode cX0_takeFrom 123 = .ok (.getfield 166, 3) := by decide +kernel
theorem dX0_takeFrom_126 : decode cX0_takeFrom 126 = .ok (.l2i, 1) := by decide +kernel
theorem dX0_takeFrom_127 : decode cX0_takeFrom 127 = .ok (.putfield 54, 3) := by decide +kernel
theorem dX0_takeFrom_130 : decode cX0_takeFrom 130 = .ok (.aload_n 0, 1) := by decide +kernel
theorem dX0_takeFrom_131 : decode cX0_takeFrom 131 = .ok (.aload_n 0, 1) := by decide +kernel
theorem dX0_takeFrom_132 : decode cX0_takeFrom 132 = .ok (.getfield 28, 3) := by decide +kernel
theorem dX0_takeFrom_135 : decode cX0_takeFrom 135 = .ok (.iconst 1, 1) := by decide +kernel
theorem dX0_takeFrom_136 : decode cX0_takeFrom 136 = .ok (.if_icmp .ne 11, 3) := by decide +kernel
theorem dX0_takeFrom_139 : decode cX0_takeFrom 139 = .ok (.aload_n 1, 1) := by decide +kernel
theorem dX0_takeFrom_140 : decode cX0_takeFrom 140 = .ok (.getfield 169, 3) := by decide +kernel
theorem dX0_takeFrom_143 : decode cX0_takeFrom 143 = .ok (.l2i, 1) := by decide +kernel
theorem dX0_takeFrom_144 : decode cX0_takeFrom 144 = .ok (.goto 4, 3) := by decide +kernel
theorem dX0_takeFrom_147 : decode cX0_takeFrom 147 = .ok (.iconst 0, 1) := by decide +kernel
theorem dX0_takeFrom_148 : decode cX0_takeFrom 148 = .ok (.putfield 51, 3) := by decide +kernel
theorem dX0_takeFrom_151 : decode cX0_takeFrom 151 = .ok (.return_, 1) := by decide +kernel
theorem dX0_takeParts_0 : decode cX0_takeParts 0 = .ok (.aload_n 1, 1) := by decide +kernel
theorem dX0_takeParts_1 : decode cX0_takeParts 1 = .ok (.getfield 171, 3) := by decide +kernel
theorem dX0_takeParts_4 : decode cX0_takeParts 4 = .ok (.istore_n 3, 1) := by decide +kernel
theorem dX0_takeParts_5 : decode cX0_takeParts 5 = .ok (.aload_n 0, 1) := by decide +kernel
theorem dX0_takeParts_6 : decode cX0_takeParts 6 = .ok (.aload_n 1, 1) := by decide +kernel
theorem dX0_takeParts_7 : decode cX0_takeParts 7 = .ok (.getfield 174, 3) := by decide +kernel
theorem dX0_takeParts_10 : decode cX0_takeParts 10 = .ok (.putfield 41, 3) := by decide +kernel
theorem dX0_takeParts_13 : decode cX0_takeParts 13 = .ok (.iconst 0, 1) := by decide +kernel
theorem dX0_takeParts_14 : decode cX0_takeParts 14 = .ok (.istore 4, 2) := by decide +kernel
theorem dX0_takeParts_16 : decode cX0_takeParts 16 = .ok (.iload 4, 2) := by decide +kernel
theorem dX0_takeParts_18 : decode cX0_takeParts 18 = .ok (.aload_n 0, 1) := by decide +kernel
theorem dX0_takeParts_19 : decode cX0_takeParts 19 = .ok (.getfield 41, 3) := by decide +kernel
theorem dX0_takeParts_22 : decode cX0_takeParts 22 = .ok (.if_icmp .ge 76, 3) := by decide +kernel
theorem dX0_takeParts_25 : decode cX0_takeParts 25 = .ok (.iload 4, 2) := by decide +kernel
theorem dX0_takeParts_27 : decode cX0_takeParts 27 = .ok (.iconst 3, 1) := by decide +kernel
theorem dX0_takeParts_28 : decode cX0_takeParts 28 = .ok (.if_icmp .ge 70, 3) := by decide +kernel
theorem dX0_takeParts_31 : decode cX0_takeParts 31 = .ok (.aload_n 0, 1) := by decide +kernel
theorem dX0_takeParts_32 : decode cX0_takeParts 32 = .ok (.getfield 18, 3) := by decide +kernel
theorem dX0_takeParts_35 : decode cX0_takeParts 35 = .ok (.iload 4, 2) := by decide +kernel
theorem dX0_takeParts_37 : decode cX0_takeParts 37 = .ok (.aload_n 2, 1) := by decide +kernel
theorem dX0_takeParts_38 : decode cX0_takeParts 38 = .ok (.iload_n 3, 1) := by decide +kernel
theorem dX0_takeParts_39 : decode cX0_takeParts 39 = .ok (.invokevirtual 175, 3) := by decide +kernel
theorem dX0_takeParts_42 : decode cX0_takeParts 42 = .ok (.iastore, 1) := by decide +kernel
theorem dX0_takeParts_43 : decode cX0_takeParts 43 = .ok (.aload_n 0, 1) := by decide +kernel
theorem dX0_takeParts_44 : decode cX0_takeParts 44 = .ok (.getfield 22, 3) := by decide +kernel
theorem dX0_takeParts_47 : decode cX0_takeParts 47 = .ok (.iload 4, 2) := by decide +kernel
theorem dX0_takeParts_49 : decode cX0_takeParts 49 = .ok (.aload_n 2, 1) := by decide +kernel
theorem dX0_takeParts_50 : decode cX0_takeParts 50 = .ok (.iload_n 3, 1) := by decide +kernel
theorem dX0_takeParts_51 : decode cX0_takeParts 51 = .ok (.iconst 2, 1) := by decide +kernel
theorem dX0_takeParts_52 : decode cX0_takeParts 52 = .ok (.iadd, 1) := by decide +kernel
theorem dX0_takeParts_53 : decode cX0_takeParts 53 = .ok (.invokevirtual 175, 3) := by decide +kernel
theorem dX0_takeParts_56 : decode cX0_takeParts 56 = .ok (.iastore, 1) := by decide +kernel
theorem dX0_takeParts_57 : decode cX0_takeParts 57 = .ok (.aload_n 2, 1) := by decide +kernel
theorem dX0_takeParts_58 : decode cX0_takeParts 58 = .ok (.iload_n 3, 1) := by decide +kernel
theorem dX0_takeParts_59 : decode cX0_takeParts 59 = .ok (.iconst 4, 1) := by decide +kernel
theorem dX0_takeParts_60 : decode cX0_takeParts 60 = .ok (.iadd, 1) := by decide +kernel
theorem dX0_takeParts_61 : decode cX0_takeParts 61 = .ok (.aload_n 0, 1) := by decide +kernel
theorem dX0_takeParts_62 : decode cX0_takeParts 62 = .ok (.getfield 22, 3) := by decide +kernel
theorem dX0_takeParts_65 : decode cX0_takeParts 65 = .ok (.iload 4, 2) := by decide +kernel
theorem dX0_takeParts_67 : decode cX0_takeParts 67 = .ok (.iaload, 1) := by decide +kernel
theorem dX0_takeParts_68 : decode cX0_takeParts 68 = .ok (.aload_n 0, 1) := by decide +kernel
theorem dX0_takeParts_69 : decode cX0_takeParts 69 = .ok (.getfield 25, 3) := by decide +kernel
theorem dX0_takeParts_72 : decode cX0_takeParts 72 = .ok (.iload 4, 2) := by decide +kernel
theorem dX0_takeParts_74 : decode cX0_takeParts 74 = .ok (.bipush 8, 2) := by decide +kernel
theorem dX0_takeParts_76 : decode cX0_takeParts 76 = .ok (.imul, 1) := by decide +kernel
theorem dX0_takeParts_77 : decode cX0_takeParts 77 = .ok (.invokevirtual 146, 3) := by decide +kernel
theorem dX0_takeParts_80 : decode cX0_takeParts 80 = .ok (.iload_n 3, 1) := by decide +kernel
theorem dX0_takeParts_81 : decode cX0_takeParts 81 = .ok (.iconst 4, 1) := by decide +kernel
theorem dX0_takeParts_82 : decode cX0_takeParts 82 = .ok (.aload_n 0, 1) := by decide +kernel
theorem dX0_takeParts_83 : decode cX0_takeParts 83 = .ok (.getfield 22, 3) := by decide +kernel
theorem dX0_takeParts_86 : decode cX0_takeParts 86 = .ok (.iload 4, 2) := by decide +kernel
theorem dX0_takeParts_88 : decode cX0_takeParts 88 = .ok (.iaload, 1) := by decide +kernel
theorem dX0_takeParts_89 : decode cX0_takeParts 89 = .ok (.iadd, 1) := by decide +kernel
theorem dX0_takeParts_90 : decode cX0_takeParts 90 = .ok (.iadd, 1) := by decide +kernel
theorem dX0_takeParts_91 : decode cX0_takeParts 91 = .ok (.istore_n 3, 1) := by decide +kernel
theorem dX0_takeParts_92 : decode cX0_takeParts 92 = .ok (.iinc 4 1, 3) := by decide +kernel
theorem dX0_takeParts_95 : decode cX0_takeParts 95 = .ok (.goto (-79), 3) := by decide +kernel
theorem dX0_takeParts_98 : decode cX0_takeParts 98 = .ok (.return_, 1) := by decide +kernel
theorem dX1_init_0 : decode cX1_init 0 = .ok (.aload_n 0, 1) := by decide +kernel
theorem dX1_init_1 : decode cX1_init 1 = .ok (.invokespecial 3, 3) := by decide +kernel
theorem dX1_init_4 : decode cX1_init 4 = .ok (.aload_n 0, 1) := by decide +kernel
theorem dX1_init_5 : decode cX1_init 5 = .ok (.bipush 12, 2) := by decide +kernel
theorem dX1_init_7 : decode cX1_init 7 = .ok (.anewarray 9, 3) := by decide +kernel
theorem dX1_init_10 : decode cX1_init 10 = .ok (.putfield 11, 3) := by decide +kernel
theorem dX1_init_13 : decode cX1_init 13 = .ok (.aload_n 0, 1) := by decide +kernel
theorem dX1_init_14 : decode cX1_init 14 = .ok (.iconst 0, 1) := by decide +kernel
theorem dX1_init_15 : decode cX1_init 15 = .ok (.putfield 17, 3) := by decide +kernel
theorem dX1_init_18 : decode cX1_init 18 = .ok (.aload_n 0, 1) := by decide +kernel
theorem dX1_init_19 : decode cX1_init 19 = .ok (.iconst 0, 1) := by decide +kernel
theorem dX1_init_20 : decode cX1_init 20 = .ok (.putfield 21, 3) := by decide +kernel
theorem dX1_init_23 : decode cX1_init 23 = .ok (.aload_n 0, 1) := by decide +kernel
theorem dX1_init_24 : decode cX1_init 24 = .ok (.iconst 0, 1) := by decide +kernel
theorem dX1_init_25 : decode cX1_init 25 = .ok (.putfield 24, 3) := by decide +kernel
theorem dX1_init_28 : decode cX1_init 28 = .ok (.aload_n 0, 1) := by decide +kernel
theorem dX1_init_29 : decode cX1_init 29 = .ok (.iconst 0, 1) := by decide +kernel
theorem dX1_init_30 : decode cX1_init 30 = .ok (.putfield 27, 3) := by decide +kernel
theorem dX1_init_33 : decode cX1_init 33 = .ok (.aload_n 0, 1) := by decide +kernel
theorem dX1_init_34 : decode cX1_init 34 = .ok (.iconst 0, 1) := by decide +kernel
theorem dX1_init_35 : decode cX1_init 35 = .ok (.putfield 30, 3) := by decide +kernel
theorem dX1_init_38 : decode cX1_init 38 = .ok (.aload_n 0, 1) := by decide +kernel
theorem dX1_init_39 : decode cX1_init 39 = .ok (.iconst 0, 1) := by decide +kernel
theorem dX1_init_40 : decode cX1_init 40 = .ok (.putfield 33, 3) := by decide +kernel
theorem dX1_init_43 : decode cX1_init 43 = .ok (.aload_n 0, 1) := by decide +kernel
theorem dX1_init_44 : decode cX1_init 44 = .ok (.iconst (-1), 1) := by decide +kernel
theorem dX1_init_45 : decode cX1_init 45 = .ok (.putfield 36, 3) := by decide +kernel
theorem dX1_init_48 : decode cX1_init 48 = .ok (.aload_n 0, 1) := by decide +kernel
theorem dX1_init_49 : decode cX1_init 49 = .ok (.aload_n 1, 1) := by decide +kernel
theorem dX1_init_50 : decode cX1_init 50 = .ok (.putfield 39, 3) := by decide +kernel
theorem dX1_init_53 : decode cX1_init 53 = .ok (.iconst 0, 1) := by decide +kernel
theorem dX1_init_54 : decode cX1_init 54 = .ok (.istore_n 2, 1) := by decide +kernel
theorem dX1_init_55 : decode cX1_init 55 = .ok (.iload_n 2, 1) := by decide +kernel
theorem dX1_init_56 : decode cX1_init 56 = .ok (.bipush 12, 2) := by decide +kernel
theorem dX1_init_58 : decode cX1_init 58 = .ok (.if_icmp .ge 22, 3) := by decide +kernel
theorem dX1_init_61 : decode cX1_init 61 = .ok (.aload_n 0, 1) := by decide +kernel
theorem dX1_init_62 : decode cX1_init 62 = .ok (.getfield 11, 3) := by decide +kernel
theorem dX1_init_65 : decode cX1_init 65 = .ok (.iload_n 2, 1) := by decide +kernel
theorem dX1_init_66 : decode cX1_init 66 = .ok (.new 9, 3) := by decide +kernel
theorem dX1_init_69 : decode cX1_init 69 = .ok (.dup, 1) := by decide +kernel
theorem dX1_init_70 : decode cX1_init 70 = .ok (.invokespecial 43, 3) := by decide +kernel
theorem dX1_init_73 : decode cX1_init 73 = .ok (.aastore, 1) := by decide +kernel
theorem dX1_init_74 : decode cX1_init 74 = .ok (.iinc 2 1, 3) := by decide +kernel
theorem dX1_init_77 : decode cX1_init 77 = .ok (.goto (-22), 3) := by decide +kernel
theorem dX1_init_80 : decode cX1_init 80 = .ok (.return_, 1) := by decide +kernel
theorem dX1_isWhole_0 : decode cX1_isWhole 0 = .ok (.aload_n 0, 1) := by decide +kernel
theorem dX1_isWhole_1 : decode cX1_isWhole 1 = .ok (.invokevirtual 44, 3) := by decide +kernel
theorem dX1_isWhole_4 : decode cX1_isWhole 4 = .ok (.ifCond .eq 17, 3) := by decide +kernel
theorem dX1_isWhole_7 : decode cX1_isWhole 7 = .ok (.aload_n 0, 1) := by decide +kernel
theorem dX1_isWhole_8 : decode cX1_isWhole 8 = .ok (.invokevirtual 48, 3) := by decide +kernel
theorem dX1_isWhole_11 : decode cX1_isWhole 11 = .ok (.ifCond .eq 10, 3) := by decide +kernel
theorem dX1_isWhole_14 : decode cX1_isWhole 14 = .ok (.aload_n 0, 1) := by decide +kernel
theorem dX1_isWhole_15 : decode cX1_isWhole 15 = .ok (.invokevirtual 51, 3) := by decide +kernel
theorem dX1_isWhole_18 : decode cX1_isWhole 18 = .ok (.ifCond .ne 5, 3) := by decide +kernel
theorem dX1_isWhole_21 : decode cX1_isWhole 21 = .ok (.iconst 0, 1) := by decide +kernel
theorem dX1_isWhole_22 : decode cX1_isWhole 22 = .ok (.ireturn, 1) := by decide +kernel
theorem dX1_isWhole_23 : decode cX1_isWhole 23 = .ok (.iconst 0, 1) := by decide +kernel
theorem dX1_isWhole_24 : decode cX1_isWhole 24 = .ok (.istore_n 1, 1) := by decide +kernel
theorem dX1_isWhole_25 : decode cX1_isWhole 25 = .ok (.iload_n 1, 1) := by decide +kernel
theorem dX1_isWhole_26 : decode cX1_isWhole 26 = .ok (.aload_n 0, 1) := by decide +kernel
theorem dX1_isWhole_27 : decode cX1_isWhole 27 = .ok (.getfield 17, 3) := by decide +kernel
theorem dX1_isWhole_30 : decode cX1_isWhole 30 = .ok (.if_icmp .ge 25, 3) := by decide +kernel
theorem dX1_isWhole_33 : decode cX1_isWhole 33 = .ok (.iload_n 1, 1) := by decide +kernel
theorem dX1_isWhole_34 : decode cX1_isWhole 34 = .ok (.bipush 12, 2) := by decide +kernel
theorem dX1_isWhole_36 : decode cX1_isWhole 36 = .ok (.if_icmp .ge 19, 3) := by decide +kernel
theorem dX1_isWhole_39 : decode cX1_isWhole 39 = .ok (.aload_n 0, 1) := by decide +kernel
theorem dX1_isWhole_40 : decode cX1_isWhole 40 = .ok (.iload_n 1, 1) := by decide +kernel
theorem dX1_isWhole_41 : decode cX1_isWhole 41 = .ok (.invokevirtual 54, 3) := by decide +kernel
theorem dX1_isWhole_44 : decode cX1_isWhole 44 = .ok (.ifCond .ne 5, 3) := by decide +kernel
theorem dX1_isWhole_47 : decode cX1_isWhole 47 = .ok (.iconst 0, 1) := by decide +kernel
theorem dX1_isWhole_48 : decode cX1_isWhole 48 = .ok (.ireturn, 1) := by decide +kernel
theorem dX1_isWhole_49 : decode cX1_isWhole 49 = .ok (.iinc 1 1, 3) := by decide +kernel
theorem dX1_isWhole_52 : decode cX1_isWhole 52 = .ok (.goto (-27), 3) := by decide +kernel
theorem dX1_isWhole_55 : decode cX1_isWhole 55 = .ok (.iconst 1, 1) := by decide +kernel
theorem dX1_isWhole_56 : decode cX1_isWhole 56 = .ok (.ireturn, 1) := by decide +kernel
theorem dX1_fail_0 : decode cX1_fail 0 = .ok (.aload_n 0, 1) := by decide +kernel
theorem dX1_fail_1 : decode cX1_fail 1 = .ok (.iload_n 1, 1) := by decide +kernel
theorem dX1_fail_2 : decode cX1_fail 2 = .ok (.putfield 33, 3) := by decide +kernel
theorem dX1_fail_5 : decode cX1_fail 5 = .ok (.aload_n 0, 1) := by decide +kernel
theorem dX1_fail_6 : decode cX1_fail 6 = .ok (.iload_n 2, 1) := by decide +kernel
theorem dX1_fail_7 : decode cX1_fail 7 = .ok (.putfield 36, 3) := by decide +kernel
theorem dX1_fail_10 : decode cX1_fail 10 = .ok (.iconst 0, 1) := by decide +kernel
theorem dX1_fail_11 : decode cX1_fail 11 = .ok (.ireturn, 1) := by decide +kernel
theorem dX1_findEnd_0 : decode cX1_findEnd 0 = .ok (.iconst 0, 1) := by decide +kernel
theorem dX1_findEnd_1 : decode cX1_findEnd 1 = .ok (.istore_n 1, 1) := by decide +kernel
theorem dX1_findEnd_2 : decode cX1_findEnd 2 = .ok (.iload_n 1, 1) := by decide +kernel
theorem dX1_findEnd_3 : decode cX1_findEnd 3 = .ok (.bipush 12, 2) := by decide +kernel
theorem dX1_findEnd_5 : decode cX1_findEnd 5 = .ok (.if_icmp .gt 68, 3) := by decide +kernel
theorem dX1_findEnd_8 : decode cX1_findEnd 8 = .ok (.aload_n 0, 1) := by decide +kernel
theorem dX1_findEnd_9 : decode cX1_findEnd 9 = .ok (.getfield 39, 3) := by decide +kernel
theorem dX1_findEnd_12 : decode cX1_findEnd 12 = .ok (.getfield 58, 3) := by decide +kernel
theorem dX1_findEnd_15 : decode cX1_findEnd 15 = .ok (.bipush 22, 2) := by decide +kernel
theorem dX1_findEnd_17 : decode cX1_findEnd 17 = .ok (.isub, 1) := by decide +kernel
theorem dX1_findEnd_18 : decode cX1_findEnd 18 = .ok (.iload_n 1, 1) := by decide +kernel
theorem dX1_findEnd_19 : decode cX1_findEnd 19 = .ok (.isub, 1) := by decide +kernel
theorem dX1_findEnd_20 : decode cX1_findEnd 20 = .ok (.istore_n 2, 1) := by decide +kernel
theorem dX1_findEnd_21 : decode cX1_findEnd 21 = .ok (.iload_n 2, 1) := by decide +kernel
theorem dX1_findEnd_22 : decode cX1_findEnd 22 = .ok (.ifCond .lt 45, 3) := by decide +kernel
theorem dX1_findEnd_25 : decode cX1_findEnd 25 = .ok (.aload_n 0, 1) := by decide +kernel
theorem dX1_findEnd_26 : decode cX1_findEnd 26 = .ok (.getfield 39, 3) := by decide +kernel
theorem dX1_findEnd_29 : decode cX1_findEnd 29 = .ok (.iload_n 2, 1) := by decide +kernel
theorem dX1_findEnd_30 : decode cX1_findEnd 30 = .ok (.invokevirtual 63, 3) := by decide +kernel
theorem dX1_findEnd_33 : decode cX1_findEnd 33 = .ok (.ldc2_w 67, 3) := by decide +kernel
theorem dX1_findEnd_36 : decode cX1_findEnd 36 = .ok (.lcmp, 1) := by decide +kernel
theorem dX1_findEnd_37 : decode cX1_findEnd 37 = .ok (.ifCond .ne 30, 3) := by decide +kernel
theorem dX1_findEnd_40 : decode cX1_findEnd 40 = .ok (.aload_n 0, 1) := by decide +kernel
theorem dX1_findEnd_41 : decode cX1_findEnd 41 = .ok (.getfield 39, 3) := by decide +kernel
theorem dX1_findEnd_44 : decode cX1_findEnd 44 = .ok (.iload_n 2, 1) := by decide +kernel
theorem dX1_findEnd_45 : decode cX1_findEnd 45 = .ok (.bipush 20, 2) := by decide +kernel
theorem dX1_findEnd_47 : decode cX1_findEnd 47 = .ok (.iadd, 1) := by decide +kernel
theorem dX1_findEnd_48 : decode cX1_findEnd 48 = .ok (.invokevirtual 69, 3) := by decide +kernel
theorem dX1_findEnd_51 : decode cX1_findEnd 51 = .ok (.iload_n 1, 1) := by decide +kernel
theorem dX1_findEnd_52 : decode cX1_findEnd 52 = .ok (.if_icmp .ne 15, 3) := by decide +kernel
theorem dX1_findEnd_55 : decode cX1_findEnd 55 = .ok (.aload_n 0, 1) := by decide +kernel
theorem dX1_findEnd_56 : decode cX1_findEnd 56 = .ok (.iload_n 2, 1) := by decide +kernel
theorem dX1_findEnd_57 : decode cX1_findEnd 57 = .ok (.putfield 21, 3) := by decide +kernel
theorem dX1_findEnd_60 : decode cX1_findEnd 60 = .ok (.aload_n 0, 1) := by decide +kernel
theorem dX1_findEnd_61 : decode cX1_findEnd 61 = .ok (.iload_n 1, 1) := by decide +kernel
theorem dX1_findEnd_62 : decode cX1_findEnd 62 = .ok (.putfield 24, 3) := by decide +kernel
theorem dX1_findEnd_65 : decode cX1_findEnd 65 = .ok (.iconst 1, 1) := by decide +kernel
theorem dX1_findEnd_66 : decode cX1_findEnd 66 = .ok (.ireturn, 1) := by decide +kernel
theorem dX1_findEnd_67 : decode cX1_findEnd 67 = .ok (.iinc 1 1, 3) := by decide +kernel
theorem dX1_findEnd_70 : decode cX1_findEnd 70 = .ok (.goto (-68), 3) := by decide +kernel
theorem dX1_findEnd_73 : decode cX1_findEnd 73 = .ok (.aload_n 0, 1) := by decide +kernel
theorem dX1_findEnd_74 : decode cX1_findEnd 74 = .ok (.iconst 1, 1) := by decide +kernel
theorem dX1_findEnd_75 : decode cX1_findEnd 75 = .ok (.aload_n 0, 1) := by decide +kernel
theorem dX1_findEnd_76 : decode cX1_findEnd 76 = .ok (.getfield 39, 3) := by decide +kernel
theorem dX1_findEnd_79 : decode cX1_findEnd 79 = .ok (.getfield 58, 3) := by decide +kernel
theorem dX1_findEnd_82 : decode cX1_findEnd 82 = .ok (.invokevirtual 73, 3) := by decide +kernel
theorem dX1_findEnd_85 : decode cX1_findEnd 85 = .ok (.ireturn, 1) := by decide +kernel
theorem dX1_takeEnd_0 : decode cX1_takeEnd 0 = .ok (.aload_n 0, 1) := by decide +kernel
theorem dX1_takeEnd_1 : decode cX1_takeEnd 1 = .ok (.getfield 39, 3) := by decide +kernel
theorem dX1_takeEnd_4 : decode cX1_takeEnd 4 = .ok (.aload_n 0, 1) := by decide +kernel
theorem dX1_takeEnd_5 : decode cX1_takeEnd 5 = .ok (.getfield 21, 3) := by decide +kernel
theorem dX1_takeEnd_8 : decode cX1_takeEnd 8 = .ok (.bipush 8, 2) := by decide +kernel
theorem dX1_takeEnd_10 : decode cX1_takeEnd 10 = .ok (.iadd, 1) := by decide +kernel
theorem dX1_takeEnd_11 : decode cX1_takeEnd 11 = .ok (.invokevirtual 69, 3) := by decide +kernel
theorem dX1_takeEnd_14 : decode cX1_takeEnd 14 = .ok (.istore_n 1, 1) := by decide +kernel
theorem dX1_takeEnd_15 : decode cX1_takeEnd 15 = .ok (.aload_n 0, 1) := by decide +kernel
theorem dX1_takeEnd_16 : decode cX1_takeEnd 16 = .ok (.getfield 39, 3) := by decide +kernel
theorem dX1_takeEnd_19 : decode cX1_takeEnd 19 = .ok (.aload_n 0, 1) := by decide +kernel
theorem dX1_takeEnd_20 : decode cX1_takeEnd 20 = .ok (.getfield 21, 3) := by decide +kernel
theorem dX1_takeEnd_23 : decode cX1_takeEnd 23 = .ok (.bipush 12, 2) := by decide +kernel
theorem dX1_takeEnd_25 : decode cX1_takeEnd 25 = .ok (.iadd, 1) := by decide +kernel
theorem dX1_takeEnd_26 : decode cX1_takeEnd 26 = .ok (.invokevirtual 63, 3) := by decide +kernel
theorem dX1_takeEnd_29 : decode cX1_takeEnd 29 = .ok (.lstore_n 2, 1) := by decide +kernel
theorem dX1_takeEnd_30 : decode cX1_takeEnd 30 = .ok (.aload_n 0, 1) := by decide +kernel
theorem dX1_takeEnd_31 : decode cX1_takeEnd 31 = .ok (.getfield 39, 3) := by decide +kernel
theorem dX1_takeEnd_34 : decode cX1_takeEnd 34 = .ok (.aload_n 0, 1) := by decide +kernel
theorem dX1_takeEnd_35 : decode cX1_takeEnd 35 = .ok (.getfield 21, 3) := by decide +kernel
theorem dX1_takeEnd_38 : decode cX1_takeEnd 38 = .ok (.bipush 16, 2) := by decide +kernel
theorem dX1_takeEnd_40 : decode cX1_takeEnd 40 = .ok (.iadd, 1) := by decide +kernel
theorem dX1_takeEnd_41 : decode cX1_takeEnd 41 = .ok (.invokevirtual 63, 3) := by decide +kernel
theorem dX1_takeEnd_44 : decode cX1_takeEnd 44 = .ok (.lstore 4, 2) := by decide +kernel
theorem dX1_takeEnd_46 : decode cX1_takeEnd 46 = .ok (.lload 4, 2) := by decide +kernel
theorem dX1_takeEnd_48 : decode cX1_takeEnd 48 = .ok (.lload_n 2, 1) := by decide +kernel
theorem dX1_takeEnd_49 : decode cX1_takeEnd 49 = .ok (.ladd, 1) := by decide +kernel
theorem dX1_takeEnd_50 : decode cX1_takeEnd 50 = .ok (.aload_n 0, 1) := by decide +kernel
theorem dX1_takeEnd_51 : decode cX1_takeEnd 51 = .ok (.getfield 21, 3) := by decide +kernel
theorem dX1_takeEnd_54 : decode cX1_takeEnd 54 = .ok (.i2l, 1) := by decide +kernel
theorem dX1_takeEnd_55 : decode cX1_takeEnd 55 = .ok (.lcmp, 1) := by decide +kernel
theorem dX1_takeEnd_56 : decode cX1_takeEnd 56 = .ok (.ifCond .gt 27, 3) := by decide +kernel
theorem dX1_takeEnd_59 : decode cX1_takeEnd 59 = .ok (.iload_n 1, 1) := by decide +kernel
theorem dX1_takeEnd_60 : decode cX1_takeEnd 60 = .ok (.bipush 12, 2) := by decide +kernel
theorem dX1_takeEnd_62 : decode cX1_takeEnd 62 = .ok (.if_icmp .gt 21, 3) := by decide +kernel
theorem dX1_takeEnd_65 : decode cX1_takeEnd 65 = .ok (.iload_n 1, 1) := by decide +kernel
theorem dX1_takeEnd_66 : decode cX1_takeEnd 66 = .ok (.aload_n 0, 1) := by decide +kernel
theorem dX1_takeEnd_67 : decode cX1_takeEnd 67 = .ok (.getfield 39, 3) := by decide +kernel
theorem dX1_takeEnd_70 : decode cX1_takeEnd 70 = .ok (.aload_n 0, 1) := by decide +kernel
theorem dX1_takeEnd_71 : decode cX1_takeEnd 71 = .ok (.getfield 21, 3) := by decide +kernel
theorem dX1_takeEnd_74 : decode cX1_takeEnd 74 = .ok (.bipush 10, 2) := by decide +kernel
theorem dX1_takeEnd_76 : decode cX1_takeEnd 76 = .ok (.iadd, 1) := by decide +kernel
theorem dX1_takeEnd_77 : decode cX1_takeEnd 77 = .ok (.invokevirtual 69, 3) := by decide +kernel
theorem dX1_takeEnd_80 : decode cX1_takeEnd 80 = .ok (.if_icmp .eq 13, 3) := by decide +kernel
theorem dX1_takeEnd_83 : decode cX1_takeEnd 83 = .ok (.aload_n 0, 1) := by decide +kernel
theorem dX1_takeEnd_84 : decode cX1_takeEnd 84 = .ok (.iconst 2, 1) := by decide +kernel
theorem dX1_takeEnd_85 : decode cX1_takeEnd 85 = .ok (.aload_n 0, 1) := by decide +kernel
theorem dX1_takeEnd_86 : decode cX1_takeEnd 86 = .ok (.getfield 21, 3) := by decide +kernel
theorem dX1_takeEnd_89 : decode cX1_takeEnd 89 = .ok (.invokevirtual 73, 3) := by decide +kernel
theorem dX1_takeEnd_92 : decode cX1_takeEnd 92 = .ok (.ireturn, 1) := by decide +kernel
theorem dX1_takeEnd_93 : decode cX1_takeEnd 93 = .ok (.aload_n 0, 1) := by decide +kernel
theorem dX1_takeEnd_94 : decode cX1_takeEnd 94 = .ok (.iload_n 1, 1) := by decide +kernel
theorem dX1_takeEnd_95 : decode cX1_takeEnd 95 = .ok (.putfield 17, 3) := by decide +kernel
theorem dX1_takeEnd_98 : decode cX1_takeEnd 98 = .ok (.aload_n 0, 1) := by decide +kernel
theorem dX1_takeEnd_99 : decode cX1_takeEnd 99 = .ok (.lload 4, 2) := by decide +kernel
theorem dX1_takeEnd_101 : decode cX1_takeEnd 101 = .ok (.l2i, 1) := by decide +kernel
theorem dX1_takeEnd_102 : decode cX1_takeEnd 102 = .ok (.putfield 27, 3) := by decide +kernel
theorem dX1_takeEnd_105 : decode cX1_takeEnd 105 = .ok (.aload_n 0, 1) := by decide +kernel
theorem dX1_takeEnd_106 : decode cX1_takeEnd 106 = .ok (.lload 4, 2) := by decide +kernel
theorem dX1_takeEnd_108 : decode cX1_takeEnd 108 = .ok (.lload_n 2, 1) := by decide +kernel
theorem dX1_takeEnd_109 : decode cX1_takeEnd 109 = .ok (.ladd, 1) := by decide +kernel
theorem dX1_takeEnd_110 : decode cX1_takeEnd 110 = .ok (.l2i, 1) := by decide +kernel
theorem dX1_takeEnd_111 : decode cX1_takeEnd 111 = .ok (.putfield 30, 3) := by decide +kernel
theorem dX1_takeEnd_114 : decode cX1_takeEnd 114 = .ok (.iconst 1, 1) := by decide +kernel
theorem dX1_takeEnd_115 : decode cX1_takeEnd 115 = .ok (.ireturn, 1) := by decide +kernel
theorem dX1_takeRows_0 : decode cX1_takeRows 0 = .ok (.aload_n 0, 1) := by decide +kernel
theorem dX1_takeRows_1 : decode cX1_takeRows 1 = .ok (.getfield 27, 3) := by decide +kernel
theorem dX1_takeRows_4 : decode cX1_takeRows 4 = .ok (.istore_n 1, 1) := by decide +kernel
theorem dX1_takeRows_5 : decode cX1_takeRows 5 = .ok (.iconst 0, 1) := by decide +kernel
theorem dX1_takeRows_6 : decode cX1_takeRows 6 = .ok (.istore_n 2, 1) := by decide +kernel
theorem dX1_takeRows_7 : decode cX1_takeRows 7 = .ok (.iload_n 2, 1) := by decide +kernel
theorem dX1_takeRows_8 : decode cX1_takeRows 8 = .ok (.aload_n 0, 1) := by decide +kernel
theorem dX1_takeRows_9 : decode cX1_takeRows 9 = .ok (.getfield 17, 3) := by decide +kernel
theorem dX1_takeRows_12 : decode cX1_takeRows 12 = .ok (.if_icmp .ge 46, 3) := by decide +kernel
theorem dX1_takeRows_15 : decode cX1_takeRows 15 = .ok (.iload_n 2, 1) := by decide +kernel
theorem dX1_takeRows_16 : decode cX1_takeRows 16 = .ok (.bipush 12, 2) := by decide +kernel
theorem dX1_takeRows_18 : decode cX1_takeRows 18 = .ok (.if_icmp .ge 40, 3) := by decide +kernel
theorem dX1_takeRows_21 : decode cX1_takeRows 21 = .ok (.aload_n 0, 1) := by decide +kernel
theorem dX1_takeRows_22 : decode cX1_takeRows 22 = .ok (.aload_n 0, 1) := by decide +kernel
theorem dX1_takeRows_23 : decode cX1_takeRows 23 = .ok (.getfield 11, 3) := by decide +kernel
theorem dX1_takeRows_26 : decode cX1_takeRows 26 = .ok (.iload_n 2, 1) := by decide +kernel
theorem dX1_takeRows_27 : decode cX1_takeRows 27 = .ok (.aaload, 1) := by decide +kernel
theorem dX1_takeRows_28 : decode cX1_takeRows 28 = .ok (.iload_n 1, 1) := by decide +kernel
theorem dX1_takeRows_29 : decode cX1_takeRows 29 = .ok (.invokevirtual 77, 3) := by decide +kernel
theorem dX1_takeRows_32 : decode cX1_takeRows 32 = .ok (.ifCond .ne 10, 3) := by decide +kernel
theorem dX1_takeRows_35 : decode cX1_takeRows 35 = .ok (.aload_n 0, 1) := by decide +kernel
theorem dX1_takeRows_36 : decode cX1_takeRows 36 = .ok (.iconst 3, 1) := by decide +kernel
theorem dX1_takeRows_37 : decode cX1_takeRows 37 = .ok (.iload_n 1, 1) := by decide +kernel
theorem dX1_takeRows_38 : decode cX1_takeRows 38 = .ok (.invokevirtual 73, 3) := by decide +kernel
theorem dX1_takeRows_41 : decode cX1_takeRows 41 = .ok (.ireturn, 1) := by decide +kernel
theorem dX1_takeRows_42 : decode cX1_takeRows 42 = .ok (.aload_n 0, 1) := by decide +kernel
theorem dX1_takeRows_43 : decode cX1_takeRows 43 = .ok (.getfield 11, 3) := by decide +kernel
theorem dX1_takeRows_46 : decode cX1_takeRows 46 = .ok (.iload_n 2, 1) := by decide +kernel
theorem dX1_takeRows_47 : decode cX1_takeRows 47 = .ok (.aaload, 1) := by decide +kernel
theorem dX1_takeRows_48 : decode cX1_takeRows 48 = .ok (.invokevirtual 81, 3) := by decide +kernel
theorem dX1_takeRows_51 : decode cX1_takeRows 51 = .ok (.istore_n 1, 1) := by decide +kernel
theorem dX1_takeRows_52 : decode cX1_takeRows 52 = .ok (.iinc 2 1, 3) := by decide +kernel
theorem dX1_takeRows_55 : decode cX1_takeRows 55 = .ok (.goto (-48), 3) := by decide +kernel
theorem dX1_takeRows_58 : decode cX1_takeRows 58 = .ok (.iload_n 1, 1) := by decide +kernel
theorem dX1_takeRows_59 : decode cX1_takeRows 59 = .ok (.aload_n 0, 1) := by decide +kernel
theorem dX1_takeRows_60 : decode cX1_takeRows 60 = .ok (.getfield 30, 3) := by decide +kernel
theorem dX1_takeRows_63 : decode cX1_takeRows 63 = .ok (.if_icmp .eq 12, 3) := by decide +kernel
theorem dX1_takeRows_66 : decode cX1_takeRows 66 = .ok (.aload_n 0, 1) := by decide +kernel
theorem dX1_takeRows_67 : decode cX1_takeRows 67 = .ok (.iconst 3, 1) := by decide +kernel
theorem dX1_takeRows_68 : decode cX1_takeRows 68 = .ok (.iload_n 1, 1) := by decide +kernel
theorem dX1_takeRows_69 : decode cX1_takeRows 69 = .ok (.invokevirtual 73, 3) := by decide +kernel
theorem dX1_takeRows_72 : decode cX1_takeRows 72 = .ok (.ifCond .eq 7, 3) := by decide +kernel
theorem dX1_takeRows_75 : decode cX1_takeRows 75 = .ok (.iconst 1, 1) := by decide +kernel
theorem dX1_takeRows_76 : decode cX1_takeRows 76 = .ok (.goto 4, 3) := by decide +kernel
theorem dX1_takeRows_79 : decode cX1_takeRows 79 = .ok (.iconst 0, 1) := by decide +kernel
theorem dX1_takeRows_80 : decode cX1_takeRows 80 = .ok (.ireturn, 1) := by decide +kernel
theorem dX1_takeRow_0 : decode cX1_takeRow 0 = .ok (.iload_n 2, 1) := by decide +kernel
theorem dX1_takeRow_1 : decode cX1_takeRow 1 = .ok (.bipush 46, 2) := by decide +kernel
theorem dX1_takeRow_3 : decode cX1_takeRow 3 = .ok (.iadd, 1) := by decide +kernel
theorem dX1_takeRow_4 : decode cX1_takeRow 4 = .ok (.aload_n 0, 1) := by decide +kernel
theorem dX1_takeRow_5 : decode cX1_takeRow 5 = .ok (.getfield 30, 3) := by decide +kernel
theorem dX1_takeRow_8 : decode cX1_takeRow 8 = .ok (.if_icmp .gt 18, 3) := by decide +kernel
theorem dX1_takeRow_11 : decode cX1_takeRow 11 = .ok (.aload_n 0, 1) := by decide +kernel
theorem dX1_takeRow_12 : decode cX1_takeRow 12 = .ok (.getfield 39, 3) := by decide +kernel
theorem dX1_takeRow_15 : decode cX1_takeRow 15 = .ok (.iload_n 2, 1) := by decide +kernel
theorem dX1_takeRow_16 : decode cX1_takeRow 16 = .ok (.invokevirtual 63, 3) := by decide +kernel
theorem dX1_takeRow_19 : decode cX1_takeRow 19 = .ok (.ldc2_w 84, 3) := by decide +kernel
theorem dX1_takeRow_22 : decode cX1_takeRow 22 = .ok (.lcmp, 1) := by decide +kernel
theorem dX1_takeRow_23 : decode cX1_takeRow 23 = .ok (.ifCond .eq 5, 3) := by decide +kernel
theorem dX1_takeRow_26 : decode cX1_takeRow 26 = .ok (.iconst 0, 1) := by decide +kernel
theorem dX1_takeRow_27 : decode cX1_takeRow 27 = .ok (.ireturn, 1) := by decide +kernel
theorem dX1_takeRow_28 : decode cX1_takeRow 28 = .ok (.aload_n 1, 1) := by decide +kernel
theorem dX1_takeRow_29 : decode cX1_takeRow 29 = .ok (.aload_n 0, 1) := by decide +kernel
theorem dX1_takeRow_30 : decode cX1_takeRow 30 = .ok (.getfield 39, 3) := by decide +kernel
theorem dX1_takeRow_33 : decode cX1_takeRow 33 = .ok (.iload_n 2, 1) := by decide +kernel
theorem dX1_takeRow_34 : decode cX1_takeRow 34 = .ok (.invokevirtual 86, 3) := by decide +kernel
theorem dX1_takeRow_37 : decode cX1_takeRow 37 = .ok (.aload_n 0, 1) := by decide +kernel
theorem dX1_takeRow_38 : decode cX1_takeRow 38 = .ok (.getfield 39, 3) := by decide +kernel
theorem dX1_takeRow_41 : decode cX1_takeRow 41 = .ok (.iload_n 2, 1) := by decide +kernel
theorem dX1_takeRow_42 : decode cX1_takeRow 42 = .ok (.bipush 32, 2) := by decide +kernel
theorem dX1_takeRow_44 : decode cX1_takeRow 44 = .ok (.iadd, 1) := by decide +kernel
theorem dX1_takeRow_45 : decode cX1_takeRow 45 = .ok (.invokevirtual 69, 3) := by decide +kernel
theorem dX1_takeRow_48 : decode cX1_takeRow 48 = .ok (.ifCond .ne 18, 3) := by decide +kernel
theorem dX1_takeRow_51 : decode cX1_takeRow 51 = .ok (.aload_n 1, 1) := by decide +kernel
theorem dX1_takeRow_52 : decode cX1_takeRow 52 = .ok (.invokevirtual 81, 3) := by decide +kernel
theorem dX1_takeRow_55 : decode cX1_takeRow 55 = .ok (.aload_n 0, 1) := by decide +kernel
theorem dX1_takeRow_56 : decode cX1_takeRow 56 = .ok (.getfield 30, 3) := by decide +kernel
theorem dX1_takeRow_59 : decode cX1_takeRow 59 = .ok (.if_icmp .gt 7, 3) := by decide +kernel
theorem dX1_takeRow_62 : decode cX1_takeRow 62 = .ok (.iconst 1, 1) := by decide +kernel
theorem dX1_takeRow_63 : decode cX1_takeRow 63 = .ok (.goto 4, 3) := by decide +kernel
theorem dX1_takeRow_66 : decode cX1_takeRow 66 = .ok (.iconst 0, 1) := by decide +kernel
theorem dX1_takeRow_67 : decode cX1_takeRow 67 = .ok (.ireturn, 1) := by decide +kernel
theorem dX1_isGoodEntry_0 : decode cX1_isGoodEntry 0 = .ok (.aload_n 0, 1) := by decide +kernel
theorem dX1_isGoodEntry_1 : decode cX1_isGoodEntry 1 = .ok (.getfield 11, 3) := by decide +kernel
theorem dX1_isGoodEntry_4 : decode cX1_isGoodEntry 4 = .ok (.iload_n 1, 1) := by decide +kernel
theorem dX1_isGoodEntry_5 : decode cX1_isGoodEntry 5 = .ok (.aaload, 1) := by decide +kernel
theorem dX1_isGoodEntry_6 : decode cX1_isGoodEntry 6 = .ok (.astore_n 2, 1) := by decide +kernel
theorem dX1_isGoodEntry_7 : decode cX1_isGoodEntry 7 = .ok (.aload_n 2, 1) := by decide +kernel
theorem dX1_isGoodEntry_8 : decode cX1_isGoodEntry 8 = .ok (.aload_n 0, 1) := by decide +kernel
theorem dX1_isGoodEntry_9 : decode cX1_isGoodEntry 9 = .ok (.getfield 39, 3) := by decide +kernel
theorem dX1_isGoodEntry_12 : decode cX1_isGoodEntry 12 = .ok (.invokevirtual 90, 3) := by decide +kernel
theorem dX1_isGoodEntry_15 : decode cX1_isGoodEntry 15 = .ok (.ifCond .ne 13, 3) := by decide +kernel
theorem dX1_isGoodEntry_18 : decode cX1_isGoodEntry 18 = .ok (.aload_n 0, 1) := by decide +kernel
theorem dX1_isGoodEntry_19 : decode cX1_isGoodEntry 19 = .ok (.iconst 4, 1) := by decide +kernel
theorem dX1_isGoodEntry_20 : decode cX1_isGoodEntry 20 = .ok (.aload_n 2, 1) := by decide +kernel
theorem dX1_isGoodEntry_21 : decode cX1_isGoodEntry 21 = .ok (.getfield 94, 3) := by decide +kernel
theorem dX1_isGoodEntry_24 : decode cX1_isGoodEntry 24 = .ok (.invokevirtual 73, 3) := by decide +kernel
theorem dX1_isGoodEntry_27 : decode cX1_isGoodEntry 27 = .ok (.ireturn, 1) := by decide +kernel
theorem dX1_isGoodEntry_28 : decode cX1_isGoodEntry 28 = .ok (.aload_n 2, 1) := by decide +kernel
theorem dX1_isGoodEntry_29 : decode cX1_isGoodEntry 29 = .ok (.invokevirtual 97, 3) := by decide +kernel
theorem dX1_isGoodEntry_32 : decode cX1_isGoodEntry 32 = .ok (.ifCond .ne 13, 3) := by decide +kernel
theorem dX1_isGoodEntry_35 : decode cX1_isGoodEntry 35 = .ok (.aload_n 0, 1) := by decide +kernel
theorem dX1_isGoodEntry_36 : decode cX1_isGoodEntry 36 = .ok (.iconst 5, 1) := by decide +kernel
theorem dX1_isGoodEntry_37 : decode cX1_isGoodEntry 37 = .ok (.aload_n 2, 1) := by decide +kernel
theorem dX1_isGoodEntry_38 : decode cX1_isGoodEntry 38 = .ok (.getfield 94, 3) := by decide +kernel
theorem dX1_isGoodEntry_41 : decode cX1_isGoodEntry 41 = .ok (.invokevirtual 73, 3) := by decide +kernel
theorem dX1_isGoodEntry_44 : decode cX1_isGoodEntry 44 = .ok (.ireturn, 1) := by decide +kernel
theorem dX1_isGoodEntry_45 : decode cX1_isGoodEntry 45 = .ok (.aload_n 0, 1) := by decide +kernel
theorem dX1_isGoodEntry_46 : decode cX1_isGoodEntry 46 = .ok (.aload_n 2, 1) := by decide +kernel
theorem dX1_isGoodEntry_47 : decode cX1_isGoodEntry 47 = .ok (.invokevirtual 100, 3) := by decide +kernel
theorem dX1_isGoodEntry_50 : decode cX1_isGoodEntry 50 = .ok (.ifCond .ne 15, 3) := by decide +kernel
theorem dX1_isGoodEntry_53 : decode cX1_isGoodEntry 53 = .ok (.aload_n 0, 1) := by decide +kernel
theorem dX1_isGoodEntry_54 : decode cX1_isGoodEntry 54 = .ok (.bipush 6, 2) := by decide +kernel
theorem dX1_isGoodEntry_56 : decode cX1_isGoodEntry 56 = .ok (.aload_n 2, 1) := by decide +kernel
theorem dX1_isGoodEntry_57 : decode cX1_isGoodEntry 57 = .ok (.getfield 104, 3) := by decide +kernel
theorem dX1_isGoodEntry_60 : decode cX1_isGoodEntry 60 = .ok (.l2i, 1) := by decide +kernel
theorem dX1_isGoodEntry_61 : decode cX1_isGoodEntry 61 = .ok (.invokevirtual 73, 3) := by decide +kernel
theorem dX1_isGoodEntry_64 : decode cX1_isGoodEntry 64 = .ok (.ireturn, 1) := by decide +kernel
theorem dX1_isGoodEntry_65 : decode cX1_isGoodEntry 65 = .ok (.aload_n 0, 1) := by decide +kernel
theorem dX1_isGoodEntry_66 : decode cX1_isGoodEntry 66 = .ok (.aload_n 2, 1) := by decide +kernel
theorem dX1_isGoodEntry_67 : decode cX1_isGoodEntry 67 = .ok (.invokevirtual 108, 3) := by decide +kernel
theorem dX1_isGoodEntry_70 : decode cX1_isGoodEntry 70 = .ok (.ifCond .ne 15, 3) := by decide +kernel
theorem dX1_isGoodEntry_73 : decode cX1_isGoodEntry 73 = .ok (.aload_n 0, 1) := by decide +kernel
theorem dX1_isGoodEntry_74 : decode cX1_isGoodEntry 74 = .ok (.bipush 7, 2) := by decide +kernel
theorem dX1_isGoodEntry_76 : decode cX1_isGoodEntry 76 = .ok (.aload_n 2, 1) := by decide +kernel
theorem dX1_isGoodEntry_77 : decode cX1_isGoodEntry 77 = .ok (.getfield 104, 3) := by decide +kernel
theorem dX1_isGoodEntry_80 : decode cX1_isGoodEntry 80 = .ok (.l2i, 1) := by decide +kernel
theorem dX1_isGoodEntry_81 : decode cX1_isGoodEntry 81 = .ok (.invokevirtual 73, 3) := by decide +kernel
theorem dX1_isGoodEntry_84 : decode cX1_isGoodEntry 84 = .ok (.ireturn, 1) := by decide +kernel
theorem dX1_isGoodEntry_85 : decode cX1_isGoodEntry 85 = .ok (.aload_n 0, 1) := by decide +kernel
theorem dX1_isGoodEntry_86 : decode cX1_isGoodEntry 86 = .ok (.aload_n 2, 1) := by decide +kernel
theorem dX1_isGoodEntry_87 : decode cX1_isGoodEntry 87 = .ok (.invokevirtual 111, 3) := by decide +kernel
theorem dX1_isGoodEntry_90 : decode cX1_isGoodEntry 90 = .ok (.ifCond .ne 14, 3) := by decide +kernel
theorem dX1_isGoodEntry_93 : decode cX1_isGoodEntry 93 = .ok (.aload_n 0, 1) := by decide +kernel
theorem dX1_isGoodEntry_94 : decode cX1_isGoodEntry 94 = .ok (.bipush 8, 2) := by decide +kernel
theorem dX1_isGoodEntry_96 : decode cX1_isGoodEntry 96 = .ok (.aload_n 2, 1) := by decide +kernel
theorem dX1_isGoodEntry_97 : decode cX1_isGoodEntry 97 = .ok (.invokevirtual 114, 3) := by decide +kernel
theorem dX1_isGoodEntry_100 : decode cX1_isGoodEntry 100 = .ok (.invokevirtual 73, 3) := by decide +kernel
theorem dX1_isGoodEntry_103 : decode cX1_isGoodEntry 103 = .ok (.ireturn, 1) := by decide +kernel
theorem dX1_isGoodEntry_104 : decode cX1_isGoodEntry 104 = .ok (.aload_n 0, 1) := by decide +kernel
theorem dX1_isGoodEntry_105 : decode cX1_isGoodEntry 105 = .ok (.iload_n 1, 1) := by decide +kernel
theorem dX1_isGoodEntry_106 : decode cX1_isGoodEntry 106 = .ok (.invokevirtual 117, 3) := by decide +kernel
theorem dX1_isGoodEntry_109 : decode cX1_isGoodEntry 109 = .ok (.ifCond .eq 15, 3) := by decide +kernel
theorem dX1_isGoodEntry_112 : decode cX1_isGoodEntry 112 = .ok (.aload_n 0, 1) := by decide +kernel
theorem dX1_isGoodEntry_113 : decode cX1_isGoodEntry 113 = .ok (.bipush 9, 2) := by decide +kernel
theorem dX1_isGoodEntry_115 : decode cX1_isGoodEntry 115 = .ok (.aload_n 2, 1) := by decide +kernel
theorem dX1_isGoodEntry_116 : decode cX1_isGoodEntry 116 = .ok (.getfield 104, 3) := by decide +kernel
theorem dX1_isGoodEntry_119 : decode cX1_isGoodEntry 119 = .ok (.l2i, 1) := by decide +kernel
theorem dX1_isGoodEntry_120 : decode cX1_isGoodEntry 120 = .ok (.invokevirtual 73, 3) := by decide +kernel
theorem dX1_isGoodEntry_123 : decode cX1_isGoodEntry 123 = .ok (.ireturn, 1) := by decide +kernel
theorem dX1_isGoodEntry_124 : decode cX1_isGoodEntry 124 = .ok (.aload_n 2, 1) := by decide +kernel
theorem dX1_isGoodEntry_125 : decode cX1_isGoodEntry 125 = .ok (.aload_n 0, 1) := by decide +kernel
theorem dX1_isGoodEntry_126 : decode cX1_isGoodEntry 126 = .ok (.getfield 39, 3) := by decide +kernel
theorem dX1_isGoodEntry_129 : decode cX1_isGoodEntry 129 = .ok (.invokevirtual 120, 3) := by decide +kernel
theorem dX1_isGoodEntry_132 : decode cX1_isGoodEntry 132 = .ok (.ifCond .ne 16, 3) := by decide +kernel
theorem dX1_isGoodEntry_135 : decode cX1_isGoodEntry 135 = .ok (.aload_n 0, 1) := by decide +kernel
theorem dX1_isGoodEntry_136 : decode cX1_isGoodEntry 136 = .ok (.bipush 10, 2) := by decide +kernel
theorem dX1_isGoodEntry_138 : decode cX1_isGoodEntry 138 = .ok (.aload_n 2, 1) := by decide +kernel
theorem dX1_isGoodEntry_139 : decode cX1_isGoodEntry 139 = .ok (.getfield 94, 3) := by decide +kernel
theorem dX1_isGoodEntry_142 : decode cX1_isGoodEntry 142 = .ok (.invokevirtual 73, 3) := by decide +kernel
theorem dX1_isGoodEntry_145 : decode cX1_isGoodEntry 145 = .ok (.ifCond .eq 7, 3) := by decide +kernel
theorem dX1_isGoodEntry_148 : decode cX1_isGoodEntry 148 = .ok (.iconst 1, 1) := by decide +kernel
theorem dX1_isGoodEntry_149 : decode cX1_isGoodEntry 149 = .ok (.goto 4, 3) := by decide +kernel
theorem dX1_isGoodEntry_152 : decode cX1_isGoodEntry 152 = .ok (.iconst 0, 1) := by decide +kernel
theorem dX1_isGoodEntry_153 : decode cX1_isGoodEntry 153 = .ok (.ireturn, 1) := by decide +kernel
theorem dX1_hasLocal_0 : decode cX1_hasLocal 0 = .ok (.aload_n 1, 1) := by decide +kernel
theorem dX1_hasLocal_1 : decode cX1_hasLocal 1 = .ok (.getfield 104, 3) := by decide +kernel
theorem dX1_hasLocal_4 : decode cX1_hasLocal 4 = .ok (.ldc2_w 123, 3) := by decide +kernel
theorem dX1_hasLocal_7 : decode cX1_hasLocal 7 = .ok (.ladd, 1) := by decide +kernel
theorem dX1_hasLocal_8 : decode cX1_hasLocal 8 = .ok (.aload_n 0, 1) := by decide +kernel
theorem dX1_hasLocal_9 : decode cX1_hasLocal 9 = .ok (.getfield 27, 3) := by decide +kernel
theorem dX1_hasLocal_12 : decode cX1_hasLocal 12 = .ok (.i2l, 1) := by decide +kernel
theorem dX1_hasLocal_13 : decode cX1_hasLocal 13 = .ok (.lcmp, 1) := by decide +kernel
theorem dX1_hasLocal_14 : decode cX1_hasLocal 14 = .ok (.ifCond .le 5, 3) := by decide +kernel
theorem dX1_hasLocal_17 : decode cX1_hasLocal 17 = .ok (.iconst 0, 1) := by decide +kernel
theorem dX1_hasLocal_18 : decode cX1_hasLocal 18 = .ok (.ireturn, 1) := by decide +kernel
theorem dX1_hasLocal_19 : decode cX1_hasLocal 19 = .ok (.aload_n 1, 1) := by decide +kernel
theorem dX1_hasLocal_20 : decode cX1_hasLocal 20 = .ok (.getfield 104, 3) := by decide +kernel
theorem dX1_hasLocal_23 : decode cX1_hasLocal 23 = .ok (.l2i, 1) := by decide +kernel
theorem dX1_hasLocal_24 : decode cX1_hasLocal 24 = .ok (.istore_n 2, 1) := by decide +kernel
theorem dX1_hasLocal_25 : decode cX1_hasLocal 25 = .ok (.bipush 30, 2) := by decide +kernel
theorem dX1_hasLocal_27 : decode cX1_hasLocal 27 = .ok (.aload_n 0, 1) := by decide +kernel
theorem dX1_hasLocal_28 : decode cX1_hasLocal 28 = .ok (.getfield 39, 3) := by decide +kernel
theorem dX1_hasLocal_31 : decode cX1_hasLocal 31 = .ok (.iload_n 2, 1) := by decide +kernel
theorem dX1_hasLocal_32 : decode cX1_hasLocal 32 = .ok (.bipush 26, 2) := by decide +kernel
theorem dX1_hasLocal_34 : decode cX1_hasLocal 34 = .ok (.iadd, 1) := by decide +kernel
theorem dX1_hasLocal_35 : decode cX1_hasLocal 35 = .ok (.invokevirtual 69, 3) := by decide +kernel
theorem dX1_hasLocal_38 : decode cX1_hasLocal 38 = .ok (.iadd, 1) := by decide +kernel
theorem dX1_hasLocal_39 : decode cX1_hasLocal 39 = .ok (.aload_n 0, 1) := by decide +kernel
theorem dX1_hasLocal_40 : decode cX1_hasLocal 40 = .ok (.getfield 39, 3) := by decide +kernel
theorem dX1_hasLocal_43 : decode cX1_hasLocal 43 = .ok (.iload_n 2, 1) := by decide +kernel
theorem dX1_hasLocal_44 : decode cX1_hasLocal 44 = .ok (.bipush 28, 2) := by decide +kernel
theorem dX1_hasLocal_46 : decode cX1_hasLocal 46 = .ok (.iadd, 1) := by decide +kernel
theorem dX1_hasLocal_47 : decode cX1_hasLocal 47 = .ok (.invokevirtual 69, 3) := by decide +kernel
theorem dX1_hasLocal_50 : decode cX1_hasLocal 50 = .ok (.iadd, 1) := by decide +kernel
theorem dX1_hasLocal_51 : decode cX1_hasLocal 51 = .ok (.istore_n 3, 1) := by decide +kernel
theorem dX1_hasLocal_52 : decode cX1_hasLocal 52 = .ok (.aload_n 0, 1) := by decide +kernel
theorem dX1_hasLocal_53 : decode cX1_hasLocal 53 = .ok (.getfield 39, 3) := by decide +kernel
theorem dX1_hasLocal_56 : decode cX1_hasLocal 56 = .ok (.iload_n 2, 1) := by decide +kernel
theorem dX1_hasLocal_57 : decode cX1_hasLocal 57 = .ok (.invokevirtual 63, 3) := by decide +kernel
theorem dX1_hasLocal_60 : decode cX1_hasLocal 60 = .ok (.ldc2_w 125, 3) := by decide +kernel
theorem dX1_hasLocal_63 : decode cX1_hasLocal 63 = .ok (.lcmp, 1) := by decide +kernel
theorem dX1_hasLocal_64 : decode cX1_hasLocal 64 = .ok (.ifCond .ne 17, 3) := by decide +kernel
theorem dX1_hasLocal_67 : decode cX1_hasLocal 67 = .ok (.iload_n 2, 1) := by decide +kernel
theorem dX1_hasLocal_68 : decode cX1_hasLocal 68 = .ok (.iload_n 3, 1) := by decide +kernel
theorem dX1_hasLocal_69 : decode cX1_hasLocal 69 = .ok (.iadd, 1) := by decide +kernel
theorem dX1_hasLocal_70 : decode cX1_hasLocal 70 = .ok (.aload_n 0, 1) := by decide +kernel
theorem dX1_hasLocal_71 : decode cX1_hasLocal 71 = .ok (.getfield 27, 3) := by decide +kernel
theorem dX1_hasLocal_74 : decode cX1_hasLocal 74 = .ok (.if_icmp .gt 7, 3) := by decide +kernel
theorem dX1_hasLocal_77 : decode cX1_hasLocal 77 = .ok (.iconst 1, 1) := by decide +kernel
theorem dX1_hasLocal_78 : decode cX1_hasLocal 78 = .ok (.goto 4, 3) := by decide +kernel
theorem dX1_hasLocal_81 : decode cX1_hasLocal 81 = .ok (.iconst 0, 1) := by decide +kernel
theorem dX1_hasLocal_82 : decode cX1_hasLocal 82 = .ok (.ireturn, 1) := by decide +kernel
theorem dX1_isLocalAsTold_0 : decode cX1_isLocalAsTold 0 = .ok (.aload_n 1, 1) := by decide +kernel
theorem dX1_isLocalAsTold_1 : decode cX1_isLocalAsTold 1 = .ok (.getfield 104, 3) := by decide +kernel
theorem dX1_isLocalAsTold_4 : decode cX1_isLocalAsTold 4 = .ok (.l2i, 1) := by decide +kernel
theorem dX1_isLocalAsTold_5 : decode cX1_isLocalAsTold 5 = .ok (.istore_n 2, 1) := by decide +kernel
theorem dX1_isLocalAsTold_6 : decode cX1_isLocalAsTold 6 = .ok (.aload_n 0, 1) := by decide +kernel
theorem dX1_isLocalAsTold_7 : decode cX1_isLocalAsTold 7 = .ok (.getfield 39, 3) := by decide +kernel
theorem dX1_isLocalAsTold_10 : decode cX1_isLocalAsTold 10 = .ok (.iload_n 2, 1) := by decide +kernel
theorem dX1_isLocalAsTold_11 : decode cX1_isLocalAsTold 11 = .ok (.iconst 4, 1) := by decide +kernel
theorem dX1_isLocalAsTold_12 : decode cX1_isLocalAsTold 12 = .ok (.iadd, 1) := by decide +kernel
theorem dX1_isLocalAsTold_13 : decode cX1_isLocalAsTold 13 = .ok (.aload_n 1, 1) := by decide +kernel
theorem dX1_isLocalAsTold_14 : decode cX1_isLocalAsTold 14 = .ok (.getfield 94, 3) := by decide +kernel
theorem dX1_isLocalAsTold_17 : decode cX1_isLocalAsTold 17 = .ok (.bipush 6, 2) := by decide +kernel
theorem dX1_isLocalAsTold_19 : decode cX1_isLocalAsTold 19 = .ok (.iadd, 1) := by decide +kernel
theorem dX1_isLocalAsTold_20 : decode cX1_isLocalAsTold 20 = .ok (.bipush 10, 2) := by decide +kernel
theorem dX1_isLocalAsTold_22 : decode cX1_isLocalAsTold 22 = .ok (.invokevirtual 127, 3) := by decide +kernel
theorem dX1_isLocalAsTold_25 : decode cX1_isLocalAsTold 25 = .ok (.ifCond .eq 25, 3) := by decide +kernel
theorem dX1_isLocalAsTold_28 : decode cX1_isLocalAsTold 28 = .ok (.aload_n 0, 1) := by decide +kernel
theorem dX1_isLocalAsTold_29 : decode cX1_isLocalAsTold 29 = .ok (.getfield 39, 3) := by decide +kernel
theorem dX1_isLocalAsTold_32 : decode cX1_isLocalAsTold 32 = .ok (.iload_n 2, 1) := by decide +kernel
theorem dX1_isLocalAsTold_33 : decode cX1_isLocalAsTold 33 = .ok (.bipush 26, 2) := by decide +kernel
theorem dX1_isLocalAsTold_35 : decode cX1_isLocalAsTold 35 = .ok (.iadd, 1) := by decide +kernel
theorem dX1_isLocalAsTold_36 : decode cX1_isLocalAsTold 36 = .ok (.aload_n 1, 1) := by decide +kernel
theorem dX1_isLocalAsTold_37 : decode cX1_isLocalAsTold 37 = .ok (.getfield 94, 3) := by decide +kernel
theorem dX1_isLocalAsTold_40 : decode cX1_isLocalAsTold 40 = .ok (.bipush 28, 2) := by decide +kernel
theorem dX1_isLocalAsTold_42 : decode cX1_isLocalAsTold 42 = .ok (.iadd, 1) := by decide +kernel
theorem dX1_isLocalAsTold_43 : decode cX1_isLocalAsTold 43 = .ok (.iconst 4, 1) := by decide +kernel
theorem dX1_isLocalAsTold_44 : decode cX1_isLocalAsTold 44 = .ok (.invokevirtual 127, 3) := by decide +kernel
theorem dX1_isLocalAsTold_47 : decode cX1_isLocalAsTold 47 = .ok (.ifCond .ne 5, 3) := by decide +kernel
theorem dX1_isLocalAsTold_50 : decode cX1_isLocalAsTold 50 = .ok (.iconst 0, 1) := by decide +kernel
theorem dX1_isLocalAsTold_51 : decode cX1_isLocalAsTold 51 = .ok (.ireturn, 1) := by decide +kernel
theorem dX1_isLocalAsTold_52 : decode cX1_isLocalAsTold 52 = .ok (.aload_n 0, 1) := by decide +kernel
theorem dX1_isLocalAsTold_53 : decode cX1_isLocalAsTold 53 = .ok (.getfield 39, 3) := by decide +kernel
theorem dX1_isLocalAsTold_56 : decode cX1_isLocalAsTold 56 = .ok (.iload_n 2, 1) := by decide +kernel
theorem dX1_isLocalAsTold_57 : decode cX1_isLocalAsTold 57 = .ok (.bipush 30, 2) := by decide +kernel
theorem dX1_isLocalAsTold_59 : decode cX1_isLocalAsTold 59 = .ok (.iadd, 1) := by decide +kernel
theorem dX1_isLocalAsTold_60 : decode cX1_isLocalAsTold 60 = .ok (.aload_n 1, 1) := by decide +kernel
theorem dX1_isLocalAsTold_61 : decode cX1_isLocalAsTold 61 = .ok (.invokevirtual 131, 3) := by decide +kernel
theorem dX1_isLocalAsTold_64 : decode cX1_isLocalAsTold 64 = .ok (.aload_n 1, 1) := by decide +kernel
theorem dX1_isLocalAsTold_65 : decode cX1_isLocalAsTold 65 = .ok (.getfield 134, 3) := by decide +kernel
theorem dX1_isLocalAsTold_68 : decode cX1_isLocalAsTold 68 = .ok (.aload_n 1, 1) := by decide +kernel
theorem dX1_isLocalAsTold_69 : decode cX1_isLocalAsTold 69 = .ok (.getfield 137, 3) := by decide +kernel
theorem dX1_isLocalAsTold_72 : decode cX1_isLocalAsTold 72 = .ok (.iadd, 1) := by decide +kernel
theorem dX1_isLocalAsTold_73 : decode cX1_isLocalAsTold 73 = .ok (.invokevirtual 127, 3) := by decide +kernel
theorem dX1_isLocalAsTold_76 : decode cX1_isLocalAsTold 76 = .ok (.ifCond .ne 5, 3) := by decide +kernel
theorem dX1_isLocalAsTold_79 : decode cX1_isLocalAsTold 79 = .ok (.iconst 0, 1) := by decide +kernel
theorem dX1_isLocalAsTold_80 : decode cX1_isLocalAsTold 80 = .ok (.ireturn, 1) := by decide +kernel
theorem dX1_isLocalAsTold_81 : decode cX1_isLocalAsTold 81 = .ok (.aload_n 1, 1) := by decide +kernel
theorem dX1_isLocalAsTold_82 : decode cX1_isLocalAsTold 82 = .ok (.invokevirtual 140, 3) := by decide +kernel
theorem dX1_isLocalAsTold_85 : decode cX1_isLocalAsTold 85 = .ok (.iconst 1, 1) := by decide +kernel
theorem dX1_isLocalAsTold_86 : decode cX1_isLocalAsTold 86 = .ok (.if_icmp .ne 41, 3) := by decide +kernel
theorem dX1_isLocalAsTold_89 : decode cX1_isLocalAsTold 89 = .ok (.aload_n 0, 1) := by decide +kernel
theorem dX1_isLocalAsTold_90 : decode cX1_isLocalAsTold 90 = .ok (.getfield 39, 3) := by decide +kernel
theorem dX1_isLocalAsTold_93 : decode cX1_isLocalAsTold 93 = .ok (.iload_n 2, 1) := by decide +kernel
theorem dX1_isLocalAsTold_94 : decode cX1_isLocalAsTold 94 = .ok (.bipush 14, 2) := by decide +kernel
theorem dX1_isLocalAsTold_96 : decode cX1_isLocalAsTold 96 = .ok (.iadd, 1) := by decide +kernel
theorem dX1_isLocalAsTold_97 : decode cX1_isLocalAsTold 97 = .ok (.invokevirtual 63, 3) := by decide +kernel
theorem dX1_isLocalAsTold_100 : decode cX1_isLocalAsTold 100 = .ok (.lconst 0, 1) := by decide +kernel
theorem dX1_isLocalAsTold_101 : decode cX1_isLocalAsTold 101 = .ok (.lcmp, 1) := by decide +kernel
theorem dX1_isLocalAsTold_102 : decode cX1_isLocalAsTold 102 = .ok (.ifCond .ne 23, 3) := by decide +kernel
theorem dX1_isLocalAsTold_105 : decode cX1_isLocalAsTold 105 = .ok (.aload_n 0, 1) := by decide +kernel
theorem dX1_isLocalAsTold_106 : decode cX1_isLocalAsTold 106 = .ok (.getfield 39, 3) := by decide +kernel
theorem dX1_isLocalAsTold_109 : decode cX1_isLocalAsTold 109 = .ok (.iload_n 2, 1) := by decide +kernel
theorem dX1_isLocalAsTold_110 : decode cX1_isLocalAsTold 110 = .ok (.bipush 18, 2) := by decide +kernel
theorem dX1_isLocalAsTold_112 : decode cX1_isLocalAsTold 112 = .ok (.iadd, 1) := by decide +kernel
theorem dX1_isLocalAsTold_113 : decode cX1_isLocalAsTold 113 = .ok (.invokevirtual 143, 3) := by decide +kernel
theorem dX1_isLocalAsTold_116 : decode cX1_isLocalAsTold 116 = .ok (.lconst 0, 1) := by decide +kernel
theorem dX1_isLocalAsTold_117 : decode cX1_isLocalAsTold 117 = .ok (.lcmp, 1) := by decide +kernel
theorem dX1_isLocalAsTold_118 : decode cX1_isLocalAsTold 118 = .ok (.ifCond .ne 7, 3) := by decide +kernel
theorem dX1_isLocalAsTold_121 : decode cX1_isLocalAsTold 121 = .ok (.iconst 1, 1) := by decide +kernel
theorem dX1_isLocalAsTold_122 : decode cX1_isLocalAsTold 122 = .ok (.goto 4, 3) := by decide +kernel
theorem dX1_isLocalAsTold_125 : decode cX1_isLocalAsTold 125 = .ok (.iconst 0, 1) := by decide +kernel
theorem dX1_isLocalAsTold_126 : decode cX1_isLocalAsTold 126 = .ok (.ireturn, 1) := by decide +kernel
theorem dX1_isLocalAsTold_127 : decode cX1_isLocalAsTold 127 = .ok (.aload_n 0, 1) := by decide +kernel
theorem dX1_isLocalAsTold_128 : decode cX1_isLocalAsTold 128 = .ok (.getfield 39, 3) := by decide +kernel
theorem dX1_isLocalAsTold_131 : decode cX1_isLocalAsTold 131 = .ok (.iload_n 2, 1) := by decide +kernel
theorem dX1_isLocalAsTold_132 : decode cX1_isLocalAsTold 132 = .ok (.bipush 14, 2) := by decide +kernel
theorem dX1_isLocalAsTold_134 : decode cX1_isLocalAsTold 134 = .ok (.iadd, 1) := by decide +kernel
theorem dX1_isLocalAsTold_135 : decode cX1_isLocalAsTold 135 = .ok (.aload_n 1, 1) := by decide +kernel
theorem dX1_isLocalAsTold_136 : decode cX1_isLocalAsTold 136 = .ok (.getfield 94, 3) := by decide +kernel
theorem dX1_isLocalAsTold_139 : decode cX1_isLocalAsTold 139 = .ok (.bipush 16, 2) := by decide +kernel
theorem dX1_isLocalAsTold_141 : decode cX1_isLocalAsTold 141 = .ok (.iadd, 1) := by decide +kernel
theorem dX1_isLocalAsTold_142 : decode cX1_isLocalAsTold 142 = .ok (.bipush 12, 2) := by decide +kernel
theorem dX1_isLocalAsTold_144 : decode cX1_isLocalAsTold 144 = .ok (.invokevirtual 127, 3) := by decide +kernel
theorem dX1_isLocalAsTold_147 : decode cX1_isLocalAsTold 147 = .ok (.ireturn, 1) := by decide +kernel
theorem dX1_hasDataAsTold_0 : decode cX1_hasDataAsTold 0 = .ok (.aload_n 1, 1) := by decide +kernel
theorem dX1_hasDataAsTold_1 : decode cX1_hasDataAsTold 1 = .ok (.invokevirtual 114, 3) := by decide +kernel
theorem dX1_hasDataAsTold_4 : decode cX1_hasDataAsTold 4 = .ok (.aload_n 1, 1) := by decide +kernel
theorem dX1_hasDataAsTold_5 : decode cX1_hasDataAsTold 5 = .ok (.getfield 146, 3) := by decide +kernel
theorem dX1_hasDataAsTold_8 : decode cX1_hasDataAsTold 8 = .ok (.l2i, 1) := by decide +kernel
theorem dX1_hasDataAsTold_9 : decode cX1_hasDataAsTold 9 = .ok (.iadd, 1) := by decide +kernel
theorem dX1_hasDataAsTold_10 : decode cX1_hasDataAsTold 10 = .ok (.istore_n 2, 1) := by decide +kernel
theorem dX1_hasDataAsTold_11 : decode cX1_hasDataAsTold 11 = .ok (.aload_n 1, 1) := by decide +kernel
theorem dX1_hasDataAsTold_12 : decode cX1_hasDataAsTold 12 = .ok (.invokevirtual 140, 3) := by decide +kernel
theorem dX1_hasDataAsTold_15 : decode cX1_hasDataAsTold 15 = .ok (.iconst 1, 1) := by decide +kernel
theorem dX1_hasDataAsTold_16 : decode cX1_hasDataAsTold 16 = .ok (.if_icmp .ne 7, 3) := by decide +kernel
theorem dX1_hasDataAsTold_19 : decode cX1_hasDataAsTold 19 = .ok (.iconst 1, 1) := by decide +kernel
theorem dX1_hasDataAsTold_20 : decode cX1_hasDataAsTold 20 = .ok (.goto 4, 3) := by decide +kernel
theorem dX1_hasDataAsTold_23 : decode cX1_hasDataAsTold 23 = .ok (.iconst 0, 1) := by decide +kernel
theorem dX1_hasDataAsTold_24 : decode cX1_hasDataAsTold 24 = .ok (.istore_n 3, 1) := by decide +kernel
theorem dX1_hasDataAsTold_25 : decode cX1_hasDataAsTold 25 = .ok (.aload_n 1, 1) := by decide +kernel
theorem dX1_hasDataAsTold_26 : decode cX1_hasDataAsTold 26 = .ok (.iload_n 3, 1) := by decide +kernel
theorem dX1_hasDataAsTold_27 : decode cX1_hasDataAsTold 27 = .ok (.ifCond .eq 10, 3) := by decide +kernel
theorem dX1_hasDataAsTold_30 : decode cX1_hasDataAsTold 30 = .ok (.iload_n 2, 1) := by decide +kernel
theorem dX1_hasDataAsTold_31 : decode cX1_hasDataAsTold 31 = .ok (.bipush 16, 2) := by decide +kernel
theorem dX1_hasDataAsTold_33 : decode cX1_hasDataAsTold 33 = .ok (.iadd, 1) := by decide +kernel
theorem dX1_hasDataAsTold_34 : decode cX1_hasDataAsTold 34 = .ok (.goto 4, 3) := by decide +kernel
theorem dX1_hasDataAsTold_37 : decode cX1_hasDataAsTold 37 = .ok (.iload_n 2, 1) := by decide +kernel
theorem dX1_hasDataAsTold_38 : decode cX1_hasDataAsTold 38 = .ok (.putfield 149, 3) := by decide +kernel
theorem dX1_hasDataAsTold_41 : decode cX1_hasDataAsTold 41 = .ok (.aload_n 1, 1) := by decide +kernel
theorem dX1_hasDataAsTold_42 : decode cX1_hasDataAsTold 42 = .ok (.getfield 149, 3) := by decide +kernel
theorem dX1_hasDataAsTold_45 : decode cX1_hasDataAsTold 45 = .ok (.aload_n 0, 1) := by decide +kernel
theorem dX1_hasDataAsTold_46 : decode cX1_hasDataAsTold 46 = .ok (.getfield 27, 3) := by decide +kernel
theorem dX1_hasDataAsTold_49 : decode cX1_hasDataAsTold 49 = .ok (.if_icmp .le 5, 3) := by decide +kernel
theorem dX1_hasDataAsTold_52 : decode cX1_hasDataAsTold 52 = .ok (.iconst 0, 1) := by decide +kernel
theorem dX1_hasDataAsTold_53 : decode cX1_hasDataAsTold 53 = .ok (.ireturn, 1) := by decide +kernel
theorem dX1_hasDataAsTold_54 : decode cX1_hasDataAsTold 54 = .ok (.iload_n 3, 1) := by decide +kernel
theorem dX1_hasDataAsTold_55 : decode cX1_hasDataAsTold 55 = .ok (.ifCond .eq 40, 3) := by decide +kernel
theorem dX1_hasDataAsTold_58 : decode cX1_hasDataAsTold 58 = .ok (.aload_n 0, 1) := by decide +kernel
theorem dX1_hasDataAsTold_59 : decode cX1_hasDataAsTold 59 = .ok (.getfield 39, 3) := by decide +kernel
theorem dX1_hasDataAsTold_62 : decode cX1_hasDataAsTold 62 = .ok (.iload_n 2, 1) := by decide +kernel
theorem dX1_hasDataAsTold_63 : decode cX1_hasDataAsTold 63 = .ok (.invokevirtual 63, 3) := by decide +kernel
theorem dX1_hasDataAsTold_66 : decode cX1_hasDataAsTold 66 = .ok (.ldc2_w 152, 3) := by decide +kernel
theorem dX1_hasDataAsTold_69 : decode cX1_hasDataAsTold 69 = .ok (.lcmp, 1) := by decide +kernel
theorem dX1_hasDataAsTold_70 : decode cX1_hasDataAsTold 70 = .ok (.ifCond .ne 29, 3) := by decide +kernel
theorem dX1_hasDataAsTold_73 : decode cX1_hasDataAsTold 73 = .ok (.aload_n 0, 1) := by decide +kernel
theorem dX1_hasDataAsTold_74 : decode cX1_hasDataAsTold 74 = .ok (.getfield 39, 3) := by decide +kernel
theorem dX1_hasDataAsTold_77 : decode cX1_hasDataAsTold 77 = .ok (.iload_n 2, 1) := by decide +kernel
theorem dX1_hasDataAsTold_78 : decode cX1_hasDataAsTold 78 = .ok (.iconst 4, 1) := by decide +kernel
theorem dX1_hasDataAsTold_79 : decode cX1_hasDataAsTold 79 = .ok (.iadd, 1) := by decide +kernel
theorem dX1_hasDataAsTold_80 : decode cX1_hasDataAsTold 80 = .ok (.aload_n 1, 1) := by decide +kernel
theorem dX1_hasDataAsTold_81 : decode cX1_hasDataAsTold 81 = .ok (.getfield 94, 3) := by decide +kernel
theorem dX1_hasDataAsTold_84 : decode cX1_hasDataAsTold 84 = .ok (.bipush 16, 2) := by decide +kernel
theorem dX1_hasDataAsTold_86 : decode cX1_hasDataAsTold 86 = .ok (.iadd, 1) := by decide +kernel
theorem dX1_hasDataAsTold_87 : decode cX1_hasDataAsTold 87 = .ok (.bipush 12, 2) := by decide +kernel
theorem dX1_hasDataAsTold_89 : decode cX1_hasDataAsTold 89 = .ok (.invokevirtual 127, 3) := by decide +kernel
theorem dX1_hasDataAsTold_92 : decode cX1_hasDataAsTold 92 = .ok (.ifCond .eq 7, 3) := by decide +kernel
theorem dX1_hasDataAsTold_95 : decode cX1_hasDataAsTold 95 = .ok (.iconst 1, 1) := by decide +kernel
theorem dX1_hasDataAsTold_96 : decode cX1_hasDataAsTold 96 = .ok (.goto 4, 3) := by decide +kernel
theorem dX1_hasDataAsTold_99 : decode cX1_hasDataAsTold 99 = .ok (.iconst 0, 1) := by decide +kernel
theorem dX1_hasDataAsTold_100 : decode cX1_hasDataAsTold 100 = .ok (.ireturn, 1) := by decide +kernel
theorem dX1_sharesBytes_0 : decode cX1_sharesBytes 0 = .ok (.aload_n 0, 1) := by decide +kernel
theorem dX1_sharesBytes_1 : decode cX1_sharesBytes 1 = .ok (.getfield 11, 3) := by decide +kernel
theorem dX1_sharesBytes_4 : decode cX1_sharesBytes 4 = .ok (.iload_n 1, 1) := by decide +kernel
theorem dX1_sharesBytes_5 : decode cX1_sharesBytes 5 = .ok (.aaload, 1) := by decide +kernel
theorem dX1_sharesBytes_6 : decode cX1_sharesBytes 6 = .ok (.astore_n 2, 1) := by decide +kernel
theorem dX1_sharesBytes_7 : decode cX1_sharesBytes 7 = .ok (.iconst 0, 1) := by decide +kernel
theorem dX1_sharesBytes_8 : decode cX1_sharesBytes 8 = .ok (.istore_n 3, 1) := by decide +kernel
theorem dX1_sharesBytes_9 : decode cX1_sharesBytes 9 = .ok (.iload_n 3, 1) := by decide +kernel
theorem dX1_sharesBytes_10 : decode cX1_sharesBytes 10 = .ok (.iload_n 1, 1) := by decide +kernel
theorem dX1_sharesBytes_11 : decode cX1_sharesBytes 11 = .ok (.if_icmp .ge 47, 3) := by decide +kernel
theorem dX1_sharesBytes_14 : decode cX1_sharesBytes 14 = .ok (.aload_n 2, 1) := by decide +kernel
theorem dX1_sharesBytes_15 : decode cX1_sharesBytes 15 = .ok (.getfield 104, 3) := by decide +kernel
theorem dX1_sharesBytes_18 : decode cX1_sharesBytes 18 = .ok (.aload_n 0, 1) := by decide +kernel
theorem dX1_sharesBytes_19 : decode cX1_sharesBytes 19 = .ok (.getfield 11, 3) := by decide +kernel
theorem dX1_sharesBytes_22 : decode cX1_sharesBytes 22 = .ok (.iload_n 3, 1) := by decide +kernel
theorem dX1_sharesBytes_23 : decode cX1_sharesBytes 23 = .ok (.aaload, 1) := by decide +kernel
theorem dX1_sharesBytes_24 : decode cX1_sharesBytes 24 = .ok (.getfield 149, 3) := by decide +kernel
theorem dX1_sharesBytes_27 : decode cX1_sharesBytes 27 = .ok (.i2l, 1) := by decide +kernel
theorem dX1_sharesBytes_28 : decode cX1_sharesBytes 28 = .ok (.lcmp, 1) := by decide +kernel
theorem dX1_sharesBytes_29 : decode cX1_sharesBytes 29 = .ok (.ifCond .ge 23, 3) := by decide +kernel
theorem dX1_sharesBytes_32 : decode cX1_sharesBytes 32 = .ok (.aload_n 0, 1) := by decide +kernel
theorem dX1_sharesBytes_33 : decode cX1_sharesBytes 33 = .ok (.getfield 11, 3) := by decide +kernel
theorem dX1_sharesBytes_36 : decode cX1_sharesBytes 36 = .ok (.iload_n 3, 1) := by decide +kernel
theorem dX1_sharesBytes_37 : decode cX1_sharesBytes 37 = .ok (.aaload, 1) := by decide +kernel
theorem dX1_sharesBytes_38 : decode cX1_sharesBytes 38 = .ok (.getfield 104, 3) := by decide +kernel
theorem dX1_sharesBytes_41 : decode cX1_sharesBytes 41 = .ok (.aload_n 2, 1) := by decide +kernel
theorem dX1_sharesBytes_42 : decode cX1_sharesBytes 42 = .ok (.getfield 149, 3) := by decide +kernel
theorem dX1_sharesBytes_45 : decode cX1_sharesBytes 45 = .ok (.i2l, 1) := by decide +kernel
theorem dX1_sharesBytes_46 : decode cX1_sharesBytes 46 = .ok (.lcmp, 1) := by decide +kernel
theorem dX1_sharesBytes_47 : decode cX1_sharesBytes 47 = .ok (.ifCond .ge 5, 3) := by decide +kernel
theorem dX1_sharesBytes_50 : decode cX1_sharesBytes 50 = .ok (.iconst 1, 1) := by decide +kernel
theorem dX1_sharesBytes_51 : decode cX1_sharesBytes 51 = .ok (.ireturn, 1) := by decide +kernel
theorem dX1_sharesBytes_52 : decode cX1_sharesBytes 52 = .ok (.iinc 3 1, 3) := by decide +kernel
theorem dX1_sharesBytes_55 : decode cX1_sharesBytes 55 = .ok (.goto (-46), 3) := by decide +kernel
theorem dX1_sharesBytes_58 : decode cX1_sharesBytes 58 = .ok (.iconst 0, 1) := by decide +kernel
theorem dX1_sharesBytes_59 : decode cX1_sharesBytes 59 = .ok (.ireturn, 1) := by decide +kernel
theorem dX2_init_0 : decode cX2_init 0 = .ok (.aload_n 0, 1) := by decide +kernel
theorem dX2_init_1 : decode cX2_init 1 = .ok (.invokespecial 3, 3) := by decide +kernel
theorem dX2_init_4 : decode cX2_init 4 = .ok (.aload_n 0, 1) := by decide +kernel
theorem dX2_init_5 : decode cX2_init 5 = .ok (.iconst 0, 1) := by decide +kernel
theorem dX2_init_6 : decode cX2_init 6 = .ok (.putfield 9, 3) := by decide +kernel
theorem dX2_init_9 : decode cX2_init 9 = .ok (.aload_n 0, 1) := by decide +kernel
theorem dX2_init_10 : decode cX2_init 10 = .ok (.iconst 0, 1) := by decide +kernel
theorem dX2_init_11 : decode cX2_init 11 = .ok (.putfield 15, 3) := by decide +kernel
theorem dX2_init_14 : decode cX2_init 14 = .ok (.aload_n 0, 1) := by decide +kernel
theorem dX2_init_15 : decode cX2_init 15 = .ok (.iconst 0, 1) := by decide +kernel
theorem dX2_init_16 : decode cX2_init 16 = .ok (.putfield 18, 3) := by decide +kernel
theorem dX2_init_19 : decode cX2_init 19 = .ok (.aload_n 0, 1) := by decide +kernel
theorem dX2_init_20 : decode cX2_init 20 = .ok (.iconst 0, 1) := by decide +kernel
theorem dX2_init_21 : decode cX2_init 21 = .ok (.putfield 21, 3) := by decide +kernel
theorem dX2_init_24 : decode cX2_init 24 = .ok (.aload_n 0, 1) := by decide +kernel
theorem dX2_init_25 : decode cX2_init 25 = .ok (.iconst 0, 1) := by decide +kernel
theorem dX2_init_26 : decode cX2_init 26 = .ok (.putfield 24, 3) := by decide +kernel
theorem dX2_init_29 : decode cX2_init 29 = .ok (.aload_n 0, 1) := by decide +kernel
theorem dX2_init_30 : decode cX2_init 30 = .ok (.iconst 0, 1) := by decide +kernel
theorem dX2_init_31 : decode cX2_init 31 = .ok (.putfield 27, 3) := by decide +kernel
theorem dX2_init_34 : decode cX2_init 34 = .ok (.aload_n 0, 1) := by decide +kernel
theorem dX2_init_35 : decode cX2_init 35 = .ok (.iconst 0, 1) := by decide +kernel
theorem dX2_init_36 : decode cX2_init 36 = .ok (.putfield 30, 3) := by decide +kernel
theorem dX2_init_39 : decode cX2_init 39 = .ok (.aload_n 0, 1) := by decide +kernel
theorem dX2_init_40 : decode cX2_init 40 = .ok (.iconst 0, 1) := by decide +kernel
theorem dX2_init_41 : decode cX2_init 41 = .ok (.putfield 33, 3) := by decide +kernel
theorem dX2_init_44 : decode cX2_init 44 = .ok (.aload_n 0, 1) := by decide +kernel
theorem dX2_init_45 : decode cX2_init 45 = .ok (.iconst 0, 1) := by decide +kernel
theorem dX2_init_46 : decode cX2_init 46 = .ok (.putfield 36, 3) := by decide +kernel
theorem dX2_init_49 : decode cX2_init 49 = .ok (.aload_n 0, 1) := by decide +kernel
theorem dX2_init_50 : decode cX2_init 50 = .ok (.iconst 0, 1) := by decide +kernel
theorem dX2_init_51 : decode cX2_init 51 = .ok (.putfield 39, 3) := by decide +kernel
theorem dX2_init_54 : decode cX2_init 54 = .ok (.aload_n 0, 1) := by decide +kernel
theorem dX2_init_55 : decode cX2_init 55 = .ok (.iconst 0, 1) := by decide +kernel
theorem dX2_init_56 : decode cX2_init 56 = .ok (.putfield 42, 3) := by decide +kernel
theorem dX2_init_59 : decode cX2_init 59 = .ok (.aload_n 0, 1) := by decide +kernel
theorem dX2_init_60 : decode cX2_init 60 = .ok (.iconst 0, 1) := by decide +kernel
theorem dX2_init_61 : decode cX2_init 61 = .ok (.putfield 46, 3) := by decide +kernel
theorem dX2_init_64 : decode cX2_init 64 = .ok (.aload_n 0, 1) := by decide +kernel
theorem dX2_init_65 : decode cX2_init 65 = .ok (.lconst 0, 1) := by decide +kernel
theorem dX2_init_66 : decode cX2_init 66 = .ok (.putfield 49, 3) := by decide +kernel
theorem dX2_init_69 : decode cX2_init 69 = .ok (.aload_n 0, 1) := by decide +kernel
theorem dX2_init_70 : decode cX2_init 70 = .ok (.lconst 0, 1) := by decide +kernel
theorem dX2_init_71 : decode cX2_init 71 = .ok (.putfield 53, 3) := by decide +kernel
theorem dX2_init_74 : decode cX2_init 74 = .ok (.aload_n 0, 1) := by decide +kernel
theorem dX2_init_75 : decode cX2_init 75 = .ok (.lconst 0, 1) := by decide +kernel
theorem dX2_init_76 : decode cX2_init 76 = .ok (.putfield 56, 3) := by decide +kernel
theorem dX2_init_79 : decode cX2_init 79 = .ok (.aload_n 0, 1) := by decide +kernel
theorem dX2_init_80 : decode cX2_init 80 = .ok (.lconst 0, 1) := by decide +kernel
theorem dX2_init_81 : decode cX2_init 81 = .ok (.putfield 59, 3) := by decide +kernel
theorem dX2_init_84 : decode cX2_init 84 = .ok (.aload_n 0, 1) := by decide +kernel
theorem dX2_init_85 : decode cX2_init 85 = .ok (.lconst 0, 1) := by decide +kernel
theorem dX2_init_86 : decode cX2_init 86 = .ok (.putfield 62, 3) := by decide +kernel
theorem dX2_init_89 : decode cX2_init 89 = .ok (.aload_n 0, 1) := by decide +kernel
theorem dX2_init_90 : decode cX2_init 90 = .ok (.lconst 0, 1) := by decide +kernel
theorem dX2_init_91 : decode cX2_init 91 = .ok (.putfield 65, 3) := by decide +kernel
theorem dX2_init_94 : decode cX2_init 94 = .ok (.aload_n 0, 1) := by decide +kernel
theorem dX2_init_95 : decode cX2_init 95 = .ok (.iconst 0, 1) := by decide +kernel
theorem dX2_init_96 : decode cX2_init 96 = .ok (.putfield 68, 3) := by decide +kernel
theorem dX2_init_99 : decode cX2_init 99 = .ok (.return_, 1) := by decide +kernel
theorem dX2_takeFixed_0 : decode cX2_takeFixed 0 = .ok (.aload_n 0, 1) := by decide +kernel
theorem dX2_takeFixed_1 : decode cX2_takeFixed 1 = .ok (.iload_n 2, 1) := by decide +kernel
theorem dX2_takeFixed_2 : decode cX2_takeFixed 2 = .ok (.putfield 9, 3) := by decide +kernel
theorem dX2_takeFixed_5 : decode cX2_takeFixed 5 = .ok (.aload_n 0, 1) := by decide +kernel
theorem dX2_takeFixed_6 : decode cX2_takeFixed 6 = .ok (.aload_n 1, 1) := by decide +kernel
theorem dX2_takeFixed_7 : decode cX2_takeFixed 7 = .ok (.aload_n 0, 1) := by decide +kernel
theorem dX2_takeFixed_8 : decode cX2_takeFixed 8 = .ok (.getfield 9, 3) := by decide +kernel
theorem dX2_takeFixed_11 : decode cX2_takeFixed 11 = .ok (.bipush 8, 2) := by decide +kernel
theorem dX2_takeFixed_13 : decode cX2_takeFixed 13 = .ok (.iadd, 1) := by decide +kernel
theorem dX2_takeFixed_14 : decode cX2_takeFixed 14 = .ok (.invokevirtual 71, 3) := by decide +kernel
theorem dX2_takeFixed_17 : decode cX2_takeFixed 17 = .ok (.putfield 15, 3) := by decide +kernel
theorem dX2_takeFixed_20 : decode cX2_takeFixed 20 = .ok (.aload_n 0, 1) := by decide +kernel
theorem dX2_takeFixed_21 : decode cX2_takeFixed 21 = .ok (.aload_n 1, 1) := by decide +kernel
theorem dX2_takeFixed_22 : decode cX2_takeFixed 22 = .ok (.aload_n 0, 1) := by decide +kernel
theorem dX2_takeFixed_23 : decode cX2_takeFixed 23 = .ok (.getfield 9, 3) := by decide +kernel
theorem dX2_takeFixed_26 : decode cX2_takeFixed 26 = .ok (.bipush 10, 2) := by decide +kernel
theorem dX2_takeFixed_28 : decode cX2_takeFixed 28 = .ok (.iadd, 1) := by decide +kernel
theorem dX2_takeFixed_29 : decode cX2_takeFixed 29 = .ok (.invokevirtual 71, 3) := by decide +kernel
theorem dX2_takeFixed_32 : decode cX2_takeFixed 32 = .ok (.putfield 18, 3) := by decide +kernel
theorem dX2_takeFixed_35 : decode cX2_takeFixed 35 = .ok (.aload_n 0, 1) := by decide +kernel
theorem dX2_takeFixed_36 : decode cX2_takeFixed 36 = .ok (.aload_n 1, 1) := by decide +kernel
theorem dX2_takeFixed_37 : decode cX2_takeFixed 37 = .ok (.aload_n 0, 1) := by decide +kernel
theorem dX2_takeFixed_38 : decode cX2_takeFixed 38 = .ok (.getfield 9, 3) := by decide +kernel
theorem dX2_takeFixed_41 : decode cX2_takeFixed 41 = .ok (.bipush 12, 2) := by decide +kernel
theorem dX2_takeFixed_43 : decode cX2_takeFixed 43 = .ok (.iadd, 1) := by decide +kernel
theorem dX2_takeFixed_44 : decode cX2_takeFixed 44 = .ok (.invokevirtual 71, 3) := by decide +kernel
theorem dX2_takeFixed_47 : decode cX2_takeFixed 47 = .ok (.putfield 21, 3) := by decide +kernel
theorem dX2_takeFixed_50 : decode cX2_takeFixed 50 = .ok (.aload_n 0, 1) := by decide +kernel
theorem dX2_takeFixed_51 : decode cX2_takeFixed 51 = .ok (.aload_n 1, 1) := by decide +kernel
theorem dX2_takeFixed_52 : decode cX2_takeFixed 52 = .ok (.aload_n 0, 1) := by decide +kernel
theorem dX2_takeFixed_53 : decode cX2_takeFixed 53 = .ok (.getfield 9, 3) := by decide +kernel
theorem dX2_takeFixed_56 : decode cX2_takeFixed 56 = .ok (.bipush 14, 2) := by decide +kernel
theorem dX2_takeFixed_58 : decode cX2_takeFixed 58 = .ok (.iadd, 1) := by decide +kernel
theorem dX2_takeFixed_59 : decode cX2_takeFixed 59 = .ok (.invokevirtual 71, 3) := by decide +kernel
theorem dX2_takeFixed_62 : decode cX2_takeFixed 62 = .ok (.putfield 24, 3) := by decide +kernel
theorem dX2_takeFixed_65 : decode cX2_takeFixed 65 = .ok (.aload_n 0, 1) := by decide +kernel
theorem dX2_takeFixed_66 : decode cX2_takeFixed 66 = .ok (.aload_n 1, 1) := by decide +kernel
theorem dX2_takeFixed_67 : decode cX2_takeFixed 67 = .ok (.aload_n 0, 1) := by decide +kernel
theorem dX2_takeFixed_68 : decode cX2_takeFixed 68 = .ok (.getfield 9, 3) := by decide +kernel
theorem dX2_takeFixed_71 : decode cX2_takeFixed 71 = .ok (.bipush 16, 2) := by decide +kernel
theorem dX2_takeFixed_73 : decode cX2_takeFixed 73 = .ok (.iadd, 1) := by decide +kernel
theorem dX2_takeFixed_74 : decode cX2_takeFixed 74 = .ok (.invokevirtual 77, 3) := by decide +kernel
theorem dX2_takeFixed_77 : decode cX2_takeFixed 77 = .ok (.putfield 49, 3) := by decide +kernel
theorem dX2_takeFixed_80 : decode cX2_takeFixed 80 = .ok (.aload_n 0, 1) := by decide +kernel
theorem dX2_takeFixed_81 : decode cX2_takeFixed 81 = .ok (.aload_n 1, 1) := by decide +kernel
theorem dX2_takeFixed_82 : decode cX2_takeFixed 82 = .ok (.aload_n 0, 1) := by decide +kernel
theorem dX2_takeFixed_83 : decode cX2_takeFixed 83 = .ok (.getfield 9, 3) := by decide +kernel
theorem dX2_takeFixed_86 : decode cX2_takeFixed 86 = .ok (.bipush 20, 2) := by decide +kernel
theorem dX2_takeFixed_88 : decode cX2_takeFixed 88 = .ok (.iadd, 1) := by decide +kernel
theorem dX2_takeFixed_89 : decode cX2_takeFixed 89 = .ok (.invokevirtual 77, 3) := by decide +kernel
theorem dX2_takeFixed_92 : decode cX2_takeFixed 92 = .ok (.putfield 53, 3) := by decide +kernel
theorem dX2_takeFixed_95 : decode cX2_takeFixed 95 = .ok (.aload_n 0, 1) := by decide +kernel
theorem dX2_takeFixed_96 : decode cX2_takeFixed 96 = .ok (.aload_n 1, 1) := by decide +kernel
theorem dX2_takeFixed_97 : decode cX2_takeFixed 97 = .ok (.aload_n 0, 1) := by decide +kernel
theorem dX2_takeFixed_98 : decode cX2_takeFixed 98 = .ok (.getfield 9, 3) := by decide +kernel
theorem dX2_takeFixed_101 : decode cX2_takeFixed 101 = .ok (.bipush 24, 2) := by decide +kernel
theorem dX2_takeFixed_103 : decode cX2_takeFixed 103 = .ok (.iadd, 1) := by decide +kernel
theorem dX2_takeFixed_104 : decode cX2_takeFixed 104 = .ok (.invokevirtual 77, 3) := by decide +kernel
theorem dX2_takeFixed_107 : decode cX2_takeFixed 107 = .ok (.putfield 56, 3) := by decide +kernel
theorem dX2_takeFixed_110 : decode cX2_takeFixed 110 = .ok (.aload_n 0, 1) := by decide +kernel
theorem dX2_takeFixed_111 : decode cX2_takeFixed 111 = .ok (.aload_n 1, 1) := by decide +kernel
theorem dX2_takeFixed_112 : decode cX2_takeFixed 112 = .ok (.aload_n 0, 1) := by decide +kernel
theorem dX2_takeFixed_113 : decode cX2_takeFixed 113 = .ok (.getfield 9, 3) := by decide +kernel
theorem dX2_takeFixed_116 : decode cX2_takeFixed 116 = .ok (.bipush 28, 2) := by decide +kernel
theorem dX2_takeFixed_118 : decode cX2_takeFixed 118 = .ok (.iadd, 1) := by decide +kernel
theorem dX2_takeFixed_119 : decode cX2_takeFixed 119 = .ok (.invokevirtual 71, 3) := by decide +kernel
theorem dX2_takeFixed_122 : decode cX2_takeFixed 122 = .ok (.putfield 30, 3) := by decide +kernel
theorem dX2_takeFixed_125 : decode cX2_takeFixed 125 = .ok (.aload_n 0, 1) := by decide +kernel
theorem dX2_takeFixed_126 : decode cX2_takeFixed 126 = .ok (.aload_n 1, 1) := by decide +kernel
theorem dX2_takeFixed_127 : decode cX2_takeFixed 127 = .ok (.aload_n 0, 1) := by decide +kernel
theorem dX2_takeFixed_128 : decode cX2_takeFixed 128 = .ok (.getfield 9, 3) := by decide +kernel
theorem dX2_takeFixed_131 : decode cX2_takeFixed 131 = .ok (.bipush 30, 2) := by decide +kernel
theorem dX2_takeFixed_133 : decode cX2_takeFixed 133 = .ok (.iadd, 1) := by decide +kernel
theorem dX2_takeFixed_134 : decode cX2_takeFixed 134 = .ok (.invokevirtual 71, 3) := by decide +kernel
theorem dX2_takeFixed_137 : decode cX2_takeFixed 137 = .ok (.putfield 33, 3) := by decide +kernel
theorem dX2_takeFixed_140 : decode cX2_takeFixed 140 = .ok (.aload_n 0, 1) := by decide +kernel
theorem dX2_takeFixed_141 : decode cX2_takeFixed 141 = .ok (.aload_n 1, 1) := by decide +kernel
theorem dX2_takeFixed_142 : decode cX2_takeFixed 142 = .ok (.aload_n 0, 1) := by decide +kernel
theorem dX2_takeFixed_143 : decode cX2_takeFixed 143 = .ok (.getfield 9, 3) := by decide +kernel
theorem dX2_takeFixed_146 : decode cX2_takeFixed 146 = .ok (.bipush 38, 2) := by decide +kernel
theorem dX2_takeFixed_148 : decode cX2_takeFixed 148 = .ok (.iadd, 1) := by decide +kernel
theorem dX2_takeFixed_149 : decode cX2_takeFixed 149 = .ok (.invokevirtual 77, 3) := by decide +kernel
theorem dX2_takeFixed_152 : decode cX2_takeFixed 152 = .ok (.l2i, 1) := by decide +kernel
theorem dX2_takeFixed_153 : decode cX2_takeFixed 153 = .ok (.putfield 27, 3) := by decide +kernel
theorem dX2_takeFixed_156 : decode cX2_takeFixed 156 = .ok (.aload_n 0, 1) := by decide +kernel
theorem dX2_takeFixed_157 : decode cX2_takeFixed 157 = .ok (.aload_n 1, 1) := by decide +kernel
theorem dX2_takeFixed_158 : decode cX2_takeFixed 158 = .ok (.aload_n 0, 1) := by decide +kernel
theorem dX2_takeFixed_159 : decode cX2_takeFixed 159 = .ok (.getfield 9, 3) := by decide +kernel
theorem dX2_takeFixed_162 : decode cX2_takeFixed 162 = .ok (.bipush 42, 2) := by decide +kernel
theorem dX2_takeFixed_164 : decode cX2_takeFixed 164 = .ok (.iadd, 1) := by decide +kernel
theorem dX2_takeFixed_165 : decode cX2_takeFixed 165 = .ok (.invokevirtual 77, 3) := by decide +kernel
theorem dX2_takeFixed_168 : decode cX2_takeFixed 168 = .ok (.putfield 65, 3) := by decide +kernel
theorem dX2_takeFixed_171 : decode cX2_takeFixed 171 = .ok (.aload_n 0, 1) := by decide +kernel
theorem dX2_takeFixed_172 : decode cX2_takeFixed 172 = .ok (.aload_n 0, 1) := by decide +kernel
theorem dX2_takeFixed_173 : decode cX2_takeFixed 173 = .ok (.getfield 30, 3) := by decide +kernel
theorem dX2_takeFixed_176 : decode cX2_takeFixed 176 = .ok (.ifCond .le 27, 3) := by decide +kernel
theorem dX2_takeFixed_179 : decode cX2_takeFixed 179 = .ok (.aload_n 1, 1) := by decide +kernel
theorem dX2_takeFixed_180 : decode cX2_takeFixed 180 = .ok (.aload_n 0, 1) := by decide +kernel
theorem dX2_takeFixed_181 : decode cX2_takeFixed 181 = .ok (.invokevirtual 81, 3) := by decide +kernel
theorem dX2_takeFixed_184 : decode cX2_takeFixed 184 = .ok (.aload_n 0, 1) := by decide +kernel
theorem dX2_takeFixed_185 : decode cX2_takeFixed 185 = .ok (.getfield 30, 3) := by decide +kernel
theorem dX2_takeFixed_188 : decode cX2_takeFixed 188 = .ok (.iadd, 1) := by decide +kernel
theorem dX2_takeFixed_189 : decode cX2_takeFixed 189 = .ok (.iconst 1, 1) := by decide +kernel
theorem dX2_takeFixed_190 : decode cX2_takeFixed 190 = .ok (.isub, 1) := by decide +kernel
theorem dX2_takeFixed_191 : decode cX2_takeFixed 191 = .ok (.invokevirtual 85, 3) := by decide +kernel
theorem dX2_takeFixed_194 : decode cX2_takeFixed 194 = .ok (.bipush 47, 2) := by decide +kernel
theorem dX2_takeFixed_196 : decode cX2_takeFixed 196 = .ok (.if_icmp .ne 7, 3) := by decide +kernel
theorem dX2_takeFixed_199 : decode cX2_takeFixed 199 = .ok (.iconst 1, 1) := by decide +kernel
theorem dX2_takeFixed_200 : decode cX2_takeFixed 200 = .ok (.goto 4, 3) := by decide +kernel
theorem dX2_takeFixed_203 : decode cX2_takeFixed 203 = .ok (.iconst 0, 1) := by decide +kernel
theorem dX2_takeFixed_204 : decode cX2_takeFixed 204 = .ok (.putfield 46, 3) := by decide +kernel
theorem dX2_takeFixed_207 : decode cX2_takeFixed 207 = .ok (.return_, 1) := by decide +kernel
theorem dX2_namePlace_0 : decode cX2_namePlace 0 = .ok (.aload_n 0, 1) := by decide +kernel
theorem dX2_namePlace_1 : decode cX2_namePlace 1 = .ok (.getfield 9, 3) := by decide +kernel
theorem dX2_namePlace_4 : decode cX2_namePlace 4 = .ok (.bipush 46, 2) := by decide +kernel
theorem dX2_namePlace_6 : decode cX2_namePlace 6 = .ok (.iadd, 1) := by decide +kernel
theorem dX2_namePlace_7 : decode cX2_namePlace 7 = .ok (.ireturn, 1) := by decide +kernel
theorem dX2_endPlace_0 : decode cX2_endPlace 0 = .ok (.aload_n 0, 1) := by decide +kernel
theorem dX2_endPlace_1 : decode cX2_endPlace 1 = .ok (.getfield 9, 3) := by decide +kernel
theorem dX2_endPlace_4 : decode cX2_endPlace 4 = .ok (.bipush 46, 2) := by decide +kernel
theorem dX2_endPlace_6 : decode cX2_endPlace 6 = .ok (.iadd, 1) := by decide +kernel
theorem dX2_endPlace_7 : decode cX2_endPlace 7 = .ok (.aload_n 0, 1) := by decide +kernel
theorem dX2_endPlace_8 : decode cX2_endPlace 8 = .ok (.getfield 30, 3) := by decide +kernel
theorem dX2_endPlace_11 : decode cX2_endPlace 11 = .ok (.iadd, 1) := by decide +kernel
theorem dX2_endPlace_12 : decode cX2_endPlace 12 = .ok (.aload_n 0, 1) := by decide +kernel
theorem dX2_endPlace_13 : decode cX2_endPlace 13 = .ok (.getfield 33, 3) := by decide +kernel
theorem dX2_endPlace_16 : decode cX2_endPlace 16 = .ok (.iadd, 1) := by decide +kernel
theorem dX2_endPlace_17 : decode cX2_endPlace 17 = .ok (.ireturn, 1) := by decide +kernel
theorem dX2_dataPlace_0 : decode cX2_dataPlace 0 = .ok (.aload_n 0, 1) := by decide +kernel
theorem dX2_dataPlace_1 : decode cX2_dataPlace 1 = .ok (.getfield 65, 3) := by decide +kernel
theorem dX2_dataPlace_4 : decode cX2_dataPlace 4 = .ok (.l2i, 1) := by decide +kernel
theorem dX2_dataPlace_5 : decode cX2_dataPlace 5 = .ok (.bipush 30, 2) := by decide +kernel
theorem dX2_dataPlace_7 : decode cX2_dataPlace 7 = .ok (.iadd, 1) := by decide +kernel
theorem dX2_dataPlace_8 : decode cX2_dataPlace 8 = .ok (.aload_n 0, 1) := by decide +kernel
theorem dX2_dataPlace_9 : decode cX2_dataPlace 9 = .ok (.getfield 30, 3) := by decide +kernel
theorem dX2_dataPlace_12 : decode cX2_dataPlace 12 = .ok (.iadd, 1) := by decide +kernel
theorem dX2_dataPlace_13 : decode cX2_dataPlace 13 = .ok (.aload_n 0, 1) := by decide +kernel
theorem dX2_dataPlace_14 : decode cX2_dataPlace 14 = .ok (.getfield 33, 3) := by decide +kernel
theorem dX2_dataPlace_17 : decode cX2_dataPlace 17 = .ok (.iadd, 1) := by decide +kernel
theorem dX2_dataPlace_18 : decode cX2_dataPlace 18 = .ok (.ireturn, 1) := by decide +kernel
theorem dX2_kind_0 : decode cX2_kind 0 = .ok (.aload_n 0, 1) := by decide +kernel
theorem dX2_kind_1 : decode cX2_kind 1 = .ok (.getfield 46, 3) := by decide +kernel
theorem dX2_kind_4 : decode cX2_kind 4 = .ok (.ifCond .eq 5, 3) := by decide +kernel
theorem dX2_kind_7 : decode cX2_kind 7 = .ok (.iconst 2, 1) := by decide +kernel
theorem dX2_kind_8 : decode cX2_kind 8 = .ok (.ireturn, 1) := by decide +kernel
theorem dX2_kind_9 : decode cX2_kind 9 = .ok (.aload_n 0, 1) := by decide +kernel
theorem dX2_kind_10 : decode cX2_kind 10 = .ok (.getfield 18, 3) := by decide +kernel
theorem dX2_kind_13 : decode cX2_kind 13 = .ok (.bipush 8, 2) := by decide +kernel
theorem dX2_kind_15 : decode cX2_kind 15 = .ok (.if_icmp .ne 7, 3) := by decide +kernel
theorem dX2_kind_18 : decode cX2_kind 18 = .ok (.iconst 1, 1) := by decide +kernel
theorem dX2_kind_19 : decode cX2_kind 19 = .ok (.goto 4, 3) := by decide +kernel
theorem dX2_kind_22 : decode cX2_kind 22 = .ok (.iconst 0, 1) := by decide +kernel
theorem dX2_kind_23 : decode cX2_kind 23 = .ok (.ireturn, 1) := by decide +kernel
theorem dX2_form_0 : decode cX2_form 0 = .ok (.aload_n 0, 1) := by decide +kernel
theorem dX2_form_1 : decode cX2_form 1 = .ok (.getfield 42, 3) := by decide +kernel
theorem dX2_form_4 : decode cX2_form 4 = .ok (.ifCond .eq 5, 3) := by decide +kernel
theorem dX2_form_7 : decode cX2_form 7 = .ok (.iconst 2, 1) := by decide +kernel
theorem dX2_form_8 : decode cX2_form 8 = .ok (.ireturn, 1) := by decide +kernel
theorem dX2_form_9 : decode cX2_form 9 = .ok (.aload_n 0, 1) := by decide +kernel
theorem dX2_form_10 : decode cX2_form 10 = .ok (.getfield 15, 3) := by decide +kernel
theorem dX2_form_13 : decode cX2_form 13 = .ok (.bipush 8, 2) := by decide +kernel
theorem dX2_form_15 : decode cX2_form 15 = .ok (.if_icmp .ne 7, 3) := by decide +kernel
theorem dX2_form_18 : decode cX2_form 18 = .ok (.iconst 1, 1) := by decide +kernel
theorem dX2_form_19 : decode cX2_form 19 = .ok (.goto 4, 3) := by decide +kernel
theorem dX2_form_22 : decode cX2_form 22 = .ok (.iconst 0, 1) := by decide +kernel
theorem dX2_form_23 : decode cX2_form 23 = .ok (.ireturn, 1) := by decide +kernel
theorem dX2_hasKnownForm_0 : decode cX2_hasKnownForm 0 = .ok (.aload_n 0, 1) := by decide +kernel
theorem dX2_hasKnownForm_1 : decode cX2_hasKnownForm 1 = .ok (.getfield 18, 3) := by decide +kernel
theorem dX2_hasKnownForm_4 : decode cX2_hasKnownForm 4 = .ok (.ifCond .eq 12, 3) := by decide +kernel
theorem dX2_hasKnownForm_7 : decode cX2_hasKnownForm 7 = .ok (.aload_n 0, 1) := by decide +kernel
theorem dX2_hasKnownForm_8 : decode cX2_hasKnownForm 8 = .ok (.getfield 18, 3) := by decide +kernel
theorem dX2_hasKnownForm_11 : decode cX2_hasKnownForm 11 = .ok (.bipush 8, 2) := by decide +kernel
theorem dX2_hasKnownForm_13 : decode cX2_hasKnownForm 13 = .ok (.if_icmp .ne 19, 3) := by decide +kernel
theorem dX2_hasKnownForm_16 : decode cX2_hasKnownForm 16 = .ok (.aload_n 0, 1) := by decide +kernel
theorem dX2_hasKnownForm_17 : decode cX2_hasKnownForm 17 = .ok (.getfield 15, 3) := by decide +kernel
theorem dX2_hasKnownForm_20 : decode cX2_hasKnownForm 20 = .ok (.ifCond .eq 14, 3) := by decide +kernel
theorem dX2_hasKnownForm_23 : decode cX2_hasKnownForm 23 = .ok (.aload_n 0, 1) := by decide +kernel
theorem dX2_hasKnownForm_24 : decode cX2_hasKnownForm 24 = .ok (.getfield 15, 3) := by decide +kernel
theorem dX2_hasKnownForm_27 : decode cX2_hasKnownForm 27 = .ok (.bipush 8, 2) := by decide +kernel
theorem dX2_hasKnownForm_29 : decode cX2_hasKnownForm 29 = .ok (.if_icmp .eq 5, 3) := by decide +kernel
theorem dX2_hasKnownForm_32 : decode cX2_hasKnownForm 32 = .ok (.iconst 0, 1) := by decide +kernel
theorem dX2_hasKnownForm_33 : decode cX2_hasKnownForm 33 = .ok (.ireturn, 1) := by decide +kernel
theorem dX2_hasKnownForm_34 : decode cX2_hasKnownForm 34 = .ok (.aload_n 0, 1) := by decide +kernel
theorem dX2_hasKnownForm_35 : decode cX2_hasKnownForm 35 = .ok (.getfield 30, 3) := by decide +kernel
theorem dX2_hasKnownForm_38 : decode cX2_hasKnownForm 38 = .ok (.iconst 1, 1) := by decide +kernel
theorem dX2_hasKnownForm_39 : decode cX2_hasKnownForm 39 = .ok (.if_icmp .lt 24, 3) := by decide +kernel
theorem dX2_hasKnownForm_42 : decode cX2_hasKnownForm 42 = .ok (.aload_n 0, 1) := by decide +kernel
theorem dX2_hasKnownForm_43 : decode cX2_hasKnownForm 43 = .ok (.getfield 30, 3) := by decide +kernel
theorem dX2_hasKnownForm_46 : decode cX2_hasKnownForm 46 = .ok (.bipush 16, 2) := by decide +kernel
theorem dX2_hasKnownForm_48 : decode cX2_hasKnownForm 48 = .ok (.if_icmp .gt 15, 3) := by decide +kernel
theorem dX2_hasKnownForm_51 : decode cX2_hasKnownForm 51 = .ok (.aload_n 0, 1) := by decide +kernel
theorem dX2_hasKnownForm_52 : decode cX2_hasKnownForm 52 = .ok (.aload_n 1, 1) := by decide +kernel
theorem dX2_hasKnownForm_53 : decode cX2_hasKnownForm 53 = .ok (.invokevirtual 88, 3) := by decide +kernel
theorem dX2_hasKnownForm_56 : decode cX2_hasKnownForm 56 = .ok (.ifCond .eq 7, 3) := by decide +kernel
theorem dX2_hasKnownForm_59 : decode cX2_hasKnownForm 59 = .ok (.iconst 1, 1) := by decide +kernel
theorem dX2_hasKnownForm_60 : decode cX2_hasKnownForm 60 = .ok (.goto 4, 3) := by decide +kernel
theorem dX2_hasKnownForm_63 : decode cX2_hasKnownForm 63 = .ok (.iconst 0, 1) := by decide +kernel
theorem dX2_hasKnownForm_64 : decode cX2_hasKnownForm 64 = .ok (.ireturn, 1) := by decide +kernel
theorem dX2_takeExtra_0 : decode cX2_takeExtra 0 = .ok (.aload_n 0, 1) := by decide +kernel
theorem dX2_takeExtra_1 : decode cX2_takeExtra 1 = .ok (.invokevirtual 92, 3) := by decide +kernel
theorem dX2_takeExtra_4 : decode cX2_takeExtra 4 = .ok (.istore_n 2, 1) := by decide +kernel
theorem dX2_takeExtra_5 : decode cX2_takeExtra 5 = .ok (.aload_n 0, 1) := by decide +kernel
theorem dX2_takeExtra_6 : decode cX2_takeExtra 6 = .ok (.invokevirtual 81, 3) := by decide +kernel
theorem dX2_takeExtra_9 : decode cX2_takeExtra 9 = .ok (.aload_n 0, 1) := by decide +kernel
theorem dX2_takeExtra_10 : decode cX2_takeExtra 10 = .ok (.getfield 30, 3) := by decide +kernel
theorem dX2_takeExtra_13 : decode cX2_takeExtra 13 = .ok (.iadd, 1) := by decide +kernel
theorem dX2_takeExtra_14 : decode cX2_takeExtra 14 = .ok (.istore_n 3, 1) := by decide +kernel
theorem dX2_takeExtra_15 : decode cX2_takeExtra 15 = .ok (.aload_n 0, 1) := by decide +kernel
theorem dX2_takeExtra_16 : decode cX2_takeExtra 16 = .ok (.aload_n 0, 1) := by decide +kernel
theorem dX2_takeExtra_17 : decode cX2_takeExtra 17 = .ok (.getfield 33, 3) := by decide +kernel
theorem dX2_takeExtra_20 : decode cX2_takeExtra 20 = .ok (.bipush 20, 2) := by decide +kernel
theorem dX2_takeExtra_22 : decode cX2_takeExtra 22 = .ok (.if_icmp .lt 28, 3) := by decide +kernel
theorem dX2_takeExtra_25 : decode cX2_takeExtra 25 = .ok (.aload_n 1, 1) := by decide +kernel
theorem dX2_takeExtra_26 : decode cX2_takeExtra 26 = .ok (.iload_n 3, 1) := by decide +kernel
theorem dX2_takeExtra_27 : decode cX2_takeExtra 27 = .ok (.invokevirtual 71, 3) := by decide +kernel
theorem dX2_takeExtra_30 : decode cX2_takeExtra 30 = .ok (.iconst 1, 1) := by decide +kernel
theorem dX2_takeExtra_31 : decode cX2_takeExtra 31 = .ok (.if_icmp .ne 19, 3) := by decide +kernel
theorem dX2_takeExtra_34 : decode cX2_takeExtra 34 = .ok (.aload_n 1, 1) := by decide +kernel
theorem dX2_takeExtra_35 : decode cX2_takeExtra 35 = .ok (.iload_n 3, 1) := by decide +kernel
theorem dX2_takeExtra_36 : decode cX2_takeExtra 36 = .ok (.iconst 2, 1) := by decide +kernel
theorem dX2_takeExtra_37 : decode cX2_takeExtra 37 = .ok (.iadd, 1) := by decide +kernel
theorem dX2_takeExtra_38 : decode cX2_takeExtra 38 = .ok (.invokevirtual 71, 3) := by decide +kernel
theorem dX2_takeExtra_41 : decode cX2_takeExtra 41 = .ok (.bipush 16, 2) := by decide +kernel
theorem dX2_takeExtra_43 : decode cX2_takeExtra 43 = .ok (.if_icmp .ne 7, 3) := by decide +kernel
theorem dX2_takeExtra_46 : decode cX2_takeExtra 46 = .ok (.iconst 1, 1) := by decide +kernel
theorem dX2_takeExtra_47 : decode cX2_takeExtra 47 = .ok (.goto 4, 3) := by decide +kernel
theorem dX2_takeExtra_50 : decode cX2_takeExtra 50 = .ok (.iconst 0, 1) := by decide +kernel
theorem dX2_takeExtra_51 : decode cX2_takeExtra 51 = .ok (.putfield 42, 3) := by decide +kernel
theorem dX2_takeExtra_54 : decode cX2_takeExtra 54 = .ok (.aload_n 0, 1) := by decide +kernel
theorem dX2_takeExtra_55 : decode cX2_takeExtra 55 = .ok (.aload_n 0, 1) := by decide +kernel
theorem dX2_takeExtra_56 : decode cX2_takeExtra 56 = .ok (.getfield 53, 3) := by decide +kernel
theorem dX2_takeExtra_59 : decode cX2_takeExtra 59 = .ok (.putfield 59, 3) := by decide +kernel
theorem dX2_takeExtra_62 : decode cX2_takeExtra 62 = .ok (.aload_n 0, 1) := by decide +kernel
theorem dX2_takeExtra_63 : decode cX2_takeExtra 63 = .ok (.aload_n 0, 1) := by decide +kernel
theorem dX2_takeExtra_64 : decode cX2_takeExtra 64 = .ok (.getfield 56, 3) := by decide +kernel
theorem dX2_takeExtra_67 : decode cX2_takeExtra 67 = .ok (.putfield 62, 3) := by decide +kernel
theorem dX2_takeExtra_70 : decode cX2_takeExtra 70 = .ok (.aload_n 0, 1) := by decide +kernel
theorem dX2_takeExtra_71 : decode cX2_takeExtra 71 = .ok (.getfield 42, 3) := by decide +kernel
theorem dX2_takeExtra_74 : decode cX2_takeExtra 74 = .ok (.ifCond .eq 31, 3) := by decide +kernel
theorem dX2_takeExtra_77 : decode cX2_takeExtra 77 = .ok (.aload_n 0, 1) := by decide +kernel
theorem dX2_takeExtra_78 : decode cX2_takeExtra 78 = .ok (.aload_n 1, 1) := by decide +kernel
theorem dX2_takeExtra_79 : decode cX2_takeExtra 79 = .ok (.iload_n 3, 1) := by decide +kernel
theorem dX2_takeExtra_80 : decode cX2_takeExtra 80 = .ok (.iconst 4, 1) := by decide +kernel
theorem dX2_takeExtra_81 : decode cX2_takeExtra 81 = .ok (.iadd, 1) := by decide +kernel
theorem dX2_takeExtra_82 : decode cX2_takeExtra 82 = .ok (.invokevirtual 95, 3) := by decide +kernel
theorem dX2_takeExtra_85 : decode cX2_takeExtra 85 = .ok (.putfield 62, 3) := by decide +kernel
theorem dX2_takeExtra_88 : decode cX2_takeExtra 88 = .ok (.aload_n 0, 1) := by decide +kernel
theorem dX2_takeExtra_89 : decode cX2_takeExtra 89 = .ok (.aload_n 1, 1) := by decide +kernel
theorem dX2_takeExtra_90 : decode cX2_takeExtra 90 = .ok (.iload_n 3, 1) := by decide +kernel
theorem dX2_takeExtra_91 : decode cX2_takeExtra 91 = .ok (.iconst 4, 1) := by decide +kernel
theorem dX2_takeExtra_92 : decode cX2_takeExtra 92 = .ok (.iadd, 1) := by decide +kernel
theorem dX2_takeExtra_93 : decode cX2_takeExtra 93 = .ok (.bipush 8, 2) := by decide +kernel
theorem dX2_takeExtra_95 : decode cX2_takeExtra 95 = .ok (.iadd, 1) := by decide +kernel
theorem dX2_takeExtra_96 : decode cX2_takeExtra 96 = .ok (.invokevirtual 95, 3) := by decide +kernel
theorem dX2_takeExtra_99 : decode cX2_takeExtra 99 = .ok (.putfield 59, 3) := by decide +kernel
theorem dX2_takeExtra_102 : decode cX2_takeExtra 102 = .ok (.iinc 3 20, 3) := by decide +kernel
theorem dX2_takeExtra_105 : decode cX2_takeExtra 105 = .ok (.aload_n 0, 1) := by decide +kernel
theorem dX2_takeExtra_106 : decode cX2_takeExtra 106 = .ok (.iload_n 3, 1) := by decide +kernel
theorem dX2_takeExtra_107 : decode cX2_takeExtra 107 = .ok (.putfield 36, 3) := by decide +kernel
theorem dX2_takeExtra_110 : decode cX2_takeExtra 110 = .ok (.aload_n 0, 1) := by decide +kernel
theorem dX2_takeExtra_111 : decode cX2_takeExtra 111 = .ok (.iconst 0, 1) := by decide +kernel
theorem dX2_takeExtra_112 : decode cX2_takeExtra 112 = .ok (.putfield 39, 3) := by decide +kernel
theorem dX2_takeExtra_115 : decode cX2_takeExtra 115 = .ok (.aload_n 0, 1) := by decide +kernel
theorem dX2_takeExtra_116 : decode cX2_takeExtra 116 = .ok (.getfield 39, 3) := by decide +kernel
theorem dX2_takeExtra_119 : decode cX2_takeExtra 119 = .ok (.iconst 3, 1) := by decide +kernel
theorem dX2_takeExtra_120 : decode cX2_takeExtra 120 = .ok (.if_icmp .ge 57, 3) := by decide +kernel
theorem dX2_takeExtra_123 : decode cX2_takeExtra 123 = .ok (.iload_n 3, 1) := by decide +kernel
theorem dX2_takeExtra_124 : decode cX2_takeExtra 124 = .ok (.iconst 4, 1) := by decide +kernel
theorem dX2_takeExtra_125 : decode cX2_takeExtra 125 = .ok (.iadd, 1) := by decide +kernel
theorem dX2_takeExtra_126 : decode cX2_takeExtra 126 = .ok (.iload_n 2, 1) := by decide +kernel
theorem dX2_takeExtra_127 : decode cX2_takeExtra 127 = .ok (.if_icmp .gt 50, 3) := by decide +kernel
theorem dX2_takeExtra_130 : decode cX2_takeExtra 130 = .ok (.aload_n 1, 1) := by decide +kernel
theorem dX2_takeExtra_131 : decode cX2_takeExtra 131 = .ok (.iload_n 3, 1) := by decide +kernel
theorem dX2_takeExtra_132 : decode cX2_takeExtra 132 = .ok (.iconst 2, 1) := by decide +kernel
theorem dX2_takeExtra_133 : decode cX2_takeExtra 133 = .ok (.iadd, 1) := by decide +kernel
theorem dX2_takeExtra_134 : decode cX2_takeExtra 134 = .ok (.invokevirtual 71, 3) := by decide +kernel
theorem dX2_takeExtra_137 : decode cX2_takeExtra 137 = .ok (.istore 4, 2) := by decide +kernel
theorem dX2_takeExtra_139 : decode cX2_takeExtra 139 = .ok (.aload_n 1, 1) := by decide +kernel
theorem dX2_takeExtra_140 : decode cX2_takeExtra 140 = .ok (.iload_n 3, 1) := by decide +kernel
theorem dX2_takeExtra_141 : decode cX2_takeExtra 141 = .ok (.invokevirtual 71, 3) := by decide +kernel
theorem dX2_takeExtra_144 : decode cX2_takeExtra 144 = .ok (.iconst 1, 1) := by decide +kernel
theorem dX2_takeExtra_145 : decode cX2_takeExtra 145 = .ok (.if_icmp .le 10, 3) := by decide +kernel
theorem dX2_takeExtra_148 : decode cX2_takeExtra 148 = .ok (.iload 4, 2) := by decide +kernel
theorem dX2_takeExtra_150 : decode cX2_takeExtra 150 = .ok (.bipush 8, 2) := by decide +kernel
theorem dX2_takeExtra_152 : decode cX2_takeExtra 152 = .ok (.if_icmp .le 5, 3) := by decide +kernel
theorem dX2_takeExtra_155 : decode cX2_takeExtra 155 = .ok (.iconst 0, 1) := by decide +kernel
theorem dX2_takeExtra_156 : decode cX2_takeExtra 156 = .ok (.ireturn, 1) := by decide +kernel
theorem dX2_takeExtra_157 : decode cX2_takeExtra 157 = .ok (.iload_n 3, 1) := by decide +kernel
theorem dX2_takeExtra_158 : decode cX2_takeExtra 158 = .ok (.iconst 4, 1) := by decide +kernel
theorem dX2_takeExtra_159 : decode cX2_takeExtra 159 = .ok (.iload 4, 2) := by decide +kernel
theorem dX2_takeExtra_161 : decode cX2_takeExtra 161 = .ok (.iadd, 1) := by decide +kernel
theorem dX2_takeExtra_162 : decode cX2_takeExtra 162 = .ok (.iadd, 1) := by decide +kernel
theorem dX2_takeExtra_163 : decode cX2_takeExtra 163 = .ok (.istore_n 3, 1) := by decide +kernel
theorem dX2_takeExtra_164 : decode cX2_takeExtra 164 = .ok (.aload_n 0, 1) := by decide +kernel
theorem dX2_takeExtra_165 : decode cX2_takeExtra 165 = .ok (.dup, 1) := by decide +kernel
theorem dX2_takeExtra_166 : decode cX2_takeExtra 166 = .ok (.getfield 39, 3) := by decide +kernel
theorem dX2_takeExtra_169 : decode cX2_takeExtra 169 = .ok (.iconst 1, 1) := by decide +kernel
theorem dX2_takeExtra_170 : decode cX2_takeExtra 170 = .ok (.iadd, 1) := by decide +kernel
theorem dX2_takeExtra_171 : decode cX2_takeExtra 171 = .ok (.putfield 39, 3) := by decide +kernel
theorem dX2_takeExtra_174 : decode cX2_takeExtra 174 = .ok (.goto (-59), 3) := by decide +kernel
theorem dX2_takeExtra_177 : decode cX2_takeExtra 177 = .ok (.iload_n 3, 1) := by decide +kernel
theorem dX2_takeExtra_178 : decode cX2_takeExtra 178 = .ok (.iload_n 2, 1) := by decide +kernel
theorem dX2_takeExtra_179 : decode cX2_takeExtra 179 = .ok (.if_icmp .ne 7, 3) := by decide +kernel
theorem dX2_takeExtra_182 : decode cX2_takeExtra 182 = .ok (.iconst 1, 1) := by decide +kernel
theorem dX2_takeExtra_183 : decode cX2_takeExtra 183 = .ok (.goto 4, 3) := by decide +kernel
theorem dX2_takeExtra_186 : decode cX2_takeExtra 186 = .ok (.iconst 0, 1) := by decide +kernel
theorem dX2_takeExtra_187 : decode cX2_takeExtra 187 = .ok (.ireturn, 1) := by decide +kernel
theorem dX2_hasKnownSizes_0 : decode cX2_hasKnownSizes 0 = .ok (.aload_n 0, 1) := by decide +kernel
theorem dX2_hasKnownSizes_1 : decode cX2_hasKnownSizes 1 = .ok (.getfield 53, 3) := by decide +kernel
theorem dX2_hasKnownSizes_4 : decode cX2_hasKnownSizes 4 = .ok (.ldc2_w 98, 3) := by decide +kernel
theorem dX2_hasKnownSizes_7 : decode cX2_hasKnownSizes 7 = .ok (.lcmp, 1) := by decide +kernel
theorem dX2_hasKnownSizes_8 : decode cX2_hasKnownSizes 8 = .ok (.ifCond .ne 18, 3) := by decide +kernel
theorem dX2_hasKnownSizes_11 : decode cX2_hasKnownSizes 11 = .ok (.aload_n 0, 1) := by decide +kernel
theorem dX2_hasKnownSizes_12 : decode cX2_hasKnownSizes 12 = .ok (.getfield 56, 3) := by decide +kernel
theorem dX2_hasKnownSizes_15 : decode cX2_hasKnownSizes 15 = .ok (.ldc2_w 98, 3) := by decide +kernel
theorem dX2_hasKnownSizes_18 : decode cX2_hasKnownSizes 18 = .ok (.lcmp, 1) := by decide +kernel
theorem dX2_hasKnownSizes_19 : decode cX2_hasKnownSizes 19 = .ok (.ifCond .ne 7, 3) := by decide +kernel
theorem dX2_hasKnownSizes_22 : decode cX2_hasKnownSizes 22 = .ok (.iconst 1, 1) := by decide +kernel
theorem dX2_hasKnownSizes_23 : decode cX2_hasKnownSizes 23 = .ok (.goto 4, 3) := by decide +kernel
theorem dX2_hasKnownSizes_26 : decode cX2_hasKnownSizes 26 = .ok (.iconst 0, 1) := by decide +kernel
theorem dX2_hasKnownSizes_27 : decode cX2_hasKnownSizes 27 = .ok (.istore_n 1, 1) := by decide +kernel
theorem dX2_hasKnownSizes_28 : decode cX2_hasKnownSizes 28 = .ok (.iload_n 1, 1) := by decide +kernel
theorem dX2_hasKnownSizes_29 : decode cX2_hasKnownSizes 29 = .ok (.aload_n 0, 1) := by decide +kernel
theorem dX2_hasKnownSizes_30 : decode cX2_hasKnownSizes 30 = .ok (.getfield 42, 3) := by decide +kernel
theorem dX2_hasKnownSizes_33 : decode cX2_hasKnownSizes 33 = .ok (.if_icmp .eq 5, 3) := by decide +kernel
theorem dX2_hasKnownSizes_36 : decode cX2_hasKnownSizes 36 = .ok (.iconst 0, 1) := by decide +kernel
theorem dX2_hasKnownSizes_37 : decode cX2_hasKnownSizes 37 = .ok (.ireturn, 1) := by decide +kernel
theorem dX2_hasKnownSizes_38 : decode cX2_hasKnownSizes 38 = .ok (.aload_n 0, 1) := by decide +kernel
theorem dX2_hasKnownSizes_39 : decode cX2_hasKnownSizes 39 = .ok (.getfield 59, 3) := by decide +kernel
theorem dX2_hasKnownSizes_42 : decode cX2_hasKnownSizes 42 = .ok (.lconst 0, 1) := by decide +kernel
theorem dX2_hasKnownSizes_43 : decode cX2_hasKnownSizes 43 = .ok (.lcmp, 1) := by decide +kernel
theorem dX2_hasKnownSizes_44 : decode cX2_hasKnownSizes 44 = .ok (.ifCond .lt 34, 3) := by decide +kernel
theorem dX2_hasKnownSizes_47 : decode cX2_hasKnownSizes 47 = .ok (.aload_n 0, 1) := by decide +kernel
theorem dX2_hasKnownSizes_48 : decode cX2_hasKnownSizes 48 = .ok (.getfield 59, 3) := by decide +kernel
theorem dX2_hasKnownSizes_51 : decode cX2_hasKnownSizes 51 = .ok (.ldc2_w 100, 3) := by decide +kernel
theorem dX2_hasKnownSizes_54 : decode cX2_hasKnownSizes 54 = .ok (.lcmp, 1) := by decide +kernel
theorem dX2_hasKnownSizes_55 : decode cX2_hasKnownSizes 55 = .ok (.ifCond .gt 23, 3) := by decide +kernel
theorem dX2_hasKnownSizes_58 : decode cX2_hasKnownSizes 58 = .ok (.aload_n 0, 1) := by decide +kernel
theorem dX2_hasKnownSizes_59 : decode cX2_hasKnownSizes 59 = .ok (.getfield 62, 3) := by decide +kernel
theorem dX2_hasKnownSizes_62 : decode cX2_hasKnownSizes 62 = .ok (.lconst 0, 1) := by decide +kernel
theorem dX2_hasKnownSizes_63 : decode cX2_hasKnownSizes 63 = .ok (.lcmp, 1) := by decide +kernel
theorem dX2_hasKnownSizes_64 : decode cX2_hasKnownSizes 64 = .ok (.ifCond .lt 14, 3) := by decide +kernel
theorem dX2_hasKnownSizes_67 : decode cX2_hasKnownSizes 67 = .ok (.aload_n 0, 1) := by decide +kernel
theorem dX2_hasKnownSizes_68 : decode cX2_hasKnownSizes 68 = .ok (.getfield 62, 3) := by decide +kernel
theorem dX2_hasKnownSizes_71 : decode cX2_hasKnownSizes 71 = .ok (.ldc2_w 102, 3) := by decide +kernel
theorem dX2_hasKnownSizes_74 : decode cX2_hasKnownSizes 74 = .ok (.lcmp, 1) := by decide +kernel
theorem dX2_hasKnownSizes_75 : decode cX2_hasKnownSizes 75 = .ok (.ifCond .le 5, 3) := by decide +kernel
theorem dX2_hasKnownSizes_78 : decode cX2_hasKnownSizes 78 = .ok (.iconst 0, 1) := by decide +kernel
theorem dX2_hasKnownSizes_79 : decode cX2_hasKnownSizes 79 = .ok (.ireturn, 1) := by decide +kernel
theorem dX2_hasKnownSizes_80 : decode cX2_hasKnownSizes 80 = .ok (.aload_n 0, 1) := by decide +kernel
theorem dX2_hasKnownSizes_81 : decode cX2_hasKnownSizes 81 = .ok (.getfield 18, 3) := by decide +kernel
theorem dX2_hasKnownSizes_84 : decode cX2_hasKnownSizes 84 = .ok (.ifCond .ne 15, 3) := by decide +kernel
theorem dX2_hasKnownSizes_87 : decode cX2_hasKnownSizes 87 = .ok (.aload_n 0, 1) := by decide +kernel
theorem dX2_hasKnownSizes_88 : decode cX2_hasKnownSizes 88 = .ok (.getfield 59, 3) := by decide +kernel
theorem dX2_hasKnownSizes_91 : decode cX2_hasKnownSizes 91 = .ok (.aload_n 0, 1) := by decide +kernel
theorem dX2_hasKnownSizes_92 : decode cX2_hasKnownSizes 92 = .ok (.getfield 62, 3) := by decide +kernel
theorem dX2_hasKnownSizes_95 : decode cX2_hasKnownSizes 95 = .ok (.lcmp, 1) := by decide +kernel
theorem dX2_hasKnownSizes_96 : decode cX2_hasKnownSizes 96 = .ok (.ifCond .ne 19, 3) := by decide +kernel
theorem dX2_hasKnownSizes_99 : decode cX2_hasKnownSizes 99 = .ok (.aload_n 0, 1) := by decide +kernel
theorem dX2_hasKnownSizes_100 : decode cX2_hasKnownSizes 100 = .ok (.getfield 15, 3) := by decide +kernel
theorem dX2_hasKnownSizes_103 : decode cX2_hasKnownSizes 103 = .ok (.bipush 8, 2) := by decide +kernel
theorem dX2_hasKnownSizes_105 : decode cX2_hasKnownSizes 105 = .ok (.if_icmp .ne 12, 3) := by decide +kernel
theorem dX2_hasKnownSizes_108 : decode cX2_hasKnownSizes 108 = .ok (.aload_n 0, 1) := by decide +kernel
theorem dX2_hasKnownSizes_109 : decode cX2_hasKnownSizes 109 = .ok (.getfield 42, 3) := by decide +kernel
theorem dX2_hasKnownSizes_112 : decode cX2_hasKnownSizes 112 = .ok (.ifCond .eq 5, 3) := by decide +kernel
theorem dX2_hasKnownSizes_115 : decode cX2_hasKnownSizes 115 = .ok (.iconst 0, 1) := by decide +kernel
theorem dX2_hasKnownSizes_116 : decode cX2_hasKnownSizes 116 = .ok (.ireturn, 1) := by decide +kernel
theorem dX2_hasKnownSizes_117 : decode cX2_hasKnownSizes 117 = .ok (.aload_n 0, 1) := by decide +kernel
theorem dX2_hasKnownSizes_118 : decode cX2_hasKnownSizes 118 = .ok (.getfield 46, 3) := by decide +kernel
theorem dX2_hasKnownSizes_121 : decode cX2_hasKnownSizes 121 = .ok (.ifCond .eq 42, 3) := by decide +kernel
theorem dX2_hasKnownSizes_124 : decode cX2_hasKnownSizes 124 = .ok (.aload_n 0, 1) := by decide +kernel
theorem dX2_hasKnownSizes_125 : decode cX2_hasKnownSizes 125 = .ok (.getfield 59, 3) := by decide +kernel
theorem dX2_hasKnownSizes_128 : decode cX2_hasKnownSizes 128 = .ok (.lconst 0, 1) := by decide +kernel
theorem dX2_hasKnownSizes_129 : decode cX2_hasKnownSizes 129 = .ok (.lcmp, 1) := by decide +kernel
theorem dX2_hasKnownSizes_130 : decode cX2_hasKnownSizes 130 = .ok (.ifCond .ne 37, 3) := by decide +kernel
theorem dX2_hasKnownSizes_133 : decode cX2_hasKnownSizes 133 = .ok (.aload_n 0, 1) := by decide +kernel
theorem dX2_hasKnownSizes_134 : decode cX2_hasKnownSizes 134 = .ok (.getfield 62, 3) := by decide +kernel
theorem dX2_hasKnownSizes_137 : decode cX2_hasKnownSizes 137 = .ok (.lconst 0, 1) := by decide +kernel
theorem dX2_hasKnownSizes_138 : decode cX2_hasKnownSizes 138 = .ok (.lcmp, 1) := by decide +kernel
theorem dX2_hasKnownSizes_139 : decode cX2_hasKnownSizes 139 = .ok (.ifCond .ne 28, 3) := by decide +kernel
theorem dX2_hasKnownSizes_142 : decode cX2_hasKnownSizes 142 = .ok (.aload_n 0, 1) := by decide +kernel
theorem dX2_hasKnownSizes_143 : decode cX2_hasKnownSizes 143 = .ok (.getfield 18, 3) := by decide +kernel
theorem dX2_hasKnownSizes_146 : decode cX2_hasKnownSizes 146 = .ok (.ifCond .ne 21, 3) := by decide +kernel
theorem dX2_hasKnownSizes_149 : decode cX2_hasKnownSizes 149 = .ok (.aload_n 0, 1) := by decide +kernel
theorem dX2_hasKnownSizes_150 : decode cX2_hasKnownSizes 150 = .ok (.getfield 15, 3) := by decide +kernel
theorem dX2_hasKnownSizes_153 : decode cX2_hasKnownSizes 153 = .ok (.ifCond .ne 14, 3) := by decide +kernel
theorem dX2_hasKnownSizes_156 : decode cX2_hasKnownSizes 156 = .ok (.aload_n 0, 1) := by decide +kernel
theorem dX2_hasKnownSizes_157 : decode cX2_hasKnownSizes 157 = .ok (.getfield 42, 3) := by decide +kernel
theorem dX2_hasKnownSizes_160 : decode cX2_hasKnownSizes 160 = .ok (.ifCond .ne 7, 3) := by decide +kernel
theorem dX2_hasKnownSizes_163 : decode cX2_hasKnownSizes 163 = .ok (.iconst 1, 1) := by decide +kernel
theorem dX2_hasKnownSizes_164 : decode cX2_hasKnownSizes 164 = .ok (.goto 4, 3) := by decide +kernel
theorem dX2_hasKnownSizes_167 : decode cX2_hasKnownSizes 167 = .ok (.iconst 0, 1) := by decide +kernel
theorem dX2_hasKnownSizes_168 : decode cX2_hasKnownSizes 168 = .ok (.ireturn, 1) := by decide +kernel
theorem dX2_isSafe_0 : decode cX2_isSafe 0 = .ok (.aload_n 0, 1) := by decide +kernel
theorem dX2_isSafe_1 : decode cX2_isSafe 1 = .ok (.invokevirtual 81, 3) := by decide +kernel
theorem dX2_isSafe_4 : decode cX2_isSafe 4 = .ok (.istore_n 2, 1) := by decide +kernel
theorem dX2_isSafe_5 : decode cX2_isSafe 5 = .ok (.iconst 0, 1) := by decide +kernel
theorem dX2_isSafe_6 : decode cX2_isSafe 6 = .ok (.istore_n 3, 1) := by decide +kernel
theorem dX2_isSafe_7 : decode cX2_isSafe 7 = .ok (.iconst 0, 1) := by decide +kernel
theorem dX2_isSafe_8 : decode cX2_isSafe 8 = .ok (.istore 4, 2) := by decide +kernel
theorem dX2_isSafe_10 : decode cX2_isSafe 10 = .ok (.iload 4, 2) := by decide +kernel
theorem dX2_isSafe_12 : decode cX2_isSafe 12 = .ok (.aload_n 0, 1) := by decide +kernel
theorem dX2_isSafe_13 : decode cX2_isSafe 13 = .ok (.getfield 30, 3) := by decide +kernel
theorem dX2_isSafe_16 : decode cX2_isSafe 16 = .ok (.if_icmp .ge 61, 3) := by decide +kernel
theorem dX2_isSafe_19 : decode cX2_isSafe 19 = .ok (.aload_n 1, 1) := by decide +kernel
theorem dX2_isSafe_20 : decode cX2_isSafe 20 = .ok (.iload_n 2, 1) := by decide +kernel
theorem dX2_isSafe_21 : decode cX2_isSafe 21 = .ok (.iload 4, 2) := by decide +kernel
theorem dX2_isSafe_23 : decode cX2_isSafe 23 = .ok (.iadd, 1) := by decide +kernel
theorem dX2_isSafe_24 : decode cX2_isSafe 24 = .ok (.invokevirtual 85, 3) := by decide +kernel
theorem dX2_isSafe_27 : decode cX2_isSafe 27 = .ok (.istore 5, 2) := by decide +kernel
theorem dX2_isSafe_29 : decode cX2_isSafe 29 = .ok (.iload 5, 2) := by decide +kernel
theorem dX2_isSafe_31 : decode cX2_isSafe 31 = .ok (.bipush 92, 2) := by decide +kernel
theorem dX2_isSafe_33 : decode cX2_isSafe 33 = .ok (.if_icmp .eq 24, 3) := by decide +kernel
theorem dX2_isSafe_36 : decode cX2_isSafe 36 = .ok (.iload 5, 2) := by decide +kernel
theorem dX2_isSafe_38 : decode cX2_isSafe 38 = .ok (.bipush 47, 2) := by decide +kernel
theorem dX2_isSafe_40 : decode cX2_isSafe 40 = .ok (.if_icmp .ne 19, 3) := by decide +kernel
theorem dX2_isSafe_43 : decode cX2_isSafe 43 = .ok (.aload_n 1, 1) := by decide +kernel
theorem dX2_isSafe_44 : decode cX2_isSafe 44 = .ok (.iload_n 2, 1) := by decide +kernel
theorem dX2_isSafe_45 : decode cX2_isSafe 45 = .ok (.iload_n 3, 1) := by decide +kernel
theorem dX2_isSafe_46 : decode cX2_isSafe 46 = .ok (.iadd, 1) := by decide +kernel
theorem dX2_isSafe_47 : decode cX2_isSafe 47 = .ok (.iload 4, 2) := by decide +kernel
theorem dX2_isSafe_49 : decode cX2_isSafe 49 = .ok (.iload_n 3, 1) := by decide +kernel
theorem dX2_isSafe_50 : decode cX2_isSafe 50 = .ok (.isub, 1) := by decide +kernel
theorem dX2_isSafe_51 : decode cX2_isSafe 51 = .ok (.invokestatic 104, 3) := by decide +kernel
theorem dX2_isSafe_54 : decode cX2_isSafe 54 = .ok (.ifCond .ne 5, 3) := by decide +kernel
theorem dX2_isSafe_57 : decode cX2_isSafe 57 = .ok (.iconst 0, 1) := by decide +kernel
theorem dX2_isSafe_58 : decode cX2_isSafe 58 = .ok (.ireturn, 1) := by decide +kernel
theorem dX2_isSafe_59 : decode cX2_isSafe 59 = .ok (.iload 5, 2) := by decide +kernel
theorem dX2_isSafe_61 : decode cX2_isSafe 61 = .ok (.bipush 47, 2) := by decide +kernel
theorem dX2_isSafe_63 : decode cX2_isSafe 63 = .ok (.if_icmp .ne 8, 3) := by decide +kernel
theorem dX2_isSafe_66 : decode cX2_isSafe 66 = .ok (.iload 4, 2) := by decide +kernel
theorem dX2_isSafe_68 : decode cX2_isSafe 68 = .ok (.iconst 1, 1) := by decide +kernel
theorem dX2_isSafe_69 : decode cX2_isSafe 69 = .ok (.iadd, 1) := by decide +kernel
theorem dX2_isSafe_70 : decode cX2_isSafe 70 = .ok (.istore_n 3, 1) := by decide +kernel
theorem dX2_isSafe_71 : decode cX2_isSafe 71 = .ok (.iinc 4 1, 3) := by decide +kernel
theorem dX2_isSafe_74 : decode cX2_isSafe 74 = .ok (.goto (-64), 3) := by decide +kernel
theorem dX2_isSafe_77 : decode cX2_isSafe 77 = .ok (.iload_n 3, 1) := by decide +kernel
theorem dX2_isSafe_78 : decode cX2_isSafe 78 = .ok (.aload_n 0, 1) := by decide +kernel
theorem dX2_isSafe_79 : decode cX2_isSafe 79 = .ok (.getfield 30, 3) := by decide +kernel
theorem dX2_isSafe_82 : decode cX2_isSafe 82 = .ok (.if_icmp .eq 19, 3) := by decide +kernel
theorem dX2_isSafe_85 : decode cX2_isSafe 85 = .ok (.aload_n 1, 1) := by decide +kernel
theorem dX2_isSafe_86 : decode cX2_isSafe 86 = .ok (.iload_n 2, 1) := by decide +kernel
theorem dX2_isSafe_87 : decode cX2_isSafe 87 = .ok (.iload_n 3, 1) := by decide +kernel
theorem dX2_isSafe_88 : decode cX2_isSafe 88 = .ok (.iadd, 1) := by decide +kernel
theorem dX2_isSafe_89 : decode cX2_isSafe 89 = .ok (.aload_n 0, 1) := by decide +kernel
theorem dX2_isSafe_90 : decode cX2_isSafe 90 = .ok (.getfield 30, 3) := by decide +kernel
theorem dX2_isSafe_93 : decode cX2_isSafe 93 = .ok (.iload_n 3, 1) := by decide +kernel
theorem dX2_isSafe_94 : decode cX2_isSafe 94 = .ok (.isub, 1) := by decide +kernel
theorem dX2_isSafe_95 : decode cX2_isSafe 95 = .ok (.invokestatic 104, 3) := by decide +kernel
theorem dX2_isSafe_98 : decode cX2_isSafe 98 = .ok (.ifCond .eq 7, 3) := by decide +kernel
theorem dX2_isSafe_101 : decode cX2_isSafe 101 = .ok (.iconst 1, 1) := by decide +kernel
theorem dX2_isSafe_102 : decode cX2_isSafe 102 = .ok (.goto 4, 3) := by decide +kernel
theorem dX2_isSafe_105 : decode cX2_isSafe 105 = .ok (.iconst 0, 1) := by decide +kernel
theorem dX2_isSafe_106 : decode cX2_isSafe 106 = .ok (.ireturn, 1) := by decide +kernel
theorem dX2_isSafeStep_0 : decode cX2_isSafeStep 0 = .ok (.iload_n 2, 1) := by decide +kernel
theorem dX2_isSafeStep_1 : decode cX2_isSafeStep 1 = .ok (.iconst 2, 1) := by decide +kernel
theorem dX2_isSafeStep_2 : decode cX2_isSafeStep 2 = .ok (.if_icmp .ne 29, 3) := by decide +kernel
theorem dX2_isSafeStep_5 : decode cX2_isSafeStep 5 = .ok (.aload_n 0, 1) := by decide +kernel
theorem dX2_isSafeStep_6 : decode cX2_isSafeStep 6 = .ok (.iload_n 1, 1) := by decide +kernel
theorem dX2_isSafeStep_7 : decode cX2_isSafeStep 7 = .ok (.invokevirtual 85, 3) := by decide +kernel
theorem dX2_isSafeStep_10 : decode cX2_isSafeStep 10 = .ok (.bipush 46, 2) := by decide +kernel
theorem dX2_isSafeStep_12 : decode cX2_isSafeStep 12 = .ok (.if_icmp .ne 19, 3) := by decide +kernel
theorem dX2_isSafeStep_15 : decode cX2_isSafeStep 15 = .ok (.aload_n 0, 1) := by decide +kernel
theorem dX2_isSafeStep_16 : decode cX2_isSafeStep 16 = .ok (.iload_n 1, 1) := by decide +kernel
theorem dX2_isSafeStep_17 : decode cX2_isSafeStep 17 = .ok (.iconst 1, 1) := by decide +kernel
theorem dX2_isSafeStep_18 : decode cX2_isSafeStep 18 = .ok (.iadd, 1) := by decide +kernel
theorem dX2_isSafeStep_19 : decode cX2_isSafeStep 19 = .ok (.invokevirtual 85, 3) := by decide +kernel
theorem dX2_isSafeStep_22 : decode cX2_isSafeStep 22 = .ok (.bipush 46, 2) := by decide +kernel
theorem dX2_isSafeStep_24 : decode cX2_isSafeStep 24 = .ok (.if_icmp .ne 7, 3) := by decide +kernel
theorem dX2_isSafeStep_27 : decode cX2_isSafeStep 27 = .ok (.iconst 1, 1) := by decide +kernel
theorem dX2_isSafeStep_28 : decode cX2_isSafeStep 28 = .ok (.goto 4, 3) := by decide +kernel
theorem dX2_isSafeStep_31 : decode cX2_isSafeStep 31 = .ok (.iconst 0, 1) := by decide +kernel
theorem dX2_isSafeStep_32 : decode cX2_isSafeStep 32 = .ok (.istore_n 3, 1) := by decide +kernel
theorem dX2_isSafeStep_33 : decode cX2_isSafeStep 33 = .ok (.iload_n 2, 1) := by decide +kernel
theorem dX2_isSafeStep_34 : decode cX2_isSafeStep 34 = .ok (.ifCond .eq 11, 3) := by decide +kernel
theorem dX2_isSafeStep_37 : decode cX2_isSafeStep 37 = .ok (.iload_n 3, 1) := by decide +kernel
theorem dX2_isSafeStep_38 : decode cX2_isSafeStep 38 = .ok (.ifCond .ne 7, 3) := by decide +kernel
theorem dX2_isSafeStep_41 : decode cX2_isSafeStep 41 = .ok (.iconst 1, 1) := by decide +kernel
theorem dX2_isSafeStep_42 : decode cX2_isSafeStep 42 = .ok (.goto 4, 3) := by decide +kernel
theorem dX2_isSafeStep_45 : decode cX2_isSafeStep 45 = .ok (.iconst 0, 1) := by decide +kernel
theorem dX2_isSafeStep_46 : decode cX2_isSafeStep 46 = .ok (.ireturn, 1) := by decide +kernel
theorem dX3_init_0 : decode cX3_init 0 = .ok (.aload_n 0, 1) := by decide +kernel
theorem dX3_init_1 : decode cX3_init 1 = .ok (.invokespecial 3, 3) := by decide +kernel
theorem dX3_init_4 : decode cX3_init 4 = .ok (.aload_n 0, 1) := by decide +kernel
theorem dX3_init_5 : decode cX3_init 5 = .ok (.sipush 2000, 3) := by decide +kernel
theorem dX3_init_8 : decode cX3_init 8 = .ok (.newarray .byte, 2) := by decide +kernel
theorem dX3_init_10 : decode cX3_init 10 = .ok (.putfield 9, 3) := by decide +kernel
theorem dX3_init_13 : decode cX3_init 13 = .ok (.aload_n 0, 1) := by decide +kernel
theorem dX3_init_14 : decode cX3_init 14 = .ok (.iconst 0, 1) := by decide +kernel
theorem dX3_init_15 : decode cX3_init 15 = .ok (.putfield 15, 3) := by decide +kernel
theorem dX3_init_18 : decode cX3_init 18 = .ok (.return_, 1) := by decide +kernel
theorem dX3_holds_0 : decode cX3_holds 0 = .ok (.iload_n 1, 1) := by decide +kernel
theorem dX3_holds_1 : decode cX3_holds 1 = .ok (.ifCond .lt 17, 3) := by decide +kernel
theorem dX3_holds_4 : decode cX3_holds 4 = .ok (.iload_n 1, 1) := by decide +kernel
theorem dX3_holds_5 : decode cX3_holds 5 = .ok (.aload_n 0, 1) := by decide +kernel
theorem dX3_holds_6 : decode cX3_holds 6 = .ok (.getfield 15, 3) := by decide +kernel
theorem dX3_holds_9 : decode cX3_holds 9 = .ok (.iload_n 2, 1) := by decide +kernel
theorem dX3_holds_10 : decode cX3_holds 10 = .ok (.isub, 1) := by decide +kernel
theorem dX3_holds_11 : decode cX3_holds 11 = .ok (.if_icmp .gt 7, 3) := by decide +kernel
theorem dX3_holds_14 : decode cX3_holds 14 = .ok (.iconst 1, 1) := by decide +kernel
theorem dX3_holds_15 : decode cX3_holds 15 = .ok (.goto 4, 3) := by decide +kernel
theorem dX3_holds_18 : decode cX3_holds 18 = .ok (.iconst 0, 1) := by decide +kernel
theorem dX3_holds_19 : decode cX3_holds 19 = .ok (.ireturn, 1) := by decide +kernel
theorem dX3_number1_0 : decode cX3_number1 0 = .ok (.iload_n 1, 1) := by decide +kernel
theorem dX3_number1_1 : decode cX3_number1 1 = .ok (.ifCond .lt 10, 3) := by decide +kernel
theorem dX3_number1_4 : decode cX3_number1 4 = .ok (.iload_n 1, 1) := by decide +kernel
theorem dX3_number1_5 : decode cX3_number1 5 = .ok (.sipush 2000, 3) := by decide +kernel
theorem dX3_number1_8 : decode cX3_number1 8 = .ok (.if_icmp .lt 7, 3) := by decide +kernel
theorem dX3_number1_11 : decode cX3_number1 11 = .ok (.iconst 0, 1) := by decide +kernel
theorem dX3_number1_12 : decode cX3_number1 12 = .ok (.goto 13, 3) := by decide +kernel
theorem dX3_number1_15 : decode cX3_number1 15 = .ok (.aload_n 0, 1) := by decide +kernel
theorem dX3_number1_16 : decode cX3_number1 16 = .ok (.getfield 9, 3) := by decide +kernel
theorem dX3_number1_19 : decode cX3_number1 19 = .ok (.iload_n 1, 1) := by decide +kernel
theorem dX3_number1_20 : decode cX3_number1 20 = .ok (.baload, 1) := by decide +kernel
theorem dX3_number1_21 : decode cX3_number1 21 = .ok (.sipush 255, 3) := by decide +kernel
theorem dX3_number1_24 : decode cX3_number1 24 = .ok (.iand, 1) := by decide +kernel
theorem dX3_number1_25 : decode cX3_number1 25 = .ok (.ireturn, 1) := by decide +kernel
theorem dX3_number2_0 : decode cX3_number2 0 = .ok (.aload_n 0, 1) := by decide +kernel
theorem dX3_number2_1 : decode cX3_number2 1 = .ok (.iload_n 1, 1) := by decide +kernel
theorem dX3_number2_2 : decode cX3_number2 2 = .ok (.invokevirtual 19, 3) := by decide +kernel
theorem dX3_number2_5 : decode cX3_number2 5 = .ok (.aload_n 0, 1) := by decide +kernel
theorem dX3_number2_6 : decode cX3_number2 6 = .ok (.iload_n 1, 1) := by decide +kernel
theorem dX3_number2_7 : decode cX3_number2 7 = .ok (.iconst 1, 1) := by decide +kernel
theorem dX3_number2_8 : decode cX3_number2 8 = .ok (.iadd, 1) := by decide +kernel
theorem dX3_number2_9 : decode cX3_number2 9 = .ok (.invokevirtual 19, 3) := by decide +kernel
theorem dX3_number2_12 : decode cX3_number2 12 = .ok (.bipush 8, 2) := by decide +kernel
theorem dX3_number2_14 : decode cX3_number2 14 = .ok (.ishl, 1) := by decide +kernel
theorem dX3_number2_15 : decode cX3_number2 15 = .ok (.ior, 1) := by decide +kernel
theorem dX3_number2_16 : decode cX3_number2 16 = .ok (.ireturn, 1) := by decide +kernel
theorem dX3_number4_0 : decode cX3_number4 0 = .ok (.aload_n 0, 1) := by decide +kernel
theorem dX3_number4_1 : decode cX3_number4 1 = .ok (.iload_n 1, 1) := by decide +kernel
theorem dX3_number4_2 : decode cX3_number4 2 = .ok (.iconst 4, 1) := by decide +kernel
theorem dX3_number4_3 : decode cX3_number4 3 = .ok (.invokevirtual 23, 3) := by decide +kernel
theorem dX3_number4_6 : decode cX3_number4 6 = .ok (.lreturn, 1) := by decide +kernel
theorem dX3_number8_0 : decode cX3_number8 0 = .ok (.aload_n 0, 1) := by decide +kernel
theorem dX3_number8_1 : decode cX3_number8 1 = .ok (.iload_n 1, 1) := by decide +kernel
theorem dX3_number8_2 : decode cX3_number8 2 = .ok (.bipush 8, 2) := by decide +kernel
theorem dX3_number8_4 : decode cX3_number8 4 = .ok (.invokevirtual 23, 3) := by decide +kernel
theorem dX3_number8_7 : decode cX3_number8 7 = .ok (.lreturn, 1) := by decide +kernel
theorem dX3_longNumber_0 : decode cX3_longNumber 0 = .ok (.lconst 0, 1) := by decide +kernel
theorem dX3_longNumber_1 : decode cX3_longNumber 1 = .ok (.lstore_n 3, 1) := by decide +kernel
theorem dX3_longNumber_2 : decode cX3_longNumber 2 = .ok (.iconst 0, 1) := by decide +kernel
theorem dX3_longNumber_3 : decode cX3_longNumber 3 = .ok (.istore 5, 2) := by decide +kernel
theorem dX3_longNumber_5 : decode cX3_longNumber 5 = .ok (.iload 5, 2) := by decide +kernel
theorem dX3_longNumber_7 : decode cX3_longNumber 7 = .ok (.iload_n 2, 1) := by decide +kernel
theorem dX3_longNumber_8 : decode cX3_longNumber 8 = .ok (.if_icmp .ge 27, 3) := by decide +kernel
theorem dX3_longNumber_11 : decode cX3_longNumber 11 = .ok (.lload_n 3, 1) := by decide +kernel
theorem dX3_longNumber_12 : decode cX3_longNumber 12 = .ok (.aload_n 0, 1) := by decide +kernel
theorem dX3_longNumber_13 : decode cX3_longNumber 13 = .ok (.iload_n 1, 1) := by decide +kernel
theorem dX3_longNumber_14 : decode cX3_longNumber 14 = .ok (.iload 5, 2) := by decide +kernel
theorem dX3_longNumber_16 : decode cX3_longNumber 16 = .ok (.iadd, 1) := by decide +kernel
theorem dX3_longNumber_17 : decode cX3_longNumber 17 = .ok (.invokevirtual 19, 3) := by decide +kernel
theorem dX3_longNumber_20 : decode cX3_longNumber 20 = .ok (.i2l, 1) := by decide +kernel
theorem dX3_longNumber_21 : decode cX3_longNumber 21 = .ok (.bipush 8, 2) := by decide +kernel
theorem dX3_longNumber_23 : decode cX3_longNumber 23 = .ok (.iload 5, 2) := by decide +kernel
theorem dX3_longNumber_25 : decode cX3_longNumber 25 = .ok (.imul, 1) := by decide +kernel
theorem dX3_longNumber_26 : decode cX3_longNumber 26 = .ok (.lshl, 1) := by decide +kernel
theorem dX3_longNumber_27 : decode cX3_longNumber 27 = .ok (.lor, 1) := by decide +kernel
theorem dX3_longNumber_28 : decode cX3_longNumber 28 = .ok (.lstore_n 3, 1) := by decide +kernel
theorem dX3_longNumber_29 : decode cX3_longNumber 29 = .ok (.iinc 5 1, 3) := by decide +kernel
theorem dX3_longNumber_32 : decode cX3_longNumber 32 = .ok (.goto (-27), 3) := by decide +kernel
theorem dX3_longNumber_35 : decode cX3_longNumber 35 = .ok (.lload_n 3, 1) := by decide +kernel
theorem dX3_longNumber_36 : decode cX3_longNumber 36 = .ok (.lreturn, 1) := by decide +kernel
theorem dX3_isSame_0 : decode cX3_isSame 0 = .ok (.iconst 0, 1) := by decide +kernel
theorem dX3_isSame_1 : decode cX3_isSame 1 = .ok (.istore 4, 2) := by decide +kernel
theorem dX3_isSame_3 : decode cX3_isSame 3 = .ok (.iload 4, 2) := by decide +kernel
theorem dX3_isSame_5 : decode cX3_isSame 5 = .ok (.iload_n 3, 1) := by decide +kernel
theorem dX3_isSame_6 : decode cX3_isSame 6 = .ok (.if_icmp .ge 30, 3) := by decide +kernel
theorem dX3_isSame_9 : decode cX3_isSame 9 = .ok (.aload_n 0, 1) := by decide +kernel
theorem dX3_isSame_10 : decode cX3_isSame 10 = .ok (.iload_n 1, 1) := by decide +kernel
theorem dX3_isSame_11 : decode cX3_isSame 11 = .ok (.iload 4, 2) := by decide +kernel
theorem dX3_isSame_13 : decode cX3_isSame 13 = .ok (.iadd, 1) := by decide +kernel
theorem dX3_isSame_14 : decode cX3_isSame 14 = .ok (.invokevirtual 19, 3) := by decide +kernel
theorem dX3_isSame_17 : decode cX3_isSame 17 = .ok (.aload_n 0, 1) := by decide +kernel
theorem dX3_isSame_18 : decode cX3_isSame 18 = .ok (.iload_n 2, 1) := by decide +kernel
theorem dX3_isSame_19 : decode cX3_isSame 19 = .ok (.iload 4, 2) := by decide +kernel
theorem dX3_isSame_21 : decode cX3_isSame 21 = .ok (.iadd, 1) := by decide +kernel
theorem dX3_isSame_22 : decode cX3_isSame 22 = .ok (.invokevirtual 19, 3) := by decide +kernel
theorem dX3_isSame_25 : decode cX3_isSame 25 = .ok (.if_icmp .eq 5, 3) := by decide +kernel
theorem dX3_isSame_28 : decode cX3_isSame 28 = .ok (.iconst 0, 1) := by decide +kernel
theorem dX3_isSame_29 : decode cX3_isSame 29 = .ok (.ireturn, 1) := by decide +kernel
theorem dX3_isSame_30 : decode cX3_isSame 30 = .ok (.iinc 4 1, 3) := by decide +kernel
theorem dX3_isSame_33 : decode cX3_isSame 33 = .ok (.goto (-30), 3) := by decide +kernel
theorem dX3_isSame_36 : decode cX3_isSame 36 = .ok (.iconst 1, 1) := by decide +kernel
theorem dX3_isSame_37 : decode cX3_isSame 37 = .ok (.ireturn, 1) := by decide +kernel
theorem dX3_copyTo_0 : decode cX3_copyTo 0 = .ok (.iconst 0, 1) := by decide +kernel
theorem dX3_copyTo_1 : decode cX3_copyTo 1 = .ok (.istore 5, 2) := by decide +kernel
theorem dX3_copyTo_3 : decode cX3_copyTo 3 = .ok (.iload 5, 2) := by decide +kernel
theorem dX3_copyTo_5 : decode cX3_copyTo 5 = .ok (.iload_n 2, 1) := by decide +kernel
theorem dX3_copyTo_6 : decode cX3_copyTo 6 = .ok (.if_icmp .ge 35, 3) := by decide +kernel
theorem dX3_copyTo_9 : decode cX3_copyTo 9 = .ok (.iload 4, 2) := by decide +kernel
theorem dX3_copyTo_11 : decode cX3_copyTo 11 = .ok (.iload 5, 2) := by decide +kernel
theorem dX3_copyTo_13 : decode cX3_copyTo 13 = .ok (.iadd, 1) := by decide +kernel
theorem dX3_copyTo_14 : decode cX3_copyTo 14 = .ok (.aload_n 3, 1) := by decide +kernel
theorem dX3_copyTo_15 : decode cX3_copyTo 15 = .ok (.arraylength, 1) := by decide +kernel
theorem dX3_copyTo_16 : decode cX3_copyTo 16 = .ok (.if_icmp .ge 25, 3) := by decide +kernel
theorem dX3_copyTo_19 : decode cX3_copyTo 19 = .ok (.aload_n 3, 1) := by decide +kernel
theorem dX3_copyTo_20 : decode cX3_copyTo 20 = .ok (.iload 4, 2) := by decide +kernel
theorem dX3_copyTo_22 : decode cX3_copyTo 22 = .ok (.iload 5, 2) := by decide +kernel
theorem dX3_copyTo_24 : decode cX3_copyTo 24 = .ok (.iadd, 1) := by decide +kernel
theorem dX3_copyTo_25 : decode cX3_copyTo 25 = .ok (.aload_n 0, 1) := by decide +kernel
theorem dX3_copyTo_26 : decode cX3_copyTo 26 = .ok (.iload_n 1, 1) := by decide +kernel
theorem dX3_copyTo_27 : decode cX3_copyTo 27 = .ok (.iload 5, 2) := by decide +kernel
theorem dX3_copyTo_29 : decode cX3_copyTo 29 = .ok (.iadd, 1) := by decide +kernel
theorem dX3_copyTo_30 : decode cX3_copyTo 30 = .ok (.invokevirtual 19, 3) := by decide +kernel
theorem dX3_copyTo_33 : decode cX3_copyTo 33 = .ok (.i2b, 1) := by decide +kernel
theorem dX3_copyTo_34 : decode cX3_copyTo 34 = .ok (.bastore, 1) := by decide +kernel
theorem dX3_copyTo_35 : decode cX3_copyTo 35 = .ok (.iinc 5 1, 3) := by decide +kernel
theorem dX3_copyTo_38 : decode cX3_copyTo 38 = .ok (.goto (-35), 3) := by decide +kernel
theorem dX3_copyTo_41 : decode cX3_copyTo 41 = .ok (.return_, 1) := by decide +kernel
theorem dX3_putNumber_0 : decode cX3_putNumber 0 = .ok (.iconst 0, 1) := by decide +kernel
theorem dX3_putNumber_1 : decode cX3_putNumber 1 = .ok (.istore 4, 2) := by decide +kernel
theorem dX3_putNumber_3 : decode cX3_putNumber 3 = .ok (.iload 4, 2) := by decide +kernel
theorem dX3_putNumber_5 : decode cX3_putNumber 5 = .ok (.iload_n 3, 1) := by decide +kernel
theorem dX3_putNumber_6 : decode cX3_putNumber 6 = .ok (.if_icmp .ge 22, 3) := by decide +kernel
theorem dX3_putNumber_9 : decode cX3_putNumber 9 = .ok (.aload_n 0, 1) := by decide +kernel
theorem dX3_putNumber_10 : decode cX3_putNumber 10 = .ok (.lload_n 1, 1) := by decide +kernel
theorem dX3_putNumber_11 : decode cX3_putNumber 11 = .ok (.bipush 8, 2) := by decide +kernel
theorem dX3_putNumber_13 : decode cX3_putNumber 13 = .ok (.iload 4, 2) := by decide +kernel
theorem dX3_putNumber_15 : decode cX3_putNumber 15 = .ok (.imul, 1) := by decide +kernel
theorem dX3_putNumber_16 : decode cX3_putNumber 16 = .ok (.lushr, 1) := by decide +kernel
theorem dX3_putNumber_17 : decode cX3_putNumber 17 = .ok (.l2i, 1) := by decide +kernel
theorem dX3_putNumber_18 : decode cX3_putNumber 18 = .ok (.i2b, 1) := by decide +kernel
theorem dX3_putNumber_19 : decode cX3_putNumber 19 = .ok (.invokevirtual 27, 3) := by decide +kernel
theorem dX3_putNumber_22 : decode cX3_putNumber 22 = .ok (.iinc 4 1, 3) := by decide +kernel
theorem dX3_putNumber_25 : decode cX3_putNumber 25 = .ok (.goto (-22), 3) := by decide +kernel
theorem dX3_putNumber_28 : decode cX3_putNumber 28 = .ok (.return_, 1) := by decide +kernel
theorem dX3_putCells_0 : decode cX3_putCells 0 = .ok (.iconst 0, 1) := by decide +kernel
theorem dX3_putCells_1 : decode cX3_putCells 1 = .ok (.istore 4, 2) := by decide +kernel
theorem dX3_putCells_3 : decode cX3_putCells 3 = .ok (.iload 4, 2) := by decide +kernel
theorem dX3_putCells_5 : decode cX3_putCells 5 = .ok (.iload_n 3, 1) := by decide +kernel
theorem dX3_putCells_6 : decode cX3_putCells 6 = .ok (.if_icmp .ge 28, 3) := by decide +kernel
theorem dX3_putCells_9 : decode cX3_putCells 9 = .ok (.iload_n 2, 1) := by decide +kernel
theorem dX3_putCells_10 : decode cX3_putCells 10 = .ok (.iload 4, 2) := by decide +kernel
theorem dX3_putCells_12 : decode cX3_putCells 12 = .ok (.iadd, 1) := by decide +kernel
theorem dX3_putCells_13 : decode cX3_putCells 13 = .ok (.aload_n 1, 1) := by decide +kernel
theorem dX3_putCells_14 : decode cX3_putCells 14 = .ok (.arraylength, 1) := by decide +kernel
theorem dX3_putCells_15 : decode cX3_putCells 15 = .ok (.if_icmp .ge 19, 3) := by decide +kernel
theorem dX3_putCells_18 : decode cX3_putCells 18 = .ok (.aload_n 0, 1) := by decide +kernel
theorem dX3_putCells_19 : decode cX3_putCells 19 = .ok (.aload_n 1, 1) := by decide +kernel
theorem dX3_putCells_20 : decode cX3_putCells 20 = .ok (.iload_n 2, 1) := by decide +kernel
theorem dX3_putCells_21 : decode cX3_putCells 21 = .ok (.iload 4, 2) := by decide +kernel
theorem dX3_putCells_23 : decode cX3_putCells 23 = .ok (.iadd, 1) := by decide +kernel
theorem dX3_putCells_24 : decode cX3_putCells 24 = .ok (.baload, 1) := by decide +kernel
theorem dX3_putCells_25 : decode cX3_putCells 25 = .ok (.invokevirtual 27, 3) := by decide +kernel
theorem dX3_putCells_28 : decode cX3_putCells 28 = .ok (.iinc 4 1, 3) := by decide +kernel
theorem dX3_putCells_31 : decode cX3_putCells 31 = .ok (.goto (-28), 3) := by decide +kernel
theorem dX3_putCells_34 : decode cX3_putCells 34 = .ok (.return_, 1) := by decide +kernel
theorem dX3_putCell_0 : decode cX3_putCell 0 = .ok (.aload_n 0, 1) := by decide +kernel
theorem dX3_putCell_1 : decode cX3_putCell 1 = .ok (.getfield 15, 3) := by decide +kernel
theorem dX3_putCell_4 : decode cX3_putCell 4 = .ok (.sipush 2000, 3) := by decide +kernel
theorem dX3_putCell_7 : decode cX3_putCell 7 = .ok (.if_icmp .ge 23, 3) := by decide +kernel
theorem dX3_putCell_10 : decode cX3_putCell 10 = .ok (.aload_n 0, 1) := by decide +kernel
theorem dX3_putCell_11 : decode cX3_putCell 11 = .ok (.getfield 9, 3) := by decide +kernel
theorem dX3_putCell_14 : decode cX3_putCell 14 = .ok (.aload_n 0, 1) := by decide +kernel
theorem dX3_putCell_15 : decode cX3_putCell 15 = .ok (.getfield 15, 3) := by decide +kernel
theorem dX3_putCell_18 : decode cX3_putCell 18 = .ok (.iload_n 1, 1) := by decide +kernel
theorem dX3_putCell_19 : decode cX3_putCell 19 = .ok (.bastore, 1) := by decide +kernel
theorem dX3_putCell_20 : decode cX3_putCell 20 = .ok (.aload_n 0, 1) := by decide +kernel
theorem dX3_putCell_21 : decode cX3_putCell 21 = .ok (.dup, 1) := by decide +kernel
theorem dX3_putCell_22 : decode cX3_putCell 22 = .ok (.getfield 15, 3) := by decide +kernel
theorem dX3_putCell_25 : decode cX3_putCell 25 = .ok (.iconst 1, 1) := by decide +kernel
theorem dX3_putCell_26 : decode cX3_putCell 26 = .ok (.iadd, 1) := by decide +kernel
theorem dX3_putCell_27 : decode cX3_putCell 27 = .ok (.putfield 15, 3) := by decide +kernel
theorem dX3_putCell_30 : decode cX3_putCell 30 = .ok (.return_, 1) := by decide +kernel
end
section
theorem dX4_init_0 : decode cX4_init 0 = .ok (.aload_n 0, 1) := by decide +kernel
theorem dX4_init_1 : decode cX4_init 1 = .ok (.invokespecial 1, 3) := by decide +kernel
theorem dX4_init_4 : decode cX4_init 4 = .ok (.aload_n 0, 1) := by decide +kernel
theorem dX4_init_5 : decode cX4_init 5 = .ok (.bipush 12, 2) := by decide +kernel
theorem dX4_init_7 : decode cX4_init 7 = .ok (.anewarray 9, 3) := by decide +kernel
theorem dX4_init_10 : decode cX4_init 10 = .ok (.putfield 11, 3) := by decide +kernel
theorem dX4_init_13 : decode cX4_init 13 = .ok (.aload_n 0, 1) := by decide +kernel
theorem dX4_init_14 : decode cX4_init 14 = .ok (.new 15, 3) := by decide +kernel
theorem dX4_init_17 : decode cX4_init 17 = .ok (.dup, 1) := by decide +kernel
theorem dX4_init_18 : decode cX4_init 18 = .ok (.invokespecial 17, 3) := by decide +kernel
theorem dX4_init_21 : decode cX4_init 21 = .ok (.putfield 18, 3) := by decide +kernel
theorem dX4_init_24 : decode cX4_init 24 = .ok (.aload_n 0, 1) := by decide +kernel
theorem dX4_init_25 : decode cX4_init 25 = .ok (.new 22, 3) := by decide +kernel
theorem dX4_init_28 : decode cX4_init 28 = .ok (.dup, 1) := by decide +kernel
theorem dX4_init_29 : decode cX4_init 29 = .ok (.aload_n 0, 1) := by decide +kernel
theorem dX4_init_30 : decode cX4_init 30 = .ok (.getfield 18, 3) := by decide +kernel
theorem dX4_init_33 : decode cX4_init 33 = .ok (.invokespecial 24, 3) := by decide +kernel
theorem dX4_init_36 : decode cX4_init 36 = .ok (.putfield 27, 3) := by decide +kernel
theorem dX4_init_39 : decode cX4_init 39 = .ok (.aload_n 0, 1) := by decide +kernel
theorem dX4_init_40 : decode cX4_init 40 = .ok (.bipush 12, 2) := by decide +kernel
theorem dX4_init_42 : decode cX4_init 42 = .ok (.newarray .byte, 2) := by decide +kernel
theorem dX4_init_44 : decode cX4_init 44 = .ok (.putfield 31, 3) := by decide +kernel
theorem dX4_init_47 : decode cX4_init 47 = .ok (.aload_n 0, 1) := by decide +kernel
theorem dX4_init_48 : decode cX4_init 48 = .ok (.iconst 0, 1) := by decide +kernel
theorem dX4_init_49 : decode cX4_init 49 = .ok (.putfield 35, 3) := by decide +kernel
theorem dX4_init_52 : decode cX4_init 52 = .ok (.aload_n 0, 1) := by decide +kernel
theorem dX4_init_53 : decode cX4_init 53 = .ok (.iconst 0, 1) := by decide +kernel
theorem dX4_init_54 : decode cX4_init 54 = .ok (.putfield 39, 3) := by decide +kernel
theorem dX4_init_57 : decode cX4_init 57 = .ok (.aload_n 0, 1) := by decide +kernel
theorem dX4_init_58 : decode cX4_init 58 = .ok (.iconst 0, 1) := by decide +kernel
theorem dX4_init_59 : decode cX4_init 59 = .ok (.putfield 42, 3) := by decide +kernel
theorem dX4_init_62 : decode cX4_init 62 = .ok (.aload_n 0, 1) := by decide +kernel
theorem dX4_init_63 : decode cX4_init 63 = .ok (.iconst (-1), 1) := by decide +kernel
theorem dX4_init_64 : decode cX4_init 64 = .ok (.putfield 45, 3) := by decide +kernel
theorem dX4_init_67 : decode cX4_init 67 = .ok (.iconst 0, 1) := by decide +kernel
theorem dX4_init_68 : decode cX4_init 68 = .ok (.istore_n 1, 1) := by decide +kernel
theorem dX4_init_69 : decode cX4_init 69 = .ok (.iload_n 1, 1) := by decide +kernel
theorem dX4_init_70 : decode cX4_init 70 = .ok (.bipush 12, 2) := by decide +kernel
theorem dX4_init_72 : decode cX4_init 72 = .ok (.if_icmp .ge 22, 3) := by decide +kernel
theorem dX4_init_75 : decode cX4_init 75 = .ok (.aload_n 0, 1) := by decide +kernel
theorem dX4_init_76 : decode cX4_init 76 = .ok (.getfield 11, 3) := by decide +kernel
theorem dX4_init_79 : decode cX4_init 79 = .ok (.iload_n 1, 1) := by decide +kernel
theorem dX4_init_80 : decode cX4_init 80 = .ok (.new 9, 3) := by decide +kernel
theorem dX4_init_83 : decode cX4_init 83 = .ok (.dup, 1) := by decide +kernel
theorem dX4_init_84 : decode cX4_init 84 = .ok (.invokespecial 48, 3) := by decide +kernel
theorem dX4_init_87 : decode cX4_init 87 = .ok (.aastore, 1) := by decide +kernel
theorem dX4_init_88 : decode cX4_init 88 = .ok (.iinc 1 1, 3) := by decide +kernel
theorem dX4_init_91 : decode cX4_init 91 = .ok (.goto (-22), 3) := by decide +kernel
theorem dX4_init_94 : decode cX4_init 94 = .ok (.return_, 1) := by decide +kernel
theorem dX4_entry_0 : decode cX4_entry 0 = .ok (.iload_n 1, 1) := by decide +kernel
theorem dX4_entry_1 : decode cX4_entry 1 = .ok (.ifCond .lt 26, 3) := by decide +kernel
theorem dX4_entry_4 : decode cX4_entry 4 = .ok (.iload_n 1, 1) := by decide +kernel
theorem dX4_entry_5 : decode cX4_entry 5 = .ok (.iconst 2, 1) := by decide +kernel
theorem dX4_entry_6 : decode cX4_entry 6 = .ok (.if_icmp .gt 21, 3) := by decide +kernel
theorem dX4_entry_9 : decode cX4_entry 9 = .ok (.iload_n 2, 1) := by decide +kernel
theorem dX4_entry_10 : decode cX4_entry 10 = .ok (.ifCond .lt 17, 3) := by decide +kernel
theorem dX4_entry_13 : decode cX4_entry 13 = .ok (.iload_n 2, 1) := by decide +kernel
theorem dX4_entry_14 : decode cX4_entry 14 = .ok (.iconst 2, 1) := by decide +kernel
theorem dX4_entry_15 : decode cX4_entry 15 = .ok (.if_icmp .gt 12, 3) := by decide +kernel
theorem dX4_entry_18 : decode cX4_entry 18 = .ok (.iload_n 1, 1) := by decide +kernel
theorem dX4_entry_19 : decode cX4_entry 19 = .ok (.iconst 2, 1) := by decide +kernel
theorem dX4_entry_20 : decode cX4_entry 20 = .ok (.if_icmp .ne 10, 3) := by decide +kernel
theorem dX4_entry_23 : decode cX4_entry 23 = .ok (.iload_n 2, 1) := by decide +kernel
theorem dX4_entry_24 : decode cX4_entry 24 = .ok (.ifCond .eq 6, 3) := by decide +kernel
theorem dX4_entry_27 : decode cX4_entry 27 = .ok (.bipush (-3), 2) := by decide +kernel
theorem dX4_entry_29 : decode cX4_entry 29 = .ok (.ireturn, 1) := by decide +kernel
theorem dX4_entry_30 : decode cX4_entry 30 = .ok (.iload_n 1, 1) := by decide +kernel
theorem dX4_entry_31 : decode cX4_entry 31 = .ok (.lload_n 3, 1) := by decide +kernel
theorem dX4_entry_32 : decode cX4_entry 32 = .ok (.iload 5, 2) := by decide +kernel
theorem dX4_entry_34 : decode cX4_entry 34 = .ok (.invokestatic 49, 3) := by decide +kernel
theorem dX4_entry_37 : decode cX4_entry 37 = .ok (.ifCond .ne 6, 3) := by decide +kernel
theorem dX4_entry_40 : decode cX4_entry 40 = .ok (.bipush (-3), 2) := by decide +kernel
theorem dX4_entry_42 : decode cX4_entry 42 = .ok (.ireturn, 1) := by decide +kernel
theorem dX4_entry_43 : decode cX4_entry 43 = .ok (.aload_n 0, 1) := by decide +kernel
theorem dX4_entry_44 : decode cX4_entry 44 = .ok (.getfield 35, 3) := by decide +kernel
theorem dX4_entry_47 : decode cX4_entry 47 = .ok (.bipush 12, 2) := by decide +kernel
theorem dX4_entry_49 : decode cX4_entry 49 = .ok (.if_icmp .lt 6, 3) := by decide +kernel
theorem dX4_entry_52 : decode cX4_entry 52 = .ok (.bipush (-5), 2) := by decide +kernel
theorem dX4_entry_54 : decode cX4_entry 54 = .ok (.ireturn, 1) := by decide +kernel
theorem dX4_entry_55 : decode cX4_entry 55 = .ok (.aload_n 0, 1) := by decide +kernel
theorem dX4_entry_56 : decode cX4_entry 56 = .ok (.getfield 11, 3) := by decide +kernel
theorem dX4_entry_59 : decode cX4_entry 59 = .ok (.aload_n 0, 1) := by decide +kernel
theorem dX4_entry_60 : decode cX4_entry 60 = .ok (.getfield 35, 3) := by decide +kernel
theorem dX4_entry_63 : decode cX4_entry 63 = .ok (.aaload, 1) := by decide +kernel
theorem dX4_entry_64 : decode cX4_entry 64 = .ok (.astore 6, 2) := by decide +kernel
theorem dX4_entry_66 : decode cX4_entry 66 = .ok (.aload 6, 2) := by decide +kernel
theorem dX4_entry_68 : decode cX4_entry 68 = .ok (.iload_n 1, 1) := by decide +kernel
theorem dX4_entry_69 : decode cX4_entry 69 = .ok (.iload_n 2, 1) := by decide +kernel
theorem dX4_entry_70 : decode cX4_entry 70 = .ok (.invokevirtual 53, 3) := by decide +kernel
theorem dX4_entry_73 : decode cX4_entry 73 = .ok (.aload 6, 2) := by decide +kernel
theorem dX4_entry_75 : decode cX4_entry 75 = .ok (.lload_n 3, 1) := by decide +kernel
theorem dX4_entry_76 : decode cX4_entry 76 = .ok (.iload 5, 2) := by decide +kernel
theorem dX4_entry_78 : decode cX4_entry 78 = .ok (.invokevirtual 57, 3) := by decide +kernel
theorem dX4_entry_81 : decode cX4_entry 81 = .ok (.aload_n 0, 1) := by decide +kernel
theorem dX4_entry_82 : decode cX4_entry 82 = .ok (.dup, 1) := by decide +kernel
theorem dX4_entry_83 : decode cX4_entry 83 = .ok (.getfield 35, 3) := by decide +kernel
theorem dX4_entry_86 : decode cX4_entry 86 = .ok (.iconst 1, 1) := by decide +kernel
theorem dX4_entry_87 : decode cX4_entry 87 = .ok (.iadd, 1) := by decide +kernel
theorem dX4_entry_88 : decode cX4_entry 88 = .ok (.putfield 35, 3) := by decide +kernel
theorem dX4_entry_91 : decode cX4_entry 91 = .ok (.aload_n 0, 1) := by decide +kernel
theorem dX4_entry_92 : decode cX4_entry 92 = .ok (.getfield 35, 3) := by decide +kernel
theorem dX4_entry_95 : decode cX4_entry 95 = .ok (.iconst 1, 1) := by decide +kernel
theorem dX4_entry_96 : decode cX4_entry 96 = .ok (.isub, 1) := by decide +kernel
theorem dX4_entry_97 : decode cX4_entry 97 = .ok (.ireturn, 1) := by decide +kernel
theorem dX4_name_0 : decode cX4_name 0 = .ok (.aload_n 0, 1) := by decide +kernel
theorem dX4_name_1 : decode cX4_name 1 = .ok (.iload_n 1, 1) := by decide +kernel
theorem dX4_name_2 : decode cX4_name 2 = .ok (.invokevirtual 61, 3) := by decide +kernel
theorem dX4_name_5 : decode cX4_name 5 = .ok (.ifCond .eq 6, 3) := by decide +kernel
theorem dX4_name_8 : decode cX4_name 8 = .ok (.bipush (-2), 2) := by decide +kernel
theorem dX4_name_10 : decode cX4_name 10 = .ok (.ireturn, 1) := by decide +kernel
theorem dX4_name_11 : decode cX4_name 11 = .ok (.aload_n 0, 1) := by decide +kernel
theorem dX4_name_12 : decode cX4_name 12 = .ok (.getfield 11, 3) := by decide +kernel
theorem dX4_name_15 : decode cX4_name 15 = .ok (.iload_n 1, 1) := by decide +kernel
theorem dX4_name_16 : decode cX4_name 16 = .ok (.aaload, 1) := by decide +kernel
theorem dX4_name_17 : decode cX4_name 17 = .ok (.astore 5, 2) := by decide +kernel
theorem dX4_name_19 : decode cX4_name 19 = .ok (.aload 5, 2) := by decide +kernel
theorem dX4_name_21 : decode cX4_name 21 = .ok (.getfield 65, 3) := by decide +kernel
theorem dX4_name_24 : decode cX4_name 24 = .ok (.lload_n 2, 1) := by decide +kernel
theorem dX4_name_25 : decode cX4_name 25 = .ok (.iload 4, 2) := by decide +kernel
theorem dX4_name_27 : decode cX4_name 27 = .ok (.invokestatic 49, 3) := by decide +kernel
theorem dX4_name_30 : decode cX4_name 30 = .ok (.ifCond .ne 6, 3) := by decide +kernel
theorem dX4_name_33 : decode cX4_name 33 = .ok (.bipush (-3), 2) := by decide +kernel
theorem dX4_name_35 : decode cX4_name 35 = .ok (.ireturn, 1) := by decide +kernel
theorem dX4_name_36 : decode cX4_name 36 = .ok (.aload 5, 2) := by decide +kernel
theorem dX4_name_38 : decode cX4_name 38 = .ok (.getfield 68, 3) := by decide +kernel
theorem dX4_name_41 : decode cX4_name 41 = .ok (.iload 4, 2) := by decide +kernel
theorem dX4_name_43 : decode cX4_name 43 = .ok (.iadd, 1) := by decide +kernel
theorem dX4_name_44 : decode cX4_name 44 = .ok (.bipush 16, 2) := by decide +kernel
theorem dX4_name_46 : decode cX4_name 46 = .ok (.if_icmp .le 6, 3) := by decide +kernel
theorem dX4_name_49 : decode cX4_name 49 = .ok (.bipush (-5), 2) := by decide +kernel
theorem dX4_name_51 : decode cX4_name 51 = .ok (.ireturn, 1) := by decide +kernel
theorem dX4_name_52 : decode cX4_name 52 = .ok (.aload 5, 2) := by decide +kernel
theorem dX4_name_54 : decode cX4_name 54 = .ok (.lload_n 2, 1) := by decide +kernel
theorem dX4_name_55 : decode cX4_name 55 = .ok (.iload 4, 2) := by decide +kernel
theorem dX4_name_57 : decode cX4_name 57 = .ok (.invokevirtual 57, 3) := by decide +kernel
theorem dX4_name_60 : decode cX4_name 60 = .ok (.aload 5, 2) := by decide +kernel
theorem dX4_name_62 : decode cX4_name 62 = .ok (.getfield 68, 3) := by decide +kernel
theorem dX4_name_65 : decode cX4_name 65 = .ok (.ireturn, 1) := by decide +kernel
theorem dX4_data_0 : decode cX4_data 0 = .ok (.aload_n 0, 1) := by decide +kernel
theorem dX4_data_1 : decode cX4_data 1 = .ok (.iload_n 1, 1) := by decide +kernel
theorem dX4_data_2 : decode cX4_data 2 = .ok (.invokevirtual 61, 3) := by decide +kernel
theorem dX4_data_5 : decode cX4_data 5 = .ok (.ifCond .eq 6, 3) := by decide +kernel
theorem dX4_data_8 : decode cX4_data 8 = .ok (.bipush (-2), 2) := by decide +kernel
theorem dX4_data_10 : decode cX4_data 10 = .ok (.ireturn, 1) := by decide +kernel
theorem dX4_data_11 : decode cX4_data 11 = .ok (.iload 4, 2) := by decide +kernel
theorem dX4_data_13 : decode cX4_data 13 = .ok (.ifCond .lt 10, 3) := by decide +kernel
theorem dX4_data_16 : decode cX4_data 16 = .ok (.iload 4, 2) := by decide +kernel
theorem dX4_data_18 : decode cX4_data 18 = .ok (.bipush 8, 2) := by decide +kernel
theorem dX4_data_20 : decode cX4_data 20 = .ok (.if_icmp .le 6, 3) := by decide +kernel
theorem dX4_data_23 : decode cX4_data 23 = .ok (.bipush (-3), 2) := by decide +kernel
theorem dX4_data_25 : decode cX4_data 25 = .ok (.ireturn, 1) := by decide +kernel
theorem dX4_data_26 : decode cX4_data 26 = .ok (.aload_n 0, 1) := by decide +kernel
theorem dX4_data_27 : decode cX4_data 27 = .ok (.getfield 11, 3) := by decide +kernel
theorem dX4_data_30 : decode cX4_data 30 = .ok (.iload_n 1, 1) := by decide +kernel
theorem dX4_data_31 : decode cX4_data 31 = .ok (.aaload, 1) := by decide +kernel
theorem dX4_data_32 : decode cX4_data 32 = .ok (.astore 5, 2) := by decide +kernel
theorem dX4_data_34 : decode cX4_data 34 = .ok (.aload 5, 2) := by decide +kernel
theorem dX4_data_36 : decode cX4_data 36 = .ok (.getfield 65, 3) := by decide +kernel
theorem dX4_data_39 : decode cX4_data 39 = .ok (.iconst 2, 1) := by decide +kernel
theorem dX4_data_40 : decode cX4_data 40 = .ok (.if_icmp .ne 9, 3) := by decide +kernel
theorem dX4_data_43 : decode cX4_data 43 = .ok (.aload_n 0, 1) := by decide +kernel
theorem dX4_data_44 : decode cX4_data 44 = .ok (.iconst 2, 1) := by decide +kernel
theorem dX4_data_45 : decode cX4_data 45 = .ok (.invokevirtual 71, 3) := by decide +kernel
theorem dX4_data_48 : decode cX4_data 48 = .ok (.ireturn, 1) := by decide +kernel
theorem dX4_data_49 : decode cX4_data 49 = .ok (.aload 5, 2) := by decide +kernel
theorem dX4_data_51 : decode cX4_data 51 = .ok (.getfield 75, 3) := by decide +kernel
theorem dX4_data_54 : decode cX4_data 54 = .ok (.iload 4, 2) := by decide +kernel
theorem dX4_data_56 : decode cX4_data 56 = .ok (.iadd, 1) := by decide +kernel
theorem dX4_data_57 : decode cX4_data 57 = .ok (.bipush 40, 2) := by decide +kernel
theorem dX4_data_59 : decode cX4_data 59 = .ok (.if_icmp .le 6, 3) := by decide +kernel
theorem dX4_data_62 : decode cX4_data 62 = .ok (.bipush (-5), 2) := by decide +kernel
theorem dX4_data_64 : decode cX4_data 64 = .ok (.ireturn, 1) := by decide +kernel
theorem dX4_data_65 : decode cX4_data 65 = .ok (.lload_n 2, 1) := by decide +kernel
theorem dX4_data_66 : decode cX4_data 66 = .ok (.iload 4, 2) := by decide +kernel
theorem dX4_data_68 : decode cX4_data 68 = .ok (.aload 5, 2) := by decide +kernel
theorem dX4_data_70 : decode cX4_data 70 = .ok (.getfield 78, 3) := by decide +kernel
theorem dX4_data_73 : decode cX4_data 73 = .ok (.aload 5, 2) := by decide +kernel
theorem dX4_data_75 : decode cX4_data 75 = .ok (.getfield 75, 3) := by decide +kernel
theorem dX4_data_78 : decode cX4_data 78 = .ok (.invokestatic 81, 3) := by decide +kernel
theorem dX4_data_81 : decode cX4_data 81 = .ok (.aload 5, 2) := by decide +kernel
theorem dX4_data_83 : decode cX4_data 83 = .ok (.dup, 1) := by decide +kernel
theorem dX4_data_84 : decode cX4_data 84 = .ok (.getfield 75, 3) := by decide +kernel
theorem dX4_data_87 : decode cX4_data 87 = .ok (.iload 4, 2) := by decide +kernel
theorem dX4_data_89 : decode cX4_data 89 = .ok (.iadd, 1) := by decide +kernel
theorem dX4_data_90 : decode cX4_data 90 = .ok (.putfield 75, 3) := by decide +kernel
theorem dX4_data_93 : decode cX4_data 93 = .ok (.aload 5, 2) := by decide +kernel
theorem dX4_data_95 : decode cX4_data 95 = .ok (.iconst 1, 1) := by decide +kernel
theorem dX4_data_96 : decode cX4_data 96 = .ok (.putfield 85, 3) := by decide +kernel
theorem dX4_data_99 : decode cX4_data 99 = .ok (.aload 5, 2) := by decide +kernel
theorem dX4_data_101 : decode cX4_data 101 = .ok (.iconst 0, 1) := by decide +kernel
theorem dX4_data_102 : decode cX4_data 102 = .ok (.putfield 89, 3) := by decide +kernel
theorem dX4_data_105 : decode cX4_data 105 = .ok (.aload 5, 2) := by decide +kernel
theorem dX4_data_107 : decode cX4_data 107 = .ok (.getfield 75, 3) := by decide +kernel
theorem dX4_data_110 : decode cX4_data 110 = .ok (.ireturn, 1) := by decide +kernel
theorem dX4_packed_0 : decode cX4_packed 0 = .ok (.aload_n 0, 1) := by decide +kernel
theorem dX4_packed_1 : decode cX4_packed 1 = .ok (.iload_n 1, 1) := by decide +kernel
theorem dX4_packed_2 : decode cX4_packed 2 = .ok (.invokevirtual 61, 3) := by decide +kernel
theorem dX4_packed_5 : decode cX4_packed 5 = .ok (.ifCond .eq 6, 3) := by decide +kernel
theorem dX4_packed_8 : decode cX4_packed 8 = .ok (.bipush (-2), 2) := by decide +kernel
theorem dX4_packed_10 : decode cX4_packed 10 = .ok (.ireturn, 1) := by decide +kernel
theorem dX4_packed_11 : decode cX4_packed 11 = .ok (.iload_n 2, 1) := by decide +kernel
theorem dX4_packed_12 : decode cX4_packed 12 = .ok (.ifCond .lt 9, 3) := by decide +kernel
theorem dX4_packed_15 : decode cX4_packed 15 = .ok (.iload_n 2, 1) := by decide +kernel
theorem dX4_packed_16 : decode cX4_packed 16 = .ok (.ldc 92, 2) := by decide +kernel
theorem dX4_packed_18 : decode cX4_packed 18 = .ok (.if_icmp .le 6, 3) := by decide +kernel
theorem dX4_packed_21 : decode cX4_packed 21 = .ok (.bipush (-3), 2) := by decide +kernel
theorem dX4_packed_23 : decode cX4_packed 23 = .ok (.ireturn, 1) := by decide +kernel
theorem dX4_packed_24 : decode cX4_packed 24 = .ok (.aload_n 0, 1) := by decide +kernel
theorem dX4_packed_25 : decode cX4_packed 25 = .ok (.getfield 11, 3) := by decide +kernel
theorem dX4_packed_28 : decode cX4_packed 28 = .ok (.iload_n 1, 1) := by decide +kernel
theorem dX4_packed_29 : decode cX4_packed 29 = .ok (.aaload, 1) := by decide +kernel
theorem dX4_packed_30 : decode cX4_packed 30 = .ok (.astore 4, 2) := by decide +kernel
theorem dX4_packed_32 : decode cX4_packed 32 = .ok (.aload 4, 2) := by decide +kernel
theorem dX4_packed_34 : decode cX4_packed 34 = .ok (.getfield 65, 3) := by decide +kernel
theorem dX4_packed_37 : decode cX4_packed 37 = .ok (.iconst 1, 1) := by decide +kernel
theorem dX4_packed_38 : decode cX4_packed 38 = .ok (.if_icmp .eq 9, 3) := by decide +kernel
theorem dX4_packed_41 : decode cX4_packed 41 = .ok (.aload_n 0, 1) := by decide +kernel
theorem dX4_packed_42 : decode cX4_packed 42 = .ok (.iconst 2, 1) := by decide +kernel
theorem dX4_packed_43 : decode cX4_packed 43 = .ok (.invokevirtual 71, 3) := by decide +kernel
theorem dX4_packed_46 : decode cX4_packed 46 = .ok (.ireturn, 1) := by decide +kernel
theorem dX4_packed_47 : decode cX4_packed 47 = .ok (.aload 4, 2) := by decide +kernel
theorem dX4_packed_49 : decode cX4_packed 49 = .ok (.iload_n 2, 1) := by decide +kernel
theorem dX4_packed_50 : decode cX4_packed 50 = .ok (.putfield 93, 3) := by decide +kernel
theorem dX4_packed_53 : decode cX4_packed 53 = .ok (.aload 4, 2) := by decide +kernel
theorem dX4_packed_55 : decode cX4_packed 55 = .ok (.iload_n 3, 1) := by decide +kernel
theorem dX4_packed_56 : decode cX4_packed 56 = .ok (.putfield 96, 3) := by decide +kernel
theorem dX4_packed_59 : decode cX4_packed 59 = .ok (.iconst 1, 1) := by decide +kernel
theorem dX4_packed_60 : decode cX4_packed 60 = .ok (.ireturn, 1) := by decide +kernel
theorem dX4_part_0 : decode cX4_part 0 = .ok (.aload_n 0, 1) := by decide +kernel
theorem dX4_part_1 : decode cX4_part 1 = .ok (.iload_n 1, 1) := by decide +kernel
theorem dX4_part_2 : decode cX4_part 2 = .ok (.invokevirtual 61, 3) := by decide +kernel
theorem dX4_part_5 : decode cX4_part 5 = .ok (.ifCond .eq 6, 3) := by decide +kernel
theorem dX4_part_8 : decode cX4_part 8 = .ok (.bipush (-2), 2) := by decide +kernel
theorem dX4_part_10 : decode cX4_part 10 = .ok (.ireturn, 1) := by decide +kernel
theorem dX4_part_11 : decode cX4_part 11 = .ok (.iload_n 2, 1) := by decide +kernel
theorem dX4_part_12 : decode cX4_part 12 = .ok (.iconst 1, 1) := by decide +kernel
theorem dX4_part_13 : decode cX4_part 13 = .ok (.if_icmp .le 21, 3) := by decide +kernel
theorem dX4_part_16 : decode cX4_part 16 = .ok (.iload_n 2, 1) := by decide +kernel
theorem dX4_part_17 : decode cX4_part 17 = .ok (.ldc 99, 2) := by decide +kernel
theorem dX4_part_19 : decode cX4_part 19 = .ok (.if_icmp .gt 15, 3) := by decide +kernel
theorem dX4_part_22 : decode cX4_part 22 = .ok (.iload 5, 2) := by decide +kernel
theorem dX4_part_24 : decode cX4_part 24 = .ok (.ifCond .lt 10, 3) := by decide +kernel
theorem dX4_part_27 : decode cX4_part 27 = .ok (.iload 5, 2) := by decide +kernel
theorem dX4_part_29 : decode cX4_part 29 = .ok (.bipush 8, 2) := by decide +kernel
theorem dX4_part_31 : decode cX4_part 31 = .ok (.if_icmp .le 6, 3) := by decide +kernel
theorem dX4_part_34 : decode cX4_part 34 = .ok (.bipush (-3), 2) := by decide +kernel
theorem dX4_part_36 : decode cX4_part 36 = .ok (.ireturn, 1) := by decide +kernel
theorem dX4_part_37 : decode cX4_part 37 = .ok (.aload_n 0, 1) := by decide +kernel
theorem dX4_part_38 : decode cX4_part 38 = .ok (.getfield 11, 3) := by decide +kernel
theorem dX4_part_41 : decode cX4_part 41 = .ok (.iload_n 1, 1) := by decide +kernel
theorem dX4_part_42 : decode cX4_part 42 = .ok (.aaload, 1) := by decide +kernel
theorem dX4_part_43 : decode cX4_part 43 = .ok (.astore 6, 2) := by decide +kernel
theorem dX4_part_45 : decode cX4_part 45 = .ok (.aload 6, 2) := by decide +kernel
theorem dX4_part_47 : decode cX4_part 47 = .ok (.getfield 100, 3) := by decide +kernel
theorem dX4_part_50 : decode cX4_part 50 = .ok (.iconst 3, 1) := by decide +kernel
theorem dX4_part_51 : decode cX4_part 51 = .ok (.if_icmp .lt 6, 3) := by decide +kernel
theorem dX4_part_54 : decode cX4_part 54 = .ok (.bipush (-5), 2) := by decide +kernel
theorem dX4_part_56 : decode cX4_part 56 = .ok (.ireturn, 1) := by decide +kernel
theorem dX4_part_57 : decode cX4_part 57 = .ok (.aload 6, 2) := by decide +kernel
theorem dX4_part_59 : decode cX4_part 59 = .ok (.getfield 103, 3) := by decide +kernel
theorem dX4_part_62 : decode cX4_part 62 = .ok (.aload 6, 2) := by decide +kernel
theorem dX4_part_64 : decode cX4_part 64 = .ok (.getfield 100, 3) := by decide +kernel
theorem dX4_part_67 : decode cX4_part 67 = .ok (.iload_n 2, 1) := by decide +kernel
theorem dX4_part_68 : decode cX4_part 68 = .ok (.iastore, 1) := by decide +kernel
theorem dX4_part_69 : decode cX4_part 69 = .ok (.aload 6, 2) := by decide +kernel
theorem dX4_part_71 : decode cX4_part 71 = .ok (.getfield 107, 3) := by decide +kernel
theorem dX4_part_74 : decode cX4_part 74 = .ok (.aload 6, 2) := by decide +kernel
theorem dX4_part_76 : decode cX4_part 76 = .ok (.getfield 100, 3) := by decide +kernel
theorem dX4_part_79 : decode cX4_part 79 = .ok (.iload 5, 2) := by decide +kernel
theorem dX4_part_81 : decode cX4_part 81 = .ok (.iastore, 1) := by decide +kernel
theorem dX4_part_82 : decode cX4_part 82 = .ok (.lload_n 3, 1) := by decide +kernel
theorem dX4_part_83 : decode cX4_part 83 = .ok (.iload 5, 2) := by decide +kernel
theorem dX4_part_85 : decode cX4_part 85 = .ok (.aload 6, 2) := by decide +kernel
theorem dX4_part_87 : decode cX4_part 87 = .ok (.getfield 110, 3) := by decide +kernel
theorem dX4_part_90 : decode cX4_part 90 = .ok (.aload 6, 2) := by decide +kernel
theorem dX4_part_92 : decode cX4_part 92 = .ok (.getfield 100, 3) := by decide +kernel
theorem dX4_part_95 : decode cX4_part 95 = .ok (.bipush 8, 2) := by decide +kernel
theorem dX4_part_97 : decode cX4_part 97 = .ok (.imul, 1) := by decide +kernel
theorem dX4_part_98 : decode cX4_part 98 = .ok (.invokestatic 81, 3) := by decide +kernel
theorem dX4_part_101 : decode cX4_part 101 = .ok (.aload 6, 2) := by decide +kernel
theorem dX4_part_103 : decode cX4_part 103 = .ok (.dup, 1) := by decide +kernel
theorem dX4_part_104 : decode cX4_part 104 = .ok (.getfield 100, 3) := by decide +kernel
theorem dX4_part_107 : decode cX4_part 107 = .ok (.iconst 1, 1) := by decide +kernel
theorem dX4_part_108 : decode cX4_part 108 = .ok (.iadd, 1) := by decide +kernel
theorem dX4_part_109 : decode cX4_part 109 = .ok (.putfield 100, 3) := by decide +kernel
theorem dX4_part_112 : decode cX4_part 112 = .ok (.aload 6, 2) := by decide +kernel
theorem dX4_part_114 : decode cX4_part 114 = .ok (.getfield 100, 3) := by decide +kernel
theorem dX4_part_117 : decode cX4_part 117 = .ok (.ireturn, 1) := by decide +kernel
theorem dX4_stamp_0 : decode cX4_stamp 0 = .ok (.aload_n 0, 1) := by decide +kernel
theorem dX4_stamp_1 : decode cX4_stamp 1 = .ok (.iload_n 1, 1) := by decide +kernel
theorem dX4_stamp_2 : decode cX4_stamp 2 = .ok (.invokevirtual 61, 3) := by decide +kernel
theorem dX4_stamp_5 : decode cX4_stamp 5 = .ok (.ifCond .eq 6, 3) := by decide +kernel
theorem dX4_stamp_8 : decode cX4_stamp 8 = .ok (.bipush (-2), 2) := by decide +kernel
theorem dX4_stamp_10 : decode cX4_stamp 10 = .ok (.ireturn, 1) := by decide +kernel
theorem dX4_stamp_11 : decode cX4_stamp 11 = .ok (.iload_n 2, 1) := by decide +kernel
theorem dX4_stamp_12 : decode cX4_stamp 12 = .ok (.sipush 1980, 3) := by decide +kernel
theorem dX4_stamp_15 : decode cX4_stamp 15 = .ok (.if_icmp .lt 34, 3) := by decide +kernel
theorem dX4_stamp_18 : decode cX4_stamp 18 = .ok (.iload_n 2, 1) := by decide +kernel
theorem dX4_stamp_19 : decode cX4_stamp 19 = .ok (.sipush 2107, 3) := by decide +kernel
theorem dX4_stamp_22 : decode cX4_stamp 22 = .ok (.if_icmp .gt 27, 3) := by decide +kernel
theorem dX4_stamp_25 : decode cX4_stamp 25 = .ok (.iload_n 3, 1) := by decide +kernel
theorem dX4_stamp_26 : decode cX4_stamp 26 = .ok (.iconst 1, 1) := by decide +kernel
theorem dX4_stamp_27 : decode cX4_stamp 27 = .ok (.if_icmp .lt 22, 3) := by decide +kernel
theorem dX4_stamp_30 : decode cX4_stamp 30 = .ok (.iload_n 3, 1) := by decide +kernel
theorem dX4_stamp_31 : decode cX4_stamp 31 = .ok (.bipush 12, 2) := by decide +kernel
theorem dX4_stamp_33 : decode cX4_stamp 33 = .ok (.if_icmp .gt 16, 3) := by decide +kernel
theorem dX4_stamp_36 : decode cX4_stamp 36 = .ok (.iload 4, 2) := by decide +kernel
theorem dX4_stamp_38 : decode cX4_stamp 38 = .ok (.iconst 1, 1) := by decide +kernel
theorem dX4_stamp_39 : decode cX4_stamp 39 = .ok (.if_icmp .lt 10, 3) := by decide +kernel
theorem dX4_stamp_42 : decode cX4_stamp 42 = .ok (.iload 4, 2) := by decide +kernel
theorem dX4_stamp_44 : decode cX4_stamp 44 = .ok (.bipush 31, 2) := by decide +kernel
theorem dX4_stamp_46 : decode cX4_stamp 46 = .ok (.if_icmp .le 6, 3) := by decide +kernel
theorem dX4_stamp_49 : decode cX4_stamp 49 = .ok (.bipush (-3), 2) := by decide +kernel
theorem dX4_stamp_51 : decode cX4_stamp 51 = .ok (.ireturn, 1) := by decide +kernel
theorem dX4_stamp_52 : decode cX4_stamp 52 = .ok (.iload 5, 2) := by decide +kernel
theorem dX4_stamp_54 : decode cX4_stamp 54 = .ok (.ifCond .lt 10, 3) := by decide +kernel
theorem dX4_stamp_57 : decode cX4_stamp 57 = .ok (.iload 5, 2) := by decide +kernel
theorem dX4_stamp_59 : decode cX4_stamp 59 = .ok (.ldc 113, 2) := by decide +kernel
theorem dX4_stamp_61 : decode cX4_stamp 61 = .ok (.if_icmp .le 6, 3) := by decide +kernel
theorem dX4_stamp_64 : decode cX4_stamp 64 = .ok (.bipush (-3), 2) := by decide +kernel
theorem dX4_stamp_66 : decode cX4_stamp 66 = .ok (.ireturn, 1) := by decide +kernel
theorem dX4_stamp_67 : decode cX4_stamp 67 = .ok (.aload_n 0, 1) := by decide +kernel
theorem dX4_stamp_68 : decode cX4_stamp 68 = .ok (.getfield 11, 3) := by decide +kernel
theorem dX4_stamp_71 : decode cX4_stamp 71 = .ok (.iload_n 1, 1) := by decide +kernel
theorem dX4_stamp_72 : decode cX4_stamp 72 = .ok (.aaload, 1) := by decide +kernel
theorem dX4_stamp_73 : decode cX4_stamp 73 = .ok (.astore 6, 2) := by decide +kernel
theorem dX4_stamp_75 : decode cX4_stamp 75 = .ok (.aload 6, 2) := by decide +kernel
theorem dX4_stamp_77 : decode cX4_stamp 77 = .ok (.iload_n 2, 1) := by decide +kernel
theorem dX4_stamp_78 : decode cX4_stamp 78 = .ok (.sipush 1980, 3) := by decide +kernel
theorem dX4_stamp_81 : decode cX4_stamp 81 = .ok (.isub, 1) := by decide +kernel
theorem dX4_stamp_82 : decode cX4_stamp 82 = .ok (.sipush 512, 3) := by decide +kernel
theorem dX4_stamp_85 : decode cX4_stamp 85 = .ok (.imul, 1) := by decide +kernel
theorem dX4_stamp_86 : decode cX4_stamp 86 = .ok (.iload_n 3, 1) := by decide +kernel
theorem dX4_stamp_87 : decode cX4_stamp 87 = .ok (.bipush 32, 2) := by decide +kernel
theorem dX4_stamp_89 : decode cX4_stamp 89 = .ok (.imul, 1) := by decide +kernel
theorem dX4_stamp_90 : decode cX4_stamp 90 = .ok (.iadd, 1) := by decide +kernel
theorem dX4_stamp_91 : decode cX4_stamp 91 = .ok (.iload 4, 2) := by decide +kernel
theorem dX4_stamp_93 : decode cX4_stamp 93 = .ok (.iadd, 1) := by decide +kernel
theorem dX4_stamp_94 : decode cX4_stamp 94 = .ok (.putfield 114, 3) := by decide +kernel
theorem dX4_stamp_97 : decode cX4_stamp 97 = .ok (.aload 6, 2) := by decide +kernel
theorem dX4_stamp_99 : decode cX4_stamp 99 = .ok (.iload 5, 2) := by decide +kernel
theorem dX4_stamp_101 : decode cX4_stamp 101 = .ok (.sipush 3600, 3) := by decide +kernel
theorem dX4_stamp_104 : decode cX4_stamp 104 = .ok (.idiv, 1) := by decide +kernel
theorem dX4_stamp_105 : decode cX4_stamp 105 = .ok (.sipush 2048, 3) := by decide +kernel
theorem dX4_stamp_108 : decode cX4_stamp 108 = .ok (.imul, 1) := by decide +kernel
theorem dX4_stamp_109 : decode cX4_stamp 109 = .ok (.iload 5, 2) := by decide +kernel
theorem dX4_stamp_111 : decode cX4_stamp 111 = .ok (.bipush 60, 2) := by decide +kernel
theorem dX4_stamp_113 : decode cX4_stamp 113 = .ok (.idiv, 1) := by decide +kernel
theorem dX4_stamp_114 : decode cX4_stamp 114 = .ok (.bipush 60, 2) := by decide +kernel
theorem dX4_stamp_116 : decode cX4_stamp 116 = .ok (.irem, 1) := by decide +kernel
theorem dX4_stamp_117 : decode cX4_stamp 117 = .ok (.bipush 32, 2) := by decide +kernel
theorem dX4_stamp_119 : decode cX4_stamp 119 = .ok (.imul, 1) := by decide +kernel
theorem dX4_stamp_120 : decode cX4_stamp 120 = .ok (.iadd, 1) := by decide +kernel
theorem dX4_stamp_121 : decode cX4_stamp 121 = .ok (.iload 5, 2) := by decide +kernel
theorem dX4_stamp_123 : decode cX4_stamp 123 = .ok (.bipush 60, 2) := by decide +kernel
theorem dX4_stamp_125 : decode cX4_stamp 125 = .ok (.irem, 1) := by decide +kernel
theorem dX4_stamp_126 : decode cX4_stamp 126 = .ok (.iconst 2, 1) := by decide +kernel
theorem dX4_stamp_127 : decode cX4_stamp 127 = .ok (.idiv, 1) := by decide +kernel
theorem dX4_stamp_128 : decode cX4_stamp 128 = .ok (.iadd, 1) := by decide +kernel
theorem dX4_stamp_129 : decode cX4_stamp 129 = .ok (.putfield 117, 3) := by decide +kernel
theorem dX4_stamp_132 : decode cX4_stamp 132 = .ok (.iconst 1, 1) := by decide +kernel
theorem dX4_stamp_133 : decode cX4_stamp 133 = .ok (.ireturn, 1) := by decide +kernel
theorem dX4_attributes_0 : decode cX4_attributes 0 = .ok (.aload_n 0, 1) := by decide +kernel
theorem dX4_attributes_1 : decode cX4_attributes 1 = .ok (.iload_n 1, 1) := by decide +kernel
theorem dX4_attributes_2 : decode cX4_attributes 2 = .ok (.invokevirtual 61, 3) := by decide +kernel
theorem dX4_attributes_5 : decode cX4_attributes 5 = .ok (.ifCond .eq 6, 3) := by decide +kernel
theorem dX4_attributes_8 : decode cX4_attributes 8 = .ok (.bipush (-2), 2) := by decide +kernel
theorem dX4_attributes_10 : decode cX4_attributes 10 = .ok (.ireturn, 1) := by decide +kernel
theorem dX4_attributes_11 : decode cX4_attributes 11 = .ok (.aload_n 0, 1) := by decide +kernel
theorem dX4_attributes_12 : decode cX4_attributes 12 = .ok (.getfield 11, 3) := by decide +kernel
theorem dX4_attributes_15 : decode cX4_attributes 15 = .ok (.iload_n 1, 1) := by decide +kernel
theorem dX4_attributes_16 : decode cX4_attributes 16 = .ok (.aaload, 1) := by decide +kernel
theorem dX4_attributes_17 : decode cX4_attributes 17 = .ok (.iload_n 2, 1) := by decide +kernel
theorem dX4_attributes_18 : decode cX4_attributes 18 = .ok (.putfield 120, 3) := by decide +kernel
theorem dX4_attributes_21 : decode cX4_attributes 21 = .ok (.iconst 1, 1) := by decide +kernel
theorem dX4_attributes_22 : decode cX4_attributes 22 = .ok (.ireturn, 1) := by decide +kernel
theorem dX4_clear_0 : decode cX4_clear 0 = .ok (.aload_n 0, 1) := by decide +kernel
theorem dX4_clear_1 : decode cX4_clear 1 = .ok (.getfield 35, 3) := by decide +kernel
theorem dX4_clear_4 : decode cX4_clear 4 = .ok (.istore_n 1, 1) := by decide +kernel
theorem dX4_clear_5 : decode cX4_clear 5 = .ok (.aload_n 0, 1) := by decide +kernel
theorem dX4_clear_6 : decode cX4_clear 6 = .ok (.iconst 0, 1) := by decide +kernel
theorem dX4_clear_7 : decode cX4_clear 7 = .ok (.putfield 35, 3) := by decide +kernel
theorem dX4_clear_10 : decode cX4_clear 10 = .ok (.iload_n 1, 1) := by decide +kernel
theorem dX4_clear_11 : decode cX4_clear 11 = .ok (.ireturn, 1) := by decide +kernel
theorem dX4_comment_0 : decode cX4_comment 0 = .ok (.iload_n 3, 1) := by decide +kernel
theorem dX4_comment_1 : decode cX4_comment 1 = .ok (.ifCond .lt 9, 3) := by decide +kernel
theorem dX4_comment_4 : decode cX4_comment 4 = .ok (.iload_n 3, 1) := by decide +kernel
theorem dX4_comment_5 : decode cX4_comment 5 = .ok (.bipush 8, 2) := by decide +kernel
theorem dX4_comment_7 : decode cX4_comment 7 = .ok (.if_icmp .le 6, 3) := by decide +kernel
theorem dX4_comment_10 : decode cX4_comment 10 = .ok (.bipush (-3), 2) := by decide +kernel
theorem dX4_comment_12 : decode cX4_comment 12 = .ok (.ireturn, 1) := by decide +kernel
theorem dX4_comment_13 : decode cX4_comment 13 = .ok (.lload_n 1, 1) := by decide +kernel
theorem dX4_comment_14 : decode cX4_comment 14 = .ok (.iload_n 3, 1) := by decide +kernel
theorem dX4_comment_15 : decode cX4_comment 15 = .ok (.aload_n 0, 1) := by decide +kernel
theorem dX4_comment_16 : decode cX4_comment 16 = .ok (.getfield 31, 3) := by decide +kernel
theorem dX4_comment_19 : decode cX4_comment 19 = .ok (.iconst 0, 1) := by decide +kernel
theorem dX4_comment_20 : decode cX4_comment 20 = .ok (.invokestatic 81, 3) := by decide +kernel
theorem dX4_comment_23 : decode cX4_comment 23 = .ok (.aload_n 0, 1) := by decide +kernel
theorem dX4_comment_24 : decode cX4_comment 24 = .ok (.iload_n 3, 1) := by decide +kernel
theorem dX4_comment_25 : decode cX4_comment 25 = .ok (.putfield 39, 3) := by decide +kernel
theorem dX4_comment_28 : decode cX4_comment 28 = .ok (.iconst 1, 1) := by decide +kernel
theorem dX4_comment_29 : decode cX4_comment 29 = .ok (.ireturn, 1) := by decide +kernel
theorem dX4_write_0 : decode cX4_write 0 = .ok (.aload_n 0, 1) := by decide +kernel
theorem dX4_write_1 : decode cX4_write 1 = .ok (.invokevirtual 123, 3) := by decide +kernel
theorem dX4_write_4 : decode cX4_write 4 = .ok (.ifCond .eq 9, 3) := by decide +kernel
theorem dX4_write_7 : decode cX4_write 7 = .ok (.aload_n 0, 1) := by decide +kernel
theorem dX4_write_8 : decode cX4_write 8 = .ok (.iconst 1, 1) := by decide +kernel
theorem dX4_write_9 : decode cX4_write 9 = .ok (.invokevirtual 71, 3) := by decide +kernel
theorem dX4_write_12 : decode cX4_write 12 = .ok (.ireturn, 1) := by decide +kernel
theorem dX4_write_13 : decode cX4_write 13 = .ok (.aload_n 0, 1) := by decide +kernel
theorem dX4_write_14 : decode cX4_write 14 = .ok (.iconst 0, 1) := by decide +kernel
theorem dX4_write_15 : decode cX4_write 15 = .ok (.invokevirtual 127, 3) := by decide +kernel
theorem dX4_write_18 : decode cX4_write 18 = .ok (.sipush 2000, 3) := by decide +kernel
theorem dX4_write_21 : decode cX4_write 21 = .ok (.if_icmp .le 6, 3) := by decide +kernel
theorem dX4_write_24 : decode cX4_write 24 = .ok (.bipush (-5), 2) := by decide +kernel
theorem dX4_write_26 : decode cX4_write 26 = .ok (.ireturn, 1) := by decide +kernel
theorem dX4_write_27 : decode cX4_write 27 = .ok (.aload_n 0, 1) := by decide +kernel
theorem dX4_write_28 : decode cX4_write 28 = .ok (.getfield 18, 3) := by decide +kernel
theorem dX4_write_31 : decode cX4_write 31 = .ok (.iconst 0, 1) := by decide +kernel
theorem dX4_write_32 : decode cX4_write 32 = .ok (.putfield 130, 3) := by decide +kernel
theorem dX4_write_35 : decode cX4_write 35 = .ok (.aload_n 0, 1) := by decide +kernel
theorem dX4_write_36 : decode cX4_write 36 = .ok (.iconst 0, 1) := by decide +kernel
theorem dX4_write_37 : decode cX4_write 37 = .ok (.invokevirtual 133, 3) := by decide +kernel
theorem dX4_write_40 : decode cX4_write 40 = .ok (.ireturn, 1) := by decide +kernel
theorem dX4_add_0 : decode cX4_add 0 = .ok (.iload_n 1, 1) := by decide +kernel
theorem dX4_add_1 : decode cX4_add 1 = .ok (.ifCond .lt 11, 3) := by decide +kernel
theorem dX4_add_4 : decode cX4_add 4 = .ok (.iload_n 1, 1) := by decide +kernel
theorem dX4_add_5 : decode cX4_add 5 = .ok (.aload_n 0, 1) := by decide +kernel
theorem dX4_add_6 : decode cX4_add 6 = .ok (.getfield 35, 3) := by decide +kernel
theorem dX4_add_9 : decode cX4_add 9 = .ok (.if_icmp .le 6, 3) := by decide +kernel
theorem dX4_add_12 : decode cX4_add 12 = .ok (.bipush (-2), 2) := by decide +kernel
theorem dX4_add_14 : decode cX4_add 14 = .ok (.ireturn, 1) := by decide +kernel
theorem dX4_add_15 : decode cX4_add 15 = .ok (.aload_n 0, 1) := by decide +kernel
theorem dX4_add_16 : decode cX4_add 16 = .ok (.iload_n 1, 1) := by decide +kernel
theorem dX4_add_17 : decode cX4_add 17 = .ok (.invokevirtual 136, 3) := by decide +kernel
theorem dX4_add_20 : decode cX4_add 20 = .ok (.ifCond .ne 6, 3) := by decide +kernel
theorem dX4_add_23 : decode cX4_add 23 = .ok (.bipush (-4), 2) := by decide +kernel
theorem dX4_add_25 : decode cX4_add 25 = .ok (.ireturn, 1) := by decide +kernel
theorem dX4_add_26 : decode cX4_add 26 = .ok (.aload_n 0, 1) := by decide +kernel
theorem dX4_add_27 : decode cX4_add 27 = .ok (.invokevirtual 123, 3) := by decide +kernel
theorem dX4_add_30 : decode cX4_add 30 = .ok (.ifCond .eq 9, 3) := by decide +kernel
theorem dX4_add_33 : decode cX4_add 33 = .ok (.aload_n 0, 1) := by decide +kernel
theorem dX4_add_34 : decode cX4_add 34 = .ok (.iconst 1, 1) := by decide +kernel
theorem dX4_add_35 : decode cX4_add 35 = .ok (.invokevirtual 71, 3) := by decide +kernel
theorem dX4_add_38 : decode cX4_add 38 = .ok (.ireturn, 1) := by decide +kernel
theorem dX4_add_39 : decode cX4_add 39 = .ok (.aload_n 0, 1) := by decide +kernel
theorem dX4_add_40 : decode cX4_add 40 = .ok (.getfield 18, 3) := by decide +kernel
theorem dX4_add_43 : decode cX4_add 43 = .ok (.getfield 130, 3) := by decide +kernel
theorem dX4_add_46 : decode cX4_add 46 = .ok (.aload_n 0, 1) := by decide +kernel
theorem dX4_add_47 : decode cX4_add 47 = .ok (.iload_n 1, 1) := by decide +kernel
theorem dX4_add_48 : decode cX4_add 48 = .ok (.invokevirtual 127, 3) := by decide +kernel
theorem dX4_add_51 : decode cX4_add 51 = .ok (.iadd, 1) := by decide +kernel
theorem dX4_add_52 : decode cX4_add 52 = .ok (.sipush 2000, 3) := by decide +kernel
theorem dX4_add_55 : decode cX4_add 55 = .ok (.if_icmp .le 6, 3) := by decide +kernel
theorem dX4_add_58 : decode cX4_add 58 = .ok (.bipush (-5), 2) := by decide +kernel
theorem dX4_add_60 : decode cX4_add 60 = .ok (.ireturn, 1) := by decide +kernel
theorem dX4_add_61 : decode cX4_add 61 = .ok (.aload_n 0, 1) := by decide +kernel
theorem dX4_add_62 : decode cX4_add 62 = .ok (.iload_n 1, 1) := by decide +kernel
theorem dX4_add_63 : decode cX4_add 63 = .ok (.invokevirtual 133, 3) := by decide +kernel
theorem dX4_add_66 : decode cX4_add 66 = .ok (.ireturn, 1) := by decide +kernel
theorem dX4_read_0 : decode cX4_read 0 = .ok (.aload_n 0, 1) := by decide +kernel
theorem dX4_read_1 : decode cX4_read 1 = .ok (.getfield 27, 3) := by decide +kernel
theorem dX4_read_4 : decode cX4_read 4 = .ok (.invokevirtual 139, 3) := by decide +kernel
theorem dX4_read_7 : decode cX4_read 7 = .ok (.ifCond .ne 25, 3) := by decide +kernel
theorem dX4_read_10 : decode cX4_read 10 = .ok (.aload_n 0, 1) := by decide +kernel
theorem dX4_read_11 : decode cX4_read 11 = .ok (.aload_n 0, 1) := by decide +kernel
theorem dX4_read_12 : decode cX4_read 12 = .ok (.getfield 27, 3) := by decide +kernel
theorem dX4_read_15 : decode cX4_read 15 = .ok (.getfield 142, 3) := by decide +kernel
theorem dX4_read_18 : decode cX4_read 18 = .ok (.putfield 45, 3) := by decide +kernel
theorem dX4_read_21 : decode cX4_read 21 = .ok (.bipush (-10), 2) := by decide +kernel
theorem dX4_read_23 : decode cX4_read 23 = .ok (.aload_n 0, 1) := by decide +kernel
theorem dX4_read_24 : decode cX4_read 24 = .ok (.getfield 27, 3) := by decide +kernel
theorem dX4_read_27 : decode cX4_read 27 = .ok (.getfield 143, 3) := by decide +kernel
theorem dX4_read_30 : decode cX4_read 30 = .ok (.isub, 1) := by decide +kernel
theorem dX4_read_31 : decode cX4_read 31 = .ok (.ireturn, 1) := by decide +kernel
theorem dX4_read_32 : decode cX4_read 32 = .ok (.aload_n 0, 1) := by decide +kernel
theorem dX4_read_33 : decode cX4_read 33 = .ok (.iconst (-1), 1) := by decide +kernel
theorem dX4_read_34 : decode cX4_read 34 = .ok (.putfield 45, 3) := by decide +kernel
theorem dX4_read_37 : decode cX4_read 37 = .ok (.aload_n 0, 1) := by decide +kernel
theorem dX4_read_38 : decode cX4_read 38 = .ok (.aload_n 0, 1) := by decide +kernel
theorem dX4_read_39 : decode cX4_read 39 = .ok (.getfield 27, 3) := by decide +kernel
theorem dX4_read_42 : decode cX4_read 42 = .ok (.getfield 146, 3) := by decide +kernel
theorem dX4_read_45 : decode cX4_read 45 = .ok (.putfield 35, 3) := by decide +kernel
theorem dX4_read_48 : decode cX4_read 48 = .ok (.iconst 0, 1) := by decide +kernel
theorem dX4_read_49 : decode cX4_read 49 = .ok (.istore_n 1, 1) := by decide +kernel
theorem dX4_read_50 : decode cX4_read 50 = .ok (.iload_n 1, 1) := by decide +kernel
theorem dX4_read_51 : decode cX4_read 51 = .ok (.aload_n 0, 1) := by decide +kernel
theorem dX4_read_52 : decode cX4_read 52 = .ok (.getfield 35, 3) := by decide +kernel
theorem dX4_read_55 : decode cX4_read 55 = .ok (.if_icmp .ge 37, 3) := by decide +kernel
theorem dX4_read_58 : decode cX4_read 58 = .ok (.iload_n 1, 1) := by decide +kernel
theorem dX4_read_59 : decode cX4_read 59 = .ok (.bipush 12, 2) := by decide +kernel
theorem dX4_read_61 : decode cX4_read 61 = .ok (.if_icmp .ge 31, 3) := by decide +kernel
theorem dX4_read_64 : decode cX4_read 64 = .ok (.aload_n 0, 1) := by decide +kernel
theorem dX4_read_65 : decode cX4_read 65 = .ok (.getfield 11, 3) := by decide +kernel
theorem dX4_read_68 : decode cX4_read 68 = .ok (.iload_n 1, 1) := by decide +kernel
theorem dX4_read_69 : decode cX4_read 69 = .ok (.aaload, 1) := by decide +kernel
theorem dX4_read_70 : decode cX4_read 70 = .ok (.aload_n 0, 1) := by decide +kernel
theorem dX4_read_71 : decode cX4_read 71 = .ok (.getfield 27, 3) := by decide +kernel
theorem dX4_read_74 : decode cX4_read 74 = .ok (.getfield 149, 3) := by decide +kernel
theorem dX4_read_77 : decode cX4_read 77 = .ok (.iload_n 1, 1) := by decide +kernel
theorem dX4_read_78 : decode cX4_read 78 = .ok (.aaload, 1) := by decide +kernel
theorem dX4_read_79 : decode cX4_read 79 = .ok (.aload_n 0, 1) := by decide +kernel
theorem dX4_read_80 : decode cX4_read 80 = .ok (.getfield 18, 3) := by decide +kernel
theorem dX4_read_83 : decode cX4_read 83 = .ok (.invokevirtual 153, 3) := by decide +kernel
theorem dX4_read_86 : decode cX4_read 86 = .ok (.iinc 1 1, 3) := by decide +kernel
theorem dX4_read_89 : decode cX4_read 89 = .ok (.goto (-39), 3) := by decide +kernel
theorem dX4_read_92 : decode cX4_read 92 = .ok (.aload_n 0, 1) := by decide +kernel
theorem dX4_read_93 : decode cX4_read 93 = .ok (.aload_n 0, 1) := by decide +kernel
theorem dX4_read_94 : decode cX4_read 94 = .ok (.getfield 27, 3) := by decide +kernel
theorem dX4_read_97 : decode cX4_read 97 = .ok (.getfield 157, 3) := by decide +kernel
theorem dX4_read_100 : decode cX4_read 100 = .ok (.putfield 39, 3) := by decide +kernel
theorem dX4_read_103 : decode cX4_read 103 = .ok (.aload_n 0, 1) := by decide +kernel
theorem dX4_read_104 : decode cX4_read 104 = .ok (.getfield 18, 3) := by decide +kernel
theorem dX4_read_107 : decode cX4_read 107 = .ok (.aload_n 0, 1) := by decide +kernel
theorem dX4_read_108 : decode cX4_read 108 = .ok (.getfield 27, 3) := by decide +kernel
theorem dX4_read_111 : decode cX4_read 111 = .ok (.getfield 158, 3) := by decide +kernel
theorem dX4_read_114 : decode cX4_read 114 = .ok (.bipush 22, 2) := by decide +kernel
theorem dX4_read_116 : decode cX4_read 116 = .ok (.iadd, 1) := by decide +kernel
theorem dX4_read_117 : decode cX4_read 117 = .ok (.aload_n 0, 1) := by decide +kernel
theorem dX4_read_118 : decode cX4_read 118 = .ok (.getfield 39, 3) := by decide +kernel
theorem dX4_read_121 : decode cX4_read 121 = .ok (.aload_n 0, 1) := by decide +kernel
theorem dX4_read_122 : decode cX4_read 122 = .ok (.getfield 31, 3) := by decide +kernel
theorem dX4_read_125 : decode cX4_read 125 = .ok (.iconst 0, 1) := by decide +kernel
theorem dX4_read_126 : decode cX4_read 126 = .ok (.invokevirtual 161, 3) := by decide +kernel
theorem dX4_read_129 : decode cX4_read 129 = .ok (.aload_n 0, 1) := by decide +kernel
theorem dX4_read_130 : decode cX4_read 130 = .ok (.getfield 35, 3) := by decide +kernel
theorem dX4_read_133 : decode cX4_read 133 = .ok (.ireturn, 1) := by decide +kernel
theorem dX4_place_0 : decode cX4_place 0 = .ok (.aload_n 0, 1) := by decide +kernel
theorem dX4_place_1 : decode cX4_place 1 = .ok (.getfield 45, 3) := by decide +kernel
theorem dX4_place_4 : decode cX4_place 4 = .ok (.ireturn, 1) := by decide +kernel
theorem dX4_feed_0 : decode cX4_feed 0 = .ok (.iload_n 3, 1) := by decide +kernel
theorem dX4_feed_1 : decode cX4_feed 1 = .ok (.iconst 1, 1) := by decide +kernel
theorem dX4_feed_2 : decode cX4_feed 2 = .ok (.if_icmp .lt 9, 3) := by decide +kernel
theorem dX4_feed_5 : decode cX4_feed 5 = .ok (.iload_n 3, 1) := by decide +kernel
theorem dX4_feed_6 : decode cX4_feed 6 = .ok (.bipush 8, 2) := by decide +kernel
theorem dX4_feed_8 : decode cX4_feed 8 = .ok (.if_icmp .le 6, 3) := by decide +kernel
theorem dX4_feed_11 : decode cX4_feed 11 = .ok (.bipush (-3), 2) := by decide +kernel
theorem dX4_feed_13 : decode cX4_feed 13 = .ok (.ireturn, 1) := by decide +kernel
theorem dX4_feed_14 : decode cX4_feed 14 = .ok (.aload_n 0, 1) := by decide +kernel
theorem dX4_feed_15 : decode cX4_feed 15 = .ok (.getfield 18, 3) := by decide +kernel
theorem dX4_feed_18 : decode cX4_feed 18 = .ok (.getfield 130, 3) := by decide +kernel
theorem dX4_feed_21 : decode cX4_feed 21 = .ok (.iload_n 3, 1) := by decide +kernel
theorem dX4_feed_22 : decode cX4_feed 22 = .ok (.iadd, 1) := by decide +kernel
theorem dX4_feed_23 : decode cX4_feed 23 = .ok (.sipush 2000, 3) := by decide +kernel
theorem dX4_feed_26 : decode cX4_feed 26 = .ok (.if_icmp .le 6, 3) := by decide +kernel
theorem dX4_feed_29 : decode cX4_feed 29 = .ok (.bipush (-5), 2) := by decide +kernel
theorem dX4_feed_31 : decode cX4_feed 31 = .ok (.ireturn, 1) := by decide +kernel
theorem dX4_feed_32 : decode cX4_feed 32 = .ok (.lload_n 1, 1) := by decide +kernel
theorem dX4_feed_33 : decode cX4_feed 33 = .ok (.iload_n 3, 1) := by decide +kernel
theorem dX4_feed_34 : decode cX4_feed 34 = .ok (.aload_n 0, 1) := by decide +kernel
theorem dX4_feed_35 : decode cX4_feed 35 = .ok (.getfield 18, 3) := by decide +kernel
theorem dX4_feed_38 : decode cX4_feed 38 = .ok (.getfield 165, 3) := by decide +kernel
theorem dX4_feed_41 : decode cX4_feed 41 = .ok (.aload_n 0, 1) := by decide +kernel
theorem dX4_feed_42 : decode cX4_feed 42 = .ok (.getfield 18, 3) := by decide +kernel
theorem dX4_feed_45 : decode cX4_feed 45 = .ok (.getfield 130, 3) := by decide +kernel
theorem dX4_feed_48 : decode cX4_feed 48 = .ok (.invokestatic 81, 3) := by decide +kernel
theorem dX4_feed_51 : decode cX4_feed 51 = .ok (.aload_n 0, 1) := by decide +kernel
theorem dX4_feed_52 : decode cX4_feed 52 = .ok (.getfield 18, 3) := by decide +kernel
theorem dX4_feed_55 : decode cX4_feed 55 = .ok (.dup, 1) := by decide +kernel
theorem dX4_feed_56 : decode cX4_feed 56 = .ok (.getfield 130, 3) := by decide +kernel
theorem dX4_feed_59 : decode cX4_feed 59 = .ok (.iload_n 3, 1) := by decide +kernel
theorem dX4_feed_60 : decode cX4_feed 60 = .ok (.iadd, 1) := by decide +kernel
theorem dX4_feed_61 : decode cX4_feed 61 = .ok (.putfield 130, 3) := by decide +kernel
theorem dX4_feed_64 : decode cX4_feed 64 = .ok (.aload_n 0, 1) := by decide +kernel
theorem dX4_feed_65 : decode cX4_feed 65 = .ok (.getfield 18, 3) := by decide +kernel
theorem dX4_feed_68 : decode cX4_feed 68 = .ok (.getfield 130, 3) := by decide +kernel
theorem dX4_feed_71 : decode cX4_feed 71 = .ok (.ireturn, 1) := by decide +kernel
theorem dX4_cut_0 : decode cX4_cut 0 = .ok (.iload_n 1, 1) := by decide +kernel
theorem dX4_cut_1 : decode cX4_cut 1 = .ok (.ifCond .lt 14, 3) := by decide +kernel
theorem dX4_cut_4 : decode cX4_cut 4 = .ok (.iload_n 1, 1) := by decide +kernel
theorem dX4_cut_5 : decode cX4_cut 5 = .ok (.aload_n 0, 1) := by decide +kernel
theorem dX4_cut_6 : decode cX4_cut 6 = .ok (.getfield 18, 3) := by decide +kernel
theorem dX4_cut_9 : decode cX4_cut 9 = .ok (.getfield 130, 3) := by decide +kernel
theorem dX4_cut_12 : decode cX4_cut 12 = .ok (.if_icmp .le 6, 3) := by decide +kernel
theorem dX4_cut_15 : decode cX4_cut 15 = .ok (.bipush (-3), 2) := by decide +kernel
theorem dX4_cut_17 : decode cX4_cut 17 = .ok (.ireturn, 1) := by decide +kernel
theorem dX4_cut_18 : decode cX4_cut 18 = .ok (.aload_n 0, 1) := by decide +kernel
theorem dX4_cut_19 : decode cX4_cut 19 = .ok (.getfield 18, 3) := by decide +kernel
theorem dX4_cut_22 : decode cX4_cut 22 = .ok (.getfield 130, 3) := by decide +kernel
theorem dX4_cut_25 : decode cX4_cut 25 = .ok (.iload_n 1, 1) := by decide +kernel
theorem dX4_cut_26 : decode cX4_cut 26 = .ok (.isub, 1) := by decide +kernel
theorem dX4_cut_27 : decode cX4_cut 27 = .ok (.istore_n 2, 1) := by decide +kernel
theorem dX4_cut_28 : decode cX4_cut 28 = .ok (.aload_n 0, 1) := by decide +kernel
theorem dX4_cut_29 : decode cX4_cut 29 = .ok (.getfield 18, 3) := by decide +kernel
theorem dX4_cut_32 : decode cX4_cut 32 = .ok (.iload_n 1, 1) := by decide +kernel
theorem dX4_cut_33 : decode cX4_cut 33 = .ok (.putfield 130, 3) := by decide +kernel
theorem dX4_cut_36 : decode cX4_cut 36 = .ok (.iload_n 2, 1) := by decide +kernel
theorem dX4_cut_37 : decode cX4_cut 37 = .ok (.ireturn, 1) := by decide +kernel
theorem dX4_poke_0 : decode cX4_poke 0 = .ok (.aload_n 0, 1) := by decide +kernel
theorem dX4_poke_1 : decode cX4_poke 1 = .ok (.getfield 18, 3) := by decide +kernel
theorem dX4_poke_4 : decode cX4_poke 4 = .ok (.iload_n 1, 1) := by decide +kernel
theorem dX4_poke_5 : decode cX4_poke 5 = .ok (.iconst 1, 1) := by decide +kernel
theorem dX4_poke_6 : decode cX4_poke 6 = .ok (.invokevirtual 168, 3) := by decide +kernel
theorem dX4_poke_9 : decode cX4_poke 9 = .ok (.ifCond .ne 6, 3) := by decide +kernel
theorem dX4_poke_12 : decode cX4_poke 12 = .ok (.bipush (-2), 2) := by decide +kernel
theorem dX4_poke_14 : decode cX4_poke 14 = .ok (.ireturn, 1) := by decide +kernel
theorem dX4_poke_15 : decode cX4_poke 15 = .ok (.iload_n 2, 1) := by decide +kernel
theorem dX4_poke_16 : decode cX4_poke 16 = .ok (.ifCond .lt 10, 3) := by decide +kernel
theorem dX4_poke_19 : decode cX4_poke 19 = .ok (.iload_n 2, 1) := by decide +kernel
theorem dX4_poke_20 : decode cX4_poke 20 = .ok (.sipush 255, 3) := by decide +kernel
theorem dX4_poke_23 : decode cX4_poke 23 = .ok (.if_icmp .le 6, 3) := by decide +kernel
theorem dX4_poke_26 : decode cX4_poke 26 = .ok (.bipush (-3), 2) := by decide +kernel
theorem dX4_poke_28 : decode cX4_poke 28 = .ok (.ireturn, 1) := by decide +kernel
theorem dX4_poke_29 : decode cX4_poke 29 = .ok (.aload_n 0, 1) := by decide +kernel
theorem dX4_poke_30 : decode cX4_poke 30 = .ok (.getfield 18, 3) := by decide +kernel
theorem dX4_poke_33 : decode cX4_poke 33 = .ok (.getfield 165, 3) := by decide +kernel
theorem dX4_poke_36 : decode cX4_poke 36 = .ok (.iload_n 1, 1) := by decide +kernel
theorem dX4_poke_37 : decode cX4_poke 37 = .ok (.aload_n 0, 1) := by decide +kernel
theorem dX4_poke_38 : decode cX4_poke 38 = .ok (.getfield 18, 3) := by decide +kernel
theorem dX4_poke_41 : decode cX4_poke 41 = .ok (.getfield 165, 3) := by decide +kernel
theorem dX4_poke_44 : decode cX4_poke 44 = .ok (.iload_n 1, 1) := by decide +kernel
theorem dX4_poke_45 : decode cX4_poke 45 = .ok (.baload, 1) := by decide +kernel
theorem dX4_poke_46 : decode cX4_poke 46 = .ok (.iload_n 2, 1) := by decide +kernel
theorem dX4_poke_47 : decode cX4_poke 47 = .ok (.ixor, 1) := by decide +kernel
theorem dX4_poke_48 : decode cX4_poke 48 = .ok (.i2b, 1) := by decide +kernel
theorem dX4_poke_49 : decode cX4_poke 49 = .ok (.bastore, 1) := by decide +kernel
theorem dX4_poke_50 : decode cX4_poke 50 = .ok (.aload_n 0, 1) := by decide +kernel
theorem dX4_poke_51 : decode cX4_poke 51 = .ok (.getfield 18, 3) := by decide +kernel
theorem dX4_poke_54 : decode cX4_poke 54 = .ok (.iload_n 1, 1) := by decide +kernel
theorem dX4_poke_55 : decode cX4_poke 55 = .ok (.invokevirtual 172, 3) := by decide +kernel
theorem dX4_poke_58 : decode cX4_poke 58 = .ok (.ireturn, 1) := by decide +kernel
theorem dX4_at_0 : decode cX4_at 0 = .ok (.aload_n 0, 1) := by decide +kernel
theorem dX4_at_1 : decode cX4_at 1 = .ok (.getfield 18, 3) := by decide +kernel
theorem dX4_at_4 : decode cX4_at 4 = .ok (.iload_n 1, 1) := by decide +kernel
theorem dX4_at_5 : decode cX4_at 5 = .ok (.iconst 1, 1) := by decide +kernel
theorem dX4_at_6 : decode cX4_at 6 = .ok (.invokevirtual 168, 3) := by decide +kernel
theorem dX4_at_9 : decode cX4_at 9 = .ok (.ifCond .eq 14, 3) := by decide +kernel
theorem dX4_at_12 : decode cX4_at 12 = .ok (.aload_n 0, 1) := by decide +kernel
theorem dX4_at_13 : decode cX4_at 13 = .ok (.getfield 18, 3) := by decide +kernel
theorem dX4_at_16 : decode cX4_at 16 = .ok (.iload_n 1, 1) := by decide +kernel
theorem dX4_at_17 : decode cX4_at 17 = .ok (.invokevirtual 172, 3) := by decide +kernel
theorem dX4_at_20 : decode cX4_at 20 = .ok (.goto 8, 3) := by decide +kernel
theorem dX4_at_23 : decode cX4_at 23 = .ok (.aload_n 0, 1) := by decide +kernel
theorem dX4_at_24 : decode cX4_at 24 = .ok (.iconst 3, 1) := by decide +kernel
theorem dX4_at_25 : decode cX4_at 25 = .ok (.invokevirtual 71, 3) := by decide +kernel
theorem dX4_at_28 : decode cX4_at 28 = .ok (.ireturn, 1) := by decide +kernel
theorem dX4_half_0 : decode cX4_half 0 = .ok (.aload_n 0, 1) := by decide +kernel
theorem dX4_half_1 : decode cX4_half 1 = .ok (.getfield 18, 3) := by decide +kernel
theorem dX4_half_4 : decode cX4_half 4 = .ok (.iload_n 1, 1) := by decide +kernel
theorem dX4_half_5 : decode cX4_half 5 = .ok (.iconst 2, 1) := by decide +kernel
theorem dX4_half_6 : decode cX4_half 6 = .ok (.invokevirtual 168, 3) := by decide +kernel
theorem dX4_half_9 : decode cX4_half 9 = .ok (.ifCond .eq 14, 3) := by decide +kernel
theorem dX4_half_12 : decode cX4_half 12 = .ok (.aload_n 0, 1) := by decide +kernel
theorem dX4_half_13 : decode cX4_half 13 = .ok (.getfield 18, 3) := by decide +kernel
theorem dX4_half_16 : decode cX4_half 16 = .ok (.iload_n 1, 1) := by decide +kernel
theorem dX4_half_17 : decode cX4_half 17 = .ok (.invokevirtual 175, 3) := by decide +kernel
theorem dX4_half_20 : decode cX4_half 20 = .ok (.goto 8, 3) := by decide +kernel
theorem dX4_half_23 : decode cX4_half 23 = .ok (.aload_n 0, 1) := by decide +kernel
theorem dX4_half_24 : decode cX4_half 24 = .ok (.iconst 3, 1) := by decide +kernel
theorem dX4_half_25 : decode cX4_half 25 = .ok (.invokevirtual 71, 3) := by decide +kernel
theorem dX4_half_28 : decode cX4_half 28 = .ok (.ireturn, 1) := by decide +kernel
theorem dX4_word_0 : decode cX4_word 0 = .ok (.aload_n 0, 1) := by decide +kernel
theorem dX4_word_1 : decode cX4_word 1 = .ok (.getfield 18, 3) := by decide +kernel
theorem dX4_word_4 : decode cX4_word 4 = .ok (.iload_n 1, 1) := by decide +kernel
theorem dX4_word_5 : decode cX4_word 5 = .ok (.iconst 4, 1) := by decide +kernel
theorem dX4_word_6 : decode cX4_word 6 = .ok (.invokevirtual 168, 3) := by decide +kernel
theorem dX4_word_9 : decode cX4_word 9 = .ok (.ifCond .eq 14, 3) := by decide +kernel
theorem dX4_word_12 : decode cX4_word 12 = .ok (.aload_n 0, 1) := by decide +kernel
theorem dX4_word_13 : decode cX4_word 13 = .ok (.getfield 18, 3) := by decide +kernel
theorem dX4_word_16 : decode cX4_word 16 = .ok (.iload_n 1, 1) := by decide +kernel
theorem dX4_word_17 : decode cX4_word 17 = .ok (.invokevirtual 178, 3) := by decide +kernel
theorem dX4_word_20 : decode cX4_word 20 = .ok (.goto 9, 3) := by decide +kernel
theorem dX4_word_23 : decode cX4_word 23 = .ok (.aload_n 0, 1) := by decide +kernel
theorem dX4_word_24 : decode cX4_word 24 = .ok (.iconst 3, 1) := by decide +kernel
theorem dX4_word_25 : decode cX4_word 25 = .ok (.invokevirtual 71, 3) := by decide +kernel
theorem dX4_word_28 : decode cX4_word 28 = .ok (.i2l, 1) := by decide +kernel
theorem dX4_word_29 : decode cX4_word 29 = .ok (.lreturn, 1) := by decide +kernel
theorem dX4_about_0 : decode cX4_about 0 = .ok (.aload_n 0, 1) := by decide +kernel
theorem dX4_about_1 : decode cX4_about 1 = .ok (.iload_n 1, 1) := by decide +kernel
theorem dX4_about_2 : decode cX4_about 2 = .ok (.invokevirtual 61, 3) := by decide +kernel
theorem dX4_about_5 : decode cX4_about 5 = .ok (.ifCond .eq 6, 3) := by decide +kernel
theorem dX4_about_8 : decode cX4_about 8 = .ok (.bipush (-2), 2) := by decide +kernel
theorem dX4_about_10 : decode cX4_about 10 = .ok (.ireturn, 1) := by decide +kernel
theorem dX4_about_11 : decode cX4_about 11 = .ok (.aload_n 0, 1) := by decide +kernel
theorem dX4_about_12 : decode cX4_about 12 = .ok (.getfield 11, 3) := by decide +kernel
theorem dX4_about_15 : decode cX4_about 15 = .ok (.iload_n 1, 1) := by decide +kernel
theorem dX4_about_16 : decode cX4_about 16 = .ok (.aaload, 1) := by decide +kernel
theorem dX4_about_17 : decode cX4_about 17 = .ok (.astore_n 3, 1) := by decide +kernel
theorem dX4_about_18 : decode cX4_about 18 = .ok (.iload_n 2, 1) := by decide +kernel
theorem dX4_about_19 : decode cX4_about 19 = .ok (.tableswitch 129 0 10 #[57, 62, 67, 72, 77, 82, 87, 92, 97, 111, 116], 57) := by decide +kernel
theorem dX4_about_76 : decode cX4_about 76 = .ok (.aload_n 3, 1) := by decide +kernel
theorem dX4_about_77 : decode cX4_about 77 = .ok (.getfield 65, 3) := by decide +kernel
theorem dX4_about_80 : decode cX4_about 80 = .ok (.ireturn, 1) := by decide +kernel
theorem dX4_about_81 : decode cX4_about 81 = .ok (.aload_n 3, 1) := by decide +kernel
theorem dX4_about_82 : decode cX4_about 82 = .ok (.getfield 68, 3) := by decide +kernel
theorem dX4_about_85 : decode cX4_about 85 = .ok (.ireturn, 1) := by decide +kernel
theorem dX4_about_86 : decode cX4_about 86 = .ok (.aload_n 3, 1) := by decide +kernel
theorem dX4_about_87 : decode cX4_about 87 = .ok (.invokevirtual 182, 3) := by decide +kernel
theorem dX4_about_90 : decode cX4_about 90 = .ok (.ireturn, 1) := by decide +kernel
theorem dX4_about_91 : decode cX4_about 91 = .ok (.aload_n 3, 1) := by decide +kernel
theorem dX4_about_92 : decode cX4_about 92 = .ok (.invokevirtual 186, 3) := by decide +kernel
theorem dX4_about_95 : decode cX4_about 95 = .ok (.ireturn, 1) := by decide +kernel
theorem dX4_about_96 : decode cX4_about 96 = .ok (.aload_n 3, 1) := by decide +kernel
theorem dX4_about_97 : decode cX4_about 97 = .ok (.getfield 117, 3) := by decide +kernel
theorem dX4_about_100 : decode cX4_about 100 = .ok (.ireturn, 1) := by decide +kernel
theorem dX4_about_101 : decode cX4_about 101 = .ok (.aload_n 3, 1) := by decide +kernel
theorem dX4_about_102 : decode cX4_about 102 = .ok (.getfield 114, 3) := by decide +kernel
theorem dX4_about_105 : decode cX4_about 105 = .ok (.ireturn, 1) := by decide +kernel
theorem dX4_about_106 : decode cX4_about 106 = .ok (.aload_n 3, 1) := by decide +kernel
theorem dX4_about_107 : decode cX4_about 107 = .ok (.getfield 120, 3) := by decide +kernel
theorem dX4_about_110 : decode cX4_about 110 = .ok (.ireturn, 1) := by decide +kernel
theorem dX4_about_111 : decode cX4_about 111 = .ok (.aload_n 3, 1) := by decide +kernel
theorem dX4_about_112 : decode cX4_about 112 = .ok (.getfield 100, 3) := by decide +kernel
theorem dX4_about_115 : decode cX4_about 115 = .ok (.ireturn, 1) := by decide +kernel
theorem dX4_about_116 : decode cX4_about 116 = .ok (.aload_n 3, 1) := by decide +kernel
theorem dX4_about_117 : decode cX4_about 117 = .ok (.getfield 189, 3) := by decide +kernel
theorem dX4_about_120 : decode cX4_about 120 = .ok (.iconst 2, 1) := by decide +kernel
theorem dX4_about_121 : decode cX4_about 121 = .ok (.if_icmp .ne 7, 3) := by decide +kernel
theorem dX4_about_124 : decode cX4_about 124 = .ok (.iconst 1, 1) := by decide +kernel
theorem dX4_about_125 : decode cX4_about 125 = .ok (.goto 4, 3) := by decide +kernel
theorem dX4_about_128 : decode cX4_about 128 = .ok (.iconst 0, 1) := by decide +kernel
theorem dX4_about_129 : decode cX4_about 129 = .ok (.ireturn, 1) := by decide +kernel
theorem dX4_about_130 : decode cX4_about 130 = .ok (.aload_n 3, 1) := by decide +kernel
theorem dX4_about_131 : decode cX4_about 131 = .ok (.getfield 192, 3) := by decide +kernel
theorem dX4_about_134 : decode cX4_about 134 = .ok (.ireturn, 1) := by decide +kernel
theorem dX4_about_135 : decode cX4_about 135 = .ok (.aload_n 3, 1) := by decide +kernel
theorem dX4_about_136 : decode cX4_about 136 = .ok (.getfield 85, 3) := by decide +kernel
theorem dX4_about_139 : decode cX4_about 139 = .ok (.ifCond .eq 7, 3) := by decide +kernel
theorem dX4_about_142 : decode cX4_about 142 = .ok (.iconst 0, 1) := by decide +kernel
theorem dX4_about_143 : decode cX4_about 143 = .ok (.goto 4, 3) := by decide +kernel
theorem dX4_about_146 : decode cX4_about 146 = .ok (.iconst 1, 1) := by decide +kernel
theorem dX4_about_147 : decode cX4_about 147 = .ok (.ireturn, 1) := by decide +kernel
theorem dX4_about_148 : decode cX4_about 148 = .ok (.bipush (-3), 2) := by decide +kernel
theorem dX4_about_150 : decode cX4_about 150 = .ok (.ireturn, 1) := by decide +kernel
theorem dX4_letter_0 : decode cX4_letter 0 = .ok (.aload_n 0, 1) := by decide +kernel
theorem dX4_letter_1 : decode cX4_letter 1 = .ok (.iload_n 1, 1) := by decide +kernel
theorem dX4_letter_2 : decode cX4_letter 2 = .ok (.invokevirtual 61, 3) := by decide +kernel
theorem dX4_letter_5 : decode cX4_letter 5 = .ok (.ifCond .eq 6, 3) := by decide +kernel
theorem dX4_letter_8 : decode cX4_letter 8 = .ok (.bipush (-2), 2) := by decide +kernel
theorem dX4_letter_10 : decode cX4_letter 10 = .ok (.ireturn, 1) := by decide +kernel
theorem dX4_letter_11 : decode cX4_letter 11 = .ok (.aload_n 0, 1) := by decide +kernel
theorem dX4_letter_12 : decode cX4_letter 12 = .ok (.getfield 11, 3) := by decide +kernel
theorem dX4_letter_15 : decode cX4_letter 15 = .ok (.iload_n 1, 1) := by decide +kernel
theorem dX4_letter_16 : decode cX4_letter 16 = .ok (.aaload, 1) := by decide +kernel
theorem dX4_letter_17 : decode cX4_letter 17 = .ok (.astore_n 3, 1) := by decide +kernel
theorem dX4_letter_18 : decode cX4_letter 18 = .ok (.iload_n 2, 1) := by decide +kernel
theorem dX4_letter_19 : decode cX4_letter 19 = .ok (.ifCond .lt 11, 3) := by decide +kernel
theorem dX4_letter_22 : decode cX4_letter 22 = .ok (.iload_n 2, 1) := by decide +kernel
theorem dX4_letter_23 : decode cX4_letter 23 = .ok (.aload_n 3, 1) := by decide +kernel
theorem dX4_letter_24 : decode cX4_letter 24 = .ok (.getfield 68, 3) := by decide +kernel
theorem dX4_letter_27 : decode cX4_letter 27 = .ok (.if_icmp .lt 9, 3) := by decide +kernel
theorem dX4_letter_30 : decode cX4_letter 30 = .ok (.aload_n 0, 1) := by decide +kernel
theorem dX4_letter_31 : decode cX4_letter 31 = .ok (.iconst 3, 1) := by decide +kernel
theorem dX4_letter_32 : decode cX4_letter 32 = .ok (.invokevirtual 71, 3) := by decide +kernel
theorem dX4_letter_35 : decode cX4_letter 35 = .ok (.ireturn, 1) := by decide +kernel
theorem dX4_letter_36 : decode cX4_letter 36 = .ok (.aload_n 3, 1) := by decide +kernel
theorem dX4_letter_37 : decode cX4_letter 37 = .ok (.getfield 195, 3) := by decide +kernel
theorem dX4_letter_40 : decode cX4_letter 40 = .ok (.iload_n 2, 1) := by decide +kernel
theorem dX4_letter_41 : decode cX4_letter 41 = .ok (.baload, 1) := by decide +kernel
theorem dX4_letter_42 : decode cX4_letter 42 = .ok (.sipush 255, 3) := by decide +kernel
theorem dX4_letter_45 : decode cX4_letter 45 = .ok (.iand, 1) := by decide +kernel
theorem dX4_letter_46 : decode cX4_letter 46 = .ok (.ireturn, 1) := by decide +kernel
theorem dX4_octet_0 : decode cX4_octet 0 = .ok (.aload_n 0, 1) := by decide +kernel
theorem dX4_octet_1 : decode cX4_octet 1 = .ok (.iload_n 1, 1) := by decide +kernel
theorem dX4_octet_2 : decode cX4_octet 2 = .ok (.invokevirtual 61, 3) := by decide +kernel
theorem dX4_octet_5 : decode cX4_octet 5 = .ok (.ifCond .eq 6, 3) := by decide +kernel
theorem dX4_octet_8 : decode cX4_octet 8 = .ok (.bipush (-2), 2) := by decide +kernel
theorem dX4_octet_10 : decode cX4_octet 10 = .ok (.ireturn, 1) := by decide +kernel
theorem dX4_octet_11 : decode cX4_octet 11 = .ok (.aload_n 0, 1) := by decide +kernel
theorem dX4_octet_12 : decode cX4_octet 12 = .ok (.getfield 11, 3) := by decide +kernel
theorem dX4_octet_15 : decode cX4_octet 15 = .ok (.iload_n 1, 1) := by decide +kernel
theorem dX4_octet_16 : decode cX4_octet 16 = .ok (.aaload, 1) := by decide +kernel
theorem dX4_octet_17 : decode cX4_octet 17 = .ok (.astore_n 3, 1) := by decide +kernel
theorem dX4_octet_18 : decode cX4_octet 18 = .ok (.aload_n 3, 1) := by decide +kernel
theorem dX4_octet_19 : decode cX4_octet 19 = .ok (.getfield 65, 3) := by decide +kernel
theorem dX4_octet_22 : decode cX4_octet 22 = .ok (.iconst 2, 1) := by decide +kernel
theorem dX4_octet_23 : decode cX4_octet 23 = .ok (.if_icmp .ne 9, 3) := by decide +kernel
theorem dX4_octet_26 : decode cX4_octet 26 = .ok (.aload_n 0, 1) := by decide +kernel
theorem dX4_octet_27 : decode cX4_octet 27 = .ok (.iconst 2, 1) := by decide +kernel
theorem dX4_octet_28 : decode cX4_octet 28 = .ok (.invokevirtual 71, 3) := by decide +kernel
theorem dX4_octet_31 : decode cX4_octet 31 = .ok (.ireturn, 1) := by decide +kernel
theorem dX4_octet_32 : decode cX4_octet 32 = .ok (.aload_n 3, 1) := by decide +kernel
theorem dX4_octet_33 : decode cX4_octet 33 = .ok (.invokevirtual 198, 3) := by decide +kernel
theorem dX4_octet_36 : decode cX4_octet 36 = .ok (.ifCond .eq 9, 3) := by decide +kernel
theorem dX4_octet_39 : decode cX4_octet 39 = .ok (.aload_n 0, 1) := by decide +kernel
theorem dX4_octet_40 : decode cX4_octet 40 = .ok (.iconst 1, 1) := by decide +kernel
theorem dX4_octet_41 : decode cX4_octet 41 = .ok (.invokevirtual 71, 3) := by decide +kernel
theorem dX4_octet_44 : decode cX4_octet 44 = .ok (.ireturn, 1) := by decide +kernel
theorem dX4_octet_45 : decode cX4_octet 45 = .ok (.iload_n 2, 1) := by decide +kernel
theorem dX4_octet_46 : decode cX4_octet 46 = .ok (.ifCond .lt 11, 3) := by decide +kernel
theorem dX4_octet_49 : decode cX4_octet 49 = .ok (.iload_n 2, 1) := by decide +kernel
theorem dX4_octet_50 : decode cX4_octet 50 = .ok (.aload_n 3, 1) := by decide +kernel
theorem dX4_octet_51 : decode cX4_octet 51 = .ok (.getfield 75, 3) := by decide +kernel
theorem dX4_octet_54 : decode cX4_octet 54 = .ok (.if_icmp .lt 9, 3) := by decide +kernel
theorem dX4_octet_57 : decode cX4_octet 57 = .ok (.aload_n 0, 1) := by decide +kernel
theorem dX4_octet_58 : decode cX4_octet 58 = .ok (.iconst 3, 1) := by decide +kernel
theorem dX4_octet_59 : decode cX4_octet 59 = .ok (.invokevirtual 71, 3) := by decide +kernel
theorem dX4_octet_62 : decode cX4_octet 62 = .ok (.ireturn, 1) := by decide +kernel
theorem dX4_octet_63 : decode cX4_octet 63 = .ok (.aload_n 3, 1) := by decide +kernel
theorem dX4_octet_64 : decode cX4_octet 64 = .ok (.getfield 78, 3) := by decide +kernel
theorem dX4_octet_67 : decode cX4_octet 67 = .ok (.iload_n 2, 1) := by decide +kernel
theorem dX4_octet_68 : decode cX4_octet 68 = .ok (.baload, 1) := by decide +kernel
theorem dX4_octet_69 : decode cX4_octet 69 = .ok (.sipush 255, 3) := by decide +kernel
theorem dX4_octet_72 : decode cX4_octet 72 = .ok (.iand, 1) := by decide +kernel
theorem dX4_octet_73 : decode cX4_octet 73 = .ok (.ireturn, 1) := by decide +kernel
theorem dX4_size_0 : decode cX4_size 0 = .ok (.aload_n 0, 1) := by decide +kernel
theorem dX4_size_1 : decode cX4_size 1 = .ok (.iload_n 1, 1) := by decide +kernel
theorem dX4_size_2 : decode cX4_size 2 = .ok (.invokevirtual 61, 3) := by decide +kernel
theorem dX4_size_5 : decode cX4_size 5 = .ok (.ifCond .eq 7, 3) := by decide +kernel
theorem dX4_size_8 : decode cX4_size 8 = .ok (.ldc2_w 199, 3) := by decide +kernel
theorem dX4_size_11 : decode cX4_size 11 = .ok (.lreturn, 1) := by decide +kernel
theorem dX4_size_12 : decode cX4_size 12 = .ok (.iload_n 2, 1) := by decide +kernel
theorem dX4_size_13 : decode cX4_size 13 = .ok (.ifCond .lt 8, 3) := by decide +kernel
theorem dX4_size_16 : decode cX4_size 16 = .ok (.iload_n 2, 1) := by decide +kernel
theorem dX4_size_17 : decode cX4_size 17 = .ok (.iconst 2, 1) := by decide +kernel
theorem dX4_size_18 : decode cX4_size 18 = .ok (.if_icmp .le 7, 3) := by decide +kernel
theorem dX4_size_21 : decode cX4_size 21 = .ok (.ldc2_w 201, 3) := by decide +kernel
theorem dX4_size_24 : decode cX4_size 24 = .ok (.lreturn, 1) := by decide +kernel
theorem dX4_size_25 : decode cX4_size 25 = .ok (.aload_n 0, 1) := by decide +kernel
theorem dX4_size_26 : decode cX4_size 26 = .ok (.getfield 11, 3) := by decide +kernel
theorem dX4_size_29 : decode cX4_size 29 = .ok (.iload_n 1, 1) := by decide +kernel
theorem dX4_size_30 : decode cX4_size 30 = .ok (.aaload, 1) := by decide +kernel
theorem dX4_size_31 : decode cX4_size 31 = .ok (.astore_n 3, 1) := by decide +kernel
theorem dX4_size_32 : decode cX4_size 32 = .ok (.aload_n 3, 1) := by decide +kernel
theorem dX4_size_33 : decode cX4_size 33 = .ok (.getfield 65, 3) := by decide +kernel
theorem dX4_size_36 : decode cX4_size 36 = .ok (.iconst 2, 1) := by decide +kernel
theorem dX4_size_37 : decode cX4_size 37 = .ok (.if_icmp .ne 10, 3) := by decide +kernel
theorem dX4_size_40 : decode cX4_size 40 = .ok (.aload_n 0, 1) := by decide +kernel
theorem dX4_size_41 : decode cX4_size 41 = .ok (.iconst 2, 1) := by decide +kernel
theorem dX4_size_42 : decode cX4_size 42 = .ok (.invokevirtual 71, 3) := by decide +kernel
theorem dX4_size_45 : decode cX4_size 45 = .ok (.i2l, 1) := by decide +kernel
theorem dX4_size_46 : decode cX4_size 46 = .ok (.lreturn, 1) := by decide +kernel
theorem dX4_size_47 : decode cX4_size 47 = .ok (.aload_n 3, 1) := by decide +kernel
theorem dX4_size_48 : decode cX4_size 48 = .ok (.getfield 65, 3) := by decide +kernel
theorem dX4_size_51 : decode cX4_size 51 = .ok (.iconst 1, 1) := by decide +kernel
theorem dX4_size_52 : decode cX4_size 52 = .ok (.if_icmp .ne 11, 3) := by decide +kernel
theorem dX4_size_55 : decode cX4_size 55 = .ok (.iload_n 2, 1) := by decide +kernel
theorem dX4_size_56 : decode cX4_size 56 = .ok (.ifCond .eq 7, 3) := by decide +kernel
theorem dX4_size_59 : decode cX4_size 59 = .ok (.iconst 1, 1) := by decide +kernel
theorem dX4_size_60 : decode cX4_size 60 = .ok (.goto 4, 3) := by decide +kernel
theorem dX4_size_63 : decode cX4_size 63 = .ok (.iconst 0, 1) := by decide +kernel
theorem dX4_size_64 : decode cX4_size 64 = .ok (.istore 4, 2) := by decide +kernel
theorem dX4_size_66 : decode cX4_size 66 = .ok (.iload 4, 2) := by decide +kernel
theorem dX4_size_68 : decode cX4_size 68 = .ok (.ifCond .ne 17, 3) := by decide +kernel
theorem dX4_size_71 : decode cX4_size 71 = .ok (.aload_n 3, 1) := by decide +kernel
theorem dX4_size_72 : decode cX4_size 72 = .ok (.invokevirtual 198, 3) := by decide +kernel
theorem dX4_size_75 : decode cX4_size 75 = .ok (.ifCond .eq 10, 3) := by decide +kernel
theorem dX4_size_78 : decode cX4_size 78 = .ok (.aload_n 0, 1) := by decide +kernel
theorem dX4_size_79 : decode cX4_size 79 = .ok (.iconst 1, 1) := by decide +kernel
theorem dX4_size_80 : decode cX4_size 80 = .ok (.invokevirtual 71, 3) := by decide +kernel
theorem dX4_size_83 : decode cX4_size 83 = .ok (.i2l, 1) := by decide +kernel
theorem dX4_size_84 : decode cX4_size 84 = .ok (.lreturn, 1) := by decide +kernel
theorem dX4_size_85 : decode cX4_size 85 = .ok (.iload_n 2, 1) := by decide +kernel
theorem dX4_size_86 : decode cX4_size 86 = .ok (.ifCond .ne 9, 3) := by decide +kernel
theorem dX4_size_89 : decode cX4_size 89 = .ok (.aload_n 3, 1) := by decide +kernel
theorem dX4_size_90 : decode cX4_size 90 = .ok (.getfield 75, 3) := by decide +kernel
theorem dX4_size_93 : decode cX4_size 93 = .ok (.i2l, 1) := by decide +kernel
theorem dX4_size_94 : decode cX4_size 94 = .ok (.lreturn, 1) := by decide +kernel
theorem dX4_size_95 : decode cX4_size 95 = .ok (.iload_n 2, 1) := by decide +kernel
theorem dX4_size_96 : decode cX4_size 96 = .ok (.iconst 1, 1) := by decide +kernel
theorem dX4_size_97 : decode cX4_size 97 = .ok (.if_icmp .ne 11, 3) := by decide +kernel
theorem dX4_size_100 : decode cX4_size 100 = .ok (.aload_n 3, 1) := by decide +kernel
theorem dX4_size_101 : decode cX4_size 101 = .ok (.invokevirtual 203, 3) := by decide +kernel
theorem dX4_size_104 : decode cX4_size 104 = .ok (.i2l, 1) := by decide +kernel
theorem dX4_size_105 : decode cX4_size 105 = .ok (.goto 12, 3) := by decide +kernel
theorem dX4_size_108 : decode cX4_size 108 = .ok (.aload_n 3, 1) := by decide +kernel
theorem dX4_size_109 : decode cX4_size 109 = .ok (.invokevirtual 206, 3) := by decide +kernel
theorem dX4_size_112 : decode cX4_size 112 = .ok (.i2l, 1) := by decide +kernel
theorem dX4_size_113 : decode cX4_size 113 = .ok (.ldc2_w 209, 3) := by decide +kernel
theorem dX4_size_116 : decode cX4_size 116 = .ok (.land, 1) := by decide +kernel
theorem dX4_size_117 : decode cX4_size 117 = .ok (.lreturn, 1) := by decide +kernel
theorem dX4_extra_0 : decode cX4_extra 0 = .ok (.aload_n 0, 1) := by decide +kernel
theorem dX4_extra_1 : decode cX4_extra 1 = .ok (.iload_n 1, 1) := by decide +kernel
theorem dX4_extra_2 : decode cX4_extra 2 = .ok (.invokevirtual 61, 3) := by decide +kernel
theorem dX4_extra_5 : decode cX4_extra 5 = .ok (.ifCond .eq 6, 3) := by decide +kernel
theorem dX4_extra_8 : decode cX4_extra 8 = .ok (.bipush (-2), 2) := by decide +kernel
theorem dX4_extra_10 : decode cX4_extra 10 = .ok (.ireturn, 1) := by decide +kernel
theorem dX4_extra_11 : decode cX4_extra 11 = .ok (.aload_n 0, 1) := by decide +kernel
theorem dX4_extra_12 : decode cX4_extra 12 = .ok (.getfield 11, 3) := by decide +kernel
theorem dX4_extra_15 : decode cX4_extra 15 = .ok (.iload_n 1, 1) := by decide +kernel
theorem dX4_extra_16 : decode cX4_extra 16 = .ok (.aaload, 1) := by decide +kernel
theorem dX4_extra_17 : decode cX4_extra 17 = .ok (.astore 5, 2) := by decide +kernel
theorem dX4_extra_19 : decode cX4_extra 19 = .ok (.iload_n 2, 1) := by decide +kernel
theorem dX4_extra_20 : decode cX4_extra 20 = .ok (.ifCond .lt 12, 3) := by decide +kernel
theorem dX4_extra_23 : decode cX4_extra 23 = .ok (.iload_n 2, 1) := by decide +kernel
theorem dX4_extra_24 : decode cX4_extra 24 = .ok (.aload 5, 2) := by decide +kernel
theorem dX4_extra_26 : decode cX4_extra 26 = .ok (.getfield 100, 3) := by decide +kernel
theorem dX4_extra_29 : decode cX4_extra 29 = .ok (.if_icmp .lt 6, 3) := by decide +kernel
theorem dX4_extra_32 : decode cX4_extra 32 = .ok (.bipush (-2), 2) := by decide +kernel
theorem dX4_extra_34 : decode cX4_extra 34 = .ok (.ireturn, 1) := by decide +kernel
theorem dX4_extra_35 : decode cX4_extra 35 = .ok (.iload_n 3, 1) := by decide +kernel
theorem dX4_extra_36 : decode cX4_extra 36 = .ok (.ifCond .lt 8, 3) := by decide +kernel
theorem dX4_extra_39 : decode cX4_extra 39 = .ok (.iload_n 3, 1) := by decide +kernel
theorem dX4_extra_40 : decode cX4_extra 40 = .ok (.iconst 2, 1) := by decide +kernel
theorem dX4_extra_41 : decode cX4_extra 41 = .ok (.if_icmp .le 6, 3) := by decide +kernel
theorem dX4_extra_44 : decode cX4_extra 44 = .ok (.bipush (-3), 2) := by decide +kernel
theorem dX4_extra_46 : decode cX4_extra 46 = .ok (.ireturn, 1) := by decide +kernel
theorem dX4_extra_47 : decode cX4_extra 47 = .ok (.iload_n 3, 1) := by decide +kernel
theorem dX4_extra_48 : decode cX4_extra 48 = .ok (.ifCond .ne 11, 3) := by decide +kernel
theorem dX4_extra_51 : decode cX4_extra 51 = .ok (.aload 5, 2) := by decide +kernel
theorem dX4_extra_53 : decode cX4_extra 53 = .ok (.getfield 103, 3) := by decide +kernel
theorem dX4_extra_56 : decode cX4_extra 56 = .ok (.iload_n 2, 1) := by decide +kernel
theorem dX4_extra_57 : decode cX4_extra 57 = .ok (.iaload, 1) := by decide +kernel
theorem dX4_extra_58 : decode cX4_extra 58 = .ok (.ireturn, 1) := by decide +kernel
theorem dX4_extra_59 : decode cX4_extra 59 = .ok (.iload_n 3, 1) := by decide +kernel
theorem dX4_extra_60 : decode cX4_extra 60 = .ok (.iconst 1, 1) := by decide +kernel
theorem dX4_extra_61 : decode cX4_extra 61 = .ok (.if_icmp .ne 11, 3) := by decide +kernel
theorem dX4_extra_64 : decode cX4_extra 64 = .ok (.aload 5, 2) := by decide +kernel
theorem dX4_extra_66 : decode cX4_extra 66 = .ok (.getfield 107, 3) := by decide +kernel
theorem dX4_extra_69 : decode cX4_extra 69 = .ok (.iload_n 2, 1) := by decide +kernel
theorem dX4_extra_70 : decode cX4_extra 70 = .ok (.iaload, 1) := by decide +kernel
theorem dX4_extra_71 : decode cX4_extra 71 = .ok (.ireturn, 1) := by decide +kernel
theorem dX4_extra_72 : decode cX4_extra 72 = .ok (.iload 4, 2) := by decide +kernel
theorem dX4_extra_74 : decode cX4_extra 74 = .ok (.ifCond .lt 15, 3) := by decide +kernel
theorem dX4_extra_77 : decode cX4_extra 77 = .ok (.iload 4, 2) := by decide +kernel
theorem dX4_extra_79 : decode cX4_extra 79 = .ok (.aload 5, 2) := by decide +kernel
theorem dX4_extra_81 : decode cX4_extra 81 = .ok (.getfield 107, 3) := by decide +kernel
theorem dX4_extra_84 : decode cX4_extra 84 = .ok (.iload_n 2, 1) := by decide +kernel
theorem dX4_extra_85 : decode cX4_extra 85 = .ok (.iaload, 1) := by decide +kernel
theorem dX4_extra_86 : decode cX4_extra 86 = .ok (.if_icmp .lt 9, 3) := by decide +kernel
theorem dX4_extra_89 : decode cX4_extra 89 = .ok (.aload_n 0, 1) := by decide +kernel
theorem dX4_extra_90 : decode cX4_extra 90 = .ok (.iconst 3, 1) := by decide +kernel
theorem dX4_extra_91 : decode cX4_extra 91 = .ok (.invokevirtual 71, 3) := by decide +kernel
theorem dX4_extra_94 : decode cX4_extra 94 = .ok (.ireturn, 1) := by decide +kernel
theorem dX4_extra_95 : decode cX4_extra 95 = .ok (.aload 5, 2) := by decide +kernel
theorem dX4_extra_97 : decode cX4_extra 97 = .ok (.getfield 110, 3) := by decide +kernel
theorem dX4_extra_100 : decode cX4_extra 100 = .ok (.iload_n 2, 1) := by decide +kernel
theorem dX4_extra_101 : decode cX4_extra 101 = .ok (.bipush 8, 2) := by decide +kernel
theorem dX4_extra_103 : decode cX4_extra 103 = .ok (.imul, 1) := by decide +kernel
theorem dX4_extra_104 : decode cX4_extra 104 = .ok (.iload 4, 2) := by decide +kernel
theorem dX4_extra_106 : decode cX4_extra 106 = .ok (.iadd, 1) := by decide +kernel
theorem dX4_extra_107 : decode cX4_extra 107 = .ok (.baload, 1) := by decide +kernel
theorem dX4_extra_108 : decode cX4_extra 108 = .ok (.sipush 255, 3) := by decide +kernel
theorem dX4_extra_111 : decode cX4_extra 111 = .ok (.iand, 1) := by decide +kernel
theorem dX4_extra_112 : decode cX4_extra 112 = .ok (.ireturn, 1) := by decide +kernel
theorem dX4_right_0 : decode cX4_right 0 = .ok (.aload_n 0, 1) := by decide +kernel
theorem dX4_right_1 : decode cX4_right 1 = .ok (.iload_n 1, 1) := by decide +kernel
theorem dX4_right_2 : decode cX4_right 2 = .ok (.invokevirtual 61, 3) := by decide +kernel
theorem dX4_right_5 : decode cX4_right 5 = .ok (.ifCond .eq 6, 3) := by decide +kernel
theorem dX4_right_8 : decode cX4_right 8 = .ok (.bipush (-2), 2) := by decide +kernel
theorem dX4_right_10 : decode cX4_right 10 = .ok (.ireturn, 1) := by decide +kernel
theorem dX4_right_11 : decode cX4_right 11 = .ok (.aload_n 0, 1) := by decide +kernel
theorem dX4_right_12 : decode cX4_right 12 = .ok (.getfield 11, 3) := by decide +kernel
theorem dX4_right_15 : decode cX4_right 15 = .ok (.iload_n 1, 1) := by decide +kernel
theorem dX4_right_16 : decode cX4_right 16 = .ok (.aaload, 1) := by decide +kernel
theorem dX4_right_17 : decode cX4_right 17 = .ok (.astore_n 2, 1) := by decide +kernel
theorem dX4_right_18 : decode cX4_right 18 = .ok (.aload_n 2, 1) := by decide +kernel
theorem dX4_right_19 : decode cX4_right 19 = .ok (.getfield 65, 3) := by decide +kernel
theorem dX4_right_22 : decode cX4_right 22 = .ok (.iconst 1, 1) := by decide +kernel
theorem dX4_right_23 : decode cX4_right 23 = .ok (.if_icmp .ne 6, 3) := by decide +kernel
theorem dX4_right_26 : decode cX4_right 26 = .ok (.bipush (-4), 2) := by decide +kernel
theorem dX4_right_28 : decode cX4_right 28 = .ok (.ireturn, 1) := by decide +kernel
theorem dX4_right_29 : decode cX4_right 29 = .ok (.aload_n 2, 1) := by decide +kernel
theorem dX4_right_30 : decode cX4_right 30 = .ok (.getfield 65, 3) := by decide +kernel
theorem dX4_right_33 : decode cX4_right 33 = .ok (.iconst 2, 1) := by decide +kernel
theorem dX4_right_34 : decode cX4_right 34 = .ok (.if_icmp .ne 9, 3) := by decide +kernel
theorem dX4_right_37 : decode cX4_right 37 = .ok (.aload_n 0, 1) := by decide +kernel
theorem dX4_right_38 : decode cX4_right 38 = .ok (.iconst 2, 1) := by decide +kernel
theorem dX4_right_39 : decode cX4_right 39 = .ok (.invokevirtual 71, 3) := by decide +kernel
theorem dX4_right_42 : decode cX4_right 42 = .ok (.ireturn, 1) := by decide +kernel
theorem dX4_right_43 : decode cX4_right 43 = .ok (.aload_n 2, 1) := by decide +kernel
theorem dX4_right_44 : decode cX4_right 44 = .ok (.invokevirtual 198, 3) := by decide +kernel
theorem dX4_right_47 : decode cX4_right 47 = .ok (.ifCond .eq 9, 3) := by decide +kernel
theorem dX4_right_50 : decode cX4_right 50 = .ok (.aload_n 0, 1) := by decide +kernel
theorem dX4_right_51 : decode cX4_right 51 = .ok (.iconst 1, 1) := by decide +kernel
theorem dX4_right_52 : decode cX4_right 52 = .ok (.invokevirtual 71, 3) := by decide +kernel
theorem dX4_right_55 : decode cX4_right 55 = .ok (.ireturn, 1) := by decide +kernel
theorem dX4_right_56 : decode cX4_right 56 = .ok (.aload_n 2, 1) := by decide +kernel
theorem dX4_right_57 : decode cX4_right 57 = .ok (.invokevirtual 206, 3) := by decide +kernel
theorem dX4_right_60 : decode cX4_right 60 = .ok (.aload_n 2, 1) := by decide +kernel
theorem dX4_right_61 : decode cX4_right 61 = .ok (.getfield 78, 3) := by decide +kernel
theorem dX4_right_64 : decode cX4_right 64 = .ok (.aload_n 2, 1) := by decide +kernel
theorem dX4_right_65 : decode cX4_right 65 = .ok (.getfield 75, 3) := by decide +kernel
theorem dX4_right_68 : decode cX4_right 68 = .ok (.invokestatic 211, 3) := by decide +kernel
theorem dX4_right_71 : decode cX4_right 71 = .ok (.if_icmp .ne 7, 3) := by decide +kernel
theorem dX4_right_74 : decode cX4_right 74 = .ok (.iconst 1, 1) := by decide +kernel
theorem dX4_right_75 : decode cX4_right 75 = .ok (.goto 4, 3) := by decide +kernel
theorem dX4_right_78 : decode cX4_right 78 = .ok (.iconst 0, 1) := by decide +kernel
theorem dX4_right_79 : decode cX4_right 79 = .ok (.ireturn, 1) := by decide +kernel
theorem dX4_same_0 : decode cX4_same 0 = .ok (.aload_n 0, 1) := by decide +kernel
theorem dX4_same_1 : decode cX4_same 1 = .ok (.iload_n 1, 1) := by decide +kernel
theorem dX4_same_2 : decode cX4_same 2 = .ok (.invokevirtual 61, 3) := by decide +kernel
theorem dX4_same_5 : decode cX4_same 5 = .ok (.ifCond .eq 6, 3) := by decide +kernel
theorem dX4_same_8 : decode cX4_same 8 = .ok (.bipush (-2), 2) := by decide +kernel
theorem dX4_same_10 : decode cX4_same 10 = .ok (.ireturn, 1) := by decide +kernel
theorem dX4_same_11 : decode cX4_same 11 = .ok (.iconst 0, 1) := by decide +kernel
theorem dX4_same_12 : decode cX4_same 12 = .ok (.istore_n 2, 1) := by decide +kernel
theorem dX4_same_13 : decode cX4_same 13 = .ok (.iload_n 2, 1) := by decide +kernel
theorem dX4_same_14 : decode cX4_same 14 = .ok (.iload_n 1, 1) := by decide +kernel
theorem dX4_same_15 : decode cX4_same 15 = .ok (.if_icmp .ge 27, 3) := by decide +kernel
theorem dX4_same_18 : decode cX4_same 18 = .ok (.aload_n 0, 1) := by decide +kernel
theorem dX4_same_19 : decode cX4_same 19 = .ok (.getfield 11, 3) := by decide +kernel
theorem dX4_same_22 : decode cX4_same 22 = .ok (.iload_n 2, 1) := by decide +kernel
theorem dX4_same_23 : decode cX4_same 23 = .ok (.aaload, 1) := by decide +kernel
theorem dX4_same_24 : decode cX4_same 24 = .ok (.aload_n 0, 1) := by decide +kernel
theorem dX4_same_25 : decode cX4_same 25 = .ok (.getfield 11, 3) := by decide +kernel
theorem dX4_same_28 : decode cX4_same 28 = .ok (.iload_n 1, 1) := by decide +kernel
theorem dX4_same_29 : decode cX4_same 29 = .ok (.aaload, 1) := by decide +kernel
theorem dX4_same_30 : decode cX4_same 30 = .ok (.invokevirtual 215, 3) := by decide +kernel
theorem dX4_same_33 : decode cX4_same 33 = .ok (.ifCond .ne 9, 3) := by decide +kernel
theorem dX4_same_36 : decode cX4_same 36 = .ok (.iinc 2 1, 3) := by decide +kernel
theorem dX4_same_39 : decode cX4_same 39 = .ok (.goto (-26), 3) := by decide +kernel
theorem dX4_same_42 : decode cX4_same 42 = .ok (.iload_n 2, 1) := by decide +kernel
theorem dX4_same_43 : decode cX4_same 43 = .ok (.ireturn, 1) := by decide +kernel
theorem dX4_told_0 : decode cX4_told 0 = .ok (.iload_n 1, 1) := by decide +kernel
theorem dX4_told_1 : decode cX4_told 1 = .ok (.tableswitch 54 0 3 #[31, 36, 44, 49], 31) := by decide +kernel
theorem dX4_told_32 : decode cX4_told 32 = .ok (.aload_n 0, 1) := by decide +kernel
theorem dX4_told_33 : decode cX4_told 33 = .ok (.getfield 35, 3) := by decide +kernel
theorem dX4_told_36 : decode cX4_told 36 = .ok (.ireturn, 1) := by decide +kernel
theorem dX4_told_37 : decode cX4_told 37 = .ok (.aload_n 0, 1) := by decide +kernel
theorem dX4_told_38 : decode cX4_told 38 = .ok (.getfield 18, 3) := by decide +kernel
theorem dX4_told_41 : decode cX4_told 41 = .ok (.getfield 130, 3) := by decide +kernel
theorem dX4_told_44 : decode cX4_told 44 = .ok (.ireturn, 1) := by decide +kernel
theorem dX4_told_45 : decode cX4_told 45 = .ok (.aload_n 0, 1) := by decide +kernel
theorem dX4_told_46 : decode cX4_told 46 = .ok (.getfield 39, 3) := by decide +kernel
theorem dX4_told_49 : decode cX4_told 49 = .ok (.ireturn, 1) := by decide +kernel
theorem dX4_told_50 : decode cX4_told 50 = .ok (.aload_n 0, 1) := by decide +kernel
theorem dX4_told_51 : decode cX4_told 51 = .ok (.getfield 42, 3) := by decide +kernel
theorem dX4_told_54 : decode cX4_told 54 = .ok (.ireturn, 1) := by decide +kernel
theorem dX4_told_55 : decode cX4_told 55 = .ok (.bipush (-3), 2) := by decide +kernel
theorem dX4_told_57 : decode cX4_told 57 = .ok (.ireturn, 1) := by decide +kernel
theorem dX4_isUnknown_0 : decode cX4_isUnknown 0 = .ok (.iload_n 1, 1) := by decide +kernel
theorem dX4_isUnknown_1 : decode cX4_isUnknown 1 = .ok (.ifCond .lt 17, 3) := by decide +kernel
theorem dX4_isUnknown_4 : decode cX4_isUnknown 4 = .ok (.iload_n 1, 1) := by decide +kernel
theorem dX4_isUnknown_5 : decode cX4_isUnknown 5 = .ok (.aload_n 0, 1) := by decide +kernel
theorem dX4_isUnknown_6 : decode cX4_isUnknown 6 = .ok (.getfield 35, 3) := by decide +kernel
theorem dX4_isUnknown_9 : decode cX4_isUnknown 9 = .ok (.if_icmp .ge 9, 3) := by decide +kernel
theorem dX4_isUnknown_12 : decode cX4_isUnknown 12 = .ok (.iload_n 1, 1) := by decide +kernel
theorem dX4_isUnknown_13 : decode cX4_isUnknown 13 = .ok (.bipush 12, 2) := by decide +kernel
theorem dX4_isUnknown_15 : decode cX4_isUnknown 15 = .ok (.if_icmp .lt 7, 3) := by decide +kernel
theorem dX4_isUnknown_18 : decode cX4_isUnknown 18 = .ok (.iconst 1, 1) := by decide +kernel
theorem dX4_isUnknown_19 : decode cX4_isUnknown 19 = .ok (.goto 4, 3) := by decide +kernel
theorem dX4_isUnknown_22 : decode cX4_isUnknown 22 = .ok (.iconst 0, 1) := by decide +kernel
theorem dX4_isUnknown_23 : decode cX4_isUnknown 23 = .ok (.ireturn, 1) := by decide +kernel
theorem dX4_faultOf_0 : decode cX4_faultOf 0 = .ok (.aload_n 0, 1) := by decide +kernel
theorem dX4_faultOf_1 : decode cX4_faultOf 1 = .ok (.iload_n 1, 1) := by decide +kernel
theorem dX4_faultOf_2 : decode cX4_faultOf 2 = .ok (.putfield 42, 3) := by decide +kernel
theorem dX4_faultOf_5 : decode cX4_faultOf 5 = .ok (.bipush (-30), 2) := by decide +kernel
theorem dX4_faultOf_7 : decode cX4_faultOf 7 = .ok (.iload_n 1, 1) := by decide +kernel
theorem dX4_faultOf_8 : decode cX4_faultOf 8 = .ok (.isub, 1) := by decide +kernel
theorem dX4_faultOf_9 : decode cX4_faultOf 9 = .ok (.ireturn, 1) := by decide +kernel
theorem dX4_lacksData_0 : decode cX4_lacksData 0 = .ok (.iconst 0, 1) := by decide +kernel
theorem dX4_lacksData_1 : decode cX4_lacksData 1 = .ok (.istore_n 1, 1) := by decide +kernel
theorem dX4_lacksData_2 : decode cX4_lacksData 2 = .ok (.iload_n 1, 1) := by decide +kernel
theorem dX4_lacksData_3 : decode cX4_lacksData 3 = .ok (.aload_n 0, 1) := by decide +kernel
theorem dX4_lacksData_4 : decode cX4_lacksData 4 = .ok (.getfield 35, 3) := by decide +kernel
theorem dX4_lacksData_7 : decode cX4_lacksData 7 = .ok (.if_icmp .ge 23, 3) := by decide +kernel
theorem dX4_lacksData_10 : decode cX4_lacksData 10 = .ok (.aload_n 0, 1) := by decide +kernel
theorem dX4_lacksData_11 : decode cX4_lacksData 11 = .ok (.getfield 11, 3) := by decide +kernel
theorem dX4_lacksData_14 : decode cX4_lacksData 14 = .ok (.iload_n 1, 1) := by decide +kernel
theorem dX4_lacksData_15 : decode cX4_lacksData 15 = .ok (.aaload, 1) := by decide +kernel
theorem dX4_lacksData_16 : decode cX4_lacksData 16 = .ok (.invokevirtual 198, 3) := by decide +kernel
theorem dX4_lacksData_19 : decode cX4_lacksData 19 = .ok (.ifCond .eq 5, 3) := by decide +kernel
theorem dX4_lacksData_22 : decode cX4_lacksData 22 = .ok (.iconst 1, 1) := by decide +kernel
theorem dX4_lacksData_23 : decode cX4_lacksData 23 = .ok (.ireturn, 1) := by decide +kernel
theorem dX4_lacksData_24 : decode cX4_lacksData 24 = .ok (.iinc 1 1, 3) := by decide +kernel
theorem dX4_lacksData_27 : decode cX4_lacksData 27 = .ok (.goto (-25), 3) := by decide +kernel
theorem dX4_lacksData_30 : decode cX4_lacksData 30 = .ok (.iconst 0, 1) := by decide +kernel
theorem dX4_lacksData_31 : decode cX4_lacksData 31 = .ok (.ireturn, 1) := by decide +kernel
theorem dX4_allPlacedBefore_0 : decode cX4_allPlacedBefore 0 = .ok (.iconst 0, 1) := by decide +kernel
theorem dX4_allPlacedBefore_1 : decode cX4_allPlacedBefore 1 = .ok (.istore_n 2, 1) := by decide +kernel
theorem dX4_allPlacedBefore_2 : decode cX4_allPlacedBefore 2 = .ok (.iload_n 2, 1) := by decide +kernel
theorem dX4_allPlacedBefore_3 : decode cX4_allPlacedBefore 3 = .ok (.iload_n 1, 1) := by decide +kernel
theorem dX4_allPlacedBefore_4 : decode cX4_allPlacedBefore 4 = .ok (.if_icmp .ge 24, 3) := by decide +kernel
theorem dX4_allPlacedBefore_7 : decode cX4_allPlacedBefore 7 = .ok (.aload_n 0, 1) := by decide +kernel
theorem dX4_allPlacedBefore_8 : decode cX4_allPlacedBefore 8 = .ok (.getfield 11, 3) := by decide +kernel
theorem dX4_allPlacedBefore_11 : decode cX4_allPlacedBefore 11 = .ok (.iload_n 2, 1) := by decide +kernel
theorem dX4_allPlacedBefore_12 : decode cX4_allPlacedBefore 12 = .ok (.aaload, 1) := by decide +kernel
theorem dX4_allPlacedBefore_13 : decode cX4_allPlacedBefore 13 = .ok (.getfield 192, 3) := by decide +kernel
theorem dX4_allPlacedBefore_16 : decode cX4_allPlacedBefore 16 = .ok (.iconst (-1), 1) := by decide +kernel
theorem dX4_allPlacedBefore_17 : decode cX4_allPlacedBefore 17 = .ok (.if_icmp .ne 5, 3) := by decide +kernel
theorem dX4_allPlacedBefore_20 : decode cX4_allPlacedBefore 20 = .ok (.iconst 0, 1) := by decide +kernel
theorem dX4_allPlacedBefore_21 : decode cX4_allPlacedBefore 21 = .ok (.ireturn, 1) := by decide +kernel
theorem dX4_allPlacedBefore_22 : decode cX4_allPlacedBefore 22 = .ok (.iinc 2 1, 3) := by decide +kernel
theorem dX4_allPlacedBefore_25 : decode cX4_allPlacedBefore 25 = .ok (.goto (-23), 3) := by decide +kernel
theorem dX4_allPlacedBefore_28 : decode cX4_allPlacedBefore 28 = .ok (.iconst 1, 1) := by decide +kernel
theorem dX4_allPlacedBefore_29 : decode cX4_allPlacedBefore 29 = .ok (.ireturn, 1) := by decide +kernel
theorem dX4_lengthFrom_0 : decode cX4_lengthFrom 0 = .ok (.bipush 22, 2) := by decide +kernel
theorem dX4_lengthFrom_2 : decode cX4_lengthFrom 2 = .ok (.aload_n 0, 1) := by decide +kernel
theorem dX4_lengthFrom_3 : decode cX4_lengthFrom 3 = .ok (.getfield 39, 3) := by decide +kernel
theorem dX4_lengthFrom_6 : decode cX4_lengthFrom 6 = .ok (.iadd, 1) := by decide +kernel
theorem dX4_lengthFrom_7 : decode cX4_lengthFrom 7 = .ok (.istore_n 2, 1) := by decide +kernel
theorem dX4_lengthFrom_8 : decode cX4_lengthFrom 8 = .ok (.iconst 0, 1) := by decide +kernel
theorem dX4_lengthFrom_9 : decode cX4_lengthFrom 9 = .ok (.istore_n 3, 1) := by decide +kernel
theorem dX4_lengthFrom_10 : decode cX4_lengthFrom 10 = .ok (.iload_n 3, 1) := by decide +kernel
theorem dX4_lengthFrom_11 : decode cX4_lengthFrom 11 = .ok (.aload_n 0, 1) := by decide +kernel
theorem dX4_lengthFrom_12 : decode cX4_lengthFrom 12 = .ok (.getfield 35, 3) := by decide +kernel
theorem dX4_lengthFrom_15 : decode cX4_lengthFrom 15 = .ok (.if_icmp .ge 38, 3) := by decide +kernel
theorem dX4_lengthFrom_18 : decode cX4_lengthFrom 18 = .ok (.iload_n 2, 1) := by decide +kernel
theorem dX4_lengthFrom_19 : decode cX4_lengthFrom 19 = .ok (.aload_n 0, 1) := by decide +kernel
theorem dX4_lengthFrom_20 : decode cX4_lengthFrom 20 = .ok (.getfield 11, 3) := by decide +kernel
theorem dX4_lengthFrom_23 : decode cX4_lengthFrom 23 = .ok (.iload_n 3, 1) := by decide +kernel
theorem dX4_lengthFrom_24 : decode cX4_lengthFrom 24 = .ok (.aaload, 1) := by decide +kernel
theorem dX4_lengthFrom_25 : decode cX4_lengthFrom 25 = .ok (.invokevirtual 219, 3) := by decide +kernel
theorem dX4_lengthFrom_28 : decode cX4_lengthFrom 28 = .ok (.iadd, 1) := by decide +kernel
theorem dX4_lengthFrom_29 : decode cX4_lengthFrom 29 = .ok (.istore_n 2, 1) := by decide +kernel
theorem dX4_lengthFrom_30 : decode cX4_lengthFrom 30 = .ok (.iload_n 3, 1) := by decide +kernel
theorem dX4_lengthFrom_31 : decode cX4_lengthFrom 31 = .ok (.iload_n 1, 1) := by decide +kernel
theorem dX4_lengthFrom_32 : decode cX4_lengthFrom 32 = .ok (.if_icmp .lt 15, 3) := by decide +kernel
theorem dX4_lengthFrom_35 : decode cX4_lengthFrom 35 = .ok (.iload_n 2, 1) := by decide +kernel
theorem dX4_lengthFrom_36 : decode cX4_lengthFrom 36 = .ok (.aload_n 0, 1) := by decide +kernel
theorem dX4_lengthFrom_37 : decode cX4_lengthFrom 37 = .ok (.getfield 11, 3) := by decide +kernel
theorem dX4_lengthFrom_40 : decode cX4_lengthFrom 40 = .ok (.iload_n 3, 1) := by decide +kernel
theorem dX4_lengthFrom_41 : decode cX4_lengthFrom 41 = .ok (.aaload, 1) := by decide +kernel
theorem dX4_lengthFrom_42 : decode cX4_lengthFrom 42 = .ok (.invokevirtual 222, 3) := by decide +kernel
theorem dX4_lengthFrom_45 : decode cX4_lengthFrom 45 = .ok (.iadd, 1) := by decide +kernel
theorem dX4_lengthFrom_46 : decode cX4_lengthFrom 46 = .ok (.istore_n 2, 1) := by decide +kernel
theorem dX4_lengthFrom_47 : decode cX4_lengthFrom 47 = .ok (.iinc 3 1, 3) := by decide +kernel
theorem dX4_lengthFrom_50 : decode cX4_lengthFrom 50 = .ok (.goto (-40), 3) := by decide +kernel
theorem dX4_lengthFrom_53 : decode cX4_lengthFrom 53 = .ok (.iload_n 2, 1) := by decide +kernel
theorem dX4_lengthFrom_54 : decode cX4_lengthFrom 54 = .ok (.ireturn, 1) := by decide +kernel
theorem dX4_putFrom_0 : decode cX4_putFrom 0 = .ok (.iload_n 1, 1) := by decide +kernel
theorem dX4_putFrom_1 : decode cX4_putFrom 1 = .ok (.istore_n 2, 1) := by decide +kernel
theorem dX4_putFrom_2 : decode cX4_putFrom 2 = .ok (.iload_n 2, 1) := by decide +kernel
theorem dX4_putFrom_3 : decode cX4_putFrom 3 = .ok (.aload_n 0, 1) := by decide +kernel
theorem dX4_putFrom_4 : decode cX4_putFrom 4 = .ok (.getfield 35, 3) := by decide +kernel
theorem dX4_putFrom_7 : decode cX4_putFrom 7 = .ok (.if_icmp .ge 22, 3) := by decide +kernel
theorem dX4_putFrom_10 : decode cX4_putFrom 10 = .ok (.aload_n 0, 1) := by decide +kernel
theorem dX4_putFrom_11 : decode cX4_putFrom 11 = .ok (.getfield 11, 3) := by decide +kernel
theorem dX4_putFrom_14 : decode cX4_putFrom 14 = .ok (.iload_n 2, 1) := by decide +kernel
theorem dX4_putFrom_15 : decode cX4_putFrom 15 = .ok (.aaload, 1) := by decide +kernel
theorem dX4_putFrom_16 : decode cX4_putFrom 16 = .ok (.aload_n 0, 1) := by decide +kernel
theorem dX4_putFrom_17 : decode cX4_putFrom 17 = .ok (.getfield 18, 3) := by decide +kernel
theorem dX4_putFrom_20 : decode cX4_putFrom 20 = .ok (.invokevirtual 225, 3) := by decide +kernel
theorem dX4_putFrom_23 : decode cX4_putFrom 23 = .ok (.iinc 2 1, 3) := by decide +kernel
theorem dX4_putFrom_26 : decode cX4_putFrom 26 = .ok (.goto (-24), 3) := by decide +kernel
theorem dX4_putFrom_29 : decode cX4_putFrom 29 = .ok (.aload_n 0, 1) := by decide +kernel
theorem dX4_putFrom_30 : decode cX4_putFrom 30 = .ok (.getfield 18, 3) := by decide +kernel
theorem dX4_putFrom_33 : decode cX4_putFrom 33 = .ok (.getfield 130, 3) := by decide +kernel
theorem dX4_putFrom_36 : decode cX4_putFrom 36 = .ok (.istore_n 2, 1) := by decide +kernel
theorem dX4_putFrom_37 : decode cX4_putFrom 37 = .ok (.iconst 0, 1) := by decide +kernel
theorem dX4_putFrom_38 : decode cX4_putFrom 38 = .ok (.istore_n 3, 1) := by decide +kernel
theorem dX4_putFrom_39 : decode cX4_putFrom 39 = .ok (.iload_n 3, 1) := by decide +kernel
theorem dX4_putFrom_40 : decode cX4_putFrom 40 = .ok (.aload_n 0, 1) := by decide +kernel
theorem dX4_putFrom_41 : decode cX4_putFrom 41 = .ok (.getfield 35, 3) := by decide +kernel
theorem dX4_putFrom_44 : decode cX4_putFrom 44 = .ok (.if_icmp .ge 22, 3) := by decide +kernel
theorem dX4_putFrom_47 : decode cX4_putFrom 47 = .ok (.aload_n 0, 1) := by decide +kernel
theorem dX4_putFrom_48 : decode cX4_putFrom 48 = .ok (.getfield 11, 3) := by decide +kernel
theorem dX4_putFrom_51 : decode cX4_putFrom 51 = .ok (.iload_n 3, 1) := by decide +kernel
theorem dX4_putFrom_52 : decode cX4_putFrom 52 = .ok (.aaload, 1) := by decide +kernel
theorem dX4_putFrom_53 : decode cX4_putFrom 53 = .ok (.aload_n 0, 1) := by decide +kernel
theorem dX4_putFrom_54 : decode cX4_putFrom 54 = .ok (.getfield 18, 3) := by decide +kernel
theorem dX4_putFrom_57 : decode cX4_putFrom 57 = .ok (.invokevirtual 228, 3) := by decide +kernel
theorem dX4_putFrom_60 : decode cX4_putFrom 60 = .ok (.iinc 3 1, 3) := by decide +kernel
theorem dX4_putFrom_63 : decode cX4_putFrom 63 = .ok (.goto (-24), 3) := by decide +kernel
theorem dX4_putFrom_66 : decode cX4_putFrom 66 = .ok (.aload_n 0, 1) := by decide +kernel
theorem dX4_putFrom_67 : decode cX4_putFrom 67 = .ok (.iload_n 2, 1) := by decide +kernel
theorem dX4_putFrom_68 : decode cX4_putFrom 68 = .ok (.invokevirtual 231, 3) := by decide +kernel
theorem dX4_putFrom_71 : decode cX4_putFrom 71 = .ok (.aload_n 0, 1) := by decide +kernel
theorem dX4_putFrom_72 : decode cX4_putFrom 72 = .ok (.getfield 18, 3) := by decide +kernel
theorem dX4_putFrom_75 : decode cX4_putFrom 75 = .ok (.getfield 130, 3) := by decide +kernel
theorem dX4_putFrom_78 : decode cX4_putFrom 78 = .ok (.ireturn, 1) := by decide +kernel
theorem dX4_putEnd_0 : decode cX4_putEnd 0 = .ok (.aload_n 0, 1) := by decide +kernel
theorem dX4_putEnd_1 : decode cX4_putEnd 1 = .ok (.getfield 18, 3) := by decide +kernel
theorem dX4_putEnd_4 : decode cX4_putEnd 4 = .ok (.getfield 130, 3) := by decide +kernel
theorem dX4_putEnd_7 : decode cX4_putEnd 7 = .ok (.iload_n 1, 1) := by decide +kernel
theorem dX4_putEnd_8 : decode cX4_putEnd 8 = .ok (.isub, 1) := by decide +kernel
theorem dX4_putEnd_9 : decode cX4_putEnd 9 = .ok (.istore_n 2, 1) := by decide +kernel
theorem dX4_putEnd_10 : decode cX4_putEnd 10 = .ok (.aload_n 0, 1) := by decide +kernel
theorem dX4_putEnd_11 : decode cX4_putEnd 11 = .ok (.getfield 18, 3) := by decide +kernel
theorem dX4_putEnd_14 : decode cX4_putEnd 14 = .ok (.ldc2_w 235, 3) := by decide +kernel
theorem dX4_putEnd_17 : decode cX4_putEnd 17 = .ok (.iconst 4, 1) := by decide +kernel
theorem dX4_putEnd_18 : decode cX4_putEnd 18 = .ok (.invokevirtual 237, 3) := by decide +kernel
theorem dX4_putEnd_21 : decode cX4_putEnd 21 = .ok (.aload_n 0, 1) := by decide +kernel
theorem dX4_putEnd_22 : decode cX4_putEnd 22 = .ok (.getfield 18, 3) := by decide +kernel
theorem dX4_putEnd_25 : decode cX4_putEnd 25 = .ok (.lconst 0, 1) := by decide +kernel
theorem dX4_putEnd_26 : decode cX4_putEnd 26 = .ok (.iconst 4, 1) := by decide +kernel
theorem dX4_putEnd_27 : decode cX4_putEnd 27 = .ok (.invokevirtual 237, 3) := by decide +kernel
theorem dX4_putEnd_30 : decode cX4_putEnd 30 = .ok (.aload_n 0, 1) := by decide +kernel
theorem dX4_putEnd_31 : decode cX4_putEnd 31 = .ok (.getfield 18, 3) := by decide +kernel
theorem dX4_putEnd_34 : decode cX4_putEnd 34 = .ok (.aload_n 0, 1) := by decide +kernel
theorem dX4_putEnd_35 : decode cX4_putEnd 35 = .ok (.getfield 35, 3) := by decide +kernel
theorem dX4_putEnd_38 : decode cX4_putEnd 38 = .ok (.i2l, 1) := by decide +kernel
theorem dX4_putEnd_39 : decode cX4_putEnd 39 = .ok (.iconst 2, 1) := by decide +kernel
theorem dX4_putEnd_40 : decode cX4_putEnd 40 = .ok (.invokevirtual 237, 3) := by decide +kernel
theorem dX4_putEnd_43 : decode cX4_putEnd 43 = .ok (.aload_n 0, 1) := by decide +kernel
theorem dX4_putEnd_44 : decode cX4_putEnd 44 = .ok (.getfield 18, 3) := by decide +kernel
theorem dX4_putEnd_47 : decode cX4_putEnd 47 = .ok (.aload_n 0, 1) := by decide +kernel
theorem dX4_putEnd_48 : decode cX4_putEnd 48 = .ok (.getfield 35, 3) := by decide +kernel
theorem dX4_putEnd_51 : decode cX4_putEnd 51 = .ok (.i2l, 1) := by decide +kernel
theorem dX4_putEnd_52 : decode cX4_putEnd 52 = .ok (.iconst 2, 1) := by decide +kernel
theorem dX4_putEnd_53 : decode cX4_putEnd 53 = .ok (.invokevirtual 237, 3) := by decide +kernel
theorem dX4_putEnd_56 : decode cX4_putEnd 56 = .ok (.aload_n 0, 1) := by decide +kernel
theorem dX4_putEnd_57 : decode cX4_putEnd 57 = .ok (.getfield 18, 3) := by decide +kernel
theorem dX4_putEnd_60 : decode cX4_putEnd 60 = .ok (.iload_n 2, 1) := by decide +kernel
theorem dX4_putEnd_61 : decode cX4_putEnd 61 = .ok (.i2l, 1) := by decide +kernel
theorem dX4_putEnd_62 : decode cX4_putEnd 62 = .ok (.iconst 4, 1) := by decide +kernel
theorem dX4_putEnd_63 : decode cX4_putEnd 63 = .ok (.invokevirtual 237, 3) := by decide +kernel
theorem dX4_putEnd_66 : decode cX4_putEnd 66 = .ok (.aload_n 0, 1) := by decide +kernel
theorem dX4_putEnd_67 : decode cX4_putEnd 67 = .ok (.getfield 18, 3) := by decide +kernel
theorem dX4_putEnd_70 : decode cX4_putEnd 70 = .ok (.iload_n 1, 1) := by decide +kernel
theorem dX4_putEnd_71 : decode cX4_putEnd 71 = .ok (.i2l, 1) := by decide +kernel
theorem dX4_putEnd_72 : decode cX4_putEnd 72 = .ok (.iconst 4, 1) := by decide +kernel
theorem dX4_putEnd_73 : decode cX4_putEnd 73 = .ok (.invokevirtual 237, 3) := by decide +kernel
theorem dX4_putEnd_76 : decode cX4_putEnd 76 = .ok (.aload_n 0, 1) := by decide +kernel
theorem dX4_putEnd_77 : decode cX4_putEnd 77 = .ok (.getfield 18, 3) := by decide +kernel
theorem dX4_putEnd_80 : decode cX4_putEnd 80 = .ok (.aload_n 0, 1) := by decide +kernel
theorem dX4_putEnd_81 : decode cX4_putEnd 81 = .ok (.getfield 39, 3) := by decide +kernel
theorem dX4_putEnd_84 : decode cX4_putEnd 84 = .ok (.i2l, 1) := by decide +kernel
theorem dX4_putEnd_85 : decode cX4_putEnd 85 = .ok (.iconst 2, 1) := by decide +kernel
theorem dX4_putEnd_86 : decode cX4_putEnd 86 = .ok (.invokevirtual 237, 3) := by decide +kernel
theorem dX4_putEnd_89 : decode cX4_putEnd 89 = .ok (.aload_n 0, 1) := by decide +kernel
theorem dX4_putEnd_90 : decode cX4_putEnd 90 = .ok (.getfield 18, 3) := by decide +kernel
theorem dX4_putEnd_93 : decode cX4_putEnd 93 = .ok (.aload_n 0, 1) := by decide +kernel
theorem dX4_putEnd_94 : decode cX4_putEnd 94 = .ok (.getfield 31, 3) := by decide +kernel
theorem dX4_putEnd_97 : decode cX4_putEnd 97 = .ok (.iconst 0, 1) := by decide +kernel
theorem dX4_putEnd_98 : decode cX4_putEnd 98 = .ok (.aload_n 0, 1) := by decide +kernel
theorem dX4_putEnd_99 : decode cX4_putEnd 99 = .ok (.getfield 39, 3) := by decide +kernel
theorem dX4_putEnd_102 : decode cX4_putEnd 102 = .ok (.invokevirtual 240, 3) := by decide +kernel
theorem dX4_putEnd_105 : decode cX4_putEnd 105 = .ok (.return_, 1) := by decide +kernel
theorem dX4_fitsName_0 : decode cX4_fitsName 0 = .ok (.iload_n 3, 1) := by decide +kernel
theorem dX4_fitsName_1 : decode cX4_fitsName 1 = .ok (.iconst 1, 1) := by decide +kernel
theorem dX4_fitsName_2 : decode cX4_fitsName 2 = .ok (.if_icmp .lt 9, 3) := by decide +kernel
theorem dX4_fitsName_5 : decode cX4_fitsName 5 = .ok (.iload_n 3, 1) := by decide +kernel
theorem dX4_fitsName_6 : decode cX4_fitsName 6 = .ok (.bipush 8, 2) := by decide +kernel
theorem dX4_fitsName_8 : decode cX4_fitsName 8 = .ok (.if_icmp .le 5, 3) := by decide +kernel
theorem dX4_fitsName_11 : decode cX4_fitsName 11 = .ok (.iconst 0, 1) := by decide +kernel
theorem dX4_fitsName_12 : decode cX4_fitsName 12 = .ok (.ireturn, 1) := by decide +kernel
theorem dX4_fitsName_13 : decode cX4_fitsName 13 = .ok (.iconst 0, 1) := by decide +kernel
theorem dX4_fitsName_14 : decode cX4_fitsName 14 = .ok (.istore 4, 2) := by decide +kernel
theorem dX4_fitsName_16 : decode cX4_fitsName 16 = .ok (.iload 4, 2) := by decide +kernel
theorem dX4_fitsName_18 : decode cX4_fitsName 18 = .ok (.iload_n 3, 1) := by decide +kernel
theorem dX4_fitsName_19 : decode cX4_fitsName 19 = .ok (.if_icmp .ge 21, 3) := by decide +kernel
theorem dX4_fitsName_22 : decode cX4_fitsName 22 = .ok (.lload_n 1, 1) := by decide +kernel
theorem dX4_fitsName_23 : decode cX4_fitsName 23 = .ok (.iload_n 3, 1) := by decide +kernel
theorem dX4_fitsName_24 : decode cX4_fitsName 24 = .ok (.iload 4, 2) := by decide +kernel
theorem dX4_fitsName_26 : decode cX4_fitsName 26 = .ok (.invokestatic 244, 3) := by decide +kernel
theorem dX4_fitsName_29 : decode cX4_fitsName 29 = .ok (.ifCond .ne 5, 3) := by decide +kernel
theorem dX4_fitsName_32 : decode cX4_fitsName 32 = .ok (.iconst 0, 1) := by decide +kernel
theorem dX4_fitsName_33 : decode cX4_fitsName 33 = .ok (.ireturn, 1) := by decide +kernel
theorem dX4_fitsName_34 : decode cX4_fitsName 34 = .ok (.iinc 4 1, 3) := by decide +kernel
theorem dX4_fitsName_37 : decode cX4_fitsName 37 = .ok (.goto (-21), 3) := by decide +kernel
theorem dX4_fitsName_40 : decode cX4_fitsName 40 = .ok (.iload_n 0, 1) := by decide +kernel
theorem dX4_fitsName_41 : decode cX4_fitsName 41 = .ok (.iconst 2, 1) := by decide +kernel
theorem dX4_fitsName_42 : decode cX4_fitsName 42 = .ok (.if_icmp .eq 16, 3) := by decide +kernel
theorem dX4_fitsName_45 : decode cX4_fitsName 45 = .ok (.lload_n 1, 1) := by decide +kernel
theorem dX4_fitsName_46 : decode cX4_fitsName 46 = .ok (.iload_n 3, 1) := by decide +kernel
theorem dX4_fitsName_47 : decode cX4_fitsName 47 = .ok (.iload_n 3, 1) := by decide +kernel
theorem dX4_fitsName_48 : decode cX4_fitsName 48 = .ok (.iconst 1, 1) := by decide +kernel
theorem dX4_fitsName_49 : decode cX4_fitsName 49 = .ok (.isub, 1) := by decide +kernel
theorem dX4_fitsName_50 : decode cX4_fitsName 50 = .ok (.invokestatic 244, 3) := by decide +kernel
theorem dX4_fitsName_53 : decode cX4_fitsName 53 = .ok (.bipush 47, 2) := by decide +kernel
theorem dX4_fitsName_55 : decode cX4_fitsName 55 = .ok (.if_icmp .eq 7, 3) := by decide +kernel
theorem dX4_fitsName_58 : decode cX4_fitsName 58 = .ok (.iconst 1, 1) := by decide +kernel
theorem dX4_fitsName_59 : decode cX4_fitsName 59 = .ok (.goto 4, 3) := by decide +kernel
theorem dX4_fitsName_62 : decode cX4_fitsName 62 = .ok (.iconst 0, 1) := by decide +kernel
theorem dX4_fitsName_63 : decode cX4_fitsName 63 = .ok (.ireturn, 1) := by decide +kernel
theorem dX4_octetOf_0 : decode cX4_octetOf 0 = .ok (.lload_n 0, 1) := by decide +kernel
theorem dX4_octetOf_1 : decode cX4_octetOf 1 = .ok (.bipush 8, 2) := by decide +kernel
theorem dX4_octetOf_3 : decode cX4_octetOf 3 = .ok (.iload_n 2, 1) := by decide +kernel
theorem dX4_octetOf_4 : decode cX4_octetOf 4 = .ok (.iconst 1, 1) := by decide +kernel
theorem dX4_octetOf_5 : decode cX4_octetOf 5 = .ok (.isub, 1) := by decide +kernel
theorem dX4_octetOf_6 : decode cX4_octetOf 6 = .ok (.iload_n 3, 1) := by decide +kernel
theorem dX4_octetOf_7 : decode cX4_octetOf 7 = .ok (.isub, 1) := by decide +kernel
theorem dX4_octetOf_8 : decode cX4_octetOf 8 = .ok (.imul, 1) := by decide +kernel
theorem dX4_octetOf_9 : decode cX4_octetOf 9 = .ok (.lushr, 1) := by decide +kernel
theorem dX4_octetOf_10 : decode cX4_octetOf 10 = .ok (.l2i, 1) := by decide +kernel
theorem dX4_octetOf_11 : decode cX4_octetOf 11 = .ok (.sipush 255, 3) := by decide +kernel
theorem dX4_octetOf_14 : decode cX4_octetOf 14 = .ok (.iand, 1) := by decide +kernel
theorem dX4_octetOf_15 : decode cX4_octetOf 15 = .ok (.ireturn, 1) := by decide +kernel
theorem dX4_spread_0 : decode cX4_spread 0 = .ok (.iconst 0, 1) := by decide +kernel
theorem dX4_spread_1 : decode cX4_spread 1 = .ok (.istore 5, 2) := by decide +kernel
theorem dX4_spread_3 : decode cX4_spread 3 = .ok (.iload 5, 2) := by decide +kernel
theorem dX4_spread_5 : decode cX4_spread 5 = .ok (.iload_n 2, 1) := by decide +kernel
theorem dX4_spread_6 : decode cX4_spread 6 = .ok (.if_icmp .ge 34, 3) := by decide +kernel
theorem dX4_spread_9 : decode cX4_spread 9 = .ok (.iload 4, 2) := by decide +kernel
theorem dX4_spread_11 : decode cX4_spread 11 = .ok (.iload 5, 2) := by decide +kernel
theorem dX4_spread_13 : decode cX4_spread 13 = .ok (.iadd, 1) := by decide +kernel
theorem dX4_spread_14 : decode cX4_spread 14 = .ok (.aload_n 3, 1) := by decide +kernel
theorem dX4_spread_15 : decode cX4_spread 15 = .ok (.arraylength, 1) := by decide +kernel
theorem dX4_spread_16 : decode cX4_spread 16 = .ok (.if_icmp .ge 24, 3) := by decide +kernel
theorem dX4_spread_19 : decode cX4_spread 19 = .ok (.aload_n 3, 1) := by decide +kernel
theorem dX4_spread_20 : decode cX4_spread 20 = .ok (.iload 4, 2) := by decide +kernel
theorem dX4_spread_22 : decode cX4_spread 22 = .ok (.iload 5, 2) := by decide +kernel
theorem dX4_spread_24 : decode cX4_spread 24 = .ok (.iadd, 1) := by decide +kernel
theorem dX4_spread_25 : decode cX4_spread 25 = .ok (.lload_n 0, 1) := by decide +kernel
theorem dX4_spread_26 : decode cX4_spread 26 = .ok (.iload_n 2, 1) := by decide +kernel
theorem dX4_spread_27 : decode cX4_spread 27 = .ok (.iload 5, 2) := by decide +kernel
theorem dX4_spread_29 : decode cX4_spread 29 = .ok (.invokestatic 244, 3) := by decide +kernel
theorem dX4_spread_32 : decode cX4_spread 32 = .ok (.i2b, 1) := by decide +kernel
theorem dX4_spread_33 : decode cX4_spread 33 = .ok (.bastore, 1) := by decide +kernel
theorem dX4_spread_34 : decode cX4_spread 34 = .ok (.iinc 5 1, 3) := by decide +kernel
theorem dX4_spread_37 : decode cX4_spread 37 = .ok (.goto (-34), 3) := by decide +kernel
theorem dX4_spread_40 : decode cX4_spread 40 = .ok (.return_, 1) := by decide +kernel
theorem dX4_sumOf_0 : decode cX4_sumOf 0 = .ok (.iconst (-1), 1) := by decide +kernel
theorem dX4_sumOf_1 : decode cX4_sumOf 1 = .ok (.istore_n 2, 1) := by decide +kernel
theorem dX4_sumOf_2 : decode cX4_sumOf 2 = .ok (.iconst 0, 1) := by decide +kernel
theorem dX4_sumOf_3 : decode cX4_sumOf 3 = .ok (.istore_n 3, 1) := by decide +kernel
theorem dX4_sumOf_4 : decode cX4_sumOf 4 = .ok (.iload_n 3, 1) := by decide +kernel
theorem dX4_sumOf_5 : decode cX4_sumOf 5 = .ok (.iload_n 1, 1) := by decide +kernel
theorem dX4_sumOf_6 : decode cX4_sumOf 6 = .ok (.if_icmp .ge 60, 3) := by decide +kernel
theorem dX4_sumOf_9 : decode cX4_sumOf 9 = .ok (.iload_n 3, 1) := by decide +kernel
theorem dX4_sumOf_10 : decode cX4_sumOf 10 = .ok (.aload_n 0, 1) := by decide +kernel
theorem dX4_sumOf_11 : decode cX4_sumOf 11 = .ok (.arraylength, 1) := by decide +kernel
theorem dX4_sumOf_12 : decode cX4_sumOf 12 = .ok (.if_icmp .ge 54, 3) := by decide +kernel
theorem dX4_sumOf_15 : decode cX4_sumOf 15 = .ok (.iload_n 2, 1) := by decide +kernel
theorem dX4_sumOf_16 : decode cX4_sumOf 16 = .ok (.aload_n 0, 1) := by decide +kernel
theorem dX4_sumOf_17 : decode cX4_sumOf 17 = .ok (.iload_n 3, 1) := by decide +kernel
theorem dX4_sumOf_18 : decode cX4_sumOf 18 = .ok (.baload, 1) := by decide +kernel
theorem dX4_sumOf_19 : decode cX4_sumOf 19 = .ok (.sipush 255, 3) := by decide +kernel
theorem dX4_sumOf_22 : decode cX4_sumOf 22 = .ok (.iand, 1) := by decide +kernel
theorem dX4_sumOf_23 : decode cX4_sumOf 23 = .ok (.ixor, 1) := by decide +kernel
theorem dX4_sumOf_24 : decode cX4_sumOf 24 = .ok (.istore_n 2, 1) := by decide +kernel
theorem dX4_sumOf_25 : decode cX4_sumOf 25 = .ok (.iconst 0, 1) := by decide +kernel
theorem dX4_sumOf_26 : decode cX4_sumOf 26 = .ok (.istore 4, 2) := by decide +kernel
theorem dX4_sumOf_28 : decode cX4_sumOf 28 = .ok (.iload 4, 2) := by decide +kernel
theorem dX4_sumOf_30 : decode cX4_sumOf 30 = .ok (.bipush 8, 2) := by decide +kernel
theorem dX4_sumOf_32 : decode cX4_sumOf 32 = .ok (.if_icmp .ge 28, 3) := by decide +kernel
theorem dX4_sumOf_35 : decode cX4_sumOf 35 = .ok (.iload_n 2, 1) := by decide +kernel
theorem dX4_sumOf_36 : decode cX4_sumOf 36 = .ok (.iconst 1, 1) := by decide +kernel
theorem dX4_sumOf_37 : decode cX4_sumOf 37 = .ok (.iand, 1) := by decide +kernel
theorem dX4_sumOf_38 : decode cX4_sumOf 38 = .ok (.ifCond .ne 9, 3) := by decide +kernel
theorem dX4_sumOf_41 : decode cX4_sumOf 41 = .ok (.iload_n 2, 1) := by decide +kernel
theorem dX4_sumOf_42 : decode cX4_sumOf 42 = .ok (.iconst 1, 1) := by decide +kernel
theorem dX4_sumOf_43 : decode cX4_sumOf 43 = .ok (.iushr, 1) := by decide +kernel
theorem dX4_sumOf_44 : decode cX4_sumOf 44 = .ok (.goto 9, 3) := by decide +kernel
theorem dX4_sumOf_47 : decode cX4_sumOf 47 = .ok (.iload_n 2, 1) := by decide +kernel
theorem dX4_sumOf_48 : decode cX4_sumOf 48 = .ok (.iconst 1, 1) := by decide +kernel
theorem dX4_sumOf_49 : decode cX4_sumOf 49 = .ok (.iushr, 1) := by decide +kernel
theorem dX4_sumOf_50 : decode cX4_sumOf 50 = .ok (.ldc 248, 2) := by decide +kernel
theorem dX4_sumOf_52 : decode cX4_sumOf 52 = .ok (.ixor, 1) := by decide +kernel
theorem dX4_sumOf_53 : decode cX4_sumOf 53 = .ok (.istore_n 2, 1) := by decide +kernel
theorem dX4_sumOf_54 : decode cX4_sumOf 54 = .ok (.iinc 4 1, 3) := by decide +kernel
theorem dX4_sumOf_57 : decode cX4_sumOf 57 = .ok (.goto (-29), 3) := by decide +kernel
theorem dX4_sumOf_60 : decode cX4_sumOf 60 = .ok (.iinc 3 1, 3) := by decide +kernel
theorem dX4_sumOf_63 : decode cX4_sumOf 63 = .ok (.goto (-59), 3) := by decide +kernel
theorem dX4_sumOf_66 : decode cX4_sumOf 66 = .ok (.iload_n 2, 1) := by decide +kernel
theorem dX4_sumOf_67 : decode cX4_sumOf 67 = .ok (.iconst (-1), 1) := by decide +kernel
theorem dX4_sumOf_68 : decode cX4_sumOf 68 = .ok (.ixor, 1) := by decide +kernel
theorem dX4_sumOf_69 : decode cX4_sumOf 69 = .ok (.ireturn, 1) := by decide +kernel
theorem dL_law_0 : decode cL_law 0 = .ok (.new 7, 3) := by decide +kernel
theorem dL_law_3 : decode cL_law 3 = .ok (.dup, 1) := by decide +kernel
theorem dL_law_4 : decode cL_law 4 = .ok (.invokespecial 9, 3) := by decide +kernel
theorem dL_law_7 : decode cL_law 7 = .ok (.astore_n 1, 1) := by decide +kernel
theorem dL_law_8 : decode cL_law 8 = .ok (.new 10, 3) := by decide +kernel
theorem dL_law_11 : decode cL_law 11 = .ok (.dup, 1) := by decide +kernel
theorem dL_law_12 : decode cL_law 12 = .ok (.invokespecial 12, 3) := by decide +kernel
theorem dL_law_15 : decode cL_law 15 = .ok (.astore_n 2, 1) := by decide +kernel
theorem dL_law_16 : decode cL_law 16 = .ok (.iconst 0, 1) := by decide +kernel
theorem dL_law_17 : decode cL_law 17 = .ok (.istore_n 3, 1) := by decide +kernel
theorem dL_law_18 : decode cL_law 18 = .ok (.iload_n 3, 1) := by decide +kernel
theorem dL_law_19 : decode cL_law 19 = .ok (.aload_n 0, 1) := by decide +kernel
theorem dL_law_20 : decode cL_law 20 = .ok (.arraylength, 1) := by decide +kernel
theorem dL_law_21 : decode cL_law 21 = .ok (.bipush 6, 2) := by decide +kernel
theorem dL_law_23 : decode cL_law 23 = .ok (.isub, 1) := by decide +kernel
theorem dL_law_24 : decode cL_law 24 = .ok (.if_icmp .gt 1171, 3) := by decide +kernel
theorem dL_law_27 : decode cL_law 27 = .ok (.aload_n 0, 1) := by decide +kernel
theorem dL_law_28 : decode cL_law 28 = .ok (.iload_n 3, 1) := by decide +kernel
theorem dL_law_29 : decode cL_law 29 = .ok (.iaload, 1) := by decide +kernel
theorem dL_law_30 : decode cL_law 30 = .ok (.bipush 31, 2) := by decide +kernel
theorem dL_law_32 : decode cL_law 32 = .ok (.iand, 1) := by decide +kernel
theorem dL_law_33 : decode cL_law 33 = .ok (.tableswitch 1156 0 26 #[123, 206, 279, 352, 395, 478, 541, 574, 587, 650, 663, 686, 699, 712, 775, 798, 831, 854, 877, 901, 934, 967, 1000, 1034, 1087, 1110, 1133], 123) := by decide +kernel
theorem dL_law_156 : decode cL_law 156 = .ok (.aload_n 1, 1) := by decide +kernel
theorem dL_law_157 : decode cL_law 157 = .ok (.aload_n 0, 1) := by decide +kernel
theorem dL_law_158 : decode cL_law 158 = .ok (.iload_n 3, 1) := by decide +kernel
theorem dL_law_159 : decode cL_law 159 = .ok (.iconst 1, 1) := by decide +kernel
theorem dL_law_160 : decode cL_law 160 = .ok (.iadd, 1) := by decide +kernel
theorem dL_law_161 : decode cL_law 161 = .ok (.iaload, 1) := by decide +kernel
theorem dL_law_162 : decode cL_law 162 = .ok (.aload_n 0, 1) := by decide +kernel
theorem dL_law_163 : decode cL_law 163 = .ok (.iload_n 3, 1) := by decide +kernel
theorem dL_law_164 : decode cL_law 164 = .ok (.iconst 2, 1) := by decide +kernel
theorem dL_law_165 : decode cL_law 165 = .ok (.iadd, 1) := by decide +kernel
theorem dL_law_166 : decode cL_law 166 = .ok (.iaload, 1) := by decide +kernel
theorem dL_law_167 : decode cL_law 167 = .ok (.aload_n 0, 1) := by decide +kernel
theorem dL_law_168 : decode cL_law 168 = .ok (.iload_n 3, 1) := by decide +kernel
theorem dL_law_169 : decode cL_law 169 = .ok (.iconst 3, 1) := by decide +kernel
theorem dL_law_170 : decode cL_law 170 = .ok (.iadd, 1) := by decide +kernel
theorem dL_law_171 : decode cL_law 171 = .ok (.iaload, 1) := by decide +kernel
theorem dL_law_172 : decode cL_law 172 = .ok (.i2l, 1) := by decide +kernel
theorem dL_law_173 : decode cL_law 173 = .ok (.bipush 32, 2) := by decide +kernel
theorem dL_law_175 : decode cL_law 175 = .ok (.lshl, 1) := by decide +kernel
theorem dL_law_176 : decode cL_law 176 = .ok (.aload_n 0, 1) := by decide +kernel
theorem dL_law_177 : decode cL_law 177 = .ok (.iload_n 3, 1) := by decide +kernel
theorem dL_law_178 : decode cL_law 178 = .ok (.iconst 4, 1) := by decide +kernel
theorem dL_law_179 : decode cL_law 179 = .ok (.iadd, 1) := by decide +kernel
theorem dL_law_180 : decode cL_law 180 = .ok (.iaload, 1) := by decide +kernel
theorem dL_law_181 : decode cL_law 181 = .ok (.i2l, 1) := by decide +kernel
theorem dL_law_182 : decode cL_law 182 = .ok (.ldc2_w 13, 3) := by decide +kernel
theorem dL_law_185 : decode cL_law 185 = .ok (.land, 1) := by decide +kernel
theorem dL_law_186 : decode cL_law 186 = .ok (.lor, 1) := by decide +kernel
theorem dL_law_187 : decode cL_law 187 = .ok (.aload_n 0, 1) := by decide +kernel
theorem dL_law_188 : decode cL_law 188 = .ok (.iload_n 3, 1) := by decide +kernel
theorem dL_law_189 : decode cL_law 189 = .ok (.iconst 5, 1) := by decide +kernel
theorem dL_law_190 : decode cL_law 190 = .ok (.iadd, 1) := by decide +kernel
theorem dL_law_191 : decode cL_law 191 = .ok (.iaload, 1) := by decide +kernel
theorem dL_law_192 : decode cL_law 192 = .ok (.invokevirtual 15, 3) := by decide +kernel
theorem dL_law_195 : decode cL_law 195 = .ok (.aload_n 2, 1) := by decide +kernel
theorem dL_law_196 : decode cL_law 196 = .ok (.aload_n 0, 1) := by decide +kernel
theorem dL_law_197 : decode cL_law 197 = .ok (.iload_n 3, 1) := by decide +kernel
theorem dL_law_198 : decode cL_law 198 = .ok (.iconst 1, 1) := by decide +kernel
theorem dL_law_199 : decode cL_law 199 = .ok (.iadd, 1) := by decide +kernel
theorem dL_law_200 : decode cL_law 200 = .ok (.iaload, 1) := by decide +kernel
theorem dL_law_201 : decode cL_law 201 = .ok (.aload_n 0, 1) := by decide +kernel
theorem dL_law_202 : decode cL_law 202 = .ok (.iload_n 3, 1) := by decide +kernel
theorem dL_law_203 : decode cL_law 203 = .ok (.iconst 2, 1) := by decide +kernel
theorem dL_law_204 : decode cL_law 204 = .ok (.iadd, 1) := by decide +kernel
theorem dL_law_205 : decode cL_law 205 = .ok (.iaload, 1) := by decide +kernel
theorem dL_law_206 : decode cL_law 206 = .ok (.aload_n 0, 1) := by decide +kernel
theorem dL_law_207 : decode cL_law 207 = .ok (.iload_n 3, 1) := by decide +kernel
theorem dL_law_208 : decode cL_law 208 = .ok (.iconst 3, 1) := by decide +kernel
theorem dL_law_209 : decode cL_law 209 = .ok (.iadd, 1) := by decide +kernel
theorem dL_law_210 : decode cL_law 210 = .ok (.iaload, 1) := by decide +kernel
theorem dL_law_211 : decode cL_law 211 = .ok (.i2l, 1) := by decide +kernel
theorem dL_law_212 : decode cL_law 212 = .ok (.bipush 32, 2) := by decide +kernel
theorem dL_law_214 : decode cL_law 214 = .ok (.lshl, 1) := by decide +kernel
theorem dL_law_215 : decode cL_law 215 = .ok (.aload_n 0, 1) := by decide +kernel
theorem dL_law_216 : decode cL_law 216 = .ok (.iload_n 3, 1) := by decide +kernel
theorem dL_law_217 : decode cL_law 217 = .ok (.iconst 4, 1) := by decide +kernel
theorem dL_law_218 : decode cL_law 218 = .ok (.iadd, 1) := by decide +kernel
theorem dL_law_219 : decode cL_law 219 = .ok (.iaload, 1) := by decide +kernel
theorem dL_law_220 : decode cL_law 220 = .ok (.i2l, 1) := by decide +kernel
theorem dL_law_221 : decode cL_law 221 = .ok (.ldc2_w 13, 3) := by decide +kernel
theorem dL_law_224 : decode cL_law 224 = .ok (.land, 1) := by decide +kernel
theorem dL_law_225 : decode cL_law 225 = .ok (.lor, 1) := by decide +kernel
theorem dL_law_226 : decode cL_law 226 = .ok (.aload_n 0, 1) := by decide +kernel
theorem dL_law_227 : decode cL_law 227 = .ok (.iload_n 3, 1) := by decide +kernel
theorem dL_law_228 : decode cL_law 228 = .ok (.iconst 5, 1) := by decide +kernel
theorem dL_law_229 : decode cL_law 229 = .ok (.iadd, 1) := by decide +kernel
theorem dL_law_230 : decode cL_law 230 = .ok (.iaload, 1) := by decide +kernel
theorem dL_law_231 : decode cL_law 231 = .ok (.invokevirtual 19, 3) := by decide +kernel
theorem dL_law_234 : decode cL_law 234 = .ok (.if_icmp .eq 955, 3) := by decide +kernel
theorem dL_law_237 : decode cL_law 237 = .ok (.iconst 0, 1) := by decide +kernel
theorem dL_law_238 : decode cL_law 238 = .ok (.ireturn, 1) := by decide +kernel
theorem dL_law_239 : decode cL_law 239 = .ok (.aload_n 1, 1) := by decide +kernel
theorem dL_law_240 : decode cL_law 240 = .ok (.aload_n 0, 1) := by decide +kernel
theorem dL_law_241 : decode cL_law 241 = .ok (.iload_n 3, 1) := by decide +kernel
theorem dL_law_242 : decode cL_law 242 = .ok (.iconst 1, 1) := by decide +kernel
theorem dL_law_243 : decode cL_law 243 = .ok (.iadd, 1) := by decide +kernel
theorem dL_law_244 : decode cL_law 244 = .ok (.iaload, 1) := by decide +kernel
theorem dL_law_245 : decode cL_law 245 = .ok (.aload_n 0, 1) := by decide +kernel
theorem dL_law_246 : decode cL_law 246 = .ok (.iload_n 3, 1) := by decide +kernel
theorem dL_law_247 : decode cL_law 247 = .ok (.iconst 2, 1) := by decide +kernel
theorem dL_law_248 : decode cL_law 248 = .ok (.iadd, 1) := by decide +kernel
theorem dL_law_249 : decode cL_law 249 = .ok (.iaload, 1) := by decide +kernel
theorem dL_law_250 : decode cL_law 250 = .ok (.i2l, 1) := by decide +kernel
theorem dL_law_251 : decode cL_law 251 = .ok (.bipush 32, 2) := by decide +kernel
theorem dL_law_253 : decode cL_law 253 = .ok (.lshl, 1) := by decide +kernel
theorem dL_law_254 : decode cL_law 254 = .ok (.aload_n 0, 1) := by decide +kernel
theorem dL_law_255 : decode cL_law 255 = .ok (.iload_n 3, 1) := by decide +kernel
theorem dL_law_256 : decode cL_law 256 = .ok (.iconst 3, 1) := by decide +kernel
theorem dL_law_257 : decode cL_law 257 = .ok (.iadd, 1) := by decide +kernel
theorem dL_law_258 : decode cL_law 258 = .ok (.iaload, 1) := by decide +kernel
theorem dL_law_259 : decode cL_law 259 = .ok (.i2l, 1) := by decide +kernel
theorem dL_law_260 : decode cL_law 260 = .ok (.ldc2_w 13, 3) := by decide +kernel
theorem dL_law_263 : decode cL_law 263 = .ok (.land, 1) := by decide +kernel
theorem dL_law_264 : decode cL_law 264 = .ok (.lor, 1) := by decide +kernel
theorem dL_law_265 : decode cL_law 265 = .ok (.aload_n 0, 1) := by decide +kernel
theorem dL_law_266 : decode cL_law 266 = .ok (.iload_n 3, 1) := by decide +kernel
theorem dL_law_267 : decode cL_law 267 = .ok (.iconst 4, 1) := by decide +kernel
theorem dL_law_268 : decode cL_law 268 = .ok (.iadd, 1) := by decide +kernel
theorem dL_law_269 : decode cL_law 269 = .ok (.iaload, 1) := by decide +kernel
theorem dL_law_270 : decode cL_law 270 = .ok (.invokevirtual 20, 3) := by decide +kernel
theorem dL_law_273 : decode cL_law 273 = .ok (.aload_n 2, 1) := by decide +kernel
theorem dL_law_274 : decode cL_law 274 = .ok (.aload_n 0, 1) := by decide +kernel
theorem dL_law_275 : decode cL_law 275 = .ok (.iload_n 3, 1) := by decide +kernel
theorem dL_law_276 : decode cL_law 276 = .ok (.iconst 1, 1) := by decide +kernel
theorem dL_law_277 : decode cL_law 277 = .ok (.iadd, 1) := by decide +kernel
theorem dL_law_278 : decode cL_law 278 = .ok (.iaload, 1) := by decide +kernel
theorem dL_law_279 : decode cL_law 279 = .ok (.aload_n 0, 1) := by decide +kernel
theorem dL_law_280 : decode cL_law 280 = .ok (.iload_n 3, 1) := by decide +kernel
theorem dL_law_281 : decode cL_law 281 = .ok (.iconst 2, 1) := by decide +kernel
theorem dL_law_282 : decode cL_law 282 = .ok (.iadd, 1) := by decide +kernel
theorem dL_law_283 : decode cL_law 283 = .ok (.iaload, 1) := by decide +kernel
theorem dL_law_284 : decode cL_law 284 = .ok (.i2l, 1) := by decide +kernel
theorem dL_law_285 : decode cL_law 285 = .ok (.bipush 32, 2) := by decide +kernel
theorem dL_law_287 : decode cL_law 287 = .ok (.lshl, 1) := by decide +kernel
theorem dL_law_288 : decode cL_law 288 = .ok (.aload_n 0, 1) := by decide +kernel
theorem dL_law_289 : decode cL_law 289 = .ok (.iload_n 3, 1) := by decide +kernel
theorem dL_law_290 : decode cL_law 290 = .ok (.iconst 3, 1) := by decide +kernel
theorem dL_law_291 : decode cL_law 291 = .ok (.iadd, 1) := by decide +kernel
theorem dL_law_292 : decode cL_law 292 = .ok (.iaload, 1) := by decide +kernel
theorem dL_law_293 : decode cL_law 293 = .ok (.i2l, 1) := by decide +kernel
theorem dL_law_294 : decode cL_law 294 = .ok (.ldc2_w 13, 3) := by decide +kernel
theorem dL_law_297 : decode cL_law 297 = .ok (.land, 1) := by decide +kernel
theorem dL_law_298 : decode cL_law 298 = .ok (.lor, 1) := by decide +kernel
theorem dL_law_299 : decode cL_law 299 = .ok (.aload_n 0, 1) := by decide +kernel
theorem dL_law_300 : decode cL_law 300 = .ok (.iload_n 3, 1) := by decide +kernel
theorem dL_law_301 : decode cL_law 301 = .ok (.iconst 4, 1) := by decide +kernel
theorem dL_law_302 : decode cL_law 302 = .ok (.iadd, 1) := by decide +kernel
theorem dL_law_303 : decode cL_law 303 = .ok (.iaload, 1) := by decide +kernel
theorem dL_law_304 : decode cL_law 304 = .ok (.invokevirtual 24, 3) := by decide +kernel
theorem dL_law_307 : decode cL_law 307 = .ok (.if_icmp .eq 882, 3) := by decide +kernel
theorem dL_law_310 : decode cL_law 310 = .ok (.iconst 0, 1) := by decide +kernel
theorem dL_law_311 : decode cL_law 311 = .ok (.ireturn, 1) := by decide +kernel
theorem dL_law_312 : decode cL_law 312 = .ok (.aload_n 1, 1) := by decide +kernel
theorem dL_law_313 : decode cL_law 313 = .ok (.aload_n 0, 1) := by decide +kernel
theorem dL_law_314 : decode cL_law 314 = .ok (.iload_n 3, 1) := by decide +kernel
theorem dL_law_315 : decode cL_law 315 = .ok (.iconst 1, 1) := by decide +kernel
theorem dL_law_316 : decode cL_law 316 = .ok (.iadd, 1) := by decide +kernel
theorem dL_law_317 : decode cL_law 317 = .ok (.iaload, 1) := by decide +kernel
theorem dL_law_318 : decode cL_law 318 = .ok (.aload_n 0, 1) := by decide +kernel
theorem dL_law_319 : decode cL_law 319 = .ok (.iload_n 3, 1) := by decide +kernel
theorem dL_law_320 : decode cL_law 320 = .ok (.iconst 2, 1) := by decide +kernel
theorem dL_law_321 : decode cL_law 321 = .ok (.iadd, 1) := by decide +kernel
theorem dL_law_322 : decode cL_law 322 = .ok (.iaload, 1) := by decide +kernel
theorem dL_law_323 : decode cL_law 323 = .ok (.i2l, 1) := by decide +kernel
theorem dL_law_324 : decode cL_law 324 = .ok (.bipush 32, 2) := by decide +kernel
theorem dL_law_326 : decode cL_law 326 = .ok (.lshl, 1) := by decide +kernel
theorem dL_law_327 : decode cL_law 327 = .ok (.aload_n 0, 1) := by decide +kernel
theorem dL_law_328 : decode cL_law 328 = .ok (.iload_n 3, 1) := by decide +kernel
theorem dL_law_329 : decode cL_law 329 = .ok (.iconst 3, 1) := by decide +kernel
theorem dL_law_330 : decode cL_law 330 = .ok (.iadd, 1) := by decide +kernel
theorem dL_law_331 : decode cL_law 331 = .ok (.iaload, 1) := by decide +kernel
theorem dL_law_332 : decode cL_law 332 = .ok (.i2l, 1) := by decide +kernel
theorem dL_law_333 : decode cL_law 333 = .ok (.ldc2_w 13, 3) := by decide +kernel
theorem dL_law_336 : decode cL_law 336 = .ok (.land, 1) := by decide +kernel
theorem dL_law_337 : decode cL_law 337 = .ok (.lor, 1) := by decide +kernel
theorem dL_law_338 : decode cL_law 338 = .ok (.aload_n 0, 1) := by decide +kernel
theorem dL_law_339 : decode cL_law 339 = .ok (.iload_n 3, 1) := by decide +kernel
theorem dL_law_340 : decode cL_law 340 = .ok (.iconst 4, 1) := by decide +kernel
theorem dL_law_341 : decode cL_law 341 = .ok (.iadd, 1) := by decide +kernel
theorem dL_law_342 : decode cL_law 342 = .ok (.iaload, 1) := by decide +kernel
theorem dL_law_343 : decode cL_law 343 = .ok (.invokevirtual 25, 3) := by decide +kernel
theorem dL_law_346 : decode cL_law 346 = .ok (.aload_n 2, 1) := by decide +kernel
theorem dL_law_347 : decode cL_law 347 = .ok (.aload_n 0, 1) := by decide +kernel
theorem dL_law_348 : decode cL_law 348 = .ok (.iload_n 3, 1) := by decide +kernel
theorem dL_law_349 : decode cL_law 349 = .ok (.iconst 1, 1) := by decide +kernel
theorem dL_law_350 : decode cL_law 350 = .ok (.iadd, 1) := by decide +kernel
theorem dL_law_351 : decode cL_law 351 = .ok (.iaload, 1) := by decide +kernel
theorem dL_law_352 : decode cL_law 352 = .ok (.aload_n 0, 1) := by decide +kernel
theorem dL_law_353 : decode cL_law 353 = .ok (.iload_n 3, 1) := by decide +kernel
theorem dL_law_354 : decode cL_law 354 = .ok (.iconst 2, 1) := by decide +kernel
theorem dL_law_355 : decode cL_law 355 = .ok (.iadd, 1) := by decide +kernel
theorem dL_law_356 : decode cL_law 356 = .ok (.iaload, 1) := by decide +kernel
theorem dL_law_357 : decode cL_law 357 = .ok (.i2l, 1) := by decide +kernel
theorem dL_law_358 : decode cL_law 358 = .ok (.bipush 32, 2) := by decide +kernel
theorem dL_law_360 : decode cL_law 360 = .ok (.lshl, 1) := by decide +kernel
theorem dL_law_361 : decode cL_law 361 = .ok (.aload_n 0, 1) := by decide +kernel
theorem dL_law_362 : decode cL_law 362 = .ok (.iload_n 3, 1) := by decide +kernel
theorem dL_law_363 : decode cL_law 363 = .ok (.iconst 3, 1) := by decide +kernel
theorem dL_law_364 : decode cL_law 364 = .ok (.iadd, 1) := by decide +kernel
theorem dL_law_365 : decode cL_law 365 = .ok (.iaload, 1) := by decide +kernel
theorem dL_law_366 : decode cL_law 366 = .ok (.i2l, 1) := by decide +kernel
theorem dL_law_367 : decode cL_law 367 = .ok (.ldc2_w 13, 3) := by decide +kernel
theorem dL_law_370 : decode cL_law 370 = .ok (.land, 1) := by decide +kernel
theorem dL_law_371 : decode cL_law 371 = .ok (.lor, 1) := by decide +kernel
theorem dL_law_372 : decode cL_law 372 = .ok (.aload_n 0, 1) := by decide +kernel
theorem dL_law_373 : decode cL_law 373 = .ok (.iload_n 3, 1) := by decide +kernel
theorem dL_law_374 : decode cL_law 374 = .ok (.iconst 4, 1) := by decide +kernel
theorem dL_law_375 : decode cL_law 375 = .ok (.iadd, 1) := by decide +kernel
theorem dL_law_376 : decode cL_law 376 = .ok (.iaload, 1) := by decide +kernel
theorem dL_law_377 : decode cL_law 377 = .ok (.invokevirtual 28, 3) := by decide +kernel
theorem dL_law_380 : decode cL_law 380 = .ok (.if_icmp .eq 809, 3) := by decide +kernel
theorem dL_law_383 : decode cL_law 383 = .ok (.iconst 0, 1) := by decide +kernel
theorem dL_law_384 : decode cL_law 384 = .ok (.ireturn, 1) := by decide +kernel
theorem dL_law_385 : decode cL_law 385 = .ok (.aload_n 1, 1) := by decide +kernel
theorem dL_law_386 : decode cL_law 386 = .ok (.aload_n 0, 1) := by decide +kernel
theorem dL_law_387 : decode cL_law 387 = .ok (.iload_n 3, 1) := by decide +kernel
theorem dL_law_388 : decode cL_law 388 = .ok (.iconst 1, 1) := by decide +kernel
theorem dL_law_389 : decode cL_law 389 = .ok (.iadd, 1) := by decide +kernel
theorem dL_law_390 : decode cL_law 390 = .ok (.iaload, 1) := by decide +kernel
theorem dL_law_391 : decode cL_law 391 = .ok (.aload_n 0, 1) := by decide +kernel
theorem dL_law_392 : decode cL_law 392 = .ok (.iload_n 3, 1) := by decide +kernel
theorem dL_law_393 : decode cL_law 393 = .ok (.iconst 2, 1) := by decide +kernel
theorem dL_law_394 : decode cL_law 394 = .ok (.iadd, 1) := by decide +kernel
theorem dL_law_395 : decode cL_law 395 = .ok (.iaload, 1) := by decide +kernel
theorem dL_law_396 : decode cL_law 396 = .ok (.aload_n 0, 1) := by decide +kernel
theorem dL_law_397 : decode cL_law 397 = .ok (.iload_n 3, 1) := by decide +kernel
theorem dL_law_398 : decode cL_law 398 = .ok (.iconst 3, 1) := by decide +kernel
theorem dL_law_399 : decode cL_law 399 = .ok (.iadd, 1) := by decide +kernel
theorem dL_law_400 : decode cL_law 400 = .ok (.iaload, 1) := by decide +kernel
theorem dL_law_401 : decode cL_law 401 = .ok (.invokevirtual 29, 3) := by decide +kernel
theorem dL_law_404 : decode cL_law 404 = .ok (.aload_n 2, 1) := by decide +kernel
theorem dL_law_405 : decode cL_law 405 = .ok (.aload_n 0, 1) := by decide +kernel
theorem dL_law_406 : decode cL_law 406 = .ok (.iload_n 3, 1) := by decide +kernel
theorem dL_law_407 : decode cL_law 407 = .ok (.iconst 1, 1) := by decide +kernel
theorem dL_law_408 : decode cL_law 408 = .ok (.iadd, 1) := by decide +kernel
theorem dL_law_409 : decode cL_law 409 = .ok (.iaload, 1) := by decide +kernel
theorem dL_law_410 : decode cL_law 410 = .ok (.aload_n 0, 1) := by decide +kernel
theorem dL_law_411 : decode cL_law 411 = .ok (.iload_n 3, 1) := by decide +kernel
theorem dL_law_412 : decode cL_law 412 = .ok (.iconst 2, 1) := by decide +kernel
theorem dL_law_413 : decode cL_law 413 = .ok (.iadd, 1) := by decide +kernel
theorem dL_law_414 : decode cL_law 414 = .ok (.iaload, 1) := by decide +kernel
theorem dL_law_415 : decode cL_law 415 = .ok (.aload_n 0, 1) := by decide +kernel
theorem dL_law_416 : decode cL_law 416 = .ok (.iload_n 3, 1) := by decide +kernel
theorem dL_law_417 : decode cL_law 417 = .ok (.iconst 3, 1) := by decide +kernel
theorem dL_law_418 : decode cL_law 418 = .ok (.iadd, 1) := by decide +kernel
theorem dL_law_419 : decode cL_law 419 = .ok (.iaload, 1) := by decide +kernel
theorem dL_law_420 : decode cL_law 420 = .ok (.invokevirtual 33, 3) := by decide +kernel
theorem dL_law_423 : decode cL_law 423 = .ok (.if_icmp .eq 766, 3) := by decide +kernel
theorem dL_law_426 : decode cL_law 426 = .ok (.iconst 0, 1) := by decide +kernel
theorem dL_law_427 : decode cL_law 427 = .ok (.ireturn, 1) := by decide +kernel
theorem dL_law_428 : decode cL_law 428 = .ok (.aload_n 1, 1) := by decide +kernel
theorem dL_law_429 : decode cL_law 429 = .ok (.aload_n 0, 1) := by decide +kernel
theorem dL_law_430 : decode cL_law 430 = .ok (.iload_n 3, 1) := by decide +kernel
theorem dL_law_431 : decode cL_law 431 = .ok (.iconst 1, 1) := by decide +kernel
theorem dL_law_432 : decode cL_law 432 = .ok (.iadd, 1) := by decide +kernel
theorem dL_law_433 : decode cL_law 433 = .ok (.iaload, 1) := by decide +kernel
theorem dL_law_434 : decode cL_law 434 = .ok (.aload_n 0, 1) := by decide +kernel
theorem dL_law_435 : decode cL_law 435 = .ok (.iload_n 3, 1) := by decide +kernel
theorem dL_law_436 : decode cL_law 436 = .ok (.iconst 2, 1) := by decide +kernel
theorem dL_law_437 : decode cL_law 437 = .ok (.iadd, 1) := by decide +kernel
theorem dL_law_438 : decode cL_law 438 = .ok (.iaload, 1) := by decide +kernel
theorem dL_law_439 : decode cL_law 439 = .ok (.aload_n 0, 1) := by decide +kernel
theorem dL_law_440 : decode cL_law 440 = .ok (.iload_n 3, 1) := by decide +kernel
theorem dL_law_441 : decode cL_law 441 = .ok (.iconst 3, 1) := by decide +kernel
theorem dL_law_442 : decode cL_law 442 = .ok (.iadd, 1) := by decide +kernel
theorem dL_law_443 : decode cL_law 443 = .ok (.iaload, 1) := by decide +kernel
theorem dL_law_444 : decode cL_law 444 = .ok (.i2l, 1) := by decide +kernel
theorem dL_law_445 : decode cL_law 445 = .ok (.bipush 32, 2) := by decide +kernel
theorem dL_law_447 : decode cL_law 447 = .ok (.lshl, 1) := by decide +kernel
theorem dL_law_448 : decode cL_law 448 = .ok (.aload_n 0, 1) := by decide +kernel
theorem dL_law_449 : decode cL_law 449 = .ok (.iload_n 3, 1) := by decide +kernel
theorem dL_law_450 : decode cL_law 450 = .ok (.iconst 4, 1) := by decide +kernel
theorem dL_law_451 : decode cL_law 451 = .ok (.iadd, 1) := by decide +kernel
theorem dL_law_452 : decode cL_law 452 = .ok (.iaload, 1) := by decide +kernel
theorem dL_law_453 : decode cL_law 453 = .ok (.i2l, 1) := by decide +kernel
theorem dL_law_454 : decode cL_law 454 = .ok (.ldc2_w 13, 3) := by decide +kernel
theorem dL_law_457 : decode cL_law 457 = .ok (.land, 1) := by decide +kernel
theorem dL_law_458 : decode cL_law 458 = .ok (.lor, 1) := by decide +kernel
theorem dL_law_459 : decode cL_law 459 = .ok (.aload_n 0, 1) := by decide +kernel
theorem dL_law_460 : decode cL_law 460 = .ok (.iload_n 3, 1) := by decide +kernel
theorem dL_law_461 : decode cL_law 461 = .ok (.iconst 5, 1) := by decide +kernel
theorem dL_law_462 : decode cL_law 462 = .ok (.iadd, 1) := by decide +kernel
theorem dL_law_463 : decode cL_law 463 = .ok (.iaload, 1) := by decide +kernel
theorem dL_law_464 : decode cL_law 464 = .ok (.invokevirtual 34, 3) := by decide +kernel
theorem dL_law_467 : decode cL_law 467 = .ok (.aload_n 2, 1) := by decide +kernel
theorem dL_law_468 : decode cL_law 468 = .ok (.aload_n 0, 1) := by decide +kernel
theorem dL_law_469 : decode cL_law 469 = .ok (.iload_n 3, 1) := by decide +kernel
theorem dL_law_470 : decode cL_law 470 = .ok (.iconst 1, 1) := by decide +kernel
theorem dL_law_471 : decode cL_law 471 = .ok (.iadd, 1) := by decide +kernel
theorem dL_law_472 : decode cL_law 472 = .ok (.iaload, 1) := by decide +kernel
theorem dL_law_473 : decode cL_law 473 = .ok (.aload_n 0, 1) := by decide +kernel
theorem dL_law_474 : decode cL_law 474 = .ok (.iload_n 3, 1) := by decide +kernel
theorem dL_law_475 : decode cL_law 475 = .ok (.iconst 2, 1) := by decide +kernel
theorem dL_law_476 : decode cL_law 476 = .ok (.iadd, 1) := by decide +kernel
theorem dL_law_477 : decode cL_law 477 = .ok (.iaload, 1) := by decide +kernel
theorem dL_law_478 : decode cL_law 478 = .ok (.aload_n 0, 1) := by decide +kernel
theorem dL_law_479 : decode cL_law 479 = .ok (.iload_n 3, 1) := by decide +kernel
theorem dL_law_480 : decode cL_law 480 = .ok (.iconst 3, 1) := by decide +kernel
theorem dL_law_481 : decode cL_law 481 = .ok (.iadd, 1) := by decide +kernel
theorem dL_law_482 : decode cL_law 482 = .ok (.iaload, 1) := by decide +kernel
theorem dL_law_483 : decode cL_law 483 = .ok (.i2l, 1) := by decide +kernel
theorem dL_law_484 : decode cL_law 484 = .ok (.bipush 32, 2) := by decide +kernel
theorem dL_law_486 : decode cL_law 486 = .ok (.lshl, 1) := by decide +kernel
theorem dL_law_487 : decode cL_law 487 = .ok (.aload_n 0, 1) := by decide +kernel
theorem dL_law_488 : decode cL_law 488 = .ok (.iload_n 3, 1) := by decide +kernel
theorem dL_law_489 : decode cL_law 489 = .ok (.iconst 4, 1) := by decide +kernel
theorem dL_law_490 : decode cL_law 490 = .ok (.iadd, 1) := by decide +kernel
theorem dL_law_491 : decode cL_law 491 = .ok (.iaload, 1) := by decide +kernel
theorem dL_law_492 : decode cL_law 492 = .ok (.i2l, 1) := by decide +kernel
theorem dL_law_493 : decode cL_law 493 = .ok (.ldc2_w 13, 3) := by decide +kernel
theorem dL_law_496 : decode cL_law 496 = .ok (.land, 1) := by decide +kernel
theorem dL_law_497 : decode cL_law 497 = .ok (.lor, 1) := by decide +kernel
theorem dL_law_498 : decode cL_law 498 = .ok (.aload_n 0, 1) := by decide +kernel
theorem dL_law_499 : decode cL_law 499 = .ok (.iload_n 3, 1) := by decide +kernel
theorem dL_law_500 : decode cL_law 500 = .ok (.iconst 5, 1) := by decide +kernel
theorem dL_law_501 : decode cL_law 501 = .ok (.iadd, 1) := by decide +kernel
theorem dL_law_502 : decode cL_law 502 = .ok (.iaload, 1) := by decide +kernel
theorem dL_law_503 : decode cL_law 503 = .ok (.invokevirtual 37, 3) := by decide +kernel
theorem dL_law_506 : decode cL_law 506 = .ok (.if_icmp .eq 683, 3) := by decide +kernel
theorem dL_law_509 : decode cL_law 509 = .ok (.iconst 0, 1) := by decide +kernel
theorem dL_law_510 : decode cL_law 510 = .ok (.ireturn, 1) := by decide +kernel
theorem dL_law_511 : decode cL_law 511 = .ok (.aload_n 1, 1) := by decide +kernel
theorem dL_law_512 : decode cL_law 512 = .ok (.aload_n 0, 1) := by decide +kernel
theorem dL_law_513 : decode cL_law 513 = .ok (.iload_n 3, 1) := by decide +kernel
theorem dL_law_514 : decode cL_law 514 = .ok (.iconst 1, 1) := by decide +kernel
theorem dL_law_515 : decode cL_law 515 = .ok (.iadd, 1) := by decide +kernel
theorem dL_law_516 : decode cL_law 516 = .ok (.iaload, 1) := by decide +kernel
theorem dL_law_517 : decode cL_law 517 = .ok (.aload_n 0, 1) := by decide +kernel
theorem dL_law_518 : decode cL_law 518 = .ok (.iload_n 3, 1) := by decide +kernel
theorem dL_law_519 : decode cL_law 519 = .ok (.iconst 2, 1) := by decide +kernel
theorem dL_law_520 : decode cL_law 520 = .ok (.iadd, 1) := by decide +kernel
theorem dL_law_521 : decode cL_law 521 = .ok (.iaload, 1) := by decide +kernel
theorem dL_law_522 : decode cL_law 522 = .ok (.aload_n 0, 1) := by decide +kernel
theorem dL_law_523 : decode cL_law 523 = .ok (.iload_n 3, 1) := by decide +kernel
theorem dL_law_524 : decode cL_law 524 = .ok (.iconst 3, 1) := by decide +kernel
theorem dL_law_525 : decode cL_law 525 = .ok (.iadd, 1) := by decide +kernel
theorem dL_law_526 : decode cL_law 526 = .ok (.iaload, 1) := by decide +kernel
theorem dL_law_527 : decode cL_law 527 = .ok (.aload_n 0, 1) := by decide +kernel
theorem dL_law_528 : decode cL_law 528 = .ok (.iload_n 3, 1) := by decide +kernel
theorem dL_law_529 : decode cL_law 529 = .ok (.iconst 4, 1) := by decide +kernel
theorem dL_law_530 : decode cL_law 530 = .ok (.iadd, 1) := by decide +kernel
theorem dL_law_531 : decode cL_law 531 = .ok (.iaload, 1) := by decide +kernel
theorem dL_law_532 : decode cL_law 532 = .ok (.aload_n 0, 1) := by decide +kernel
theorem dL_law_533 : decode cL_law 533 = .ok (.iload_n 3, 1) := by decide +kernel
theorem dL_law_534 : decode cL_law 534 = .ok (.iconst 5, 1) := by decide +kernel
theorem dL_law_535 : decode cL_law 535 = .ok (.iadd, 1) := by decide +kernel
theorem dL_law_536 : decode cL_law 536 = .ok (.iaload, 1) := by decide +kernel
theorem dL_law_537 : decode cL_law 537 = .ok (.invokevirtual 38, 3) := by decide +kernel
theorem dL_law_540 : decode cL_law 540 = .ok (.aload_n 2, 1) := by decide +kernel
theorem dL_law_541 : decode cL_law 541 = .ok (.aload_n 0, 1) := by decide +kernel
theorem dL_law_542 : decode cL_law 542 = .ok (.iload_n 3, 1) := by decide +kernel
theorem dL_law_543 : decode cL_law 543 = .ok (.iconst 1, 1) := by decide +kernel
theorem dL_law_544 : decode cL_law 544 = .ok (.iadd, 1) := by decide +kernel
theorem dL_law_545 : decode cL_law 545 = .ok (.iaload, 1) := by decide +kernel
theorem dL_law_546 : decode cL_law 546 = .ok (.aload_n 0, 1) := by decide +kernel
theorem dL_law_547 : decode cL_law 547 = .ok (.iload_n 3, 1) := by decide +kernel
theorem dL_law_548 : decode cL_law 548 = .ok (.iconst 2, 1) := by decide +kernel
theorem dL_law_549 : decode cL_law 549 = .ok (.iadd, 1) := by decide +kernel
theorem dL_law_550 : decode cL_law 550 = .ok (.iaload, 1) := by decide +kernel
theorem dL_law_551 : decode cL_law 551 = .ok (.aload_n 0, 1) := by decide +kernel
theorem dL_law_552 : decode cL_law 552 = .ok (.iload_n 3, 1) := by decide +kernel
theorem dL_law_553 : decode cL_law 553 = .ok (.iconst 3, 1) := by decide +kernel
theorem dL_law_554 : decode cL_law 554 = .ok (.iadd, 1) := by decide +kernel
theorem dL_law_555 : decode cL_law 555 = .ok (.iaload, 1) := by decide +kernel
theorem dL_law_556 : decode cL_law 556 = .ok (.aload_n 0, 1) := by decide +kernel
theorem dL_law_557 : decode cL_law 557 = .ok (.iload_n 3, 1) := by decide +kernel
theorem dL_law_558 : decode cL_law 558 = .ok (.iconst 4, 1) := by decide +kernel
theorem dL_law_559 : decode cL_law 559 = .ok (.iadd, 1) := by decide +kernel
theorem dL_law_560 : decode cL_law 560 = .ok (.iaload, 1) := by decide +kernel
theorem dL_law_561 : decode cL_law 561 = .ok (.aload_n 0, 1) := by decide +kernel
theorem dL_law_562 : decode cL_law 562 = .ok (.iload_n 3, 1) := by decide +kernel
theorem dL_law_563 : decode cL_law 563 = .ok (.iconst 5, 1) := by decide +kernel
theorem dL_law_564 : decode cL_law 564 = .ok (.iadd, 1) := by decide +kernel
theorem dL_law_565 : decode cL_law 565 = .ok (.iaload, 1) := by decide +kernel
theorem dL_law_566 : decode cL_law 566 = .ok (.invokevirtual 42, 3) := by decide +kernel
theorem dL_law_569 : decode cL_law 569 = .ok (.if_icmp .eq 620, 3) := by decide +kernel
theorem dL_law_572 : decode cL_law 572 = .ok (.iconst 0, 1) := by decide +kernel
theorem dL_law_573 : decode cL_law 573 = .ok (.ireturn, 1) := by decide +kernel
theorem dL_law_574 : decode cL_law 574 = .ok (.aload_n 1, 1) := by decide +kernel
theorem dL_law_575 : decode cL_law 575 = .ok (.aload_n 0, 1) := by decide +kernel
theorem dL_law_576 : decode cL_law 576 = .ok (.iload_n 3, 1) := by decide +kernel
theorem dL_law_577 : decode cL_law 577 = .ok (.iconst 1, 1) := by decide +kernel
theorem dL_law_578 : decode cL_law 578 = .ok (.iadd, 1) := by decide +kernel
theorem dL_law_579 : decode cL_law 579 = .ok (.iaload, 1) := by decide +kernel
theorem dL_law_580 : decode cL_law 580 = .ok (.aload_n 0, 1) := by decide +kernel
theorem dL_law_581 : decode cL_law 581 = .ok (.iload_n 3, 1) := by decide +kernel
theorem dL_law_582 : decode cL_law 582 = .ok (.iconst 2, 1) := by decide +kernel
theorem dL_law_583 : decode cL_law 583 = .ok (.iadd, 1) := by decide +kernel
theorem dL_law_584 : decode cL_law 584 = .ok (.iaload, 1) := by decide +kernel
theorem dL_law_585 : decode cL_law 585 = .ok (.invokevirtual 43, 3) := by decide +kernel
theorem dL_law_588 : decode cL_law 588 = .ok (.aload_n 2, 1) := by decide +kernel
theorem dL_law_589 : decode cL_law 589 = .ok (.aload_n 0, 1) := by decide +kernel
theorem dL_law_590 : decode cL_law 590 = .ok (.iload_n 3, 1) := by decide +kernel
theorem dL_law_591 : decode cL_law 591 = .ok (.iconst 1, 1) := by decide +kernel
theorem dL_law_592 : decode cL_law 592 = .ok (.iadd, 1) := by decide +kernel
theorem dL_law_593 : decode cL_law 593 = .ok (.iaload, 1) := by decide +kernel
theorem dL_law_594 : decode cL_law 594 = .ok (.aload_n 0, 1) := by decide +kernel
theorem dL_law_595 : decode cL_law 595 = .ok (.iload_n 3, 1) := by decide +kernel
theorem dL_law_596 : decode cL_law 596 = .ok (.iconst 2, 1) := by decide +kernel
theorem dL_law_597 : decode cL_law 597 = .ok (.iadd, 1) := by decide +kernel
theorem dL_law_598 : decode cL_law 598 = .ok (.iaload, 1) := by decide +kernel
theorem dL_law_599 : decode cL_law 599 = .ok (.invokevirtual 47, 3) := by decide +kernel
theorem dL_law_602 : decode cL_law 602 = .ok (.if_icmp .eq 587, 3) := by decide +kernel
theorem dL_law_605 : decode cL_law 605 = .ok (.iconst 0, 1) := by decide +kernel
theorem dL_law_606 : decode cL_law 606 = .ok (.ireturn, 1) := by decide +kernel
theorem dL_law_607 : decode cL_law 607 = .ok (.aload_n 1, 1) := by decide +kernel
theorem dL_law_608 : decode cL_law 608 = .ok (.invokevirtual 48, 3) := by decide +kernel
theorem dL_law_611 : decode cL_law 611 = .ok (.aload_n 2, 1) := by decide +kernel
theorem dL_law_612 : decode cL_law 612 = .ok (.invokevirtual 52, 3) := by decide +kernel
theorem dL_law_615 : decode cL_law 615 = .ok (.if_icmp .eq 574, 3) := by decide +kernel
theorem dL_law_618 : decode cL_law 618 = .ok (.iconst 0, 1) := by decide +kernel
theorem dL_law_619 : decode cL_law 619 = .ok (.ireturn, 1) := by decide +kernel
theorem dL_law_620 : decode cL_law 620 = .ok (.aload_n 1, 1) := by decide +kernel
theorem dL_law_621 : decode cL_law 621 = .ok (.aload_n 0, 1) := by decide +kernel
theorem dL_law_622 : decode cL_law 622 = .ok (.iload_n 3, 1) := by decide +kernel
theorem dL_law_623 : decode cL_law 623 = .ok (.iconst 1, 1) := by decide +kernel
theorem dL_law_624 : decode cL_law 624 = .ok (.iadd, 1) := by decide +kernel
theorem dL_law_625 : decode cL_law 625 = .ok (.iaload, 1) := by decide +kernel
theorem dL_law_626 : decode cL_law 626 = .ok (.i2l, 1) := by decide +kernel
theorem dL_law_627 : decode cL_law 627 = .ok (.bipush 32, 2) := by decide +kernel
theorem dL_law_629 : decode cL_law 629 = .ok (.lshl, 1) := by decide +kernel
theorem dL_law_630 : decode cL_law 630 = .ok (.aload_n 0, 1) := by decide +kernel
theorem dL_law_631 : decode cL_law 631 = .ok (.iload_n 3, 1) := by decide +kernel
theorem dL_law_632 : decode cL_law 632 = .ok (.iconst 2, 1) := by decide +kernel
theorem dL_law_633 : decode cL_law 633 = .ok (.iadd, 1) := by decide +kernel
theorem dL_law_634 : decode cL_law 634 = .ok (.iaload, 1) := by decide +kernel
theorem dL_law_635 : decode cL_law 635 = .ok (.i2l, 1) := by decide +kernel
theorem dL_law_636 : decode cL_law 636 = .ok (.ldc2_w 13, 3) := by decide +kernel
theorem dL_law_639 : decode cL_law 639 = .ok (.land, 1) := by decide +kernel
theorem dL_law_640 : decode cL_law 640 = .ok (.lor, 1) := by decide +kernel
theorem dL_law_641 : decode cL_law 641 = .ok (.aload_n 0, 1) := by decide +kernel
theorem dL_law_642 : decode cL_law 642 = .ok (.iload_n 3, 1) := by decide +kernel
theorem dL_law_643 : decode cL_law 643 = .ok (.iconst 3, 1) := by decide +kernel
theorem dL_law_644 : decode cL_law 644 = .ok (.iadd, 1) := by decide +kernel
theorem dL_law_645 : decode cL_law 645 = .ok (.iaload, 1) := by decide +kernel
theorem dL_law_646 : decode cL_law 646 = .ok (.invokevirtual 53, 3) := by decide +kernel
theorem dL_law_649 : decode cL_law 649 = .ok (.aload_n 2, 1) := by decide +kernel
theorem dL_law_650 : decode cL_law 650 = .ok (.aload_n 0, 1) := by decide +kernel
theorem dL_law_651 : decode cL_law 651 = .ok (.iload_n 3, 1) := by decide +kernel
theorem dL_law_652 : decode cL_law 652 = .ok (.iconst 1, 1) := by decide +kernel
theorem dL_law_653 : decode cL_law 653 = .ok (.iadd, 1) := by decide +kernel
theorem dL_law_654 : decode cL_law 654 = .ok (.iaload, 1) := by decide +kernel
theorem dL_law_655 : decode cL_law 655 = .ok (.i2l, 1) := by decide +kernel
theorem dL_law_656 : decode cL_law 656 = .ok (.bipush 32, 2) := by decide +kernel
theorem dL_law_658 : decode cL_law 658 = .ok (.lshl, 1) := by decide +kernel
theorem dL_law_659 : decode cL_law 659 = .ok (.aload_n 0, 1) := by decide +kernel
theorem dL_law_660 : decode cL_law 660 = .ok (.iload_n 3, 1) := by decide +kernel
theorem dL_law_661 : decode cL_law 661 = .ok (.iconst 2, 1) := by decide +kernel
theorem dL_law_662 : decode cL_law 662 = .ok (.iadd, 1) := by decide +kernel
theorem dL_law_663 : decode cL_law 663 = .ok (.iaload, 1) := by decide +kernel
theorem dL_law_664 : decode cL_law 664 = .ok (.i2l, 1) := by decide +kernel
theorem dL_law_665 : decode cL_law 665 = .ok (.ldc2_w 13, 3) := by decide +kernel
theorem dL_law_668 : decode cL_law 668 = .ok (.land, 1) := by decide +kernel
theorem dL_law_669 : decode cL_law 669 = .ok (.lor, 1) := by decide +kernel
theorem dL_law_670 : decode cL_law 670 = .ok (.aload_n 0, 1) := by decide +kernel
theorem dL_law_671 : decode cL_law 671 = .ok (.iload_n 3, 1) := by decide +kernel
theorem dL_law_672 : decode cL_law 672 = .ok (.iconst 3, 1) := by decide +kernel
theorem dL_law_673 : decode cL_law 673 = .ok (.iadd, 1) := by decide +kernel
theorem dL_law_674 : decode cL_law 674 = .ok (.iaload, 1) := by decide +kernel
theorem dL_law_675 : decode cL_law 675 = .ok (.invokevirtual 57, 3) := by decide +kernel
theorem dL_law_678 : decode cL_law 678 = .ok (.if_icmp .eq 511, 3) := by decide +kernel
theorem dL_law_681 : decode cL_law 681 = .ok (.iconst 0, 1) := by decide +kernel
theorem dL_law_682 : decode cL_law 682 = .ok (.ireturn, 1) := by decide +kernel
theorem dL_law_683 : decode cL_law 683 = .ok (.aload_n 1, 1) := by decide +kernel
theorem dL_law_684 : decode cL_law 684 = .ok (.invokevirtual 58, 3) := by decide +kernel
theorem dL_law_687 : decode cL_law 687 = .ok (.aload_n 2, 1) := by decide +kernel
theorem dL_law_688 : decode cL_law 688 = .ok (.invokevirtual 61, 3) := by decide +kernel
theorem dL_law_691 : decode cL_law 691 = .ok (.if_icmp .eq 498, 3) := by decide +kernel
theorem dL_law_694 : decode cL_law 694 = .ok (.iconst 0, 1) := by decide +kernel
theorem dL_law_695 : decode cL_law 695 = .ok (.ireturn, 1) := by decide +kernel
theorem dL_law_696 : decode cL_law 696 = .ok (.aload_n 1, 1) := by decide +kernel
theorem dL_law_697 : decode cL_law 697 = .ok (.aload_n 0, 1) := by decide +kernel
theorem dL_law_698 : decode cL_law 698 = .ok (.iload_n 3, 1) := by decide +kernel
theorem dL_law_699 : decode cL_law 699 = .ok (.iconst 1, 1) := by decide +kernel
theorem dL_law_700 : decode cL_law 700 = .ok (.iadd, 1) := by decide +kernel
theorem dL_law_701 : decode cL_law 701 = .ok (.iaload, 1) := by decide +kernel
theorem dL_law_702 : decode cL_law 702 = .ok (.invokevirtual 62, 3) := by decide +kernel
theorem dL_law_705 : decode cL_law 705 = .ok (.aload_n 2, 1) := by decide +kernel
theorem dL_law_706 : decode cL_law 706 = .ok (.aload_n 0, 1) := by decide +kernel
theorem dL_law_707 : decode cL_law 707 = .ok (.iload_n 3, 1) := by decide +kernel
theorem dL_law_708 : decode cL_law 708 = .ok (.iconst 1, 1) := by decide +kernel
theorem dL_law_709 : decode cL_law 709 = .ok (.iadd, 1) := by decide +kernel
theorem dL_law_710 : decode cL_law 710 = .ok (.iaload, 1) := by decide +kernel
theorem dL_law_711 : decode cL_law 711 = .ok (.invokevirtual 66, 3) := by decide +kernel
theorem dL_law_714 : decode cL_law 714 = .ok (.if_icmp .eq 475, 3) := by decide +kernel
theorem dL_law_717 : decode cL_law 717 = .ok (.iconst 0, 1) := by decide +kernel
theorem dL_law_718 : decode cL_law 718 = .ok (.ireturn, 1) := by decide +kernel
theorem dL_law_719 : decode cL_law 719 = .ok (.aload_n 1, 1) := by decide +kernel
theorem dL_law_720 : decode cL_law 720 = .ok (.invokevirtual 67, 3) := by decide +kernel
theorem dL_law_723 : decode cL_law 723 = .ok (.aload_n 2, 1) := by decide +kernel
theorem dL_law_724 : decode cL_law 724 = .ok (.invokevirtual 70, 3) := by decide +kernel
theorem dL_law_727 : decode cL_law 727 = .ok (.if_icmp .eq 462, 3) := by decide +kernel
theorem dL_law_730 : decode cL_law 730 = .ok (.iconst 0, 1) := by decide +kernel
theorem dL_law_731 : decode cL_law 731 = .ok (.ireturn, 1) := by decide +kernel
theorem dL_law_732 : decode cL_law 732 = .ok (.aload_n 1, 1) := by decide +kernel
theorem dL_law_733 : decode cL_law 733 = .ok (.invokevirtual 71, 3) := by decide +kernel
theorem dL_law_736 : decode cL_law 736 = .ok (.aload_n 2, 1) := by decide +kernel
theorem dL_law_737 : decode cL_law 737 = .ok (.invokevirtual 74, 3) := by decide +kernel
theorem dL_law_740 : decode cL_law 740 = .ok (.if_icmp .eq 449, 3) := by decide +kernel
theorem dL_law_743 : decode cL_law 743 = .ok (.iconst 0, 1) := by decide +kernel
theorem dL_law_744 : decode cL_law 744 = .ok (.ireturn, 1) := by decide +kernel
theorem dL_law_745 : decode cL_law 745 = .ok (.aload_n 1, 1) := by decide +kernel
theorem dL_law_746 : decode cL_law 746 = .ok (.aload_n 0, 1) := by decide +kernel
theorem dL_law_747 : decode cL_law 747 = .ok (.iload_n 3, 1) := by decide +kernel
theorem dL_law_748 : decode cL_law 748 = .ok (.iconst 1, 1) := by decide +kernel
theorem dL_law_749 : decode cL_law 749 = .ok (.iadd, 1) := by decide +kernel
theorem dL_law_750 : decode cL_law 750 = .ok (.iaload, 1) := by decide +kernel
theorem dL_law_751 : decode cL_law 751 = .ok (.i2l, 1) := by decide +kernel
theorem dL_law_752 : decode cL_law 752 = .ok (.bipush 32, 2) := by decide +kernel
theorem dL_law_754 : decode cL_law 754 = .ok (.lshl, 1) := by decide +kernel
theorem dL_law_755 : decode cL_law 755 = .ok (.aload_n 0, 1) := by decide +kernel
theorem dL_law_756 : decode cL_law 756 = .ok (.iload_n 3, 1) := by decide +kernel
theorem dL_law_757 : decode cL_law 757 = .ok (.iconst 2, 1) := by decide +kernel
theorem dL_law_758 : decode cL_law 758 = .ok (.iadd, 1) := by decide +kernel
theorem dL_law_759 : decode cL_law 759 = .ok (.iaload, 1) := by decide +kernel
theorem dL_law_760 : decode cL_law 760 = .ok (.i2l, 1) := by decide +kernel
theorem dL_law_761 : decode cL_law 761 = .ok (.ldc2_w 13, 3) := by decide +kernel
theorem dL_law_764 : decode cL_law 764 = .ok (.land, 1) := by decide +kernel
theorem dL_law_765 : decode cL_law 765 = .ok (.lor, 1) := by decide +kernel
theorem dL_law_766 : decode cL_law 766 = .ok (.aload_n 0, 1) := by decide +kernel
theorem dL_law_767 : decode cL_law 767 = .ok (.iload_n 3, 1) := by decide +kernel
theorem dL_law_768 : decode cL_law 768 = .ok (.iconst 3, 1) := by decide +kernel
theorem dL_law_769 : decode cL_law 769 = .ok (.iadd, 1) := by decide +kernel
theorem dL_law_770 : decode cL_law 770 = .ok (.iaload, 1) := by decide +kernel
theorem dL_law_771 : decode cL_law 771 = .ok (.invokevirtual 75, 3) := by decide +kernel
theorem dL_law_774 : decode cL_law 774 = .ok (.aload_n 2, 1) := by decide +kernel
theorem dL_law_775 : decode cL_law 775 = .ok (.aload_n 0, 1) := by decide +kernel
theorem dL_law_776 : decode cL_law 776 = .ok (.iload_n 3, 1) := by decide +kernel
theorem dL_law_777 : decode cL_law 777 = .ok (.iconst 1, 1) := by decide +kernel
theorem dL_law_778 : decode cL_law 778 = .ok (.iadd, 1) := by decide +kernel
theorem dL_law_779 : decode cL_law 779 = .ok (.iaload, 1) := by decide +kernel
theorem dL_law_780 : decode cL_law 780 = .ok (.i2l, 1) := by decide +kernel
theorem dL_law_781 : decode cL_law 781 = .ok (.bipush 32, 2) := by decide +kernel
theorem dL_law_783 : decode cL_law 783 = .ok (.lshl, 1) := by decide +kernel
theorem dL_law_784 : decode cL_law 784 = .ok (.aload_n 0, 1) := by decide +kernel
theorem dL_law_785 : decode cL_law 785 = .ok (.iload_n 3, 1) := by decide +kernel
theorem dL_law_786 : decode cL_law 786 = .ok (.iconst 2, 1) := by decide +kernel
theorem dL_law_787 : decode cL_law 787 = .ok (.iadd, 1) := by decide +kernel
theorem dL_law_788 : decode cL_law 788 = .ok (.iaload, 1) := by decide +kernel
theorem dL_law_789 : decode cL_law 789 = .ok (.i2l, 1) := by decide +kernel
theorem dL_law_790 : decode cL_law 790 = .ok (.ldc2_w 13, 3) := by decide +kernel
theorem dL_law_793 : decode cL_law 793 = .ok (.land, 1) := by decide +kernel
theorem dL_law_794 : decode cL_law 794 = .ok (.lor, 1) := by decide +kernel
theorem dL_law_795 : decode cL_law 795 = .ok (.aload_n 0, 1) := by decide +kernel
theorem dL_law_796 : decode cL_law 796 = .ok (.iload_n 3, 1) := by decide +kernel
theorem dL_law_797 : decode cL_law 797 = .ok (.iconst 3, 1) := by decide +kernel
theorem dL_law_798 : decode cL_law 798 = .ok (.iadd, 1) := by decide +kernel
theorem dL_law_799 : decode cL_law 799 = .ok (.iaload, 1) := by decide +kernel
theorem dL_law_800 : decode cL_law 800 = .ok (.invokevirtual 78, 3) := by decide +kernel
theorem dL_law_803 : decode cL_law 803 = .ok (.if_icmp .eq 386, 3) := by decide +kernel
theorem dL_law_806 : decode cL_law 806 = .ok (.iconst 0, 1) := by decide +kernel
theorem dL_law_807 : decode cL_law 807 = .ok (.ireturn, 1) := by decide +kernel
theorem dL_law_808 : decode cL_law 808 = .ok (.aload_n 1, 1) := by decide +kernel
theorem dL_law_809 : decode cL_law 809 = .ok (.aload_n 0, 1) := by decide +kernel
theorem dL_law_810 : decode cL_law 810 = .ok (.iload_n 3, 1) := by decide +kernel
theorem dL_law_811 : decode cL_law 811 = .ok (.iconst 1, 1) := by decide +kernel
theorem dL_law_812 : decode cL_law 812 = .ok (.iadd, 1) := by decide +kernel
theorem dL_law_813 : decode cL_law 813 = .ok (.iaload, 1) := by decide +kernel
theorem dL_law_814 : decode cL_law 814 = .ok (.invokevirtual 79, 3) := by decide +kernel
theorem dL_law_817 : decode cL_law 817 = .ok (.aload_n 2, 1) := by decide +kernel
theorem dL_law_818 : decode cL_law 818 = .ok (.aload_n 0, 1) := by decide +kernel
theorem dL_law_819 : decode cL_law 819 = .ok (.iload_n 3, 1) := by decide +kernel
theorem dL_law_820 : decode cL_law 820 = .ok (.iconst 1, 1) := by decide +kernel
theorem dL_law_821 : decode cL_law 821 = .ok (.iadd, 1) := by decide +kernel
theorem dL_law_822 : decode cL_law 822 = .ok (.iaload, 1) := by decide +kernel
theorem dL_law_823 : decode cL_law 823 = .ok (.invokevirtual 82, 3) := by decide +kernel
theorem dL_law_826 : decode cL_law 826 = .ok (.if_icmp .eq 363, 3) := by decide +kernel
theorem dL_law_829 : decode cL_law 829 = .ok (.iconst 0, 1) := by decide +kernel
theorem dL_law_830 : decode cL_law 830 = .ok (.ireturn, 1) := by decide +kernel
theorem dL_law_831 : decode cL_law 831 = .ok (.aload_n 1, 1) := by decide +kernel
theorem dL_law_832 : decode cL_law 832 = .ok (.aload_n 0, 1) := by decide +kernel
theorem dL_law_833 : decode cL_law 833 = .ok (.iload_n 3, 1) := by decide +kernel
theorem dL_law_834 : decode cL_law 834 = .ok (.iconst 1, 1) := by decide +kernel
theorem dL_law_835 : decode cL_law 835 = .ok (.iadd, 1) := by decide +kernel
theorem dL_law_836 : decode cL_law 836 = .ok (.iaload, 1) := by decide +kernel
theorem dL_law_837 : decode cL_law 837 = .ok (.aload_n 0, 1) := by decide +kernel
theorem dL_law_838 : decode cL_law 838 = .ok (.iload_n 3, 1) := by decide +kernel
theorem dL_law_839 : decode cL_law 839 = .ok (.iconst 2, 1) := by decide +kernel
theorem dL_law_840 : decode cL_law 840 = .ok (.iadd, 1) := by decide +kernel
theorem dL_law_841 : decode cL_law 841 = .ok (.iaload, 1) := by decide +kernel
theorem dL_law_842 : decode cL_law 842 = .ok (.invokevirtual 83, 3) := by decide +kernel
theorem dL_law_845 : decode cL_law 845 = .ok (.aload_n 2, 1) := by decide +kernel
theorem dL_law_846 : decode cL_law 846 = .ok (.aload_n 0, 1) := by decide +kernel
theorem dL_law_847 : decode cL_law 847 = .ok (.iload_n 3, 1) := by decide +kernel
theorem dL_law_848 : decode cL_law 848 = .ok (.iconst 1, 1) := by decide +kernel
theorem dL_law_849 : decode cL_law 849 = .ok (.iadd, 1) := by decide +kernel
theorem dL_law_850 : decode cL_law 850 = .ok (.iaload, 1) := by decide +kernel
theorem dL_law_851 : decode cL_law 851 = .ok (.aload_n 0, 1) := by decide +kernel
theorem dL_law_852 : decode cL_law 852 = .ok (.iload_n 3, 1) := by decide +kernel
theorem dL_law_853 : decode cL_law 853 = .ok (.iconst 2, 1) := by decide +kernel
theorem dL_law_854 : decode cL_law 854 = .ok (.iadd, 1) := by decide +kernel
theorem dL_law_855 : decode cL_law 855 = .ok (.iaload, 1) := by decide +kernel
theorem dL_law_856 : decode cL_law 856 = .ok (.invokevirtual 86, 3) := by decide +kernel
theorem dL_law_859 : decode cL_law 859 = .ok (.if_icmp .eq 330, 3) := by decide +kernel
theorem dL_law_862 : decode cL_law 862 = .ok (.iconst 0, 1) := by decide +kernel
theorem dL_law_863 : decode cL_law 863 = .ok (.ireturn, 1) := by decide +kernel
theorem dL_law_864 : decode cL_law 864 = .ok (.aload_n 1, 1) := by decide +kernel
theorem dL_law_865 : decode cL_law 865 = .ok (.aload_n 0, 1) := by decide +kernel
theorem dL_law_866 : decode cL_law 866 = .ok (.iload_n 3, 1) := by decide +kernel
theorem dL_law_867 : decode cL_law 867 = .ok (.iconst 1, 1) := by decide +kernel
theorem dL_law_868 : decode cL_law 868 = .ok (.iadd, 1) := by decide +kernel
theorem dL_law_869 : decode cL_law 869 = .ok (.iaload, 1) := by decide +kernel
theorem dL_law_870 : decode cL_law 870 = .ok (.invokevirtual 87, 3) := by decide +kernel
theorem dL_law_873 : decode cL_law 873 = .ok (.aload_n 2, 1) := by decide +kernel
theorem dL_law_874 : decode cL_law 874 = .ok (.aload_n 0, 1) := by decide +kernel
theorem dL_law_875 : decode cL_law 875 = .ok (.iload_n 3, 1) := by decide +kernel
theorem dL_law_876 : decode cL_law 876 = .ok (.iconst 1, 1) := by decide +kernel
theorem dL_law_877 : decode cL_law 877 = .ok (.iadd, 1) := by decide +kernel
theorem dL_law_878 : decode cL_law 878 = .ok (.iaload, 1) := by decide +kernel
theorem dL_law_879 : decode cL_law 879 = .ok (.invokevirtual 90, 3) := by decide +kernel
theorem dL_law_882 : decode cL_law 882 = .ok (.if_icmp .eq 307, 3) := by decide +kernel
theorem dL_law_885 : decode cL_law 885 = .ok (.iconst 0, 1) := by decide +kernel
theorem dL_law_886 : decode cL_law 886 = .ok (.ireturn, 1) := by decide +kernel
theorem dL_law_887 : decode cL_law 887 = .ok (.aload_n 1, 1) := by decide +kernel
theorem dL_law_888 : decode cL_law 888 = .ok (.aload_n 0, 1) := by decide +kernel
theorem dL_law_889 : decode cL_law 889 = .ok (.iload_n 3, 1) := by decide +kernel
theorem dL_law_890 : decode cL_law 890 = .ok (.iconst 1, 1) := by decide +kernel
theorem dL_law_891 : decode cL_law 891 = .ok (.iadd, 1) := by decide +kernel
theorem dL_law_892 : decode cL_law 892 = .ok (.iaload, 1) := by decide +kernel
theorem dL_law_893 : decode cL_law 893 = .ok (.invokevirtual 91, 3) := by decide +kernel
theorem dL_law_896 : decode cL_law 896 = .ok (.aload_n 2, 1) := by decide +kernel
theorem dL_law_897 : decode cL_law 897 = .ok (.aload_n 0, 1) := by decide +kernel
theorem dL_law_898 : decode cL_law 898 = .ok (.iload_n 3, 1) := by decide +kernel
theorem dL_law_899 : decode cL_law 899 = .ok (.iconst 1, 1) := by decide +kernel
theorem dL_law_900 : decode cL_law 900 = .ok (.iadd, 1) := by decide +kernel
theorem dL_law_901 : decode cL_law 901 = .ok (.iaload, 1) := by decide +kernel
theorem dL_law_902 : decode cL_law 902 = .ok (.invokevirtual 94, 3) := by decide +kernel
theorem dL_law_905 : decode cL_law 905 = .ok (.if_icmp .eq 284, 3) := by decide +kernel
theorem dL_law_908 : decode cL_law 908 = .ok (.iconst 0, 1) := by decide +kernel
theorem dL_law_909 : decode cL_law 909 = .ok (.ireturn, 1) := by decide +kernel
theorem dL_law_910 : decode cL_law 910 = .ok (.aload_n 1, 1) := by decide +kernel
theorem dL_law_911 : decode cL_law 911 = .ok (.aload_n 0, 1) := by decide +kernel
theorem dL_law_912 : decode cL_law 912 = .ok (.iload_n 3, 1) := by decide +kernel
theorem dL_law_913 : decode cL_law 913 = .ok (.iconst 1, 1) := by decide +kernel
theorem dL_law_914 : decode cL_law 914 = .ok (.iadd, 1) := by decide +kernel
theorem dL_law_915 : decode cL_law 915 = .ok (.iaload, 1) := by decide +kernel
theorem dL_law_916 : decode cL_law 916 = .ok (.invokevirtual 95, 3) := by decide +kernel
theorem dL_law_919 : decode cL_law 919 = .ok (.aload_n 2, 1) := by decide +kernel
theorem dL_law_920 : decode cL_law 920 = .ok (.aload_n 0, 1) := by decide +kernel
theorem dL_law_921 : decode cL_law 921 = .ok (.iload_n 3, 1) := by decide +kernel
theorem dL_law_922 : decode cL_law 922 = .ok (.iconst 1, 1) := by decide +kernel
theorem dL_law_923 : decode cL_law 923 = .ok (.iadd, 1) := by decide +kernel
theorem dL_law_924 : decode cL_law 924 = .ok (.iaload, 1) := by decide +kernel
theorem dL_law_925 : decode cL_law 925 = .ok (.invokevirtual 99, 3) := by decide +kernel
theorem dL_law_928 : decode cL_law 928 = .ok (.lcmp, 1) := by decide +kernel
theorem dL_law_929 : decode cL_law 929 = .ok (.ifCond .eq 260, 3) := by decide +kernel
theorem dL_law_932 : decode cL_law 932 = .ok (.iconst 0, 1) := by decide +kernel
theorem dL_law_933 : decode cL_law 933 = .ok (.ireturn, 1) := by decide +kernel
theorem dL_law_934 : decode cL_law 934 = .ok (.aload_n 1, 1) := by decide +kernel
theorem dL_law_935 : decode cL_law 935 = .ok (.aload_n 0, 1) := by decide +kernel
theorem dL_law_936 : decode cL_law 936 = .ok (.iload_n 3, 1) := by decide +kernel
theorem dL_law_937 : decode cL_law 937 = .ok (.iconst 1, 1) := by decide +kernel
theorem dL_law_938 : decode cL_law 938 = .ok (.iadd, 1) := by decide +kernel
theorem dL_law_939 : decode cL_law 939 = .ok (.iaload, 1) := by decide +kernel
theorem dL_law_940 : decode cL_law 940 = .ok (.aload_n 0, 1) := by decide +kernel
theorem dL_law_941 : decode cL_law 941 = .ok (.iload_n 3, 1) := by decide +kernel
theorem dL_law_942 : decode cL_law 942 = .ok (.iconst 2, 1) := by decide +kernel
theorem dL_law_943 : decode cL_law 943 = .ok (.iadd, 1) := by decide +kernel
theorem dL_law_944 : decode cL_law 944 = .ok (.iaload, 1) := by decide +kernel
theorem dL_law_945 : decode cL_law 945 = .ok (.invokevirtual 100, 3) := by decide +kernel
theorem dL_law_948 : decode cL_law 948 = .ok (.aload_n 2, 1) := by decide +kernel
theorem dL_law_949 : decode cL_law 949 = .ok (.aload_n 0, 1) := by decide +kernel
theorem dL_law_950 : decode cL_law 950 = .ok (.iload_n 3, 1) := by decide +kernel
theorem dL_law_951 : decode cL_law 951 = .ok (.iconst 1, 1) := by decide +kernel
theorem dL_law_952 : decode cL_law 952 = .ok (.iadd, 1) := by decide +kernel
theorem dL_law_953 : decode cL_law 953 = .ok (.iaload, 1) := by decide +kernel
theorem dL_law_954 : decode cL_law 954 = .ok (.aload_n 0, 1) := by decide +kernel
theorem dL_law_955 : decode cL_law 955 = .ok (.iload_n 3, 1) := by decide +kernel
theorem dL_law_956 : decode cL_law 956 = .ok (.iconst 2, 1) := by decide +kernel
theorem dL_law_957 : decode cL_law 957 = .ok (.iadd, 1) := by decide +kernel
theorem dL_law_958 : decode cL_law 958 = .ok (.iaload, 1) := by decide +kernel
theorem dL_law_959 : decode cL_law 959 = .ok (.invokevirtual 103, 3) := by decide +kernel
theorem dL_law_962 : decode cL_law 962 = .ok (.if_icmp .eq 227, 3) := by decide +kernel
theorem dL_law_965 : decode cL_law 965 = .ok (.iconst 0, 1) := by decide +kernel
theorem dL_law_966 : decode cL_law 966 = .ok (.ireturn, 1) := by decide +kernel
theorem dL_law_967 : decode cL_law 967 = .ok (.aload_n 1, 1) := by decide +kernel
theorem dL_law_968 : decode cL_law 968 = .ok (.aload_n 0, 1) := by decide +kernel
theorem dL_law_969 : decode cL_law 969 = .ok (.iload_n 3, 1) := by decide +kernel
theorem dL_law_970 : decode cL_law 970 = .ok (.iconst 1, 1) := by decide +kernel
theorem dL_law_971 : decode cL_law 971 = .ok (.iadd, 1) := by decide +kernel
theorem dL_law_972 : decode cL_law 972 = .ok (.iaload, 1) := by decide +kernel
theorem dL_law_973 : decode cL_law 973 = .ok (.aload_n 0, 1) := by decide +kernel
theorem dL_law_974 : decode cL_law 974 = .ok (.iload_n 3, 1) := by decide +kernel
theorem dL_law_975 : decode cL_law 975 = .ok (.iconst 2, 1) := by decide +kernel
theorem dL_law_976 : decode cL_law 976 = .ok (.iadd, 1) := by decide +kernel
theorem dL_law_977 : decode cL_law 977 = .ok (.iaload, 1) := by decide +kernel
theorem dL_law_978 : decode cL_law 978 = .ok (.invokevirtual 104, 3) := by decide +kernel
theorem dL_law_981 : decode cL_law 981 = .ok (.aload_n 2, 1) := by decide +kernel
theorem dL_law_982 : decode cL_law 982 = .ok (.aload_n 0, 1) := by decide +kernel
theorem dL_law_983 : decode cL_law 983 = .ok (.iload_n 3, 1) := by decide +kernel
theorem dL_law_984 : decode cL_law 984 = .ok (.iconst 1, 1) := by decide +kernel
theorem dL_law_985 : decode cL_law 985 = .ok (.iadd, 1) := by decide +kernel
theorem dL_law_986 : decode cL_law 986 = .ok (.iaload, 1) := by decide +kernel
theorem dL_law_987 : decode cL_law 987 = .ok (.aload_n 0, 1) := by decide +kernel
theorem dL_law_988 : decode cL_law 988 = .ok (.iload_n 3, 1) := by decide +kernel
theorem dL_law_989 : decode cL_law 989 = .ok (.iconst 2, 1) := by decide +kernel
theorem dL_law_990 : decode cL_law 990 = .ok (.iadd, 1) := by decide +kernel
theorem dL_law_991 : decode cL_law 991 = .ok (.iaload, 1) := by decide +kernel
theorem dL_law_992 : decode cL_law 992 = .ok (.invokevirtual 107, 3) := by decide +kernel
theorem dL_law_995 : decode cL_law 995 = .ok (.if_icmp .eq 194, 3) := by decide +kernel
theorem dL_law_998 : decode cL_law 998 = .ok (.iconst 0, 1) := by decide +kernel
theorem dL_law_999 : decode cL_law 999 = .ok (.ireturn, 1) := by decide +kernel
theorem dL_law_1000 : decode cL_law 1000 = .ok (.aload_n 1, 1) := by decide +kernel
theorem dL_law_1001 : decode cL_law 1001 = .ok (.aload_n 0, 1) := by decide +kernel
theorem dL_law_1002 : decode cL_law 1002 = .ok (.iload_n 3, 1) := by decide +kernel
theorem dL_law_1003 : decode cL_law 1003 = .ok (.iconst 1, 1) := by decide +kernel
theorem dL_law_1004 : decode cL_law 1004 = .ok (.iadd, 1) := by decide +kernel
theorem dL_law_1005 : decode cL_law 1005 = .ok (.iaload, 1) := by decide +kernel
theorem dL_law_1006 : decode cL_law 1006 = .ok (.aload_n 0, 1) := by decide +kernel
theorem dL_law_1007 : decode cL_law 1007 = .ok (.iload_n 3, 1) := by decide +kernel
theorem dL_law_1008 : decode cL_law 1008 = .ok (.iconst 2, 1) := by decide +kernel
theorem dL_law_1009 : decode cL_law 1009 = .ok (.iadd, 1) := by decide +kernel
theorem dL_law_1010 : decode cL_law 1010 = .ok (.iaload, 1) := by decide +kernel
theorem dL_law_1011 : decode cL_law 1011 = .ok (.invokevirtual 108, 3) := by decide +kernel
theorem dL_law_1014 : decode cL_law 1014 = .ok (.aload_n 2, 1) := by decide +kernel
theorem dL_law_1015 : decode cL_law 1015 = .ok (.aload_n 0, 1) := by decide +kernel
theorem dL_law_1016 : decode cL_law 1016 = .ok (.iload_n 3, 1) := by decide +kernel
theorem dL_law_1017 : decode cL_law 1017 = .ok (.iconst 1, 1) := by decide +kernel
theorem dL_law_1018 : decode cL_law 1018 = .ok (.iadd, 1) := by decide +kernel
theorem dL_law_1019 : decode cL_law 1019 = .ok (.iaload, 1) := by decide +kernel
theorem dL_law_1020 : decode cL_law 1020 = .ok (.aload_n 0, 1) := by decide +kernel
theorem dL_law_1021 : decode cL_law 1021 = .ok (.iload_n 3, 1) := by decide +kernel
theorem dL_law_1022 : decode cL_law 1022 = .ok (.iconst 2, 1) := by decide +kernel
theorem dL_law_1023 : decode cL_law 1023 = .ok (.iadd, 1) := by decide +kernel
theorem dL_law_1024 : decode cL_law 1024 = .ok (.iaload, 1) := by decide +kernel
theorem dL_law_1025 : decode cL_law 1025 = .ok (.invokevirtual 111, 3) := by decide +kernel
theorem dL_law_1028 : decode cL_law 1028 = .ok (.if_icmp .eq 161, 3) := by decide +kernel
theorem dL_law_1031 : decode cL_law 1031 = .ok (.iconst 0, 1) := by decide +kernel
theorem dL_law_1032 : decode cL_law 1032 = .ok (.ireturn, 1) := by decide +kernel
theorem dL_law_1033 : decode cL_law 1033 = .ok (.aload_n 1, 1) := by decide +kernel
theorem dL_law_1034 : decode cL_law 1034 = .ok (.aload_n 0, 1) := by decide +kernel
theorem dL_law_1035 : decode cL_law 1035 = .ok (.iload_n 3, 1) := by decide +kernel
theorem dL_law_1036 : decode cL_law 1036 = .ok (.iconst 1, 1) := by decide +kernel
theorem dL_law_1037 : decode cL_law 1037 = .ok (.iadd, 1) := by decide +kernel
theorem dL_law_1038 : decode cL_law 1038 = .ok (.iaload, 1) := by decide +kernel
theorem dL_law_1039 : decode cL_law 1039 = .ok (.aload_n 0, 1) := by decide +kernel
theorem dL_law_1040 : decode cL_law 1040 = .ok (.iload_n 3, 1) := by decide +kernel
theorem dL_law_1041 : decode cL_law 1041 = .ok (.iconst 2, 1) := by decide +kernel
theorem dL_law_1042 : decode cL_law 1042 = .ok (.iadd, 1) := by decide +kernel
theorem dL_law_1043 : decode cL_law 1043 = .ok (.iaload, 1) := by decide +kernel
theorem dL_law_1044 : decode cL_law 1044 = .ok (.invokevirtual 112, 3) := by decide +kernel
theorem dL_law_1047 : decode cL_law 1047 = .ok (.aload_n 2, 1) := by decide +kernel
theorem dL_law_1048 : decode cL_law 1048 = .ok (.aload_n 0, 1) := by decide +kernel
theorem dL_law_1049 : decode cL_law 1049 = .ok (.iload_n 3, 1) := by decide +kernel
theorem dL_law_1050 : decode cL_law 1050 = .ok (.iconst 1, 1) := by decide +kernel
theorem dL_law_1051 : decode cL_law 1051 = .ok (.iadd, 1) := by decide +kernel
theorem dL_law_1052 : decode cL_law 1052 = .ok (.iaload, 1) := by decide +kernel
theorem dL_law_1053 : decode cL_law 1053 = .ok (.aload_n 0, 1) := by decide +kernel
theorem dL_law_1054 : decode cL_law 1054 = .ok (.iload_n 3, 1) := by decide +kernel
theorem dL_law_1055 : decode cL_law 1055 = .ok (.iconst 2, 1) := by decide +kernel
theorem dL_law_1056 : decode cL_law 1056 = .ok (.iadd, 1) := by decide +kernel
theorem dL_law_1057 : decode cL_law 1057 = .ok (.iaload, 1) := by decide +kernel
theorem dL_law_1058 : decode cL_law 1058 = .ok (.invokevirtual 116, 3) := by decide +kernel
theorem dL_law_1061 : decode cL_law 1061 = .ok (.lcmp, 1) := by decide +kernel
theorem dL_law_1062 : decode cL_law 1062 = .ok (.ifCond .eq 127, 3) := by decide +kernel
theorem dL_law_1065 : decode cL_law 1065 = .ok (.iconst 0, 1) := by decide +kernel
theorem dL_law_1066 : decode cL_law 1066 = .ok (.ireturn, 1) := by decide +kernel
theorem dL_law_1067 : decode cL_law 1067 = .ok (.aload_n 1, 1) := by decide +kernel
theorem dL_law_1068 : decode cL_law 1068 = .ok (.aload_n 0, 1) := by decide +kernel
theorem dL_law_1069 : decode cL_law 1069 = .ok (.iload_n 3, 1) := by decide +kernel
theorem dL_law_1070 : decode cL_law 1070 = .ok (.iconst 1, 1) := by decide +kernel
theorem dL_law_1071 : decode cL_law 1071 = .ok (.iadd, 1) := by decide +kernel
theorem dL_law_1072 : decode cL_law 1072 = .ok (.iaload, 1) := by decide +kernel
theorem dL_law_1073 : decode cL_law 1073 = .ok (.aload_n 0, 1) := by decide +kernel
theorem dL_law_1074 : decode cL_law 1074 = .ok (.iload_n 3, 1) := by decide +kernel
theorem dL_law_1075 : decode cL_law 1075 = .ok (.iconst 2, 1) := by decide +kernel
theorem dL_law_1076 : decode cL_law 1076 = .ok (.iadd, 1) := by decide +kernel
theorem dL_law_1077 : decode cL_law 1077 = .ok (.iaload, 1) := by decide +kernel
theorem dL_law_1078 : decode cL_law 1078 = .ok (.aload_n 0, 1) := by decide +kernel
theorem dL_law_1079 : decode cL_law 1079 = .ok (.iload_n 3, 1) := by decide +kernel
theorem dL_law_1080 : decode cL_law 1080 = .ok (.iconst 3, 1) := by decide +kernel
theorem dL_law_1081 : decode cL_law 1081 = .ok (.iadd, 1) := by decide +kernel
theorem dL_law_1082 : decode cL_law 1082 = .ok (.iaload, 1) := by decide +kernel
theorem dL_law_1083 : decode cL_law 1083 = .ok (.aload_n 0, 1) := by decide +kernel
theorem dL_law_1084 : decode cL_law 1084 = .ok (.iload_n 3, 1) := by decide +kernel
theorem dL_law_1085 : decode cL_law 1085 = .ok (.iconst 4, 1) := by decide +kernel
theorem dL_law_1086 : decode cL_law 1086 = .ok (.iadd, 1) := by decide +kernel
theorem dL_law_1087 : decode cL_law 1087 = .ok (.iaload, 1) := by decide +kernel
theorem dL_law_1088 : decode cL_law 1088 = .ok (.invokevirtual 117, 3) := by decide +kernel
theorem dL_law_1091 : decode cL_law 1091 = .ok (.aload_n 2, 1) := by decide +kernel
theorem dL_law_1092 : decode cL_law 1092 = .ok (.aload_n 0, 1) := by decide +kernel
theorem dL_law_1093 : decode cL_law 1093 = .ok (.iload_n 3, 1) := by decide +kernel
theorem dL_law_1094 : decode cL_law 1094 = .ok (.iconst 1, 1) := by decide +kernel
theorem dL_law_1095 : decode cL_law 1095 = .ok (.iadd, 1) := by decide +kernel
theorem dL_law_1096 : decode cL_law 1096 = .ok (.iaload, 1) := by decide +kernel
theorem dL_law_1097 : decode cL_law 1097 = .ok (.aload_n 0, 1) := by decide +kernel
theorem dL_law_1098 : decode cL_law 1098 = .ok (.iload_n 3, 1) := by decide +kernel
theorem dL_law_1099 : decode cL_law 1099 = .ok (.iconst 2, 1) := by decide +kernel
theorem dL_law_1100 : decode cL_law 1100 = .ok (.iadd, 1) := by decide +kernel
theorem dL_law_1101 : decode cL_law 1101 = .ok (.iaload, 1) := by decide +kernel
theorem dL_law_1102 : decode cL_law 1102 = .ok (.aload_n 0, 1) := by decide +kernel
theorem dL_law_1103 : decode cL_law 1103 = .ok (.iload_n 3, 1) := by decide +kernel
theorem dL_law_1104 : decode cL_law 1104 = .ok (.iconst 3, 1) := by decide +kernel
theorem dL_law_1105 : decode cL_law 1105 = .ok (.iadd, 1) := by decide +kernel
theorem dL_law_1106 : decode cL_law 1106 = .ok (.iaload, 1) := by decide +kernel
theorem dL_law_1107 : decode cL_law 1107 = .ok (.aload_n 0, 1) := by decide +kernel
theorem dL_law_1108 : decode cL_law 1108 = .ok (.iload_n 3, 1) := by decide +kernel
theorem dL_law_1109 : decode cL_law 1109 = .ok (.iconst 4, 1) := by decide +kernel
theorem dL_law_1110 : decode cL_law 1110 = .ok (.iadd, 1) := by decide +kernel
theorem dL_law_1111 : decode cL_law 1111 = .ok (.iaload, 1) := by decide +kernel
theorem dL_law_1112 : decode cL_law 1112 = .ok (.invokevirtual 121, 3) := by decide +kernel
theorem dL_law_1115 : decode cL_law 1115 = .ok (.if_icmp .eq 74, 3) := by decide +kernel
theorem dL_law_1118 : decode cL_law 1118 = .ok (.iconst 0, 1) := by decide +kernel
theorem dL_law_1119 : decode cL_law 1119 = .ok (.ireturn, 1) := by decide +kernel
theorem dL_law_1120 : decode cL_law 1120 = .ok (.aload_n 1, 1) := by decide +kernel
theorem dL_law_1121 : decode cL_law 1121 = .ok (.aload_n 0, 1) := by decide +kernel
theorem dL_law_1122 : decode cL_law 1122 = .ok (.iload_n 3, 1) := by decide +kernel
theorem dL_law_1123 : decode cL_law 1123 = .ok (.iconst 1, 1) := by decide +kernel
theorem dL_law_1124 : decode cL_law 1124 = .ok (.iadd, 1) := by decide +kernel
theorem dL_law_1125 : decode cL_law 1125 = .ok (.iaload, 1) := by decide +kernel
theorem dL_law_1126 : decode cL_law 1126 = .ok (.invokevirtual 122, 3) := by decide +kernel
theorem dL_law_1129 : decode cL_law 1129 = .ok (.aload_n 2, 1) := by decide +kernel
theorem dL_law_1130 : decode cL_law 1130 = .ok (.aload_n 0, 1) := by decide +kernel
theorem dL_law_1131 : decode cL_law 1131 = .ok (.iload_n 3, 1) := by decide +kernel
theorem dL_law_1132 : decode cL_law 1132 = .ok (.iconst 1, 1) := by decide +kernel
theorem dL_law_1133 : decode cL_law 1133 = .ok (.iadd, 1) := by decide +kernel
theorem dL_law_1134 : decode cL_law 1134 = .ok (.iaload, 1) := by decide +kernel
theorem dL_law_1135 : decode cL_law 1135 = .ok (.invokevirtual 125, 3) := by decide +kernel
theorem dL_law_1138 : decode cL_law 1138 = .ok (.if_icmp .eq 51, 3) := by decide +kernel
theorem dL_law_1141 : decode cL_law 1141 = .ok (.iconst 0, 1) := by decide +kernel
theorem dL_law_1142 : decode cL_law 1142 = .ok (.ireturn, 1) := by decide +kernel
theorem dL_law_1143 : decode cL_law 1143 = .ok (.aload_n 1, 1) := by decide +kernel
theorem dL_law_1144 : decode cL_law 1144 = .ok (.aload_n 0, 1) := by decide +kernel
theorem dL_law_1145 : decode cL_law 1145 = .ok (.iload_n 3, 1) := by decide +kernel
theorem dL_law_1146 : decode cL_law 1146 = .ok (.iconst 1, 1) := by decide +kernel
theorem dL_law_1147 : decode cL_law 1147 = .ok (.iadd, 1) := by decide +kernel
theorem dL_law_1148 : decode cL_law 1148 = .ok (.iaload, 1) := by decide +kernel
theorem dL_law_1149 : decode cL_law 1149 = .ok (.invokevirtual 126, 3) := by decide +kernel
theorem dL_law_1152 : decode cL_law 1152 = .ok (.aload_n 2, 1) := by decide +kernel
theorem dL_law_1153 : decode cL_law 1153 = .ok (.aload_n 0, 1) := by decide +kernel
theorem dL_law_1154 : decode cL_law 1154 = .ok (.iload_n 3, 1) := by decide +kernel
theorem dL_law_1155 : decode cL_law 1155 = .ok (.iconst 1, 1) := by decide +kernel
theorem dL_law_1156 : decode cL_law 1156 = .ok (.iadd, 1) := by decide +kernel
theorem dL_law_1157 : decode cL_law 1157 = .ok (.iaload, 1) := by decide +kernel
theorem dL_law_1158 : decode cL_law 1158 = .ok (.invokevirtual 129, 3) := by decide +kernel
theorem dL_law_1161 : decode cL_law 1161 = .ok (.if_icmp .eq 28, 3) := by decide +kernel
theorem dL_law_1164 : decode cL_law 1164 = .ok (.iconst 0, 1) := by decide +kernel
theorem dL_law_1165 : decode cL_law 1165 = .ok (.ireturn, 1) := by decide +kernel
theorem dL_law_1166 : decode cL_law 1166 = .ok (.aload_n 1, 1) := by decide +kernel
theorem dL_law_1167 : decode cL_law 1167 = .ok (.aload_n 0, 1) := by decide +kernel
theorem dL_law_1168 : decode cL_law 1168 = .ok (.iload_n 3, 1) := by decide +kernel
theorem dL_law_1169 : decode cL_law 1169 = .ok (.iconst 1, 1) := by decide +kernel
theorem dL_law_1170 : decode cL_law 1170 = .ok (.iadd, 1) := by decide +kernel
theorem dL_law_1171 : decode cL_law 1171 = .ok (.iaload, 1) := by decide +kernel
theorem dL_law_1172 : decode cL_law 1172 = .ok (.invokevirtual 130, 3) := by decide +kernel
theorem dL_law_1175 : decode cL_law 1175 = .ok (.aload_n 2, 1) := by decide +kernel
theorem dL_law_1176 : decode cL_law 1176 = .ok (.aload_n 0, 1) := by decide +kernel
theorem dL_law_1177 : decode cL_law 1177 = .ok (.iload_n 3, 1) := by decide +kernel
theorem dL_law_1178 : decode cL_law 1178 = .ok (.iconst 1, 1) := by decide +kernel
theorem dL_law_1179 : decode cL_law 1179 = .ok (.iadd, 1) := by decide +kernel
theorem dL_law_1180 : decode cL_law 1180 = .ok (.iaload, 1) := by decide +kernel
theorem dL_law_1181 : decode cL_law 1181 = .ok (.invokevirtual 133, 3) := by decide +kernel
theorem dL_law_1184 : decode cL_law 1184 = .ok (.if_icmp .eq 5, 3) := by decide +kernel
theorem dL_law_1187 : decode cL_law 1187 = .ok (.iconst 0, 1) := by decide +kernel
theorem dL_law_1188 : decode cL_law 1188 = .ok (.ireturn, 1) := by decide +kernel
theorem dL_law_1189 : decode cL_law 1189 = .ok (.iinc 3 6, 3) := by decide +kernel
theorem dL_law_1192 : decode cL_law 1192 = .ok (.goto (-1174), 3) := by decide +kernel
theorem dL_law_1195 : decode cL_law 1195 = .ok (.iconst 1, 1) := by decide +kernel
theorem dL_law_1196 : decode cL_law 1196 = .ok (.ireturn, 1) := by decide +kernel
end
section
theorem dX5_in_0 : decode cX5_in 0 = .ok (.lload_n 0, 1) := by decide +kernel
theorem dX5_in_1 : decode cX5_in 1 = .ok (.lload_n 2, 1) := by decide +kernel
theorem dX5_in_2 : decode cX5_in 2 = .ok (.lcmp, 1) := by decide +kernel
theorem dX5_in_3 : decode cX5_in 3 = .ok (.ifCond .lt 14, 3) := by decide +kernel
theorem dX5_in_6 : decode cX5_in 6 = .ok (.lload_n 0, 1) := by decide +kernel
theorem dX5_in_7 : decode cX5_in 7 = .ok (.lload 4, 2) := by decide +kernel
theorem dX5_in_9 : decode cX5_in 9 = .ok (.lcmp, 1) := by decide +kernel
theorem dX5_in_10 : decode cX5_in 10 = .ok (.ifCond .gt 7, 3) := by decide +kernel
theorem dX5_in_13 : decode cX5_in 13 = .ok (.iconst 1, 1) := by decide +kernel
theorem dX5_in_14 : decode cX5_in 14 = .ok (.goto 4, 3) := by decide +kernel
theorem dX5_in_17 : decode cX5_in 17 = .ok (.iconst 0, 1) := by decide +kernel
theorem dX5_in_18 : decode cX5_in 18 = .ok (.ireturn, 1) := by decide +kernel
theorem dX5_fails_0 : decode cX5_fails 0 = .ok (.aload_n 0, 1) := by decide +kernel
theorem dX5_fails_1 : decode cX5_fails 1 = .ok (.iload_n 1, 1) := by decide +kernel
theorem dX5_fails_2 : decode cX5_fails 2 = .ok (.putfield 7, 3) := by decide +kernel
theorem dX5_fails_5 : decode cX5_fails 5 = .ok (.bipush (-30), 2) := by decide +kernel
theorem dX5_fails_7 : decode cX5_fails 7 = .ok (.iload_n 1, 1) := by decide +kernel
theorem dX5_fails_8 : decode cX5_fails 8 = .ok (.isub, 1) := by decide +kernel
theorem dX5_fails_9 : decode cX5_fails 9 = .ok (.ireturn, 1) := by decide +kernel
theorem dX5_isEntry_0 : decode cX5_isEntry 0 = .ok (.iload_n 1, 1) := by decide +kernel
theorem dX5_isEntry_1 : decode cX5_isEntry 1 = .ok (.i2l, 1) := by decide +kernel
theorem dX5_isEntry_2 : decode cX5_isEntry 2 = .ok (.lconst 0, 1) := by decide +kernel
theorem dX5_isEntry_3 : decode cX5_isEntry 3 = .ok (.aload_n 0, 1) := by decide +kernel
theorem dX5_isEntry_4 : decode cX5_isEntry 4 = .ok (.getfield 10, 3) := by decide +kernel
theorem dX5_isEntry_7 : decode cX5_isEntry 7 = .ok (.iconst 1, 1) := by decide +kernel
theorem dX5_isEntry_8 : decode cX5_isEntry 8 = .ok (.isub, 1) := by decide +kernel
theorem dX5_isEntry_9 : decode cX5_isEntry 9 = .ok (.i2l, 1) := by decide +kernel
theorem dX5_isEntry_10 : decode cX5_isEntry 10 = .ok (.invokestatic 13, 3) := by decide +kernel
theorem dX5_isEntry_13 : decode cX5_isEntry 13 = .ok (.ireturn, 1) := by decide +kernel
theorem dX5_byteOf_0 : decode cX5_byteOf 0 = .ok (.lload_n 0, 1) := by decide +kernel
theorem dX5_byteOf_1 : decode cX5_byteOf 1 = .ok (.bipush 8, 2) := by decide +kernel
theorem dX5_byteOf_3 : decode cX5_byteOf 3 = .ok (.iload_n 2, 1) := by decide +kernel
theorem dX5_byteOf_4 : decode cX5_byteOf 4 = .ok (.iconst 1, 1) := by decide +kernel
theorem dX5_byteOf_5 : decode cX5_byteOf 5 = .ok (.isub, 1) := by decide +kernel
theorem dX5_byteOf_6 : decode cX5_byteOf 6 = .ok (.iload_n 3, 1) := by decide +kernel
theorem dX5_byteOf_7 : decode cX5_byteOf 7 = .ok (.isub, 1) := by decide +kernel
theorem dX5_byteOf_8 : decode cX5_byteOf 8 = .ok (.imul, 1) := by decide +kernel
theorem dX5_byteOf_9 : decode cX5_byteOf 9 = .ok (.lshr, 1) := by decide +kernel
theorem dX5_byteOf_10 : decode cX5_byteOf 10 = .ok (.ldc2_w 17, 3) := by decide +kernel
theorem dX5_byteOf_13 : decode cX5_byteOf 13 = .ok (.land, 1) := by decide +kernel
theorem dX5_byteOf_14 : decode cX5_byteOf 14 = .ok (.l2i, 1) := by decide +kernel
theorem dX5_byteOf_15 : decode cX5_byteOf 15 = .ok (.ireturn, 1) := by decide +kernel
theorem dX5_hasZero_0 : decode cX5_hasZero 0 = .ok (.iconst 0, 1) := by decide +kernel
theorem dX5_hasZero_1 : decode cX5_hasZero 1 = .ok (.istore_n 3, 1) := by decide +kernel
theorem dX5_hasZero_2 : decode cX5_hasZero 2 = .ok (.iload_n 3, 1) := by decide +kernel
theorem dX5_hasZero_3 : decode cX5_hasZero 3 = .ok (.iload_n 2, 1) := by decide +kernel
theorem dX5_hasZero_4 : decode cX5_hasZero 4 = .ok (.if_icmp .ge 20, 3) := by decide +kernel
theorem dX5_hasZero_7 : decode cX5_hasZero 7 = .ok (.lload_n 0, 1) := by decide +kernel
theorem dX5_hasZero_8 : decode cX5_hasZero 8 = .ok (.iload_n 2, 1) := by decide +kernel
theorem dX5_hasZero_9 : decode cX5_hasZero 9 = .ok (.iload_n 3, 1) := by decide +kernel
theorem dX5_hasZero_10 : decode cX5_hasZero 10 = .ok (.invokestatic 19, 3) := by decide +kernel
theorem dX5_hasZero_13 : decode cX5_hasZero 13 = .ok (.ifCond .ne 5, 3) := by decide +kernel
theorem dX5_hasZero_16 : decode cX5_hasZero 16 = .ok (.iconst 1, 1) := by decide +kernel
theorem dX5_hasZero_17 : decode cX5_hasZero 17 = .ok (.ireturn, 1) := by decide +kernel
theorem dX5_hasZero_18 : decode cX5_hasZero 18 = .ok (.iinc 3 1, 3) := by decide +kernel
theorem dX5_hasZero_21 : decode cX5_hasZero 21 = .ok (.goto (-19), 3) := by decide +kernel
theorem dX5_hasZero_24 : decode cX5_hasZero 24 = .ok (.iconst 0, 1) := by decide +kernel
theorem dX5_hasZero_25 : decode cX5_hasZero 25 = .ok (.ireturn, 1) := by decide +kernel
theorem dX5_begin_0 : decode cX5_begin 0 = .ok (.aload_n 0, 1) := by decide +kernel
theorem dX5_begin_1 : decode cX5_begin 1 = .ok (.getfield 23, 3) := by decide +kernel
theorem dX5_begin_4 : decode cX5_begin 4 = .ok (.iload_n 1, 1) := by decide +kernel
theorem dX5_begin_5 : decode cX5_begin 5 = .ok (.iconst 0, 1) := by decide +kernel
theorem dX5_begin_6 : decode cX5_begin 6 = .ok (.iastore, 1) := by decide +kernel
theorem dX5_begin_7 : decode cX5_begin 7 = .ok (.aload_n 0, 1) := by decide +kernel
theorem dX5_begin_8 : decode cX5_begin 8 = .ok (.getfield 27, 3) := by decide +kernel
theorem dX5_begin_11 : decode cX5_begin 11 = .ok (.iload_n 1, 1) := by decide +kernel
theorem dX5_begin_12 : decode cX5_begin 12 = .ok (.iconst 0, 1) := by decide +kernel
theorem dX5_begin_13 : decode cX5_begin 13 = .ok (.iastore, 1) := by decide +kernel
theorem dX5_begin_14 : decode cX5_begin 14 = .ok (.aload_n 0, 1) := by decide +kernel
theorem dX5_begin_15 : decode cX5_begin 15 = .ok (.getfield 30, 3) := by decide +kernel
theorem dX5_begin_18 : decode cX5_begin 18 = .ok (.iload_n 1, 1) := by decide +kernel
theorem dX5_begin_19 : decode cX5_begin 19 = .ok (.iconst 0, 1) := by decide +kernel
theorem dX5_begin_20 : decode cX5_begin 20 = .ok (.iastore, 1) := by decide +kernel
theorem dX5_begin_21 : decode cX5_begin 21 = .ok (.aload_n 0, 1) := by decide +kernel
theorem dX5_begin_22 : decode cX5_begin 22 = .ok (.getfield 33, 3) := by decide +kernel
theorem dX5_begin_25 : decode cX5_begin 25 = .ok (.iload_n 1, 1) := by decide +kernel
theorem dX5_begin_26 : decode cX5_begin 26 = .ok (.iconst 0, 1) := by decide +kernel
theorem dX5_begin_27 : decode cX5_begin 27 = .ok (.iastore, 1) := by decide +kernel
theorem dX5_begin_28 : decode cX5_begin 28 = .ok (.aload_n 0, 1) := by decide +kernel
theorem dX5_begin_29 : decode cX5_begin 29 = .ok (.getfield 36, 3) := by decide +kernel
theorem dX5_begin_32 : decode cX5_begin 32 = .ok (.iload_n 1, 1) := by decide +kernel
theorem dX5_begin_33 : decode cX5_begin 33 = .ok (.iconst 0, 1) := by decide +kernel
theorem dX5_begin_34 : decode cX5_begin 34 = .ok (.iastore, 1) := by decide +kernel
theorem dX5_begin_35 : decode cX5_begin 35 = .ok (.aload_n 0, 1) := by decide +kernel
theorem dX5_begin_36 : decode cX5_begin 36 = .ok (.getfield 39, 3) := by decide +kernel
theorem dX5_begin_39 : decode cX5_begin 39 = .ok (.iload_n 1, 1) := by decide +kernel
theorem dX5_begin_40 : decode cX5_begin 40 = .ok (.iconst 0, 1) := by decide +kernel
theorem dX5_begin_41 : decode cX5_begin 41 = .ok (.bastore, 1) := by decide +kernel
theorem dX5_begin_42 : decode cX5_begin 42 = .ok (.aload_n 0, 1) := by decide +kernel
theorem dX5_begin_43 : decode cX5_begin 43 = .ok (.getfield 43, 3) := by decide +kernel
theorem dX5_begin_46 : decode cX5_begin 46 = .ok (.iload_n 1, 1) := by decide +kernel
theorem dX5_begin_47 : decode cX5_begin 47 = .ok (.iconst 0, 1) := by decide +kernel
theorem dX5_begin_48 : decode cX5_begin 48 = .ok (.iastore, 1) := by decide +kernel
theorem dX5_begin_49 : decode cX5_begin 49 = .ok (.aload_n 0, 1) := by decide +kernel
theorem dX5_begin_50 : decode cX5_begin 50 = .ok (.getfield 46, 3) := by decide +kernel
theorem dX5_begin_53 : decode cX5_begin 53 = .ok (.iload_n 1, 1) := by decide +kernel
theorem dX5_begin_54 : decode cX5_begin 54 = .ok (.iconst 0, 1) := by decide +kernel
theorem dX5_begin_55 : decode cX5_begin 55 = .ok (.iastore, 1) := by decide +kernel
theorem dX5_begin_56 : decode cX5_begin 56 = .ok (.aload_n 0, 1) := by decide +kernel
theorem dX5_begin_57 : decode cX5_begin 57 = .ok (.getfield 49, 3) := by decide +kernel
theorem dX5_begin_60 : decode cX5_begin 60 = .ok (.iload_n 1, 1) := by decide +kernel
theorem dX5_begin_61 : decode cX5_begin 61 = .ok (.iconst 0, 1) := by decide +kernel
theorem dX5_begin_62 : decode cX5_begin 62 = .ok (.iastore, 1) := by decide +kernel
theorem dX5_begin_63 : decode cX5_begin 63 = .ok (.aload_n 0, 1) := by decide +kernel
theorem dX5_begin_64 : decode cX5_begin 64 = .ok (.getfield 52, 3) := by decide +kernel
theorem dX5_begin_67 : decode cX5_begin 67 = .ok (.iload_n 1, 1) := by decide +kernel
theorem dX5_begin_68 : decode cX5_begin 68 = .ok (.iconst 0, 1) := by decide +kernel
theorem dX5_begin_69 : decode cX5_begin 69 = .ok (.bastore, 1) := by decide +kernel
theorem dX5_begin_70 : decode cX5_begin 70 = .ok (.aload_n 0, 1) := by decide +kernel
theorem dX5_begin_71 : decode cX5_begin 71 = .ok (.getfield 55, 3) := by decide +kernel
theorem dX5_begin_74 : decode cX5_begin 74 = .ok (.iload_n 1, 1) := by decide +kernel
theorem dX5_begin_75 : decode cX5_begin 75 = .ok (.iconst (-1), 1) := by decide +kernel
theorem dX5_begin_76 : decode cX5_begin 76 = .ok (.iastore, 1) := by decide +kernel
theorem dX5_begin_77 : decode cX5_begin 77 = .ok (.return_, 1) := by decide +kernel
theorem dX5_entry_0 : decode cX5_entry 0 = .ok (.aload_n 0, 1) := by decide +kernel
theorem dX5_entry_1 : decode cX5_entry 1 = .ok (.iconst 0, 1) := by decide +kernel
theorem dX5_entry_2 : decode cX5_entry 2 = .ok (.putfield 1, 3) := by decide +kernel
theorem dX5_entry_5 : decode cX5_entry 5 = .ok (.iload_n 1, 1) := by decide +kernel
theorem dX5_entry_6 : decode cX5_entry 6 = .ok (.i2l, 1) := by decide +kernel
theorem dX5_entry_7 : decode cX5_entry 7 = .ok (.lconst 0, 1) := by decide +kernel
theorem dX5_entry_8 : decode cX5_entry 8 = .ok (.ldc2_w 58, 3) := by decide +kernel
theorem dX5_entry_11 : decode cX5_entry 11 = .ok (.invokestatic 13, 3) := by decide +kernel
theorem dX5_entry_14 : decode cX5_entry 14 = .ok (.ifCond .eq 63, 3) := by decide +kernel
theorem dX5_entry_17 : decode cX5_entry 17 = .ok (.iload_n 2, 1) := by decide +kernel
theorem dX5_entry_18 : decode cX5_entry 18 = .ok (.i2l, 1) := by decide +kernel
theorem dX5_entry_19 : decode cX5_entry 19 = .ok (.lconst 0, 1) := by decide +kernel
theorem dX5_entry_20 : decode cX5_entry 20 = .ok (.iload_n 1, 1) := by decide +kernel
theorem dX5_entry_21 : decode cX5_entry 21 = .ok (.iconst 2, 1) := by decide +kernel
theorem dX5_entry_22 : decode cX5_entry 22 = .ok (.if_icmp .ne 7, 3) := by decide +kernel
theorem dX5_entry_25 : decode cX5_entry 25 = .ok (.lconst 0, 1) := by decide +kernel
theorem dX5_entry_26 : decode cX5_entry 26 = .ok (.goto 6, 3) := by decide +kernel
theorem dX5_entry_29 : decode cX5_entry 29 = .ok (.ldc2_w 58, 3) := by decide +kernel
theorem dX5_entry_32 : decode cX5_entry 32 = .ok (.invokestatic 13, 3) := by decide +kernel
theorem dX5_entry_35 : decode cX5_entry 35 = .ok (.ifCond .eq 42, 3) := by decide +kernel
theorem dX5_entry_38 : decode cX5_entry 38 = .ok (.iload 5, 2) := by decide +kernel
theorem dX5_entry_40 : decode cX5_entry 40 = .ok (.i2l, 1) := by decide +kernel
theorem dX5_entry_41 : decode cX5_entry 41 = .ok (.lconst 1, 1) := by decide +kernel
theorem dX5_entry_42 : decode cX5_entry 42 = .ok (.ldc2_w 60, 3) := by decide +kernel
theorem dX5_entry_45 : decode cX5_entry 45 = .ok (.invokestatic 13, 3) := by decide +kernel
theorem dX5_entry_48 : decode cX5_entry 48 = .ok (.ifCond .eq 29, 3) := by decide +kernel
theorem dX5_entry_51 : decode cX5_entry 51 = .ok (.lload_n 3, 1) := by decide +kernel
theorem dX5_entry_52 : decode cX5_entry 52 = .ok (.iload 5, 2) := by decide +kernel
theorem dX5_entry_54 : decode cX5_entry 54 = .ok (.invokestatic 62, 3) := by decide +kernel
theorem dX5_entry_57 : decode cX5_entry 57 = .ok (.ifCond .ne 20, 3) := by decide +kernel
theorem dX5_entry_60 : decode cX5_entry 60 = .ok (.iload_n 1, 1) := by decide +kernel
theorem dX5_entry_61 : decode cX5_entry 61 = .ok (.iconst 2, 1) := by decide +kernel
theorem dX5_entry_62 : decode cX5_entry 62 = .ok (.if_icmp .eq 18, 3) := by decide +kernel
theorem dX5_entry_65 : decode cX5_entry 65 = .ok (.lload_n 3, 1) := by decide +kernel
theorem dX5_entry_66 : decode cX5_entry 66 = .ok (.ldc2_w 17, 3) := by decide +kernel
theorem dX5_entry_69 : decode cX5_entry 69 = .ok (.land, 1) := by decide +kernel
theorem dX5_entry_70 : decode cX5_entry 70 = .ok (.ldc2_w 66, 3) := by decide +kernel
theorem dX5_entry_73 : decode cX5_entry 73 = .ok (.lcmp, 1) := by decide +kernel
theorem dX5_entry_74 : decode cX5_entry 74 = .ok (.ifCond .ne 6, 3) := by decide +kernel
theorem dX5_entry_77 : decode cX5_entry 77 = .ok (.bipush (-3), 2) := by decide +kernel
theorem dX5_entry_79 : decode cX5_entry 79 = .ok (.ireturn, 1) := by decide +kernel
theorem dX5_entry_80 : decode cX5_entry 80 = .ok (.aload_n 0, 1) := by decide +kernel
theorem dX5_entry_81 : decode cX5_entry 81 = .ok (.getfield 10, 3) := by decide +kernel
theorem dX5_entry_84 : decode cX5_entry 84 = .ok (.bipush 12, 2) := by decide +kernel
theorem dX5_entry_86 : decode cX5_entry 86 = .ok (.if_icmp .ne 6, 3) := by decide +kernel
theorem dX5_entry_89 : decode cX5_entry 89 = .ok (.bipush (-5), 2) := by decide +kernel
theorem dX5_entry_91 : decode cX5_entry 91 = .ok (.ireturn, 1) := by decide +kernel
theorem dX5_entry_92 : decode cX5_entry 92 = .ok (.aload_n 0, 1) := by decide +kernel
theorem dX5_entry_93 : decode cX5_entry 93 = .ok (.getfield 10, 3) := by decide +kernel
theorem dX5_entry_96 : decode cX5_entry 96 = .ok (.istore 6, 2) := by decide +kernel
theorem dX5_entry_98 : decode cX5_entry 98 = .ok (.aload_n 0, 1) := by decide +kernel
theorem dX5_entry_99 : decode cX5_entry 99 = .ok (.dup, 1) := by decide +kernel
theorem dX5_entry_100 : decode cX5_entry 100 = .ok (.getfield 10, 3) := by decide +kernel
theorem dX5_entry_103 : decode cX5_entry 103 = .ok (.iconst 1, 1) := by decide +kernel
theorem dX5_entry_104 : decode cX5_entry 104 = .ok (.iadd, 1) := by decide +kernel
theorem dX5_entry_105 : decode cX5_entry 105 = .ok (.putfield 10, 3) := by decide +kernel
theorem dX5_entry_108 : decode cX5_entry 108 = .ok (.aload_n 0, 1) := by decide +kernel
theorem dX5_entry_109 : decode cX5_entry 109 = .ok (.iload 6, 2) := by decide +kernel
theorem dX5_entry_111 : decode cX5_entry 111 = .ok (.invokevirtual 68, 3) := by decide +kernel
theorem dX5_entry_114 : decode cX5_entry 114 = .ok (.aload_n 0, 1) := by decide +kernel
theorem dX5_entry_115 : decode cX5_entry 115 = .ok (.getfield 72, 3) := by decide +kernel
theorem dX5_entry_118 : decode cX5_entry 118 = .ok (.iload 6, 2) := by decide +kernel
theorem dX5_entry_120 : decode cX5_entry 120 = .ok (.iload_n 1, 1) := by decide +kernel
theorem dX5_entry_121 : decode cX5_entry 121 = .ok (.iastore, 1) := by decide +kernel
theorem dX5_entry_122 : decode cX5_entry 122 = .ok (.aload_n 0, 1) := by decide +kernel
theorem dX5_entry_123 : decode cX5_entry 123 = .ok (.getfield 75, 3) := by decide +kernel
theorem dX5_entry_126 : decode cX5_entry 126 = .ok (.iload 6, 2) := by decide +kernel
theorem dX5_entry_128 : decode cX5_entry 128 = .ok (.iload_n 2, 1) := by decide +kernel
theorem dX5_entry_129 : decode cX5_entry 129 = .ok (.iastore, 1) := by decide +kernel
theorem dX5_entry_130 : decode cX5_entry 130 = .ok (.iconst 0, 1) := by decide +kernel
theorem dX5_entry_131 : decode cX5_entry 131 = .ok (.istore 7, 2) := by decide +kernel
theorem dX5_entry_133 : decode cX5_entry 133 = .ok (.iload 7, 2) := by decide +kernel
theorem dX5_entry_135 : decode cX5_entry 135 = .ok (.iload 5, 2) := by decide +kernel
theorem dX5_entry_137 : decode cX5_entry 137 = .ok (.if_icmp .ge 30, 3) := by decide +kernel
theorem dX5_entry_140 : decode cX5_entry 140 = .ok (.aload_n 0, 1) := by decide +kernel
theorem dX5_entry_141 : decode cX5_entry 141 = .ok (.getfield 78, 3) := by decide +kernel
theorem dX5_entry_144 : decode cX5_entry 144 = .ok (.bipush 16, 2) := by decide +kernel
theorem dX5_entry_146 : decode cX5_entry 146 = .ok (.iload 6, 2) := by decide +kernel
theorem dX5_entry_148 : decode cX5_entry 148 = .ok (.imul, 1) := by decide +kernel
theorem dX5_entry_149 : decode cX5_entry 149 = .ok (.iload 7, 2) := by decide +kernel
theorem dX5_entry_151 : decode cX5_entry 151 = .ok (.iadd, 1) := by decide +kernel
theorem dX5_entry_152 : decode cX5_entry 152 = .ok (.lload_n 3, 1) := by decide +kernel
theorem dX5_entry_153 : decode cX5_entry 153 = .ok (.iload 5, 2) := by decide +kernel
theorem dX5_entry_155 : decode cX5_entry 155 = .ok (.iload 7, 2) := by decide +kernel
theorem dX5_entry_157 : decode cX5_entry 157 = .ok (.invokestatic 19, 3) := by decide +kernel
theorem dX5_entry_160 : decode cX5_entry 160 = .ok (.iastore, 1) := by decide +kernel
theorem dX5_entry_161 : decode cX5_entry 161 = .ok (.iinc 7 1, 3) := by decide +kernel
theorem dX5_entry_164 : decode cX5_entry 164 = .ok (.goto (-31), 3) := by decide +kernel
theorem dX5_entry_167 : decode cX5_entry 167 = .ok (.aload_n 0, 1) := by decide +kernel
theorem dX5_entry_168 : decode cX5_entry 168 = .ok (.getfield 23, 3) := by decide +kernel
theorem dX5_entry_171 : decode cX5_entry 171 = .ok (.iload 6, 2) := by decide +kernel
theorem dX5_entry_173 : decode cX5_entry 173 = .ok (.iload 5, 2) := by decide +kernel
theorem dX5_entry_175 : decode cX5_entry 175 = .ok (.iastore, 1) := by decide +kernel
theorem dX5_entry_176 : decode cX5_entry 176 = .ok (.iload_n 1, 1) := by decide +kernel
theorem dX5_entry_177 : decode cX5_entry 177 = .ok (.iconst 2, 1) := by decide +kernel
theorem dX5_entry_178 : decode cX5_entry 178 = .ok (.if_icmp .ne 29, 3) := by decide +kernel
theorem dX5_entry_181 : decode cX5_entry 181 = .ok (.aload_n 0, 1) := by decide +kernel
theorem dX5_entry_182 : decode cX5_entry 182 = .ok (.getfield 78, 3) := by decide +kernel
theorem dX5_entry_185 : decode cX5_entry 185 = .ok (.bipush 16, 2) := by decide +kernel
theorem dX5_entry_187 : decode cX5_entry 187 = .ok (.iload 6, 2) := by decide +kernel
theorem dX5_entry_189 : decode cX5_entry 189 = .ok (.imul, 1) := by decide +kernel
theorem dX5_entry_190 : decode cX5_entry 190 = .ok (.iload 5, 2) := by decide +kernel
theorem dX5_entry_192 : decode cX5_entry 192 = .ok (.iadd, 1) := by decide +kernel
theorem dX5_entry_193 : decode cX5_entry 193 = .ok (.bipush 47, 2) := by decide +kernel
theorem dX5_entry_195 : decode cX5_entry 195 = .ok (.iastore, 1) := by decide +kernel
theorem dX5_entry_196 : decode cX5_entry 196 = .ok (.aload_n 0, 1) := by decide +kernel
theorem dX5_entry_197 : decode cX5_entry 197 = .ok (.getfield 23, 3) := by decide +kernel
theorem dX5_entry_200 : decode cX5_entry 200 = .ok (.iload 6, 2) := by decide +kernel
theorem dX5_entry_202 : decode cX5_entry 202 = .ok (.dup2, 1) := by decide +kernel
theorem dX5_entry_203 : decode cX5_entry 203 = .ok (.iaload, 1) := by decide +kernel
theorem dX5_entry_204 : decode cX5_entry 204 = .ok (.iconst 1, 1) := by decide +kernel
theorem dX5_entry_205 : decode cX5_entry 205 = .ok (.iadd, 1) := by decide +kernel
theorem dX5_entry_206 : decode cX5_entry 206 = .ok (.iastore, 1) := by decide +kernel
theorem dX5_entry_207 : decode cX5_entry 207 = .ok (.iload 6, 2) := by decide +kernel
theorem dX5_entry_209 : decode cX5_entry 209 = .ok (.ireturn, 1) := by decide +kernel
theorem dX5_name_0 : decode cX5_name 0 = .ok (.aload_n 0, 1) := by decide +kernel
theorem dX5_name_1 : decode cX5_name 1 = .ok (.iconst 0, 1) := by decide +kernel
theorem dX5_name_2 : decode cX5_name 2 = .ok (.putfield 1, 3) := by decide +kernel
theorem dX5_name_5 : decode cX5_name 5 = .ok (.aload_n 0, 1) := by decide +kernel
theorem dX5_name_6 : decode cX5_name 6 = .ok (.iload_n 1, 1) := by decide +kernel
theorem dX5_name_7 : decode cX5_name 7 = .ok (.invokevirtual 81, 3) := by decide +kernel
theorem dX5_name_10 : decode cX5_name 10 = .ok (.ifCond .ne 6, 3) := by decide +kernel
theorem dX5_name_13 : decode cX5_name 13 = .ok (.bipush (-2), 2) := by decide +kernel
theorem dX5_name_15 : decode cX5_name 15 = .ok (.ireturn, 1) := by decide +kernel
theorem dX5_name_16 : decode cX5_name 16 = .ok (.iload 4, 2) := by decide +kernel
theorem dX5_name_18 : decode cX5_name 18 = .ok (.i2l, 1) := by decide +kernel
theorem dX5_name_19 : decode cX5_name 19 = .ok (.lconst 1, 1) := by decide +kernel
theorem dX5_name_20 : decode cX5_name 20 = .ok (.ldc2_w 60, 3) := by decide +kernel
theorem dX5_name_23 : decode cX5_name 23 = .ok (.invokestatic 13, 3) := by decide +kernel
theorem dX5_name_26 : decode cX5_name 26 = .ok (.ifCond .eq 34, 3) := by decide +kernel
theorem dX5_name_29 : decode cX5_name 29 = .ok (.lload_n 2, 1) := by decide +kernel
theorem dX5_name_30 : decode cX5_name 30 = .ok (.iload 4, 2) := by decide +kernel
theorem dX5_name_32 : decode cX5_name 32 = .ok (.invokestatic 62, 3) := by decide +kernel
theorem dX5_name_35 : decode cX5_name 35 = .ok (.ifCond .ne 25, 3) := by decide +kernel
theorem dX5_name_38 : decode cX5_name 38 = .ok (.aload_n 0, 1) := by decide +kernel
theorem dX5_name_39 : decode cX5_name 39 = .ok (.getfield 72, 3) := by decide +kernel
theorem dX5_name_42 : decode cX5_name 42 = .ok (.iload_n 1, 1) := by decide +kernel
theorem dX5_name_43 : decode cX5_name 43 = .ok (.iaload, 1) := by decide +kernel
theorem dX5_name_44 : decode cX5_name 44 = .ok (.iconst 2, 1) := by decide +kernel
theorem dX5_name_45 : decode cX5_name 45 = .ok (.if_icmp .eq 18, 3) := by decide +kernel
theorem dX5_name_48 : decode cX5_name 48 = .ok (.lload_n 2, 1) := by decide +kernel
theorem dX5_name_49 : decode cX5_name 49 = .ok (.ldc2_w 17, 3) := by decide +kernel
theorem dX5_name_52 : decode cX5_name 52 = .ok (.land, 1) := by decide +kernel
theorem dX5_name_53 : decode cX5_name 53 = .ok (.ldc2_w 66, 3) := by decide +kernel
theorem dX5_name_56 : decode cX5_name 56 = .ok (.lcmp, 1) := by decide +kernel
theorem dX5_name_57 : decode cX5_name 57 = .ok (.ifCond .ne 6, 3) := by decide +kernel
theorem dX5_name_60 : decode cX5_name 60 = .ok (.bipush (-3), 2) := by decide +kernel
theorem dX5_name_62 : decode cX5_name 62 = .ok (.ireturn, 1) := by decide +kernel
theorem dX5_name_63 : decode cX5_name 63 = .ok (.aload_n 0, 1) := by decide +kernel
theorem dX5_name_64 : decode cX5_name 64 = .ok (.getfield 23, 3) := by decide +kernel
theorem dX5_name_67 : decode cX5_name 67 = .ok (.iload_n 1, 1) := by decide +kernel
theorem dX5_name_68 : decode cX5_name 68 = .ok (.iaload, 1) := by decide +kernel
theorem dX5_name_69 : decode cX5_name 69 = .ok (.iload 4, 2) := by decide +kernel
theorem dX5_name_71 : decode cX5_name 71 = .ok (.iadd, 1) := by decide +kernel
theorem dX5_name_72 : decode cX5_name 72 = .ok (.bipush 16, 2) := by decide +kernel
theorem dX5_name_74 : decode cX5_name 74 = .ok (.if_icmp .le 6, 3) := by decide +kernel
theorem dX5_name_77 : decode cX5_name 77 = .ok (.bipush (-5), 2) := by decide +kernel
theorem dX5_name_79 : decode cX5_name 79 = .ok (.ireturn, 1) := by decide +kernel
theorem dX5_name_80 : decode cX5_name 80 = .ok (.aload_n 0, 1) := by decide +kernel
theorem dX5_name_81 : decode cX5_name 81 = .ok (.getfield 23, 3) := by decide +kernel
theorem dX5_name_84 : decode cX5_name 84 = .ok (.iload_n 1, 1) := by decide +kernel
theorem dX5_name_85 : decode cX5_name 85 = .ok (.iaload, 1) := by decide +kernel
theorem dX5_name_86 : decode cX5_name 86 = .ok (.aload_n 0, 1) := by decide +kernel
theorem dX5_name_87 : decode cX5_name 87 = .ok (.getfield 72, 3) := by decide +kernel
theorem dX5_name_90 : decode cX5_name 90 = .ok (.iload_n 1, 1) := by decide +kernel
theorem dX5_name_91 : decode cX5_name 91 = .ok (.iaload, 1) := by decide +kernel
theorem dX5_name_92 : decode cX5_name 92 = .ok (.iconst 2, 1) := by decide +kernel
theorem dX5_name_93 : decode cX5_name 93 = .ok (.if_icmp .ne 7, 3) := by decide +kernel
theorem dX5_name_96 : decode cX5_name 96 = .ok (.iconst 1, 1) := by decide +kernel
theorem dX5_name_97 : decode cX5_name 97 = .ok (.goto 4, 3) := by decide +kernel
theorem dX5_name_100 : decode cX5_name 100 = .ok (.iconst 0, 1) := by decide +kernel
theorem dX5_name_101 : decode cX5_name 101 = .ok (.isub, 1) := by decide +kernel
theorem dX5_name_102 : decode cX5_name 102 = .ok (.istore 5, 2) := by decide +kernel
theorem dX5_name_104 : decode cX5_name 104 = .ok (.iconst 0, 1) := by decide +kernel
theorem dX5_name_105 : decode cX5_name 105 = .ok (.istore 6, 2) := by decide +kernel
theorem dX5_name_107 : decode cX5_name 107 = .ok (.iload 6, 2) := by decide +kernel
theorem dX5_name_109 : decode cX5_name 109 = .ok (.iload 4, 2) := by decide +kernel
theorem dX5_name_111 : decode cX5_name 111 = .ok (.if_icmp .ge 32, 3) := by decide +kernel
theorem dX5_name_114 : decode cX5_name 114 = .ok (.aload_n 0, 1) := by decide +kernel
theorem dX5_name_115 : decode cX5_name 115 = .ok (.getfield 78, 3) := by decide +kernel
theorem dX5_name_118 : decode cX5_name 118 = .ok (.bipush 16, 2) := by decide +kernel
theorem dX5_name_120 : decode cX5_name 120 = .ok (.iload_n 1, 1) := by decide +kernel
theorem dX5_name_121 : decode cX5_name 121 = .ok (.imul, 1) := by decide +kernel
theorem dX5_name_122 : decode cX5_name 122 = .ok (.iload 5, 2) := by decide +kernel
theorem dX5_name_124 : decode cX5_name 124 = .ok (.iadd, 1) := by decide +kernel
theorem dX5_name_125 : decode cX5_name 125 = .ok (.iload 6, 2) := by decide +kernel
theorem dX5_name_127 : decode cX5_name 127 = .ok (.iadd, 1) := by decide +kernel
theorem dX5_name_128 : decode cX5_name 128 = .ok (.lload_n 2, 1) := by decide +kernel
theorem dX5_name_129 : decode cX5_name 129 = .ok (.iload 4, 2) := by decide +kernel
theorem dX5_name_131 : decode cX5_name 131 = .ok (.iload 6, 2) := by decide +kernel
theorem dX5_name_133 : decode cX5_name 133 = .ok (.invokestatic 19, 3) := by decide +kernel
theorem dX5_name_136 : decode cX5_name 136 = .ok (.iastore, 1) := by decide +kernel
theorem dX5_name_137 : decode cX5_name 137 = .ok (.iinc 6 1, 3) := by decide +kernel
theorem dX5_name_140 : decode cX5_name 140 = .ok (.goto (-33), 3) := by decide +kernel
theorem dX5_name_143 : decode cX5_name 143 = .ok (.aload_n 0, 1) := by decide +kernel
theorem dX5_name_144 : decode cX5_name 144 = .ok (.getfield 23, 3) := by decide +kernel
theorem dX5_name_147 : decode cX5_name 147 = .ok (.iload_n 1, 1) := by decide +kernel
theorem dX5_name_148 : decode cX5_name 148 = .ok (.dup2, 1) := by decide +kernel
theorem dX5_name_149 : decode cX5_name 149 = .ok (.iaload, 1) := by decide +kernel
theorem dX5_name_150 : decode cX5_name 150 = .ok (.iload 4, 2) := by decide +kernel
theorem dX5_name_152 : decode cX5_name 152 = .ok (.iadd, 1) := by decide +kernel
theorem dX5_name_153 : decode cX5_name 153 = .ok (.iastore, 1) := by decide +kernel
theorem dX5_name_154 : decode cX5_name 154 = .ok (.aload_n 0, 1) := by decide +kernel
theorem dX5_name_155 : decode cX5_name 155 = .ok (.getfield 72, 3) := by decide +kernel
theorem dX5_name_158 : decode cX5_name 158 = .ok (.iload_n 1, 1) := by decide +kernel
theorem dX5_name_159 : decode cX5_name 159 = .ok (.iaload, 1) := by decide +kernel
theorem dX5_name_160 : decode cX5_name 160 = .ok (.iconst 2, 1) := by decide +kernel
theorem dX5_name_161 : decode cX5_name 161 = .ok (.if_icmp .ne 23, 3) := by decide +kernel
theorem dX5_name_164 : decode cX5_name 164 = .ok (.aload_n 0, 1) := by decide +kernel
theorem dX5_name_165 : decode cX5_name 165 = .ok (.getfield 78, 3) := by decide +kernel
theorem dX5_name_168 : decode cX5_name 168 = .ok (.bipush 16, 2) := by decide +kernel
theorem dX5_name_170 : decode cX5_name 170 = .ok (.iload_n 1, 1) := by decide +kernel
theorem dX5_name_171 : decode cX5_name 171 = .ok (.imul, 1) := by decide +kernel
theorem dX5_name_172 : decode cX5_name 172 = .ok (.aload_n 0, 1) := by decide +kernel
theorem dX5_name_173 : decode cX5_name 173 = .ok (.getfield 23, 3) := by decide +kernel
theorem dX5_name_176 : decode cX5_name 176 = .ok (.iload_n 1, 1) := by decide +kernel
theorem dX5_name_177 : decode cX5_name 177 = .ok (.iaload, 1) := by decide +kernel
theorem dX5_name_178 : decode cX5_name 178 = .ok (.iadd, 1) := by decide +kernel
theorem dX5_name_179 : decode cX5_name 179 = .ok (.iconst 1, 1) := by decide +kernel
theorem dX5_name_180 : decode cX5_name 180 = .ok (.isub, 1) := by decide +kernel
theorem dX5_name_181 : decode cX5_name 181 = .ok (.bipush 47, 2) := by decide +kernel
theorem dX5_name_183 : decode cX5_name 183 = .ok (.iastore, 1) := by decide +kernel
theorem dX5_name_184 : decode cX5_name 184 = .ok (.aload_n 0, 1) := by decide +kernel
theorem dX5_name_185 : decode cX5_name 185 = .ok (.getfield 23, 3) := by decide +kernel
theorem dX5_name_188 : decode cX5_name 188 = .ok (.iload_n 1, 1) := by decide +kernel
theorem dX5_name_189 : decode cX5_name 189 = .ok (.iaload, 1) := by decide +kernel
theorem dX5_name_190 : decode cX5_name 190 = .ok (.ireturn, 1) := by decide +kernel
theorem dX5_data_0 : decode cX5_data 0 = .ok (.aload_n 0, 1) := by decide +kernel
theorem dX5_data_1 : decode cX5_data 1 = .ok (.iconst 0, 1) := by decide +kernel
theorem dX5_data_2 : decode cX5_data 2 = .ok (.putfield 1, 3) := by decide +kernel
theorem dX5_data_5 : decode cX5_data 5 = .ok (.aload_n 0, 1) := by decide +kernel
theorem dX5_data_6 : decode cX5_data 6 = .ok (.iload_n 1, 1) := by decide +kernel
theorem dX5_data_7 : decode cX5_data 7 = .ok (.invokevirtual 81, 3) := by decide +kernel
theorem dX5_data_10 : decode cX5_data 10 = .ok (.ifCond .ne 6, 3) := by decide +kernel
theorem dX5_data_13 : decode cX5_data 13 = .ok (.bipush (-2), 2) := by decide +kernel
theorem dX5_data_15 : decode cX5_data 15 = .ok (.ireturn, 1) := by decide +kernel
theorem dX5_data_16 : decode cX5_data 16 = .ok (.iload 4, 2) := by decide +kernel
theorem dX5_data_18 : decode cX5_data 18 = .ok (.i2l, 1) := by decide +kernel
theorem dX5_data_19 : decode cX5_data 19 = .ok (.lconst 0, 1) := by decide +kernel
theorem dX5_data_20 : decode cX5_data 20 = .ok (.ldc2_w 60, 3) := by decide +kernel
theorem dX5_data_23 : decode cX5_data 23 = .ok (.invokestatic 13, 3) := by decide +kernel
theorem dX5_data_26 : decode cX5_data 26 = .ok (.ifCond .ne 6, 3) := by decide +kernel
theorem dX5_data_29 : decode cX5_data 29 = .ok (.bipush (-3), 2) := by decide +kernel
theorem dX5_data_31 : decode cX5_data 31 = .ok (.ireturn, 1) := by decide +kernel
theorem dX5_data_32 : decode cX5_data 32 = .ok (.aload_n 0, 1) := by decide +kernel
theorem dX5_data_33 : decode cX5_data 33 = .ok (.getfield 43, 3) := by decide +kernel
theorem dX5_data_36 : decode cX5_data 36 = .ok (.iload_n 1, 1) := by decide +kernel
theorem dX5_data_37 : decode cX5_data 37 = .ok (.iaload, 1) := by decide +kernel
theorem dX5_data_38 : decode cX5_data 38 = .ok (.iload 4, 2) := by decide +kernel
theorem dX5_data_40 : decode cX5_data 40 = .ok (.iadd, 1) := by decide +kernel
theorem dX5_data_41 : decode cX5_data 41 = .ok (.bipush 40, 2) := by decide +kernel
theorem dX5_data_43 : decode cX5_data 43 = .ok (.if_icmp .le 6, 3) := by decide +kernel
theorem dX5_data_46 : decode cX5_data 46 = .ok (.bipush (-5), 2) := by decide +kernel
theorem dX5_data_48 : decode cX5_data 48 = .ok (.ireturn, 1) := by decide +kernel
theorem dX5_data_49 : decode cX5_data 49 = .ok (.aload_n 0, 1) := by decide +kernel
theorem dX5_data_50 : decode cX5_data 50 = .ok (.getfield 72, 3) := by decide +kernel
theorem dX5_data_53 : decode cX5_data 53 = .ok (.iload_n 1, 1) := by decide +kernel
theorem dX5_data_54 : decode cX5_data 54 = .ok (.iaload, 1) := by decide +kernel
theorem dX5_data_55 : decode cX5_data 55 = .ok (.iconst 2, 1) := by decide +kernel
theorem dX5_data_56 : decode cX5_data 56 = .ok (.if_icmp .ne 9, 3) := by decide +kernel
theorem dX5_data_59 : decode cX5_data 59 = .ok (.aload_n 0, 1) := by decide +kernel
theorem dX5_data_60 : decode cX5_data 60 = .ok (.iconst 2, 1) := by decide +kernel
theorem dX5_data_61 : decode cX5_data 61 = .ok (.invokevirtual 85, 3) := by decide +kernel
theorem dX5_data_64 : decode cX5_data 64 = .ok (.ireturn, 1) := by decide +kernel
theorem dX5_data_65 : decode cX5_data 65 = .ok (.aload_n 0, 1) := by decide +kernel
theorem dX5_data_66 : decode cX5_data 66 = .ok (.getfield 39, 3) := by decide +kernel
theorem dX5_data_69 : decode cX5_data 69 = .ok (.iload_n 1, 1) := by decide +kernel
theorem dX5_data_70 : decode cX5_data 70 = .ok (.iconst 1, 1) := by decide +kernel
theorem dX5_data_71 : decode cX5_data 71 = .ok (.bastore, 1) := by decide +kernel
theorem dX5_data_72 : decode cX5_data 72 = .ok (.aload_n 0, 1) := by decide +kernel
theorem dX5_data_73 : decode cX5_data 73 = .ok (.getfield 52, 3) := by decide +kernel
theorem dX5_data_76 : decode cX5_data 76 = .ok (.iload_n 1, 1) := by decide +kernel
theorem dX5_data_77 : decode cX5_data 77 = .ok (.iconst 0, 1) := by decide +kernel
theorem dX5_data_78 : decode cX5_data 78 = .ok (.bastore, 1) := by decide +kernel
theorem dX5_data_79 : decode cX5_data 79 = .ok (.iconst 0, 1) := by decide +kernel
theorem dX5_data_80 : decode cX5_data 80 = .ok (.istore 5, 2) := by decide +kernel
theorem dX5_data_82 : decode cX5_data 82 = .ok (.iload 5, 2) := by decide +kernel
theorem dX5_data_84 : decode cX5_data 84 = .ok (.iload 4, 2) := by decide +kernel
theorem dX5_data_86 : decode cX5_data 86 = .ok (.if_icmp .ge 36, 3) := by decide +kernel
theorem dX5_data_89 : decode cX5_data 89 = .ok (.aload_n 0, 1) := by decide +kernel
theorem dX5_data_90 : decode cX5_data 90 = .ok (.getfield 89, 3) := by decide +kernel
theorem dX5_data_93 : decode cX5_data 93 = .ok (.bipush 40, 2) := by decide +kernel
theorem dX5_data_95 : decode cX5_data 95 = .ok (.iload_n 1, 1) := by decide +kernel
theorem dX5_data_96 : decode cX5_data 96 = .ok (.imul, 1) := by decide +kernel
theorem dX5_data_97 : decode cX5_data 97 = .ok (.aload_n 0, 1) := by decide +kernel
theorem dX5_data_98 : decode cX5_data 98 = .ok (.getfield 43, 3) := by decide +kernel
theorem dX5_data_101 : decode cX5_data 101 = .ok (.iload_n 1, 1) := by decide +kernel
theorem dX5_data_102 : decode cX5_data 102 = .ok (.iaload, 1) := by decide +kernel
theorem dX5_data_103 : decode cX5_data 103 = .ok (.iadd, 1) := by decide +kernel
theorem dX5_data_104 : decode cX5_data 104 = .ok (.iload 5, 2) := by decide +kernel
theorem dX5_data_106 : decode cX5_data 106 = .ok (.iadd, 1) := by decide +kernel
theorem dX5_data_107 : decode cX5_data 107 = .ok (.lload_n 2, 1) := by decide +kernel
theorem dX5_data_108 : decode cX5_data 108 = .ok (.iload 4, 2) := by decide +kernel
theorem dX5_data_110 : decode cX5_data 110 = .ok (.iload 5, 2) := by decide +kernel
theorem dX5_data_112 : decode cX5_data 112 = .ok (.invokestatic 19, 3) := by decide +kernel
theorem dX5_data_115 : decode cX5_data 115 = .ok (.iastore, 1) := by decide +kernel
theorem dX5_data_116 : decode cX5_data 116 = .ok (.iinc 5 1, 3) := by decide +kernel
theorem dX5_data_119 : decode cX5_data 119 = .ok (.goto (-37), 3) := by decide +kernel
theorem dX5_data_122 : decode cX5_data 122 = .ok (.aload_n 0, 1) := by decide +kernel
theorem dX5_data_123 : decode cX5_data 123 = .ok (.getfield 43, 3) := by decide +kernel
theorem dX5_data_126 : decode cX5_data 126 = .ok (.iload_n 1, 1) := by decide +kernel
theorem dX5_data_127 : decode cX5_data 127 = .ok (.dup2, 1) := by decide +kernel
theorem dX5_data_128 : decode cX5_data 128 = .ok (.iaload, 1) := by decide +kernel
theorem dX5_data_129 : decode cX5_data 129 = .ok (.iload 4, 2) := by decide +kernel
theorem dX5_data_131 : decode cX5_data 131 = .ok (.iadd, 1) := by decide +kernel
theorem dX5_data_132 : decode cX5_data 132 = .ok (.iastore, 1) := by decide +kernel
theorem dX5_data_133 : decode cX5_data 133 = .ok (.aload_n 0, 1) := by decide +kernel
theorem dX5_data_134 : decode cX5_data 134 = .ok (.getfield 43, 3) := by decide +kernel
theorem dX5_data_137 : decode cX5_data 137 = .ok (.iload_n 1, 1) := by decide +kernel
theorem dX5_data_138 : decode cX5_data 138 = .ok (.iaload, 1) := by decide +kernel
theorem dX5_data_139 : decode cX5_data 139 = .ok (.ireturn, 1) := by decide +kernel
theorem dX5_packed_0 : decode cX5_packed 0 = .ok (.aload_n 0, 1) := by decide +kernel
theorem dX5_packed_1 : decode cX5_packed 1 = .ok (.iconst 0, 1) := by decide +kernel
theorem dX5_packed_2 : decode cX5_packed 2 = .ok (.putfield 1, 3) := by decide +kernel
theorem dX5_packed_5 : decode cX5_packed 5 = .ok (.aload_n 0, 1) := by decide +kernel
theorem dX5_packed_6 : decode cX5_packed 6 = .ok (.iload_n 1, 1) := by decide +kernel
theorem dX5_packed_7 : decode cX5_packed 7 = .ok (.invokevirtual 81, 3) := by decide +kernel
theorem dX5_packed_10 : decode cX5_packed 10 = .ok (.ifCond .ne 6, 3) := by decide +kernel
theorem dX5_packed_13 : decode cX5_packed 13 = .ok (.bipush (-2), 2) := by decide +kernel
theorem dX5_packed_15 : decode cX5_packed 15 = .ok (.ireturn, 1) := by decide +kernel
theorem dX5_packed_16 : decode cX5_packed 16 = .ok (.iload_n 2, 1) := by decide +kernel
theorem dX5_packed_17 : decode cX5_packed 17 = .ok (.i2l, 1) := by decide +kernel
theorem dX5_packed_18 : decode cX5_packed 18 = .ok (.lconst 0, 1) := by decide +kernel
theorem dX5_packed_19 : decode cX5_packed 19 = .ok (.ldc2_w 92, 3) := by decide +kernel
theorem dX5_packed_22 : decode cX5_packed 22 = .ok (.invokestatic 13, 3) := by decide +kernel
theorem dX5_packed_25 : decode cX5_packed 25 = .ok (.ifCond .ne 6, 3) := by decide +kernel
theorem dX5_packed_28 : decode cX5_packed 28 = .ok (.bipush (-3), 2) := by decide +kernel
theorem dX5_packed_30 : decode cX5_packed 30 = .ok (.ireturn, 1) := by decide +kernel
theorem dX5_packed_31 : decode cX5_packed 31 = .ok (.aload_n 0, 1) := by decide +kernel
theorem dX5_packed_32 : decode cX5_packed 32 = .ok (.getfield 72, 3) := by decide +kernel
theorem dX5_packed_35 : decode cX5_packed 35 = .ok (.iload_n 1, 1) := by decide +kernel
theorem dX5_packed_36 : decode cX5_packed 36 = .ok (.iaload, 1) := by decide +kernel
theorem dX5_packed_37 : decode cX5_packed 37 = .ok (.iconst 1, 1) := by decide +kernel
theorem dX5_packed_38 : decode cX5_packed 38 = .ok (.if_icmp .eq 9, 3) := by decide +kernel
theorem dX5_packed_41 : decode cX5_packed 41 = .ok (.aload_n 0, 1) := by decide +kernel
theorem dX5_packed_42 : decode cX5_packed 42 = .ok (.iconst 2, 1) := by decide +kernel
theorem dX5_packed_43 : decode cX5_packed 43 = .ok (.invokevirtual 85, 3) := by decide +kernel
theorem dX5_packed_46 : decode cX5_packed 46 = .ok (.ireturn, 1) := by decide +kernel
theorem dX5_packed_47 : decode cX5_packed 47 = .ok (.aload_n 0, 1) := by decide +kernel
theorem dX5_packed_48 : decode cX5_packed 48 = .ok (.getfield 46, 3) := by decide +kernel
theorem dX5_packed_51 : decode cX5_packed 51 = .ok (.iload_n 1, 1) := by decide +kernel
theorem dX5_packed_52 : decode cX5_packed 52 = .ok (.iload_n 2, 1) := by decide +kernel
theorem dX5_packed_53 : decode cX5_packed 53 = .ok (.iastore, 1) := by decide +kernel
theorem dX5_packed_54 : decode cX5_packed 54 = .ok (.aload_n 0, 1) := by decide +kernel
theorem dX5_packed_55 : decode cX5_packed 55 = .ok (.getfield 49, 3) := by decide +kernel
theorem dX5_packed_58 : decode cX5_packed 58 = .ok (.iload_n 1, 1) := by decide +kernel
theorem dX5_packed_59 : decode cX5_packed 59 = .ok (.iload_n 3, 1) := by decide +kernel
theorem dX5_packed_60 : decode cX5_packed 60 = .ok (.iastore, 1) := by decide +kernel
theorem dX5_packed_61 : decode cX5_packed 61 = .ok (.iconst 1, 1) := by decide +kernel
theorem dX5_packed_62 : decode cX5_packed 62 = .ok (.ireturn, 1) := by decide +kernel
theorem dX5_part_0 : decode cX5_part 0 = .ok (.aload_n 0, 1) := by decide +kernel
theorem dX5_part_1 : decode cX5_part 1 = .ok (.iconst 0, 1) := by decide +kernel
theorem dX5_part_2 : decode cX5_part 2 = .ok (.putfield 1, 3) := by decide +kernel
theorem dX5_part_5 : decode cX5_part 5 = .ok (.aload_n 0, 1) := by decide +kernel
theorem dX5_part_6 : decode cX5_part 6 = .ok (.iload_n 1, 1) := by decide +kernel
theorem dX5_part_7 : decode cX5_part 7 = .ok (.invokevirtual 81, 3) := by decide +kernel
theorem dX5_part_10 : decode cX5_part 10 = .ok (.ifCond .ne 6, 3) := by decide +kernel
theorem dX5_part_13 : decode cX5_part 13 = .ok (.bipush (-2), 2) := by decide +kernel
theorem dX5_part_15 : decode cX5_part 15 = .ok (.ireturn, 1) := by decide +kernel
theorem dX5_part_16 : decode cX5_part 16 = .ok (.iload_n 2, 1) := by decide +kernel
theorem dX5_part_17 : decode cX5_part 17 = .ok (.i2l, 1) := by decide +kernel
theorem dX5_part_18 : decode cX5_part 18 = .ok (.ldc2_w 58, 3) := by decide +kernel
theorem dX5_part_21 : decode cX5_part 21 = .ok (.ldc2_w 94, 3) := by decide +kernel
theorem dX5_part_24 : decode cX5_part 24 = .ok (.invokestatic 13, 3) := by decide +kernel
theorem dX5_part_27 : decode cX5_part 27 = .ok (.ifCond .eq 16, 3) := by decide +kernel
theorem dX5_part_30 : decode cX5_part 30 = .ok (.iload 5, 2) := by decide +kernel
theorem dX5_part_32 : decode cX5_part 32 = .ok (.i2l, 1) := by decide +kernel
theorem dX5_part_33 : decode cX5_part 33 = .ok (.lconst 0, 1) := by decide +kernel
theorem dX5_part_34 : decode cX5_part 34 = .ok (.ldc2_w 60, 3) := by decide +kernel
theorem dX5_part_37 : decode cX5_part 37 = .ok (.invokestatic 13, 3) := by decide +kernel
theorem dX5_part_40 : decode cX5_part 40 = .ok (.ifCond .ne 6, 3) := by decide +kernel
theorem dX5_part_43 : decode cX5_part 43 = .ok (.bipush (-3), 2) := by decide +kernel
theorem dX5_part_45 : decode cX5_part 45 = .ok (.ireturn, 1) := by decide +kernel
theorem dX5_part_46 : decode cX5_part 46 = .ok (.aload_n 0, 1) := by decide +kernel
theorem dX5_part_47 : decode cX5_part 47 = .ok (.getfield 36, 3) := by decide +kernel
theorem dX5_part_50 : decode cX5_part 50 = .ok (.iload_n 1, 1) := by decide +kernel
theorem dX5_part_51 : decode cX5_part 51 = .ok (.iaload, 1) := by decide +kernel
theorem dX5_part_52 : decode cX5_part 52 = .ok (.iconst 3, 1) := by decide +kernel
theorem dX5_part_53 : decode cX5_part 53 = .ok (.if_icmp .ne 6, 3) := by decide +kernel
theorem dX5_part_56 : decode cX5_part 56 = .ok (.bipush (-5), 2) := by decide +kernel
theorem dX5_part_58 : decode cX5_part 58 = .ok (.ireturn, 1) := by decide +kernel
theorem dX5_part_59 : decode cX5_part 59 = .ok (.iconst 3, 1) := by decide +kernel
theorem dX5_part_60 : decode cX5_part 60 = .ok (.iload_n 1, 1) := by decide +kernel
theorem dX5_part_61 : decode cX5_part 61 = .ok (.imul, 1) := by decide +kernel
theorem dX5_part_62 : decode cX5_part 62 = .ok (.aload_n 0, 1) := by decide +kernel
theorem dX5_part_63 : decode cX5_part 63 = .ok (.getfield 36, 3) := by decide +kernel
theorem dX5_part_66 : decode cX5_part 66 = .ok (.iload_n 1, 1) := by decide +kernel
theorem dX5_part_67 : decode cX5_part 67 = .ok (.iaload, 1) := by decide +kernel
theorem dX5_part_68 : decode cX5_part 68 = .ok (.iadd, 1) := by decide +kernel
theorem dX5_part_69 : decode cX5_part 69 = .ok (.istore 6, 2) := by decide +kernel
theorem dX5_part_71 : decode cX5_part 71 = .ok (.aload_n 0, 1) := by decide +kernel
theorem dX5_part_72 : decode cX5_part 72 = .ok (.getfield 96, 3) := by decide +kernel
theorem dX5_part_75 : decode cX5_part 75 = .ok (.iload 6, 2) := by decide +kernel
theorem dX5_part_77 : decode cX5_part 77 = .ok (.iload_n 2, 1) := by decide +kernel
theorem dX5_part_78 : decode cX5_part 78 = .ok (.iastore, 1) := by decide +kernel
theorem dX5_part_79 : decode cX5_part 79 = .ok (.aload_n 0, 1) := by decide +kernel
theorem dX5_part_80 : decode cX5_part 80 = .ok (.getfield 99, 3) := by decide +kernel
theorem dX5_part_83 : decode cX5_part 83 = .ok (.iload 6, 2) := by decide +kernel
theorem dX5_part_85 : decode cX5_part 85 = .ok (.iload 5, 2) := by decide +kernel
theorem dX5_part_87 : decode cX5_part 87 = .ok (.iastore, 1) := by decide +kernel
theorem dX5_part_88 : decode cX5_part 88 = .ok (.iconst 0, 1) := by decide +kernel
theorem dX5_part_89 : decode cX5_part 89 = .ok (.istore 7, 2) := by decide +kernel
theorem dX5_part_91 : decode cX5_part 91 = .ok (.iload 7, 2) := by decide +kernel
theorem dX5_part_93 : decode cX5_part 93 = .ok (.iload 5, 2) := by decide +kernel
theorem dX5_part_95 : decode cX5_part 95 = .ok (.if_icmp .ge 30, 3) := by decide +kernel
theorem dX5_part_98 : decode cX5_part 98 = .ok (.aload_n 0, 1) := by decide +kernel
theorem dX5_part_99 : decode cX5_part 99 = .ok (.getfield 102, 3) := by decide +kernel
theorem dX5_part_102 : decode cX5_part 102 = .ok (.bipush 8, 2) := by decide +kernel
theorem dX5_part_104 : decode cX5_part 104 = .ok (.iload 6, 2) := by decide +kernel
theorem dX5_part_106 : decode cX5_part 106 = .ok (.imul, 1) := by decide +kernel
theorem dX5_part_107 : decode cX5_part 107 = .ok (.iload 7, 2) := by decide +kernel
theorem dX5_part_109 : decode cX5_part 109 = .ok (.iadd, 1) := by decide +kernel
theorem dX5_part_110 : decode cX5_part 110 = .ok (.lload_n 3, 1) := by decide +kernel
theorem dX5_part_111 : decode cX5_part 111 = .ok (.iload 5, 2) := by decide +kernel
theorem dX5_part_113 : decode cX5_part 113 = .ok (.iload 7, 2) := by decide +kernel
theorem dX5_part_115 : decode cX5_part 115 = .ok (.invokestatic 19, 3) := by decide +kernel
theorem dX5_part_118 : decode cX5_part 118 = .ok (.iastore, 1) := by decide +kernel
theorem dX5_part_119 : decode cX5_part 119 = .ok (.iinc 7 1, 3) := by decide +kernel
theorem dX5_part_122 : decode cX5_part 122 = .ok (.goto (-31), 3) := by decide +kernel
theorem dX5_part_125 : decode cX5_part 125 = .ok (.aload_n 0, 1) := by decide +kernel
theorem dX5_part_126 : decode cX5_part 126 = .ok (.getfield 36, 3) := by decide +kernel
theorem dX5_part_129 : decode cX5_part 129 = .ok (.iload_n 1, 1) := by decide +kernel
theorem dX5_part_130 : decode cX5_part 130 = .ok (.dup2, 1) := by decide +kernel
theorem dX5_part_131 : decode cX5_part 131 = .ok (.iaload, 1) := by decide +kernel
theorem dX5_part_132 : decode cX5_part 132 = .ok (.iconst 1, 1) := by decide +kernel
theorem dX5_part_133 : decode cX5_part 133 = .ok (.iadd, 1) := by decide +kernel
theorem dX5_part_134 : decode cX5_part 134 = .ok (.iastore, 1) := by decide +kernel
theorem dX5_part_135 : decode cX5_part 135 = .ok (.aload_n 0, 1) := by decide +kernel
theorem dX5_part_136 : decode cX5_part 136 = .ok (.getfield 36, 3) := by decide +kernel
theorem dX5_part_139 : decode cX5_part 139 = .ok (.iload_n 1, 1) := by decide +kernel
theorem dX5_part_140 : decode cX5_part 140 = .ok (.iaload, 1) := by decide +kernel
theorem dX5_part_141 : decode cX5_part 141 = .ok (.ireturn, 1) := by decide +kernel
theorem dX5_stamp_0 : decode cX5_stamp 0 = .ok (.aload_n 0, 1) := by decide +kernel
theorem dX5_stamp_1 : decode cX5_stamp 1 = .ok (.iconst 0, 1) := by decide +kernel
theorem dX5_stamp_2 : decode cX5_stamp 2 = .ok (.putfield 1, 3) := by decide +kernel
theorem dX5_stamp_5 : decode cX5_stamp 5 = .ok (.aload_n 0, 1) := by decide +kernel
theorem dX5_stamp_6 : decode cX5_stamp 6 = .ok (.iload_n 1, 1) := by decide +kernel
theorem dX5_stamp_7 : decode cX5_stamp 7 = .ok (.invokevirtual 81, 3) := by decide +kernel
theorem dX5_stamp_10 : decode cX5_stamp 10 = .ok (.ifCond .ne 6, 3) := by decide +kernel
theorem dX5_stamp_13 : decode cX5_stamp 13 = .ok (.bipush (-2), 2) := by decide +kernel
theorem dX5_stamp_15 : decode cX5_stamp 15 = .ok (.ireturn, 1) := by decide +kernel
theorem dX5_stamp_16 : decode cX5_stamp 16 = .ok (.iload_n 2, 1) := by decide +kernel
theorem dX5_stamp_17 : decode cX5_stamp 17 = .ok (.i2l, 1) := by decide +kernel
theorem dX5_stamp_18 : decode cX5_stamp 18 = .ok (.ldc2_w 105, 3) := by decide +kernel
theorem dX5_stamp_21 : decode cX5_stamp 21 = .ok (.ldc2_w 107, 3) := by decide +kernel
theorem dX5_stamp_24 : decode cX5_stamp 24 = .ok (.invokestatic 13, 3) := by decide +kernel
theorem dX5_stamp_27 : decode cX5_stamp 27 = .ok (.ifCond .eq 41, 3) := by decide +kernel
theorem dX5_stamp_30 : decode cX5_stamp 30 = .ok (.iload_n 3, 1) := by decide +kernel
theorem dX5_stamp_31 : decode cX5_stamp 31 = .ok (.i2l, 1) := by decide +kernel
theorem dX5_stamp_32 : decode cX5_stamp 32 = .ok (.lconst 1, 1) := by decide +kernel
theorem dX5_stamp_33 : decode cX5_stamp 33 = .ok (.ldc2_w 109, 3) := by decide +kernel
theorem dX5_stamp_36 : decode cX5_stamp 36 = .ok (.invokestatic 13, 3) := by decide +kernel
theorem dX5_stamp_39 : decode cX5_stamp 39 = .ok (.ifCond .eq 29, 3) := by decide +kernel
theorem dX5_stamp_42 : decode cX5_stamp 42 = .ok (.iload 4, 2) := by decide +kernel
theorem dX5_stamp_44 : decode cX5_stamp 44 = .ok (.i2l, 1) := by decide +kernel
theorem dX5_stamp_45 : decode cX5_stamp 45 = .ok (.lconst 1, 1) := by decide +kernel
theorem dX5_stamp_46 : decode cX5_stamp 46 = .ok (.ldc2_w 111, 3) := by decide +kernel
theorem dX5_stamp_49 : decode cX5_stamp 49 = .ok (.invokestatic 13, 3) := by decide +kernel
theorem dX5_stamp_52 : decode cX5_stamp 52 = .ok (.ifCond .eq 16, 3) := by decide +kernel
theorem dX5_stamp_55 : decode cX5_stamp 55 = .ok (.iload 5, 2) := by decide +kernel
theorem dX5_stamp_57 : decode cX5_stamp 57 = .ok (.i2l, 1) := by decide +kernel
theorem dX5_stamp_58 : decode cX5_stamp 58 = .ok (.lconst 0, 1) := by decide +kernel
theorem dX5_stamp_59 : decode cX5_stamp 59 = .ok (.ldc2_w 113, 3) := by decide +kernel
theorem dX5_stamp_62 : decode cX5_stamp 62 = .ok (.invokestatic 13, 3) := by decide +kernel
theorem dX5_stamp_65 : decode cX5_stamp 65 = .ok (.ifCond .ne 6, 3) := by decide +kernel
theorem dX5_stamp_68 : decode cX5_stamp 68 = .ok (.bipush (-3), 2) := by decide +kernel
theorem dX5_stamp_70 : decode cX5_stamp 70 = .ok (.ireturn, 1) := by decide +kernel
theorem dX5_stamp_71 : decode cX5_stamp 71 = .ok (.aload_n 0, 1) := by decide +kernel
theorem dX5_stamp_72 : decode cX5_stamp 72 = .ok (.getfield 30, 3) := by decide +kernel
theorem dX5_stamp_75 : decode cX5_stamp 75 = .ok (.iload_n 1, 1) := by decide +kernel
theorem dX5_stamp_76 : decode cX5_stamp 76 = .ok (.sipush 512, 3) := by decide +kernel
theorem dX5_stamp_79 : decode cX5_stamp 79 = .ok (.iload_n 2, 1) := by decide +kernel
theorem dX5_stamp_80 : decode cX5_stamp 80 = .ok (.sipush 1980, 3) := by decide +kernel
theorem dX5_stamp_83 : decode cX5_stamp 83 = .ok (.isub, 1) := by decide +kernel
theorem dX5_stamp_84 : decode cX5_stamp 84 = .ok (.imul, 1) := by decide +kernel
theorem dX5_stamp_85 : decode cX5_stamp 85 = .ok (.bipush 32, 2) := by decide +kernel
theorem dX5_stamp_87 : decode cX5_stamp 87 = .ok (.iload_n 3, 1) := by decide +kernel
theorem dX5_stamp_88 : decode cX5_stamp 88 = .ok (.imul, 1) := by decide +kernel
theorem dX5_stamp_89 : decode cX5_stamp 89 = .ok (.iadd, 1) := by decide +kernel
theorem dX5_stamp_90 : decode cX5_stamp 90 = .ok (.iload 4, 2) := by decide +kernel
theorem dX5_stamp_92 : decode cX5_stamp 92 = .ok (.iadd, 1) := by decide +kernel
theorem dX5_stamp_93 : decode cX5_stamp 93 = .ok (.iastore, 1) := by decide +kernel
theorem dX5_stamp_94 : decode cX5_stamp 94 = .ok (.aload_n 0, 1) := by decide +kernel
theorem dX5_stamp_95 : decode cX5_stamp 95 = .ok (.getfield 27, 3) := by decide +kernel
theorem dX5_stamp_98 : decode cX5_stamp 98 = .ok (.iload_n 1, 1) := by decide +kernel
theorem dX5_stamp_99 : decode cX5_stamp 99 = .ok (.sipush 2048, 3) := by decide +kernel
theorem dX5_stamp_102 : decode cX5_stamp 102 = .ok (.iload 5, 2) := by decide +kernel
theorem dX5_stamp_104 : decode cX5_stamp 104 = .ok (.sipush 3600, 3) := by decide +kernel
theorem dX5_stamp_107 : decode cX5_stamp 107 = .ok (.idiv, 1) := by decide +kernel
theorem dX5_stamp_108 : decode cX5_stamp 108 = .ok (.imul, 1) := by decide +kernel
theorem dX5_stamp_109 : decode cX5_stamp 109 = .ok (.bipush 32, 2) := by decide +kernel
theorem dX5_stamp_111 : decode cX5_stamp 111 = .ok (.iload 5, 2) := by decide +kernel
theorem dX5_stamp_113 : decode cX5_stamp 113 = .ok (.bipush 60, 2) := by decide +kernel
theorem dX5_stamp_115 : decode cX5_stamp 115 = .ok (.idiv, 1) := by decide +kernel
theorem dX5_stamp_116 : decode cX5_stamp 116 = .ok (.bipush 60, 2) := by decide +kernel
theorem dX5_stamp_118 : decode cX5_stamp 118 = .ok (.irem, 1) := by decide +kernel
theorem dX5_stamp_119 : decode cX5_stamp 119 = .ok (.imul, 1) := by decide +kernel
theorem dX5_stamp_120 : decode cX5_stamp 120 = .ok (.iadd, 1) := by decide +kernel
theorem dX5_stamp_121 : decode cX5_stamp 121 = .ok (.iload 5, 2) := by decide +kernel
theorem dX5_stamp_123 : decode cX5_stamp 123 = .ok (.bipush 60, 2) := by decide +kernel
theorem dX5_stamp_125 : decode cX5_stamp 125 = .ok (.irem, 1) := by decide +kernel
theorem dX5_stamp_126 : decode cX5_stamp 126 = .ok (.iconst 2, 1) := by decide +kernel
theorem dX5_stamp_127 : decode cX5_stamp 127 = .ok (.idiv, 1) := by decide +kernel
theorem dX5_stamp_128 : decode cX5_stamp 128 = .ok (.iadd, 1) := by decide +kernel
theorem dX5_stamp_129 : decode cX5_stamp 129 = .ok (.iastore, 1) := by decide +kernel
theorem dX5_stamp_130 : decode cX5_stamp 130 = .ok (.iconst 1, 1) := by decide +kernel
theorem dX5_stamp_131 : decode cX5_stamp 131 = .ok (.ireturn, 1) := by decide +kernel
theorem dX5_attributes_0 : decode cX5_attributes 0 = .ok (.aload_n 0, 1) := by decide +kernel
theorem dX5_attributes_1 : decode cX5_attributes 1 = .ok (.iconst 0, 1) := by decide +kernel
theorem dX5_attributes_2 : decode cX5_attributes 2 = .ok (.putfield 1, 3) := by decide +kernel
theorem dX5_attributes_5 : decode cX5_attributes 5 = .ok (.aload_n 0, 1) := by decide +kernel
theorem dX5_attributes_6 : decode cX5_attributes 6 = .ok (.iload_n 1, 1) := by decide +kernel
theorem dX5_attributes_7 : decode cX5_attributes 7 = .ok (.invokevirtual 81, 3) := by decide +kernel
theorem dX5_attributes_10 : decode cX5_attributes 10 = .ok (.ifCond .ne 6, 3) := by decide +kernel
theorem dX5_attributes_13 : decode cX5_attributes 13 = .ok (.bipush (-2), 2) := by decide +kernel
theorem dX5_attributes_15 : decode cX5_attributes 15 = .ok (.ireturn, 1) := by decide +kernel
theorem dX5_attributes_16 : decode cX5_attributes 16 = .ok (.aload_n 0, 1) := by decide +kernel
theorem dX5_attributes_17 : decode cX5_attributes 17 = .ok (.getfield 33, 3) := by decide +kernel
theorem dX5_attributes_20 : decode cX5_attributes 20 = .ok (.iload_n 1, 1) := by decide +kernel
theorem dX5_attributes_21 : decode cX5_attributes 21 = .ok (.iload_n 2, 1) := by decide +kernel
theorem dX5_attributes_22 : decode cX5_attributes 22 = .ok (.iastore, 1) := by decide +kernel
theorem dX5_attributes_23 : decode cX5_attributes 23 = .ok (.iconst 1, 1) := by decide +kernel
theorem dX5_attributes_24 : decode cX5_attributes 24 = .ok (.ireturn, 1) := by decide +kernel
theorem dX5_clear_0 : decode cX5_clear 0 = .ok (.aload_n 0, 1) := by decide +kernel
theorem dX5_clear_1 : decode cX5_clear 1 = .ok (.iconst 0, 1) := by decide +kernel
theorem dX5_clear_2 : decode cX5_clear 2 = .ok (.putfield 1, 3) := by decide +kernel
theorem dX5_clear_5 : decode cX5_clear 5 = .ok (.aload_n 0, 1) := by decide +kernel
theorem dX5_clear_6 : decode cX5_clear 6 = .ok (.getfield 10, 3) := by decide +kernel
theorem dX5_clear_9 : decode cX5_clear 9 = .ok (.istore_n 1, 1) := by decide +kernel
theorem dX5_clear_10 : decode cX5_clear 10 = .ok (.aload_n 0, 1) := by decide +kernel
theorem dX5_clear_11 : decode cX5_clear 11 = .ok (.iconst 0, 1) := by decide +kernel
theorem dX5_clear_12 : decode cX5_clear 12 = .ok (.putfield 10, 3) := by decide +kernel
theorem dX5_clear_15 : decode cX5_clear 15 = .ok (.iload_n 1, 1) := by decide +kernel
theorem dX5_clear_16 : decode cX5_clear 16 = .ok (.ireturn, 1) := by decide +kernel
theorem dX5_comment_0 : decode cX5_comment 0 = .ok (.aload_n 0, 1) := by decide +kernel
theorem dX5_comment_1 : decode cX5_comment 1 = .ok (.iconst 0, 1) := by decide +kernel
theorem dX5_comment_2 : decode cX5_comment 2 = .ok (.putfield 1, 3) := by decide +kernel
theorem dX5_comment_5 : decode cX5_comment 5 = .ok (.iload_n 3, 1) := by decide +kernel
theorem dX5_comment_6 : decode cX5_comment 6 = .ok (.i2l, 1) := by decide +kernel
theorem dX5_comment_7 : decode cX5_comment 7 = .ok (.lconst 0, 1) := by decide +kernel
theorem dX5_comment_8 : decode cX5_comment 8 = .ok (.ldc2_w 60, 3) := by decide +kernel
theorem dX5_comment_11 : decode cX5_comment 11 = .ok (.invokestatic 13, 3) := by decide +kernel
theorem dX5_comment_14 : decode cX5_comment 14 = .ok (.ifCond .ne 6, 3) := by decide +kernel
theorem dX5_comment_17 : decode cX5_comment 17 = .ok (.bipush (-3), 2) := by decide +kernel
theorem dX5_comment_19 : decode cX5_comment 19 = .ok (.ireturn, 1) := by decide +kernel
theorem dX5_comment_20 : decode cX5_comment 20 = .ok (.iconst 0, 1) := by decide +kernel
theorem dX5_comment_21 : decode cX5_comment 21 = .ok (.istore 4, 2) := by decide +kernel
theorem dX5_comment_23 : decode cX5_comment 23 = .ok (.iload 4, 2) := by decide +kernel
theorem dX5_comment_25 : decode cX5_comment 25 = .ok (.iload_n 3, 1) := by decide +kernel
theorem dX5_comment_26 : decode cX5_comment 26 = .ok (.if_icmp .ge 23, 3) := by decide +kernel
theorem dX5_comment_29 : decode cX5_comment 29 = .ok (.aload_n 0, 1) := by decide +kernel
theorem dX5_comment_30 : decode cX5_comment 30 = .ok (.getfield 115, 3) := by decide +kernel
theorem dX5_comment_33 : decode cX5_comment 33 = .ok (.iload 4, 2) := by decide +kernel
theorem dX5_comment_35 : decode cX5_comment 35 = .ok (.lload_n 1, 1) := by decide +kernel
theorem dX5_comment_36 : decode cX5_comment 36 = .ok (.iload_n 3, 1) := by decide +kernel
theorem dX5_comment_37 : decode cX5_comment 37 = .ok (.iload 4, 2) := by decide +kernel
theorem dX5_comment_39 : decode cX5_comment 39 = .ok (.invokestatic 19, 3) := by decide +kernel
theorem dX5_comment_42 : decode cX5_comment 42 = .ok (.iastore, 1) := by decide +kernel
theorem dX5_comment_43 : decode cX5_comment 43 = .ok (.iinc 4 1, 3) := by decide +kernel
theorem dX5_comment_46 : decode cX5_comment 46 = .ok (.goto (-23), 3) := by decide +kernel
theorem dX5_comment_49 : decode cX5_comment 49 = .ok (.aload_n 0, 1) := by decide +kernel
theorem dX5_comment_50 : decode cX5_comment 50 = .ok (.iload_n 3, 1) := by decide +kernel
theorem dX5_comment_51 : decode cX5_comment 51 = .ok (.putfield 118, 3) := by decide +kernel
theorem dX5_comment_54 : decode cX5_comment 54 = .ok (.iconst 1, 1) := by decide +kernel
theorem dX5_comment_55 : decode cX5_comment 55 = .ok (.ireturn, 1) := by decide +kernel
theorem dX5_sumOf_0 : decode cX5_sumOf 0 = .ok (.iconst (-1), 1) := by decide +kernel
theorem dX5_sumOf_1 : decode cX5_sumOf 1 = .ok (.istore_n 2, 1) := by decide +kernel
theorem dX5_sumOf_2 : decode cX5_sumOf 2 = .ok (.iconst 0, 1) := by decide +kernel
theorem dX5_sumOf_3 : decode cX5_sumOf 3 = .ok (.istore_n 3, 1) := by decide +kernel
theorem dX5_sumOf_4 : decode cX5_sumOf 4 = .ok (.iload_n 3, 1) := by decide +kernel
theorem dX5_sumOf_5 : decode cX5_sumOf 5 = .ok (.aload_n 0, 1) := by decide +kernel
theorem dX5_sumOf_6 : decode cX5_sumOf 6 = .ok (.getfield 43, 3) := by decide +kernel
theorem dX5_sumOf_9 : decode cX5_sumOf 9 = .ok (.iload_n 1, 1) := by decide +kernel
theorem dX5_sumOf_10 : decode cX5_sumOf 10 = .ok (.iaload, 1) := by decide +kernel
theorem dX5_sumOf_11 : decode cX5_sumOf 11 = .ok (.if_icmp .ge 63, 3) := by decide +kernel
theorem dX5_sumOf_14 : decode cX5_sumOf 14 = .ok (.iload_n 2, 1) := by decide +kernel
theorem dX5_sumOf_15 : decode cX5_sumOf 15 = .ok (.aload_n 0, 1) := by decide +kernel
theorem dX5_sumOf_16 : decode cX5_sumOf 16 = .ok (.getfield 89, 3) := by decide +kernel
theorem dX5_sumOf_19 : decode cX5_sumOf 19 = .ok (.bipush 40, 2) := by decide +kernel
theorem dX5_sumOf_21 : decode cX5_sumOf 21 = .ok (.iload_n 1, 1) := by decide +kernel
theorem dX5_sumOf_22 : decode cX5_sumOf 22 = .ok (.imul, 1) := by decide +kernel
theorem dX5_sumOf_23 : decode cX5_sumOf 23 = .ok (.iload_n 3, 1) := by decide +kernel
theorem dX5_sumOf_24 : decode cX5_sumOf 24 = .ok (.iadd, 1) := by decide +kernel
theorem dX5_sumOf_25 : decode cX5_sumOf 25 = .ok (.iaload, 1) := by decide +kernel
theorem dX5_sumOf_26 : decode cX5_sumOf 26 = .ok (.ixor, 1) := by decide +kernel
theorem dX5_sumOf_27 : decode cX5_sumOf 27 = .ok (.istore_n 2, 1) := by decide +kernel
theorem dX5_sumOf_28 : decode cX5_sumOf 28 = .ok (.iconst 0, 1) := by decide +kernel
theorem dX5_sumOf_29 : decode cX5_sumOf 29 = .ok (.istore 4, 2) := by decide +kernel
theorem dX5_sumOf_31 : decode cX5_sumOf 31 = .ok (.iload 4, 2) := by decide +kernel
theorem dX5_sumOf_33 : decode cX5_sumOf 33 = .ok (.bipush 8, 2) := by decide +kernel
theorem dX5_sumOf_35 : decode cX5_sumOf 35 = .ok (.if_icmp .ge 33, 3) := by decide +kernel
theorem dX5_sumOf_38 : decode cX5_sumOf 38 = .ok (.iload_n 2, 1) := by decide +kernel
theorem dX5_sumOf_39 : decode cX5_sumOf 39 = .ok (.iconst 1, 1) := by decide +kernel
theorem dX5_sumOf_40 : decode cX5_sumOf 40 = .ok (.iand, 1) := by decide +kernel
theorem dX5_sumOf_41 : decode cX5_sumOf 41 = .ok (.istore 5, 2) := by decide +kernel
theorem dX5_sumOf_43 : decode cX5_sumOf 43 = .ok (.iload_n 2, 1) := by decide +kernel
theorem dX5_sumOf_44 : decode cX5_sumOf 44 = .ok (.iconst 1, 1) := by decide +kernel
theorem dX5_sumOf_45 : decode cX5_sumOf 45 = .ok (.iushr, 1) := by decide +kernel
theorem dX5_sumOf_46 : decode cX5_sumOf 46 = .ok (.istore_n 2, 1) := by decide +kernel
theorem dX5_sumOf_47 : decode cX5_sumOf 47 = .ok (.iload 5, 2) := by decide +kernel
theorem dX5_sumOf_49 : decode cX5_sumOf 49 = .ok (.iconst 1, 1) := by decide +kernel
theorem dX5_sumOf_50 : decode cX5_sumOf 50 = .ok (.if_icmp .ne 10, 3) := by decide +kernel
theorem dX5_sumOf_53 : decode cX5_sumOf 53 = .ok (.iload_n 2, 1) := by decide +kernel
theorem dX5_sumOf_54 : decode cX5_sumOf 54 = .ok (.ldc 121, 2) := by decide +kernel
theorem dX5_sumOf_56 : decode cX5_sumOf 56 = .ok (.ixor, 1) := by decide +kernel
theorem dX5_sumOf_57 : decode cX5_sumOf 57 = .ok (.goto 4, 3) := by decide +kernel
theorem dX5_sumOf_60 : decode cX5_sumOf 60 = .ok (.iload_n 2, 1) := by decide +kernel
theorem dX5_sumOf_61 : decode cX5_sumOf 61 = .ok (.istore_n 2, 1) := by decide +kernel
theorem dX5_sumOf_62 : decode cX5_sumOf 62 = .ok (.iinc 4 1, 3) := by decide +kernel
theorem dX5_sumOf_65 : decode cX5_sumOf 65 = .ok (.goto (-34), 3) := by decide +kernel
theorem dX5_sumOf_68 : decode cX5_sumOf 68 = .ok (.iinc 3 1, 3) := by decide +kernel
theorem dX5_sumOf_71 : decode cX5_sumOf 71 = .ok (.goto (-67), 3) := by decide +kernel
theorem dX5_sumOf_74 : decode cX5_sumOf 74 = .ok (.iload_n 2, 1) := by decide +kernel
theorem dX5_sumOf_75 : decode cX5_sumOf 75 = .ok (.iconst (-1), 1) := by decide +kernel
theorem dX5_sumOf_76 : decode cX5_sumOf 76 = .ok (.ixor, 1) := by decide +kernel
theorem dX5_sumOf_77 : decode cX5_sumOf 77 = .ok (.ireturn, 1) := by decide +kernel
theorem dX5_sum_0 : decode cX5_sum 0 = .ok (.aload_n 0, 1) := by decide +kernel
theorem dX5_sum_1 : decode cX5_sum 1 = .ok (.getfield 72, 3) := by decide +kernel
theorem dX5_sum_4 : decode cX5_sum 4 = .ok (.iload_n 1, 1) := by decide +kernel
theorem dX5_sum_5 : decode cX5_sum 5 = .ok (.iaload, 1) := by decide +kernel
theorem dX5_sum_6 : decode cX5_sum 6 = .ok (.iconst 2, 1) := by decide +kernel
theorem dX5_sum_7 : decode cX5_sum 7 = .ok (.if_icmp .ne 7, 3) := by decide +kernel
theorem dX5_sum_10 : decode cX5_sum 10 = .ok (.iconst 0, 1) := by decide +kernel
theorem dX5_sum_11 : decode cX5_sum 11 = .ok (.goto 36, 3) := by decide +kernel
theorem dX5_sum_14 : decode cX5_sum 14 = .ok (.aload_n 0, 1) := by decide +kernel
theorem dX5_sum_15 : decode cX5_sum 15 = .ok (.getfield 72, 3) := by decide +kernel
theorem dX5_sum_18 : decode cX5_sum 18 = .ok (.iload_n 1, 1) := by decide +kernel
theorem dX5_sum_19 : decode cX5_sum 19 = .ok (.iaload, 1) := by decide +kernel
theorem dX5_sum_20 : decode cX5_sum 20 = .ok (.iconst 1, 1) := by decide +kernel
theorem dX5_sum_21 : decode cX5_sum 21 = .ok (.if_icmp .eq 12, 3) := by decide +kernel
theorem dX5_sum_24 : decode cX5_sum 24 = .ok (.aload_n 0, 1) := by decide +kernel
theorem dX5_sum_25 : decode cX5_sum 25 = .ok (.getfield 52, 3) := by decide +kernel
theorem dX5_sum_28 : decode cX5_sum 28 = .ok (.iload_n 1, 1) := by decide +kernel
theorem dX5_sum_29 : decode cX5_sum 29 = .ok (.baload, 1) := by decide +kernel
theorem dX5_sum_30 : decode cX5_sum 30 = .ok (.ifCond .eq 12, 3) := by decide +kernel
theorem dX5_sum_33 : decode cX5_sum 33 = .ok (.aload_n 0, 1) := by decide +kernel
theorem dX5_sum_34 : decode cX5_sum 34 = .ok (.getfield 49, 3) := by decide +kernel
theorem dX5_sum_37 : decode cX5_sum 37 = .ok (.iload_n 1, 1) := by decide +kernel
theorem dX5_sum_38 : decode cX5_sum 38 = .ok (.iaload, 1) := by decide +kernel
theorem dX5_sum_39 : decode cX5_sum 39 = .ok (.goto 8, 3) := by decide +kernel
theorem dX5_sum_42 : decode cX5_sum 42 = .ok (.aload_n 0, 1) := by decide +kernel
theorem dX5_sum_43 : decode cX5_sum 43 = .ok (.iload_n 1, 1) := by decide +kernel
theorem dX5_sum_44 : decode cX5_sum 44 = .ok (.invokevirtual 122, 3) := by decide +kernel
theorem dX5_sum_47 : decode cX5_sum 47 = .ok (.ireturn, 1) := by decide +kernel
theorem dX5_trueSize_0 : decode cX5_trueSize 0 = .ok (.aload_n 0, 1) := by decide +kernel
theorem dX5_trueSize_1 : decode cX5_trueSize 1 = .ok (.getfield 72, 3) := by decide +kernel
theorem dX5_trueSize_4 : decode cX5_trueSize 4 = .ok (.iload_n 1, 1) := by decide +kernel
theorem dX5_trueSize_5 : decode cX5_trueSize 5 = .ok (.iaload, 1) := by decide +kernel
theorem dX5_trueSize_6 : decode cX5_trueSize 6 = .ok (.iconst 2, 1) := by decide +kernel
theorem dX5_trueSize_7 : decode cX5_trueSize 7 = .ok (.if_icmp .ne 7, 3) := by decide +kernel
theorem dX5_trueSize_10 : decode cX5_trueSize 10 = .ok (.iconst 0, 1) := by decide +kernel
theorem dX5_trueSize_11 : decode cX5_trueSize 11 = .ok (.goto 28, 3) := by decide +kernel
theorem dX5_trueSize_14 : decode cX5_trueSize 14 = .ok (.aload_n 0, 1) := by decide +kernel
theorem dX5_trueSize_15 : decode cX5_trueSize 15 = .ok (.getfield 72, 3) := by decide +kernel
theorem dX5_trueSize_18 : decode cX5_trueSize 18 = .ok (.iload_n 1, 1) := by decide +kernel
theorem dX5_trueSize_19 : decode cX5_trueSize 19 = .ok (.iaload, 1) := by decide +kernel
theorem dX5_trueSize_20 : decode cX5_trueSize 20 = .ok (.iconst 1, 1) := by decide +kernel
theorem dX5_trueSize_21 : decode cX5_trueSize 21 = .ok (.if_icmp .ne 12, 3) := by decide +kernel
theorem dX5_trueSize_24 : decode cX5_trueSize 24 = .ok (.aload_n 0, 1) := by decide +kernel
theorem dX5_trueSize_25 : decode cX5_trueSize 25 = .ok (.getfield 46, 3) := by decide +kernel
theorem dX5_trueSize_28 : decode cX5_trueSize 28 = .ok (.iload_n 1, 1) := by decide +kernel
theorem dX5_trueSize_29 : decode cX5_trueSize 29 = .ok (.iaload, 1) := by decide +kernel
theorem dX5_trueSize_30 : decode cX5_trueSize 30 = .ok (.goto 9, 3) := by decide +kernel
theorem dX5_trueSize_33 : decode cX5_trueSize 33 = .ok (.aload_n 0, 1) := by decide +kernel
theorem dX5_trueSize_34 : decode cX5_trueSize 34 = .ok (.getfield 43, 3) := by decide +kernel
theorem dX5_trueSize_37 : decode cX5_trueSize 37 = .ok (.iload_n 1, 1) := by decide +kernel
theorem dX5_trueSize_38 : decode cX5_trueSize 38 = .ok (.iaload, 1) := by decide +kernel
theorem dX5_trueSize_39 : decode cX5_trueSize 39 = .ok (.ireturn, 1) := by decide +kernel
theorem dX5_put_0 : decode cX5_put 0 = .ok (.iconst 0, 1) := by decide +kernel
theorem dX5_put_1 : decode cX5_put 1 = .ok (.istore 4, 2) := by decide +kernel
theorem dX5_put_3 : decode cX5_put 3 = .ok (.iload 4, 2) := by decide +kernel
theorem dX5_put_5 : decode cX5_put 5 = .ok (.iload_n 3, 1) := by decide +kernel
theorem dX5_put_6 : decode cX5_put 6 = .ok (.if_icmp .ge 50, 3) := by decide +kernel
theorem dX5_put_9 : decode cX5_put 9 = .ok (.aload_n 0, 1) := by decide +kernel
theorem dX5_put_10 : decode cX5_put 10 = .ok (.getfield 125, 3) := by decide +kernel
theorem dX5_put_13 : decode cX5_put 13 = .ok (.sipush 2000, 3) := by decide +kernel
theorem dX5_put_16 : decode cX5_put 16 = .ok (.if_icmp .ge 24, 3) := by decide +kernel
theorem dX5_put_19 : decode cX5_put 19 = .ok (.aload_n 0, 1) := by decide +kernel
theorem dX5_put_20 : decode cX5_put 20 = .ok (.getfield 128, 3) := by decide +kernel
theorem dX5_put_23 : decode cX5_put 23 = .ok (.aload_n 0, 1) := by decide +kernel
theorem dX5_put_24 : decode cX5_put 24 = .ok (.getfield 125, 3) := by decide +kernel
theorem dX5_put_27 : decode cX5_put 27 = .ok (.lload_n 1, 1) := by decide +kernel
theorem dX5_put_28 : decode cX5_put 28 = .ok (.bipush 8, 2) := by decide +kernel
theorem dX5_put_30 : decode cX5_put 30 = .ok (.iload 4, 2) := by decide +kernel
theorem dX5_put_32 : decode cX5_put 32 = .ok (.imul, 1) := by decide +kernel
theorem dX5_put_33 : decode cX5_put 33 = .ok (.lshr, 1) := by decide +kernel
theorem dX5_put_34 : decode cX5_put 34 = .ok (.ldc2_w 17, 3) := by decide +kernel
theorem dX5_put_37 : decode cX5_put 37 = .ok (.land, 1) := by decide +kernel
theorem dX5_put_38 : decode cX5_put 38 = .ok (.l2i, 1) := by decide +kernel
theorem dX5_put_39 : decode cX5_put 39 = .ok (.iastore, 1) := by decide +kernel
theorem dX5_put_40 : decode cX5_put 40 = .ok (.aload_n 0, 1) := by decide +kernel
theorem dX5_put_41 : decode cX5_put 41 = .ok (.dup, 1) := by decide +kernel
theorem dX5_put_42 : decode cX5_put 42 = .ok (.getfield 125, 3) := by decide +kernel
theorem dX5_put_45 : decode cX5_put 45 = .ok (.iconst 1, 1) := by decide +kernel
theorem dX5_put_46 : decode cX5_put 46 = .ok (.iadd, 1) := by decide +kernel
theorem dX5_put_47 : decode cX5_put 47 = .ok (.putfield 125, 3) := by decide +kernel
theorem dX5_put_50 : decode cX5_put 50 = .ok (.iinc 4 1, 3) := by decide +kernel
theorem dX5_put_53 : decode cX5_put 53 = .ok (.goto (-50), 3) := by decide +kernel
theorem dX5_put_56 : decode cX5_put 56 = .ok (.return_, 1) := by decide +kernel
theorem dX5_extraLong_0 : decode cX5_extraLong 0 = .ok (.aload_n 0, 1) := by decide +kernel
theorem dX5_extraLong_1 : decode cX5_extraLong 1 = .ok (.getfield 75, 3) := by decide +kernel
theorem dX5_extraLong_4 : decode cX5_extraLong 4 = .ok (.iload_n 1, 1) := by decide +kernel
theorem dX5_extraLong_5 : decode cX5_extraLong 5 = .ok (.iaload, 1) := by decide +kernel
theorem dX5_extraLong_6 : decode cX5_extraLong 6 = .ok (.iconst 2, 1) := by decide +kernel
theorem dX5_extraLong_7 : decode cX5_extraLong 7 = .ok (.if_icmp .ne 8, 3) := by decide +kernel
theorem dX5_extraLong_10 : decode cX5_extraLong 10 = .ok (.bipush 20, 2) := by decide +kernel
theorem dX5_extraLong_12 : decode cX5_extraLong 12 = .ok (.goto 4, 3) := by decide +kernel
theorem dX5_extraLong_15 : decode cX5_extraLong 15 = .ok (.iconst 0, 1) := by decide +kernel
theorem dX5_extraLong_16 : decode cX5_extraLong 16 = .ok (.istore_n 2, 1) := by decide +kernel
theorem dX5_extraLong_17 : decode cX5_extraLong 17 = .ok (.iconst 0, 1) := by decide +kernel
theorem dX5_extraLong_18 : decode cX5_extraLong 18 = .ok (.istore_n 3, 1) := by decide +kernel
theorem dX5_extraLong_19 : decode cX5_extraLong 19 = .ok (.iload_n 3, 1) := by decide +kernel
theorem dX5_extraLong_20 : decode cX5_extraLong 20 = .ok (.aload_n 0, 1) := by decide +kernel
theorem dX5_extraLong_21 : decode cX5_extraLong 21 = .ok (.getfield 36, 3) := by decide +kernel
theorem dX5_extraLong_24 : decode cX5_extraLong 24 = .ok (.iload_n 1, 1) := by decide +kernel
theorem dX5_extraLong_25 : decode cX5_extraLong 25 = .ok (.iaload, 1) := by decide +kernel
theorem dX5_extraLong_26 : decode cX5_extraLong 26 = .ok (.if_icmp .ge 24, 3) := by decide +kernel
theorem dX5_extraLong_29 : decode cX5_extraLong 29 = .ok (.iload_n 2, 1) := by decide +kernel
theorem dX5_extraLong_30 : decode cX5_extraLong 30 = .ok (.iconst 4, 1) := by decide +kernel
theorem dX5_extraLong_31 : decode cX5_extraLong 31 = .ok (.aload_n 0, 1) := by decide +kernel
theorem dX5_extraLong_32 : decode cX5_extraLong 32 = .ok (.getfield 99, 3) := by decide +kernel
theorem dX5_extraLong_35 : decode cX5_extraLong 35 = .ok (.iconst 3, 1) := by decide +kernel
theorem dX5_extraLong_36 : decode cX5_extraLong 36 = .ok (.iload_n 1, 1) := by decide +kernel
theorem dX5_extraLong_37 : decode cX5_extraLong 37 = .ok (.imul, 1) := by decide +kernel
theorem dX5_extraLong_38 : decode cX5_extraLong 38 = .ok (.iload_n 3, 1) := by decide +kernel
theorem dX5_extraLong_39 : decode cX5_extraLong 39 = .ok (.iadd, 1) := by decide +kernel
theorem dX5_extraLong_40 : decode cX5_extraLong 40 = .ok (.iaload, 1) := by decide +kernel
theorem dX5_extraLong_41 : decode cX5_extraLong 41 = .ok (.iadd, 1) := by decide +kernel
theorem dX5_extraLong_42 : decode cX5_extraLong 42 = .ok (.iadd, 1) := by decide +kernel
theorem dX5_extraLong_43 : decode cX5_extraLong 43 = .ok (.istore_n 2, 1) := by decide +kernel
theorem dX5_extraLong_44 : decode cX5_extraLong 44 = .ok (.iinc 3 1, 3) := by decide +kernel
theorem dX5_extraLong_47 : decode cX5_extraLong 47 = .ok (.goto (-28), 3) := by decide +kernel
theorem dX5_extraLong_50 : decode cX5_extraLong 50 = .ok (.iload_n 2, 1) := by decide +kernel
theorem dX5_extraLong_51 : decode cX5_extraLong 51 = .ok (.ireturn, 1) := by decide +kernel
theorem dX5_putName_0 : decode cX5_putName 0 = .ok (.iconst 0, 1) := by decide +kernel
theorem dX5_putName_1 : decode cX5_putName 1 = .ok (.istore_n 2, 1) := by decide +kernel
theorem dX5_putName_2 : decode cX5_putName 2 = .ok (.iload_n 2, 1) := by decide +kernel
theorem dX5_putName_3 : decode cX5_putName 3 = .ok (.aload_n 0, 1) := by decide +kernel
theorem dX5_putName_4 : decode cX5_putName 4 = .ok (.getfield 23, 3) := by decide +kernel
theorem dX5_putName_7 : decode cX5_putName 7 = .ok (.iload_n 1, 1) := by decide +kernel
theorem dX5_putName_8 : decode cX5_putName 8 = .ok (.iaload, 1) := by decide +kernel
theorem dX5_putName_9 : decode cX5_putName 9 = .ok (.if_icmp .ge 26, 3) := by decide +kernel
theorem dX5_putName_12 : decode cX5_putName 12 = .ok (.aload_n 0, 1) := by decide +kernel
theorem dX5_putName_13 : decode cX5_putName 13 = .ok (.aload_n 0, 1) := by decide +kernel
theorem dX5_putName_14 : decode cX5_putName 14 = .ok (.getfield 78, 3) := by decide +kernel
theorem dX5_putName_17 : decode cX5_putName 17 = .ok (.bipush 16, 2) := by decide +kernel
theorem dX5_putName_19 : decode cX5_putName 19 = .ok (.iload_n 1, 1) := by decide +kernel
theorem dX5_putName_20 : decode cX5_putName 20 = .ok (.imul, 1) := by decide +kernel
theorem dX5_putName_21 : decode cX5_putName 21 = .ok (.iload_n 2, 1) := by decide +kernel
theorem dX5_putName_22 : decode cX5_putName 22 = .ok (.iadd, 1) := by decide +kernel
theorem dX5_putName_23 : decode cX5_putName 23 = .ok (.iaload, 1) := by decide +kernel
theorem dX5_putName_24 : decode cX5_putName 24 = .ok (.i2l, 1) := by decide +kernel
theorem dX5_putName_25 : decode cX5_putName 25 = .ok (.iconst 1, 1) := by decide +kernel
theorem dX5_putName_26 : decode cX5_putName 26 = .ok (.invokevirtual 131, 3) := by decide +kernel
theorem dX5_putName_29 : decode cX5_putName 29 = .ok (.iinc 2 1, 3) := by decide +kernel
theorem dX5_putName_32 : decode cX5_putName 32 = .ok (.goto (-30), 3) := by decide +kernel
theorem dX5_putName_35 : decode cX5_putName 35 = .ok (.aload_n 0, 1) := by decide +kernel
theorem dX5_putName_36 : decode cX5_putName 36 = .ok (.getfield 75, 3) := by decide +kernel
theorem dX5_putName_39 : decode cX5_putName 39 = .ok (.iload_n 1, 1) := by decide +kernel
theorem dX5_putName_40 : decode cX5_putName 40 = .ok (.iaload, 1) := by decide +kernel
theorem dX5_putName_41 : decode cX5_putName 41 = .ok (.iconst 2, 1) := by decide +kernel
theorem dX5_putName_42 : decode cX5_putName 42 = .ok (.if_icmp .ne 42, 3) := by decide +kernel
theorem dX5_putName_45 : decode cX5_putName 45 = .ok (.aload_n 0, 1) := by decide +kernel
theorem dX5_putName_46 : decode cX5_putName 46 = .ok (.lconst 1, 1) := by decide +kernel
theorem dX5_putName_47 : decode cX5_putName 47 = .ok (.iconst 2, 1) := by decide +kernel
theorem dX5_putName_48 : decode cX5_putName 48 = .ok (.invokevirtual 131, 3) := by decide +kernel
theorem dX5_putName_51 : decode cX5_putName 51 = .ok (.aload_n 0, 1) := by decide +kernel
theorem dX5_putName_52 : decode cX5_putName 52 = .ok (.ldc2_w 135, 3) := by decide +kernel
theorem dX5_putName_55 : decode cX5_putName 55 = .ok (.iconst 2, 1) := by decide +kernel
theorem dX5_putName_56 : decode cX5_putName 56 = .ok (.invokevirtual 131, 3) := by decide +kernel
theorem dX5_putName_59 : decode cX5_putName 59 = .ok (.aload_n 0, 1) := by decide +kernel
theorem dX5_putName_60 : decode cX5_putName 60 = .ok (.aload_n 0, 1) := by decide +kernel
theorem dX5_putName_61 : decode cX5_putName 61 = .ok (.iload_n 1, 1) := by decide +kernel
theorem dX5_putName_62 : decode cX5_putName 62 = .ok (.invokevirtual 137, 3) := by decide +kernel
theorem dX5_putName_65 : decode cX5_putName 65 = .ok (.i2l, 1) := by decide +kernel
theorem dX5_putName_66 : decode cX5_putName 66 = .ok (.bipush 8, 2) := by decide +kernel
theorem dX5_putName_68 : decode cX5_putName 68 = .ok (.invokevirtual 131, 3) := by decide +kernel
theorem dX5_putName_71 : decode cX5_putName 71 = .ok (.aload_n 0, 1) := by decide +kernel
theorem dX5_putName_72 : decode cX5_putName 72 = .ok (.aload_n 0, 1) := by decide +kernel
theorem dX5_putName_73 : decode cX5_putName 73 = .ok (.getfield 43, 3) := by decide +kernel
theorem dX5_putName_76 : decode cX5_putName 76 = .ok (.iload_n 1, 1) := by decide +kernel
theorem dX5_putName_77 : decode cX5_putName 77 = .ok (.iaload, 1) := by decide +kernel
theorem dX5_putName_78 : decode cX5_putName 78 = .ok (.i2l, 1) := by decide +kernel
theorem dX5_putName_79 : decode cX5_putName 79 = .ok (.bipush 8, 2) := by decide +kernel
theorem dX5_putName_81 : decode cX5_putName 81 = .ok (.invokevirtual 131, 3) := by decide +kernel
theorem dX5_putName_84 : decode cX5_putName 84 = .ok (.iconst 3, 1) := by decide +kernel
theorem dX5_putName_85 : decode cX5_putName 85 = .ok (.iload_n 1, 1) := by decide +kernel
theorem dX5_putName_86 : decode cX5_putName 86 = .ok (.imul, 1) := by decide +kernel
theorem dX5_putName_87 : decode cX5_putName 87 = .ok (.istore_n 2, 1) := by decide +kernel
theorem dX5_putName_88 : decode cX5_putName 88 = .ok (.iload_n 2, 1) := by decide +kernel
theorem dX5_putName_89 : decode cX5_putName 89 = .ok (.iconst 3, 1) := by decide +kernel
theorem dX5_putName_90 : decode cX5_putName 90 = .ok (.iload_n 1, 1) := by decide +kernel
theorem dX5_putName_91 : decode cX5_putName 91 = .ok (.imul, 1) := by decide +kernel
theorem dX5_putName_92 : decode cX5_putName 92 = .ok (.aload_n 0, 1) := by decide +kernel
theorem dX5_putName_93 : decode cX5_putName 93 = .ok (.getfield 36, 3) := by decide +kernel
theorem dX5_putName_96 : decode cX5_putName 96 = .ok (.iload_n 1, 1) := by decide +kernel
theorem dX5_putName_97 : decode cX5_putName 97 = .ok (.iaload, 1) := by decide +kernel
theorem dX5_putName_98 : decode cX5_putName 98 = .ok (.iadd, 1) := by decide +kernel
theorem dX5_putName_99 : decode cX5_putName 99 = .ok (.if_icmp .ge 68, 3) := by decide +kernel
theorem dX5_putName_102 : decode cX5_putName 102 = .ok (.aload_n 0, 1) := by decide +kernel
theorem dX5_putName_103 : decode cX5_putName 103 = .ok (.aload_n 0, 1) := by decide +kernel
theorem dX5_putName_104 : decode cX5_putName 104 = .ok (.getfield 96, 3) := by decide +kernel
theorem dX5_putName_107 : decode cX5_putName 107 = .ok (.iload_n 2, 1) := by decide +kernel
theorem dX5_putName_108 : decode cX5_putName 108 = .ok (.iaload, 1) := by decide +kernel
theorem dX5_putName_109 : decode cX5_putName 109 = .ok (.i2l, 1) := by decide +kernel
theorem dX5_putName_110 : decode cX5_putName 110 = .ok (.iconst 2, 1) := by decide +kernel
theorem dX5_putName_111 : decode cX5_putName 111 = .ok (.invokevirtual 131, 3) := by decide +kernel
theorem dX5_putName_114 : decode cX5_putName 114 = .ok (.aload_n 0, 1) := by decide +kernel
theorem dX5_putName_115 : decode cX5_putName 115 = .ok (.aload_n 0, 1) := by decide +kernel
theorem dX5_putName_116 : decode cX5_putName 116 = .ok (.getfield 99, 3) := by decide +kernel
theorem dX5_putName_119 : decode cX5_putName 119 = .ok (.iload_n 2, 1) := by decide +kernel
theorem dX5_putName_120 : decode cX5_putName 120 = .ok (.iaload, 1) := by decide +kernel
theorem dX5_putName_121 : decode cX5_putName 121 = .ok (.i2l, 1) := by decide +kernel
theorem dX5_putName_122 : decode cX5_putName 122 = .ok (.iconst 2, 1) := by decide +kernel
theorem dX5_putName_123 : decode cX5_putName 123 = .ok (.invokevirtual 131, 3) := by decide +kernel
theorem dX5_putName_126 : decode cX5_putName 126 = .ok (.iconst 0, 1) := by decide +kernel
theorem dX5_putName_127 : decode cX5_putName 127 = .ok (.istore_n 3, 1) := by decide +kernel
theorem dX5_putName_128 : decode cX5_putName 128 = .ok (.iload_n 3, 1) := by decide +kernel
theorem dX5_putName_129 : decode cX5_putName 129 = .ok (.aload_n 0, 1) := by decide +kernel
theorem dX5_putName_130 : decode cX5_putName 130 = .ok (.getfield 99, 3) := by decide +kernel
theorem dX5_putName_133 : decode cX5_putName 133 = .ok (.iload_n 2, 1) := by decide +kernel
theorem dX5_putName_134 : decode cX5_putName 134 = .ok (.iaload, 1) := by decide +kernel
theorem dX5_putName_135 : decode cX5_putName 135 = .ok (.if_icmp .ge 26, 3) := by decide +kernel
theorem dX5_putName_138 : decode cX5_putName 138 = .ok (.aload_n 0, 1) := by decide +kernel
theorem dX5_putName_139 : decode cX5_putName 139 = .ok (.aload_n 0, 1) := by decide +kernel
theorem dX5_putName_140 : decode cX5_putName 140 = .ok (.getfield 102, 3) := by decide +kernel
theorem dX5_putName_143 : decode cX5_putName 143 = .ok (.bipush 8, 2) := by decide +kernel
theorem dX5_putName_145 : decode cX5_putName 145 = .ok (.iload_n 2, 1) := by decide +kernel
theorem dX5_putName_146 : decode cX5_putName 146 = .ok (.imul, 1) := by decide +kernel
theorem dX5_putName_147 : decode cX5_putName 147 = .ok (.iload_n 3, 1) := by decide +kernel
theorem dX5_putName_148 : decode cX5_putName 148 = .ok (.iadd, 1) := by decide +kernel
theorem dX5_putName_149 : decode cX5_putName 149 = .ok (.iaload, 1) := by decide +kernel
theorem dX5_putName_150 : decode cX5_putName 150 = .ok (.i2l, 1) := by decide +kernel
theorem dX5_putName_151 : decode cX5_putName 151 = .ok (.iconst 1, 1) := by decide +kernel
theorem dX5_putName_152 : decode cX5_putName 152 = .ok (.invokevirtual 131, 3) := by decide +kernel
theorem dX5_putName_155 : decode cX5_putName 155 = .ok (.iinc 3 1, 3) := by decide +kernel
theorem dX5_putName_158 : decode cX5_putName 158 = .ok (.goto (-30), 3) := by decide +kernel
theorem dX5_putName_161 : decode cX5_putName 161 = .ok (.iinc 2 1, 3) := by decide +kernel
theorem dX5_putName_164 : decode cX5_putName 164 = .ok (.goto (-76), 3) := by decide +kernel
theorem dX5_putName_167 : decode cX5_putName 167 = .ok (.return_, 1) := by decide +kernel
theorem dX5_putFields_0 : decode cX5_putFields 0 = .ok (.iload_n 2, 1) := by decide +kernel
theorem dX5_putFields_1 : decode cX5_putFields 1 = .ok (.ifCond .eq 17, 3) := by decide +kernel
theorem dX5_putFields_4 : decode cX5_putFields 4 = .ok (.aload_n 0, 1) := by decide +kernel
theorem dX5_putFields_5 : decode cX5_putFields 5 = .ok (.getfield 75, 3) := by decide +kernel
theorem dX5_putFields_8 : decode cX5_putFields 8 = .ok (.iload_n 1, 1) := by decide +kernel
theorem dX5_putFields_9 : decode cX5_putFields 9 = .ok (.iaload, 1) := by decide +kernel
theorem dX5_putFields_10 : decode cX5_putFields 10 = .ok (.iconst 1, 1) := by decide +kernel
theorem dX5_putFields_11 : decode cX5_putFields 11 = .ok (.if_icmp .ne 7, 3) := by decide +kernel
theorem dX5_putFields_14 : decode cX5_putFields 14 = .ok (.iconst 1, 1) := by decide +kernel
theorem dX5_putFields_15 : decode cX5_putFields 15 = .ok (.goto 4, 3) := by decide +kernel
theorem dX5_putFields_18 : decode cX5_putFields 18 = .ok (.iconst 0, 1) := by decide +kernel
theorem dX5_putFields_19 : decode cX5_putFields 19 = .ok (.istore_n 3, 1) := by decide +kernel
theorem dX5_putFields_20 : decode cX5_putFields 20 = .ok (.aload_n 0, 1) := by decide +kernel
theorem dX5_putFields_21 : decode cX5_putFields 21 = .ok (.aload_n 0, 1) := by decide +kernel
theorem dX5_putFields_22 : decode cX5_putFields 22 = .ok (.getfield 75, 3) := by decide +kernel
theorem dX5_putFields_25 : decode cX5_putFields 25 = .ok (.iload_n 1, 1) := by decide +kernel
theorem dX5_putFields_26 : decode cX5_putFields 26 = .ok (.iaload, 1) := by decide +kernel
theorem dX5_putFields_27 : decode cX5_putFields 27 = .ok (.iconst 2, 1) := by decide +kernel
theorem dX5_putFields_28 : decode cX5_putFields 28 = .ok (.if_icmp .ne 9, 3) := by decide +kernel
theorem dX5_putFields_31 : decode cX5_putFields 31 = .ok (.ldc2_w 140, 3) := by decide +kernel
theorem dX5_putFields_34 : decode cX5_putFields 34 = .ok (.goto 6, 3) := by decide +kernel
theorem dX5_putFields_37 : decode cX5_putFields 37 = .ok (.ldc2_w 142, 3) := by decide +kernel
theorem dX5_putFields_40 : decode cX5_putFields 40 = .ok (.iconst 2, 1) := by decide +kernel
theorem dX5_putFields_41 : decode cX5_putFields 41 = .ok (.invokevirtual 131, 3) := by decide +kernel
theorem dX5_putFields_44 : decode cX5_putFields 44 = .ok (.aload_n 0, 1) := by decide +kernel
theorem dX5_putFields_45 : decode cX5_putFields 45 = .ok (.aload_n 0, 1) := by decide +kernel
theorem dX5_putFields_46 : decode cX5_putFields 46 = .ok (.getfield 75, 3) := by decide +kernel
theorem dX5_putFields_49 : decode cX5_putFields 49 = .ok (.iload_n 1, 1) := by decide +kernel
theorem dX5_putFields_50 : decode cX5_putFields 50 = .ok (.iaload, 1) := by decide +kernel
theorem dX5_putFields_51 : decode cX5_putFields 51 = .ok (.iconst 1, 1) := by decide +kernel
theorem dX5_putFields_52 : decode cX5_putFields 52 = .ok (.if_icmp .ne 9, 3) := by decide +kernel
theorem dX5_putFields_55 : decode cX5_putFields 55 = .ok (.ldc2_w 60, 3) := by decide +kernel
theorem dX5_putFields_58 : decode cX5_putFields 58 = .ok (.goto 4, 3) := by decide +kernel
theorem dX5_putFields_61 : decode cX5_putFields 61 = .ok (.lconst 0, 1) := by decide +kernel
theorem dX5_putFields_62 : decode cX5_putFields 62 = .ok (.iconst 2, 1) := by decide +kernel
theorem dX5_putFields_63 : decode cX5_putFields 63 = .ok (.invokevirtual 131, 3) := by decide +kernel
theorem dX5_putFields_66 : decode cX5_putFields 66 = .ok (.aload_n 0, 1) := by decide +kernel
theorem dX5_putFields_67 : decode cX5_putFields 67 = .ok (.aload_n 0, 1) := by decide +kernel
theorem dX5_putFields_68 : decode cX5_putFields 68 = .ok (.getfield 72, 3) := by decide +kernel
theorem dX5_putFields_71 : decode cX5_putFields 71 = .ok (.iload_n 1, 1) := by decide +kernel
theorem dX5_putFields_72 : decode cX5_putFields 72 = .ok (.iaload, 1) := by decide +kernel
theorem dX5_putFields_73 : decode cX5_putFields 73 = .ok (.iconst 1, 1) := by decide +kernel
theorem dX5_putFields_74 : decode cX5_putFields 74 = .ok (.if_icmp .ne 9, 3) := by decide +kernel
theorem dX5_putFields_77 : decode cX5_putFields 77 = .ok (.ldc2_w 60, 3) := by decide +kernel
theorem dX5_putFields_80 : decode cX5_putFields 80 = .ok (.goto 4, 3) := by decide +kernel
theorem dX5_putFields_83 : decode cX5_putFields 83 = .ok (.lconst 0, 1) := by decide +kernel
theorem dX5_putFields_84 : decode cX5_putFields 84 = .ok (.iconst 2, 1) := by decide +kernel
theorem dX5_putFields_85 : decode cX5_putFields 85 = .ok (.invokevirtual 131, 3) := by decide +kernel
theorem dX5_putFields_88 : decode cX5_putFields 88 = .ok (.aload_n 0, 1) := by decide +kernel
theorem dX5_putFields_89 : decode cX5_putFields 89 = .ok (.aload_n 0, 1) := by decide +kernel
theorem dX5_putFields_90 : decode cX5_putFields 90 = .ok (.getfield 27, 3) := by decide +kernel
theorem dX5_putFields_93 : decode cX5_putFields 93 = .ok (.iload_n 1, 1) := by decide +kernel
theorem dX5_putFields_94 : decode cX5_putFields 94 = .ok (.iaload, 1) := by decide +kernel
theorem dX5_putFields_95 : decode cX5_putFields 95 = .ok (.i2l, 1) := by decide +kernel
theorem dX5_putFields_96 : decode cX5_putFields 96 = .ok (.iconst 2, 1) := by decide +kernel
theorem dX5_putFields_97 : decode cX5_putFields 97 = .ok (.invokevirtual 131, 3) := by decide +kernel
theorem dX5_putFields_100 : decode cX5_putFields 100 = .ok (.aload_n 0, 1) := by decide +kernel
theorem dX5_putFields_101 : decode cX5_putFields 101 = .ok (.aload_n 0, 1) := by decide +kernel
theorem dX5_putFields_102 : decode cX5_putFields 102 = .ok (.getfield 30, 3) := by decide +kernel
theorem dX5_putFields_105 : decode cX5_putFields 105 = .ok (.iload_n 1, 1) := by decide +kernel
theorem dX5_putFields_106 : decode cX5_putFields 106 = .ok (.iaload, 1) := by decide +kernel
theorem dX5_putFields_107 : decode cX5_putFields 107 = .ok (.i2l, 1) := by decide +kernel
theorem dX5_putFields_108 : decode cX5_putFields 108 = .ok (.iconst 2, 1) := by decide +kernel
theorem dX5_putFields_109 : decode cX5_putFields 109 = .ok (.invokevirtual 131, 3) := by decide +kernel
theorem dX5_putFields_112 : decode cX5_putFields 112 = .ok (.aload_n 0, 1) := by decide +kernel
theorem dX5_putFields_113 : decode cX5_putFields 113 = .ok (.iload_n 3, 1) := by decide +kernel
theorem dX5_putFields_114 : decode cX5_putFields 114 = .ok (.ifCond .eq 7, 3) := by decide +kernel
theorem dX5_putFields_117 : decode cX5_putFields 117 = .ok (.lconst 0, 1) := by decide +kernel
theorem dX5_putFields_118 : decode cX5_putFields 118 = .ok (.goto 9, 3) := by decide +kernel
theorem dX5_putFields_121 : decode cX5_putFields 121 = .ok (.aload_n 0, 1) := by decide +kernel
theorem dX5_putFields_122 : decode cX5_putFields 122 = .ok (.iload_n 1, 1) := by decide +kernel
theorem dX5_putFields_123 : decode cX5_putFields 123 = .ok (.invokevirtual 144, 3) := by decide +kernel
theorem dX5_putFields_126 : decode cX5_putFields 126 = .ok (.i2l, 1) := by decide +kernel
theorem dX5_putFields_127 : decode cX5_putFields 127 = .ok (.iconst 4, 1) := by decide +kernel
theorem dX5_putFields_128 : decode cX5_putFields 128 = .ok (.invokevirtual 131, 3) := by decide +kernel
theorem dX5_putFields_131 : decode cX5_putFields 131 = .ok (.aload_n 0, 1) := by decide +kernel
theorem dX5_putFields_132 : decode cX5_putFields 132 = .ok (.iload_n 3, 1) := by decide +kernel
theorem dX5_putFields_133 : decode cX5_putFields 133 = .ok (.ifCond .eq 7, 3) := by decide +kernel
theorem dX5_putFields_136 : decode cX5_putFields 136 = .ok (.lconst 0, 1) := by decide +kernel
theorem dX5_putFields_137 : decode cX5_putFields 137 = .ok (.goto 26, 3) := by decide +kernel
theorem dX5_putFields_140 : decode cX5_putFields 140 = .ok (.aload_n 0, 1) := by decide +kernel
theorem dX5_putFields_141 : decode cX5_putFields 141 = .ok (.getfield 75, 3) := by decide +kernel
theorem dX5_putFields_144 : decode cX5_putFields 144 = .ok (.iload_n 1, 1) := by decide +kernel
theorem dX5_putFields_145 : decode cX5_putFields 145 = .ok (.iaload, 1) := by decide +kernel
theorem dX5_putFields_146 : decode cX5_putFields 146 = .ok (.iconst 2, 1) := by decide +kernel
theorem dX5_putFields_147 : decode cX5_putFields 147 = .ok (.if_icmp .ne 9, 3) := by decide +kernel
theorem dX5_putFields_150 : decode cX5_putFields 150 = .ok (.ldc2_w 147, 3) := by decide +kernel
theorem dX5_putFields_153 : decode cX5_putFields 153 = .ok (.goto 10, 3) := by decide +kernel
theorem dX5_putFields_156 : decode cX5_putFields 156 = .ok (.aload_n 0, 1) := by decide +kernel
theorem dX5_putFields_157 : decode cX5_putFields 157 = .ok (.getfield 43, 3) := by decide +kernel
theorem dX5_putFields_160 : decode cX5_putFields 160 = .ok (.iload_n 1, 1) := by decide +kernel
theorem dX5_putFields_161 : decode cX5_putFields 161 = .ok (.iaload, 1) := by decide +kernel
theorem dX5_putFields_162 : decode cX5_putFields 162 = .ok (.i2l, 1) := by decide +kernel
theorem dX5_putFields_163 : decode cX5_putFields 163 = .ok (.iconst 4, 1) := by decide +kernel
theorem dX5_putFields_164 : decode cX5_putFields 164 = .ok (.invokevirtual 131, 3) := by decide +kernel
theorem dX5_putFields_167 : decode cX5_putFields 167 = .ok (.aload_n 0, 1) := by decide +kernel
theorem dX5_putFields_168 : decode cX5_putFields 168 = .ok (.iload_n 3, 1) := by decide +kernel
theorem dX5_putFields_169 : decode cX5_putFields 169 = .ok (.ifCond .eq 7, 3) := by decide +kernel
theorem dX5_putFields_172 : decode cX5_putFields 172 = .ok (.lconst 0, 1) := by decide +kernel
theorem dX5_putFields_173 : decode cX5_putFields 173 = .ok (.goto 25, 3) := by decide +kernel
theorem dX5_putFields_176 : decode cX5_putFields 176 = .ok (.aload_n 0, 1) := by decide +kernel
theorem dX5_putFields_177 : decode cX5_putFields 177 = .ok (.getfield 75, 3) := by decide +kernel
theorem dX5_putFields_180 : decode cX5_putFields 180 = .ok (.iload_n 1, 1) := by decide +kernel
theorem dX5_putFields_181 : decode cX5_putFields 181 = .ok (.iaload, 1) := by decide +kernel
theorem dX5_putFields_182 : decode cX5_putFields 182 = .ok (.iconst 2, 1) := by decide +kernel
theorem dX5_putFields_183 : decode cX5_putFields 183 = .ok (.if_icmp .ne 9, 3) := by decide +kernel
theorem dX5_putFields_186 : decode cX5_putFields 186 = .ok (.ldc2_w 147, 3) := by decide +kernel
theorem dX5_putFields_189 : decode cX5_putFields 189 = .ok (.goto 9, 3) := by decide +kernel
theorem dX5_putFields_192 : decode cX5_putFields 192 = .ok (.aload_n 0, 1) := by decide +kernel
theorem dX5_putFields_193 : decode cX5_putFields 193 = .ok (.iload_n 1, 1) := by decide +kernel
theorem dX5_putFields_194 : decode cX5_putFields 194 = .ok (.invokevirtual 137, 3) := by decide +kernel
theorem dX5_putFields_197 : decode cX5_putFields 197 = .ok (.i2l, 1) := by decide +kernel
theorem dX5_putFields_198 : decode cX5_putFields 198 = .ok (.iconst 4, 1) := by decide +kernel
theorem dX5_putFields_199 : decode cX5_putFields 199 = .ok (.invokevirtual 131, 3) := by decide +kernel
theorem dX5_putFields_202 : decode cX5_putFields 202 = .ok (.aload_n 0, 1) := by decide +kernel
theorem dX5_putFields_203 : decode cX5_putFields 203 = .ok (.aload_n 0, 1) := by decide +kernel
theorem dX5_putFields_204 : decode cX5_putFields 204 = .ok (.getfield 23, 3) := by decide +kernel
theorem dX5_putFields_207 : decode cX5_putFields 207 = .ok (.iload_n 1, 1) := by decide +kernel
theorem dX5_putFields_208 : decode cX5_putFields 208 = .ok (.iaload, 1) := by decide +kernel
theorem dX5_putFields_209 : decode cX5_putFields 209 = .ok (.i2l, 1) := by decide +kernel
theorem dX5_putFields_210 : decode cX5_putFields 210 = .ok (.iconst 2, 1) := by decide +kernel
theorem dX5_putFields_211 : decode cX5_putFields 211 = .ok (.invokevirtual 131, 3) := by decide +kernel
theorem dX5_putFields_214 : decode cX5_putFields 214 = .ok (.aload_n 0, 1) := by decide +kernel
theorem dX5_putFields_215 : decode cX5_putFields 215 = .ok (.aload_n 0, 1) := by decide +kernel
theorem dX5_putFields_216 : decode cX5_putFields 216 = .ok (.iload_n 1, 1) := by decide +kernel
theorem dX5_putFields_217 : decode cX5_putFields 217 = .ok (.invokevirtual 149, 3) := by decide +kernel
theorem dX5_putFields_220 : decode cX5_putFields 220 = .ok (.i2l, 1) := by decide +kernel
theorem dX5_putFields_221 : decode cX5_putFields 221 = .ok (.iconst 2, 1) := by decide +kernel
theorem dX5_putFields_222 : decode cX5_putFields 222 = .ok (.invokevirtual 131, 3) := by decide +kernel
theorem dX5_putFields_225 : decode cX5_putFields 225 = .ok (.return_, 1) := by decide +kernel
theorem dX5_putLocal_0 : decode cX5_putLocal 0 = .ok (.aload_n 0, 1) := by decide +kernel
theorem dX5_putLocal_1 : decode cX5_putLocal 1 = .ok (.ldc2_w 152, 3) := by decide +kernel
theorem dX5_putLocal_4 : decode cX5_putLocal 4 = .ok (.iconst 4, 1) := by decide +kernel
theorem dX5_putLocal_5 : decode cX5_putLocal 5 = .ok (.invokevirtual 131, 3) := by decide +kernel
theorem dX5_putLocal_8 : decode cX5_putLocal 8 = .ok (.aload_n 0, 1) := by decide +kernel
theorem dX5_putLocal_9 : decode cX5_putLocal 9 = .ok (.iload_n 1, 1) := by decide +kernel
theorem dX5_putLocal_10 : decode cX5_putLocal 10 = .ok (.iconst 1, 1) := by decide +kernel
theorem dX5_putLocal_11 : decode cX5_putLocal 11 = .ok (.invokevirtual 154, 3) := by decide +kernel
theorem dX5_putLocal_14 : decode cX5_putLocal 14 = .ok (.aload_n 0, 1) := by decide +kernel
theorem dX5_putLocal_15 : decode cX5_putLocal 15 = .ok (.iload_n 1, 1) := by decide +kernel
theorem dX5_putLocal_16 : decode cX5_putLocal 16 = .ok (.invokevirtual 158, 3) := by decide +kernel
theorem dX5_putLocal_19 : decode cX5_putLocal 19 = .ok (.iconst 0, 1) := by decide +kernel
theorem dX5_putLocal_20 : decode cX5_putLocal 20 = .ok (.istore_n 2, 1) := by decide +kernel
theorem dX5_putLocal_21 : decode cX5_putLocal 21 = .ok (.iload_n 2, 1) := by decide +kernel
theorem dX5_putLocal_22 : decode cX5_putLocal 22 = .ok (.aload_n 0, 1) := by decide +kernel
theorem dX5_putLocal_23 : decode cX5_putLocal 23 = .ok (.getfield 43, 3) := by decide +kernel
theorem dX5_putLocal_26 : decode cX5_putLocal 26 = .ok (.iload_n 1, 1) := by decide +kernel
theorem dX5_putLocal_27 : decode cX5_putLocal 27 = .ok (.iaload, 1) := by decide +kernel
theorem dX5_putLocal_28 : decode cX5_putLocal 28 = .ok (.if_icmp .ge 26, 3) := by decide +kernel
theorem dX5_putLocal_31 : decode cX5_putLocal 31 = .ok (.aload_n 0, 1) := by decide +kernel
theorem dX5_putLocal_32 : decode cX5_putLocal 32 = .ok (.aload_n 0, 1) := by decide +kernel
theorem dX5_putLocal_33 : decode cX5_putLocal 33 = .ok (.getfield 89, 3) := by decide +kernel
theorem dX5_putLocal_36 : decode cX5_putLocal 36 = .ok (.bipush 40, 2) := by decide +kernel
theorem dX5_putLocal_38 : decode cX5_putLocal 38 = .ok (.iload_n 1, 1) := by decide +kernel
theorem dX5_putLocal_39 : decode cX5_putLocal 39 = .ok (.imul, 1) := by decide +kernel
theorem dX5_putLocal_40 : decode cX5_putLocal 40 = .ok (.iload_n 2, 1) := by decide +kernel
theorem dX5_putLocal_41 : decode cX5_putLocal 41 = .ok (.iadd, 1) := by decide +kernel
theorem dX5_putLocal_42 : decode cX5_putLocal 42 = .ok (.iaload, 1) := by decide +kernel
theorem dX5_putLocal_43 : decode cX5_putLocal 43 = .ok (.i2l, 1) := by decide +kernel
theorem dX5_putLocal_44 : decode cX5_putLocal 44 = .ok (.iconst 1, 1) := by decide +kernel
theorem dX5_putLocal_45 : decode cX5_putLocal 45 = .ok (.invokevirtual 131, 3) := by decide +kernel
theorem dX5_putLocal_48 : decode cX5_putLocal 48 = .ok (.iinc 2 1, 3) := by decide +kernel
theorem dX5_putLocal_51 : decode cX5_putLocal 51 = .ok (.goto (-30), 3) := by decide +kernel
theorem dX5_putLocal_54 : decode cX5_putLocal 54 = .ok (.aload_n 0, 1) := by decide +kernel
theorem dX5_putLocal_55 : decode cX5_putLocal 55 = .ok (.getfield 75, 3) := by decide +kernel
theorem dX5_putLocal_58 : decode cX5_putLocal 58 = .ok (.iload_n 1, 1) := by decide +kernel
theorem dX5_putLocal_59 : decode cX5_putLocal 59 = .ok (.iaload, 1) := by decide +kernel
theorem dX5_putLocal_60 : decode cX5_putLocal 60 = .ok (.iconst 1, 1) := by decide +kernel
theorem dX5_putLocal_61 : decode cX5_putLocal 61 = .ok (.if_icmp .ne 45, 3) := by decide +kernel
theorem dX5_putLocal_64 : decode cX5_putLocal 64 = .ok (.aload_n 0, 1) := by decide +kernel
theorem dX5_putLocal_65 : decode cX5_putLocal 65 = .ok (.ldc2_w 161, 3) := by decide +kernel
theorem dX5_putLocal_68 : decode cX5_putLocal 68 = .ok (.iconst 4, 1) := by decide +kernel
theorem dX5_putLocal_69 : decode cX5_putLocal 69 = .ok (.invokevirtual 131, 3) := by decide +kernel
theorem dX5_putLocal_72 : decode cX5_putLocal 72 = .ok (.aload_n 0, 1) := by decide +kernel
theorem dX5_putLocal_73 : decode cX5_putLocal 73 = .ok (.aload_n 0, 1) := by decide +kernel
theorem dX5_putLocal_74 : decode cX5_putLocal 74 = .ok (.iload_n 1, 1) := by decide +kernel
theorem dX5_putLocal_75 : decode cX5_putLocal 75 = .ok (.invokevirtual 144, 3) := by decide +kernel
theorem dX5_putLocal_78 : decode cX5_putLocal 78 = .ok (.i2l, 1) := by decide +kernel
theorem dX5_putLocal_79 : decode cX5_putLocal 79 = .ok (.iconst 4, 1) := by decide +kernel
theorem dX5_putLocal_80 : decode cX5_putLocal 80 = .ok (.invokevirtual 131, 3) := by decide +kernel
theorem dX5_putLocal_83 : decode cX5_putLocal 83 = .ok (.aload_n 0, 1) := by decide +kernel
theorem dX5_putLocal_84 : decode cX5_putLocal 84 = .ok (.aload_n 0, 1) := by decide +kernel
theorem dX5_putLocal_85 : decode cX5_putLocal 85 = .ok (.getfield 43, 3) := by decide +kernel
theorem dX5_putLocal_88 : decode cX5_putLocal 88 = .ok (.iload_n 1, 1) := by decide +kernel
theorem dX5_putLocal_89 : decode cX5_putLocal 89 = .ok (.iaload, 1) := by decide +kernel
theorem dX5_putLocal_90 : decode cX5_putLocal 90 = .ok (.i2l, 1) := by decide +kernel
theorem dX5_putLocal_91 : decode cX5_putLocal 91 = .ok (.iconst 4, 1) := by decide +kernel
theorem dX5_putLocal_92 : decode cX5_putLocal 92 = .ok (.invokevirtual 131, 3) := by decide +kernel
theorem dX5_putLocal_95 : decode cX5_putLocal 95 = .ok (.aload_n 0, 1) := by decide +kernel
theorem dX5_putLocal_96 : decode cX5_putLocal 96 = .ok (.aload_n 0, 1) := by decide +kernel
theorem dX5_putLocal_97 : decode cX5_putLocal 97 = .ok (.iload_n 1, 1) := by decide +kernel
theorem dX5_putLocal_98 : decode cX5_putLocal 98 = .ok (.invokevirtual 137, 3) := by decide +kernel
theorem dX5_putLocal_101 : decode cX5_putLocal 101 = .ok (.i2l, 1) := by decide +kernel
theorem dX5_putLocal_102 : decode cX5_putLocal 102 = .ok (.iconst 4, 1) := by decide +kernel
theorem dX5_putLocal_103 : decode cX5_putLocal 103 = .ok (.invokevirtual 131, 3) := by decide +kernel
theorem dX5_putLocal_106 : decode cX5_putLocal 106 = .ok (.return_, 1) := by decide +kernel
theorem dX5_localLong_0 : decode cX5_localLong 0 = .ok (.bipush 30, 2) := by decide +kernel
theorem dX5_localLong_2 : decode cX5_localLong 2 = .ok (.aload_n 0, 1) := by decide +kernel
theorem dX5_localLong_3 : decode cX5_localLong 3 = .ok (.getfield 23, 3) := by decide +kernel
theorem dX5_localLong_6 : decode cX5_localLong 6 = .ok (.iload_n 1, 1) := by decide +kernel
theorem dX5_localLong_7 : decode cX5_localLong 7 = .ok (.iaload, 1) := by decide +kernel
theorem dX5_localLong_8 : decode cX5_localLong 8 = .ok (.iadd, 1) := by decide +kernel
theorem dX5_localLong_9 : decode cX5_localLong 9 = .ok (.aload_n 0, 1) := by decide +kernel
theorem dX5_localLong_10 : decode cX5_localLong 10 = .ok (.iload_n 1, 1) := by decide +kernel
theorem dX5_localLong_11 : decode cX5_localLong 11 = .ok (.invokevirtual 149, 3) := by decide +kernel
theorem dX5_localLong_14 : decode cX5_localLong 14 = .ok (.iadd, 1) := by decide +kernel
theorem dX5_localLong_15 : decode cX5_localLong 15 = .ok (.aload_n 0, 1) := by decide +kernel
theorem dX5_localLong_16 : decode cX5_localLong 16 = .ok (.getfield 43, 3) := by decide +kernel
theorem dX5_localLong_19 : decode cX5_localLong 19 = .ok (.iload_n 1, 1) := by decide +kernel
theorem dX5_localLong_20 : decode cX5_localLong 20 = .ok (.iaload, 1) := by decide +kernel
theorem dX5_localLong_21 : decode cX5_localLong 21 = .ok (.iadd, 1) := by decide +kernel
theorem dX5_localLong_22 : decode cX5_localLong 22 = .ok (.aload_n 0, 1) := by decide +kernel
theorem dX5_localLong_23 : decode cX5_localLong 23 = .ok (.getfield 75, 3) := by decide +kernel
theorem dX5_localLong_26 : decode cX5_localLong 26 = .ok (.iload_n 1, 1) := by decide +kernel
theorem dX5_localLong_27 : decode cX5_localLong 27 = .ok (.iaload, 1) := by decide +kernel
theorem dX5_localLong_28 : decode cX5_localLong 28 = .ok (.iconst 1, 1) := by decide +kernel
theorem dX5_localLong_29 : decode cX5_localLong 29 = .ok (.if_icmp .ne 8, 3) := by decide +kernel
theorem dX5_localLong_32 : decode cX5_localLong 32 = .ok (.bipush 16, 2) := by decide +kernel
theorem dX5_localLong_34 : decode cX5_localLong 34 = .ok (.goto 4, 3) := by decide +kernel
theorem dX5_localLong_37 : decode cX5_localLong 37 = .ok (.iconst 0, 1) := by decide +kernel
theorem dX5_localLong_38 : decode cX5_localLong 38 = .ok (.iadd, 1) := by decide +kernel
theorem dX5_localLong_39 : decode cX5_localLong 39 = .ok (.ireturn, 1) := by decide +kernel
theorem dX5_centreLong_0 : decode cX5_centreLong 0 = .ok (.bipush 46, 2) := by decide +kernel
theorem dX5_centreLong_2 : decode cX5_centreLong 2 = .ok (.aload_n 0, 1) := by decide +kernel
theorem dX5_centreLong_3 : decode cX5_centreLong 3 = .ok (.getfield 23, 3) := by decide +kernel
theorem dX5_centreLong_6 : decode cX5_centreLong 6 = .ok (.iload_n 1, 1) := by decide +kernel
theorem dX5_centreLong_7 : decode cX5_centreLong 7 = .ok (.iaload, 1) := by decide +kernel
theorem dX5_centreLong_8 : decode cX5_centreLong 8 = .ok (.iadd, 1) := by decide +kernel
theorem dX5_centreLong_9 : decode cX5_centreLong 9 = .ok (.aload_n 0, 1) := by decide +kernel
theorem dX5_centreLong_10 : decode cX5_centreLong 10 = .ok (.iload_n 1, 1) := by decide +kernel
theorem dX5_centreLong_11 : decode cX5_centreLong 11 = .ok (.invokevirtual 149, 3) := by decide +kernel
theorem dX5_centreLong_14 : decode cX5_centreLong 14 = .ok (.iadd, 1) := by decide +kernel
theorem dX5_centreLong_15 : decode cX5_centreLong 15 = .ok (.ireturn, 1) := by decide +kernel
theorem dX5_isBare_0 : decode cX5_isBare 0 = .ok (.iconst 0, 1) := by decide +kernel
theorem dX5_isBare_1 : decode cX5_isBare 1 = .ok (.istore_n 1, 1) := by decide +kernel
theorem dX5_isBare_2 : decode cX5_isBare 2 = .ok (.iload_n 1, 1) := by decide +kernel
theorem dX5_isBare_3 : decode cX5_isBare 3 = .ok (.aload_n 0, 1) := by decide +kernel
theorem dX5_isBare_4 : decode cX5_isBare 4 = .ok (.getfield 10, 3) := by decide +kernel
theorem dX5_isBare_7 : decode cX5_isBare 7 = .ok (.if_icmp .ge 30, 3) := by decide +kernel
theorem dX5_isBare_10 : decode cX5_isBare 10 = .ok (.aload_n 0, 1) := by decide +kernel
theorem dX5_isBare_11 : decode cX5_isBare 11 = .ok (.getfield 72, 3) := by decide +kernel
theorem dX5_isBare_14 : decode cX5_isBare 14 = .ok (.iload_n 1, 1) := by decide +kernel
theorem dX5_isBare_15 : decode cX5_isBare 15 = .ok (.iaload, 1) := by decide +kernel
theorem dX5_isBare_16 : decode cX5_isBare 16 = .ok (.iconst 2, 1) := by decide +kernel
theorem dX5_isBare_17 : decode cX5_isBare 17 = .ok (.if_icmp .eq 14, 3) := by decide +kernel
theorem dX5_isBare_20 : decode cX5_isBare 20 = .ok (.aload_n 0, 1) := by decide +kernel
theorem dX5_isBare_21 : decode cX5_isBare 21 = .ok (.getfield 39, 3) := by decide +kernel
theorem dX5_isBare_24 : decode cX5_isBare 24 = .ok (.iload_n 1, 1) := by decide +kernel
theorem dX5_isBare_25 : decode cX5_isBare 25 = .ok (.baload, 1) := by decide +kernel
theorem dX5_isBare_26 : decode cX5_isBare 26 = .ok (.ifCond .ne 5, 3) := by decide +kernel
theorem dX5_isBare_29 : decode cX5_isBare 29 = .ok (.iconst 1, 1) := by decide +kernel
theorem dX5_isBare_30 : decode cX5_isBare 30 = .ok (.ireturn, 1) := by decide +kernel
theorem dX5_isBare_31 : decode cX5_isBare 31 = .ok (.iinc 1 1, 3) := by decide +kernel
theorem dX5_isBare_34 : decode cX5_isBare 34 = .ok (.goto (-32), 3) := by decide +kernel
theorem dX5_isBare_37 : decode cX5_isBare 37 = .ok (.iconst 0, 1) := by decide +kernel
theorem dX5_isBare_38 : decode cX5_isBare 38 = .ok (.ireturn, 1) := by decide +kernel
theorem dX5_goes_0 : decode cX5_goes 0 = .ok (.aload_n 0, 1) := by decide +kernel
theorem dX5_goes_1 : decode cX5_goes 1 = .ok (.invokevirtual 163, 3) := by decide +kernel
theorem dX5_goes_4 : decode cX5_goes 4 = .ok (.ifCond .eq 9, 3) := by decide +kernel
theorem dX5_goes_7 : decode cX5_goes 7 = .ok (.aload_n 0, 1) := by decide +kernel
theorem dX5_goes_8 : decode cX5_goes 8 = .ok (.iconst 1, 1) := by decide +kernel
theorem dX5_goes_9 : decode cX5_goes 9 = .ok (.invokevirtual 85, 3) := by decide +kernel
theorem dX5_goes_12 : decode cX5_goes 12 = .ok (.ireturn, 1) := by decide +kernel
theorem dX5_goes_13 : decode cX5_goes 13 = .ok (.iload_n 2, 1) := by decide +kernel
theorem dX5_goes_14 : decode cX5_goes 14 = .ok (.bipush 22, 2) := by decide +kernel
theorem dX5_goes_16 : decode cX5_goes 16 = .ok (.iadd, 1) := by decide +kernel
theorem dX5_goes_17 : decode cX5_goes 17 = .ok (.aload_n 0, 1) := by decide +kernel
theorem dX5_goes_18 : decode cX5_goes 18 = .ok (.getfield 118, 3) := by decide +kernel
theorem dX5_goes_21 : decode cX5_goes 21 = .ok (.iadd, 1) := by decide +kernel
theorem dX5_goes_22 : decode cX5_goes 22 = .ok (.istore_n 3, 1) := by decide +kernel
theorem dX5_goes_23 : decode cX5_goes 23 = .ok (.iconst 0, 1) := by decide +kernel
theorem dX5_goes_24 : decode cX5_goes 24 = .ok (.istore 4, 2) := by decide +kernel
theorem dX5_goes_26 : decode cX5_goes 26 = .ok (.iload 4, 2) := by decide +kernel
theorem dX5_goes_28 : decode cX5_goes 28 = .ok (.aload_n 0, 1) := by decide +kernel
theorem dX5_goes_29 : decode cX5_goes 29 = .ok (.getfield 10, 3) := by decide +kernel
theorem dX5_goes_32 : decode cX5_goes 32 = .ok (.if_icmp .ge 35, 3) := by decide +kernel
theorem dX5_goes_35 : decode cX5_goes 35 = .ok (.iload_n 3, 1) := by decide +kernel
theorem dX5_goes_36 : decode cX5_goes 36 = .ok (.aload_n 0, 1) := by decide +kernel
theorem dX5_goes_37 : decode cX5_goes 37 = .ok (.iload 4, 2) := by decide +kernel
theorem dX5_goes_39 : decode cX5_goes 39 = .ok (.invokevirtual 167, 3) := by decide +kernel
theorem dX5_goes_42 : decode cX5_goes 42 = .ok (.iload 4, 2) := by decide +kernel
theorem dX5_goes_44 : decode cX5_goes 44 = .ok (.iload_n 1, 1) := by decide +kernel
theorem dX5_goes_45 : decode cX5_goes 45 = .ok (.if_icmp .ge 7, 3) := by decide +kernel
theorem dX5_goes_48 : decode cX5_goes 48 = .ok (.iconst 0, 1) := by decide +kernel
theorem dX5_goes_49 : decode cX5_goes 49 = .ok (.goto 9, 3) := by decide +kernel
theorem dX5_goes_52 : decode cX5_goes 52 = .ok (.aload_n 0, 1) := by decide +kernel
theorem dX5_goes_53 : decode cX5_goes 53 = .ok (.iload 4, 2) := by decide +kernel
theorem dX5_goes_55 : decode cX5_goes 55 = .ok (.invokevirtual 170, 3) := by decide +kernel
theorem dX5_goes_58 : decode cX5_goes 58 = .ok (.iadd, 1) := by decide +kernel
theorem dX5_goes_59 : decode cX5_goes 59 = .ok (.iadd, 1) := by decide +kernel
theorem dX5_goes_60 : decode cX5_goes 60 = .ok (.istore_n 3, 1) := by decide +kernel
theorem dX5_goes_61 : decode cX5_goes 61 = .ok (.iinc 4 1, 3) := by decide +kernel
theorem dX5_goes_64 : decode cX5_goes 64 = .ok (.goto (-38), 3) := by decide +kernel
theorem dX5_goes_67 : decode cX5_goes 67 = .ok (.iload_n 3, 1) := by decide +kernel
theorem dX5_goes_68 : decode cX5_goes 68 = .ok (.sipush 2000, 3) := by decide +kernel
theorem dX5_goes_71 : decode cX5_goes 71 = .ok (.if_icmp .le 6, 3) := by decide +kernel
theorem dX5_goes_74 : decode cX5_goes 74 = .ok (.bipush (-5), 2) := by decide +kernel
theorem dX5_goes_76 : decode cX5_goes 76 = .ok (.ireturn, 1) := by decide +kernel
theorem dX5_goes_77 : decode cX5_goes 77 = .ok (.aload_n 0, 1) := by decide +kernel
theorem dX5_goes_78 : decode cX5_goes 78 = .ok (.iload_n 2, 1) := by decide +kernel
theorem dX5_goes_79 : decode cX5_goes 79 = .ok (.putfield 125, 3) := by decide +kernel
theorem dX5_goes_82 : decode cX5_goes 82 = .ok (.iload_n 1, 1) := by decide +kernel
theorem dX5_goes_83 : decode cX5_goes 83 = .ok (.istore 4, 2) := by decide +kernel
theorem dX5_goes_85 : decode cX5_goes 85 = .ok (.iload 4, 2) := by decide +kernel
theorem dX5_goes_87 : decode cX5_goes 87 = .ok (.aload_n 0, 1) := by decide +kernel
theorem dX5_goes_88 : decode cX5_goes 88 = .ok (.getfield 10, 3) := by decide +kernel
theorem dX5_goes_91 : decode cX5_goes 91 = .ok (.if_icmp .ge 26, 3) := by decide +kernel
theorem dX5_goes_94 : decode cX5_goes 94 = .ok (.aload_n 0, 1) := by decide +kernel
theorem dX5_goes_95 : decode cX5_goes 95 = .ok (.getfield 55, 3) := by decide +kernel
theorem dX5_goes_98 : decode cX5_goes 98 = .ok (.iload 4, 2) := by decide +kernel
theorem dX5_goes_100 : decode cX5_goes 100 = .ok (.aload_n 0, 1) := by decide +kernel
theorem dX5_goes_101 : decode cX5_goes 101 = .ok (.getfield 125, 3) := by decide +kernel
theorem dX5_goes_104 : decode cX5_goes 104 = .ok (.iastore, 1) := by decide +kernel
theorem dX5_goes_105 : decode cX5_goes 105 = .ok (.aload_n 0, 1) := by decide +kernel
theorem dX5_goes_106 : decode cX5_goes 106 = .ok (.iload 4, 2) := by decide +kernel
theorem dX5_goes_108 : decode cX5_goes 108 = .ok (.invokevirtual 173, 3) := by decide +kernel
theorem dX5_goes_111 : decode cX5_goes 111 = .ok (.iinc 4 1, 3) := by decide +kernel
theorem dX5_goes_114 : decode cX5_goes 114 = .ok (.goto (-29), 3) := by decide +kernel
theorem dX5_goes_117 : decode cX5_goes 117 = .ok (.aload_n 0, 1) := by decide +kernel
theorem dX5_goes_118 : decode cX5_goes 118 = .ok (.getfield 125, 3) := by decide +kernel
theorem dX5_goes_121 : decode cX5_goes 121 = .ok (.istore 4, 2) := by decide +kernel
theorem dX5_goes_123 : decode cX5_goes 123 = .ok (.iconst 0, 1) := by decide +kernel
theorem dX5_goes_124 : decode cX5_goes 124 = .ok (.istore 5, 2) := by decide +kernel
theorem dX5_goes_126 : decode cX5_goes 126 = .ok (.iload 5, 2) := by decide +kernel
theorem dX5_goes_128 : decode cX5_goes 128 = .ok (.aload_n 0, 1) := by decide +kernel
theorem dX5_goes_129 : decode cX5_goes 129 = .ok (.getfield 10, 3) := by decide +kernel
theorem dX5_goes_132 : decode cX5_goes 132 = .ok (.if_icmp .ge 71, 3) := by decide +kernel
theorem dX5_goes_135 : decode cX5_goes 135 = .ok (.aload_n 0, 1) := by decide +kernel
theorem dX5_goes_136 : decode cX5_goes 136 = .ok (.ldc2_w 176, 3) := by decide +kernel
theorem dX5_goes_139 : decode cX5_goes 139 = .ok (.iconst 4, 1) := by decide +kernel
theorem dX5_goes_140 : decode cX5_goes 140 = .ok (.invokevirtual 131, 3) := by decide +kernel
theorem dX5_goes_143 : decode cX5_goes 143 = .ok (.aload_n 0, 1) := by decide +kernel
theorem dX5_goes_144 : decode cX5_goes 144 = .ok (.ldc2_w 142, 3) := by decide +kernel
theorem dX5_goes_147 : decode cX5_goes 147 = .ok (.iconst 2, 1) := by decide +kernel
theorem dX5_goes_148 : decode cX5_goes 148 = .ok (.invokevirtual 131, 3) := by decide +kernel
theorem dX5_goes_151 : decode cX5_goes 151 = .ok (.aload_n 0, 1) := by decide +kernel
theorem dX5_goes_152 : decode cX5_goes 152 = .ok (.iload 5, 2) := by decide +kernel
theorem dX5_goes_154 : decode cX5_goes 154 = .ok (.iconst 0, 1) := by decide +kernel
theorem dX5_goes_155 : decode cX5_goes 155 = .ok (.invokevirtual 154, 3) := by decide +kernel
theorem dX5_goes_158 : decode cX5_goes 158 = .ok (.aload_n 0, 1) := by decide +kernel
theorem dX5_goes_159 : decode cX5_goes 159 = .ok (.lconst 0, 1) := by decide +kernel
theorem dX5_goes_160 : decode cX5_goes 160 = .ok (.bipush 6, 2) := by decide +kernel
theorem dX5_goes_162 : decode cX5_goes 162 = .ok (.invokevirtual 131, 3) := by decide +kernel
theorem dX5_goes_165 : decode cX5_goes 165 = .ok (.aload_n 0, 1) := by decide +kernel
theorem dX5_goes_166 : decode cX5_goes 166 = .ok (.aload_n 0, 1) := by decide +kernel
theorem dX5_goes_167 : decode cX5_goes 167 = .ok (.getfield 33, 3) := by decide +kernel
theorem dX5_goes_170 : decode cX5_goes 170 = .ok (.iload 5, 2) := by decide +kernel
theorem dX5_goes_172 : decode cX5_goes 172 = .ok (.iaload, 1) := by decide +kernel
theorem dX5_goes_173 : decode cX5_goes 173 = .ok (.i2l, 1) := by decide +kernel
theorem dX5_goes_174 : decode cX5_goes 174 = .ok (.iconst 4, 1) := by decide +kernel
theorem dX5_goes_175 : decode cX5_goes 175 = .ok (.invokevirtual 131, 3) := by decide +kernel
theorem dX5_goes_178 : decode cX5_goes 178 = .ok (.aload_n 0, 1) := by decide +kernel
theorem dX5_goes_179 : decode cX5_goes 179 = .ok (.aload_n 0, 1) := by decide +kernel
theorem dX5_goes_180 : decode cX5_goes 180 = .ok (.getfield 55, 3) := by decide +kernel
theorem dX5_goes_183 : decode cX5_goes 183 = .ok (.iload 5, 2) := by decide +kernel
theorem dX5_goes_185 : decode cX5_goes 185 = .ok (.iaload, 1) := by decide +kernel
theorem dX5_goes_186 : decode cX5_goes 186 = .ok (.i2l, 1) := by decide +kernel
theorem dX5_goes_187 : decode cX5_goes 187 = .ok (.iconst 4, 1) := by decide +kernel
theorem dX5_goes_188 : decode cX5_goes 188 = .ok (.invokevirtual 131, 3) := by decide +kernel
theorem dX5_goes_191 : decode cX5_goes 191 = .ok (.aload_n 0, 1) := by decide +kernel
theorem dX5_goes_192 : decode cX5_goes 192 = .ok (.iload 5, 2) := by decide +kernel
theorem dX5_goes_194 : decode cX5_goes 194 = .ok (.invokevirtual 158, 3) := by decide +kernel
theorem dX5_goes_197 : decode cX5_goes 197 = .ok (.iinc 5 1, 3) := by decide +kernel
theorem dX5_goes_200 : decode cX5_goes 200 = .ok (.goto (-74), 3) := by decide +kernel
theorem dX5_goes_203 : decode cX5_goes 203 = .ok (.aload_n 0, 1) := by decide +kernel
theorem dX5_goes_204 : decode cX5_goes 204 = .ok (.getfield 125, 3) := by decide +kernel
theorem dX5_goes_207 : decode cX5_goes 207 = .ok (.istore 5, 2) := by decide +kernel
theorem dX5_goes_209 : decode cX5_goes 209 = .ok (.aload_n 0, 1) := by decide +kernel
theorem dX5_goes_210 : decode cX5_goes 210 = .ok (.ldc2_w 178, 3) := by decide +kernel
theorem dX5_goes_213 : decode cX5_goes 213 = .ok (.iconst 4, 1) := by decide +kernel
theorem dX5_goes_214 : decode cX5_goes 214 = .ok (.invokevirtual 131, 3) := by decide +kernel
theorem dX5_goes_217 : decode cX5_goes 217 = .ok (.aload_n 0, 1) := by decide +kernel
theorem dX5_goes_218 : decode cX5_goes 218 = .ok (.lconst 0, 1) := by decide +kernel
theorem dX5_goes_219 : decode cX5_goes 219 = .ok (.iconst 4, 1) := by decide +kernel
theorem dX5_goes_220 : decode cX5_goes 220 = .ok (.invokevirtual 131, 3) := by decide +kernel
theorem dX5_goes_223 : decode cX5_goes 223 = .ok (.aload_n 0, 1) := by decide +kernel
theorem dX5_goes_224 : decode cX5_goes 224 = .ok (.aload_n 0, 1) := by decide +kernel
theorem dX5_goes_225 : decode cX5_goes 225 = .ok (.getfield 10, 3) := by decide +kernel
theorem dX5_goes_228 : decode cX5_goes 228 = .ok (.i2l, 1) := by decide +kernel
theorem dX5_goes_229 : decode cX5_goes 229 = .ok (.iconst 2, 1) := by decide +kernel
theorem dX5_goes_230 : decode cX5_goes 230 = .ok (.invokevirtual 131, 3) := by decide +kernel
theorem dX5_goes_233 : decode cX5_goes 233 = .ok (.aload_n 0, 1) := by decide +kernel
theorem dX5_goes_234 : decode cX5_goes 234 = .ok (.aload_n 0, 1) := by decide +kernel
theorem dX5_goes_235 : decode cX5_goes 235 = .ok (.getfield 10, 3) := by decide +kernel
theorem dX5_goes_238 : decode cX5_goes 238 = .ok (.i2l, 1) := by decide +kernel
theorem dX5_goes_239 : decode cX5_goes 239 = .ok (.iconst 2, 1) := by decide +kernel
theorem dX5_goes_240 : decode cX5_goes 240 = .ok (.invokevirtual 131, 3) := by decide +kernel
theorem dX5_goes_243 : decode cX5_goes 243 = .ok (.aload_n 0, 1) := by decide +kernel
theorem dX5_goes_244 : decode cX5_goes 244 = .ok (.iload 5, 2) := by decide +kernel
theorem dX5_goes_246 : decode cX5_goes 246 = .ok (.iload 4, 2) := by decide +kernel
theorem dX5_goes_248 : decode cX5_goes 248 = .ok (.isub, 1) := by decide +kernel
theorem dX5_goes_249 : decode cX5_goes 249 = .ok (.i2l, 1) := by decide +kernel
theorem dX5_goes_250 : decode cX5_goes 250 = .ok (.iconst 4, 1) := by decide +kernel
theorem dX5_goes_251 : decode cX5_goes 251 = .ok (.invokevirtual 131, 3) := by decide +kernel
theorem dX5_goes_254 : decode cX5_goes 254 = .ok (.aload_n 0, 1) := by decide +kernel
theorem dX5_goes_255 : decode cX5_goes 255 = .ok (.iload 4, 2) := by decide +kernel
theorem dX5_goes_257 : decode cX5_goes 257 = .ok (.i2l, 1) := by decide +kernel
theorem dX5_goes_258 : decode cX5_goes 258 = .ok (.iconst 4, 1) := by decide +kernel
theorem dX5_goes_259 : decode cX5_goes 259 = .ok (.invokevirtual 131, 3) := by decide +kernel
theorem dX5_goes_262 : decode cX5_goes 262 = .ok (.aload_n 0, 1) := by decide +kernel
theorem dX5_goes_263 : decode cX5_goes 263 = .ok (.aload_n 0, 1) := by decide +kernel
theorem dX5_goes_264 : decode cX5_goes 264 = .ok (.getfield 118, 3) := by decide +kernel
theorem dX5_goes_267 : decode cX5_goes 267 = .ok (.i2l, 1) := by decide +kernel
theorem dX5_goes_268 : decode cX5_goes 268 = .ok (.iconst 2, 1) := by decide +kernel
theorem dX5_goes_269 : decode cX5_goes 269 = .ok (.invokevirtual 131, 3) := by decide +kernel
theorem dX5_goes_272 : decode cX5_goes 272 = .ok (.iconst 0, 1) := by decide +kernel
theorem dX5_goes_273 : decode cX5_goes 273 = .ok (.istore 6, 2) := by decide +kernel
theorem dX5_goes_275 : decode cX5_goes 275 = .ok (.iload 6, 2) := by decide +kernel
theorem dX5_goes_277 : decode cX5_goes 277 = .ok (.aload_n 0, 1) := by decide +kernel
theorem dX5_goes_278 : decode cX5_goes 278 = .ok (.getfield 118, 3) := by decide +kernel
theorem dX5_goes_281 : decode cX5_goes 281 = .ok (.if_icmp .ge 22, 3) := by decide +kernel
theorem dX5_goes_284 : decode cX5_goes 284 = .ok (.aload_n 0, 1) := by decide +kernel
theorem dX5_goes_285 : decode cX5_goes 285 = .ok (.aload_n 0, 1) := by decide +kernel
theorem dX5_goes_286 : decode cX5_goes 286 = .ok (.getfield 115, 3) := by decide +kernel
theorem dX5_goes_289 : decode cX5_goes 289 = .ok (.iload 6, 2) := by decide +kernel
theorem dX5_goes_291 : decode cX5_goes 291 = .ok (.iaload, 1) := by decide +kernel
theorem dX5_goes_292 : decode cX5_goes 292 = .ok (.i2l, 1) := by decide +kernel
theorem dX5_goes_293 : decode cX5_goes 293 = .ok (.iconst 1, 1) := by decide +kernel
theorem dX5_goes_294 : decode cX5_goes 294 = .ok (.invokevirtual 131, 3) := by decide +kernel
theorem dX5_goes_297 : decode cX5_goes 297 = .ok (.iinc 6 1, 3) := by decide +kernel
theorem dX5_goes_300 : decode cX5_goes 300 = .ok (.goto (-25), 3) := by decide +kernel
theorem dX5_goes_303 : decode cX5_goes 303 = .ok (.aload_n 0, 1) := by decide +kernel
theorem dX5_goes_304 : decode cX5_goes 304 = .ok (.aload_n 0, 1) := by decide +kernel
theorem dX5_goes_305 : decode cX5_goes 305 = .ok (.getfield 125, 3) := by decide +kernel
theorem dX5_goes_308 : decode cX5_goes 308 = .ok (.putfield 180, 3) := by decide +kernel
theorem dX5_goes_311 : decode cX5_goes 311 = .ok (.aload_n 0, 1) := by decide +kernel
theorem dX5_goes_312 : decode cX5_goes 312 = .ok (.getfield 180, 3) := by decide +kernel
theorem dX5_goes_315 : decode cX5_goes 315 = .ok (.ireturn, 1) := by decide +kernel
theorem dX5_write_0 : decode cX5_write 0 = .ok (.aload_n 0, 1) := by decide +kernel
theorem dX5_write_1 : decode cX5_write 1 = .ok (.iconst 0, 1) := by decide +kernel
theorem dX5_write_2 : decode cX5_write 2 = .ok (.putfield 1, 3) := by decide +kernel
theorem dX5_write_5 : decode cX5_write 5 = .ok (.aload_n 0, 1) := by decide +kernel
theorem dX5_write_6 : decode cX5_write 6 = .ok (.iconst 0, 1) := by decide +kernel
theorem dX5_write_7 : decode cX5_write 7 = .ok (.iconst 0, 1) := by decide +kernel
theorem dX5_write_8 : decode cX5_write 8 = .ok (.invokevirtual 183, 3) := by decide +kernel
theorem dX5_write_11 : decode cX5_write 11 = .ok (.ireturn, 1) := by decide +kernel
theorem dX5_add_0 : decode cX5_add 0 = .ok (.aload_n 0, 1) := by decide +kernel
theorem dX5_add_1 : decode cX5_add 1 = .ok (.iconst 0, 1) := by decide +kernel
theorem dX5_add_2 : decode cX5_add 2 = .ok (.putfield 1, 3) := by decide +kernel
theorem dX5_add_5 : decode cX5_add 5 = .ok (.iload_n 1, 1) := by decide +kernel
theorem dX5_add_6 : decode cX5_add 6 = .ok (.i2l, 1) := by decide +kernel
theorem dX5_add_7 : decode cX5_add 7 = .ok (.lconst 0, 1) := by decide +kernel
theorem dX5_add_8 : decode cX5_add 8 = .ok (.aload_n 0, 1) := by decide +kernel
theorem dX5_add_9 : decode cX5_add 9 = .ok (.getfield 10, 3) := by decide +kernel
theorem dX5_add_12 : decode cX5_add 12 = .ok (.i2l, 1) := by decide +kernel
theorem dX5_add_13 : decode cX5_add 13 = .ok (.invokestatic 13, 3) := by decide +kernel
theorem dX5_add_16 : decode cX5_add 16 = .ok (.ifCond .ne 6, 3) := by decide +kernel
theorem dX5_add_19 : decode cX5_add 19 = .ok (.bipush (-2), 2) := by decide +kernel
theorem dX5_add_21 : decode cX5_add 21 = .ok (.ireturn, 1) := by decide +kernel
theorem dX5_add_22 : decode cX5_add 22 = .ok (.iconst 0, 1) := by decide +kernel
theorem dX5_add_23 : decode cX5_add 23 = .ok (.istore_n 2, 1) := by decide +kernel
theorem dX5_add_24 : decode cX5_add 24 = .ok (.iload_n 2, 1) := by decide +kernel
theorem dX5_add_25 : decode cX5_add 25 = .ok (.iload_n 1, 1) := by decide +kernel
theorem dX5_add_26 : decode cX5_add 26 = .ok (.if_icmp .ge 21, 3) := by decide +kernel
theorem dX5_add_29 : decode cX5_add 29 = .ok (.aload_n 0, 1) := by decide +kernel
theorem dX5_add_30 : decode cX5_add 30 = .ok (.getfield 55, 3) := by decide +kernel
theorem dX5_add_33 : decode cX5_add 33 = .ok (.iload_n 2, 1) := by decide +kernel
theorem dX5_add_34 : decode cX5_add 34 = .ok (.iaload, 1) := by decide +kernel
theorem dX5_add_35 : decode cX5_add 35 = .ok (.ifCond .ge 6, 3) := by decide +kernel
theorem dX5_add_38 : decode cX5_add 38 = .ok (.bipush (-4), 2) := by decide +kernel
theorem dX5_add_40 : decode cX5_add 40 = .ok (.ireturn, 1) := by decide +kernel
theorem dX5_add_41 : decode cX5_add 41 = .ok (.iinc 2 1, 3) := by decide +kernel
theorem dX5_add_44 : decode cX5_add 44 = .ok (.goto (-20), 3) := by decide +kernel
theorem dX5_add_47 : decode cX5_add 47 = .ok (.aload_n 0, 1) := by decide +kernel
theorem dX5_add_48 : decode cX5_add 48 = .ok (.iload_n 1, 1) := by decide +kernel
theorem dX5_add_49 : decode cX5_add 49 = .ok (.aload_n 0, 1) := by decide +kernel
theorem dX5_add_50 : decode cX5_add 50 = .ok (.getfield 180, 3) := by decide +kernel
theorem dX5_add_53 : decode cX5_add 53 = .ok (.invokevirtual 183, 3) := by decide +kernel
theorem dX5_add_56 : decode cX5_add 56 = .ok (.ireturn, 1) := by decide +kernel
theorem dX5_want_0 : decode cX5_want 0 = .ok (.iload_n 1, 1) := by decide +kernel
theorem dX5_want_1 : decode cX5_want 1 = .ok (.ifCond .ne 21, 3) := by decide +kernel
theorem dX5_want_4 : decode cX5_want 4 = .ok (.aload_n 0, 1) := by decide +kernel
theorem dX5_want_5 : decode cX5_want 5 = .ok (.getfield 187, 3) := by decide +kernel
theorem dX5_want_8 : decode cX5_want 8 = .ok (.ifCond .ne 14, 3) := by decide +kernel
theorem dX5_want_11 : decode cX5_want 11 = .ok (.aload_n 0, 1) := by decide +kernel
theorem dX5_want_12 : decode cX5_want 12 = .ok (.iload_n 2, 1) := by decide +kernel
theorem dX5_want_13 : decode cX5_want 13 = .ok (.putfield 187, 3) := by decide +kernel
theorem dX5_want_16 : decode cX5_want 16 = .ok (.aload_n 0, 1) := by decide +kernel
theorem dX5_want_17 : decode cX5_want 17 = .ok (.lload_n 3, 1) := by decide +kernel
theorem dX5_want_18 : decode cX5_want 18 = .ok (.l2i, 1) := by decide +kernel
theorem dX5_want_19 : decode cX5_want 19 = .ok (.putfield 190, 3) := by decide +kernel
theorem dX5_want_22 : decode cX5_want 22 = .ok (.aload_n 0, 1) := by decide +kernel
theorem dX5_want_23 : decode cX5_want 23 = .ok (.getfield 187, 3) := by decide +kernel
theorem dX5_want_26 : decode cX5_want 26 = .ok (.ifCond .ne 7, 3) := by decide +kernel
theorem dX5_want_29 : decode cX5_want 29 = .ok (.iconst 1, 1) := by decide +kernel
theorem dX5_want_30 : decode cX5_want 30 = .ok (.goto 4, 3) := by decide +kernel
theorem dX5_want_33 : decode cX5_want 33 = .ok (.iconst 0, 1) := by decide +kernel
theorem dX5_want_34 : decode cX5_want 34 = .ok (.ireturn, 1) := by decide +kernel
theorem dX5_two_0 : decode cX5_two 0 = .ok (.aload_n 0, 1) := by decide +kernel
theorem dX5_two_1 : decode cX5_two 1 = .ok (.getfield 128, 3) := by decide +kernel
theorem dX5_two_4 : decode cX5_two 4 = .ok (.iload_n 1, 1) := by decide +kernel
theorem dX5_two_5 : decode cX5_two 5 = .ok (.iaload, 1) := by decide +kernel
theorem dX5_two_6 : decode cX5_two 6 = .ok (.aload_n 0, 1) := by decide +kernel
theorem dX5_two_7 : decode cX5_two 7 = .ok (.getfield 128, 3) := by decide +kernel
theorem dX5_two_10 : decode cX5_two 10 = .ok (.iload_n 1, 1) := by decide +kernel
theorem dX5_two_11 : decode cX5_two 11 = .ok (.iconst 1, 1) := by decide +kernel
theorem dX5_two_12 : decode cX5_two 12 = .ok (.iadd, 1) := by decide +kernel
theorem dX5_two_13 : decode cX5_two 13 = .ok (.iaload, 1) := by decide +kernel
theorem dX5_two_14 : decode cX5_two 14 = .ok (.bipush 8, 2) := by decide +kernel
theorem dX5_two_16 : decode cX5_two 16 = .ok (.ishl, 1) := by decide +kernel
theorem dX5_two_17 : decode cX5_two 17 = .ok (.ior, 1) := by decide +kernel
theorem dX5_two_18 : decode cX5_two 18 = .ok (.ireturn, 1) := by decide +kernel
theorem dX5_four_0 : decode cX5_four 0 = .ok (.aload_n 0, 1) := by decide +kernel
theorem dX5_four_1 : decode cX5_four 1 = .ok (.iload_n 1, 1) := by decide +kernel
theorem dX5_four_2 : decode cX5_four 2 = .ok (.invokevirtual 193, 3) := by decide +kernel
theorem dX5_four_5 : decode cX5_four 5 = .ok (.i2l, 1) := by decide +kernel
theorem dX5_four_6 : decode cX5_four 6 = .ok (.aload_n 0, 1) := by decide +kernel
theorem dX5_four_7 : decode cX5_four 7 = .ok (.iload_n 1, 1) := by decide +kernel
theorem dX5_four_8 : decode cX5_four 8 = .ok (.iconst 2, 1) := by decide +kernel
theorem dX5_four_9 : decode cX5_four 9 = .ok (.iadd, 1) := by decide +kernel
theorem dX5_four_10 : decode cX5_four 10 = .ok (.invokevirtual 193, 3) := by decide +kernel
theorem dX5_four_13 : decode cX5_four 13 = .ok (.i2l, 1) := by decide +kernel
theorem dX5_four_14 : decode cX5_four 14 = .ok (.bipush 16, 2) := by decide +kernel
theorem dX5_four_16 : decode cX5_four 16 = .ok (.lshl, 1) := by decide +kernel
theorem dX5_four_17 : decode cX5_four 17 = .ok (.lor, 1) := by decide +kernel
theorem dX5_four_18 : decode cX5_four 18 = .ok (.lreturn, 1) := by decide +kernel
theorem dX5_eight_0 : decode cX5_eight 0 = .ok (.aload_n 0, 1) := by decide +kernel
theorem dX5_eight_1 : decode cX5_eight 1 = .ok (.iload_n 1, 1) := by decide +kernel
theorem dX5_eight_2 : decode cX5_eight 2 = .ok (.invokevirtual 196, 3) := by decide +kernel
theorem dX5_eight_5 : decode cX5_eight 5 = .ok (.aload_n 0, 1) := by decide +kernel
theorem dX5_eight_6 : decode cX5_eight 6 = .ok (.iload_n 1, 1) := by decide +kernel
theorem dX5_eight_7 : decode cX5_eight 7 = .ok (.iconst 4, 1) := by decide +kernel
theorem dX5_eight_8 : decode cX5_eight 8 = .ok (.iadd, 1) := by decide +kernel
theorem dX5_eight_9 : decode cX5_eight 9 = .ok (.invokevirtual 196, 3) := by decide +kernel
theorem dX5_eight_12 : decode cX5_eight 12 = .ok (.bipush 32, 2) := by decide +kernel
theorem dX5_eight_14 : decode cX5_eight 14 = .ok (.lshl, 1) := by decide +kernel
theorem dX5_eight_15 : decode cX5_eight 15 = .ok (.lor, 1) := by decide +kernel
theorem dX5_eight_16 : decode cX5_eight 16 = .ok (.lreturn, 1) := by decide +kernel
theorem dX5_findEnd_0 : decode cX5_findEnd 0 = .ok (.aload_n 0, 1) := by decide +kernel
theorem dX5_findEnd_1 : decode cX5_findEnd 1 = .ok (.getfield 180, 3) := by decide +kernel
theorem dX5_findEnd_4 : decode cX5_findEnd 4 = .ok (.bipush 22, 2) := by decide +kernel
theorem dX5_findEnd_6 : decode cX5_findEnd 6 = .ok (.isub, 1) := by decide +kernel
theorem dX5_findEnd_7 : decode cX5_findEnd 7 = .ok (.istore_n 1, 1) := by decide +kernel
theorem dX5_findEnd_8 : decode cX5_findEnd 8 = .ok (.iconst 0, 1) := by decide +kernel
theorem dX5_findEnd_9 : decode cX5_findEnd 9 = .ok (.istore_n 2, 1) := by decide +kernel
theorem dX5_findEnd_10 : decode cX5_findEnd 10 = .ok (.iload_n 1, 1) := by decide +kernel
theorem dX5_findEnd_11 : decode cX5_findEnd 11 = .ok (.ifCond .lt 73, 3) := by decide +kernel
theorem dX5_findEnd_14 : decode cX5_findEnd 14 = .ok (.iload_n 2, 1) := by decide +kernel
theorem dX5_findEnd_15 : decode cX5_findEnd 15 = .ok (.ifCond .ne 69, 3) := by decide +kernel
theorem dX5_findEnd_18 : decode cX5_findEnd 18 = .ok (.aload_n 0, 1) := by decide +kernel
theorem dX5_findEnd_19 : decode cX5_findEnd 19 = .ok (.iload_n 1, 1) := by decide +kernel
theorem dX5_findEnd_20 : decode cX5_findEnd 20 = .ok (.invokevirtual 196, 3) := by decide +kernel
theorem dX5_findEnd_23 : decode cX5_findEnd 23 = .ok (.ldc2_w 178, 3) := by decide +kernel
theorem dX5_findEnd_26 : decode cX5_findEnd 26 = .ok (.lcmp, 1) := by decide +kernel
theorem dX5_findEnd_27 : decode cX5_findEnd 27 = .ok (.ifCond .ne 40, 3) := by decide +kernel
theorem dX5_findEnd_30 : decode cX5_findEnd 30 = .ok (.aload_n 0, 1) := by decide +kernel
theorem dX5_findEnd_31 : decode cX5_findEnd 31 = .ok (.iload_n 1, 1) := by decide +kernel
theorem dX5_findEnd_32 : decode cX5_findEnd 32 = .ok (.bipush 20, 2) := by decide +kernel
theorem dX5_findEnd_34 : decode cX5_findEnd 34 = .ok (.iadd, 1) := by decide +kernel
theorem dX5_findEnd_35 : decode cX5_findEnd 35 = .ok (.invokevirtual 193, 3) := by decide +kernel
theorem dX5_findEnd_38 : decode cX5_findEnd 38 = .ok (.bipush 12, 2) := by decide +kernel
theorem dX5_findEnd_40 : decode cX5_findEnd 40 = .ok (.if_icmp .gt 27, 3) := by decide +kernel
theorem dX5_findEnd_43 : decode cX5_findEnd 43 = .ok (.iload_n 1, 1) := by decide +kernel
theorem dX5_findEnd_44 : decode cX5_findEnd 44 = .ok (.bipush 22, 2) := by decide +kernel
theorem dX5_findEnd_46 : decode cX5_findEnd 46 = .ok (.iadd, 1) := by decide +kernel
theorem dX5_findEnd_47 : decode cX5_findEnd 47 = .ok (.aload_n 0, 1) := by decide +kernel
theorem dX5_findEnd_48 : decode cX5_findEnd 48 = .ok (.iload_n 1, 1) := by decide +kernel
theorem dX5_findEnd_49 : decode cX5_findEnd 49 = .ok (.bipush 20, 2) := by decide +kernel
theorem dX5_findEnd_51 : decode cX5_findEnd 51 = .ok (.iadd, 1) := by decide +kernel
theorem dX5_findEnd_52 : decode cX5_findEnd 52 = .ok (.invokevirtual 193, 3) := by decide +kernel
theorem dX5_findEnd_55 : decode cX5_findEnd 55 = .ok (.iadd, 1) := by decide +kernel
theorem dX5_findEnd_56 : decode cX5_findEnd 56 = .ok (.aload_n 0, 1) := by decide +kernel
theorem dX5_findEnd_57 : decode cX5_findEnd 57 = .ok (.getfield 180, 3) := by decide +kernel
theorem dX5_findEnd_60 : decode cX5_findEnd 60 = .ok (.if_icmp .ne 7, 3) := by decide +kernel
theorem dX5_findEnd_63 : decode cX5_findEnd 63 = .ok (.iconst 1, 1) := by decide +kernel
theorem dX5_findEnd_64 : decode cX5_findEnd 64 = .ok (.goto 4, 3) := by decide +kernel
theorem dX5_findEnd_67 : decode cX5_findEnd 67 = .ok (.iconst 0, 1) := by decide +kernel
theorem dX5_findEnd_68 : decode cX5_findEnd 68 = .ok (.istore_n 2, 1) := by decide +kernel
theorem dX5_findEnd_69 : decode cX5_findEnd 69 = .ok (.iload_n 1, 1) := by decide +kernel
theorem dX5_findEnd_70 : decode cX5_findEnd 70 = .ok (.iload_n 2, 1) := by decide +kernel
theorem dX5_findEnd_71 : decode cX5_findEnd 71 = .ok (.ifCond .eq 7, 3) := by decide +kernel
theorem dX5_findEnd_74 : decode cX5_findEnd 74 = .ok (.iconst 0, 1) := by decide +kernel
theorem dX5_findEnd_75 : decode cX5_findEnd 75 = .ok (.goto 4, 3) := by decide +kernel
theorem dX5_findEnd_78 : decode cX5_findEnd 78 = .ok (.iconst 1, 1) := by decide +kernel
theorem dX5_findEnd_79 : decode cX5_findEnd 79 = .ok (.isub, 1) := by decide +kernel
theorem dX5_findEnd_80 : decode cX5_findEnd 80 = .ok (.istore_n 1, 1) := by decide +kernel
theorem dX5_findEnd_81 : decode cX5_findEnd 81 = .ok (.goto (-71), 3) := by decide +kernel
theorem dX5_findEnd_84 : decode cX5_findEnd 84 = .ok (.aload_n 0, 1) := by decide +kernel
theorem dX5_findEnd_85 : decode cX5_findEnd 85 = .ok (.iload_n 2, 1) := by decide +kernel
theorem dX5_findEnd_86 : decode cX5_findEnd 86 = .ok (.iconst 1, 1) := by decide +kernel
theorem dX5_findEnd_87 : decode cX5_findEnd 87 = .ok (.aload_n 0, 1) := by decide +kernel
theorem dX5_findEnd_88 : decode cX5_findEnd 88 = .ok (.getfield 180, 3) := by decide +kernel
theorem dX5_findEnd_91 : decode cX5_findEnd 91 = .ok (.i2l, 1) := by decide +kernel
theorem dX5_findEnd_92 : decode cX5_findEnd 92 = .ok (.invokevirtual 200, 3) := by decide +kernel
theorem dX5_findEnd_95 : decode cX5_findEnd 95 = .ok (.ifCond .ne 4, 3) := by decide +kernel
theorem dX5_findEnd_98 : decode cX5_findEnd 98 = .ok (.return_, 1) := by decide +kernel
theorem dX5_findEnd_99 : decode cX5_findEnd 99 = .ok (.aload_n 0, 1) := by decide +kernel
theorem dX5_findEnd_100 : decode cX5_findEnd 100 = .ok (.iload_n 1, 1) := by decide +kernel
theorem dX5_findEnd_101 : decode cX5_findEnd 101 = .ok (.putfield 204, 3) := by decide +kernel
theorem dX5_findEnd_104 : decode cX5_findEnd 104 = .ok (.aload_n 0, 1) := by decide +kernel
theorem dX5_findEnd_105 : decode cX5_findEnd 105 = .ok (.aload_n 0, 1) := by decide +kernel
theorem dX5_findEnd_106 : decode cX5_findEnd 106 = .ok (.iload_n 1, 1) := by decide +kernel
theorem dX5_findEnd_107 : decode cX5_findEnd 107 = .ok (.bipush 8, 2) := by decide +kernel
theorem dX5_findEnd_109 : decode cX5_findEnd 109 = .ok (.iadd, 1) := by decide +kernel
theorem dX5_findEnd_110 : decode cX5_findEnd 110 = .ok (.invokevirtual 193, 3) := by decide +kernel
theorem dX5_findEnd_113 : decode cX5_findEnd 113 = .ok (.putfield 207, 3) := by decide +kernel
theorem dX5_findEnd_116 : decode cX5_findEnd 116 = .ok (.aload_n 0, 1) := by decide +kernel
theorem dX5_findEnd_117 : decode cX5_findEnd 117 = .ok (.iload_n 1, 1) := by decide +kernel
theorem dX5_findEnd_118 : decode cX5_findEnd 118 = .ok (.bipush 16, 2) := by decide +kernel
theorem dX5_findEnd_120 : decode cX5_findEnd 120 = .ok (.iadd, 1) := by decide +kernel
theorem dX5_findEnd_121 : decode cX5_findEnd 121 = .ok (.invokevirtual 196, 3) := by decide +kernel
theorem dX5_findEnd_124 : decode cX5_findEnd 124 = .ok (.lstore_n 3, 1) := by decide +kernel
theorem dX5_findEnd_125 : decode cX5_findEnd 125 = .ok (.lload_n 3, 1) := by decide +kernel
theorem dX5_findEnd_126 : decode cX5_findEnd 126 = .ok (.aload_n 0, 1) := by decide +kernel
theorem dX5_findEnd_127 : decode cX5_findEnd 127 = .ok (.iload_n 1, 1) := by decide +kernel
theorem dX5_findEnd_128 : decode cX5_findEnd 128 = .ok (.bipush 12, 2) := by decide +kernel
theorem dX5_findEnd_130 : decode cX5_findEnd 130 = .ok (.iadd, 1) := by decide +kernel
theorem dX5_findEnd_131 : decode cX5_findEnd 131 = .ok (.invokevirtual 196, 3) := by decide +kernel
theorem dX5_findEnd_134 : decode cX5_findEnd 134 = .ok (.ladd, 1) := by decide +kernel
theorem dX5_findEnd_135 : decode cX5_findEnd 135 = .ok (.lstore 5, 2) := by decide +kernel
theorem dX5_findEnd_137 : decode cX5_findEnd 137 = .ok (.aload_n 0, 1) := by decide +kernel
theorem dX5_findEnd_138 : decode cX5_findEnd 138 = .ok (.lload 5, 2) := by decide +kernel
theorem dX5_findEnd_140 : decode cX5_findEnd 140 = .ok (.iload_n 1, 1) := by decide +kernel
theorem dX5_findEnd_141 : decode cX5_findEnd 141 = .ok (.i2l, 1) := by decide +kernel
theorem dX5_findEnd_142 : decode cX5_findEnd 142 = .ok (.lcmp, 1) := by decide +kernel
theorem dX5_findEnd_143 : decode cX5_findEnd 143 = .ok (.ifCond .gt 35, 3) := by decide +kernel
theorem dX5_findEnd_146 : decode cX5_findEnd 146 = .ok (.aload_n 0, 1) := by decide +kernel
theorem dX5_findEnd_147 : decode cX5_findEnd 147 = .ok (.iload_n 1, 1) := by decide +kernel
theorem dX5_findEnd_148 : decode cX5_findEnd 148 = .ok (.bipush 8, 2) := by decide +kernel
theorem dX5_findEnd_150 : decode cX5_findEnd 150 = .ok (.iadd, 1) := by decide +kernel
theorem dX5_findEnd_151 : decode cX5_findEnd 151 = .ok (.invokevirtual 193, 3) := by decide +kernel
theorem dX5_findEnd_154 : decode cX5_findEnd 154 = .ok (.aload_n 0, 1) := by decide +kernel
theorem dX5_findEnd_155 : decode cX5_findEnd 155 = .ok (.iload_n 1, 1) := by decide +kernel
theorem dX5_findEnd_156 : decode cX5_findEnd 156 = .ok (.bipush 10, 2) := by decide +kernel
theorem dX5_findEnd_158 : decode cX5_findEnd 158 = .ok (.iadd, 1) := by decide +kernel
theorem dX5_findEnd_159 : decode cX5_findEnd 159 = .ok (.invokevirtual 193, 3) := by decide +kernel
theorem dX5_findEnd_162 : decode cX5_findEnd 162 = .ok (.if_icmp .ne 16, 3) := by decide +kernel
theorem dX5_findEnd_165 : decode cX5_findEnd 165 = .ok (.aload_n 0, 1) := by decide +kernel
theorem dX5_findEnd_166 : decode cX5_findEnd 166 = .ok (.getfield 207, 3) := by decide +kernel
theorem dX5_findEnd_169 : decode cX5_findEnd 169 = .ok (.bipush 12, 2) := by decide +kernel
theorem dX5_findEnd_171 : decode cX5_findEnd 171 = .ok (.if_icmp .gt 7, 3) := by decide +kernel
theorem dX5_findEnd_174 : decode cX5_findEnd 174 = .ok (.iconst 1, 1) := by decide +kernel
theorem dX5_findEnd_175 : decode cX5_findEnd 175 = .ok (.goto 4, 3) := by decide +kernel
theorem dX5_findEnd_178 : decode cX5_findEnd 178 = .ok (.iconst 0, 1) := by decide +kernel
theorem dX5_findEnd_179 : decode cX5_findEnd 179 = .ok (.iconst 2, 1) := by decide +kernel
theorem dX5_findEnd_180 : decode cX5_findEnd 180 = .ok (.iload_n 1, 1) := by decide +kernel
theorem dX5_findEnd_181 : decode cX5_findEnd 181 = .ok (.i2l, 1) := by decide +kernel
theorem dX5_findEnd_182 : decode cX5_findEnd 182 = .ok (.invokevirtual 200, 3) := by decide +kernel
theorem dX5_findEnd_185 : decode cX5_findEnd 185 = .ok (.ifCond .eq 16, 3) := by decide +kernel
theorem dX5_findEnd_188 : decode cX5_findEnd 188 = .ok (.aload_n 0, 1) := by decide +kernel
theorem dX5_findEnd_189 : decode cX5_findEnd 189 = .ok (.lload_n 3, 1) := by decide +kernel
theorem dX5_findEnd_190 : decode cX5_findEnd 190 = .ok (.l2i, 1) := by decide +kernel
theorem dX5_findEnd_191 : decode cX5_findEnd 191 = .ok (.putfield 210, 3) := by decide +kernel
theorem dX5_findEnd_194 : decode cX5_findEnd 194 = .ok (.aload_n 0, 1) := by decide +kernel
theorem dX5_findEnd_195 : decode cX5_findEnd 195 = .ok (.lload 5, 2) := by decide +kernel
theorem dX5_findEnd_197 : decode cX5_findEnd 197 = .ok (.l2i, 1) := by decide +kernel
theorem dX5_findEnd_198 : decode cX5_findEnd 198 = .ok (.putfield 213, 3) := by decide +kernel
theorem dX5_findEnd_201 : decode cX5_findEnd 201 = .ok (.return_, 1) := by decide +kernel
theorem dX5_findRows_0 : decode cX5_findRows 0 = .ok (.aload_n 0, 1) := by decide +kernel
theorem dX5_findRows_1 : decode cX5_findRows 1 = .ok (.getfield 210, 3) := by decide +kernel
theorem dX5_findRows_4 : decode cX5_findRows 4 = .ok (.istore_n 1, 1) := by decide +kernel
theorem dX5_findRows_5 : decode cX5_findRows 5 = .ok (.iconst 0, 1) := by decide +kernel
theorem dX5_findRows_6 : decode cX5_findRows 6 = .ok (.istore_n 2, 1) := by decide +kernel
theorem dX5_findRows_7 : decode cX5_findRows 7 = .ok (.iload_n 2, 1) := by decide +kernel
theorem dX5_findRows_8 : decode cX5_findRows 8 = .ok (.aload_n 0, 1) := by decide +kernel
theorem dX5_findRows_9 : decode cX5_findRows 9 = .ok (.getfield 207, 3) := by decide +kernel
theorem dX5_findRows_12 : decode cX5_findRows 12 = .ok (.if_icmp .ge 128, 3) := by decide +kernel
theorem dX5_findRows_15 : decode cX5_findRows 15 = .ok (.aload_n 0, 1) := by decide +kernel
theorem dX5_findRows_16 : decode cX5_findRows 16 = .ok (.getfield 187, 3) := by decide +kernel
theorem dX5_findRows_19 : decode cX5_findRows 19 = .ok (.ifCond .ne 121, 3) := by decide +kernel
theorem dX5_findRows_22 : decode cX5_findRows 22 = .ok (.iload_n 1, 1) := by decide +kernel
theorem dX5_findRows_23 : decode cX5_findRows 23 = .ok (.bipush 46, 2) := by decide +kernel
theorem dX5_findRows_25 : decode cX5_findRows 25 = .ok (.iadd, 1) := by decide +kernel
theorem dX5_findRows_26 : decode cX5_findRows 26 = .ok (.aload_n 0, 1) := by decide +kernel
theorem dX5_findRows_27 : decode cX5_findRows 27 = .ok (.getfield 213, 3) := by decide +kernel
theorem dX5_findRows_30 : decode cX5_findRows 30 = .ok (.if_icmp .gt 30, 3) := by decide +kernel
theorem dX5_findRows_33 : decode cX5_findRows 33 = .ok (.aload_n 0, 1) := by decide +kernel
theorem dX5_findRows_34 : decode cX5_findRows 34 = .ok (.iload_n 1, 1) := by decide +kernel
theorem dX5_findRows_35 : decode cX5_findRows 35 = .ok (.invokevirtual 196, 3) := by decide +kernel
theorem dX5_findRows_38 : decode cX5_findRows 38 = .ok (.ldc2_w 176, 3) := by decide +kernel
theorem dX5_findRows_41 : decode cX5_findRows 41 = .ok (.lcmp, 1) := by decide +kernel
theorem dX5_findRows_42 : decode cX5_findRows 42 = .ok (.ifCond .ne 18, 3) := by decide +kernel
theorem dX5_findRows_45 : decode cX5_findRows 45 = .ok (.aload_n 0, 1) := by decide +kernel
theorem dX5_findRows_46 : decode cX5_findRows 46 = .ok (.iload_n 1, 1) := by decide +kernel
theorem dX5_findRows_47 : decode cX5_findRows 47 = .ok (.bipush 32, 2) := by decide +kernel
theorem dX5_findRows_49 : decode cX5_findRows 49 = .ok (.iadd, 1) := by decide +kernel
theorem dX5_findRows_50 : decode cX5_findRows 50 = .ok (.invokevirtual 193, 3) := by decide +kernel
theorem dX5_findRows_53 : decode cX5_findRows 53 = .ok (.ifCond .ne 7, 3) := by decide +kernel
theorem dX5_findRows_56 : decode cX5_findRows 56 = .ok (.iconst 1, 1) := by decide +kernel
theorem dX5_findRows_57 : decode cX5_findRows 57 = .ok (.goto 4, 3) := by decide +kernel
theorem dX5_findRows_60 : decode cX5_findRows 60 = .ok (.iconst 0, 1) := by decide +kernel
theorem dX5_findRows_61 : decode cX5_findRows 61 = .ok (.istore_n 3, 1) := by decide +kernel
theorem dX5_findRows_62 : decode cX5_findRows 62 = .ok (.iload_n 3, 1) := by decide +kernel
theorem dX5_findRows_63 : decode cX5_findRows 63 = .ok (.ifCond .eq 26, 3) := by decide +kernel
theorem dX5_findRows_66 : decode cX5_findRows 66 = .ok (.bipush 46, 2) := by decide +kernel
theorem dX5_findRows_68 : decode cX5_findRows 68 = .ok (.aload_n 0, 1) := by decide +kernel
theorem dX5_findRows_69 : decode cX5_findRows 69 = .ok (.iload_n 1, 1) := by decide +kernel
theorem dX5_findRows_70 : decode cX5_findRows 70 = .ok (.bipush 28, 2) := by decide +kernel
theorem dX5_findRows_72 : decode cX5_findRows 72 = .ok (.iadd, 1) := by decide +kernel
theorem dX5_findRows_73 : decode cX5_findRows 73 = .ok (.invokevirtual 193, 3) := by decide +kernel
theorem dX5_findRows_76 : decode cX5_findRows 76 = .ok (.iadd, 1) := by decide +kernel
theorem dX5_findRows_77 : decode cX5_findRows 77 = .ok (.aload_n 0, 1) := by decide +kernel
theorem dX5_findRows_78 : decode cX5_findRows 78 = .ok (.iload_n 1, 1) := by decide +kernel
theorem dX5_findRows_79 : decode cX5_findRows 79 = .ok (.bipush 30, 2) := by decide +kernel
theorem dX5_findRows_81 : decode cX5_findRows 81 = .ok (.iadd, 1) := by decide +kernel
theorem dX5_findRows_82 : decode cX5_findRows 82 = .ok (.invokevirtual 193, 3) := by decide +kernel
theorem dX5_findRows_85 : decode cX5_findRows 85 = .ok (.iadd, 1) := by decide +kernel
theorem dX5_findRows_86 : decode cX5_findRows 86 = .ok (.goto 4, 3) := by decide +kernel
theorem dX5_findRows_89 : decode cX5_findRows 89 = .ok (.iconst 0, 1) := by decide +kernel
theorem dX5_findRows_90 : decode cX5_findRows 90 = .ok (.istore 4, 2) := by decide +kernel
theorem dX5_findRows_92 : decode cX5_findRows 92 = .ok (.aload_n 0, 1) := by decide +kernel
theorem dX5_findRows_93 : decode cX5_findRows 93 = .ok (.iload_n 3, 1) := by decide +kernel
theorem dX5_findRows_94 : decode cX5_findRows 94 = .ok (.ifCond .eq 18, 3) := by decide +kernel
theorem dX5_findRows_97 : decode cX5_findRows 97 = .ok (.iload_n 1, 1) := by decide +kernel
theorem dX5_findRows_98 : decode cX5_findRows 98 = .ok (.iload 4, 2) := by decide +kernel
theorem dX5_findRows_100 : decode cX5_findRows 100 = .ok (.iadd, 1) := by decide +kernel
theorem dX5_findRows_101 : decode cX5_findRows 101 = .ok (.aload_n 0, 1) := by decide +kernel
theorem dX5_findRows_102 : decode cX5_findRows 102 = .ok (.getfield 213, 3) := by decide +kernel
theorem dX5_findRows_105 : decode cX5_findRows 105 = .ok (.if_icmp .gt 7, 3) := by decide +kernel
theorem dX5_findRows_108 : decode cX5_findRows 108 = .ok (.iconst 1, 1) := by decide +kernel
theorem dX5_findRows_109 : decode cX5_findRows 109 = .ok (.goto 4, 3) := by decide +kernel
theorem dX5_findRows_112 : decode cX5_findRows 112 = .ok (.iconst 0, 1) := by decide +kernel
theorem dX5_findRows_113 : decode cX5_findRows 113 = .ok (.iconst 3, 1) := by decide +kernel
theorem dX5_findRows_114 : decode cX5_findRows 114 = .ok (.iload_n 1, 1) := by decide +kernel
theorem dX5_findRows_115 : decode cX5_findRows 115 = .ok (.i2l, 1) := by decide +kernel
theorem dX5_findRows_116 : decode cX5_findRows 116 = .ok (.invokevirtual 200, 3) := by decide +kernel
theorem dX5_findRows_119 : decode cX5_findRows 119 = .ok (.ifCond .eq 15, 3) := by decide +kernel
theorem dX5_findRows_122 : decode cX5_findRows 122 = .ok (.aload_n 0, 1) := by decide +kernel
theorem dX5_findRows_123 : decode cX5_findRows 123 = .ok (.getfield 216, 3) := by decide +kernel
theorem dX5_findRows_126 : decode cX5_findRows 126 = .ok (.iload_n 2, 1) := by decide +kernel
theorem dX5_findRows_127 : decode cX5_findRows 127 = .ok (.iload_n 1, 1) := by decide +kernel
theorem dX5_findRows_128 : decode cX5_findRows 128 = .ok (.iastore, 1) := by decide +kernel
theorem dX5_findRows_129 : decode cX5_findRows 129 = .ok (.iload_n 1, 1) := by decide +kernel
theorem dX5_findRows_130 : decode cX5_findRows 130 = .ok (.iload 4, 2) := by decide +kernel
theorem dX5_findRows_132 : decode cX5_findRows 132 = .ok (.iadd, 1) := by decide +kernel
theorem dX5_findRows_133 : decode cX5_findRows 133 = .ok (.istore_n 1, 1) := by decide +kernel
theorem dX5_findRows_134 : decode cX5_findRows 134 = .ok (.iinc 2 1, 3) := by decide +kernel
theorem dX5_findRows_137 : decode cX5_findRows 137 = .ok (.goto (-130), 3) := by decide +kernel
theorem dX5_findRows_140 : decode cX5_findRows 140 = .ok (.aload_n 0, 1) := by decide +kernel
theorem dX5_findRows_141 : decode cX5_findRows 141 = .ok (.iload_n 1, 1) := by decide +kernel
theorem dX5_findRows_142 : decode cX5_findRows 142 = .ok (.aload_n 0, 1) := by decide +kernel
theorem dX5_findRows_143 : decode cX5_findRows 143 = .ok (.getfield 213, 3) := by decide +kernel
theorem dX5_findRows_146 : decode cX5_findRows 146 = .ok (.if_icmp .ne 7, 3) := by decide +kernel
theorem dX5_findRows_149 : decode cX5_findRows 149 = .ok (.iconst 1, 1) := by decide +kernel
theorem dX5_findRows_150 : decode cX5_findRows 150 = .ok (.goto 4, 3) := by decide +kernel
theorem dX5_findRows_153 : decode cX5_findRows 153 = .ok (.iconst 0, 1) := by decide +kernel
theorem dX5_findRows_154 : decode cX5_findRows 154 = .ok (.iconst 3, 1) := by decide +kernel
theorem dX5_findRows_155 : decode cX5_findRows 155 = .ok (.iload_n 1, 1) := by decide +kernel
theorem dX5_findRows_156 : decode cX5_findRows 156 = .ok (.i2l, 1) := by decide +kernel
theorem dX5_findRows_157 : decode cX5_findRows 157 = .ok (.invokevirtual 200, 3) := by decide +kernel
theorem dX5_findRows_160 : decode cX5_findRows 160 = .ok (.pop, 1) := by decide +kernel
theorem dX5_findRows_161 : decode cX5_findRows 161 = .ok (.return_, 1) := by decide +kernel
theorem dX5_hasParts_0 : decode cX5_hasParts 0 = .ok (.iload_n 1, 1) := by decide +kernel
theorem dX5_hasParts_1 : decode cX5_hasParts 1 = .ok (.istore_n 3, 1) := by decide +kernel
theorem dX5_hasParts_2 : decode cX5_hasParts 2 = .ok (.aload_n 0, 1) := by decide +kernel
theorem dX5_hasParts_3 : decode cX5_hasParts 3 = .ok (.iconst 0, 1) := by decide +kernel
theorem dX5_hasParts_4 : decode cX5_hasParts 4 = .ok (.putfield 219, 3) := by decide +kernel
theorem dX5_hasParts_7 : decode cX5_hasParts 7 = .ok (.aload_n 0, 1) := by decide +kernel
theorem dX5_hasParts_8 : decode cX5_hasParts 8 = .ok (.iconst 0, 1) := by decide +kernel
theorem dX5_hasParts_9 : decode cX5_hasParts 9 = .ok (.putfield 222, 3) := by decide +kernel
theorem dX5_hasParts_12 : decode cX5_hasParts 12 = .ok (.iload_n 3, 1) := by decide +kernel
theorem dX5_hasParts_13 : decode cX5_hasParts 13 = .ok (.iload_n 2, 1) := by decide +kernel
theorem dX5_hasParts_14 : decode cX5_hasParts 14 = .ok (.if_icmp .ge 110, 3) := by decide +kernel
theorem dX5_hasParts_17 : decode cX5_hasParts 17 = .ok (.iload_n 3, 1) := by decide +kernel
theorem dX5_hasParts_18 : decode cX5_hasParts 18 = .ok (.iconst 4, 1) := by decide +kernel
theorem dX5_hasParts_19 : decode cX5_hasParts 19 = .ok (.iadd, 1) := by decide +kernel
theorem dX5_hasParts_20 : decode cX5_hasParts 20 = .ok (.iload_n 2, 1) := by decide +kernel
theorem dX5_hasParts_21 : decode cX5_hasParts 21 = .ok (.if_icmp .le 5, 3) := by decide +kernel
theorem dX5_hasParts_24 : decode cX5_hasParts 24 = .ok (.iconst 0, 1) := by decide +kernel
theorem dX5_hasParts_25 : decode cX5_hasParts 25 = .ok (.ireturn, 1) := by decide +kernel
theorem dX5_hasParts_26 : decode cX5_hasParts 26 = .ok (.aload_n 0, 1) := by decide +kernel
theorem dX5_hasParts_27 : decode cX5_hasParts 27 = .ok (.iload_n 3, 1) := by decide +kernel
theorem dX5_hasParts_28 : decode cX5_hasParts 28 = .ok (.invokevirtual 193, 3) := by decide +kernel
theorem dX5_hasParts_31 : decode cX5_hasParts 31 = .ok (.istore 4, 2) := by decide +kernel
theorem dX5_hasParts_33 : decode cX5_hasParts 33 = .ok (.aload_n 0, 1) := by decide +kernel
theorem dX5_hasParts_34 : decode cX5_hasParts 34 = .ok (.iload_n 3, 1) := by decide +kernel
theorem dX5_hasParts_35 : decode cX5_hasParts 35 = .ok (.iconst 2, 1) := by decide +kernel
theorem dX5_hasParts_36 : decode cX5_hasParts 36 = .ok (.iadd, 1) := by decide +kernel
theorem dX5_hasParts_37 : decode cX5_hasParts 37 = .ok (.invokevirtual 193, 3) := by decide +kernel
theorem dX5_hasParts_40 : decode cX5_hasParts 40 = .ok (.istore 5, 2) := by decide +kernel
theorem dX5_hasParts_42 : decode cX5_hasParts 42 = .ok (.iload_n 3, 1) := by decide +kernel
theorem dX5_hasParts_43 : decode cX5_hasParts 43 = .ok (.iconst 4, 1) := by decide +kernel
theorem dX5_hasParts_44 : decode cX5_hasParts 44 = .ok (.iadd, 1) := by decide +kernel
theorem dX5_hasParts_45 : decode cX5_hasParts 45 = .ok (.iload 5, 2) := by decide +kernel
theorem dX5_hasParts_47 : decode cX5_hasParts 47 = .ok (.iadd, 1) := by decide +kernel
theorem dX5_hasParts_48 : decode cX5_hasParts 48 = .ok (.iload_n 2, 1) := by decide +kernel
theorem dX5_hasParts_49 : decode cX5_hasParts 49 = .ok (.if_icmp .gt 8, 3) := by decide +kernel
theorem dX5_hasParts_52 : decode cX5_hasParts 52 = .ok (.iload 4, 2) := by decide +kernel
theorem dX5_hasParts_54 : decode cX5_hasParts 54 = .ok (.ifCond .ne 5, 3) := by decide +kernel
theorem dX5_hasParts_57 : decode cX5_hasParts 57 = .ok (.iconst 0, 1) := by decide +kernel
theorem dX5_hasParts_58 : decode cX5_hasParts 58 = .ok (.ireturn, 1) := by decide +kernel
theorem dX5_hasParts_59 : decode cX5_hasParts 59 = .ok (.iload 4, 2) := by decide +kernel
theorem dX5_hasParts_61 : decode cX5_hasParts 61 = .ok (.iconst 1, 1) := by decide +kernel
theorem dX5_hasParts_62 : decode cX5_hasParts 62 = .ok (.if_icmp .ne 25, 3) := by decide +kernel
theorem dX5_hasParts_65 : decode cX5_hasParts 65 = .ok (.iload_n 3, 1) := by decide +kernel
theorem dX5_hasParts_66 : decode cX5_hasParts 66 = .ok (.iload_n 1, 1) := by decide +kernel
theorem dX5_hasParts_67 : decode cX5_hasParts 67 = .ok (.if_icmp .gt 10, 3) := by decide +kernel
theorem dX5_hasParts_70 : decode cX5_hasParts 70 = .ok (.iload 5, 2) := by decide +kernel
theorem dX5_hasParts_72 : decode cX5_hasParts 72 = .ok (.bipush 16, 2) := by decide +kernel
theorem dX5_hasParts_74 : decode cX5_hasParts 74 = .ok (.if_icmp .eq 5, 3) := by decide +kernel
theorem dX5_hasParts_77 : decode cX5_hasParts 77 = .ok (.iconst 0, 1) := by decide +kernel
theorem dX5_hasParts_78 : decode cX5_hasParts 78 = .ok (.ireturn, 1) := by decide +kernel
theorem dX5_hasParts_79 : decode cX5_hasParts 79 = .ok (.aload_n 0, 1) := by decide +kernel
theorem dX5_hasParts_80 : decode cX5_hasParts 80 = .ok (.iconst 1, 1) := by decide +kernel
theorem dX5_hasParts_81 : decode cX5_hasParts 81 = .ok (.putfield 222, 3) := by decide +kernel
theorem dX5_hasParts_84 : decode cX5_hasParts 84 = .ok (.goto 30, 3) := by decide +kernel
theorem dX5_hasParts_87 : decode cX5_hasParts 87 = .ok (.aload_n 0, 1) := by decide +kernel
theorem dX5_hasParts_88 : decode cX5_hasParts 88 = .ok (.dup, 1) := by decide +kernel
theorem dX5_hasParts_89 : decode cX5_hasParts 89 = .ok (.getfield 219, 3) := by decide +kernel
theorem dX5_hasParts_92 : decode cX5_hasParts 92 = .ok (.iconst 1, 1) := by decide +kernel
theorem dX5_hasParts_93 : decode cX5_hasParts 93 = .ok (.iadd, 1) := by decide +kernel
theorem dX5_hasParts_94 : decode cX5_hasParts 94 = .ok (.putfield 219, 3) := by decide +kernel
theorem dX5_hasParts_97 : decode cX5_hasParts 97 = .ok (.iload 5, 2) := by decide +kernel
theorem dX5_hasParts_99 : decode cX5_hasParts 99 = .ok (.bipush 8, 2) := by decide +kernel
theorem dX5_hasParts_101 : decode cX5_hasParts 101 = .ok (.if_icmp .gt 11, 3) := by decide +kernel
theorem dX5_hasParts_104 : decode cX5_hasParts 104 = .ok (.aload_n 0, 1) := by decide +kernel
theorem dX5_hasParts_105 : decode cX5_hasParts 105 = .ok (.getfield 219, 3) := by decide +kernel
theorem dX5_hasParts_108 : decode cX5_hasParts 108 = .ok (.iconst 3, 1) := by decide +kernel
theorem dX5_hasParts_109 : decode cX5_hasParts 109 = .ok (.if_icmp .le 5, 3) := by decide +kernel
theorem dX5_hasParts_112 : decode cX5_hasParts 112 = .ok (.iconst 0, 1) := by decide +kernel
theorem dX5_hasParts_113 : decode cX5_hasParts 113 = .ok (.ireturn, 1) := by decide +kernel
theorem dX5_hasParts_114 : decode cX5_hasParts 114 = .ok (.iload_n 3, 1) := by decide +kernel
theorem dX5_hasParts_115 : decode cX5_hasParts 115 = .ok (.iconst 4, 1) := by decide +kernel
theorem dX5_hasParts_116 : decode cX5_hasParts 116 = .ok (.iload 5, 2) := by decide +kernel
theorem dX5_hasParts_118 : decode cX5_hasParts 118 = .ok (.iadd, 1) := by decide +kernel
theorem dX5_hasParts_119 : decode cX5_hasParts 119 = .ok (.iadd, 1) := by decide +kernel
theorem dX5_hasParts_120 : decode cX5_hasParts 120 = .ok (.istore_n 3, 1) := by decide +kernel
theorem dX5_hasParts_121 : decode cX5_hasParts 121 = .ok (.goto (-109), 3) := by decide +kernel
theorem dX5_hasParts_124 : decode cX5_hasParts 124 = .ok (.iconst 1, 1) := by decide +kernel
theorem dX5_hasParts_125 : decode cX5_hasParts 125 = .ok (.ireturn, 1) := by decide +kernel
end
section
theorem dX5_isSafe_0 : decode cX5_isSafe 0 = .ok (.aload_n 0, 1) := by decide +kernel
theorem dX5_isSafe_1 : decode cX5_isSafe 1 = .ok (.getfield 128, 3) := by decide +kernel
theorem dX5_isSafe_4 : decode cX5_isSafe 4 = .ok (.aload_n 0, 1) := by decide +kernel
theorem dX5_isSafe_5 : decode cX5_isSafe 5 = .ok (.getfield 226, 3) := by decide +kernel
theorem dX5_isSafe_8 : decode cX5_isSafe 8 = .ok (.iaload, 1) := by decide +kernel
theorem dX5_isSafe_9 : decode cX5_isSafe 9 = .ok (.bipush 47, 2) := by decide +kernel
theorem dX5_isSafe_11 : decode cX5_isSafe 11 = .ok (.if_icmp .eq 7, 3) := by decide +kernel
theorem dX5_isSafe_14 : decode cX5_isSafe 14 = .ok (.iconst 1, 1) := by decide +kernel
theorem dX5_isSafe_15 : decode cX5_isSafe 15 = .ok (.goto 4, 3) := by decide +kernel
theorem dX5_isSafe_18 : decode cX5_isSafe 18 = .ok (.iconst 0, 1) := by decide +kernel
theorem dX5_isSafe_19 : decode cX5_isSafe 19 = .ok (.istore_n 1, 1) := by decide +kernel
theorem dX5_isSafe_20 : decode cX5_isSafe 20 = .ok (.aload_n 0, 1) := by decide +kernel
theorem dX5_isSafe_21 : decode cX5_isSafe 21 = .ok (.getfield 226, 3) := by decide +kernel
theorem dX5_isSafe_24 : decode cX5_isSafe 24 = .ok (.istore_n 2, 1) := by decide +kernel
theorem dX5_isSafe_25 : decode cX5_isSafe 25 = .ok (.aload_n 0, 1) := by decide +kernel
theorem dX5_isSafe_26 : decode cX5_isSafe 26 = .ok (.getfield 226, 3) := by decide +kernel
theorem dX5_isSafe_29 : decode cX5_isSafe 29 = .ok (.istore_n 3, 1) := by decide +kernel
theorem dX5_isSafe_30 : decode cX5_isSafe 30 = .ok (.iload_n 3, 1) := by decide +kernel
theorem dX5_isSafe_31 : decode cX5_isSafe 31 = .ok (.aload_n 0, 1) := by decide +kernel
theorem dX5_isSafe_32 : decode cX5_isSafe 32 = .ok (.getfield 226, 3) := by decide +kernel
theorem dX5_isSafe_35 : decode cX5_isSafe 35 = .ok (.aload_n 0, 1) := by decide +kernel
theorem dX5_isSafe_36 : decode cX5_isSafe 36 = .ok (.getfield 229, 3) := by decide +kernel
theorem dX5_isSafe_39 : decode cX5_isSafe 39 = .ok (.iadd, 1) := by decide +kernel
theorem dX5_isSafe_40 : decode cX5_isSafe 40 = .ok (.if_icmp .gt 133, 3) := by decide +kernel
theorem dX5_isSafe_43 : decode cX5_isSafe 43 = .ok (.iload_n 3, 1) := by decide +kernel
theorem dX5_isSafe_44 : decode cX5_isSafe 44 = .ok (.aload_n 0, 1) := by decide +kernel
theorem dX5_isSafe_45 : decode cX5_isSafe 45 = .ok (.getfield 226, 3) := by decide +kernel
theorem dX5_isSafe_48 : decode cX5_isSafe 48 = .ok (.aload_n 0, 1) := by decide +kernel
theorem dX5_isSafe_49 : decode cX5_isSafe 49 = .ok (.getfield 229, 3) := by decide +kernel
theorem dX5_isSafe_52 : decode cX5_isSafe 52 = .ok (.iadd, 1) := by decide +kernel
theorem dX5_isSafe_53 : decode cX5_isSafe 53 = .ok (.if_icmp .ne 7, 3) := by decide +kernel
theorem dX5_isSafe_56 : decode cX5_isSafe 56 = .ok (.iconst 1, 1) := by decide +kernel
theorem dX5_isSafe_57 : decode cX5_isSafe 57 = .ok (.goto 4, 3) := by decide +kernel
theorem dX5_isSafe_60 : decode cX5_isSafe 60 = .ok (.iconst 0, 1) := by decide +kernel
theorem dX5_isSafe_61 : decode cX5_isSafe 61 = .ok (.istore 4, 2) := by decide +kernel
theorem dX5_isSafe_63 : decode cX5_isSafe 63 = .ok (.iload 4, 2) := by decide +kernel
theorem dX5_isSafe_65 : decode cX5_isSafe 65 = .ok (.ifCond .eq 11, 3) := by decide +kernel
theorem dX5_isSafe_68 : decode cX5_isSafe 68 = .ok (.iload_n 2, 1) := by decide +kernel
theorem dX5_isSafe_69 : decode cX5_isSafe 69 = .ok (.iload_n 3, 1) := by decide +kernel
theorem dX5_isSafe_70 : decode cX5_isSafe 70 = .ok (.if_icmp .ge 71, 3) := by decide +kernel
theorem dX5_isSafe_73 : decode cX5_isSafe 73 = .ok (.goto 14, 3) := by decide +kernel
theorem dX5_isSafe_76 : decode cX5_isSafe 76 = .ok (.aload_n 0, 1) := by decide +kernel
theorem dX5_isSafe_77 : decode cX5_isSafe 77 = .ok (.getfield 128, 3) := by decide +kernel
theorem dX5_isSafe_80 : decode cX5_isSafe 80 = .ok (.iload_n 3, 1) := by decide +kernel
theorem dX5_isSafe_81 : decode cX5_isSafe 81 = .ok (.iaload, 1) := by decide +kernel
theorem dX5_isSafe_82 : decode cX5_isSafe 82 = .ok (.bipush 47, 2) := by decide +kernel
theorem dX5_isSafe_84 : decode cX5_isSafe 84 = .ok (.if_icmp .ne 57, 3) := by decide +kernel
theorem dX5_isSafe_87 : decode cX5_isSafe 87 = .ok (.iload_n 3, 1) := by decide +kernel
theorem dX5_isSafe_88 : decode cX5_isSafe 88 = .ok (.iload_n 2, 1) := by decide +kernel
theorem dX5_isSafe_89 : decode cX5_isSafe 89 = .ok (.isub, 1) := by decide +kernel
theorem dX5_isSafe_90 : decode cX5_isSafe 90 = .ok (.istore 5, 2) := by decide +kernel
theorem dX5_isSafe_92 : decode cX5_isSafe 92 = .ok (.iload_n 1, 1) := by decide +kernel
theorem dX5_isSafe_93 : decode cX5_isSafe 93 = .ok (.ifCond .eq 42, 3) := by decide +kernel
theorem dX5_isSafe_96 : decode cX5_isSafe 96 = .ok (.iload 5, 2) := by decide +kernel
theorem dX5_isSafe_98 : decode cX5_isSafe 98 = .ok (.ifCond .le 37, 3) := by decide +kernel
theorem dX5_isSafe_101 : decode cX5_isSafe 101 = .ok (.iload 5, 2) := by decide +kernel
theorem dX5_isSafe_103 : decode cX5_isSafe 103 = .ok (.iconst 2, 1) := by decide +kernel
theorem dX5_isSafe_104 : decode cX5_isSafe 104 = .ok (.if_icmp .ne 27, 3) := by decide +kernel
theorem dX5_isSafe_107 : decode cX5_isSafe 107 = .ok (.aload_n 0, 1) := by decide +kernel
theorem dX5_isSafe_108 : decode cX5_isSafe 108 = .ok (.getfield 128, 3) := by decide +kernel
theorem dX5_isSafe_111 : decode cX5_isSafe 111 = .ok (.iload_n 2, 1) := by decide +kernel
theorem dX5_isSafe_112 : decode cX5_isSafe 112 = .ok (.iaload, 1) := by decide +kernel
theorem dX5_isSafe_113 : decode cX5_isSafe 113 = .ok (.bipush 46, 2) := by decide +kernel
theorem dX5_isSafe_115 : decode cX5_isSafe 115 = .ok (.if_icmp .ne 16, 3) := by decide +kernel
theorem dX5_isSafe_118 : decode cX5_isSafe 118 = .ok (.aload_n 0, 1) := by decide +kernel
theorem dX5_isSafe_119 : decode cX5_isSafe 119 = .ok (.getfield 128, 3) := by decide +kernel
theorem dX5_isSafe_122 : decode cX5_isSafe 122 = .ok (.iload_n 2, 1) := by decide +kernel
theorem dX5_isSafe_123 : decode cX5_isSafe 123 = .ok (.iconst 1, 1) := by decide +kernel
theorem dX5_isSafe_124 : decode cX5_isSafe 124 = .ok (.iadd, 1) := by decide +kernel
theorem dX5_isSafe_125 : decode cX5_isSafe 125 = .ok (.iaload, 1) := by decide +kernel
theorem dX5_isSafe_126 : decode cX5_isSafe 126 = .ok (.bipush 46, 2) := by decide +kernel
theorem dX5_isSafe_128 : decode cX5_isSafe 128 = .ok (.if_icmp .eq 7, 3) := by decide +kernel
theorem dX5_isSafe_131 : decode cX5_isSafe 131 = .ok (.iconst 1, 1) := by decide +kernel
theorem dX5_isSafe_132 : decode cX5_isSafe 132 = .ok (.goto 4, 3) := by decide +kernel
theorem dX5_isSafe_135 : decode cX5_isSafe 135 = .ok (.iconst 0, 1) := by decide +kernel
theorem dX5_isSafe_136 : decode cX5_isSafe 136 = .ok (.istore_n 1, 1) := by decide +kernel
theorem dX5_isSafe_137 : decode cX5_isSafe 137 = .ok (.iload_n 3, 1) := by decide +kernel
theorem dX5_isSafe_138 : decode cX5_isSafe 138 = .ok (.iconst 1, 1) := by decide +kernel
theorem dX5_isSafe_139 : decode cX5_isSafe 139 = .ok (.iadd, 1) := by decide +kernel
theorem dX5_isSafe_140 : decode cX5_isSafe 140 = .ok (.istore_n 2, 1) := by decide +kernel
theorem dX5_isSafe_141 : decode cX5_isSafe 141 = .ok (.iload_n 1, 1) := by decide +kernel
theorem dX5_isSafe_142 : decode cX5_isSafe 142 = .ok (.ifCond .eq 23, 3) := by decide +kernel
theorem dX5_isSafe_145 : decode cX5_isSafe 145 = .ok (.iload 4, 2) := by decide +kernel
theorem dX5_isSafe_147 : decode cX5_isSafe 147 = .ok (.ifCond .ne 14, 3) := by decide +kernel
theorem dX5_isSafe_150 : decode cX5_isSafe 150 = .ok (.aload_n 0, 1) := by decide +kernel
theorem dX5_isSafe_151 : decode cX5_isSafe 151 = .ok (.getfield 128, 3) := by decide +kernel
theorem dX5_isSafe_154 : decode cX5_isSafe 154 = .ok (.iload_n 3, 1) := by decide +kernel
theorem dX5_isSafe_155 : decode cX5_isSafe 155 = .ok (.iaload, 1) := by decide +kernel
theorem dX5_isSafe_156 : decode cX5_isSafe 156 = .ok (.bipush 92, 2) := by decide +kernel
theorem dX5_isSafe_158 : decode cX5_isSafe 158 = .ok (.if_icmp .eq 7, 3) := by decide +kernel
theorem dX5_isSafe_161 : decode cX5_isSafe 161 = .ok (.iconst 1, 1) := by decide +kernel
theorem dX5_isSafe_162 : decode cX5_isSafe 162 = .ok (.goto 4, 3) := by decide +kernel
theorem dX5_isSafe_165 : decode cX5_isSafe 165 = .ok (.iconst 0, 1) := by decide +kernel
theorem dX5_isSafe_166 : decode cX5_isSafe 166 = .ok (.istore_n 1, 1) := by decide +kernel
theorem dX5_isSafe_167 : decode cX5_isSafe 167 = .ok (.iinc 3 1, 3) := by decide +kernel
theorem dX5_isSafe_170 : decode cX5_isSafe 170 = .ok (.goto (-140), 3) := by decide +kernel
theorem dX5_isSafe_173 : decode cX5_isSafe 173 = .ok (.iload_n 1, 1) := by decide +kernel
theorem dX5_isSafe_174 : decode cX5_isSafe 174 = .ok (.ireturn, 1) := by decide +kernel
theorem dX5_areAlike_0 : decode cX5_areAlike 0 = .ok (.iconst 0, 1) := by decide +kernel
theorem dX5_areAlike_1 : decode cX5_areAlike 1 = .ok (.istore 4, 2) := by decide +kernel
theorem dX5_areAlike_3 : decode cX5_areAlike 3 = .ok (.iload 4, 2) := by decide +kernel
theorem dX5_areAlike_5 : decode cX5_areAlike 5 = .ok (.iload_n 3, 1) := by decide +kernel
theorem dX5_areAlike_6 : decode cX5_areAlike 6 = .ok (.if_icmp .ge 32, 3) := by decide +kernel
theorem dX5_areAlike_9 : decode cX5_areAlike 9 = .ok (.aload_n 0, 1) := by decide +kernel
theorem dX5_areAlike_10 : decode cX5_areAlike 10 = .ok (.getfield 128, 3) := by decide +kernel
theorem dX5_areAlike_13 : decode cX5_areAlike 13 = .ok (.iload_n 1, 1) := by decide +kernel
theorem dX5_areAlike_14 : decode cX5_areAlike 14 = .ok (.iload 4, 2) := by decide +kernel
theorem dX5_areAlike_16 : decode cX5_areAlike 16 = .ok (.iadd, 1) := by decide +kernel
theorem dX5_areAlike_17 : decode cX5_areAlike 17 = .ok (.iaload, 1) := by decide +kernel
theorem dX5_areAlike_18 : decode cX5_areAlike 18 = .ok (.aload_n 0, 1) := by decide +kernel
theorem dX5_areAlike_19 : decode cX5_areAlike 19 = .ok (.getfield 128, 3) := by decide +kernel
theorem dX5_areAlike_22 : decode cX5_areAlike 22 = .ok (.iload_n 2, 1) := by decide +kernel
theorem dX5_areAlike_23 : decode cX5_areAlike 23 = .ok (.iload 4, 2) := by decide +kernel
theorem dX5_areAlike_25 : decode cX5_areAlike 25 = .ok (.iadd, 1) := by decide +kernel
theorem dX5_areAlike_26 : decode cX5_areAlike 26 = .ok (.iaload, 1) := by decide +kernel
theorem dX5_areAlike_27 : decode cX5_areAlike 27 = .ok (.if_icmp .eq 5, 3) := by decide +kernel
theorem dX5_areAlike_30 : decode cX5_areAlike 30 = .ok (.iconst 0, 1) := by decide +kernel
theorem dX5_areAlike_31 : decode cX5_areAlike 31 = .ok (.ireturn, 1) := by decide +kernel
theorem dX5_areAlike_32 : decode cX5_areAlike 32 = .ok (.iinc 4 1, 3) := by decide +kernel
theorem dX5_areAlike_35 : decode cX5_areAlike 35 = .ok (.goto (-32), 3) := by decide +kernel
theorem dX5_areAlike_38 : decode cX5_areAlike 38 = .ok (.iconst 1, 1) := by decide +kernel
theorem dX5_areAlike_39 : decode cX5_areAlike 39 = .ok (.ireturn, 1) := by decide +kernel
theorem dX5_layRow_0 : decode cX5_layRow 0 = .ok (.aload_n 0, 1) := by decide +kernel
theorem dX5_layRow_1 : decode cX5_layRow 1 = .ok (.aload_n 0, 1) := by decide +kernel
theorem dX5_layRow_2 : decode cX5_layRow 2 = .ok (.iload_n 1, 1) := by decide +kernel
theorem dX5_layRow_3 : decode cX5_layRow 3 = .ok (.bipush 28, 2) := by decide +kernel
theorem dX5_layRow_5 : decode cX5_layRow 5 = .ok (.iadd, 1) := by decide +kernel
theorem dX5_layRow_6 : decode cX5_layRow 6 = .ok (.invokevirtual 193, 3) := by decide +kernel
theorem dX5_layRow_9 : decode cX5_layRow 9 = .ok (.putfield 229, 3) := by decide +kernel
theorem dX5_layRow_12 : decode cX5_layRow 12 = .ok (.aload_n 0, 1) := by decide +kernel
theorem dX5_layRow_13 : decode cX5_layRow 13 = .ok (.aload_n 0, 1) := by decide +kernel
theorem dX5_layRow_14 : decode cX5_layRow 14 = .ok (.iload_n 1, 1) := by decide +kernel
theorem dX5_layRow_15 : decode cX5_layRow 15 = .ok (.bipush 30, 2) := by decide +kernel
theorem dX5_layRow_17 : decode cX5_layRow 17 = .ok (.iadd, 1) := by decide +kernel
theorem dX5_layRow_18 : decode cX5_layRow 18 = .ok (.invokevirtual 193, 3) := by decide +kernel
theorem dX5_layRow_21 : decode cX5_layRow 21 = .ok (.putfield 232, 3) := by decide +kernel
theorem dX5_layRow_24 : decode cX5_layRow 24 = .ok (.aload_n 0, 1) := by decide +kernel
theorem dX5_layRow_25 : decode cX5_layRow 25 = .ok (.iload_n 1, 1) := by decide +kernel
theorem dX5_layRow_26 : decode cX5_layRow 26 = .ok (.bipush 46, 2) := by decide +kernel
theorem dX5_layRow_28 : decode cX5_layRow 28 = .ok (.iadd, 1) := by decide +kernel
theorem dX5_layRow_29 : decode cX5_layRow 29 = .ok (.putfield 226, 3) := by decide +kernel
theorem dX5_layRow_32 : decode cX5_layRow 32 = .ok (.aload_n 0, 1) := by decide +kernel
theorem dX5_layRow_33 : decode cX5_layRow 33 = .ok (.aload_n 0, 1) := by decide +kernel
theorem dX5_layRow_34 : decode cX5_layRow 34 = .ok (.iload_n 1, 1) := by decide +kernel
theorem dX5_layRow_35 : decode cX5_layRow 35 = .ok (.bipush 20, 2) := by decide +kernel
theorem dX5_layRow_37 : decode cX5_layRow 37 = .ok (.iadd, 1) := by decide +kernel
theorem dX5_layRow_38 : decode cX5_layRow 38 = .ok (.invokevirtual 196, 3) := by decide +kernel
theorem dX5_layRow_41 : decode cX5_layRow 41 = .ok (.putfield 235, 3) := by decide +kernel
theorem dX5_layRow_44 : decode cX5_layRow 44 = .ok (.aload_n 0, 1) := by decide +kernel
theorem dX5_layRow_45 : decode cX5_layRow 45 = .ok (.aload_n 0, 1) := by decide +kernel
theorem dX5_layRow_46 : decode cX5_layRow 46 = .ok (.iload_n 1, 1) := by decide +kernel
theorem dX5_layRow_47 : decode cX5_layRow 47 = .ok (.bipush 24, 2) := by decide +kernel
theorem dX5_layRow_49 : decode cX5_layRow 49 = .ok (.iadd, 1) := by decide +kernel
theorem dX5_layRow_50 : decode cX5_layRow 50 = .ok (.invokevirtual 196, 3) := by decide +kernel
theorem dX5_layRow_53 : decode cX5_layRow 53 = .ok (.putfield 239, 3) := by decide +kernel
theorem dX5_layRow_56 : decode cX5_layRow 56 = .ok (.aload_n 0, 1) := by decide +kernel
theorem dX5_layRow_57 : decode cX5_layRow 57 = .ok (.aload_n 0, 1) := by decide +kernel
theorem dX5_layRow_58 : decode cX5_layRow 58 = .ok (.iload_n 1, 1) := by decide +kernel
theorem dX5_layRow_59 : decode cX5_layRow 59 = .ok (.bipush 42, 2) := by decide +kernel
theorem dX5_layRow_61 : decode cX5_layRow 61 = .ok (.iadd, 1) := by decide +kernel
theorem dX5_layRow_62 : decode cX5_layRow 62 = .ok (.invokevirtual 196, 3) := by decide +kernel
theorem dX5_layRow_65 : decode cX5_layRow 65 = .ok (.putfield 242, 3) := by decide +kernel
theorem dX5_layRow_68 : decode cX5_layRow 68 = .ok (.return_, 1) := by decide +kernel
theorem dX5_checkRow_0 : decode cX5_checkRow 0 = .ok (.aload_n 0, 1) := by decide +kernel
theorem dX5_checkRow_1 : decode cX5_checkRow 1 = .ok (.getfield 216, 3) := by decide +kernel
theorem dX5_checkRow_4 : decode cX5_checkRow 4 = .ok (.iload_n 1, 1) := by decide +kernel
theorem dX5_checkRow_5 : decode cX5_checkRow 5 = .ok (.iaload, 1) := by decide +kernel
theorem dX5_checkRow_6 : decode cX5_checkRow 6 = .ok (.istore_n 2, 1) := by decide +kernel
theorem dX5_checkRow_7 : decode cX5_checkRow 7 = .ok (.aload_n 0, 1) := by decide +kernel
theorem dX5_checkRow_8 : decode cX5_checkRow 8 = .ok (.iload_n 2, 1) := by decide +kernel
theorem dX5_checkRow_9 : decode cX5_checkRow 9 = .ok (.invokevirtual 245, 3) := by decide +kernel
theorem dX5_checkRow_12 : decode cX5_checkRow 12 = .ok (.aload_n 0, 1) := by decide +kernel
theorem dX5_checkRow_13 : decode cX5_checkRow 13 = .ok (.iload_n 2, 1) := by decide +kernel
theorem dX5_checkRow_14 : decode cX5_checkRow 14 = .ok (.bipush 10, 2) := by decide +kernel
theorem dX5_checkRow_16 : decode cX5_checkRow 16 = .ok (.iadd, 1) := by decide +kernel
theorem dX5_checkRow_17 : decode cX5_checkRow 17 = .ok (.invokevirtual 193, 3) := by decide +kernel
theorem dX5_checkRow_20 : decode cX5_checkRow 20 = .ok (.istore_n 3, 1) := by decide +kernel
theorem dX5_checkRow_21 : decode cX5_checkRow 21 = .ok (.aload_n 0, 1) := by decide +kernel
theorem dX5_checkRow_22 : decode cX5_checkRow 22 = .ok (.iload_n 2, 1) := by decide +kernel
theorem dX5_checkRow_23 : decode cX5_checkRow 23 = .ok (.bipush 8, 2) := by decide +kernel
theorem dX5_checkRow_25 : decode cX5_checkRow 25 = .ok (.iadd, 1) := by decide +kernel
theorem dX5_checkRow_26 : decode cX5_checkRow 26 = .ok (.invokevirtual 193, 3) := by decide +kernel
theorem dX5_checkRow_29 : decode cX5_checkRow 29 = .ok (.istore 4, 2) := by decide +kernel
theorem dX5_checkRow_31 : decode cX5_checkRow 31 = .ok (.aload_n 0, 1) := by decide +kernel
theorem dX5_checkRow_32 : decode cX5_checkRow 32 = .ok (.aload_n 0, 1) := by decide +kernel
theorem dX5_checkRow_33 : decode cX5_checkRow 33 = .ok (.getfield 226, 3) := by decide +kernel
theorem dX5_checkRow_36 : decode cX5_checkRow 36 = .ok (.aload_n 0, 1) := by decide +kernel
theorem dX5_checkRow_37 : decode cX5_checkRow 37 = .ok (.getfield 229, 3) := by decide +kernel
theorem dX5_checkRow_40 : decode cX5_checkRow 40 = .ok (.iadd, 1) := by decide +kernel
theorem dX5_checkRow_41 : decode cX5_checkRow 41 = .ok (.aload_n 0, 1) := by decide +kernel
theorem dX5_checkRow_42 : decode cX5_checkRow 42 = .ok (.getfield 226, 3) := by decide +kernel
theorem dX5_checkRow_45 : decode cX5_checkRow 45 = .ok (.aload_n 0, 1) := by decide +kernel
theorem dX5_checkRow_46 : decode cX5_checkRow 46 = .ok (.getfield 229, 3) := by decide +kernel
theorem dX5_checkRow_49 : decode cX5_checkRow 49 = .ok (.iadd, 1) := by decide +kernel
theorem dX5_checkRow_50 : decode cX5_checkRow 50 = .ok (.aload_n 0, 1) := by decide +kernel
theorem dX5_checkRow_51 : decode cX5_checkRow 51 = .ok (.getfield 232, 3) := by decide +kernel
theorem dX5_checkRow_54 : decode cX5_checkRow 54 = .ok (.iadd, 1) := by decide +kernel
theorem dX5_checkRow_55 : decode cX5_checkRow 55 = .ok (.invokevirtual 248, 3) := by decide +kernel
theorem dX5_checkRow_58 : decode cX5_checkRow 58 = .ok (.istore 5, 2) := by decide +kernel
theorem dX5_checkRow_60 : decode cX5_checkRow 60 = .ok (.aload_n 0, 1) := by decide +kernel
theorem dX5_checkRow_61 : decode cX5_checkRow 61 = .ok (.iload_n 3, 1) := by decide +kernel
theorem dX5_checkRow_62 : decode cX5_checkRow 62 = .ok (.ifCond .eq 9, 3) := by decide +kernel
theorem dX5_checkRow_65 : decode cX5_checkRow 65 = .ok (.iload_n 3, 1) := by decide +kernel
theorem dX5_checkRow_66 : decode cX5_checkRow 66 = .ok (.bipush 8, 2) := by decide +kernel
theorem dX5_checkRow_68 : decode cX5_checkRow 68 = .ok (.if_icmp .ne 39, 3) := by decide +kernel
theorem dX5_checkRow_71 : decode cX5_checkRow 71 = .ok (.aload_n 0, 1) := by decide +kernel
theorem dX5_checkRow_72 : decode cX5_checkRow 72 = .ok (.getfield 229, 3) := by decide +kernel
theorem dX5_checkRow_75 : decode cX5_checkRow 75 = .ok (.i2l, 1) := by decide +kernel
theorem dX5_checkRow_76 : decode cX5_checkRow 76 = .ok (.lconst 1, 1) := by decide +kernel
theorem dX5_checkRow_77 : decode cX5_checkRow 77 = .ok (.ldc2_w 135, 3) := by decide +kernel
theorem dX5_checkRow_80 : decode cX5_checkRow 80 = .ok (.invokestatic 13, 3) := by decide +kernel
theorem dX5_checkRow_83 : decode cX5_checkRow 83 = .ok (.ifCond .eq 24, 3) := by decide +kernel
theorem dX5_checkRow_86 : decode cX5_checkRow 86 = .ok (.iload 4, 2) := by decide +kernel
theorem dX5_checkRow_88 : decode cX5_checkRow 88 = .ok (.ifCond .eq 10, 3) := by decide +kernel
theorem dX5_checkRow_91 : decode cX5_checkRow 91 = .ok (.iload 4, 2) := by decide +kernel
theorem dX5_checkRow_93 : decode cX5_checkRow 93 = .ok (.bipush 8, 2) := by decide +kernel
theorem dX5_checkRow_95 : decode cX5_checkRow 95 = .ok (.if_icmp .ne 12, 3) := by decide +kernel
theorem dX5_checkRow_98 : decode cX5_checkRow 98 = .ok (.iload 5, 2) := by decide +kernel
theorem dX5_checkRow_100 : decode cX5_checkRow 100 = .ok (.ifCond .eq 7, 3) := by decide +kernel
theorem dX5_checkRow_103 : decode cX5_checkRow 103 = .ok (.iconst 1, 1) := by decide +kernel
theorem dX5_checkRow_104 : decode cX5_checkRow 104 = .ok (.goto 4, 3) := by decide +kernel
theorem dX5_checkRow_107 : decode cX5_checkRow 107 = .ok (.iconst 0, 1) := by decide +kernel
theorem dX5_checkRow_108 : decode cX5_checkRow 108 = .ok (.iconst 4, 1) := by decide +kernel
theorem dX5_checkRow_109 : decode cX5_checkRow 109 = .ok (.iload_n 2, 1) := by decide +kernel
theorem dX5_checkRow_110 : decode cX5_checkRow 110 = .ok (.i2l, 1) := by decide +kernel
theorem dX5_checkRow_111 : decode cX5_checkRow 111 = .ok (.invokevirtual 200, 3) := by decide +kernel
theorem dX5_checkRow_114 : decode cX5_checkRow 114 = .ok (.ifCond .ne 4, 3) := by decide +kernel
theorem dX5_checkRow_117 : decode cX5_checkRow 117 = .ok (.return_, 1) := by decide +kernel
theorem dX5_checkRow_118 : decode cX5_checkRow 118 = .ok (.aload_n 0, 1) := by decide +kernel
theorem dX5_checkRow_119 : decode cX5_checkRow 119 = .ok (.getfield 235, 3) := by decide +kernel
theorem dX5_checkRow_122 : decode cX5_checkRow 122 = .ok (.ldc2_w 147, 3) := by decide +kernel
theorem dX5_checkRow_125 : decode cX5_checkRow 125 = .ok (.lcmp, 1) := by decide +kernel
theorem dX5_checkRow_126 : decode cX5_checkRow 126 = .ok (.ifCond .ne 18, 3) := by decide +kernel
theorem dX5_checkRow_129 : decode cX5_checkRow 129 = .ok (.aload_n 0, 1) := by decide +kernel
theorem dX5_checkRow_130 : decode cX5_checkRow 130 = .ok (.getfield 239, 3) := by decide +kernel
theorem dX5_checkRow_133 : decode cX5_checkRow 133 = .ok (.ldc2_w 147, 3) := by decide +kernel
theorem dX5_checkRow_136 : decode cX5_checkRow 136 = .ok (.lcmp, 1) := by decide +kernel
theorem dX5_checkRow_137 : decode cX5_checkRow 137 = .ok (.ifCond .ne 7, 3) := by decide +kernel
theorem dX5_checkRow_140 : decode cX5_checkRow 140 = .ok (.iconst 1, 1) := by decide +kernel
theorem dX5_checkRow_141 : decode cX5_checkRow 141 = .ok (.goto 4, 3) := by decide +kernel
theorem dX5_checkRow_144 : decode cX5_checkRow 144 = .ok (.iconst 0, 1) := by decide +kernel
theorem dX5_checkRow_145 : decode cX5_checkRow 145 = .ok (.istore 6, 2) := by decide +kernel
theorem dX5_checkRow_147 : decode cX5_checkRow 147 = .ok (.aload_n 0, 1) := by decide +kernel
theorem dX5_checkRow_148 : decode cX5_checkRow 148 = .ok (.iload 6, 2) := by decide +kernel
theorem dX5_checkRow_150 : decode cX5_checkRow 150 = .ok (.aload_n 0, 1) := by decide +kernel
theorem dX5_checkRow_151 : decode cX5_checkRow 151 = .ok (.getfield 222, 3) := by decide +kernel
theorem dX5_checkRow_154 : decode cX5_checkRow 154 = .ok (.if_icmp .ne 7, 3) := by decide +kernel
theorem dX5_checkRow_157 : decode cX5_checkRow 157 = .ok (.iconst 1, 1) := by decide +kernel
theorem dX5_checkRow_158 : decode cX5_checkRow 158 = .ok (.goto 4, 3) := by decide +kernel
theorem dX5_checkRow_161 : decode cX5_checkRow 161 = .ok (.iconst 0, 1) := by decide +kernel
theorem dX5_checkRow_162 : decode cX5_checkRow 162 = .ok (.iconst 5, 1) := by decide +kernel
theorem dX5_checkRow_163 : decode cX5_checkRow 163 = .ok (.iload_n 2, 1) := by decide +kernel
theorem dX5_checkRow_164 : decode cX5_checkRow 164 = .ok (.i2l, 1) := by decide +kernel
theorem dX5_checkRow_165 : decode cX5_checkRow 165 = .ok (.invokevirtual 200, 3) := by decide +kernel
theorem dX5_checkRow_168 : decode cX5_checkRow 168 = .ok (.pop, 1) := by decide +kernel
theorem dX5_checkRow_169 : decode cX5_checkRow 169 = .ok (.aload_n 0, 1) := by decide +kernel
theorem dX5_checkRow_170 : decode cX5_checkRow 170 = .ok (.getfield 222, 3) := by decide +kernel
theorem dX5_checkRow_173 : decode cX5_checkRow 173 = .ok (.ifCond .eq 42, 3) := by decide +kernel
theorem dX5_checkRow_176 : decode cX5_checkRow 176 = .ok (.aload_n 0, 1) := by decide +kernel
theorem dX5_checkRow_177 : decode cX5_checkRow 177 = .ok (.aload_n 0, 1) := by decide +kernel
theorem dX5_checkRow_178 : decode cX5_checkRow 178 = .ok (.aload_n 0, 1) := by decide +kernel
theorem dX5_checkRow_179 : decode cX5_checkRow 179 = .ok (.getfield 226, 3) := by decide +kernel
theorem dX5_checkRow_182 : decode cX5_checkRow 182 = .ok (.aload_n 0, 1) := by decide +kernel
theorem dX5_checkRow_183 : decode cX5_checkRow 183 = .ok (.getfield 229, 3) := by decide +kernel
theorem dX5_checkRow_186 : decode cX5_checkRow 186 = .ok (.iadd, 1) := by decide +kernel
theorem dX5_checkRow_187 : decode cX5_checkRow 187 = .ok (.iconst 4, 1) := by decide +kernel
theorem dX5_checkRow_188 : decode cX5_checkRow 188 = .ok (.iadd, 1) := by decide +kernel
theorem dX5_checkRow_189 : decode cX5_checkRow 189 = .ok (.invokevirtual 252, 3) := by decide +kernel
theorem dX5_checkRow_192 : decode cX5_checkRow 192 = .ok (.putfield 239, 3) := by decide +kernel
theorem dX5_checkRow_195 : decode cX5_checkRow 195 = .ok (.aload_n 0, 1) := by decide +kernel
theorem dX5_checkRow_196 : decode cX5_checkRow 196 = .ok (.aload_n 0, 1) := by decide +kernel
theorem dX5_checkRow_197 : decode cX5_checkRow 197 = .ok (.aload_n 0, 1) := by decide +kernel
theorem dX5_checkRow_198 : decode cX5_checkRow 198 = .ok (.getfield 226, 3) := by decide +kernel
theorem dX5_checkRow_201 : decode cX5_checkRow 201 = .ok (.aload_n 0, 1) := by decide +kernel
theorem dX5_checkRow_202 : decode cX5_checkRow 202 = .ok (.getfield 229, 3) := by decide +kernel
theorem dX5_checkRow_205 : decode cX5_checkRow 205 = .ok (.iadd, 1) := by decide +kernel
theorem dX5_checkRow_206 : decode cX5_checkRow 206 = .ok (.bipush 12, 2) := by decide +kernel
theorem dX5_checkRow_208 : decode cX5_checkRow 208 = .ok (.iadd, 1) := by decide +kernel
theorem dX5_checkRow_209 : decode cX5_checkRow 209 = .ok (.invokevirtual 252, 3) := by decide +kernel
theorem dX5_checkRow_212 : decode cX5_checkRow 212 = .ok (.putfield 235, 3) := by decide +kernel
theorem dX5_checkRow_215 : decode cX5_checkRow 215 = .ok (.aload_n 0, 1) := by decide +kernel
theorem dX5_checkRow_216 : decode cX5_checkRow 216 = .ok (.getfield 128, 3) := by decide +kernel
theorem dX5_checkRow_219 : decode cX5_checkRow 219 = .ok (.aload_n 0, 1) := by decide +kernel
theorem dX5_checkRow_220 : decode cX5_checkRow 220 = .ok (.getfield 226, 3) := by decide +kernel
theorem dX5_checkRow_223 : decode cX5_checkRow 223 = .ok (.aload_n 0, 1) := by decide +kernel
theorem dX5_checkRow_224 : decode cX5_checkRow 224 = .ok (.getfield 229, 3) := by decide +kernel
theorem dX5_checkRow_227 : decode cX5_checkRow 227 = .ok (.iadd, 1) := by decide +kernel
theorem dX5_checkRow_228 : decode cX5_checkRow 228 = .ok (.iconst 1, 1) := by decide +kernel
theorem dX5_checkRow_229 : decode cX5_checkRow 229 = .ok (.isub, 1) := by decide +kernel
theorem dX5_checkRow_230 : decode cX5_checkRow 230 = .ok (.iaload, 1) := by decide +kernel
theorem dX5_checkRow_231 : decode cX5_checkRow 231 = .ok (.bipush 47, 2) := by decide +kernel
theorem dX5_checkRow_233 : decode cX5_checkRow 233 = .ok (.if_icmp .ne 7, 3) := by decide +kernel
theorem dX5_checkRow_236 : decode cX5_checkRow 236 = .ok (.iconst 1, 1) := by decide +kernel
theorem dX5_checkRow_237 : decode cX5_checkRow 237 = .ok (.goto 4, 3) := by decide +kernel
theorem dX5_checkRow_240 : decode cX5_checkRow 240 = .ok (.iconst 0, 1) := by decide +kernel
theorem dX5_checkRow_241 : decode cX5_checkRow 241 = .ok (.istore 7, 2) := by decide +kernel
theorem dX5_checkRow_243 : decode cX5_checkRow 243 = .ok (.aload_n 0, 1) := by decide +kernel
theorem dX5_checkRow_244 : decode cX5_checkRow 244 = .ok (.iload 7, 2) := by decide +kernel
theorem dX5_checkRow_246 : decode cX5_checkRow 246 = .ok (.ifCond .eq 37, 3) := by decide +kernel
theorem dX5_checkRow_249 : decode cX5_checkRow 249 = .ok (.aload_n 0, 1) := by decide +kernel
theorem dX5_checkRow_250 : decode cX5_checkRow 250 = .ok (.getfield 235, 3) := by decide +kernel
theorem dX5_checkRow_253 : decode cX5_checkRow 253 = .ok (.lconst 0, 1) := by decide +kernel
theorem dX5_checkRow_254 : decode cX5_checkRow 254 = .ok (.lcmp, 1) := by decide +kernel
theorem dX5_checkRow_255 : decode cX5_checkRow 255 = .ok (.ifCond .ne 32, 3) := by decide +kernel
theorem dX5_checkRow_258 : decode cX5_checkRow 258 = .ok (.aload_n 0, 1) := by decide +kernel
theorem dX5_checkRow_259 : decode cX5_checkRow 259 = .ok (.getfield 239, 3) := by decide +kernel
theorem dX5_checkRow_262 : decode cX5_checkRow 262 = .ok (.lconst 0, 1) := by decide +kernel
theorem dX5_checkRow_263 : decode cX5_checkRow 263 = .ok (.lcmp, 1) := by decide +kernel
theorem dX5_checkRow_264 : decode cX5_checkRow 264 = .ok (.ifCond .ne 23, 3) := by decide +kernel
theorem dX5_checkRow_267 : decode cX5_checkRow 267 = .ok (.iload_n 3, 1) := by decide +kernel
theorem dX5_checkRow_268 : decode cX5_checkRow 268 = .ok (.ifCond .ne 19, 3) := by decide +kernel
theorem dX5_checkRow_271 : decode cX5_checkRow 271 = .ok (.iload 4, 2) := by decide +kernel
theorem dX5_checkRow_273 : decode cX5_checkRow 273 = .ok (.ifCond .ne 14, 3) := by decide +kernel
theorem dX5_checkRow_276 : decode cX5_checkRow 276 = .ok (.aload_n 0, 1) := by decide +kernel
theorem dX5_checkRow_277 : decode cX5_checkRow 277 = .ok (.getfield 222, 3) := by decide +kernel
theorem dX5_checkRow_280 : decode cX5_checkRow 280 = .ok (.ifCond .ne 7, 3) := by decide +kernel
theorem dX5_checkRow_283 : decode cX5_checkRow 283 = .ok (.iconst 1, 1) := by decide +kernel
theorem dX5_checkRow_284 : decode cX5_checkRow 284 = .ok (.goto 4, 3) := by decide +kernel
theorem dX5_checkRow_287 : decode cX5_checkRow 287 = .ok (.iconst 0, 1) := by decide +kernel
theorem dX5_checkRow_288 : decode cX5_checkRow 288 = .ok (.iconst 5, 1) := by decide +kernel
theorem dX5_checkRow_289 : decode cX5_checkRow 289 = .ok (.iload_n 2, 1) := by decide +kernel
theorem dX5_checkRow_290 : decode cX5_checkRow 290 = .ok (.i2l, 1) := by decide +kernel
theorem dX5_checkRow_291 : decode cX5_checkRow 291 = .ok (.invokevirtual 200, 3) := by decide +kernel
theorem dX5_checkRow_294 : decode cX5_checkRow 294 = .ok (.pop, 1) := by decide +kernel
theorem dX5_checkRow_295 : decode cX5_checkRow 295 = .ok (.aload_n 0, 1) := by decide +kernel
theorem dX5_checkRow_296 : decode cX5_checkRow 296 = .ok (.iload_n 3, 1) := by decide +kernel
theorem dX5_checkRow_297 : decode cX5_checkRow 297 = .ok (.bipush 8, 2) := by decide +kernel
theorem dX5_checkRow_299 : decode cX5_checkRow 299 = .ok (.if_icmp .eq 15, 3) := by decide +kernel
theorem dX5_checkRow_302 : decode cX5_checkRow 302 = .ok (.aload_n 0, 1) := by decide +kernel
theorem dX5_checkRow_303 : decode cX5_checkRow 303 = .ok (.getfield 235, 3) := by decide +kernel
theorem dX5_checkRow_306 : decode cX5_checkRow 306 = .ok (.aload_n 0, 1) := by decide +kernel
theorem dX5_checkRow_307 : decode cX5_checkRow 307 = .ok (.getfield 239, 3) := by decide +kernel
theorem dX5_checkRow_310 : decode cX5_checkRow 310 = .ok (.lcmp, 1) := by decide +kernel
theorem dX5_checkRow_311 : decode cX5_checkRow 311 = .ok (.ifCond .ne 49, 3) := by decide +kernel
theorem dX5_checkRow_314 : decode cX5_checkRow 314 = .ok (.aload_n 0, 1) := by decide +kernel
theorem dX5_checkRow_315 : decode cX5_checkRow 315 = .ok (.getfield 235, 3) := by decide +kernel
theorem dX5_checkRow_318 : decode cX5_checkRow 318 = .ok (.lconst 0, 1) := by decide +kernel
theorem dX5_checkRow_319 : decode cX5_checkRow 319 = .ok (.ldc2_w 255, 3) := by decide +kernel
theorem dX5_checkRow_322 : decode cX5_checkRow 322 = .ok (.invokestatic 13, 3) := by decide +kernel
theorem dX5_checkRow_325 : decode cX5_checkRow 325 = .ok (.ifCond .eq 35, 3) := by decide +kernel
theorem dX5_checkRow_328 : decode cX5_checkRow 328 = .ok (.aload_n 0, 1) := by decide +kernel
theorem dX5_checkRow_329 : decode cX5_checkRow 329 = .ok (.getfield 239, 3) := by decide +kernel
theorem dX5_checkRow_332 : decode cX5_checkRow 332 = .ok (.lconst 0, 1) := by decide +kernel
theorem dX5_checkRow_333 : decode cX5_checkRow 333 = .ok (.ldc2_w 92, 3) := by decide +kernel
theorem dX5_checkRow_336 : decode cX5_checkRow 336 = .ok (.invokestatic 13, 3) := by decide +kernel
theorem dX5_checkRow_339 : decode cX5_checkRow 339 = .ok (.ifCond .eq 21, 3) := by decide +kernel
theorem dX5_checkRow_342 : decode cX5_checkRow 342 = .ok (.iload 4, 2) := by decide +kernel
theorem dX5_checkRow_344 : decode cX5_checkRow 344 = .ok (.bipush 8, 2) := by decide +kernel
theorem dX5_checkRow_346 : decode cX5_checkRow 346 = .ok (.if_icmp .ne 10, 3) := by decide +kernel
theorem dX5_checkRow_349 : decode cX5_checkRow 349 = .ok (.aload_n 0, 1) := by decide +kernel
theorem dX5_checkRow_350 : decode cX5_checkRow 350 = .ok (.getfield 222, 3) := by decide +kernel
theorem dX5_checkRow_353 : decode cX5_checkRow 353 = .ok (.ifCond .ne 7, 3) := by decide +kernel
theorem dX5_checkRow_356 : decode cX5_checkRow 356 = .ok (.iconst 1, 1) := by decide +kernel
theorem dX5_checkRow_357 : decode cX5_checkRow 357 = .ok (.goto 4, 3) := by decide +kernel
theorem dX5_checkRow_360 : decode cX5_checkRow 360 = .ok (.iconst 0, 1) := by decide +kernel
theorem dX5_checkRow_361 : decode cX5_checkRow 361 = .ok (.iconst 5, 1) := by decide +kernel
theorem dX5_checkRow_362 : decode cX5_checkRow 362 = .ok (.iload_n 2, 1) := by decide +kernel
theorem dX5_checkRow_363 : decode cX5_checkRow 363 = .ok (.i2l, 1) := by decide +kernel
theorem dX5_checkRow_364 : decode cX5_checkRow 364 = .ok (.invokevirtual 200, 3) := by decide +kernel
theorem dX5_checkRow_367 : decode cX5_checkRow 367 = .ok (.pop, 1) := by decide +kernel
theorem dX5_checkRow_368 : decode cX5_checkRow 368 = .ok (.aload_n 0, 1) := by decide +kernel
theorem dX5_checkRow_369 : decode cX5_checkRow 369 = .ok (.getfield 187, 3) := by decide +kernel
theorem dX5_checkRow_372 : decode cX5_checkRow 372 = .ok (.ifCond .ne 11, 3) := by decide +kernel
theorem dX5_checkRow_375 : decode cX5_checkRow 375 = .ok (.aload_n 0, 1) := by decide +kernel
theorem dX5_checkRow_376 : decode cX5_checkRow 376 = .ok (.iload_n 1, 1) := by decide +kernel
theorem dX5_checkRow_377 : decode cX5_checkRow 377 = .ok (.iload_n 2, 1) := by decide +kernel
theorem dX5_checkRow_378 : decode cX5_checkRow 378 = .ok (.iload 4, 2) := by decide +kernel
theorem dX5_checkRow_380 : decode cX5_checkRow 380 = .ok (.invokevirtual 257, 3) := by decide +kernel
theorem dX5_checkRow_383 : decode cX5_checkRow 383 = .ok (.return_, 1) := by decide +kernel
theorem dX5_checkLocal_0 : decode cX5_checkLocal 0 = .ok (.aload_n 0, 1) := by decide +kernel
theorem dX5_checkLocal_1 : decode cX5_checkLocal 1 = .ok (.getfield 242, 3) := by decide +kernel
theorem dX5_checkLocal_4 : decode cX5_checkLocal 4 = .ok (.ldc2_w 261, 3) := by decide +kernel
theorem dX5_checkLocal_7 : decode cX5_checkLocal 7 = .ok (.ladd, 1) := by decide +kernel
theorem dX5_checkLocal_8 : decode cX5_checkLocal 8 = .ok (.aload_n 0, 1) := by decide +kernel
theorem dX5_checkLocal_9 : decode cX5_checkLocal 9 = .ok (.getfield 210, 3) := by decide +kernel
theorem dX5_checkLocal_12 : decode cX5_checkLocal 12 = .ok (.i2l, 1) := by decide +kernel
theorem dX5_checkLocal_13 : decode cX5_checkLocal 13 = .ok (.lcmp, 1) := by decide +kernel
theorem dX5_checkLocal_14 : decode cX5_checkLocal 14 = .ok (.ifCond .gt 23, 3) := by decide +kernel
theorem dX5_checkLocal_17 : decode cX5_checkLocal 17 = .ok (.aload_n 0, 1) := by decide +kernel
theorem dX5_checkLocal_18 : decode cX5_checkLocal 18 = .ok (.aload_n 0, 1) := by decide +kernel
theorem dX5_checkLocal_19 : decode cX5_checkLocal 19 = .ok (.getfield 242, 3) := by decide +kernel
theorem dX5_checkLocal_22 : decode cX5_checkLocal 22 = .ok (.l2i, 1) := by decide +kernel
theorem dX5_checkLocal_23 : decode cX5_checkLocal 23 = .ok (.invokevirtual 196, 3) := by decide +kernel
theorem dX5_checkLocal_26 : decode cX5_checkLocal 26 = .ok (.ldc2_w 152, 3) := by decide +kernel
theorem dX5_checkLocal_29 : decode cX5_checkLocal 29 = .ok (.lcmp, 1) := by decide +kernel
theorem dX5_checkLocal_30 : decode cX5_checkLocal 30 = .ok (.ifCond .ne 7, 3) := by decide +kernel
theorem dX5_checkLocal_33 : decode cX5_checkLocal 33 = .ok (.iconst 1, 1) := by decide +kernel
theorem dX5_checkLocal_34 : decode cX5_checkLocal 34 = .ok (.goto 4, 3) := by decide +kernel
theorem dX5_checkLocal_37 : decode cX5_checkLocal 37 = .ok (.iconst 0, 1) := by decide +kernel
theorem dX5_checkLocal_38 : decode cX5_checkLocal 38 = .ok (.istore 4, 2) := by decide +kernel
theorem dX5_checkLocal_40 : decode cX5_checkLocal 40 = .ok (.iload 4, 2) := by decide +kernel
theorem dX5_checkLocal_42 : decode cX5_checkLocal 42 = .ok (.ifCond .eq 11, 3) := by decide +kernel
theorem dX5_checkLocal_45 : decode cX5_checkLocal 45 = .ok (.aload_n 0, 1) := by decide +kernel
theorem dX5_checkLocal_46 : decode cX5_checkLocal 46 = .ok (.getfield 242, 3) := by decide +kernel
theorem dX5_checkLocal_49 : decode cX5_checkLocal 49 = .ok (.l2i, 1) := by decide +kernel
theorem dX5_checkLocal_50 : decode cX5_checkLocal 50 = .ok (.goto 4, 3) := by decide +kernel
theorem dX5_checkLocal_53 : decode cX5_checkLocal 53 = .ok (.iconst 0, 1) := by decide +kernel
theorem dX5_checkLocal_54 : decode cX5_checkLocal 54 = .ok (.istore 5, 2) := by decide +kernel
theorem dX5_checkLocal_56 : decode cX5_checkLocal 56 = .ok (.iload 4, 2) := by decide +kernel
theorem dX5_checkLocal_58 : decode cX5_checkLocal 58 = .ok (.ifCond .eq 39, 3) := by decide +kernel
theorem dX5_checkLocal_61 : decode cX5_checkLocal 61 = .ok (.iload 5, 2) := by decide +kernel
theorem dX5_checkLocal_63 : decode cX5_checkLocal 63 = .ok (.bipush 30, 2) := by decide +kernel
theorem dX5_checkLocal_65 : decode cX5_checkLocal 65 = .ok (.iadd, 1) := by decide +kernel
theorem dX5_checkLocal_66 : decode cX5_checkLocal 66 = .ok (.aload_n 0, 1) := by decide +kernel
theorem dX5_checkLocal_67 : decode cX5_checkLocal 67 = .ok (.iload 5, 2) := by decide +kernel
theorem dX5_checkLocal_69 : decode cX5_checkLocal 69 = .ok (.bipush 26, 2) := by decide +kernel
theorem dX5_checkLocal_71 : decode cX5_checkLocal 71 = .ok (.iadd, 1) := by decide +kernel
theorem dX5_checkLocal_72 : decode cX5_checkLocal 72 = .ok (.invokevirtual 193, 3) := by decide +kernel
theorem dX5_checkLocal_75 : decode cX5_checkLocal 75 = .ok (.iadd, 1) := by decide +kernel
theorem dX5_checkLocal_76 : decode cX5_checkLocal 76 = .ok (.aload_n 0, 1) := by decide +kernel
theorem dX5_checkLocal_77 : decode cX5_checkLocal 77 = .ok (.iload 5, 2) := by decide +kernel
theorem dX5_checkLocal_79 : decode cX5_checkLocal 79 = .ok (.bipush 28, 2) := by decide +kernel
theorem dX5_checkLocal_81 : decode cX5_checkLocal 81 = .ok (.iadd, 1) := by decide +kernel
theorem dX5_checkLocal_82 : decode cX5_checkLocal 82 = .ok (.invokevirtual 193, 3) := by decide +kernel
theorem dX5_checkLocal_85 : decode cX5_checkLocal 85 = .ok (.iadd, 1) := by decide +kernel
theorem dX5_checkLocal_86 : decode cX5_checkLocal 86 = .ok (.aload_n 0, 1) := by decide +kernel
theorem dX5_checkLocal_87 : decode cX5_checkLocal 87 = .ok (.getfield 210, 3) := by decide +kernel
theorem dX5_checkLocal_90 : decode cX5_checkLocal 90 = .ok (.if_icmp .gt 7, 3) := by decide +kernel
theorem dX5_checkLocal_93 : decode cX5_checkLocal 93 = .ok (.iconst 1, 1) := by decide +kernel
theorem dX5_checkLocal_94 : decode cX5_checkLocal 94 = .ok (.goto 4, 3) := by decide +kernel
theorem dX5_checkLocal_97 : decode cX5_checkLocal 97 = .ok (.iconst 0, 1) := by decide +kernel
theorem dX5_checkLocal_98 : decode cX5_checkLocal 98 = .ok (.istore 4, 2) := by decide +kernel
theorem dX5_checkLocal_100 : decode cX5_checkLocal 100 = .ok (.aload_n 0, 1) := by decide +kernel
theorem dX5_checkLocal_101 : decode cX5_checkLocal 101 = .ok (.iload 4, 2) := by decide +kernel
theorem dX5_checkLocal_103 : decode cX5_checkLocal 103 = .ok (.bipush 6, 2) := by decide +kernel
theorem dX5_checkLocal_105 : decode cX5_checkLocal 105 = .ok (.aload_n 0, 1) := by decide +kernel
theorem dX5_checkLocal_106 : decode cX5_checkLocal 106 = .ok (.getfield 242, 3) := by decide +kernel
theorem dX5_checkLocal_109 : decode cX5_checkLocal 109 = .ok (.invokevirtual 200, 3) := by decide +kernel
theorem dX5_checkLocal_112 : decode cX5_checkLocal 112 = .ok (.ifCond .ne 4, 3) := by decide +kernel
theorem dX5_checkLocal_115 : decode cX5_checkLocal 115 = .ok (.return_, 1) := by decide +kernel
theorem dX5_checkLocal_116 : decode cX5_checkLocal 116 = .ok (.aload_n 0, 1) := by decide +kernel
theorem dX5_checkLocal_117 : decode cX5_checkLocal 117 = .ok (.iload 5, 2) := by decide +kernel
theorem dX5_checkLocal_119 : decode cX5_checkLocal 119 = .ok (.iconst 4, 1) := by decide +kernel
theorem dX5_checkLocal_120 : decode cX5_checkLocal 120 = .ok (.iadd, 1) := by decide +kernel
theorem dX5_checkLocal_121 : decode cX5_checkLocal 121 = .ok (.iload_n 2, 1) := by decide +kernel
theorem dX5_checkLocal_122 : decode cX5_checkLocal 122 = .ok (.bipush 6, 2) := by decide +kernel
theorem dX5_checkLocal_124 : decode cX5_checkLocal 124 = .ok (.iadd, 1) := by decide +kernel
theorem dX5_checkLocal_125 : decode cX5_checkLocal 125 = .ok (.bipush 10, 2) := by decide +kernel
theorem dX5_checkLocal_127 : decode cX5_checkLocal 127 = .ok (.invokevirtual 263, 3) := by decide +kernel
theorem dX5_checkLocal_130 : decode cX5_checkLocal 130 = .ok (.ifCond .eq 49, 3) := by decide +kernel
theorem dX5_checkLocal_133 : decode cX5_checkLocal 133 = .ok (.aload_n 0, 1) := by decide +kernel
theorem dX5_checkLocal_134 : decode cX5_checkLocal 134 = .ok (.iload 5, 2) := by decide +kernel
theorem dX5_checkLocal_136 : decode cX5_checkLocal 136 = .ok (.bipush 26, 2) := by decide +kernel
theorem dX5_checkLocal_138 : decode cX5_checkLocal 138 = .ok (.iadd, 1) := by decide +kernel
theorem dX5_checkLocal_139 : decode cX5_checkLocal 139 = .ok (.iload_n 2, 1) := by decide +kernel
theorem dX5_checkLocal_140 : decode cX5_checkLocal 140 = .ok (.bipush 28, 2) := by decide +kernel
theorem dX5_checkLocal_142 : decode cX5_checkLocal 142 = .ok (.iadd, 1) := by decide +kernel
theorem dX5_checkLocal_143 : decode cX5_checkLocal 143 = .ok (.iconst 4, 1) := by decide +kernel
theorem dX5_checkLocal_144 : decode cX5_checkLocal 144 = .ok (.invokevirtual 263, 3) := by decide +kernel
theorem dX5_checkLocal_147 : decode cX5_checkLocal 147 = .ok (.ifCond .eq 32, 3) := by decide +kernel
theorem dX5_checkLocal_150 : decode cX5_checkLocal 150 = .ok (.aload_n 0, 1) := by decide +kernel
theorem dX5_checkLocal_151 : decode cX5_checkLocal 151 = .ok (.iload 5, 2) := by decide +kernel
theorem dX5_checkLocal_153 : decode cX5_checkLocal 153 = .ok (.bipush 30, 2) := by decide +kernel
theorem dX5_checkLocal_155 : decode cX5_checkLocal 155 = .ok (.iadd, 1) := by decide +kernel
theorem dX5_checkLocal_156 : decode cX5_checkLocal 156 = .ok (.aload_n 0, 1) := by decide +kernel
theorem dX5_checkLocal_157 : decode cX5_checkLocal 157 = .ok (.getfield 226, 3) := by decide +kernel
theorem dX5_checkLocal_160 : decode cX5_checkLocal 160 = .ok (.aload_n 0, 1) := by decide +kernel
theorem dX5_checkLocal_161 : decode cX5_checkLocal 161 = .ok (.getfield 229, 3) := by decide +kernel
theorem dX5_checkLocal_164 : decode cX5_checkLocal 164 = .ok (.aload_n 0, 1) := by decide +kernel
theorem dX5_checkLocal_165 : decode cX5_checkLocal 165 = .ok (.getfield 232, 3) := by decide +kernel
theorem dX5_checkLocal_168 : decode cX5_checkLocal 168 = .ok (.iadd, 1) := by decide +kernel
theorem dX5_checkLocal_169 : decode cX5_checkLocal 169 = .ok (.invokevirtual 263, 3) := by decide +kernel
theorem dX5_checkLocal_172 : decode cX5_checkLocal 172 = .ok (.ifCond .eq 7, 3) := by decide +kernel
theorem dX5_checkLocal_175 : decode cX5_checkLocal 175 = .ok (.iconst 1, 1) := by decide +kernel
theorem dX5_checkLocal_176 : decode cX5_checkLocal 176 = .ok (.goto 4, 3) := by decide +kernel
theorem dX5_checkLocal_179 : decode cX5_checkLocal 179 = .ok (.iconst 0, 1) := by decide +kernel
theorem dX5_checkLocal_180 : decode cX5_checkLocal 180 = .ok (.istore 6, 2) := by decide +kernel
theorem dX5_checkLocal_182 : decode cX5_checkLocal 182 = .ok (.iconst 0, 1) := by decide +kernel
theorem dX5_checkLocal_183 : decode cX5_checkLocal 183 = .ok (.istore 7, 2) := by decide +kernel
theorem dX5_checkLocal_185 : decode cX5_checkLocal 185 = .ok (.iload 7, 2) := by decide +kernel
theorem dX5_checkLocal_187 : decode cX5_checkLocal 187 = .ok (.bipush 12, 2) := by decide +kernel
theorem dX5_checkLocal_189 : decode cX5_checkLocal 189 = .ok (.if_icmp .ge 59, 3) := by decide +kernel
theorem dX5_checkLocal_192 : decode cX5_checkLocal 192 = .ok (.iload 6, 2) := by decide +kernel
theorem dX5_checkLocal_194 : decode cX5_checkLocal 194 = .ok (.ifCond .eq 45, 3) := by decide +kernel
theorem dX5_checkLocal_197 : decode cX5_checkLocal 197 = .ok (.aload_n 0, 1) := by decide +kernel
theorem dX5_checkLocal_198 : decode cX5_checkLocal 198 = .ok (.getfield 128, 3) := by decide +kernel
theorem dX5_checkLocal_201 : decode cX5_checkLocal 201 = .ok (.iload 5, 2) := by decide +kernel
theorem dX5_checkLocal_203 : decode cX5_checkLocal 203 = .ok (.bipush 14, 2) := by decide +kernel
theorem dX5_checkLocal_205 : decode cX5_checkLocal 205 = .ok (.iadd, 1) := by decide +kernel
theorem dX5_checkLocal_206 : decode cX5_checkLocal 206 = .ok (.iload 7, 2) := by decide +kernel
theorem dX5_checkLocal_208 : decode cX5_checkLocal 208 = .ok (.iadd, 1) := by decide +kernel
theorem dX5_checkLocal_209 : decode cX5_checkLocal 209 = .ok (.iaload, 1) := by decide +kernel
theorem dX5_checkLocal_210 : decode cX5_checkLocal 210 = .ok (.iload_n 3, 1) := by decide +kernel
theorem dX5_checkLocal_211 : decode cX5_checkLocal 211 = .ok (.bipush 8, 2) := by decide +kernel
theorem dX5_checkLocal_213 : decode cX5_checkLocal 213 = .ok (.if_icmp .ne 7, 3) := by decide +kernel
theorem dX5_checkLocal_216 : decode cX5_checkLocal 216 = .ok (.iconst 0, 1) := by decide +kernel
theorem dX5_checkLocal_217 : decode cX5_checkLocal 217 = .ok (.goto 15, 3) := by decide +kernel
theorem dX5_checkLocal_220 : decode cX5_checkLocal 220 = .ok (.aload_n 0, 1) := by decide +kernel
theorem dX5_checkLocal_221 : decode cX5_checkLocal 221 = .ok (.getfield 128, 3) := by decide +kernel
theorem dX5_checkLocal_224 : decode cX5_checkLocal 224 = .ok (.iload_n 2, 1) := by decide +kernel
theorem dX5_checkLocal_225 : decode cX5_checkLocal 225 = .ok (.bipush 16, 2) := by decide +kernel
theorem dX5_checkLocal_227 : decode cX5_checkLocal 227 = .ok (.iadd, 1) := by decide +kernel
theorem dX5_checkLocal_228 : decode cX5_checkLocal 228 = .ok (.iload 7, 2) := by decide +kernel
theorem dX5_checkLocal_230 : decode cX5_checkLocal 230 = .ok (.iadd, 1) := by decide +kernel
theorem dX5_checkLocal_231 : decode cX5_checkLocal 231 = .ok (.iaload, 1) := by decide +kernel
theorem dX5_checkLocal_232 : decode cX5_checkLocal 232 = .ok (.if_icmp .ne 7, 3) := by decide +kernel
theorem dX5_checkLocal_235 : decode cX5_checkLocal 235 = .ok (.iconst 1, 1) := by decide +kernel
theorem dX5_checkLocal_236 : decode cX5_checkLocal 236 = .ok (.goto 4, 3) := by decide +kernel
theorem dX5_checkLocal_239 : decode cX5_checkLocal 239 = .ok (.iconst 0, 1) := by decide +kernel
theorem dX5_checkLocal_240 : decode cX5_checkLocal 240 = .ok (.istore 6, 2) := by decide +kernel
theorem dX5_checkLocal_242 : decode cX5_checkLocal 242 = .ok (.iinc 7 1, 3) := by decide +kernel
theorem dX5_checkLocal_245 : decode cX5_checkLocal 245 = .ok (.goto (-60), 3) := by decide +kernel
theorem dX5_checkLocal_248 : decode cX5_checkLocal 248 = .ok (.aload_n 0, 1) := by decide +kernel
theorem dX5_checkLocal_249 : decode cX5_checkLocal 249 = .ok (.iload 6, 2) := by decide +kernel
theorem dX5_checkLocal_251 : decode cX5_checkLocal 251 = .ok (.bipush 7, 2) := by decide +kernel
theorem dX5_checkLocal_253 : decode cX5_checkLocal 253 = .ok (.iload 5, 2) := by decide +kernel
theorem dX5_checkLocal_255 : decode cX5_checkLocal 255 = .ok (.i2l, 1) := by decide +kernel
theorem dX5_checkLocal_256 : decode cX5_checkLocal 256 = .ok (.invokevirtual 200, 3) := by decide +kernel
theorem dX5_checkLocal_259 : decode cX5_checkLocal 259 = .ok (.ifCond .ne 4, 3) := by decide +kernel
theorem dX5_checkLocal_262 : decode cX5_checkLocal 262 = .ok (.return_, 1) := by decide +kernel
theorem dX5_checkLocal_263 : decode cX5_checkLocal 263 = .ok (.iload 5, 2) := by decide +kernel
theorem dX5_checkLocal_265 : decode cX5_checkLocal 265 = .ok (.bipush 30, 2) := by decide +kernel
theorem dX5_checkLocal_267 : decode cX5_checkLocal 267 = .ok (.iadd, 1) := by decide +kernel
theorem dX5_checkLocal_268 : decode cX5_checkLocal 268 = .ok (.aload_n 0, 1) := by decide +kernel
theorem dX5_checkLocal_269 : decode cX5_checkLocal 269 = .ok (.getfield 229, 3) := by decide +kernel
theorem dX5_checkLocal_272 : decode cX5_checkLocal 272 = .ok (.iadd, 1) := by decide +kernel
theorem dX5_checkLocal_273 : decode cX5_checkLocal 273 = .ok (.aload_n 0, 1) := by decide +kernel
theorem dX5_checkLocal_274 : decode cX5_checkLocal 274 = .ok (.getfield 232, 3) := by decide +kernel
theorem dX5_checkLocal_277 : decode cX5_checkLocal 277 = .ok (.iadd, 1) := by decide +kernel
theorem dX5_checkLocal_278 : decode cX5_checkLocal 278 = .ok (.istore 7, 2) := by decide +kernel
theorem dX5_checkLocal_280 : decode cX5_checkLocal 280 = .ok (.iload 7, 2) := by decide +kernel
theorem dX5_checkLocal_282 : decode cX5_checkLocal 282 = .ok (.aload_n 0, 1) := by decide +kernel
theorem dX5_checkLocal_283 : decode cX5_checkLocal 283 = .ok (.getfield 235, 3) := by decide +kernel
theorem dX5_checkLocal_286 : decode cX5_checkLocal 286 = .ok (.l2i, 1) := by decide +kernel
theorem dX5_checkLocal_287 : decode cX5_checkLocal 287 = .ok (.iadd, 1) := by decide +kernel
theorem dX5_checkLocal_288 : decode cX5_checkLocal 288 = .ok (.iload_n 3, 1) := by decide +kernel
theorem dX5_checkLocal_289 : decode cX5_checkLocal 289 = .ok (.bipush 8, 2) := by decide +kernel
theorem dX5_checkLocal_291 : decode cX5_checkLocal 291 = .ok (.if_icmp .ne 8, 3) := by decide +kernel
theorem dX5_checkLocal_294 : decode cX5_checkLocal 294 = .ok (.bipush 16, 2) := by decide +kernel
theorem dX5_checkLocal_296 : decode cX5_checkLocal 296 = .ok (.goto 4, 3) := by decide +kernel
theorem dX5_checkLocal_299 : decode cX5_checkLocal 299 = .ok (.iconst 0, 1) := by decide +kernel
theorem dX5_checkLocal_300 : decode cX5_checkLocal 300 = .ok (.iadd, 1) := by decide +kernel
theorem dX5_checkLocal_301 : decode cX5_checkLocal 301 = .ok (.istore 8, 2) := by decide +kernel
theorem dX5_checkLocal_303 : decode cX5_checkLocal 303 = .ok (.iload 8, 2) := by decide +kernel
theorem dX5_checkLocal_305 : decode cX5_checkLocal 305 = .ok (.aload_n 0, 1) := by decide +kernel
theorem dX5_checkLocal_306 : decode cX5_checkLocal 306 = .ok (.getfield 210, 3) := by decide +kernel
theorem dX5_checkLocal_309 : decode cX5_checkLocal 309 = .ok (.if_icmp .gt 7, 3) := by decide +kernel
theorem dX5_checkLocal_312 : decode cX5_checkLocal 312 = .ok (.iconst 1, 1) := by decide +kernel
theorem dX5_checkLocal_313 : decode cX5_checkLocal 313 = .ok (.goto 4, 3) := by decide +kernel
theorem dX5_checkLocal_316 : decode cX5_checkLocal 316 = .ok (.iconst 0, 1) := by decide +kernel
theorem dX5_checkLocal_317 : decode cX5_checkLocal 317 = .ok (.istore 4, 2) := by decide +kernel
theorem dX5_checkLocal_319 : decode cX5_checkLocal 319 = .ok (.iload 4, 2) := by decide +kernel
theorem dX5_checkLocal_321 : decode cX5_checkLocal 321 = .ok (.ifCond .eq 50, 3) := by decide +kernel
theorem dX5_checkLocal_324 : decode cX5_checkLocal 324 = .ok (.iload_n 3, 1) := by decide +kernel
theorem dX5_checkLocal_325 : decode cX5_checkLocal 325 = .ok (.bipush 8, 2) := by decide +kernel
theorem dX5_checkLocal_327 : decode cX5_checkLocal 327 = .ok (.if_icmp .ne 44, 3) := by decide +kernel
theorem dX5_checkLocal_330 : decode cX5_checkLocal 330 = .ok (.aload_n 0, 1) := by decide +kernel
theorem dX5_checkLocal_331 : decode cX5_checkLocal 331 = .ok (.iload 8, 2) := by decide +kernel
theorem dX5_checkLocal_333 : decode cX5_checkLocal 333 = .ok (.bipush 16, 2) := by decide +kernel
theorem dX5_checkLocal_335 : decode cX5_checkLocal 335 = .ok (.isub, 1) := by decide +kernel
theorem dX5_checkLocal_336 : decode cX5_checkLocal 336 = .ok (.invokevirtual 196, 3) := by decide +kernel
theorem dX5_checkLocal_339 : decode cX5_checkLocal 339 = .ok (.ldc2_w 161, 3) := by decide +kernel
theorem dX5_checkLocal_342 : decode cX5_checkLocal 342 = .ok (.lcmp, 1) := by decide +kernel
theorem dX5_checkLocal_343 : decode cX5_checkLocal 343 = .ok (.ifCond .ne 25, 3) := by decide +kernel
theorem dX5_checkLocal_346 : decode cX5_checkLocal 346 = .ok (.aload_n 0, 1) := by decide +kernel
theorem dX5_checkLocal_347 : decode cX5_checkLocal 347 = .ok (.iload 8, 2) := by decide +kernel
theorem dX5_checkLocal_349 : decode cX5_checkLocal 349 = .ok (.bipush 12, 2) := by decide +kernel
theorem dX5_checkLocal_351 : decode cX5_checkLocal 351 = .ok (.isub, 1) := by decide +kernel
theorem dX5_checkLocal_352 : decode cX5_checkLocal 352 = .ok (.iload_n 2, 1) := by decide +kernel
theorem dX5_checkLocal_353 : decode cX5_checkLocal 353 = .ok (.bipush 16, 2) := by decide +kernel
theorem dX5_checkLocal_355 : decode cX5_checkLocal 355 = .ok (.iadd, 1) := by decide +kernel
theorem dX5_checkLocal_356 : decode cX5_checkLocal 356 = .ok (.bipush 12, 2) := by decide +kernel
theorem dX5_checkLocal_358 : decode cX5_checkLocal 358 = .ok (.invokevirtual 263, 3) := by decide +kernel
theorem dX5_checkLocal_361 : decode cX5_checkLocal 361 = .ok (.ifCond .eq 7, 3) := by decide +kernel
theorem dX5_checkLocal_364 : decode cX5_checkLocal 364 = .ok (.iconst 1, 1) := by decide +kernel
theorem dX5_checkLocal_365 : decode cX5_checkLocal 365 = .ok (.goto 4, 3) := by decide +kernel
theorem dX5_checkLocal_368 : decode cX5_checkLocal 368 = .ok (.iconst 0, 1) := by decide +kernel
theorem dX5_checkLocal_369 : decode cX5_checkLocal 369 = .ok (.istore 4, 2) := by decide +kernel
theorem dX5_checkLocal_371 : decode cX5_checkLocal 371 = .ok (.aload_n 0, 1) := by decide +kernel
theorem dX5_checkLocal_372 : decode cX5_checkLocal 372 = .ok (.iload 4, 2) := by decide +kernel
theorem dX5_checkLocal_374 : decode cX5_checkLocal 374 = .ok (.bipush 8, 2) := by decide +kernel
theorem dX5_checkLocal_376 : decode cX5_checkLocal 376 = .ok (.iload 7, 2) := by decide +kernel
theorem dX5_checkLocal_378 : decode cX5_checkLocal 378 = .ok (.i2l, 1) := by decide +kernel
theorem dX5_checkLocal_379 : decode cX5_checkLocal 379 = .ok (.invokevirtual 200, 3) := by decide +kernel
theorem dX5_checkLocal_382 : decode cX5_checkLocal 382 = .ok (.pop, 1) := by decide +kernel
theorem dX5_checkLocal_383 : decode cX5_checkLocal 383 = .ok (.iconst 0, 1) := by decide +kernel
theorem dX5_checkLocal_384 : decode cX5_checkLocal 384 = .ok (.istore 9, 2) := by decide +kernel
theorem dX5_checkLocal_386 : decode cX5_checkLocal 386 = .ok (.iload 9, 2) := by decide +kernel
theorem dX5_checkLocal_388 : decode cX5_checkLocal 388 = .ok (.iload_n 1, 1) := by decide +kernel
theorem dX5_checkLocal_389 : decode cX5_checkLocal 389 = .ok (.if_icmp .ge 48, 3) := by decide +kernel
theorem dX5_checkLocal_392 : decode cX5_checkLocal 392 = .ok (.aload_n 0, 1) := by decide +kernel
theorem dX5_checkLocal_393 : decode cX5_checkLocal 393 = .ok (.iload 8, 2) := by decide +kernel
theorem dX5_checkLocal_395 : decode cX5_checkLocal 395 = .ok (.aload_n 0, 1) := by decide +kernel
theorem dX5_checkLocal_396 : decode cX5_checkLocal 396 = .ok (.getfield 267, 3) := by decide +kernel
theorem dX5_checkLocal_399 : decode cX5_checkLocal 399 = .ok (.iload 9, 2) := by decide +kernel
theorem dX5_checkLocal_401 : decode cX5_checkLocal 401 = .ok (.iaload, 1) := by decide +kernel
theorem dX5_checkLocal_402 : decode cX5_checkLocal 402 = .ok (.if_icmp .le 15, 3) := by decide +kernel
theorem dX5_checkLocal_405 : decode cX5_checkLocal 405 = .ok (.iload 5, 2) := by decide +kernel
theorem dX5_checkLocal_407 : decode cX5_checkLocal 407 = .ok (.aload_n 0, 1) := by decide +kernel
theorem dX5_checkLocal_408 : decode cX5_checkLocal 408 = .ok (.getfield 270, 3) := by decide +kernel
theorem dX5_checkLocal_411 : decode cX5_checkLocal 411 = .ok (.iload 9, 2) := by decide +kernel
theorem dX5_checkLocal_413 : decode cX5_checkLocal 413 = .ok (.iaload, 1) := by decide +kernel
theorem dX5_checkLocal_414 : decode cX5_checkLocal 414 = .ok (.if_icmp .lt 7, 3) := by decide +kernel
theorem dX5_checkLocal_417 : decode cX5_checkLocal 417 = .ok (.iconst 1, 1) := by decide +kernel
theorem dX5_checkLocal_418 : decode cX5_checkLocal 418 = .ok (.goto 4, 3) := by decide +kernel
theorem dX5_checkLocal_421 : decode cX5_checkLocal 421 = .ok (.iconst 0, 1) := by decide +kernel
theorem dX5_checkLocal_422 : decode cX5_checkLocal 422 = .ok (.bipush 9, 2) := by decide +kernel
theorem dX5_checkLocal_424 : decode cX5_checkLocal 424 = .ok (.iload 5, 2) := by decide +kernel
theorem dX5_checkLocal_426 : decode cX5_checkLocal 426 = .ok (.i2l, 1) := by decide +kernel
theorem dX5_checkLocal_427 : decode cX5_checkLocal 427 = .ok (.invokevirtual 200, 3) := by decide +kernel
theorem dX5_checkLocal_430 : decode cX5_checkLocal 430 = .ok (.pop, 1) := by decide +kernel
theorem dX5_checkLocal_431 : decode cX5_checkLocal 431 = .ok (.iinc 9 1, 3) := by decide +kernel
theorem dX5_checkLocal_434 : decode cX5_checkLocal 434 = .ok (.goto (-48), 3) := by decide +kernel
theorem dX5_checkLocal_437 : decode cX5_checkLocal 437 = .ok (.aload_n 0, 1) := by decide +kernel
theorem dX5_checkLocal_438 : decode cX5_checkLocal 438 = .ok (.getfield 267, 3) := by decide +kernel
theorem dX5_checkLocal_441 : decode cX5_checkLocal 441 = .ok (.iload_n 1, 1) := by decide +kernel
theorem dX5_checkLocal_442 : decode cX5_checkLocal 442 = .ok (.iload 5, 2) := by decide +kernel
theorem dX5_checkLocal_444 : decode cX5_checkLocal 444 = .ok (.iastore, 1) := by decide +kernel
theorem dX5_checkLocal_445 : decode cX5_checkLocal 445 = .ok (.aload_n 0, 1) := by decide +kernel
theorem dX5_checkLocal_446 : decode cX5_checkLocal 446 = .ok (.getfield 270, 3) := by decide +kernel
theorem dX5_checkLocal_449 : decode cX5_checkLocal 449 = .ok (.iload_n 1, 1) := by decide +kernel
theorem dX5_checkLocal_450 : decode cX5_checkLocal 450 = .ok (.iload 8, 2) := by decide +kernel
theorem dX5_checkLocal_452 : decode cX5_checkLocal 452 = .ok (.iastore, 1) := by decide +kernel
theorem dX5_checkLocal_453 : decode cX5_checkLocal 453 = .ok (.aload_n 0, 1) := by decide +kernel
theorem dX5_checkLocal_454 : decode cX5_checkLocal 454 = .ok (.aload_n 0, 1) := by decide +kernel
theorem dX5_checkLocal_455 : decode cX5_checkLocal 455 = .ok (.invokevirtual 273, 3) := by decide +kernel
theorem dX5_checkLocal_458 : decode cX5_checkLocal 458 = .ok (.bipush 10, 2) := by decide +kernel
theorem dX5_checkLocal_460 : decode cX5_checkLocal 460 = .ok (.iload_n 2, 1) := by decide +kernel
theorem dX5_checkLocal_461 : decode cX5_checkLocal 461 = .ok (.i2l, 1) := by decide +kernel
theorem dX5_checkLocal_462 : decode cX5_checkLocal 462 = .ok (.invokevirtual 200, 3) := by decide +kernel
theorem dX5_checkLocal_465 : decode cX5_checkLocal 465 = .ok (.pop, 1) := by decide +kernel
theorem dX5_checkLocal_466 : decode cX5_checkLocal 466 = .ok (.return_, 1) := by decide +kernel
theorem dX5_takeRow_0 : decode cX5_takeRow 0 = .ok (.aload_n 0, 1) := by decide +kernel
theorem dX5_takeRow_1 : decode cX5_takeRow 1 = .ok (.getfield 216, 3) := by decide +kernel
theorem dX5_takeRow_4 : decode cX5_takeRow 4 = .ok (.iload_n 1, 1) := by decide +kernel
theorem dX5_takeRow_5 : decode cX5_takeRow 5 = .ok (.iaload, 1) := by decide +kernel
theorem dX5_takeRow_6 : decode cX5_takeRow 6 = .ok (.istore_n 2, 1) := by decide +kernel
theorem dX5_takeRow_7 : decode cX5_takeRow 7 = .ok (.aload_n 0, 1) := by decide +kernel
theorem dX5_takeRow_8 : decode cX5_takeRow 8 = .ok (.iload_n 2, 1) := by decide +kernel
theorem dX5_takeRow_9 : decode cX5_takeRow 9 = .ok (.invokevirtual 245, 3) := by decide +kernel
theorem dX5_takeRow_12 : decode cX5_takeRow 12 = .ok (.aload_n 0, 1) := by decide +kernel
theorem dX5_takeRow_13 : decode cX5_takeRow 13 = .ok (.aload_n 0, 1) := by decide +kernel
theorem dX5_takeRow_14 : decode cX5_takeRow 14 = .ok (.getfield 226, 3) := by decide +kernel
theorem dX5_takeRow_17 : decode cX5_takeRow 17 = .ok (.aload_n 0, 1) := by decide +kernel
theorem dX5_takeRow_18 : decode cX5_takeRow 18 = .ok (.getfield 229, 3) := by decide +kernel
theorem dX5_takeRow_21 : decode cX5_takeRow 21 = .ok (.iadd, 1) := by decide +kernel
theorem dX5_takeRow_22 : decode cX5_takeRow 22 = .ok (.aload_n 0, 1) := by decide +kernel
theorem dX5_takeRow_23 : decode cX5_takeRow 23 = .ok (.getfield 226, 3) := by decide +kernel
theorem dX5_takeRow_26 : decode cX5_takeRow 26 = .ok (.aload_n 0, 1) := by decide +kernel
theorem dX5_takeRow_27 : decode cX5_takeRow 27 = .ok (.getfield 229, 3) := by decide +kernel
theorem dX5_takeRow_30 : decode cX5_takeRow 30 = .ok (.iadd, 1) := by decide +kernel
theorem dX5_takeRow_31 : decode cX5_takeRow 31 = .ok (.aload_n 0, 1) := by decide +kernel
theorem dX5_takeRow_32 : decode cX5_takeRow 32 = .ok (.getfield 232, 3) := by decide +kernel
theorem dX5_takeRow_35 : decode cX5_takeRow 35 = .ok (.iadd, 1) := by decide +kernel
theorem dX5_takeRow_36 : decode cX5_takeRow 36 = .ok (.invokevirtual 248, 3) := by decide +kernel
theorem dX5_takeRow_39 : decode cX5_takeRow 39 = .ok (.istore_n 3, 1) := by decide +kernel
theorem dX5_takeRow_40 : decode cX5_takeRow 40 = .ok (.aload_n 0, 1) := by decide +kernel
theorem dX5_takeRow_41 : decode cX5_takeRow 41 = .ok (.iload_n 1, 1) := by decide +kernel
theorem dX5_takeRow_42 : decode cX5_takeRow 42 = .ok (.invokevirtual 68, 3) := by decide +kernel
theorem dX5_takeRow_45 : decode cX5_takeRow 45 = .ok (.aload_n 0, 1) := by decide +kernel
theorem dX5_takeRow_46 : decode cX5_takeRow 46 = .ok (.getfield 128, 3) := by decide +kernel
theorem dX5_takeRow_49 : decode cX5_takeRow 49 = .ok (.aload_n 0, 1) := by decide +kernel
theorem dX5_takeRow_50 : decode cX5_takeRow 50 = .ok (.getfield 226, 3) := by decide +kernel
theorem dX5_takeRow_53 : decode cX5_takeRow 53 = .ok (.aload_n 0, 1) := by decide +kernel
theorem dX5_takeRow_54 : decode cX5_takeRow 54 = .ok (.getfield 229, 3) := by decide +kernel
theorem dX5_takeRow_57 : decode cX5_takeRow 57 = .ok (.iadd, 1) := by decide +kernel
theorem dX5_takeRow_58 : decode cX5_takeRow 58 = .ok (.iconst 1, 1) := by decide +kernel
theorem dX5_takeRow_59 : decode cX5_takeRow 59 = .ok (.isub, 1) := by decide +kernel
theorem dX5_takeRow_60 : decode cX5_takeRow 60 = .ok (.iaload, 1) := by decide +kernel
theorem dX5_takeRow_61 : decode cX5_takeRow 61 = .ok (.bipush 47, 2) := by decide +kernel
theorem dX5_takeRow_63 : decode cX5_takeRow 63 = .ok (.if_icmp .ne 7, 3) := by decide +kernel
theorem dX5_takeRow_66 : decode cX5_takeRow 66 = .ok (.iconst 1, 1) := by decide +kernel
theorem dX5_takeRow_67 : decode cX5_takeRow 67 = .ok (.goto 4, 3) := by decide +kernel
theorem dX5_takeRow_70 : decode cX5_takeRow 70 = .ok (.iconst 0, 1) := by decide +kernel
theorem dX5_takeRow_71 : decode cX5_takeRow 71 = .ok (.istore 4, 2) := by decide +kernel
theorem dX5_takeRow_73 : decode cX5_takeRow 73 = .ok (.aload_n 0, 1) := by decide +kernel
theorem dX5_takeRow_74 : decode cX5_takeRow 74 = .ok (.iload_n 2, 1) := by decide +kernel
theorem dX5_takeRow_75 : decode cX5_takeRow 75 = .ok (.bipush 10, 2) := by decide +kernel
theorem dX5_takeRow_77 : decode cX5_takeRow 77 = .ok (.iadd, 1) := by decide +kernel
theorem dX5_takeRow_78 : decode cX5_takeRow 78 = .ok (.invokevirtual 193, 3) := by decide +kernel
theorem dX5_takeRow_81 : decode cX5_takeRow 81 = .ok (.istore 5, 2) := by decide +kernel
theorem dX5_takeRow_83 : decode cX5_takeRow 83 = .ok (.aload_n 0, 1) := by decide +kernel
theorem dX5_takeRow_84 : decode cX5_takeRow 84 = .ok (.getfield 72, 3) := by decide +kernel
theorem dX5_takeRow_87 : decode cX5_takeRow 87 = .ok (.iload_n 1, 1) := by decide +kernel
theorem dX5_takeRow_88 : decode cX5_takeRow 88 = .ok (.iload 4, 2) := by decide +kernel
theorem dX5_takeRow_90 : decode cX5_takeRow 90 = .ok (.ifCond .eq 7, 3) := by decide +kernel
theorem dX5_takeRow_93 : decode cX5_takeRow 93 = .ok (.iconst 2, 1) := by decide +kernel
theorem dX5_takeRow_94 : decode cX5_takeRow 94 = .ok (.goto 15, 3) := by decide +kernel
theorem dX5_takeRow_97 : decode cX5_takeRow 97 = .ok (.iload 5, 2) := by decide +kernel
theorem dX5_takeRow_99 : decode cX5_takeRow 99 = .ok (.bipush 8, 2) := by decide +kernel
theorem dX5_takeRow_101 : decode cX5_takeRow 101 = .ok (.if_icmp .ne 7, 3) := by decide +kernel
theorem dX5_takeRow_104 : decode cX5_takeRow 104 = .ok (.iconst 1, 1) := by decide +kernel
theorem dX5_takeRow_105 : decode cX5_takeRow 105 = .ok (.goto 4, 3) := by decide +kernel
theorem dX5_takeRow_108 : decode cX5_takeRow 108 = .ok (.iconst 0, 1) := by decide +kernel
theorem dX5_takeRow_109 : decode cX5_takeRow 109 = .ok (.iastore, 1) := by decide +kernel
theorem dX5_takeRow_110 : decode cX5_takeRow 110 = .ok (.aload_n 0, 1) := by decide +kernel
theorem dX5_takeRow_111 : decode cX5_takeRow 111 = .ok (.getfield 75, 3) := by decide +kernel
theorem dX5_takeRow_114 : decode cX5_takeRow 114 = .ok (.iload_n 1, 1) := by decide +kernel
theorem dX5_takeRow_115 : decode cX5_takeRow 115 = .ok (.aload_n 0, 1) := by decide +kernel
theorem dX5_takeRow_116 : decode cX5_takeRow 116 = .ok (.iload_n 2, 1) := by decide +kernel
theorem dX5_takeRow_117 : decode cX5_takeRow 117 = .ok (.bipush 8, 2) := by decide +kernel
theorem dX5_takeRow_119 : decode cX5_takeRow 119 = .ok (.iadd, 1) := by decide +kernel
theorem dX5_takeRow_120 : decode cX5_takeRow 120 = .ok (.invokevirtual 193, 3) := by decide +kernel
theorem dX5_takeRow_123 : decode cX5_takeRow 123 = .ok (.bipush 8, 2) := by decide +kernel
theorem dX5_takeRow_125 : decode cX5_takeRow 125 = .ok (.if_icmp .ne 7, 3) := by decide +kernel
theorem dX5_takeRow_128 : decode cX5_takeRow 128 = .ok (.iconst 1, 1) := by decide +kernel
theorem dX5_takeRow_129 : decode cX5_takeRow 129 = .ok (.goto 15, 3) := by decide +kernel
theorem dX5_takeRow_132 : decode cX5_takeRow 132 = .ok (.aload_n 0, 1) := by decide +kernel
theorem dX5_takeRow_133 : decode cX5_takeRow 133 = .ok (.getfield 222, 3) := by decide +kernel
theorem dX5_takeRow_136 : decode cX5_takeRow 136 = .ok (.ifCond .eq 7, 3) := by decide +kernel
theorem dX5_takeRow_139 : decode cX5_takeRow 139 = .ok (.iconst 2, 1) := by decide +kernel
theorem dX5_takeRow_140 : decode cX5_takeRow 140 = .ok (.goto 4, 3) := by decide +kernel
theorem dX5_takeRow_143 : decode cX5_takeRow 143 = .ok (.iconst 0, 1) := by decide +kernel
theorem dX5_takeRow_144 : decode cX5_takeRow 144 = .ok (.iastore, 1) := by decide +kernel
theorem dX5_takeRow_145 : decode cX5_takeRow 145 = .ok (.aload_n 0, 1) := by decide +kernel
theorem dX5_takeRow_146 : decode cX5_takeRow 146 = .ok (.getfield 27, 3) := by decide +kernel
theorem dX5_takeRow_149 : decode cX5_takeRow 149 = .ok (.iload_n 1, 1) := by decide +kernel
theorem dX5_takeRow_150 : decode cX5_takeRow 150 = .ok (.aload_n 0, 1) := by decide +kernel
theorem dX5_takeRow_151 : decode cX5_takeRow 151 = .ok (.iload_n 2, 1) := by decide +kernel
theorem dX5_takeRow_152 : decode cX5_takeRow 152 = .ok (.bipush 12, 2) := by decide +kernel
theorem dX5_takeRow_154 : decode cX5_takeRow 154 = .ok (.iadd, 1) := by decide +kernel
theorem dX5_takeRow_155 : decode cX5_takeRow 155 = .ok (.invokevirtual 193, 3) := by decide +kernel
theorem dX5_takeRow_158 : decode cX5_takeRow 158 = .ok (.iastore, 1) := by decide +kernel
theorem dX5_takeRow_159 : decode cX5_takeRow 159 = .ok (.aload_n 0, 1) := by decide +kernel
theorem dX5_takeRow_160 : decode cX5_takeRow 160 = .ok (.getfield 30, 3) := by decide +kernel
theorem dX5_takeRow_163 : decode cX5_takeRow 163 = .ok (.iload_n 1, 1) := by decide +kernel
theorem dX5_takeRow_164 : decode cX5_takeRow 164 = .ok (.aload_n 0, 1) := by decide +kernel
theorem dX5_takeRow_165 : decode cX5_takeRow 165 = .ok (.iload_n 2, 1) := by decide +kernel
theorem dX5_takeRow_166 : decode cX5_takeRow 166 = .ok (.bipush 14, 2) := by decide +kernel
theorem dX5_takeRow_168 : decode cX5_takeRow 168 = .ok (.iadd, 1) := by decide +kernel
theorem dX5_takeRow_169 : decode cX5_takeRow 169 = .ok (.invokevirtual 193, 3) := by decide +kernel
theorem dX5_takeRow_172 : decode cX5_takeRow 172 = .ok (.iastore, 1) := by decide +kernel
theorem dX5_takeRow_173 : decode cX5_takeRow 173 = .ok (.aload_n 0, 1) := by decide +kernel
theorem dX5_takeRow_174 : decode cX5_takeRow 174 = .ok (.getfield 33, 3) := by decide +kernel
theorem dX5_takeRow_177 : decode cX5_takeRow 177 = .ok (.iload_n 1, 1) := by decide +kernel
theorem dX5_takeRow_178 : decode cX5_takeRow 178 = .ok (.aload_n 0, 1) := by decide +kernel
theorem dX5_takeRow_179 : decode cX5_takeRow 179 = .ok (.iload_n 2, 1) := by decide +kernel
theorem dX5_takeRow_180 : decode cX5_takeRow 180 = .ok (.bipush 38, 2) := by decide +kernel
theorem dX5_takeRow_182 : decode cX5_takeRow 182 = .ok (.iadd, 1) := by decide +kernel
theorem dX5_takeRow_183 : decode cX5_takeRow 183 = .ok (.invokevirtual 196, 3) := by decide +kernel
theorem dX5_takeRow_186 : decode cX5_takeRow 186 = .ok (.l2i, 1) := by decide +kernel
theorem dX5_takeRow_187 : decode cX5_takeRow 187 = .ok (.iastore, 1) := by decide +kernel
theorem dX5_takeRow_188 : decode cX5_takeRow 188 = .ok (.aload_n 0, 1) := by decide +kernel
theorem dX5_takeRow_189 : decode cX5_takeRow 189 = .ok (.getfield 23, 3) := by decide +kernel
theorem dX5_takeRow_192 : decode cX5_takeRow 192 = .ok (.iload_n 1, 1) := by decide +kernel
theorem dX5_takeRow_193 : decode cX5_takeRow 193 = .ok (.aload_n 0, 1) := by decide +kernel
theorem dX5_takeRow_194 : decode cX5_takeRow 194 = .ok (.getfield 229, 3) := by decide +kernel
theorem dX5_takeRow_197 : decode cX5_takeRow 197 = .ok (.iastore, 1) := by decide +kernel
theorem dX5_takeRow_198 : decode cX5_takeRow 198 = .ok (.iconst 0, 1) := by decide +kernel
theorem dX5_takeRow_199 : decode cX5_takeRow 199 = .ok (.istore 6, 2) := by decide +kernel
theorem dX5_takeRow_201 : decode cX5_takeRow 201 = .ok (.iload 6, 2) := by decide +kernel
theorem dX5_takeRow_203 : decode cX5_takeRow 203 = .ok (.aload_n 0, 1) := by decide +kernel
theorem dX5_takeRow_204 : decode cX5_takeRow 204 = .ok (.getfield 229, 3) := by decide +kernel
theorem dX5_takeRow_207 : decode cX5_takeRow 207 = .ok (.if_icmp .ge 33, 3) := by decide +kernel
theorem dX5_takeRow_210 : decode cX5_takeRow 210 = .ok (.aload_n 0, 1) := by decide +kernel
theorem dX5_takeRow_211 : decode cX5_takeRow 211 = .ok (.getfield 78, 3) := by decide +kernel
theorem dX5_takeRow_214 : decode cX5_takeRow 214 = .ok (.bipush 16, 2) := by decide +kernel
theorem dX5_takeRow_216 : decode cX5_takeRow 216 = .ok (.iload_n 1, 1) := by decide +kernel
theorem dX5_takeRow_217 : decode cX5_takeRow 217 = .ok (.imul, 1) := by decide +kernel
theorem dX5_takeRow_218 : decode cX5_takeRow 218 = .ok (.iload 6, 2) := by decide +kernel
theorem dX5_takeRow_220 : decode cX5_takeRow 220 = .ok (.iadd, 1) := by decide +kernel
theorem dX5_takeRow_221 : decode cX5_takeRow 221 = .ok (.aload_n 0, 1) := by decide +kernel
theorem dX5_takeRow_222 : decode cX5_takeRow 222 = .ok (.getfield 128, 3) := by decide +kernel
theorem dX5_takeRow_225 : decode cX5_takeRow 225 = .ok (.aload_n 0, 1) := by decide +kernel
theorem dX5_takeRow_226 : decode cX5_takeRow 226 = .ok (.getfield 226, 3) := by decide +kernel
theorem dX5_takeRow_229 : decode cX5_takeRow 229 = .ok (.iload 6, 2) := by decide +kernel
theorem dX5_takeRow_231 : decode cX5_takeRow 231 = .ok (.iadd, 1) := by decide +kernel
theorem dX5_takeRow_232 : decode cX5_takeRow 232 = .ok (.iaload, 1) := by decide +kernel
theorem dX5_takeRow_233 : decode cX5_takeRow 233 = .ok (.iastore, 1) := by decide +kernel
theorem dX5_takeRow_234 : decode cX5_takeRow 234 = .ok (.iinc 6 1, 3) := by decide +kernel
theorem dX5_takeRow_237 : decode cX5_takeRow 237 = .ok (.goto (-36), 3) := by decide +kernel
theorem dX5_takeRow_240 : decode cX5_takeRow 240 = .ok (.aload_n 0, 1) := by decide +kernel
theorem dX5_takeRow_241 : decode cX5_takeRow 241 = .ok (.getfield 226, 3) := by decide +kernel
theorem dX5_takeRow_244 : decode cX5_takeRow 244 = .ok (.aload_n 0, 1) := by decide +kernel
theorem dX5_takeRow_245 : decode cX5_takeRow 245 = .ok (.getfield 229, 3) := by decide +kernel
theorem dX5_takeRow_248 : decode cX5_takeRow 248 = .ok (.iadd, 1) := by decide +kernel
theorem dX5_takeRow_249 : decode cX5_takeRow 249 = .ok (.istore 6, 2) := by decide +kernel
theorem dX5_takeRow_251 : decode cX5_takeRow 251 = .ok (.aload_n 0, 1) := by decide +kernel
theorem dX5_takeRow_252 : decode cX5_takeRow 252 = .ok (.getfield 222, 3) := by decide +kernel
theorem dX5_takeRow_255 : decode cX5_takeRow 255 = .ok (.ifCond .eq 35, 3) := by decide +kernel
theorem dX5_takeRow_258 : decode cX5_takeRow 258 = .ok (.iload_n 3, 1) := by decide +kernel
theorem dX5_takeRow_259 : decode cX5_takeRow 259 = .ok (.ifCond .eq 31, 3) := by decide +kernel
theorem dX5_takeRow_262 : decode cX5_takeRow 262 = .ok (.aload_n 0, 1) := by decide +kernel
theorem dX5_takeRow_263 : decode cX5_takeRow 263 = .ok (.aload_n 0, 1) := by decide +kernel
theorem dX5_takeRow_264 : decode cX5_takeRow 264 = .ok (.iload 6, 2) := by decide +kernel
theorem dX5_takeRow_266 : decode cX5_takeRow 266 = .ok (.iconst 4, 1) := by decide +kernel
theorem dX5_takeRow_267 : decode cX5_takeRow 267 = .ok (.iadd, 1) := by decide +kernel
theorem dX5_takeRow_268 : decode cX5_takeRow 268 = .ok (.invokevirtual 252, 3) := by decide +kernel
theorem dX5_takeRow_271 : decode cX5_takeRow 271 = .ok (.putfield 239, 3) := by decide +kernel
theorem dX5_takeRow_274 : decode cX5_takeRow 274 = .ok (.aload_n 0, 1) := by decide +kernel
theorem dX5_takeRow_275 : decode cX5_takeRow 275 = .ok (.aload_n 0, 1) := by decide +kernel
theorem dX5_takeRow_276 : decode cX5_takeRow 276 = .ok (.iload 6, 2) := by decide +kernel
theorem dX5_takeRow_278 : decode cX5_takeRow 278 = .ok (.bipush 12, 2) := by decide +kernel
theorem dX5_takeRow_280 : decode cX5_takeRow 280 = .ok (.iadd, 1) := by decide +kernel
theorem dX5_takeRow_281 : decode cX5_takeRow 281 = .ok (.invokevirtual 252, 3) := by decide +kernel
theorem dX5_takeRow_284 : decode cX5_takeRow 284 = .ok (.putfield 235, 3) := by decide +kernel
theorem dX5_takeRow_287 : decode cX5_takeRow 287 = .ok (.iinc 6 20, 3) := by decide +kernel
theorem dX5_takeRow_290 : decode cX5_takeRow 290 = .ok (.iload 6, 2) := by decide +kernel
theorem dX5_takeRow_292 : decode cX5_takeRow 292 = .ok (.aload_n 0, 1) := by decide +kernel
theorem dX5_takeRow_293 : decode cX5_takeRow 293 = .ok (.getfield 226, 3) := by decide +kernel
theorem dX5_takeRow_296 : decode cX5_takeRow 296 = .ok (.aload_n 0, 1) := by decide +kernel
theorem dX5_takeRow_297 : decode cX5_takeRow 297 = .ok (.getfield 229, 3) := by decide +kernel
theorem dX5_takeRow_300 : decode cX5_takeRow 300 = .ok (.iadd, 1) := by decide +kernel
theorem dX5_takeRow_301 : decode cX5_takeRow 301 = .ok (.aload_n 0, 1) := by decide +kernel
theorem dX5_takeRow_302 : decode cX5_takeRow 302 = .ok (.getfield 232, 3) := by decide +kernel
theorem dX5_takeRow_305 : decode cX5_takeRow 305 = .ok (.iadd, 1) := by decide +kernel
theorem dX5_takeRow_306 : decode cX5_takeRow 306 = .ok (.if_icmp .ge 116, 3) := by decide +kernel
theorem dX5_takeRow_309 : decode cX5_takeRow 309 = .ok (.iconst 3, 1) := by decide +kernel
theorem dX5_takeRow_310 : decode cX5_takeRow 310 = .ok (.iload_n 1, 1) := by decide +kernel
theorem dX5_takeRow_311 : decode cX5_takeRow 311 = .ok (.imul, 1) := by decide +kernel
theorem dX5_takeRow_312 : decode cX5_takeRow 312 = .ok (.aload_n 0, 1) := by decide +kernel
theorem dX5_takeRow_313 : decode cX5_takeRow 313 = .ok (.getfield 36, 3) := by decide +kernel
theorem dX5_takeRow_316 : decode cX5_takeRow 316 = .ok (.iload_n 1, 1) := by decide +kernel
theorem dX5_takeRow_317 : decode cX5_takeRow 317 = .ok (.iaload, 1) := by decide +kernel
theorem dX5_takeRow_318 : decode cX5_takeRow 318 = .ok (.iadd, 1) := by decide +kernel
theorem dX5_takeRow_319 : decode cX5_takeRow 319 = .ok (.istore 7, 2) := by decide +kernel
theorem dX5_takeRow_321 : decode cX5_takeRow 321 = .ok (.aload_n 0, 1) := by decide +kernel
theorem dX5_takeRow_322 : decode cX5_takeRow 322 = .ok (.getfield 96, 3) := by decide +kernel
theorem dX5_takeRow_325 : decode cX5_takeRow 325 = .ok (.iload 7, 2) := by decide +kernel
theorem dX5_takeRow_327 : decode cX5_takeRow 327 = .ok (.aload_n 0, 1) := by decide +kernel
theorem dX5_takeRow_328 : decode cX5_takeRow 328 = .ok (.iload 6, 2) := by decide +kernel
theorem dX5_takeRow_330 : decode cX5_takeRow 330 = .ok (.invokevirtual 193, 3) := by decide +kernel
theorem dX5_takeRow_333 : decode cX5_takeRow 333 = .ok (.iastore, 1) := by decide +kernel
theorem dX5_takeRow_334 : decode cX5_takeRow 334 = .ok (.aload_n 0, 1) := by decide +kernel
theorem dX5_takeRow_335 : decode cX5_takeRow 335 = .ok (.getfield 99, 3) := by decide +kernel
theorem dX5_takeRow_338 : decode cX5_takeRow 338 = .ok (.iload 7, 2) := by decide +kernel
theorem dX5_takeRow_340 : decode cX5_takeRow 340 = .ok (.aload_n 0, 1) := by decide +kernel
theorem dX5_takeRow_341 : decode cX5_takeRow 341 = .ok (.iload 6, 2) := by decide +kernel
theorem dX5_takeRow_343 : decode cX5_takeRow 343 = .ok (.iconst 2, 1) := by decide +kernel
theorem dX5_takeRow_344 : decode cX5_takeRow 344 = .ok (.iadd, 1) := by decide +kernel
theorem dX5_takeRow_345 : decode cX5_takeRow 345 = .ok (.invokevirtual 193, 3) := by decide +kernel
theorem dX5_takeRow_348 : decode cX5_takeRow 348 = .ok (.iastore, 1) := by decide +kernel
theorem dX5_takeRow_349 : decode cX5_takeRow 349 = .ok (.iconst 0, 1) := by decide +kernel
theorem dX5_takeRow_350 : decode cX5_takeRow 350 = .ok (.istore 8, 2) := by decide +kernel
theorem dX5_takeRow_352 : decode cX5_takeRow 352 = .ok (.iload 8, 2) := by decide +kernel
theorem dX5_takeRow_354 : decode cX5_takeRow 354 = .ok (.aload_n 0, 1) := by decide +kernel
theorem dX5_takeRow_355 : decode cX5_takeRow 355 = .ok (.getfield 99, 3) := by decide +kernel
theorem dX5_takeRow_358 : decode cX5_takeRow 358 = .ok (.iload 7, 2) := by decide +kernel
theorem dX5_takeRow_360 : decode cX5_takeRow 360 = .ok (.iaload, 1) := by decide +kernel
theorem dX5_takeRow_361 : decode cX5_takeRow 361 = .ok (.if_icmp .ge 34, 3) := by decide +kernel
theorem dX5_takeRow_364 : decode cX5_takeRow 364 = .ok (.aload_n 0, 1) := by decide +kernel
theorem dX5_takeRow_365 : decode cX5_takeRow 365 = .ok (.getfield 102, 3) := by decide +kernel
theorem dX5_takeRow_368 : decode cX5_takeRow 368 = .ok (.bipush 8, 2) := by decide +kernel
theorem dX5_takeRow_370 : decode cX5_takeRow 370 = .ok (.iload 7, 2) := by decide +kernel
theorem dX5_takeRow_372 : decode cX5_takeRow 372 = .ok (.imul, 1) := by decide +kernel
theorem dX5_takeRow_373 : decode cX5_takeRow 373 = .ok (.iload 8, 2) := by decide +kernel
theorem dX5_takeRow_375 : decode cX5_takeRow 375 = .ok (.iadd, 1) := by decide +kernel
theorem dX5_takeRow_376 : decode cX5_takeRow 376 = .ok (.aload_n 0, 1) := by decide +kernel
theorem dX5_takeRow_377 : decode cX5_takeRow 377 = .ok (.getfield 128, 3) := by decide +kernel
theorem dX5_takeRow_380 : decode cX5_takeRow 380 = .ok (.iload 6, 2) := by decide +kernel
theorem dX5_takeRow_382 : decode cX5_takeRow 382 = .ok (.iconst 4, 1) := by decide +kernel
theorem dX5_takeRow_383 : decode cX5_takeRow 383 = .ok (.iadd, 1) := by decide +kernel
theorem dX5_takeRow_384 : decode cX5_takeRow 384 = .ok (.iload 8, 2) := by decide +kernel
theorem dX5_takeRow_386 : decode cX5_takeRow 386 = .ok (.iadd, 1) := by decide +kernel
theorem dX5_takeRow_387 : decode cX5_takeRow 387 = .ok (.iaload, 1) := by decide +kernel
theorem dX5_takeRow_388 : decode cX5_takeRow 388 = .ok (.iastore, 1) := by decide +kernel
theorem dX5_takeRow_389 : decode cX5_takeRow 389 = .ok (.iinc 8 1, 3) := by decide +kernel
theorem dX5_takeRow_392 : decode cX5_takeRow 392 = .ok (.goto (-40), 3) := by decide +kernel
theorem dX5_takeRow_395 : decode cX5_takeRow 395 = .ok (.aload_n 0, 1) := by decide +kernel
theorem dX5_takeRow_396 : decode cX5_takeRow 396 = .ok (.getfield 36, 3) := by decide +kernel
theorem dX5_takeRow_399 : decode cX5_takeRow 399 = .ok (.iload_n 1, 1) := by decide +kernel
theorem dX5_takeRow_400 : decode cX5_takeRow 400 = .ok (.dup2, 1) := by decide +kernel
theorem dX5_takeRow_401 : decode cX5_takeRow 401 = .ok (.iaload, 1) := by decide +kernel
theorem dX5_takeRow_402 : decode cX5_takeRow 402 = .ok (.iconst 1, 1) := by decide +kernel
theorem dX5_takeRow_403 : decode cX5_takeRow 403 = .ok (.iadd, 1) := by decide +kernel
theorem dX5_takeRow_404 : decode cX5_takeRow 404 = .ok (.iastore, 1) := by decide +kernel
theorem dX5_takeRow_405 : decode cX5_takeRow 405 = .ok (.iload 6, 2) := by decide +kernel
theorem dX5_takeRow_407 : decode cX5_takeRow 407 = .ok (.iconst 4, 1) := by decide +kernel
theorem dX5_takeRow_408 : decode cX5_takeRow 408 = .ok (.aload_n 0, 1) := by decide +kernel
theorem dX5_takeRow_409 : decode cX5_takeRow 409 = .ok (.getfield 99, 3) := by decide +kernel
theorem dX5_takeRow_412 : decode cX5_takeRow 412 = .ok (.iload 7, 2) := by decide +kernel
theorem dX5_takeRow_414 : decode cX5_takeRow 414 = .ok (.iaload, 1) := by decide +kernel
theorem dX5_takeRow_415 : decode cX5_takeRow 415 = .ok (.iadd, 1) := by decide +kernel
theorem dX5_takeRow_416 : decode cX5_takeRow 416 = .ok (.iadd, 1) := by decide +kernel
theorem dX5_takeRow_417 : decode cX5_takeRow 417 = .ok (.istore 6, 2) := by decide +kernel
theorem dX5_takeRow_419 : decode cX5_takeRow 419 = .ok (.goto (-129), 3) := by decide +kernel
theorem dX5_takeRow_422 : decode cX5_takeRow 422 = .ok (.aload_n 0, 1) := by decide +kernel
theorem dX5_takeRow_423 : decode cX5_takeRow 423 = .ok (.getfield 55, 3) := by decide +kernel
theorem dX5_takeRow_426 : decode cX5_takeRow 426 = .ok (.iload_n 1, 1) := by decide +kernel
theorem dX5_takeRow_427 : decode cX5_takeRow 427 = .ok (.aload_n 0, 1) := by decide +kernel
theorem dX5_takeRow_428 : decode cX5_takeRow 428 = .ok (.getfield 242, 3) := by decide +kernel
theorem dX5_takeRow_431 : decode cX5_takeRow 431 = .ok (.l2i, 1) := by decide +kernel
theorem dX5_takeRow_432 : decode cX5_takeRow 432 = .ok (.iastore, 1) := by decide +kernel
theorem dX5_takeRow_433 : decode cX5_takeRow 433 = .ok (.iload 4, 2) := by decide +kernel
theorem dX5_takeRow_435 : decode cX5_takeRow 435 = .ok (.ifCond .ne 113, 3) := by decide +kernel
theorem dX5_takeRow_438 : decode cX5_takeRow 438 = .ok (.aload_n 0, 1) := by decide +kernel
theorem dX5_takeRow_439 : decode cX5_takeRow 439 = .ok (.getfield 39, 3) := by decide +kernel
theorem dX5_takeRow_442 : decode cX5_takeRow 442 = .ok (.iload_n 1, 1) := by decide +kernel
theorem dX5_takeRow_443 : decode cX5_takeRow 443 = .ok (.iconst 1, 1) := by decide +kernel
theorem dX5_takeRow_444 : decode cX5_takeRow 444 = .ok (.bastore, 1) := by decide +kernel
theorem dX5_takeRow_445 : decode cX5_takeRow 445 = .ok (.aload_n 0, 1) := by decide +kernel
theorem dX5_takeRow_446 : decode cX5_takeRow 446 = .ok (.getfield 43, 3) := by decide +kernel
theorem dX5_takeRow_449 : decode cX5_takeRow 449 = .ok (.iload_n 1, 1) := by decide +kernel
theorem dX5_takeRow_450 : decode cX5_takeRow 450 = .ok (.aload_n 0, 1) := by decide +kernel
theorem dX5_takeRow_451 : decode cX5_takeRow 451 = .ok (.getfield 235, 3) := by decide +kernel
theorem dX5_takeRow_454 : decode cX5_takeRow 454 = .ok (.l2i, 1) := by decide +kernel
theorem dX5_takeRow_455 : decode cX5_takeRow 455 = .ok (.iastore, 1) := by decide +kernel
theorem dX5_takeRow_456 : decode cX5_takeRow 456 = .ok (.iconst 0, 1) := by decide +kernel
theorem dX5_takeRow_457 : decode cX5_takeRow 457 = .ok (.istore 7, 2) := by decide +kernel
theorem dX5_takeRow_459 : decode cX5_takeRow 459 = .ok (.iload 7, 2) := by decide +kernel
theorem dX5_takeRow_461 : decode cX5_takeRow 461 = .ok (.aload_n 0, 1) := by decide +kernel
theorem dX5_takeRow_462 : decode cX5_takeRow 462 = .ok (.getfield 43, 3) := by decide +kernel
theorem dX5_takeRow_465 : decode cX5_takeRow 465 = .ok (.iload_n 1, 1) := by decide +kernel
theorem dX5_takeRow_466 : decode cX5_takeRow 466 = .ok (.iaload, 1) := by decide +kernel
theorem dX5_takeRow_467 : decode cX5_takeRow 467 = .ok (.if_icmp .ge 48, 3) := by decide +kernel
theorem dX5_takeRow_470 : decode cX5_takeRow 470 = .ok (.aload_n 0, 1) := by decide +kernel
theorem dX5_takeRow_471 : decode cX5_takeRow 471 = .ok (.getfield 89, 3) := by decide +kernel
theorem dX5_takeRow_474 : decode cX5_takeRow 474 = .ok (.bipush 40, 2) := by decide +kernel
theorem dX5_takeRow_476 : decode cX5_takeRow 476 = .ok (.iload_n 1, 1) := by decide +kernel
theorem dX5_takeRow_477 : decode cX5_takeRow 477 = .ok (.imul, 1) := by decide +kernel
theorem dX5_takeRow_478 : decode cX5_takeRow 478 = .ok (.iload 7, 2) := by decide +kernel
theorem dX5_takeRow_480 : decode cX5_takeRow 480 = .ok (.iadd, 1) := by decide +kernel
theorem dX5_takeRow_481 : decode cX5_takeRow 481 = .ok (.aload_n 0, 1) := by decide +kernel
theorem dX5_takeRow_482 : decode cX5_takeRow 482 = .ok (.getfield 128, 3) := by decide +kernel
theorem dX5_takeRow_485 : decode cX5_takeRow 485 = .ok (.aload_n 0, 1) := by decide +kernel
theorem dX5_takeRow_486 : decode cX5_takeRow 486 = .ok (.getfield 55, 3) := by decide +kernel
theorem dX5_takeRow_489 : decode cX5_takeRow 489 = .ok (.iload_n 1, 1) := by decide +kernel
theorem dX5_takeRow_490 : decode cX5_takeRow 490 = .ok (.iaload, 1) := by decide +kernel
theorem dX5_takeRow_491 : decode cX5_takeRow 491 = .ok (.bipush 30, 2) := by decide +kernel
theorem dX5_takeRow_493 : decode cX5_takeRow 493 = .ok (.iadd, 1) := by decide +kernel
theorem dX5_takeRow_494 : decode cX5_takeRow 494 = .ok (.aload_n 0, 1) := by decide +kernel
theorem dX5_takeRow_495 : decode cX5_takeRow 495 = .ok (.getfield 229, 3) := by decide +kernel
theorem dX5_takeRow_498 : decode cX5_takeRow 498 = .ok (.iadd, 1) := by decide +kernel
theorem dX5_takeRow_499 : decode cX5_takeRow 499 = .ok (.aload_n 0, 1) := by decide +kernel
theorem dX5_takeRow_500 : decode cX5_takeRow 500 = .ok (.getfield 232, 3) := by decide +kernel
theorem dX5_takeRow_503 : decode cX5_takeRow 503 = .ok (.iadd, 1) := by decide +kernel
theorem dX5_takeRow_504 : decode cX5_takeRow 504 = .ok (.iload 7, 2) := by decide +kernel
theorem dX5_takeRow_506 : decode cX5_takeRow 506 = .ok (.iadd, 1) := by decide +kernel
theorem dX5_takeRow_507 : decode cX5_takeRow 507 = .ok (.iaload, 1) := by decide +kernel
theorem dX5_takeRow_508 : decode cX5_takeRow 508 = .ok (.iastore, 1) := by decide +kernel
theorem dX5_takeRow_509 : decode cX5_takeRow 509 = .ok (.iinc 7 1, 3) := by decide +kernel
theorem dX5_takeRow_512 : decode cX5_takeRow 512 = .ok (.goto (-53), 3) := by decide +kernel
theorem dX5_takeRow_515 : decode cX5_takeRow 515 = .ok (.aload_n 0, 1) := by decide +kernel
theorem dX5_takeRow_516 : decode cX5_takeRow 516 = .ok (.getfield 46, 3) := by decide +kernel
theorem dX5_takeRow_519 : decode cX5_takeRow 519 = .ok (.iload_n 1, 1) := by decide +kernel
theorem dX5_takeRow_520 : decode cX5_takeRow 520 = .ok (.aload_n 0, 1) := by decide +kernel
theorem dX5_takeRow_521 : decode cX5_takeRow 521 = .ok (.getfield 239, 3) := by decide +kernel
theorem dX5_takeRow_524 : decode cX5_takeRow 524 = .ok (.l2i, 1) := by decide +kernel
theorem dX5_takeRow_525 : decode cX5_takeRow 525 = .ok (.iastore, 1) := by decide +kernel
theorem dX5_takeRow_526 : decode cX5_takeRow 526 = .ok (.aload_n 0, 1) := by decide +kernel
theorem dX5_takeRow_527 : decode cX5_takeRow 527 = .ok (.getfield 49, 3) := by decide +kernel
theorem dX5_takeRow_530 : decode cX5_takeRow 530 = .ok (.iload_n 1, 1) := by decide +kernel
theorem dX5_takeRow_531 : decode cX5_takeRow 531 = .ok (.aload_n 0, 1) := by decide +kernel
theorem dX5_takeRow_532 : decode cX5_takeRow 532 = .ok (.iload_n 2, 1) := by decide +kernel
theorem dX5_takeRow_533 : decode cX5_takeRow 533 = .ok (.bipush 16, 2) := by decide +kernel
theorem dX5_takeRow_535 : decode cX5_takeRow 535 = .ok (.iadd, 1) := by decide +kernel
theorem dX5_takeRow_536 : decode cX5_takeRow 536 = .ok (.invokevirtual 196, 3) := by decide +kernel
theorem dX5_takeRow_539 : decode cX5_takeRow 539 = .ok (.l2i, 1) := by decide +kernel
theorem dX5_takeRow_540 : decode cX5_takeRow 540 = .ok (.iastore, 1) := by decide +kernel
theorem dX5_takeRow_541 : decode cX5_takeRow 541 = .ok (.aload_n 0, 1) := by decide +kernel
theorem dX5_takeRow_542 : decode cX5_takeRow 542 = .ok (.getfield 52, 3) := by decide +kernel
theorem dX5_takeRow_545 : decode cX5_takeRow 545 = .ok (.iload_n 1, 1) := by decide +kernel
theorem dX5_takeRow_546 : decode cX5_takeRow 546 = .ok (.iconst 1, 1) := by decide +kernel
theorem dX5_takeRow_547 : decode cX5_takeRow 547 = .ok (.bastore, 1) := by decide +kernel
theorem dX5_takeRow_548 : decode cX5_takeRow 548 = .ok (.return_, 1) := by decide +kernel
theorem dX5_read_0 : decode cX5_read 0 = .ok (.aload_n 0, 1) := by decide +kernel
theorem dX5_read_1 : decode cX5_read 1 = .ok (.iconst 0, 1) := by decide +kernel
theorem dX5_read_2 : decode cX5_read 2 = .ok (.putfield 1, 3) := by decide +kernel
theorem dX5_read_5 : decode cX5_read 5 = .ok (.aload_n 0, 1) := by decide +kernel
theorem dX5_read_6 : decode cX5_read 6 = .ok (.iconst 0, 1) := by decide +kernel
theorem dX5_read_7 : decode cX5_read 7 = .ok (.putfield 187, 3) := by decide +kernel
theorem dX5_read_10 : decode cX5_read 10 = .ok (.aload_n 0, 1) := by decide +kernel
theorem dX5_read_11 : decode cX5_read 11 = .ok (.invokevirtual 276, 3) := by decide +kernel
theorem dX5_read_14 : decode cX5_read 14 = .ok (.aload_n 0, 1) := by decide +kernel
theorem dX5_read_15 : decode cX5_read 15 = .ok (.getfield 187, 3) := by decide +kernel
theorem dX5_read_18 : decode cX5_read 18 = .ok (.ifCond .ne 7, 3) := by decide +kernel
theorem dX5_read_21 : decode cX5_read 21 = .ok (.aload_n 0, 1) := by decide +kernel
theorem dX5_read_22 : decode cX5_read 22 = .ok (.invokevirtual 280, 3) := by decide +kernel
theorem dX5_read_25 : decode cX5_read 25 = .ok (.iconst 0, 1) := by decide +kernel
theorem dX5_read_26 : decode cX5_read 26 = .ok (.istore_n 1, 1) := by decide +kernel
theorem dX5_read_27 : decode cX5_read 27 = .ok (.iload_n 1, 1) := by decide +kernel
theorem dX5_read_28 : decode cX5_read 28 = .ok (.aload_n 0, 1) := by decide +kernel
theorem dX5_read_29 : decode cX5_read 29 = .ok (.getfield 207, 3) := by decide +kernel
theorem dX5_read_32 : decode cX5_read 32 = .ok (.if_icmp .ge 21, 3) := by decide +kernel
theorem dX5_read_35 : decode cX5_read 35 = .ok (.aload_n 0, 1) := by decide +kernel
theorem dX5_read_36 : decode cX5_read 36 = .ok (.getfield 187, 3) := by decide +kernel
theorem dX5_read_39 : decode cX5_read 39 = .ok (.ifCond .ne 14, 3) := by decide +kernel
theorem dX5_read_42 : decode cX5_read 42 = .ok (.aload_n 0, 1) := by decide +kernel
theorem dX5_read_43 : decode cX5_read 43 = .ok (.iload_n 1, 1) := by decide +kernel
theorem dX5_read_44 : decode cX5_read 44 = .ok (.invokevirtual 283, 3) := by decide +kernel
theorem dX5_read_47 : decode cX5_read 47 = .ok (.iinc 1 1, 3) := by decide +kernel
theorem dX5_read_50 : decode cX5_read 50 = .ok (.goto (-23), 3) := by decide +kernel
theorem dX5_read_53 : decode cX5_read 53 = .ok (.aload_n 0, 1) := by decide +kernel
theorem dX5_read_54 : decode cX5_read 54 = .ok (.getfield 187, 3) := by decide +kernel
theorem dX5_read_57 : decode cX5_read 57 = .ok (.ifCond .le 19, 3) := by decide +kernel
theorem dX5_read_60 : decode cX5_read 60 = .ok (.aload_n 0, 1) := by decide +kernel
theorem dX5_read_61 : decode cX5_read 61 = .ok (.aload_n 0, 1) := by decide +kernel
theorem dX5_read_62 : decode cX5_read 62 = .ok (.getfield 190, 3) := by decide +kernel
theorem dX5_read_65 : decode cX5_read 65 = .ok (.putfield 286, 3) := by decide +kernel
theorem dX5_read_68 : decode cX5_read 68 = .ok (.bipush (-10), 2) := by decide +kernel
theorem dX5_read_70 : decode cX5_read 70 = .ok (.aload_n 0, 1) := by decide +kernel
theorem dX5_read_71 : decode cX5_read 71 = .ok (.getfield 187, 3) := by decide +kernel
theorem dX5_read_74 : decode cX5_read 74 = .ok (.isub, 1) := by decide +kernel
theorem dX5_read_75 : decode cX5_read 75 = .ok (.ireturn, 1) := by decide +kernel
theorem dX5_read_76 : decode cX5_read 76 = .ok (.aload_n 0, 1) := by decide +kernel
theorem dX5_read_77 : decode cX5_read 77 = .ok (.iconst (-1), 1) := by decide +kernel
theorem dX5_read_78 : decode cX5_read 78 = .ok (.putfield 286, 3) := by decide +kernel
theorem dX5_read_81 : decode cX5_read 81 = .ok (.aload_n 0, 1) := by decide +kernel
theorem dX5_read_82 : decode cX5_read 82 = .ok (.aload_n 0, 1) := by decide +kernel
theorem dX5_read_83 : decode cX5_read 83 = .ok (.getfield 207, 3) := by decide +kernel
theorem dX5_read_86 : decode cX5_read 86 = .ok (.putfield 10, 3) := by decide +kernel
theorem dX5_read_89 : decode cX5_read 89 = .ok (.iconst 0, 1) := by decide +kernel
theorem dX5_read_90 : decode cX5_read 90 = .ok (.istore_n 1, 1) := by decide +kernel
theorem dX5_read_91 : decode cX5_read 91 = .ok (.iload_n 1, 1) := by decide +kernel
theorem dX5_read_92 : decode cX5_read 92 = .ok (.aload_n 0, 1) := by decide +kernel
theorem dX5_read_93 : decode cX5_read 93 = .ok (.getfield 207, 3) := by decide +kernel
theorem dX5_read_96 : decode cX5_read 96 = .ok (.if_icmp .ge 14, 3) := by decide +kernel
theorem dX5_read_99 : decode cX5_read 99 = .ok (.aload_n 0, 1) := by decide +kernel
theorem dX5_read_100 : decode cX5_read 100 = .ok (.iload_n 1, 1) := by decide +kernel
theorem dX5_read_101 : decode cX5_read 101 = .ok (.invokevirtual 289, 3) := by decide +kernel
theorem dX5_read_104 : decode cX5_read 104 = .ok (.iinc 1 1, 3) := by decide +kernel
theorem dX5_read_107 : decode cX5_read 107 = .ok (.goto (-16), 3) := by decide +kernel
theorem dX5_read_110 : decode cX5_read 110 = .ok (.aload_n 0, 1) := by decide +kernel
theorem dX5_read_111 : decode cX5_read 111 = .ok (.aload_n 0, 1) := by decide +kernel
theorem dX5_read_112 : decode cX5_read 112 = .ok (.aload_n 0, 1) := by decide +kernel
theorem dX5_read_113 : decode cX5_read 113 = .ok (.getfield 204, 3) := by decide +kernel
theorem dX5_read_116 : decode cX5_read 116 = .ok (.bipush 20, 2) := by decide +kernel
theorem dX5_read_118 : decode cX5_read 118 = .ok (.iadd, 1) := by decide +kernel
theorem dX5_read_119 : decode cX5_read 119 = .ok (.invokevirtual 193, 3) := by decide +kernel
theorem dX5_read_122 : decode cX5_read 122 = .ok (.putfield 118, 3) := by decide +kernel
theorem dX5_read_125 : decode cX5_read 125 = .ok (.iconst 0, 1) := by decide +kernel
theorem dX5_read_126 : decode cX5_read 126 = .ok (.istore_n 1, 1) := by decide +kernel
theorem dX5_read_127 : decode cX5_read 127 = .ok (.iload_n 1, 1) := by decide +kernel
theorem dX5_read_128 : decode cX5_read 128 = .ok (.aload_n 0, 1) := by decide +kernel
theorem dX5_read_129 : decode cX5_read 129 = .ok (.getfield 118, 3) := by decide +kernel
theorem dX5_read_132 : decode cX5_read 132 = .ok (.if_icmp .ge 29, 3) := by decide +kernel
theorem dX5_read_135 : decode cX5_read 135 = .ok (.aload_n 0, 1) := by decide +kernel
theorem dX5_read_136 : decode cX5_read 136 = .ok (.getfield 115, 3) := by decide +kernel
theorem dX5_read_139 : decode cX5_read 139 = .ok (.iload_n 1, 1) := by decide +kernel
theorem dX5_read_140 : decode cX5_read 140 = .ok (.aload_n 0, 1) := by decide +kernel
theorem dX5_read_141 : decode cX5_read 141 = .ok (.getfield 128, 3) := by decide +kernel
theorem dX5_read_144 : decode cX5_read 144 = .ok (.aload_n 0, 1) := by decide +kernel
theorem dX5_read_145 : decode cX5_read 145 = .ok (.getfield 204, 3) := by decide +kernel
theorem dX5_read_148 : decode cX5_read 148 = .ok (.bipush 22, 2) := by decide +kernel
theorem dX5_read_150 : decode cX5_read 150 = .ok (.iadd, 1) := by decide +kernel
theorem dX5_read_151 : decode cX5_read 151 = .ok (.iload_n 1, 1) := by decide +kernel
theorem dX5_read_152 : decode cX5_read 152 = .ok (.iadd, 1) := by decide +kernel
theorem dX5_read_153 : decode cX5_read 153 = .ok (.iaload, 1) := by decide +kernel
theorem dX5_read_154 : decode cX5_read 154 = .ok (.iastore, 1) := by decide +kernel
theorem dX5_read_155 : decode cX5_read 155 = .ok (.iinc 1 1, 3) := by decide +kernel
theorem dX5_read_158 : decode cX5_read 158 = .ok (.goto (-31), 3) := by decide +kernel
theorem dX5_read_161 : decode cX5_read 161 = .ok (.aload_n 0, 1) := by decide +kernel
theorem dX5_read_162 : decode cX5_read 162 = .ok (.getfield 10, 3) := by decide +kernel
theorem dX5_read_165 : decode cX5_read 165 = .ok (.ireturn, 1) := by decide +kernel
theorem dX5_place_0 : decode cX5_place 0 = .ok (.aload_n 0, 1) := by decide +kernel
theorem dX5_place_1 : decode cX5_place 1 = .ok (.iconst 0, 1) := by decide +kernel
theorem dX5_place_2 : decode cX5_place 2 = .ok (.putfield 1, 3) := by decide +kernel
theorem dX5_place_5 : decode cX5_place 5 = .ok (.aload_n 0, 1) := by decide +kernel
theorem dX5_place_6 : decode cX5_place 6 = .ok (.getfield 286, 3) := by decide +kernel
theorem dX5_place_9 : decode cX5_place 9 = .ok (.ireturn, 1) := by decide +kernel
theorem dX5_feed_0 : decode cX5_feed 0 = .ok (.aload_n 0, 1) := by decide +kernel
theorem dX5_feed_1 : decode cX5_feed 1 = .ok (.iconst 0, 1) := by decide +kernel
theorem dX5_feed_2 : decode cX5_feed 2 = .ok (.putfield 1, 3) := by decide +kernel
theorem dX5_feed_5 : decode cX5_feed 5 = .ok (.iload_n 3, 1) := by decide +kernel
theorem dX5_feed_6 : decode cX5_feed 6 = .ok (.i2l, 1) := by decide +kernel
theorem dX5_feed_7 : decode cX5_feed 7 = .ok (.lconst 1, 1) := by decide +kernel
theorem dX5_feed_8 : decode cX5_feed 8 = .ok (.ldc2_w 60, 3) := by decide +kernel
theorem dX5_feed_11 : decode cX5_feed 11 = .ok (.invokestatic 13, 3) := by decide +kernel
theorem dX5_feed_14 : decode cX5_feed 14 = .ok (.ifCond .ne 6, 3) := by decide +kernel
theorem dX5_feed_17 : decode cX5_feed 17 = .ok (.bipush (-3), 2) := by decide +kernel
theorem dX5_feed_19 : decode cX5_feed 19 = .ok (.ireturn, 1) := by decide +kernel
theorem dX5_feed_20 : decode cX5_feed 20 = .ok (.aload_n 0, 1) := by decide +kernel
theorem dX5_feed_21 : decode cX5_feed 21 = .ok (.getfield 180, 3) := by decide +kernel
theorem dX5_feed_24 : decode cX5_feed 24 = .ok (.iload_n 3, 1) := by decide +kernel
theorem dX5_feed_25 : decode cX5_feed 25 = .ok (.iadd, 1) := by decide +kernel
theorem dX5_feed_26 : decode cX5_feed 26 = .ok (.sipush 2000, 3) := by decide +kernel
theorem dX5_feed_29 : decode cX5_feed 29 = .ok (.if_icmp .le 6, 3) := by decide +kernel
theorem dX5_feed_32 : decode cX5_feed 32 = .ok (.bipush (-5), 2) := by decide +kernel
theorem dX5_feed_34 : decode cX5_feed 34 = .ok (.ireturn, 1) := by decide +kernel
theorem dX5_feed_35 : decode cX5_feed 35 = .ok (.iconst 0, 1) := by decide +kernel
theorem dX5_feed_36 : decode cX5_feed 36 = .ok (.istore 4, 2) := by decide +kernel
theorem dX5_feed_38 : decode cX5_feed 38 = .ok (.iload 4, 2) := by decide +kernel
theorem dX5_feed_40 : decode cX5_feed 40 = .ok (.iload_n 3, 1) := by decide +kernel
theorem dX5_feed_41 : decode cX5_feed 41 = .ok (.if_icmp .ge 35, 3) := by decide +kernel
theorem dX5_feed_44 : decode cX5_feed 44 = .ok (.aload_n 0, 1) := by decide +kernel
theorem dX5_feed_45 : decode cX5_feed 45 = .ok (.getfield 128, 3) := by decide +kernel
theorem dX5_feed_48 : decode cX5_feed 48 = .ok (.aload_n 0, 1) := by decide +kernel
theorem dX5_feed_49 : decode cX5_feed 49 = .ok (.getfield 180, 3) := by decide +kernel
theorem dX5_feed_52 : decode cX5_feed 52 = .ok (.lload_n 1, 1) := by decide +kernel
theorem dX5_feed_53 : decode cX5_feed 53 = .ok (.iload_n 3, 1) := by decide +kernel
theorem dX5_feed_54 : decode cX5_feed 54 = .ok (.iload 4, 2) := by decide +kernel
theorem dX5_feed_56 : decode cX5_feed 56 = .ok (.invokestatic 19, 3) := by decide +kernel
theorem dX5_feed_59 : decode cX5_feed 59 = .ok (.iastore, 1) := by decide +kernel
theorem dX5_feed_60 : decode cX5_feed 60 = .ok (.aload_n 0, 1) := by decide +kernel
theorem dX5_feed_61 : decode cX5_feed 61 = .ok (.dup, 1) := by decide +kernel
theorem dX5_feed_62 : decode cX5_feed 62 = .ok (.getfield 180, 3) := by decide +kernel
theorem dX5_feed_65 : decode cX5_feed 65 = .ok (.iconst 1, 1) := by decide +kernel
theorem dX5_feed_66 : decode cX5_feed 66 = .ok (.iadd, 1) := by decide +kernel
theorem dX5_feed_67 : decode cX5_feed 67 = .ok (.putfield 180, 3) := by decide +kernel
theorem dX5_feed_70 : decode cX5_feed 70 = .ok (.iinc 4 1, 3) := by decide +kernel
theorem dX5_feed_73 : decode cX5_feed 73 = .ok (.goto (-35), 3) := by decide +kernel
theorem dX5_feed_76 : decode cX5_feed 76 = .ok (.aload_n 0, 1) := by decide +kernel
theorem dX5_feed_77 : decode cX5_feed 77 = .ok (.getfield 180, 3) := by decide +kernel
theorem dX5_feed_80 : decode cX5_feed 80 = .ok (.ireturn, 1) := by decide +kernel
theorem dX5_cut_0 : decode cX5_cut 0 = .ok (.aload_n 0, 1) := by decide +kernel
theorem dX5_cut_1 : decode cX5_cut 1 = .ok (.iconst 0, 1) := by decide +kernel
theorem dX5_cut_2 : decode cX5_cut 2 = .ok (.putfield 1, 3) := by decide +kernel
theorem dX5_cut_5 : decode cX5_cut 5 = .ok (.iload_n 1, 1) := by decide +kernel
theorem dX5_cut_6 : decode cX5_cut 6 = .ok (.i2l, 1) := by decide +kernel
theorem dX5_cut_7 : decode cX5_cut 7 = .ok (.lconst 0, 1) := by decide +kernel
theorem dX5_cut_8 : decode cX5_cut 8 = .ok (.aload_n 0, 1) := by decide +kernel
theorem dX5_cut_9 : decode cX5_cut 9 = .ok (.getfield 180, 3) := by decide +kernel
theorem dX5_cut_12 : decode cX5_cut 12 = .ok (.i2l, 1) := by decide +kernel
theorem dX5_cut_13 : decode cX5_cut 13 = .ok (.invokestatic 13, 3) := by decide +kernel
theorem dX5_cut_16 : decode cX5_cut 16 = .ok (.ifCond .ne 6, 3) := by decide +kernel
theorem dX5_cut_19 : decode cX5_cut 19 = .ok (.bipush (-3), 2) := by decide +kernel
theorem dX5_cut_21 : decode cX5_cut 21 = .ok (.ireturn, 1) := by decide +kernel
theorem dX5_cut_22 : decode cX5_cut 22 = .ok (.aload_n 0, 1) := by decide +kernel
theorem dX5_cut_23 : decode cX5_cut 23 = .ok (.getfield 180, 3) := by decide +kernel
theorem dX5_cut_26 : decode cX5_cut 26 = .ok (.iload_n 1, 1) := by decide +kernel
theorem dX5_cut_27 : decode cX5_cut 27 = .ok (.isub, 1) := by decide +kernel
theorem dX5_cut_28 : decode cX5_cut 28 = .ok (.istore_n 2, 1) := by decide +kernel
theorem dX5_cut_29 : decode cX5_cut 29 = .ok (.aload_n 0, 1) := by decide +kernel
theorem dX5_cut_30 : decode cX5_cut 30 = .ok (.iload_n 1, 1) := by decide +kernel
theorem dX5_cut_31 : decode cX5_cut 31 = .ok (.putfield 180, 3) := by decide +kernel
theorem dX5_cut_34 : decode cX5_cut 34 = .ok (.iload_n 2, 1) := by decide +kernel
theorem dX5_cut_35 : decode cX5_cut 35 = .ok (.ireturn, 1) := by decide +kernel
theorem dX5_poke_0 : decode cX5_poke 0 = .ok (.aload_n 0, 1) := by decide +kernel
theorem dX5_poke_1 : decode cX5_poke 1 = .ok (.iconst 0, 1) := by decide +kernel
theorem dX5_poke_2 : decode cX5_poke 2 = .ok (.putfield 1, 3) := by decide +kernel
theorem dX5_poke_5 : decode cX5_poke 5 = .ok (.iload_n 1, 1) := by decide +kernel
theorem dX5_poke_6 : decode cX5_poke 6 = .ok (.i2l, 1) := by decide +kernel
theorem dX5_poke_7 : decode cX5_poke 7 = .ok (.lconst 0, 1) := by decide +kernel
theorem dX5_poke_8 : decode cX5_poke 8 = .ok (.aload_n 0, 1) := by decide +kernel
theorem dX5_poke_9 : decode cX5_poke 9 = .ok (.getfield 180, 3) := by decide +kernel
theorem dX5_poke_12 : decode cX5_poke 12 = .ok (.iconst 1, 1) := by decide +kernel
theorem dX5_poke_13 : decode cX5_poke 13 = .ok (.isub, 1) := by decide +kernel
theorem dX5_poke_14 : decode cX5_poke 14 = .ok (.i2l, 1) := by decide +kernel
theorem dX5_poke_15 : decode cX5_poke 15 = .ok (.invokestatic 13, 3) := by decide +kernel
theorem dX5_poke_18 : decode cX5_poke 18 = .ok (.ifCond .ne 6, 3) := by decide +kernel
theorem dX5_poke_21 : decode cX5_poke 21 = .ok (.bipush (-2), 2) := by decide +kernel
theorem dX5_poke_23 : decode cX5_poke 23 = .ok (.ireturn, 1) := by decide +kernel
theorem dX5_poke_24 : decode cX5_poke 24 = .ok (.iload_n 2, 1) := by decide +kernel
theorem dX5_poke_25 : decode cX5_poke 25 = .ok (.i2l, 1) := by decide +kernel
theorem dX5_poke_26 : decode cX5_poke 26 = .ok (.lconst 0, 1) := by decide +kernel
theorem dX5_poke_27 : decode cX5_poke 27 = .ok (.ldc2_w 17, 3) := by decide +kernel
theorem dX5_poke_30 : decode cX5_poke 30 = .ok (.invokestatic 13, 3) := by decide +kernel
theorem dX5_poke_33 : decode cX5_poke 33 = .ok (.ifCond .ne 6, 3) := by decide +kernel
theorem dX5_poke_36 : decode cX5_poke 36 = .ok (.bipush (-3), 2) := by decide +kernel
theorem dX5_poke_38 : decode cX5_poke 38 = .ok (.ireturn, 1) := by decide +kernel
theorem dX5_poke_39 : decode cX5_poke 39 = .ok (.aload_n 0, 1) := by decide +kernel
theorem dX5_poke_40 : decode cX5_poke 40 = .ok (.getfield 128, 3) := by decide +kernel
theorem dX5_poke_43 : decode cX5_poke 43 = .ok (.iload_n 1, 1) := by decide +kernel
theorem dX5_poke_44 : decode cX5_poke 44 = .ok (.dup2, 1) := by decide +kernel
theorem dX5_poke_45 : decode cX5_poke 45 = .ok (.iaload, 1) := by decide +kernel
theorem dX5_poke_46 : decode cX5_poke 46 = .ok (.iload_n 2, 1) := by decide +kernel
theorem dX5_poke_47 : decode cX5_poke 47 = .ok (.ixor, 1) := by decide +kernel
theorem dX5_poke_48 : decode cX5_poke 48 = .ok (.iastore, 1) := by decide +kernel
theorem dX5_poke_49 : decode cX5_poke 49 = .ok (.aload_n 0, 1) := by decide +kernel
theorem dX5_poke_50 : decode cX5_poke 50 = .ok (.getfield 128, 3) := by decide +kernel
theorem dX5_poke_53 : decode cX5_poke 53 = .ok (.iload_n 1, 1) := by decide +kernel
theorem dX5_poke_54 : decode cX5_poke 54 = .ok (.iaload, 1) := by decide +kernel
theorem dX5_poke_55 : decode cX5_poke 55 = .ok (.ireturn, 1) := by decide +kernel
theorem dX5_isThere_0 : decode cX5_isThere 0 = .ok (.iload_n 1, 1) := by decide +kernel
theorem dX5_isThere_1 : decode cX5_isThere 1 = .ok (.i2l, 1) := by decide +kernel
theorem dX5_isThere_2 : decode cX5_isThere 2 = .ok (.lconst 0, 1) := by decide +kernel
theorem dX5_isThere_3 : decode cX5_isThere 3 = .ok (.aload_n 0, 1) := by decide +kernel
theorem dX5_isThere_4 : decode cX5_isThere 4 = .ok (.getfield 180, 3) := by decide +kernel
theorem dX5_isThere_7 : decode cX5_isThere 7 = .ok (.i2l, 1) := by decide +kernel
theorem dX5_isThere_8 : decode cX5_isThere 8 = .ok (.iload_n 2, 1) := by decide +kernel
theorem dX5_isThere_9 : decode cX5_isThere 9 = .ok (.i2l, 1) := by decide +kernel
theorem dX5_isThere_10 : decode cX5_isThere 10 = .ok (.lsub, 1) := by decide +kernel
theorem dX5_isThere_11 : decode cX5_isThere 11 = .ok (.invokestatic 13, 3) := by decide +kernel
theorem dX5_isThere_14 : decode cX5_isThere 14 = .ok (.ireturn, 1) := by decide +kernel
theorem dX5_at_0 : decode cX5_at 0 = .ok (.aload_n 0, 1) := by decide +kernel
theorem dX5_at_1 : decode cX5_at 1 = .ok (.iconst 0, 1) := by decide +kernel
theorem dX5_at_2 : decode cX5_at 2 = .ok (.putfield 1, 3) := by decide +kernel
theorem dX5_at_5 : decode cX5_at 5 = .ok (.aload_n 0, 1) := by decide +kernel
theorem dX5_at_6 : decode cX5_at 6 = .ok (.iload_n 1, 1) := by decide +kernel
theorem dX5_at_7 : decode cX5_at 7 = .ok (.iconst 1, 1) := by decide +kernel
theorem dX5_at_8 : decode cX5_at 8 = .ok (.invokevirtual 292, 3) := by decide +kernel
theorem dX5_at_11 : decode cX5_at 11 = .ok (.ifCond .eq 12, 3) := by decide +kernel
theorem dX5_at_14 : decode cX5_at 14 = .ok (.aload_n 0, 1) := by decide +kernel
theorem dX5_at_15 : decode cX5_at 15 = .ok (.getfield 128, 3) := by decide +kernel
theorem dX5_at_18 : decode cX5_at 18 = .ok (.iload_n 1, 1) := by decide +kernel
theorem dX5_at_19 : decode cX5_at 19 = .ok (.iaload, 1) := by decide +kernel
theorem dX5_at_20 : decode cX5_at 20 = .ok (.goto 8, 3) := by decide +kernel
theorem dX5_at_23 : decode cX5_at 23 = .ok (.aload_n 0, 1) := by decide +kernel
theorem dX5_at_24 : decode cX5_at 24 = .ok (.iconst 3, 1) := by decide +kernel
theorem dX5_at_25 : decode cX5_at 25 = .ok (.invokevirtual 85, 3) := by decide +kernel
theorem dX5_at_28 : decode cX5_at 28 = .ok (.ireturn, 1) := by decide +kernel
theorem dX5_half_0 : decode cX5_half 0 = .ok (.aload_n 0, 1) := by decide +kernel
theorem dX5_half_1 : decode cX5_half 1 = .ok (.iconst 0, 1) := by decide +kernel
theorem dX5_half_2 : decode cX5_half 2 = .ok (.putfield 1, 3) := by decide +kernel
theorem dX5_half_5 : decode cX5_half 5 = .ok (.aload_n 0, 1) := by decide +kernel
theorem dX5_half_6 : decode cX5_half 6 = .ok (.iload_n 1, 1) := by decide +kernel
theorem dX5_half_7 : decode cX5_half 7 = .ok (.iconst 2, 1) := by decide +kernel
theorem dX5_half_8 : decode cX5_half 8 = .ok (.invokevirtual 292, 3) := by decide +kernel
theorem dX5_half_11 : decode cX5_half 11 = .ok (.ifCond .eq 11, 3) := by decide +kernel
theorem dX5_half_14 : decode cX5_half 14 = .ok (.aload_n 0, 1) := by decide +kernel
theorem dX5_half_15 : decode cX5_half 15 = .ok (.iload_n 1, 1) := by decide +kernel
theorem dX5_half_16 : decode cX5_half 16 = .ok (.invokevirtual 193, 3) := by decide +kernel
theorem dX5_half_19 : decode cX5_half 19 = .ok (.goto 8, 3) := by decide +kernel
theorem dX5_half_22 : decode cX5_half 22 = .ok (.aload_n 0, 1) := by decide +kernel
theorem dX5_half_23 : decode cX5_half 23 = .ok (.iconst 3, 1) := by decide +kernel
theorem dX5_half_24 : decode cX5_half 24 = .ok (.invokevirtual 85, 3) := by decide +kernel
theorem dX5_half_27 : decode cX5_half 27 = .ok (.ireturn, 1) := by decide +kernel
theorem dX5_word_0 : decode cX5_word 0 = .ok (.aload_n 0, 1) := by decide +kernel
theorem dX5_word_1 : decode cX5_word 1 = .ok (.iconst 0, 1) := by decide +kernel
theorem dX5_word_2 : decode cX5_word 2 = .ok (.putfield 1, 3) := by decide +kernel
theorem dX5_word_5 : decode cX5_word 5 = .ok (.aload_n 0, 1) := by decide +kernel
theorem dX5_word_6 : decode cX5_word 6 = .ok (.iload_n 1, 1) := by decide +kernel
theorem dX5_word_7 : decode cX5_word 7 = .ok (.iconst 4, 1) := by decide +kernel
theorem dX5_word_8 : decode cX5_word 8 = .ok (.invokevirtual 292, 3) := by decide +kernel
theorem dX5_word_11 : decode cX5_word 11 = .ok (.ifCond .eq 11, 3) := by decide +kernel
theorem dX5_word_14 : decode cX5_word 14 = .ok (.aload_n 0, 1) := by decide +kernel
theorem dX5_word_15 : decode cX5_word 15 = .ok (.iload_n 1, 1) := by decide +kernel
theorem dX5_word_16 : decode cX5_word 16 = .ok (.invokevirtual 196, 3) := by decide +kernel
theorem dX5_word_19 : decode cX5_word 19 = .ok (.goto 9, 3) := by decide +kernel
theorem dX5_word_22 : decode cX5_word 22 = .ok (.aload_n 0, 1) := by decide +kernel
theorem dX5_word_23 : decode cX5_word 23 = .ok (.iconst 3, 1) := by decide +kernel
theorem dX5_word_24 : decode cX5_word 24 = .ok (.invokevirtual 85, 3) := by decide +kernel
theorem dX5_word_27 : decode cX5_word 27 = .ok (.i2l, 1) := by decide +kernel
theorem dX5_word_28 : decode cX5_word 28 = .ok (.lreturn, 1) := by decide +kernel
theorem dX5_about_0 : decode cX5_about 0 = .ok (.aload_n 0, 1) := by decide +kernel
theorem dX5_about_1 : decode cX5_about 1 = .ok (.iconst 0, 1) := by decide +kernel
theorem dX5_about_2 : decode cX5_about 2 = .ok (.putfield 1, 3) := by decide +kernel
theorem dX5_about_5 : decode cX5_about 5 = .ok (.aload_n 0, 1) := by decide +kernel
theorem dX5_about_6 : decode cX5_about 6 = .ok (.iload_n 1, 1) := by decide +kernel
theorem dX5_about_7 : decode cX5_about 7 = .ok (.invokevirtual 81, 3) := by decide +kernel
theorem dX5_about_10 : decode cX5_about 10 = .ok (.ifCond .ne 6, 3) := by decide +kernel
theorem dX5_about_13 : decode cX5_about 13 = .ok (.bipush (-2), 2) := by decide +kernel
theorem dX5_about_15 : decode cX5_about 15 = .ok (.ireturn, 1) := by decide +kernel
theorem dX5_about_16 : decode cX5_about 16 = .ok (.iload_n 2, 1) := by decide +kernel
theorem dX5_about_17 : decode cX5_about 17 = .ok (.tableswitch 173 0 10 #[59, 66, 73, 90, 107, 114, 121, 128, 135, 151, 158], 59) := by decide +kernel
theorem dX5_about_76 : decode cX5_about 76 = .ok (.aload_n 0, 1) := by decide +kernel
theorem dX5_about_77 : decode cX5_about 77 = .ok (.getfield 72, 3) := by decide +kernel
theorem dX5_about_80 : decode cX5_about 80 = .ok (.iload_n 1, 1) := by decide +kernel
theorem dX5_about_81 : decode cX5_about 81 = .ok (.iaload, 1) := by decide +kernel
theorem dX5_about_82 : decode cX5_about 82 = .ok (.ireturn, 1) := by decide +kernel
theorem dX5_about_83 : decode cX5_about 83 = .ok (.aload_n 0, 1) := by decide +kernel
theorem dX5_about_84 : decode cX5_about 84 = .ok (.getfield 23, 3) := by decide +kernel
theorem dX5_about_87 : decode cX5_about 87 = .ok (.iload_n 1, 1) := by decide +kernel
theorem dX5_about_88 : decode cX5_about 88 = .ok (.iaload, 1) := by decide +kernel
theorem dX5_about_89 : decode cX5_about 89 = .ok (.ireturn, 1) := by decide +kernel
theorem dX5_about_90 : decode cX5_about 90 = .ok (.aload_n 0, 1) := by decide +kernel
theorem dX5_about_91 : decode cX5_about 91 = .ok (.getfield 75, 3) := by decide +kernel
theorem dX5_about_94 : decode cX5_about 94 = .ok (.iload_n 1, 1) := by decide +kernel
theorem dX5_about_95 : decode cX5_about 95 = .ok (.iaload, 1) := by decide +kernel
theorem dX5_about_96 : decode cX5_about 96 = .ok (.iconst 1, 1) := by decide +kernel
theorem dX5_about_97 : decode cX5_about 97 = .ok (.if_icmp .ne 8, 3) := by decide +kernel
theorem dX5_about_100 : decode cX5_about 100 = .ok (.bipush 8, 2) := by decide +kernel
theorem dX5_about_102 : decode cX5_about 102 = .ok (.goto 4, 3) := by decide +kernel
theorem dX5_about_105 : decode cX5_about 105 = .ok (.iconst 0, 1) := by decide +kernel
theorem dX5_about_106 : decode cX5_about 106 = .ok (.ireturn, 1) := by decide +kernel
theorem dX5_about_107 : decode cX5_about 107 = .ok (.aload_n 0, 1) := by decide +kernel
theorem dX5_about_108 : decode cX5_about 108 = .ok (.getfield 72, 3) := by decide +kernel
theorem dX5_about_111 : decode cX5_about 111 = .ok (.iload_n 1, 1) := by decide +kernel
theorem dX5_about_112 : decode cX5_about 112 = .ok (.iaload, 1) := by decide +kernel
theorem dX5_about_113 : decode cX5_about 113 = .ok (.iconst 1, 1) := by decide +kernel
theorem dX5_about_114 : decode cX5_about 114 = .ok (.if_icmp .ne 8, 3) := by decide +kernel
theorem dX5_about_117 : decode cX5_about 117 = .ok (.bipush 8, 2) := by decide +kernel
theorem dX5_about_119 : decode cX5_about 119 = .ok (.goto 4, 3) := by decide +kernel
theorem dX5_about_122 : decode cX5_about 122 = .ok (.iconst 0, 1) := by decide +kernel
theorem dX5_about_123 : decode cX5_about 123 = .ok (.ireturn, 1) := by decide +kernel
theorem dX5_about_124 : decode cX5_about 124 = .ok (.aload_n 0, 1) := by decide +kernel
theorem dX5_about_125 : decode cX5_about 125 = .ok (.getfield 27, 3) := by decide +kernel
theorem dX5_about_128 : decode cX5_about 128 = .ok (.iload_n 1, 1) := by decide +kernel
theorem dX5_about_129 : decode cX5_about 129 = .ok (.iaload, 1) := by decide +kernel
theorem dX5_about_130 : decode cX5_about 130 = .ok (.ireturn, 1) := by decide +kernel
theorem dX5_about_131 : decode cX5_about 131 = .ok (.aload_n 0, 1) := by decide +kernel
theorem dX5_about_132 : decode cX5_about 132 = .ok (.getfield 30, 3) := by decide +kernel
theorem dX5_about_135 : decode cX5_about 135 = .ok (.iload_n 1, 1) := by decide +kernel
theorem dX5_about_136 : decode cX5_about 136 = .ok (.iaload, 1) := by decide +kernel
theorem dX5_about_137 : decode cX5_about 137 = .ok (.ireturn, 1) := by decide +kernel
theorem dX5_about_138 : decode cX5_about 138 = .ok (.aload_n 0, 1) := by decide +kernel
theorem dX5_about_139 : decode cX5_about 139 = .ok (.getfield 33, 3) := by decide +kernel
theorem dX5_about_142 : decode cX5_about 142 = .ok (.iload_n 1, 1) := by decide +kernel
theorem dX5_about_143 : decode cX5_about 143 = .ok (.iaload, 1) := by decide +kernel
theorem dX5_about_144 : decode cX5_about 144 = .ok (.ireturn, 1) := by decide +kernel
theorem dX5_about_145 : decode cX5_about 145 = .ok (.aload_n 0, 1) := by decide +kernel
theorem dX5_about_146 : decode cX5_about 146 = .ok (.getfield 36, 3) := by decide +kernel
theorem dX5_about_149 : decode cX5_about 149 = .ok (.iload_n 1, 1) := by decide +kernel
theorem dX5_about_150 : decode cX5_about 150 = .ok (.iaload, 1) := by decide +kernel
theorem dX5_about_151 : decode cX5_about 151 = .ok (.ireturn, 1) := by decide +kernel
theorem dX5_about_152 : decode cX5_about 152 = .ok (.aload_n 0, 1) := by decide +kernel
theorem dX5_about_153 : decode cX5_about 153 = .ok (.getfield 75, 3) := by decide +kernel
theorem dX5_about_156 : decode cX5_about 156 = .ok (.iload_n 1, 1) := by decide +kernel
theorem dX5_about_157 : decode cX5_about 157 = .ok (.iaload, 1) := by decide +kernel
theorem dX5_about_158 : decode cX5_about 158 = .ok (.iconst 2, 1) := by decide +kernel
theorem dX5_about_159 : decode cX5_about 159 = .ok (.if_icmp .ne 7, 3) := by decide +kernel
theorem dX5_about_162 : decode cX5_about 162 = .ok (.iconst 1, 1) := by decide +kernel
theorem dX5_about_163 : decode cX5_about 163 = .ok (.goto 4, 3) := by decide +kernel
theorem dX5_about_166 : decode cX5_about 166 = .ok (.iconst 0, 1) := by decide +kernel
theorem dX5_about_167 : decode cX5_about 167 = .ok (.ireturn, 1) := by decide +kernel
theorem dX5_about_168 : decode cX5_about 168 = .ok (.aload_n 0, 1) := by decide +kernel
theorem dX5_about_169 : decode cX5_about 169 = .ok (.getfield 55, 3) := by decide +kernel
theorem dX5_about_172 : decode cX5_about 172 = .ok (.iload_n 1, 1) := by decide +kernel
theorem dX5_about_173 : decode cX5_about 173 = .ok (.iaload, 1) := by decide +kernel
theorem dX5_about_174 : decode cX5_about 174 = .ok (.ireturn, 1) := by decide +kernel
theorem dX5_about_175 : decode cX5_about 175 = .ok (.aload_n 0, 1) := by decide +kernel
theorem dX5_about_176 : decode cX5_about 176 = .ok (.getfield 39, 3) := by decide +kernel
theorem dX5_about_179 : decode cX5_about 179 = .ok (.iload_n 1, 1) := by decide +kernel
theorem dX5_about_180 : decode cX5_about 180 = .ok (.baload, 1) := by decide +kernel
theorem dX5_about_181 : decode cX5_about 181 = .ok (.ifCond .eq 7, 3) := by decide +kernel
theorem dX5_about_184 : decode cX5_about 184 = .ok (.iconst 0, 1) := by decide +kernel
theorem dX5_about_185 : decode cX5_about 185 = .ok (.goto 4, 3) := by decide +kernel
theorem dX5_about_188 : decode cX5_about 188 = .ok (.iconst 1, 1) := by decide +kernel
theorem dX5_about_189 : decode cX5_about 189 = .ok (.ireturn, 1) := by decide +kernel
theorem dX5_about_190 : decode cX5_about 190 = .ok (.bipush (-3), 2) := by decide +kernel
theorem dX5_about_192 : decode cX5_about 192 = .ok (.ireturn, 1) := by decide +kernel
theorem dX5_letter_0 : decode cX5_letter 0 = .ok (.aload_n 0, 1) := by decide +kernel
theorem dX5_letter_1 : decode cX5_letter 1 = .ok (.iconst 0, 1) := by decide +kernel
theorem dX5_letter_2 : decode cX5_letter 2 = .ok (.putfield 1, 3) := by decide +kernel
theorem dX5_letter_5 : decode cX5_letter 5 = .ok (.aload_n 0, 1) := by decide +kernel
theorem dX5_letter_6 : decode cX5_letter 6 = .ok (.iload_n 1, 1) := by decide +kernel
theorem dX5_letter_7 : decode cX5_letter 7 = .ok (.invokevirtual 81, 3) := by decide +kernel
theorem dX5_letter_10 : decode cX5_letter 10 = .ok (.ifCond .ne 6, 3) := by decide +kernel
theorem dX5_letter_13 : decode cX5_letter 13 = .ok (.bipush (-2), 2) := by decide +kernel
theorem dX5_letter_15 : decode cX5_letter 15 = .ok (.ireturn, 1) := by decide +kernel
theorem dX5_letter_16 : decode cX5_letter 16 = .ok (.iload_n 2, 1) := by decide +kernel
theorem dX5_letter_17 : decode cX5_letter 17 = .ok (.i2l, 1) := by decide +kernel
theorem dX5_letter_18 : decode cX5_letter 18 = .ok (.lconst 0, 1) := by decide +kernel
theorem dX5_letter_19 : decode cX5_letter 19 = .ok (.aload_n 0, 1) := by decide +kernel
theorem dX5_letter_20 : decode cX5_letter 20 = .ok (.getfield 23, 3) := by decide +kernel
theorem dX5_letter_23 : decode cX5_letter 23 = .ok (.iload_n 1, 1) := by decide +kernel
theorem dX5_letter_24 : decode cX5_letter 24 = .ok (.iaload, 1) := by decide +kernel
theorem dX5_letter_25 : decode cX5_letter 25 = .ok (.iconst 1, 1) := by decide +kernel
theorem dX5_letter_26 : decode cX5_letter 26 = .ok (.isub, 1) := by decide +kernel
theorem dX5_letter_27 : decode cX5_letter 27 = .ok (.i2l, 1) := by decide +kernel
theorem dX5_letter_28 : decode cX5_letter 28 = .ok (.invokestatic 13, 3) := by decide +kernel
theorem dX5_letter_31 : decode cX5_letter 31 = .ok (.ifCond .eq 17, 3) := by decide +kernel
theorem dX5_letter_34 : decode cX5_letter 34 = .ok (.aload_n 0, 1) := by decide +kernel
theorem dX5_letter_35 : decode cX5_letter 35 = .ok (.getfield 78, 3) := by decide +kernel
theorem dX5_letter_38 : decode cX5_letter 38 = .ok (.bipush 16, 2) := by decide +kernel
theorem dX5_letter_40 : decode cX5_letter 40 = .ok (.iload_n 1, 1) := by decide +kernel
theorem dX5_letter_41 : decode cX5_letter 41 = .ok (.imul, 1) := by decide +kernel
theorem dX5_letter_42 : decode cX5_letter 42 = .ok (.iload_n 2, 1) := by decide +kernel
theorem dX5_letter_43 : decode cX5_letter 43 = .ok (.iadd, 1) := by decide +kernel
theorem dX5_letter_44 : decode cX5_letter 44 = .ok (.iaload, 1) := by decide +kernel
theorem dX5_letter_45 : decode cX5_letter 45 = .ok (.goto 8, 3) := by decide +kernel
theorem dX5_letter_48 : decode cX5_letter 48 = .ok (.aload_n 0, 1) := by decide +kernel
theorem dX5_letter_49 : decode cX5_letter 49 = .ok (.iconst 3, 1) := by decide +kernel
theorem dX5_letter_50 : decode cX5_letter 50 = .ok (.invokevirtual 85, 3) := by decide +kernel
theorem dX5_letter_53 : decode cX5_letter 53 = .ok (.ireturn, 1) := by decide +kernel
theorem dX5_octet_0 : decode cX5_octet 0 = .ok (.aload_n 0, 1) := by decide +kernel
theorem dX5_octet_1 : decode cX5_octet 1 = .ok (.iconst 0, 1) := by decide +kernel
theorem dX5_octet_2 : decode cX5_octet 2 = .ok (.putfield 1, 3) := by decide +kernel
theorem dX5_octet_5 : decode cX5_octet 5 = .ok (.aload_n 0, 1) := by decide +kernel
theorem dX5_octet_6 : decode cX5_octet 6 = .ok (.iload_n 1, 1) := by decide +kernel
theorem dX5_octet_7 : decode cX5_octet 7 = .ok (.invokevirtual 81, 3) := by decide +kernel
theorem dX5_octet_10 : decode cX5_octet 10 = .ok (.ifCond .ne 6, 3) := by decide +kernel
theorem dX5_octet_13 : decode cX5_octet 13 = .ok (.bipush (-2), 2) := by decide +kernel
theorem dX5_octet_15 : decode cX5_octet 15 = .ok (.ireturn, 1) := by decide +kernel
theorem dX5_octet_16 : decode cX5_octet 16 = .ok (.aload_n 0, 1) := by decide +kernel
theorem dX5_octet_17 : decode cX5_octet 17 = .ok (.getfield 72, 3) := by decide +kernel
theorem dX5_octet_20 : decode cX5_octet 20 = .ok (.iload_n 1, 1) := by decide +kernel
theorem dX5_octet_21 : decode cX5_octet 21 = .ok (.iaload, 1) := by decide +kernel
theorem dX5_octet_22 : decode cX5_octet 22 = .ok (.iconst 2, 1) := by decide +kernel
theorem dX5_octet_23 : decode cX5_octet 23 = .ok (.if_icmp .eq 12, 3) := by decide +kernel
theorem dX5_octet_26 : decode cX5_octet 26 = .ok (.aload_n 0, 1) := by decide +kernel
theorem dX5_octet_27 : decode cX5_octet 27 = .ok (.getfield 39, 3) := by decide +kernel
theorem dX5_octet_30 : decode cX5_octet 30 = .ok (.iload_n 1, 1) := by decide +kernel
theorem dX5_octet_31 : decode cX5_octet 31 = .ok (.baload, 1) := by decide +kernel
theorem dX5_octet_32 : decode cX5_octet 32 = .ok (.ifCond .ne 23, 3) := by decide +kernel
theorem dX5_octet_35 : decode cX5_octet 35 = .ok (.aload_n 0, 1) := by decide +kernel
theorem dX5_octet_36 : decode cX5_octet 36 = .ok (.aload_n 0, 1) := by decide +kernel
theorem dX5_octet_37 : decode cX5_octet 37 = .ok (.getfield 72, 3) := by decide +kernel
theorem dX5_octet_40 : decode cX5_octet 40 = .ok (.iload_n 1, 1) := by decide +kernel
theorem dX5_octet_41 : decode cX5_octet 41 = .ok (.iaload, 1) := by decide +kernel
theorem dX5_octet_42 : decode cX5_octet 42 = .ok (.iconst 2, 1) := by decide +kernel
theorem dX5_octet_43 : decode cX5_octet 43 = .ok (.if_icmp .ne 7, 3) := by decide +kernel
theorem dX5_octet_46 : decode cX5_octet 46 = .ok (.iconst 2, 1) := by decide +kernel
theorem dX5_octet_47 : decode cX5_octet 47 = .ok (.goto 4, 3) := by decide +kernel
theorem dX5_octet_50 : decode cX5_octet 50 = .ok (.iconst 1, 1) := by decide +kernel
theorem dX5_octet_51 : decode cX5_octet 51 = .ok (.invokevirtual 85, 3) := by decide +kernel
theorem dX5_octet_54 : decode cX5_octet 54 = .ok (.ireturn, 1) := by decide +kernel
theorem dX5_octet_55 : decode cX5_octet 55 = .ok (.iload_n 2, 1) := by decide +kernel
theorem dX5_octet_56 : decode cX5_octet 56 = .ok (.i2l, 1) := by decide +kernel
theorem dX5_octet_57 : decode cX5_octet 57 = .ok (.lconst 0, 1) := by decide +kernel
theorem dX5_octet_58 : decode cX5_octet 58 = .ok (.aload_n 0, 1) := by decide +kernel
theorem dX5_octet_59 : decode cX5_octet 59 = .ok (.getfield 43, 3) := by decide +kernel
theorem dX5_octet_62 : decode cX5_octet 62 = .ok (.iload_n 1, 1) := by decide +kernel
theorem dX5_octet_63 : decode cX5_octet 63 = .ok (.iaload, 1) := by decide +kernel
theorem dX5_octet_64 : decode cX5_octet 64 = .ok (.iconst 1, 1) := by decide +kernel
theorem dX5_octet_65 : decode cX5_octet 65 = .ok (.isub, 1) := by decide +kernel
theorem dX5_octet_66 : decode cX5_octet 66 = .ok (.i2l, 1) := by decide +kernel
theorem dX5_octet_67 : decode cX5_octet 67 = .ok (.invokestatic 13, 3) := by decide +kernel
theorem dX5_octet_70 : decode cX5_octet 70 = .ok (.ifCond .eq 17, 3) := by decide +kernel
theorem dX5_octet_73 : decode cX5_octet 73 = .ok (.aload_n 0, 1) := by decide +kernel
theorem dX5_octet_74 : decode cX5_octet 74 = .ok (.getfield 89, 3) := by decide +kernel
theorem dX5_octet_77 : decode cX5_octet 77 = .ok (.bipush 40, 2) := by decide +kernel
theorem dX5_octet_79 : decode cX5_octet 79 = .ok (.iload_n 1, 1) := by decide +kernel
theorem dX5_octet_80 : decode cX5_octet 80 = .ok (.imul, 1) := by decide +kernel
theorem dX5_octet_81 : decode cX5_octet 81 = .ok (.iload_n 2, 1) := by decide +kernel
theorem dX5_octet_82 : decode cX5_octet 82 = .ok (.iadd, 1) := by decide +kernel
theorem dX5_octet_83 : decode cX5_octet 83 = .ok (.iaload, 1) := by decide +kernel
theorem dX5_octet_84 : decode cX5_octet 84 = .ok (.goto 8, 3) := by decide +kernel
theorem dX5_octet_87 : decode cX5_octet 87 = .ok (.aload_n 0, 1) := by decide +kernel
theorem dX5_octet_88 : decode cX5_octet 88 = .ok (.iconst 3, 1) := by decide +kernel
theorem dX5_octet_89 : decode cX5_octet 89 = .ok (.invokevirtual 85, 3) := by decide +kernel
theorem dX5_octet_92 : decode cX5_octet 92 = .ok (.ireturn, 1) := by decide +kernel
theorem dX5_size_0 : decode cX5_size 0 = .ok (.aload_n 0, 1) := by decide +kernel
theorem dX5_size_1 : decode cX5_size 1 = .ok (.iconst 0, 1) := by decide +kernel
theorem dX5_size_2 : decode cX5_size 2 = .ok (.putfield 1, 3) := by decide +kernel
theorem dX5_size_5 : decode cX5_size 5 = .ok (.aload_n 0, 1) := by decide +kernel
theorem dX5_size_6 : decode cX5_size 6 = .ok (.iload_n 1, 1) := by decide +kernel
theorem dX5_size_7 : decode cX5_size 7 = .ok (.invokevirtual 81, 3) := by decide +kernel
theorem dX5_size_10 : decode cX5_size 10 = .ok (.ifCond .ne 7, 3) := by decide +kernel
theorem dX5_size_13 : decode cX5_size 13 = .ok (.ldc2_w 295, 3) := by decide +kernel
theorem dX5_size_16 : decode cX5_size 16 = .ok (.lreturn, 1) := by decide +kernel
theorem dX5_size_17 : decode cX5_size 17 = .ok (.iload_n 2, 1) := by decide +kernel
theorem dX5_size_18 : decode cX5_size 18 = .ok (.i2l, 1) := by decide +kernel
theorem dX5_size_19 : decode cX5_size 19 = .ok (.lconst 0, 1) := by decide +kernel
theorem dX5_size_20 : decode cX5_size 20 = .ok (.ldc2_w 58, 3) := by decide +kernel
theorem dX5_size_23 : decode cX5_size 23 = .ok (.invokestatic 13, 3) := by decide +kernel
theorem dX5_size_26 : decode cX5_size 26 = .ok (.ifCond .ne 7, 3) := by decide +kernel
theorem dX5_size_29 : decode cX5_size 29 = .ok (.ldc2_w 297, 3) := by decide +kernel
theorem dX5_size_32 : decode cX5_size 32 = .ok (.lreturn, 1) := by decide +kernel
theorem dX5_size_33 : decode cX5_size 33 = .ok (.aload_n 0, 1) := by decide +kernel
theorem dX5_size_34 : decode cX5_size 34 = .ok (.getfield 72, 3) := by decide +kernel
theorem dX5_size_37 : decode cX5_size 37 = .ok (.iload_n 1, 1) := by decide +kernel
theorem dX5_size_38 : decode cX5_size 38 = .ok (.iaload, 1) := by decide +kernel
theorem dX5_size_39 : decode cX5_size 39 = .ok (.iconst 2, 1) := by decide +kernel
theorem dX5_size_40 : decode cX5_size 40 = .ok (.if_icmp .ne 10, 3) := by decide +kernel
theorem dX5_size_43 : decode cX5_size 43 = .ok (.aload_n 0, 1) := by decide +kernel
theorem dX5_size_44 : decode cX5_size 44 = .ok (.iconst 2, 1) := by decide +kernel
theorem dX5_size_45 : decode cX5_size 45 = .ok (.invokevirtual 85, 3) := by decide +kernel
theorem dX5_size_48 : decode cX5_size 48 = .ok (.i2l, 1) := by decide +kernel
theorem dX5_size_49 : decode cX5_size 49 = .ok (.lreturn, 1) := by decide +kernel
theorem dX5_size_50 : decode cX5_size 50 = .ok (.aload_n 0, 1) := by decide +kernel
theorem dX5_size_51 : decode cX5_size 51 = .ok (.getfield 39, 3) := by decide +kernel
theorem dX5_size_54 : decode cX5_size 54 = .ok (.iload_n 1, 1) := by decide +kernel
theorem dX5_size_55 : decode cX5_size 55 = .ok (.baload, 1) := by decide +kernel
theorem dX5_size_56 : decode cX5_size 56 = .ok (.ifCond .ne 24, 3) := by decide +kernel
theorem dX5_size_59 : decode cX5_size 59 = .ok (.iload_n 2, 1) := by decide +kernel
theorem dX5_size_60 : decode cX5_size 60 = .ok (.ifCond .eq 13, 3) := by decide +kernel
theorem dX5_size_63 : decode cX5_size 63 = .ok (.aload_n 0, 1) := by decide +kernel
theorem dX5_size_64 : decode cX5_size 64 = .ok (.getfield 72, 3) := by decide +kernel
theorem dX5_size_67 : decode cX5_size 67 = .ok (.iload_n 1, 1) := by decide +kernel
theorem dX5_size_68 : decode cX5_size 68 = .ok (.iaload, 1) := by decide +kernel
theorem dX5_size_69 : decode cX5_size 69 = .ok (.iconst 1, 1) := by decide +kernel
theorem dX5_size_70 : decode cX5_size 70 = .ok (.if_icmp .eq 10, 3) := by decide +kernel
theorem dX5_size_73 : decode cX5_size 73 = .ok (.aload_n 0, 1) := by decide +kernel
theorem dX5_size_74 : decode cX5_size 74 = .ok (.iconst 1, 1) := by decide +kernel
theorem dX5_size_75 : decode cX5_size 75 = .ok (.invokevirtual 85, 3) := by decide +kernel
theorem dX5_size_78 : decode cX5_size 78 = .ok (.i2l, 1) := by decide +kernel
theorem dX5_size_79 : decode cX5_size 79 = .ok (.lreturn, 1) := by decide +kernel
theorem dX5_size_80 : decode cX5_size 80 = .ok (.iload_n 2, 1) := by decide +kernel
theorem dX5_size_81 : decode cX5_size 81 = .ok (.ifCond .ne 13, 3) := by decide +kernel
theorem dX5_size_84 : decode cX5_size 84 = .ok (.aload_n 0, 1) := by decide +kernel
theorem dX5_size_85 : decode cX5_size 85 = .ok (.getfield 43, 3) := by decide +kernel
theorem dX5_size_88 : decode cX5_size 88 = .ok (.iload_n 1, 1) := by decide +kernel
theorem dX5_size_89 : decode cX5_size 89 = .ok (.iaload, 1) := by decide +kernel
theorem dX5_size_90 : decode cX5_size 90 = .ok (.i2l, 1) := by decide +kernel
theorem dX5_size_91 : decode cX5_size 91 = .ok (.goto 27, 3) := by decide +kernel
theorem dX5_size_94 : decode cX5_size 94 = .ok (.iload_n 2, 1) := by decide +kernel
theorem dX5_size_95 : decode cX5_size 95 = .ok (.iconst 1, 1) := by decide +kernel
theorem dX5_size_96 : decode cX5_size 96 = .ok (.if_icmp .ne 12, 3) := by decide +kernel
theorem dX5_size_99 : decode cX5_size 99 = .ok (.aload_n 0, 1) := by decide +kernel
theorem dX5_size_100 : decode cX5_size 100 = .ok (.iload_n 1, 1) := by decide +kernel
theorem dX5_size_101 : decode cX5_size 101 = .ok (.invokevirtual 137, 3) := by decide +kernel
theorem dX5_size_104 : decode cX5_size 104 = .ok (.i2l, 1) := by decide +kernel
theorem dX5_size_105 : decode cX5_size 105 = .ok (.goto 13, 3) := by decide +kernel
theorem dX5_size_108 : decode cX5_size 108 = .ok (.aload_n 0, 1) := by decide +kernel
theorem dX5_size_109 : decode cX5_size 109 = .ok (.iload_n 1, 1) := by decide +kernel
theorem dX5_size_110 : decode cX5_size 110 = .ok (.invokevirtual 144, 3) := by decide +kernel
theorem dX5_size_113 : decode cX5_size 113 = .ok (.i2l, 1) := by decide +kernel
theorem dX5_size_114 : decode cX5_size 114 = .ok (.ldc2_w 147, 3) := by decide +kernel
theorem dX5_size_117 : decode cX5_size 117 = .ok (.land, 1) := by decide +kernel
theorem dX5_size_118 : decode cX5_size 118 = .ok (.lreturn, 1) := by decide +kernel
theorem dX5_extra_0 : decode cX5_extra 0 = .ok (.aload_n 0, 1) := by decide +kernel
theorem dX5_extra_1 : decode cX5_extra 1 = .ok (.iconst 0, 1) := by decide +kernel
theorem dX5_extra_2 : decode cX5_extra 2 = .ok (.putfield 1, 3) := by decide +kernel
theorem dX5_extra_5 : decode cX5_extra 5 = .ok (.aload_n 0, 1) := by decide +kernel
theorem dX5_extra_6 : decode cX5_extra 6 = .ok (.iload_n 1, 1) := by decide +kernel
theorem dX5_extra_7 : decode cX5_extra 7 = .ok (.invokevirtual 81, 3) := by decide +kernel
theorem dX5_extra_10 : decode cX5_extra 10 = .ok (.ifCond .eq 21, 3) := by decide +kernel
theorem dX5_extra_13 : decode cX5_extra 13 = .ok (.iload_n 2, 1) := by decide +kernel
theorem dX5_extra_14 : decode cX5_extra 14 = .ok (.i2l, 1) := by decide +kernel
theorem dX5_extra_15 : decode cX5_extra 15 = .ok (.lconst 0, 1) := by decide +kernel
theorem dX5_extra_16 : decode cX5_extra 16 = .ok (.aload_n 0, 1) := by decide +kernel
theorem dX5_extra_17 : decode cX5_extra 17 = .ok (.getfield 36, 3) := by decide +kernel
theorem dX5_extra_20 : decode cX5_extra 20 = .ok (.iload_n 1, 1) := by decide +kernel
theorem dX5_extra_21 : decode cX5_extra 21 = .ok (.iaload, 1) := by decide +kernel
theorem dX5_extra_22 : decode cX5_extra 22 = .ok (.iconst 1, 1) := by decide +kernel
theorem dX5_extra_23 : decode cX5_extra 23 = .ok (.isub, 1) := by decide +kernel
theorem dX5_extra_24 : decode cX5_extra 24 = .ok (.i2l, 1) := by decide +kernel
theorem dX5_extra_25 : decode cX5_extra 25 = .ok (.invokestatic 13, 3) := by decide +kernel
theorem dX5_extra_28 : decode cX5_extra 28 = .ok (.ifCond .ne 6, 3) := by decide +kernel
theorem dX5_extra_31 : decode cX5_extra 31 = .ok (.bipush (-2), 2) := by decide +kernel
theorem dX5_extra_33 : decode cX5_extra 33 = .ok (.ireturn, 1) := by decide +kernel
theorem dX5_extra_34 : decode cX5_extra 34 = .ok (.iload_n 3, 1) := by decide +kernel
theorem dX5_extra_35 : decode cX5_extra 35 = .ok (.i2l, 1) := by decide +kernel
theorem dX5_extra_36 : decode cX5_extra 36 = .ok (.lconst 0, 1) := by decide +kernel
theorem dX5_extra_37 : decode cX5_extra 37 = .ok (.ldc2_w 58, 3) := by decide +kernel
theorem dX5_extra_40 : decode cX5_extra 40 = .ok (.invokestatic 13, 3) := by decide +kernel
theorem dX5_extra_43 : decode cX5_extra 43 = .ok (.ifCond .ne 6, 3) := by decide +kernel
theorem dX5_extra_46 : decode cX5_extra 46 = .ok (.bipush (-3), 2) := by decide +kernel
theorem dX5_extra_48 : decode cX5_extra 48 = .ok (.ireturn, 1) := by decide +kernel
theorem dX5_extra_49 : decode cX5_extra 49 = .ok (.iconst 3, 1) := by decide +kernel
theorem dX5_extra_50 : decode cX5_extra 50 = .ok (.iload_n 1, 1) := by decide +kernel
theorem dX5_extra_51 : decode cX5_extra 51 = .ok (.imul, 1) := by decide +kernel
theorem dX5_extra_52 : decode cX5_extra 52 = .ok (.iload_n 2, 1) := by decide +kernel
theorem dX5_extra_53 : decode cX5_extra 53 = .ok (.iadd, 1) := by decide +kernel
theorem dX5_extra_54 : decode cX5_extra 54 = .ok (.istore 5, 2) := by decide +kernel
theorem dX5_extra_56 : decode cX5_extra 56 = .ok (.iload_n 3, 1) := by decide +kernel
theorem dX5_extra_57 : decode cX5_extra 57 = .ok (.iconst 2, 1) := by decide +kernel
theorem dX5_extra_58 : decode cX5_extra 58 = .ok (.if_icmp .ge 25, 3) := by decide +kernel
theorem dX5_extra_61 : decode cX5_extra 61 = .ok (.iload_n 3, 1) := by decide +kernel
theorem dX5_extra_62 : decode cX5_extra 62 = .ok (.ifCond .ne 13, 3) := by decide +kernel
theorem dX5_extra_65 : decode cX5_extra 65 = .ok (.aload_n 0, 1) := by decide +kernel
theorem dX5_extra_66 : decode cX5_extra 66 = .ok (.getfield 96, 3) := by decide +kernel
theorem dX5_extra_69 : decode cX5_extra 69 = .ok (.iload 5, 2) := by decide +kernel
theorem dX5_extra_71 : decode cX5_extra 71 = .ok (.iaload, 1) := by decide +kernel
theorem dX5_extra_72 : decode cX5_extra 72 = .ok (.goto 10, 3) := by decide +kernel
theorem dX5_extra_75 : decode cX5_extra 75 = .ok (.aload_n 0, 1) := by decide +kernel
theorem dX5_extra_76 : decode cX5_extra 76 = .ok (.getfield 99, 3) := by decide +kernel
theorem dX5_extra_79 : decode cX5_extra 79 = .ok (.iload 5, 2) := by decide +kernel
theorem dX5_extra_81 : decode cX5_extra 81 = .ok (.iaload, 1) := by decide +kernel
theorem dX5_extra_82 : decode cX5_extra 82 = .ok (.ireturn, 1) := by decide +kernel
theorem dX5_extra_83 : decode cX5_extra 83 = .ok (.iload 4, 2) := by decide +kernel
theorem dX5_extra_85 : decode cX5_extra 85 = .ok (.i2l, 1) := by decide +kernel
theorem dX5_extra_86 : decode cX5_extra 86 = .ok (.lconst 0, 1) := by decide +kernel
theorem dX5_extra_87 : decode cX5_extra 87 = .ok (.aload_n 0, 1) := by decide +kernel
theorem dX5_extra_88 : decode cX5_extra 88 = .ok (.getfield 99, 3) := by decide +kernel
theorem dX5_extra_91 : decode cX5_extra 91 = .ok (.iload 5, 2) := by decide +kernel
theorem dX5_extra_93 : decode cX5_extra 93 = .ok (.iaload, 1) := by decide +kernel
theorem dX5_extra_94 : decode cX5_extra 94 = .ok (.iconst 1, 1) := by decide +kernel
theorem dX5_extra_95 : decode cX5_extra 95 = .ok (.isub, 1) := by decide +kernel
theorem dX5_extra_96 : decode cX5_extra 96 = .ok (.i2l, 1) := by decide +kernel
theorem dX5_extra_97 : decode cX5_extra 97 = .ok (.invokestatic 13, 3) := by decide +kernel
theorem dX5_extra_100 : decode cX5_extra 100 = .ok (.ifCond .eq 19, 3) := by decide +kernel
theorem dX5_extra_103 : decode cX5_extra 103 = .ok (.aload_n 0, 1) := by decide +kernel
theorem dX5_extra_104 : decode cX5_extra 104 = .ok (.getfield 102, 3) := by decide +kernel
theorem dX5_extra_107 : decode cX5_extra 107 = .ok (.bipush 8, 2) := by decide +kernel
theorem dX5_extra_109 : decode cX5_extra 109 = .ok (.iload 5, 2) := by decide +kernel
theorem dX5_extra_111 : decode cX5_extra 111 = .ok (.imul, 1) := by decide +kernel
theorem dX5_extra_112 : decode cX5_extra 112 = .ok (.iload 4, 2) := by decide +kernel
theorem dX5_extra_114 : decode cX5_extra 114 = .ok (.iadd, 1) := by decide +kernel
theorem dX5_extra_115 : decode cX5_extra 115 = .ok (.iaload, 1) := by decide +kernel
theorem dX5_extra_116 : decode cX5_extra 116 = .ok (.goto 8, 3) := by decide +kernel
theorem dX5_extra_119 : decode cX5_extra 119 = .ok (.aload_n 0, 1) := by decide +kernel
theorem dX5_extra_120 : decode cX5_extra 120 = .ok (.iconst 3, 1) := by decide +kernel
theorem dX5_extra_121 : decode cX5_extra 121 = .ok (.invokevirtual 85, 3) := by decide +kernel
theorem dX5_extra_124 : decode cX5_extra 124 = .ok (.ireturn, 1) := by decide +kernel
theorem dX5_right_0 : decode cX5_right 0 = .ok (.aload_n 0, 1) := by decide +kernel
theorem dX5_right_1 : decode cX5_right 1 = .ok (.iconst 0, 1) := by decide +kernel
theorem dX5_right_2 : decode cX5_right 2 = .ok (.putfield 1, 3) := by decide +kernel
theorem dX5_right_5 : decode cX5_right 5 = .ok (.aload_n 0, 1) := by decide +kernel
theorem dX5_right_6 : decode cX5_right 6 = .ok (.iload_n 1, 1) := by decide +kernel
theorem dX5_right_7 : decode cX5_right 7 = .ok (.invokevirtual 81, 3) := by decide +kernel
theorem dX5_right_10 : decode cX5_right 10 = .ok (.ifCond .ne 6, 3) := by decide +kernel
theorem dX5_right_13 : decode cX5_right 13 = .ok (.bipush (-2), 2) := by decide +kernel
theorem dX5_right_15 : decode cX5_right 15 = .ok (.ireturn, 1) := by decide +kernel
theorem dX5_right_16 : decode cX5_right 16 = .ok (.aload_n 0, 1) := by decide +kernel
theorem dX5_right_17 : decode cX5_right 17 = .ok (.getfield 72, 3) := by decide +kernel
theorem dX5_right_20 : decode cX5_right 20 = .ok (.iload_n 1, 1) := by decide +kernel
theorem dX5_right_21 : decode cX5_right 21 = .ok (.iaload, 1) := by decide +kernel
theorem dX5_right_22 : decode cX5_right 22 = .ok (.iconst 1, 1) := by decide +kernel
theorem dX5_right_23 : decode cX5_right 23 = .ok (.if_icmp .ne 6, 3) := by decide +kernel
theorem dX5_right_26 : decode cX5_right 26 = .ok (.bipush (-4), 2) := by decide +kernel
theorem dX5_right_28 : decode cX5_right 28 = .ok (.ireturn, 1) := by decide +kernel
theorem dX5_right_29 : decode cX5_right 29 = .ok (.aload_n 0, 1) := by decide +kernel
theorem dX5_right_30 : decode cX5_right 30 = .ok (.getfield 72, 3) := by decide +kernel
theorem dX5_right_33 : decode cX5_right 33 = .ok (.iload_n 1, 1) := by decide +kernel
theorem dX5_right_34 : decode cX5_right 34 = .ok (.iaload, 1) := by decide +kernel
theorem dX5_right_35 : decode cX5_right 35 = .ok (.iconst 2, 1) := by decide +kernel
theorem dX5_right_36 : decode cX5_right 36 = .ok (.if_icmp .eq 12, 3) := by decide +kernel
theorem dX5_right_39 : decode cX5_right 39 = .ok (.aload_n 0, 1) := by decide +kernel
theorem dX5_right_40 : decode cX5_right 40 = .ok (.getfield 39, 3) := by decide +kernel
theorem dX5_right_43 : decode cX5_right 43 = .ok (.iload_n 1, 1) := by decide +kernel
theorem dX5_right_44 : decode cX5_right 44 = .ok (.baload, 1) := by decide +kernel
theorem dX5_right_45 : decode cX5_right 45 = .ok (.ifCond .ne 23, 3) := by decide +kernel
theorem dX5_right_48 : decode cX5_right 48 = .ok (.aload_n 0, 1) := by decide +kernel
theorem dX5_right_49 : decode cX5_right 49 = .ok (.aload_n 0, 1) := by decide +kernel
theorem dX5_right_50 : decode cX5_right 50 = .ok (.getfield 72, 3) := by decide +kernel
theorem dX5_right_53 : decode cX5_right 53 = .ok (.iload_n 1, 1) := by decide +kernel
theorem dX5_right_54 : decode cX5_right 54 = .ok (.iaload, 1) := by decide +kernel
theorem dX5_right_55 : decode cX5_right 55 = .ok (.iconst 2, 1) := by decide +kernel
theorem dX5_right_56 : decode cX5_right 56 = .ok (.if_icmp .ne 7, 3) := by decide +kernel
theorem dX5_right_59 : decode cX5_right 59 = .ok (.iconst 2, 1) := by decide +kernel
theorem dX5_right_60 : decode cX5_right 60 = .ok (.goto 4, 3) := by decide +kernel
theorem dX5_right_63 : decode cX5_right 63 = .ok (.iconst 1, 1) := by decide +kernel
theorem dX5_right_64 : decode cX5_right 64 = .ok (.invokevirtual 85, 3) := by decide +kernel
theorem dX5_right_67 : decode cX5_right 67 = .ok (.ireturn, 1) := by decide +kernel
theorem dX5_right_68 : decode cX5_right 68 = .ok (.aload_n 0, 1) := by decide +kernel
theorem dX5_right_69 : decode cX5_right 69 = .ok (.iload_n 1, 1) := by decide +kernel
theorem dX5_right_70 : decode cX5_right 70 = .ok (.invokevirtual 144, 3) := by decide +kernel
theorem dX5_right_73 : decode cX5_right 73 = .ok (.aload_n 0, 1) := by decide +kernel
theorem dX5_right_74 : decode cX5_right 74 = .ok (.iload_n 1, 1) := by decide +kernel
theorem dX5_right_75 : decode cX5_right 75 = .ok (.invokevirtual 122, 3) := by decide +kernel
theorem dX5_right_78 : decode cX5_right 78 = .ok (.if_icmp .ne 7, 3) := by decide +kernel
theorem dX5_right_81 : decode cX5_right 81 = .ok (.iconst 1, 1) := by decide +kernel
theorem dX5_right_82 : decode cX5_right 82 = .ok (.goto 4, 3) := by decide +kernel
theorem dX5_right_85 : decode cX5_right 85 = .ok (.iconst 0, 1) := by decide +kernel
theorem dX5_right_86 : decode cX5_right 86 = .ok (.ireturn, 1) := by decide +kernel
theorem dX5_same_0 : decode cX5_same 0 = .ok (.aload_n 0, 1) := by decide +kernel
theorem dX5_same_1 : decode cX5_same 1 = .ok (.iconst 0, 1) := by decide +kernel
theorem dX5_same_2 : decode cX5_same 2 = .ok (.putfield 1, 3) := by decide +kernel
theorem dX5_same_5 : decode cX5_same 5 = .ok (.aload_n 0, 1) := by decide +kernel
theorem dX5_same_6 : decode cX5_same 6 = .ok (.iload_n 1, 1) := by decide +kernel
theorem dX5_same_7 : decode cX5_same 7 = .ok (.invokevirtual 81, 3) := by decide +kernel
theorem dX5_same_10 : decode cX5_same 10 = .ok (.ifCond .ne 6, 3) := by decide +kernel
theorem dX5_same_13 : decode cX5_same 13 = .ok (.bipush (-2), 2) := by decide +kernel
theorem dX5_same_15 : decode cX5_same 15 = .ok (.ireturn, 1) := by decide +kernel
theorem dX5_same_16 : decode cX5_same 16 = .ok (.iconst 0, 1) := by decide +kernel
theorem dX5_same_17 : decode cX5_same 17 = .ok (.istore_n 2, 1) := by decide +kernel
theorem dX5_same_18 : decode cX5_same 18 = .ok (.iconst 0, 1) := by decide +kernel
theorem dX5_same_19 : decode cX5_same 19 = .ok (.istore_n 3, 1) := by decide +kernel
theorem dX5_same_20 : decode cX5_same 20 = .ok (.iload_n 3, 1) := by decide +kernel
theorem dX5_same_21 : decode cX5_same 21 = .ok (.ifCond .ne 96, 3) := by decide +kernel
theorem dX5_same_24 : decode cX5_same 24 = .ok (.aload_n 0, 1) := by decide +kernel
theorem dX5_same_25 : decode cX5_same 25 = .ok (.getfield 23, 3) := by decide +kernel
theorem dX5_same_28 : decode cX5_same 28 = .ok (.iload_n 2, 1) := by decide +kernel
theorem dX5_same_29 : decode cX5_same 29 = .ok (.iaload, 1) := by decide +kernel
theorem dX5_same_30 : decode cX5_same 30 = .ok (.aload_n 0, 1) := by decide +kernel
theorem dX5_same_31 : decode cX5_same 31 = .ok (.getfield 23, 3) := by decide +kernel
theorem dX5_same_34 : decode cX5_same 34 = .ok (.iload_n 1, 1) := by decide +kernel
theorem dX5_same_35 : decode cX5_same 35 = .ok (.iaload, 1) := by decide +kernel
theorem dX5_same_36 : decode cX5_same 36 = .ok (.if_icmp .ne 7, 3) := by decide +kernel
theorem dX5_same_39 : decode cX5_same 39 = .ok (.iconst 1, 1) := by decide +kernel
theorem dX5_same_40 : decode cX5_same 40 = .ok (.goto 4, 3) := by decide +kernel
theorem dX5_same_43 : decode cX5_same 43 = .ok (.iconst 0, 1) := by decide +kernel
theorem dX5_same_44 : decode cX5_same 44 = .ok (.istore_n 3, 1) := by decide +kernel
theorem dX5_same_45 : decode cX5_same 45 = .ok (.iconst 0, 1) := by decide +kernel
theorem dX5_same_46 : decode cX5_same 46 = .ok (.istore 4, 2) := by decide +kernel
theorem dX5_same_48 : decode cX5_same 48 = .ok (.iload 4, 2) := by decide +kernel
theorem dX5_same_50 : decode cX5_same 50 = .ok (.aload_n 0, 1) := by decide +kernel
theorem dX5_same_51 : decode cX5_same 51 = .ok (.getfield 23, 3) := by decide +kernel
theorem dX5_same_54 : decode cX5_same 54 = .ok (.iload_n 1, 1) := by decide +kernel
theorem dX5_same_55 : decode cX5_same 55 = .ok (.iaload, 1) := by decide +kernel
theorem dX5_same_56 : decode cX5_same 56 = .ok (.if_icmp .ge 46, 3) := by decide +kernel
theorem dX5_same_59 : decode cX5_same 59 = .ok (.iload_n 3, 1) := by decide +kernel
theorem dX5_same_60 : decode cX5_same 60 = .ok (.ifCond .eq 42, 3) := by decide +kernel
theorem dX5_same_63 : decode cX5_same 63 = .ok (.aload_n 0, 1) := by decide +kernel
theorem dX5_same_64 : decode cX5_same 64 = .ok (.getfield 78, 3) := by decide +kernel
theorem dX5_same_67 : decode cX5_same 67 = .ok (.bipush 16, 2) := by decide +kernel
theorem dX5_same_69 : decode cX5_same 69 = .ok (.iload_n 2, 1) := by decide +kernel
theorem dX5_same_70 : decode cX5_same 70 = .ok (.imul, 1) := by decide +kernel
theorem dX5_same_71 : decode cX5_same 71 = .ok (.iload 4, 2) := by decide +kernel
theorem dX5_same_73 : decode cX5_same 73 = .ok (.iadd, 1) := by decide +kernel
theorem dX5_same_74 : decode cX5_same 74 = .ok (.iaload, 1) := by decide +kernel
theorem dX5_same_75 : decode cX5_same 75 = .ok (.aload_n 0, 1) := by decide +kernel
theorem dX5_same_76 : decode cX5_same 76 = .ok (.getfield 78, 3) := by decide +kernel
theorem dX5_same_79 : decode cX5_same 79 = .ok (.bipush 16, 2) := by decide +kernel
theorem dX5_same_81 : decode cX5_same 81 = .ok (.iload_n 1, 1) := by decide +kernel
theorem dX5_same_82 : decode cX5_same 82 = .ok (.imul, 1) := by decide +kernel
theorem dX5_same_83 : decode cX5_same 83 = .ok (.iload 4, 2) := by decide +kernel
theorem dX5_same_85 : decode cX5_same 85 = .ok (.iadd, 1) := by decide +kernel
theorem dX5_same_86 : decode cX5_same 86 = .ok (.iaload, 1) := by decide +kernel
theorem dX5_same_87 : decode cX5_same 87 = .ok (.if_icmp .ne 7, 3) := by decide +kernel
theorem dX5_same_90 : decode cX5_same 90 = .ok (.iconst 1, 1) := by decide +kernel
theorem dX5_same_91 : decode cX5_same 91 = .ok (.goto 4, 3) := by decide +kernel
theorem dX5_same_94 : decode cX5_same 94 = .ok (.iconst 0, 1) := by decide +kernel
theorem dX5_same_95 : decode cX5_same 95 = .ok (.istore_n 3, 1) := by decide +kernel
theorem dX5_same_96 : decode cX5_same 96 = .ok (.iinc 4 1, 3) := by decide +kernel
theorem dX5_same_99 : decode cX5_same 99 = .ok (.goto (-51), 3) := by decide +kernel
theorem dX5_same_102 : decode cX5_same 102 = .ok (.iload_n 2, 1) := by decide +kernel
theorem dX5_same_103 : decode cX5_same 103 = .ok (.iload_n 3, 1) := by decide +kernel
theorem dX5_same_104 : decode cX5_same 104 = .ok (.ifCond .eq 7, 3) := by decide +kernel
theorem dX5_same_107 : decode cX5_same 107 = .ok (.iconst 0, 1) := by decide +kernel
theorem dX5_same_108 : decode cX5_same 108 = .ok (.goto 4, 3) := by decide +kernel
theorem dX5_same_111 : decode cX5_same 111 = .ok (.iconst 1, 1) := by decide +kernel
theorem dX5_same_112 : decode cX5_same 112 = .ok (.iadd, 1) := by decide +kernel
theorem dX5_same_113 : decode cX5_same 113 = .ok (.istore_n 2, 1) := by decide +kernel
theorem dX5_same_114 : decode cX5_same 114 = .ok (.goto (-94), 3) := by decide +kernel
theorem dX5_same_117 : decode cX5_same 117 = .ok (.iload_n 2, 1) := by decide +kernel
theorem dX5_same_118 : decode cX5_same 118 = .ok (.ireturn, 1) := by decide +kernel
theorem dX5_told_0 : decode cX5_told 0 = .ok (.aload_n 0, 1) := by decide +kernel
theorem dX5_told_1 : decode cX5_told 1 = .ok (.iconst 0, 1) := by decide +kernel
theorem dX5_told_2 : decode cX5_told 2 = .ok (.putfield 1, 3) := by decide +kernel
theorem dX5_told_5 : decode cX5_told 5 = .ok (.iload_n 1, 1) := by decide +kernel
theorem dX5_told_6 : decode cX5_told 6 = .ok (.ifCond .ne 10, 3) := by decide +kernel
theorem dX5_told_9 : decode cX5_told 9 = .ok (.aload_n 0, 1) := by decide +kernel
theorem dX5_told_10 : decode cX5_told 10 = .ok (.getfield 10, 3) := by decide +kernel
theorem dX5_told_13 : decode cX5_told 13 = .ok (.goto 41, 3) := by decide +kernel
theorem dX5_told_16 : decode cX5_told 16 = .ok (.iload_n 1, 1) := by decide +kernel
theorem dX5_told_17 : decode cX5_told 17 = .ok (.iconst 1, 1) := by decide +kernel
theorem dX5_told_18 : decode cX5_told 18 = .ok (.if_icmp .ne 10, 3) := by decide +kernel
theorem dX5_told_21 : decode cX5_told 21 = .ok (.aload_n 0, 1) := by decide +kernel
theorem dX5_told_22 : decode cX5_told 22 = .ok (.getfield 180, 3) := by decide +kernel
theorem dX5_told_25 : decode cX5_told 25 = .ok (.goto 29, 3) := by decide +kernel
theorem dX5_told_28 : decode cX5_told 28 = .ok (.iload_n 1, 1) := by decide +kernel
theorem dX5_told_29 : decode cX5_told 29 = .ok (.iconst 2, 1) := by decide +kernel
theorem dX5_told_30 : decode cX5_told 30 = .ok (.if_icmp .ne 10, 3) := by decide +kernel
theorem dX5_told_33 : decode cX5_told 33 = .ok (.aload_n 0, 1) := by decide +kernel
theorem dX5_told_34 : decode cX5_told 34 = .ok (.getfield 118, 3) := by decide +kernel
theorem dX5_told_37 : decode cX5_told 37 = .ok (.goto 17, 3) := by decide +kernel
theorem dX5_told_40 : decode cX5_told 40 = .ok (.iload_n 1, 1) := by decide +kernel
theorem dX5_told_41 : decode cX5_told 41 = .ok (.iconst 3, 1) := by decide +kernel
theorem dX5_told_42 : decode cX5_told 42 = .ok (.if_icmp .ne 10, 3) := by decide +kernel
theorem dX5_told_45 : decode cX5_told 45 = .ok (.aload_n 0, 1) := by decide +kernel
theorem dX5_told_46 : decode cX5_told 46 = .ok (.getfield 7, 3) := by decide +kernel
theorem dX5_told_49 : decode cX5_told 49 = .ok (.goto 5, 3) := by decide +kernel
theorem dX5_told_52 : decode cX5_told 52 = .ok (.bipush (-3), 2) := by decide +kernel
theorem dX5_told_54 : decode cX5_told 54 = .ok (.ireturn, 1) := by decide +kernel
theorem dX5_init_0 : decode cX5_init 0 = .ok (.aload_n 0, 1) := by decide +kernel
theorem dX5_init_1 : decode cX5_init 1 = .ok (.invokespecial 299, 3) := by decide +kernel
theorem dX5_init_4 : decode cX5_init 4 = .ok (.aload_n 0, 1) := by decide +kernel
theorem dX5_init_5 : decode cX5_init 5 = .ok (.bipush 12, 2) := by decide +kernel
theorem dX5_init_7 : decode cX5_init 7 = .ok (.newarray .int, 2) := by decide +kernel
theorem dX5_init_9 : decode cX5_init 9 = .ok (.putfield 72, 3) := by decide +kernel
theorem dX5_init_12 : decode cX5_init 12 = .ok (.aload_n 0, 1) := by decide +kernel
theorem dX5_init_13 : decode cX5_init 13 = .ok (.bipush 12, 2) := by decide +kernel
theorem dX5_init_15 : decode cX5_init 15 = .ok (.newarray .int, 2) := by decide +kernel
theorem dX5_init_17 : decode cX5_init 17 = .ok (.putfield 75, 3) := by decide +kernel
theorem dX5_init_20 : decode cX5_init 20 = .ok (.aload_n 0, 1) := by decide +kernel
theorem dX5_init_21 : decode cX5_init 21 = .ok (.sipush 192, 3) := by decide +kernel
theorem dX5_init_24 : decode cX5_init 24 = .ok (.newarray .int, 2) := by decide +kernel
theorem dX5_init_26 : decode cX5_init 26 = .ok (.putfield 78, 3) := by decide +kernel
theorem dX5_init_29 : decode cX5_init 29 = .ok (.aload_n 0, 1) := by decide +kernel
theorem dX5_init_30 : decode cX5_init 30 = .ok (.bipush 12, 2) := by decide +kernel
theorem dX5_init_32 : decode cX5_init 32 = .ok (.newarray .int, 2) := by decide +kernel
theorem dX5_init_34 : decode cX5_init 34 = .ok (.putfield 23, 3) := by decide +kernel
theorem dX5_init_37 : decode cX5_init 37 = .ok (.aload_n 0, 1) := by decide +kernel
theorem dX5_init_38 : decode cX5_init 38 = .ok (.bipush 12, 2) := by decide +kernel
theorem dX5_init_40 : decode cX5_init 40 = .ok (.newarray .int, 2) := by decide +kernel
theorem dX5_init_42 : decode cX5_init 42 = .ok (.putfield 27, 3) := by decide +kernel
theorem dX5_init_45 : decode cX5_init 45 = .ok (.aload_n 0, 1) := by decide +kernel
theorem dX5_init_46 : decode cX5_init 46 = .ok (.bipush 12, 2) := by decide +kernel
theorem dX5_init_48 : decode cX5_init 48 = .ok (.newarray .int, 2) := by decide +kernel
theorem dX5_init_50 : decode cX5_init 50 = .ok (.putfield 30, 3) := by decide +kernel
theorem dX5_init_53 : decode cX5_init 53 = .ok (.aload_n 0, 1) := by decide +kernel
theorem dX5_init_54 : decode cX5_init 54 = .ok (.bipush 12, 2) := by decide +kernel
theorem dX5_init_56 : decode cX5_init 56 = .ok (.newarray .int, 2) := by decide +kernel
theorem dX5_init_58 : decode cX5_init 58 = .ok (.putfield 33, 3) := by decide +kernel
theorem dX5_init_61 : decode cX5_init 61 = .ok (.aload_n 0, 1) := by decide +kernel
theorem dX5_init_62 : decode cX5_init 62 = .ok (.bipush 12, 2) := by decide +kernel
theorem dX5_init_64 : decode cX5_init 64 = .ok (.newarray .int, 2) := by decide +kernel
theorem dX5_init_66 : decode cX5_init 66 = .ok (.putfield 36, 3) := by decide +kernel
theorem dX5_init_69 : decode cX5_init 69 = .ok (.aload_n 0, 1) := by decide +kernel
theorem dX5_init_70 : decode cX5_init 70 = .ok (.bipush 36, 2) := by decide +kernel
theorem dX5_init_72 : decode cX5_init 72 = .ok (.newarray .int, 2) := by decide +kernel
theorem dX5_init_74 : decode cX5_init 74 = .ok (.putfield 96, 3) := by decide +kernel
theorem dX5_init_77 : decode cX5_init 77 = .ok (.aload_n 0, 1) := by decide +kernel
theorem dX5_init_78 : decode cX5_init 78 = .ok (.bipush 36, 2) := by decide +kernel
theorem dX5_init_80 : decode cX5_init 80 = .ok (.newarray .int, 2) := by decide +kernel
theorem dX5_init_82 : decode cX5_init 82 = .ok (.putfield 99, 3) := by decide +kernel
theorem dX5_init_85 : decode cX5_init 85 = .ok (.aload_n 0, 1) := by decide +kernel
theorem dX5_init_86 : decode cX5_init 86 = .ok (.sipush 288, 3) := by decide +kernel
theorem dX5_init_89 : decode cX5_init 89 = .ok (.newarray .int, 2) := by decide +kernel
theorem dX5_init_91 : decode cX5_init 91 = .ok (.putfield 102, 3) := by decide +kernel
theorem dX5_init_94 : decode cX5_init 94 = .ok (.aload_n 0, 1) := by decide +kernel
theorem dX5_init_95 : decode cX5_init 95 = .ok (.bipush 12, 2) := by decide +kernel
theorem dX5_init_97 : decode cX5_init 97 = .ok (.newarray .boolean, 2) := by decide +kernel
theorem dX5_init_99 : decode cX5_init 99 = .ok (.putfield 39, 3) := by decide +kernel
theorem dX5_init_102 : decode cX5_init 102 = .ok (.aload_n 0, 1) := by decide +kernel
theorem dX5_init_103 : decode cX5_init 103 = .ok (.bipush 12, 2) := by decide +kernel
theorem dX5_init_105 : decode cX5_init 105 = .ok (.newarray .int, 2) := by decide +kernel
theorem dX5_init_107 : decode cX5_init 107 = .ok (.putfield 43, 3) := by decide +kernel
theorem dX5_init_110 : decode cX5_init 110 = .ok (.aload_n 0, 1) := by decide +kernel
theorem dX5_init_111 : decode cX5_init 111 = .ok (.sipush 480, 3) := by decide +kernel
theorem dX5_init_114 : decode cX5_init 114 = .ok (.newarray .int, 2) := by decide +kernel
theorem dX5_init_116 : decode cX5_init 116 = .ok (.putfield 89, 3) := by decide +kernel
theorem dX5_init_119 : decode cX5_init 119 = .ok (.aload_n 0, 1) := by decide +kernel
theorem dX5_init_120 : decode cX5_init 120 = .ok (.bipush 12, 2) := by decide +kernel
theorem dX5_init_122 : decode cX5_init 122 = .ok (.newarray .int, 2) := by decide +kernel
theorem dX5_init_124 : decode cX5_init 124 = .ok (.putfield 46, 3) := by decide +kernel
theorem dX5_init_127 : decode cX5_init 127 = .ok (.aload_n 0, 1) := by decide +kernel
theorem dX5_init_128 : decode cX5_init 128 = .ok (.bipush 12, 2) := by decide +kernel
theorem dX5_init_130 : decode cX5_init 130 = .ok (.newarray .int, 2) := by decide +kernel
theorem dX5_init_132 : decode cX5_init 132 = .ok (.putfield 49, 3) := by decide +kernel
theorem dX5_init_135 : decode cX5_init 135 = .ok (.aload_n 0, 1) := by decide +kernel
theorem dX5_init_136 : decode cX5_init 136 = .ok (.bipush 12, 2) := by decide +kernel
theorem dX5_init_138 : decode cX5_init 138 = .ok (.newarray .boolean, 2) := by decide +kernel
theorem dX5_init_140 : decode cX5_init 140 = .ok (.putfield 52, 3) := by decide +kernel
theorem dX5_init_143 : decode cX5_init 143 = .ok (.aload_n 0, 1) := by decide +kernel
theorem dX5_init_144 : decode cX5_init 144 = .ok (.bipush 12, 2) := by decide +kernel
theorem dX5_init_146 : decode cX5_init 146 = .ok (.newarray .int, 2) := by decide +kernel
theorem dX5_init_148 : decode cX5_init 148 = .ok (.putfield 55, 3) := by decide +kernel
theorem dX5_init_151 : decode cX5_init 151 = .ok (.aload_n 0, 1) := by decide +kernel
theorem dX5_init_152 : decode cX5_init 152 = .ok (.bipush 12, 2) := by decide +kernel
theorem dX5_init_154 : decode cX5_init 154 = .ok (.newarray .int, 2) := by decide +kernel
theorem dX5_init_156 : decode cX5_init 156 = .ok (.putfield 115, 3) := by decide +kernel
theorem dX5_init_159 : decode cX5_init 159 = .ok (.aload_n 0, 1) := by decide +kernel
theorem dX5_init_160 : decode cX5_init 160 = .ok (.sipush 2100, 3) := by decide +kernel
theorem dX5_init_163 : decode cX5_init 163 = .ok (.newarray .int, 2) := by decide +kernel
theorem dX5_init_165 : decode cX5_init 165 = .ok (.putfield 128, 3) := by decide +kernel
theorem dX5_init_168 : decode cX5_init 168 = .ok (.aload_n 0, 1) := by decide +kernel
theorem dX5_init_169 : decode cX5_init 169 = .ok (.iconst (-1), 1) := by decide +kernel
theorem dX5_init_170 : decode cX5_init 170 = .ok (.putfield 286, 3) := by decide +kernel
theorem dX5_init_173 : decode cX5_init 173 = .ok (.aload_n 0, 1) := by decide +kernel
theorem dX5_init_174 : decode cX5_init 174 = .ok (.bipush 12, 2) := by decide +kernel
theorem dX5_init_176 : decode cX5_init 176 = .ok (.newarray .int, 2) := by decide +kernel
theorem dX5_init_178 : decode cX5_init 178 = .ok (.putfield 216, 3) := by decide +kernel
theorem dX5_init_181 : decode cX5_init 181 = .ok (.aload_n 0, 1) := by decide +kernel
theorem dX5_init_182 : decode cX5_init 182 = .ok (.bipush 12, 2) := by decide +kernel
theorem dX5_init_184 : decode cX5_init 184 = .ok (.newarray .int, 2) := by decide +kernel
theorem dX5_init_186 : decode cX5_init 186 = .ok (.putfield 267, 3) := by decide +kernel
theorem dX5_init_189 : decode cX5_init 189 = .ok (.aload_n 0, 1) := by decide +kernel
theorem dX5_init_190 : decode cX5_init 190 = .ok (.bipush 12, 2) := by decide +kernel
theorem dX5_init_192 : decode cX5_init 192 = .ok (.newarray .int, 2) := by decide +kernel
theorem dX5_init_194 : decode cX5_init 194 = .ok (.putfield 270, 3) := by decide +kernel
theorem dX5_init_197 : decode cX5_init 197 = .ok (.return_, 1) := by decide +kernel
end
section
/-! LAYOUT: the cells that the law's two constructors make, in their order, counted from the heap's size at the law's start.
  0 ZipForms, 1 its Entry[12], 2 Store, 3 its byte[2000], 4 Reading, 5 its Row[12], 6..17 the Rows, 18 remark byte[12], 19+6i the Entry i with its five arrays behind it, 91 the reference, 92..114 its arrays.
  kinds: 0 Entry 1 Reading 2 Row 3 Store 4 ZipForms 5 ZipFormsModel 6 byte[] 7 int[] 8 boolean[] 9 Entry[] 10 Row[] 11 nothing -/
def kd (a : Nat) : Nat :=
  if a = 0 then 4 else if a = 1 then 9 else if a = 2 then 3 else if a = 3 then 6 else if a = 4 then 1 else if a = 5 then 10 else if a < 18 then 2 else if a = 18 then 6
  else if a < 91 then (if (a - 19) % 6 = 0 then 0 else if (a - 19) % 6 = 3 then 7 else if (a - 19) % 6 = 4 then 7 else 6)
  else if a = 91 then 5 else if a < 115 then (if a = 103 then 8 else if a = 108 then 8 else 7) else 11
def ln (a : Nat) : Nat :=
  if a = 3 then 2000 else if a < 19 then 12
  else if a < 91 then (if (a - 19) % 6 = 1 then 16 else if (a - 19) % 6 = 2 then 40 else if (a - 19) % 6 = 5 then 24 else 3)
  else if a = 94 then 192 else if a = 100 then 36 else if a = 101 then 36 else if a = 102 then 288 else if a = 105 then 480 else if a = 111 then 2100 else 12
/-- the references: they are set by the constructors alone -/
def rf (a k : Nat) : Nat :=
  if a = 0 then (if k = 0 then 1 else if k = 1 then 2 else if k = 2 then 4 else 18)
  else if a = 1 then 19 + 6 * k else if a = 2 then 3 else if a = 4 then (if k = 0 then 2 else 5) else if a = 5 then 6 + k
  else if a < 91 then a + 1 + k
  else if k < 22 then 89 + k else if k = 23 then 111 else if k = 33 then 112 else if k = 42 then 113 else 114
theorem kd_lt {a k : Nat} (h : kd a = k) (hk : k < 11) : a < 115 := by
  rcases Nat.lt_or_ge a 115 with q | q
  · exact q
  · exfalso
    have : kd a = 11 := by
      unfold kd
      rw [if_neg (by omega), if_neg (by omega), if_neg (by omega), if_neg (by omega), if_neg (by omega), if_neg (by omega), if_neg (by omega), if_neg (by omega), if_neg (by omega), if_neg (by omega), if_neg (by omega)]
    omega
/-! MEMORY: ints (of every small type), longs, references, how many cells there are -/
abbrev MG : Type := (Nat → Nat → Int32) × (Nat → Nat → Int64) × (Nat → Nat → Option Nat) × Nat
abbrev Me : Type := (Nat → Nat → Int32) × (Nat → Nat → Int64)
def mg (M : Me) : MG := (M.1, M.2, (fun a k => some (rf a k)), 115)
def up2 {α : Type} (f : Nat → Nat → α) (a k : Nat) (v : α) : Nat → Nat → α := va_up f a (va_up (f a) k v)
def sI (M : Me) (a k : Nat) (v : Int32) : Me := (up2 M.1 a k v, M.2)
def sL (M : Me) (a k : Nat) (v : Int64) : Me := (M.1, up2 M.2 a k v)
def sGI (M : MG) (a k : Nat) (v : Int32) : MG := (up2 M.1 a k v, M.2)
def sGL (M : MG) (a k : Nat) (v : Int64) : MG := (M.1, up2 M.2.1 a k v, M.2.2)
def sGR (M : MG) (a k : Nat) (v : Option Nat) : MG := (M.1, M.2.1, up2 M.2.2.1 a k v, M.2.2.2)
def nfl (ci : Nat) : Nat := match ci with
  | 0 => 18
  | 1 => 9
  | 2 => 19
  | 3 => 2
  | 4 => 8
  | _ => 44
def tyf (ci : Nat) : Nat → FieldType := match ci with
  | 0 => tyX0
  | 1 => tyX1
  | 2 => tyX2
  | 3 => tyX3
  | 4 => tyX4
  | _ => tyX5
def fvl (b : Nat) (M : MG) (a : Nat) (ty : FieldType) (k : Nat) : Value := match ty with
  | .long => .long (M.2.1 a k)
  | .object _ => va_rf ((M.2.2.1 a k).map (fun q => b + q))
  | .array _ => va_rf ((M.2.2.1 a k).map (fun q => b + q))
  | _ => .int (M.1 a k)
def cel (T : Nat → ClassId) (b : Nat) (M : MG) (a : Nat) : va_E :=
  if kd a < 6 then .inr (kd a, (List.range (nfl (kd a))).map (fun k => fvl b M a (tyf (kd a) k) k))
  else if kd a < 9 then .inl (T (kd a), ln a, .inl (M.1 a))
  else .inl (T (kd a), ln a, .inr (.inr (.inr (.inr (fun j => (M.2.2.1 a j).map (fun q => b + q))))))
def wsM (T : Nat → ClassId) (b : Nat) (M : MG) : va_W := (List.range M.2.2.2).map (fun a => (b + a, cel T b M a))
def tyl (T : Nat → ClassId) : List (ClassId × FieldType) := [(T 6, .byte), (T 7, .int), (T 8, .boolean), (T 9, .object RX0), (T 10, .object RX2)]
theorem wsM_at {T : Nat → ClassId} {b : Nat} {M : MG} {a : Nat} (h : a < M.2.2.2) : (wsM T b M)[a]? = some (b + a, cel T b M a) := by
  unfold wsM
  rw [List.getElem?_map, List.getElem?_range h]
  rfl
theorem wsM_inv {T : Nat → ClassId} {b : Nat} {M : MG} {k : Nat} {q : Nat × va_E} (h : (wsM T b M)[k]? = some q) : k < M.2.2.2 ∧ q = (b + k, cel T b M k) := by
  unfold wsM at h
  rw [List.getElem?_map] at h
  rcases Nat.lt_or_ge k M.2.2.2 with hk | hk
  · rw [List.getElem?_range hk] at h
    exact ⟨hk, (Option.some.inj h).symm⟩
  · rw [List.getElem?_eq_none (by simpa using hk)] at h
    cases h
theorem wsM_D {T : Nat → ClassId} {b : Nat} {M : MG} : va_D (fun q => b ≤ q) (wsM T b M) := by
  refine ⟨fun i j p q hi hj h => ?_, fun k q h => ?_⟩
  · have h1 := wsM_inv hi
    have h2 := wsM_inv hj
    rw [h1.2, h2.2] at h
    have h3 : b + i = b + j := h
    omega
  · rw [(wsM_inv h).2]
    exact Nat.le_add_right b k
theorem cel_obj {T : Nat → ClassId} {b : Nat} {M : MG} {a ci : Nat} (hk : kd a = ci) (hc : ci < 6) : cel T b M a = .inr (ci, (List.range (nfl ci)).map (fun k => fvl b M a (tyf ci k) k)) := by
  subst hk
  unfold cel
  rw [if_pos hc]
theorem cel_arr {T : Nat → ClassId} {b : Nat} {M : MG} {a ci : Nat} (hk : kd a = ci) (hc : ¬ ci < 6) (hc2 : ci < 9) : cel T b M a = .inl (T ci, ln a, .inl (M.1 a)) := by
  subst hk
  unfold cel
  rw [if_neg hc, if_pos hc2]
theorem cel_ref {T : Nat → ClassId} {b : Nat} {M : MG} {a ci : Nat} (hk : kd a = ci) (hc : ¬ ci < 9) : cel T b M a = .inl (T ci, ln a, .inr (.inr (.inr (.inr (fun j => (M.2.2.1 a j).map (fun q => b + q)))))) := by
  subst hk
  unfold cel
  rw [if_neg (by omega), if_neg hc]
theorem up2_s {α : Type} (f : Nat → Nat → α) (a k : Nat) (v : α) : up2 f a k v a k = v := by simp [up2, va_up]
theorem up2_r {α : Type} (f : Nat → Nat → α) {a b : Nat} (k : Nat) (v : α) (h : b ≠ a) : up2 f a k v b = f b := by simp [up2, va_up, h]
theorem up2_k {α : Type} (f : Nat → Nat → α) {a k j : Nat} (v : α) (h : j ≠ k) : up2 f a k v a j = f a j := by simp [up2, va_up, h]
theorem up2_row {α : Type} (f : Nat → Nat → α) (a k : Nat) (v : α) : up2 f a k v a = va_up (f a) k v := by simp [up2, va_up]
/-- a world with one cell changed is the changed memory's world -/
theorem wsM_set {T : Nat → ClassId} {b : Nat} {M M' : MG} {a : Nat} {x : va_E} (hn : M'.2.2.2 = M.2.2.2) (ha : x = cel T b M' a) (ho : ∀ q, q ≠ a → cel T b M' q = cel T b M q) : (wsM T b M).set a (b + a, x) = wsM T b M' := by
  apply List.ext_getElem?
  intro i
  by_cases hia : i = a
  · subst hia
    rcases Nat.lt_or_ge i M.2.2.2 with hl | hl
    · rw [wsM_at (by rw [hn]; exact hl), List.getElem?_set_self (by unfold wsM; simpa using hl), ha]
    · rw [List.getElem?_eq_none (by unfold wsM; simpa using hl), List.getElem?_eq_none (by unfold wsM; simp [hn]; exact hl)]
  · rw [List.getElem?_set_ne (fun q => hia q.symm)]
    rcases Nat.lt_or_ge i M.2.2.2 with hl | hl
    · rw [wsM_at hl, wsM_at (by rw [hn]; exact hl), ho i hia]
    · rw [List.getElem?_eq_none (by unfold wsM; simpa using hl), List.getElem?_eq_none (by unfold wsM; simp [hn]; exact hl)]
theorem fvl_oth {b : Nat} {M M' : MG} {q : Nat} (h1 : M'.1 q = M.1 q) (h2 : M'.2.1 q = M.2.1 q) (h3 : M'.2.2.1 q = M.2.2.1 q) (ty : FieldType) (k : Nat) : fvl b M' q ty k = fvl b M q ty k := by
  unfold fvl
  rw [h1, h2, h3]
theorem cel_oth {T : Nat → ClassId} {b : Nat} {M M' : MG} {q : Nat} (h1 : M'.1 q = M.1 q) (h2 : M'.2.1 q = M.2.1 q) (h3 : M'.2.2.1 q = M.2.2.1 q) : cel T b M' q = cel T b M q := by
  unfold cel
  rw [h1, h3]
  have : (fun k => fvl b M' q (tyf (kd q) k) k) = (fun k => fvl b M q (tyf (kd q) k) k) := funext fun k => fvl_oth h1 h2 h3 _ k
  rw [this]
theorem map_set {α : Type} (f g : Nat → α) (N k : Nat) (v : α) (hk : g k = v) (ho : ∀ j, j ≠ k → g j = f j) : ((List.range N).map f).set k v = (List.range N).map g := by
  apply List.ext_getElem?
  intro i
  by_cases hik : i = k
  · subst hik
    rcases Nat.lt_or_ge i N with hl | hl
    · rw [List.getElem?_set_self (by simpa using hl), List.getElem?_map, List.getElem?_range hl, ← hk]
      rfl
    · rw [List.getElem?_eq_none (by simpa using hl), List.getElem?_eq_none (by simpa using hl)]
  · rw [List.getElem?_set_ne (fun q => hik q.symm), List.getElem?_map, List.getElem?_map]
    rcases Nat.lt_or_ge i N with hl | hl
    · rw [List.getElem?_range hl]
      simp only [Option.map_some]
      rw [ho i hik]
    · rw [List.getElem?_eq_none (by simpa using hl)]
      rfl
/-! the words: those of the tables that a contract may carry -/
def tb : List Cond := lw_tbl.filter goodWord
theorem tb_in {w : Cond} (h : w ∈ lw_tbl) (hg : goodWord w = true) : w ∈ tb := List.mem_filter.mpr ⟨h, hg⟩
theorem tb_lw {w : Cond} (h : w ∈ tb) : w ∈ lw_tbl := (List.mem_filter.mp h).1
theorem tb_good {c : Cond} (h : c ∈ tb) : GoodIn tb (c :: tb) := by
  intro w hw
  rcases List.mem_cons.mp hw with e | hw
  · subst e
    exact ⟨h, good_of_word (List.mem_filter.mp h).2⟩
  · exact ⟨hw, good_of_word (List.mem_filter.mp hw).2⟩
theorem tb_at {ws : List Cond} {w : Cond} (k i : Nat) (h1 : k2_sels lw_privs = ws) (h2 : (ws ++ tables_1)[i]? = some w) (hg : goodWord w = true) : w ∈ tb := tb_in (by unfold lw_tbl; rw [h1]; exact List.mem_of_getElem? h2) hg
/-- the links to private members of nest mates -/
def nws : List Cond := lw_tbl.filter (fun w => match w with
  | .methodLinkNest _ _ _ _ => true
  | _ => false)
def NW (U : State) : Prop := ∀ (a : String) (i : Nat) (y : MethodName) (h : String), Cond.methodLinkNest a i y h ∈ lw_tbl → va_Nw (.methodLinkNest a i y h) U
theorem NW.warm {s U : State} (hW : s.WarmedH U.vm) (h : NW s) : NW U := fun a i y hh q => va_Nw.warmM hW (h a i y hh q)
theorem NW.same {s U : State} (e : s.vm = U.vm) (h : NW s) : NW U := fun a i y hh q => va_Nw.same rfl e (h a i y hh q)
/-- what a method's body knows all the time -/
def CX (p : Program) (s : State) (m : MethodId) (args : Array Value) (meth : Method) (c : Code) (cc : ByteArray) (nL : Nat) (own : String) (ret : Option FieldType) (D : va_G) (T : Nat → ClassId) : Prop :=
  p.tables.exec = Jvm.exec ∧ c.code = cc ∧ c.maxLocals = nL ∧ s.vm.findClass own = some m.cls ∧ meth.sig.returnType = ret ∧ meth.locks = false ∧ (∀ w ∈ tb, w.before args s = true) ∧ va_K D vwCl (tyl T) s ∧ NW s
/-- the heap is the memory -/
def RP (D : va_G) (T : Nat → ClassId) (b : Nat) (M : MG) (H : Heap) : Prop := va_P D vwCl (wsM T b M) H
def QC (D : va_G) (T : Nat → ClassId) (b : Nat) (v : Option Value) (M : MG) : Array Value → State → Outcome → State → Prop := fun _ st oc t => (oc = .returned v ∧ RP D T b M t.heap) ∧ va_F (fun q => b ≤ q) st t
def PC (D : va_G) (T : Nat → ClassId) (b : Nat) (av : List Value) (M : MG) : Array Value → State → Prop := va_Pc av (fun U => RP D T b M U.heap ∧ va_K D vwCl (tyl T) U ∧ NW U)
/-- a method's contract: called with av over the memory M it answers v and leaves M' -/
def Ct (l : Launch) (y : MethodName) (cc : ByteArray) (maxL : Nat) (ret : Option FieldType) (rm : Room) (mc ms : Nat) (av : Nat → List Value) (M : MG) (v : Option Value) (M' : MG) : Prop :=
  ∀ (D : va_G) (T : Nat → ClassId) (b : Nat), Met l y (.code y cc maxL ret :: tb) rm (PC D T b (av b) M) (QC D T b v M') mc ms (fun q => b ≤ q)
theorem PC.blind {D : va_G} {T : Nat → ClassId} {b : Nat} {av : List Value} {M : MG} : FrameBlind (PC D T b av M) := by
  intro a U g mk h
  obtain ⟨h1, h2, h3, h4⟩ := h
  exact ⟨h1, h2, va_K.moved (u := U) (U := U.calling g mk a) (Vm.Alike.refl U.vm) h3, NW.same rfl h4⟩
section GR
variable {p : Program} {l : Launch} {e : Env} {R : Room} {s : State} {m : MethodId} {args : Array Value} {below : List Frame} {meth : Method} {c : Code} {D : va_G} {T : Nat → ClassId} {b nL : Nat} {cc : ByteArray} {own : String} {ret : Option FieldType} {Q : State → Prop} {pc : Nat} {lv : List (Nat × Value)} {st : List Value}
def GG (p : Program) (l : Launch) (e : Env) (R : Room) (s : State) (m : MethodId) (args : Array Value) (below : List Frame) (meth : Method) (c : Code) (D : va_G) (T : Nat → ClassId) (b nL : Nat) (cells slots : Nat) (Q : State → Prop) (pc : Nat) (lv : List (Nat × Value)) (st : List Value) (M : MG) : Prop :=
  ∀ (H : Heap) (locs : List Loc) (ls : Array Slot), lv_has ls nL lv → RP D T b M H → va_S (fun q => b ≤ q) s.heap H locs → W p l e R s m args below meth c H locs cells slots Q (F0 m pc ls st)
/-- from here the method answers what F says -/
def GN {α : Type} (p : Program) (l : Launch) (e : Env) (R : Room) (s : State) (m : MethodId) (args : Array Value) (below : List Frame) (meth : Method) (c : Code) (D : va_G) (T : Nat → ClassId) (b nL : Nat) (em : α → Option Value) (pc : Nat) (lv : List (Nat × Value)) (st : List Value) (M : Me) (F : Option (α × Me)) : Prop :=
  ∀ (r : α) (M' : Me), F = some (r, M') → GG p l e R s m args below meth c D T b nL 0 0 (MQ below (QC D T b (em r) (mg M')) args s 0 0 (fun q => b ≤ q)) pc lv st (mg M)
/-- a call behind its run -/
theorem GG_cont {cells slots mc ms : Nat} {M' : MG} {v : Option Value} {H : Heap} {locs : List Loc} {ls : Array Slot} {st0 rest : List Value} {a : Array Value} (hr : va_Run p l e R s m args below meth c H locs cells slots mc ms (F0 m pc ls st0) rest (QC D T b v M' a) (fun q => b ≤ q)) (hl : lv_has ls nL lv) (hS : va_S (fun q => b ≤ q) s.heap H locs)
    (kk : GG p l e R s m args below meth c D T b nL (cells + mc) (slots + ms) Q (pc + 3) lv (v.toList ++ rest) M') : W p l e R s m args below meth c H locs cells slots Q (F0 m pc ls st0) := by
  intro X0 hT X
  obtain ⟨v', st₀, t, T', L, h0, X', hL, e1, e2, ⟨⟨hv, hP⟩, hz, hk⟩, stp⟩ := hr X0 hT X
  cases hv
  rw [h0] at hz hk
  obtain ⟨t2, a1, b1⟩ := kk T'.heap (locs ++ L) ls hl (by rw [e1]; exact hP)
    ⟨Nat.le_trans hS.1 (by rw [e1]; exact hz), fun q h1 h2 => by rw [e1, hk q (Nat.lt_of_lt_of_le h1 hS.1) h2]; exact hS.2.1 q h1 h2, fun q hq => by
      rcases List.mem_append.mp hq with h | h
      · exact hS.2.2 q h
      · exact hL q h⟩ T' rfl X'
  exact ⟨t2, stp t2 a1, b1⟩

theorem n_iconst {α : Type} {em : α → Option Value} {M : Me} {F : Option (α × Me)} (hC : CX p s m args meth c cc nL own ret D T) {n : Int} (v : Int32) (hv : Int32.ofInt n = v) (hd : decode cc pc = .ok (.iconst n, 1)) (k : GN p l e R s m args below meth c D T b nL em (pc + 1) lv (.int v :: st) M F) : GN p l e R s m args below meth c D T b nL em pc lv (st) M F := fun r M9 h9 H locs ls hl hP hS => lv_iconst hC.1 hC.2.1 hd hv (k r M9 h9 H locs ls hl hP hS)
theorem n_bipush {α : Type} {em : α → Option Value} {M : Me} {F : Option (α × Me)} (hC : CX p s m args meth c cc nL own ret D T) {n : Int} (v : Int32) (hv : (Int8.ofInt n).toInt32 = v) (hd : decode cc pc = .ok (.bipush n, 2)) (k : GN p l e R s m args below meth c D T b nL em (pc + 2) lv (.int v :: st) M F) : GN p l e R s m args below meth c D T b nL em pc lv (st) M F := fun r M9 h9 H locs ls hl hP hS => lv_bipush hC.1 hC.2.1 hd hv (k r M9 h9 H locs ls hl hP hS)
theorem n_sipush {α : Type} {em : α → Option Value} {M : Me} {F : Option (α × Me)} (hC : CX p s m args meth c cc nL own ret D T) {n : Int} (v : Int32) (hv : (Int16.ofInt n).toInt32 = v) (hd : decode cc pc = .ok (.sipush n, 3)) (k : GN p l e R s m args below meth c D T b nL em (pc + 3) lv (.int v :: st) M F) : GN p l e R s m args below meth c D T b nL em pc lv (st) M F := fun r M9 h9 H locs ls hl hP hS => lv_sipush hC.1 hC.2.1 hd hv (k r M9 h9 H locs ls hl hP hS)
theorem n_lconst {α : Type} {em : α → Option Value} {M : Me} {F : Option (α × Me)} (hC : CX p s m args meth c cc nL own ret D T) {n : Fin 2} (v : Int64) (hv : Int64.ofNat (n : Nat) = v) (hd : decode cc pc = .ok (.lconst n, 1)) (k : GN p l e R s m args below meth c D T b nL em (pc + 1) lv (.long v :: st) M F) : GN p l e R s m args below meth c D T b nL em pc lv (st) M F := fun r M9 h9 H locs ls hl hP hS => lv_lconst hC.1 hC.2.1 hd hv (k r M9 h9 H locs ls hl hP hS)
theorem n_ldc {α : Type} {em : α → Option Value} {M : Me} {F : Option (α × Me)} (hC : CX p s m args meth c cc nL own ret D T) {index : Nat} (v : Int32) (hw : Cond.constant own index v ∈ tb) (hd : decode cc pc = .ok (.ldc index, 2)) (k : GN p l e R s m args below meth c D T b nL em (pc + 2) lv (.int v :: st) M F) : GN p l e R s m args below meth c D T b nL em pc lv (st) M F := fun r M9 h9 H locs ls hl hP hS => lv_ldc hC.1 hC.2.1 hC.2.2.2.1 (hC.2.2.2.2.2.2.1 _ hw) hd (k r M9 h9 H locs ls hl hP hS)
theorem n_ldc2 {α : Type} {em : α → Option Value} {M : Me} {F : Option (α × Me)} (hC : CX p s m args meth c cc nL own ret D T) {index : Nat} (v : Int64) (hw : Cond.constantLong own index v ∈ tb) (hd : decode cc pc = .ok (.ldc2_w index, 3)) (k : GN p l e R s m args below meth c D T b nL em (pc + 3) lv (.long v :: st) M F) : GN p l e R s m args below meth c D T b nL em pc lv (st) M F := fun r M9 h9 H locs ls hl hP hS => lv_ldc2 hC.1 hC.2.1 hC.2.2.2.1 (hC.2.2.2.2.2.2.1 _ hw) hd (k r M9 h9 H locs ls hl hP hS)
theorem n_iload_n {α : Type} {em : α → Option Value} {M : Me} {F : Option (α × Me)} (hC : CX p s m args meth c cc nL own ret D T) {i : Fin 4} {x : Int32} (j : Nat) (hj : lv[j]? = some ((i : Nat), .int x)) (hd : decode cc pc = .ok (.iload_n i, 1)) (k : GN p l e R s m args below meth c D T b nL em (pc + 1) lv (.int x :: st) M F) : GN p l e R s m args below meth c D T b nL em pc lv (st) M F := fun r M9 h9 H locs ls hl hP hS => lv_iload_n hC.1 hC.2.1 hd rfl (lv_at hl j hj) (k r M9 h9 H locs ls hl hP hS)
theorem n_iload {α : Type} {em : α → Option Value} {M : Me} {F : Option (α × Me)} (hC : CX p s m args meth c cc nL own ret D T) {i : Nat} {x : Int32} (j : Nat) (hj : lv[j]? = some (i, .int x)) (hd : decode cc pc = .ok (.iload i, 2)) (k : GN p l e R s m args below meth c D T b nL em (pc + 2) lv (.int x :: st) M F) : GN p l e R s m args below meth c D T b nL em pc lv (st) M F := fun r M9 h9 H locs ls hl hP hS => lv_iload hC.1 hC.2.1 hd (lv_at hl j hj) (k r M9 h9 H locs ls hl hP hS)
theorem n_lload_n {α : Type} {em : α → Option Value} {M : Me} {F : Option (α × Me)} (hC : CX p s m args meth c cc nL own ret D T) {i : Fin 4} {x : Int64} (j : Nat) (hj : lv[j]? = some ((i : Nat), .long x)) (hd : decode cc pc = .ok (.lload_n i, 1)) (k : GN p l e R s m args below meth c D T b nL em (pc + 1) lv (.long x :: st) M F) : GN p l e R s m args below meth c D T b nL em pc lv (st) M F := fun r M9 h9 H locs ls hl hP hS => lv_lload_n hC.1 hC.2.1 hd rfl (lv_at hl j hj) (k r M9 h9 H locs ls hl hP hS)
theorem n_lload {α : Type} {em : α → Option Value} {M : Me} {F : Option (α × Me)} (hC : CX p s m args meth c cc nL own ret D T) {i : Nat} {x : Int64} (j : Nat) (hj : lv[j]? = some (i, .long x)) (hd : decode cc pc = .ok (.lload i, 2)) (k : GN p l e R s m args below meth c D T b nL em (pc + 2) lv (.long x :: st) M F) : GN p l e R s m args below meth c D T b nL em pc lv (st) M F := fun r M9 h9 H locs ls hl hP hS => lv_lload hC.1 hC.2.1 hd (lv_at hl j hj) (k r M9 h9 H locs ls hl hP hS)
theorem n_aload_n {α : Type} {em : α → Option Value} {M : Me} {F : Option (α × Me)} (hC : CX p s m args meth c cc nL own ret D T) {i : Fin 4} {x : Nat} (j : Nat) (hj : lv[j]? = some ((i : Nat), .ref x)) (hd : decode cc pc = .ok (.aload_n i, 1)) (k : GN p l e R s m args below meth c D T b nL em (pc + 1) lv (.ref x :: st) M F) : GN p l e R s m args below meth c D T b nL em pc lv (st) M F := fun r M9 h9 H locs ls hl hP hS => lv_aload_n hC.1 hC.2.1 hd rfl (lv_at hl j hj) (k r M9 h9 H locs ls hl hP hS)
theorem n_aload {α : Type} {em : α → Option Value} {M : Me} {F : Option (α × Me)} (hC : CX p s m args meth c cc nL own ret D T) {i : Nat} {x : Nat} (j : Nat) (hj : lv[j]? = some (i, .ref x)) (hd : decode cc pc = .ok (.aload i, 2)) (k : GN p l e R s m args below meth c D T b nL em (pc + 2) lv (.ref x :: st) M F) : GN p l e R s m args below meth c D T b nL em pc lv (st) M F := fun r M9 h9 H locs ls hl hP hS => lv_aload hC.1 hC.2.1 hd (lv_at hl j hj) (k r M9 h9 H locs ls hl hP hS)
theorem n_istore_n {α : Type} {em : α → Option Value} {M : Me} {F : Option (α × Me)} (hC : CX p s m args meth c cc nL own ret D T) {kk : Fin 4} {i : Nat} (hi : (kk : Nat) = i) {x : Int32} (lv2 : List (Nat × Value)) (hn : i < nL) (hv : (i, Value.int x) :: lv.filter (fun q => !(q.1 == i) && !(q.1 + 1 == i && q.2.category == 2)) = lv2) (hd : decode cc pc = .ok (.istore_n kk, 1)) (k : GN p l e R s m args below meth c D T b nL em (pc + 1) lv2 st M F) : GN p l e R s m args below meth c D T b nL em pc lv (.int x :: st) M F := fun r M9 h9 H locs ls hl hP hS => lv_istore_n hC.1 hC.2.1 hd hi hl hn hv (fun ls hl => k r M9 h9 H locs ls hl hP hS)
theorem n_istore {α : Type} {em : α → Option Value} {M : Me} {F : Option (α × Me)} (hC : CX p s m args meth c cc nL own ret D T) {i : Nat} {x : Int32} (lv2 : List (Nat × Value)) (hn : i < nL) (hv : (i, Value.int x) :: lv.filter (fun q => !(q.1 == i) && !(q.1 + 1 == i && q.2.category == 2)) = lv2) (hd : decode cc pc = .ok (.istore i, 2)) (k : GN p l e R s m args below meth c D T b nL em (pc + 2) lv2 st M F) : GN p l e R s m args below meth c D T b nL em pc lv (.int x :: st) M F := fun r M9 h9 H locs ls hl hP hS => lv_istore hC.1 hC.2.1 hd hl hn hv (fun ls hl => k r M9 h9 H locs ls hl hP hS)
theorem n_lstore_n {α : Type} {em : α → Option Value} {M : Me} {F : Option (α × Me)} (hC : CX p s m args meth c cc nL own ret D T) {kk : Fin 4} {i : Nat} (hi : (kk : Nat) = i) {x : Int64} (lv2 : List (Nat × Value)) (hn : i + 1 < nL) (hv : (i, Value.long x) :: lv.filter (fun q => !(q.1 == i) && (!(q.1 == i + 1) && !(q.1 + 1 == i && q.2.category == 2))) = lv2) (hd : decode cc pc = .ok (.lstore_n kk, 1)) (k : GN p l e R s m args below meth c D T b nL em (pc + 1) lv2 st M F) : GN p l e R s m args below meth c D T b nL em pc lv (.long x :: st) M F := fun r M9 h9 H locs ls hl hP hS => lv_lstore_n hC.1 hC.2.1 hd hi hl hn hv (fun ls hl => k r M9 h9 H locs ls hl hP hS)
theorem n_lstore {α : Type} {em : α → Option Value} {M : Me} {F : Option (α × Me)} (hC : CX p s m args meth c cc nL own ret D T) {i : Nat} {x : Int64} (lv2 : List (Nat × Value)) (hn : i + 1 < nL) (hv : (i, Value.long x) :: lv.filter (fun q => !(q.1 == i) && (!(q.1 == i + 1) && !(q.1 + 1 == i && q.2.category == 2))) = lv2) (hd : decode cc pc = .ok (.lstore i, 2)) (k : GN p l e R s m args below meth c D T b nL em (pc + 2) lv2 st M F) : GN p l e R s m args below meth c D T b nL em pc lv (.long x :: st) M F := fun r M9 h9 H locs ls hl hP hS => lv_lstore hC.1 hC.2.1 hd hl hn hv (fun ls hl => k r M9 h9 H locs ls hl hP hS)
theorem n_astore_n {α : Type} {em : α → Option Value} {M : Me} {F : Option (α × Me)} (hC : CX p s m args meth c cc nL own ret D T) {kk : Fin 4} {i : Nat} (hi : (kk : Nat) = i) {x : Nat} (lv2 : List (Nat × Value)) (hn : i < nL) (hv : (i, Value.ref x) :: lv.filter (fun q => !(q.1 == i) && !(q.1 + 1 == i && q.2.category == 2)) = lv2) (hd : decode cc pc = .ok (.astore_n kk, 1)) (k : GN p l e R s m args below meth c D T b nL em (pc + 1) lv2 st M F) : GN p l e R s m args below meth c D T b nL em pc lv (.ref x :: st) M F := fun r M9 h9 H locs ls hl hP hS => lv_astore_n hC.1 hC.2.1 hd hi hl hn hv (fun ls hl => k r M9 h9 H locs ls hl hP hS)
theorem n_astore {α : Type} {em : α → Option Value} {M : Me} {F : Option (α × Me)} (hC : CX p s m args meth c cc nL own ret D T) {i : Nat} {x : Nat} (lv2 : List (Nat × Value)) (hn : i < nL) (hv : (i, Value.ref x) :: lv.filter (fun q => !(q.1 == i) && !(q.1 + 1 == i && q.2.category == 2)) = lv2) (hd : decode cc pc = .ok (.astore i, 2)) (k : GN p l e R s m args below meth c D T b nL em (pc + 2) lv2 st M F) : GN p l e R s m args below meth c D T b nL em pc lv (.ref x :: st) M F := fun r M9 h9 H locs ls hl hP hS => lv_astore hC.1 hC.2.1 hd hl hn hv (fun ls hl => k r M9 h9 H locs ls hl hP hS)
theorem n_iinc {α : Type} {em : α → Option Value} {M : Me} {F : Option (α × Me)} (hC : CX p s m args meth c cc nL own ret D T) {i : Nat} {n : Int} {x : Int32} (v : Int32) (lv2 : List (Nat × Value)) (j : Nat) (hj : lv[j]? = some (i, .int x)) (hv : x + Int32.ofInt n = v) (hn : i < nL) (hl2 : (i, Value.int v) :: lv.filter (fun q => !(q.1 == i) && !(q.1 + 1 == i && q.2.category == 2)) = lv2) (hd : decode cc pc = .ok (.iinc i n, 3)) (k : GN p l e R s m args below meth c D T b nL em (pc + 3) lv2 st M F) : GN p l e R s m args below meth c D T b nL em pc lv st M F := fun r M9 h9 H locs ls hl hP hS => lv_iinc hC.1 hC.2.1 hd hl hj hv hn hl2 (fun ls hl => k r M9 h9 H locs ls hl hP hS)
theorem n_iadd {α : Type} {em : α → Option Value} {M : Me} {F : Option (α × Me)} (hC : CX p s m args meth c cc nL own ret D T) {x y : Int32} (hd : decode cc pc = .ok (.iadd, 1)) (k : GN p l e R s m args below meth c D T b nL em (pc + 1) lv (.int (x + y) :: st) M F) : GN p l e R s m args below meth c D T b nL em pc lv (.int y :: .int x :: st) M F := fun r M9 h9 H locs ls hl hP hS => lv_iadd hC.1 hC.2.1 hd (k r M9 h9 H locs ls hl hP hS)
theorem n_isub {α : Type} {em : α → Option Value} {M : Me} {F : Option (α × Me)} (hC : CX p s m args meth c cc nL own ret D T) {x y : Int32} (hd : decode cc pc = .ok (.isub, 1)) (k : GN p l e R s m args below meth c D T b nL em (pc + 1) lv (.int (x - y) :: st) M F) : GN p l e R s m args below meth c D T b nL em pc lv (.int y :: .int x :: st) M F := fun r M9 h9 H locs ls hl hP hS => lv_isub hC.1 hC.2.1 hd (k r M9 h9 H locs ls hl hP hS)
theorem n_imul {α : Type} {em : α → Option Value} {M : Me} {F : Option (α × Me)} (hC : CX p s m args meth c cc nL own ret D T) {x y : Int32} (hd : decode cc pc = .ok (.imul, 1)) (k : GN p l e R s m args below meth c D T b nL em (pc + 1) lv (.int (x * y) :: st) M F) : GN p l e R s m args below meth c D T b nL em pc lv (.int y :: .int x :: st) M F := fun r M9 h9 H locs ls hl hP hS => lv_imul hC.1 hC.2.1 hd (k r M9 h9 H locs ls hl hP hS)
theorem n_iand {α : Type} {em : α → Option Value} {M : Me} {F : Option (α × Me)} (hC : CX p s m args meth c cc nL own ret D T) {x y : Int32} (hd : decode cc pc = .ok (.iand, 1)) (k : GN p l e R s m args below meth c D T b nL em (pc + 1) lv (.int (x &&& y) :: st) M F) : GN p l e R s m args below meth c D T b nL em pc lv (.int y :: .int x :: st) M F := fun r M9 h9 H locs ls hl hP hS => lv_iand hC.1 hC.2.1 hd (k r M9 h9 H locs ls hl hP hS)
theorem n_ior {α : Type} {em : α → Option Value} {M : Me} {F : Option (α × Me)} (hC : CX p s m args meth c cc nL own ret D T) {x y : Int32} (hd : decode cc pc = .ok (.ior, 1)) (k : GN p l e R s m args below meth c D T b nL em (pc + 1) lv (.int (x ||| y) :: st) M F) : GN p l e R s m args below meth c D T b nL em pc lv (.int y :: .int x :: st) M F := fun r M9 h9 H locs ls hl hP hS => lv_ior hC.1 hC.2.1 hd (k r M9 h9 H locs ls hl hP hS)
theorem n_ixor {α : Type} {em : α → Option Value} {M : Me} {F : Option (α × Me)} (hC : CX p s m args meth c cc nL own ret D T) {x y : Int32} (hd : decode cc pc = .ok (.ixor, 1)) (k : GN p l e R s m args below meth c D T b nL em (pc + 1) lv (.int (x ^^^ y) :: st) M F) : GN p l e R s m args below meth c D T b nL em pc lv (.int y :: .int x :: st) M F := fun r M9 h9 H locs ls hl hP hS => lv_ixor hC.1 hC.2.1 hd (k r M9 h9 H locs ls hl hP hS)
theorem n_ladd {α : Type} {em : α → Option Value} {M : Me} {F : Option (α × Me)} (hC : CX p s m args meth c cc nL own ret D T) {x y : Int64} (hd : decode cc pc = .ok (.ladd, 1)) (k : GN p l e R s m args below meth c D T b nL em (pc + 1) lv (.long (x + y) :: st) M F) : GN p l e R s m args below meth c D T b nL em pc lv (.long y :: .long x :: st) M F := fun r M9 h9 H locs ls hl hP hS => lv_ladd hC.1 hC.2.1 hd (k r M9 h9 H locs ls hl hP hS)
theorem n_lsub {α : Type} {em : α → Option Value} {M : Me} {F : Option (α × Me)} (hC : CX p s m args meth c cc nL own ret D T) {x y : Int64} (hd : decode cc pc = .ok (.lsub, 1)) (k : GN p l e R s m args below meth c D T b nL em (pc + 1) lv (.long (x - y) :: st) M F) : GN p l e R s m args below meth c D T b nL em pc lv (.long y :: .long x :: st) M F := fun r M9 h9 H locs ls hl hP hS => lv_lsub hC.1 hC.2.1 hd (k r M9 h9 H locs ls hl hP hS)
theorem n_lmul {α : Type} {em : α → Option Value} {M : Me} {F : Option (α × Me)} (hC : CX p s m args meth c cc nL own ret D T) {x y : Int64} (hd : decode cc pc = .ok (.lmul, 1)) (k : GN p l e R s m args below meth c D T b nL em (pc + 1) lv (.long (x * y) :: st) M F) : GN p l e R s m args below meth c D T b nL em pc lv (.long y :: .long x :: st) M F := fun r M9 h9 H locs ls hl hP hS => lv_lmul hC.1 hC.2.1 hd (k r M9 h9 H locs ls hl hP hS)
theorem n_land {α : Type} {em : α → Option Value} {M : Me} {F : Option (α × Me)} (hC : CX p s m args meth c cc nL own ret D T) {x y : Int64} (hd : decode cc pc = .ok (.land, 1)) (k : GN p l e R s m args below meth c D T b nL em (pc + 1) lv (.long (x &&& y) :: st) M F) : GN p l e R s m args below meth c D T b nL em pc lv (.long y :: .long x :: st) M F := fun r M9 h9 H locs ls hl hP hS => lv_land hC.1 hC.2.1 hd (k r M9 h9 H locs ls hl hP hS)
theorem n_lor {α : Type} {em : α → Option Value} {M : Me} {F : Option (α × Me)} (hC : CX p s m args meth c cc nL own ret D T) {x y : Int64} (hd : decode cc pc = .ok (.lor, 1)) (k : GN p l e R s m args below meth c D T b nL em (pc + 1) lv (.long (x ||| y) :: st) M F) : GN p l e R s m args below meth c D T b nL em pc lv (.long y :: .long x :: st) M F := fun r M9 h9 H locs ls hl hP hS => lv_lor hC.1 hC.2.1 hd (k r M9 h9 H locs ls hl hP hS)
theorem n_lxor {α : Type} {em : α → Option Value} {M : Me} {F : Option (α × Me)} (hC : CX p s m args meth c cc nL own ret D T) {x y : Int64} (hd : decode cc pc = .ok (.lxor, 1)) (k : GN p l e R s m args below meth c D T b nL em (pc + 1) lv (.long (x ^^^ y) :: st) M F) : GN p l e R s m args below meth c D T b nL em pc lv (.long y :: .long x :: st) M F := fun r M9 h9 H locs ls hl hP hS => lv_lxor hC.1 hC.2.1 hd (k r M9 h9 H locs ls hl hP hS)
theorem n_i2l {α : Type} {em : α → Option Value} {M : Me} {F : Option (α × Me)} (hC : CX p s m args meth c cc nL own ret D T) {x : Int32} (hd : decode cc pc = .ok (.i2l, 1)) (k : GN p l e R s m args below meth c D T b nL em (pc + 1) lv (.long x.toInt64 :: st) M F) : GN p l e R s m args below meth c D T b nL em pc lv (.int x :: st) M F := fun r M9 h9 H locs ls hl hP hS => lv_i2l hC.1 hC.2.1 hd rfl (k r M9 h9 H locs ls hl hP hS)
theorem n_l2i {α : Type} {em : α → Option Value} {M : Me} {F : Option (α × Me)} (hC : CX p s m args meth c cc nL own ret D T) {x : Int64} (hd : decode cc pc = .ok (.l2i, 1)) (k : GN p l e R s m args below meth c D T b nL em (pc + 1) lv (.int x.toInt32 :: st) M F) : GN p l e R s m args below meth c D T b nL em pc lv (.long x :: st) M F := fun r M9 h9 H locs ls hl hP hS => lv_l2i hC.1 hC.2.1 hd rfl (k r M9 h9 H locs ls hl hP hS)
theorem n_i2b {α : Type} {em : α → Option Value} {M : Me} {F : Option (α × Me)} (hC : CX p s m args meth c cc nL own ret D T) {x : Int32} (hd : decode cc pc = .ok (.i2b, 1)) (k : GN p l e R s m args below meth c D T b nL em (pc + 1) lv (.int x.toInt8.toInt32 :: st) M F) : GN p l e R s m args below meth c D T b nL em pc lv (.int x :: st) M F := fun r M9 h9 H locs ls hl hP hS => lv_i2b hC.1 hC.2.1 hd rfl (k r M9 h9 H locs ls hl hP hS)
/-- shifts, as the machine has them -/
def iUshr (x y : Int32) : Int32 := (x.toUInt32 >>> (y.toUInt32 &&& Int32.toUInt32 31)).toInt32
def lUshr (x : Int64) (y : Int32) : Int64 := (x.toUInt64 >>> (y.toInt64.toUInt64 &&& Int64.toUInt64 63)).toInt64
def lShl (x : Int64) (y : Int32) : Int64 := x <<< (y.toInt64 &&& 63)
def lShr (x : Int64) (y : Int32) : Int64 := x >>> (y.toInt64 &&& 63)
def iRem (x y : Int32) : Int32 := x - x / y * y
theorem n_iushr {α : Type} {em : α → Option Value} {M : Me} {F : Option (α × Me)} (hC : CX p s m args meth c cc nL own ret D T) {x y : Int32} (hd : decode cc pc = .ok (.iushr, 1)) (k : GN p l e R s m args below meth c D T b nL em (pc + 1) lv (.int (iUshr x y) :: st) M F) : GN p l e R s m args below meth c D T b nL em pc lv (.int y :: .int x :: st) M F := fun r M9 h9 H locs ls hl hP hS => lv_iushr hC.1 hC.2.1 hd rfl (k r M9 h9 H locs ls hl hP hS)
theorem n_lushr {α : Type} {em : α → Option Value} {M : Me} {F : Option (α × Me)} (hC : CX p s m args meth c cc nL own ret D T) {x : Int64} {y : Int32} (hd : decode cc pc = .ok (.lushr, 1)) (k : GN p l e R s m args below meth c D T b nL em (pc + 1) lv (.long (lUshr x y) :: st) M F) : GN p l e R s m args below meth c D T b nL em pc lv (.int y :: .long x :: st) M F := fun r M9 h9 H locs ls hl hP hS => lv_lushr hC.1 hC.2.1 hd rfl (k r M9 h9 H locs ls hl hP hS)
theorem n_lshl {α : Type} {em : α → Option Value} {M : Me} {F : Option (α × Me)} (hC : CX p s m args meth c cc nL own ret D T) {x : Int64} {y : Int32} (hd : decode cc pc = .ok (.lshl, 1)) (k : GN p l e R s m args below meth c D T b nL em (pc + 1) lv (.long (lShl x y) :: st) M F) : GN p l e R s m args below meth c D T b nL em pc lv (.int y :: .long x :: st) M F := fun r M9 h9 H locs ls hl hP hS => lv_lshl hC.1 hC.2.1 hd rfl (k r M9 h9 H locs ls hl hP hS)
theorem n_lshr {α : Type} {em : α → Option Value} {M : Me} {F : Option (α × Me)} (hC : CX p s m args meth c cc nL own ret D T) {x : Int64} {y : Int32} (hd : decode cc pc = .ok (.lshr, 1)) (k : GN p l e R s m args below meth c D T b nL em (pc + 1) lv (.long (lShr x y) :: st) M F) : GN p l e R s m args below meth c D T b nL em pc lv (.int y :: .long x :: st) M F := fun r M9 h9 H locs ls hl hP hS => lv_lshr hC.1 hC.2.1 hd rfl (k r M9 h9 H locs ls hl hP hS)
theorem n_dup {α : Type} {em : α → Option Value} {M : Me} {F : Option (α × Me)} (hC : CX p s m args meth c cc nL own ret D T) {v : Value} (hv : v.category = 1) (hd : decode cc pc = .ok (.dup, 1)) (k : GN p l e R s m args below meth c D T b nL em (pc + 1) lv (v :: v :: st) M F) : GN p l e R s m args below meth c D T b nL em pc lv (v :: st) M F := fun r M9 h9 H locs ls hl hP hS => lv_dup hC.1 hC.2.1 hd hv (k r M9 h9 H locs ls hl hP hS)
theorem n_pop {α : Type} {em : α → Option Value} {M : Me} {F : Option (α × Me)} (hC : CX p s m args meth c cc nL own ret D T) {v : Value} (hv : v.category = 1) (hd : decode cc pc = .ok (.pop, 1)) (k : GN p l e R s m args below meth c D T b nL em (pc + 1) lv (st) M F) : GN p l e R s m args below meth c D T b nL em pc lv (v :: st) M F := fun r M9 h9 H locs ls hl hP hS => lv_pop hC.1 hC.2.1 hd hv (k r M9 h9 H locs ls hl hP hS)
theorem n_dup2 {α : Type} {em : α → Option Value} {M : Me} {F : Option (α × Me)} (hC : CX p s m args meth c cc nL own ret D T) {v w : Value} (hv : v.category = 1) (hw : w.category = 1) (hd : decode cc pc = .ok (.dup2, 1)) (k : GN p l e R s m args below meth c D T b nL em (pc + 1) lv (v :: w :: v :: w :: st) M F) : GN p l e R s m args below meth c D T b nL em pc lv (v :: w :: st) M F := fun r M9 h9 H locs ls hl hP hS => lv_dup2_11 hC.1 hC.2.1 hd hv hw (k r M9 h9 H locs ls hl hP hS)
theorem n_goto {α : Type} {em : α → Option Value} {M : Me} {F : Option (α × Me)} (hC : CX p s m args meth c cc nL own ret D T) {off : Int} {tgt : Nat} (ht : (pc : Int) + off = (tgt : Int)) (hd : decode cc pc = .ok (.goto off, 3)) (k : GN p l e R s m args below meth c D T b nL em (tgt) lv (st) M F) : GN p l e R s m args below meth c D T b nL em pc lv (st) M F := fun r M9 h9 H locs ls hl hP hS => lv_goto hC.1 hC.2.1 hd ht (k r M9 h9 H locs ls hl hP hS)
end GR
end
section
/-! the words of the functions -/
def chk {γ : Type} (i : Int32) (n : Nat) (A : Option γ) : Option γ := if i < 0 ∨ n ≤ i.toNatClampNeg then none else A
def chZ {γ : Type} (x : Int32) (A : Option γ) : Option γ := if x = 0 ∨ x = 1 then A else none
def ch0 {γ : Type} (x : Int32) (A : Option γ) : Option γ := if x = 0 then none else A
def bnd {γ : Type} (M : Me) (A : Me → Option γ) : Option γ := A M
def cal {β γ : Type} (F : Option (β × Me)) (k : β → Me → Option γ) : Option γ := match F with
  | none => none
  | some q => k q.1 q.2
def eI : Int32 → Option Value := fun x => some (.int x)
def eL : Int64 → Option Value := fun x => some (.long x)
def eV : Unit → Option Value := fun _ => none
/-- a class of ours: its number, name, fields -/
def CL (ci : Nat) (C : String) (Tt : u_T) (N : Nat) : Prop := vwCl[ci]? = some (C, Tt, N) ∧ (∀ w ∈ u_ws C Tt N, w ∈ tb) ∧ nfl ci = N ∧ ci < 6 ∧ (∀ k, k < N → parseFieldDescriptor (Tt k).2.2.1 = some (tyf ci k)) ∧ (∀ a, a < N → ∀ b, b < N → a ≠ b → (Tt a).2.1 ≠ (Tt b).2.1)
def MV (y : MethodName) (cc : ByteArray) (maxL : Nat) (ret : Option FieldType) (n : Nat) : Prop := Cond.code y cc maxL ret ∈ tb ∧ Cond.initialized y.cls ∈ tb ∧ Cond.instanceMethod y ∈ tb ∧ Cond.selects y.cls y y ∈ tb ∧ (y.cls ≠ "java/lang/invoke/MethodHandle" ∧ y.cls ≠ "java/lang/invoke/VarHandle" ∧ (parseMethodDescriptor y.desc).map (fun d => d.parameters.length) = some n)
def MS (y : MethodName) (cc : ByteArray) (maxL : Nat) (ret : Option FieldType) (n : Nat) : Prop := Cond.code y cc maxL ret ∈ tb ∧ Cond.initialized y.cls ∈ tb ∧ Cond.static y ∈ tb ∧ (y.cls ≠ "java/lang/invoke/MethodHandle" ∧ y.cls ≠ "java/lang/invoke/VarHandle" ∧ (parseMethodDescriptor y.desc).map (fun d => d.parameters.length) = some n)
/-- a method's contract by its function -/
def CN {β : Type} (l : Launch) (y : MethodName) (cc : ByteArray) (maxL : Nat) (ret : Option FieldType) (rm : Room) (em : β → Option Value) (av : Nat → List Value) (M : Me) (F : Option (β × Me)) : Prop := ∀ (r : β) (M' : Me), F = some (r, M') → Ct l y cc maxL ret rm 0 0 av (mg M) (em r) (mg M')
section GB
variable {p : Program} {l : Launch} {e : Env} {R : Room} {s : State} {m : MethodId} {args : Array Value} {below : List Frame} {meth : Method} {c : Code} {D : va_G} {T : Nat → ClassId} {b nL : Nat} {cc : ByteArray} {own : String} {ret : Option FieldType} {Q : State → Prop} {pc : Nat} {lv : List (Nat × Value)} {st : List Value}
theorem n_if_eq {α : Type} {em : α → Option Value} {M : Me} {A B : Option (α × Me)} (hC : CX p s m args meth c cc nL own ret D T) {x : Int32} {off : Int} (tgt : Nat) (hd : decode cc pc = .ok (.ifCond .eq off, 3)) (ht : (pc : Int) + off = (tgt : Int)) (k1 : GN p l e R s m args below meth c D T b nL em tgt lv st M A) (k2 : GN p l e R s m args below meth c D T b nL em (pc + 3) lv st M B) : GN p l e R s m args below meth c D T b nL em pc lv (.int x :: st) M (if x = 0 then A else B) := fun r M9 h9 H locs ls hl hP hS => lv_if_eq hC.1 hC.2.1 hd ht (fun q => k1 r M9 (by rw [if_pos q] at h9; exact h9) H locs ls hl hP hS) (fun q => k2 r M9 (by rw [if_neg q] at h9; exact h9) H locs ls hl hP hS)
theorem n_if_ne {α : Type} {em : α → Option Value} {M : Me} {A B : Option (α × Me)} (hC : CX p s m args meth c cc nL own ret D T) {x : Int32} {off : Int} (tgt : Nat) (hd : decode cc pc = .ok (.ifCond .ne off, 3)) (ht : (pc : Int) + off = (tgt : Int)) (k1 : GN p l e R s m args below meth c D T b nL em tgt lv st M A) (k2 : GN p l e R s m args below meth c D T b nL em (pc + 3) lv st M B) : GN p l e R s m args below meth c D T b nL em pc lv (.int x :: st) M (if x = 0 then B else A) := fun r M9 h9 H locs ls hl hP hS => lv_if_ne hC.1 hC.2.1 hd ht (fun q => k1 r M9 (by rw [if_neg q] at h9; exact h9) H locs ls hl hP hS) (fun q => k2 r M9 (by rw [if_pos q] at h9; exact h9) H locs ls hl hP hS)
theorem n_if_lt {α : Type} {em : α → Option Value} {M : Me} {A B : Option (α × Me)} (hC : CX p s m args meth c cc nL own ret D T) {x : Int32} {off : Int} (tgt : Nat) (hd : decode cc pc = .ok (.ifCond .lt off, 3)) (ht : (pc : Int) + off = (tgt : Int)) (k1 : GN p l e R s m args below meth c D T b nL em tgt lv st M A) (k2 : GN p l e R s m args below meth c D T b nL em (pc + 3) lv st M B) : GN p l e R s m args below meth c D T b nL em pc lv (.int x :: st) M (if x < 0 then A else B) := fun r M9 h9 H locs ls hl hP hS => lv_if_lt hC.1 hC.2.1 hd ht (fun q => k1 r M9 (by rw [if_pos q] at h9; exact h9) H locs ls hl hP hS) (fun q => k2 r M9 (by rw [if_neg q] at h9; exact h9) H locs ls hl hP hS)
theorem n_if_ge {α : Type} {em : α → Option Value} {M : Me} {A B : Option (α × Me)} (hC : CX p s m args meth c cc nL own ret D T) {x : Int32} {off : Int} (tgt : Nat) (hd : decode cc pc = .ok (.ifCond .ge off, 3)) (ht : (pc : Int) + off = (tgt : Int)) (k1 : GN p l e R s m args below meth c D T b nL em tgt lv st M A) (k2 : GN p l e R s m args below meth c D T b nL em (pc + 3) lv st M B) : GN p l e R s m args below meth c D T b nL em pc lv (.int x :: st) M (if 0 ≤ x then A else B) := fun r M9 h9 H locs ls hl hP hS => lv_if_ge hC.1 hC.2.1 hd ht (fun q => k1 r M9 (by rw [if_pos q] at h9; exact h9) H locs ls hl hP hS) (fun q => k2 r M9 (by rw [if_neg q] at h9; exact h9) H locs ls hl hP hS)
theorem n_if_gt {α : Type} {em : α → Option Value} {M : Me} {A B : Option (α × Me)} (hC : CX p s m args meth c cc nL own ret D T) {x : Int32} {off : Int} (tgt : Nat) (hd : decode cc pc = .ok (.ifCond .gt off, 3)) (ht : (pc : Int) + off = (tgt : Int)) (k1 : GN p l e R s m args below meth c D T b nL em tgt lv st M A) (k2 : GN p l e R s m args below meth c D T b nL em (pc + 3) lv st M B) : GN p l e R s m args below meth c D T b nL em pc lv (.int x :: st) M (if 0 < x then A else B) := fun r M9 h9 H locs ls hl hP hS => lv_if_gt hC.1 hC.2.1 hd ht (fun q => k1 r M9 (by rw [if_pos q] at h9; exact h9) H locs ls hl hP hS) (fun q => k2 r M9 (by rw [if_neg q] at h9; exact h9) H locs ls hl hP hS)
theorem n_if_le {α : Type} {em : α → Option Value} {M : Me} {A B : Option (α × Me)} (hC : CX p s m args meth c cc nL own ret D T) {x : Int32} {off : Int} (tgt : Nat) (hd : decode cc pc = .ok (.ifCond .le off, 3)) (ht : (pc : Int) + off = (tgt : Int)) (k1 : GN p l e R s m args below meth c D T b nL em tgt lv st M A) (k2 : GN p l e R s m args below meth c D T b nL em (pc + 3) lv st M B) : GN p l e R s m args below meth c D T b nL em pc lv (.int x :: st) M (if x ≤ 0 then A else B) := fun r M9 h9 H locs ls hl hP hS => lv_if_le hC.1 hC.2.1 hd ht (fun q => k1 r M9 (by rw [if_pos q] at h9; exact h9) H locs ls hl hP hS) (fun q => k2 r M9 (by rw [if_neg q] at h9; exact h9) H locs ls hl hP hS)
theorem n_icmp_eq {α : Type} {em : α → Option Value} {M : Me} {A B : Option (α × Me)} (hC : CX p s m args meth c cc nL own ret D T) {x y : Int32} {off : Int} (tgt : Nat) (hd : decode cc pc = .ok (.if_icmp .eq off, 3)) (ht : (pc : Int) + off = (tgt : Int)) (k1 : GN p l e R s m args below meth c D T b nL em tgt lv st M A) (k2 : GN p l e R s m args below meth c D T b nL em (pc + 3) lv st M B) : GN p l e R s m args below meth c D T b nL em pc lv (.int y :: .int x :: st) M (if x = y then A else B) := fun r M9 h9 H locs ls hl hP hS => lv_icmp_eq hC.1 hC.2.1 hd ht (fun q => k1 r M9 (by rw [if_pos q] at h9; exact h9) H locs ls hl hP hS) (fun q => k2 r M9 (by rw [if_neg q] at h9; exact h9) H locs ls hl hP hS)
theorem n_icmp_ne {α : Type} {em : α → Option Value} {M : Me} {A B : Option (α × Me)} (hC : CX p s m args meth c cc nL own ret D T) {x y : Int32} {off : Int} (tgt : Nat) (hd : decode cc pc = .ok (.if_icmp .ne off, 3)) (ht : (pc : Int) + off = (tgt : Int)) (k1 : GN p l e R s m args below meth c D T b nL em tgt lv st M A) (k2 : GN p l e R s m args below meth c D T b nL em (pc + 3) lv st M B) : GN p l e R s m args below meth c D T b nL em pc lv (.int y :: .int x :: st) M (if x = y then B else A) := fun r M9 h9 H locs ls hl hP hS => lv_icmp_ne hC.1 hC.2.1 hd ht (fun q => k1 r M9 (by rw [if_neg q] at h9; exact h9) H locs ls hl hP hS) (fun q => k2 r M9 (by rw [if_pos q] at h9; exact h9) H locs ls hl hP hS)
theorem n_icmp_lt {α : Type} {em : α → Option Value} {M : Me} {A B : Option (α × Me)} (hC : CX p s m args meth c cc nL own ret D T) {x y : Int32} {off : Int} (tgt : Nat) (hd : decode cc pc = .ok (.if_icmp .lt off, 3)) (ht : (pc : Int) + off = (tgt : Int)) (k1 : GN p l e R s m args below meth c D T b nL em tgt lv st M A) (k2 : GN p l e R s m args below meth c D T b nL em (pc + 3) lv st M B) : GN p l e R s m args below meth c D T b nL em pc lv (.int y :: .int x :: st) M (if x < y then A else B) := fun r M9 h9 H locs ls hl hP hS => lv_icmp_lt hC.1 hC.2.1 hd ht (fun q => k1 r M9 (by rw [if_pos q] at h9; exact h9) H locs ls hl hP hS) (fun q => k2 r M9 (by rw [if_neg q] at h9; exact h9) H locs ls hl hP hS)
theorem n_icmp_ge {α : Type} {em : α → Option Value} {M : Me} {A B : Option (α × Me)} (hC : CX p s m args meth c cc nL own ret D T) {x y : Int32} {off : Int} (tgt : Nat) (hd : decode cc pc = .ok (.if_icmp .ge off, 3)) (ht : (pc : Int) + off = (tgt : Int)) (k1 : GN p l e R s m args below meth c D T b nL em tgt lv st M A) (k2 : GN p l e R s m args below meth c D T b nL em (pc + 3) lv st M B) : GN p l e R s m args below meth c D T b nL em pc lv (.int y :: .int x :: st) M (if y ≤ x then A else B) := fun r M9 h9 H locs ls hl hP hS => lv_icmp_ge hC.1 hC.2.1 hd ht (fun q => k1 r M9 (by rw [if_pos q] at h9; exact h9) H locs ls hl hP hS) (fun q => k2 r M9 (by rw [if_neg q] at h9; exact h9) H locs ls hl hP hS)
theorem n_icmp_gt {α : Type} {em : α → Option Value} {M : Me} {A B : Option (α × Me)} (hC : CX p s m args meth c cc nL own ret D T) {x y : Int32} {off : Int} (tgt : Nat) (hd : decode cc pc = .ok (.if_icmp .gt off, 3)) (ht : (pc : Int) + off = (tgt : Int)) (k1 : GN p l e R s m args below meth c D T b nL em tgt lv st M A) (k2 : GN p l e R s m args below meth c D T b nL em (pc + 3) lv st M B) : GN p l e R s m args below meth c D T b nL em pc lv (.int y :: .int x :: st) M (if y < x then A else B) := fun r M9 h9 H locs ls hl hP hS => lv_icmp_gt hC.1 hC.2.1 hd ht (fun q => k1 r M9 (by rw [if_pos q] at h9; exact h9) H locs ls hl hP hS) (fun q => k2 r M9 (by rw [if_neg q] at h9; exact h9) H locs ls hl hP hS)
theorem n_icmp_le {α : Type} {em : α → Option Value} {M : Me} {A B : Option (α × Me)} (hC : CX p s m args meth c cc nL own ret D T) {x y : Int32} {off : Int} (tgt : Nat) (hd : decode cc pc = .ok (.if_icmp .le off, 3)) (ht : (pc : Int) + off = (tgt : Int)) (k1 : GN p l e R s m args below meth c D T b nL em tgt lv st M A) (k2 : GN p l e R s m args below meth c D T b nL em (pc + 3) lv st M B) : GN p l e R s m args below meth c D T b nL em pc lv (.int y :: .int x :: st) M (if x ≤ y then A else B) := fun r M9 h9 H locs ls hl hP hS => lv_icmp_le hC.1 hC.2.1 hd ht (fun q => k1 r M9 (by rw [if_pos q] at h9; exact h9) H locs ls hl hP hS) (fun q => k2 r M9 (by rw [if_neg q] at h9; exact h9) H locs ls hl hP hS)
theorem n_lcmp {α : Type} {em : α → Option Value} {M : Me} {F : Option (α × Me)} (hC : CX p s m args meth c cc nL own ret D T) {x y : Int64} (hd : decode cc pc = .ok (.lcmp, 1)) (k : GN p l e R s m args below meth c D T b nL em (pc + 1) lv (.int (lg_cmp x y) :: st) M F) : GN p l e R s m args below meth c D T b nL em pc lv (.long y :: .long x :: st) M F := fun r M9 h9 H locs ls hl hP hS => W.lcmp hC.1 hC.2.1 hd (k r M9 h9 H locs ls hl hP hS)
theorem n_ishl {α : Type} {em : α → Option Value} {M : Me} {F : Option (α × Me)} (hC : CX p s m args meth c cc nL own ret D T) {x y : Int32} (hd : decode cc pc = .ok (.ishl, 1)) (k : GN p l e R s m args below meth c D T b nL em (pc + 1) lv (.int (x <<< (y &&& 31)) :: st) M F) : GN p l e R s m args below meth c D T b nL em pc lv (.int y :: .int x :: st) M F := fun r M9 h9 H locs ls hl hP hS => lv_ishl hC.1 hC.2.1 hd (k r M9 h9 H locs ls hl hP hS)
theorem n_idiv {α : Type} {em : α → Option Value} {M : Me} {A : Option (α × Me)} (hC : CX p s m args meth c cc nL own ret D T) {x y : Int32} (hd : decode cc pc = .ok (.idiv, 1)) (k : GN p l e R s m args below meth c D T b nL em (pc + 1) lv (.int (x / y) :: st) M A) : GN p l e R s m args below meth c D T b nL em pc lv (.int y :: .int x :: st) M (ch0 y A) := by
  intro r M9 h9 H locs ls hl hP hS
  by_cases hy : y = 0
  · unfold ch0 at h9
    rw [if_pos hy] at h9
    cases h9
  · unfold ch0 at h9
    rw [if_neg hy] at h9
    exact lv_idiv hC.1 hC.2.1 hd hy (k r M9 h9 H locs ls hl hP hS)
theorem n_irem {α : Type} {em : α → Option Value} {M : Me} {A : Option (α × Me)} (hC : CX p s m args meth c cc nL own ret D T) {x y : Int32} (hd : decode cc pc = .ok (.irem, 1)) (k : GN p l e R s m args below meth c D T b nL em (pc + 1) lv (.int (iRem x y) :: st) M A) : GN p l e R s m args below meth c D T b nL em pc lv (.int y :: .int x :: st) M (ch0 y A) := by
  intro r M9 h9 H locs ls hl hP hS
  by_cases hy : y = 0
  · unfold ch0 at h9
    rw [if_pos hy] at h9
    cases h9
  · unfold ch0 at h9
    rw [if_neg hy] at h9
    exact lv_irem hC.1 hC.2.1 hd hy (k r M9 h9 H locs ls hl hP hS)
theorem chk_in {γ : Type} {i : Int32} {n : Nat} {A : Option γ} {z : γ} (h : chk i n A = some z) : vp_in i n ∧ A = some z := by
  unfold chk at h
  by_cases hq : i < 0 ∨ n ≤ i.toNatClampNeg
  · rw [if_pos hq] at h
    cases h
  · rw [if_neg hq] at h
    exact ⟨hq, h⟩
theorem ar_at {D : va_G} {T : Nat → ClassId} {b : Nat} {M : Me} {H : Heap} {a ci : Nat} (hk : kd a = ci) (hc : ¬ ci < 6) (hc2 : ci < 9) : (wsM T b (mg M))[a]? = some (b + a, .inl (T ci, ln a, .inl (M.1 a))) := by
  rw [wsM_at (M := mg M) (kd_lt hk (by omega)), cel_arr hk hc hc2]
  rfl
theorem n_iald {α : Type} {em : α → Option Value} {M : Me} {A : Option (α × Me)} (hC : CX p s m args meth c cc nL own ret D T) {a : Nat} {i : Int32} (hk : kd a = 7) (hd : decode cc pc = .ok (.iaload, 1)) (k : vp_in i (ln a) → GN p l e R s m args below meth c D T b nL em (pc + 1) lv (.int (M.1 a i.toNatClampNeg) :: st) M A) : GN p l e R s m args below meth c D T b nL em pc lv (.int i :: .ref (b + a) :: st) M (chk i (ln a) A) := by
  intro r M9 h9 H locs ls hl hP hS
  obtain ⟨hi, h9⟩ := chk_in h9
  exact va_iald hC.1 hC.2.1 hC.2.2.2.2.2.2.2.1 hP a 1 (ar_at (D := D) (H := H) hk (by decide) (by decide)) rfl hi hd (k hi r M9 h9 H locs ls hl hP hS)
theorem n_bald {α : Type} {em : α → Option Value} {M : Me} {A : Option (α × Me)} (hC : CX p s m args meth c cc nL own ret D T) {a : Nat} {i : Int32} (hk : kd a = 6) (hd : decode cc pc = .ok (.baload, 1)) (k : vp_in i (ln a) → GN p l e R s m args below meth c D T b nL em (pc + 1) lv (.int (M.1 a i.toNatClampNeg) :: st) M A) : GN p l e R s m args below meth c D T b nL em pc lv (.int i :: .ref (b + a) :: st) M (chk i (ln a) A) := by
  intro r M9 h9 H locs ls hl hP hS
  obtain ⟨hi, h9⟩ := chk_in h9
  exact va_bald hC.1 hC.2.1 hC.2.2.2.2.2.2.2.1 hP a 0 (ar_at (D := D) (H := H) hk (by decide) (by decide)) rfl hi hd (k hi r M9 h9 H locs ls hl hP hS)
theorem n_zald {α : Type} {em : α → Option Value} {M : Me} {A : Option (α × Me)} (hC : CX p s m args meth c cc nL own ret D T) {a : Nat} {i : Int32} (hk : kd a = 8) (hd : decode cc pc = .ok (.baload, 1)) (k : vp_in i (ln a) → GN p l e R s m args below meth c D T b nL em (pc + 1) lv (.int (M.1 a i.toNatClampNeg) :: st) M A) : GN p l e R s m args below meth c D T b nL em pc lv (.int i :: .ref (b + a) :: st) M (chk i (ln a) A) := by
  intro r M9 h9 H locs ls hl hP hS
  obtain ⟨hi, h9⟩ := chk_in h9
  exact va_zald hC.1 hC.2.1 hC.2.2.2.2.2.2.2.1 hP a 2 (ar_at (D := D) (H := H) hk (by decide) (by decide)) rfl hi hd (k hi r M9 h9 H locs ls hl hP hS)
theorem n_iast {α : Type} {em : α → Option Value} {M : Me} {A : Me → Option (α × Me)} (hC : CX p s m args meth c cc nL own ret D T) {a : Nat} {i x : Int32} (hk : kd a = 7) (hd : decode cc pc = .ok (.iastore, 1)) (k : ∀ M1 : Me, GN p l e R s m args below meth c D T b nL em (pc + 1) lv st M1 (A M1)) : GN p l e R s m args below meth c D T b nL em pc lv (.int x :: .int i :: .ref (b + a) :: st) M (chk i (ln a) (bnd (sI M a i.toNatClampNeg x) A)) := by
  intro r M9 h9 H locs ls hl hP hS
  obtain ⟨hi, h9⟩ := chk_in h9
  refine va_iast hC.1 hC.2.1 hC.2.2.2.2.2.2.2.1 hP wsM_D hS a 1 (ar_at (D := D) (H := H) hk (by decide) (by decide)) rfl hi hd (fun H1 locs1 hP1 hD1 hS1 => ?_)
  refine k _ r M9 h9 H1 locs1 ls hl ?_ hS1
  rw [wsM_set (M := mg M) (M' := mg (sI M a i.toNatClampNeg x)) rfl ?_ ?_] at hP1
  · exact hP1
  · rw [cel_arr hk (by decide) (by decide)]
    show _ = Sum.inl (T 7, ln a, Sum.inl (up2 M.1 a i.toNatClampNeg x a))
    rw [up2_row]
    rfl
  · intro q hq
    exact cel_oth (up2_r _ _ _ hq) rfl rfl
theorem n_bast {α : Type} {em : α → Option Value} {M : Me} {A : Me → Option (α × Me)} (hC : CX p s m args meth c cc nL own ret D T) {a : Nat} {i x : Int32} (hk : kd a = 6) (hd : decode cc pc = .ok (.bastore, 1)) (k : ∀ M1 : Me, GN p l e R s m args below meth c D T b nL em (pc + 1) lv st M1 (A M1)) : GN p l e R s m args below meth c D T b nL em pc lv (.int x :: .int i :: .ref (b + a) :: st) M (chk i (ln a) (bnd (sI M a i.toNatClampNeg (vp_nar .byte x)) A)) := by
  intro r M9 h9 H locs ls hl hP hS
  obtain ⟨hi, h9⟩ := chk_in h9
  refine va_bast hC.1 hC.2.1 hC.2.2.2.2.2.2.2.1 hP wsM_D hS a 0 (ar_at (D := D) (H := H) hk (by decide) (by decide)) rfl hi hd (fun H1 locs1 hP1 hD1 hS1 => ?_)
  refine k _ r M9 h9 H1 locs1 ls hl ?_ hS1
  rw [wsM_set (M := mg M) (M' := mg (sI M a i.toNatClampNeg (vp_nar .byte x))) rfl ?_ ?_] at hP1
  · exact hP1
  · rw [cel_arr hk (by decide) (by decide)]
    show _ = Sum.inl (T 6, ln a, Sum.inl (up2 M.1 a i.toNatClampNeg (vp_nar .byte x) a))
    rw [up2_row]
    rfl
  · intro q hq
    exact cel_oth (up2_r _ _ _ hq) rfl rfl
theorem n_zast {α : Type} {em : α → Option Value} {M : Me} {A : Me → Option (α × Me)} (hC : CX p s m args meth c cc nL own ret D T) {a : Nat} {i x : Int32} (hk : kd a = 8) (hd : decode cc pc = .ok (.bastore, 1)) (k : ∀ M1 : Me, GN p l e R s m args below meth c D T b nL em (pc + 1) lv st M1 (A M1)) : GN p l e R s m args below meth c D T b nL em pc lv (.int x :: .int i :: .ref (b + a) :: st) M (chk i (ln a) (bnd (sI M a i.toNatClampNeg (vp_nar .boolean x)) A)) := by
  intro r M9 h9 H locs ls hl hP hS
  obtain ⟨hi, h9⟩ := chk_in h9
  refine va_zast hC.1 hC.2.1 hC.2.2.2.2.2.2.2.1 hP wsM_D hS a 2 (ar_at (D := D) (H := H) hk (by decide) (by decide)) rfl hi hd (fun H1 locs1 hP1 hD1 hS1 => ?_)
  refine k _ r M9 h9 H1 locs1 ls hl ?_ hS1
  rw [wsM_set (M := mg M) (M' := mg (sI M a i.toNatClampNeg (vp_nar .boolean x))) rfl ?_ ?_] at hP1
  · exact hP1
  · rw [cel_arr hk (by decide) (by decide)]
    show _ = Sum.inl (T 8, ln a, Sum.inl (up2 M.1 a i.toNatClampNeg (vp_nar .boolean x) a))
    rw [up2_row]
    rfl
  · intro q hq
    exact cel_oth (up2_r _ _ _ hq) rfl rfl
theorem n_alen {α : Type} {em : α → Option Value} {M : Me} {F : Option (α × Me)} (hC : CX p s m args meth c cc nL own ret D T) {a ci : Nat} (hk : kd a = ci) (hc : 6 ≤ ci ∧ ci < 9) (hd : decode cc pc = .ok (.arraylength, 1)) (k : GN p l e R s m args below meth c D T b nL em (pc + 1) lv (.int (nI (ln a)) :: st) M F) : GN p l e R s m args below meth c D T b nL em pc lv (.ref (b + a) :: st) M F := by
  intro r M9 h9 H locs ls hl hP hS
  obtain ⟨ty, ht⟩ : ∃ ty, (tyl T)[ci - 6]? = some (T ci, ty) := by
    rcases (show ci = 6 ∨ ci = 7 ∨ ci = 8 by omega) with q | q | q <;> subst q <;> exact ⟨_, rfl⟩
  exact va_alen hC.1 hC.2.1 hC.2.2.2.2.2.2.2.1 hP a (ci - 6) (ar_at (D := D) (H := H) hk (by omega) hc.2) ht rfl hd (k r M9 h9 H locs ls hl hP hS)
theorem n_aaldE {α : Type} {em : α → Option Value} {M : Me} {A : Option (α × Me)} (hC : CX p s m args meth c cc nL own ret D T) {a : Nat} {i : Int32} (hk : kd a = 9) (hd : decode cc pc = .ok (.aaload, 1)) (k : vp_in i (ln a) → GN p l e R s m args below meth c D T b nL em (pc + 1) lv (.ref (b + rf a i.toNatClampNeg) :: st) M A) : GN p l e R s m args below meth c D T b nL em pc lv (.int i :: .ref (b + a) :: st) M (chk i (ln a) A) := by
  intro r M9 h9 H locs ls hl hP hS
  obtain ⟨hi, h9⟩ := chk_in h9
  exact va_aldq (f := fun j => some (b + rf a j)) hC.1 hC.2.1 hC.2.2.2.2.2.2.2.1 hP a 3 ((wsM_at (M := mg M) (kd_lt hk (by decide))).trans (by rw [cel_ref hk (by decide)]; rfl)) rfl hi hd (k hi r M9 h9 H locs ls hl hP hS)
theorem n_aaldR {α : Type} {em : α → Option Value} {M : Me} {A : Option (α × Me)} (hC : CX p s m args meth c cc nL own ret D T) {a : Nat} {i : Int32} (hk : kd a = 10) (hd : decode cc pc = .ok (.aaload, 1)) (k : vp_in i (ln a) → GN p l e R s m args below meth c D T b nL em (pc + 1) lv (.ref (b + rf a i.toNatClampNeg) :: st) M A) : GN p l e R s m args below meth c D T b nL em pc lv (.int i :: .ref (b + a) :: st) M (chk i (ln a) A) := by
  intro r M9 h9 H locs ls hl hP hS
  obtain ⟨hi, h9⟩ := chk_in h9
  exact va_aldq (f := fun j => some (b + rf a j)) hC.1 hC.2.1 hC.2.2.2.2.2.2.2.1 hP a 4 ((wsM_at (M := mg M) (kd_lt hk (by decide))).trans (by rw [cel_ref hk (by decide)]; rfl)) rfl hi hd (k hi r M9 h9 H locs ls hl hP hS)
theorem ob_at {T : Nat → ClassId} {b : Nat} {M : Me} {a ci : Nat} (hk : kd a = ci) (hc : ci < 6) : (wsM T b (mg M))[a]? = some (b + a, .inr (ci, (List.range (nfl ci)).map (fun k => fvl b (mg M) a (tyf ci k) k))) := by
  rw [wsM_at (M := mg M) (kd_lt hk (by omega)), cel_obj hk hc]
theorem fs_at {α : Type} {f : Nat → α} {N k : Nat} (h : k < N) : ((List.range N).map f)[k]? = some (f k) := by
  rw [List.getElem?_map, List.getElem?_range h]
  rfl
theorem n_get {α : Type} {em : α → Option Value} {M : Me} {F : Option (α × Me)} (hC : CX p s m args meth c cc nL own ret D T) {ci N index : Nat} {C : String} {Tt : u_T} (hCL : CL ci C Tt N) {a : Nat} (hk : kd a = ci) (k : Nat) (v : Value) (hkN : k < N) (hn : (Tt k).1 = C) (hw : Cond.fieldLink own index C (Tt k).2.1 (Tt k).2.2.1 ∈ tb) (hv : fvl b (mg M) a (tyf ci k) k = v) (hd : decode cc pc = .ok (.getfield index, 3)) (kk : GN p l e R s m args below meth c D T b nL em (pc + 3) lv (v :: st) M F) : GN p l e R s m args below meth c D T b nL em pc lv (.ref (b + a) :: st) M F := by
  intro r M9 h9 H locs ls hl hP hS
  obtain ⟨c1, c2, c3, c4, c5, c6⟩ := hCL
  exact va_get hC.1 hC.2.1 hC.2.2.2.2.2.2.1 c2 hC.2.2.2.1 hC.2.2.2.2.2.2.2.1 hP a (ob_at hk c4) c1 k hkN (hC.2.2.2.2.2.2.1 _ hw) (fun x h => by rw [hn] at h; exact h) (by rw [fs_at (by rw [c3]; exact hkN), hv]) hd (kk r M9 h9 H locs ls hl hP hS)
theorem n_putI {α : Type} {em : α → Option Value} {M : Me} {A : Me → Option (α × Me)} (hC : CX p s m args meth c cc nL own ret D T) {ci N index : Nat} {C : String} {Tt : u_T} (hCL : CL ci C Tt N) {a : Nat} (hk : kd a = ci) (k : Nat) {x : Int32} (hkN : k < N) (hn : (Tt k).1 = C) (hty : tyf ci k = .int) (hfin : (Tt k).2.2.2 = false) (hw : Cond.fieldLink own index C (Tt k).2.1 (Tt k).2.2.1 ∈ tb) (hd : decode cc pc = .ok (.putfield index, 3)) (kk : ∀ M1 : Me, GN p l e R s m args below meth c D T b nL em (pc + 3) lv st M1 (A M1)) : GN p l e R s m args below meth c D T b nL em pc lv (.int x :: .ref (b + a) :: st) M (bnd (sI M a k x) A) := by
  intro r M9 h9 H locs ls hl hP hS
  obtain ⟨c1, c2, c3, c4, c5, c6⟩ := hCL
  refine va_put hC.1 hC.2.1 hC.2.2.2.2.2.2.1 c2 (tyf ci) c5 c6 hC.2.2.2.1 hC.2.2.2.2.2.2.2.1 hP wsM_D hS a (ob_at hk c4) c1 k hkN (hC.2.2.2.2.2.2.1 _ hw) (fun x h => by rw [hn] at h; exact h) hfin (c5 k hkN) (by rw [hty]; rfl) (by rw [hty]; rfl) (by simpa [c3] using hkN) hd (fun H1 locs1 hP1 hD1 hS1 => ?_)
  refine kk _ r M9 h9 H1 locs1 ls hl ?_ hS1
  rw [wsM_set (M := mg M) (M' := mg (sI M a k x)) rfl ?_ ?_] at hP1
  · exact hP1
  · rw [cel_obj hk c4]
    refine congrArg (fun z => Sum.inr (ci, z)) (map_set (fun j => fvl b (mg M) a (tyf ci j) j) (fun j => fvl b (mg (sI M a k x)) a (tyf ci j) j) _ _ _ ?_ ?_)
    · show fvl b (mg (sI M a k x)) a (tyf ci k) k = _
      rw [hty]
      show Value.int (up2 M.1 a k x a k) = _
      rw [up2_s]
    · intro j hj
      show fvl b (mg (sI M a k x)) a (tyf ci j) j = fvl b (mg M) a (tyf ci j) j
      unfold fvl
      have e1 : (mg (sI M a k x)).1 a j = (mg M).1 a j := up2_k _ _ hj
      split <;> first | rfl | (rw [e1])
  · intro q hq
    exact cel_oth (up2_r _ _ _ hq) rfl rfl
theorem n_putL {α : Type} {em : α → Option Value} {M : Me} {A : Me → Option (α × Me)} (hC : CX p s m args meth c cc nL own ret D T) {ci N index : Nat} {C : String} {Tt : u_T} (hCL : CL ci C Tt N) {a : Nat} (hk : kd a = ci) (k : Nat) {x : Int64} (hkN : k < N) (hn : (Tt k).1 = C) (hty : tyf ci k = .long) (hfin : (Tt k).2.2.2 = false) (hw : Cond.fieldLink own index C (Tt k).2.1 (Tt k).2.2.1 ∈ tb) (hd : decode cc pc = .ok (.putfield index, 3)) (kk : ∀ M1 : Me, GN p l e R s m args below meth c D T b nL em (pc + 3) lv st M1 (A M1)) : GN p l e R s m args below meth c D T b nL em pc lv (.long x :: .ref (b + a) :: st) M (bnd (sL M a k x) A) := by
  intro r M9 h9 H locs ls hl hP hS
  obtain ⟨c1, c2, c3, c4, c5, c6⟩ := hCL
  refine va_put hC.1 hC.2.1 hC.2.2.2.2.2.2.1 c2 (tyf ci) c5 c6 hC.2.2.2.1 hC.2.2.2.2.2.2.2.1 hP wsM_D hS a (ob_at hk c4) c1 k hkN (hC.2.2.2.2.2.2.1 _ hw) (fun x h => by rw [hn] at h; exact h) hfin (c5 k hkN) (by rw [hty]; rfl) (by rw [hty]; rfl) (by simpa [c3] using hkN) hd (fun H1 locs1 hP1 hD1 hS1 => ?_)
  refine kk _ r M9 h9 H1 locs1 ls hl ?_ hS1
  rw [wsM_set (M := mg M) (M' := mg (sL M a k x)) rfl ?_ ?_] at hP1
  · exact hP1
  · rw [cel_obj hk c4]
    refine congrArg (fun z => Sum.inr (ci, z)) (map_set (fun j => fvl b (mg M) a (tyf ci j) j) (fun j => fvl b (mg (sL M a k x)) a (tyf ci j) j) _ _ _ ?_ ?_)
    · show fvl b (mg (sL M a k x)) a (tyf ci k) k = _
      rw [hty]
      show Value.long (up2 M.2 a k x a k) = _
      rw [up2_s]
    · intro j hj
      show fvl b (mg (sL M a k x)) a (tyf ci j) j = fvl b (mg M) a (tyf ci j) j
      unfold fvl
      have e1 : (mg (sL M a k x)).2.1 a j = (mg M).2.1 a j := up2_k _ _ hj
      split <;> first | rfl | (rw [e1])
  · intro q hq
    exact cel_oth rfl (up2_r _ _ _ hq) rfl
theorem n_putZ {α : Type} {em : α → Option Value} {M : Me} {A : Me → Option (α × Me)} (hC : CX p s m args meth c cc nL own ret D T) {ci N index : Nat} {C : String} {Tt : u_T} (hCL : CL ci C Tt N) {a : Nat} (hk : kd a = ci) (k : Nat) {x : Int32} (hkN : k < N) (hn : (Tt k).1 = C) (hty : tyf ci k = .boolean) (hfin : (Tt k).2.2.2 = false) (hw : Cond.fieldLink own index C (Tt k).2.1 (Tt k).2.2.1 ∈ tb) (hd : decode cc pc = .ok (.putfield index, 3)) (kk : ∀ M1 : Me, GN p l e R s m args below meth c D T b nL em (pc + 3) lv st M1 (A M1)) : GN p l e R s m args below meth c D T b nL em pc lv (.int x :: .ref (b + a) :: st) M (chZ x (bnd (sI M a k x) A)) := by
  intro r M9 h9 H locs ls hl hP hS
  obtain ⟨c1, c2, c3, c4, c5, c6⟩ := hCL
  have hz : x = 0 ∨ x = 1 := by
    unfold chZ at h9
    by_cases q : x = 0 ∨ x = 1
    · exact q
    · rw [if_neg q] at h9
      cases h9
  unfold chZ at h9
  rw [if_pos hz] at h9
  refine va_put hC.1 hC.2.1 hC.2.2.2.2.2.2.1 c2 (tyf ci) c5 c6 hC.2.2.2.1 hC.2.2.2.2.2.2.2.1 hP wsM_D hS a (ob_at hk c4) c1 k hkN (hC.2.2.2.2.2.2.1 _ hw) (fun x h => by rw [hn] at h; exact h) hfin (c5 k hkN) (by rw [hty]; rcases hz with q | q <;> subst q <;> rfl) (by rw [hty]; rcases hz with q | q <;> subst q <;> rfl) (by simpa [c3] using hkN) hd (fun H1 locs1 hP1 hD1 hS1 => ?_)
  refine kk _ r M9 h9 H1 locs1 ls hl ?_ hS1
  rw [wsM_set (M := mg M) (M' := mg (sI M a k x)) rfl ?_ ?_] at hP1
  · exact hP1
  · rw [cel_obj hk c4]
    refine congrArg (fun z => Sum.inr (ci, z)) (map_set (fun j => fvl b (mg M) a (tyf ci j) j) (fun j => fvl b (mg (sI M a k x)) a (tyf ci j) j) _ _ _ ?_ ?_)
    · show fvl b (mg (sI M a k x)) a (tyf ci k) k = _
      rw [hty]
      show Value.int (up2 M.1 a k x a k) = _
      rw [up2_s]
    · intro j hj
      show fvl b (mg (sI M a k x)) a (tyf ci j) j = fvl b (mg M) a (tyf ci j) j
      unfold fvl
      have e1 : (mg (sI M a k x)).1 a j = (mg M).1 a j := up2_k _ _ hj
      split <;> first | rfl | (rw [e1])
  · intro q hq
    exact cel_oth (up2_r _ _ _ hq) rfl rfl
theorem n_iret {M : Me} {x : Int32} (hC : CX p s m args meth c cc nL own (some .int) D T) (hd : decode cc pc = .ok (.ireturn, 1)) : GN p l e R s m args below meth c D T b nL eI pc lv [.int x] M (some (x, M)) := by
  intro r M9 h9 H locs ls hl hP hS
  cases h9
  have hlk := hC.2.2.2.2.2.1
  exact W.iret hC.1 hC.2.1 hC.2.2.2.2.1 (fun t ht hW => ⟨⟨rfl, by rw [ht]; exact hP⟩, hS.F ht⟩) hS.2.2 hd
theorem n_lret {M : Me} {x : Int64} (hC : CX p s m args meth c cc nL own (some .long) D T) (hd : decode cc pc = .ok (.lreturn, 1)) : GN p l e R s m args below meth c D T b nL eL pc lv [.long x] M (some (x, M)) := by
  intro r M9 h9 H locs ls hl hP hS
  cases h9
  have hlk := hC.2.2.2.2.2.1
  exact W.lret hC.1 hC.2.1 hC.2.2.2.2.1 (fun t ht hW => ⟨⟨rfl, by rw [ht]; exact hP⟩, hS.F ht⟩) hS.2.2 hd
theorem n_zret {M : Me} {x : Int32} (hC : CX p s m args meth c cc nL own (some .boolean) D T) (hd : decode cc pc = .ok (.ireturn, 1)) : GN p l e R s m args below meth c D T b nL eI pc lv [.int x] M (chZ x (some (x, M))) := by
  intro r M9 h9 H locs ls hl hP hS
  have hz : x = 0 ∨ x = 1 := by
    unfold chZ at h9
    by_cases q : x = 0 ∨ x = 1
    · exact q
    · rw [if_neg q] at h9
      cases h9
  unfold chZ at h9
  rw [if_pos hz] at h9
  cases h9
  have hlk := hC.2.2.2.2.2.1
  exact W.zret hC.1 hC.2.1 hC.2.2.2.2.1 (by rcases hz with q | q <;> subst q <;> rfl) (fun t ht hW => ⟨⟨rfl, by rw [ht]; exact hP⟩, hS.F ht⟩) hS.2.2 hd
theorem n_vret {M : Me} (hC : CX p s m args meth c cc nL own none D T) (hd : decode cc pc = .ok (.return_, 1)) : GN p l e R s m args below meth c D T b nL eV pc lv [] M (some ((), M)) := by
  intro r M9 h9 H locs ls hl hP hS
  cases h9
  have hlk := hC.2.2.2.2.2.1
  exact W.vret hC.1 hC.2.1 hC.2.2.2.2.1 (fun t ht hW => ⟨⟨rfl, by rw [ht]; exact hP⟩, hS.F ht⟩) hS.2.2 hd
theorem cal_some {β γ : Type} {F : Option (β × Me)} {k : β → Me → Option γ} {z : γ} (h : cal F k = some z) : ∃ (r : β) (M1 : Me), F = some (r, M1) ∧ k r M1 = some z := by
  cases F with
  | none => cases h
  | some q => exact ⟨q.1, q.2, rfl, h⟩
theorem PC.of {D : va_G} {T : Nat → ClassId} {b : Nat} {av : List Value} {M : MG} {s : State} {H : Heap} (hK : va_K D vwCl (tyl T) s) (hN : NW s) (hP : RP D T b M H) : ∀ U : State, U.heap = H → s.WarmedH U.vm → PC D T b av M av.toArray U := fun U hU hW => ⟨rfl, by rw [hU]; exact hP, va_K.moved hW.alike hK, NW.warm hW hN⟩
theorem GG_callV {M : MG} {y : MethodName} {c2 : ByteArray} {maxL n index : Nat} {ret2 : Option FieldType} {rm : Room} {mc ms cells slots : Nat} {av : Nat → List Value} {v : Option Value} {M' : MG} {As rest : List Value} {a ci N9 : Nat} {T9 : u_T} (hk : kd a = ci) (hcl : vwCl[ci]? = some (y.cls, T9, N9)) (hc6 : ci < 6) (hC : CX p s m args meth c cc nL own ret D T) (hM : Ct l y c2 maxL ret2 rm mc ms av M v M') (hy : MV y c2 maxL ret2 n) (hw : Cond.methodLink own index y ∈ tb) (hn : As.length = n) (hav : av b = .ref (b + a) :: As) (ha : a < M.2.2.2) (hrm : rm.cells = mc ∧ rm.slots = ms) (hst : st = As.reverse ++ .ref (b + a) :: rest) (hroom : (rest.map fun v => v.category).sum ≤ 8) (hR : rm.frames + 1 ≤ R.frames ∧ 8 + (maxL + 11) + rm.locals ≤ R.locals) (hcs : cells + mc ≤ R.cells ∧ slots + ms ≤ R.slots) (hd : decode cc pc = .ok (.invokevirtual index, 3))
    (kk : GG p l e R s m args below meth c D T b nL (cells + mc) (slots + ms) Q (pc + 3) lv (v.toList ++ rest) M') : GG p l e R s m args below meth c D T b nL cells slots Q pc lv st M := by
  intro H locs ls hl hP hS
  obtain ⟨hx, hb, hml, hown, hret, hlk, hts, hK, hN⟩ := hC
  obtain ⟨y1, y2, y3, y4, y5⟩ := hy
  refine GG_cont (rest := rest) (a := (Value.ref (b + a) :: As).toArray) (va_runV (C := y.cls) (As := As) (rest := rest) (b := b + a) (ret := ret2) (bytes := c2) (n := n) ⟨hx, hb, hml, hown, hts⟩ (hM D T b) ⟨callB_of n hts (tb_good y1) rfl hrm.1 hrm.2 (hts _ y2) (hts _ hw) y5 hR, hts _ y3, hts _ y4⟩ ⟨PC.blind, va_recv hK hP hcl (by rw [wsM_at ha, cel_obj hk hc6]), ?_⟩ rfl hn hl.1 hst (lv_room hroom) hd hcs) hl hS kk
  rw [← hav]
  exact PC.of hK hN hP
theorem n_callVi {α : Type} {em : α → Option Value} {M : Me} {y : MethodName} {c2 : ByteArray} {maxL n index f9 l9 : Nat} {ret2 : Option FieldType} {av : Nat → List Value} {As rest : List Value} {F1 : Option (Int32 × Me)} {k : Int32 → Me → Option (α × Me)} {a ci N9 : Nat} {T9 : u_T} (hk : kd a = ci) (hcl : vwCl[ci]? = some (y.cls, T9, N9)) (hc6 : ci < 6) (hC : CX p s m args meth c cc nL own ret D T) (hM : CN l y c2 maxL ret2 (k2_rm f9 l9) eI av M F1) (hy : MV y c2 maxL ret2 n) (hw : Cond.methodLink own index y ∈ tb) (hn : As.length = n) (hav : av b = .ref (b + a) :: As) (hst : st = As.reverse ++ .ref (b + a) :: rest) (hroom : (rest.map fun v => v.category).sum ≤ 8) (hR : (k2_rm f9 l9).frames + 1 ≤ R.frames ∧ 8 + (maxL + 11) + (k2_rm f9 l9).locals ≤ R.locals) (hd : decode cc pc = .ok (.invokevirtual index, 3))
    (kk : ∀ (r : Int32) (M1 : Me), GN p l e R s m args below meth c D T b nL em (pc + 3) lv (.int r :: rest) M1 (k r M1)) : GN p l e R s m args below meth c D T b nL em pc lv st M (cal F1 k) := by
  intro r M9 h9
  obtain ⟨r1, M1, e1, h9⟩ := cal_some h9
  exact GG_callV (hk := hk) (hcl := hcl) (hc6 := hc6) hC (hM r1 M1 e1) hy hw hn hav (kd_lt hk (by omega)) ⟨rfl, rfl⟩ hst hroom hR ⟨Nat.zero_le _, Nat.zero_le _⟩ hd (kk r1 M1 r M9 h9)
theorem n_callVl {α : Type} {em : α → Option Value} {M : Me} {y : MethodName} {c2 : ByteArray} {maxL n index f9 l9 : Nat} {ret2 : Option FieldType} {av : Nat → List Value} {As rest : List Value} {F1 : Option (Int64 × Me)} {k : Int64 → Me → Option (α × Me)} {a ci N9 : Nat} {T9 : u_T} (hk : kd a = ci) (hcl : vwCl[ci]? = some (y.cls, T9, N9)) (hc6 : ci < 6) (hC : CX p s m args meth c cc nL own ret D T) (hM : CN l y c2 maxL ret2 (k2_rm f9 l9) eL av M F1) (hy : MV y c2 maxL ret2 n) (hw : Cond.methodLink own index y ∈ tb) (hn : As.length = n) (hav : av b = .ref (b + a) :: As) (hst : st = As.reverse ++ .ref (b + a) :: rest) (hroom : (rest.map fun v => v.category).sum ≤ 8) (hR : (k2_rm f9 l9).frames + 1 ≤ R.frames ∧ 8 + (maxL + 11) + (k2_rm f9 l9).locals ≤ R.locals) (hd : decode cc pc = .ok (.invokevirtual index, 3))
    (kk : ∀ (r : Int64) (M1 : Me), GN p l e R s m args below meth c D T b nL em (pc + 3) lv (.long r :: rest) M1 (k r M1)) : GN p l e R s m args below meth c D T b nL em pc lv st M (cal F1 k) := by
  intro r M9 h9
  obtain ⟨r1, M1, e1, h9⟩ := cal_some h9
  exact GG_callV (hk := hk) (hcl := hcl) (hc6 := hc6) hC (hM r1 M1 e1) hy hw hn hav (kd_lt hk (by omega)) ⟨rfl, rfl⟩ hst hroom hR ⟨Nat.zero_le _, Nat.zero_le _⟩ hd (kk r1 M1 r M9 h9)
theorem n_callVv {α : Type} {em : α → Option Value} {M : Me} {y : MethodName} {c2 : ByteArray} {maxL n index f9 l9 : Nat} {ret2 : Option FieldType} {av : Nat → List Value} {As rest : List Value} {F1 : Option (Unit × Me)} {k : Unit → Me → Option (α × Me)} {a ci N9 : Nat} {T9 : u_T} (hk : kd a = ci) (hcl : vwCl[ci]? = some (y.cls, T9, N9)) (hc6 : ci < 6) (hC : CX p s m args meth c cc nL own ret D T) (hM : CN l y c2 maxL ret2 (k2_rm f9 l9) eV av M F1) (hy : MV y c2 maxL ret2 n) (hw : Cond.methodLink own index y ∈ tb) (hn : As.length = n) (hav : av b = .ref (b + a) :: As) (hst : st = As.reverse ++ .ref (b + a) :: rest) (hroom : (rest.map fun v => v.category).sum ≤ 8) (hR : (k2_rm f9 l9).frames + 1 ≤ R.frames ∧ 8 + (maxL + 11) + (k2_rm f9 l9).locals ≤ R.locals) (hd : decode cc pc = .ok (.invokevirtual index, 3))
    (kk : ∀ (r : Unit) (M1 : Me), GN p l e R s m args below meth c D T b nL em (pc + 3) lv (rest) M1 (k r M1)) : GN p l e R s m args below meth c D T b nL em pc lv st M (cal F1 k) := by
  intro r M9 h9
  obtain ⟨r1, M1, e1, h9⟩ := cal_some h9
  exact GG_callV (hk := hk) (hcl := hcl) (hc6 := hc6) hC (hM r1 M1 e1) hy hw hn hav (kd_lt hk (by omega)) ⟨rfl, rfl⟩ hst hroom hR ⟨Nat.zero_le _, Nat.zero_le _⟩ hd (kk r1 M1 r M9 h9)
theorem GG_callS {M : MG} {y : MethodName} {c2 : ByteArray} {maxL n index : Nat} {ret2 : Option FieldType} {rm : Room} {mc ms cells slots : Nat} {av : Nat → List Value} {v : Option Value} {M' : MG} {As rest : List Value}  (hC : CX p s m args meth c cc nL own ret D T) (hM : Ct l y c2 maxL ret2 rm mc ms av M v M') (hy : MS y c2 maxL ret2 n) (hw : Cond.methodLink own index y ∈ tb) (hn : As.length = n) (hav : av b = As)  (hrm : rm.cells = mc ∧ rm.slots = ms) (hst : st = As.reverse ++ rest) (hroom : (rest.map fun v => v.category).sum ≤ 8) (hR : rm.frames + 1 ≤ R.frames ∧ 8 + (maxL + 11) + rm.locals ≤ R.locals) (hcs : cells + mc ≤ R.cells ∧ slots + ms ≤ R.slots) (hd : decode cc pc = .ok (.invokestatic index, 3))
    (kk : GG p l e R s m args below meth c D T b nL (cells + mc) (slots + ms) Q (pc + 3) lv (v.toList ++ rest) M') : GG p l e R s m args below meth c D T b nL cells slots Q pc lv st M := by
  intro H locs ls hl hP hS
  obtain ⟨hx, hb, hml, hown, hret, hlk, hts, hK, hN⟩ := hC
  obtain ⟨y1, y2, y3, y5⟩ := hy
  refine GG_cont (rest := rest) (a := As.toArray) (va_runS (As := As) (rest := rest) (ret := ret2) (bytes := c2) (n := n) ⟨hx, hb, hml, hown, hts⟩ (hM D T b) ⟨callB_of n hts (tb_good y1) rfl hrm.1 hrm.2 (hts _ y2) (hts _ hw) y5 hR, hts _ y3⟩ ⟨PC.blind, ?_⟩ rfl hn hl.1 hst (lv_room hroom) hd hcs) hl hS kk
  rw [← hav]
  exact PC.of hK hN hP
theorem n_callSi {α : Type} {em : α → Option Value} {M : Me} {y : MethodName} {c2 : ByteArray} {maxL n index f9 l9 : Nat} {ret2 : Option FieldType} {av : Nat → List Value} {As rest : List Value} {F1 : Option (Int32 × Me)} {k : Int32 → Me → Option (α × Me)}  (hC : CX p s m args meth c cc nL own ret D T) (hM : CN l y c2 maxL ret2 (k2_rm f9 l9) eI av M F1) (hy : MS y c2 maxL ret2 n) (hw : Cond.methodLink own index y ∈ tb) (hn : As.length = n) (hav : av b = As) (hst : st = As.reverse ++ rest) (hroom : (rest.map fun v => v.category).sum ≤ 8) (hR : (k2_rm f9 l9).frames + 1 ≤ R.frames ∧ 8 + (maxL + 11) + (k2_rm f9 l9).locals ≤ R.locals) (hd : decode cc pc = .ok (.invokestatic index, 3))
    (kk : ∀ (r : Int32) (M1 : Me), GN p l e R s m args below meth c D T b nL em (pc + 3) lv (.int r :: rest) M1 (k r M1)) : GN p l e R s m args below meth c D T b nL em pc lv st M (cal F1 k) := by
  intro r M9 h9
  obtain ⟨r1, M1, e1, h9⟩ := cal_some h9
  exact GG_callS hC (hM r1 M1 e1) hy hw hn hav ⟨rfl, rfl⟩ hst hroom hR ⟨Nat.zero_le _, Nat.zero_le _⟩ hd (kk r1 M1 r M9 h9)
theorem n_callSl {α : Type} {em : α → Option Value} {M : Me} {y : MethodName} {c2 : ByteArray} {maxL n index f9 l9 : Nat} {ret2 : Option FieldType} {av : Nat → List Value} {As rest : List Value} {F1 : Option (Int64 × Me)} {k : Int64 → Me → Option (α × Me)}  (hC : CX p s m args meth c cc nL own ret D T) (hM : CN l y c2 maxL ret2 (k2_rm f9 l9) eL av M F1) (hy : MS y c2 maxL ret2 n) (hw : Cond.methodLink own index y ∈ tb) (hn : As.length = n) (hav : av b = As) (hst : st = As.reverse ++ rest) (hroom : (rest.map fun v => v.category).sum ≤ 8) (hR : (k2_rm f9 l9).frames + 1 ≤ R.frames ∧ 8 + (maxL + 11) + (k2_rm f9 l9).locals ≤ R.locals) (hd : decode cc pc = .ok (.invokestatic index, 3))
    (kk : ∀ (r : Int64) (M1 : Me), GN p l e R s m args below meth c D T b nL em (pc + 3) lv (.long r :: rest) M1 (k r M1)) : GN p l e R s m args below meth c D T b nL em pc lv st M (cal F1 k) := by
  intro r M9 h9
  obtain ⟨r1, M1, e1, h9⟩ := cal_some h9
  exact GG_callS hC (hM r1 M1 e1) hy hw hn hav ⟨rfl, rfl⟩ hst hroom hR ⟨Nat.zero_le _, Nat.zero_le _⟩ hd (kk r1 M1 r M9 h9)
theorem n_callSv {α : Type} {em : α → Option Value} {M : Me} {y : MethodName} {c2 : ByteArray} {maxL n index f9 l9 : Nat} {ret2 : Option FieldType} {av : Nat → List Value} {As rest : List Value} {F1 : Option (Unit × Me)} {k : Unit → Me → Option (α × Me)}  (hC : CX p s m args meth c cc nL own ret D T) (hM : CN l y c2 maxL ret2 (k2_rm f9 l9) eV av M F1) (hy : MS y c2 maxL ret2 n) (hw : Cond.methodLink own index y ∈ tb) (hn : As.length = n) (hav : av b = As) (hst : st = As.reverse ++ rest) (hroom : (rest.map fun v => v.category).sum ≤ 8) (hR : (k2_rm f9 l9).frames + 1 ≤ R.frames ∧ 8 + (maxL + 11) + (k2_rm f9 l9).locals ≤ R.locals) (hd : decode cc pc = .ok (.invokestatic index, 3))
    (kk : ∀ (r : Unit) (M1 : Me), GN p l e R s m args below meth c D T b nL em (pc + 3) lv (rest) M1 (k r M1)) : GN p l e R s m args below meth c D T b nL em pc lv st M (cal F1 k) := by
  intro r M9 h9
  obtain ⟨r1, M1, e1, h9⟩ := cal_some h9
  exact GG_callS hC (hM r1 M1 e1) hy hw hn hav ⟨rfl, rfl⟩ hst hroom hR ⟨Nat.zero_le _, Nat.zero_le _⟩ hd (kk r1 M1 r M9 h9)
theorem GG_callN {M : MG} {y : MethodName} {c2 : ByteArray} {maxL n index : Nat} {ret2 : Option FieldType} {rm : Room} {mc ms cells slots : Nat} {av : Nat → List Value} {v : Option Value} {M' : MG} {As rest : List Value}  (hC : CX p s m args meth c cc nL own ret D T) (hM : Ct l y c2 maxL ret2 rm mc ms av M v M') (hy : MS y c2 maxL ret2 n) {host : String} (hw : Cond.methodLinkNest own index y host ∈ lw_tbl) (hn : As.length = n) (hav : av b = As)  (hrm : rm.cells = mc ∧ rm.slots = ms) (hst : st = As.reverse ++ rest) (hroom : (rest.map fun v => v.category).sum ≤ 8) (hR : rm.frames + 1 ≤ R.frames ∧ 8 + (maxL + 11) + rm.locals ≤ R.locals) (hcs : cells + mc ≤ R.cells ∧ slots + ms ≤ R.slots) (hd : decode cc pc = .ok (.invokestatic index, 3))
    (kk : GG p l e R s m args below meth c D T b nL (cells + mc) (slots + ms) Q (pc + 3) lv (v.toList ++ rest) M') : GG p l e R s m args below meth c D T b nL cells slots Q pc lv st M := by
  intro H locs ls hl hP hS
  obtain ⟨hx, hb, hml, hown, hret, hlk, hts, hK, hN⟩ := hC
  obtain ⟨y1, y2, y3, y5⟩ := hy
  refine GG_cont (rest := rest) (a := As.toArray) (va_runSN (As := As) (rest := rest) (ret := ret2) (bytes := c2) (n := n) (host := host) ⟨hx, hb, hml, hown, hts⟩ (hM D T b) ⟨va_cnB n hts (tb_good y1) rfl hrm.1 hrm.2 (hN _ _ _ _ hw) (hts _ y2) y5 hR, hts _ y3, trivial⟩ ⟨PC.blind, ?_⟩ rfl hn hl.1 hst (lv_room hroom) hd hcs) hl hS kk
  rw [← hav]
  exact PC.of hK hN hP
theorem n_callNi {α : Type} {em : α → Option Value} {M : Me} {y : MethodName} {c2 : ByteArray} {maxL n index f9 l9 : Nat} {ret2 : Option FieldType} {av : Nat → List Value} {As rest : List Value} {F1 : Option (Int32 × Me)} {k : Int32 → Me → Option (α × Me)}  (hC : CX p s m args meth c cc nL own ret D T) (hM : CN l y c2 maxL ret2 (k2_rm f9 l9) eI av M F1) (hy : MS y c2 maxL ret2 n) {host : String} (hw : Cond.methodLinkNest own index y host ∈ lw_tbl) (hn : As.length = n) (hav : av b = As) (hst : st = As.reverse ++ rest) (hroom : (rest.map fun v => v.category).sum ≤ 8) (hR : (k2_rm f9 l9).frames + 1 ≤ R.frames ∧ 8 + (maxL + 11) + (k2_rm f9 l9).locals ≤ R.locals) (hd : decode cc pc = .ok (.invokestatic index, 3))
    (kk : ∀ (r : Int32) (M1 : Me), GN p l e R s m args below meth c D T b nL em (pc + 3) lv (.int r :: rest) M1 (k r M1)) : GN p l e R s m args below meth c D T b nL em pc lv st M (cal F1 k) := by
  intro r M9 h9
  obtain ⟨r1, M1, e1, h9⟩ := cal_some h9
  exact GG_callN hC (hM r1 M1 e1) hy hw hn hav ⟨rfl, rfl⟩ hst hroom hR ⟨Nat.zero_le _, Nat.zero_le _⟩ hd (kk r1 M1 r M9 h9)
theorem n_callNl {α : Type} {em : α → Option Value} {M : Me} {y : MethodName} {c2 : ByteArray} {maxL n index f9 l9 : Nat} {ret2 : Option FieldType} {av : Nat → List Value} {As rest : List Value} {F1 : Option (Int64 × Me)} {k : Int64 → Me → Option (α × Me)}  (hC : CX p s m args meth c cc nL own ret D T) (hM : CN l y c2 maxL ret2 (k2_rm f9 l9) eL av M F1) (hy : MS y c2 maxL ret2 n) {host : String} (hw : Cond.methodLinkNest own index y host ∈ lw_tbl) (hn : As.length = n) (hav : av b = As) (hst : st = As.reverse ++ rest) (hroom : (rest.map fun v => v.category).sum ≤ 8) (hR : (k2_rm f9 l9).frames + 1 ≤ R.frames ∧ 8 + (maxL + 11) + (k2_rm f9 l9).locals ≤ R.locals) (hd : decode cc pc = .ok (.invokestatic index, 3))
    (kk : ∀ (r : Int64) (M1 : Me), GN p l e R s m args below meth c D T b nL em (pc + 3) lv (.long r :: rest) M1 (k r M1)) : GN p l e R s m args below meth c D T b nL em pc lv st M (cal F1 k) := by
  intro r M9 h9
  obtain ⟨r1, M1, e1, h9⟩ := cal_some h9
  exact GG_callN hC (hM r1 M1 e1) hy hw hn hav ⟨rfl, rfl⟩ hst hroom hR ⟨Nat.zero_le _, Nat.zero_le _⟩ hd (kk r1 M1 r M9 h9)
theorem n_callNv {α : Type} {em : α → Option Value} {M : Me} {y : MethodName} {c2 : ByteArray} {maxL n index f9 l9 : Nat} {ret2 : Option FieldType} {av : Nat → List Value} {As rest : List Value} {F1 : Option (Unit × Me)} {k : Unit → Me → Option (α × Me)}  (hC : CX p s m args meth c cc nL own ret D T) (hM : CN l y c2 maxL ret2 (k2_rm f9 l9) eV av M F1) (hy : MS y c2 maxL ret2 n) {host : String} (hw : Cond.methodLinkNest own index y host ∈ lw_tbl) (hn : As.length = n) (hav : av b = As) (hst : st = As.reverse ++ rest) (hroom : (rest.map fun v => v.category).sum ≤ 8) (hR : (k2_rm f9 l9).frames + 1 ≤ R.frames ∧ 8 + (maxL + 11) + (k2_rm f9 l9).locals ≤ R.locals) (hd : decode cc pc = .ok (.invokestatic index, 3))
    (kk : ∀ (r : Unit) (M1 : Me), GN p l e R s m args below meth c D T b nL em (pc + 3) lv (rest) M1 (k r M1)) : GN p l e R s m args below meth c D T b nL em pc lv st M (cal F1 k) := by
  intro r M9 h9
  obtain ⟨r1, M1, e1, h9⟩ := cal_some h9
  exact GG_callN hC (hM r1 M1 e1) hy hw hn hav ⟨rfl, rfl⟩ hst hroom hR ⟨Nat.zero_le _, Nat.zero_le _⟩ hd (kk r1 M1 r M9 h9)
theorem CN.of {β : Type} {l : Launch} {y : MethodName} {cc : ByteArray} {maxL : Nat} {ret : Option FieldType} {f9 l9 : Nat} {em : β → Option Value} {av : Nat → List Value} {M : Me} {F : Option (β × Me)} (own : String) (lv : Nat → List (Nat × Value)) (hy : plainName y.cls = true) (ho : y.cls = own) (hlen : ∀ b, (lg_sl (av b)).length ≤ maxL) (hlv : ∀ b, lv_args 0 (av b) = lv b)
    (body : ∀ (p : Program) (e : Env) (s : State) (m : MethodId) (args : Array Value) (below : List Frame) (meth : Method) (c : Code) (D : va_G) (T : Nat → ClassId) (b : Nat), CX p s m args meth c cc maxL own ret D T → GN p l e (k2_rm f9 l9) s m args below meth c D T b maxL em 0 (lv b) [] M F) : CN l y cc maxL ret (k2_rm f9 l9) em av M F := by
  intro r M' hF D T b
  refine Met.ofW (cc := cc) (maxL := maxL) (ret := ret) hy rfl ?_
  intro p e s m args below meth c s₁ B hml hv
  obtain ⟨rfl, hP, hK, hN⟩ := hv
  have hts := atoms_spec (ws := .code y cc maxL ret :: tb) B.pre
  have hown : s.vm.findClass own = some m.cls := by rw [← ho]; exact findClass_of_methodNamed B.named
  have hl := lv_entry (av b) (n := maxL) (hlen b)
  rw [lg_entry_eq]
  generalize (lg_sl (av b) ++ List.replicate (maxL - (lg_sl (av b)).length) Slot.unset).toArray = ls at hl ⊢
  rw [hlv b] at hl
  exact body p e s m _ below meth c D T b ⟨B.exec, B.bytes, hml, hown, B.returns, B.notSynchronized, fun w h => hts w (List.mem_cons_of_mem _ h), hK, hN⟩ r M' hF s.heap [] ls hl hP va_S.rf
/-- fewer locals are known -/
theorem GN.sub {α : Type} {em : α → Option Value} {M : Me} {F : Option (α × Me)} {lv2 : List (Nat × Value)} (ks : List Nat) (hl2 : lv_pick lv ks = lv2) (k : GN p l e R s m args below meth c D T b nL em pc lv2 st M F) : GN p l e R s m args below meth c D T b nL em pc lv st M F := fun r M9 h9 H locs ls hl hP hS => k r M9 h9 H locs ls (lv_sub hl ks hl2) hP hS
theorem GN.none {α : Type} {em : α → Option Value} {M : Me} : GN p l e R s m args below meth c D T b nL em pc lv st M none := fun r M9 h9 => by cases h9
end GB
end
