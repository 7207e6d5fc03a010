section
-- ===== PART A: goes FIRST, ahead of the names: the tables' words, and 'selects' of the private methods out of them =====
/-- a private method of a class that the tables say can be made, by its rows of tables_1 -/
def lw_okq (q : MethodName × Nat) : Prop := (q.1.cls ≠ "java/lang/invoke/MethodHandle" ∧ q.1.cls ≠ "java/lang/invoke/VarHandle") ∧ Cond.instantiable q.1.cls q.2 ∈ tables_1 ∧ Cond.privateMethod q.1 ∈ tables_1 ∧ Cond.instanceMethod q.1 ∈ tables_1
theorem lw_p0 : lw_okq (⟨"NotebookLab", "isUpToDate", "(LNotebookLab$Cell;I)Z"⟩, 14) := ⟨⟨by decide +kernel, by decide +kernel⟩, List.mem_of_getElem? (i := 21) (by decide +kernel), List.mem_of_getElem? (i := 210) (by decide +kernel), List.mem_of_getElem? (i := 211) (by decide +kernel)⟩
theorem lw_p1 : lw_okq (⟨"NotebookLab", "isAsThen", "(III)Z"⟩, 14) := ⟨⟨by decide +kernel, by decide +kernel⟩, List.mem_of_getElem? (i := 21) (by decide +kernel), List.mem_of_getElem? (i := 214) (by decide +kernel), List.mem_of_getElem? (i := 215) (by decide +kernel)⟩
theorem lw_p2 : lw_okq (⟨"NotebookLab", "execute", "(ILNotebookLab$Cell;)C"⟩, 14) := ⟨⟨by decide +kernel, by decide +kernel⟩, List.mem_of_getElem? (i := 21) (by decide +kernel), List.mem_of_getElem? (i := 224) (by decide +kernel), List.mem_of_getElem? (i := 225) (by decide +kernel)⟩
theorem lw_p3 : lw_okq (⟨"NotebookLab", "failForMissing", "(ILNotebookLab$Cell;I)V"⟩, 14) := ⟨⟨by decide +kernel, by decide +kernel⟩, List.mem_of_getElem? (i := 21) (by decide +kernel), List.mem_of_getElem? (i := 231) (by decide +kernel), List.mem_of_getElem? (i := 232) (by decide +kernel)⟩
theorem lw_p4 : lw_okq (⟨"NotebookLab", "endWith", "(LNotebookLab$Cell;II)V"⟩, 14) := ⟨⟨by decide +kernel, by decide +kernel⟩, List.mem_of_getElem? (i := 21) (by decide +kernel), List.mem_of_getElem? (i := 243) (by decide +kernel), List.mem_of_getElem? (i := 244) (by decide +kernel)⟩
theorem lw_p5 : lw_okq (⟨"NotebookLab", "succeedWith", "(LNotebookLab$Cell;III)V"⟩, 14) := ⟨⟨by decide +kernel, by decide +kernel⟩, List.mem_of_getElem? (i := 21) (by decide +kernel), List.mem_of_getElem? (i := 260) (by decide +kernel), List.mem_of_getElem? (i := 261) (by decide +kernel)⟩
theorem lw_p6 : lw_okq (⟨"NotebookLab", "kernelFor", "(I)I"⟩, 14) := ⟨⟨by decide +kernel, by decide +kernel⟩, List.mem_of_getElem? (i := 21) (by decide +kernel), List.mem_of_getElem? (i := 264) (by decide +kernel), List.mem_of_getElem? (i := 265) (by decide +kernel)⟩
theorem lw_p7 : lw_okq (⟨"NotebookLab", "freshCells", "()I"⟩, 14) := ⟨⟨by decide +kernel, by decide +kernel⟩, List.mem_of_getElem? (i := 21) (by decide +kernel), List.mem_of_getElem? (i := 293) (by decide +kernel), List.mem_of_getElem? (i := 294) (by decide +kernel)⟩
theorem lw_p8 : lw_okq (⟨"NotebookLab", "freshCellsAreRight", "()Z"⟩, 14) := ⟨⟨by decide +kernel, by decide +kernel⟩, List.mem_of_getElem? (i := 21) (by decide +kernel), List.mem_of_getElem? (i := 309) (by decide +kernel), List.mem_of_getElem? (i := 310) (by decide +kernel)⟩
theorem lw_p9 : lw_okq (⟨"NotebookLab", "computeAnew", "()V"⟩, 14) := ⟨⟨by decide +kernel, by decide +kernel⟩, List.mem_of_getElem? (i := 21) (by decide +kernel), List.mem_of_getElem? (i := 313) (by decide +kernel), List.mem_of_getElem? (i := 314) (by decide +kernel)⟩
theorem lw_p10 : lw_okq (⟨"NotebookLab", "isData", "(I)Z"⟩, 14) := ⟨⟨by decide +kernel, by decide +kernel⟩, List.mem_of_getElem? (i := 21) (by decide +kernel), List.mem_of_getElem? (i := 317) (by decide +kernel), List.mem_of_getElem? (i := 318) (by decide +kernel)⟩
theorem lw_p11 : lw_okq (⟨"NotebookLab", "kernelsAreRight", "()Z"⟩, 14) := ⟨⟨by decide +kernel, by decide +kernel⟩, List.mem_of_getElem? (i := 21) (by decide +kernel), List.mem_of_getElem? (i := 321) (by decide +kernel), List.mem_of_getElem? (i := 322) (by decide +kernel)⟩
theorem lw_p12 : lw_okq (⟨"NotebookLab", "failuresAreRight", "()Z"⟩, 14) := ⟨⟨by decide +kernel, by decide +kernel⟩, List.mem_of_getElem? (i := 21) (by decide +kernel), List.mem_of_getElem? (i := 328) (by decide +kernel), List.mem_of_getElem? (i := 329) (by decide +kernel)⟩
theorem lw_p13 : lw_okq (⟨"java/lang/Throwable", "fillInStackTrace", "(I)Ljava/lang/Throwable;"⟩, 6) := ⟨⟨by decide +kernel, by decide +kernel⟩, List.mem_of_getElem? (i := 386) (by decide +kernel), List.mem_of_getElem? (i := 384) (by decide +kernel), List.mem_of_getElem? (i := 385) (by decide +kernel)⟩
theorem lw_p14 : lw_okq (⟨"NotebookLab", "isDefined", "(I)Z"⟩, 14) := ⟨⟨by decide +kernel, by decide +kernel⟩, List.mem_of_getElem? (i := 21) (by decide +kernel), List.mem_of_getElem? (i := 416) (by decide +kernel), List.mem_of_getElem? (i := 417) (by decide +kernel)⟩
theorem lw_p15 : lw_okq (⟨"NotebookLab", "checkData", "(I)V"⟩, 14) := ⟨⟨by decide +kernel, by decide +kernel⟩, List.mem_of_getElem? (i := 21) (by decide +kernel), List.mem_of_getElem? (i := 445) (by decide +kernel), List.mem_of_getElem? (i := 446) (by decide +kernel)⟩
def lw_privs_1 : List (MethodName × Nat) := [(⟨"NotebookLab", "isUpToDate", "(LNotebookLab$Cell;I)Z"⟩, 14), (⟨"NotebookLab", "isAsThen", "(III)Z"⟩, 14), (⟨"NotebookLab", "execute", "(ILNotebookLab$Cell;)C"⟩, 14), (⟨"NotebookLab", "failForMissing", "(ILNotebookLab$Cell;I)V"⟩, 14), (⟨"NotebookLab", "endWith", "(LNotebookLab$Cell;II)V"⟩, 14), (⟨"NotebookLab", "succeedWith", "(LNotebookLab$Cell;III)V"⟩, 14), (⟨"NotebookLab", "kernelFor", "(I)I"⟩, 14), (⟨"NotebookLab", "freshCells", "()I"⟩, 14), (⟨"NotebookLab", "freshCellsAreRight", "()Z"⟩, 14), (⟨"NotebookLab", "computeAnew", "()V"⟩, 14), (⟨"NotebookLab", "isData", "(I)Z"⟩, 14), (⟨"NotebookLab", "kernelsAreRight", "()Z"⟩, 14), (⟨"NotebookLab", "failuresAreRight", "()Z"⟩, 14), (⟨"java/lang/Throwable", "fillInStackTrace", "(I)Ljava/lang/Throwable;"⟩, 6), (⟨"NotebookLab", "isDefined", "(I)Z"⟩, 14), (⟨"NotebookLab", "checkData", "(I)V"⟩, 14)]
theorem lw_r1 : ∀ q ∈ lw_privs_1, lw_okq q := List.forall_mem_cons.mpr ⟨lw_p0, List.forall_mem_cons.mpr ⟨lw_p1, List.forall_mem_cons.mpr ⟨lw_p2, List.forall_mem_cons.mpr ⟨lw_p3, List.forall_mem_cons.mpr ⟨lw_p4, List.forall_mem_cons.mpr ⟨lw_p5, List.forall_mem_cons.mpr ⟨lw_p6, List.forall_mem_cons.mpr ⟨lw_p7, List.forall_mem_cons.mpr ⟨lw_p8, List.forall_mem_cons.mpr ⟨lw_p9, List.forall_mem_cons.mpr ⟨lw_p10, List.forall_mem_cons.mpr ⟨lw_p11, List.forall_mem_cons.mpr ⟨lw_p12, List.forall_mem_cons.mpr ⟨lw_p13, List.forall_mem_cons.mpr ⟨lw_p14, List.forall_mem_cons.mpr ⟨lw_p15, fun _ h => absurd h List.not_mem_nil⟩⟩⟩⟩⟩⟩⟩⟩⟩⟩⟩⟩⟩⟩⟩⟩
theorem lw_p16 : lw_okq (⟨"NotebookLab", "lineageThrough", "(I)I"⟩, 14) := ⟨⟨by decide +kernel, by decide +kernel⟩, List.mem_of_getElem? (i := 21) (by decide +kernel), List.mem_of_getElem? (i := 506) (by decide +kernel), List.mem_of_getElem? (i := 507) (by decide +kernel)⟩
theorem lw_p17 : lw_okq (⟨"NotebookLab", "cellAt", "(I)LNotebookLab$Cell;"⟩, 14) := ⟨⟨by decide +kernel, by decide +kernel⟩, List.mem_of_getElem? (i := 21) (by decide +kernel), List.mem_of_getElem? (i := 541) (by decide +kernel), List.mem_of_getElem? (i := 542) (by decide +kernel)⟩
theorem lw_p18 : lw_okq (⟨"NotebookLab", "isFresh", "(I)Z"⟩, 14) := ⟨⟨by decide +kernel, by decide +kernel⟩, List.mem_of_getElem? (i := 21) (by decide +kernel), List.mem_of_getElem? (i := 588) (by decide +kernel), List.mem_of_getElem? (i := 589) (by decide +kernel)⟩
theorem lw_p19 : lw_okq (⟨"NotebookLab", "failureOf", "(I)LNotebookLab$Failure;"⟩, 14) := ⟨⟨by decide +kernel, by decide +kernel⟩, List.mem_of_getElem? (i := 21) (by decide +kernel), List.mem_of_getElem? (i := 621) (by decide +kernel), List.mem_of_getElem? (i := 622) (by decide +kernel)⟩
theorem lw_p20 : lw_okq (⟨"NotebookLab", "runWhatIsDue", "()I"⟩, 14) := ⟨⟨by decide +kernel, by decide +kernel⟩, List.mem_of_getElem? (i := 21) (by decide +kernel), List.mem_of_getElem? (i := 706) (by decide +kernel), List.mem_of_getElem? (i := 707) (by decide +kernel)⟩
theorem lw_p21 : lw_okq (⟨"NotebookLab", "isDue", "(LNotebookLab$Cell;)Z"⟩, 14) := ⟨⟨by decide +kernel, by decide +kernel⟩, List.mem_of_getElem? (i := 21) (by decide +kernel), List.mem_of_getElem? (i := 710) (by decide +kernel), List.mem_of_getElem? (i := 711) (by decide +kernel)⟩
theorem lw_p22 : lw_okq (⟨"NotebookLab", "checkView", "(I)V"⟩, 14) := ⟨⟨by decide +kernel, by decide +kernel⟩, List.mem_of_getElem? (i := 21) (by decide +kernel), List.mem_of_getElem? (i := 761) (by decide +kernel), List.mem_of_getElem? (i := 762) (by decide +kernel)⟩
theorem lw_p23 : lw_okq (⟨"NotebookLabModel", "isThere", "(I)Z"⟩, 40) := ⟨⟨by decide +kernel, by decide +kernel⟩, List.mem_of_getElem? (i := 773) (by decide +kernel), List.mem_of_getElem? (i := 916) (by decide +kernel), List.mem_of_getElem? (i := 917) (by decide +kernel)⟩
theorem lw_p24 : lw_okq (⟨"NotebookLabModel", "fails", "(I)Z"⟩, 40) := ⟨⟨by decide +kernel, by decide +kernel⟩, List.mem_of_getElem? (i := 773) (by decide +kernel), List.mem_of_getElem? (i := 920) (by decide +kernel), List.mem_of_getElem? (i := 921) (by decide +kernel)⟩
theorem lw_p25 : lw_okq (⟨"NotebookLabModel", "isNoCell", "(I)Z"⟩, 40) := ⟨⟨by decide +kernel, by decide +kernel⟩, List.mem_of_getElem? (i := 773) (by decide +kernel), List.mem_of_getElem? (i := 946) (by decide +kernel), List.mem_of_getElem? (i := 947) (by decide +kernel)⟩
theorem lw_p26 : lw_okq (⟨"NotebookLabModel", "tells", "(I)I"⟩, 40) := ⟨⟨by decide +kernel, by decide +kernel⟩, List.mem_of_getElem? (i := 773) (by decide +kernel), List.mem_of_getElem? (i := 954) (by decide +kernel), List.mem_of_getElem? (i := 955) (by decide +kernel)⟩
theorem lw_p27 : lw_okq (⟨"NotebookLabModel", "does", "(I)C"⟩, 40) := ⟨⟨by decide +kernel, by decide +kernel⟩, List.mem_of_getElem? (i := 773) (by decide +kernel), List.mem_of_getElem? (i := 970) (by decide +kernel), List.mem_of_getElem? (i := 971) (by decide +kernel)⟩
theorem lw_p28 : lw_okq (⟨"NotebookLabModel", "lacks", "(I)Z"⟩, 40) := ⟨⟨by decide +kernel, by decide +kernel⟩, List.mem_of_getElem? (i := 773) (by decide +kernel), List.mem_of_getElem? (i := 974) (by decide +kernel), List.mem_of_getElem? (i := 975) (by decide +kernel)⟩
theorem lw_p29 : lw_okq (⟨"NotebookLabModel", "failed", "(IC)C"⟩, 40) := ⟨⟨by decide +kernel, by decide +kernel⟩, List.mem_of_getElem? (i := 773) (by decide +kernel), List.mem_of_getElem? (i := 978) (by decide +kernel), List.mem_of_getElem? (i := 979) (by decide +kernel)⟩
theorem lw_p30 : lw_okq (⟨"NotebookLabModel", "fallsShort", "(I)V"⟩, 40) := ⟨⟨by decide +kernel, by decide +kernel⟩, List.mem_of_getElem? (i := 773) (by decide +kernel), List.mem_of_getElem? (i := 982) (by decide +kernel), List.mem_of_getElem? (i := 983) (by decide +kernel)⟩
theorem lw_p31 : lw_okq (⟨"NotebookLabModel", "second", "(I)I"⟩, 40) := ⟨⟨by decide +kernel, by decide +kernel⟩, List.mem_of_getElem? (i := 773) (by decide +kernel), List.mem_of_getElem? (i := 986) (by decide +kernel), List.mem_of_getElem? (i := 987) (by decide +kernel)⟩
def lw_privs_2 : List (MethodName × Nat) := [(⟨"NotebookLab", "lineageThrough", "(I)I"⟩, 14), (⟨"NotebookLab", "cellAt", "(I)LNotebookLab$Cell;"⟩, 14), (⟨"NotebookLab", "isFresh", "(I)Z"⟩, 14), (⟨"NotebookLab", "failureOf", "(I)LNotebookLab$Failure;"⟩, 14), (⟨"NotebookLab", "runWhatIsDue", "()I"⟩, 14), (⟨"NotebookLab", "isDue", "(LNotebookLab$Cell;)Z"⟩, 14), (⟨"NotebookLab", "checkView", "(I)V"⟩, 14), (⟨"NotebookLabModel", "isThere", "(I)Z"⟩, 40), (⟨"NotebookLabModel", "fails", "(I)Z"⟩, 40), (⟨"NotebookLabModel", "isNoCell", "(I)Z"⟩, 40), (⟨"NotebookLabModel", "tells", "(I)I"⟩, 40), (⟨"NotebookLabModel", "does", "(I)C"⟩, 40), (⟨"NotebookLabModel", "lacks", "(I)Z"⟩, 40), (⟨"NotebookLabModel", "failed", "(IC)C"⟩, 40), (⟨"NotebookLabModel", "fallsShort", "(I)V"⟩, 40), (⟨"NotebookLabModel", "second", "(I)I"⟩, 40)]
theorem lw_r2 : ∀ q ∈ lw_privs_2, lw_okq q := List.forall_mem_cons.mpr ⟨lw_p16, List.forall_mem_cons.mpr ⟨lw_p17, List.forall_mem_cons.mpr ⟨lw_p18, List.forall_mem_cons.mpr ⟨lw_p19, List.forall_mem_cons.mpr ⟨lw_p20, List.forall_mem_cons.mpr ⟨lw_p21, List.forall_mem_cons.mpr ⟨lw_p22, List.forall_mem_cons.mpr ⟨lw_p23, List.forall_mem_cons.mpr ⟨lw_p24, List.forall_mem_cons.mpr ⟨lw_p25, List.forall_mem_cons.mpr ⟨lw_p26, List.forall_mem_cons.mpr ⟨lw_p27, List.forall_mem_cons.mpr ⟨lw_p28, List.forall_mem_cons.mpr ⟨lw_p29, List.forall_mem_cons.mpr ⟨lw_p30, List.forall_mem_cons.mpr ⟨lw_p31, fun _ h => absurd h List.not_mem_nil⟩⟩⟩⟩⟩⟩⟩⟩⟩⟩⟩⟩⟩⟩⟩⟩
theorem lw_p32 : lw_okq (⟨"NotebookLabModel", "computes", "(III)I"⟩, 40) := ⟨⟨by decide +kernel, by decide +kernel⟩, List.mem_of_getElem? (i := 773) (by decide +kernel), List.mem_of_getElem? (i := 990) (by decide +kernel), List.mem_of_getElem? (i := 991) (by decide +kernel)⟩
theorem lw_p33 : lw_okq (⟨"NotebookLabModel", "keptAt", "(I)I"⟩, 40) := ⟨⟨by decide +kernel, by decide +kernel⟩, List.mem_of_getElem? (i := 773) (by decide +kernel), List.mem_of_getElem? (i := 997) (by decide +kernel), List.mem_of_getElem? (i := 998) (by decide +kernel)⟩
theorem lw_p34 : lw_okq (⟨"NotebookLabModel", "has", "(II)V"⟩, 40) := ⟨⟨by decide +kernel, by decide +kernel⟩, List.mem_of_getElem? (i := 773) (by decide +kernel), List.mem_of_getElem? (i := 1001) (by decide +kernel), List.mem_of_getElem? (i := 1002) (by decide +kernel)⟩
theorem lw_p35 : lw_okq (⟨"NotebookLabModel", "kernelFor", "(I)I"⟩, 40) := ⟨⟨by decide +kernel, by decide +kernel⟩, List.mem_of_getElem? (i := 773) (by decide +kernel), List.mem_of_getElem? (i := 1005) (by decide +kernel), List.mem_of_getElem? (i := 1006) (by decide +kernel)⟩
theorem lw_p36 : lw_okq (⟨"NotebookLabModel", "freeOf", "(I)I"⟩, 40) := ⟨⟨by decide +kernel, by decide +kernel⟩, List.mem_of_getElem? (i := 773) (by decide +kernel), List.mem_of_getElem? (i := 1009) (by decide +kernel), List.mem_of_getElem? (i := 1010) (by decide +kernel)⟩
theorem lw_p37 : lw_okq (⟨"NotebookLabModel", "takes", "(II)V"⟩, 40) := ⟨⟨by decide +kernel, by decide +kernel⟩, List.mem_of_getElem? (i := 773) (by decide +kernel), List.mem_of_getElem? (i := 1013) (by decide +kernel), List.mem_of_getElem? (i := 1014) (by decide +kernel)⟩
theorem lw_p38 : lw_okq (⟨"NotebookLabModel", "keeps", "(II)V"⟩, 40) := ⟨⟨by decide +kernel, by decide +kernel⟩, List.mem_of_getElem? (i := 773) (by decide +kernel), List.mem_of_getElem? (i := 1017) (by decide +kernel), List.mem_of_getElem? (i := 1018) (by decide +kernel)⟩
theorem lw_p39 : lw_okq (⟨"NotebookLabModel", "isFresh", "(I)Z"⟩, 40) := ⟨⟨by decide +kernel, by decide +kernel⟩, List.mem_of_getElem? (i := 773) (by decide +kernel), List.mem_of_getElem? (i := 1025) (by decide +kernel), List.mem_of_getElem? (i := 1026) (by decide +kernel)⟩
theorem lw_p40 : lw_okq (⟨"NotebookLabModel", "isFreshBelow", "(I)Z"⟩, 40) := ⟨⟨by decide +kernel, by decide +kernel⟩, List.mem_of_getElem? (i := 773) (by decide +kernel), List.mem_of_getElem? (i := 1029) (by decide +kernel), List.mem_of_getElem? (i := 1030) (by decide +kernel)⟩
theorem lw_p41 : lw_okq (⟨"NotebookLabModel", "allFresh", "()I"⟩, 40) := ⟨⟨by decide +kernel, by decide +kernel⟩, List.mem_of_getElem? (i := 773) (by decide +kernel), List.mem_of_getElem? (i := 1033) (by decide +kernel), List.mem_of_getElem? (i := 1034) (by decide +kernel)⟩
theorem lw_p42 : lw_okq (⟨"NotebookLabModel", "anew", "(I)I"⟩, 40) := ⟨⟨by decide +kernel, by decide +kernel⟩, List.mem_of_getElem? (i := 773) (by decide +kernel), List.mem_of_getElem? (i := 1045) (by decide +kernel), List.mem_of_getElem? (i := 1046) (by decide +kernel)⟩
theorem lw_p43 : lw_okq (⟨"NotebookLabModel", "anewOf", "(I)I"⟩, 40) := ⟨⟨by decide +kernel, by decide +kernel⟩, List.mem_of_getElem? (i := 773) (by decide +kernel), List.mem_of_getElem? (i := 1049) (by decide +kernel), List.mem_of_getElem? (i := 1050) (by decide +kernel)⟩
theorem lw_p44 : lw_okq (⟨"NotebookLabModel", "isNoFailure", "(I)Z"⟩, 40) := ⟨⟨by decide +kernel, by decide +kernel⟩, List.mem_of_getElem? (i := 773) (by decide +kernel), List.mem_of_getElem? (i := 1069) (by decide +kernel), List.mem_of_getElem? (i := 1070) (by decide +kernel)⟩
theorem lw_p45 : lw_okq (⟨"NotebookLabModel", "isOn", "(II)Z"⟩, 40) := ⟨⟨by decide +kernel, by decide +kernel⟩, List.mem_of_getElem? (i := 773) (by decide +kernel), List.mem_of_getElem? (i := 1089) (by decide +kernel), List.mem_of_getElem? (i := 1090) (by decide +kernel)⟩
theorem lw_p46 : lw_okq (⟨"NotebookLabModel", "comesFrom", "(II)Z"⟩, 40) := ⟨⟨by decide +kernel, by decide +kernel⟩, List.mem_of_getElem? (i := 773) (by decide +kernel), List.mem_of_getElem? (i := 1093) (by decide +kernel), List.mem_of_getElem? (i := 1094) (by decide +kernel)⟩
theorem lw_p47 : lw_okq (⟨"NotebookLabModel", "ticks", "()I"⟩, 40) := ⟨⟨by decide +kernel, by decide +kernel⟩, List.mem_of_getElem? (i := 773) (by decide +kernel), List.mem_of_getElem? (i := 1121) (by decide +kernel), List.mem_of_getElem? (i := 1122) (by decide +kernel)⟩
def lw_privs_3 : List (MethodName × Nat) := [(⟨"NotebookLabModel", "computes", "(III)I"⟩, 40), (⟨"NotebookLabModel", "keptAt", "(I)I"⟩, 40), (⟨"NotebookLabModel", "has", "(II)V"⟩, 40), (⟨"NotebookLabModel", "kernelFor", "(I)I"⟩, 40), (⟨"NotebookLabModel", "freeOf", "(I)I"⟩, 40), (⟨"NotebookLabModel", "takes", "(II)V"⟩, 40), (⟨"NotebookLabModel", "keeps", "(II)V"⟩, 40), (⟨"NotebookLabModel", "isFresh", "(I)Z"⟩, 40), (⟨"NotebookLabModel", "isFreshBelow", "(I)Z"⟩, 40), (⟨"NotebookLabModel", "allFresh", "()I"⟩, 40), (⟨"NotebookLabModel", "anew", "(I)I"⟩, 40), (⟨"NotebookLabModel", "anewOf", "(I)I"⟩, 40), (⟨"NotebookLabModel", "isNoFailure", "(I)Z"⟩, 40), (⟨"NotebookLabModel", "isOn", "(II)Z"⟩, 40), (⟨"NotebookLabModel", "comesFrom", "(II)Z"⟩, 40), (⟨"NotebookLabModel", "ticks", "()I"⟩, 40)]
theorem lw_r3 : ∀ q ∈ lw_privs_3, lw_okq q := List.forall_mem_cons.mpr ⟨lw_p32, List.forall_mem_cons.mpr ⟨lw_p33, List.forall_mem_cons.mpr ⟨lw_p34, List.forall_mem_cons.mpr ⟨lw_p35, List.forall_mem_cons.mpr ⟨lw_p36, List.forall_mem_cons.mpr ⟨lw_p37, List.forall_mem_cons.mpr ⟨lw_p38, List.forall_mem_cons.mpr ⟨lw_p39, List.forall_mem_cons.mpr ⟨lw_p40, List.forall_mem_cons.mpr ⟨lw_p41, List.forall_mem_cons.mpr ⟨lw_p42, List.forall_mem_cons.mpr ⟨lw_p43, List.forall_mem_cons.mpr ⟨lw_p44, List.forall_mem_cons.mpr ⟨lw_p45, List.forall_mem_cons.mpr ⟨lw_p46, List.forall_mem_cons.mpr ⟨lw_p47, fun _ h => absurd h List.not_mem_nil⟩⟩⟩⟩⟩⟩⟩⟩⟩⟩⟩⟩⟩⟩⟩⟩
theorem lw_p48 : lw_okq (⟨"NotebookLabModel", "frees", "()V"⟩, 40) := ⟨⟨by decide +kernel, by decide +kernel⟩, List.mem_of_getElem? (i := 773) (by decide +kernel), List.mem_of_getElem? (i := 1125) (by decide +kernel), List.mem_of_getElem? (i := 1126) (by decide +kernel)⟩
theorem lw_p49 : lw_okq (⟨"NotebookLabModel", "isNoView", "(I)Z"⟩, 40) := ⟨⟨by decide +kernel, by decide +kernel⟩, List.mem_of_getElem? (i := 773) (by decide +kernel), List.mem_of_getElem? (i := 1153) (by decide +kernel), List.mem_of_getElem? (i := 1154) (by decide +kernel)⟩
def lw_privs_4 : List (MethodName × Nat) := [(⟨"NotebookLabModel", "frees", "()V"⟩, 40), (⟨"NotebookLabModel", "isNoView", "(I)Z"⟩, 40)]
theorem lw_r4 : ∀ q ∈ lw_privs_4, lw_okq q := List.forall_mem_cons.mpr ⟨lw_p48, List.forall_mem_cons.mpr ⟨lw_p49, fun _ h => absurd h List.not_mem_nil⟩⟩
def lw_privs : List (MethodName × Nat) := lw_privs_1 ++ (lw_privs_2 ++ (lw_privs_3 ++ (lw_privs_4)))
def lw_tbl : List Cond := k2_sels lw_privs ++ tables_1
theorem lw_privs_ok : ∀ q ∈ lw_privs, lw_okq q := by
  show ∀ q ∈ lw_privs_1 ++ (lw_privs_2 ++ (lw_privs_3 ++ (lw_privs_4))), lw_okq q
  exact List.forall_mem_append.mpr ⟨lw_r1, List.forall_mem_append.mpr ⟨lw_r2, List.forall_mem_append.mpr ⟨lw_r3, lw_r4⟩⟩⟩
/-- the streams that the claim lets the run draw from -/
abbrev lw_cs : List Choice := [Jvm.Choice.named "NaN.bits"]
theorem lw_bits : nanBits ∈ lw_cs := by first | decide | exact List.mem_cons_self | simp [lw_cs, nanBits]
-- ===== end of PART A; then your names; then what follows =====
end
section
/-! ===== BEGIN words of one list among another's, by their places ===== -/
theorem goodIn_r {big : List Cond} (ws : List Cond) (ps : List Nat) (hp : ws = ps.filterMap (fun i => big[i]?)) (h : ws.all goodWord = true) : GoodIn big ws := by
  intro w hw
  have h1 := List.all_eq_true.mp h w hw
  rw [hp] at hw
  obtain ⟨i, -, hi⟩ := List.mem_filterMap.mp hw
  have hm : w ∈ big := by first | exact List.mem_of_getElem? hi | exact List.getElem?_mem hi
  exact ⟨hm, good_of_word h1⟩
theorem goodIn_app {big a b : List Cond} (ha : GoodIn big a) (hb : GoodIn big b) : GoodIn big (a ++ b) := fun w h => (List.mem_append.mp h).elim (ha w) (hb w)
theorem goodIn_ca {big a b : List Cond} {c : Cond} (ha : GoodIn big (c :: a)) (hb : GoodIn big b) : GoodIn big (c :: (a ++ b)) := fun w h => (List.mem_cons.mp h).elim (fun e => ha w (List.mem_cons.mpr (Or.inl e))) (fun h => (List.mem_append.mp h).elim (fun h => ha w (List.mem_cons.mpr (Or.inr h))) (hb w))
theorem goodIn_sub {big ws : List Cond} (hm : ∀ w ∈ ws, w ∈ big) (h : ws.all goodWord = true) : GoodIn big ws := fun w hw => ⟨hm w hw, good_of_word (List.all_eq_true.mp h w hw)⟩
/-! ===== END ===== -/

/-! ===== BEGIN exceptions that leave a method, and their catching by the caller (launches without stack traces) ===== -/
section VXA
/-! The laws vx_back, vx_callV, vx_callS, vx_callSW, vx_throw0, vx_throwS follow proofs of the library, with one case more: JvmDerived/Free/Laws.lean (Back.of_free), Shelf42/LK1.lean (callV, callS), Shelf/KitTraced.lean (throwNew0V, throwNewS). -/
/-- where a method has thrown q: the class by its name, the cell, what was written, the world -/
def vx_T (XC : String → State → State → Prop) (st : State) (q : Addr) (t : State) (mc ms : Nat) (free : Addr → Prop) : Prop :=
  ∃ (E : String) (ce : Cell) (L : List Loc), XC E st t ∧ t.heap[q]? = some ce ∧ ce.vm = .none ∧ st.vm.findClass E = some ce.cls ∧ st.WarmedH t.vm ∧ st.sameButNew ({ t with vm := st.vm } : State) L mc ms ∧ ∀ z ∈ L, free z.base
def vx_Q (Qc : Array Value → State → Outcome → State → Prop) (XC : String → State → State → Prop) (mc ms : Nat) (free : Addr → Prop) : Array Value → State → Outcome → State → Prop := fun a st o t =>
  (Qc a st o t ∧ ∃ L, FrameEnd st o t L mc ms ∧ ∀ q ∈ L, free q.base) ∨ ∃ q, o = .threw q ∧ vx_T XC st q t mc ms free
/-- a callee that returns or throws -/
def vx_Met (l : Launch) (y : MethodName) (ws : List Cond) (rm : Room) (Pc : Array Value → State → Prop) (Qc : Array Value → State → Outcome → State → Prop) (XC : String → State → State → Prop) (mc ms : Nat) (free : Addr → Prop) : Prop :=
  MetFree l y (headSpec ws rm) Pc (fun _ _ _ _ _ => True) (vx_Q Qc XC mc ms free)
def vx_Post (XC : String → State → State → Prop) (mc ms : Nat) (free : Addr → Prop) : Pt → Array Value → Addr → Pt → Prop := fun A a q B =>
  ∃ (g : JFrame) (mk : MethodId) (t : State) (L : List Loc) (E : String) (ce : Cell), B.U.heap = t.heap ∧ B.U.vm = t.vm ∧ XC E (A.U.calling g mk a) t ∧ t.heap[q]? = some ce ∧ ce.vm = .none ∧ A.U.vm.findClass E = some ce.cls ∧ B.locs = A.locs ++ L ∧ (∀ z ∈ L, free z.base) ∧ B.cells = A.cells + mc ∧ B.slots = A.slots + ms
def vx_Back (l : Launch) (R : Room) (p : Program) (e : Env) (below : List Frame) (s : State) (sargs : Array Value) (y : MethodName) (len W9 : Nat)
    (Pre : Pt → Array Value → Prop) (Post : Pt → Array Value → Option Value → Pt → Prop) (PostX : Pt → Array Value → Addr → Pt → Prop) : Prop :=
  ∀ (m : MethodId) (meth : Method) (c : Code) (A : Pt) (g : JFrame) (ig : Instr) (mk : MethodId) (a : Array Value),
    Stand p l e R s m sargs below meth c A.U A.locs A.cells A.slots → g.method = m → g.locals.size = c.maxLocals → decode c.code g.pc = .ok (ig, len) →
    2 * g.monitorRoom + (g.stack.map fun v => v.category).sum ≤ W9 → A.U.methodNamed? y = some mk → Pre A a →
    (∃ (v : Option Value) (B : Pt), Stand p l e R s m sargs below meth c B.U B.locs B.cells B.slots ∧ Post A a v B ∧
      Steps p.tables e below (doInvoke e (A.U.setTop g) [] mk a).1 (B.U.setTop { g with pc := g.pc + len, stack := v.toList ++ g.stack })) ∨
    (∃ (q : Addr) (B : Pt), Stand p l e R s m sargs below meth c B.U B.locs B.cells B.slots ∧ PostX A a q B ∧
      Steps p.tables e below (doInvoke e (A.U.setTop g) [] mk a).1 ((B.U.setTop g).pushFrame (.throwing q)))
section Payer
variable {l : Launch} {R : Room} {p : Program} {e : Env} {below : List Frame} {s : State} {sargs : Array Value} {y : MethodName} {len W9 : Nat}
theorem vx_back {ws : List Cond} {rm : Room} {Pc : Array Value → State → Prop} {Qc : Array Value → State → Outcome → State → Prop} {XC : String → State → State → Prop} {mc ms : Nat} {free : Addr → Prop} {bytes : ByteArray} {maxL : Nat} {ret : Option FieldType}
    (hM : vx_Met l y ws rm Pc Qc XC mc ms free) (hblind : FrameBlind Pc) (hrc : rm.cells = mc) (hrs : rm.slots = ms)
    (hframes : rm.frames + 1 ≤ R.frames) (hlocals : W9 + (maxL + 11) + rm.locals ≤ R.locals)
    (hws : ∀ w ∈ ws, ∀ a' U, s.WarmedH U.vm → w.before a' U = true) (hcode : Cond.code y bytes maxL ret ∈ ws) (hinit : ∀ a' U, s.WarmedH U.vm → (Cond.initialized y.cls).before a' U = true) :
    vx_Back l R p e below s sargs y len W9 (PreOf R mc ms Pc) (PostOf Qc mc ms free) (vx_Post XC mc ms free) := by
  intro m meth c A g ig mk a X hg hsize hdg hW hn hp
  have h1 : (headSpec ws rm).pre.before a A.U = true := atoms_intro fun w hw => hws w hw _ _ X.warmed
  have h2 : (Cond.code y bytes maxL ret).before a A.U = true := hws _ hcode _ _ X.warmed
  have h3 : (Cond.initialized y.cls).before a A.U = true := hinit _ _ X.warmed
  have h4 : A.cells + (headSpec ws rm).room.cells ≤ R.cells := by rw [show (headSpec ws rm).room.cells = mc from hrc]; exact hp.1
  have h5 : A.slots + (headSpec ws rm).room.slots ≤ R.slots := by rw [show (headSpec ws rm).room.slots = ms from hrs]; exact hp.2.1
  have hPc : Pc a (A.U.calling g mk a) := hblind _ _ _ _ hp.2.2
  obtain ⟨U, Ls, c0, s0⟩ := A
  dsimp only [Pt.U, Pt.locs, Pt.cells, Pt.slots] at h1 h2 h3 h4 h5 X hn hPc ⊢
  obtain ⟨methY, cY, hmY, hcY, -, hlY, -, -, -, -⟩ := Cond.code_spec hn h2
  obtain ⟨kY, hkY, -⟩ := className_of_methodNamed hn
  have hinitY : kY.init = .initialized := Cond.initialized_spec (findClass_of_methodNamed hn) hkY h3
  have h : At U g.method c below := by rw [hg]; exact X.here
  have hlocals9 : W9 + (maxL + 11) + (headSpec ws rm).room.locals ≤ R.locals := hlocals
  have happ : (headSpec ws rm).appliesLoose y e.platform (U.calling g mk a) = true :=
    Spec.appliesLoose_calling (g := g) h hdg hn hkY hinitY
      (X.room_calling (g := g) (R' := (headSpec ws rm).room) hsize hmY hcY hframes (by rw [hlY]; omega) h4 h5) h1
  obtain ⟨mid, hmid⟩ := h.above
  have hfr : (U.setTop g).frames = (.java g :: mid) ++ below := by rw [State.frames_setTop' g h.top, hmid]; rfl
  obtain ⟨o, s₂, hsteps, -, hend, hq⟩ := Steps.callFree hM p X.admits X.cas X.clock (acts := []) hfr happ hPc trivial
  have hq' : vx_Q Qc XC mc ms free a (U.calling g mk a) o s₂ := hq
  rw [State.frames_setTop' g h.top] at hend
  obtain ⟨g₀, hg0⟩ := Option.isSome_iff_exists.mp h.top
  obtain ⟨r, hr⟩ := State.topJava?_eq_some.mp hg0
  have hr' : (({ U with heap := s₂.heap, slotsUsed := s₂.slotsUsed } : State).setVm s₂.vm).frames = .java g₀ :: r := hr
  rcases hq' with ⟨hqc, L, hfe, hL⟩ | ⟨q, rfl, E, ce, L, hx, hce, hcv, hcl, hW₂, hsm, hL⟩
  · obtain ⟨⟨v, rfl⟩, hW₂, e2, q2, q3, q4, q5, q6⟩ := id hfe
    have e3 : s₂ = ({ (U.calling g mk a).setFrames s₂.frames with heap := s₂.heap, slotsUsed := s₂.slotsUsed } : State).setVm s₂.vm := by
      have : s₂ = ({ s₂ with vm := (U.calling g mk a).vm } : State).setVm s₂.vm := rfl
      rw [e2] at this
      exact this
    obtain ⟨c₂, i₂, len₂, hc₂, hd₂, hf₂⟩ := hend
    have hW' : U.WarmedH s₂.vm := hW₂
    have hcc : c₂ = c := by
      have h1 : s₂.code? g.method = U.code? g.method := by
        rw [State.code?_eq, State.code?_eq, hW'.alike.method?]
      exact Option.some.inj (hc₂.symm.trans (h1.trans h.code))
    subst hcc
    have hlen : len₂ = len := by rw [hdg] at hd₂; cases hd₂; rfl
    subst hlen
    have hs₂ : s₂ = (({ U with heap := s₂.heap, slotsUsed := s₂.slotsUsed } : State).setVm s₂.vm).setTop { g with pc := g.pc + len₂, stack := v.toList ++ g.stack } := by
      refine e3.trans ?_
      rw [hf₂, State.calling_eq h.top, State.setFrames_setFrames, State.setTop_of_frames _ hr', hr]
      rfl
    have hsame : U.sameButNew ({ U with heap := s₂.heap, slotsUsed := s₂.slotsUsed } : State) L mc ms := by
      refine ⟨?_, q2, q3, q4, q5, q6⟩
      obtain ⟨t, ht, -⟩ := State.frames_cons hr
      show ({ U with heap := s₂.heap, slotsUsed := s₂.slotsUsed } : State) = { U.setFrames U.frames with heap := s₂.heap, slotsUsed := s₂.slotsUsed }
      rw [State.setFrames_self ht]
    subst hg
    refine Or.inl ⟨v, ⟨(({ U with heap := s₂.heap, slotsUsed := s₂.slotsUsed } : State).setVm s₂.vm), Ls ++ L, c0 + mc, s0 + ms⟩,
      ⟨X.admits, X.cas, X.clock, X.frames, X.room, X.hears, X.method, X.code, (X.here.setHeapUsed s₂.heap s₂.slotsUsed).setVm hW'.alike, X.tail, State.WarmedH.trans X.warmed hW', X.limits, X.bytes, X.same.trans (hsame.setVm s.vm)⟩,
      ⟨g, mk, s₂, L, rfl, rfl, hqc, rfl, hL, rfl, rfl⟩, ?_⟩
    show Steps p.tables e below _ ((({ U with heap := s₂.heap, slotsUsed := s₂.slotsUsed } : State).setVm s₂.vm).setTop { g with pc := g.pc + len₂, stack := v.toList ++ g.stack })
    rw [← hs₂]
    exact hsteps
  · obtain ⟨e2, q2, q3, q4, q5, q6⟩ := id hsm
    have e3 : s₂ = ({ (U.calling g mk a).setFrames s₂.frames with heap := s₂.heap, slotsUsed := s₂.slotsUsed } : State).setVm s₂.vm := by
      have : s₂ = ({ s₂ with vm := (U.calling g mk a).vm } : State).setVm s₂.vm := rfl
      rw [e2] at this
      exact this
    have hf₂ : s₂.frames = .throwing q :: .java g :: U.frames.tail := hend
    have hW' : U.WarmedH s₂.vm := hW₂
    have hs₂ : s₂ = ((({ U with heap := s₂.heap, slotsUsed := s₂.slotsUsed } : State).setVm s₂.vm).setTop g).pushFrame (.throwing q) := by
      refine e3.trans ?_
      rw [hf₂, State.calling_eq h.top, State.setFrames_setFrames, State.pushFrame, State.frames_setTop _ hr', State.setTop_of_frames _ hr', State.setFrames_setFrames, hr]
      rfl
    have hsame : U.sameButNew ({ U with heap := s₂.heap, slotsUsed := s₂.slotsUsed } : State) L mc ms := by
      refine ⟨?_, q2, q3, q4, q5, q6⟩
      obtain ⟨t, ht, -⟩ := State.frames_cons hr
      show ({ U with heap := s₂.heap, slotsUsed := s₂.slotsUsed } : State) = { U.setFrames U.frames with heap := s₂.heap, slotsUsed := s₂.slotsUsed }
      rw [State.setFrames_self ht]
    subst hg
    refine Or.inr ⟨q, ⟨(({ U with heap := s₂.heap, slotsUsed := s₂.slotsUsed } : State).setVm s₂.vm), Ls ++ L, c0 + mc, s0 + ms⟩,
      ⟨X.admits, X.cas, X.clock, X.frames, X.room, X.hears, X.method, X.code, (X.here.setHeapUsed s₂.heap s₂.slotsUsed).setVm hW'.alike, X.tail, State.WarmedH.trans X.warmed hW', X.limits, X.bytes, X.same.trans (hsame.setVm s.vm)⟩,
      ⟨g, mk, s₂, L, E, ce, rfl, rfl, hx, hce, hcv, hcl, rfl, hL, rfl, rfl⟩, ?_⟩
    show Steps p.tables e below _ (((({ U with heap := s₂.heap, slotsUsed := s₂.slotsUsed } : State).setVm s₂.vm).setTop g).pushFrame (.throwing q))
    rw [← hs₂]
    exact hsteps
end Payer
section Calls
variable {p : Program} {l : Launch} {e : Env} {R : Room} {s : State} {m : MethodId} {args : Array Value} {below : List Frame} {meth : Method} {c : Code} {T : State} {locs : List Loc} {cells slots : Nat}
theorem vx_callV (X : Stand p l e R s m args below meth c T locs cells slots) (hexec : p.tables.exec = Jvm.exec) {own C : String} {index : Nat} {y : MethodName} {bytes : ByteArray} {maxL : Nat} {ret : Option FieldType}
    (hown : s.vm.findClass own = some m.cls) (hlink : (Cond.methodLink own index y).before args s = true) (hinst : (Cond.instanceMethod y).before args s = true) (hsel : (Cond.selects C y y).before args s = true)
    (hcode : (Cond.code y bytes maxL ret).before args s = true) (hy : y.cls ≠ "java/lang/invoke/MethodHandle" ∧ y.cls ≠ "java/lang/invoke/VarHandle")
    {W9 : Nat} {Pre : Pt → Array Value → Prop} {Post : Pt → Array Value → Option Value → Pt → Prop} {PostX : Pt → Array Value → Addr → Pt → Prop} (hK : vx_Back l R p e below s args y 3 W9 Pre Post PostX)
    {b : Addr} {cellB : Cell} (hcell : T.heap[b]? = some cellB) (hobj : cellB.vm.isStatics = false) (hcls : s.vm.findClass C = some cellB.cls)
    {g : JFrame} (hg : g.method = m) (hsize : g.locals.size = c.maxLocals) {argsL rest : List Value} (hlen : ∀ sig, parseMethodDescriptor y.desc = some sig → argsL.length = sig.parameters.length)
    (hstack : g.stack = argsL.reverse ++ .ref b :: rest) (hW : 2 * g.monitorRoom + (rest.map fun v => v.category).sum ≤ W9) (hdg : decode c.code g.pc = .ok (.invokevirtual index, 3))
    (hpre : ∀ vm₁, s.WarmedH vm₁ → Pre ⟨T.setVm vm₁, locs, cells, slots⟩ (Value.ref b :: argsL).toArray) :
    (∃ (v : Option Value) (vm₁ : Vm) (B : Pt), s.WarmedH vm₁ ∧ Stand p l e R s m args below meth c B.U B.locs B.cells B.slots ∧ Post ⟨T.setVm vm₁, locs, cells, slots⟩ (Value.ref b :: argsL).toArray v B ∧
      ∀ target, Steps p.tables e below (B.U.setTop { g with pc := g.pc + 3, stack := v.toList ++ rest }) target → Steps p.tables e below (T.setTop g) target) ∨
    (∃ (q : Addr) (vm₁ : Vm) (B : Pt), s.WarmedH vm₁ ∧ Stand p l e R s m args below meth c B.U B.locs B.cells B.slots ∧ PostX ⟨T.setVm vm₁, locs, cells, slots⟩ (Value.ref b :: argsL).toArray q B ∧
      Steps p.tables e below (T.setTop g) ((B.U.setTop { g with stack := rest }).pushFrame (.throwing q))) := by
  obtain ⟨mk, methM, hnamed, hmethM, hstM, habM⟩ := Cond.instanceMethod_spec hinst
  obtain ⟨methM', cM, hmethM', -, -, -, -, -, -, hsigM⟩ := Cond.code_spec hnamed hcode
  cases hmethM.symm.trans hmethM'
  obtain ⟨c2, r2, m2, q1, q2, q3, q4, kP, hkP, hkPi⟩ := Cond.selects_spec hsel
  cases hcls.symm.trans q1
  cases (State.methodFound?_of_named hnamed hy).symm.trans q2
  cases hnamed.symm.trans q3
  have hselP : selectMethod e.platform s.vm cellB.cls mk = .method mk := by rw [Launch.admits_selectMethod X.admits]; exact q4
  obtain ⟨vm₁, X₁, hstep₁⟩ := X.invokevirtual hexec hown hlink hnamed hmethM hstM hkP hkPi hy (a := b) (cell := cellB) hcell
    (fun z h => by rw [h] at hobj; cases hobj) hselP hmethM habM hkP hkPi (g := g) hg (argsL := argsL) (rest := rest) (hlen _ hsigM) hstack hdg
  rcases hK m meth c ⟨T.setVm vm₁, locs, cells, slots⟩ { g with stack := rest } (.invokevirtual index) mk (Value.ref b :: argsL).toArray X₁ hg hsize hdg hW (X₁.named hnamed) (hpre vm₁ X₁.warmed) with ⟨v, B, X', hpost, hsteps⟩ | ⟨q, B, X', hpost, hsteps⟩
  · exact Or.inl ⟨v, vm₁, B, X₁.warmed, X', hpost, fun target h => hstep₁ _ fun acts => by rw [doInvoke_state]; exact hsteps.trans h⟩
  · exact Or.inr ⟨q, vm₁, B, X₁.warmed, X', hpost, hstep₁ _ fun acts => by rw [doInvoke_state]; exact hsteps⟩
theorem vx_callS (X : Stand p l e R s m args below meth c T locs cells slots) (hexec : p.tables.exec = Jvm.exec) {own : String} {index : Nat} {y : MethodName} {bytes : ByteArray} {maxL : Nat} {ret : Option FieldType}
    (hown : s.vm.findClass own = some m.cls) (hlink : (Cond.methodLink own index y).before args s = true) (hstat : (Cond.static y).before args s = true) (hinit : (Cond.initialized y.cls).before args s = true)
    (hcode : (Cond.code y bytes maxL ret).before args s = true) (hy : y.cls ≠ "java/lang/invoke/MethodHandle" ∧ y.cls ≠ "java/lang/invoke/VarHandle")
    {W9 : Nat} {Pre : Pt → Array Value → Prop} {Post : Pt → Array Value → Option Value → Pt → Prop} {PostX : Pt → Array Value → Addr → Pt → Prop} (hK : vx_Back l R p e below s args y 3 W9 Pre Post PostX)
    {g : JFrame} (hg : g.method = m) (hsize : g.locals.size = c.maxLocals) {argsL rest : List Value} (hlen : ∀ sig, parseMethodDescriptor y.desc = some sig → argsL.length = sig.parameters.length)
    (hstack : g.stack = argsL.reverse ++ rest) (hW : 2 * g.monitorRoom + (rest.map fun v => v.category).sum ≤ W9) (hdg : decode c.code g.pc = .ok (.invokestatic index, 3))
    (hpre : ∀ vm₁, s.WarmedH vm₁ → Pre ⟨T.setVm vm₁, locs, cells, slots⟩ argsL.toArray) :
    (∃ (v : Option Value) (vm₁ : Vm) (B : Pt), s.WarmedH vm₁ ∧ Stand p l e R s m args below meth c B.U B.locs B.cells B.slots ∧ Post ⟨T.setVm vm₁, locs, cells, slots⟩ argsL.toArray v B ∧
      ∀ target, Steps p.tables e below (B.U.setTop { g with pc := g.pc + 3, stack := v.toList ++ rest }) target → Steps p.tables e below (T.setTop g) target) ∨
    (∃ (q : Addr) (vm₁ : Vm) (B : Pt), s.WarmedH vm₁ ∧ Stand p l e R s m args below meth c B.U B.locs B.cells B.slots ∧ PostX ⟨T.setVm vm₁, locs, cells, slots⟩ argsL.toArray q B ∧
      Steps p.tables e below (T.setTop g) ((B.U.setTop { g with stack := rest }).pushFrame (.throwing q))) := by
  obtain ⟨mk, hnamed⟩ := Cond.code_named hcode
  obtain ⟨methM, cM, hmethM, -, -, -, -, -, -, hsigM⟩ := Cond.code_spec hnamed hcode
  have hstatic : methM.isStatic = true := Cond.static_spec hnamed hmethM hstat
  obtain ⟨kP, hkP, -⟩ := className_of_methodNamed hnamed
  have hinitP : kP.init = .initialized := Cond.initialized_spec (findClass_of_methodNamed hnamed) hkP hinit
  obtain ⟨vm₁, X₁, hstep₁⟩ := X.invokestatic hexec hown hlink hnamed hmethM hstatic hkP hinitP hy (g := g) hg (argsL := argsL) (rest := rest) (hlen _ hsigM) hstack hdg
  rcases hK m meth c ⟨T.setVm vm₁, locs, cells, slots⟩ { g with stack := rest } (.invokestatic index) mk argsL.toArray X₁ hg hsize hdg hW (X₁.named hnamed) (hpre vm₁ X₁.warmed) with ⟨v, B, X', hpost, hsteps⟩ | ⟨q, B, X', hpost, hsteps⟩
  · exact Or.inl ⟨v, vm₁, B, X₁.warmed, X', hpost, fun target h => hstep₁ _ fun acts => by rw [doInvoke_state]; exact hsteps.trans h⟩
  · exact Or.inr ⟨q, vm₁, B, X₁.warmed, X', hpost, hstep₁ _ fun acts => by rw [doInvoke_state]; exact hsteps⟩
end Calls
theorem vx_cls {s : State} {T : State} {vm₁ : Vm} {E : String} {k : ClassId} (hW : s.WarmedH vm₁) (h : (T.setVm vm₁).vm.findClass E = some k) : s.vm.findClass E = some k := by
  have h1 : vm₁.findClass E = some k := h
  rw [hW.alike.findClass] at h1
  exact h1
/-- the method's frame g, with q thrown over it -/
def vx_W (p : Program) (l : Launch) (e : Env) (R : Room) (s : State) (m : MethodId) (args : Array Value) (below : List Frame) (meth : Method) (c : Code) (H : Heap) (locs : List Loc) (cells slots : Nat) (Q : State → Prop) (g : JFrame) (q : Addr) : Prop :=
  ∀ T : State, T.heap = H → Stand p l e R s m args below meth c T locs cells slots → ∃ t, Steps p.tables e below ((T.setTop g).pushFrame (.throwing q)) t ∧ Q t
def vx_Run (p : Program) (l : Launch) (e : Env) (R : Room) (s : State) (m : MethodId) (args : Array Value) (below : List Frame) (meth : Method) (c : Code) (H : Heap) (locs : List Loc) (cells slots mc ms : Nat) (g : JFrame) (rest : List Value) (Qa : State → Outcome → State → Prop) (XC : String → State → State → Prop) (free : Addr → Prop) : Prop :=
  ∀ T : State, T.heap = H → Stand p l e R s m args below meth c T locs cells slots →
    (∃ (v : Option Value) (st₀ t T' : State) (L : List Loc), st₀.heap = H ∧ Stand p l e R s m args below meth c T' (locs ++ L) (cells + mc) (slots + ms) ∧ (∀ q ∈ L, free q.base) ∧ T'.heap = t.heap ∧ T'.vm = t.vm ∧ Qa st₀ (.returned v) t ∧
      Goes p e below T g T' { g with pc := g.pc + 3, stack := v.toList ++ rest }) ∨
    (∃ (q : Addr) (st₀ t T' : State) (L : List Loc) (E : String) (ce : Cell), st₀.heap = H ∧ Stand p l e R s m args below meth c T' (locs ++ L) (cells + mc) (slots + ms) ∧ (∀ z ∈ L, free z.base) ∧ T'.heap = t.heap ∧ T'.vm = t.vm ∧ XC E st₀ t ∧ t.heap[q]? = some ce ∧ ce.vm = .none ∧ s.vm.findClass E = some ce.cls ∧
      Steps p.tables e below (T.setTop g) ((T'.setTop { g with stack := rest }).pushFrame (.throwing q)))
def vx_X {S : Type} (px : S → Prop) (B : String → S → State → Prop) (A : Nat → Prop) : String → State → State → Prop := fun E st t => ∃ u : S, px u ∧ B E u t ∧ va_F A st t
section Runs
variable {p : Program} {l : Launch} {e : Env} {R : Room} {s : State} {m : MethodId} {args : Array Value} {below : List Frame} {meth : Method} {c : Code} {H : Heap} {locs : List Loc} {cells slots : Nat}
variable {y : MethodName} {bytes cc : ByteArray} {maxL nL mc ms n index : Nat} {ret : Option FieldType} {ws : List Cond} {rm : Room} {Pc : Array Value → State → Prop} {Qc : Array Value → State → Outcome → State → Prop} {XC : String → State → State → Prop} {free : Addr → Prop} {Ts : List Cond} {own C : String} {b : Addr} {As rest : List Value} {g : JFrame}
theorem vx_callBack (cb : CallB R s args own index y bytes maxL ret ws rm mc ms n) (hM : vx_Met l y ws rm Pc Qc XC mc ms free) (hbl : FrameBlind Pc) : vx_Back l R p e below s args y 3 8 (PreOf R mc ms Pc) (PostOf Qc mc ms free) (vx_Post XC mc ms free) := by
  obtain ⟨hrc, hrs, hfr, hlo, hws, hcw, -, hini, -⟩ := cb
  exact vx_back (bytes := bytes) (maxL := maxL) (ret := ret) hM hbl hrc hrs hfr hlo hws hcw (fun a' U hW => word_at hW (Or.inl (by first | rfl | simp [Cond.onTables, Cond.keeps, Cond.steady])) hini)
theorem vx_runV (S : CallFix p m c cc nL s args Ts own) (hM : vx_Met l y ws rm Pc Qc XC mc ms free) (cw : CallW R s args own C index y bytes maxL ret ws rm mc ms n) (hp : PreV s H C b Pc As)
    (hg : g.method = m) (hn : As.length = n) (hsize : g.locals.size = nL) (hstack : g.stack = As.reverse ++ .ref b :: rest) (hW : 2 * g.monitorRoom + (rest.map fun v => v.category).sum ≤ 8) (hdg : decode cc g.pc = .ok (.invokevirtual index, 3)) (hf : cells + mc ≤ R.cells ∧ slots + ms ≤ R.slots) :
    vx_Run p l e R s m args below meth c H locs cells slots mc ms g rest (Qc (Value.ref b :: As).toArray) XC free := by
  have hK : vx_Back l R p e below s args y 3 8 (PreOf R mc ms Pc) (PostOf Qc mc ms free) (vx_Post XC mc ms free) := vx_callBack cw.1 hM hp.1
  obtain ⟨⟨-, -, -, -, -, -, hcode, -, hy, hlen, hl⟩, hin, hse⟩ := cw
  obtain ⟨hx, hb, hml, ho, -⟩ := S
  obtain ⟨-, ⟨cellB, hcB, hoB, hclB⟩, hPc⟩ := hp
  intro T hT X
  rcases vx_callV X hx (C := C) (bytes := bytes) (maxL := maxL) (ret := ret) ho hl hin hse hcode hy hK (by rw [hT]; exact hcB) hoB hclB hg (hsize.trans hml.symm) (argsL := As) (rest := rest) (fun sig h => hn.trans (hlen sig h)) hstack hW (by rw [hb]; exact hdg)
    (fun vm₁ hW₁ => ⟨hf.1, hf.2, hPc (T.setVm vm₁) hT hW₁⟩) with ⟨v, vm₁, ⟨U', l2, c2, s2⟩, hW₁, X', ⟨g', mk, t, L, e1, e2, hq, h1, hL, h2, h3⟩, st⟩ | ⟨q, vm₁, ⟨U', l2, c2, s2⟩, hW₁, X', ⟨g', mk, t, L, E, ce, e1, e2, hq, hce, hcv, hcl, h1, hL, h2, h3⟩, st⟩
  · dsimp only [Pt.U, Pt.locs, Pt.cells, Pt.slots] at X' e1 e2 h1 h2 h3 st
    subst h1; subst h2; subst h3
    exact Or.inl ⟨v, (T.setVm vm₁).calling g' mk (Value.ref b :: As).toArray, t, U', L, hT, X', hL, e1, e2, hq, st⟩
  · dsimp only [Pt.U, Pt.locs, Pt.cells, Pt.slots] at X' e1 e2 h1 h2 h3 st hcl
    subst h1; subst h2; subst h3
    exact Or.inr ⟨q, (T.setVm vm₁).calling g' mk (Value.ref b :: As).toArray, t, U', L, E, ce, hT, X', hL, e1, e2, hq, hce, hcv, vx_cls hW₁ hcl, st⟩
theorem vx_runS (S : CallFix p m c cc nL s args Ts own) (hM : vx_Met l y ws rm Pc Qc XC mc ms free) (cw : CallB R s args own index y bytes maxL ret ws rm mc ms n ∧ (Cond.static y).before args s = true) (hp : PreS s H Pc As)
    (hg : g.method = m) (hn : As.length = n) (hsize : g.locals.size = nL) (hstack : g.stack = As.reverse ++ rest) (hW : 2 * g.monitorRoom + (rest.map fun v => v.category).sum ≤ 8) (hdg : decode cc g.pc = .ok (.invokestatic index, 3)) (hf : cells + mc ≤ R.cells ∧ slots + ms ≤ R.slots) :
    vx_Run p l e R s m args below meth c H locs cells slots mc ms g rest (Qc As.toArray) XC free := by
  have hK : vx_Back l R p e below s args y 3 8 (PreOf R mc ms Pc) (PostOf Qc mc ms free) (vx_Post XC mc ms free) := vx_callBack cw.1 hM hp.1
  obtain ⟨⟨-, -, -, -, -, -, hcode, hini, hy, hlen, hl⟩, hstt⟩ := cw
  obtain ⟨hx, hb, hml, ho, -⟩ := S
  intro T hT X
  rcases vx_callS X hx (bytes := bytes) (maxL := maxL) (ret := ret) ho hl hstt hini hcode hy hK hg (hsize.trans hml.symm) (argsL := As) (rest := rest) (fun sig h => hn.trans (hlen sig h)) hstack hW (by rw [hb]; exact hdg)
    (fun vm₁ hW₁ => ⟨hf.1, hf.2, hp.2 (T.setVm vm₁) hT hW₁⟩) with ⟨v, vm₁, ⟨U', l2, c2, s2⟩, hW₁, X', ⟨g', mk, t, L, e1, e2, hq, h1, hL, h2, h3⟩, st⟩ | ⟨q, vm₁, ⟨U', l2, c2, s2⟩, hW₁, X', ⟨g', mk, t, L, E, ce, e1, e2, hq, hce, hcv, hcl, h1, hL, h2, h3⟩, st⟩
  · dsimp only [Pt.U, Pt.locs, Pt.cells, Pt.slots] at X' e1 e2 h1 h2 h3 st
    subst h1; subst h2; subst h3
    exact Or.inl ⟨v, (T.setVm vm₁).calling g' mk As.toArray, t, U', L, hT, X', hL, e1, e2, hq, st⟩
  · dsimp only [Pt.U, Pt.locs, Pt.cells, Pt.slots] at X' e1 e2 h1 h2 h3 st hcl
    subst h1; subst h2; subst h3
    exact Or.inr ⟨q, (T.setVm vm₁).calling g' mk As.toArray, t, U', L, E, ce, hT, X', hL, e1, e2, hq, hce, hcv, vx_cls hW₁ hcl, st⟩
end Runs
section Rows
variable {p : Program} {l : Launch} {e : Env} {R : Room} {s : State} {m : MethodId} {args : Array Value} {below : List Frame} {meth : Method} {c : Code} {H : Heap} {locs : List Loc} {cells slots : Nat} {Q : State → Prop}
variable {mc ms : Nat} {free : Addr → Prop} {A0 A1 : Nat → Prop} {H0 : Heap} {a : Array Value} {pc : Nat} {ls : Array Slot} {st0 rest : List Value}
theorem vx_keep {st₀ t T' : State} {L : List Loc} (h0 : st₀.heap = H) (e1 : T'.heap = t.heap) (hS : va_S A0 H0 H locs) (hA : ∀ q, q < H.size → A1 q → A0 q) (hf : ∀ q, free q → A0 q) (hL : ∀ q ∈ L, free q.base) (hF : va_F A1 st₀ t) :
    H.size ≤ T'.heap.size ∧ (∀ q : Nat, q < H.size → ¬ A1 q → T'.heap[q]? = H[q]?) ∧ va_S A0 H0 T'.heap (locs ++ L) := by
  obtain ⟨hz, hk⟩ := hF
  rw [h0] at hz hk
  exact ⟨by rw [e1]; exact hz, fun q h1 h2 => by rw [e1]; exact hk q h1 h2,
    ⟨Nat.le_trans hS.1 (by rw [e1]; exact hz), fun q h1 h2 => by rw [e1, hk q (Nat.lt_of_lt_of_le h1 hS.1) (fun z => h2 (hA q (Nat.lt_of_lt_of_le h1 hS.1) z))]; exact hS.2.1 q h1 h2, fun q hq => by
      rcases List.mem_append.mp hq with h | h
      · exact hS.2.2 q h
      · exact hf _ (hL q h)⟩⟩
theorem vx_calli {S SX : Type} {post : Int32 → S → Prop} {px : SX → Prop} {B : S → State → Prop} {BX : String → SX → State → Prop} {AX : Nat → Prop} (hr : vx_Run p l e R s m args below meth c H locs cells slots mc ms (F0 m pc ls st0) rest (va_Qi post B A1 a) (vx_X px BX AX) free) (hS : va_S A0 H0 H locs) (hA : ∀ q, q < H.size → A1 q → A0 q) (hf : ∀ q, free q → A0 q) (hAX : ∀ q, q < H.size → AX q → A0 q)
    (kx : ∀ (E : String) (ce : Cell) (q9 : Addr) (u : SX) (t : State) (H1 : Heap) (locs1 : List Loc), t.heap = H1 → s.vm.Alike t.vm → px u → BX E u t → H.size ≤ H1.size → (∀ q : Nat, q < H.size → ¬ AX q → H1[q]? = H[q]?) → va_S A0 H0 H1 locs1 → H1[q9]? = some ce → ce.vm = .none → s.vm.findClass E = some ce.cls → vx_W p l e R s m args below meth c H1 locs1 (cells + mc) (slots + ms) Q (F0 m pc ls rest) q9)
    (kk : ∀ (r : Int32) (u : S) (t : State) (H1 : Heap) (locs1 : List Loc), t.heap = H1 → s.vm.Alike t.vm → post r u → B u t → H.size ≤ H1.size → (∀ q : Nat, q < H.size → ¬ A1 q → H1[q]? = H[q]?) → va_S A0 H0 H1 locs1 → W p l e R s m args below meth c H1 locs1 (cells + mc) (slots + ms) Q (F0 m (pc + 3) ls (.int r :: rest))) : W p l e R s m args below meth c H locs cells slots Q (F0 m pc ls st0) := by
  intro T hT X
  rcases hr T hT X with ⟨v, st₀, t, T', L, h0, X', hL, e1, e2, ⟨⟨r, u, hv, hp, hb⟩, hF⟩, st⟩ | ⟨q, st₀, t, T', L, E, ce, h0, X', hL, e1, e2, ⟨u, hp, hb, hF⟩, hce, hcv, hcl, st⟩
  · cases hv
    obtain ⟨k1, k2, k3⟩ := vx_keep h0 e1 hS hA hf hL hF
    obtain ⟨t2, a1, b1⟩ := kk r u t T'.heap (locs ++ L) e1.symm (by rw [← e2]; exact X'.warmed.alike) hp hb k1 k2 k3 T' rfl X'
    exact ⟨t2, st t2 a1, b1⟩
  · obtain ⟨k1, k2, k3⟩ := vx_keep h0 e1 hS hAX hf hL hF
    obtain ⟨t2, a1, b1⟩ := kx E ce q u t T'.heap (locs ++ L) e1.symm (by rw [← e2]; exact X'.warmed.alike) hp hb k1 k2 k3 (by rw [e1]; exact hce) hcv hcl T' rfl X'
    exact ⟨t2, st.trans a1, b1⟩
theorem vx_calll {S SX : Type} {post : Int64 → S → Prop} {px : SX → Prop} {B : S → State → Prop} {BX : String → SX → State → Prop} {AX : Nat → Prop} (hr : vx_Run p l e R s m args below meth c H locs cells slots mc ms (F0 m pc ls st0) rest (va_Ql post B A1 a) (vx_X px BX AX) free) (hS : va_S A0 H0 H locs) (hA : ∀ q, q < H.size → A1 q → A0 q) (hf : ∀ q, free q → A0 q) (hAX : ∀ q, q < H.size → AX q → A0 q)
    (kx : ∀ (E : String) (ce : Cell) (q9 : Addr) (u : SX) (t : State) (H1 : Heap) (locs1 : List Loc), t.heap = H1 → s.vm.Alike t.vm → px u → BX E u t → H.size ≤ H1.size → (∀ q : Nat, q < H.size → ¬ AX q → H1[q]? = H[q]?) → va_S A0 H0 H1 locs1 → H1[q9]? = some ce → ce.vm = .none → s.vm.findClass E = some ce.cls → vx_W p l e R s m args below meth c H1 locs1 (cells + mc) (slots + ms) Q (F0 m pc ls rest) q9)
    (kk : ∀ (r : Int64) (u : S) (t : State) (H1 : Heap) (locs1 : List Loc), t.heap = H1 → s.vm.Alike t.vm → post r u → B u t → H.size ≤ H1.size → (∀ q : Nat, q < H.size → ¬ A1 q → H1[q]? = H[q]?) → va_S A0 H0 H1 locs1 → W p l e R s m args below meth c H1 locs1 (cells + mc) (slots + ms) Q (F0 m (pc + 3) ls (.long r :: rest))) : W p l e R s m args below meth c H locs cells slots Q (F0 m pc ls st0) := by
  intro T hT X
  rcases hr T hT X with ⟨v, st₀, t, T', L, h0, X', hL, e1, e2, ⟨⟨r, u, hv, hp, hb⟩, hF⟩, st⟩ | ⟨q, st₀, t, T', L, E, ce, h0, X', hL, e1, e2, ⟨u, hp, hb, hF⟩, hce, hcv, hcl, st⟩
  · cases hv
    obtain ⟨k1, k2, k3⟩ := vx_keep h0 e1 hS hA hf hL hF
    obtain ⟨t2, a1, b1⟩ := kk r u t T'.heap (locs ++ L) e1.symm (by rw [← e2]; exact X'.warmed.alike) hp hb k1 k2 k3 T' rfl X'
    exact ⟨t2, st t2 a1, b1⟩
  · obtain ⟨k1, k2, k3⟩ := vx_keep h0 e1 hS hAX hf hL hF
    obtain ⟨t2, a1, b1⟩ := kx E ce q u t T'.heap (locs ++ L) e1.symm (by rw [← e2]; exact X'.warmed.alike) hp hb k1 k2 k3 (by rw [e1]; exact hce) hcv hcl T' rfl X'
    exact ⟨t2, st.trans a1, b1⟩
theorem vx_callf {S SX : Type} {post : UInt32 → S → Prop} {px : SX → Prop} {B : S → State → Prop} {BX : String → SX → State → Prop} {AX : Nat → Prop} (hr : vx_Run p l e R s m args below meth c H locs cells slots mc ms (F0 m pc ls st0) rest (va_Qf post B A1 a) (vx_X px BX AX) free) (hS : va_S A0 H0 H locs) (hA : ∀ q, q < H.size → A1 q → A0 q) (hf : ∀ q, free q → A0 q) (hAX : ∀ q, q < H.size → AX q → A0 q)
    (kx : ∀ (E : String) (ce : Cell) (q9 : Addr) (u : SX) (t : State) (H1 : Heap) (locs1 : List Loc), t.heap = H1 → s.vm.Alike t.vm → px u → BX E u t → H.size ≤ H1.size → (∀ q : Nat, q < H.size → ¬ AX q → H1[q]? = H[q]?) → va_S A0 H0 H1 locs1 → H1[q9]? = some ce → ce.vm = .none → s.vm.findClass E = some ce.cls → vx_W p l e R s m args below meth c H1 locs1 (cells + mc) (slots + ms) Q (F0 m pc ls rest) q9)
    (kk : ∀ (r : UInt32) (u : S) (t : State) (H1 : Heap) (locs1 : List Loc), t.heap = H1 → s.vm.Alike t.vm → post r u → B u t → H.size ≤ H1.size → (∀ q : Nat, q < H.size → ¬ A1 q → H1[q]? = H[q]?) → va_S A0 H0 H1 locs1 → W p l e R s m args below meth c H1 locs1 (cells + mc) (slots + ms) Q (F0 m (pc + 3) ls (.float r :: rest))) : W p l e R s m args below meth c H locs cells slots Q (F0 m pc ls st0) := by
  intro T hT X
  rcases hr T hT X with ⟨v, st₀, t, T', L, h0, X', hL, e1, e2, ⟨⟨r, u, hv, hp, hb⟩, hF⟩, st⟩ | ⟨q, st₀, t, T', L, E, ce, h0, X', hL, e1, e2, ⟨u, hp, hb, hF⟩, hce, hcv, hcl, st⟩
  · cases hv
    obtain ⟨k1, k2, k3⟩ := vx_keep h0 e1 hS hA hf hL hF
    obtain ⟨t2, a1, b1⟩ := kk r u t T'.heap (locs ++ L) e1.symm (by rw [← e2]; exact X'.warmed.alike) hp hb k1 k2 k3 T' rfl X'
    exact ⟨t2, st t2 a1, b1⟩
  · obtain ⟨k1, k2, k3⟩ := vx_keep h0 e1 hS hAX hf hL hF
    obtain ⟨t2, a1, b1⟩ := kx E ce q u t T'.heap (locs ++ L) e1.symm (by rw [← e2]; exact X'.warmed.alike) hp hb k1 k2 k3 (by rw [e1]; exact hce) hcv hcl T' rfl X'
    exact ⟨t2, st.trans a1, b1⟩
theorem vx_calld {S SX : Type} {post : UInt64 → S → Prop} {px : SX → Prop} {B : S → State → Prop} {BX : String → SX → State → Prop} {AX : Nat → Prop} (hr : vx_Run p l e R s m args below meth c H locs cells slots mc ms (F0 m pc ls st0) rest (va_Qd post B A1 a) (vx_X px BX AX) free) (hS : va_S A0 H0 H locs) (hA : ∀ q, q < H.size → A1 q → A0 q) (hf : ∀ q, free q → A0 q) (hAX : ∀ q, q < H.size → AX q → A0 q)
    (kx : ∀ (E : String) (ce : Cell) (q9 : Addr) (u : SX) (t : State) (H1 : Heap) (locs1 : List Loc), t.heap = H1 → s.vm.Alike t.vm → px u → BX E u t → H.size ≤ H1.size → (∀ q : Nat, q < H.size → ¬ AX q → H1[q]? = H[q]?) → va_S A0 H0 H1 locs1 → H1[q9]? = some ce → ce.vm = .none → s.vm.findClass E = some ce.cls → vx_W p l e R s m args below meth c H1 locs1 (cells + mc) (slots + ms) Q (F0 m pc ls rest) q9)
    (kk : ∀ (r : UInt64) (u : S) (t : State) (H1 : Heap) (locs1 : List Loc), t.heap = H1 → s.vm.Alike t.vm → post r u → B u t → H.size ≤ H1.size → (∀ q : Nat, q < H.size → ¬ A1 q → H1[q]? = H[q]?) → va_S A0 H0 H1 locs1 → W p l e R s m args below meth c H1 locs1 (cells + mc) (slots + ms) Q (F0 m (pc + 3) ls (.double r :: rest))) : W p l e R s m args below meth c H locs cells slots Q (F0 m pc ls st0) := by
  intro T hT X
  rcases hr T hT X with ⟨v, st₀, t, T', L, h0, X', hL, e1, e2, ⟨⟨r, u, hv, hp, hb⟩, hF⟩, st⟩ | ⟨q, st₀, t, T', L, E, ce, h0, X', hL, e1, e2, ⟨u, hp, hb, hF⟩, hce, hcv, hcl, st⟩
  · cases hv
    obtain ⟨k1, k2, k3⟩ := vx_keep h0 e1 hS hA hf hL hF
    obtain ⟨t2, a1, b1⟩ := kk r u t T'.heap (locs ++ L) e1.symm (by rw [← e2]; exact X'.warmed.alike) hp hb k1 k2 k3 T' rfl X'
    exact ⟨t2, st t2 a1, b1⟩
  · obtain ⟨k1, k2, k3⟩ := vx_keep h0 e1 hS hAX hf hL hF
    obtain ⟨t2, a1, b1⟩ := kx E ce q u t T'.heap (locs ++ L) e1.symm (by rw [← e2]; exact X'.warmed.alike) hp hb k1 k2 k3 (by rw [e1]; exact hce) hcv hcl T' rfl X'
    exact ⟨t2, st.trans a1, b1⟩
theorem vx_callv {S SX : Type} {post : S → Prop} {px : SX → Prop} {B : S → State → Prop} {BX : String → SX → State → Prop} {AX : Nat → Prop} (hr : vx_Run p l e R s m args below meth c H locs cells slots mc ms (F0 m pc ls st0) rest (va_Qv post B A1 a) (vx_X px BX AX) free) (hS : va_S A0 H0 H locs) (hA : ∀ q, q < H.size → A1 q → A0 q) (hf : ∀ q, free q → A0 q) (hAX : ∀ q, q < H.size → AX q → A0 q)
    (kx : ∀ (E : String) (ce : Cell) (q9 : Addr) (u : SX) (t : State) (H1 : Heap) (locs1 : List Loc), t.heap = H1 → s.vm.Alike t.vm → px u → BX E u t → H.size ≤ H1.size → (∀ q : Nat, q < H.size → ¬ AX q → H1[q]? = H[q]?) → va_S A0 H0 H1 locs1 → H1[q9]? = some ce → ce.vm = .none → s.vm.findClass E = some ce.cls → vx_W p l e R s m args below meth c H1 locs1 (cells + mc) (slots + ms) Q (F0 m pc ls rest) q9)
    (kk : ∀ (u : S) (t : State) (H1 : Heap) (locs1 : List Loc), t.heap = H1 → s.vm.Alike t.vm → post u → B u t → H.size ≤ H1.size → (∀ q : Nat, q < H.size → ¬ A1 q → H1[q]? = H[q]?) → va_S A0 H0 H1 locs1 → W p l e R s m args below meth c H1 locs1 (cells + mc) (slots + ms) Q (F0 m (pc + 3) ls (rest))) : W p l e R s m args below meth c H locs cells slots Q (F0 m pc ls st0) := by
  intro T hT X
  rcases hr T hT X with ⟨v, st₀, t, T', L, h0, X', hL, e1, e2, ⟨⟨u, hv, hp, hb⟩, hF⟩, st⟩ | ⟨q, st₀, t, T', L, E, ce, h0, X', hL, e1, e2, ⟨u, hp, hb, hF⟩, hce, hcv, hcl, st⟩
  · cases hv
    obtain ⟨k1, k2, k3⟩ := vx_keep h0 e1 hS hA hf hL hF
    obtain ⟨t2, a1, b1⟩ := kk u t T'.heap (locs ++ L) e1.symm (by rw [← e2]; exact X'.warmed.alike) hp hb k1 k2 k3 T' rfl X'
    exact ⟨t2, st t2 a1, b1⟩
  · obtain ⟨k1, k2, k3⟩ := vx_keep h0 e1 hS hAX hf hL hF
    obtain ⟨t2, a1, b1⟩ := kx E ce q u t T'.heap (locs ++ L) e1.symm (by rw [← e2]; exact X'.warmed.alike) hp hb k1 k2 k3 (by rw [e1]; exact hce) hcv hcl T' rfl X'
    exact ⟨t2, st.trans a1, b1⟩
/-- caught by the row x of this method's table; the rows ahead don't take it -/
theorem vx_catch {own name : String} {E : String} {ce : Cell} {q : Addr} (hown : s.vm.findClass own = some m.cls) (pre : List ExceptionTableEntry) (x : ExceptionTableEntry) (suf : List ExceptionTableEntry) (hsplit : c.exceptionTable.toList = pre ++ x :: suf)
    (hpass : ∀ z ∈ pre, covers z pc = false ∨ (z.catchType ≠ 0 ∧ ∃ nm : String, (Cond.classLink own z.catchType nm).before args s = true ∧ va_Nc E nm s)) (hx : covers x pc = true) (h0 : x.catchType ≠ 0)
    (hlink : (Cond.classLink own x.catchType name).before args s = true) (hcast : (Cond.castable E name).before args s = true) (hcell : H[q]? = some ce) (hv : ce.vm = .none) (hcl : s.vm.findClass E = some ce.cls)
    (kk : W p l e R s m args below meth c H locs cells slots Q (F0 m x.handlerPc ls [.ref q])) : vx_W p l e R s m args below meth c H locs cells slots Q (F0 m pc ls rest) q := by
  intro T hT X
  have hpl : e.platform.magicAccessors = ({} : Platform).magicAccessors := by rw [X.admits.platform]
  obtain ⟨c3, c4, hc3, hc4, hasg⟩ := Cond.castable_spec hcast
  cases Option.some.inj (hc3.symm.trans hcl)
  obtain ⟨c5, hc5, hcl5⟩ := Cond.classLink_spec hown hlink e.platform hpl
  cases Option.some.inj (hc4.symm.trans hc5)
  obtain ⟨vm', X', st⟩ := X.thenCaughtThrough q (g := F0 m pc ls rest) rfl (Steps.refl _) (by rw [hT]; exact hcell) (by rw [hv]; rfl) (by obtain ⟨k9, h9, -⟩ := Vm.findClass_spec hcl; exact ⟨k9, h9⟩) pre x suf hsplit
    (fun z hz => by
      rcases hpass z hz with h | ⟨hz0, nm, hl1, hn1⟩
      · exact Or.inl h
      · obtain ⟨c6, hc6, hcl6⟩ := Cond.classLink_spec hown hl1 e.platform hpl
        obtain ⟨a8, b8, h1, h2, h3⟩ := hn1
        cases Option.some.inj (h1.symm.trans hcl)
        cases Option.some.inj (h2.symm.trans hc6)
        exact Or.inr ⟨hz0, _, hcl6, h3⟩) hx (Or.inr ⟨h0, c4, hcl5, hasg⟩)
  obtain ⟨t, a1, b1⟩ := kk (T.setVm vm') hT X'
  exact ⟨t, st.trans a1, b1⟩
end Rows
section Ends
variable {p : Program} {l : Launch} {e : Env} {R : Room} {s : State} {m : MethodId} {args : Array Value} {below : List Frame} {meth : Method} {c : Code} {H : Heap} {locs : List Loc} {cells slots : Nat} {Q : State → Prop}
variable {mc ms : Nat} {free : Addr → Prop} {A0 A1 : Nat → Prop} {H0 : Heap} {a : Array Value} {ls : Array Slot} {st0 rest : List Value}
variable {Qc : Array Value → State → Outcome → State → Prop} {XC : String → State → State → Prop}
/-- what a body that may throw owes at its end -/
def vx_MQ (below : List Frame) (Qc : Array Value → State → Outcome → State → Prop) (XC : String → State → State → Prop) (a : Array Value) (s : State) (mc ms : Nat) (free : Addr → Prop) : State → Prop := fun t =>
  ∃ o, t.status = .running ∧ Ended t below o ∧ vx_Q Qc XC mc ms free a s o t
theorem vx_ret {g : JFrame} {mc ms : Nat} (k : W p l e R s m args below meth c H locs cells slots (MQ below Qc args s mc ms free) g) : W p l e R s m args below meth c H locs cells slots (vx_MQ below Qc XC args s mc ms free) g := by
  intro T hT X
  obtain ⟨t, a1, o, b1, b2, b3, b4⟩ := k T hT X
  exact ⟨t, a1, o, b1, b2, Or.inl ⟨b3, b4⟩⟩
/-- not caught here: it goes on to the caller -/
theorem vx_widen {g : JFrame} {q : Addr} {k n : Nat} (h1 : cells ≤ k) (h2 : slots ≤ n) (kk : vx_W p l e R s m args below meth c H locs k n Q g q) : vx_W p l e R s m args below meth c H locs cells slots Q g q := fun T hT X => kk T hT (stand_widen X h1 h2)
theorem vx_out {pc : Nat} {E : String} {ce : Cell} {q : Addr} {mc ms : Nat} (hout : ∀ x ∈ c.exceptionTable.toList, covers x pc = false) (hlocks : meth.locks = false) (hcell : H[q]? = some ce) (hv : ce.vm = .none) (hcl : s.vm.findClass E = some ce.cls)
    (hx : ∀ t : State, t.heap = H → s.vm.Alike t.vm → XC E s t) (hf : ∀ z ∈ locs, free z.base) (hc : cells ≤ mc) (hs : slots ≤ ms) :
    vx_W p l e R s m args below meth c H locs cells slots (vx_MQ below Qc XC args s mc ms free) (F0 m pc ls rest) q := by
  intro T hT X
  obtain ⟨st1, hrun, hend, hW, hsm⟩ := X.leaveThrown q (g := F0 m pc ls rest) rfl rfl rfl hout hlocks
  have hcell9 : (T.setFrames (.throwing q :: below)).heap[q]? = some ce := by
    show T.heap[q]? = some ce
    rw [hT]; exact hcell
  exact ⟨_, st1, .threw q, hrun, hend, Or.inr ⟨q, rfl, E, ce, locs, hx _ hT hW.alike, hcell9, hv, hcl, hW, hsm.mono hc hs, hf⟩⟩
theorem vx_frame {U : State} {k n : Nat} (h : s.sameButNew ({ U with vm := s.vm } : State) locs k n) : s.heap.size ≤ U.heap.size ∧ ∀ q : Nat, q < s.heap.size → (∀ z ∈ locs, z.base ≠ q) → U.heap[q]? = s.heap[q]? := by
  obtain ⟨-, h2, -, -, -, h6⟩ := h
  refine ⟨h2, fun q hq hz => ?_⟩
  obtain ⟨c9, e1, e2, e3, e4⟩ := h6 q _ (Array.getElem?_eq_getElem hq)
  have hs : c9.slots = (s.heap[q]).slots := Array.ext_getElem? fun i => e4 i fun hm => hz _ hm rfl
  have h9 : c9 = s.heap[q] := by
    rw [hs] at e2
    exact e2
  have e5 : U.heap[q]? = some c9 := e1
  rw [e5, h9, Array.getElem?_eq_getElem hq]
/-- the words of a throw but the four that speak of the heap -/
def vx_no (w : Cond) : Bool := decide (w ≠ .isRef (.static Bundle.tN "UNASSIGNED_STACK" Bundle.steD)) && decide (w ≠ .isRef (.static Bundle.tN "SUPPRESSED_SENTINEL" Bundle.listD)) && decide (w ≠ .laysStatic Bundle.tN "UNASSIGNED_STACK" Bundle.steD) && decide (w ≠ .laysStatic Bundle.tN "SUPPRESSED_SENTINEL" Bundle.listD)
def vx_at0 (own : String) (ic : Nat) (X : String) (names : List String) : List Cond := (Bundle.ownAtoms0 own ic X names).filter vx_no
def vx_atS (own : String) (ic : Nat) (X : String) (names : List String) : List Cond := (Bundle.ownAtoms own ic X names).filter vx_no
/-- a word that the tables alone decide, or a good one -/
def vx_ot (w : Cond) : Bool := w.onTables || goodWord w
theorem vx_ot_at {args a' : Array Value} {s U : State} {w : Cond} (hW : s.WarmedH U.vm) (hvm : s.vm = U.vm) (hg : vx_ot w = true) (h : w.before args s = true) : w.before a' U = true := by
  simp only [vx_ot, Bool.or_eq_true] at hg
  rcases hg with hg | hg
  · exact va_tabs hg hvm h
  · exact word_at hW (good_of_word hg) h
/-- a list's words: the good ones out of the method's own list, the others by premises of their own -/
theorem vx_hat {args : Array Value} {s : State} {L B : List Cond} (h1 : ∀ w ∈ L.filter goodWord, w.before args s = true) (h2 : ∀ w ∈ L.filter (fun w => !goodWord w), w ∈ B) (h3 : ∀ w ∈ B, w.before args s = true) : ∀ w ∈ L, w.before args s = true := by
  intro w hw
  by_cases g : goodWord w = true
  · exact h1 w (List.mem_filter.mpr ⟨hw, g⟩)
  · refine h3 w (h2 w (List.mem_filter.mpr ⟨hw, ?_⟩))
    show (!goodWord w) = true
    cases hgw : goodWord w
    · rfl
    · exact absurd hgw g
theorem vx_c {args : Array Value} {s : State} {w : Cond} {B : List Cond} (h : w.before args s = true) (t : ∀ w ∈ B, w.before args s = true) : ∀ w' ∈ w :: B, w'.before args s = true := fun w' h' => (List.mem_cons.mp h').elim (fun e => by rw [e]; exact h) (t w')
theorem vx_n {args : Array Value} {s : State} : ∀ w ∈ ([] : List Cond), w.before args s = true := fun _ h => nomatch h
theorem vx_own {args : Array Value} {s : State} {L : List Cond} (h1 : ∀ w ∈ L.filter vx_no, w.before args s = true)
    (hU : (Cond.isRef (.static Bundle.tN "UNASSIGNED_STACK" Bundle.steD)).before args s = true) (hN : (Cond.isRef (.static Bundle.tN "SUPPRESSED_SENTINEL" Bundle.listD)).before args s = true)
    (lU : (Cond.laysStatic Bundle.tN "UNASSIGNED_STACK" Bundle.steD).before args s = true) (lN : (Cond.laysStatic Bundle.tN "SUPPRESSED_SENTINEL" Bundle.listD).before args s = true) : ∀ w ∈ L, w.before args s = true := by
  intro w hw
  by_cases e1 : w = .isRef (.static Bundle.tN "UNASSIGNED_STACK" Bundle.steD)
  · rw [e1]; exact hU
  · by_cases e2 : w = .isRef (.static Bundle.tN "SUPPRESSED_SENTINEL" Bundle.listD)
    · rw [e2]; exact hN
    · by_cases e3 : w = .laysStatic Bundle.tN "UNASSIGNED_STACK" Bundle.steD
      · rw [e3]; exact lU
      · by_cases e4 : w = .laysStatic Bundle.tN "SUPPRESSED_SENTINEL" Bundle.listD
        · rw [e4]; exact lN
        · exact h1 w (List.mem_filter.mpr ⟨hw, by unfold vx_no; rw [decide_eq_true e1, decide_eq_true e2, decide_eq_true e3, decide_eq_true e4]; rfl⟩)
/-- where a static field lies, its class's statics cell in H -/
def vx_L (C n d : String) (A : Nat → Prop) (U : State) (H : Heap) : Prop := ∃ (c : ClassId) (k : Class) (i : Nat) (f : Field) (a : Nat) (cell : Cell), U.vm.findClass C = some c ∧ U.fieldFound? C n d = some (c, k, i, f) ∧ f.isStatic = true ∧ k.statics = some a ∧ H[a]? = some cell ∧ cell.vm.isStatics = true ∧ cell.cls = c ∧ f.slot < cell.slots.size ∧ k.staticTypes[f.slot]? = some f.type ∧ ¬ A a
theorem vx_L.moved {C n d : String} {A : Nat → Prop} {u U : State} {H : Heap} (hvm : u.vm.Alike U.vm) (h : vx_L C n d A u H) : vx_L C n d A U H := by
  obtain ⟨c, k, i, f, a, cell, h1, h2, h3, h4, h5, h6, h7, h8, h9, h10⟩ := h
  obtain ⟨k', hi', he⟩ := State.fieldFound?_setVm hvm h2
  exact ⟨c, k', i, f, a, cell, by rw [hvm.findClass]; exact h1, hi', h3, by rw [he]; exact h4, h5, h6, h7, h8, by rw [he]; exact h9, h10⟩
theorem vx_L.kept {C n d : String} {A : Nat → Prop} {U : State} {H H1 : Heap} (h : vx_L C n d A U H) (hq : ∀ a : Nat, a < H.size → ¬ A a → H1[a]? = H[a]?) : vx_L C n d A U H1 := by
  obtain ⟨c, k, i, f, a, cell, h1, h2, h3, h4, h5, h6, h7, h8, h9, h10⟩ := h
  exact ⟨c, k, i, f, a, cell, h1, h2, h3, h4, by rw [hq a (Array.getElem?_eq_some_iff.mp h5).1 h10]; exact h5, h6, h7, h8, h9, h10⟩
theorem vx_L.narrow {C n d : String} {A B : Nat → Prop} {U : State} {H : Heap} (h : vx_L C n d A U H) (hAB : ∀ q, B q → A q) : vx_L C n d B U H := by
  obtain ⟨c, k, i, f, a, cell, h1, h2, h3, h4, h5, h6, h7, h8, h9, h10⟩ := h
  exact ⟨c, k, i, f, a, cell, h1, h2, h3, h4, h5, h6, h7, h8, h9, fun z => h10 (hAB _ z)⟩
theorem vx_L.word {C n d : String} {A : Nat → Prop} {s : State} {args : Array Value} (h : vx_L C n d A s s.heap) : (Cond.laysStatic C n d).before args s = true := by
  obtain ⟨c, k, i, f, a, cell, h1, h2, h3, h4, h5, h6, h7, h8, h9, -⟩ := h
  show (Cond.laysStatic C n d).holds args s none s [] = true
  exact Cond.laysStatic_of h1 h2 h3 h4 h5 h6 h7 h8 h9
/-- .. and what it holds: null or some reference -/
def vx_Zq (C n d : String) (A : Nat → Prop) (U : State) (H : Heap) : Prop := va_Zq C n d A U H ∧ vx_L C n d A U H
theorem vx_Zq.moved {C n d : String} {A : Nat → Prop} {u U : State} {H : Heap} (hvm : u.vm.Alike U.vm) (h : vx_Zq C n d A u H) : vx_Zq C n d A U H := ⟨va_Zq.moved hvm h.1, vx_L.moved hvm h.2⟩
theorem vx_Zq.kept {C n d : String} {A : Nat → Prop} {U : State} {H H1 : Heap} (h : vx_Zq C n d A U H) (hq : ∀ a : Nat, a < H.size → ¬ A a → H1[a]? = H[a]?) : vx_Zq C n d A U H1 := ⟨va_Zq.kept h.1 hq, vx_L.kept h.2 hq⟩
theorem vx_Zq.narrow {C n d : String} {A B : Nat → Prop} {U : State} {H : Heap} (h : vx_Zq C n d A U H) (hAB : ∀ q, B q → A q) : vx_Zq C n d B U H := ⟨va_Zq.narrow h.1 hAB, vx_L.narrow h.2 hAB⟩
theorem vx_Zqof {args : Array Value} {s : State} {C n d : String} {A : Nat → Prop} (hl : (Cond.laysStatic C n d).before args s = true) (hini : (Cond.initialized C).before args s = true) (h : (Cond.isRef (.static C n d)).before args s = true) (hA : ∀ a : Nat, a < s.heap.size → ¬ A a) : vx_Zq C n d A s s.heap := by
  refine ⟨va_Zqof hl hini h hA, ?_⟩
  obtain ⟨c, k, i, f, a, cell, h1, h2, h3, h4, h5, h6, h7, h8, h9⟩ := Cond.laysStatic_spec hl
  exact ⟨c, k, i, f, a, cell, h1, h2, h3, h4, h5, h6, h7, h8, h9, hA a (Array.getElem?_eq_some_iff.mp h5).1⟩
theorem vx_isRef {C n d : String} {v : Value} {A : Nat → Prop} {s : State} {args : Array Value} (h : va_Z C n d v A s s.heap) (hv : v.isRef = true) : (Cond.isRef (.static C n d)).before args s = true := by
  obtain ⟨cf, kf, fi, f, a, cell, h1, h2, h3, h4, h5, h6, h7, -⟩ := h
  have he : (Term.static C n d).eval args s none [] s = some v := by
    simp [Term.eval, State.fieldNamed?, h1, h2, h4, h5, h6, h7]
  simp only [Cond.before, Cond.holds, Cond.value, he]
  cases v <;> simp_all [Value.isRef]
theorem vx_isRefq {C n d : String} {A : Nat → Prop} {s : State} {args : Array Value} (h : va_Zq C n d A s s.heap) : (Cond.isRef (.static C n d)).before args s = true := by
  rcases h with h | ⟨t, h⟩
  · exact vx_isRef h rfl
  · exact vx_isRef h rfl
/-- the same frame, seen from here: as if the method were called anew in this heap -/
theorem vx_rebase {T : State} (X : Stand p l e R s m args below meth c T locs cells slots) {R' : Room} (hf : R'.frames ≤ R.frames) (hl : R'.locals ≤ R.locals) (hc : cells + R'.cells ≤ R.cells) (hs : slots + R'.slots ≤ R.slots) :
    Stand p l e R' ((T.setVm s.vm).setFrames (.invoking m args :: below)) m args below meth c T [] 0 0 := by
  have htop : (T.setVm s.vm).topJava?.isSome := X.here.top
  have hF : ((T.setVm s.vm).setFrames (.invoking m args :: below)).frames = .invoking m args :: below := State.frames_setFrames _ (State.cur_lt_of_top htop)
  obtain ⟨g₀, hg0⟩ := Option.isSome_iff_exists.mp htop
  obtain ⟨r, hr⟩ := State.topJava?_eq_some.mp hg0
  have hl9 : e.platform.stackLimits (T.setVm s.vm).me = e.platform.stackLimits s.me := X.limits
  have hb9 : (T.setVm s.vm).me.stackBytes = s.me.stackBytes := X.bytes
  refine ⟨X.admits, X.cas, X.clock, hF, ?_, X.hears, X.method, X.code, X.here, X.tail, X.warmed, ?_, ?_, ?_⟩
  · have h := X.room
    have hU : ((T.setVm s.vm).setFrames (.invoking m args :: below)).localsInUse = s.localsInUse := by
      rw [State.localsInUse_invoking hF (meth := meth) (c := c) X.method X.code, State.localsInUse_invoking X.frames X.method X.code]
    simp only [State.hasRoom, Bool.and_eq_true, decide_eq_true_eq] at h ⊢
    obtain ⟨⟨⟨⟨h1, h2, h3, h4, h5, h6⟩, h7⟩, h8⟩, h9⟩ := h
    rw [X.frames, List.length_cons] at h2 h3
    have q1 := X.heapSize
    have q2 := X.used
    simp only [hF, hU, List.length_cons, State.stackLimits_setFrames, State.stackBytes_setFrames, hl9, hb9]
    refine ⟨⟨⟨⟨by omega, by omega, by omega, by omega, by omega, h6⟩, ?_⟩, ?_⟩, X.book⟩
    · show T.heap.size + R'.cells ≤ e.platform.maxCells
      omega
    · show T.slotsUsed + R'.slots ≤ e.platform.maxSlots
      omega
  · rw [State.stackLimits_setFrames]; rfl
  · rw [State.stackBytes_setFrames]; rfl
  · refine ⟨?_, Nat.le_refl _, Nat.le_refl _, ?_, ?_, fun a c9 h9 => ⟨c9, h9, rfl, rfl, fun _ _ => rfl⟩⟩
    · obtain ⟨t, ht, -⟩ := State.frames_cons hr
      show T.setVm s.vm = { ((T.setVm s.vm).setFrames (.invoking m args :: below)).setFrames (T.setVm s.vm).frames with heap := T.heap, slotsUsed := T.slotsUsed }
      rw [State.setFrames_setFrames, State.setFrames_self ht]
      rfl
    · show T.slotsUsed = T.slotsUsed + ((T.heap.toList.drop T.heap.size).map (·.slots.size)).sum
      rw [List.drop_eq_nil_of_le (Nat.le_of_eq Array.length_toList)]
      rfl
    · show ((T.heap.toList.drop T.heap.size).map (·.slots.size)).sum ≤ 0
      rw [List.drop_eq_nil_of_le (Nat.le_of_eq Array.length_toList)]
      exact Nat.le_refl _
/-- 'throw new E()': new; dup; invokespecial; athrow -/
theorem vx_throw0 {cc : ByteArray} {pc : Nat} (hexec : p.tables.exec = Jvm.exec) (hb : c.code = cc) (hl : l.stackTraces = false) {own cls : String} {names : List String} {ik ic mc ms : Nat} {A : Nat → Prop}
    (hown : s.vm.findClass own = some m.cls) (hcls : Bundle.fit cls = true) (hnames : ∀ n ∈ names, Bundle.fit n = true)
    (hk : (Cond.classLink own ik cls).before args s = true) (hini : (Cond.initialized cls).before args s = true) (hat : ∀ w ∈ vx_at0 own ic cls names, w.before args s = true)
    (hgood : ∀ w ∈ Cond.classLink own ik cls :: Cond.initialized cls :: vx_at0 own ic cls names, vx_ot w = true)
    (hU : vx_Zq Bundle.tN "UNASSIGNED_STACK" Bundle.steD A s s.heap) (hN : vx_Zq Bundle.tN "SUPPRESSED_SENTINEL" Bundle.listD A s s.heap) (hS : va_S A s.heap H locs) (hsize : ls.size = c.maxLocals)
    (d0 : decode cc pc = .ok (.new ik, 3)) (d3 : decode cc (pc + 3) = .ok (.dup, 1)) (d4 : decode cc (pc + 4) = .ok (.invokespecial ic, 3)) (d7 : decode cc (pc + 7) = .ok (.athrow, 1))
    (hout : ∀ x ∈ c.exceptionTable.toList, covers x (pc + 7) = false)
    (hRframes : names.length + 3 < R.frames) (hRlocals : (rest.map fun v => v.category).sum + (13 * (names.length + 1) + 42) ≤ R.locals) (hRcells : cells + 1 ≤ R.cells) (hRslots : slots + 6 ≤ R.slots) (hlocks : meth.locks = false)
    (hx : ∀ t : State, s.vm.Alike t.vm → H.size ≤ t.heap.size → (∀ q : Nat, q < H.size → t.heap[q]? = H[q]?) → XC cls s t)
    (hf : ∀ z ∈ locs, free z.base) (hc : cells + 1 ≤ mc) (hs : slots + 6 ≤ ms) :
    W p l e R s m args below meth c H locs cells slots (vx_MQ below Qc XC args s mc ms free) (F0 m pc ls rest) := by
  intro T hT X
  have htr : e.platform.stackTraces = false := (show e.platform.stackTraces = l.stackTraces by rw [X.admits.platform]).trans hl
  have Y := vx_rebase X (R' := { frames := R.frames, locals := R.locals, cells := 1, slots := 6 }) (Nat.le_refl _) (Nat.le_refl _) hRcells hRslots
  obtain ⟨s', hA⟩ : ∃ z, z = (T.setVm s.vm).setFrames (.invoking m args :: below) := ⟨_, rfl⟩
  rw [← hA] at Y
  have hvm : s'.vm = s.vm := by rw [hA]; rfl
  have hhp : s'.heap = H := by rw [hA]; exact hT
  have hW0 : s.WarmedH s'.vm := by rw [hvm]; exact State.WarmedH.refl s
  have hat' : ∀ w ∈ vx_at0 own ic cls names, w.before args s' = true := fun w hw => vx_ot_at hW0 hvm.symm (hgood w (List.mem_cons_of_mem _ (List.mem_cons_of_mem _ hw))) (hat w hw)
  have hk' : (Cond.classLink own ik cls).before args s' = true := vx_ot_at hW0 hvm.symm (hgood _ List.mem_cons_self) hk
  have hini' : (Cond.initialized cls).before args s' = true := vx_ot_at hW0 hvm.symm (hgood _ (List.mem_cons_of_mem _ List.mem_cons_self)) hini
  have hU' : vx_Zq Bundle.tN "UNASSIGNED_STACK" Bundle.steD A s' s'.heap := by rw [hhp]; exact vx_Zq.moved hW0.alike (hU.kept hS.2.1)
  have hN' : vx_Zq Bundle.tN "SUPPRESSED_SENTINEL" Bundle.listD A s' s'.heap := by rw [hhp]; exact vx_Zq.moved hW0.alike (hN.kept hS.2.1)
  have h : ∀ w ∈ Bundle.ownAtoms0 own ic cls names, w.before args s' = true := vx_own hat' (vx_isRefq hU'.1) (vx_isRefq hN'.1) hU'.2.word hN'.2.word
  have hown' : s'.vm.findClass own = some m.cls := by rw [hvm]; exact hown
  have hins : (Cond.instantiable cls 6).before args s' = true := h _ (by simp [Bundle.ownAtoms0])
  obtain ⟨vm₁, cX, kX, hfX, hkX, -, -, X₁, st1⟩ := Y.newCold hexec (own := own) (C := cls) (index := ik) (n := 6) hown' hk' hins hini'
    (g := F0 m pc ls rest) rfl (by rw [hb]; exact d0) (Nat.le_refl _) (Nat.le_refl _)
  generalize hT1 : (T.setVm vm₁).pushCell { cls := cX, slots := kX.instanceTypes.map defaultValue, vm := .none } = T1 at X₁ st1
  have hcat : (Value.ref T.heap.size).category = 1 := rfl
  have hcellA : T1.heap[T.heap.size]? = some (freshCell cX kX) := by rw [← hT1]; exact State.heap_pushCell_size _ _
  have d3' : decode c.code (pc + 3) = .ok (.dup, 1) := by rw [hb]; exact d3
  obtain ⟨U, hsteps, hrun, hend, hW, hsame, ce, hce, hO⟩ := X₁.ctorThrow0 hexec htr (own := own) (cls := cls) (names := names) (ic := ic) hown' hcls hnames h (fun x hx => nomatch hx) hfX hkX hcellA (by rw [hhp, hT]; exact Nat.le_refl _)
    (g := { method := m, pc := pc + 4, locals := ls, stack := .ref T.heap.size :: .ref T.heap.size :: rest, locked := none }) rfl hsize rfl rfl (rest := rest) rfl
    (by rw [hb]; exact d4) (by rw [hb]; exact d7) hout hRframes (by simp only [List.map_cons, List.sum_cons, hcat]; omega) hlocks
  obtain ⟨f1, f2⟩ := vx_frame hsame
  rw [hhp] at f1 f2
  have hWs : s.WarmedH U.vm := State.WarmedH.trans hW0 hW
  have hcl : s.vm.findClass cls = some ce.cls := by
    have h9 := hO.cls
    rw [hvm] at h9
    exact h9
  have hall : s.sameButNew ({ U with vm := s.vm } : State) locs mc ms := by
    subst hA
    obtain ⟨e1, e2⟩ := hsame
    rw [State.setFrames_setFrames] at e1
    have h2 : (T.setVm s.vm).sameButNew ({ U with vm := s.vm } : State) [] (0 + 1) (0 + 6) := ⟨e1, e2⟩
    have h3 := X.same.trans h2
    rw [List.append_nil] at h3
    exact h3.mono hc hs
  refine ⟨U, ?_, .threw T.heap.size, hrun, hend, Or.inr ⟨T.heap.size, rfl, cls, ce, locs, hx U hWs.alike f1 (fun q hq => f2 q hq (fun z hz => nomatch hz)), hce, hO.vm, hcl, hWs, hall, hf⟩⟩
  refine st1 _ ?_
  show Steps p.tables e below (T1.setTop { method := m, pc := pc + 3, locals := ls, stack := .ref T.heap.size :: rest, locked := none }) _
  jvm_step X₁.here [X₁.here.top, hexec, d3', Value.category]
  exact hsteps
/-- 'throw new E("text")': new; dup; ldc; invokespecial; athrow -/
theorem vx_throwS {cc : ByteArray} {pc : Nat} (hexec : p.tables.exec = Jvm.exec) (hb : c.code = cc) (hl : l.stackTraces = false) {own cls text : String} {names : List String} {ik is ic mc ms sa : Nat} {A : Nat → Prop}
    (hown : s.vm.findClass own = some m.cls) (hcls : Bundle.fit cls = true) (hnames : ∀ n ∈ names, Bundle.fit n = true)
    (hk : (Cond.classLink own ik cls).before args s = true) (hini : (Cond.initialized cls).before args s = true) (hstr : vk_R own is text sa s) (hat : ∀ w ∈ vx_atS own ic cls names, w.before args s = true)
    (hgood : ∀ w ∈ Cond.classLink own ik cls :: Cond.initialized cls :: vx_atS own ic cls names, vx_ot w = true)
    (hU : vx_Zq Bundle.tN "UNASSIGNED_STACK" Bundle.steD A s s.heap) (hN : vx_Zq Bundle.tN "SUPPRESSED_SENTINEL" Bundle.listD A s s.heap) (hS : va_S A s.heap H locs) (hsize : ls.size = c.maxLocals)
    (d0 : decode cc pc = .ok (.new ik, 3)) (d3 : decode cc (pc + 3) = .ok (.dup, 1)) (d4 : decode cc (pc + 4) = .ok (.ldc is, 2)) (d6 : decode cc (pc + 6) = .ok (.invokespecial ic, 3)) (d9 : decode cc (pc + 9) = .ok (.athrow, 1))
    (hout : ∀ x ∈ c.exceptionTable.toList, covers x (pc + 9) = false)
    (hRframes : names.length + 3 < R.frames) (hRlocals : (rest.map fun v => v.category).sum + (13 * (names.length + 1) + 43) ≤ R.locals) (hRcells : cells + 1 ≤ R.cells) (hRslots : slots + 6 ≤ R.slots) (hlocks : meth.locks = false)
    (hx : ∀ t : State, s.vm.Alike t.vm → H.size ≤ t.heap.size → (∀ q : Nat, q < H.size → t.heap[q]? = H[q]?) → XC cls s t)
    (hf : ∀ z ∈ locs, free z.base) (hc : cells + 1 ≤ mc) (hs : slots + 6 ≤ ms) :
    W p l e R s m args below meth c H locs cells slots (vx_MQ below Qc XC args s mc ms free) (F0 m pc ls rest) := by
  intro T hT X
  have htr : e.platform.stackTraces = false := (show e.platform.stackTraces = l.stackTraces by rw [X.admits.platform]).trans hl
  have Y := vx_rebase X (R' := { frames := R.frames, locals := R.locals, cells := 1, slots := 6 }) (Nat.le_refl _) (Nat.le_refl _) hRcells hRslots
  obtain ⟨s', hA⟩ : ∃ z, z = (T.setVm s.vm).setFrames (.invoking m args :: below) := ⟨_, rfl⟩
  rw [← hA] at Y
  have hvm : s'.vm = s.vm := by rw [hA]; rfl
  have hhp : s'.heap = H := by rw [hA]; exact hT
  have hW0 : s.WarmedH s'.vm := by rw [hvm]; exact State.WarmedH.refl s
  have hat' : ∀ w ∈ vx_atS own ic cls names, w.before args s' = true := fun w hw => vx_ot_at hW0 hvm.symm (hgood w (List.mem_cons_of_mem _ (List.mem_cons_of_mem _ hw))) (hat w hw)
  have hk' : (Cond.classLink own ik cls).before args s' = true := vx_ot_at hW0 hvm.symm (hgood _ List.mem_cons_self) hk
  have hini' : (Cond.initialized cls).before args s' = true := vx_ot_at hW0 hvm.symm (hgood _ (List.mem_cons_of_mem _ List.mem_cons_self)) hini
  have hU' : vx_Zq Bundle.tN "UNASSIGNED_STACK" Bundle.steD A s' s'.heap := by rw [hhp]; exact vx_Zq.moved hW0.alike (hU.kept hS.2.1)
  have hN' : vx_Zq Bundle.tN "SUPPRESSED_SENTINEL" Bundle.listD A s' s'.heap := by rw [hhp]; exact vx_Zq.moved hW0.alike (hN.kept hS.2.1)
  have h : ∀ w ∈ Bundle.ownAtoms own ic cls names, w.before args s' = true := vx_own hat' (vx_isRefq hU'.1) (vx_isRefq hN'.1) hU'.2.word hN'.2.word
  have hown' : s'.vm.findClass own = some m.cls := by rw [hvm]; exact hown
  have hins : (Cond.instantiable cls 6).before args s' = true := h _ (by simp [Bundle.ownAtoms])
  obtain ⟨vm₁, cX, kX, hfX, hkX, -, -, X₁, st1⟩ := Y.newCold hexec (own := own) (C := cls) (index := ik) (n := 6) hown' hk' hins hini'
    (g := F0 m pc ls rest) rfl (by rw [hb]; exact d0) (Nat.le_refl _) (Nat.le_refl _)
  generalize hT1 : (T.setVm vm₁).pushCell { cls := cX, slots := kX.instanceTypes.map defaultValue, vm := .none } = T1 at X₁ st1
  have hcat : (Value.ref T.heap.size).category = 1 := rfl
  have hcellA : T1.heap[T.heap.size]? = some (freshCell cX kX) := by rw [← hT1]; exact State.heap_pushCell_size _ _
  have d3' : decode c.code (pc + 3) = .ok (.dup, 1) := by rw [hb]; exact d3
  have d4' : decode c.code (pc + 4) = .ok (.ldc is, 2) := by rw [hb]; exact d4
  have hstr' : vk_R own is text sa s' := vk_R.warm hW0 hstr
  obtain ⟨U, hsteps, hrun, hend, hW, hsame, ce, hce, hO⟩ := X₁.ctorThrowS hexec htr (own := own) (cls := cls) (names := names) (ic := ic) hown' hcls hnames h (fun x hx => nomatch hx) hfX hkX hcellA (by rw [hhp, hT]; exact Nat.le_refl _) (msg := .ref sa) rfl
    (g := { method := m, pc := pc + 6, locals := ls, stack := .ref sa :: .ref T.heap.size :: .ref T.heap.size :: rest, locked := none }) rfl hsize rfl rfl (rest := rest) rfl
    (by rw [hb]; exact d6) (by rw [hb]; exact d9) hout hRframes (by simp only [List.map_cons, List.sum_cons, hcat]; omega) hlocks
  obtain ⟨f1, f2⟩ := vx_frame hsame
  rw [hhp] at f1 f2
  have hWs : s.WarmedH U.vm := State.WarmedH.trans hW0 hW
  have hcl : s.vm.findClass cls = some ce.cls := by
    have h9 := hO.cls
    rw [hvm] at h9
    exact h9
  have hall : s.sameButNew ({ U with vm := s.vm } : State) locs mc ms := by
    subst hA
    obtain ⟨e1, e2⟩ := hsame
    rw [State.setFrames_setFrames] at e1
    have h2 : (T.setVm s.vm).sameButNew ({ U with vm := s.vm } : State) [] (0 + 1) (0 + 6) := ⟨e1, e2⟩
    have h3 := X.same.trans h2
    rw [List.append_nil] at h3
    exact h3.mono hc hs
  refine ⟨U, ?_, .threw T.heap.size, hrun, hend, Or.inr ⟨T.heap.size, rfl, cls, ce, locs, hx U hWs.alike f1 (fun q hq => f2 q hq (fun z hz => nomatch hz)), hce, hO.vm, hcl, hWs, hall, hf⟩⟩
  refine st1 _ ?_
  show Steps p.tables e below (T1.setTop { method := m, pc := pc + 3, locals := ls, stack := .ref T.heap.size :: rest, locked := none }) _
  jvm_step X₁.here [X₁.here.top, hexec, d3', Value.category]
  exact X₁.ldcString hexec (own := own) (text := text) (index := is) (a := sa) hown' hstr'.1 hstr'.2
    (g := { method := m, pc := pc + 4, locals := ls, stack := .ref T.heap.size :: .ref T.heap.size :: rest, locked := none }) rfl d4' _ hsteps
/-- 'throw new E("text")', the text by a wide index -/
theorem vx_throwSW {cc : ByteArray} {pc : Nat} (hexec : p.tables.exec = Jvm.exec) (hb : c.code = cc) (hl : l.stackTraces = false) {own cls text : String} {names : List String} {ik is ic mc ms sa : Nat} {A : Nat → Prop}
    (hown : s.vm.findClass own = some m.cls) (hcls : Bundle.fit cls = true) (hnames : ∀ n ∈ names, Bundle.fit n = true)
    (hk : (Cond.classLink own ik cls).before args s = true) (hini : (Cond.initialized cls).before args s = true) (hstr : vk_R own is text sa s) (hat : ∀ w ∈ vx_atS own ic cls names, w.before args s = true)
    (hgood : ∀ w ∈ Cond.classLink own ik cls :: Cond.initialized cls :: vx_atS own ic cls names, vx_ot w = true)
    (hU : vx_Zq Bundle.tN "UNASSIGNED_STACK" Bundle.steD A s s.heap) (hN : vx_Zq Bundle.tN "SUPPRESSED_SENTINEL" Bundle.listD A s s.heap) (hS : va_S A s.heap H locs) (hsize : ls.size = c.maxLocals)
    (d0 : decode cc pc = .ok (.new ik, 3)) (d3 : decode cc (pc + 3) = .ok (.dup, 1)) (d4 : decode cc (pc + 4) = .ok (.ldc_w is, 3)) (d7 : decode cc (pc + 7) = .ok (.invokespecial ic, 3)) (d10 : decode cc (pc + 10) = .ok (.athrow, 1))
    (hout : ∀ x ∈ c.exceptionTable.toList, covers x (pc + 10) = false)
    (hRframes : names.length + 3 < R.frames) (hRlocals : (rest.map fun v => v.category).sum + (13 * (names.length + 1) + 43) ≤ R.locals) (hRcells : cells + 1 ≤ R.cells) (hRslots : slots + 6 ≤ R.slots) (hlocks : meth.locks = false)
    (hx : ∀ t : State, s.vm.Alike t.vm → H.size ≤ t.heap.size → (∀ q : Nat, q < H.size → t.heap[q]? = H[q]?) → XC cls s t)
    (hf : ∀ z ∈ locs, free z.base) (hc : cells + 1 ≤ mc) (hs : slots + 6 ≤ ms) :
    W p l e R s m args below meth c H locs cells slots (vx_MQ below Qc XC args s mc ms free) (F0 m pc ls rest) := by
  intro T hT X
  have htr : e.platform.stackTraces = false := (show e.platform.stackTraces = l.stackTraces by rw [X.admits.platform]).trans hl
  have Y := vx_rebase X (R' := { frames := R.frames, locals := R.locals, cells := 1, slots := 6 }) (Nat.le_refl _) (Nat.le_refl _) hRcells hRslots
  obtain ⟨s', hA⟩ : ∃ z, z = (T.setVm s.vm).setFrames (.invoking m args :: below) := ⟨_, rfl⟩
  rw [← hA] at Y
  have hvm : s'.vm = s.vm := by rw [hA]; rfl
  have hhp : s'.heap = H := by rw [hA]; exact hT
  have hW0 : s.WarmedH s'.vm := by rw [hvm]; exact State.WarmedH.refl s
  have hat' : ∀ w ∈ vx_atS own ic cls names, w.before args s' = true := fun w hw => vx_ot_at hW0 hvm.symm (hgood w (List.mem_cons_of_mem _ (List.mem_cons_of_mem _ hw))) (hat w hw)
  have hk' : (Cond.classLink own ik cls).before args s' = true := vx_ot_at hW0 hvm.symm (hgood _ List.mem_cons_self) hk
  have hini' : (Cond.initialized cls).before args s' = true := vx_ot_at hW0 hvm.symm (hgood _ (List.mem_cons_of_mem _ List.mem_cons_self)) hini
  have hU' : vx_Zq Bundle.tN "UNASSIGNED_STACK" Bundle.steD A s' s'.heap := by rw [hhp]; exact vx_Zq.moved hW0.alike (hU.kept hS.2.1)
  have hN' : vx_Zq Bundle.tN "SUPPRESSED_SENTINEL" Bundle.listD A s' s'.heap := by rw [hhp]; exact vx_Zq.moved hW0.alike (hN.kept hS.2.1)
  have h : ∀ w ∈ Bundle.ownAtoms own ic cls names, w.before args s' = true := vx_own hat' (vx_isRefq hU'.1) (vx_isRefq hN'.1) hU'.2.word hN'.2.word
  have hown' : s'.vm.findClass own = some m.cls := by rw [hvm]; exact hown
  have hins : (Cond.instantiable cls 6).before args s' = true := h _ (by simp [Bundle.ownAtoms])
  obtain ⟨vm₁, cX, kX, hfX, hkX, -, -, X₁, st1⟩ := Y.newCold hexec (own := own) (C := cls) (index := ik) (n := 6) hown' hk' hins hini'
    (g := F0 m pc ls rest) rfl (by rw [hb]; exact d0) (Nat.le_refl _) (Nat.le_refl _)
  generalize hT1 : (T.setVm vm₁).pushCell { cls := cX, slots := kX.instanceTypes.map defaultValue, vm := .none } = T1 at X₁ st1
  have hcat : (Value.ref T.heap.size).category = 1 := rfl
  have hcellA : T1.heap[T.heap.size]? = some (freshCell cX kX) := by rw [← hT1]; exact State.heap_pushCell_size _ _
  have d3' : decode c.code (pc + 3) = .ok (.dup, 1) := by rw [hb]; exact d3
  have d4' : decode c.code (pc + 4) = .ok (.ldc_w is, 3) := by rw [hb]; exact d4
  have hstr' : vk_R own is text sa s' := vk_R.warm hW0 hstr
  obtain ⟨U, hsteps, hrun, hend, hW, hsame, ce, hce, hO⟩ := X₁.ctorThrowS hexec htr (own := own) (cls := cls) (names := names) (ic := ic) hown' hcls hnames h (fun x hx => nomatch hx) hfX hkX hcellA (by rw [hhp, hT]; exact Nat.le_refl _) (msg := .ref sa) rfl
    (g := { method := m, pc := pc + 7, locals := ls, stack := .ref sa :: .ref T.heap.size :: .ref T.heap.size :: rest, locked := none }) rfl hsize rfl rfl (rest := rest) rfl
    (by rw [hb]; exact d7) (by rw [hb]; exact d10) hout hRframes (by simp only [List.map_cons, List.sum_cons, hcat]; omega) hlocks
  obtain ⟨f1, f2⟩ := vx_frame hsame
  rw [hhp] at f1 f2
  have hWs : s.WarmedH U.vm := State.WarmedH.trans hW0 hW
  have hcl : s.vm.findClass cls = some ce.cls := by
    have h9 := hO.cls
    rw [hvm] at h9
    exact h9
  have hall : s.sameButNew ({ U with vm := s.vm } : State) locs mc ms := by
    subst hA
    obtain ⟨e1, e2⟩ := hsame
    rw [State.setFrames_setFrames] at e1
    have h2 : (T.setVm s.vm).sameButNew ({ U with vm := s.vm } : State) [] (0 + 1) (0 + 6) := ⟨e1, e2⟩
    have h3 := X.same.trans h2
    rw [List.append_nil] at h3
    exact h3.mono hc hs
  refine ⟨U, ?_, .threw T.heap.size, hrun, hend, Or.inr ⟨T.heap.size, rfl, cls, ce, locs, hx U hWs.alike f1 (fun q hq => f2 q hq (fun z hz => nomatch hz)), hce, hO.vm, hcl, hWs, hall, hf⟩⟩
  refine st1 _ ?_
  show Steps p.tables e below (T1.setTop { method := m, pc := pc + 3, locals := ls, stack := .ref T.heap.size :: rest, locked := none }) _
  jvm_step X₁.here [X₁.here.top, hexec, d3', Value.category]
  exact X₁.ldcStringW hexec (own := own) (text := text) (index := is) (a := sa) hown' hstr'.1 hstr'.2
    (g := { method := m, pc := pc + 4, locals := ls, stack := .ref T.heap.size :: .ref T.heap.size :: rest, locked := none }) rfl d4' _ hsteps
end Ends
section Bodies
variable {l : Launch}
theorem vx_ofW {y : MethodName} {ws ws' : List Cond} {rm : Room} {Pc : Array Value → State → Prop} {Qc : Array Value → State → Outcome → State → Prop} {XC : String → State → State → Prop} {mc ms : Nat} {free : Addr → Prop} {cc : ByteArray} {maxL : Nat} {ret : Option FieldType}
    (hy : plainName y.cls = true) (hw : ws = Cond.code y cc maxL ret :: ws')
    (body : ∀ p e s m args below meth c s₁, BodyLoose p l y (headSpec ws rm) cc maxL ret e s m args below meth c s₁ → c.maxLocals = maxL → (∀ x ∈ c.exceptionTable.toList, False) → Pc args s →
      W p l e (headSpec ws rm).room s m args below meth c s.heap [] 0 0 (vx_MQ below Qc XC args s mc ms free) (entryFrame m args maxL)) : vx_Met l y ws rm Pc Qc XC mc ms free := by
  refine MetFree.of_bodyS (code := cc) (maxLocals := maxL) (ret := ret) hy ?_ ?_
  · intro args s m h hn
    obtain ⟨meth, c, h1, h2, h3, h4, h5, h6, -, -⟩ := Cond.code_spec hn (atoms_spec (ws := ws) h _ (by rw [hw]; exact List.mem_cons_self))
    exact ⟨meth, c, h1, h2, h3, h4, h5, h6⟩
  · intro p e s m args below meth c s₁ B hml hP _
    have hh0 : s₁.heap = s.heap := by rw [B.state]; rfl
    have ht : ∀ x ∈ c.exceptionTable.toList, False := by
      obtain ⟨meth9, c9, h1, h2, -, -, -, -, h7, -⟩ := Cond.code_spec B.named (atoms_spec (ws := ws) B.pre _ (by rw [hw]; exact List.mem_cons_self))
      cases Option.some.inj (h1.symm.trans B.method)
      cases Option.some.inj (h2.symm.trans (Stand.of_body B).code)
      intro x hx
      rw [Array.isEmpty_iff.mp h7] at hx
      cases hx
    obtain ⟨t, a1, o, b1, b2, b3⟩ := body p e s m args below meth c s₁ B hml ht hP s₁ hh0 (Stand.of_body B)
    exact ⟨t, o, a1, b1, b2, b3⟩
/-- the table of a body with handlers -/
theorem vx_table {p : Program} {x y : MethodName} {S : Spec} {cc bytes : ByteArray} {maxL maxL' : Nat} {ret ret' : Option FieldType} {e : Env} {s s₁ : State} {m : MethodId} {args : Array Value} {below : List Frame} {meth : Method} {c : Code} {hh : List (Nat × Nat × Nat × Nat)}
    (B : BodyLoose p l y S cc maxL ret e s m args below meth c s₁) (h : (Cond.codeWith y bytes maxL' ret' hh).before args s = true) : c.exceptionTable.toList = tableOf hh := by
  obtain ⟨m9, meth9, c9, hn9, h1, h2, -, -, h6, -⟩ := Cond.codeWith_spec h
  cases Option.some.inj (hn9.symm.trans B.named)
  cases Option.some.inj (h1.symm.trans B.method)
  cases Option.some.inj (h2.symm.trans (Stand.of_body B).code)
  rw [← h6, table_eq]
end Bodies
end VXA
/-! ===== END ===== -/
/-! ===== BEGIN a static call of a method with an exception table ===== -/
section VXS
variable {p : Program} {l : Launch} {e : Env} {R : Room} {s : State} {m : MethodId} {args : Array Value} {below : List Frame} {meth : Method} {c : Code} {T : State} {H : Heap} {locs : List Loc} {cells slots : Nat}
abbrev vx_CSW (R : Room) (s : State) (args : Array Value) (own : String) (index : Nat) (y : MethodName) (bytes : ByteArray) (maxL : Nat) (ret : Option FieldType) (hh : List (Nat × Nat × Nat × Nat)) (ws : List Cond) (rm : Room) (mc ms n : Nat) : Prop :=
  (rm.cells = mc ∧ rm.slots = ms ∧ rm.frames + 1 ≤ R.frames ∧ 8 + (maxL + 11) + rm.locals ≤ R.locals ∧ (∀ w ∈ ws, ∀ (a' : Array Value) (U : State), s.WarmedH U.vm → w.before a' U = true) ∧ Cond.codeWith y bytes maxL ret hh ∈ ws) ∧
  (Cond.codeWith y bytes maxL ret hh).before args s = true ∧ (Cond.initialized y.cls).before args s = true ∧ (y.cls ≠ "java/lang/invoke/MethodHandle" ∧ y.cls ≠ "java/lang/invoke/VarHandle") ∧
  (∀ sig, parseMethodDescriptor y.desc = some sig → n = sig.parameters.length) ∧ (Cond.methodLink own index y).before args s = true ∧ (Cond.static y).before args s = true
theorem vx_cwSW {own : String} {index maxL mc ms : Nat} {y : MethodName} {bytes : ByteArray} {ret : Option FieldType} {hh : List (Nat × Nat × Nat × Nat)} {Ts ws ws' : List Cond} {rm : Room} (n : Nat) (ht : ∀ w ∈ Ts, w.before args s = true) (hT : GoodIn Ts (va_wsS own index y ws)) (hw : ws = Cond.codeWith y bytes maxL ret hh :: ws') (hrc : rm.cells = mc) (hrs : rm.slots = ms)
    (hd : y.cls ≠ "java/lang/invoke/MethodHandle" ∧ y.cls ≠ "java/lang/invoke/VarHandle" ∧ (parseMethodDescriptor y.desc).map (fun d => d.parameters.length) = some n) (hR : rm.frames + 1 ≤ R.frames ∧ 8 + (maxL + 11) + rm.locals ≤ R.locals) :
    vx_CSW R s args own index y bytes maxL ret hh ws rm mc ms n := by
  have ok : ∀ w ∈ va_wsS own index y ws, w.before args s = true := fun w h => ht w (hT w h).1
  have hG : GoodIn Ts ws := fun w h => hT w (by unfold va_wsS; exact List.mem_append_right _ h)
  have hc : Cond.codeWith y bytes maxL ret hh ∈ ws := by rw [hw]; exact List.mem_cons_self
  refine ⟨⟨hrc, hrs, hR.1, hR.2, pay_in ht hG, hc⟩, ht _ (hG _ hc).1, ok _ (by simp [va_wsS]), ⟨hd.1, hd.2.1⟩, fun sig h => ?_, ok _ (by simp [va_wsS]), ok _ (by simp [va_wsS])⟩
  have h2 := hd.2.2
  rw [h] at h2
  exact (Option.some.inj h2).symm
theorem vx_callSW (X : Stand p l e R s m args below meth c T locs cells slots) (hexec : p.tables.exec = Jvm.exec) {own : String} {index : Nat} {y : MethodName} {bytes : ByteArray} {maxL : Nat} {ret : Option FieldType} {hh : List (Nat × Nat × Nat × Nat)}
    (hown : s.vm.findClass own = some m.cls) (hlink : (Cond.methodLink own index y).before args s = true) (hstat : (Cond.static y).before args s = true) (hinit : (Cond.initialized y.cls).before args s = true)
    (hcode : (Cond.codeWith y bytes maxL ret hh).before args s = true) (hy : y.cls ≠ "java/lang/invoke/MethodHandle" ∧ y.cls ≠ "java/lang/invoke/VarHandle")
    {W9 : Nat} {Pre : Pt → Array Value → Prop} {Post : Pt → Array Value → Option Value → Pt → Prop} (hK : Back l R p e below s args y 3 W9 Pre Post)
    {g : JFrame} (hg : g.method = m) (hsize : g.locals.size = c.maxLocals) {argsL rest : List Value} (hlen : ∀ sig, parseMethodDescriptor y.desc = some sig → argsL.length = sig.parameters.length)
    (hstack : g.stack = argsL.reverse ++ rest) (hW : 2 * g.monitorRoom + (rest.map fun v => v.category).sum ≤ W9) (hdg : decode c.code g.pc = .ok (.invokestatic index, 3))
    (hpre : ∀ vm₁, s.WarmedH vm₁ → Pre ⟨T.setVm vm₁, locs, cells, slots⟩ argsL.toArray) :
    ∃ (v : Option Value) (vm₁ : Vm) (B : Pt), s.WarmedH vm₁ ∧ Stand p l e R s m args below meth c B.U B.locs B.cells B.slots ∧ Post ⟨T.setVm vm₁, locs, cells, slots⟩ argsL.toArray v B ∧
      ∀ target, Steps p.tables e below (B.U.setTop { g with pc := g.pc + 3, stack := v.toList ++ rest }) target → Steps p.tables e below (T.setTop g) target := by
  obtain ⟨mk, methM, cM, hnamed, hmethM, -, -, -, -, -, -, hsigM⟩ := Cond.codeWith_spec hcode
  have hstatic : methM.isStatic = true := Cond.static_spec hnamed hmethM hstat
  obtain ⟨kP, hkP, -⟩ := className_of_methodNamed hnamed
  have hinitP : kP.init = .initialized := Cond.initialized_spec (findClass_of_methodNamed hnamed) hkP hinit
  obtain ⟨vm₁, X₁, hstep₁⟩ := X.invokestatic hexec hown hlink hnamed hmethM hstatic hkP hinitP hy (g := g) hg (argsL := argsL) (rest := rest) (hlen _ hsigM) hstack hdg
  obtain ⟨v, B, X', hpost, hsteps⟩ := hK m meth c ⟨T.setVm vm₁, locs, cells, slots⟩ { g with stack := rest } (.invokestatic index) mk argsL.toArray X₁ hg hsize hdg hW (X₁.named hnamed) (hpre vm₁ X₁.warmed)
  exact ⟨v, vm₁, B, X₁.warmed, X', hpost, fun target h => hstep₁ _ fun acts => by rw [doInvoke_state]; exact hsteps.trans h⟩
theorem vx_runSW {y : MethodName} {bytes cc : ByteArray} {maxL nL mc ms n index : Nat} {ret : Option FieldType} {hh : List (Nat × Nat × Nat × Nat)} {ws : List Cond} {rm : Room} {Pc : Array Value → State → Prop} {Qc : Array Value → State → Outcome → State → Prop} {free : Addr → Prop} {Ts : List Cond} {own : String} {As rest : List Value} {g : JFrame}
    (S : CallFix p m c cc nL s args Ts own) (hM : Met l y ws rm Pc Qc mc ms free) (cw : vx_CSW R s args own index y bytes maxL ret hh ws rm mc ms n) (hp : PreS s H Pc As)
    (hg : g.method = m) (hn : As.length = n) (hsize : g.locals.size = nL) (hstack : g.stack = As.reverse ++ rest) (hW : 2 * g.monitorRoom + (rest.map fun v => v.category).sum ≤ 8) (hdg : decode cc g.pc = .ok (.invokestatic index, 3)) (hf : cells + mc ≤ R.cells ∧ slots + ms ≤ R.slots) :
    va_Run p l e R s m args below meth c H locs cells slots mc ms g rest (Qc As.toArray) (free) := by
  obtain ⟨⟨hrc, hrs, hfr, hlo, hws, hcw⟩, hcode, hini, hy, hlen, hl, hstt⟩ := cw
  have hK : Back l R p e below s args y 3 8 (PreOf R mc ms Pc) (PostOf Qc mc ms free) := va_backW (hh := hh) (bytes := bytes) (maxL := maxL) (ret := ret) hM hp.1 hrc hrs hfr hlo hws hcw (fun a' U hW => word_at hW (Or.inl (by first | rfl | simp [Cond.onTables, Cond.keeps, Cond.steady])) hini)
  obtain ⟨hx, hb, hml, ho, -⟩ := S
  intro T hT X
  obtain ⟨v, vm₁, ⟨U', l2, c2, s2⟩, hW₁, X', ⟨g', mk, t, L, e1, e2, hq, h1, hL, h2, h3⟩, st⟩ := vx_callSW X hx (hh := hh) (bytes := bytes) (maxL := maxL) (ret := ret) ho hl hstt hini hcode hy hK hg (hsize.trans hml.symm) (argsL := As) (rest := rest) (fun sig h => hn.trans (hlen sig h)) hstack hW (by rw [hb]; exact hdg)
    (fun vm₁ hW₁ => ⟨hf.1, hf.2, hp.2 (T.setVm vm₁) hT hW₁⟩)
  dsimp only [Pt.U, Pt.locs, Pt.cells, Pt.slots] at X' e1 e2 h1 h2 h3 st
  subst h1; subst h2; subst h3
  exact ⟨v, (T.setVm vm₁).calling g' mk As.toArray, t, U', L, hT, X', hL, e1, e2, hq, st⟩
/-- not caught here, past rows that name other classes: it goes on to the caller -/
theorem vx_outP {p : Program} {l : Launch} {e : Env} {R : Room} {s : State} {m : MethodId} {args : Array Value} {below : List Frame} {meth : Method} {c : Code} {H : Heap} {locs : List Loc} {cells slots : Nat} {free : Addr → Prop} {ls : Array Slot} {rest : List Value} {Qc : Array Value → State → Outcome → State → Prop} {XC : String → State → State → Prop}
    {pc : Nat} {own E : String} {ce : Cell} {q : Addr} {mc ms : Nat} (hown : s.vm.findClass own = some m.cls) (hlocks : meth.locks = false)
    (hpass : ∀ z ∈ c.exceptionTable.toList, covers z pc = false ∨ (z.catchType ≠ 0 ∧ ∃ nm : String, (Cond.classLink own z.catchType nm).before args s = true ∧ va_Nc E nm s)) (hcell : H[q]? = some ce) (hv : ce.vm = .none) (hcl : s.vm.findClass E = some ce.cls)
    (hx : ∀ t : State, t.heap = H → s.vm.Alike t.vm → XC E s t) (hf : ∀ z ∈ locs, free z.base) (hc : cells ≤ mc) (hs : slots ≤ ms) :
    vx_W p l e R s m args below meth c H locs cells slots (vx_MQ below Qc XC args s mc ms free) (F0 m pc ls rest) q := by
  intro T hT X
  have hpl : e.platform.magicAccessors = ({} : Platform).magicAccessors := by rw [X.admits.platform]
  obtain ⟨vm', hW', X', st⟩ := X.outThrough hlocks q (g := F0 m pc ls rest) rfl rfl rfl (cell := ce) (by rw [hT]; exact hcell) (by rw [hv]; rfl)
    (by obtain ⟨k9, h9, -⟩ := Vm.findClass_spec hcl; exact ⟨k9, h9⟩) (fun z hz => by
      rcases hpass z hz with h | ⟨hz0, nm, hl1, hn1⟩
      · exact Or.inl h
      · obtain ⟨c6, hc6, hcl6⟩ := Cond.classLink_spec hown hl1 e.platform hpl
        obtain ⟨a8, b8, h1, h2, h3⟩ := hn1
        cases Option.some.inj (h1.symm.trans hcl)
        cases Option.some.inj (h2.symm.trans hc6)
        exact Or.inr ⟨hz0, _, hcl6, h3⟩)
  obtain ⟨g₀, hfr⟩ := X'.frames_eq
  have hcell9 : ((T.setVm vm').setFrames (.throwing q :: below)).heap[q]? = some ce := by
    show T.heap[q]? = some ce
    rw [hT]; exact hcell
  have hend : Ended ((T.setVm vm').setFrames (.throwing q :: below)) below (.threw q) := State.frames_setFrames _ (State.cur_lt_of_frames hfr)
  refine ⟨(T.setVm vm').setFrames (.throwing q :: below), ?_, .threw q, X'.here.running, hend, Or.inr ⟨q, rfl, E, ce, locs, hx _ hT (X'.ends _).1.alike, hcell9, hv, hcl, (X'.ends _).1, (X'.ends _).2.mono hc hs, hf⟩⟩
  rw [X.pushThrowing_eq]
  exact st
/-- a thing of a world lies in the heap -/
theorem vx_lt {D : va_G} {cl : List vw_C} {ws : va_W} {H1 : Heap} (h : va_P D cl ws H1) {k : Nat} {q : Nat × va_E} (hk : ws[k]? = some q) : q.1 < H1.size := (h k q hk).lt
end VXS
/-! ===== END ===== -/
/-! ===== BEGIN methods with a table of their own: called by a name, returning or throwing ===== -/
section VXH
/-! vx_backW, vx_callVX, vx_callSX, vx_callVW, vx_runVW, vx_runVX, vx_runSX, vx_ofWH follow the same proofs as their sisters above (Free/Laws.lean, Shelf42/LK1.lean); vx_outP calls Shelf42/NT130.lean (outThrough). -/
section
variable {l : Launch} {R : Room} {p : Program} {e : Env} {below : List Frame} {s : State} {sargs : Array Value} {y : MethodName} {len W9 : Nat}
theorem vx_backW {ws : List Cond} {rm : Room} {Pc : Array Value → State → Prop} {Qc : Array Value → State → Outcome → State → Prop} {XC : String → State → State → Prop} {mc ms : Nat} {free : Addr → Prop} {bytes : ByteArray} {maxL : Nat} {ret : Option FieldType} {hh : List (Nat × Nat × Nat × Nat)}
    (hM : vx_Met l y ws rm Pc Qc XC mc ms free) (hblind : FrameBlind Pc) (hrc : rm.cells = mc) (hrs : rm.slots = ms)
    (hframes : rm.frames + 1 ≤ R.frames) (hlocals : W9 + (maxL + 11) + rm.locals ≤ R.locals)
    (hws : ∀ w ∈ ws, ∀ a' U, s.WarmedH U.vm → w.before a' U = true) (hcode : Cond.codeWith y bytes maxL ret hh ∈ ws) (hinit : ∀ a' U, s.WarmedH U.vm → (Cond.initialized y.cls).before a' U = true) :
    vx_Back l R p e below s sargs y len W9 (PreOf R mc ms Pc) (PostOf Qc mc ms free) (vx_Post XC mc ms free) := by
  intro m meth c A g ig mk a X hg hsize hdg hW hn hp
  have h1 : (headSpec ws rm).pre.before a A.U = true := atoms_intro fun w hw => hws w hw _ _ X.warmed
  have h2 : (Cond.codeWith y bytes maxL ret hh).before a A.U = true := hws _ hcode _ _ X.warmed
  have h3 : (Cond.initialized y.cls).before a A.U = true := hinit _ _ X.warmed
  have h4 : A.cells + (headSpec ws rm).room.cells ≤ R.cells := by rw [show (headSpec ws rm).room.cells = mc from hrc]; exact hp.1
  have h5 : A.slots + (headSpec ws rm).room.slots ≤ R.slots := by rw [show (headSpec ws rm).room.slots = ms from hrs]; exact hp.2.1
  have hPc : Pc a (A.U.calling g mk a) := hblind _ _ _ _ hp.2.2
  obtain ⟨U, Ls, c0, s0⟩ := A
  dsimp only [Pt.U, Pt.locs, Pt.cells, Pt.slots] at h1 h2 h3 h4 h5 X hn hPc ⊢
  obtain ⟨m9, methY, cY, hn9, hmY, hcY, -, hlY, -⟩ := Cond.codeWith_spec h2
  cases Option.some.inj (hn9.symm.trans hn)
  obtain ⟨kY, hkY, -⟩ := className_of_methodNamed hn
  have hinitY : kY.init = .initialized := Cond.initialized_spec (findClass_of_methodNamed hn) hkY h3
  have h : At U g.method c below := by rw [hg]; exact X.here
  have hlocals9 : W9 + (maxL + 11) + (headSpec ws rm).room.locals ≤ R.locals := hlocals
  have happ : (headSpec ws rm).appliesLoose y e.platform (U.calling g mk a) = true :=
    Spec.appliesLoose_calling (g := g) h hdg hn hkY hinitY
      (X.room_calling (g := g) (R' := (headSpec ws rm).room) hsize hmY hcY hframes (by rw [hlY]; omega) h4 h5) h1
  obtain ⟨mid, hmid⟩ := h.above
  have hfr : (U.setTop g).frames = (.java g :: mid) ++ below := by rw [State.frames_setTop' g h.top, hmid]; rfl
  obtain ⟨o, s₂, hsteps, -, hend, hq⟩ := Steps.callFree hM p X.admits X.cas X.clock (acts := []) hfr happ hPc trivial
  have hq' : vx_Q Qc XC mc ms free a (U.calling g mk a) o s₂ := hq
  rw [State.frames_setTop' g h.top] at hend
  obtain ⟨g₀, hg0⟩ := Option.isSome_iff_exists.mp h.top
  obtain ⟨r, hr⟩ := State.topJava?_eq_some.mp hg0
  have hr' : (({ U with heap := s₂.heap, slotsUsed := s₂.slotsUsed } : State).setVm s₂.vm).frames = .java g₀ :: r := hr
  rcases hq' with ⟨hqc, L, hfe, hL⟩ | ⟨q, rfl, E, ce, L, hx, hce, hcv, hcl, hW₂, hsm, hL⟩
  · obtain ⟨⟨v, rfl⟩, hW₂, e2, q2, q3, q4, q5, q6⟩ := id hfe
    have e3 : s₂ = ({ (U.calling g mk a).setFrames s₂.frames with heap := s₂.heap, slotsUsed := s₂.slotsUsed } : State).setVm s₂.vm := by
      have : s₂ = ({ s₂ with vm := (U.calling g mk a).vm } : State).setVm s₂.vm := rfl
      rw [e2] at this
      exact this
    obtain ⟨c₂, i₂, len₂, hc₂, hd₂, hf₂⟩ := hend
    have hW' : U.WarmedH s₂.vm := hW₂
    have hcc : c₂ = c := by
      have h1 : s₂.code? g.method = U.code? g.method := by
        rw [State.code?_eq, State.code?_eq, hW'.alike.method?]
      exact Option.some.inj (hc₂.symm.trans (h1.trans h.code))
    subst hcc
    have hlen : len₂ = len := by rw [hdg] at hd₂; cases hd₂; rfl
    subst hlen
    have hs₂ : s₂ = (({ U with heap := s₂.heap, slotsUsed := s₂.slotsUsed } : State).setVm s₂.vm).setTop { g with pc := g.pc + len₂, stack := v.toList ++ g.stack } := by
      refine e3.trans ?_
      rw [hf₂, State.calling_eq h.top, State.setFrames_setFrames, State.setTop_of_frames _ hr', hr]
      rfl
    have hsame : U.sameButNew ({ U with heap := s₂.heap, slotsUsed := s₂.slotsUsed } : State) L mc ms := by
      refine ⟨?_, q2, q3, q4, q5, q6⟩
      obtain ⟨t, ht, -⟩ := State.frames_cons hr
      show ({ U with heap := s₂.heap, slotsUsed := s₂.slotsUsed } : State) = { U.setFrames U.frames with heap := s₂.heap, slotsUsed := s₂.slotsUsed }
      rw [State.setFrames_self ht]
    subst hg
    refine Or.inl ⟨v, ⟨(({ U with heap := s₂.heap, slotsUsed := s₂.slotsUsed } : State).setVm s₂.vm), Ls ++ L, c0 + mc, s0 + ms⟩,
      ⟨X.admits, X.cas, X.clock, X.frames, X.room, X.hears, X.method, X.code, (X.here.setHeapUsed s₂.heap s₂.slotsUsed).setVm hW'.alike, X.tail, State.WarmedH.trans X.warmed hW', X.limits, X.bytes, X.same.trans (hsame.setVm s.vm)⟩,
      ⟨g, mk, s₂, L, rfl, rfl, hqc, rfl, hL, rfl, rfl⟩, ?_⟩
    show Steps p.tables e below _ ((({ U with heap := s₂.heap, slotsUsed := s₂.slotsUsed } : State).setVm s₂.vm).setTop { g with pc := g.pc + len₂, stack := v.toList ++ g.stack })
    rw [← hs₂]
    exact hsteps
  · obtain ⟨e2, q2, q3, q4, q5, q6⟩ := id hsm
    have e3 : s₂ = ({ (U.calling g mk a).setFrames s₂.frames with heap := s₂.heap, slotsUsed := s₂.slotsUsed } : State).setVm s₂.vm := by
      have : s₂ = ({ s₂ with vm := (U.calling g mk a).vm } : State).setVm s₂.vm := rfl
      rw [e2] at this
      exact this
    have hf₂ : s₂.frames = .throwing q :: .java g :: U.frames.tail := hend
    have hW' : U.WarmedH s₂.vm := hW₂
    have hs₂ : s₂ = ((({ U with heap := s₂.heap, slotsUsed := s₂.slotsUsed } : State).setVm s₂.vm).setTop g).pushFrame (.throwing q) := by
      refine e3.trans ?_
      rw [hf₂, State.calling_eq h.top, State.setFrames_setFrames, State.pushFrame, State.frames_setTop _ hr', State.setTop_of_frames _ hr', State.setFrames_setFrames, hr]
      rfl
    have hsame : U.sameButNew ({ U with heap := s₂.heap, slotsUsed := s₂.slotsUsed } : State) L mc ms := by
      refine ⟨?_, q2, q3, q4, q5, q6⟩
      obtain ⟨t, ht, -⟩ := State.frames_cons hr
      show ({ U with heap := s₂.heap, slotsUsed := s₂.slotsUsed } : State) = { U.setFrames U.frames with heap := s₂.heap, slotsUsed := s₂.slotsUsed }
      rw [State.setFrames_self ht]
    subst hg
    refine Or.inr ⟨q, ⟨(({ U with heap := s₂.heap, slotsUsed := s₂.slotsUsed } : State).setVm s₂.vm), Ls ++ L, c0 + mc, s0 + ms⟩,
      ⟨X.admits, X.cas, X.clock, X.frames, X.room, X.hears, X.method, X.code, (X.here.setHeapUsed s₂.heap s₂.slotsUsed).setVm hW'.alike, X.tail, State.WarmedH.trans X.warmed hW', X.limits, X.bytes, X.same.trans (hsame.setVm s.vm)⟩,
      ⟨g, mk, s₂, L, E, ce, rfl, rfl, hx, hce, hcv, hcl, rfl, hL, rfl, rfl⟩, ?_⟩
    show Steps p.tables e below _ (((({ U with heap := s₂.heap, slotsUsed := s₂.slotsUsed } : State).setVm s₂.vm).setTop g).pushFrame (.throwing q))
    rw [← hs₂]
    exact hsteps
end
variable {p : Program} {l : Launch} {e : Env} {R : Room} {s : State} {m : MethodId} {args : Array Value} {below : List Frame} {meth : Method} {c : Code} {T : State} {H : Heap} {locs : List Loc} {cells slots : Nat}
theorem vx_callVX (X : Stand p l e R s m args below meth c T locs cells slots) (hexec : p.tables.exec = Jvm.exec) {own C : String} {index : Nat} {y : MethodName} {bytes : ByteArray} {maxL : Nat} {ret : Option FieldType} {hh : List (Nat × Nat × Nat × Nat)}
    (hown : s.vm.findClass own = some m.cls) (hlink : (Cond.methodLink own index y).before args s = true) (hinst : (Cond.instanceMethod y).before args s = true) (hsel : (Cond.selects C y y).before args s = true)
    (hcode : (Cond.codeWith y bytes maxL ret hh).before args s = true) (hy : y.cls ≠ "java/lang/invoke/MethodHandle" ∧ y.cls ≠ "java/lang/invoke/VarHandle")
    {W9 : Nat} {Pre : Pt → Array Value → Prop} {Post : Pt → Array Value → Option Value → Pt → Prop} {PostX : Pt → Array Value → Addr → Pt → Prop} (hK : vx_Back l R p e below s args y 3 W9 Pre Post PostX)
    {b : Addr} {cellB : Cell} (hcell : T.heap[b]? = some cellB) (hobj : cellB.vm.isStatics = false) (hcls : s.vm.findClass C = some cellB.cls)
    {g : JFrame} (hg : g.method = m) (hsize : g.locals.size = c.maxLocals) {argsL rest : List Value} (hlen : ∀ sig, parseMethodDescriptor y.desc = some sig → argsL.length = sig.parameters.length)
    (hstack : g.stack = argsL.reverse ++ .ref b :: rest) (hW : 2 * g.monitorRoom + (rest.map fun v => v.category).sum ≤ W9) (hdg : decode c.code g.pc = .ok (.invokevirtual index, 3))
    (hpre : ∀ vm₁, s.WarmedH vm₁ → Pre ⟨T.setVm vm₁, locs, cells, slots⟩ (Value.ref b :: argsL).toArray) :
    (∃ (v : Option Value) (vm₁ : Vm) (B : Pt), s.WarmedH vm₁ ∧ Stand p l e R s m args below meth c B.U B.locs B.cells B.slots ∧ Post ⟨T.setVm vm₁, locs, cells, slots⟩ (Value.ref b :: argsL).toArray v B ∧
      ∀ target, Steps p.tables e below (B.U.setTop { g with pc := g.pc + 3, stack := v.toList ++ rest }) target → Steps p.tables e below (T.setTop g) target) ∨
    (∃ (q : Addr) (vm₁ : Vm) (B : Pt), s.WarmedH vm₁ ∧ Stand p l e R s m args below meth c B.U B.locs B.cells B.slots ∧ PostX ⟨T.setVm vm₁, locs, cells, slots⟩ (Value.ref b :: argsL).toArray q B ∧
      Steps p.tables e below (T.setTop g) ((B.U.setTop { g with stack := rest }).pushFrame (.throwing q))) := by
  obtain ⟨mk, methM, hnamed, hmethM, hstM, habM⟩ := Cond.instanceMethod_spec hinst
  obtain ⟨m8, methM', cM, hn8, hmethM', -, -, -, -, -, -, hsigM⟩ := Cond.codeWith_spec hcode
  cases Option.some.inj (hn8.symm.trans hnamed)
  cases hmethM.symm.trans hmethM'
  obtain ⟨c2, r2, m2, q1, q2, q3, q4, kP, hkP, hkPi⟩ := Cond.selects_spec hsel
  cases hcls.symm.trans q1
  cases (State.methodFound?_of_named hnamed hy).symm.trans q2
  cases hnamed.symm.trans q3
  have hselP : selectMethod e.platform s.vm cellB.cls mk = .method mk := by rw [Launch.admits_selectMethod X.admits]; exact q4
  obtain ⟨vm₁, X₁, hstep₁⟩ := X.invokevirtual hexec hown hlink hnamed hmethM hstM hkP hkPi hy (a := b) (cell := cellB) hcell
    (fun z h => by rw [h] at hobj; cases hobj) hselP hmethM habM hkP hkPi (g := g) hg (argsL := argsL) (rest := rest) (hlen _ hsigM) hstack hdg
  rcases hK m meth c ⟨T.setVm vm₁, locs, cells, slots⟩ { g with stack := rest } (.invokevirtual index) mk (Value.ref b :: argsL).toArray X₁ hg hsize hdg hW (X₁.named hnamed) (hpre vm₁ X₁.warmed) with ⟨v, B, X', hpost, hsteps⟩ | ⟨q, B, X', hpost, hsteps⟩
  · exact Or.inl ⟨v, vm₁, B, X₁.warmed, X', hpost, fun target h => hstep₁ _ fun acts => by rw [doInvoke_state]; exact hsteps.trans h⟩
  · exact Or.inr ⟨q, vm₁, B, X₁.warmed, X', hpost, hstep₁ _ fun acts => by rw [doInvoke_state]; exact hsteps⟩
theorem vx_callSX (X : Stand p l e R s m args below meth c T locs cells slots) (hexec : p.tables.exec = Jvm.exec) {own : String} {index : Nat} {y : MethodName} {bytes : ByteArray} {maxL : Nat} {ret : Option FieldType} {hh : List (Nat × Nat × Nat × Nat)}
    (hown : s.vm.findClass own = some m.cls) (hlink : (Cond.methodLink own index y).before args s = true) (hstat : (Cond.static y).before args s = true) (hinit : (Cond.initialized y.cls).before args s = true)
    (hcode : (Cond.codeWith y bytes maxL ret hh).before args s = true) (hy : y.cls ≠ "java/lang/invoke/MethodHandle" ∧ y.cls ≠ "java/lang/invoke/VarHandle")
    {W9 : Nat} {Pre : Pt → Array Value → Prop} {Post : Pt → Array Value → Option Value → Pt → Prop} {PostX : Pt → Array Value → Addr → Pt → Prop} (hK : vx_Back l R p e below s args y 3 W9 Pre Post PostX)
    {g : JFrame} (hg : g.method = m) (hsize : g.locals.size = c.maxLocals) {argsL rest : List Value} (hlen : ∀ sig, parseMethodDescriptor y.desc = some sig → argsL.length = sig.parameters.length)
    (hstack : g.stack = argsL.reverse ++ rest) (hW : 2 * g.monitorRoom + (rest.map fun v => v.category).sum ≤ W9) (hdg : decode c.code g.pc = .ok (.invokestatic index, 3))
    (hpre : ∀ vm₁, s.WarmedH vm₁ → Pre ⟨T.setVm vm₁, locs, cells, slots⟩ argsL.toArray) :
    (∃ (v : Option Value) (vm₁ : Vm) (B : Pt), s.WarmedH vm₁ ∧ Stand p l e R s m args below meth c B.U B.locs B.cells B.slots ∧ Post ⟨T.setVm vm₁, locs, cells, slots⟩ argsL.toArray v B ∧
      ∀ target, Steps p.tables e below (B.U.setTop { g with pc := g.pc + 3, stack := v.toList ++ rest }) target → Steps p.tables e below (T.setTop g) target) ∨
    (∃ (q : Addr) (vm₁ : Vm) (B : Pt), s.WarmedH vm₁ ∧ Stand p l e R s m args below meth c B.U B.locs B.cells B.slots ∧ PostX ⟨T.setVm vm₁, locs, cells, slots⟩ argsL.toArray q B ∧
      Steps p.tables e below (T.setTop g) ((B.U.setTop { g with stack := rest }).pushFrame (.throwing q))) := by
  obtain ⟨mk, methM, cM, hnamed, hmethM, -, -, -, -, -, -, hsigM⟩ := Cond.codeWith_spec hcode
  have hstatic : methM.isStatic = true := Cond.static_spec hnamed hmethM hstat
  obtain ⟨kP, hkP, -⟩ := className_of_methodNamed hnamed
  have hinitP : kP.init = .initialized := Cond.initialized_spec (findClass_of_methodNamed hnamed) hkP hinit
  obtain ⟨vm₁, X₁, hstep₁⟩ := X.invokestatic hexec hown hlink hnamed hmethM hstatic hkP hinitP hy (g := g) hg (argsL := argsL) (rest := rest) (hlen _ hsigM) hstack hdg
  rcases hK m meth c ⟨T.setVm vm₁, locs, cells, slots⟩ { g with stack := rest } (.invokestatic index) mk argsL.toArray X₁ hg hsize hdg hW (X₁.named hnamed) (hpre vm₁ X₁.warmed) with ⟨v, B, X', hpost, hsteps⟩ | ⟨q, B, X', hpost, hsteps⟩
  · exact Or.inl ⟨v, vm₁, B, X₁.warmed, X', hpost, fun target h => hstep₁ _ fun acts => by rw [doInvoke_state]; exact hsteps.trans h⟩
  · exact Or.inr ⟨q, vm₁, B, X₁.warmed, X', hpost, hstep₁ _ fun acts => by rw [doInvoke_state]; exact hsteps⟩
theorem vx_callVW (X : Stand p l e R s m args below meth c T locs cells slots) (hexec : p.tables.exec = Jvm.exec) {own C : String} {index : Nat} {y : MethodName} {bytes : ByteArray} {maxL : Nat} {ret : Option FieldType} {hh : List (Nat × Nat × Nat × Nat)}
    (hown : s.vm.findClass own = some m.cls) (hlink : (Cond.methodLink own index y).before args s = true) (hinst : (Cond.instanceMethod y).before args s = true) (hsel : (Cond.selects C y y).before args s = true)
    (hcode : (Cond.codeWith y bytes maxL ret hh).before args s = true) (hy : y.cls ≠ "java/lang/invoke/MethodHandle" ∧ y.cls ≠ "java/lang/invoke/VarHandle")
    {W9 : Nat} {Pre : Pt → Array Value → Prop} {Post : Pt → Array Value → Option Value → Pt → Prop} (hK : Back l R p e below s args y 3 W9 Pre Post)
    {b : Addr} {cellB : Cell} (hcell : T.heap[b]? = some cellB) (hobj : cellB.vm.isStatics = false) (hcls : s.vm.findClass C = some cellB.cls)
    {g : JFrame} (hg : g.method = m) (hsize : g.locals.size = c.maxLocals) {argsL rest : List Value} (hlen : ∀ sig, parseMethodDescriptor y.desc = some sig → argsL.length = sig.parameters.length)
    (hstack : g.stack = argsL.reverse ++ .ref b :: rest) (hW : 2 * g.monitorRoom + (rest.map fun v => v.category).sum ≤ W9) (hdg : decode c.code g.pc = .ok (.invokevirtual index, 3))
    (hpre : ∀ vm₁, s.WarmedH vm₁ → Pre ⟨T.setVm vm₁, locs, cells, slots⟩ (Value.ref b :: argsL).toArray) :
    ∃ (v : Option Value) (vm₁ : Vm) (B : Pt), s.WarmedH vm₁ ∧ Stand p l e R s m args below meth c B.U B.locs B.cells B.slots ∧ Post ⟨T.setVm vm₁, locs, cells, slots⟩ (Value.ref b :: argsL).toArray v B ∧
      ∀ target, Steps p.tables e below (B.U.setTop { g with pc := g.pc + 3, stack := v.toList ++ rest }) target → Steps p.tables e below (T.setTop g) target := by
  obtain ⟨mk, methM, hnamed, hmethM, hstM, habM⟩ := Cond.instanceMethod_spec hinst
  obtain ⟨m8, methM', cM, hn8, hmethM', -, -, -, -, -, -, hsigM⟩ := Cond.codeWith_spec hcode
  cases Option.some.inj (hn8.symm.trans hnamed)
  cases hmethM.symm.trans hmethM'
  obtain ⟨c2, r2, m2, q1, q2, q3, q4, kP, hkP, hkPi⟩ := Cond.selects_spec hsel
  cases hcls.symm.trans q1
  cases (State.methodFound?_of_named hnamed hy).symm.trans q2
  cases hnamed.symm.trans q3
  have hselP : selectMethod e.platform s.vm cellB.cls mk = .method mk := by rw [Launch.admits_selectMethod X.admits]; exact q4
  obtain ⟨vm₁, X₁, hstep₁⟩ := X.invokevirtual hexec hown hlink hnamed hmethM hstM hkP hkPi hy (a := b) (cell := cellB) hcell
    (fun z h => by rw [h] at hobj; cases hobj) hselP hmethM habM hkP hkPi (g := g) hg (argsL := argsL) (rest := rest) (hlen _ hsigM) hstack hdg
  obtain ⟨v, B, X', hpost, hsteps⟩ := hK m meth c ⟨T.setVm vm₁, locs, cells, slots⟩ { g with stack := rest } (.invokevirtual index) mk (Value.ref b :: argsL).toArray X₁ hg hsize hdg hW (X₁.named hnamed) (hpre vm₁ X₁.warmed)
  exact ⟨v, vm₁, B, X₁.warmed, X', hpost, fun target h => hstep₁ _ fun acts => by rw [doInvoke_state]; exact hsteps.trans h⟩
abbrev vx_CVW (R : Room) (s : State) (args : Array Value) (own C : String) (index : Nat) (y : MethodName) (bytes : ByteArray) (maxL : Nat) (ret : Option FieldType) (hh : List (Nat × Nat × Nat × Nat)) (ws : List Cond) (rm : Room) (mc ms n : Nat) : Prop :=
  (rm.cells = mc ∧ rm.slots = ms ∧ rm.frames + 1 ≤ R.frames ∧ 8 + (maxL + 11) + rm.locals ≤ R.locals ∧ (∀ w ∈ ws, ∀ (a' : Array Value) (U : State), s.WarmedH U.vm → w.before a' U = true) ∧ Cond.codeWith y bytes maxL ret hh ∈ ws) ∧
  (Cond.codeWith y bytes maxL ret hh).before args s = true ∧ (Cond.initialized y.cls).before args s = true ∧ (y.cls ≠ "java/lang/invoke/MethodHandle" ∧ y.cls ≠ "java/lang/invoke/VarHandle") ∧
  (∀ sig, parseMethodDescriptor y.desc = some sig → n = sig.parameters.length) ∧ (Cond.methodLink own index y).before args s = true ∧ (Cond.instanceMethod y).before args s = true ∧ (Cond.selects C y y).before args s = true
theorem vx_cwVW {own C : String} {index maxL mc ms : Nat} {y : MethodName} {bytes : ByteArray} {ret : Option FieldType} {hh : List (Nat × Nat × Nat × Nat)} {Ts ws ws' : List Cond} {rm : Room} (n : Nat) (ht : ∀ w ∈ Ts, w.before args s = true) (hT : GoodIn Ts (wsV own index C y ws)) (hw : ws = Cond.codeWith y bytes maxL ret hh :: ws') (hrc : rm.cells = mc) (hrs : rm.slots = ms)
    (hd : y.cls = C ∧ y.cls ≠ "java/lang/invoke/MethodHandle" ∧ y.cls ≠ "java/lang/invoke/VarHandle" ∧ (parseMethodDescriptor y.desc).map (fun d => d.parameters.length) = some n) (hR : rm.frames + 1 ≤ R.frames ∧ 8 + (maxL + 11) + rm.locals ≤ R.locals) :
    vx_CVW R s args own C index y bytes maxL ret hh ws rm mc ms n := by
  obtain ⟨hC, hd⟩ := hd
  subst hC
  have ok : ∀ w ∈ wsV own index y.cls y ws, w.before args s = true := fun w h => ht w (hT w h).1
  have hG : GoodIn Ts ws := fun w h => hT w (by unfold wsV; exact List.mem_append_right _ h)
  have hc : Cond.codeWith y bytes maxL ret hh ∈ ws := by rw [hw]; exact List.mem_cons_self
  refine ⟨⟨hrc, hrs, hR.1, hR.2, pay_in ht hG, hc⟩, ht _ (hG _ hc).1, ok _ (by simp [wsV]), ⟨hd.1, hd.2.1⟩, fun sig h => ?_, ok _ (by simp [wsV]), ok _ (by simp [wsV]), ok _ (by simp [wsV])⟩
  have h2 := hd.2.2
  rw [h] at h2
  exact (Option.some.inj h2).symm
theorem vx_runVW {y : MethodName} {bytes cc : ByteArray} {maxL nL mc ms n index : Nat} {ret : Option FieldType} {hh : List (Nat × Nat × Nat × Nat)} {ws : List Cond} {rm : Room} {Pc : Array Value → State → Prop} {Qc : Array Value → State → Outcome → State → Prop} {free : Addr → Prop} {Ts : List Cond} {own C : String} {b : Addr} {As rest : List Value} {g : JFrame}
    (S : CallFix p m c cc nL s args Ts own) (hM : Met l y ws rm Pc Qc mc ms free) (cw : vx_CVW R s args own C index y bytes maxL ret hh ws rm mc ms n) (hp : PreV s H C b Pc As)
    (hg : g.method = m) (hn : As.length = n) (hsize : g.locals.size = nL) (hstack : g.stack = As.reverse ++ .ref b :: rest) (hW : 2 * g.monitorRoom + (rest.map fun v => v.category).sum ≤ 8) (hdg : decode cc g.pc = .ok (.invokevirtual index, 3)) (hf : cells + mc ≤ R.cells ∧ slots + ms ≤ R.slots) :
    va_Run p l e R s m args below meth c H locs cells slots mc ms g rest (Qc (Value.ref b :: As).toArray) free := by
  obtain ⟨⟨hrc, hrs, hfr, hlo, hws, hcw⟩, hcode, hini, hy, hlen, hl, hin, hse⟩ := cw
  have hK : Back l R p e below s args y 3 8 (PreOf R mc ms Pc) (PostOf Qc mc ms free) := va_backW (hh := hh) (bytes := bytes) (maxL := maxL) (ret := ret) hM hp.1 hrc hrs hfr hlo hws hcw (fun a' U hW => word_at hW (Or.inl (by first | rfl | simp [Cond.onTables, Cond.keeps, Cond.steady])) hini)
  obtain ⟨hx, hb, hml, ho, -⟩ := S
  obtain ⟨-, ⟨cellB, hcB, hoB, hclB⟩, hPc⟩ := hp
  intro T hT X
  obtain ⟨v, vm₁, ⟨U', l2, c2, s2⟩, hW₁, X', ⟨g', mk, t, L, e1, e2, hq, h1, hL, h2, h3⟩, st⟩ := vx_callVW X hx (C := C) (hh := hh) (bytes := bytes) (maxL := maxL) (ret := ret) ho hl hin hse hcode hy hK (by rw [hT]; exact hcB) hoB hclB hg (hsize.trans hml.symm) (argsL := As) (rest := rest) (fun sig h => hn.trans (hlen sig h)) hstack hW (by rw [hb]; exact hdg)
    (fun vm₁ hW₁ => ⟨hf.1, hf.2, hPc (T.setVm vm₁) hT hW₁⟩)
  dsimp only [Pt.U, Pt.locs, Pt.cells, Pt.slots] at X' e1 e2 h1 h2 h3 st
  subst h1; subst h2; subst h3
  exact ⟨v, (T.setVm vm₁).calling g' mk (Value.ref b :: As).toArray, t, U', L, hT, X', hL, e1, e2, hq, st⟩
section
variable {y : MethodName} {bytes cc : ByteArray} {maxL nL mc ms n index : Nat} {ret : Option FieldType} {ws : List Cond} {rm : Room} {Pc : Array Value → State → Prop} {Qc : Array Value → State → Outcome → State → Prop} {XC : String → State → State → Prop} {free : Addr → Prop} {Ts : List Cond} {own C : String} {b : Addr} {As rest : List Value} {g : JFrame}
theorem vx_runVX {hh : List (Nat × Nat × Nat × Nat)} (S : CallFix p m c cc nL s args Ts own) (hM : vx_Met l y ws rm Pc Qc XC mc ms free) (cw : vx_CVW R s args own C index y bytes maxL ret hh ws rm mc ms n) (hp : PreV s H C b Pc As)
    (hg : g.method = m) (hn : As.length = n) (hsize : g.locals.size = nL) (hstack : g.stack = As.reverse ++ .ref b :: rest) (hW : 2 * g.monitorRoom + (rest.map fun v => v.category).sum ≤ 8) (hdg : decode cc g.pc = .ok (.invokevirtual index, 3)) (hf : cells + mc ≤ R.cells ∧ slots + ms ≤ R.slots) :
    vx_Run p l e R s m args below meth c H locs cells slots mc ms g rest (Qc (Value.ref b :: As).toArray) XC free := by
  obtain ⟨⟨hrc, hrs, hfr, hlo, hws, hcw⟩, hcode, hini, hy, hlen, hl, hin, hse⟩ := cw
  have hK : vx_Back l R p e below s args y 3 8 (PreOf R mc ms Pc) (PostOf Qc mc ms free) (vx_Post XC mc ms free) := vx_backW (hh := hh) (bytes := bytes) (maxL := maxL) (ret := ret) hM hp.1 hrc hrs hfr hlo hws hcw (fun a' U hW => word_at hW (Or.inl (by first | rfl | simp [Cond.onTables, Cond.keeps, Cond.steady])) hini)
  obtain ⟨hx, hb, hml, ho, -⟩ := S
  obtain ⟨-, ⟨cellB, hcB, hoB, hclB⟩, hPc⟩ := hp
  intro T hT X
  rcases vx_callVX X hx (C := C) (hh := hh) (bytes := bytes) (maxL := maxL) (ret := ret) ho hl hin hse hcode hy hK (by rw [hT]; exact hcB) hoB hclB hg (hsize.trans hml.symm) (argsL := As) (rest := rest) (fun sig h => hn.trans (hlen sig h)) hstack hW (by rw [hb]; exact hdg)
    (fun vm₁ hW₁ => ⟨hf.1, hf.2, hPc (T.setVm vm₁) hT hW₁⟩) with ⟨v, vm₁, ⟨U', l2, c2, s2⟩, hW₁, X', ⟨g', mk, t, L, e1, e2, hq, h1, hL, h2, h3⟩, st⟩ | ⟨q, vm₁, ⟨U', l2, c2, s2⟩, hW₁, X', ⟨g', mk, t, L, E, ce, e1, e2, hq, hce, hcv, hcl, h1, hL, h2, h3⟩, st⟩
  · dsimp only [Pt.U, Pt.locs, Pt.cells, Pt.slots] at X' e1 e2 h1 h2 h3 st
    subst h1; subst h2; subst h3
    exact Or.inl ⟨v, (T.setVm vm₁).calling g' mk (Value.ref b :: As).toArray, t, U', L, hT, X', hL, e1, e2, hq, st⟩
  · dsimp only [Pt.U, Pt.locs, Pt.cells, Pt.slots] at X' e1 e2 h1 h2 h3 st hcl
    subst h1; subst h2; subst h3
    exact Or.inr ⟨q, (T.setVm vm₁).calling g' mk (Value.ref b :: As).toArray, t, U', L, E, ce, hT, X', hL, e1, e2, hq, hce, hcv, vx_cls hW₁ hcl, st⟩
theorem vx_runSX {hh : List (Nat × Nat × Nat × Nat)} (S : CallFix p m c cc nL s args Ts own) (hM : vx_Met l y ws rm Pc Qc XC mc ms free) (cw : vx_CSW R s args own index y bytes maxL ret hh ws rm mc ms n) (hp : PreS s H Pc As)
    (hg : g.method = m) (hn : As.length = n) (hsize : g.locals.size = nL) (hstack : g.stack = As.reverse ++ rest) (hW : 2 * g.monitorRoom + (rest.map fun v => v.category).sum ≤ 8) (hdg : decode cc g.pc = .ok (.invokestatic index, 3)) (hf : cells + mc ≤ R.cells ∧ slots + ms ≤ R.slots) :
    vx_Run p l e R s m args below meth c H locs cells slots mc ms g rest (Qc As.toArray) XC free := by
  obtain ⟨⟨hrc, hrs, hfr, hlo, hws, hcw⟩, hcode, hini, hy, hlen, hl, hstt⟩ := cw
  have hK : vx_Back l R p e below s args y 3 8 (PreOf R mc ms Pc) (PostOf Qc mc ms free) (vx_Post XC mc ms free) := vx_backW (hh := hh) (bytes := bytes) (maxL := maxL) (ret := ret) hM hp.1 hrc hrs hfr hlo hws hcw (fun a' U hW => word_at hW (Or.inl (by first | rfl | simp [Cond.onTables, Cond.keeps, Cond.steady])) hini)
  obtain ⟨hx, hb, hml, ho, -⟩ := S
  intro T hT X
  rcases vx_callSX X hx (hh := hh) (bytes := bytes) (maxL := maxL) (ret := ret) ho hl hstt hini hcode hy hK hg (hsize.trans hml.symm) (argsL := As) (rest := rest) (fun sig h => hn.trans (hlen sig h)) hstack hW (by rw [hb]; exact hdg)
    (fun vm₁ hW₁ => ⟨hf.1, hf.2, hp.2 (T.setVm vm₁) hT hW₁⟩) with ⟨v, vm₁, ⟨U', l2, c2, s2⟩, hW₁, X', ⟨g', mk, t, L, e1, e2, hq, h1, hL, h2, h3⟩, st⟩ | ⟨q, vm₁, ⟨U', l2, c2, s2⟩, hW₁, X', ⟨g', mk, t, L, E, ce, e1, e2, hq, hce, hcv, hcl, h1, hL, h2, h3⟩, st⟩
  · dsimp only [Pt.U, Pt.locs, Pt.cells, Pt.slots] at X' e1 e2 h1 h2 h3 st
    subst h1; subst h2; subst h3
    exact Or.inl ⟨v, (T.setVm vm₁).calling g' mk As.toArray, t, U', L, hT, X', hL, e1, e2, hq, st⟩
  · dsimp only [Pt.U, Pt.locs, Pt.cells, Pt.slots] at X' e1 e2 h1 h2 h3 st hcl
    subst h1; subst h2; subst h3
    exact Or.inr ⟨q, (T.setVm vm₁).calling g' mk As.toArray, t, U', L, E, ce, hT, X', hL, e1, e2, hq, hce, hcv, vx_cls hW₁ hcl, st⟩
end
end VXH
theorem vx_ofWH {l : Launch} {y : MethodName} {ws ws' : List Cond} {rm : Room} {Pc : Array Value → State → Prop} {Qc : Array Value → State → Outcome → State → Prop} {XC : String → State → State → Prop} {mc ms : Nat} {free : Addr → Prop} {cc : ByteArray} {maxL : Nat} {ret : Option FieldType} {hh : List (Nat × Nat × Nat × Nat)}
    (hy : plainName y.cls = true) (hw : ws = Cond.codeWith y cc maxL ret hh :: ws')
    (body : ∀ p e s m args below meth c s₁, BodyLoose p l y (headSpec ws rm) cc maxL ret e s m args below meth c s₁ → c.maxLocals = maxL → Pc args s →
      W p l e (headSpec ws rm).room s m args below meth c s.heap [] 0 0 (vx_MQ below Qc XC args s mc ms free) (entryFrame m args maxL)) : vx_Met l y ws rm Pc Qc XC mc ms free := by
  refine MetFree.of_bodyS (code := cc) (maxLocals := maxL) (ret := ret) hy ?_ ?_
  · intro args s m h hn
    obtain ⟨m9, meth, c, hn9, h1, h2, h3, h4, -, h5, h6, -⟩ := Cond.codeWith_spec (atoms_spec (ws := ws) h _ (by rw [hw]; exact List.mem_cons_self))
    cases hn.symm.trans hn9
    exact ⟨meth, c, h1, h2, h3, h4, h5, h6⟩
  · intro p e s m args below meth c s₁ B hml hP _
    have hh0 : s₁.heap = s.heap := by rw [B.state]; rfl
    obtain ⟨t, a1, o, b1, b2, b3⟩ := body p e s m args below meth c s₁ B hml hP s₁ hh0 (Stand.of_body B)
    exact ⟨t, o, a1, b1, b2, b3⟩
/-! ===== END ===== -/

/-! ===== BEGIN what the machine throws by itself, no traces kept ===== -/
section VXM
set_option maxHeartbeats 1000000 in
/-- the machine throws cls with the message text, no traces kept: from its note over the frame g to 'throwing' over the same frame (follows the proofs of Stand.vmThrowsMessage, Shelf/KitTracedVmS.lean, and Stand.throwsMessageColdBareV, StandMessageColdV.lean, without the step out of the frame) -/
theorem vx_vmAt {p : Program} {l : Launch} {e : Env} {R : Room} {s : State} {m₀ : MethodId} {args : Array Value} {below : List Frame} {meth : Method} {c : Code} {W : State} {locs : List Loc} {cells slots : Nat}
    (X : Stand p l e R s m₀ args below meth c W locs cells slots) (hexec : p.tables.exec = Jvm.exec) (htr : e.platform.stackTraces = false) {cls : String} {names : List String} {text : String}
    (hcls : Bundle.fit cls = true) (hnames : ∀ n ∈ names, Bundle.fit n = true) (hsoe : (cls == "java/lang/StackOverflowError") = false) (hoom : (cls == "java/lang/OutOfMemoryError") = false)
    (h : ∀ a ∈ Bundle.messageArmAtoms cls names, a.before args s = true)
    (hlocs : ∀ x ∈ locs, ∀ cell, s.heap[x.base]? = some cell → cell.vm.isStatics = false)
    (htext : (text == notModelled) = false) (hlimit : ¬ (stringBytes (stringToUtf16 text)).size > e.platform.arrayLengthLimit) (hheap : ¬ (stringBytes (stringToUtf16 text)).size * componentBytes .byte > e.platform.maxHeapBytes)
    {g : JFrame} (hg : g.method = m₀) (hsize : g.locals.size = c.maxLocals)
    (hRframes : names.length + 4 < R.frames) (hRlocals : 2 * g.monitorRoom + (g.stack.map fun v => v.category).sum + 10240 ≤ R.locals) (hshort : 13 * names.length + 55 ≤ 10240)
    (hRcells : cells + 3 ≤ R.cells) (hRslots : slots + ((stringBytes (stringToUtf16 text)).size + 4 + 6) ≤ R.slots) (hlocks : meth.locks = false) :
    ∃ (S : State) (q : Addr) (ce : Cell), (∀ target, Steps p.tables e below ((S.setTop g).pushFrame (.throwing q)) target → Steps p.tables e below ((W.setTop g).pushFrame (.throwNew cls (some text) none)) target) ∧
      Stand p l e R s m₀ args below meth c S locs (cells + 3) (slots + ((stringBytes (stringToUtf16 text)).size + 4 + 6)) ∧ S.heap[q]? = some ce ∧ s.vm.findClass cls = some ce.cls ∧ ce.vm = .none := by
  have howns : e.platform.frameOwnsMonitors = true := by rw [X.admits.platform]
  have hfin : e.platform.finalization = false := by rw [X.admits.platform]
  have hpl : e.platform.magicAccessors = ({} : Platform).magicAccessors := by rw [X.admits.platform]
  have a : ∀ x, x ∈ Bundle.messageArmAtoms cls names → x.holds args s none s [] = true := fun x hx => h x hx
  obtain ⟨T, Z0, L, -, Y⟩ := ThrowableC.of_atoms (args := args) howns hfin hpl (fun x hx => h x (by simp [Bundle.messageArmAtoms, hx]))
  obtain ⟨Z, M, LZ, LM, hnZ⟩ := Init0T.ofS_atoms (args := args) hpl L Y (fun x hx => h x (by simp [Bundle.messageArmAtoms, hx]))
  obtain ⟨P1, Ps, hlen, L1, hL, hP1m, hlink1, hlink⟩ := Bundle.chainS (args := args) hpl hnZ names cls hcls hnames (fun x hx => h x (by simp [Bundle.messageArmAtoms, hx]))
  obtain ⟨Zs, LZs, hn4, hfitv, hfitc⟩ := StringT.of_atoms (args := args) (fun x hx => h x (by simp [Bundle.messageArmAtoms, hx]))
  have hfound : s.vm.findClass cls = some P1.m.cls := findClass_of_methodNamed hP1m
  obtain ⟨c1, kX, hc1, hk, hord, -, -, hn6⟩ := Cond.instantiable_spec (a (.instantiable cls 6) (by simp [Bundle.messageArmAtoms]))
  cases Option.some.inj (hc1.symm.trans hfound)
  have hinit := Cond.initialized_spec hfound hk (a (.initialized cls) (by simp [Bundle.messageArmAtoms]))
  have hctor : kX.findMethod "<init>" "(Ljava/lang/String;)V" = some P1.m.idx := findMethod_of_methodNamed hP1m hk
  have hsel0 : selectMethod e.platform s.vm P1.m.cls T.fill0 = .method T.fill0 := by
    obtain ⟨c2, r2, m2, q1, q2, q3, q4, -⟩ := Cond.selects_spec (a (.selects cls Bundle.tFill0 Bundle.tFill0) (by simp [Bundle.messageArmAtoms]))
    cases Option.some.inj (q1.symm.trans hfound)
    cases Option.some.inj (q2.symm.trans (State.methodFound?_of_named Y.fill0 (by decide)))
    cases Option.some.inj (q3.symm.trans Y.fill0)
    rw [Launch.admits_selectMethod X.admits]; exact q4
  have hselF : selectMethod e.platform s.vm P1.m.cls T.fill = .method T.fill := by
    obtain ⟨c2, r2, m2, q1, q2, q3, q4, -⟩ := Cond.selects_spec (a (.selects cls Bundle.tFill Bundle.tFill) (by simp [Bundle.messageArmAtoms]))
    cases Option.some.inj (q1.symm.trans hfound)
    cases Option.some.inj (q2.symm.trans (State.methodFound?_of_named Y.fill (by decide)))
    cases Option.some.inj (q3.symm.trans Y.fill)
    rw [Launch.admits_selectMethod X.admits]; exact q4
  obtain ⟨cellS0, hcS0, hiss⟩ := Y.statics
  obtain ⟨u0, hu0⟩ := Cond.staticRefV Y.unassigned L.unassignedStatic L.statics hcS0 hiss (a (.isRef (.static Bundle.tN "UNASSIGNED_STACK" Bundle.steD)) (by simp [Bundle.messageArmAtoms]))
  obtain ⟨sen, hsen⟩ := Cond.staticRefV Y.sentinel L.sentinelStatic L.statics hcS0 hiss (a (.isRef (.static Bundle.tN "SUPPRESSED_SENTINEL" Bundle.listD)) (by simp [Bundle.messageArmAtoms]))
  obtain ⟨ci198, i198, fB, hk198, hg198, ha198, hsB, -, hnB, htB, hffB⟩ := Cond.ownField (t := .object "java/lang/Object") Y.found L.cls (by decide +kernel) (a (.fieldLink Bundle.tN 198 Bundle.tN "backtrace" "Ljava/lang/Object;") (by simp [Bundle.messageArmAtoms])) (a (.lays Bundle.tN Bundle.tN "backtrace" "Ljava/lang/Object;") (by simp [Bundle.messageArmAtoms])) e.platform hpl
  obtain ⟨cellS, hcS', heS, -, hkeep⟩ := X.same.2.2.2.2.2 T.aS cellS0 hcS0
  have hcellS : W.heap[T.aS]? = some cellS := hcS'
  have hout' : ∀ i, (⟨T.aS, i⟩ : Loc) ∉ locs := fun i hmem => by
    have := hlocs _ hmem cellS0 hcS0
    rw [hiss] at this; cases this
  have hknownS : cellS.vm ≠ .unknown := by
    rw [heS]; intro hu
    rw [show cellS0.vm = .unknown from hu] at hiss
    cases hiss
  have hvU : cellS.slots[T.fUnassigned.slot]? = some u0.v := by rw [hkeep _ (hout' _)]; exact hu0
  have hvSen : cellS.slots[T.fSentinel.slot]? = some sen.v := by rw [hkeep _ (hout' _)]; exact hsen
  obtain ⟨iM, hffM⟩ := Y.msg
  obtain ⟨tyC, dC, hdC, hdnC⟩ := Cond.laysAt hfound hk Y.cause (a (.lays cls Bundle.tN "cause" "Ljava/lang/Throwable;") (by simp [Bundle.messageArmAtoms]))
  obtain ⟨tyS, dS, hdS, hdnS⟩ := Cond.laysAt hfound hk Y.stack (a (.lays cls Bundle.tN "stackTrace" Bundle.steD) (by simp [Bundle.messageArmAtoms]))
  obtain ⟨tyP, dP, hdP, hdnP⟩ := Cond.laysAt hfound hk Y.supp (a (.lays cls Bundle.tN "suppressedExceptions" Bundle.listD) (by simp [Bundle.messageArmAtoms]))
  obtain ⟨tyM, dM, hdM, hdnM⟩ := Cond.laysAt hfound hk hffM (a (.lays cls Bundle.tN "detailMessage" "Ljava/lang/String;") (by simp [Bundle.messageArmAtoms]))
  obtain ⟨tyB, dB, hdB, hdnB⟩ := Cond.laysAt hfound hk hffB (a (.lays cls Bundle.tN "backtrace" "Ljava/lang/Object;") (by simp [Bundle.messageArmAtoms]))
  have bC := Cond.laysApart hdB hdC hdnB hdnC (by rw [hnB, Y.causeName]; decide)
  have bS := Cond.laysApart hdB hdS hdnB hdnS (by rw [hnB, Y.stackName]; decide)
  have bP := Cond.laysApart hdB hdP hdnB hdnP (by rw [hnB, Y.suppName]; decide)
  have hbk : ((preparedCellV T.toThrowableT (freshCell P1.m.cls kX) (W.heap.size + 2) u0 sen).withEntry W.cur).slots[fB.slot]? = some .null := by
    have := fresh_default (c := P1.m.cls) tyB
    rw [htB] at this
    simpa [preparedCellV, Cell.setSlot, Cell.withEntry, Array.getElem?_setIfInBounds, bC, bS, bP, bC.symm, bS.symm, bP.symm, defaultValue] using this
  have tkC := Takes.of_laid (v := .ref (W.heap.size + 2)) hk hord tyC (by rw [Y.causeType]; rfl)
  have tkS := Takes.of_laid (v := u0.v) hk hord tyS (by rw [Y.stackType]; exact fits_refV_array _ u0)
  have tkP := Takes.of_laid (v := sen.v) hk hord tyP (by rw [Y.suppType]; exact fits_refV_object _ sen)
  have tkM := Takes.of_laid (v := .ref (W.heap.size + 1)) hk hord tyM (by rw [Y.msgType]; rfl)
  have hskip : SkipFacts T e.platform s (fun u => u) u0 ((preparedCellV T.toThrowableT (freshCell P1.m.cls kX) (W.heap.size + 2) u0 sen).withEntry W.cur) := ⟨{ ci198 := ci198, i198 := i198, fBack := fB }, ⟨hk198, hg198, ha198, hsB⟩, hbk, fun _ _ => rfl⟩
  have h0 : At W g.method c below := by rw [hg]; exact X.here
  obtain ⟨hbeyond, hfreeW⟩ := X.vmMayThrow hsize (.throwNew cls (some text) none) (fun f hf => by cases hf) rfl hRlocals
  have hfr' : W.frames.length + Ps.length + 4 < (e.platform.stackLimits W.me).1 := by have := X.framesAbove hRframes; omega
  have hwd' : (stackUse (.java g :: W.frames.tail)).2 + 13 * Ps.length + 55 ≤ (e.platform.stackLimits W.me).2 := by have := X.stackAbove hsize (K := 13 * Ps.length + 55) (by omega); omega
  have hslots : W.slotsUsed + (stringBytes (stringToUtf16 text)).size + Zs.kS.instanceTypes.size + kX.instanceTypes.size ≤ e.platform.maxSlots := by
    have := X.slotsAbove hRslots
    rw [hn4, hn6]
    omega
  obtain ⟨vm', hW', st⟩ := Steps.vmThrowsMessageColdByV p (s₀ := s) (S := W) (g := g) h0 hexec T L Z LZ M LM X.warmed (t := W.cur) rfl Zs LZs P1 L1 Ps hL hlink1 hlink hsoe hoom hfound hk hinit hord hctor
    (Launch.admits_hotImplicitExceptions X.admits) hbeyond hfreeW htext hlimit hheap (X.cellsAbove hRcells) hslots (hfitv _) (hfitc _)
    (Nn := fun u => u) heapOnly_id (fun _ _ => rfl) (fun _ => rfl) (fun u x y => setCell_twice _ _ _ _) (fun _ => Nat.le_refl _) (cN := ((preparedCellV T.toThrowableT (freshCell P1.m.cls kX) (W.heap.size + 2) u0 sen).withEntry W.cur))
    hsel0 hcellS hknownS hvU tkS (fun _ hu => hu) (fun _ hu => hu) rfl rfl rfl (by simp [preparedCellV, Cell.setSlot, Cell.withEntry]) hskip (fun _ _ hA hW _ hroom _ hrest => L.nativeOff p htr hA hW hroom hrest) hselF hvSen tkC tkP tkM Y.objLocals rfl hfr' hwd'
  rw [plainBareV_eq T.toThrowableT (W.heap.size + 2) u0 sen (.ref (W.heap.size + 1)) W.cur rfl rfl] at st
  obtain ⟨-, -, w3, w4, -, -, -⟩ := withThrown_facts e.platform W Zs text P1.m.cls kX
  have X3 := ((X.pushed (bytesOf Zs.cB (stringToUtf16 text))).pushed (stringAt Zs.cS Zs.kS Zs.fv Zs.fc (stringToUtf16 text) W.heap.size)).pushed (freshCell P1.m.cls kX)
  rw [← withString_eq] at X3
  have X4 := X3.noted hW'
  have ha : (W.heap.size + 2) < ((withThrown W Zs text P1.m.cls kX).setVm vm').heap.size := by show _ < (withThrown W Zs text P1.m.cls kX).heap.size; rw [w3]; omega
  have hcell : ((withThrown W Zs text P1.m.cls kX).setVm vm').heap[(W.heap.size + 2)]? = some (freshCell P1.m.cls kX) := w4
  have X5 := ((((X4.stored hcell T.fCause.slot (.ref (W.heap.size + 2))).storedAgain ha T.fStack.slot u0.v).storedAgain ha T.fSupp.slot sen.v).storedAgain ha T.fStack.slot u0.v).storedAgain ha T.fMsg.slot (.ref (W.heap.size + 1))
  obtain ⟨g₁, hfrM⟩ := X5.frames_eq
  have hU : ((((withThrown W Zs text P1.m.cls kX).setVm vm').setCell (W.heap.size + 2) (plainBareV T.toThrowableT (freshCell P1.m.cls kX) (W.heap.size + 2) u0 sen (.ref (W.heap.size + 1)))).setTop g).pushFrame (.throwing (W.heap.size + 2)) = (((withThrown W Zs text P1.m.cls kX).setVm vm').setCell (W.heap.size + 2) (plainBareV T.toThrowableT (freshCell P1.m.cls kX) (W.heap.size + 2) u0 sen (.ref (W.heap.size + 1)))).setFrames (.throwing (W.heap.size + 2) :: .java g :: below) := by
    rw [State.pushFrame, State.frames_setTop _ hfrM, State.setTop_of_frames _ hfrM, State.setFrames_setFrames]
  have b1 : (bytesOf Zs.cB (stringToUtf16 text)).slots.size = (stringBytes (stringToUtf16 text)).size := by
    rw [(Cell.writeAll_facts _ _).2.2]; simp [bytes0]
  have b2 : (stringAt Zs.cS Zs.kS Zs.fv Zs.fc (stringToUtf16 text) W.heap.size).slots.size = 4 := by simp [string0, Cell.setSlot, hn4]
  have b3 : (freshCell P1.m.cls kX).slots.size = 6 := by simp [hn6]
  rw [b1, b2, b3] at X5
  have e9 : slots + (stringBytes (stringToUtf16 text)).size + 4 + 6 = slots + ((stringBytes (stringToUtf16 text)).size + 4 + 6) := by omega
  rw [e9] at X5
  simp only [List.append_assoc, List.cons_append, List.nil_append] at X5
  refine ⟨((withThrown W Zs text P1.m.cls kX).setVm vm').setCell (W.heap.size + 2) (plainBareV T.toThrowableT (freshCell P1.m.cls kX) (W.heap.size + 2) u0 sen (.ref (W.heap.size + 1))), W.heap.size + 2, _, fun target ht => st _ (by rw [X.tail, ← hU]; exact ht),
    X5.forget (fun y hy => ?_), heapAt_setCell_self _ ha, hfound, rfl⟩
  simp only [List.mem_cons, List.not_mem_nil, or_false] at hy
  have hge : s.heap.size ≤ W.heap.size := X.same.2.1
  rcases hy with rfl | rfl | rfl | rfl | rfl <;> exact Nat.le_trans hge (Nat.le_add_right _ 2)
set_option maxHeartbeats 1000000 in
/-- the machine throws NullPointerException, no traces kept: from its note over the frame g to 'throwing' over the same frame (follows the proof of Stand.vmThrowsNpe, Shelf42/KT2.lean; throwsNpeColdBareVAt, Shelf42/NT91.lean, called) -/
theorem vx_npeAt {p : Program} {l : Launch} {e : Env} {R : Room} {s : State} {m₀ : MethodId} {args : Array Value} {below : List Frame} {meth : Method} {c : Code} {W : State} {locs : List Loc} {cells slots : Nat}
    (X : Stand p l e R s m₀ args below meth c W locs cells slots) (hexec : p.tables.exec = Jvm.exec) (htr : e.platform.stackTraces = false) {n : Nat}
    (h : ∀ a ∈ Bundle.npeArmAtoms n, a.before args s = true)
    (hlocs : ∀ x ∈ locs, ∀ cell, s.heap[x.base]? = some cell → cell.vm.isStatics = false)
    {g : JFrame} (hg : g.method = m₀) (hsize : g.locals.size = c.maxLocals)
    (hRframes : 7 < R.frames) (hRlocals : 2 * g.monitorRoom + (g.stack.map fun v => v.category).sum + 10240 ≤ R.locals)
    (hRcells : cells + 1 ≤ R.cells) (hRslots : slots + n ≤ R.slots) (hlocks : meth.locks = false) :
    ∃ (S : State) (q : Addr) (ce : Cell), (∀ target, Steps p.tables e below ((S.setTop g).pushFrame (.throwing q)) target → Steps p.tables e below ((W.setTop g).pushFrame (.throwNew "java/lang/NullPointerException" none none)) target) ∧
      Stand p l e R s m₀ args below meth c S locs (cells + 1) (slots + n) ∧ S.heap[q]? = some ce ∧ s.vm.findClass "java/lang/NullPointerException" = some ce.cls ∧ ce.vm = .none := by
  have howns : e.platform.frameOwnsMonitors = true := by rw [X.admits.platform]
  have hfin : e.platform.finalization = false := by rw [X.admits.platform]
  have hpl : e.platform.magicAccessors = ({} : Platform).magicAccessors := by rw [X.admits.platform]
  have hpl2 : e.platform.arrayCloneIsPublic = true := by rw [X.admits.platform]
  have a' : ∀ x, x ∈ Bundle.npeArmAtoms n → x.holds args s none s [] = true := fun x hx => h x hx
  obtain ⟨T, Z, L, LZ, Y⟩ := ThrowableC.of_atoms (args := args) howns hfin hpl (fun x hx => h x (by simp [Bundle.npeArmAtoms, hx]))
  obtain ⟨N, LN, hcN, hnNF, hordN, hffS⟩ := NpeC.of_atoms (args := args) hpl hpl2 L Y (fun x hx => h x (by simp [Bundle.npeArmAtoms, hx]))
  obtain ⟨P1, L1, hP1m, hP1s⟩ := PassC.of_atoms (args := args) (s := s) hpl (X := Bundle.nN) (Y := Bundle.rN) (by decide) (by decide) LibCode.NullPointerException.Init0.at_0 LibCode.NullPointerException.Init0.at_1 LibCode.NullPointerException.Init0.at_4 (fun x hx => h x (by simp [Bundle.npeArmAtoms, hx]))
  obtain ⟨PR, LR, hPRm, hPRs⟩ := PassC.of_atoms (args := args) (s := s) hpl (X := Bundle.rN) (Y := Bundle.eN) (by decide) (by decide) LibCode.RuntimeException.Init0.at_0 LibCode.RuntimeException.Init0.at_1 LibCode.RuntimeException.Init0.at_4 (fun x hx => h x (by simp [Bundle.npeArmAtoms, hx]))
  obtain ⟨PE, LEx, hPEm, hPEs⟩ := PassC.of_atoms (args := args) (s := s) hpl (X := Bundle.eN) (Y := Bundle.tN) (by decide) (by decide) LibCode.Exception.Init0.at_0 LibCode.Exception.Init0.at_1 LibCode.Exception.Init0.at_4 (fun x hx => h x (by simp [Bundle.npeArmAtoms, hx]))
  have hfound : s.vm.findClass Bundle.nN = some P1.m.cls := findClass_of_methodNamed hP1m
  have ecls : N.cN = P1.m.cls := Option.some.inj (hcN.symm.trans hfound)
  have hk : s.vm.classes[P1.m.cls]? = some N.kN := by rw [← ecls]; exact LN.cls
  have hinit := Cond.initialized_spec hfound hk (a' (.initialized Bundle.nN) (by simp [Bundle.npeArmAtoms]))
  have hctor : N.kN.findMethod "<init>" "()V" = some P1.m.idx := findMethod_of_methodNamed hP1m hk
  obtain ⟨c1, k1, hc1, hk1, -, -, -, hn⟩ := Cond.instantiable_spec (a' (.instantiable Bundle.nN n) (by simp [Bundle.npeArmAtoms]))
  cases Option.some.inj (hc1.symm.trans hfound)
  cases Option.some.inj (hk1.symm.trans hk)
  have hfsz : (freshCell P1.m.cls N.kN).slots.size = n := by simp [hn]
  have hlink1 : P1.sup = PR.m := Option.some.inj (hP1s.symm.trans hPRm)
  have hlinkR : PR.sup = PE.m := Option.some.inj (hPRs.symm.trans hPEm)
  have hlinkE : PE.sup = Z.m T.toThrowableT := Option.some.inj (hPEs.symm.trans Y.init0)
  have hLs : ∀ P, P ∈ [PR, PE] → P.Links0 e.platform s := fun P hP => by
    simp only [List.mem_cons, List.not_mem_nil, or_false] at hP
    rcases hP with rfl | rfl
    · exact LR
    · exact LEx
  have hsel0 : selectMethod e.platform s.vm P1.m.cls T.fill0 = .method T.fill0 := by
    obtain ⟨c2, r2, m2, q1, q2, q3, q4, -⟩ := Cond.selects_spec (a' (.selects Bundle.nN Bundle.tFill0 Bundle.tFill0) (by simp [Bundle.npeArmAtoms]))
    cases Option.some.inj (q1.symm.trans hfound)
    cases Option.some.inj (q2.symm.trans (State.methodFound?_of_named Y.fill0 (by decide)))
    cases Option.some.inj (q3.symm.trans Y.fill0)
    rw [Launch.admits_selectMethod X.admits]; exact q4
  have hselF : selectMethod e.platform s.vm P1.m.cls T.fill = .method N.fill := by
    obtain ⟨c2, r2, m2, q1, q2, q3, q4, -⟩ := Cond.selects_spec (a' (.selects Bundle.nN Bundle.tFill Bundle.nFill) (by simp [Bundle.npeArmAtoms]))
    cases Option.some.inj (q1.symm.trans hfound)
    cases Option.some.inj (q2.symm.trans (State.methodFound?_of_named Y.fill (by decide)))
    cases Option.some.inj (q3.symm.trans hnNF)
    rw [Launch.admits_selectMethod X.admits]; exact q4
  obtain ⟨cellS0, hcS0, hiss⟩ := Y.statics
  obtain ⟨u0, hu0⟩ := Cond.staticRefV Y.unassigned L.unassignedStatic L.statics hcS0 hiss (a' (.isRef (.static Bundle.tN "UNASSIGNED_STACK" Bundle.steD)) (by simp [Bundle.npeArmAtoms]))
  obtain ⟨sen, hsen⟩ := Cond.staticRefV Y.sentinel L.sentinelStatic L.statics hcS0 hiss (a' (.isRef (.static Bundle.tN "SUPPRESSED_SENTINEL" Bundle.listD)) (by simp [Bundle.npeArmAtoms]))
  obtain ⟨ci198, i198, fB, hk198, hg198, ha198, hsB, -, hnB, htB, hffB⟩ := Cond.ownField (t := .object "java/lang/Object") Y.found L.cls (by decide +kernel) (a' (.fieldLink Bundle.tN 198 Bundle.tN "backtrace" Bundle.objD) (by simp [Bundle.npeArmAtoms])) (a' (.lays Bundle.tN Bundle.tN "backtrace" Bundle.objD) (by simp [Bundle.npeArmAtoms])) e.platform hpl
  obtain ⟨cellS, hcS', heS, -, hkeep⟩ := X.same.2.2.2.2.2 T.aS cellS0 hcS0
  have hcellS : W.heap[T.aS]? = some cellS := hcS'
  have hout' : ∀ i, (⟨T.aS, i⟩ : Loc) ∉ locs := fun i hmem => by
    have := hlocs _ hmem cellS0 hcS0
    rw [hiss] at this; cases this
  have hknownS : cellS.vm ≠ .unknown := by
    rw [heS]; intro hu
    rw [show cellS0.vm = .unknown from hu] at hiss
    cases hiss
  have hvU : cellS.slots[T.fUnassigned.slot]? = some u0.v := by rw [hkeep _ (hout' _)]; exact hu0
  have hvSen : cellS.slots[T.fSentinel.slot]? = some sen.v := by rw [hkeep _ (hout' _)]; exact hsen
  obtain ⟨tyC, dC, hdC, hdnC⟩ := Cond.laysAt hfound hk Y.cause (a' (.lays Bundle.nN Bundle.tN "cause" "Ljava/lang/Throwable;") (by simp [Bundle.npeArmAtoms]))
  obtain ⟨tyS, dS, hdS, hdnS⟩ := Cond.laysAt hfound hk Y.stack (a' (.lays Bundle.nN Bundle.tN "stackTrace" Bundle.steD) (by simp [Bundle.npeArmAtoms]))
  obtain ⟨tyP, dP, hdP, hdnP⟩ := Cond.laysAt hfound hk Y.supp (a' (.lays Bundle.nN Bundle.tN "suppressedExceptions" Bundle.listD) (by simp [Bundle.npeArmAtoms]))
  obtain ⟨tyX, dX, hdX, hdnX⟩ := Cond.laysAt hfound hk hffS (a' (.lays Bundle.nN Bundle.nN "extendedMessageState" "I") (by simp [Bundle.npeArmAtoms, Bundle.npeAtoms]))
  obtain ⟨hnX, htX⟩ := State.fieldFound?_type hffS (t := .int) (by decide +kernel)
  have xC := Cond.laysApart hdC hdX hdnC hdnX (by rw [hnX, Y.causeName]; decide)
  have xS := Cond.laysApart hdS hdX hdnS hdnX (by rw [hnX, Y.stackName]; decide)
  have xP := Cond.laysApart hdP hdX hdnP hdnX (by rw [hnX, Y.suppName]; decide)
  have hv0 : (freshCell P1.m.cls N.kN).slots[N.fState.slot]? = some (.int 0) := by
    have := fresh_default (c := P1.m.cls) tyX
    rw [htX] at this; exact this
  obtain ⟨tyB, dB, hdB, hdnB⟩ := Cond.laysAt hfound hk hffB (a' (.lays Bundle.nN Bundle.tN "backtrace" Bundle.objD) (by simp [Bundle.npeArmAtoms]))
  have bC := Cond.laysApart hdB hdC hdnB hdnC (by rw [hnB, Y.causeName]; decide)
  have bS := Cond.laysApart hdB hdS hdnB hdnS (by rw [hnB, Y.stackName]; decide)
  have bP := Cond.laysApart hdB hdP hdnB hdnP (by rw [hnB, Y.suppName]; decide)
  have bX := Cond.laysApart hdB hdX hdnB hdnX (by rw [hnB, hnX]; decide)
  have hbk : ((npeCell N.toNpeT (preparedCellV T.toThrowableT (freshCell P1.m.cls N.kN) W.heap.size u0 sen) W.cur).withEntry W.cur).slots[fB.slot]? = some .null := by
    have := fresh_default (c := P1.m.cls) tyB
    rw [htB] at this
    simpa [npeCell, preparedCellV, Cell.setSlot, Cell.withEntry, Array.getElem?_setIfInBounds, bC, bS, bP, bX, bC.symm, bS.symm, bP.symm, bX.symm, defaultValue] using this
  have tkC := Takes.of_laid (v := .ref W.heap.size) hk hordN tyC (by rw [Y.causeType]; rfl)
  have tkS := Takes.of_laid (v := u0.v) hk hordN tyS (by rw [Y.stackType]; exact fits_refV_array _ u0)
  have tkP := Takes.of_laid (v := sen.v) hk hordN tyP (by rw [Y.suppType]; exact fits_refV_object _ sen)
  have tkX := Takes.of_laid (v := .int 1) hk hordN tyX (by rw [htX]; rfl)
  have hskip : SkipFacts T e.platform s (fun u => u) u0 ((npeCell N.toNpeT (preparedCellV T.toThrowableT (freshCell P1.m.cls N.kN) W.heap.size u0 sen) W.cur).withEntry W.cur) := ⟨{ ci198 := ci198, i198 := i198, fBack := fB }, ⟨hk198, hg198, ha198, hsB⟩, hbk, fun _ _ => rfl⟩
  obtain ⟨vm', X3, st, -⟩ := X.throwsNpeColdBareVAt hexec hg hsize T L Z LZ N LN P1 L1 [PR, PE] hLs hlink1 ⟨hlinkR, hlinkE, trivial⟩ hfound hk hinit hordN hctor hsel0 hselF hcellS hknownS hvU hvSen
    hv0 xC xS xP tkC tkS tkP tkX Y.objLocals hskip (fun _ _ hA hW _ hroom _ hrest => L.nativeOff p htr hA hW hroom hrest) (by simpa using hRframes) hRlocals (by simp) hRcells (by rw [hn]; exact hRslots)
  have hlt : W.heap.size < ((W.pushCell (freshCell P1.m.cls N.kN)).setVm vm').heap.size := by
    show W.heap.size < (W.pushCell (freshCell P1.m.cls N.kN)).heap.size
    rw [State.heap_size_pushCell]; omega
  rw [hfsz] at X3
  obtain ⟨g₁, hfrM⟩ := X3.frames_eq
  have hU : ((((W.pushCell (freshCell P1.m.cls N.kN)).setVm vm').setCell W.heap.size (npeBareV T.toThrowableT N.toNpeT (freshCell P1.m.cls N.kN) W.heap.size u0 sen)).setTop g).pushFrame (.throwing W.heap.size) = (((W.pushCell (freshCell P1.m.cls N.kN)).setVm vm').setCell W.heap.size (npeBareV T.toThrowableT N.toNpeT (freshCell P1.m.cls N.kN) W.heap.size u0 sen)).setFrames (.throwing W.heap.size :: .java g :: below) := by
    rw [State.pushFrame, State.frames_setTop _ hfrM, State.setTop_of_frames _ hfrM, State.setFrames_setFrames]
  refine ⟨_, W.heap.size, _, fun target ht => st.trans (by rw [← hU]; exact ht), X3.forget (fun y hy => ?_), heapAt_setCell_self _ hlt, hfound, rfl⟩
  simp only [List.mem_cons, List.not_mem_nil, or_false] at hy
  have hge : s.heap.size ≤ W.heap.size := X.same.2.1
  rcases hy with rfl | rfl | rfl | rfl | rfl <;> exact hge
/-- the words of a machine's NullPointerException, but the four that speak of the heap -/
def vx_atN (n : Nat) : List Cond := (Bundle.npeArmAtoms n).filter vx_no
/-- the words of a machine's throw with a message, but the four that speak of the heap -/
def vx_atM (X : String) (names : List String) : List Cond := (Bundle.messageArmAtoms X names).filter vx_no
section
variable {p : Program} {l : Launch} {e : Env} {R : Room} {s : State} {m : MethodId} {args : Array Value} {below : List Frame} {meth : Method} {c : Code} {H : Heap} {locs : List Loc} {cells slots : Nat}
/-- a frame seen from a rebased start, seen from the first start again -/
theorem vx_back9 {T S : State} {R' : Room} {k n : Nat} (X : Stand p l e R s m args below meth c T locs cells slots) (Y : Stand p l e R' ((T.setVm s.vm).setFrames (.invoking m args :: below)) m args below meth c T [] 0 0) (Z : Stand p l e R' ((T.setVm s.vm).setFrames (.invoking m args :: below)) m args below meth c S [] k n) :
    Stand p l e R s m args below meth c S locs (cells + k) (slots + n) := by
  have hW0 : s.WarmedH ((T.setVm s.vm).setFrames (.invoking m args :: below)).vm := State.WarmedH.refl s
  refine { admits := X.admits, cas := X.cas, clock := X.clock, frames := X.frames, room := X.room, hears := X.hears, method := X.method, code := X.code, here := Z.here, tail := Z.tail, warmed := State.WarmedH.trans hW0 Z.warmed, limits := Z.limits.trans (Y.limits.symm.trans X.limits), bytes := Z.bytes.trans (Y.bytes.symm.trans X.bytes), same := ?_ }
  obtain ⟨e1, e2⟩ := Z.same
  rw [State.setFrames_setFrames] at e1
  have h2 : (T.setVm s.vm).sameButNew (S.setVm s.vm) [] k n := ⟨e1, e2⟩
  have h3 := X.same.trans h2
  rw [List.append_nil] at h3
  exact h3
/-- from the machine's note that E is thrown here with this text -/
def vx_Note (p : Program) (l : Launch) (e : Env) (R : Room) (s : State) (m : MethodId) (args : Array Value) (below : List Frame) (meth : Method) (c : Code) (H : Heap) (locs : List Loc) (cells slots : Nat) (Q : State → Prop) (g : JFrame) (E text : String) : Prop :=
  ∀ T : State, T.heap = H → Stand p l e R s m args below meth c T locs cells slots → ∃ t, Steps p.tables e below ((T.setTop g).pushFrame (.throwNew E (some text) none)) t ∧ Q t
theorem vx_vm {pc : Nat} {ls : Array Slot} {rest : List Value} {Q : State → Prop} (hexec : p.tables.exec = Jvm.exec) (hl : l.stackTraces = false) {cls text : String} {names : List String} {nb : Nat} {A : Nat → Prop}
    (hcls : Bundle.fit cls = true) (hnames : ∀ n ∈ names, Bundle.fit n = true) (hsoe : (cls == "java/lang/StackOverflowError") = false) (hoom : (cls == "java/lang/OutOfMemoryError") = false)
    (hat : ∀ w ∈ vx_atM cls names, w.before args s = true) (hgood : ∀ w ∈ vx_atM cls names, vx_ot w = true)
    (hU : vx_Zq Bundle.tN "UNASSIGNED_STACK" Bundle.steD A s s.heap) (hN : vx_Zq Bundle.tN "SUPPRESSED_SENTINEL" Bundle.listD A s s.heap) (hS : va_S A s.heap H locs) (hsize : ls.size = c.maxLocals)
    (htext : (text == notModelled) = false) (hnb : (stringBytes (stringToUtf16 text)).size ≤ nb) (hnb1 : nb ≤ 1000)
    (hRframes : names.length + 4 < R.frames) (hRlocals : (rest.map fun v => v.category).sum + 10240 ≤ R.locals) (hshort : 13 * names.length + 55 ≤ 10240) (hRcells : cells + 3 ≤ R.cells) (hRslots : slots + (nb + 10) ≤ R.slots) (hlocks : meth.locks = false)
    (k : ∀ (H1 : Heap) (q9 : Addr) (ce : Cell), H.size ≤ H1.size → (∀ q : Nat, q < H.size → H1[q]? = H[q]?) → va_S A s.heap H1 locs → H1[q9]? = some ce → ce.vm = .none → s.vm.findClass cls = some ce.cls → vx_W p l e R s m args below meth c H1 locs (cells + 3) (slots + (nb + 10)) Q (F0 m pc ls rest) q9) :
    vx_Note p l e R s m args below meth c H locs cells slots Q (F0 m pc ls rest) cls text := by
  intro T hT X
  have htr : e.platform.stackTraces = false := (show e.platform.stackTraces = l.stackTraces by rw [X.admits.platform]).trans hl
  have Y := vx_rebase X (R' := { frames := R.frames, locals := R.locals, cells := 3, slots := nb + 10 }) (Nat.le_refl _) (Nat.le_refl _) hRcells hRslots
  have hhp : ((T.setVm s.vm).setFrames (.invoking m args :: below)).heap = H := hT
  have hW0 : s.WarmedH ((T.setVm s.vm).setFrames (.invoking m args :: below)).vm := State.WarmedH.refl s
  have hat' : ∀ w ∈ vx_atM cls names, w.before args ((T.setVm s.vm).setFrames (.invoking m args :: below)) = true := fun w hw => vx_ot_at hW0 rfl (hgood w hw) (hat w hw)
  have hU' : vx_Zq Bundle.tN "UNASSIGNED_STACK" Bundle.steD A ((T.setVm s.vm).setFrames (.invoking m args :: below)) ((T.setVm s.vm).setFrames (.invoking m args :: below)).heap := by rw [hhp]; exact vx_Zq.moved hW0.alike (hU.kept hS.2.1)
  have hN' : vx_Zq Bundle.tN "SUPPRESSED_SENTINEL" Bundle.listD A ((T.setVm s.vm).setFrames (.invoking m args :: below)) ((T.setVm s.vm).setFrames (.invoking m args :: below)).heap := by rw [hhp]; exact vx_Zq.moved hW0.alike (hN.kept hS.2.1)
  obtain ⟨S, q, ce, st, Z, hce, hcl', hv⟩ := vx_vmAt Y hexec htr (cls := cls) (names := names) (text := text) hcls hnames hsoe hoom (vx_own hat' (vx_isRefq hU'.1) (vx_isRefq hN'.1) hU'.2.word hN'.2.word) (fun x hx => nomatch hx) htext
    (by rw [Launch.admits_arrayLengthLimit X.admits]; omega) (by rw [Launch.admits_maxHeapBytes X.admits]; simp only [componentBytes]; omega)
    (g := F0 m pc ls rest) rfl hsize hRframes (by show 2 * 0 + (rest.map fun v => v.category).sum + 10240 ≤ R.locals; omega) hshort (by show 0 + 3 ≤ 3; omega) (by show 0 + (_ + 4 + 6) ≤ nb + 10; omega) hlocks
  obtain ⟨f1, f2⟩ := vx_frame Z.same
  have f1' : H.size ≤ S.heap.size := by rw [← hT]; exact f1
  have f2' : ∀ q : Nat, q < H.size → S.heap[q]? = H[q]? := fun q hq => by
    rw [← hT]
    exact f2 q (by rw [← hT] at hq; exact hq) (fun z hz => nomatch hz)
  have X5 := vx_back9 X Y Z
  have X6 : Stand p l e R s m args below meth c S locs (cells + 3) (slots + (nb + 10)) := { X5 with same := X5.same.mono (by omega) (by omega) }
  obtain ⟨t, a1, b1⟩ := k S.heap q ce f1' f2' ⟨Nat.le_trans hS.1 f1', fun q h1 h2 => (f2' q (Nat.lt_of_lt_of_le h1 hS.1)).trans (hS.2.1 q h1 h2), hS.2.2⟩ hce hv hcl' S rfl X6
  exact ⟨t, st t a1, b1⟩
/-- from the machine's note that NullPointerException is thrown here -/
def vx_NoteN (p : Program) (l : Launch) (e : Env) (R : Room) (s : State) (m : MethodId) (args : Array Value) (below : List Frame) (meth : Method) (c : Code) (H : Heap) (locs : List Loc) (cells slots : Nat) (Q : State → Prop) (g : JFrame) : Prop :=
  ∀ T : State, T.heap = H → Stand p l e R s m args below meth c T locs cells slots → ∃ t, Steps p.tables e below ((T.setTop g).pushFrame (.throwNew "java/lang/NullPointerException" none none)) t ∧ Q t
theorem vx_npe {pc : Nat} {ls : Array Slot} {rest : List Value} {Q : State → Prop} (hexec : p.tables.exec = Jvm.exec) (hl : l.stackTraces = false) {nb : Nat} {A : Nat → Prop}
    (hat : ∀ w ∈ vx_atN nb, w.before args s = true) (hgood : ∀ w ∈ vx_atN nb, vx_ot w = true)
    (hU : vx_Zq Bundle.tN "UNASSIGNED_STACK" Bundle.steD A s s.heap) (hN : vx_Zq Bundle.tN "SUPPRESSED_SENTINEL" Bundle.listD A s s.heap) (hS : va_S A s.heap H locs) (hsize : ls.size = c.maxLocals)
    (hRframes : 7 < R.frames) (hRlocals : (rest.map fun v => v.category).sum + 10240 ≤ R.locals) (hRcells : cells + 1 ≤ R.cells) (hRslots : slots + nb ≤ R.slots) (hlocks : meth.locks = false)
    (k : ∀ (H1 : Heap) (q9 : Addr) (ce : Cell), H.size ≤ H1.size → (∀ q : Nat, q < H.size → H1[q]? = H[q]?) → va_S A s.heap H1 locs → H1[q9]? = some ce → ce.vm = .none → s.vm.findClass "java/lang/NullPointerException" = some ce.cls → vx_W p l e R s m args below meth c H1 locs (cells + 1) (slots + nb) Q (F0 m pc ls rest) q9) :
    vx_NoteN p l e R s m args below meth c H locs cells slots Q (F0 m pc ls rest) := by
  intro T hT X
  have htr : e.platform.stackTraces = false := (show e.platform.stackTraces = l.stackTraces by rw [X.admits.platform]).trans hl
  have Y := vx_rebase X (R' := { frames := R.frames, locals := R.locals, cells := 1, slots := nb }) (Nat.le_refl _) (Nat.le_refl _) hRcells hRslots
  have hhp : ((T.setVm s.vm).setFrames (.invoking m args :: below)).heap = H := hT
  have hW0 : s.WarmedH ((T.setVm s.vm).setFrames (.invoking m args :: below)).vm := State.WarmedH.refl s
  have hat' : ∀ w ∈ vx_atN nb, w.before args ((T.setVm s.vm).setFrames (.invoking m args :: below)) = true := fun w hw => vx_ot_at hW0 rfl (hgood w hw) (hat w hw)
  have hU' : vx_Zq Bundle.tN "UNASSIGNED_STACK" Bundle.steD A ((T.setVm s.vm).setFrames (.invoking m args :: below)) ((T.setVm s.vm).setFrames (.invoking m args :: below)).heap := by rw [hhp]; exact vx_Zq.moved hW0.alike (hU.kept hS.2.1)
  have hN' : vx_Zq Bundle.tN "SUPPRESSED_SENTINEL" Bundle.listD A ((T.setVm s.vm).setFrames (.invoking m args :: below)) ((T.setVm s.vm).setFrames (.invoking m args :: below)).heap := by rw [hhp]; exact vx_Zq.moved hW0.alike (hN.kept hS.2.1)
  obtain ⟨S, q, ce, st, Z, hce, hcl', hv⟩ := vx_npeAt Y hexec htr (n := nb) (vx_own hat' (vx_isRefq hU'.1) (vx_isRefq hN'.1) hU'.2.word hN'.2.word) (fun x hx => nomatch hx)
    (g := F0 m pc ls rest) rfl hsize hRframes (by show 2 * 0 + (rest.map fun v => v.category).sum + 10240 ≤ R.locals; omega) (by show 0 + 1 ≤ 1; omega) (by show 0 + nb ≤ nb; omega) hlocks
  obtain ⟨f1, f2⟩ := vx_frame Z.same
  have f1' : H.size ≤ S.heap.size := by rw [← hT]; exact f1
  have f2' : ∀ q : Nat, q < H.size → S.heap[q]? = H[q]? := fun q hq => by
    rw [← hT]
    exact f2 q (by rw [← hT] at hq; exact hq) (fun z hz => nomatch hz)
  have X5 := vx_back9 X Y Z
  have X6 : Stand p l e R s m args below meth c S locs (cells + 1) (slots + nb) := { X5 with same := X5.same.mono (by omega) (by omega) }
  obtain ⟨t, a1, b1⟩ := k S.heap q ce f1' f2' ⟨Nat.le_trans hS.1 f1', fun q h1 h2 => (f2' q (Nat.lt_of_lt_of_le h1 hS.1)).trans (hS.2.1 q h1 h2), hS.2.2⟩ hce hv hcl' S rfl X6
  exact ⟨t, st t a1, b1⟩
variable {Q : State → Prop} {cc : ByteArray} {pc : Nat} {ls : Array Slot} {rest : List Value}
theorem vx_idivZ (hexec : p.tables.exec = Jvm.exec) (hb : c.code = cc) {a b : Int32} (h0 : b = 0) (d : decode cc pc = .ok (.idiv, 1)) (k : vx_Note p l e R s m args below meth c H locs cells slots Q (F0 m pc ls rest) "java/lang/ArithmeticException" "/ by zero") :
    W p l e R s m args below meth c H locs cells slots Q (F0 m pc ls (.int b :: .int a :: rest)) := by
  intro T hT X
  obtain ⟨t, st, q⟩ := k T hT X
  exact ⟨t, X.idivZero hexec (g := F0 m pc ls (.int b :: .int a :: rest)) rfl (a := a) (rest := rest) (by rw [h0]) (by rw [hb]; exact d) t st, q⟩
theorem vx_iremZ (hexec : p.tables.exec = Jvm.exec) (hb : c.code = cc) {a b : Int32} (h0 : b = 0) (d : decode cc pc = .ok (.irem, 1)) (k : vx_Note p l e R s m args below meth c H locs cells slots Q (F0 m pc ls rest) "java/lang/ArithmeticException" "/ by zero") :
    W p l e R s m args below meth c H locs cells slots Q (F0 m pc ls (.int b :: .int a :: rest)) := by
  intro T hT X
  obtain ⟨t, st, q⟩ := k T hT X
  exact ⟨t, X.iremZero hexec (g := F0 m pc ls (.int b :: .int a :: rest)) rfl (a := a) (rest := rest) (by rw [h0]) (by rw [hb]; exact d) t st, q⟩
theorem vx_ldivZ (hexec : p.tables.exec = Jvm.exec) (hb : c.code = cc) {a b : Int64} (h0 : b = 0) (d : decode cc pc = .ok (.ldiv, 1)) (k : vx_Note p l e R s m args below meth c H locs cells slots Q (F0 m pc ls rest) "java/lang/ArithmeticException" "/ by zero") :
    W p l e R s m args below meth c H locs cells slots Q (F0 m pc ls (.long b :: .long a :: rest)) := by
  intro T hT X
  obtain ⟨t, st, q⟩ := k T hT X
  exact ⟨t, X.ldivZero hexec (g := F0 m pc ls (.long b :: .long a :: rest)) rfl (a := a) (rest := rest) (by rw [h0]) (by rw [hb]; exact d) t st, q⟩
theorem vx_lremZ (hexec : p.tables.exec = Jvm.exec) (hb : c.code = cc) {a b : Int64} (h0 : b = 0) (d : decode cc pc = .ok (.lrem, 1)) (k : vx_Note p l e R s m args below meth c H locs cells slots Q (F0 m pc ls rest) "java/lang/ArithmeticException" "/ by zero") :
    W p l e R s m args below meth c H locs cells slots Q (F0 m pc ls (.long b :: .long a :: rest)) := by
  intro T hT X
  obtain ⟨t, st, q⟩ := k T hT X
  exact ⟨t, X.lremZero hexec (g := F0 m pc ls (.long b :: .long a :: rest)) rfl (a := a) (rest := rest) (by rw [h0]) (by rw [hb]; exact d) t st, q⟩
theorem vx_ialdZ {D : va_G} {cl : List vw_C} {ws : va_W} {tys : List (ClassId × FieldType)} {a : Nat} (hexec : p.tables.exec = Jvm.exec) (hb : c.code = cc) (hK : va_K D cl tys s) (hP : va_P D cl ws H) (q0 t0 : Nat) {cA : ClassId} {n : Nat} {f : Nat → Int32} (ha : ws[q0]? = some (a, .inl (cA, n, .inl f))) (ht : tys[t0]? = some (cA, .int)) {i : Int32} (hout : ¬ vp_in i n) (hdg : decode cc pc = .ok (.iaload, 1))
    (k : ∀ tx : String, tx = (toString "Index " ++ toString i ++ toString " out of bounds for length " ++ toString n : String) → vx_Note p l e R s m args below meth c H locs cells slots Q (F0 m pc ls rest) "java/lang/ArrayIndexOutOfBoundsException" tx) : W p l e R s m args below meth c H locs cells slots Q (F0 m pc ls (.int i :: .ref a :: rest)) := by
  intro T hT X
  obtain ⟨t, st, q⟩ := k _ rfl T hT X
  refine ⟨t, ?_, q⟩
  have h1 := X.ialoadOut hexec (by rw [hT]; exact hP q0 _ ha) ((hK.2 t0 _ ht).1 n (fun j => .int (f j))) (j := i) (by show (i < 0 ∨ (arrV _ _ _).slots.size ≤ _); rw [arrV_size]; exact Classical.byContradiction hout) (g := F0 m pc ls (.int i :: .ref a :: rest)) rfl (rest := rest) rfl (by rw [hb]; exact hdg) t
  simp only [arrV_size] at h1
  exact h1 st
theorem vx_iastZ {D : va_G} {cl : List vw_C} {ws : va_W} {tys : List (ClassId × FieldType)} {a : Nat} (hexec : p.tables.exec = Jvm.exec) (hb : c.code = cc) (hK : va_K D cl tys s) (hP : va_P D cl ws H) (q0 t0 : Nat) {cA : ClassId} {n : Nat} {f : Nat → Int32} (ha : ws[q0]? = some (a, .inl (cA, n, .inl f))) (ht : tys[t0]? = some (cA, .int)) {i : Int32} {x : Int32} (hout : ¬ vp_in i n) (hdg : decode cc pc = .ok (.iastore, 1))
    (k : ∀ tx : String, tx = (toString "Index " ++ toString i ++ toString " out of bounds for length " ++ toString n : String) → vx_Note p l e R s m args below meth c H locs cells slots Q (F0 m pc ls rest) "java/lang/ArrayIndexOutOfBoundsException" tx) : W p l e R s m args below meth c H locs cells slots Q (F0 m pc ls (.int x :: .int i :: .ref a :: rest)) := by
  intro T hT X
  obtain ⟨t, st, q⟩ := k _ rfl T hT X
  refine ⟨t, ?_, q⟩
  have h1 := X.iastoreOut hexec (by rw [hT]; exact hP q0 _ ha) ((hK.2 t0 _ ht).1 n (fun j => .int (f j))) (j := i) (by show (i < 0 ∨ (arrV _ _ _).slots.size ≤ _); rw [arrV_size]; exact Classical.byContradiction hout) (g := F0 m pc ls (.int x :: .int i :: .ref a :: rest)) rfl (rest := rest) rfl (by rw [hb]; exact hdg) t
  simp only [arrV_size] at h1
  exact h1 st
theorem vx_baldZ {D : va_G} {cl : List vw_C} {ws : va_W} {tys : List (ClassId × FieldType)} {a : Nat} (hexec : p.tables.exec = Jvm.exec) (hb : c.code = cc) (hK : va_K D cl tys s) (hP : va_P D cl ws H) (q0 t0 : Nat) {cA : ClassId} {n : Nat} {f : Nat → Int32} (ha : ws[q0]? = some (a, .inl (cA, n, .inl f))) (ht : tys[t0]? = some (cA, .byte)) {i : Int32} (hout : ¬ vp_in i n) (hdg : decode cc pc = .ok (.baload, 1))
    (k : ∀ tx : String, tx = (toString "Index " ++ toString i ++ toString " out of bounds for length " ++ toString n : String) → vx_Note p l e R s m args below meth c H locs cells slots Q (F0 m pc ls rest) "java/lang/ArrayIndexOutOfBoundsException" tx) : W p l e R s m args below meth c H locs cells slots Q (F0 m pc ls (.int i :: .ref a :: rest)) := by
  intro T hT X
  obtain ⟨t, st, q⟩ := k _ rfl T hT X
  refine ⟨t, ?_, q⟩
  have h1 := X.baloadOut hexec (by rw [hT]; exact hP q0 _ ha) ((hK.2 t0 _ ht).1 n (fun j => .int (f j))) (j := i) (by show (i < 0 ∨ (arrV _ _ _).slots.size ≤ _); rw [arrV_size]; exact Classical.byContradiction hout) (g := F0 m pc ls (.int i :: .ref a :: rest)) rfl (rest := rest) rfl (by rw [hb]; exact hdg) t
  simp only [arrV_size] at h1
  exact h1 st
theorem vx_bastZ {D : va_G} {cl : List vw_C} {ws : va_W} {tys : List (ClassId × FieldType)} {a : Nat} (hexec : p.tables.exec = Jvm.exec) (hb : c.code = cc) (hK : va_K D cl tys s) (hP : va_P D cl ws H) (q0 t0 : Nat) {cA : ClassId} {n : Nat} {f : Nat → Int32} (ha : ws[q0]? = some (a, .inl (cA, n, .inl f))) (ht : tys[t0]? = some (cA, .byte)) {i : Int32} {x : Int32} (hout : ¬ vp_in i n) (hdg : decode cc pc = .ok (.bastore, 1))
    (k : ∀ tx : String, tx = (toString "Index " ++ toString i ++ toString " out of bounds for length " ++ toString n : String) → vx_Note p l e R s m args below meth c H locs cells slots Q (F0 m pc ls rest) "java/lang/ArrayIndexOutOfBoundsException" tx) : W p l e R s m args below meth c H locs cells slots Q (F0 m pc ls (.int x :: .int i :: .ref a :: rest)) := by
  intro T hT X
  obtain ⟨t, st, q⟩ := k _ rfl T hT X
  refine ⟨t, ?_, q⟩
  have h1 := X.bastoreOut hexec (by rw [hT]; exact hP q0 _ ha) ((hK.2 t0 _ ht).1 n (fun j => .int (f j))) (j := i) (by show (i < 0 ∨ (arrV _ _ _).slots.size ≤ _); rw [arrV_size]; exact Classical.byContradiction hout) (g := F0 m pc ls (.int x :: .int i :: .ref a :: rest)) rfl (rest := rest) rfl (by rw [hb]; exact hdg) t
  simp only [arrV_size] at h1
  exact h1 st
theorem vx_zaldZ {D : va_G} {cl : List vw_C} {ws : va_W} {tys : List (ClassId × FieldType)} {a : Nat} (hexec : p.tables.exec = Jvm.exec) (hb : c.code = cc) (hK : va_K D cl tys s) (hP : va_P D cl ws H) (q0 t0 : Nat) {cA : ClassId} {n : Nat} {f : Nat → Int32} (ha : ws[q0]? = some (a, .inl (cA, n, .inl f))) (ht : tys[t0]? = some (cA, .boolean)) {i : Int32} (hout : ¬ vp_in i n) (hdg : decode cc pc = .ok (.baload, 1))
    (k : ∀ tx : String, tx = (toString "Index " ++ toString i ++ toString " out of bounds for length " ++ toString n : String) → vx_Note p l e R s m args below meth c H locs cells slots Q (F0 m pc ls rest) "java/lang/ArrayIndexOutOfBoundsException" tx) : W p l e R s m args below meth c H locs cells slots Q (F0 m pc ls (.int i :: .ref a :: rest)) := by
  intro T hT X
  obtain ⟨t, st, q⟩ := k _ rfl T hT X
  refine ⟨t, ?_, q⟩
  have h1 := X.baloadOut hexec (by rw [hT]; exact hP q0 _ ha) ((hK.2 t0 _ ht).1 n (fun j => .int (f j))) (j := i) (by show (i < 0 ∨ (arrV _ _ _).slots.size ≤ _); rw [arrV_size]; exact Classical.byContradiction hout) (g := F0 m pc ls (.int i :: .ref a :: rest)) rfl (rest := rest) rfl (by rw [hb]; exact hdg) t
  simp only [arrV_size] at h1
  exact h1 st
theorem vx_zastZ {D : va_G} {cl : List vw_C} {ws : va_W} {tys : List (ClassId × FieldType)} {a : Nat} (hexec : p.tables.exec = Jvm.exec) (hb : c.code = cc) (hK : va_K D cl tys s) (hP : va_P D cl ws H) (q0 t0 : Nat) {cA : ClassId} {n : Nat} {f : Nat → Int32} (ha : ws[q0]? = some (a, .inl (cA, n, .inl f))) (ht : tys[t0]? = some (cA, .boolean)) {i : Int32} {x : Int32} (hout : ¬ vp_in i n) (hdg : decode cc pc = .ok (.bastore, 1))
    (k : ∀ tx : String, tx = (toString "Index " ++ toString i ++ toString " out of bounds for length " ++ toString n : String) → vx_Note p l e R s m args below meth c H locs cells slots Q (F0 m pc ls rest) "java/lang/ArrayIndexOutOfBoundsException" tx) : W p l e R s m args below meth c H locs cells slots Q (F0 m pc ls (.int x :: .int i :: .ref a :: rest)) := by
  intro T hT X
  obtain ⟨t, st, q⟩ := k _ rfl T hT X
  refine ⟨t, ?_, q⟩
  have h1 := X.bastoreOut hexec (by rw [hT]; exact hP q0 _ ha) ((hK.2 t0 _ ht).1 n (fun j => .int (f j))) (j := i) (by show (i < 0 ∨ (arrV _ _ _).slots.size ≤ _); rw [arrV_size]; exact Classical.byContradiction hout) (g := F0 m pc ls (.int x :: .int i :: .ref a :: rest)) rfl (rest := rest) rfl (by rw [hb]; exact hdg) t
  simp only [arrV_size] at h1
  exact h1 st
theorem vx_caldZ {D : va_G} {cl : List vw_C} {ws : va_W} {tys : List (ClassId × FieldType)} {a : Nat} (hexec : p.tables.exec = Jvm.exec) (hb : c.code = cc) (hK : va_K D cl tys s) (hP : va_P D cl ws H) (q0 t0 : Nat) {cA : ClassId} {n : Nat} {f : Nat → Int32} (ha : ws[q0]? = some (a, .inl (cA, n, .inl f))) (ht : tys[t0]? = some (cA, .char)) {i : Int32} (hout : ¬ vp_in i n) (hdg : decode cc pc = .ok (.caload, 1))
    (k : ∀ tx : String, tx = (toString "Index " ++ toString i ++ toString " out of bounds for length " ++ toString n : String) → vx_Note p l e R s m args below meth c H locs cells slots Q (F0 m pc ls rest) "java/lang/ArrayIndexOutOfBoundsException" tx) : W p l e R s m args below meth c H locs cells slots Q (F0 m pc ls (.int i :: .ref a :: rest)) := by
  intro T hT X
  obtain ⟨t, st, q⟩ := k _ rfl T hT X
  refine ⟨t, ?_, q⟩
  have h1 := X.caloadOut hexec (by rw [hT]; exact hP q0 _ ha) ((hK.2 t0 _ ht).1 n (fun j => .int (f j))) (j := i) (by show (i < 0 ∨ (arrV _ _ _).slots.size ≤ _); rw [arrV_size]; exact Classical.byContradiction hout) (g := F0 m pc ls (.int i :: .ref a :: rest)) rfl (rest := rest) rfl (by rw [hb]; exact hdg) t
  simp only [arrV_size] at h1
  exact h1 st
theorem vx_castZ {D : va_G} {cl : List vw_C} {ws : va_W} {tys : List (ClassId × FieldType)} {a : Nat} (hexec : p.tables.exec = Jvm.exec) (hb : c.code = cc) (hK : va_K D cl tys s) (hP : va_P D cl ws H) (q0 t0 : Nat) {cA : ClassId} {n : Nat} {f : Nat → Int32} (ha : ws[q0]? = some (a, .inl (cA, n, .inl f))) (ht : tys[t0]? = some (cA, .char)) {i : Int32} {x : Int32} (hout : ¬ vp_in i n) (hdg : decode cc pc = .ok (.castore, 1))
    (k : ∀ tx : String, tx = (toString "Index " ++ toString i ++ toString " out of bounds for length " ++ toString n : String) → vx_Note p l e R s m args below meth c H locs cells slots Q (F0 m pc ls rest) "java/lang/ArrayIndexOutOfBoundsException" tx) : W p l e R s m args below meth c H locs cells slots Q (F0 m pc ls (.int x :: .int i :: .ref a :: rest)) := by
  intro T hT X
  obtain ⟨t, st, q⟩ := k _ rfl T hT X
  refine ⟨t, ?_, q⟩
  have h1 := X.castoreOut hexec (by rw [hT]; exact hP q0 _ ha) ((hK.2 t0 _ ht).1 n (fun j => .int (f j))) (j := i) (by show (i < 0 ∨ (arrV _ _ _).slots.size ≤ _); rw [arrV_size]; exact Classical.byContradiction hout) (g := F0 m pc ls (.int x :: .int i :: .ref a :: rest)) rfl (rest := rest) rfl (by rw [hb]; exact hdg) t
  simp only [arrV_size] at h1
  exact h1 st
theorem vx_saldZ {D : va_G} {cl : List vw_C} {ws : va_W} {tys : List (ClassId × FieldType)} {a : Nat} (hexec : p.tables.exec = Jvm.exec) (hb : c.code = cc) (hK : va_K D cl tys s) (hP : va_P D cl ws H) (q0 t0 : Nat) {cA : ClassId} {n : Nat} {f : Nat → Int32} (ha : ws[q0]? = some (a, .inl (cA, n, .inl f))) (ht : tys[t0]? = some (cA, .short)) {i : Int32} (hout : ¬ vp_in i n) (hdg : decode cc pc = .ok (.saload, 1))
    (k : ∀ tx : String, tx = (toString "Index " ++ toString i ++ toString " out of bounds for length " ++ toString n : String) → vx_Note p l e R s m args below meth c H locs cells slots Q (F0 m pc ls rest) "java/lang/ArrayIndexOutOfBoundsException" tx) : W p l e R s m args below meth c H locs cells slots Q (F0 m pc ls (.int i :: .ref a :: rest)) := by
  intro T hT X
  obtain ⟨t, st, q⟩ := k _ rfl T hT X
  refine ⟨t, ?_, q⟩
  have h1 := X.saloadOut hexec (by rw [hT]; exact hP q0 _ ha) ((hK.2 t0 _ ht).1 n (fun j => .int (f j))) (j := i) (by show (i < 0 ∨ (arrV _ _ _).slots.size ≤ _); rw [arrV_size]; exact Classical.byContradiction hout) (g := F0 m pc ls (.int i :: .ref a :: rest)) rfl (rest := rest) rfl (by rw [hb]; exact hdg) t
  simp only [arrV_size] at h1
  exact h1 st
theorem vx_sastZ {D : va_G} {cl : List vw_C} {ws : va_W} {tys : List (ClassId × FieldType)} {a : Nat} (hexec : p.tables.exec = Jvm.exec) (hb : c.code = cc) (hK : va_K D cl tys s) (hP : va_P D cl ws H) (q0 t0 : Nat) {cA : ClassId} {n : Nat} {f : Nat → Int32} (ha : ws[q0]? = some (a, .inl (cA, n, .inl f))) (ht : tys[t0]? = some (cA, .short)) {i : Int32} {x : Int32} (hout : ¬ vp_in i n) (hdg : decode cc pc = .ok (.sastore, 1))
    (k : ∀ tx : String, tx = (toString "Index " ++ toString i ++ toString " out of bounds for length " ++ toString n : String) → vx_Note p l e R s m args below meth c H locs cells slots Q (F0 m pc ls rest) "java/lang/ArrayIndexOutOfBoundsException" tx) : W p l e R s m args below meth c H locs cells slots Q (F0 m pc ls (.int x :: .int i :: .ref a :: rest)) := by
  intro T hT X
  obtain ⟨t, st, q⟩ := k _ rfl T hT X
  refine ⟨t, ?_, q⟩
  have h1 := X.sastoreOut hexec (by rw [hT]; exact hP q0 _ ha) ((hK.2 t0 _ ht).1 n (fun j => .int (f j))) (j := i) (by show (i < 0 ∨ (arrV _ _ _).slots.size ≤ _); rw [arrV_size]; exact Classical.byContradiction hout) (g := F0 m pc ls (.int x :: .int i :: .ref a :: rest)) rfl (rest := rest) rfl (by rw [hb]; exact hdg) t
  simp only [arrV_size] at h1
  exact h1 st
theorem vx_laldZ {D : va_G} {cl : List vw_C} {ws : va_W} {tys : List (ClassId × FieldType)} {a : Nat} (hexec : p.tables.exec = Jvm.exec) (hb : c.code = cc) (hK : va_K D cl tys s) (hP : va_P D cl ws H) (q0 t0 : Nat) {cA : ClassId} {n : Nat} {f : Nat → Int64} (ha : ws[q0]? = some (a, .inl (cA, n, .inr (.inl f)))) (ht : tys[t0]? = some (cA, .long)) {i : Int32} (hout : ¬ vp_in i n) (hdg : decode cc pc = .ok (.laload, 1))
    (k : ∀ tx : String, tx = (toString "Index " ++ toString i ++ toString " out of bounds for length " ++ toString n : String) → vx_Note p l e R s m args below meth c H locs cells slots Q (F0 m pc ls rest) "java/lang/ArrayIndexOutOfBoundsException" tx) : W p l e R s m args below meth c H locs cells slots Q (F0 m pc ls (.int i :: .ref a :: rest)) := by
  intro T hT X
  obtain ⟨t, st, q⟩ := k _ rfl T hT X
  refine ⟨t, ?_, q⟩
  have h1 := X.laloadOut hexec (by rw [hT]; exact hP q0 _ ha) ((hK.2 t0 _ ht).1 n (fun j => .long (f j))) (j := i) (by show (i < 0 ∨ (arrV _ _ _).slots.size ≤ _); rw [arrV_size]; exact Classical.byContradiction hout) (g := F0 m pc ls (.int i :: .ref a :: rest)) rfl (rest := rest) rfl (by rw [hb]; exact hdg) t
  simp only [arrV_size] at h1
  exact h1 st
theorem vx_lastZ {D : va_G} {cl : List vw_C} {ws : va_W} {tys : List (ClassId × FieldType)} {a : Nat} (hexec : p.tables.exec = Jvm.exec) (hb : c.code = cc) (hK : va_K D cl tys s) (hP : va_P D cl ws H) (q0 t0 : Nat) {cA : ClassId} {n : Nat} {f : Nat → Int64} (ha : ws[q0]? = some (a, .inl (cA, n, .inr (.inl f)))) (ht : tys[t0]? = some (cA, .long)) {i : Int32} {x : Int64} (hout : ¬ vp_in i n) (hdg : decode cc pc = .ok (.lastore, 1))
    (k : ∀ tx : String, tx = (toString "Index " ++ toString i ++ toString " out of bounds for length " ++ toString n : String) → vx_Note p l e R s m args below meth c H locs cells slots Q (F0 m pc ls rest) "java/lang/ArrayIndexOutOfBoundsException" tx) : W p l e R s m args below meth c H locs cells slots Q (F0 m pc ls (.long x :: .int i :: .ref a :: rest)) := by
  intro T hT X
  obtain ⟨t, st, q⟩ := k _ rfl T hT X
  refine ⟨t, ?_, q⟩
  have h1 := X.lastoreOut hexec (by rw [hT]; exact hP q0 _ ha) ((hK.2 t0 _ ht).1 n (fun j => .long (f j))) (j := i) (by show (i < 0 ∨ (arrV _ _ _).slots.size ≤ _); rw [arrV_size]; exact Classical.byContradiction hout) (g := F0 m pc ls (.long x :: .int i :: .ref a :: rest)) rfl (rest := rest) rfl (by rw [hb]; exact hdg) t
  simp only [arrV_size] at h1
  exact h1 st
theorem vx_faldZ {D : va_G} {cl : List vw_C} {ws : va_W} {tys : List (ClassId × FieldType)} {a : Nat} (hexec : p.tables.exec = Jvm.exec) (hb : c.code = cc) (hK : va_K D cl tys s) (hP : va_P D cl ws H) (q0 t0 : Nat) {cA : ClassId} {n : Nat} {f : Nat → UInt32} (ha : ws[q0]? = some (a, .inl (cA, n, .inr (.inr (.inl f))))) (ht : tys[t0]? = some (cA, .float)) {i : Int32} (hout : ¬ vp_in i n) (hdg : decode cc pc = .ok (.faload, 1))
    (k : ∀ tx : String, tx = (toString "Index " ++ toString i ++ toString " out of bounds for length " ++ toString n : String) → vx_Note p l e R s m args below meth c H locs cells slots Q (F0 m pc ls rest) "java/lang/ArrayIndexOutOfBoundsException" tx) : W p l e R s m args below meth c H locs cells slots Q (F0 m pc ls (.int i :: .ref a :: rest)) := by
  intro T hT X
  obtain ⟨t, st, q⟩ := k _ rfl T hT X
  refine ⟨t, ?_, q⟩
  have h1 := X.faloadOut hexec (by rw [hT]; exact hP q0 _ ha) ((hK.2 t0 _ ht).1 n (fun j => .float (f j))) (j := i) (by show (i < 0 ∨ (arrV _ _ _).slots.size ≤ _); rw [arrV_size]; exact Classical.byContradiction hout) (g := F0 m pc ls (.int i :: .ref a :: rest)) rfl (rest := rest) rfl (by rw [hb]; exact hdg) t
  simp only [arrV_size] at h1
  exact h1 st
theorem vx_fastZ {D : va_G} {cl : List vw_C} {ws : va_W} {tys : List (ClassId × FieldType)} {a : Nat} (hexec : p.tables.exec = Jvm.exec) (hb : c.code = cc) (hK : va_K D cl tys s) (hP : va_P D cl ws H) (q0 t0 : Nat) {cA : ClassId} {n : Nat} {f : Nat → UInt32} (ha : ws[q0]? = some (a, .inl (cA, n, .inr (.inr (.inl f))))) (ht : tys[t0]? = some (cA, .float)) {i : Int32} {x : UInt32} (hout : ¬ vp_in i n) (hdg : decode cc pc = .ok (.fastore, 1))
    (k : ∀ tx : String, tx = (toString "Index " ++ toString i ++ toString " out of bounds for length " ++ toString n : String) → vx_Note p l e R s m args below meth c H locs cells slots Q (F0 m pc ls rest) "java/lang/ArrayIndexOutOfBoundsException" tx) : W p l e R s m args below meth c H locs cells slots Q (F0 m pc ls (.float x :: .int i :: .ref a :: rest)) := by
  intro T hT X
  obtain ⟨t, st, q⟩ := k _ rfl T hT X
  refine ⟨t, ?_, q⟩
  have h1 := X.fastoreOut hexec (by rw [hT]; exact hP q0 _ ha) ((hK.2 t0 _ ht).1 n (fun j => .float (f j))) (j := i) (by show (i < 0 ∨ (arrV _ _ _).slots.size ≤ _); rw [arrV_size]; exact Classical.byContradiction hout) (g := F0 m pc ls (.float x :: .int i :: .ref a :: rest)) rfl (rest := rest) rfl (by rw [hb]; exact hdg) t
  simp only [arrV_size] at h1
  exact h1 st
theorem vx_daldZ {D : va_G} {cl : List vw_C} {ws : va_W} {tys : List (ClassId × FieldType)} {a : Nat} (hexec : p.tables.exec = Jvm.exec) (hb : c.code = cc) (hK : va_K D cl tys s) (hP : va_P D cl ws H) (q0 t0 : Nat) {cA : ClassId} {n : Nat} {f : Nat → UInt64} (ha : ws[q0]? = some (a, .inl (cA, n, .inr (.inr (.inr (.inl f)))))) (ht : tys[t0]? = some (cA, .double)) {i : Int32} (hout : ¬ vp_in i n) (hdg : decode cc pc = .ok (.daload, 1))
    (k : ∀ tx : String, tx = (toString "Index " ++ toString i ++ toString " out of bounds for length " ++ toString n : String) → vx_Note p l e R s m args below meth c H locs cells slots Q (F0 m pc ls rest) "java/lang/ArrayIndexOutOfBoundsException" tx) : W p l e R s m args below meth c H locs cells slots Q (F0 m pc ls (.int i :: .ref a :: rest)) := by
  intro T hT X
  obtain ⟨t, st, q⟩ := k _ rfl T hT X
  refine ⟨t, ?_, q⟩
  have h1 := X.daloadOut hexec (by rw [hT]; exact hP q0 _ ha) ((hK.2 t0 _ ht).1 n (fun j => .double (f j))) (j := i) (by show (i < 0 ∨ (arrV _ _ _).slots.size ≤ _); rw [arrV_size]; exact Classical.byContradiction hout) (g := F0 m pc ls (.int i :: .ref a :: rest)) rfl (rest := rest) rfl (by rw [hb]; exact hdg) t
  simp only [arrV_size] at h1
  exact h1 st
theorem vx_dastZ {D : va_G} {cl : List vw_C} {ws : va_W} {tys : List (ClassId × FieldType)} {a : Nat} (hexec : p.tables.exec = Jvm.exec) (hb : c.code = cc) (hK : va_K D cl tys s) (hP : va_P D cl ws H) (q0 t0 : Nat) {cA : ClassId} {n : Nat} {f : Nat → UInt64} (ha : ws[q0]? = some (a, .inl (cA, n, .inr (.inr (.inr (.inl f)))))) (ht : tys[t0]? = some (cA, .double)) {i : Int32} {x : UInt64} (hout : ¬ vp_in i n) (hdg : decode cc pc = .ok (.dastore, 1))
    (k : ∀ tx : String, tx = (toString "Index " ++ toString i ++ toString " out of bounds for length " ++ toString n : String) → vx_Note p l e R s m args below meth c H locs cells slots Q (F0 m pc ls rest) "java/lang/ArrayIndexOutOfBoundsException" tx) : W p l e R s m args below meth c H locs cells slots Q (F0 m pc ls (.double x :: .int i :: .ref a :: rest)) := by
  intro T hT X
  obtain ⟨t, st, q⟩ := k _ rfl T hT X
  refine ⟨t, ?_, q⟩
  have h1 := X.dastoreOut hexec (by rw [hT]; exact hP q0 _ ha) ((hK.2 t0 _ ht).1 n (fun j => .double (f j))) (j := i) (by show (i < 0 ∨ (arrV _ _ _).slots.size ≤ _); rw [arrV_size]; exact Classical.byContradiction hout) (g := F0 m pc ls (.double x :: .int i :: .ref a :: rest)) rfl (rest := rest) rfl (by rw [hb]; exact hdg) t
  simp only [arrV_size] at h1
  exact h1 st
theorem vx_arraylengthN (hexec : p.tables.exec = Jvm.exec) (hb : c.code = cc) (hdg : decode cc pc = .ok (.arraylength, 1)) (k : vx_NoteN p l e R s m args below meth c H locs cells slots Q (F0 m pc ls rest)) : W p l e R s m args below meth c H locs cells slots Q (F0 m pc ls (.null :: rest)) := by
  intro T hT X
  obtain ⟨t, st, q⟩ := k T hT X
  exact ⟨t, X.arraylengthNull hexec (g := F0 m pc ls (.null :: rest)) rfl (rest := rest) rfl (by rw [hb]; exact hdg) t st, q⟩
theorem vx_ialoadN (hexec : p.tables.exec = Jvm.exec) (hb : c.code = cc) {i : Int32} (hdg : decode cc pc = .ok (.iaload, 1)) (k : vx_NoteN p l e R s m args below meth c H locs cells slots Q (F0 m pc ls rest)) : W p l e R s m args below meth c H locs cells slots Q (F0 m pc ls (.int i :: .null :: rest)) := by
  intro T hT X
  obtain ⟨t, st, q⟩ := k T hT X
  exact ⟨t, X.ialoadNull hexec (g := F0 m pc ls (.int i :: .null :: rest)) rfl (rest := rest) rfl (by rw [hb]; exact hdg) t st, q⟩
theorem vx_laloadN (hexec : p.tables.exec = Jvm.exec) (hb : c.code = cc) {i : Int32} (hdg : decode cc pc = .ok (.laload, 1)) (k : vx_NoteN p l e R s m args below meth c H locs cells slots Q (F0 m pc ls rest)) : W p l e R s m args below meth c H locs cells slots Q (F0 m pc ls (.int i :: .null :: rest)) := by
  intro T hT X
  obtain ⟨t, st, q⟩ := k T hT X
  exact ⟨t, X.laloadNull hexec (g := F0 m pc ls (.int i :: .null :: rest)) rfl (rest := rest) rfl (by rw [hb]; exact hdg) t st, q⟩
theorem vx_faloadN (hexec : p.tables.exec = Jvm.exec) (hb : c.code = cc) {i : Int32} (hdg : decode cc pc = .ok (.faload, 1)) (k : vx_NoteN p l e R s m args below meth c H locs cells slots Q (F0 m pc ls rest)) : W p l e R s m args below meth c H locs cells slots Q (F0 m pc ls (.int i :: .null :: rest)) := by
  intro T hT X
  obtain ⟨t, st, q⟩ := k T hT X
  exact ⟨t, X.faloadNull hexec (g := F0 m pc ls (.int i :: .null :: rest)) rfl (rest := rest) rfl (by rw [hb]; exact hdg) t st, q⟩
theorem vx_daloadN (hexec : p.tables.exec = Jvm.exec) (hb : c.code = cc) {i : Int32} (hdg : decode cc pc = .ok (.daload, 1)) (k : vx_NoteN p l e R s m args below meth c H locs cells slots Q (F0 m pc ls rest)) : W p l e R s m args below meth c H locs cells slots Q (F0 m pc ls (.int i :: .null :: rest)) := by
  intro T hT X
  obtain ⟨t, st, q⟩ := k T hT X
  exact ⟨t, X.daloadNull hexec (g := F0 m pc ls (.int i :: .null :: rest)) rfl (rest := rest) rfl (by rw [hb]; exact hdg) t st, q⟩
theorem vx_aaloadN (hexec : p.tables.exec = Jvm.exec) (hb : c.code = cc) {i : Int32} (hdg : decode cc pc = .ok (.aaload, 1)) (k : vx_NoteN p l e R s m args below meth c H locs cells slots Q (F0 m pc ls rest)) : W p l e R s m args below meth c H locs cells slots Q (F0 m pc ls (.int i :: .null :: rest)) := by
  intro T hT X
  obtain ⟨t, st, q⟩ := k T hT X
  exact ⟨t, X.aaloadNull hexec (g := F0 m pc ls (.int i :: .null :: rest)) rfl (rest := rest) rfl (by rw [hb]; exact hdg) t st, q⟩
theorem vx_baloadN (hexec : p.tables.exec = Jvm.exec) (hb : c.code = cc) {i : Int32} (hdg : decode cc pc = .ok (.baload, 1)) (k : vx_NoteN p l e R s m args below meth c H locs cells slots Q (F0 m pc ls rest)) : W p l e R s m args below meth c H locs cells slots Q (F0 m pc ls (.int i :: .null :: rest)) := by
  intro T hT X
  obtain ⟨t, st, q⟩ := k T hT X
  exact ⟨t, X.baloadNull hexec (g := F0 m pc ls (.int i :: .null :: rest)) rfl (rest := rest) rfl (by rw [hb]; exact hdg) t st, q⟩
theorem vx_caloadN (hexec : p.tables.exec = Jvm.exec) (hb : c.code = cc) {i : Int32} (hdg : decode cc pc = .ok (.caload, 1)) (k : vx_NoteN p l e R s m args below meth c H locs cells slots Q (F0 m pc ls rest)) : W p l e R s m args below meth c H locs cells slots Q (F0 m pc ls (.int i :: .null :: rest)) := by
  intro T hT X
  obtain ⟨t, st, q⟩ := k T hT X
  exact ⟨t, X.caloadNull hexec (g := F0 m pc ls (.int i :: .null :: rest)) rfl (rest := rest) rfl (by rw [hb]; exact hdg) t st, q⟩
theorem vx_saloadN (hexec : p.tables.exec = Jvm.exec) (hb : c.code = cc) {i : Int32} (hdg : decode cc pc = .ok (.saload, 1)) (k : vx_NoteN p l e R s m args below meth c H locs cells slots Q (F0 m pc ls rest)) : W p l e R s m args below meth c H locs cells slots Q (F0 m pc ls (.int i :: .null :: rest)) := by
  intro T hT X
  obtain ⟨t, st, q⟩ := k T hT X
  exact ⟨t, X.saloadNull hexec (g := F0 m pc ls (.int i :: .null :: rest)) rfl (rest := rest) rfl (by rw [hb]; exact hdg) t st, q⟩
theorem vx_iastoreN (hexec : p.tables.exec = Jvm.exec) (hb : c.code = cc) {x : Int32} {i : Int32} (hdg : decode cc pc = .ok (.iastore, 1)) (k : vx_NoteN p l e R s m args below meth c H locs cells slots Q (F0 m pc ls rest)) : W p l e R s m args below meth c H locs cells slots Q (F0 m pc ls (.int x :: .int i :: .null :: rest)) := by
  intro T hT X
  obtain ⟨t, st, q⟩ := k T hT X
  exact ⟨t, X.iastoreNull hexec (g := F0 m pc ls (.int x :: .int i :: .null :: rest)) rfl (rest := rest) rfl (by rw [hb]; exact hdg) t st, q⟩
theorem vx_lastoreN (hexec : p.tables.exec = Jvm.exec) (hb : c.code = cc) {x : Int64} {i : Int32} (hdg : decode cc pc = .ok (.lastore, 1)) (k : vx_NoteN p l e R s m args below meth c H locs cells slots Q (F0 m pc ls rest)) : W p l e R s m args below meth c H locs cells slots Q (F0 m pc ls (.long x :: .int i :: .null :: rest)) := by
  intro T hT X
  obtain ⟨t, st, q⟩ := k T hT X
  exact ⟨t, X.lastoreNull hexec (g := F0 m pc ls (.long x :: .int i :: .null :: rest)) rfl (rest := rest) rfl (by rw [hb]; exact hdg) t st, q⟩
theorem vx_fastoreN (hexec : p.tables.exec = Jvm.exec) (hb : c.code = cc) {x : UInt32} {i : Int32} (hdg : decode cc pc = .ok (.fastore, 1)) (k : vx_NoteN p l e R s m args below meth c H locs cells slots Q (F0 m pc ls rest)) : W p l e R s m args below meth c H locs cells slots Q (F0 m pc ls (.float x :: .int i :: .null :: rest)) := by
  intro T hT X
  obtain ⟨t, st, q⟩ := k T hT X
  exact ⟨t, X.fastoreNull hexec (g := F0 m pc ls (.float x :: .int i :: .null :: rest)) rfl (rest := rest) rfl (by rw [hb]; exact hdg) t st, q⟩
theorem vx_dastoreN (hexec : p.tables.exec = Jvm.exec) (hb : c.code = cc) {x : UInt64} {i : Int32} (hdg : decode cc pc = .ok (.dastore, 1)) (k : vx_NoteN p l e R s m args below meth c H locs cells slots Q (F0 m pc ls rest)) : W p l e R s m args below meth c H locs cells slots Q (F0 m pc ls (.double x :: .int i :: .null :: rest)) := by
  intro T hT X
  obtain ⟨t, st, q⟩ := k T hT X
  exact ⟨t, X.dastoreNull hexec (g := F0 m pc ls (.double x :: .int i :: .null :: rest)) rfl (rest := rest) rfl (by rw [hb]; exact hdg) t st, q⟩
theorem vx_bastoreN (hexec : p.tables.exec = Jvm.exec) (hb : c.code = cc) {x : Int32} {i : Int32} (hdg : decode cc pc = .ok (.bastore, 1)) (k : vx_NoteN p l e R s m args below meth c H locs cells slots Q (F0 m pc ls rest)) : W p l e R s m args below meth c H locs cells slots Q (F0 m pc ls (.int x :: .int i :: .null :: rest)) := by
  intro T hT X
  obtain ⟨t, st, q⟩ := k T hT X
  exact ⟨t, X.bastoreNull hexec (g := F0 m pc ls (.int x :: .int i :: .null :: rest)) rfl (rest := rest) rfl (by rw [hb]; exact hdg) t st, q⟩
theorem vx_castoreN (hexec : p.tables.exec = Jvm.exec) (hb : c.code = cc) {x : Int32} {i : Int32} (hdg : decode cc pc = .ok (.castore, 1)) (k : vx_NoteN p l e R s m args below meth c H locs cells slots Q (F0 m pc ls rest)) : W p l e R s m args below meth c H locs cells slots Q (F0 m pc ls (.int x :: .int i :: .null :: rest)) := by
  intro T hT X
  obtain ⟨t, st, q⟩ := k T hT X
  exact ⟨t, X.castoreNull hexec (g := F0 m pc ls (.int x :: .int i :: .null :: rest)) rfl (rest := rest) rfl (by rw [hb]; exact hdg) t st, q⟩
theorem vx_sastoreN (hexec : p.tables.exec = Jvm.exec) (hb : c.code = cc) {x : Int32} {i : Int32} (hdg : decode cc pc = .ok (.sastore, 1)) (k : vx_NoteN p l e R s m args below meth c H locs cells slots Q (F0 m pc ls rest)) : W p l e R s m args below meth c H locs cells slots Q (F0 m pc ls (.int x :: .int i :: .null :: rest)) := by
  intro T hT X
  obtain ⟨t, st, q⟩ := k T hT X
  exact ⟨t, X.sastoreNull hexec (g := F0 m pc ls (.int x :: .int i :: .null :: rest)) rfl (rest := rest) rfl (by rw [hb]; exact hdg) t st, q⟩
theorem vx_invokeN {own C : String} {index maxL : Nat} {y : MethodName} {bytes : ByteArray} {ret : Option FieldType} (hexec : p.tables.exec = Jvm.exec) (hb : c.code = cc) (hown : s.vm.findClass own = some m.cls) (hlink : (Cond.methodLink own index y).before args s = true) (hinst : (Cond.instanceMethod y).before args s = true) (hcode : (Cond.code y bytes maxL ret).before args s = true) (hsel : (Cond.selects C y y).before args s = true)
    (hx : y.cls ≠ "java/lang/invoke/MethodHandle" ∧ y.cls ≠ "java/lang/invoke/VarHandle") {As : List Value} (hlen : (parseMethodDescriptor y.desc).map (fun d => d.parameters.length) = some As.length) (hdg : decode cc pc = .ok (.invokevirtual index, 3))
    (k : vx_NoteN p l e R s m args below meth c H locs cells slots Q (F0 m pc ls rest)) {st0 : List Value} (hst : st0 = As.reverse ++ .null :: rest) : W p l e R s m args below meth c H locs cells slots Q (F0 m pc ls st0) := by
  intro T hT X
  obtain ⟨r0, r, hn, hrm, hstR, hsigR⟩ := va_Decl.of hinst hcode
  obtain ⟨c2, r2, m2, q1, q2, q3, q4, kP, hkP, hkPi⟩ := Cond.selects_spec hsel
  cases hn.symm.trans q3
  have hl9 : As.length = r.sig.parameters.length := by
    rw [hsigR] at hlen
    exact (Option.some.inj hlen).symm
  obtain ⟨vm', X1, st1⟩ := X.invokevirtualNull hexec hown hlink hn hrm hstR hkP hkPi hx (g := F0 m pc ls st0) rfl (argsL := As) (rest := rest) hl9 hst (by rw [hb]; exact hdg)
  obtain ⟨t, st, q⟩ := k (T.setVm vm') hT X1
  exact ⟨t, st1 t st, q⟩
theorem vx_newarrayZ {atype : ArrayType} (hexec : p.tables.exec = Jvm.exec) (hb : c.code = cc) {n : Int32} (h0 : n < 0) (hdg : decode cc pc = .ok (.newarray atype, 2)) (k : ∀ tx : String, tx = toString n → vx_Note p l e R s m args below meth c H locs cells slots Q (F0 m pc ls rest) "java/lang/NegativeArraySizeException" tx) : W p l e R s m args below meth c H locs cells slots Q (F0 m pc ls (.int n :: rest)) := by
  intro T hT X
  obtain ⟨t, st, q⟩ := k _ rfl T hT X
  exact ⟨t, X.newarrayNegative hexec (g := F0 m pc ls (.int n :: rest)) rfl h0 (rest := rest) rfl (by rw [hb]; exact hdg) t st, q⟩
end
end VXM
/-! ===== END ===== -/
end
section
def RX0 : String := "NotebookLab$Cell"
def TX0 : u_T := fun k => match k with
  | 0 => ("NotebookLab$Cell", "kind", "C", false)
  | 1 => ("NotebookLab$Cell", "first", "I", false)
  | 2 => ("NotebookLab$Cell", "second", "I", false)
  | 3 => ("NotebookLab$Cell", "constant", "I", false)
  | 4 => ("NotebookLab$Cell", "writes", "I", false)
  | 5 => ("NotebookLab$Cell", "need", "I", false)
  | 6 => ("NotebookLab$Cell", "time", "I", false)
  | 7 => ("NotebookLab$Cell", "period", "I", false)
  | 8 => ("NotebookLab$Cell", "lineage", "I", false)
  | 9 => ("NotebookLab$Cell", "ending", "I", false)
  | 10 => ("NotebookLab$Cell", "seenFirst", "I", false)
  | 11 => ("NotebookLab$Cell", "seenSecond", "I", false)
  | 12 => ("NotebookLab$Cell", "seenConstant", "I", false)
  | 13 => ("NotebookLab$Cell", "timesRun", "I", false)
  | 14 => ("NotebookLab$Cell", "timesFound", "I", false)
  | 15 => ("NotebookLab$Cell", "lastFailure", "LNotebookLab$Failure;", true)
  | _ => ("NotebookLab$Cell", "memory", "LNotebookLab$Memory;", true)
def tyX0 : Nat → FieldType := fun k => match k with
  | 0 => .char
  | 1 => .int
  | 2 => .int
  | 3 => .int
  | 4 => .int
  | 5 => .int
  | 6 => .int
  | 7 => .int
  | 8 => .int
  | 9 => .int
  | 10 => .int
  | 11 => .int
  | 12 => .int
  | 13 => .int
  | 14 => .int
  | 15 => .object "NotebookLab$Failure"
  | _ => .object "NotebookLab$Memory"
abbrev wsX00 : List Cond := u_ws RX0 TX0 17
theorem nmX0 : ∀ a, a < 17 → ∀ b, b < 17 → a ≠ b → (TX0 a).2.1 ≠ (TX0 b).2.1 := by decide +kernel
theorem tyX0_ok : ∀ k, k < 17 → parseFieldDescriptor (TX0 k).2.2.1 = some (tyX0 k) := by decide +kernel
abbrev cX0_init : ByteArray := prog_2_method_1_code
def yX0_init : MethodName := ⟨RX0, "<init>", "()V"⟩
def RX1 : String := "NotebookLab$Failure"
def TX1 : u_T := fun k => match k with
  | 0 => ("NotebookLab$Failure", "kind", "C", false)
  | 1 => ("NotebookLab$Failure", "rootCell", "I", false)
  | 2 => ("NotebookLab$Failure", "rootKind", "C", false)
  | _ => ("NotebookLab$Failure", "causeCount", "I", false)
def tyX1 : Nat → FieldType := fun k => match k with
  | 0 => .char
  | 1 => .int
  | 2 => .char
  | _ => .int
abbrev wsX10 : List Cond := u_ws RX1 TX1 4
theorem nmX1 : ∀ a, a < 4 → ∀ b, b < 4 → a ≠ b → (TX1 a).2.1 ≠ (TX1 b).2.1 := by decide +kernel
theorem tyX1_ok : ∀ k, k < 4 → parseFieldDescriptor (TX1 k).2.2.1 = some (tyX1 k) := by decide +kernel
abbrev cX1_init : ByteArray := prog_3_method_1_code
def yX1_init : MethodName := ⟨RX1, "<init>", "()V"⟩
abbrev cX1_setWithoutCause : ByteArray := prog_3_method_2_code
def yX1_setWithoutCause : MethodName := ⟨RX1, "setWithoutCause", "(IC)V"⟩
abbrev cX1_setCausedBy : ByteArray := prog_3_method_3_code
def yX1_setCausedBy : MethodName := ⟨RX1, "setCausedBy", "(LNotebookLab$Failure;C)V"⟩
def RX2 : String := "NotebookLab$Kernel"
def TX2 : u_T := fun k => match k with
  | 0 => ("NotebookLab$Kernel", "room", "I", false)
  | 1 => ("NotebookLab$Kernel", "taken", "I", false)
  | _ => ("NotebookLab$Kernel", "endings", "[I", true)
def tyX2 : Nat → FieldType := fun k => match k with
  | 0 => .int
  | 1 => .int
  | _ => .array .int
abbrev wsX20 : List Cond := u_ws RX2 TX2 3
theorem nmX2 : ∀ a, a < 3 → ∀ b, b < 3 → a ≠ b → (TX2 a).2.1 ≠ (TX2 b).2.1 := by decide +kernel
theorem tyX2_ok : ∀ k, k < 3 → parseFieldDescriptor (TX2 k).2.2.1 = some (tyX2 k) := by decide +kernel
abbrev cX2_init : ByteArray := prog_4_method_1_code
def yX2_init : MethodName := ⟨RX2, "<init>", "()V"⟩
abbrev cX2_roomLeft : ByteArray := prog_4_method_2_code
def yX2_roomLeft : MethodName := ⟨RX2, "roomLeft", "()I"⟩
abbrev cX2_take : ByteArray := prog_4_method_3_code
def yX2_take : MethodName := ⟨RX2, "take", "(II)V"⟩
abbrev cX2_giveBack : ByteArray := prog_4_method_4_code
def yX2_giveBack : MethodName := ⟨RX2, "giveBack", "(I)V"⟩
def RX3 : String := "NotebookLab$Memory"
def TX3 : u_T := fun k => match k with
  | 0 => ("NotebookLab$Memory", "firsts", "[I", true)
  | 1 => ("NotebookLab$Memory", "seconds", "[I", true)
  | 2 => ("NotebookLab$Memory", "constants", "[I", true)
  | 3 => ("NotebookLab$Memory", "results", "[I", true)
  | 4 => ("NotebookLab$Memory", "kept", "I", false)
  | _ => ("NotebookLab$Memory", "next", "I", false)
def tyX3 : Nat → FieldType := fun k => match k with
  | 0 => .array .int
  | 1 => .array .int
  | 2 => .array .int
  | 3 => .array .int
  | 4 => .int
  | _ => .int
abbrev wsX30 : List Cond := u_ws RX3 TX3 6
theorem nmX3 : ∀ a, a < 6 → ∀ b, b < 6 → a ≠ b → (TX3 a).2.1 ≠ (TX3 b).2.1 := by decide +kernel
theorem tyX3_ok : ∀ k, k < 6 → parseFieldDescriptor (TX3 k).2.2.1 = some (tyX3 k) := by decide +kernel
abbrev cX3_init : ByteArray := prog_5_method_1_code
def yX3_init : MethodName := ⟨RX3, "<init>", "()V"⟩
abbrev cX3_find : ByteArray := prog_5_method_2_code
def yX3_find : MethodName := ⟨RX3, "find", "(III)I"⟩
abbrev cX3_keep : ByteArray := prog_5_method_3_code
def yX3_keep : MethodName := ⟨RX3, "keep", "(IIII)V"⟩
def RX4 : String := "NotebookLab"
def TX4 : u_T := fun k => match k with
  | 0 => ("NotebookLab", "values", "[I", true)
  | 1 => ("NotebookLab", "ownerOf", "[I", true)
  | 2 => ("NotebookLab", "writerOf", "[I", true)
  | 3 => ("NotebookLab", "anew", "[I", true)
  | 4 => ("NotebookLab", "cells", "[LNotebookLab$Cell;", true)
  | 5 => ("NotebookLab", "kernels", "[LNotebookLab$Kernel;", true)
  | 6 => ("NotebookLab", "viewCells", "[I", true)
  | 7 => ("NotebookLab", "viewValues", "[I", true)
  | 8 => ("NotebookLab", "dataMade", "I", false)
  | 9 => ("NotebookLab", "cellsMade", "I", false)
  | 10 => ("NotebookLab", "kernelsMade", "I", false)
  | 11 => ("NotebookLab", "viewsMade", "I", false)
  | 12 => ("NotebookLab", "now", "I", false)
  | _ => ("NotebookLab", "workGiven", "J", false)
def tyX4 : Nat → FieldType := fun k => match k with
  | 0 => .array .int
  | 1 => .array .int
  | 2 => .array .int
  | 3 => .array .int
  | 4 => .array (.object "NotebookLab$Cell")
  | 5 => .array (.object "NotebookLab$Kernel")
  | 6 => .array .int
  | 7 => .array .int
  | 8 => .int
  | 9 => .int
  | 10 => .int
  | 11 => .int
  | 12 => .int
  | _ => .long
abbrev wsX40 : List Cond := u_ws RX4 TX4 14
theorem nmX4 : ∀ a, a < 14 → ∀ b, b < 14 → a ≠ b → (TX4 a).2.1 ≠ (TX4 b).2.1 := by decide +kernel
theorem tyX4_ok : ∀ k, k < 14 → parseFieldDescriptor (TX4 k).2.2.1 = some (tyX4 k) := by decide +kernel
abbrev cX4_init : ByteArray := prog_1_method_1_code
def yX4_init : MethodName := ⟨RX4, "<init>", "()V"⟩
abbrev cX4_addData : ByteArray := prog_1_method_2_code
def yX4_addData : MethodName := ⟨RX4, "addData", "(III)I"⟩
abbrev cX4_setData : ByteArray := prog_1_method_3_code
def yX4_setData : MethodName := ⟨RX4, "setData", "(II)I"⟩
abbrev cX4_loseData : ByteArray := prog_1_method_4_code
def yX4_loseData : MethodName := ⟨RX4, "loseData", "(I)I"⟩
abbrev cX4_addCell : ByteArray := prog_1_method_5_code
def yX4_addCell : MethodName := ⟨RX4, "addCell", "(CIIIIII)I"⟩
abbrev cX4_setConstant : ByteArray := prog_1_method_6_code
def yX4_setConstant : MethodName := ⟨RX4, "setConstant", "(II)I"⟩
abbrev cX4_cellCount : ByteArray := prog_1_method_7_code
def yX4_cellCount : MethodName := ⟨RX4, "cellCount", "()I"⟩
abbrev cX4_value : ByteArray := prog_1_method_8_code
def yX4_value : MethodName := ⟨RX4, "value", "(I)I"⟩
abbrev cX4_writer : ByteArray := prog_1_method_9_code
def yX4_writer : MethodName := ⟨RX4, "writer", "(I)I"⟩
abbrev cX4_run : ByteArray := prog_1_method_10_code
def yX4_run : MethodName := ⟨RX4, "run", "(I)C"⟩
abbrev cX4_runAll : ByteArray := prog_1_method_11_code
def yX4_runAll : MethodName := ⟨RX4, "runAll", "()I"⟩
abbrev cX4_state : ByteArray := prog_1_method_12_code
def yX4_state : MethodName := ⟨RX4, "state", "(I)C"⟩
abbrev cX4_resultAnew : ByteArray := prog_1_method_13_code
def yX4_resultAnew : MethodName := ⟨RX4, "resultAnew", "(I)I"⟩
abbrev cX4_fresh : ByteArray := prog_1_method_14_code
def yX4_fresh : MethodName := ⟨RX4, "fresh", "()I"⟩
abbrev cX4_runs : ByteArray := prog_1_method_15_code
def yX4_runs : MethodName := ⟨RX4, "runs", "(I)I"⟩
abbrev cX4_found : ByteArray := prog_1_method_16_code
def yX4_found : MethodName := ⟨RX4, "found", "(I)I"⟩
abbrev cX4_failure : ByteArray := prog_1_method_17_code
def yX4_failure : MethodName := ⟨RX4, "failure", "(I)C"⟩
abbrev cX4_root : ByteArray := prog_1_method_18_code
def yX4_root : MethodName := ⟨RX4, "root", "(I)I"⟩
abbrev cX4_rootFailure : ByteArray := prog_1_method_19_code
def yX4_rootFailure : MethodName := ⟨RX4, "rootFailure", "(I)C"⟩
abbrev cX4_causes : ByteArray := prog_1_method_20_code
def yX4_causes : MethodName := ⟨RX4, "causes", "(I)I"⟩
abbrev cX4_depends : ByteArray := prog_1_method_21_code
def yX4_depends : MethodName := ⟨RX4, "depends", "(II)Z"⟩
abbrev cX4_owners : ByteArray := prog_1_method_22_code
def yX4_owners : MethodName := ⟨RX4, "owners", "(I)I"⟩
abbrev cX4_dependents : ByteArray := prog_1_method_23_code
def yX4_dependents : MethodName := ⟨RX4, "dependents", "(I)I"⟩
abbrev cX4_addKernel : ByteArray := prog_1_method_24_code
def yX4_addKernel : MethodName := ⟨RX4, "addKernel", "(I)I"⟩
abbrev cX4_free : ByteArray := prog_1_method_25_code
def yX4_free : MethodName := ⟨RX4, "free", "(I)I"⟩
abbrev cX4_schedule : ByteArray := prog_1_method_26_code
def yX4_schedule : MethodName := ⟨RX4, "schedule", "(II)I"⟩
abbrev cX4_pass : ByteArray := prog_1_method_27_code
def yX4_pass : MethodName := ⟨RX4, "pass", "(I)I"⟩
abbrev cX4_tick : ByteArray := prog_1_method_28_code
def yX4_tick : MethodName := ⟨RX4, "tick", "()I"⟩
abbrev cX4_work : ByteArray := prog_1_method_29_code
def yX4_work : MethodName := ⟨RX4, "work", "()J"⟩
abbrev cX4_load : ByteArray := prog_1_method_30_code
def yX4_load : MethodName := ⟨RX4, "load", "()F"⟩
abbrev cX4_meanValue : ByteArray := prog_1_method_31_code
def yX4_meanValue : MethodName := ⟨RX4, "meanValue", "()D"⟩
abbrev cX4_publish : ByteArray := prog_1_method_32_code
def yX4_publish : MethodName := ⟨RX4, "publish", "(I)I"⟩
abbrev cX4_held : ByteArray := prog_1_method_33_code
def yX4_held : MethodName := ⟨RX4, "held", "(I)I"⟩
abbrev cX4_isCurrent : ByteArray := prog_1_method_34_code
def yX4_isCurrent : MethodName := ⟨RX4, "isCurrent", "(I)Z"⟩
abbrev cX4_isSound : ByteArray := prog_1_method_35_code
def yX4_isSound : MethodName := ⟨RX4, "isSound", "()Z"⟩
abbrev cX4_isWithin : ByteArray := prog_1_method_36_code
def yX4_isWithin : MethodName := ⟨RX4, "isWithin", "(III)Z"⟩
abbrev cX4_isVariable : ByteArray := prog_1_method_37_code
def yX4_isVariable : MethodName := ⟨RX4, "isVariable", "(I)Z"⟩
abbrev cX4_isKind : ByteArray := prog_1_method_38_code
def yX4_isKind : MethodName := ⟨RX4, "isKind", "(C)Z"⟩
abbrev cX4_isData : ByteArray := prog_1_method_39_code
def yX4_isData : MethodName := ⟨RX4, "isData", "(I)Z"⟩
abbrev cX4_isDefined : ByteArray := prog_1_method_40_code
def yX4_isDefined : MethodName := ⟨RX4, "isDefined", "(I)Z"⟩
abbrev cX4_checkVariable : ByteArray := prog_1_method_41_code
def yX4_checkVariable : MethodName := ⟨RX4, "checkVariable", "(I)V"⟩
abbrev cX4_checkData : ByteArray := prog_1_method_42_code
def yX4_checkData : MethodName := ⟨RX4, "checkData", "(I)V"⟩
abbrev cX4_checkView : ByteArray := prog_1_method_43_code
def yX4_checkView : MethodName := ⟨RX4, "checkView", "(I)V"⟩
abbrev cX4_cellAt : ByteArray := prog_1_method_44_code
def yX4_cellAt : MethodName := ⟨RX4, "cellAt", "(I)LNotebookLab$Cell;"⟩
abbrev cX4_failureOf : ByteArray := prog_1_method_45_code
def yX4_failureOf : MethodName := ⟨RX4, "failureOf", "(I)LNotebookLab$Failure;"⟩
abbrev cX4_bit : ByteArray := prog_1_method_46_code
def yX4_bit : MethodName := ⟨RX4, "bit", "(I)I"⟩
abbrev cX4_hasBit : ByteArray := prog_1_method_47_code
def yX4_hasBit : MethodName := ⟨RX4, "hasBit", "(II)Z"⟩
abbrev cX4_lineageThrough : ByteArray := prog_1_method_48_code
def yX4_lineageThrough : MethodName := ⟨RX4, "lineageThrough", "(I)I"⟩
abbrev cX4_freshCells : ByteArray := prog_1_method_49_code
def yX4_freshCells : MethodName := ⟨RX4, "freshCells", "()I"⟩
abbrev cX4_isFresh : ByteArray := prog_1_method_50_code
def yX4_isFresh : MethodName := ⟨RX4, "isFresh", "(I)Z"⟩
abbrev cX4_isUpToDate : ByteArray := prog_1_method_51_code
def yX4_isUpToDate : MethodName := ⟨RX4, "isUpToDate", "(LNotebookLab$Cell;I)Z"⟩
abbrev cX4_isAsThen : ByteArray := prog_1_method_52_code
def yX4_isAsThen : MethodName := ⟨RX4, "isAsThen", "(III)Z"⟩
abbrev cX4_execute : ByteArray := prog_1_method_53_code
def yX4_execute : MethodName := ⟨RX4, "execute", "(ILNotebookLab$Cell;)C"⟩
abbrev cX4_succeedWith : ByteArray := prog_1_method_54_code
def yX4_succeedWith : MethodName := ⟨RX4, "succeedWith", "(LNotebookLab$Cell;III)V"⟩
abbrev cX4_endWith : ByteArray := prog_1_method_55_code
def yX4_endWith : MethodName := ⟨RX4, "endWith", "(LNotebookLab$Cell;II)V"⟩
abbrev cX4_failForMissing : ByteArray := prog_1_method_56_code
def yX4_failForMissing : MethodName := ⟨RX4, "failForMissing", "(ILNotebookLab$Cell;I)V"⟩
abbrev cX4_firstMissing : ByteArray := prog_1_method_57_code
def yX4_firstMissing : MethodName := ⟨RX4, "firstMissing", "(LNotebookLab$Cell;[I)I"⟩
abbrev cX4_valueIfAny : ByteArray := prog_1_method_58_code
def yX4_valueIfAny : MethodName := ⟨RX4, "valueIfAny", "(I[I)I"⟩
abbrev cX4_resultOf : ByteArray := prog_1_method_59_code
def yX4_resultOf : MethodName := ⟨RX4, "resultOf", "(LNotebookLab$Cell;II)I"⟩
abbrev cX4_kernelFor : ByteArray := prog_1_method_60_code
def yX4_kernelFor : MethodName := ⟨RX4, "kernelFor", "(I)I"⟩
abbrev cX4_runWhatIsDue : ByteArray := prog_1_method_61_code
def yX4_runWhatIsDue : MethodName := ⟨RX4, "runWhatIsDue", "()I"⟩
abbrev cX4_isDue : ByteArray := prog_1_method_62_code
def yX4_isDue : MethodName := ⟨RX4, "isDue", "(LNotebookLab$Cell;)Z"⟩
abbrev cX4_computeAnew : ByteArray := prog_1_method_63_code
def yX4_computeAnew : MethodName := ⟨RX4, "computeAnew", "()V"⟩
abbrev cX4_freshCellsAreRight : ByteArray := prog_1_method_64_code
def yX4_freshCellsAreRight : MethodName := ⟨RX4, "freshCellsAreRight", "()Z"⟩
abbrev cX4_kernelsAreRight : ByteArray := prog_1_method_65_code
def yX4_kernelsAreRight : MethodName := ⟨RX4, "kernelsAreRight", "()Z"⟩
abbrev cX4_failuresAreRight : ByteArray := prog_1_method_66_code
def yX4_failuresAreRight : MethodName := ⟨RX4, "failuresAreRight", "()Z"⟩
def RX5 : String := "NotebookLabModel"
def TX5 : u_T := fun k => match k with
  | 0 => ("NotebookLabModel", "data", "I", false)
  | 1 => ("NotebookLabModel", "areData", "[Z", true)
  | 2 => ("NotebookLabModel", "owners", "[I", true)
  | 3 => ("NotebookLabModel", "values", "[I", true)
  | 4 => ("NotebookLabModel", "writers", "[I", true)
  | 5 => ("NotebookLabModel", "cells", "I", false)
  | 6 => ("NotebookLabModel", "kinds", "[C", true)
  | 7 => ("NotebookLabModel", "firsts", "[I", true)
  | 8 => ("NotebookLabModel", "seconds", "[I", true)
  | 9 => ("NotebookLabModel", "constants", "[I", true)
  | 10 => ("NotebookLabModel", "writes", "[I", true)
  | 11 => ("NotebookLabModel", "needs", "[I", true)
  | 12 => ("NotebookLabModel", "times", "[I", true)
  | 13 => ("NotebookLabModel", "periods", "[I", true)
  | 14 => ("NotebookLabModel", "outcomes", "[C", true)
  | 15 => ("NotebookLabModel", "ranFirst", "[I", true)
  | 16 => ("NotebookLabModel", "ranSecond", "[I", true)
  | 17 => ("NotebookLabModel", "ranConstant", "[I", true)
  | 18 => ("NotebookLabModel", "ran", "[I", true)
  | 19 => ("NotebookLabModel", "again", "[I", true)
  | 20 => ("NotebookLabModel", "roots", "[I", true)
  | 21 => ("NotebookLabModel", "rootKinds", "[C", true)
  | 22 => ("NotebookLabModel", "failedBy", "[C", true)
  | 23 => ("NotebookLabModel", "causing", "[I", true)
  | 24 => ("NotebookLabModel", "keptFirst", "[I", true)
  | 25 => ("NotebookLabModel", "keptSecond", "[I", true)
  | 26 => ("NotebookLabModel", "keptConstant", "[I", true)
  | 27 => ("NotebookLabModel", "keptResult", "[I", true)
  | 28 => ("NotebookLabModel", "kernels", "I", false)
  | 29 => ("NotebookLabModel", "rooms", "[I", true)
  | 30 => ("NotebookLabModel", "taken", "I", false)
  | 31 => ("NotebookLabModel", "takenOf", "[I", true)
  | 32 => ("NotebookLabModel", "takenNeed", "[I", true)
  | 33 => ("NotebookLabModel", "takenEnd", "[I", true)
  | 34 => ("NotebookLabModel", "views", "I", false)
  | 35 => ("NotebookLabModel", "viewCells", "[I", true)
  | 36 => ("NotebookLabModel", "viewValues", "[I", true)
  | 37 => ("NotebookLabModel", "tick", "I", false)
  | 38 => ("NotebookLabModel", "work", "J", false)
  | _ => ("NotebookLabModel", "code", "I", false)
def tyX5 : Nat → FieldType := fun k => match k with
  | 0 => .int
  | 1 => .array .boolean
  | 2 => .array .int
  | 3 => .array .int
  | 4 => .array .int
  | 5 => .int
  | 6 => .array .char
  | 7 => .array .int
  | 8 => .array .int
  | 9 => .array .int
  | 10 => .array .int
  | 11 => .array .int
  | 12 => .array .int
  | 13 => .array .int
  | 14 => .array .char
  | 15 => .array .int
  | 16 => .array .int
  | 17 => .array .int
  | 18 => .array .int
  | 19 => .array .int
  | 20 => .array .int
  | 21 => .array .char
  | 22 => .array .char
  | 23 => .array .int
  | 24 => .array .int
  | 25 => .array .int
  | 26 => .array .int
  | 27 => .array .int
  | 28 => .int
  | 29 => .array .int
  | 30 => .int
  | 31 => .array .int
  | 32 => .array .int
  | 33 => .array .int
  | 34 => .int
  | 35 => .array .int
  | 36 => .array .int
  | 37 => .int
  | 38 => .long
  | _ => .int
abbrev wsX50 : List Cond := u_ws RX5 TX5 40
theorem nmX5 : ∀ a, a < 40 → ∀ b, b < 40 → a ≠ b → (TX5 a).2.1 ≠ (TX5 b).2.1 := by decide +kernel
theorem tyX5_ok : ∀ k, k < 40 → parseFieldDescriptor (TX5 k).2.2.1 = some (tyX5 k) := by decide +kernel
abbrev cX5_init : ByteArray := prog_7_method_1_code
def yX5_init : MethodName := ⟨RX5, "<init>", "()V"⟩
abbrev cX5_thrown : ByteArray := prog_7_method_2_code
def yX5_thrown : MethodName := ⟨RX5, "thrown", "()I"⟩
abbrev cX5_fails : ByteArray := prog_7_method_3_code
def yX5_fails : MethodName := ⟨RX5, "fails", "(I)Z"⟩
abbrev cX5_tells : ByteArray := prog_7_method_4_code
def yX5_tells : MethodName := ⟨RX5, "tells", "(I)I"⟩
abbrev cX5_in : ByteArray := prog_7_method_5_code
def yX5_in : MethodName := ⟨RX5, "in", "(III)Z"⟩
abbrev cX5_isNoVariable : ByteArray := prog_7_method_6_code
def yX5_isNoVariable : MethodName := ⟨RX5, "isNoVariable", "(I)Z"⟩
abbrev cX5_isNoCell : ByteArray := prog_7_method_7_code
def yX5_isNoCell : MethodName := ⟨RX5, "isNoCell", "(I)Z"⟩
abbrev cX5_isThere : ByteArray := prog_7_method_8_code
def yX5_isThere : MethodName := ⟨RX5, "isThere", "(I)Z"⟩
abbrev cX5_addData : ByteArray := prog_7_method_9_code
def yX5_addData : MethodName := ⟨RX5, "addData", "(III)I"⟩
abbrev cX5_setData : ByteArray := prog_7_method_10_code
def yX5_setData : MethodName := ⟨RX5, "setData", "(II)I"⟩
abbrev cX5_loseData : ByteArray := prog_7_method_11_code
def yX5_loseData : MethodName := ⟨RX5, "loseData", "(I)I"⟩
abbrev cX5_isKind : ByteArray := prog_7_method_12_code
def yX5_isKind : MethodName := ⟨RX5, "isKind", "(C)Z"⟩
abbrev cX5_isCell : ByteArray := prog_7_method_13_code
def yX5_isCell : MethodName := ⟨RX5, "isCell", "(CIIIIII)Z"⟩
abbrev cX5_addCell : ByteArray := prog_7_method_14_code
def yX5_addCell : MethodName := ⟨RX5, "addCell", "(CIIIIII)I"⟩
abbrev cX5_setConstant : ByteArray := prog_7_method_15_code
def yX5_setConstant : MethodName := ⟨RX5, "setConstant", "(II)I"⟩
abbrev cX5_cellCount : ByteArray := prog_7_method_16_code
def yX5_cellCount : MethodName := ⟨RX5, "cellCount", "()I"⟩
abbrev cX5_value : ByteArray := prog_7_method_17_code
def yX5_value : MethodName := ⟨RX5, "value", "(I)I"⟩
abbrev cX5_writer : ByteArray := prog_7_method_18_code
def yX5_writer : MethodName := ⟨RX5, "writer", "(I)I"⟩
abbrev cX5_apart : ByteArray := prog_7_method_19_code
def yX5_apart : MethodName := ⟨RX5, "apart", "(II)I"⟩
abbrev cX5_computes : ByteArray := prog_7_method_20_code
def yX5_computes : MethodName := ⟨RX5, "computes", "(III)I"⟩
abbrev cX5_second : ByteArray := prog_7_method_21_code
def yX5_second : MethodName := ⟨RX5, "second", "(I)I"⟩
abbrev cX5_lacks : ByteArray := prog_7_method_22_code
def yX5_lacks : MethodName := ⟨RX5, "lacks", "(I)Z"⟩
abbrev cX5_anew : ByteArray := prog_7_method_23_code
def yX5_anew : MethodName := ⟨RX5, "anew", "(I)I"⟩
abbrev cX5_anewOf : ByteArray := prog_7_method_24_code
def yX5_anewOf : MethodName := ⟨RX5, "anewOf", "(I)I"⟩
abbrev cX5_fallsShort : ByteArray := prog_7_method_25_code
def yX5_fallsShort : MethodName := ⟨RX5, "fallsShort", "(I)V"⟩
abbrev cX5_failed : ByteArray := prog_7_method_26_code
def yX5_failed : MethodName := ⟨RX5, "failed", "(IC)C"⟩
abbrev cX5_has : ByteArray := prog_7_method_27_code
def yX5_has : MethodName := ⟨RX5, "has", "(II)V"⟩
abbrev cX5_keptAt : ByteArray := prog_7_method_28_code
def yX5_keptAt : MethodName := ⟨RX5, "keptAt", "(I)I"⟩
abbrev cX5_freeOf : ByteArray := prog_7_method_29_code
def yX5_freeOf : MethodName := ⟨RX5, "freeOf", "(I)I"⟩
abbrev cX5_kernelFor : ByteArray := prog_7_method_30_code
def yX5_kernelFor : MethodName := ⟨RX5, "kernelFor", "(I)I"⟩
abbrev cX5_takes : ByteArray := prog_7_method_31_code
def yX5_takes : MethodName := ⟨RX5, "takes", "(II)V"⟩
abbrev cX5_keeps : ByteArray := prog_7_method_32_code
def yX5_keeps : MethodName := ⟨RX5, "keeps", "(II)V"⟩
abbrev cX5_does : ByteArray := prog_7_method_33_code
def yX5_does : MethodName := ⟨RX5, "does", "(I)C"⟩
abbrev cX5_run : ByteArray := prog_7_method_34_code
def yX5_run : MethodName := ⟨RX5, "run", "(I)C"⟩
abbrev cX5_runAll : ByteArray := prog_7_method_35_code
def yX5_runAll : MethodName := ⟨RX5, "runAll", "()I"⟩
abbrev cX5_isFreshBelow : ByteArray := prog_7_method_36_code
def yX5_isFreshBelow : MethodName := ⟨RX5, "isFreshBelow", "(I)Z"⟩
abbrev cX5_isFresh : ByteArray := prog_7_method_37_code
def yX5_isFresh : MethodName := ⟨RX5, "isFresh", "(I)Z"⟩
abbrev cX5_state : ByteArray := prog_7_method_38_code
def yX5_state : MethodName := ⟨RX5, "state", "(I)C"⟩
abbrev cX5_resultAnew : ByteArray := prog_7_method_39_code
def yX5_resultAnew : MethodName := ⟨RX5, "resultAnew", "(I)I"⟩
abbrev cX5_allFresh : ByteArray := prog_7_method_40_code
def yX5_allFresh : MethodName := ⟨RX5, "allFresh", "()I"⟩
abbrev cX5_fresh : ByteArray := prog_7_method_41_code
def yX5_fresh : MethodName := ⟨RX5, "fresh", "()I"⟩
abbrev cX5_runs : ByteArray := prog_7_method_42_code
def yX5_runs : MethodName := ⟨RX5, "runs", "(I)I"⟩
abbrev cX5_found : ByteArray := prog_7_method_43_code
def yX5_found : MethodName := ⟨RX5, "found", "(I)I"⟩
abbrev cX5_isNoFailure : ByteArray := prog_7_method_44_code
def yX5_isNoFailure : MethodName := ⟨RX5, "isNoFailure", "(I)Z"⟩
abbrev cX5_failure : ByteArray := prog_7_method_45_code
def yX5_failure : MethodName := ⟨RX5, "failure", "(I)C"⟩
abbrev cX5_root : ByteArray := prog_7_method_46_code
def yX5_root : MethodName := ⟨RX5, "root", "(I)I"⟩
abbrev cX5_rootFailure : ByteArray := prog_7_method_47_code
def yX5_rootFailure : MethodName := ⟨RX5, "rootFailure", "(I)C"⟩
abbrev cX5_causes : ByteArray := prog_7_method_48_code
def yX5_causes : MethodName := ⟨RX5, "causes", "(I)I"⟩
abbrev cX5_comesFrom : ByteArray := prog_7_method_49_code
def yX5_comesFrom : MethodName := ⟨RX5, "comesFrom", "(II)Z"⟩
abbrev cX5_isOn : ByteArray := prog_7_method_50_code
def yX5_isOn : MethodName := ⟨RX5, "isOn", "(II)Z"⟩
abbrev cX5_depends : ByteArray := prog_7_method_51_code
def yX5_depends : MethodName := ⟨RX5, "depends", "(II)Z"⟩
abbrev cX5_owners : ByteArray := prog_7_method_52_code
def yX5_owners : MethodName := ⟨RX5, "owners", "(I)I"⟩
abbrev cX5_dependents : ByteArray := prog_7_method_53_code
def yX5_dependents : MethodName := ⟨RX5, "dependents", "(I)I"⟩
abbrev cX5_addKernel : ByteArray := prog_7_method_54_code
def yX5_addKernel : MethodName := ⟨RX5, "addKernel", "(I)I"⟩
abbrev cX5_free : ByteArray := prog_7_method_55_code
def yX5_free : MethodName := ⟨RX5, "free", "(I)I"⟩
abbrev cX5_schedule : ByteArray := prog_7_method_56_code
def yX5_schedule : MethodName := ⟨RX5, "schedule", "(II)I"⟩
abbrev cX5_frees : ByteArray := prog_7_method_57_code
def yX5_frees : MethodName := ⟨RX5, "frees", "()V"⟩
abbrev cX5_ticks : ByteArray := prog_7_method_58_code
def yX5_ticks : MethodName := ⟨RX5, "ticks", "()I"⟩
abbrev cX5_pass : ByteArray := prog_7_method_59_code
def yX5_pass : MethodName := ⟨RX5, "pass", "(I)I"⟩
abbrev cX5_tick : ByteArray := prog_7_method_60_code
def yX5_tick : MethodName := ⟨RX5, "tick", "()I"⟩
abbrev cX5_work : ByteArray := prog_7_method_61_code
def yX5_work : MethodName := ⟨RX5, "work", "()J"⟩
abbrev cX5_load : ByteArray := prog_7_method_62_code
def yX5_load : MethodName := ⟨RX5, "load", "()F"⟩
abbrev cX5_meanValue : ByteArray := prog_7_method_63_code
def yX5_meanValue : MethodName := ⟨RX5, "meanValue", "()D"⟩
abbrev cX5_publish : ByteArray := prog_7_method_64_code
def yX5_publish : MethodName := ⟨RX5, "publish", "(I)I"⟩
abbrev cX5_isNoView : ByteArray := prog_7_method_65_code
def yX5_isNoView : MethodName := ⟨RX5, "isNoView", "(I)Z"⟩
abbrev cX5_held : ByteArray := prog_7_method_66_code
def yX5_held : MethodName := ⟨RX5, "held", "(I)I"⟩
abbrev cX5_isCurrent : ByteArray := prog_7_method_67_code
def yX5_isCurrent : MethodName := ⟨RX5, "isCurrent", "(I)Z"⟩
abbrev cX5_isSound : ByteArray := prog_7_method_68_code
def yX5_isSound : MethodName := ⟨RX5, "isSound", "()Z"⟩
def RJ6 : String := "java/lang/Integer"
abbrev cJ6_bitCount_0f7a4 : ByteArray := prog_15_method_49_code
def yJ6_bitCount_0f7a4 : MethodName := ⟨RJ6, "bitCount", "(I)I"⟩
def RJ9 : String := "java/lang/Math"
abbrev cJ9_floorMod_7cf53 : ByteArray := prog_16_method_50_code
def yJ9_floorMod_7cf53 : MethodName := ⟨RJ9, "floorMod", "(II)I"⟩
abbrev cJ9_abs_0f7a4 : ByteArray := prog_16_method_59_code
def yJ9_abs_0f7a4 : MethodName := ⟨RJ9, "abs", "(I)I"⟩
def RL : String := "NotebookLabLaw"
abbrev cL_addData : ByteArray := method_3_code
def yL_addData : MethodName := ⟨RL, "addData", "(LNotebookLab;III[J)I"⟩
abbrev cL_setData : ByteArray := method_4_code
def yL_setData : MethodName := ⟨RL, "setData", "(LNotebookLab;II[J)I"⟩
abbrev cL_loseData : ByteArray := method_5_code
def yL_loseData : MethodName := ⟨RL, "loseData", "(LNotebookLab;I[J)I"⟩
abbrev cL_addCell : ByteArray := method_6_code
def yL_addCell : MethodName := ⟨RL, "addCell", "(LNotebookLab;CIIIIII[J)I"⟩
abbrev cL_setConstant : ByteArray := method_7_code
def yL_setConstant : MethodName := ⟨RL, "setConstant", "(LNotebookLab;II[J)I"⟩
abbrev cL_value : ByteArray := method_8_code
def yL_value : MethodName := ⟨RL, "value", "(LNotebookLab;I[J)I"⟩
abbrev cL_writer : ByteArray := method_9_code
def yL_writer : MethodName := ⟨RL, "writer", "(LNotebookLab;I[J)I"⟩
abbrev cL_run : ByteArray := method_10_code
def yL_run : MethodName := ⟨RL, "run", "(LNotebookLab;I[J)I"⟩
abbrev cL_state : ByteArray := method_11_code
def yL_state : MethodName := ⟨RL, "state", "(LNotebookLab;I[J)I"⟩
abbrev cL_resultAnew : ByteArray := method_12_code
def yL_resultAnew : MethodName := ⟨RL, "resultAnew", "(LNotebookLab;I[J)I"⟩
abbrev cL_runs : ByteArray := method_13_code
def yL_runs : MethodName := ⟨RL, "runs", "(LNotebookLab;I[J)I"⟩
abbrev cL_found : ByteArray := method_14_code
def yL_found : MethodName := ⟨RL, "found", "(LNotebookLab;I[J)I"⟩
abbrev cL_failure : ByteArray := method_15_code
def yL_failure : MethodName := ⟨RL, "failure", "(LNotebookLab;I[J)I"⟩
abbrev cL_root : ByteArray := method_16_code
def yL_root : MethodName := ⟨RL, "root", "(LNotebookLab;I[J)I"⟩
abbrev cL_rootFailure : ByteArray := method_17_code
def yL_rootFailure : MethodName := ⟨RL, "rootFailure", "(LNotebookLab;I[J)I"⟩
abbrev cL_causes : ByteArray := method_18_code
def yL_causes : MethodName := ⟨RL, "causes", "(LNotebookLab;I[J)I"⟩
abbrev cL_depends : ByteArray := method_19_code
def yL_depends : MethodName := ⟨RL, "depends", "(LNotebookLab;II[J)I"⟩
abbrev cL_owners : ByteArray := method_20_code
def yL_owners : MethodName := ⟨RL, "owners", "(LNotebookLab;I[J)I"⟩
abbrev cL_dependents : ByteArray := method_21_code
def yL_dependents : MethodName := ⟨RL, "dependents", "(LNotebookLab;I[J)I"⟩
abbrev cL_addKernel : ByteArray := method_22_code
def yL_addKernel : MethodName := ⟨RL, "addKernel", "(LNotebookLab;I[J)I"⟩
abbrev cL_free : ByteArray := method_23_code
def yL_free : MethodName := ⟨RL, "free", "(LNotebookLab;I[J)I"⟩
abbrev cL_schedule : ByteArray := method_24_code
def yL_schedule : MethodName := ⟨RL, "schedule", "(LNotebookLab;II[J)I"⟩
abbrev cL_pass : ByteArray := method_25_code
def yL_pass : MethodName := ⟨RL, "pass", "(LNotebookLab;I[J)I"⟩
abbrev cL_load : ByteArray := method_26_code
def yL_load : MethodName := ⟨RL, "load", "(LNotebookLab;[D)I"⟩
abbrev cL_meanValue : ByteArray := method_27_code
def yL_meanValue : MethodName := ⟨RL, "meanValue", "(LNotebookLab;[D)I"⟩
abbrev cL_publish : ByteArray := method_28_code
def yL_publish : MethodName := ⟨RL, "publish", "(LNotebookLab;I[J)I"⟩
abbrev cL_held : ByteArray := method_29_code
def yL_held : MethodName := ⟨RL, "held", "(LNotebookLab;I[J)I"⟩
abbrev cL_isCurrent : ByteArray := method_30_code
def yL_isCurrent : MethodName := ⟨RL, "isCurrent", "(LNotebookLab;I[J)I"⟩
abbrev cL_law : ByteArray := code
def yL_law : MethodName := ⟨RL, "law", "([I)Z"⟩
abbrev zCl : List vw_C := [(RX0, TX0, 17), (RX1, TX1, 4), (RX2, TX2, 3), (RX3, TX3, 6), (RX4, TX4, 14), (RX5, TX5, 40)]
end
section
/-- the words that every method of this claim is given: those of the tables that last over calls -/
def zWL : List Cond := lw_tbl.filter goodWord
theorem zw_tbl {w : Cond} (h : w ∈ zWL) : w ∈ lw_tbl := (List.mem_filter.mp h).1
theorem zw_good {w : Cond} (h : w ∈ zWL) : goodWord w = true := (List.mem_filter.mp h).2
theorem zw_i {w : Cond} (i : Nat) (h : tables_1[i]? = some w) (g : goodWord w = true) : w ∈ zWL := List.mem_filter.mpr ⟨List.mem_append_right _ (List.mem_of_getElem? h), g⟩
theorem zw_p {w : Cond} (i : Nat) (h : (k2_sels lw_privs)[i]? = some w) (g : goodWord w = true) : w ∈ zWL := List.mem_filter.mpr ⟨List.mem_append_left _ (List.mem_of_getElem? h), g⟩
theorem zw_l {ws : List Cond} (ps : List Nat) (h : ps.map (fun i => tables_1[i]?) = ws.map some) (g : ws.all goodWord = true) : ∀ w ∈ ws, w ∈ zWL := by
  intro w hw
  have h1 : some w ∈ ps.map (fun i => tables_1[i]?) := by rw [h]; exact List.mem_map.mpr ⟨w, hw, rfl⟩
  obtain ⟨i, -, hi⟩ := List.mem_map.mp h1
  exact zw_i i hi (List.all_eq_true.mp g w hw)
theorem zw_in_RL : Cond.initialized RL ∈ zWL := zw_i 0 (by decide +kernel) (by decide +kernel)
theorem zw_in_RX4 : Cond.initialized RX4 ∈ zWL := zw_i 1 (by decide +kernel) (by decide +kernel)
theorem zw_in_RX0 : Cond.initialized RX0 ∈ zWL := zw_i 2 (by decide +kernel) (by decide +kernel)
theorem zw_in_RX1 : Cond.initialized RX1 ∈ zWL := zw_i 3 (by decide +kernel) (by decide +kernel)
theorem zw_in_RX3 : Cond.initialized RX3 ∈ zWL := zw_i 4 (by decide +kernel) (by decide +kernel)
theorem zw_in_RX2 : Cond.initialized RX2 ∈ zWL := zw_i 5 (by decide +kernel) (by decide +kernel)
theorem zw_in_RX5 : Cond.initialized RX5 ∈ zWL := zw_i 6 (by decide +kernel) (by decide +kernel)
theorem zw_in_java_lang_Throwable : Cond.initialized "java/lang/Throwable" ∈ zWL := zw_i 7 (by decide +kernel) (by decide +kernel)
theorem zw_in_java_lang_Exception : Cond.initialized "java/lang/Exception" ∈ zWL := zw_i 8 (by decide +kernel) (by decide +kernel)
theorem zw_in_java_lang_RuntimeException : Cond.initialized "java/lang/RuntimeException" ∈ zWL := zw_i 9 (by decide +kernel) (by decide +kernel)
theorem zw_in_java_lang_IllegalArgumentException : Cond.initialized "java/lang/IllegalArgumentException" ∈ zWL := zw_i 10 (by decide +kernel) (by decide +kernel)
theorem zw_in_java_lang_IllegalStateException : Cond.initialized "java/lang/IllegalStateException" ∈ zWL := zw_i 11 (by decide +kernel) (by decide +kernel)
theorem zw_in_java_util_NoSuchElementException : Cond.initialized "java/util/NoSuchElementException" ∈ zWL := zw_i 12 (by decide +kernel) (by decide +kernel)
theorem zw_in_java_lang_UnsupportedOperationException : Cond.initialized "java/lang/UnsupportedOperationException" ∈ zWL := zw_i 13 (by decide +kernel) (by decide +kernel)
theorem zw_in_java_lang_IndexOutOfBoundsException : Cond.initialized "java/lang/IndexOutOfBoundsException" ∈ zWL := zw_i 14 (by decide +kernel) (by decide +kernel)
theorem zw_in_java_lang_ArrayIndexOutOfBoundsException : Cond.initialized "java/lang/ArrayIndexOutOfBoundsException" ∈ zWL := zw_i 15 (by decide +kernel) (by decide +kernel)
theorem zw_in_java_lang_String : Cond.initialized "java/lang/String" ∈ zWL := zw_i 16 (by decide +kernel) (by decide +kernel)
theorem zw_in_RJ9 : Cond.initialized RJ9 ∈ zWL := zw_i 17 (by decide +kernel) (by decide +kernel)
theorem zw_in_RJ6 : Cond.initialized RJ6 ∈ zWL := zw_i 18 (by decide +kernel) (by decide +kernel)
theorem zw_in_java_lang_ArithmeticException : Cond.initialized "java/lang/ArithmeticException" ∈ zWL := zw_i 19 (by decide +kernel) (by decide +kernel)
theorem zw_cL_8 : Cond.classLink RL 8 RX4 ∈ zWL := zw_i 20 (by decide +kernel) (by decide +kernel)
theorem zw_is_X4 : Cond.instantiable RX4 14 ∈ zWL := zw_i 21 (by decide +kernel) (by decide +kernel)
theorem zw_mL_114 : Cond.methodLink RL 114 yX4_init ∈ zWL := zw_i 22 (by decide +kernel) (by decide +kernel)
theorem zw_im_yX4_init : Cond.instanceMethod yX4_init ∈ zWL := zw_i 23 (by decide +kernel) (by decide +kernel)
theorem zw_co_yX4_init : Cond.code yX4_init cX4_init 2 (Option.none : Option FieldType) ∈ zWL := zw_i 24 (by decide +kernel) (by decide +kernel)
theorem zw_cX4_22 : Cond.classLink RX4 22 RX0 ∈ zWL := zw_i 28 (by decide +kernel) (by decide +kernel)
theorem zw_cX4_28 : Cond.classLink RX4 28 RX2 ∈ zWL := zw_i 30 (by decide +kernel) (by decide +kernel)
theorem zw_is_X0 : Cond.instantiable RX0 17 ∈ zWL := zw_i 32 (by decide +kernel) (by decide +kernel)
theorem zw_im_yX0_init : Cond.instanceMethod yX0_init ∈ zWL := zw_i 34 (by decide +kernel) (by decide +kernel)
theorem zw_co_yX0_init : Cond.code yX0_init cX0_init 1 (Option.none : Option FieldType) ∈ zWL := zw_i 35 (by decide +kernel) (by decide +kernel)
theorem zw_cX0_15 : Cond.classLink RX0 15 RX1 ∈ zWL := zw_i 37 (by decide +kernel) (by decide +kernel)
theorem zw_is_X1 : Cond.instantiable RX1 4 ∈ zWL := zw_i 38 (by decide +kernel) (by decide +kernel)
theorem zw_im_yX1_init : Cond.instanceMethod yX1_init ∈ zWL := zw_i 40 (by decide +kernel) (by decide +kernel)
theorem zw_co_yX1_init : Cond.code yX1_init cX1_init 1 (Option.none : Option FieldType) ∈ zWL := zw_i 41 (by decide +kernel) (by decide +kernel)
theorem zw_fX1_7 : Cond.fieldLink RX1 7 RX1 (TX1 0).2.1 (TX1 0).2.2.1 ∈ zWL := zw_i 43 (by decide +kernel) (by decide +kernel)
theorem zw_fX4_177 : Cond.fieldLink RX4 177 RX1 (TX1 0).2.1 (TX1 0).2.2.1 ∈ zWL := zw_i 44 (by decide +kernel) (by decide +kernel)
theorem zw_fX1_13 : Cond.fieldLink RX1 13 RX1 (TX1 1).2.1 (TX1 1).2.2.1 ∈ zWL := zw_i 45 (by decide +kernel) (by decide +kernel)
theorem zw_fX4_180 : Cond.fieldLink RX4 180 RX1 (TX1 1).2.1 (TX1 1).2.2.1 ∈ zWL := zw_i 46 (by decide +kernel) (by decide +kernel)
theorem zw_fX1_17 : Cond.fieldLink RX1 17 RX1 (TX1 2).2.1 (TX1 2).2.2.1 ∈ zWL := zw_i 47 (by decide +kernel) (by decide +kernel)
theorem zw_fX4_183 : Cond.fieldLink RX4 183 RX1 (TX1 2).2.1 (TX1 2).2.2.1 ∈ zWL := zw_i 48 (by decide +kernel) (by decide +kernel)
theorem zw_fX1_20 : Cond.fieldLink RX1 20 RX1 (TX1 3).2.1 (TX1 3).2.2.1 ∈ zWL := zw_i 49 (by decide +kernel) (by decide +kernel)
theorem zw_fX4_186 : Cond.fieldLink RX4 186 RX1 (TX1 3).2.1 (TX1 3).2.2.1 ∈ zWL := zw_i 50 (by decide +kernel) (by decide +kernel)
theorem zw_ac_int : Cond.arrayClass .int ∈ zWL := zw_i 60 (by decide +kernel) (by decide +kernel)
theorem zw_cX0_22 : Cond.classLink RX0 22 RX3 ∈ zWL := zw_i 61 (by decide +kernel) (by decide +kernel)
theorem zw_is_X3 : Cond.instantiable RX3 6 ∈ zWL := zw_i 62 (by decide +kernel) (by decide +kernel)
theorem zw_im_yX3_init : Cond.instanceMethod yX3_init ∈ zWL := zw_i 64 (by decide +kernel) (by decide +kernel)
theorem zw_co_yX3_init : Cond.code yX3_init cX3_init 1 (Option.none : Option FieldType) ∈ zWL := zw_i 65 (by decide +kernel) (by decide +kernel)
theorem zw_fX3_11 : Cond.fieldLink RX3 11 RX3 (TX3 0).2.1 (TX3 0).2.2.1 ∈ zWL := zw_i 67 (by decide +kernel) (by decide +kernel)
theorem zw_fX3_15 : Cond.fieldLink RX3 15 RX3 (TX3 1).2.1 (TX3 1).2.2.1 ∈ zWL := zw_i 68 (by decide +kernel) (by decide +kernel)
theorem zw_fX3_18 : Cond.fieldLink RX3 18 RX3 (TX3 2).2.1 (TX3 2).2.2.1 ∈ zWL := zw_i 69 (by decide +kernel) (by decide +kernel)
theorem zw_fX3_21 : Cond.fieldLink RX3 21 RX3 (TX3 3).2.1 (TX3 3).2.2.1 ∈ zWL := zw_i 70 (by decide +kernel) (by decide +kernel)
theorem zw_fX3_24 : Cond.fieldLink RX3 24 RX3 (TX3 4).2.1 (TX3 4).2.2.1 ∈ zWL := zw_i 71 (by decide +kernel) (by decide +kernel)
theorem zw_fX3_28 : Cond.fieldLink RX3 28 RX3 (TX3 5).2.1 (TX3 5).2.2.1 ∈ zWL := zw_i 72 (by decide +kernel) (by decide +kernel)
theorem zw_fX4_96 : Cond.fieldLink RX4 96 RX0 (TX0 0).2.1 (TX0 0).2.2.1 ∈ zWL := zw_i 86 (by decide +kernel) (by decide +kernel)
theorem zw_fX4_100 : Cond.fieldLink RX4 100 RX0 (TX0 1).2.1 (TX0 1).2.2.1 ∈ zWL := zw_i 87 (by decide +kernel) (by decide +kernel)
theorem zw_fX4_103 : Cond.fieldLink RX4 103 RX0 (TX0 2).2.1 (TX0 2).2.2.1 ∈ zWL := zw_i 88 (by decide +kernel) (by decide +kernel)
theorem zw_fX4_106 : Cond.fieldLink RX4 106 RX0 (TX0 3).2.1 (TX0 3).2.2.1 ∈ zWL := zw_i 89 (by decide +kernel) (by decide +kernel)
theorem zw_fX4_109 : Cond.fieldLink RX4 109 RX0 (TX0 4).2.1 (TX0 4).2.2.1 ∈ zWL := zw_i 90 (by decide +kernel) (by decide +kernel)
theorem zw_fX4_112 : Cond.fieldLink RX4 112 RX0 (TX0 5).2.1 (TX0 5).2.2.1 ∈ zWL := zw_i 91 (by decide +kernel) (by decide +kernel)
theorem zw_fX4_115 : Cond.fieldLink RX4 115 RX0 (TX0 6).2.1 (TX0 6).2.2.1 ∈ zWL := zw_i 92 (by decide +kernel) (by decide +kernel)
theorem zw_fX4_216 : Cond.fieldLink RX4 216 RX0 (TX0 7).2.1 (TX0 7).2.2.1 ∈ zWL := zw_i 93 (by decide +kernel) (by decide +kernel)
theorem zw_fX4_122 : Cond.fieldLink RX4 122 RX0 (TX0 8).2.1 (TX0 8).2.2.1 ∈ zWL := zw_i 94 (by decide +kernel) (by decide +kernel)
theorem zw_fX0_9 : Cond.fieldLink RX0 9 RX0 (TX0 9).2.1 (TX0 9).2.2.1 ∈ zWL := zw_i 95 (by decide +kernel) (by decide +kernel)
theorem zw_fX4_152 : Cond.fieldLink RX4 152 RX0 (TX0 9).2.1 (TX0 9).2.2.1 ∈ zWL := zw_i 96 (by decide +kernel) (by decide +kernel)
theorem zw_fX4_281 : Cond.fieldLink RX4 281 RX0 (TX0 10).2.1 (TX0 10).2.2.1 ∈ zWL := zw_i 97 (by decide +kernel) (by decide +kernel)
theorem zw_fX4_287 : Cond.fieldLink RX4 287 RX0 (TX0 11).2.1 (TX0 11).2.2.1 ∈ zWL := zw_i 98 (by decide +kernel) (by decide +kernel)
theorem zw_fX4_278 : Cond.fieldLink RX4 278 RX0 (TX0 12).2.1 (TX0 12).2.2.1 ∈ zWL := zw_i 99 (by decide +kernel) (by decide +kernel)
theorem zw_fX4_167 : Cond.fieldLink RX4 167 RX0 (TX0 13).2.1 (TX0 13).2.2.1 ∈ zWL := zw_i 100 (by decide +kernel) (by decide +kernel)
theorem zw_fX4_170 : Cond.fieldLink RX4 170 RX0 (TX0 14).2.1 (TX0 14).2.2.1 ∈ zWL := zw_i 101 (by decide +kernel) (by decide +kernel)
theorem zw_fX0_18 : Cond.fieldLink RX0 18 RX0 (TX0 15).2.1 (TX0 15).2.2.1 ∈ zWL := zw_i 102 (by decide +kernel) (by decide +kernel)
theorem zw_fX4_274 : Cond.fieldLink RX4 274 RX0 (TX0 15).2.1 (TX0 15).2.2.1 ∈ zWL := zw_i 103 (by decide +kernel) (by decide +kernel)
theorem zw_fX0_25 : Cond.fieldLink RX0 25 RX0 (TX0 16).2.1 (TX0 16).2.2.1 ∈ zWL := zw_i 104 (by decide +kernel) (by decide +kernel)
theorem zw_fX4_314 : Cond.fieldLink RX4 314 RX0 (TX0 16).2.1 (TX0 16).2.2.1 ∈ zWL := zw_i 105 (by decide +kernel) (by decide +kernel)
theorem zw_is_X2 : Cond.instantiable RX2 3 ∈ zWL := zw_i 141 (by decide +kernel) (by decide +kernel)
theorem zw_im_yX2_init : Cond.instanceMethod yX2_init ∈ zWL := zw_i 143 (by decide +kernel) (by decide +kernel)
theorem zw_co_yX2_init : Cond.code yX2_init cX2_init 1 (Option.none : Option FieldType) ∈ zWL := zw_i 144 (by decide +kernel) (by decide +kernel)
theorem zw_fX2_15 : Cond.fieldLink RX2 15 RX2 (TX2 0).2.1 (TX2 0).2.2.1 ∈ zWL := zw_i 146 (by decide +kernel) (by decide +kernel)
theorem zw_fX4_203 : Cond.fieldLink RX4 203 RX2 (TX2 0).2.1 (TX2 0).2.2.1 ∈ zWL := zw_i 147 (by decide +kernel) (by decide +kernel)
theorem zw_fX2_19 : Cond.fieldLink RX2 19 RX2 (TX2 1).2.1 (TX2 1).2.2.1 ∈ zWL := zw_i 148 (by decide +kernel) (by decide +kernel)
theorem zw_fX4_236 : Cond.fieldLink RX4 236 RX2 (TX2 1).2.1 (TX2 1).2.2.1 ∈ zWL := zw_i 149 (by decide +kernel) (by decide +kernel)
theorem zw_fX2_11 : Cond.fieldLink RX2 11 RX2 (TX2 2).2.1 (TX2 2).2.2.1 ∈ zWL := zw_i 150 (by decide +kernel) (by decide +kernel)
theorem zw_fX4_9 : Cond.fieldLink RX4 9 RX4 (TX4 0).2.1 (TX4 0).2.2.1 ∈ zWL := zw_i 158 (by decide +kernel) (by decide +kernel)
theorem zw_fX4_13 : Cond.fieldLink RX4 13 RX4 (TX4 1).2.1 (TX4 1).2.2.1 ∈ zWL := zw_i 159 (by decide +kernel) (by decide +kernel)
theorem zw_fX4_16 : Cond.fieldLink RX4 16 RX4 (TX4 2).2.1 (TX4 2).2.2.1 ∈ zWL := zw_i 160 (by decide +kernel) (by decide +kernel)
theorem zw_fX4_19 : Cond.fieldLink RX4 19 RX4 (TX4 3).2.1 (TX4 3).2.2.1 ∈ zWL := zw_i 161 (by decide +kernel) (by decide +kernel)
theorem zw_fX4_24 : Cond.fieldLink RX4 24 RX4 (TX4 4).2.1 (TX4 4).2.2.1 ∈ zWL := zw_i 162 (by decide +kernel) (by decide +kernel)
theorem zw_fX4_30 : Cond.fieldLink RX4 30 RX4 (TX4 5).2.1 (TX4 5).2.2.1 ∈ zWL := zw_i 163 (by decide +kernel) (by decide +kernel)
theorem zw_fX4_34 : Cond.fieldLink RX4 34 RX4 (TX4 6).2.1 (TX4 6).2.2.1 ∈ zWL := zw_i 164 (by decide +kernel) (by decide +kernel)
theorem zw_fX4_37 : Cond.fieldLink RX4 37 RX4 (TX4 7).2.1 (TX4 7).2.2.1 ∈ zWL := zw_i 165 (by decide +kernel) (by decide +kernel)
theorem zw_fX4_65 : Cond.fieldLink RX4 65 RX4 (TX4 8).2.1 (TX4 8).2.2.1 ∈ zWL := zw_i 166 (by decide +kernel) (by decide +kernel)
theorem zw_fX4_91 : Cond.fieldLink RX4 91 RX4 (TX4 9).2.1 (TX4 9).2.2.1 ∈ zWL := zw_i 167 (by decide +kernel) (by decide +kernel)
theorem zw_fX4_198 : Cond.fieldLink RX4 198 RX4 (TX4 10).2.1 (TX4 10).2.2.1 ∈ zWL := zw_i 168 (by decide +kernel) (by decide +kernel)
theorem zw_fX4_246 : Cond.fieldLink RX4 246 RX4 (TX4 11).2.1 (TX4 11).2.2.1 ∈ zWL := zw_i 169 (by decide +kernel) (by decide +kernel)
theorem zw_fX4_221 : Cond.fieldLink RX4 221 RX4 (TX4 12).2.1 (TX4 12).2.2.1 ∈ zWL := zw_i 170 (by decide +kernel) (by decide +kernel)
theorem zw_fX4_232 : Cond.fieldLink RX4 232 RX4 (TX4 13).2.1 (TX4 13).2.2.1 ∈ zWL := zw_i 171 (by decide +kernel) (by decide +kernel)
theorem zw_mL_143 : Cond.methodLink RL 143 yX4_cellCount ∈ zWL := zw_i 201 (by decide +kernel) (by decide +kernel)
theorem zw_im_yX4_cellCount : Cond.instanceMethod yX4_cellCount ∈ zWL := zw_i 202 (by decide +kernel) (by decide +kernel)
theorem zw_se_yX4_cellCount : Cond.selects RX4 yX4_cellCount yX4_cellCount ∈ zWL := zw_i 203 (by decide +kernel) (by decide +kernel)
theorem zw_co_yX4_cellCount : Cond.code yX4_cellCount cX4_cellCount 1 (Option.some FieldType.int) ∈ zWL := zw_i 204 (by decide +kernel) (by decide +kernel)
theorem zw_mL_156 : Cond.methodLink RL 156 yX4_runAll ∈ zWL := zw_i 205 (by decide +kernel) (by decide +kernel)
theorem zw_im_yX4_runAll : Cond.instanceMethod yX4_runAll ∈ zWL := zw_i 206 (by decide +kernel) (by decide +kernel)
theorem zw_se_yX4_runAll : Cond.selects RX4 yX4_runAll yX4_runAll ∈ zWL := zw_i 207 (by decide +kernel) (by decide +kernel)
theorem zw_co_yX4_runAll : Cond.code yX4_runAll cX4_runAll 4 (Option.some FieldType.int) ∈ zWL := zw_i 208 (by decide +kernel) (by decide +kernel)
theorem zw_mX4_140 : Cond.methodLink RX4 140 yX4_isUpToDate ∈ zWL := zw_i 209 (by decide +kernel) (by decide +kernel)
theorem zw_im_yX4_isUpToDate : Cond.instanceMethod yX4_isUpToDate ∈ zWL := zw_i 211 (by decide +kernel) (by decide +kernel)
theorem zw_co_yX4_isUpToDate : Cond.code yX4_isUpToDate cX4_isUpToDate 3 (Option.some FieldType.boolean) ∈ zWL := zw_i 212 (by decide +kernel) (by decide +kernel)
theorem zw_mX4_284 : Cond.methodLink RX4 284 yX4_isAsThen ∈ zWL := zw_i 213 (by decide +kernel) (by decide +kernel)
theorem zw_im_yX4_isAsThen : Cond.instanceMethod yX4_isAsThen ∈ zWL := zw_i 215 (by decide +kernel) (by decide +kernel)
theorem zw_co_yX4_isAsThen : Cond.code yX4_isAsThen cX4_isAsThen 5 (Option.some FieldType.boolean) ∈ zWL := zw_i 216 (by decide +kernel) (by decide +kernel)
theorem zw_mX4_189 : Cond.methodLink RX4 189 yX4_hasBit ∈ zWL := zw_i 217 (by decide +kernel) (by decide +kernel)
theorem zw_st_yX4_hasBit : Cond.static yX4_hasBit ∈ zWL := zw_i 218 (by decide +kernel) (by decide +kernel)
theorem zw_co_yX4_hasBit : Cond.code yX4_hasBit cX4_hasBit 2 (Option.some FieldType.boolean) ∈ zWL := zw_i 219 (by decide +kernel) (by decide +kernel)
theorem zw_mX4_144 : Cond.methodLink RX4 144 yX4_bit ∈ zWL := zw_i 220 (by decide +kernel) (by decide +kernel)
theorem zw_st_yX4_bit : Cond.static yX4_bit ∈ zWL := zw_i 221 (by decide +kernel) (by decide +kernel)
theorem zw_co_yX4_bit : Cond.code yX4_bit cX4_bit 1 (Option.some FieldType.int) ∈ zWL := zw_i 222 (by decide +kernel) (by decide +kernel)
theorem zw_mX4_136 : Cond.methodLink RX4 136 yX4_execute ∈ zWL := zw_i 223 (by decide +kernel) (by decide +kernel)
theorem zw_im_yX4_execute : Cond.instanceMethod yX4_execute ∈ zWL := zw_i 225 (by decide +kernel) (by decide +kernel)
theorem zw_co_yX4_execute : Cond.code yX4_execute cX4_execute 9 (Option.some FieldType.char) ∈ zWL := zw_i 226 (by decide +kernel) (by decide +kernel)
theorem zw_mX4_290 : Cond.methodLink RX4 290 yX4_firstMissing ∈ zWL := zw_i 227 (by decide +kernel) (by decide +kernel)
theorem zw_st_yX4_firstMissing : Cond.static yX4_firstMissing ∈ zWL := zw_i 228 (by decide +kernel) (by decide +kernel)
theorem zw_co_yX4_firstMissing : Cond.code yX4_firstMissing cX4_firstMissing 2 (Option.some FieldType.int) ∈ zWL := zw_i 229 (by decide +kernel) (by decide +kernel)
theorem zw_mX4_294 : Cond.methodLink RX4 294 yX4_failForMissing ∈ zWL := zw_i 230 (by decide +kernel) (by decide +kernel)
theorem zw_im_yX4_failForMissing : Cond.instanceMethod yX4_failForMissing ∈ zWL := zw_i 232 (by decide +kernel) (by decide +kernel)
theorem zw_co_yX4_failForMissing : Cond.code yX4_failForMissing cX4_failForMissing 5 (Option.none : Option FieldType) ∈ zWL := zw_i 233 (by decide +kernel) (by decide +kernel)
theorem zw_mX4_339 : Cond.methodLink RX4 339 yX1_setCausedBy ∈ zWL := zw_i 234 (by decide +kernel) (by decide +kernel)
theorem zw_im_yX1_setCausedBy : Cond.instanceMethod yX1_setCausedBy ∈ zWL := zw_i 235 (by decide +kernel) (by decide +kernel)
theorem zw_se_yX1_setCausedBy : Cond.selects RX1 yX1_setCausedBy yX1_setCausedBy ∈ zWL := zw_i 236 (by decide +kernel) (by decide +kernel)
theorem zw_co_yX1_setCausedBy : Cond.code yX1_setCausedBy cX1_setCausedBy 3 (Option.none : Option FieldType) ∈ zWL := zw_i 237 (by decide +kernel) (by decide +kernel)
theorem zw_mX4_306 : Cond.methodLink RX4 306 yX1_setWithoutCause ∈ zWL := zw_i 238 (by decide +kernel) (by decide +kernel)
theorem zw_im_yX1_setWithoutCause : Cond.instanceMethod yX1_setWithoutCause ∈ zWL := zw_i 239 (by decide +kernel) (by decide +kernel)
theorem zw_se_yX1_setWithoutCause : Cond.selects RX1 yX1_setWithoutCause yX1_setWithoutCause ∈ zWL := zw_i 240 (by decide +kernel) (by decide +kernel)
theorem zw_co_yX1_setWithoutCause : Cond.code yX1_setWithoutCause cX1_setWithoutCause 3 (Option.none : Option FieldType) ∈ zWL := zw_i 241 (by decide +kernel) (by decide +kernel)
theorem zw_mX4_310 : Cond.methodLink RX4 310 yX4_endWith ∈ zWL := zw_i 242 (by decide +kernel) (by decide +kernel)
theorem zw_im_yX4_endWith : Cond.instanceMethod yX4_endWith ∈ zWL := zw_i 244 (by decide +kernel) (by decide +kernel)
theorem zw_co_yX4_endWith : Cond.code yX4_endWith cX4_endWith 4 (Option.none : Option FieldType) ∈ zWL := zw_i 245 (by decide +kernel) (by decide +kernel)
theorem zw_mX4_298 : Cond.methodLink RX4 298 yX4_valueIfAny ∈ zWL := zw_i 246 (by decide +kernel) (by decide +kernel)
theorem zw_st_yX4_valueIfAny : Cond.static yX4_valueIfAny ∈ zWL := zw_i 247 (by decide +kernel) (by decide +kernel)
theorem zw_co_yX4_valueIfAny : Cond.code yX4_valueIfAny cX4_valueIfAny 2 (Option.some FieldType.int) ∈ zWL := zw_i 248 (by decide +kernel) (by decide +kernel)
theorem zw_mX4_302 : Cond.methodLink RX4 302 yX4_resultOf ∈ zWL := zw_i 249 (by decide +kernel) (by decide +kernel)
theorem zw_st_yX4_resultOf : Cond.static yX4_resultOf ∈ zWL := zw_i 250 (by decide +kernel) (by decide +kernel)
theorem zw_co_yX4_resultOf : Cond.code yX4_resultOf cX4_resultOf 5 (Option.some FieldType.int) ∈ zWL := zw_i 251 (by decide +kernel) (by decide +kernel)
theorem zw_mX4_343 : Cond.methodLink RX4 343 yJ9_abs_0f7a4 ∈ zWL := zw_i 252 (by decide +kernel) (by decide +kernel)
theorem zw_st_yJ9_abs_0f7a4 : Cond.static yJ9_abs_0f7a4 ∈ zWL := zw_i 253 (by decide +kernel) (by decide +kernel)
theorem zw_co_yJ9_abs_0f7a4 : Cond.code yJ9_abs_0f7a4 cJ9_abs_0f7a4 1 (Option.some FieldType.int) ∈ zWL := zw_i 254 (by decide +kernel) (by decide +kernel)
theorem zw_mX4_318 : Cond.methodLink RX4 318 yX3_find ∈ zWL := zw_i 255 (by decide +kernel) (by decide +kernel)
theorem zw_im_yX3_find : Cond.instanceMethod yX3_find ∈ zWL := zw_i 256 (by decide +kernel) (by decide +kernel)
theorem zw_se_yX3_find : Cond.selects RX3 yX3_find yX3_find ∈ zWL := zw_i 257 (by decide +kernel) (by decide +kernel)
theorem zw_co_yX3_find : Cond.code yX3_find cX3_find 5 (Option.some FieldType.int) ∈ zWL := zw_i 258 (by decide +kernel) (by decide +kernel)
theorem zw_mX4_324 : Cond.methodLink RX4 324 yX4_succeedWith ∈ zWL := zw_i 259 (by decide +kernel) (by decide +kernel)
theorem zw_im_yX4_succeedWith : Cond.instanceMethod yX4_succeedWith ∈ zWL := zw_i 261 (by decide +kernel) (by decide +kernel)
theorem zw_co_yX4_succeedWith : Cond.code yX4_succeedWith cX4_succeedWith 5 (Option.none : Option FieldType) ∈ zWL := zw_i 262 (by decide +kernel) (by decide +kernel)
theorem zw_mX4_328 : Cond.methodLink RX4 328 yX4_kernelFor ∈ zWL := zw_i 263 (by decide +kernel) (by decide +kernel)
theorem zw_im_yX4_kernelFor : Cond.instanceMethod yX4_kernelFor ∈ zWL := zw_i 265 (by decide +kernel) (by decide +kernel)
theorem zw_co_yX4_kernelFor : Cond.code yX4_kernelFor cX4_kernelFor 5 (Option.some FieldType.int) ∈ zWL := zw_i 266 (by decide +kernel) (by decide +kernel)
theorem zw_mX4_211 : Cond.methodLink RX4 211 yX2_roomLeft ∈ zWL := zw_i 267 (by decide +kernel) (by decide +kernel)
theorem zw_im_yX2_roomLeft : Cond.instanceMethod yX2_roomLeft ∈ zWL := zw_i 268 (by decide +kernel) (by decide +kernel)
theorem zw_se_yX2_roomLeft : Cond.selects RX2 yX2_roomLeft yX2_roomLeft ∈ zWL := zw_i 269 (by decide +kernel) (by decide +kernel)
theorem zw_co_yX2_roomLeft : Cond.code yX2_roomLeft cX2_roomLeft 1 (Option.some FieldType.int) ∈ zWL := zw_i 270 (by decide +kernel) (by decide +kernel)
theorem zw_mX4_331 : Cond.methodLink RX4 331 yX2_take ∈ zWL := zw_i 271 (by decide +kernel) (by decide +kernel)
theorem zw_im_yX2_take : Cond.instanceMethod yX2_take ∈ zWL := zw_i 272 (by decide +kernel) (by decide +kernel)
theorem zw_se_yX2_take : Cond.selects RX2 yX2_take yX2_take ∈ zWL := zw_i 273 (by decide +kernel) (by decide +kernel)
theorem zw_co_yX2_take : Cond.code yX2_take cX2_take 3 (Option.none : Option FieldType) ∈ zWL := zw_i 274 (by decide +kernel) (by decide +kernel)
theorem zw_mX2_22 : Cond.methodLink RX2 22 yJ9_floorMod_7cf53 ∈ zWL := zw_i 275 (by decide +kernel) (by decide +kernel)
theorem zw_st_yJ9_floorMod_7cf53 : Cond.static yJ9_floorMod_7cf53 ∈ zWL := zw_i 276 (by decide +kernel) (by decide +kernel)
theorem zw_co_yJ9_floorMod_7cf53 : Cond.code yJ9_floorMod_7cf53 cJ9_floorMod_7cf53 3 (Option.some FieldType.int) ∈ zWL := zw_i 277 (by decide +kernel) (by decide +kernel)
theorem zw_mX4_335 : Cond.methodLink RX4 335 yX3_keep ∈ zWL := zw_i 278 (by decide +kernel) (by decide +kernel)
theorem zw_im_yX3_keep : Cond.instanceMethod yX3_keep ∈ zWL := zw_i 279 (by decide +kernel) (by decide +kernel)
theorem zw_se_yX3_keep : Cond.selects RX3 yX3_keep yX3_keep ∈ zWL := zw_i 280 (by decide +kernel) (by decide +kernel)
theorem zw_co_yX3_keep : Cond.code yX3_keep cX3_keep 5 (Option.none : Option FieldType) ∈ zWL := zw_i 281 (by decide +kernel) (by decide +kernel)
theorem zw_mX4_147 : Cond.methodLink RX4 147 yJ6_bitCount_0f7a4 ∈ zWL := zw_i 282 (by decide +kernel) (by decide +kernel)
theorem zw_st_yJ6_bitCount_0f7a4 : Cond.static yJ6_bitCount_0f7a4 ∈ zWL := zw_i 283 (by decide +kernel) (by decide +kernel)
theorem zw_co_yJ6_bitCount_0f7a4 : Cond.code yJ6_bitCount_0f7a4 cJ6_bitCount_0f7a4 1 (Option.some FieldType.int) ∈ zWL := zw_i 284 (by decide +kernel) (by decide +kernel)
-- constant "java/lang/Integer" 265 (1431655765 : Int32)
theorem zw_k_265 : Cond.constant RJ6 265 (1431655765 : Int32) ∈ zWL := zw_i 285 (by decide +kernel) (by decide +kernel)
-- constant "java/lang/Integer" 266 (858993459 : Int32)
theorem zw_k_266 : Cond.constant RJ6 266 (858993459 : Int32) ∈ zWL := zw_i 286 (by decide +kernel) (by decide +kernel)
-- constant "java/lang/Integer" 267 (252645135 : Int32)
theorem zw_k_267 : Cond.constant RJ6 267 (252645135 : Int32) ∈ zWL := zw_i 287 (by decide +kernel) (by decide +kernel)
theorem zw_mL_166 : Cond.methodLink RL 166 yX4_fresh ∈ zWL := zw_i 288 (by decide +kernel) (by decide +kernel)
theorem zw_im_yX4_fresh : Cond.instanceMethod yX4_fresh ∈ zWL := zw_i 289 (by decide +kernel) (by decide +kernel)
theorem zw_se_yX4_fresh : Cond.selects RX4 yX4_fresh yX4_fresh ∈ zWL := zw_i 290 (by decide +kernel) (by decide +kernel)
theorem zw_co_yX4_fresh : Cond.code yX4_fresh cX4_fresh 1 (Option.some FieldType.int) ∈ zWL := zw_i 291 (by decide +kernel) (by decide +kernel)
theorem zw_mX4_163 : Cond.methodLink RX4 163 yX4_freshCells ∈ zWL := zw_i 292 (by decide +kernel) (by decide +kernel)
theorem zw_im_yX4_freshCells : Cond.instanceMethod yX4_freshCells ∈ zWL := zw_i 294 (by decide +kernel) (by decide +kernel)
theorem zw_co_yX4_freshCells : Cond.code yX4_freshCells cX4_freshCells 3 (Option.some FieldType.int) ∈ zWL := zw_i 295 (by decide +kernel) (by decide +kernel)
theorem zw_mL_209 : Cond.methodLink RL 209 yX4_tick ∈ zWL := zw_i 296 (by decide +kernel) (by decide +kernel)
theorem zw_im_yX4_tick : Cond.instanceMethod yX4_tick ∈ zWL := zw_i 297 (by decide +kernel) (by decide +kernel)
theorem zw_se_yX4_tick : Cond.selects RX4 yX4_tick yX4_tick ∈ zWL := zw_i 298 (by decide +kernel) (by decide +kernel)
theorem zw_co_yX4_tick : Cond.code yX4_tick cX4_tick 1 (Option.some FieldType.int) ∈ zWL := zw_i 299 (by decide +kernel) (by decide +kernel)
theorem zw_mL_213 : Cond.methodLink RL 213 yX4_work ∈ zWL := zw_i 300 (by decide +kernel) (by decide +kernel)
theorem zw_im_yX4_work : Cond.instanceMethod yX4_work ∈ zWL := zw_i 301 (by decide +kernel) (by decide +kernel)
theorem zw_se_yX4_work : Cond.selects RX4 yX4_work yX4_work ∈ zWL := zw_i 302 (by decide +kernel) (by decide +kernel)
theorem zw_co_yX4_work : Cond.code yX4_work cX4_work 1 (Option.some FieldType.long) ∈ zWL := zw_i 303 (by decide +kernel) (by decide +kernel)
theorem zw_mL_234 : Cond.methodLink RL 234 yX4_isSound ∈ zWL := zw_i 304 (by decide +kernel) (by decide +kernel)
theorem zw_im_yX4_isSound : Cond.instanceMethod yX4_isSound ∈ zWL := zw_i 305 (by decide +kernel) (by decide +kernel)
theorem zw_se_yX4_isSound : Cond.selects RX4 yX4_isSound yX4_isSound ∈ zWL := zw_i 306 (by decide +kernel) (by decide +kernel)
theorem zw_co_yX4_isSound : Cond.code yX4_isSound cX4_isSound 1 (Option.some FieldType.boolean) ∈ zWL := zw_i 307 (by decide +kernel) (by decide +kernel)
theorem zw_mX4_254 : Cond.methodLink RX4 254 yX4_freshCellsAreRight ∈ zWL := zw_i 308 (by decide +kernel) (by decide +kernel)
theorem zw_im_yX4_freshCellsAreRight : Cond.instanceMethod yX4_freshCellsAreRight ∈ zWL := zw_i 310 (by decide +kernel) (by decide +kernel)
theorem zw_co_yX4_freshCellsAreRight : Cond.code yX4_freshCellsAreRight cX4_freshCellsAreRight 4 (Option.some FieldType.boolean) ∈ zWL := zw_i 311 (by decide +kernel) (by decide +kernel)
theorem zw_mX4_158 : Cond.methodLink RX4 158 yX4_computeAnew ∈ zWL := zw_i 312 (by decide +kernel) (by decide +kernel)
theorem zw_im_yX4_computeAnew : Cond.instanceMethod yX4_computeAnew ∈ zWL := zw_i 314 (by decide +kernel) (by decide +kernel)
theorem zw_co_yX4_computeAnew : Cond.code yX4_computeAnew cX4_computeAnew 3 (Option.none : Option FieldType) ∈ zWL := zw_i 315 (by decide +kernel) (by decide +kernel)
theorem zw_mX4_193 : Cond.methodLink RX4 193 yX4_isData ∈ zWL := zw_i 316 (by decide +kernel) (by decide +kernel)
theorem zw_im_yX4_isData : Cond.instanceMethod yX4_isData ∈ zWL := zw_i 318 (by decide +kernel) (by decide +kernel)
theorem zw_co_yX4_isData : Cond.code yX4_isData cX4_isData 2 (Option.some FieldType.boolean) ∈ zWL := zw_i 319 (by decide +kernel) (by decide +kernel)
theorem zw_mX4_258 : Cond.methodLink RX4 258 yX4_kernelsAreRight ∈ zWL := zw_i 320 (by decide +kernel) (by decide +kernel)
theorem zw_im_yX4_kernelsAreRight : Cond.instanceMethod yX4_kernelsAreRight ∈ zWL := zw_i 322 (by decide +kernel) (by decide +kernel)
theorem zw_co_yX4_kernelsAreRight : Cond.code yX4_kernelsAreRight cX4_kernelsAreRight 2 (Option.some FieldType.boolean) ∈ zWL := zw_i 323 (by decide +kernel) (by decide +kernel)
theorem zw_mX4_46 : Cond.methodLink RX4 46 yX4_isWithin ∈ zWL := zw_i 324 (by decide +kernel) (by decide +kernel)
theorem zw_st_yX4_isWithin : Cond.static yX4_isWithin ∈ zWL := zw_i 325 (by decide +kernel) (by decide +kernel)
theorem zw_co_yX4_isWithin : Cond.code yX4_isWithin cX4_isWithin 3 (Option.some FieldType.boolean) ∈ zWL := zw_i 326 (by decide +kernel) (by decide +kernel)
theorem zw_mX4_261 : Cond.methodLink RX4 261 yX4_failuresAreRight ∈ zWL := zw_i 327 (by decide +kernel) (by decide +kernel)
theorem zw_im_yX4_failuresAreRight : Cond.instanceMethod yX4_failuresAreRight ∈ zWL := zw_i 329 (by decide +kernel) (by decide +kernel)
theorem zw_co_yX4_failuresAreRight : Cond.code yX4_failuresAreRight cX4_failuresAreRight 3 (Option.some FieldType.boolean) ∈ zWL := zw_i 330 (by decide +kernel) (by decide +kernel)
theorem zw_mL_118 : Cond.methodLink RL 118 yL_addData ∈ zWL := zw_i 331 (by decide +kernel) (by decide +kernel)
theorem zw_st_yL_addData : Cond.static yL_addData ∈ zWL := zw_i 332 (by decide +kernel) (by decide +kernel)
-- codeWith yL_addData: (Option.some Jvm.ClassFile.FieldType.int) [(0, 12, 15, 13), (0, 12, 19, 15)]
theorem zw_cw_yL_addData : Cond.codeWith yL_addData cL_addData 6 (some FieldType.int) [(0, 12, 15, 13), (0, 12, 19, 15)] ∈ zWL := zw_i 333 (by decide +kernel) (by decide +kernel)
theorem zw_cL_13 : Cond.classLink RL 13 "java/lang/IllegalArgumentException" ∈ zWL := zw_i 334 (by decide +kernel) (by decide +kernel)
theorem zw_cL_15 : Cond.classLink RL 15 "java/lang/IllegalStateException" ∈ zWL := zw_i 335 (by decide +kernel) (by decide +kernel)
theorem zw_mL_7 : Cond.methodLink RL 7 yX4_addData ∈ zWL := zw_i 336 (by decide +kernel) (by decide +kernel)
theorem zw_im_yX4_addData : Cond.instanceMethod yX4_addData ∈ zWL := zw_i 337 (by decide +kernel) (by decide +kernel)
theorem zw_se_yX4_addData : Cond.selects RX4 yX4_addData yX4_addData ∈ zWL := zw_i 338 (by decide +kernel) (by decide +kernel)
theorem zw_co_yX4_addData : Cond.code yX4_addData cX4_addData 4 (Option.some FieldType.int) ∈ zWL := zw_i 339 (by decide +kernel) (by decide +kernel)
theorem zw_mX4_42 : Cond.methodLink RX4 42 yX4_isVariable ∈ zWL := zw_i 340 (by decide +kernel) (by decide +kernel)
theorem zw_st_yX4_isVariable : Cond.static yX4_isVariable ∈ zWL := zw_i 341 (by decide +kernel) (by decide +kernel)
theorem zw_co_yX4_isVariable : Cond.code yX4_isVariable cX4_isVariable 1 (Option.some FieldType.boolean) ∈ zWL := zw_i 342 (by decide +kernel) (by decide +kernel)
theorem zw_cX4_50 : Cond.classLink RX4 50 "java/lang/IllegalArgumentException" ∈ zWL := zw_i 343 (by decide +kernel) (by decide +kernel)
theorem zt_ca_IllegalArgumentException : Cond.castable "java/lang/IllegalArgumentException" "java/lang/IllegalArgumentException" ∈ lw_tbl := List.mem_append_right _ (List.mem_of_getElem? (i := 345) (by decide +kernel))
theorem zw_ac_byte : Cond.arrayClass .byte ∈ zWL := zw_i 414 (by decide +kernel) (by decide +kernel)
theorem zw_mX4_57 : Cond.methodLink RX4 57 yX4_isDefined ∈ zWL := zw_i 415 (by decide +kernel) (by decide +kernel)
theorem zw_im_yX4_isDefined : Cond.instanceMethod yX4_isDefined ∈ zWL := zw_i 417 (by decide +kernel) (by decide +kernel)
theorem zw_co_yX4_isDefined : Cond.code yX4_isDefined cX4_isDefined 2 (Option.some FieldType.boolean) ∈ zWL := zw_i 418 (by decide +kernel) (by decide +kernel)
theorem zw_cX4_60 : Cond.classLink RX4 60 "java/lang/IllegalStateException" ∈ zWL := zw_i 419 (by decide +kernel) (by decide +kernel)
theorem zt_ca_IllegalStateException : Cond.castable "java/lang/IllegalStateException" "java/lang/IllegalStateException" ∈ lw_tbl := List.mem_append_right _ (List.mem_of_getElem? (i := 421) (by decide +kernel))
theorem zw_mL_128 : Cond.methodLink RL 128 yL_setData ∈ zWL := zw_i 435 (by decide +kernel) (by decide +kernel)
theorem zw_st_yL_setData : Cond.static yL_setData ∈ zWL := zw_i 436 (by decide +kernel) (by decide +kernel)
-- codeWith yL_setData: (Option.some Jvm.ClassFile.FieldType.int) [(0, 10, 13, 13), (0, 10, 17, 21)]
theorem zw_cw_yL_setData : Cond.codeWith yL_setData cL_setData 5 (some FieldType.int) [(0, 10, 13, 13), (0, 10, 17, 21)] ∈ zWL := zw_i 437 (by decide +kernel) (by decide +kernel)
theorem zw_cL_21 : Cond.classLink RL 21 "java/util/NoSuchElementException" ∈ zWL := zw_i 438 (by decide +kernel) (by decide +kernel)
theorem zw_mL_17 : Cond.methodLink RL 17 yX4_setData ∈ zWL := zw_i 439 (by decide +kernel) (by decide +kernel)
theorem zw_im_yX4_setData : Cond.instanceMethod yX4_setData ∈ zWL := zw_i 440 (by decide +kernel) (by decide +kernel)
theorem zw_se_yX4_setData : Cond.selects RX4 yX4_setData yX4_setData ∈ zWL := zw_i 441 (by decide +kernel) (by decide +kernel)
theorem zw_co_yX4_setData : Cond.code yX4_setData cX4_setData 4 (Option.some FieldType.int) ∈ zWL := zw_i 442 (by decide +kernel) (by decide +kernel)
theorem zw_mX4_71 : Cond.methodLink RX4 71 yX4_checkData ∈ zWL := zw_i 444 (by decide +kernel) (by decide +kernel)
theorem zw_im_yX4_checkData : Cond.instanceMethod yX4_checkData ∈ zWL := zw_i 446 (by decide +kernel) (by decide +kernel)
theorem zw_co_yX4_checkData : Cond.code yX4_checkData cX4_checkData 2 (Option.none : Option FieldType) ∈ zWL := zw_i 447 (by decide +kernel) (by decide +kernel)
theorem zw_cX4_131 : Cond.classLink RX4 131 "java/util/NoSuchElementException" ∈ zWL := zw_i 448 (by decide +kernel) (by decide +kernel)
theorem zt_ca_NoSuchElementException : Cond.castable "java/util/NoSuchElementException" "java/util/NoSuchElementException" ∈ lw_tbl := List.mem_append_right _ (List.mem_of_getElem? (i := 450) (by decide +kernel))
theorem zw_mL_132 : Cond.methodLink RL 132 yL_loseData ∈ zWL := zw_i 464 (by decide +kernel) (by decide +kernel)
theorem zw_st_yL_loseData : Cond.static yL_loseData ∈ zWL := zw_i 465 (by decide +kernel) (by decide +kernel)
-- codeWith yL_loseData: (Option.some Jvm.ClassFile.FieldType.int) [(0, 9, 12, 13), (0, 9, 15, 21), (0, 9, 18, 15)]
theorem zw_cw_yL_loseData : Cond.codeWith yL_loseData cL_loseData 4 (some FieldType.int) [(0, 9, 12, 13), (0, 9, 15, 21), (0, 9, 18, 15)] ∈ zWL := zw_i 466 (by decide +kernel) (by decide +kernel)
theorem zw_mL_23 : Cond.methodLink RL 23 yX4_loseData ∈ zWL := zw_i 467 (by decide +kernel) (by decide +kernel)
theorem zw_im_yX4_loseData : Cond.instanceMethod yX4_loseData ∈ zWL := zw_i 468 (by decide +kernel) (by decide +kernel)
theorem zw_se_yX4_loseData : Cond.selects RX4 yX4_loseData yX4_loseData ∈ zWL := zw_i 469 (by decide +kernel) (by decide +kernel)
theorem zw_co_yX4_loseData : Cond.code yX4_loseData cX4_loseData 3 (Option.some FieldType.int) ∈ zWL := zw_i 470 (by decide +kernel) (by decide +kernel)
theorem zw_mX4_75 : Cond.methodLink RX4 75 yX4_checkVariable ∈ zWL := zw_i 471 (by decide +kernel) (by decide +kernel)
theorem zw_st_yX4_checkVariable : Cond.static yX4_checkVariable ∈ zWL := zw_i 472 (by decide +kernel) (by decide +kernel)
theorem zw_co_yX4_checkVariable : Cond.code yX4_checkVariable cX4_checkVariable 1 (Option.none : Option FieldType) ∈ zWL := zw_i 473 (by decide +kernel) (by decide +kernel)
theorem zw_mL_136 : Cond.methodLink RL 136 yL_addCell ∈ zWL := zw_i 476 (by decide +kernel) (by decide +kernel)
theorem zw_st_yL_addCell : Cond.static yL_addCell ∈ zWL := zw_i 477 (by decide +kernel) (by decide +kernel)
-- codeWith yL_addCell: (Option.some Jvm.ClassFile.FieldType.int) [(0, 20, 23, 13), (0, 20, 27, 31)]
theorem zw_cw_yL_addCell : Cond.codeWith yL_addCell cL_addCell 10 (some FieldType.int) [(0, 20, 23, 13), (0, 20, 27, 31)] ∈ zWL := zw_i 478 (by decide +kernel) (by decide +kernel)
theorem zw_cL_31 : Cond.classLink RL 31 "java/lang/UnsupportedOperationException" ∈ zWL := zw_i 479 (by decide +kernel) (by decide +kernel)
theorem zw_mL_27 : Cond.methodLink RL 27 yX4_addCell ∈ zWL := zw_i 480 (by decide +kernel) (by decide +kernel)
theorem zw_im_yX4_addCell : Cond.instanceMethod yX4_addCell ∈ zWL := zw_i 481 (by decide +kernel) (by decide +kernel)
theorem zw_se_yX4_addCell : Cond.selects RX4 yX4_addCell yX4_addCell ∈ zWL := zw_i 482 (by decide +kernel) (by decide +kernel)
theorem zw_co_yX4_addCell : Cond.code yX4_addCell cX4_addCell 10 (Option.some FieldType.int) ∈ zWL := zw_i 483 (by decide +kernel) (by decide +kernel)
theorem zw_mX4_80 : Cond.methodLink RX4 80 yX4_isKind ∈ zWL := zw_i 484 (by decide +kernel) (by decide +kernel)
theorem zw_st_yX4_isKind : Cond.static yX4_isKind ∈ zWL := zw_i 485 (by decide +kernel) (by decide +kernel)
theorem zw_co_yX4_isKind : Cond.code yX4_isKind cX4_isKind 1 (Option.some FieldType.boolean) ∈ zWL := zw_i 486 (by decide +kernel) (by decide +kernel)
theorem zw_cX4_86 : Cond.classLink RX4 86 "java/lang/UnsupportedOperationException" ∈ zWL := zw_i 488 (by decide +kernel) (by decide +kernel)
theorem zt_ca_UnsupportedOperationException : Cond.castable "java/lang/UnsupportedOperationException" "java/lang/UnsupportedOperationException" ∈ lw_tbl := List.mem_append_right _ (List.mem_of_getElem? (i := 490) (by decide +kernel))
theorem zw_mX4_118 : Cond.methodLink RX4 118 yX4_lineageThrough ∈ zWL := zw_i 505 (by decide +kernel) (by decide +kernel)
theorem zw_im_yX4_lineageThrough : Cond.instanceMethod yX4_lineageThrough ∈ zWL := zw_i 507 (by decide +kernel) (by decide +kernel)
theorem zw_co_yX4_lineageThrough : Cond.code yX4_lineageThrough cX4_lineageThrough 3 (Option.some FieldType.int) ∈ zWL := zw_i 508 (by decide +kernel) (by decide +kernel)
theorem zw_mL_140 : Cond.methodLink RL 140 yL_setConstant ∈ zWL := zw_i 509 (by decide +kernel) (by decide +kernel)
theorem zw_st_yL_setConstant : Cond.static yL_setConstant ∈ zWL := zw_i 510 (by decide +kernel) (by decide +kernel)
-- codeWith yL_setConstant: (Option.some Jvm.ClassFile.FieldType.int) [(0, 10, 13, 36), (0, 10, 17, 13)]
theorem zw_cw_yL_setConstant : Cond.codeWith yL_setConstant cL_setConstant 5 (some FieldType.int) [(0, 10, 13, 36), (0, 10, 17, 13)] ∈ zWL := zw_i 511 (by decide +kernel) (by decide +kernel)
theorem zw_cL_36 : Cond.classLink RL 36 "java/lang/IndexOutOfBoundsException" ∈ zWL := zw_i 512 (by decide +kernel) (by decide +kernel)
theorem zt_ca_ArrayIndexOutOfBoundsException : Cond.castable "java/lang/ArrayIndexOutOfBoundsException" "java/lang/ArrayIndexOutOfBoundsException" ∈ lw_tbl := List.mem_append_right _ (List.mem_of_getElem? (i := 527) (by decide +kernel))
theorem zw_mL_33 : Cond.methodLink RL 33 yX4_setConstant ∈ zWL := zw_i 536 (by decide +kernel) (by decide +kernel)
theorem zw_im_yX4_setConstant : Cond.instanceMethod yX4_setConstant ∈ zWL := zw_i 537 (by decide +kernel) (by decide +kernel)
theorem zw_se_yX4_setConstant : Cond.selects RX4 yX4_setConstant yX4_setConstant ∈ zWL := zw_i 538 (by decide +kernel) (by decide +kernel)
theorem zw_co_yX4_setConstant : Cond.code yX4_setConstant cX4_setConstant 5 (Option.some FieldType.int) ∈ zWL := zw_i 539 (by decide +kernel) (by decide +kernel)
theorem zw_mX4_125 : Cond.methodLink RX4 125 yX4_cellAt ∈ zWL := zw_i 540 (by decide +kernel) (by decide +kernel)
theorem zw_im_yX4_cellAt : Cond.instanceMethod yX4_cellAt ∈ zWL := zw_i 542 (by decide +kernel) (by decide +kernel)
theorem zw_co_yX4_cellAt : Cond.code yX4_cellAt cX4_cellAt 2 (Option.some (FieldType.object "NotebookLab$Cell")) ∈ zWL := zw_i 543 (by decide +kernel) (by decide +kernel)
theorem zw_cX4_206 : Cond.classLink RX4 206 "java/lang/IndexOutOfBoundsException" ∈ zWL := zw_i 544 (by decide +kernel) (by decide +kernel)
theorem zt_ca_IndexOutOfBoundsException : Cond.castable "java/lang/IndexOutOfBoundsException" "java/lang/IndexOutOfBoundsException" ∈ lw_tbl := List.mem_append_right _ (List.mem_of_getElem? (i := 546) (by decide +kernel))
theorem zw_mL_147 : Cond.methodLink RL 147 yL_value ∈ zWL := zw_i 558 (by decide +kernel) (by decide +kernel)
theorem zw_st_yL_value : Cond.static yL_value ∈ zWL := zw_i 559 (by decide +kernel) (by decide +kernel)
-- codeWith yL_value: (Option.some Jvm.ClassFile.FieldType.int) [(0, 9, 12, 13), (0, 9, 15, 21)]
theorem zw_cw_yL_value : Cond.codeWith yL_value cL_value 4 (some FieldType.int) [(0, 9, 12, 13), (0, 9, 15, 21)] ∈ zWL := zw_i 560 (by decide +kernel) (by decide +kernel)
theorem zw_mL_38 : Cond.methodLink RL 38 yX4_value ∈ zWL := zw_i 561 (by decide +kernel) (by decide +kernel)
theorem zw_im_yX4_value : Cond.instanceMethod yX4_value ∈ zWL := zw_i 562 (by decide +kernel) (by decide +kernel)
theorem zw_se_yX4_value : Cond.selects RX4 yX4_value yX4_value ∈ zWL := zw_i 563 (by decide +kernel) (by decide +kernel)
theorem zw_co_yX4_value : Cond.code yX4_value cX4_value 2 (Option.some FieldType.int) ∈ zWL := zw_i 564 (by decide +kernel) (by decide +kernel)
theorem zw_mL_150 : Cond.methodLink RL 150 yL_writer ∈ zWL := zw_i 565 (by decide +kernel) (by decide +kernel)
theorem zw_st_yL_writer : Cond.static yL_writer ∈ zWL := zw_i 566 (by decide +kernel) (by decide +kernel)
-- codeWith yL_writer: (Option.some Jvm.ClassFile.FieldType.int) [(0, 9, 12, 13), (0, 9, 15, 21)]
theorem zw_cw_yL_writer : Cond.codeWith yL_writer cL_writer 4 (some FieldType.int) [(0, 9, 12, 13), (0, 9, 15, 21)] ∈ zWL := zw_i 567 (by decide +kernel) (by decide +kernel)
theorem zw_mL_41 : Cond.methodLink RL 41 yX4_writer ∈ zWL := zw_i 568 (by decide +kernel) (by decide +kernel)
theorem zw_im_yX4_writer : Cond.instanceMethod yX4_writer ∈ zWL := zw_i 569 (by decide +kernel) (by decide +kernel)
theorem zw_se_yX4_writer : Cond.selects RX4 yX4_writer yX4_writer ∈ zWL := zw_i 570 (by decide +kernel) (by decide +kernel)
theorem zw_co_yX4_writer : Cond.code yX4_writer cX4_writer 2 (Option.some FieldType.int) ∈ zWL := zw_i 571 (by decide +kernel) (by decide +kernel)
theorem zw_mL_153 : Cond.methodLink RL 153 yL_run ∈ zWL := zw_i 573 (by decide +kernel) (by decide +kernel)
theorem zw_st_yL_run : Cond.static yL_run ∈ zWL := zw_i 574 (by decide +kernel) (by decide +kernel)
-- codeWith yL_run: (Option.some Jvm.ClassFile.FieldType.int) [(0, 9, 12, 36)]
theorem zw_cw_yL_run : Cond.codeWith yL_run cL_run 4 (some FieldType.int) [(0, 9, 12, 36)] ∈ zWL := zw_i 575 (by decide +kernel) (by decide +kernel)
theorem zw_mL_44 : Cond.methodLink RL 44 yX4_run ∈ zWL := zw_i 576 (by decide +kernel) (by decide +kernel)
theorem zw_im_yX4_run : Cond.instanceMethod yX4_run ∈ zWL := zw_i 577 (by decide +kernel) (by decide +kernel)
theorem zw_se_yX4_run : Cond.selects RX4 yX4_run yX4_run ∈ zWL := zw_i 578 (by decide +kernel) (by decide +kernel)
theorem zw_co_yX4_run : Cond.code yX4_run cX4_run 2 (Option.some FieldType.char) ∈ zWL := zw_i 579 (by decide +kernel) (by decide +kernel)
theorem zw_mL_160 : Cond.methodLink RL 160 yL_state ∈ zWL := zw_i 580 (by decide +kernel) (by decide +kernel)
theorem zw_st_yL_state : Cond.static yL_state ∈ zWL := zw_i 581 (by decide +kernel) (by decide +kernel)
-- codeWith yL_state: (Option.some Jvm.ClassFile.FieldType.int) [(0, 9, 12, 36)]
theorem zw_cw_yL_state : Cond.codeWith yL_state cL_state 4 (some FieldType.int) [(0, 9, 12, 36)] ∈ zWL := zw_i 582 (by decide +kernel) (by decide +kernel)
theorem zw_mL_48 : Cond.methodLink RL 48 yX4_state ∈ zWL := zw_i 583 (by decide +kernel) (by decide +kernel)
theorem zw_im_yX4_state : Cond.instanceMethod yX4_state ∈ zWL := zw_i 584 (by decide +kernel) (by decide +kernel)
theorem zw_se_yX4_state : Cond.selects RX4 yX4_state yX4_state ∈ zWL := zw_i 585 (by decide +kernel) (by decide +kernel)
theorem zw_co_yX4_state : Cond.code yX4_state cX4_state 3 (Option.some FieldType.char) ∈ zWL := zw_i 586 (by decide +kernel) (by decide +kernel)
theorem zw_mX4_155 : Cond.methodLink RX4 155 yX4_isFresh ∈ zWL := zw_i 587 (by decide +kernel) (by decide +kernel)
theorem zw_im_yX4_isFresh : Cond.instanceMethod yX4_isFresh ∈ zWL := zw_i 589 (by decide +kernel) (by decide +kernel)
theorem zw_co_yX4_isFresh : Cond.code yX4_isFresh cX4_isFresh 2 (Option.some FieldType.boolean) ∈ zWL := zw_i 590 (by decide +kernel) (by decide +kernel)
theorem zw_mL_163 : Cond.methodLink RL 163 yL_resultAnew ∈ zWL := zw_i 591 (by decide +kernel) (by decide +kernel)
theorem zw_st_yL_resultAnew : Cond.static yL_resultAnew ∈ zWL := zw_i 592 (by decide +kernel) (by decide +kernel)
-- codeWith yL_resultAnew: (Option.some Jvm.ClassFile.FieldType.int) [(0, 9, 12, 36), (0, 9, 15, 31)]
theorem zw_cw_yL_resultAnew : Cond.codeWith yL_resultAnew cL_resultAnew 4 (some FieldType.int) [(0, 9, 12, 36), (0, 9, 15, 31)] ∈ zWL := zw_i 593 (by decide +kernel) (by decide +kernel)
theorem zw_mL_51 : Cond.methodLink RL 51 yX4_resultAnew ∈ zWL := zw_i 594 (by decide +kernel) (by decide +kernel)
theorem zw_im_yX4_resultAnew : Cond.instanceMethod yX4_resultAnew ∈ zWL := zw_i 595 (by decide +kernel) (by decide +kernel)
theorem zw_se_yX4_resultAnew : Cond.selects RX4 yX4_resultAnew yX4_resultAnew ∈ zWL := zw_i 596 (by decide +kernel) (by decide +kernel)
theorem zw_co_yX4_resultAnew : Cond.code yX4_resultAnew cX4_resultAnew 4 (Option.some FieldType.int) ∈ zWL := zw_i 597 (by decide +kernel) (by decide +kernel)
theorem zw_mL_170 : Cond.methodLink RL 170 yL_runs ∈ zWL := zw_i 599 (by decide +kernel) (by decide +kernel)
theorem zw_st_yL_runs : Cond.static yL_runs ∈ zWL := zw_i 600 (by decide +kernel) (by decide +kernel)
-- codeWith yL_runs: (Option.some Jvm.ClassFile.FieldType.int) [(0, 9, 12, 36)]
theorem zw_cw_yL_runs : Cond.codeWith yL_runs cL_runs 4 (some FieldType.int) [(0, 9, 12, 36)] ∈ zWL := zw_i 601 (by decide +kernel) (by decide +kernel)
theorem zw_mL_54 : Cond.methodLink RL 54 yX4_runs ∈ zWL := zw_i 602 (by decide +kernel) (by decide +kernel)
theorem zw_im_yX4_runs : Cond.instanceMethod yX4_runs ∈ zWL := zw_i 603 (by decide +kernel) (by decide +kernel)
theorem zw_se_yX4_runs : Cond.selects RX4 yX4_runs yX4_runs ∈ zWL := zw_i 604 (by decide +kernel) (by decide +kernel)
theorem zw_co_yX4_runs : Cond.code yX4_runs cX4_runs 2 (Option.some FieldType.int) ∈ zWL := zw_i 605 (by decide +kernel) (by decide +kernel)
theorem zw_mL_173 : Cond.methodLink RL 173 yL_found ∈ zWL := zw_i 606 (by decide +kernel) (by decide +kernel)
theorem zw_st_yL_found : Cond.static yL_found ∈ zWL := zw_i 607 (by decide +kernel) (by decide +kernel)
-- codeWith yL_found: (Option.some Jvm.ClassFile.FieldType.int) [(0, 9, 12, 36)]
theorem zw_cw_yL_found : Cond.codeWith yL_found cL_found 4 (some FieldType.int) [(0, 9, 12, 36)] ∈ zWL := zw_i 608 (by decide +kernel) (by decide +kernel)
theorem zw_mL_57 : Cond.methodLink RL 57 yX4_found ∈ zWL := zw_i 609 (by decide +kernel) (by decide +kernel)
theorem zw_im_yX4_found : Cond.instanceMethod yX4_found ∈ zWL := zw_i 610 (by decide +kernel) (by decide +kernel)
theorem zw_se_yX4_found : Cond.selects RX4 yX4_found yX4_found ∈ zWL := zw_i 611 (by decide +kernel) (by decide +kernel)
theorem zw_co_yX4_found : Cond.code yX4_found cX4_found 2 (Option.some FieldType.int) ∈ zWL := zw_i 612 (by decide +kernel) (by decide +kernel)
theorem zw_mL_176 : Cond.methodLink RL 176 yL_failure ∈ zWL := zw_i 613 (by decide +kernel) (by decide +kernel)
theorem zw_st_yL_failure : Cond.static yL_failure ∈ zWL := zw_i 614 (by decide +kernel) (by decide +kernel)
-- codeWith yL_failure: (Option.some Jvm.ClassFile.FieldType.int) [(0, 9, 12, 36), (0, 9, 15, 15)]
theorem zw_cw_yL_failure : Cond.codeWith yL_failure cL_failure 4 (some FieldType.int) [(0, 9, 12, 36), (0, 9, 15, 15)] ∈ zWL := zw_i 615 (by decide +kernel) (by decide +kernel)
theorem zw_mL_60 : Cond.methodLink RL 60 yX4_failure ∈ zWL := zw_i 616 (by decide +kernel) (by decide +kernel)
theorem zw_im_yX4_failure : Cond.instanceMethod yX4_failure ∈ zWL := zw_i 617 (by decide +kernel) (by decide +kernel)
theorem zw_se_yX4_failure : Cond.selects RX4 yX4_failure yX4_failure ∈ zWL := zw_i 618 (by decide +kernel) (by decide +kernel)
theorem zw_co_yX4_failure : Cond.code yX4_failure cX4_failure 2 (Option.some FieldType.char) ∈ zWL := zw_i 619 (by decide +kernel) (by decide +kernel)
theorem zw_mX4_173 : Cond.methodLink RX4 173 yX4_failureOf ∈ zWL := zw_i 620 (by decide +kernel) (by decide +kernel)
theorem zw_im_yX4_failureOf : Cond.instanceMethod yX4_failureOf ∈ zWL := zw_i 622 (by decide +kernel) (by decide +kernel)
theorem zw_co_yX4_failureOf : Cond.code yX4_failureOf cX4_failureOf 3 (Option.some (FieldType.object "NotebookLab$Failure")) ∈ zWL := zw_i 623 (by decide +kernel) (by decide +kernel)
theorem zw_mL_179 : Cond.methodLink RL 179 yL_root ∈ zWL := zw_i 625 (by decide +kernel) (by decide +kernel)
theorem zw_st_yL_root : Cond.static yL_root ∈ zWL := zw_i 626 (by decide +kernel) (by decide +kernel)
-- codeWith yL_root: (Option.some Jvm.ClassFile.FieldType.int) [(0, 9, 12, 36), (0, 9, 15, 15)]
theorem zw_cw_yL_root : Cond.codeWith yL_root cL_root 4 (some FieldType.int) [(0, 9, 12, 36), (0, 9, 15, 15)] ∈ zWL := zw_i 627 (by decide +kernel) (by decide +kernel)
theorem zw_mL_63 : Cond.methodLink RL 63 yX4_root ∈ zWL := zw_i 628 (by decide +kernel) (by decide +kernel)
theorem zw_im_yX4_root : Cond.instanceMethod yX4_root ∈ zWL := zw_i 629 (by decide +kernel) (by decide +kernel)
theorem zw_se_yX4_root : Cond.selects RX4 yX4_root yX4_root ∈ zWL := zw_i 630 (by decide +kernel) (by decide +kernel)
theorem zw_co_yX4_root : Cond.code yX4_root cX4_root 2 (Option.some FieldType.int) ∈ zWL := zw_i 631 (by decide +kernel) (by decide +kernel)
theorem zw_mL_182 : Cond.methodLink RL 182 yL_rootFailure ∈ zWL := zw_i 632 (by decide +kernel) (by decide +kernel)
theorem zw_st_yL_rootFailure : Cond.static yL_rootFailure ∈ zWL := zw_i 633 (by decide +kernel) (by decide +kernel)
-- codeWith yL_rootFailure: (Option.some Jvm.ClassFile.FieldType.int) [(0, 9, 12, 36), (0, 9, 15, 15)]
theorem zw_cw_yL_rootFailure : Cond.codeWith yL_rootFailure cL_rootFailure 4 (some FieldType.int) [(0, 9, 12, 36), (0, 9, 15, 15)] ∈ zWL := zw_i 634 (by decide +kernel) (by decide +kernel)
theorem zw_mL_66 : Cond.methodLink RL 66 yX4_rootFailure ∈ zWL := zw_i 635 (by decide +kernel) (by decide +kernel)
theorem zw_im_yX4_rootFailure : Cond.instanceMethod yX4_rootFailure ∈ zWL := zw_i 636 (by decide +kernel) (by decide +kernel)
theorem zw_se_yX4_rootFailure : Cond.selects RX4 yX4_rootFailure yX4_rootFailure ∈ zWL := zw_i 637 (by decide +kernel) (by decide +kernel)
theorem zw_co_yX4_rootFailure : Cond.code yX4_rootFailure cX4_rootFailure 2 (Option.some FieldType.char) ∈ zWL := zw_i 638 (by decide +kernel) (by decide +kernel)
theorem zw_mL_185 : Cond.methodLink RL 185 yL_causes ∈ zWL := zw_i 639 (by decide +kernel) (by decide +kernel)
theorem zw_st_yL_causes : Cond.static yL_causes ∈ zWL := zw_i 640 (by decide +kernel) (by decide +kernel)
-- codeWith yL_causes: (Option.some Jvm.ClassFile.FieldType.int) [(0, 9, 12, 36), (0, 9, 15, 15)]
theorem zw_cw_yL_causes : Cond.codeWith yL_causes cL_causes 4 (some FieldType.int) [(0, 9, 12, 36), (0, 9, 15, 15)] ∈ zWL := zw_i 641 (by decide +kernel) (by decide +kernel)
theorem zw_mL_69 : Cond.methodLink RL 69 yX4_causes ∈ zWL := zw_i 642 (by decide +kernel) (by decide +kernel)
theorem zw_im_yX4_causes : Cond.instanceMethod yX4_causes ∈ zWL := zw_i 643 (by decide +kernel) (by decide +kernel)
theorem zw_se_yX4_causes : Cond.selects RX4 yX4_causes yX4_causes ∈ zWL := zw_i 644 (by decide +kernel) (by decide +kernel)
theorem zw_co_yX4_causes : Cond.code yX4_causes cX4_causes 2 (Option.some FieldType.int) ∈ zWL := zw_i 645 (by decide +kernel) (by decide +kernel)
theorem zw_mL_188 : Cond.methodLink RL 188 yL_depends ∈ zWL := zw_i 646 (by decide +kernel) (by decide +kernel)
theorem zw_st_yL_depends : Cond.static yL_depends ∈ zWL := zw_i 647 (by decide +kernel) (by decide +kernel)
-- codeWith yL_depends: (Option.some Jvm.ClassFile.FieldType.int) [(0, 17, 20, 36), (0, 17, 24, 13)]
theorem zw_cw_yL_depends : Cond.codeWith yL_depends cL_depends 5 (some FieldType.int) [(0, 17, 20, 36), (0, 17, 24, 13)] ∈ zWL := zw_i 648 (by decide +kernel) (by decide +kernel)
theorem zw_mL_72 : Cond.methodLink RL 72 yX4_depends ∈ zWL := zw_i 649 (by decide +kernel) (by decide +kernel)
theorem zw_im_yX4_depends : Cond.instanceMethod yX4_depends ∈ zWL := zw_i 650 (by decide +kernel) (by decide +kernel)
theorem zw_se_yX4_depends : Cond.selects RX4 yX4_depends yX4_depends ∈ zWL := zw_i 651 (by decide +kernel) (by decide +kernel)
theorem zw_co_yX4_depends : Cond.code yX4_depends cX4_depends 4 (Option.some FieldType.boolean) ∈ zWL := zw_i 652 (by decide +kernel) (by decide +kernel)
theorem zw_mL_191 : Cond.methodLink RL 191 yL_owners ∈ zWL := zw_i 653 (by decide +kernel) (by decide +kernel)
theorem zw_st_yL_owners : Cond.static yL_owners ∈ zWL := zw_i 654 (by decide +kernel) (by decide +kernel)
-- codeWith yL_owners: (Option.some Jvm.ClassFile.FieldType.int) [(0, 9, 12, 36)]
theorem zw_cw_yL_owners : Cond.codeWith yL_owners cL_owners 4 (some FieldType.int) [(0, 9, 12, 36)] ∈ zWL := zw_i 655 (by decide +kernel) (by decide +kernel)
theorem zw_mL_76 : Cond.methodLink RL 76 yX4_owners ∈ zWL := zw_i 656 (by decide +kernel) (by decide +kernel)
theorem zw_im_yX4_owners : Cond.instanceMethod yX4_owners ∈ zWL := zw_i 657 (by decide +kernel) (by decide +kernel)
theorem zw_se_yX4_owners : Cond.selects RX4 yX4_owners yX4_owners ∈ zWL := zw_i 658 (by decide +kernel) (by decide +kernel)
theorem zw_co_yX4_owners : Cond.code yX4_owners cX4_owners 5 (Option.some FieldType.int) ∈ zWL := zw_i 659 (by decide +kernel) (by decide +kernel)
theorem zw_mL_194 : Cond.methodLink RL 194 yL_dependents ∈ zWL := zw_i 660 (by decide +kernel) (by decide +kernel)
theorem zw_st_yL_dependents : Cond.static yL_dependents ∈ zWL := zw_i 661 (by decide +kernel) (by decide +kernel)
-- codeWith yL_dependents: (Option.some Jvm.ClassFile.FieldType.int) [(0, 9, 12, 13)]
theorem zw_cw_yL_dependents : Cond.codeWith yL_dependents cL_dependents 4 (some FieldType.int) [(0, 9, 12, 13)] ∈ zWL := zw_i 662 (by decide +kernel) (by decide +kernel)
theorem zw_mL_79 : Cond.methodLink RL 79 yX4_dependents ∈ zWL := zw_i 663 (by decide +kernel) (by decide +kernel)
theorem zw_im_yX4_dependents : Cond.instanceMethod yX4_dependents ∈ zWL := zw_i 664 (by decide +kernel) (by decide +kernel)
theorem zw_se_yX4_dependents : Cond.selects RX4 yX4_dependents yX4_dependents ∈ zWL := zw_i 665 (by decide +kernel) (by decide +kernel)
theorem zw_co_yX4_dependents : Cond.code yX4_dependents cX4_dependents 4 (Option.some FieldType.int) ∈ zWL := zw_i 666 (by decide +kernel) (by decide +kernel)
theorem zw_mL_197 : Cond.methodLink RL 197 yL_addKernel ∈ zWL := zw_i 667 (by decide +kernel) (by decide +kernel)
theorem zw_st_yL_addKernel : Cond.static yL_addKernel ∈ zWL := zw_i 668 (by decide +kernel) (by decide +kernel)
-- codeWith yL_addKernel: (Option.some Jvm.ClassFile.FieldType.int) [(0, 9, 12, 13), (0, 9, 15, 15)]
theorem zw_cw_yL_addKernel : Cond.codeWith yL_addKernel cL_addKernel 4 (some FieldType.int) [(0, 9, 12, 13), (0, 9, 15, 15)] ∈ zWL := zw_i 669 (by decide +kernel) (by decide +kernel)
theorem zw_mL_82 : Cond.methodLink RL 82 yX4_addKernel ∈ zWL := zw_i 670 (by decide +kernel) (by decide +kernel)
theorem zw_im_yX4_addKernel : Cond.instanceMethod yX4_addKernel ∈ zWL := zw_i 671 (by decide +kernel) (by decide +kernel)
theorem zw_se_yX4_addKernel : Cond.selects RX4 yX4_addKernel yX4_addKernel ∈ zWL := zw_i 672 (by decide +kernel) (by decide +kernel)
theorem zw_co_yX4_addKernel : Cond.code yX4_addKernel cX4_addKernel 3 (Option.some FieldType.int) ∈ zWL := zw_i 673 (by decide +kernel) (by decide +kernel)
theorem zw_mL_200 : Cond.methodLink RL 200 yL_free ∈ zWL := zw_i 676 (by decide +kernel) (by decide +kernel)
theorem zw_st_yL_free : Cond.static yL_free ∈ zWL := zw_i 677 (by decide +kernel) (by decide +kernel)
-- codeWith yL_free: (Option.some Jvm.ClassFile.FieldType.int) [(0, 9, 12, 36)]
theorem zw_cw_yL_free : Cond.codeWith yL_free cL_free 4 (some FieldType.int) [(0, 9, 12, 36)] ∈ zWL := zw_i 678 (by decide +kernel) (by decide +kernel)
theorem zw_mL_85 : Cond.methodLink RL 85 yX4_free ∈ zWL := zw_i 679 (by decide +kernel) (by decide +kernel)
theorem zw_im_yX4_free : Cond.instanceMethod yX4_free ∈ zWL := zw_i 680 (by decide +kernel) (by decide +kernel)
theorem zw_se_yX4_free : Cond.selects RX4 yX4_free yX4_free ∈ zWL := zw_i 681 (by decide +kernel) (by decide +kernel)
theorem zw_co_yX4_free : Cond.code yX4_free cX4_free 2 (Option.some FieldType.int) ∈ zWL := zw_i 682 (by decide +kernel) (by decide +kernel)
theorem zw_mL_203 : Cond.methodLink RL 203 yL_schedule ∈ zWL := zw_i 684 (by decide +kernel) (by decide +kernel)
theorem zw_st_yL_schedule : Cond.static yL_schedule ∈ zWL := zw_i 685 (by decide +kernel) (by decide +kernel)
-- codeWith yL_schedule: (Option.some Jvm.ClassFile.FieldType.int) [(0, 10, 13, 36), (0, 10, 17, 13)]
theorem zw_cw_yL_schedule : Cond.codeWith yL_schedule cL_schedule 5 (some FieldType.int) [(0, 10, 13, 36), (0, 10, 17, 13)] ∈ zWL := zw_i 686 (by decide +kernel) (by decide +kernel)
theorem zw_mL_88 : Cond.methodLink RL 88 yX4_schedule ∈ zWL := zw_i 687 (by decide +kernel) (by decide +kernel)
theorem zw_im_yX4_schedule : Cond.instanceMethod yX4_schedule ∈ zWL := zw_i 688 (by decide +kernel) (by decide +kernel)
theorem zw_se_yX4_schedule : Cond.selects RX4 yX4_schedule yX4_schedule ∈ zWL := zw_i 689 (by decide +kernel) (by decide +kernel)
theorem zw_co_yX4_schedule : Cond.code yX4_schedule cX4_schedule 5 (Option.some FieldType.int) ∈ zWL := zw_i 690 (by decide +kernel) (by decide +kernel)
theorem zw_mL_206 : Cond.methodLink RL 206 yL_pass ∈ zWL := zw_i 692 (by decide +kernel) (by decide +kernel)
theorem zw_st_yL_pass : Cond.static yL_pass ∈ zWL := zw_i 693 (by decide +kernel) (by decide +kernel)
-- codeWith yL_pass: (Option.some Jvm.ClassFile.FieldType.int) [(0, 9, 12, 13), (0, 9, 15, 15)]
theorem zw_cw_yL_pass : Cond.codeWith yL_pass cL_pass 4 (some FieldType.int) [(0, 9, 12, 13), (0, 9, 15, 15)] ∈ zWL := zw_i 694 (by decide +kernel) (by decide +kernel)
theorem zw_mL_91 : Cond.methodLink RL 91 yX4_pass ∈ zWL := zw_i 695 (by decide +kernel) (by decide +kernel)
theorem zw_im_yX4_pass : Cond.instanceMethod yX4_pass ∈ zWL := zw_i 696 (by decide +kernel) (by decide +kernel)
theorem zw_se_yX4_pass : Cond.selects RX4 yX4_pass yX4_pass ∈ zWL := zw_i 697 (by decide +kernel) (by decide +kernel)
theorem zw_co_yX4_pass : Cond.code yX4_pass cX4_pass 5 (Option.some FieldType.int) ∈ zWL := zw_i 698 (by decide +kernel) (by decide +kernel)
theorem zw_mX4_226 : Cond.methodLink RX4 226 yX2_giveBack ∈ zWL := zw_i 701 (by decide +kernel) (by decide +kernel)
theorem zw_im_yX2_giveBack : Cond.instanceMethod yX2_giveBack ∈ zWL := zw_i 702 (by decide +kernel) (by decide +kernel)
theorem zw_se_yX2_giveBack : Cond.selects RX2 yX2_giveBack yX2_giveBack ∈ zWL := zw_i 703 (by decide +kernel) (by decide +kernel)
theorem zw_co_yX2_giveBack : Cond.code yX2_giveBack cX2_giveBack 3 (Option.none : Option FieldType) ∈ zWL := zw_i 704 (by decide +kernel) (by decide +kernel)
theorem zw_mX4_229 : Cond.methodLink RX4 229 yX4_runWhatIsDue ∈ zWL := zw_i 705 (by decide +kernel) (by decide +kernel)
theorem zw_im_yX4_runWhatIsDue : Cond.instanceMethod yX4_runWhatIsDue ∈ zWL := zw_i 707 (by decide +kernel) (by decide +kernel)
theorem zw_co_yX4_runWhatIsDue : Cond.code yX4_runWhatIsDue cX4_runWhatIsDue 6 (Option.some FieldType.int) ∈ zWL := zw_i 708 (by decide +kernel) (by decide +kernel)
theorem zw_mX4_348 : Cond.methodLink RX4 348 yX4_isDue ∈ zWL := zw_i 709 (by decide +kernel) (by decide +kernel)
theorem zw_im_yX4_isDue : Cond.instanceMethod yX4_isDue ∈ zWL := zw_i 711 (by decide +kernel) (by decide +kernel)
theorem zw_co_yX4_isDue : Cond.code yX4_isDue cX4_isDue 2 (Option.some FieldType.boolean) ∈ zWL := zw_i 712 (by decide +kernel) (by decide +kernel)
theorem zw_mL_218 : Cond.methodLink RL 218 yL_load ∈ zWL := zw_i 713 (by decide +kernel) (by decide +kernel)
theorem zw_st_yL_load : Cond.static yL_load ∈ zWL := zw_i 714 (by decide +kernel) (by decide +kernel)
-- codeWith yL_load: (Option.some Jvm.ClassFile.FieldType.int) [(0, 8, 11, 98)]
theorem zw_cw_yL_load : Cond.codeWith yL_load cL_load 3 (some FieldType.int) [(0, 8, 11, 98)] ∈ zWL := zw_i 715 (by decide +kernel) (by decide +kernel)
theorem zw_cL_98 : Cond.classLink RL 98 "java/lang/ArithmeticException" ∈ zWL := zw_i 716 (by decide +kernel) (by decide +kernel)
theorem zt_ca_ArithmeticException : Cond.castable "java/lang/ArithmeticException" "java/lang/ArithmeticException" ∈ lw_tbl := List.mem_append_right _ (List.mem_of_getElem? (i := 728) (by decide +kernel))
theorem zw_mL_94 : Cond.methodLink RL 94 yX4_load ∈ zWL := zw_i 730 (by decide +kernel) (by decide +kernel)
theorem zw_im_yX4_load : Cond.instanceMethod yX4_load ∈ zWL := zw_i 731 (by decide +kernel) (by decide +kernel)
theorem zw_se_yX4_load : Cond.selects RX4 yX4_load yX4_load ∈ zWL := zw_i 732 (by decide +kernel) (by decide +kernel)
theorem zw_co_yX4_load : Cond.code yX4_load cX4_load 4 (Option.some FieldType.float) ∈ zWL := zw_i 733 (by decide +kernel) (by decide +kernel)
theorem zw_cX4_239 : Cond.classLink RX4 239 "java/lang/ArithmeticException" ∈ zWL := zw_i 734 (by decide +kernel) (by decide +kernel)
theorem zw_mL_222 : Cond.methodLink RL 222 yL_meanValue ∈ zWL := zw_i 737 (by decide +kernel) (by decide +kernel)
theorem zw_st_yL_meanValue : Cond.static yL_meanValue ∈ zWL := zw_i 738 (by decide +kernel) (by decide +kernel)
-- codeWith yL_meanValue: (Option.some Jvm.ClassFile.FieldType.int) [(0, 7, 10, 98)]
theorem zw_cw_yL_meanValue : Cond.codeWith yL_meanValue cL_meanValue 3 (some FieldType.int) [(0, 7, 10, 98)] ∈ zWL := zw_i 739 (by decide +kernel) (by decide +kernel)
theorem zw_mL_100 : Cond.methodLink RL 100 yX4_meanValue ∈ zWL := zw_i 740 (by decide +kernel) (by decide +kernel)
theorem zw_im_yX4_meanValue : Cond.instanceMethod yX4_meanValue ∈ zWL := zw_i 741 (by decide +kernel) (by decide +kernel)
theorem zw_se_yX4_meanValue : Cond.selects RX4 yX4_meanValue yX4_meanValue ∈ zWL := zw_i 742 (by decide +kernel) (by decide +kernel)
theorem zw_co_yX4_meanValue : Cond.code yX4_meanValue cX4_meanValue 4 (Option.some FieldType.double) ∈ zWL := zw_i 743 (by decide +kernel) (by decide +kernel)
theorem zw_mL_225 : Cond.methodLink RL 225 yL_publish ∈ zWL := zw_i 745 (by decide +kernel) (by decide +kernel)
theorem zw_st_yL_publish : Cond.static yL_publish ∈ zWL := zw_i 746 (by decide +kernel) (by decide +kernel)
-- codeWith yL_publish: (Option.some Jvm.ClassFile.FieldType.int) [(0, 9, 12, 36), (0, 9, 15, 15)]
theorem zw_cw_yL_publish : Cond.codeWith yL_publish cL_publish 4 (some FieldType.int) [(0, 9, 12, 36), (0, 9, 15, 15)] ∈ zWL := zw_i 747 (by decide +kernel) (by decide +kernel)
theorem zw_mL_104 : Cond.methodLink RL 104 yX4_publish ∈ zWL := zw_i 748 (by decide +kernel) (by decide +kernel)
theorem zw_im_yX4_publish : Cond.instanceMethod yX4_publish ∈ zWL := zw_i 749 (by decide +kernel) (by decide +kernel)
theorem zw_se_yX4_publish : Cond.selects RX4 yX4_publish yX4_publish ∈ zWL := zw_i 750 (by decide +kernel) (by decide +kernel)
theorem zw_co_yX4_publish : Cond.code yX4_publish cX4_publish 4 (Option.some FieldType.int) ∈ zWL := zw_i 751 (by decide +kernel) (by decide +kernel)
theorem zw_mL_228 : Cond.methodLink RL 228 yL_held ∈ zWL := zw_i 753 (by decide +kernel) (by decide +kernel)
theorem zw_st_yL_held : Cond.static yL_held ∈ zWL := zw_i 754 (by decide +kernel) (by decide +kernel)
-- codeWith yL_held: (Option.some Jvm.ClassFile.FieldType.int) [(0, 9, 12, 21)]
theorem zw_cw_yL_held : Cond.codeWith yL_held cL_held 4 (some FieldType.int) [(0, 9, 12, 21)] ∈ zWL := zw_i 755 (by decide +kernel) (by decide +kernel)
theorem zw_mL_107 : Cond.methodLink RL 107 yX4_held ∈ zWL := zw_i 756 (by decide +kernel) (by decide +kernel)
theorem zw_im_yX4_held : Cond.instanceMethod yX4_held ∈ zWL := zw_i 757 (by decide +kernel) (by decide +kernel)
theorem zw_se_yX4_held : Cond.selects RX4 yX4_held yX4_held ∈ zWL := zw_i 758 (by decide +kernel) (by decide +kernel)
theorem zw_co_yX4_held : Cond.code yX4_held cX4_held 2 (Option.some FieldType.int) ∈ zWL := zw_i 759 (by decide +kernel) (by decide +kernel)
theorem zw_mX4_251 : Cond.methodLink RX4 251 yX4_checkView ∈ zWL := zw_i 760 (by decide +kernel) (by decide +kernel)
theorem zw_im_yX4_checkView : Cond.instanceMethod yX4_checkView ∈ zWL := zw_i 762 (by decide +kernel) (by decide +kernel)
theorem zw_co_yX4_checkView : Cond.code yX4_checkView cX4_checkView 2 (Option.none : Option FieldType) ∈ zWL := zw_i 763 (by decide +kernel) (by decide +kernel)
theorem zw_mL_231 : Cond.methodLink RL 231 yL_isCurrent ∈ zWL := zw_i 765 (by decide +kernel) (by decide +kernel)
theorem zw_st_yL_isCurrent : Cond.static yL_isCurrent ∈ zWL := zw_i 766 (by decide +kernel) (by decide +kernel)
-- codeWith yL_isCurrent: (Option.some Jvm.ClassFile.FieldType.int) [(0, 16, 19, 21)]
theorem zw_cw_yL_isCurrent : Cond.codeWith yL_isCurrent cL_isCurrent 4 (some FieldType.int) [(0, 16, 19, 21)] ∈ zWL := zw_i 767 (by decide +kernel) (by decide +kernel)
theorem zw_mL_110 : Cond.methodLink RL 110 yX4_isCurrent ∈ zWL := zw_i 768 (by decide +kernel) (by decide +kernel)
theorem zw_im_yX4_isCurrent : Cond.instanceMethod yX4_isCurrent ∈ zWL := zw_i 769 (by decide +kernel) (by decide +kernel)
theorem zw_se_yX4_isCurrent : Cond.selects RX4 yX4_isCurrent yX4_isCurrent ∈ zWL := zw_i 770 (by decide +kernel) (by decide +kernel)
theorem zw_co_yX4_isCurrent : Cond.code yX4_isCurrent cX4_isCurrent 3 (Option.some FieldType.boolean) ∈ zWL := zw_i 771 (by decide +kernel) (by decide +kernel)
theorem zw_cL_115 : Cond.classLink RL 115 RX5 ∈ zWL := zw_i 772 (by decide +kernel) (by decide +kernel)
theorem zw_is_X5 : Cond.instantiable RX5 40 ∈ zWL := zw_i 773 (by decide +kernel) (by decide +kernel)
theorem zw_mL_117 : Cond.methodLink RL 117 yX5_init ∈ zWL := zw_i 774 (by decide +kernel) (by decide +kernel)
theorem zw_im_yX5_init : Cond.instanceMethod yX5_init ∈ zWL := zw_i 775 (by decide +kernel) (by decide +kernel)
theorem zw_co_yX5_init : Cond.code yX5_init cX5_init 1 (Option.none : Option FieldType) ∈ zWL := zw_i 776 (by decide +kernel) (by decide +kernel)
theorem zw_fX5_129 : Cond.fieldLink RX5 129 RX5 (TX5 0).2.1 (TX5 0).2.2.1 ∈ zWL := zw_i 778 (by decide +kernel) (by decide +kernel)
theorem zw_fX5_7 : Cond.fieldLink RX5 7 RX5 (TX5 1).2.1 (TX5 1).2.2.1 ∈ zWL := zw_i 779 (by decide +kernel) (by decide +kernel)
theorem zw_fX5_13 : Cond.fieldLink RX5 13 RX5 (TX5 2).2.1 (TX5 2).2.2.1 ∈ zWL := zw_i 780 (by decide +kernel) (by decide +kernel)
theorem zw_fX5_17 : Cond.fieldLink RX5 17 RX5 (TX5 3).2.1 (TX5 3).2.2.1 ∈ zWL := zw_i 781 (by decide +kernel) (by decide +kernel)
theorem zw_fX5_20 : Cond.fieldLink RX5 20 RX5 (TX5 4).2.1 (TX5 4).2.2.1 ∈ zWL := zw_i 782 (by decide +kernel) (by decide +kernel)
theorem zw_fX5_116 : Cond.fieldLink RX5 116 RX5 (TX5 5).2.1 (TX5 5).2.2.1 ∈ zWL := zw_i 783 (by decide +kernel) (by decide +kernel)
theorem zw_fX5_23 : Cond.fieldLink RX5 23 RX5 (TX5 6).2.1 (TX5 6).2.2.1 ∈ zWL := zw_i 784 (by decide +kernel) (by decide +kernel)
theorem zw_fX5_27 : Cond.fieldLink RX5 27 RX5 (TX5 7).2.1 (TX5 7).2.2.1 ∈ zWL := zw_i 785 (by decide +kernel) (by decide +kernel)
theorem zw_fX5_30 : Cond.fieldLink RX5 30 RX5 (TX5 8).2.1 (TX5 8).2.2.1 ∈ zWL := zw_i 786 (by decide +kernel) (by decide +kernel)
theorem zw_fX5_33 : Cond.fieldLink RX5 33 RX5 (TX5 9).2.1 (TX5 9).2.2.1 ∈ zWL := zw_i 787 (by decide +kernel) (by decide +kernel)
theorem zw_fX5_36 : Cond.fieldLink RX5 36 RX5 (TX5 10).2.1 (TX5 10).2.2.1 ∈ zWL := zw_i 788 (by decide +kernel) (by decide +kernel)
theorem zw_fX5_39 : Cond.fieldLink RX5 39 RX5 (TX5 11).2.1 (TX5 11).2.2.1 ∈ zWL := zw_i 789 (by decide +kernel) (by decide +kernel)
theorem zw_fX5_42 : Cond.fieldLink RX5 42 RX5 (TX5 12).2.1 (TX5 12).2.2.1 ∈ zWL := zw_i 790 (by decide +kernel) (by decide +kernel)
theorem zw_fX5_45 : Cond.fieldLink RX5 45 RX5 (TX5 13).2.1 (TX5 13).2.2.1 ∈ zWL := zw_i 791 (by decide +kernel) (by decide +kernel)
theorem zw_fX5_48 : Cond.fieldLink RX5 48 RX5 (TX5 14).2.1 (TX5 14).2.2.1 ∈ zWL := zw_i 792 (by decide +kernel) (by decide +kernel)
theorem zw_fX5_51 : Cond.fieldLink RX5 51 RX5 (TX5 15).2.1 (TX5 15).2.2.1 ∈ zWL := zw_i 793 (by decide +kernel) (by decide +kernel)
theorem zw_fX5_54 : Cond.fieldLink RX5 54 RX5 (TX5 16).2.1 (TX5 16).2.2.1 ∈ zWL := zw_i 794 (by decide +kernel) (by decide +kernel)
theorem zw_fX5_57 : Cond.fieldLink RX5 57 RX5 (TX5 17).2.1 (TX5 17).2.2.1 ∈ zWL := zw_i 795 (by decide +kernel) (by decide +kernel)
theorem zw_fX5_60 : Cond.fieldLink RX5 60 RX5 (TX5 18).2.1 (TX5 18).2.2.1 ∈ zWL := zw_i 796 (by decide +kernel) (by decide +kernel)
theorem zw_fX5_63 : Cond.fieldLink RX5 63 RX5 (TX5 19).2.1 (TX5 19).2.2.1 ∈ zWL := zw_i 797 (by decide +kernel) (by decide +kernel)
theorem zw_fX5_66 : Cond.fieldLink RX5 66 RX5 (TX5 20).2.1 (TX5 20).2.2.1 ∈ zWL := zw_i 798 (by decide +kernel) (by decide +kernel)
theorem zw_fX5_69 : Cond.fieldLink RX5 69 RX5 (TX5 21).2.1 (TX5 21).2.2.1 ∈ zWL := zw_i 799 (by decide +kernel) (by decide +kernel)
theorem zw_fX5_72 : Cond.fieldLink RX5 72 RX5 (TX5 22).2.1 (TX5 22).2.2.1 ∈ zWL := zw_i 800 (by decide +kernel) (by decide +kernel)
theorem zw_fX5_75 : Cond.fieldLink RX5 75 RX5 (TX5 23).2.1 (TX5 23).2.2.1 ∈ zWL := zw_i 801 (by decide +kernel) (by decide +kernel)
theorem zw_fX5_78 : Cond.fieldLink RX5 78 RX5 (TX5 24).2.1 (TX5 24).2.2.1 ∈ zWL := zw_i 802 (by decide +kernel) (by decide +kernel)
theorem zw_fX5_81 : Cond.fieldLink RX5 81 RX5 (TX5 25).2.1 (TX5 25).2.2.1 ∈ zWL := zw_i 803 (by decide +kernel) (by decide +kernel)
theorem zw_fX5_84 : Cond.fieldLink RX5 84 RX5 (TX5 26).2.1 (TX5 26).2.2.1 ∈ zWL := zw_i 804 (by decide +kernel) (by decide +kernel)
theorem zw_fX5_87 : Cond.fieldLink RX5 87 RX5 (TX5 27).2.1 (TX5 27).2.2.1 ∈ zWL := zw_i 805 (by decide +kernel) (by decide +kernel)
theorem zw_fX5_171 : Cond.fieldLink RX5 171 RX5 (TX5 28).2.1 (TX5 28).2.2.1 ∈ zWL := zw_i 806 (by decide +kernel) (by decide +kernel)
theorem zw_fX5_90 : Cond.fieldLink RX5 90 RX5 (TX5 29).2.1 (TX5 29).2.2.1 ∈ zWL := zw_i 807 (by decide +kernel) (by decide +kernel)
theorem zw_fX5_168 : Cond.fieldLink RX5 168 RX5 (TX5 30).2.1 (TX5 30).2.2.1 ∈ zWL := zw_i 808 (by decide +kernel) (by decide +kernel)
theorem zw_fX5_93 : Cond.fieldLink RX5 93 RX5 (TX5 31).2.1 (TX5 31).2.2.1 ∈ zWL := zw_i 809 (by decide +kernel) (by decide +kernel)
theorem zw_fX5_96 : Cond.fieldLink RX5 96 RX5 (TX5 32).2.1 (TX5 32).2.2.1 ∈ zWL := zw_i 810 (by decide +kernel) (by decide +kernel)
theorem zw_fX5_99 : Cond.fieldLink RX5 99 RX5 (TX5 33).2.1 (TX5 33).2.2.1 ∈ zWL := zw_i 811 (by decide +kernel) (by decide +kernel)
theorem zw_fX5_237 : Cond.fieldLink RX5 237 RX5 (TX5 34).2.1 (TX5 34).2.2.1 ∈ zWL := zw_i 812 (by decide +kernel) (by decide +kernel)
theorem zw_fX5_102 : Cond.fieldLink RX5 102 RX5 (TX5 35).2.1 (TX5 35).2.2.1 ∈ zWL := zw_i 813 (by decide +kernel) (by decide +kernel)
theorem zw_fX5_105 : Cond.fieldLink RX5 105 RX5 (TX5 36).2.1 (TX5 36).2.2.1 ∈ zWL := zw_i 814 (by decide +kernel) (by decide +kernel)
theorem zw_fX5_177 : Cond.fieldLink RX5 177 RX5 (TX5 37).2.1 (TX5 37).2.2.1 ∈ zWL := zw_i 815 (by decide +kernel) (by decide +kernel)
theorem zw_fX5_180 : Cond.fieldLink RX5 180 RX5 (TX5 38).2.1 (TX5 38).2.2.1 ∈ zWL := zw_i 816 (by decide +kernel) (by decide +kernel)
theorem zw_fX5_108 : Cond.fieldLink RX5 108 RX5 (TX5 39).2.1 (TX5 39).2.2.1 ∈ zWL := zw_i 817 (by decide +kernel) (by decide +kernel)
theorem zw_ac_boolean : Cond.arrayClass .boolean ∈ zWL := zw_i 899 (by decide +kernel) (by decide +kernel)
theorem zw_ac_char : Cond.arrayClass .char ∈ zWL := zw_i 900 (by decide +kernel) (by decide +kernel)
theorem zw_mL_124 : Cond.methodLink RL 124 yX5_thrown ∈ zWL := zw_i 901 (by decide +kernel) (by decide +kernel)
theorem zw_im_yX5_thrown : Cond.instanceMethod yX5_thrown ∈ zWL := zw_i 902 (by decide +kernel) (by decide +kernel)
theorem zw_se_yX5_thrown : Cond.selects RX5 yX5_thrown yX5_thrown ∈ zWL := zw_i 903 (by decide +kernel) (by decide +kernel)
theorem zw_co_yX5_thrown : Cond.code yX5_thrown cX5_thrown 1 (Option.some FieldType.int) ∈ zWL := zw_i 904 (by decide +kernel) (by decide +kernel)
theorem zw_mL_123 : Cond.methodLink RL 123 yX5_addData ∈ zWL := zw_i 905 (by decide +kernel) (by decide +kernel)
theorem zw_im_yX5_addData : Cond.instanceMethod yX5_addData ∈ zWL := zw_i 906 (by decide +kernel) (by decide +kernel)
theorem zw_se_yX5_addData : Cond.selects RX5 yX5_addData yX5_addData ∈ zWL := zw_i 907 (by decide +kernel) (by decide +kernel)
theorem zw_co_yX5_addData : Cond.code yX5_addData cX5_addData 4 (Option.some FieldType.int) ∈ zWL := zw_i 908 (by decide +kernel) (by decide +kernel)
theorem zw_mX5_123 : Cond.methodLink RX5 123 yX5_isNoVariable ∈ zWL := zw_i 909 (by decide +kernel) (by decide +kernel)
theorem zw_st_yX5_isNoVariable : Cond.static yX5_isNoVariable ∈ zWL := zw_i 910 (by decide +kernel) (by decide +kernel)
theorem zw_co_yX5_isNoVariable : Cond.code yX5_isNoVariable cX5_isNoVariable 1 (Option.some FieldType.boolean) ∈ zWL := zw_i 911 (by decide +kernel) (by decide +kernel)
theorem zw_mX5_112 : Cond.methodLink RX5 112 yX5_in ∈ zWL := zw_i 912 (by decide +kernel) (by decide +kernel)
theorem zw_st_yX5_in : Cond.static yX5_in ∈ zWL := zw_i 913 (by decide +kernel) (by decide +kernel)
theorem zw_co_yX5_in : Cond.code yX5_in cX5_in 3 (Option.some FieldType.boolean) ∈ zWL := zw_i 914 (by decide +kernel) (by decide +kernel)
theorem zw_mX5_126 : Cond.methodLink RX5 126 yX5_isThere ∈ zWL := zw_i 915 (by decide +kernel) (by decide +kernel)
theorem zw_im_yX5_isThere : Cond.instanceMethod yX5_isThere ∈ zWL := zw_i 917 (by decide +kernel) (by decide +kernel)
theorem zw_co_yX5_isThere : Cond.code yX5_isThere cX5_isThere 2 (Option.some FieldType.boolean) ∈ zWL := zw_i 918 (by decide +kernel) (by decide +kernel)
theorem zw_mX5_119 : Cond.methodLink RX5 119 yX5_fails ∈ zWL := zw_i 919 (by decide +kernel) (by decide +kernel)
theorem zw_im_yX5_fails : Cond.instanceMethod yX5_fails ∈ zWL := zw_i 921 (by decide +kernel) (by decide +kernel)
theorem zw_co_yX5_fails : Cond.code yX5_fails cX5_fails 2 (Option.some FieldType.boolean) ∈ zWL := zw_i 922 (by decide +kernel) (by decide +kernel)
theorem zw_mL_131 : Cond.methodLink RL 131 yX5_setData ∈ zWL := zw_i 923 (by decide +kernel) (by decide +kernel)
theorem zw_im_yX5_setData : Cond.instanceMethod yX5_setData ∈ zWL := zw_i 924 (by decide +kernel) (by decide +kernel)
theorem zw_se_yX5_setData : Cond.selects RX5 yX5_setData yX5_setData ∈ zWL := zw_i 925 (by decide +kernel) (by decide +kernel)
theorem zw_co_yX5_setData : Cond.code yX5_setData cX5_setData 4 (Option.some FieldType.int) ∈ zWL := zw_i 926 (by decide +kernel) (by decide +kernel)
theorem zw_mL_135 : Cond.methodLink RL 135 yX5_loseData ∈ zWL := zw_i 927 (by decide +kernel) (by decide +kernel)
theorem zw_im_yX5_loseData : Cond.instanceMethod yX5_loseData ∈ zWL := zw_i 928 (by decide +kernel) (by decide +kernel)
theorem zw_se_yX5_loseData : Cond.selects RX5 yX5_loseData yX5_loseData ∈ zWL := zw_i 929 (by decide +kernel) (by decide +kernel)
theorem zw_co_yX5_loseData : Cond.code yX5_loseData cX5_loseData 3 (Option.some FieldType.int) ∈ zWL := zw_i 930 (by decide +kernel) (by decide +kernel)
theorem zw_mL_139 : Cond.methodLink RL 139 yX5_addCell ∈ zWL := zw_i 931 (by decide +kernel) (by decide +kernel)
theorem zw_im_yX5_addCell : Cond.instanceMethod yX5_addCell ∈ zWL := zw_i 932 (by decide +kernel) (by decide +kernel)
theorem zw_se_yX5_addCell : Cond.selects RX5 yX5_addCell yX5_addCell ∈ zWL := zw_i 933 (by decide +kernel) (by decide +kernel)
theorem zw_co_yX5_addCell : Cond.code yX5_addCell cX5_addCell 8 (Option.some FieldType.int) ∈ zWL := zw_i 934 (by decide +kernel) (by decide +kernel)
theorem zw_mX5_136 : Cond.methodLink RX5 136 yX5_isCell ∈ zWL := zw_i 935 (by decide +kernel) (by decide +kernel)
theorem zw_st_yX5_isCell : Cond.static yX5_isCell ∈ zWL := zw_i 936 (by decide +kernel) (by decide +kernel)
theorem zw_co_yX5_isCell : Cond.code yX5_isCell cX5_isCell 7 (Option.some FieldType.boolean) ∈ zWL := zw_i 937 (by decide +kernel) (by decide +kernel)
theorem zw_mX5_132 : Cond.methodLink RX5 132 yX5_isKind ∈ zWL := zw_i 938 (by decide +kernel) (by decide +kernel)
theorem zw_st_yX5_isKind : Cond.static yX5_isKind ∈ zWL := zw_i 939 (by decide +kernel) (by decide +kernel)
theorem zw_co_yX5_isKind : Cond.code yX5_isKind cX5_isKind 1 (Option.some FieldType.boolean) ∈ zWL := zw_i 940 (by decide +kernel) (by decide +kernel)
theorem zw_mL_142 : Cond.methodLink RL 142 yX5_setConstant ∈ zWL := zw_i 941 (by decide +kernel) (by decide +kernel)
theorem zw_im_yX5_setConstant : Cond.instanceMethod yX5_setConstant ∈ zWL := zw_i 942 (by decide +kernel) (by decide +kernel)
theorem zw_se_yX5_setConstant : Cond.selects RX5 yX5_setConstant yX5_setConstant ∈ zWL := zw_i 943 (by decide +kernel) (by decide +kernel)
theorem zw_co_yX5_setConstant : Cond.code yX5_setConstant cX5_setConstant 4 (Option.some FieldType.int) ∈ zWL := zw_i 944 (by decide +kernel) (by decide +kernel)
theorem zw_mX5_140 : Cond.methodLink RX5 140 yX5_isNoCell ∈ zWL := zw_i 945 (by decide +kernel) (by decide +kernel)
theorem zw_im_yX5_isNoCell : Cond.instanceMethod yX5_isNoCell ∈ zWL := zw_i 947 (by decide +kernel) (by decide +kernel)
theorem zw_co_yX5_isNoCell : Cond.code yX5_isNoCell cX5_isNoCell 2 (Option.some FieldType.boolean) ∈ zWL := zw_i 948 (by decide +kernel) (by decide +kernel)
theorem zw_mL_146 : Cond.methodLink RL 146 yX5_cellCount ∈ zWL := zw_i 949 (by decide +kernel) (by decide +kernel)
theorem zw_im_yX5_cellCount : Cond.instanceMethod yX5_cellCount ∈ zWL := zw_i 950 (by decide +kernel) (by decide +kernel)
theorem zw_se_yX5_cellCount : Cond.selects RX5 yX5_cellCount yX5_cellCount ∈ zWL := zw_i 951 (by decide +kernel) (by decide +kernel)
theorem zw_co_yX5_cellCount : Cond.code yX5_cellCount cX5_cellCount 1 (Option.some FieldType.int) ∈ zWL := zw_i 952 (by decide +kernel) (by decide +kernel)
theorem zw_mX5_143 : Cond.methodLink RX5 143 yX5_tells ∈ zWL := zw_i 953 (by decide +kernel) (by decide +kernel)
theorem zw_im_yX5_tells : Cond.instanceMethod yX5_tells ∈ zWL := zw_i 955 (by decide +kernel) (by decide +kernel)
theorem zw_co_yX5_tells : Cond.code yX5_tells cX5_tells 2 (Option.some FieldType.int) ∈ zWL := zw_i 956 (by decide +kernel) (by decide +kernel)
theorem zw_mL_149 : Cond.methodLink RL 149 yX5_value ∈ zWL := zw_i 957 (by decide +kernel) (by decide +kernel)
theorem zw_im_yX5_value : Cond.instanceMethod yX5_value ∈ zWL := zw_i 958 (by decide +kernel) (by decide +kernel)
theorem zw_se_yX5_value : Cond.selects RX5 yX5_value yX5_value ∈ zWL := zw_i 959 (by decide +kernel) (by decide +kernel)
theorem zw_co_yX5_value : Cond.code yX5_value cX5_value 2 (Option.some FieldType.int) ∈ zWL := zw_i 960 (by decide +kernel) (by decide +kernel)
theorem zw_mL_152 : Cond.methodLink RL 152 yX5_writer ∈ zWL := zw_i 961 (by decide +kernel) (by decide +kernel)
theorem zw_im_yX5_writer : Cond.instanceMethod yX5_writer ∈ zWL := zw_i 962 (by decide +kernel) (by decide +kernel)
theorem zw_se_yX5_writer : Cond.selects RX5 yX5_writer yX5_writer ∈ zWL := zw_i 963 (by decide +kernel) (by decide +kernel)
theorem zw_co_yX5_writer : Cond.code yX5_writer cX5_writer 2 (Option.some FieldType.int) ∈ zWL := zw_i 964 (by decide +kernel) (by decide +kernel)
theorem zw_mL_155 : Cond.methodLink RL 155 yX5_run ∈ zWL := zw_i 965 (by decide +kernel) (by decide +kernel)
theorem zw_im_yX5_run : Cond.instanceMethod yX5_run ∈ zWL := zw_i 966 (by decide +kernel) (by decide +kernel)
theorem zw_se_yX5_run : Cond.selects RX5 yX5_run yX5_run ∈ zWL := zw_i 967 (by decide +kernel) (by decide +kernel)
theorem zw_co_yX5_run : Cond.code yX5_run cX5_run 2 (Option.some FieldType.char) ∈ zWL := zw_i 968 (by decide +kernel) (by decide +kernel)
theorem zw_mX5_207 : Cond.methodLink RX5 207 yX5_does ∈ zWL := zw_i 969 (by decide +kernel) (by decide +kernel)
theorem zw_im_yX5_does : Cond.instanceMethod yX5_does ∈ zWL := zw_i 971 (by decide +kernel) (by decide +kernel)
theorem zw_co_yX5_does : Cond.code yX5_does cX5_does 4 (Option.some FieldType.char) ∈ zWL := zw_i 972 (by decide +kernel) (by decide +kernel)
theorem zw_mX5_184 : Cond.methodLink RX5 184 yX5_lacks ∈ zWL := zw_i 973 (by decide +kernel) (by decide +kernel)
theorem zw_im_yX5_lacks : Cond.instanceMethod yX5_lacks ∈ zWL := zw_i 975 (by decide +kernel) (by decide +kernel)
theorem zw_co_yX5_lacks : Cond.code yX5_lacks cX5_lacks 2 (Option.some FieldType.boolean) ∈ zWL := zw_i 976 (by decide +kernel) (by decide +kernel)
theorem zw_mX5_187 : Cond.methodLink RX5 187 yX5_failed ∈ zWL := zw_i 977 (by decide +kernel) (by decide +kernel)
theorem zw_im_yX5_failed : Cond.instanceMethod yX5_failed ∈ zWL := zw_i 979 (by decide +kernel) (by decide +kernel)
theorem zw_co_yX5_failed : Cond.code yX5_failed cX5_failed 3 (Option.some FieldType.char) ∈ zWL := zw_i 980 (by decide +kernel) (by decide +kernel)
theorem zw_mX5_161 : Cond.methodLink RX5 161 yX5_fallsShort ∈ zWL := zw_i 981 (by decide +kernel) (by decide +kernel)
theorem zw_im_yX5_fallsShort : Cond.instanceMethod yX5_fallsShort ∈ zWL := zw_i 983 (by decide +kernel) (by decide +kernel)
theorem zw_co_yX5_fallsShort : Cond.code yX5_fallsShort cX5_fallsShort 5 (Option.none : Option FieldType) ∈ zWL := zw_i 984 (by decide +kernel) (by decide +kernel)
theorem zw_mX5_165 : Cond.methodLink RX5 165 yX5_second ∈ zWL := zw_i 985 (by decide +kernel) (by decide +kernel)
theorem zw_im_yX5_second : Cond.instanceMethod yX5_second ∈ zWL := zw_i 987 (by decide +kernel) (by decide +kernel)
theorem zw_co_yX5_second : Cond.code yX5_second cX5_second 2 (Option.some FieldType.int) ∈ zWL := zw_i 988 (by decide +kernel) (by decide +kernel)
theorem zw_mX5_154 : Cond.methodLink RX5 154 yX5_computes ∈ zWL := zw_i 989 (by decide +kernel) (by decide +kernel)
theorem zw_im_yX5_computes : Cond.instanceMethod yX5_computes ∈ zWL := zw_i 991 (by decide +kernel) (by decide +kernel)
theorem zw_co_yX5_computes : Cond.code yX5_computes cX5_computes 7 (Option.some FieldType.int) ∈ zWL := zw_i 992 (by decide +kernel) (by decide +kernel)
theorem zw_mX5_147 : Cond.methodLink RX5 147 yX5_apart ∈ zWL := zw_i 993 (by decide +kernel) (by decide +kernel)
theorem zw_st_yX5_apart : Cond.static yX5_apart ∈ zWL := zw_i 994 (by decide +kernel) (by decide +kernel)
theorem zw_co_yX5_apart : Cond.code yX5_apart cX5_apart 2 (Option.some FieldType.int) ∈ zWL := zw_i 995 (by decide +kernel) (by decide +kernel)
theorem zw_mX5_191 : Cond.methodLink RX5 191 yX5_keptAt ∈ zWL := zw_i 996 (by decide +kernel) (by decide +kernel)
theorem zw_im_yX5_keptAt : Cond.instanceMethod yX5_keptAt ∈ zWL := zw_i 998 (by decide +kernel) (by decide +kernel)
theorem zw_co_yX5_keptAt : Cond.code yX5_keptAt cX5_keptAt 3 (Option.some FieldType.int) ∈ zWL := zw_i 999 (by decide +kernel) (by decide +kernel)
theorem zw_mX5_194 : Cond.methodLink RX5 194 yX5_has ∈ zWL := zw_i 1000 (by decide +kernel) (by decide +kernel)
theorem zw_im_yX5_has : Cond.instanceMethod yX5_has ∈ zWL := zw_i 1002 (by decide +kernel) (by decide +kernel)
theorem zw_co_yX5_has : Cond.code yX5_has cX5_has 3 (Option.none : Option FieldType) ∈ zWL := zw_i 1003 (by decide +kernel) (by decide +kernel)
theorem zw_mX5_198 : Cond.methodLink RX5 198 yX5_kernelFor ∈ zWL := zw_i 1004 (by decide +kernel) (by decide +kernel)
theorem zw_im_yX5_kernelFor : Cond.instanceMethod yX5_kernelFor ∈ zWL := zw_i 1006 (by decide +kernel) (by decide +kernel)
theorem zw_co_yX5_kernelFor : Cond.code yX5_kernelFor cX5_kernelFor 4 (Option.some FieldType.int) ∈ zWL := zw_i 1007 (by decide +kernel) (by decide +kernel)
theorem zw_mX5_174 : Cond.methodLink RX5 174 yX5_freeOf ∈ zWL := zw_i 1008 (by decide +kernel) (by decide +kernel)
theorem zw_im_yX5_freeOf : Cond.instanceMethod yX5_freeOf ∈ zWL := zw_i 1010 (by decide +kernel) (by decide +kernel)
theorem zw_co_yX5_freeOf : Cond.code yX5_freeOf cX5_freeOf 4 (Option.some FieldType.int) ∈ zWL := zw_i 1011 (by decide +kernel) (by decide +kernel)
theorem zw_mX5_201 : Cond.methodLink RX5 201 yX5_takes ∈ zWL := zw_i 1012 (by decide +kernel) (by decide +kernel)
theorem zw_im_yX5_takes : Cond.instanceMethod yX5_takes ∈ zWL := zw_i 1014 (by decide +kernel) (by decide +kernel)
theorem zw_co_yX5_takes : Cond.code yX5_takes cX5_takes 3 (Option.none : Option FieldType) ∈ zWL := zw_i 1015 (by decide +kernel) (by decide +kernel)
theorem zw_mX5_204 : Cond.methodLink RX5 204 yX5_keeps ∈ zWL := zw_i 1016 (by decide +kernel) (by decide +kernel)
theorem zw_im_yX5_keeps : Cond.instanceMethod yX5_keeps ∈ zWL := zw_i 1018 (by decide +kernel) (by decide +kernel)
theorem zw_co_yX5_keeps : Cond.code yX5_keeps cX5_keeps 4 (Option.none : Option FieldType) ∈ zWL := zw_i 1019 (by decide +kernel) (by decide +kernel)
theorem zw_mL_159 : Cond.methodLink RL 159 yX5_runAll ∈ zWL := zw_i 1020 (by decide +kernel) (by decide +kernel)
theorem zw_im_yX5_runAll : Cond.instanceMethod yX5_runAll ∈ zWL := zw_i 1021 (by decide +kernel) (by decide +kernel)
theorem zw_se_yX5_runAll : Cond.selects RX5 yX5_runAll yX5_runAll ∈ zWL := zw_i 1022 (by decide +kernel) (by decide +kernel)
theorem zw_co_yX5_runAll : Cond.code yX5_runAll cX5_runAll 2 (Option.some FieldType.int) ∈ zWL := zw_i 1023 (by decide +kernel) (by decide +kernel)
theorem zw_mX5_211 : Cond.methodLink RX5 211 yX5_isFresh ∈ zWL := zw_i 1024 (by decide +kernel) (by decide +kernel)
theorem zw_im_yX5_isFresh : Cond.instanceMethod yX5_isFresh ∈ zWL := zw_i 1026 (by decide +kernel) (by decide +kernel)
theorem zw_co_yX5_isFresh : Cond.code yX5_isFresh cX5_isFresh 2 (Option.some FieldType.boolean) ∈ zWL := zw_i 1027 (by decide +kernel) (by decide +kernel)
theorem zw_mX5_218 : Cond.methodLink RX5 218 yX5_isFreshBelow ∈ zWL := zw_i 1028 (by decide +kernel) (by decide +kernel)
theorem zw_im_yX5_isFreshBelow : Cond.instanceMethod yX5_isFreshBelow ∈ zWL := zw_i 1030 (by decide +kernel) (by decide +kernel)
theorem zw_co_yX5_isFreshBelow : Cond.code yX5_isFreshBelow cX5_isFreshBelow 2 (Option.some FieldType.boolean) ∈ zWL := zw_i 1031 (by decide +kernel) (by decide +kernel)
theorem zw_mX5_214 : Cond.methodLink RX5 214 yX5_allFresh ∈ zWL := zw_i 1032 (by decide +kernel) (by decide +kernel)
theorem zw_im_yX5_allFresh : Cond.instanceMethod yX5_allFresh ∈ zWL := zw_i 1034 (by decide +kernel) (by decide +kernel)
theorem zw_co_yX5_allFresh : Cond.code yX5_allFresh cX5_allFresh 3 (Option.some FieldType.int) ∈ zWL := zw_i 1035 (by decide +kernel) (by decide +kernel)
theorem zw_mL_162 : Cond.methodLink RL 162 yX5_state ∈ zWL := zw_i 1036 (by decide +kernel) (by decide +kernel)
theorem zw_im_yX5_state : Cond.instanceMethod yX5_state ∈ zWL := zw_i 1037 (by decide +kernel) (by decide +kernel)
theorem zw_se_yX5_state : Cond.selects RX5 yX5_state yX5_state ∈ zWL := zw_i 1038 (by decide +kernel) (by decide +kernel)
theorem zw_co_yX5_state : Cond.code yX5_state cX5_state 2 (Option.some FieldType.char) ∈ zWL := zw_i 1039 (by decide +kernel) (by decide +kernel)
theorem zw_mL_165 : Cond.methodLink RL 165 yX5_resultAnew ∈ zWL := zw_i 1040 (by decide +kernel) (by decide +kernel)
theorem zw_im_yX5_resultAnew : Cond.instanceMethod yX5_resultAnew ∈ zWL := zw_i 1041 (by decide +kernel) (by decide +kernel)
theorem zw_se_yX5_resultAnew : Cond.selects RX5 yX5_resultAnew yX5_resultAnew ∈ zWL := zw_i 1042 (by decide +kernel) (by decide +kernel)
theorem zw_co_yX5_resultAnew : Cond.code yX5_resultAnew cX5_resultAnew 2 (Option.some FieldType.int) ∈ zWL := zw_i 1043 (by decide +kernel) (by decide +kernel)
theorem zw_mX5_158 : Cond.methodLink RX5 158 yX5_anew ∈ zWL := zw_i 1044 (by decide +kernel) (by decide +kernel)
theorem zw_im_yX5_anew : Cond.instanceMethod yX5_anew ∈ zWL := zw_i 1046 (by decide +kernel) (by decide +kernel)
theorem zw_co_yX5_anew : Cond.code yX5_anew cX5_anew 4 (Option.some FieldType.int) ∈ zWL := zw_i 1047 (by decide +kernel) (by decide +kernel)
theorem zw_mX5_151 : Cond.methodLink RX5 151 yX5_anewOf ∈ zWL := zw_i 1048 (by decide +kernel) (by decide +kernel)
theorem zw_im_yX5_anewOf : Cond.instanceMethod yX5_anewOf ∈ zWL := zw_i 1050 (by decide +kernel) (by decide +kernel)
theorem zw_co_yX5_anewOf : Cond.code yX5_anewOf cX5_anewOf 2 (Option.some FieldType.int) ∈ zWL := zw_i 1051 (by decide +kernel) (by decide +kernel)
theorem zw_mL_169 : Cond.methodLink RL 169 yX5_fresh ∈ zWL := zw_i 1052 (by decide +kernel) (by decide +kernel)
theorem zw_im_yX5_fresh : Cond.instanceMethod yX5_fresh ∈ zWL := zw_i 1053 (by decide +kernel) (by decide +kernel)
theorem zw_se_yX5_fresh : Cond.selects RX5 yX5_fresh yX5_fresh ∈ zWL := zw_i 1054 (by decide +kernel) (by decide +kernel)
theorem zw_co_yX5_fresh : Cond.code yX5_fresh cX5_fresh 1 (Option.some FieldType.int) ∈ zWL := zw_i 1055 (by decide +kernel) (by decide +kernel)
theorem zw_mL_172 : Cond.methodLink RL 172 yX5_runs ∈ zWL := zw_i 1056 (by decide +kernel) (by decide +kernel)
theorem zw_im_yX5_runs : Cond.instanceMethod yX5_runs ∈ zWL := zw_i 1057 (by decide +kernel) (by decide +kernel)
theorem zw_se_yX5_runs : Cond.selects RX5 yX5_runs yX5_runs ∈ zWL := zw_i 1058 (by decide +kernel) (by decide +kernel)
theorem zw_co_yX5_runs : Cond.code yX5_runs cX5_runs 2 (Option.some FieldType.int) ∈ zWL := zw_i 1059 (by decide +kernel) (by decide +kernel)
theorem zw_mL_175 : Cond.methodLink RL 175 yX5_found ∈ zWL := zw_i 1060 (by decide +kernel) (by decide +kernel)
theorem zw_im_yX5_found : Cond.instanceMethod yX5_found ∈ zWL := zw_i 1061 (by decide +kernel) (by decide +kernel)
theorem zw_se_yX5_found : Cond.selects RX5 yX5_found yX5_found ∈ zWL := zw_i 1062 (by decide +kernel) (by decide +kernel)
theorem zw_co_yX5_found : Cond.code yX5_found cX5_found 2 (Option.some FieldType.int) ∈ zWL := zw_i 1063 (by decide +kernel) (by decide +kernel)
theorem zw_mL_178 : Cond.methodLink RL 178 yX5_failure ∈ zWL := zw_i 1064 (by decide +kernel) (by decide +kernel)
theorem zw_im_yX5_failure : Cond.instanceMethod yX5_failure ∈ zWL := zw_i 1065 (by decide +kernel) (by decide +kernel)
theorem zw_se_yX5_failure : Cond.selects RX5 yX5_failure yX5_failure ∈ zWL := zw_i 1066 (by decide +kernel) (by decide +kernel)
theorem zw_co_yX5_failure : Cond.code yX5_failure cX5_failure 2 (Option.some FieldType.char) ∈ zWL := zw_i 1067 (by decide +kernel) (by decide +kernel)
theorem zw_mX5_221 : Cond.methodLink RX5 221 yX5_isNoFailure ∈ zWL := zw_i 1068 (by decide +kernel) (by decide +kernel)
theorem zw_im_yX5_isNoFailure : Cond.instanceMethod yX5_isNoFailure ∈ zWL := zw_i 1070 (by decide +kernel) (by decide +kernel)
theorem zw_co_yX5_isNoFailure : Cond.code yX5_isNoFailure cX5_isNoFailure 2 (Option.some FieldType.boolean) ∈ zWL := zw_i 1071 (by decide +kernel) (by decide +kernel)
theorem zw_mL_181 : Cond.methodLink RL 181 yX5_root ∈ zWL := zw_i 1072 (by decide +kernel) (by decide +kernel)
theorem zw_im_yX5_root : Cond.instanceMethod yX5_root ∈ zWL := zw_i 1073 (by decide +kernel) (by decide +kernel)
theorem zw_se_yX5_root : Cond.selects RX5 yX5_root yX5_root ∈ zWL := zw_i 1074 (by decide +kernel) (by decide +kernel)
theorem zw_co_yX5_root : Cond.code yX5_root cX5_root 2 (Option.some FieldType.int) ∈ zWL := zw_i 1075 (by decide +kernel) (by decide +kernel)
theorem zw_mL_184 : Cond.methodLink RL 184 yX5_rootFailure ∈ zWL := zw_i 1076 (by decide +kernel) (by decide +kernel)
theorem zw_im_yX5_rootFailure : Cond.instanceMethod yX5_rootFailure ∈ zWL := zw_i 1077 (by decide +kernel) (by decide +kernel)
theorem zw_se_yX5_rootFailure : Cond.selects RX5 yX5_rootFailure yX5_rootFailure ∈ zWL := zw_i 1078 (by decide +kernel) (by decide +kernel)
theorem zw_co_yX5_rootFailure : Cond.code yX5_rootFailure cX5_rootFailure 2 (Option.some FieldType.char) ∈ zWL := zw_i 1079 (by decide +kernel) (by decide +kernel)
theorem zw_mL_187 : Cond.methodLink RL 187 yX5_causes ∈ zWL := zw_i 1080 (by decide +kernel) (by decide +kernel)
theorem zw_im_yX5_causes : Cond.instanceMethod yX5_causes ∈ zWL := zw_i 1081 (by decide +kernel) (by decide +kernel)
theorem zw_se_yX5_causes : Cond.selects RX5 yX5_causes yX5_causes ∈ zWL := zw_i 1082 (by decide +kernel) (by decide +kernel)
theorem zw_co_yX5_causes : Cond.code yX5_causes cX5_causes 2 (Option.some FieldType.int) ∈ zWL := zw_i 1083 (by decide +kernel) (by decide +kernel)
theorem zw_mL_190 : Cond.methodLink RL 190 yX5_depends ∈ zWL := zw_i 1084 (by decide +kernel) (by decide +kernel)
theorem zw_im_yX5_depends : Cond.instanceMethod yX5_depends ∈ zWL := zw_i 1085 (by decide +kernel) (by decide +kernel)
theorem zw_se_yX5_depends : Cond.selects RX5 yX5_depends yX5_depends ∈ zWL := zw_i 1086 (by decide +kernel) (by decide +kernel)
theorem zw_co_yX5_depends : Cond.code yX5_depends cX5_depends 3 (Option.some FieldType.boolean) ∈ zWL := zw_i 1087 (by decide +kernel) (by decide +kernel)
theorem zw_mX5_224 : Cond.methodLink RX5 224 yX5_isOn ∈ zWL := zw_i 1088 (by decide +kernel) (by decide +kernel)
theorem zw_im_yX5_isOn : Cond.instanceMethod yX5_isOn ∈ zWL := zw_i 1090 (by decide +kernel) (by decide +kernel)
theorem zw_co_yX5_isOn : Cond.code yX5_isOn cX5_isOn 3 (Option.some FieldType.boolean) ∈ zWL := zw_i 1091 (by decide +kernel) (by decide +kernel)
theorem zw_mX5_228 : Cond.methodLink RX5 228 yX5_comesFrom ∈ zWL := zw_i 1092 (by decide +kernel) (by decide +kernel)
theorem zw_im_yX5_comesFrom : Cond.instanceMethod yX5_comesFrom ∈ zWL := zw_i 1094 (by decide +kernel) (by decide +kernel)
theorem zw_co_yX5_comesFrom : Cond.code yX5_comesFrom cX5_comesFrom 3 (Option.some FieldType.boolean) ∈ zWL := zw_i 1095 (by decide +kernel) (by decide +kernel)
theorem zw_mL_193 : Cond.methodLink RL 193 yX5_owners ∈ zWL := zw_i 1096 (by decide +kernel) (by decide +kernel)
theorem zw_im_yX5_owners : Cond.instanceMethod yX5_owners ∈ zWL := zw_i 1097 (by decide +kernel) (by decide +kernel)
theorem zw_se_yX5_owners : Cond.selects RX5 yX5_owners yX5_owners ∈ zWL := zw_i 1098 (by decide +kernel) (by decide +kernel)
theorem zw_co_yX5_owners : Cond.code yX5_owners cX5_owners 4 (Option.some FieldType.int) ∈ zWL := zw_i 1099 (by decide +kernel) (by decide +kernel)
theorem zw_mL_196 : Cond.methodLink RL 196 yX5_dependents ∈ zWL := zw_i 1100 (by decide +kernel) (by decide +kernel)
theorem zw_im_yX5_dependents : Cond.instanceMethod yX5_dependents ∈ zWL := zw_i 1101 (by decide +kernel) (by decide +kernel)
theorem zw_se_yX5_dependents : Cond.selects RX5 yX5_dependents yX5_dependents ∈ zWL := zw_i 1102 (by decide +kernel) (by decide +kernel)
theorem zw_co_yX5_dependents : Cond.code yX5_dependents cX5_dependents 4 (Option.some FieldType.int) ∈ zWL := zw_i 1103 (by decide +kernel) (by decide +kernel)
theorem zw_mL_199 : Cond.methodLink RL 199 yX5_addKernel ∈ zWL := zw_i 1104 (by decide +kernel) (by decide +kernel)
theorem zw_im_yX5_addKernel : Cond.instanceMethod yX5_addKernel ∈ zWL := zw_i 1105 (by decide +kernel) (by decide +kernel)
theorem zw_se_yX5_addKernel : Cond.selects RX5 yX5_addKernel yX5_addKernel ∈ zWL := zw_i 1106 (by decide +kernel) (by decide +kernel)
theorem zw_co_yX5_addKernel : Cond.code yX5_addKernel cX5_addKernel 2 (Option.some FieldType.int) ∈ zWL := zw_i 1107 (by decide +kernel) (by decide +kernel)
theorem zw_mL_202 : Cond.methodLink RL 202 yX5_free ∈ zWL := zw_i 1108 (by decide +kernel) (by decide +kernel)
theorem zw_im_yX5_free : Cond.instanceMethod yX5_free ∈ zWL := zw_i 1109 (by decide +kernel) (by decide +kernel)
theorem zw_se_yX5_free : Cond.selects RX5 yX5_free yX5_free ∈ zWL := zw_i 1110 (by decide +kernel) (by decide +kernel)
theorem zw_co_yX5_free : Cond.code yX5_free cX5_free 2 (Option.some FieldType.int) ∈ zWL := zw_i 1111 (by decide +kernel) (by decide +kernel)
theorem zw_mL_205 : Cond.methodLink RL 205 yX5_schedule ∈ zWL := zw_i 1112 (by decide +kernel) (by decide +kernel)
theorem zw_im_yX5_schedule : Cond.instanceMethod yX5_schedule ∈ zWL := zw_i 1113 (by decide +kernel) (by decide +kernel)
theorem zw_se_yX5_schedule : Cond.selects RX5 yX5_schedule yX5_schedule ∈ zWL := zw_i 1114 (by decide +kernel) (by decide +kernel)
theorem zw_co_yX5_schedule : Cond.code yX5_schedule cX5_schedule 4 (Option.some FieldType.int) ∈ zWL := zw_i 1115 (by decide +kernel) (by decide +kernel)
theorem zw_mL_208 : Cond.methodLink RL 208 yX5_pass ∈ zWL := zw_i 1116 (by decide +kernel) (by decide +kernel)
theorem zw_im_yX5_pass : Cond.instanceMethod yX5_pass ∈ zWL := zw_i 1117 (by decide +kernel) (by decide +kernel)
theorem zw_se_yX5_pass : Cond.selects RX5 yX5_pass yX5_pass ∈ zWL := zw_i 1118 (by decide +kernel) (by decide +kernel)
theorem zw_co_yX5_pass : Cond.code yX5_pass cX5_pass 4 (Option.some FieldType.int) ∈ zWL := zw_i 1119 (by decide +kernel) (by decide +kernel)
theorem zw_mX5_234 : Cond.methodLink RX5 234 yX5_ticks ∈ zWL := zw_i 1120 (by decide +kernel) (by decide +kernel)
theorem zw_im_yX5_ticks : Cond.instanceMethod yX5_ticks ∈ zWL := zw_i 1122 (by decide +kernel) (by decide +kernel)
theorem zw_co_yX5_ticks : Cond.code yX5_ticks cX5_ticks 4 (Option.some FieldType.int) ∈ zWL := zw_i 1123 (by decide +kernel) (by decide +kernel)
theorem zw_mX5_231 : Cond.methodLink RX5 231 yX5_frees ∈ zWL := zw_i 1124 (by decide +kernel) (by decide +kernel)
theorem zw_im_yX5_frees : Cond.instanceMethod yX5_frees ∈ zWL := zw_i 1126 (by decide +kernel) (by decide +kernel)
theorem zw_co_yX5_frees : Cond.code yX5_frees cX5_frees 3 (Option.none : Option FieldType) ∈ zWL := zw_i 1127 (by decide +kernel) (by decide +kernel)
theorem zw_mL_212 : Cond.methodLink RL 212 yX5_tick ∈ zWL := zw_i 1128 (by decide +kernel) (by decide +kernel)
theorem zw_im_yX5_tick : Cond.instanceMethod yX5_tick ∈ zWL := zw_i 1129 (by decide +kernel) (by decide +kernel)
theorem zw_se_yX5_tick : Cond.selects RX5 yX5_tick yX5_tick ∈ zWL := zw_i 1130 (by decide +kernel) (by decide +kernel)
theorem zw_co_yX5_tick : Cond.code yX5_tick cX5_tick 1 (Option.some FieldType.int) ∈ zWL := zw_i 1131 (by decide +kernel) (by decide +kernel)
theorem zw_mL_217 : Cond.methodLink RL 217 yX5_work ∈ zWL := zw_i 1132 (by decide +kernel) (by decide +kernel)
theorem zw_im_yX5_work : Cond.instanceMethod yX5_work ∈ zWL := zw_i 1133 (by decide +kernel) (by decide +kernel)
theorem zw_se_yX5_work : Cond.selects RX5 yX5_work yX5_work ∈ zWL := zw_i 1134 (by decide +kernel) (by decide +kernel)
theorem zw_co_yX5_work : Cond.code yX5_work cX5_work 1 (Option.some FieldType.long) ∈ zWL := zw_i 1135 (by decide +kernel) (by decide +kernel)
theorem zw_mL_221 : Cond.methodLink RL 221 yX5_load ∈ zWL := zw_i 1136 (by decide +kernel) (by decide +kernel)
theorem zw_im_yX5_load : Cond.instanceMethod yX5_load ∈ zWL := zw_i 1137 (by decide +kernel) (by decide +kernel)
theorem zw_se_yX5_load : Cond.selects RX5 yX5_load yX5_load ∈ zWL := zw_i 1138 (by decide +kernel) (by decide +kernel)
theorem zw_co_yX5_load : Cond.code yX5_load cX5_load 4 (Option.some FieldType.float) ∈ zWL := zw_i 1139 (by decide +kernel) (by decide +kernel)
theorem zw_mL_224 : Cond.methodLink RL 224 yX5_meanValue ∈ zWL := zw_i 1140 (by decide +kernel) (by decide +kernel)
theorem zw_im_yX5_meanValue : Cond.instanceMethod yX5_meanValue ∈ zWL := zw_i 1141 (by decide +kernel) (by decide +kernel)
theorem zw_se_yX5_meanValue : Cond.selects RX5 yX5_meanValue yX5_meanValue ∈ zWL := zw_i 1142 (by decide +kernel) (by decide +kernel)
theorem zw_co_yX5_meanValue : Cond.code yX5_meanValue cX5_meanValue 4 (Option.some FieldType.double) ∈ zWL := zw_i 1143 (by decide +kernel) (by decide +kernel)
theorem zw_mL_227 : Cond.methodLink RL 227 yX5_publish ∈ zWL := zw_i 1144 (by decide +kernel) (by decide +kernel)
theorem zw_im_yX5_publish : Cond.instanceMethod yX5_publish ∈ zWL := zw_i 1145 (by decide +kernel) (by decide +kernel)
theorem zw_se_yX5_publish : Cond.selects RX5 yX5_publish yX5_publish ∈ zWL := zw_i 1146 (by decide +kernel) (by decide +kernel)
theorem zw_co_yX5_publish : Cond.code yX5_publish cX5_publish 2 (Option.some FieldType.int) ∈ zWL := zw_i 1147 (by decide +kernel) (by decide +kernel)
theorem zw_mL_230 : Cond.methodLink RL 230 yX5_held ∈ zWL := zw_i 1148 (by decide +kernel) (by decide +kernel)
theorem zw_im_yX5_held : Cond.instanceMethod yX5_held ∈ zWL := zw_i 1149 (by decide +kernel) (by decide +kernel)
theorem zw_se_yX5_held : Cond.selects RX5 yX5_held yX5_held ∈ zWL := zw_i 1150 (by decide +kernel) (by decide +kernel)
theorem zw_co_yX5_held : Cond.code yX5_held cX5_held 2 (Option.some FieldType.int) ∈ zWL := zw_i 1151 (by decide +kernel) (by decide +kernel)
theorem zw_mX5_240 : Cond.methodLink RX5 240 yX5_isNoView ∈ zWL := zw_i 1152 (by decide +kernel) (by decide +kernel)
theorem zw_im_yX5_isNoView : Cond.instanceMethod yX5_isNoView ∈ zWL := zw_i 1154 (by decide +kernel) (by decide +kernel)
theorem zw_co_yX5_isNoView : Cond.code yX5_isNoView cX5_isNoView 2 (Option.some FieldType.boolean) ∈ zWL := zw_i 1155 (by decide +kernel) (by decide +kernel)
theorem zw_mL_233 : Cond.methodLink RL 233 yX5_isCurrent ∈ zWL := zw_i 1156 (by decide +kernel) (by decide +kernel)
theorem zw_im_yX5_isCurrent : Cond.instanceMethod yX5_isCurrent ∈ zWL := zw_i 1157 (by decide +kernel) (by decide +kernel)
theorem zw_se_yX5_isCurrent : Cond.selects RX5 yX5_isCurrent yX5_isCurrent ∈ zWL := zw_i 1158 (by decide +kernel) (by decide +kernel)
theorem zw_co_yX5_isCurrent : Cond.code yX5_isCurrent cX5_isCurrent 2 (Option.some FieldType.boolean) ∈ zWL := zw_i 1159 (by decide +kernel) (by decide +kernel)
theorem zw_mL_238 : Cond.methodLink RL 238 yX5_isSound ∈ zWL := zw_i 1160 (by decide +kernel) (by decide +kernel)
theorem zw_im_yX5_isSound : Cond.instanceMethod yX5_isSound ∈ zWL := zw_i 1161 (by decide +kernel) (by decide +kernel)
theorem zw_se_yX5_isSound : Cond.selects RX5 yX5_isSound yX5_isSound ∈ zWL := zw_i 1162 (by decide +kernel) (by decide +kernel)
theorem zw_co_yX5_isSound : Cond.code yX5_isSound cX5_isSound 2 (Option.some FieldType.boolean) ∈ zWL := zw_i 1163 (by decide +kernel) (by decide +kernel)
theorem zw_ac_long : Cond.arrayClass .long ∈ zWL := zw_i 1164 (by decide +kernel) (by decide +kernel)
theorem zw_ac_double : Cond.arrayClass .double ∈ zWL := zw_i 1165 (by decide +kernel) (by decide +kernel)
theorem zw_lay0 : ∀ w ∈ wsX00, w ∈ zWL := zw_l [106, 108, 110, 112, 114, 116, 118, 120, 122, 124, 126, 128, 130, 132, 134, 136, 138] (by decide +kernel) (by decide +kernel)
theorem zw_lay1 : ∀ w ∈ wsX10, w ∈ zWL := zw_l [51, 53, 55, 57] (by decide +kernel) (by decide +kernel)
theorem zw_lay2 : ∀ w ∈ wsX20, w ∈ zWL := zw_l [151, 153, 155] (by decide +kernel) (by decide +kernel)
theorem zw_lay3 : ∀ w ∈ wsX30, w ∈ zWL := zw_l [73, 75, 77, 79, 81, 83] (by decide +kernel) (by decide +kernel)
theorem zw_lay4 : ∀ w ∈ wsX40, w ∈ zWL := zw_l [172, 174, 176, 178, 180, 182, 184, 186, 188, 190, 192, 194, 196, 198] (by decide +kernel) (by decide +kernel)
theorem zw_lay5 : ∀ w ∈ wsX50, w ∈ zWL := zw_l [818, 820, 822, 824, 826, 828, 830, 832, 834, 836, 838, 840, 842, 844, 846, 848, 850, 852, 854, 856, 858, 860, 862, 864, 866, 868, 870, 872, 874, 876, 878, 880, 882, 884, 886, 888, 890, 892, 894, 896] (by decide +kernel) (by decide +kernel)
theorem zw_se_yX4_isUpToDate : Cond.selects RX4 yX4_isUpToDate yX4_isUpToDate ∈ zWL := zw_p 0 (by decide +kernel) (by decide +kernel)
theorem zw_se_yX4_isAsThen : Cond.selects RX4 yX4_isAsThen yX4_isAsThen ∈ zWL := zw_p 1 (by decide +kernel) (by decide +kernel)
theorem zw_se_yX4_execute : Cond.selects RX4 yX4_execute yX4_execute ∈ zWL := zw_p 2 (by decide +kernel) (by decide +kernel)
theorem zw_se_yX4_failForMissing : Cond.selects RX4 yX4_failForMissing yX4_failForMissing ∈ zWL := zw_p 3 (by decide +kernel) (by decide +kernel)
theorem zw_se_yX4_endWith : Cond.selects RX4 yX4_endWith yX4_endWith ∈ zWL := zw_p 4 (by decide +kernel) (by decide +kernel)
theorem zw_se_yX4_succeedWith : Cond.selects RX4 yX4_succeedWith yX4_succeedWith ∈ zWL := zw_p 5 (by decide +kernel) (by decide +kernel)
theorem zw_se_yX4_kernelFor : Cond.selects RX4 yX4_kernelFor yX4_kernelFor ∈ zWL := zw_p 6 (by decide +kernel) (by decide +kernel)
theorem zw_se_yX4_freshCells : Cond.selects RX4 yX4_freshCells yX4_freshCells ∈ zWL := zw_p 7 (by decide +kernel) (by decide +kernel)
theorem zw_se_yX4_freshCellsAreRight : Cond.selects RX4 yX4_freshCellsAreRight yX4_freshCellsAreRight ∈ zWL := zw_p 8 (by decide +kernel) (by decide +kernel)
theorem zw_se_yX4_computeAnew : Cond.selects RX4 yX4_computeAnew yX4_computeAnew ∈ zWL := zw_p 9 (by decide +kernel) (by decide +kernel)
theorem zw_se_yX4_isData : Cond.selects RX4 yX4_isData yX4_isData ∈ zWL := zw_p 10 (by decide +kernel) (by decide +kernel)
theorem zw_se_yX4_kernelsAreRight : Cond.selects RX4 yX4_kernelsAreRight yX4_kernelsAreRight ∈ zWL := zw_p 11 (by decide +kernel) (by decide +kernel)
theorem zw_se_yX4_failuresAreRight : Cond.selects RX4 yX4_failuresAreRight yX4_failuresAreRight ∈ zWL := zw_p 12 (by decide +kernel) (by decide +kernel)
theorem zw_se_yX4_isDefined : Cond.selects RX4 yX4_isDefined yX4_isDefined ∈ zWL := zw_p 14 (by decide +kernel) (by decide +kernel)
theorem zw_se_yX4_checkData : Cond.selects RX4 yX4_checkData yX4_checkData ∈ zWL := zw_p 15 (by decide +kernel) (by decide +kernel)
theorem zw_se_yX4_lineageThrough : Cond.selects RX4 yX4_lineageThrough yX4_lineageThrough ∈ zWL := zw_p 16 (by decide +kernel) (by decide +kernel)
theorem zw_se_yX4_cellAt : Cond.selects RX4 yX4_cellAt yX4_cellAt ∈ zWL := zw_p 17 (by decide +kernel) (by decide +kernel)
theorem zw_se_yX4_isFresh : Cond.selects RX4 yX4_isFresh yX4_isFresh ∈ zWL := zw_p 18 (by decide +kernel) (by decide +kernel)
theorem zw_se_yX4_failureOf : Cond.selects RX4 yX4_failureOf yX4_failureOf ∈ zWL := zw_p 19 (by decide +kernel) (by decide +kernel)
theorem zw_se_yX4_runWhatIsDue : Cond.selects RX4 yX4_runWhatIsDue yX4_runWhatIsDue ∈ zWL := zw_p 20 (by decide +kernel) (by decide +kernel)
theorem zw_se_yX4_isDue : Cond.selects RX4 yX4_isDue yX4_isDue ∈ zWL := zw_p 21 (by decide +kernel) (by decide +kernel)
theorem zw_se_yX4_checkView : Cond.selects RX4 yX4_checkView yX4_checkView ∈ zWL := zw_p 22 (by decide +kernel) (by decide +kernel)
theorem zw_se_yX5_isThere : Cond.selects RX5 yX5_isThere yX5_isThere ∈ zWL := zw_p 23 (by decide +kernel) (by decide +kernel)
theorem zw_se_yX5_fails : Cond.selects RX5 yX5_fails yX5_fails ∈ zWL := zw_p 24 (by decide +kernel) (by decide +kernel)
theorem zw_se_yX5_isNoCell : Cond.selects RX5 yX5_isNoCell yX5_isNoCell ∈ zWL := zw_p 25 (by decide +kernel) (by decide +kernel)
theorem zw_se_yX5_tells : Cond.selects RX5 yX5_tells yX5_tells ∈ zWL := zw_p 26 (by decide +kernel) (by decide +kernel)
theorem zw_se_yX5_does : Cond.selects RX5 yX5_does yX5_does ∈ zWL := zw_p 27 (by decide +kernel) (by decide +kernel)
theorem zw_se_yX5_lacks : Cond.selects RX5 yX5_lacks yX5_lacks ∈ zWL := zw_p 28 (by decide +kernel) (by decide +kernel)
theorem zw_se_yX5_failed : Cond.selects RX5 yX5_failed yX5_failed ∈ zWL := zw_p 29 (by decide +kernel) (by decide +kernel)
theorem zw_se_yX5_fallsShort : Cond.selects RX5 yX5_fallsShort yX5_fallsShort ∈ zWL := zw_p 30 (by decide +kernel) (by decide +kernel)
theorem zw_se_yX5_second : Cond.selects RX5 yX5_second yX5_second ∈ zWL := zw_p 31 (by decide +kernel) (by decide +kernel)
theorem zw_se_yX5_computes : Cond.selects RX5 yX5_computes yX5_computes ∈ zWL := zw_p 32 (by decide +kernel) (by decide +kernel)
theorem zw_se_yX5_keptAt : Cond.selects RX5 yX5_keptAt yX5_keptAt ∈ zWL := zw_p 33 (by decide +kernel) (by decide +kernel)
theorem zw_se_yX5_has : Cond.selects RX5 yX5_has yX5_has ∈ zWL := zw_p 34 (by decide +kernel) (by decide +kernel)
theorem zw_se_yX5_kernelFor : Cond.selects RX5 yX5_kernelFor yX5_kernelFor ∈ zWL := zw_p 35 (by decide +kernel) (by decide +kernel)
theorem zw_se_yX5_freeOf : Cond.selects RX5 yX5_freeOf yX5_freeOf ∈ zWL := zw_p 36 (by decide +kernel) (by decide +kernel)
theorem zw_se_yX5_takes : Cond.selects RX5 yX5_takes yX5_takes ∈ zWL := zw_p 37 (by decide +kernel) (by decide +kernel)
theorem zw_se_yX5_keeps : Cond.selects RX5 yX5_keeps yX5_keeps ∈ zWL := zw_p 38 (by decide +kernel) (by decide +kernel)
theorem zw_se_yX5_isFresh : Cond.selects RX5 yX5_isFresh yX5_isFresh ∈ zWL := zw_p 39 (by decide +kernel) (by decide +kernel)
theorem zw_se_yX5_isFreshBelow : Cond.selects RX5 yX5_isFreshBelow yX5_isFreshBelow ∈ zWL := zw_p 40 (by decide +kernel) (by decide +kernel)
theorem zw_se_yX5_allFresh : Cond.selects RX5 yX5_allFresh yX5_allFresh ∈ zWL := zw_p 41 (by decide +kernel) (by decide +kernel)
theorem zw_se_yX5_anew : Cond.selects RX5 yX5_anew yX5_anew ∈ zWL := zw_p 42 (by decide +kernel) (by decide +kernel)
theorem zw_se_yX5_anewOf : Cond.selects RX5 yX5_anewOf yX5_anewOf ∈ zWL := zw_p 43 (by decide +kernel) (by decide +kernel)
theorem zw_se_yX5_isNoFailure : Cond.selects RX5 yX5_isNoFailure yX5_isNoFailure ∈ zWL := zw_p 44 (by decide +kernel) (by decide +kernel)
theorem zw_se_yX5_isOn : Cond.selects RX5 yX5_isOn yX5_isOn ∈ zWL := zw_p 45 (by decide +kernel) (by decide +kernel)
theorem zw_se_yX5_comesFrom : Cond.selects RX5 yX5_comesFrom yX5_comesFrom ∈ zWL := zw_p 46 (by decide +kernel) (by decide +kernel)
theorem zw_se_yX5_ticks : Cond.selects RX5 yX5_ticks yX5_ticks ∈ zWL := zw_p 47 (by decide +kernel) (by decide +kernel)
theorem zw_se_yX5_frees : Cond.selects RX5 yX5_frees yX5_frees ∈ zWL := zw_p 48 (by decide +kernel) (by decide +kernel)
theorem zw_se_yX5_isNoView : Cond.selects RX5 yX5_isNoView yX5_isNoView ∈ zWL := zw_p 49 (by decide +kernel) (by decide +kernel)
end
section
/-! THE WORLD OF THIS CLAIM: a cell has a kind k and a number i; kinds 0 to 19 belong to the class, 20 to 59 to the model, 60 and 61 are the law's rows. x and y tell what the slots hold, as whole numbers. -/
abbrev zSt : Type := Nat → Int → Int → Int
abbrev zR (z : Int) : Prop := -2147483648 ≤ z ∧ z ≤ 2147483647
def zI (z : Int) : Value := .int (Int32.ofInt z)
/-- shape of a kind: (0, class, fields) an object; 1 ints, 2 chars, 3 booleans, 4 longs, 5 doubles, 6 references to a kind; then how many there are -/
def zshL : List (Nat × Nat × Nat × Nat) := [(0, 4, 14, 1), (1, 0, 12, 1), (1, 0, 12, 1), (1, 0, 12, 1), (1, 0, 12, 1), (6, 9, 11, 1), (6, 16, 3, 1), (1, 0, 20, 1), (1, 0, 20, 1), (0, 0, 17, 11), (0, 1, 4, 11), (0, 3, 6, 11), (1, 0, 4, 11), (1, 0, 4, 11), (1, 0, 4, 11), (1, 0, 4, 11), (0, 2, 3, 3), (1, 0, 10, 3), (0, 0, 0, 0), (0, 0, 0, 0), (0, 5, 40, 1), (3, 0, 12, 1), (1, 0, 12, 1), (1, 0, 12, 1), (1, 0, 12, 1), (0, 0, 0, 0), (2, 0, 16, 1), (1, 0, 16, 1), (1, 0, 16, 1), (1, 0, 16, 1), (1, 0, 16, 1), (1, 0, 16, 1), (1, 0, 16, 1), (1, 0, 16, 1), (2, 0, 16, 1), (1, 0, 16, 1), (1, 0, 16, 1), (1, 0, 16, 1), (1, 0, 16, 1), (1, 0, 16, 1), (1, 0, 16, 1), (2, 0, 16, 1), (2, 0, 16, 1), (1, 0, 16, 1), (1, 0, 64, 1), (1, 0, 64, 1), (1, 0, 64, 1), (1, 0, 64, 1), (0, 0, 0, 0), (1, 0, 3, 1), (0, 0, 0, 0), (1, 0, 60, 1), (1, 0, 60, 1), (1, 0, 60, 1), (0, 0, 0, 0), (1, 0, 20, 1), (1, 0, 20, 1), (0, 0, 0, 0), (0, 0, 0, 0), (0, 0, 0, 0), (4, 0, 1, 1), (5, 0, 1, 1)]
def zsh (k : Nat) : Nat × Nat × Nat × Nat := zshL.getD k (0, 0, 0, 0)
/-- tags of an object's fields: 0 an int, 1 a long, r + 2 a reference to the cell of kind r with the same number -/
def zflL : List (List Nat) := [[3, 4, 5, 6, 7, 8, 9, 10, 0, 0, 0, 0, 0, 1], [], [], [], [], [], [], [], [], [0, 0, 0, 0, 0, 0, 0, 0, 0, 0, 0, 0, 0, 0, 0, 12, 13], [0, 0, 0, 0], [14, 15, 16, 17, 0, 0], [], [], [], [], [0, 0, 19], [], [], [], [0, 23, 24, 25, 26, 0, 28, 29, 30, 31, 32, 33, 34, 35, 36, 37, 38, 39, 40, 41, 42, 43, 44, 45, 46, 47, 48, 49, 0, 51, 0, 53, 54, 55, 0, 57, 58, 0, 1, 0], [], [], [], [], [], [], [], [], [], [], [], [], [], [], [], [], [], [], [], [], [], [], [], [], [], [], [], [], [], [], [], [], [], [], [], [], [], [], [], [], []]
def zfl (k j : Nat) : Nat := (zflL.getD k []).getD j 0
def zty (k : Nat) : FieldType := match zsh k with
  | (1, _) => .int
  | (2, _) => .char
  | (3, _) => .boolean
  | (4, _) => .long
  | (5, _) => .double
  | (6, a, _) => .object (if a = 9 then RX0 else RX2)
  | _ => .int
def zin (k : Nat) (i : Int) : Prop := 0 ≤ i ∧ i < (zsh k).2.2.2
def zm (x y : zSt) : zSt := fun k => if k < 20 then x k else y k
def zV1 (ad : Nat → Int → Nat) (f : Int → Int) (i : Int) (t j : Nat) : Value := match t with
  | 0 => .int (Int32.ofInt (f j))
  | 1 => .long (Int64.ofInt (f j))
  | r + 2 => .ref (ad r i)
def zE (cA : Nat → ClassId) (ad : Nat → Int → Nat) (f : Int → Int) (k : Nat) (i : Int) : va_E := match zsh k with
  | (0, ci, n, _) => .inr (ci, (List.range n).map (fun j => zV1 ad f i (zfl k j) j))
  | (1, _, n, _) => .inl (cA k, n, .inl (fun j => Int32.ofInt (f j)))
  | (2, _, n, _) => .inl (cA k, n, .inl (fun j => Int32.ofInt (f j)))
  | (3, _, n, _) => .inl (cA k, n, .inl (fun j => Int32.ofInt (f j)))
  | (4, _, n, _) => .inl (cA k, n, .inr (.inl (fun j => Int64.ofInt (f j))))
  | (5, _, n, _) => .inl (cA k, n, .inr (.inr (.inr (.inl (fun j => UInt64.ofNat (f j).toNat)))))
  | (_, a, n, _) => .inl (cA k, n, .inr (.inr (.inr (.inr (fun j => some (ad a j))))))
/-- slots whose numbers need not be ints -/
def zlg (k : Nat) (j : Int) : Bool := (k == 0 && j == 13) || (k == 20 && j == 38) || decide (60 ≤ k)
def zW (D : va_G) (cA : Nat → ClassId) (ad : Nat → Int → Nat) (x y : zSt) (H : Heap) : Prop :=
  (∀ (k k' : Nat) (i i' : Int), zin k i → zin k' i' → ad k i = ad k' i' → k = k' ∧ i = i') ∧
  (∀ (k : Nat) (i : Int), zin k i → va_at D zCl (ad k i, zE cA ad (zm x y k i) k i) H) ∧
  (∀ (k : Nat) (i j : Int), zlg k j = false → zR (zm x y k i j))
def zK (D : va_G) (cA : Nat → ClassId) (s : State) : Prop := va_K D zCl [] s ∧ ∀ k : Nat, (zsh k).1 ≠ 0 → ArrOfT s (cA k) (zty k) ∧ va_RA s (cA k) (zty k)
def zstrs : List (Nat × String) := [(52, "the variable, the owner or the value is out of range"), (62, "the variable is data or is written by a cell"), (69, "the variable or the value is out of range"), (266, "the variable is not data"), (264, "there is no such variable"), (78, "the variable has no value"), (84, "one of them is out of range"), (88, "what it reads must be there, what it writes must not"), (94, "no variable is left to write"), (270, "there is no such cell"), (129, "the constant is out of range"), (134, "no cell writes the variable"), (161, "the cell would fail"), (272, "the cell has not failed"), (196, "the room is out of range"), (201, "there are 3 kernels"), (208, "there is no such kernel"), (214, "the period is out of range"), (219, "the number of ticks is out of range"), (224, "the tick would be greater than 5000"), (241, "there are no kernels"), (244, "no variable has a value"), (249, "the cell is not fresh, or there are 20 views"), (268, "there is no such view")]
def zexc : List String := ["java/lang/IllegalArgumentException", "java/lang/IllegalStateException", "java/util/NoSuchElementException", "java/lang/UnsupportedOperationException", "java/lang/IndexOutOfBoundsException", "java/lang/ArithmeticException"]
def zxw : List Cond := zexc.map (fun E => Cond.castable E E) ++ ["java/lang/RuntimeException", "java/lang/Exception", "java/lang/Throwable"].map (fun E => Cond.declares ⟨E, "<init>", "(Ljava/lang/String;)V"⟩)
def zST (A : Nat → Prop) (U : State) (H : Heap) : Prop := vx_Zq Bundle.tN "UNASSIGNED_STACK" Bundle.steD A U H ∧ vx_Zq Bundle.tN "SUPPRESSED_SENTINEL" Bundle.listD A U H ∧ (∀ q ∈ zstrs, ∃ a, vk_R RX4 q.1 q.2 a U) ∧ ∀ w ∈ zxw, va_Nw w U
def zA (ad : Nat → Int → Nat) (sz : Nat) : Nat → Prop := fun q => (∃ (k : Nat) (i : Int), zin k i ∧ q = ad k i) ∨ sz ≤ q
def zup (x : zSt) (k : Nat) (i j z : Int) : zSt := fun k' i' j' => if k' = k ∧ i' = i ∧ j' = j then z else x k' i' j'
theorem zup_same {x : zSt} {k : Nat} {i j z : Int} : zup x k i j z k i j = z := if_pos ⟨rfl, rfl, rfl⟩
theorem zup_k {x : zSt} {k k' : Nat} {i i' j j' z : Int} (h : k' ≠ k) : zup x k i j z k' i' j' = x k' i' j' := if_neg (fun q => h q.1)
theorem zup_i {x : zSt} {k : Nat} {i i' j j' z : Int} (h : i' ≠ i) : zup x k i j z k i' j' = x k i' j' := if_neg (fun q => h q.2.1)
theorem zup_j {x : zSt} {k : Nat} {i j j' z : Int} (h : j' ≠ j) : zup x k i j z k i j' = x k i j' := if_neg (fun q => h q.2.2)
theorem zup_e {x : zSt} {k : Nat} {i i' j j' z : Int} : zup x k i j z k i' j' = if i' = i ∧ j' = j then z else x k i' j' := by
  unfold zup
  by_cases h : i' = i ∧ j' = j
  · rw [if_pos ⟨rfl, h⟩, if_pos h]
  · rw [if_neg (fun q => h q.2), if_neg h]
theorem zm_x {x y : zSt} {k : Nat} (h : k < 20) : zm x y k = x k := if_pos h
theorem zm_y {x y : zSt} {k : Nat} (h : ¬ k < 20) : zm x y k = y k := if_neg h
/-- locals, by place -/
def zLl (L : List (Option Value)) : List (Nat × Value) := (List.range L.length).filterMap (fun j => (L.getD j none).map (fun v => (j, v)))
def zL (ls : Array Slot) (L : List (Option Value)) : Prop := lv_has ls L.length (zLl L) ∧ ∀ v, some v ∈ L → v.category = 1
theorem zLl_mem {L : List (Option Value)} {j : Nat} {v : Value} : (j, v) ∈ zLl L ↔ L[j]? = some (some v) := by
  unfold zLl
  rw [List.mem_filterMap]
  constructor
  · rintro ⟨a, ha, h⟩
    rw [List.mem_range] at ha
    rw [List.getD_eq_getElem?_getD] at h
    rw [List.getElem?_eq_getElem ha] at h
    simp only [Option.getD_some, Option.map_eq_some_iff, Prod.mk.injEq] at h
    obtain ⟨w, hw, rfl, rfl⟩ := h
    rw [List.getElem?_eq_getElem ha, hw]
  · intro h
    have hl := (List.getElem?_eq_some_iff.mp h).1
    refine ⟨j, List.mem_range.mpr hl, ?_⟩
    rw [List.getD_eq_getElem?_getD, h]
    rfl
theorem zL.at {ls : Array Slot} {L : List (Option Value)} (h : zL ls L) {i : Nat} {v : Value} (hi : L[i]? = some (some v)) : ls[i]? = some (.val v) := h.1.2.2 (i, v) (zLl_mem.mpr hi)
theorem zL.st {ls ls' : Array Slot} {L : List (Option Value)} {i : Nat} {v : Value} (h : zL ls L) (hi : i < L.length) (hc : v.category = 1)
    (h' : lv_has ls' L.length ((i, v) :: (zLl L).filter (fun q => !(q.1 == i) && !(q.1 + 1 == i && q.2.category == 2)))) : zL ls' (L.set i (some v)) := by
  refine ⟨⟨by rw [List.length_set]; exact h'.1, h'.2.1, fun q hq => ?_⟩, fun w hw => ?_⟩
  · refine h'.2.2 q ?_
    obtain ⟨j, w⟩ := q
    have h1 := zLl_mem.mp hq
    by_cases hj : j = i
    · subst hj
      rw [List.getElem?_set_self hi] at h1
      cases h1
      exact List.mem_cons_self
    · rw [List.getElem?_set_ne (Ne.symm hj)] at h1
      refine List.mem_cons_of_mem _ (List.mem_filter.mpr ⟨zLl_mem.mpr h1, ?_⟩)
      have h2 := h.2 w (List.mem_of_getElem? h1)
      simp [hj, h2]
  · rcases List.mem_or_eq_of_mem_set hw with h1 | h1
    · exact h.2 w h1
    · cases h1
      exact hc
abbrev zG : Type := Program × Launch × Env × Room × State × MethodId × Array Value × List Frame × Method × Code × va_G × (Nat → ClassId) × (Nat → Prop) × (State → Prop)
/-- the judgement: at pc, with locals L and stack st, over the world (x, y) -/
def zV (Γ : zG) (ad : Nat → Int → Nat) (cs ss : Nat) (x y : zSt) (pc : Nat) (L : List (Option Value)) (st : List Value) : Prop := match Γ with
  | (p, l, e, R, s, m, args, below, meth, c, D, cA, A, Q) => ∀ (H : Heap) (locs : List Loc) (ls : Array Slot), zW D cA ad x y H → va_S A s.heap H locs → zL ls L → W p l e R s m args below meth c H locs cs ss Q (F0 m pc ls st)
/-- what holds in a method of the class own, with the code cc and nL locals -/
def zX (Γ : zG) (ad : Nat → Int → Nat) (own : String) (cc : ByteArray) (nL : Nat) : Prop := match Γ with
  | (p, _, _, _, s, m, args, _, meth, c, D, cA, A, _) => (p.tables.exec = Jvm.exec ∧ c.code = cc ∧ c.maxLocals = nL ∧ s.vm.findClass own = some m.cls ∧ ∀ w ∈ zWL, w.before args s = true) ∧ meth.locks = false ∧ zK D cA s ∧ (∀ q, s.heap.size ≤ q → A q) ∧ ∀ (k : Nat) (i : Int), zin k i → A (ad k i)
section ZV
variable {Γ : zG} {ad : Nat → Int → Nat} {cs ss : Nat} {x y : zSt} {pc : Nat} {L : List (Option Value)} {st : List Value} {own : String} {cc : ByteArray} {nL : Nat}
theorem zV_top {v w : Value} (h : v = w) (kk : zV Γ ad cs ss x y pc L (w :: st)) : zV Γ ad cs ss x y pc L (v :: st) := h ▸ kk
theorem zV_wide {cs' ss' : Nat} (h1 : cs ≤ cs') (h2 : ss ≤ ss') (kk : zV Γ ad cs' ss' x y pc L st) : zV Γ ad cs ss x y pc L st := by
  obtain ⟨p, l, e, R, s, m, args, below, meth, c, D, cA, A, Q⟩ := Γ
  intro H locs ls hW hS hL
  exact W.widen h1 h2 (kk H locs ls hW hS hL)
theorem zV_iconst (hX : zX Γ ad own cc nL) {n : Int} (d : decode cc pc = .ok (.iconst n, 1)) (kk : zV Γ ad cs ss x y (pc + 1) L (zI n :: st)) : zV Γ ad cs ss x y pc L st := by
  obtain ⟨p, l, e, R, s, m, args, below, meth, c, D, cA, A, Q⟩ := Γ
  intro H locs ls hW hS hL
  exact lv_iconst hX.1.1 hX.1.2.1 d rfl (kk H locs ls hW hS hL)
theorem zV_bipush (hX : zX Γ ad own cc nL) {n : Int} (d : decode cc pc = .ok (.bipush n, 2)) (h : (Int8.ofInt n).toInt32 = Int32.ofInt n) (kk : zV Γ ad cs ss x y (pc + 2) L (zI n :: st)) : zV Γ ad cs ss x y pc L st := by
  obtain ⟨p, l, e, R, s, m, args, below, meth, c, D, cA, A, Q⟩ := Γ
  intro H locs ls hW hS hL
  exact lv_bipush hX.1.1 hX.1.2.1 d h (kk H locs ls hW hS hL)
theorem zV_sipush (hX : zX Γ ad own cc nL) {n : Int} (d : decode cc pc = .ok (.sipush n, 3)) (h : (Int16.ofInt n).toInt32 = Int32.ofInt n) (kk : zV Γ ad cs ss x y (pc + 3) L (zI n :: st)) : zV Γ ad cs ss x y pc L st := by
  obtain ⟨p, l, e, R, s, m, args, below, meth, c, D, cA, A, Q⟩ := Γ
  intro H locs ls hW hS hL
  exact lv_sipush hX.1.1 hX.1.2.1 d h (kk H locs ls hW hS hL)
theorem zV_ldc (hX : zX Γ ad own cc nL) {n : Int} {i : Nat} (hw : Cond.constant own i (Int32.ofInt n) ∈ zWL) (d : decode cc pc = .ok (.ldc i, 2)) (kk : zV Γ ad cs ss x y (pc + 2) L (zI n :: st)) : zV Γ ad cs ss x y pc L st := by
  obtain ⟨p, l, e, R, s, m, args, below, meth, c, D, cA, A, Q⟩ := Γ
  intro H locs ls hW hS hL
  exact lv_ldc hX.1.1 hX.1.2.1 hX.1.2.2.2.1 (hX.1.2.2.2.2 _ hw) d (kk H locs ls hW hS hL)
theorem zV_iload (hX : zX Γ ad own cc nL) {i : Nat} {z : Int} (d : decode cc pc = .ok (.iload i, 2)) (h : L[i]? = some (some (zI z))) (kk : zV Γ ad cs ss x y (pc + 2) L (zI z :: st)) : zV Γ ad cs ss x y pc L st := by
  obtain ⟨p, l, e, R, s, m, args, below, meth, c, D, cA, A, Q⟩ := Γ
  intro H locs ls hW hS hL
  exact lv_iload hX.1.1 hX.1.2.1 d (hL.at h) (kk H locs ls hW hS hL)
theorem zV_iloadn (hX : zX Γ ad own cc nL) {k : Fin 4} {z : Int} (d : decode cc pc = .ok (.iload_n k, 1)) (h : L[(k : Nat)]? = some (some (zI z))) (kk : zV Γ ad cs ss x y (pc + 1) L (zI z :: st)) : zV Γ ad cs ss x y pc L st := by
  obtain ⟨p, l, e, R, s, m, args, below, meth, c, D, cA, A, Q⟩ := Γ
  intro H locs ls hW hS hL
  exact lv_iload_n hX.1.1 hX.1.2.1 d rfl (hL.at h) (kk H locs ls hW hS hL)
theorem zV_aload (hX : zX Γ ad own cc nL) {i : Nat} {q : Nat} (d : decode cc pc = .ok (.aload i, 2)) (h : L[i]? = some (some (.ref q))) (kk : zV Γ ad cs ss x y (pc + 2) L (.ref q :: st)) : zV Γ ad cs ss x y pc L st := by
  obtain ⟨p, l, e, R, s, m, args, below, meth, c, D, cA, A, Q⟩ := Γ
  intro H locs ls hW hS hL
  exact lv_aload hX.1.1 hX.1.2.1 d (hL.at h) (kk H locs ls hW hS hL)
theorem zV_aloadn (hX : zX Γ ad own cc nL) {k : Fin 4} {q : Nat} (d : decode cc pc = .ok (.aload_n k, 1)) (h : L[(k : Nat)]? = some (some (.ref q))) (kk : zV Γ ad cs ss x y (pc + 1) L (.ref q :: st)) : zV Γ ad cs ss x y pc L st := by
  obtain ⟨p, l, e, R, s, m, args, below, meth, c, D, cA, A, Q⟩ := Γ
  intro H locs ls hW hS hL
  exact lv_aload_n hX.1.1 hX.1.2.1 d rfl (hL.at h) (kk H locs ls hW hS hL)
theorem zV_istore_w (hX : zX Γ ad own cc nL) {i : Nat} {z : Int} (hi : i < L.length) (d : decode cc pc = .ok (.istore i, 2)) (kk : zV Γ ad cs ss x y (pc + 2) (L.set i (some (zI z))) st) : zV Γ ad cs ss x y pc L (zI z :: st) := by
  obtain ⟨p, l, e, R, s, m, args, below, meth, c, D, cA, A, Q⟩ := Γ
  intro H locs ls hW hS hL
  exact lv_istore hX.1.1 hX.1.2.1 d hL.1 hi rfl (fun ls' h' => kk H locs ls' hW hS (hL.st hi rfl h'))
theorem zV_istore_n (hX : zX Γ ad own cc nL) {k : Fin 4} {i : Nat} {z : Int} (hi : i < L.length) (d : decode cc pc = .ok (.istore_n k, 1)) (hk : (k : Nat) = i) (kk : zV Γ ad cs ss x y (pc + 1) (L.set i (some (zI z))) st) : zV Γ ad cs ss x y pc L (zI z :: st) := by
  obtain ⟨p, l, e, R, s, m, args, below, meth, c, D, cA, A, Q⟩ := Γ
  intro H locs ls hW hS hL
  exact lv_istore_n hX.1.1 hX.1.2.1 d hk hL.1 hi rfl (fun ls' h' => kk H locs ls' hW hS (hL.st hi rfl h'))
theorem zV_astore_w (hX : zX Γ ad own cc nL) {i : Nat} {q : Nat} (hi : i < L.length) (d : decode cc pc = .ok (.astore i, 2)) (kk : zV Γ ad cs ss x y (pc + 2) (L.set i (some (.ref q))) st) : zV Γ ad cs ss x y pc L (.ref q :: st) := by
  obtain ⟨p, l, e, R, s, m, args, below, meth, c, D, cA, A, Q⟩ := Γ
  intro H locs ls hW hS hL
  exact lv_astore hX.1.1 hX.1.2.1 d hL.1 hi rfl (fun ls' h' => kk H locs ls' hW hS (hL.st hi rfl h'))
theorem zV_astore_n (hX : zX Γ ad own cc nL) {k : Fin 4} {i : Nat} {q : Nat} (hi : i < L.length) (d : decode cc pc = .ok (.astore_n k, 1)) (hk : (k : Nat) = i) (kk : zV Γ ad cs ss x y (pc + 1) (L.set i (some (.ref q))) st) : zV Γ ad cs ss x y pc L (.ref q :: st) := by
  obtain ⟨p, l, e, R, s, m, args, below, meth, c, D, cA, A, Q⟩ := Γ
  intro H locs ls hW hS hL
  exact lv_astore_n hX.1.1 hX.1.2.1 d hk hL.1 hi rfl (fun ls' h' => kk H locs ls' hW hS (hL.st hi rfl h'))
theorem zV_iinc_w (hX : zX Γ ad own cc nL) {i : Nat} {z n : Int} (h : L[i]? = some (some (zI z))) (d : decode cc pc = .ok (.iinc i n, 3)) (kk : zV Γ ad cs ss x y (pc + 3) (L.set i (some (zI (z + n)))) st) : zV Γ ad cs ss x y pc L st := by
  obtain ⟨p, l, e, R, s, m, args, below, meth, c, D, cA, A, Q⟩ := Γ
  intro H locs ls hW hS hL
  have hi := (List.getElem?_eq_some_iff.mp h).1
  obtain ⟨k, hk⟩ := List.getElem?_of_mem (zLl_mem.mpr h)
  exact lv_iinc (v := Int32.ofInt (z + n)) hX.1.1 hX.1.2.1 d hL.1 hk (Int32.ofInt_add z n).symm hi rfl (fun ls' h' => kk H locs ls' hW hS (hL.st hi rfl h'))
theorem zV_istore0 (hX : zX Γ ad own cc nL) {b : Option Value} {z : Int} {L : List (Option Value)} (d : decode cc pc = .ok (.istore 0, 2)) (kk : zV Γ ad cs ss x y (pc + 2) (some (zI z) :: L) st) : zV Γ ad cs ss x y pc (b :: L) (zI z :: st) := zV_istore_w hX (i := 0) (by simp) d kk
theorem zV_istoren0 (hX : zX Γ ad own cc nL) {b : Option Value} {z : Int} {L : List (Option Value)} (d : decode cc pc = .ok (.istore_n 0, 1)) (kk : zV Γ ad cs ss x y (pc + 1) (some (zI z) :: L) st) : zV Γ ad cs ss x y pc (b :: L) (zI z :: st) := zV_istore_n hX (i := 0) (by simp) d rfl kk
theorem zV_astore0 (hX : zX Γ ad own cc nL) {b : Option Value} {q : Nat} {L : List (Option Value)} (d : decode cc pc = .ok (.astore 0, 2)) (kk : zV Γ ad cs ss x y (pc + 2) (some (.ref q) :: L) st) : zV Γ ad cs ss x y pc (b :: L) (.ref q :: st) := zV_astore_w hX (i := 0) (by simp) d kk
theorem zV_astoren0 (hX : zX Γ ad own cc nL) {b : Option Value} {q : Nat} {L : List (Option Value)} (d : decode cc pc = .ok (.astore_n 0, 1)) (kk : zV Γ ad cs ss x y (pc + 1) (some (.ref q) :: L) st) : zV Γ ad cs ss x y pc (b :: L) (.ref q :: st) := zV_astore_n hX (i := 0) (by simp) d rfl kk
theorem zV_iinc0 (hX : zX Γ ad own cc nL) {z n : Int} {L : List (Option Value)} (d : decode cc pc = .ok (.iinc 0 n, 3)) (kk : zV Γ ad cs ss x y (pc + 3) (some (zI (z + n)) :: L) st) : zV Γ ad cs ss x y pc (some (zI z) :: L) st := zV_iinc_w hX (i := 0) (z := z) rfl d kk
theorem zV_istore1 (hX : zX Γ ad own cc nL) {a0 : Option Value} {b : Option Value} {z : Int} {L : List (Option Value)} (d : decode cc pc = .ok (.istore 1, 2)) (kk : zV Γ ad cs ss x y (pc + 2) (a0 :: some (zI z) :: L) st) : zV Γ ad cs ss x y pc (a0 :: b :: L) (zI z :: st) := zV_istore_w hX (i := 1) (by simp) d kk
theorem zV_istoren1 (hX : zX Γ ad own cc nL) {a0 : Option Value} {b : Option Value} {z : Int} {L : List (Option Value)} (d : decode cc pc = .ok (.istore_n 1, 1)) (kk : zV Γ ad cs ss x y (pc + 1) (a0 :: some (zI z) :: L) st) : zV Γ ad cs ss x y pc (a0 :: b :: L) (zI z :: st) := zV_istore_n hX (i := 1) (by simp) d rfl kk
theorem zV_astore1 (hX : zX Γ ad own cc nL) {a0 : Option Value} {b : Option Value} {q : Nat} {L : List (Option Value)} (d : decode cc pc = .ok (.astore 1, 2)) (kk : zV Γ ad cs ss x y (pc + 2) (a0 :: some (.ref q) :: L) st) : zV Γ ad cs ss x y pc (a0 :: b :: L) (.ref q :: st) := zV_astore_w hX (i := 1) (by simp) d kk
theorem zV_astoren1 (hX : zX Γ ad own cc nL) {a0 : Option Value} {b : Option Value} {q : Nat} {L : List (Option Value)} (d : decode cc pc = .ok (.astore_n 1, 1)) (kk : zV Γ ad cs ss x y (pc + 1) (a0 :: some (.ref q) :: L) st) : zV Γ ad cs ss x y pc (a0 :: b :: L) (.ref q :: st) := zV_astore_n hX (i := 1) (by simp) d rfl kk
theorem zV_iinc1 (hX : zX Γ ad own cc nL) {a0 : Option Value} {z n : Int} {L : List (Option Value)} (d : decode cc pc = .ok (.iinc 1 n, 3)) (kk : zV Γ ad cs ss x y (pc + 3) (a0 :: some (zI (z + n)) :: L) st) : zV Γ ad cs ss x y pc (a0 :: some (zI z) :: L) st := zV_iinc_w hX (i := 1) (z := z) rfl d kk
theorem zV_istore2 (hX : zX Γ ad own cc nL) {a0 a1 : Option Value} {b : Option Value} {z : Int} {L : List (Option Value)} (d : decode cc pc = .ok (.istore 2, 2)) (kk : zV Γ ad cs ss x y (pc + 2) (a0 :: a1 :: some (zI z) :: L) st) : zV Γ ad cs ss x y pc (a0 :: a1 :: b :: L) (zI z :: st) := zV_istore_w hX (i := 2) (by simp) d kk
theorem zV_istoren2 (hX : zX Γ ad own cc nL) {a0 a1 : Option Value} {b : Option Value} {z : Int} {L : List (Option Value)} (d : decode cc pc = .ok (.istore_n 2, 1)) (kk : zV Γ ad cs ss x y (pc + 1) (a0 :: a1 :: some (zI z) :: L) st) : zV Γ ad cs ss x y pc (a0 :: a1 :: b :: L) (zI z :: st) := zV_istore_n hX (i := 2) (by simp) d rfl kk
theorem zV_astore2 (hX : zX Γ ad own cc nL) {a0 a1 : Option Value} {b : Option Value} {q : Nat} {L : List (Option Value)} (d : decode cc pc = .ok (.astore 2, 2)) (kk : zV Γ ad cs ss x y (pc + 2) (a0 :: a1 :: some (.ref q) :: L) st) : zV Γ ad cs ss x y pc (a0 :: a1 :: b :: L) (.ref q :: st) := zV_astore_w hX (i := 2) (by simp) d kk
theorem zV_astoren2 (hX : zX Γ ad own cc nL) {a0 a1 : Option Value} {b : Option Value} {q : Nat} {L : List (Option Value)} (d : decode cc pc = .ok (.astore_n 2, 1)) (kk : zV Γ ad cs ss x y (pc + 1) (a0 :: a1 :: some (.ref q) :: L) st) : zV Γ ad cs ss x y pc (a0 :: a1 :: b :: L) (.ref q :: st) := zV_astore_n hX (i := 2) (by simp) d rfl kk
theorem zV_iinc2 (hX : zX Γ ad own cc nL) {a0 a1 : Option Value} {z n : Int} {L : List (Option Value)} (d : decode cc pc = .ok (.iinc 2 n, 3)) (kk : zV Γ ad cs ss x y (pc + 3) (a0 :: a1 :: some (zI (z + n)) :: L) st) : zV Γ ad cs ss x y pc (a0 :: a1 :: some (zI z) :: L) st := zV_iinc_w hX (i := 2) (z := z) rfl d kk
theorem zV_istore3 (hX : zX Γ ad own cc nL) {a0 a1 a2 : Option Value} {b : Option Value} {z : Int} {L : List (Option Value)} (d : decode cc pc = .ok (.istore 3, 2)) (kk : zV Γ ad cs ss x y (pc + 2) (a0 :: a1 :: a2 :: some (zI z) :: L) st) : zV Γ ad cs ss x y pc (a0 :: a1 :: a2 :: b :: L) (zI z :: st) := zV_istore_w hX (i := 3) (by simp) d kk
theorem zV_istoren3 (hX : zX Γ ad own cc nL) {a0 a1 a2 : Option Value} {b : Option Value} {z : Int} {L : List (Option Value)} (d : decode cc pc = .ok (.istore_n 3, 1)) (kk : zV Γ ad cs ss x y (pc + 1) (a0 :: a1 :: a2 :: some (zI z) :: L) st) : zV Γ ad cs ss x y pc (a0 :: a1 :: a2 :: b :: L) (zI z :: st) := zV_istore_n hX (i := 3) (by simp) d rfl kk
theorem zV_astore3 (hX : zX Γ ad own cc nL) {a0 a1 a2 : Option Value} {b : Option Value} {q : Nat} {L : List (Option Value)} (d : decode cc pc = .ok (.astore 3, 2)) (kk : zV Γ ad cs ss x y (pc + 2) (a0 :: a1 :: a2 :: some (.ref q) :: L) st) : zV Γ ad cs ss x y pc (a0 :: a1 :: a2 :: b :: L) (.ref q :: st) := zV_astore_w hX (i := 3) (by simp) d kk
theorem zV_astoren3 (hX : zX Γ ad own cc nL) {a0 a1 a2 : Option Value} {b : Option Value} {q : Nat} {L : List (Option Value)} (d : decode cc pc = .ok (.astore_n 3, 1)) (kk : zV Γ ad cs ss x y (pc + 1) (a0 :: a1 :: a2 :: some (.ref q) :: L) st) : zV Γ ad cs ss x y pc (a0 :: a1 :: a2 :: b :: L) (.ref q :: st) := zV_astore_n hX (i := 3) (by simp) d rfl kk
theorem zV_iinc3 (hX : zX Γ ad own cc nL) {a0 a1 a2 : Option Value} {z n : Int} {L : List (Option Value)} (d : decode cc pc = .ok (.iinc 3 n, 3)) (kk : zV Γ ad cs ss x y (pc + 3) (a0 :: a1 :: a2 :: some (zI (z + n)) :: L) st) : zV Γ ad cs ss x y pc (a0 :: a1 :: a2 :: some (zI z) :: L) st := zV_iinc_w hX (i := 3) (z := z) rfl d kk
theorem zV_istore4 (hX : zX Γ ad own cc nL) {a0 a1 a2 a3 : Option Value} {b : Option Value} {z : Int} {L : List (Option Value)} (d : decode cc pc = .ok (.istore 4, 2)) (kk : zV Γ ad cs ss x y (pc + 2) (a0 :: a1 :: a2 :: a3 :: some (zI z) :: L) st) : zV Γ ad cs ss x y pc (a0 :: a1 :: a2 :: a3 :: b :: L) (zI z :: st) := zV_istore_w hX (i := 4) (by simp) d kk
theorem zV_astore4 (hX : zX Γ ad own cc nL) {a0 a1 a2 a3 : Option Value} {b : Option Value} {q : Nat} {L : List (Option Value)} (d : decode cc pc = .ok (.astore 4, 2)) (kk : zV Γ ad cs ss x y (pc + 2) (a0 :: a1 :: a2 :: a3 :: some (.ref q) :: L) st) : zV Γ ad cs ss x y pc (a0 :: a1 :: a2 :: a3 :: b :: L) (.ref q :: st) := zV_astore_w hX (i := 4) (by simp) d kk
theorem zV_iinc4 (hX : zX Γ ad own cc nL) {a0 a1 a2 a3 : Option Value} {z n : Int} {L : List (Option Value)} (d : decode cc pc = .ok (.iinc 4 n, 3)) (kk : zV Γ ad cs ss x y (pc + 3) (a0 :: a1 :: a2 :: a3 :: some (zI (z + n)) :: L) st) : zV Γ ad cs ss x y pc (a0 :: a1 :: a2 :: a3 :: some (zI z) :: L) st := zV_iinc_w hX (i := 4) (z := z) rfl d kk
theorem zV_istore5 (hX : zX Γ ad own cc nL) {a0 a1 a2 a3 a4 : Option Value} {b : Option Value} {z : Int} {L : List (Option Value)} (d : decode cc pc = .ok (.istore 5, 2)) (kk : zV Γ ad cs ss x y (pc + 2) (a0 :: a1 :: a2 :: a3 :: a4 :: some (zI z) :: L) st) : zV Γ ad cs ss x y pc (a0 :: a1 :: a2 :: a3 :: a4 :: b :: L) (zI z :: st) := zV_istore_w hX (i := 5) (by simp) d kk
theorem zV_astore5 (hX : zX Γ ad own cc nL) {a0 a1 a2 a3 a4 : Option Value} {b : Option Value} {q : Nat} {L : List (Option Value)} (d : decode cc pc = .ok (.astore 5, 2)) (kk : zV Γ ad cs ss x y (pc + 2) (a0 :: a1 :: a2 :: a3 :: a4 :: some (.ref q) :: L) st) : zV Γ ad cs ss x y pc (a0 :: a1 :: a2 :: a3 :: a4 :: b :: L) (.ref q :: st) := zV_astore_w hX (i := 5) (by simp) d kk
theorem zV_iinc5 (hX : zX Γ ad own cc nL) {a0 a1 a2 a3 a4 : Option Value} {z n : Int} {L : List (Option Value)} (d : decode cc pc = .ok (.iinc 5 n, 3)) (kk : zV Γ ad cs ss x y (pc + 3) (a0 :: a1 :: a2 :: a3 :: a4 :: some (zI (z + n)) :: L) st) : zV Γ ad cs ss x y pc (a0 :: a1 :: a2 :: a3 :: a4 :: some (zI z) :: L) st := zV_iinc_w hX (i := 5) (z := z) rfl d kk
theorem zV_istore6 (hX : zX Γ ad own cc nL) {a0 a1 a2 a3 a4 a5 : Option Value} {b : Option Value} {z : Int} {L : List (Option Value)} (d : decode cc pc = .ok (.istore 6, 2)) (kk : zV Γ ad cs ss x y (pc + 2) (a0 :: a1 :: a2 :: a3 :: a4 :: a5 :: some (zI z) :: L) st) : zV Γ ad cs ss x y pc (a0 :: a1 :: a2 :: a3 :: a4 :: a5 :: b :: L) (zI z :: st) := zV_istore_w hX (i := 6) (by simp) d kk
theorem zV_astore6 (hX : zX Γ ad own cc nL) {a0 a1 a2 a3 a4 a5 : Option Value} {b : Option Value} {q : Nat} {L : List (Option Value)} (d : decode cc pc = .ok (.astore 6, 2)) (kk : zV Γ ad cs ss x y (pc + 2) (a0 :: a1 :: a2 :: a3 :: a4 :: a5 :: some (.ref q) :: L) st) : zV Γ ad cs ss x y pc (a0 :: a1 :: a2 :: a3 :: a4 :: a5 :: b :: L) (.ref q :: st) := zV_astore_w hX (i := 6) (by simp) d kk
theorem zV_iinc6 (hX : zX Γ ad own cc nL) {a0 a1 a2 a3 a4 a5 : Option Value} {z n : Int} {L : List (Option Value)} (d : decode cc pc = .ok (.iinc 6 n, 3)) (kk : zV Γ ad cs ss x y (pc + 3) (a0 :: a1 :: a2 :: a3 :: a4 :: a5 :: some (zI (z + n)) :: L) st) : zV Γ ad cs ss x y pc (a0 :: a1 :: a2 :: a3 :: a4 :: a5 :: some (zI z) :: L) st := zV_iinc_w hX (i := 6) (z := z) rfl d kk
theorem zV_istore7 (hX : zX Γ ad own cc nL) {a0 a1 a2 a3 a4 a5 a6 : Option Value} {b : Option Value} {z : Int} {L : List (Option Value)} (d : decode cc pc = .ok (.istore 7, 2)) (kk : zV Γ ad cs ss x y (pc + 2) (a0 :: a1 :: a2 :: a3 :: a4 :: a5 :: a6 :: some (zI z) :: L) st) : zV Γ ad cs ss x y pc (a0 :: a1 :: a2 :: a3 :: a4 :: a5 :: a6 :: b :: L) (zI z :: st) := zV_istore_w hX (i := 7) (by simp) d kk
theorem zV_astore7 (hX : zX Γ ad own cc nL) {a0 a1 a2 a3 a4 a5 a6 : Option Value} {b : Option Value} {q : Nat} {L : List (Option Value)} (d : decode cc pc = .ok (.astore 7, 2)) (kk : zV Γ ad cs ss x y (pc + 2) (a0 :: a1 :: a2 :: a3 :: a4 :: a5 :: a6 :: some (.ref q) :: L) st) : zV Γ ad cs ss x y pc (a0 :: a1 :: a2 :: a3 :: a4 :: a5 :: a6 :: b :: L) (.ref q :: st) := zV_astore_w hX (i := 7) (by simp) d kk
theorem zV_iinc7 (hX : zX Γ ad own cc nL) {a0 a1 a2 a3 a4 a5 a6 : Option Value} {z n : Int} {L : List (Option Value)} (d : decode cc pc = .ok (.iinc 7 n, 3)) (kk : zV Γ ad cs ss x y (pc + 3) (a0 :: a1 :: a2 :: a3 :: a4 :: a5 :: a6 :: some (zI (z + n)) :: L) st) : zV Γ ad cs ss x y pc (a0 :: a1 :: a2 :: a3 :: a4 :: a5 :: a6 :: some (zI z) :: L) st := zV_iinc_w hX (i := 7) (z := z) rfl d kk
theorem zV_istore8 (hX : zX Γ ad own cc nL) {a0 a1 a2 a3 a4 a5 a6 a7 : Option Value} {b : Option Value} {z : Int} {L : List (Option Value)} (d : decode cc pc = .ok (.istore 8, 2)) (kk : zV Γ ad cs ss x y (pc + 2) (a0 :: a1 :: a2 :: a3 :: a4 :: a5 :: a6 :: a7 :: some (zI z) :: L) st) : zV Γ ad cs ss x y pc (a0 :: a1 :: a2 :: a3 :: a4 :: a5 :: a6 :: a7 :: b :: L) (zI z :: st) := zV_istore_w hX (i := 8) (by simp) d kk
theorem zV_astore8 (hX : zX Γ ad own cc nL) {a0 a1 a2 a3 a4 a5 a6 a7 : Option Value} {b : Option Value} {q : Nat} {L : List (Option Value)} (d : decode cc pc = .ok (.astore 8, 2)) (kk : zV Γ ad cs ss x y (pc + 2) (a0 :: a1 :: a2 :: a3 :: a4 :: a5 :: a6 :: a7 :: some (.ref q) :: L) st) : zV Γ ad cs ss x y pc (a0 :: a1 :: a2 :: a3 :: a4 :: a5 :: a6 :: a7 :: b :: L) (.ref q :: st) := zV_astore_w hX (i := 8) (by simp) d kk
theorem zV_iinc8 (hX : zX Γ ad own cc nL) {a0 a1 a2 a3 a4 a5 a6 a7 : Option Value} {z n : Int} {L : List (Option Value)} (d : decode cc pc = .ok (.iinc 8 n, 3)) (kk : zV Γ ad cs ss x y (pc + 3) (a0 :: a1 :: a2 :: a3 :: a4 :: a5 :: a6 :: a7 :: some (zI (z + n)) :: L) st) : zV Γ ad cs ss x y pc (a0 :: a1 :: a2 :: a3 :: a4 :: a5 :: a6 :: a7 :: some (zI z) :: L) st := zV_iinc_w hX (i := 8) (z := z) rfl d kk
theorem zV_istore9 (hX : zX Γ ad own cc nL) {a0 a1 a2 a3 a4 a5 a6 a7 a8 : Option Value} {b : Option Value} {z : Int} {L : List (Option Value)} (d : decode cc pc = .ok (.istore 9, 2)) (kk : zV Γ ad cs ss x y (pc + 2) (a0 :: a1 :: a2 :: a3 :: a4 :: a5 :: a6 :: a7 :: a8 :: some (zI z) :: L) st) : zV Γ ad cs ss x y pc (a0 :: a1 :: a2 :: a3 :: a4 :: a5 :: a6 :: a7 :: a8 :: b :: L) (zI z :: st) := zV_istore_w hX (i := 9) (by simp) d kk
theorem zV_astore9 (hX : zX Γ ad own cc nL) {a0 a1 a2 a3 a4 a5 a6 a7 a8 : Option Value} {b : Option Value} {q : Nat} {L : List (Option Value)} (d : decode cc pc = .ok (.astore 9, 2)) (kk : zV Γ ad cs ss x y (pc + 2) (a0 :: a1 :: a2 :: a3 :: a4 :: a5 :: a6 :: a7 :: a8 :: some (.ref q) :: L) st) : zV Γ ad cs ss x y pc (a0 :: a1 :: a2 :: a3 :: a4 :: a5 :: a6 :: a7 :: a8 :: b :: L) (.ref q :: st) := zV_astore_w hX (i := 9) (by simp) d kk
theorem zV_iinc9 (hX : zX Γ ad own cc nL) {a0 a1 a2 a3 a4 a5 a6 a7 a8 : Option Value} {z n : Int} {L : List (Option Value)} (d : decode cc pc = .ok (.iinc 9 n, 3)) (kk : zV Γ ad cs ss x y (pc + 3) (a0 :: a1 :: a2 :: a3 :: a4 :: a5 :: a6 :: a7 :: a8 :: some (zI (z + n)) :: L) st) : zV Γ ad cs ss x y pc (a0 :: a1 :: a2 :: a3 :: a4 :: a5 :: a6 :: a7 :: a8 :: some (zI z) :: L) st := zV_iinc_w hX (i := 9) (z := z) rfl d kk
theorem zV_iadd (hX : zX Γ ad own cc nL) {a b : Int} (d : decode cc pc = .ok (.iadd, 1)) (kk : zV Γ ad cs ss x y (pc + 1) L (zI (a + b) :: st)) : zV Γ ad cs ss x y pc L (zI b :: zI a :: st) := by
  obtain ⟨p, l, e, R, s, m, args, below, meth, c, D, cA, A, Q⟩ := Γ
  intro H locs ls hW hS hL
  refine lv_iadd hX.1.1 hX.1.2.1 d ?_
  rw [← Int32.ofInt_add]
  exact kk H locs ls hW hS hL
theorem zV_isub (hX : zX Γ ad own cc nL) {a b : Int} (d : decode cc pc = .ok (.isub, 1)) (kk : zV Γ ad cs ss x y (pc + 1) L (zI (a - b) :: st)) : zV Γ ad cs ss x y pc L (zI b :: zI a :: st) := by
  obtain ⟨p, l, e, R, s, m, args, below, meth, c, D, cA, A, Q⟩ := Γ
  intro H locs ls hW hS hL
  refine lv_isub hX.1.1 hX.1.2.1 d ?_
  rw [← Int32.ofInt_sub]
  exact kk H locs ls hW hS hL
theorem zV_imul (hX : zX Γ ad own cc nL) {a b : Int} (d : decode cc pc = .ok (.imul, 1)) (kk : zV Γ ad cs ss x y (pc + 1) L (zI (a * b) :: st)) : zV Γ ad cs ss x y pc L (zI b :: zI a :: st) := by
  obtain ⟨p, l, e, R, s, m, args, below, meth, c, D, cA, A, Q⟩ := Γ
  intro H locs ls hW hS hL
  refine lv_imul hX.1.1 hX.1.2.1 d ?_
  rw [← Int32.ofInt_mul]
  exact kk H locs ls hW hS hL
theorem zV_ineg (hX : zX Γ ad own cc nL) {a : Int} (d : decode cc pc = .ok (.ineg, 1)) (kk : zV Γ ad cs ss x y (pc + 1) L (zI (-a) :: st)) : zV Γ ad cs ss x y pc L (zI a :: st) := by
  obtain ⟨p, l, e, R, s, m, args, below, meth, c, D, cA, A, Q⟩ := Γ
  intro H locs ls hW hS hL
  refine lv_ineg hX.1.1 hX.1.2.1 d ?_
  rw [← Int32.ofInt_neg]
  exact kk H locs ls hW hS hL
theorem zi_toInt {z : Int} (h : zR z) : (Int32.ofInt z).toInt = z := Int32.toInt_ofInt_of_le h.1 (Int.lt_of_le_of_lt h.2 (by decide))
theorem zi_inj {a b : Int} (ha : zR a) (hb : zR b) : Int32.ofInt a = Int32.ofInt b ↔ a = b := by
  rw [← Int32.toInt_inj, zi_toInt ha, zi_toInt hb]
theorem zi_lt {a b : Int} (ha : zR a) (hb : zR b) : Int32.ofInt a < Int32.ofInt b ↔ a < b := by
  rw [Int32.lt_iff_toInt_lt, zi_toInt ha, zi_toInt hb]
theorem zi_le {a b : Int} (ha : zR a) (hb : zR b) : Int32.ofInt a ≤ Int32.ofInt b ↔ a ≤ b := by
  rw [Int32.le_iff_toInt_le, zi_toInt ha, zi_toInt hb]
theorem zi_z : (0 : Int32) = Int32.ofInt 0 := rfl
theorem zR_0 : zR 0 := by decide
theorem zi_div {a b : Int} (ha : 0 ≤ a ∧ a ≤ 2147483647) (hb : 0 < b ∧ b ≤ 2147483647) : Int32.ofInt a / Int32.ofInt b = Int32.ofInt (a / b) := by
  have e1 : Int32.minValue.toInt = -2147483648 := by decide
  have e2 : Int32.maxValue.toInt = 2147483647 := by decide
  rw [← Int32.ofInt_tdiv (by rw [e1]; omega) (by rw [e2]; omega) (by rw [e1]; omega) (by rw [e2]; omega), Int.tdiv_eq_ediv_of_nonneg ha.1]
theorem zi_rem {a b : Int} (ha : 0 ≤ a ∧ a ≤ 2147483647) (hb : 0 < b ∧ b ≤ 2147483647) : Int32.ofInt a - Int32.ofInt a / Int32.ofInt b * Int32.ofInt b = Int32.ofInt (a % b) := by
  rw [zi_div ha hb, ← Int32.ofInt_mul, ← Int32.ofInt_sub]
  congr 1
  have := Int.emod_add_mul_ediv a b
  rw [Int.mul_comm] at this
  omega
theorem zi_ne0 {b : Int} (hb : 0 < b ∧ b ≤ 2147483647) : ¬ Int32.ofInt b = 0 := by
  rw [zi_z, zi_inj ⟨by omega, by omega⟩ zR_0]
  omega
theorem zV_idiv (hX : zX Γ ad own cc nL) {a b : Int} (d : decode cc pc = .ok (.idiv, 1)) (ha : 0 ≤ a ∧ a ≤ 2147483647) (hb : 0 < b ∧ b ≤ 2147483647) (kk : zV Γ ad cs ss x y (pc + 1) L (zI (a / b) :: st)) : zV Γ ad cs ss x y pc L (zI b :: zI a :: st) := by
  obtain ⟨p, l, e, R, s, m, args, below, meth, c, D, cA, A, Q⟩ := Γ
  intro H locs ls hW hS hL
  refine lv_idiv hX.1.1 hX.1.2.1 d (zi_ne0 hb) ?_
  rw [zi_div ha hb]
  exact kk H locs ls hW hS hL
theorem zV_irem (hX : zX Γ ad own cc nL) {a b : Int} (d : decode cc pc = .ok (.irem, 1)) (ha : 0 ≤ a ∧ a ≤ 2147483647) (hb : 0 < b ∧ b ≤ 2147483647) (kk : zV Γ ad cs ss x y (pc + 1) L (zI (a % b) :: st)) : zV Γ ad cs ss x y pc L (zI b :: zI a :: st) := by
  obtain ⟨p, l, e, R, s, m, args, below, meth, c, D, cA, A, Q⟩ := Γ
  intro H locs ls hW hS hL
  refine lv_irem hX.1.1 hX.1.2.1 d (zi_ne0 hb) ?_
  rw [zi_rem ha hb]
  exact kk H locs ls hW hS hL
/-- bits: sets of small numbers -/
def zand (a b : Int) : Int := (Int32.ofInt a &&& Int32.ofInt b).toInt
def zor (a b : Int) : Int := (Int32.ofInt a ||| Int32.ofInt b).toInt
def zshl (a b : Int) : Int := (Int32.ofInt a <<< (Int32.ofInt b &&& 31)).toInt
def zshr (a b : Int) : Int := ((Int32.ofInt a).toUInt32 >>> ((Int32.ofInt b).toUInt32 &&& Int32.toUInt32 31)).toInt32.toInt
theorem zi_back (v : Int32) : zI v.toInt = .int v := by unfold zI; rw [Int32.ofInt_toInt]
theorem zR_of (v : Int32) : zR v.toInt := by
  have h1 := v.le_toInt
  have h := v.toInt_lt
  have e : (2 : Int) ^ 31 = 2147483648 := by decide
  have e2 : Int32.minValue.toInt = -2147483648 := by decide
  exact ⟨by simpa using h1, by omega⟩
theorem zV_iand (hX : zX Γ ad own cc nL) {a b : Int} (d : decode cc pc = .ok (.iand, 1)) (kk : zV Γ ad cs ss x y (pc + 1) L (zI (zand a b) :: st)) : zV Γ ad cs ss x y pc L (zI b :: zI a :: st) := by
  obtain ⟨p, l, e, R, s, m, args, below, meth, c, D, cA, A, Q⟩ := Γ
  intro H locs ls hW hS hL
  refine lv_iand hX.1.1 hX.1.2.1 d ?_
  rw [← zi_back]
  exact kk H locs ls hW hS hL
theorem zV_ior (hX : zX Γ ad own cc nL) {a b : Int} (d : decode cc pc = .ok (.ior, 1)) (kk : zV Γ ad cs ss x y (pc + 1) L (zI (zor a b) :: st)) : zV Γ ad cs ss x y pc L (zI b :: zI a :: st) := by
  obtain ⟨p, l, e, R, s, m, args, below, meth, c, D, cA, A, Q⟩ := Γ
  intro H locs ls hW hS hL
  refine lv_ior hX.1.1 hX.1.2.1 d ?_
  rw [← zi_back]
  exact kk H locs ls hW hS hL
theorem zV_ishl (hX : zX Γ ad own cc nL) {a b : Int} (d : decode cc pc = .ok (.ishl, 1)) (kk : zV Γ ad cs ss x y (pc + 1) L (zI (zshl a b) :: st)) : zV Γ ad cs ss x y pc L (zI b :: zI a :: st) := by
  obtain ⟨p, l, e, R, s, m, args, below, meth, c, D, cA, A, Q⟩ := Γ
  intro H locs ls hW hS hL
  refine lv_ishl hX.1.1 hX.1.2.1 d ?_
  rw [← zi_back]
  exact kk H locs ls hW hS hL
theorem zV_iushr (hX : zX Γ ad own cc nL) {a b : Int} (d : decode cc pc = .ok (.iushr, 1)) (kk : zV Γ ad cs ss x y (pc + 1) L (zI (zshr a b) :: st)) : zV Γ ad cs ss x y pc L (zI b :: zI a :: st) := by
  obtain ⟨p, l, e, R, s, m, args, below, meth, c, D, cA, A, Q⟩ := Γ
  intro H locs ls hW hS hL
  refine lv_iushr hX.1.1 hX.1.2.1 d rfl ?_
  rw [← zi_back]
  exact kk H locs ls hW hS hL
theorem zV_dup (hX : zX Γ ad own cc nL) {v : Value} (d : decode cc pc = .ok (.dup, 1)) (h : v.category = 1) (kk : zV Γ ad cs ss x y (pc + 1) L (v :: v :: st)) : zV Γ ad cs ss x y pc L (v :: st) := by
  obtain ⟨p, l, e, R, s, m, args, below, meth, c, D, cA, A, Q⟩ := Γ
  intro H locs ls hW hS hL
  exact lv_dup hX.1.1 hX.1.2.1 d h (kk H locs ls hW hS hL)
theorem zV_pop (hX : zX Γ ad own cc nL) {v : Value} (d : decode cc pc = .ok (.pop, 1)) (h : v.category = 1) (kk : zV Γ ad cs ss x y (pc + 1) L st) : zV Γ ad cs ss x y pc L (v :: st) := by
  obtain ⟨p, l, e, R, s, m, args, below, meth, c, D, cA, A, Q⟩ := Γ
  intro H locs ls hW hS hL
  exact lv_pop hX.1.1 hX.1.2.1 d h (kk H locs ls hW hS hL)
theorem zV_dup_x1 (hX : zX Γ ad own cc nL) {v w : Value} (d : decode cc pc = .ok (.dup_x1, 1)) (h : v.category = 1) (h' : w.category = 1) (kk : zV Γ ad cs ss x y (pc + 1) L (v :: w :: v :: st)) : zV Γ ad cs ss x y pc L (v :: w :: st) := by
  obtain ⟨p, l, e, R, s, m, args, below, meth, c, D, cA, A, Q⟩ := Γ
  intro H locs ls hW hS hL
  exact lv_dup_x1 hX.1.1 hX.1.2.1 d h h' (kk H locs ls hW hS hL)
theorem zV_dup2 (hX : zX Γ ad own cc nL) {v w : Value} (d : decode cc pc = .ok (.dup2, 1)) (h : v.category = 1) (h' : w.category = 1) (kk : zV Γ ad cs ss x y (pc + 1) L (v :: w :: v :: w :: st)) : zV Γ ad cs ss x y pc L (v :: w :: st) := by
  obtain ⟨p, l, e, R, s, m, args, below, meth, c, D, cA, A, Q⟩ := Γ
  intro H locs ls hW hS hL
  exact lv_dup2_11 hX.1.1 hX.1.2.1 d h h' (kk H locs ls hW hS hL)
theorem zV_goto (hX : zX Γ ad own cc nL) {off : Int} {tgt : Nat} (d : decode cc pc = .ok (.goto off, 3)) (ht : (pc : Int) + off = (tgt : Int)) (kk : zV Γ ad cs ss x y tgt L st) : zV Γ ad cs ss x y pc L st := by
  obtain ⟨p, l, e, R, s, m, args, below, meth, c, D, cA, A, Q⟩ := Γ
  intro H locs ls hW hS hL
  exact lv_goto hX.1.1 hX.1.2.1 d ht (kk H locs ls hW hS hL)
theorem zV_icmp_eq (hX : zX Γ ad own cc nL) {a b off : Int} {tgt : Nat} (d : decode cc pc = .ok (.if_icmp .eq off, 3)) (ht : (pc : Int) + off = (tgt : Int)) (ha : zR a) (hb : zR b) (kt : a = b → zV Γ ad cs ss x y tgt L st) (kf : ¬ (a = b) → zV Γ ad cs ss x y (pc + 3) L st) : zV Γ ad cs ss x y pc L (zI b :: zI a :: st) := by
  obtain ⟨p, l, e, R, s, m, args, below, meth, c, D, cA, A, Q⟩ := Γ
  intro H locs ls hW hS hL
  exact lv_icmp_eq hX.1.1 hX.1.2.1 d ht (fun h => kt ((zi_inj ha hb).mp h) H locs ls hW hS hL) (fun h => kf (fun q => h ((zi_inj ha hb).mpr q)) H locs ls hW hS hL)
theorem zV_if_eq (hX : zX Γ ad own cc nL) {a off : Int} {tgt : Nat} (d : decode cc pc = .ok (.ifCond .eq off, 3)) (ht : (pc : Int) + off = (tgt : Int)) (ha : zR a) (kt : a = 0 → zV Γ ad cs ss x y tgt L st) (kf : ¬ (a = 0) → zV Γ ad cs ss x y (pc + 3) L st) : zV Γ ad cs ss x y pc L (zI a :: st) := by
  obtain ⟨p, l, e, R, s, m, args, below, meth, c, D, cA, A, Q⟩ := Γ
  intro H locs ls hW hS hL
  exact lv_if_eq hX.1.1 hX.1.2.1 d ht (fun h => kt ((zi_inj ha zR_0).mp h) H locs ls hW hS hL) (fun h => kf (fun q => h ((zi_inj ha zR_0).mpr q)) H locs ls hW hS hL)
theorem zV_icmp_ne (hX : zX Γ ad own cc nL) {a b off : Int} {tgt : Nat} (d : decode cc pc = .ok (.if_icmp .ne off, 3)) (ht : (pc : Int) + off = (tgt : Int)) (ha : zR a) (hb : zR b) (kt : a ≠ b → zV Γ ad cs ss x y tgt L st) (kf : a = b → zV Γ ad cs ss x y (pc + 3) L st) : zV Γ ad cs ss x y pc L (zI b :: zI a :: st) := by
  obtain ⟨p, l, e, R, s, m, args, below, meth, c, D, cA, A, Q⟩ := Γ
  intro H locs ls hW hS hL
  exact lv_icmp_ne hX.1.1 hX.1.2.1 d ht (fun h => kt ((not_congr (zi_inj ha hb)).mp h) H locs ls hW hS hL) (fun h => kf ((zi_inj ha hb).mp h) H locs ls hW hS hL)
theorem zV_if_ne (hX : zX Γ ad own cc nL) {a off : Int} {tgt : Nat} (d : decode cc pc = .ok (.ifCond .ne off, 3)) (ht : (pc : Int) + off = (tgt : Int)) (ha : zR a) (kt : a ≠ 0 → zV Γ ad cs ss x y tgt L st) (kf : a = 0 → zV Γ ad cs ss x y (pc + 3) L st) : zV Γ ad cs ss x y pc L (zI a :: st) := by
  obtain ⟨p, l, e, R, s, m, args, below, meth, c, D, cA, A, Q⟩ := Γ
  intro H locs ls hW hS hL
  exact lv_if_ne hX.1.1 hX.1.2.1 d ht (fun h => kt ((not_congr (zi_inj ha zR_0)).mp h) H locs ls hW hS hL) (fun h => kf ((zi_inj ha zR_0).mp h) H locs ls hW hS hL)
theorem zV_icmp_lt (hX : zX Γ ad own cc nL) {a b off : Int} {tgt : Nat} (d : decode cc pc = .ok (.if_icmp .lt off, 3)) (ht : (pc : Int) + off = (tgt : Int)) (ha : zR a) (hb : zR b) (kt : a < b → zV Γ ad cs ss x y tgt L st) (kf : ¬ (a < b) → zV Γ ad cs ss x y (pc + 3) L st) : zV Γ ad cs ss x y pc L (zI b :: zI a :: st) := by
  obtain ⟨p, l, e, R, s, m, args, below, meth, c, D, cA, A, Q⟩ := Γ
  intro H locs ls hW hS hL
  exact lv_icmp_lt hX.1.1 hX.1.2.1 d ht (fun h => kt ((zi_lt ha hb).mp h) H locs ls hW hS hL) (fun h => kf (fun q => h ((zi_lt ha hb).mpr q)) H locs ls hW hS hL)
theorem zV_if_lt (hX : zX Γ ad own cc nL) {a off : Int} {tgt : Nat} (d : decode cc pc = .ok (.ifCond .lt off, 3)) (ht : (pc : Int) + off = (tgt : Int)) (ha : zR a) (kt : a < 0 → zV Γ ad cs ss x y tgt L st) (kf : ¬ (a < 0) → zV Γ ad cs ss x y (pc + 3) L st) : zV Γ ad cs ss x y pc L (zI a :: st) := by
  obtain ⟨p, l, e, R, s, m, args, below, meth, c, D, cA, A, Q⟩ := Γ
  intro H locs ls hW hS hL
  exact lv_if_lt hX.1.1 hX.1.2.1 d ht (fun h => kt ((zi_lt ha zR_0).mp h) H locs ls hW hS hL) (fun h => kf (fun q => h ((zi_lt ha zR_0).mpr q)) H locs ls hW hS hL)
theorem zV_icmp_ge (hX : zX Γ ad own cc nL) {a b off : Int} {tgt : Nat} (d : decode cc pc = .ok (.if_icmp .ge off, 3)) (ht : (pc : Int) + off = (tgt : Int)) (ha : zR a) (hb : zR b) (kt : b ≤ a → zV Γ ad cs ss x y tgt L st) (kf : ¬ (b ≤ a) → zV Γ ad cs ss x y (pc + 3) L st) : zV Γ ad cs ss x y pc L (zI b :: zI a :: st) := by
  obtain ⟨p, l, e, R, s, m, args, below, meth, c, D, cA, A, Q⟩ := Γ
  intro H locs ls hW hS hL
  exact lv_icmp_ge hX.1.1 hX.1.2.1 d ht (fun h => kt ((zi_le hb ha).mp h) H locs ls hW hS hL) (fun h => kf (fun q => h ((zi_le hb ha).mpr q)) H locs ls hW hS hL)
theorem zV_if_ge (hX : zX Γ ad own cc nL) {a off : Int} {tgt : Nat} (d : decode cc pc = .ok (.ifCond .ge off, 3)) (ht : (pc : Int) + off = (tgt : Int)) (ha : zR a) (kt : 0 ≤ a → zV Γ ad cs ss x y tgt L st) (kf : ¬ (0 ≤ a) → zV Γ ad cs ss x y (pc + 3) L st) : zV Γ ad cs ss x y pc L (zI a :: st) := by
  obtain ⟨p, l, e, R, s, m, args, below, meth, c, D, cA, A, Q⟩ := Γ
  intro H locs ls hW hS hL
  exact lv_if_ge hX.1.1 hX.1.2.1 d ht (fun h => kt ((zi_le zR_0 ha).mp h) H locs ls hW hS hL) (fun h => kf (fun q => h ((zi_le zR_0 ha).mpr q)) H locs ls hW hS hL)
theorem zV_icmp_gt (hX : zX Γ ad own cc nL) {a b off : Int} {tgt : Nat} (d : decode cc pc = .ok (.if_icmp .gt off, 3)) (ht : (pc : Int) + off = (tgt : Int)) (ha : zR a) (hb : zR b) (kt : b < a → zV Γ ad cs ss x y tgt L st) (kf : ¬ (b < a) → zV Γ ad cs ss x y (pc + 3) L st) : zV Γ ad cs ss x y pc L (zI b :: zI a :: st) := by
  obtain ⟨p, l, e, R, s, m, args, below, meth, c, D, cA, A, Q⟩ := Γ
  intro H locs ls hW hS hL
  exact lv_icmp_gt hX.1.1 hX.1.2.1 d ht (fun h => kt ((zi_lt hb ha).mp h) H locs ls hW hS hL) (fun h => kf (fun q => h ((zi_lt hb ha).mpr q)) H locs ls hW hS hL)
theorem zV_if_gt (hX : zX Γ ad own cc nL) {a off : Int} {tgt : Nat} (d : decode cc pc = .ok (.ifCond .gt off, 3)) (ht : (pc : Int) + off = (tgt : Int)) (ha : zR a) (kt : 0 < a → zV Γ ad cs ss x y tgt L st) (kf : ¬ (0 < a) → zV Γ ad cs ss x y (pc + 3) L st) : zV Γ ad cs ss x y pc L (zI a :: st) := by
  obtain ⟨p, l, e, R, s, m, args, below, meth, c, D, cA, A, Q⟩ := Γ
  intro H locs ls hW hS hL
  exact lv_if_gt hX.1.1 hX.1.2.1 d ht (fun h => kt ((zi_lt zR_0 ha).mp h) H locs ls hW hS hL) (fun h => kf (fun q => h ((zi_lt zR_0 ha).mpr q)) H locs ls hW hS hL)
theorem zV_icmp_le (hX : zX Γ ad own cc nL) {a b off : Int} {tgt : Nat} (d : decode cc pc = .ok (.if_icmp .le off, 3)) (ht : (pc : Int) + off = (tgt : Int)) (ha : zR a) (hb : zR b) (kt : a ≤ b → zV Γ ad cs ss x y tgt L st) (kf : ¬ (a ≤ b) → zV Γ ad cs ss x y (pc + 3) L st) : zV Γ ad cs ss x y pc L (zI b :: zI a :: st) := by
  obtain ⟨p, l, e, R, s, m, args, below, meth, c, D, cA, A, Q⟩ := Γ
  intro H locs ls hW hS hL
  exact lv_icmp_le hX.1.1 hX.1.2.1 d ht (fun h => kt ((zi_le ha hb).mp h) H locs ls hW hS hL) (fun h => kf (fun q => h ((zi_le ha hb).mpr q)) H locs ls hW hS hL)
theorem zV_if_le (hX : zX Γ ad own cc nL) {a off : Int} {tgt : Nat} (d : decode cc pc = .ok (.ifCond .le off, 3)) (ht : (pc : Int) + off = (tgt : Int)) (ha : zR a) (kt : a ≤ 0 → zV Γ ad cs ss x y tgt L st) (kf : ¬ (a ≤ 0) → zV Γ ad cs ss x y (pc + 3) L st) : zV Γ ad cs ss x y pc L (zI a :: st) := by
  obtain ⟨p, l, e, R, s, m, args, below, meth, c, D, cA, A, Q⟩ := Γ
  intro H locs ls hW hS hL
  exact lv_if_le hX.1.1 hX.1.2.1 d ht (fun h => kt ((zi_le ha zR_0).mp h) H locs ls hW hS hL) (fun h => kf (fun q => h ((zi_le ha zR_0).mpr q)) H locs ls hW hS hL)
end ZV
end
section
/-! THE JUDGEMENT V, second part: fields and rows of the world, method ends, calls, throws. -/
theorem zV1_congr {ad : Nat → Int → Nat} {f g : Int → Int} {i : Int} {t j : Nat} (h : f j = g j) : zV1 ad f i t j = zV1 ad g i t j := by
  unfold zV1
  split <;> first | rw [h] | rfl
theorem zm_upx {x y : zSt} {k : Nat} {i j z : Int} (h : k < 20) : zm (zup x k i j z) y = zup (zm x y) k i j z := by
  funext k' i' j'
  by_cases h1 : k' < 20
  · simp [zm, zup, h1]
  · have h2 : k' ≠ k := fun q => h1 (q ▸ h)
    simp [zm, zup, h1, h2]
theorem zm_upy {x y : zSt} {k : Nat} {i j z : Int} (h : ¬ k < 20) : zm x (zup y k i j z) = zup (zm x y) k i j z := by
  funext k' i' j'
  by_cases h1 : k' < 20
  · have h2 : k' ≠ k := fun q => h (q ▸ h1)
    simp [zm, zup, h1, h2]
  · simp [zm, zup, h1]
theorem zE_congr {cA : Nat → ClassId} {ad : Nat → Int → Nat} {f g : Int → Int} {k : Nat} {i : Int} (h : f = g) : zE cA ad f k i = zE cA ad g k i := by rw [h]
theorem zW.upd {D : va_G} {cA : Nat → ClassId} {ad : Nat → Int → Nat} {x y x' y' : zSt} {H H' : Heap} {k : Nat} {i j z : Int} (hW : zW D cA ad x y H) (hz : zin k i) (hoq : ∀ q, q ≠ ad k i → H'[q]? = H[q]?) (hxy : zm x' y' = zup (zm x y) k i j z) (hr : zlg k j = false → zR z)
    (hat : va_at D zCl (ad k i, zE cA ad (zm x' y' k i) k i) H') : zW D cA ad x' y' H' := by
  refine ⟨hW.1, fun k' i' hz' => ?_, fun k' i' j' hl => ?_⟩
  · by_cases h : k' = k ∧ i' = i
    · obtain ⟨rfl, rfl⟩ := h
      exact hat
    · have hne : ad k' i' ≠ ad k i := fun q => h (hW.1 k' k i' i hz' hz q)
      have h1 := (hW.2.1 k' i' hz').kept (hoq _ hne)
      have h2 : zm x' y' k' i' = zm x y k' i' := by
        rw [hxy]
        funext j'
        exact if_neg (fun q => h ⟨q.1, q.2.1⟩)
      rw [h2]
      exact h1
  · rw [hxy]
    unfold zup
    by_cases h : k' = k ∧ i' = i ∧ j' = j
    · rw [if_pos h]
      obtain ⟨rfl, rfl, rfl⟩ := h
      exact hr hl
    · rw [if_neg h]
      exact hW.2.2 k' i' j' hl
theorem zP1 {D : va_G} {cl : List vw_C} {q : Nat × va_E} {H : Heap} (h : va_at D cl q H) : va_P D cl [q] H := by
  intro n p hp
  match n, hp with
  | 0, hp => cases hp; exact h
  | n + 1, hp => simp at hp
theorem zK.at {D : va_G} {cA : Nat → ClassId} {s : State} (h : zK D cA s) {k : Nat} (hk : (zsh k).1 ≠ 0) : va_K D zCl [(cA k, zty k)] s := by
  refine ⟨h.1.1, fun n q hq => ?_⟩
  match n, hq with
  | 0, hq => cases hq; exact h.2 k hk
  | n + 1, hq => simp at hq
theorem zi_vp {j : Int} {n : Nat} (hn : n < 2147483648) (hj : 0 ≤ j ∧ j < n) : vp_in (Int32.ofInt j) n ∧ (Int32.ofInt j).toNatClampNeg = j.toNat := by
  have hR : zR j := ⟨by omega, by omega⟩
  refine ⟨vp_in_iff.mpr ?_, ?_⟩
  · rw [zi_toInt hR]; exact hj
  · rw [Int32.toNatClampNeg, zi_toInt hR]
section ZV2
variable {Γ : zG} {ad : Nat → Int → Nat} {cs ss : Nat} {x y x' y' : zSt} {pc : Nat} {L : List (Option Value)} {st : List Value} {own : String} {cc : ByteArray} {nL : Nat}
theorem zV_getf {ref C : String} {T : u_T} {N ci cn index : Nat} (hX : zX Γ ad own cc nL) (hlay : ∀ w ∈ u_ws C T N, w ∈ zWL) (hc : zCl[ci]? = some (C, T, N)) (k : Nat) (hsh : zsh k = (0, ci, N, cn)) (j : Nat) (hj : j < N) {i : Int} (hi : 0 ≤ i ∧ i < cn) (hlink : Cond.fieldLink own index ref (T j).2.1 (T j).2.2.1 ∈ zWL) (href : (T j).1 = ref)
    (d : decode cc pc = .ok (.getfield index, 3)) (kk : (zlg k j = false → zR (zm x y k i j)) → zV Γ ad cs ss x y (pc + 3) L (zV1 ad (zm x y k i) i (zfl k j) j :: st)) : zV Γ ad cs ss x y pc L (.ref (ad k i) :: st) := by
  obtain ⟨p, l, e, R, s, m, args, below, meth, c, D, cA, A, Q⟩ := Γ
  intro H locs ls hW hS hL
  have hz : zin k i := ⟨hi.1, by rw [hsh]; exact hi.2⟩
  have h1 := hW.2.1 k i hz
  have he : zE cA ad (zm x y k i) k i = .inr (ci, (List.range N).map (fun j => zV1 ad (zm x y k i) i (zfl k j) j)) := by unfold zE; rw [hsh]; try rfl
  rw [he] at h1
  exact va_get (D := D) (cl := zCl) (tys := []) (v := zV1 ad (zm x y k i) i (zfl k j) j) hX.1.1 hX.1.2.1 hX.1.2.2.2.2 hlay hX.1.2.2.2.1 hX.2.2.1.1 (zP1 h1) 0 rfl hc j hj (hX.1.2.2.2.2 _ hlink) (by rw [href]; exact fun _ h => h) (by simp [hj]) d (kk (hW.2.2 k i j) H locs ls hW hS hL)
theorem zV_putf {ref C : String} {T : u_T} {N ci cn index : Nat} (hX : zX Γ ad own cc nL) (hlay : ∀ w ∈ u_ws C T N, w ∈ zWL) (ty0 : Nat → FieldType) (hty : ∀ k, k < N → parseFieldDescriptor (T k).2.2.1 = some (ty0 k)) (hnm : ∀ a, a < N → ∀ b, b < N → a ≠ b → (T a).2.1 ≠ (T b).2.1) (hc : zCl[ci]? = some (C, T, N)) (k : Nat) (hsh : zsh k = (0, ci, N, cn)) (j : Nat) (hj : j < N) {i : Int} (hi : 0 ≤ i ∧ i < cn)
    (hlink : Cond.fieldLink own index ref (T j).2.1 (T j).2.2.1 ∈ zWL) (href : (T j).1 = ref) (hfin : (T j).2.2.2 = false) {ty : FieldType} {v : Value} (hd : parseFieldDescriptor (T j).2.2.1 = some ty) (hn : narrow ty v = v) (hfit : fits ty v = true) {z : Int} (hv : v = zV1 ad (fun _ => z) i (zfl k j) j) (hzr : zlg k j = false → zR z) (hxy : zm x' y' = zup (zm x y) k i j z)
    (d : decode cc pc = .ok (.putfield index, 3)) (kk : zV Γ ad cs ss x' y' (pc + 3) L st) : zV Γ ad cs ss x y pc L (v :: .ref (ad k i) :: st) := by
  obtain ⟨p, l, e, R, s, m, args, below, meth, c, D, cA, A, Q⟩ := Γ
  intro H locs ls hW hS hL
  have hz : zin k i := ⟨hi.1, by rw [hsh]; exact hi.2⟩
  have h1 := hW.2.1 k i hz
  have he : ∀ f : Int → Int, zE cA ad f k i = .inr (ci, (List.range N).map (fun j => zV1 ad f i (zfl k j) j)) := by intro f; unfold zE; rw [hsh]; try rfl
  rw [he] at h1
  have hap := va_apart (own := own) hX.1.2.2.2.2 hlay ty0 hty hnm hX.2.2.1.1 hc
  obtain ⟨r, h1, cell, q1, q2, q3, q4⟩ := h1
  have hr : r = (C, T, N) := Option.some.inj (h1.symm.trans hc)
  subst hr
  obtain ⟨hSl, hfc, kC, hkC, hkind⟩ := hX.2.2.1.1.1 ci _ hc
  obtain ⟨cf, kf, fi, f, hfi, hsl⟩ := hSl j hj
  have hlay1 := hX.1.2.2.2.2 _ (hlay _ (u_in_lay hj))
  unfold u_lay at hlay1
  rw [if_neg (by rw [hfin]; decide)] at hlay1
  have hst := (u_facts hfc hkC (u_lays hX.1.2.2.2.2 hlay hj) hfi).1
  have h6 := u_store hfc hkC hkind hlay1 hfi hd hn hfit
  refine W.putK hX.1.1 hX.1.2.1 (f := f) ⟨hX.1.2.2.2.1, hX.1.2.2.2.2 _ hlink, ⟨_, _, _, by rw [← href]; exact hfi⟩, hst⟩ (by rw [q2]; exact h6) q1 q3 (by rw [hsl]; exact k2_hasslot (q4 j hj)) rfl rfl d fun H' e1 e2 e3 => ?_
  rw [hsl] at e1 ⊢
  refine kk H' _ ls (hW.upd hz e3 hxy hzr ?_) (hS.put e2 e3 (hX.2.2.2.2 k i hz)) hL
  rw [he]
  refine ⟨_, h1, t_OB.to (V := updV (vp_V ((List.range N).map (fun j => zV1 ad (zm x y k i) i (zfl k j) j))) j v) ⟨_, e1, q2, q3, t_set q4 hap hj v⟩ (fun j' hj' => ?_)⟩
  unfold vp_V
  have g : ∀ f : Int → Int, ((List.range N).map (fun j => zV1 ad f i (zfl k j) j)).getD j' .null = zV1 ad f i (zfl k j') j' := by
    intro f
    have hj'' : j' < N := hj'
    simp [List.getD_eq_getElem?_getD, hj'']
  unfold updV
  by_cases hjj : j' = j
  · subst hjj
    rw [if_pos rfl, g, hv]
    refine zV1_congr ?_
    rw [hxy]
    exact zup_same.symm
  · rw [if_neg hjj, g]
    refine (g _).trans (zV1_congr ?_)
    rw [hxy]
    exact (zup_j (by omega)).symm
theorem zV_iald {n cn a : Nat} (hX : zX Γ ad own cc nL) (k : Nat) (hsh : zsh k = (1, a, n, cn)) {i j : Int} (hi : 0 ≤ i ∧ i < cn) (hj : 0 ≤ j ∧ j < n) (hn : n < 2147483648) (d : decode cc pc = .ok (.iaload, 1)) (kk : (zlg k j = false → zR (zm x y k i j)) → zV Γ ad cs ss x y (pc + 1) L (zI (zm x y k i j) :: st)) : zV Γ ad cs ss x y pc L (zI j :: .ref (ad k i) :: st) := by
  obtain ⟨p, l, e, R, s, m, args, below, meth, c, D, cA, A, Q⟩ := Γ
  intro H locs ls hW hS hL
  have hz : zin k i := ⟨hi.1, by rw [hsh]; exact hi.2⟩
  have h1 := hW.2.1 k i hz
  have he : zE cA ad (zm x y k i) k i = .inl (cA k, n, .inl (fun j => Int32.ofInt (zm x y k i j))) := by unfold zE; rw [hsh]; try rfl
  have ht : zty k = .int := by unfold zty; rw [hsh]; try rfl
  rw [he] at h1
  have hK := hX.2.2.1.at (k := k) (by rw [hsh]; exact Nat.succ_ne_zero _)
  rw [ht] at hK
  obtain ⟨hv, hc⟩ := zi_vp hn hj
  refine va_iald (D := D) (cl := zCl) (tys := [(cA k, .int)]) hX.1.1 hX.1.2.1 hK (zP1 h1) 0 0 rfl rfl hv d ?_
  have e2 : ((Int32.ofInt j).toNatClampNeg : Int) = j := by rw [hc]; omega
  have key := kk (hW.2.2 k i j) H locs ls hW hS hL
  simp only [e2]
  exact key
theorem zV_cald {n cn a : Nat} (hX : zX Γ ad own cc nL) (k : Nat) (hsh : zsh k = (2, a, n, cn)) {i j : Int} (hi : 0 ≤ i ∧ i < cn) (hj : 0 ≤ j ∧ j < n) (hn : n < 2147483648) (d : decode cc pc = .ok (.caload, 1)) (kk : (zlg k j = false → zR (zm x y k i j)) → zV Γ ad cs ss x y (pc + 1) L (zI (zm x y k i j) :: st)) : zV Γ ad cs ss x y pc L (zI j :: .ref (ad k i) :: st) := by
  obtain ⟨p, l, e, R, s, m, args, below, meth, c, D, cA, A, Q⟩ := Γ
  intro H locs ls hW hS hL
  have hz : zin k i := ⟨hi.1, by rw [hsh]; exact hi.2⟩
  have h1 := hW.2.1 k i hz
  have he : zE cA ad (zm x y k i) k i = .inl (cA k, n, .inl (fun j => Int32.ofInt (zm x y k i j))) := by unfold zE; rw [hsh]; try rfl
  have ht : zty k = .char := by unfold zty; rw [hsh]; try rfl
  rw [he] at h1
  have hK := hX.2.2.1.at (k := k) (by rw [hsh]; exact Nat.succ_ne_zero _)
  rw [ht] at hK
  obtain ⟨hv, hc⟩ := zi_vp hn hj
  refine va_cald (D := D) (cl := zCl) (tys := [(cA k, .char)]) hX.1.1 hX.1.2.1 hK (zP1 h1) 0 0 rfl rfl hv d ?_
  have e2 : ((Int32.ofInt j).toNatClampNeg : Int) = j := by rw [hc]; omega
  have key := kk (hW.2.2 k i j) H locs ls hW hS hL
  simp only [e2]
  exact key
theorem zV_zald {n cn a : Nat} (hX : zX Γ ad own cc nL) (k : Nat) (hsh : zsh k = (3, a, n, cn)) {i j : Int} (hi : 0 ≤ i ∧ i < cn) (hj : 0 ≤ j ∧ j < n) (hn : n < 2147483648) (d : decode cc pc = .ok (.baload, 1)) (kk : (zlg k j = false → zR (zm x y k i j)) → zV Γ ad cs ss x y (pc + 1) L (zI (zm x y k i j) :: st)) : zV Γ ad cs ss x y pc L (zI j :: .ref (ad k i) :: st) := by
  obtain ⟨p, l, e, R, s, m, args, below, meth, c, D, cA, A, Q⟩ := Γ
  intro H locs ls hW hS hL
  have hz : zin k i := ⟨hi.1, by rw [hsh]; exact hi.2⟩
  have h1 := hW.2.1 k i hz
  have he : zE cA ad (zm x y k i) k i = .inl (cA k, n, .inl (fun j => Int32.ofInt (zm x y k i j))) := by unfold zE; rw [hsh]; try rfl
  have ht : zty k = .boolean := by unfold zty; rw [hsh]; try rfl
  rw [he] at h1
  have hK := hX.2.2.1.at (k := k) (by rw [hsh]; exact Nat.succ_ne_zero _)
  rw [ht] at hK
  obtain ⟨hv, hc⟩ := zi_vp hn hj
  refine va_zald (D := D) (cl := zCl) (tys := [(cA k, .boolean)]) hX.1.1 hX.1.2.1 hK (zP1 h1) 0 0 rfl rfl hv d ?_
  have e2 : ((Int32.ofInt j).toNatClampNeg : Int) = j := by rw [hc]; omega
  have key := kk (hW.2.2 k i j) H locs ls hW hS hL
  simp only [e2]
  exact key
theorem zV_lald {n cn a : Nat} (hX : zX Γ ad own cc nL) (k : Nat) (hsh : zsh k = (4, a, n, cn)) {i j : Int} (hi : 0 ≤ i ∧ i < cn) (hj : 0 ≤ j ∧ j < n) (hn : n < 2147483648) (d : decode cc pc = .ok (.laload, 1)) (kk : (zlg k j = false → zR (zm x y k i j)) → zV Γ ad cs ss x y (pc + 1) L (.long (Int64.ofInt (zm x y k i j)) :: st)) : zV Γ ad cs ss x y pc L (zI j :: .ref (ad k i) :: st) := by
  obtain ⟨p, l, e, R, s, m, args, below, meth, c, D, cA, A, Q⟩ := Γ
  intro H locs ls hW hS hL
  have hz : zin k i := ⟨hi.1, by rw [hsh]; exact hi.2⟩
  have h1 := hW.2.1 k i hz
  have he : zE cA ad (zm x y k i) k i = .inl (cA k, n, .inr (.inl (fun j => Int64.ofInt (zm x y k i j)))) := by unfold zE; rw [hsh]; try rfl
  have ht : zty k = .long := by unfold zty; rw [hsh]; try rfl
  rw [he] at h1
  have hK := hX.2.2.1.at (k := k) (by rw [hsh]; exact Nat.succ_ne_zero _)
  rw [ht] at hK
  obtain ⟨hv, hc⟩ := zi_vp hn hj
  refine va_lald (D := D) (cl := zCl) (tys := [(cA k, .long)]) hX.1.1 hX.1.2.1 hK (zP1 h1) 0 0 rfl rfl hv d ?_
  have e2 : ((Int32.ofInt j).toNatClampNeg : Int) = j := by rw [hc]; omega
  have key := kk (hW.2.2 k i j) H locs ls hW hS hL
  simp only [e2]
  exact key
theorem zV_dald {n cn a : Nat} (hX : zX Γ ad own cc nL) (k : Nat) (hsh : zsh k = (5, a, n, cn)) {i j : Int} (hi : 0 ≤ i ∧ i < cn) (hj : 0 ≤ j ∧ j < n) (hn : n < 2147483648) (d : decode cc pc = .ok (.daload, 1)) (kk : (zlg k j = false → zR (zm x y k i j)) → zV Γ ad cs ss x y (pc + 1) L (.double (UInt64.ofNat (zm x y k i j).toNat) :: st)) : zV Γ ad cs ss x y pc L (zI j :: .ref (ad k i) :: st) := by
  obtain ⟨p, l, e, R, s, m, args, below, meth, c, D, cA, A, Q⟩ := Γ
  intro H locs ls hW hS hL
  have hz : zin k i := ⟨hi.1, by rw [hsh]; exact hi.2⟩
  have h1 := hW.2.1 k i hz
  have he : zE cA ad (zm x y k i) k i = .inl (cA k, n, .inr (.inr (.inr (.inl (fun j => UInt64.ofNat (zm x y k i j).toNat))))) := by unfold zE; rw [hsh]; try rfl
  have ht : zty k = .double := by unfold zty; rw [hsh]; try rfl
  rw [he] at h1
  have hK := hX.2.2.1.at (k := k) (by rw [hsh]; exact Nat.succ_ne_zero _)
  rw [ht] at hK
  obtain ⟨hv, hc⟩ := zi_vp hn hj
  refine va_dald (D := D) (cl := zCl) (tys := [(cA k, .double)]) hX.1.1 hX.1.2.1 hK (zP1 h1) 0 0 rfl rfl hv d ?_
  have e2 : ((Int32.ofInt j).toNatClampNeg : Int) = j := by rw [hc]; omega
  have key := kk (hW.2.2 k i j) H locs ls hW hS hL
  simp only [e2]
  exact key
theorem zV_aald {n cn a : Nat} (hX : zX Γ ad own cc nL) (k : Nat) (hsh : zsh k = (6, a, n, cn)) {i j : Int} (hi : 0 ≤ i ∧ i < cn) (hj : 0 ≤ j ∧ j < n) (hn : n < 2147483648) (d : decode cc pc = .ok (.aaload, 1)) (kk : (zlg k j = false → zR (zm x y k i j)) → zV Γ ad cs ss x y (pc + 1) L (.ref (ad a j) :: st)) : zV Γ ad cs ss x y pc L (zI j :: .ref (ad k i) :: st) := by
  obtain ⟨p, l, e, R, s, m, args, below, meth, c, D, cA, A, Q⟩ := Γ
  intro H locs ls hW hS hL
  have hz : zin k i := ⟨hi.1, by rw [hsh]; exact hi.2⟩
  have h1 := hW.2.1 k i hz
  have he : zE cA ad (zm x y k i) k i = .inl (cA k, n, .inr (.inr (.inr (.inr (fun j => some (ad a j)))))) := by unfold zE; rw [hsh]; try rfl
  have ht : zty k = .object (if a = 9 then RX0 else RX2) := by unfold zty; rw [hsh]; try rfl
  rw [he] at h1
  have hK := hX.2.2.1.at (k := k) (by rw [hsh]; exact Nat.succ_ne_zero _)
  rw [ht] at hK
  obtain ⟨hv, hc⟩ := zi_vp hn hj
  refine va_aldq (D := D) (cl := zCl) (tys := [(cA k, .object (if a = 9 then RX0 else RX2))]) hX.1.1 hX.1.2.1 hK (zP1 h1) 0 0 rfl rfl hv d ?_
  have e2 : ((Int32.ofInt j).toNatClampNeg : Int) = j := by rw [hc]; omega
  have key := kk (hW.2.2 k i j) H locs ls hW hS hL
  simp only [e2]
  exact key
theorem zV_iast {n cn a : Nat} (hX : zX Γ ad own cc nL) (k : Nat) (hsh : zsh k = (1, a, n, cn)) {i j : Int} (hi : 0 ≤ i ∧ i < cn) (hj : 0 ≤ j ∧ j < n) (hn : n < 2147483648) {z : Int} (hzr : zlg k j = false → zR z) (hxy : zm x' y' = zup (zm x y) k i j z) (d : decode cc pc = .ok (.iastore, 1)) (kk : zV Γ ad cs ss x' y' (pc + 1) L st) : zV Γ ad cs ss x y pc L (zI z :: zI j :: .ref (ad k i) :: st) := by
  obtain ⟨p, l, e, R, s, m, args, below, meth, c, D, cA, A, Q⟩ := Γ
  intro H locs ls hW hS hL
  have hz : zin k i := ⟨hi.1, by rw [hsh]; exact hi.2⟩
  have h1 := hW.2.1 k i hz
  have he : ∀ f : Int → Int, zE cA ad f k i = .inl (cA k, n, .inl (fun j => Int32.ofInt (f j))) := by intro f; unfold zE; rw [hsh]; try rfl
  have ht : zty k = .int := by unfold zty; rw [hsh]; try rfl
  rw [he] at h1
  have hK := hX.2.2.1.2 k (by rw [hsh]; exact Nat.succ_ne_zero _)
  rw [ht] at hK
  obtain ⟨hv, hc⟩ := zi_vp hn hj
  refine W.iast hX.1.1 hX.1.2.1 h1 (hK.1 n _) (fun q => by cases q) (by show ¬ (_ ∨ (arrV _ _ _).slots.size ≤ _); rw [arrV_size]; exact hv) rfl rfl d fun H1 e1 z1 oq => ?_
  refine kk H1 _ ls (hW.upd hz oq hxy hzr ?_) (hS.put z1 oq (hX.2.2.2.2 k i hz)) hL
  rw [he]
  show H1[ad k i]? = some (vp_cell _ _)
  rw [e1, vp_cell_i, vp_cell_i, arrV_store]
  congr 2
  funext q
  rw [hxy, hc]
  unfold updV zup
  by_cases hq : q = j.toNat
  · subst hq
    have e2 : ((j.toNat : Nat) : Int) = j := by omega
    rw [if_pos rfl, e2, if_pos ⟨rfl, rfl, rfl⟩]
  · rw [if_neg hq, if_neg (fun h => hq (by omega))]
theorem zV_cast {n cn a : Nat} (hX : zX Γ ad own cc nL) (k : Nat) (hsh : zsh k = (2, a, n, cn)) {i j : Int} (hi : 0 ≤ i ∧ i < cn) (hj : 0 ≤ j ∧ j < n) (hn : n < 2147483648) {z : Int} (hnr : narrow .char (.int (Int32.ofInt z)) = .int (Int32.ofInt z)) (hzr : zlg k j = false → zR z) (hxy : zm x' y' = zup (zm x y) k i j z) (d : decode cc pc = .ok (.castore, 1)) (kk : zV Γ ad cs ss x' y' (pc + 1) L st) : zV Γ ad cs ss x y pc L (zI z :: zI j :: .ref (ad k i) :: st) := by
  obtain ⟨p, l, e, R, s, m, args, below, meth, c, D, cA, A, Q⟩ := Γ
  intro H locs ls hW hS hL
  have hz : zin k i := ⟨hi.1, by rw [hsh]; exact hi.2⟩
  have h1 := hW.2.1 k i hz
  have he : ∀ f : Int → Int, zE cA ad f k i = .inl (cA k, n, .inl (fun j => Int32.ofInt (f j))) := by intro f; unfold zE; rw [hsh]; try rfl
  have ht : zty k = .char := by unfold zty; rw [hsh]; try rfl
  rw [he] at h1
  have hK := hX.2.2.1.2 k (by rw [hsh]; exact Nat.succ_ne_zero _)
  rw [ht] at hK
  obtain ⟨hv, hc⟩ := zi_vp hn hj
  refine W.cast hX.1.1 hX.1.2.1 h1 (hK.1 n _) (fun q => by cases q) (by show ¬ (_ ∨ (arrV _ _ _).slots.size ≤ _); rw [arrV_size]; exact hv) rfl rfl d fun H1 e1 z1 oq => ?_
  refine kk H1 _ ls (hW.upd hz oq hxy hzr ?_) (hS.put z1 oq (hX.2.2.2.2 k i hz)) hL
  rw [he]
  show H1[ad k i]? = some (vp_cell _ _)
  rw [e1, vp_cell_i, vp_cell_i, arrV_store]
  congr 2
  funext q
  rw [hxy, hc]
  unfold updV zup
  by_cases hq : q = j.toNat
  · subst hq
    have e2 : ((j.toNat : Nat) : Int) = j := by omega
    rw [if_pos rfl, e2, if_pos ⟨rfl, rfl, rfl⟩, hnr]
  · rw [if_neg hq, if_neg (fun h => hq (by omega))]
theorem zV_zast {n cn a : Nat} (hX : zX Γ ad own cc nL) (k : Nat) (hsh : zsh k = (3, a, n, cn)) {i j : Int} (hi : 0 ≤ i ∧ i < cn) (hj : 0 ≤ j ∧ j < n) (hn : n < 2147483648) {z : Int} (hnr : narrow .boolean (.int (Int32.ofInt z)) = .int (Int32.ofInt z)) (hzr : zlg k j = false → zR z) (hxy : zm x' y' = zup (zm x y) k i j z) (d : decode cc pc = .ok (.bastore, 1)) (kk : zV Γ ad cs ss x' y' (pc + 1) L st) : zV Γ ad cs ss x y pc L (zI z :: zI j :: .ref (ad k i) :: st) := by
  obtain ⟨p, l, e, R, s, m, args, below, meth, c, D, cA, A, Q⟩ := Γ
  intro H locs ls hW hS hL
  have hz : zin k i := ⟨hi.1, by rw [hsh]; exact hi.2⟩
  have h1 := hW.2.1 k i hz
  have he : ∀ f : Int → Int, zE cA ad f k i = .inl (cA k, n, .inl (fun j => Int32.ofInt (f j))) := by intro f; unfold zE; rw [hsh]; try rfl
  have ht : zty k = .boolean := by unfold zty; rw [hsh]; try rfl
  rw [he] at h1
  have hK := hX.2.2.1.2 k (by rw [hsh]; exact Nat.succ_ne_zero _)
  rw [ht] at hK
  obtain ⟨hv, hc⟩ := zi_vp hn hj
  refine W.zast hX.1.1 hX.1.2.1 h1 (hK.1 n _) (fun q => by cases q) (by show ¬ (_ ∨ (arrV _ _ _).slots.size ≤ _); rw [arrV_size]; exact hv) rfl rfl d fun H1 e1 z1 oq => ?_
  refine kk H1 _ ls (hW.upd hz oq hxy hzr ?_) (hS.put z1 oq (hX.2.2.2.2 k i hz)) hL
  rw [he]
  show H1[ad k i]? = some (vp_cell _ _)
  rw [e1, vp_cell_i, vp_cell_i, arrV_store]
  congr 2
  funext q
  rw [hxy, hc]
  unfold updV zup
  by_cases hq : q = j.toNat
  · subst hq
    have e2 : ((j.toNat : Nat) : Int) = j := by omega
    rw [if_pos rfl, e2, if_pos ⟨rfl, rfl, rfl⟩, hnr]
  · rw [if_neg hq, if_neg (fun h => hq (by omega))]
theorem zV_last {n cn a : Nat} (hX : zX Γ ad own cc nL) (k : Nat) (hsh : zsh k = (4, a, n, cn)) {i j : Int} (hi : 0 ≤ i ∧ i < cn) (hj : 0 ≤ j ∧ j < n) (hn : n < 2147483648) {z : Int} (hzr : zlg k j = false → zR z) (hxy : zm x' y' = zup (zm x y) k i j z) (d : decode cc pc = .ok (.lastore, 1)) (kk : zV Γ ad cs ss x' y' (pc + 1) L st) : zV Γ ad cs ss x y pc L (.long (Int64.ofInt z) :: zI j :: .ref (ad k i) :: st) := by
  obtain ⟨p, l, e, R, s, m, args, below, meth, c, D, cA, A, Q⟩ := Γ
  intro H locs ls hW hS hL
  have hz : zin k i := ⟨hi.1, by rw [hsh]; exact hi.2⟩
  have h1 := hW.2.1 k i hz
  have he : ∀ f : Int → Int, zE cA ad f k i = .inl (cA k, n, .inr (.inl (fun j => Int64.ofInt (f j)))) := by intro f; unfold zE; rw [hsh]; try rfl
  have ht : zty k = .long := by unfold zty; rw [hsh]; try rfl
  rw [he] at h1
  have hK := hX.2.2.1.2 k (by rw [hsh]; exact Nat.succ_ne_zero _)
  rw [ht] at hK
  obtain ⟨hv, hc⟩ := zi_vp hn hj
  refine W.last hX.1.1 hX.1.2.1 h1 (hK.1 n _) (fun q => by cases q) (by show ¬ (_ ∨ (arrV _ _ _).slots.size ≤ _); rw [arrV_size]; exact hv) rfl rfl d fun H1 e1 z1 oq => ?_
  refine kk H1 _ ls (hW.upd hz oq hxy hzr ?_) (hS.put z1 oq (hX.2.2.2.2 k i hz)) hL
  rw [he]
  show H1[ad k i]? = some (vp_cell _ _)
  rw [e1, vp_cell_l, vp_cell_l, arrV_store]
  congr 2
  funext q
  rw [hxy, hc]
  unfold updV zup
  by_cases hq : q = j.toNat
  · subst hq
    have e2 : ((j.toNat : Nat) : Int) = j := by omega
    rw [if_pos rfl, e2, if_pos ⟨rfl, rfl, rfl⟩]
  · rw [if_neg hq, if_neg (fun h => hq (by omega))]
theorem zV_dast {n cn a : Nat} (hX : zX Γ ad own cc nL) (k : Nat) (hsh : zsh k = (5, a, n, cn)) {i j : Int} (hi : 0 ≤ i ∧ i < cn) (hj : 0 ≤ j ∧ j < n) (hn : n < 2147483648) {z : Int} (hzr : zlg k j = false → zR z) (hxy : zm x' y' = zup (zm x y) k i j z) (d : decode cc pc = .ok (.dastore, 1)) (kk : zV Γ ad cs ss x' y' (pc + 1) L st) : zV Γ ad cs ss x y pc L (.double (UInt64.ofNat z.toNat) :: zI j :: .ref (ad k i) :: st) := by
  obtain ⟨p, l, e, R, s, m, args, below, meth, c, D, cA, A, Q⟩ := Γ
  intro H locs ls hW hS hL
  have hz : zin k i := ⟨hi.1, by rw [hsh]; exact hi.2⟩
  have h1 := hW.2.1 k i hz
  have he : ∀ f : Int → Int, zE cA ad f k i = .inl (cA k, n, .inr (.inr (.inr (.inl (fun j => UInt64.ofNat (f j).toNat))))) := by intro f; unfold zE; rw [hsh]; try rfl
  have ht : zty k = .double := by unfold zty; rw [hsh]; try rfl
  rw [he] at h1
  have hK := hX.2.2.1.2 k (by rw [hsh]; exact Nat.succ_ne_zero _)
  rw [ht] at hK
  obtain ⟨hv, hc⟩ := zi_vp hn hj
  refine W.dast hX.1.1 hX.1.2.1 h1 (hK.1 n _) (fun q => by cases q) (by show ¬ (_ ∨ (arrV _ _ _).slots.size ≤ _); rw [arrV_size]; exact hv) rfl rfl d fun H1 e1 z1 oq => ?_
  refine kk H1 _ ls (hW.upd hz oq hxy hzr ?_) (hS.put z1 oq (hX.2.2.2.2 k i hz)) hL
  rw [he]
  show H1[ad k i]? = some (vp_cell _ _)
  rw [e1, vp_cell_d, vp_cell_d, arrV_store]
  congr 2
  funext q
  rw [hxy, hc]
  unfold updV zup
  by_cases hq : q = j.toNat
  · subst hq
    have e2 : ((j.toNat : Nat) : Int) = j := by omega
    rw [if_pos rfl, e2, if_pos ⟨rfl, rfl, rfl⟩]
  · rw [if_neg hq, if_neg (fun h => hq (by omega))]
end ZV2
end
section
/-! A throw whose class links its super's constructor by any index; turned from kit/laws/EXCEPTIONS.to-paste -/
def zChain (X : String) (ix : Nat) (rx : ByteArray) : List String → List Cond
  | [] => Bundle.passSAtoms X Bundle.tN ix rx
  | Y :: r => Bundle.passSAtoms X Y ix rx ++ Bundle.chainSAtoms Y r
def zOwn (own : String) (ic : Nat) (X : String) (ix : Nat) (rx : ByteArray) (names : List String) : List Cond :=
  Bundle.throwableAtoms ++ Bundle.throwableSAtoms ++ zChain X ix rx names ++
  [.methodLink own ic (Bundle.initS X), .instantiable X 6, .castable X X, .selects X Bundle.tFill0 Bundle.tFill0, .selects X Bundle.tFill Bundle.tFill,
   .lays X Bundle.tN "cause" "Ljava/lang/Throwable;", .lays X Bundle.tN "stackTrace" Bundle.steD, .lays X Bundle.tN "suppressedExceptions" Bundle.listD, .lays X Bundle.tN "detailMessage" "Ljava/lang/String;",
   .isRef (.static Bundle.tN "UNASSIGNED_STACK" Bundle.steD), .isRef (.static Bundle.tN "SUPPRESSED_SENTINEL" Bundle.listD),
   .fieldLink Bundle.tN 198 Bundle.tN "backtrace" "Ljava/lang/Object;", .lays Bundle.tN Bundle.tN "backtrace" "Ljava/lang/Object;", .lays X Bundle.tN "backtrace" "Ljava/lang/Object;"]
def zAt (own : String) (ic : Nat) (X : String) (ix : Nat) (rx : ByteArray) (names : List String) : List Cond := (zOwn own ic X ix rx names).filter vx_no
theorem zchain {args : Array Value} {s : State} {pl : Platform} (hpl : pl.magicAccessors = ({} : Platform).magicAccessors) {top : MethodId} (htop : s.methodNamed? (Bundle.initS Bundle.tN) = some top)
    {ix : Nat} {rx : ByteArray} (x0 : decode rx 0 = .ok (.aload_n 0, 1)) (x1 : decode rx 1 = .ok (.aload_n 1, 1)) (x2 : decode rx 2 = .ok (.invokespecial ix, 3)) (x5 : decode rx 5 = .ok (.return_, 1)) :
    ∀ (names : List String) (X : String), Bundle.fit X = true → (∀ n ∈ names, Bundle.fit n = true) → (∀ c ∈ zChain X ix rx names, c.before args s = true) →
      ∃ (P1 : PassC) (Ps : List PassC), Ps.length = names.length ∧ P1.LinksS pl s ∧ (∀ P, P ∈ Ps → P.LinksS pl s) ∧ s.methodNamed? (Bundle.initS X) = some P1.m ∧
        P1.sup = firstOf top (Ps.map (·.toPassT)) ∧ PassesOn top (Ps.map (·.toPassT)) := by
  intro names
  cases names with
  | nil =>
    intro X hX _ h
    obtain ⟨P, LP, hm, hs⟩ := PassC.ofS_atoms (args := args) (s := s) hpl (X := X) (Y := Bundle.tN) (Bundle.fit_spec hX).1 (by decide) x0 x1 x2 x5 h
    exact ⟨P, [], rfl, LP, (fun _ hP => by cases hP), hm, Option.some.inj (hs.symm.trans htop), trivial⟩
  | cons Y r =>
    intro X hX hn h
    obtain ⟨P, LP, hm, hs⟩ := PassC.ofS_atoms (args := args) (s := s) hpl (X := X) (Y := Y) (Bundle.fit_spec hX).1 (Bundle.fit_spec (hn Y List.mem_cons_self)).2 x0 x1 x2 x5 (fun c hc => h c (by simp only [zChain, List.mem_append]; exact Or.inl hc))
    obtain ⟨P2, Ps, hlen, L2, hL, hm2, hsup, hpass⟩ := Bundle.chainS (args := args) hpl htop r Y (hn Y List.mem_cons_self) (fun n hn2 => hn n (List.mem_cons_of_mem _ hn2)) (fun c hc => h c (by simp only [zChain, List.mem_append]; exact Or.inr hc))
    exact ⟨P, P2 :: Ps, by simp [hlen], LP, fun Q hQ => (List.mem_cons.mp hQ).elim (fun e => by rw [e]; exact L2) (hL Q), hm, Option.some.inj (hs.symm.trans hm2), hsup, hpass⟩
section ZX1
variable {p : Program} {l : Launch} {e : Env} {R : Room} {s : State} {m₀ : MethodId} {args : Array Value} {below : List Frame} {meth : Method} {c : Code} {W : State} {locs : List Loc} {cells slots : Nat}
set_option maxHeartbeats 1000000 in
theorem zx_ctorMade (X : Stand p l e R s m₀ args below meth c W locs cells slots) (hexec : p.tables.exec = Jvm.exec) (htr : e.platform.stackTraces = false) {own cls : String} {names : List String} {ic ix : Nat} {rx : ByteArray} (x0 : decode rx 0 = .ok (.aload_n 0, 1)) (x1 : decode rx 1 = .ok (.aload_n 1, 1)) (x2 : decode rx 2 = .ok (.invokespecial ix, 3)) (x5 : decode rx 5 = .ok (.return_, 1))
    (hown : s.vm.findClass own = some m₀.cls) (hcls : Bundle.fit cls = true) (hnames : ∀ n ∈ names, Bundle.fit n = true)
    (h : ∀ a ∈ zOwn own ic cls ix rx names, a.before args s = true)
    (hlocs : ∀ x ∈ locs, ∀ cell, s.heap[x.base]? = some cell → cell.vm.isStatics = false)
    {a : Addr} {cX : ClassId} {kX : Class} (hfoundX : s.vm.findClass cls = some cX) (hkX : s.vm.classes[cX]? = some kX) (hcell : W.heap[a]? = some (freshCell cX kX)) (hnew : s.heap.size ≤ a)
    {msg : Value} (hmsg : msg.isRef = true)
    {g : JFrame} (hg : g.method = m₀) (hsize : g.locals.size = c.maxLocals) {rest : List Value} (hstack : g.stack = msg :: .ref a :: .ref a :: rest)
    (hd6 : decode c.code g.pc = .ok (.invokespecial ic, 3))
    (hRframes : names.length + 3 < R.frames) (hRlocals : 2 * g.monitorRoom + ((Value.ref a :: rest).map fun v => v.category).sum + (13 * (names.length + 1) + 42) ≤ R.locals) :
    ∃ (V : State) (ce : Cell) (L : List Loc), Stand p l e R s m₀ args below meth c (V.setCell a ce) (locs ++ L) cells slots ∧ (∀ y ∈ L, y.base = a) ∧ a < V.heap.size ∧ ce.cls = cX ∧ ce.vm = .none ∧
      ∀ target, Steps p.tables e below ((V.setCell a ce).setTop { g with stack := .ref a :: rest, pc := g.pc + 3 }) target → Steps p.tables e below (W.setTop g) target := by
  have howns : e.platform.frameOwnsMonitors = true := by rw [X.admits.platform]
  have hfin : e.platform.finalization = false := by rw [X.admits.platform]
  have hpl : e.platform.magicAccessors = ({} : Platform).magicAccessors := by rw [X.admits.platform]
  have a' : ∀ x, x ∈ zOwn own ic cls ix rx names → x.holds args s none s [] = true := fun x hx => h x hx
  obtain ⟨T, Z0, L, -, Y⟩ := ThrowableC.of_atoms (args := args) howns hfin hpl (fun x hx => h x (by simp [zOwn, hx]))
  obtain ⟨Z, M, LZ, LM, hnZ⟩ := Init0T.ofS_atoms (args := args) hpl L Y (fun x hx => h x (by simp [zOwn, hx]))
  obtain ⟨P1, Ps, hlen, L1, hL, hP1m, hlink1, hlink⟩ := zchain (args := args) hpl hnZ x0 x1 x2 x5 names cls hcls hnames (fun x hx => h x (by simp [zOwn, hx]))
  have hfound : s.vm.findClass cls = some P1.m.cls := findClass_of_methodNamed hP1m
  cases Option.some.inj (hfoundX.symm.trans hfound)
  obtain ⟨c1, kX', hc1, hk, hord, -, -, hn6⟩ := Cond.instantiable_spec (a' (.instantiable cls 6) (by simp [zOwn]))
  cases Option.some.inj (hc1.symm.trans hfound)
  cases Option.some.inj (hkX.symm.trans hk)
  have hsel0 : selectMethod e.platform s.vm P1.m.cls T.fill0 = .method T.fill0 := by
    obtain ⟨c2, r2, m2, q1, q2, q3, q4, -⟩ := Cond.selects_spec (a' (.selects cls Bundle.tFill0 Bundle.tFill0) (by simp [zOwn]))
    cases Option.some.inj (q1.symm.trans hfound)
    cases Option.some.inj (q2.symm.trans (State.methodFound?_of_named Y.fill0 (by decide)))
    cases Option.some.inj (q3.symm.trans Y.fill0)
    rw [Launch.admits_selectMethod X.admits]; exact q4
  have hselF : selectMethod e.platform s.vm P1.m.cls T.fill = .method T.fill := by
    obtain ⟨c2, r2, m2, q1, q2, q3, q4, -⟩ := Cond.selects_spec (a' (.selects cls Bundle.tFill Bundle.tFill) (by simp [zOwn]))
    cases Option.some.inj (q1.symm.trans hfound)
    cases Option.some.inj (q2.symm.trans (State.methodFound?_of_named Y.fill (by decide)))
    cases Option.some.inj (q3.symm.trans Y.fill)
    rw [Launch.admits_selectMethod X.admits]; exact q4
  obtain ⟨cellS0, hcS0, hiss⟩ := Y.statics
  obtain ⟨u0, hu0⟩ := Cond.staticRefV Y.unassigned L.unassignedStatic L.statics hcS0 hiss (a' (.isRef (.static Bundle.tN "UNASSIGNED_STACK" Bundle.steD)) (by simp [zOwn]))
  obtain ⟨sen, hsen⟩ := Cond.staticRefV Y.sentinel L.sentinelStatic L.statics hcS0 hiss (a' (.isRef (.static Bundle.tN "SUPPRESSED_SENTINEL" Bundle.listD)) (by simp [zOwn]))
  obtain ⟨ci198, i198, fB, hk198, hg198, ha198, hsB, -, hnB, htB, hffB⟩ := Cond.ownField (t := .object "java/lang/Object") Y.found L.cls (by decide +kernel) (a' (.fieldLink Bundle.tN 198 Bundle.tN "backtrace" "Ljava/lang/Object;") (by simp [zOwn])) (a' (.lays Bundle.tN Bundle.tN "backtrace" "Ljava/lang/Object;") (by simp [zOwn])) e.platform hpl
  obtain ⟨cellS, hcS', heS, -, hkeep⟩ := X.same.2.2.2.2.2 T.aS cellS0 hcS0
  have hcellS : W.heap[T.aS]? = some cellS := hcS'
  have hout' : ∀ i, (⟨T.aS, i⟩ : Loc) ∉ locs := fun i hmem => by
    have := hlocs _ hmem cellS0 hcS0
    rw [hiss] at this; cases this
  have hknownS : cellS.vm ≠ .unknown := by
    rw [heS]; intro hu
    rw [show cellS0.vm = .unknown from hu] at hiss
    cases hiss
  have hneS : T.aS ≠ a := Nat.ne_of_lt (Nat.lt_of_lt_of_le (Array.getElem?_eq_some_iff.mp hcS0).1 hnew)
  obtain ⟨iM, hffM⟩ := Y.msg
  obtain ⟨tyC, dC, hdC, hdnC⟩ := Cond.laysAt hfound hk Y.cause (a' (.lays cls Bundle.tN "cause" "Ljava/lang/Throwable;") (by simp [zOwn]))
  obtain ⟨tyS, dS, hdS, hdnS⟩ := Cond.laysAt hfound hk Y.stack (a' (.lays cls Bundle.tN "stackTrace" Bundle.steD) (by simp [zOwn]))
  obtain ⟨tyP, dP, hdP, hdnP⟩ := Cond.laysAt hfound hk Y.supp (a' (.lays cls Bundle.tN "suppressedExceptions" Bundle.listD) (by simp [zOwn]))
  obtain ⟨tyM, dM, hdM, hdnM⟩ := Cond.laysAt hfound hk hffM (a' (.lays cls Bundle.tN "detailMessage" "Ljava/lang/String;") (by simp [zOwn]))
  obtain ⟨tyB, dB, hdB, hdnB⟩ := Cond.laysAt hfound hk hffB (a' (.lays cls Bundle.tN "backtrace" "Ljava/lang/Object;") (by simp [zOwn]))
  have bC := Cond.laysApart hdB hdC hdnB hdnC (by rw [hnB, Y.causeName]; decide)
  have bS := Cond.laysApart hdB hdS hdnB hdnS (by rw [hnB, Y.stackName]; decide)
  have bP := Cond.laysApart hdB hdP hdnB hdnP (by rw [hnB, Y.suppName]; decide)
  have hskip : SkipFacts T e.platform s (fun u => u) u0 ((preparedCellV T.toThrowableT (freshCell P1.m.cls kX) a u0 sen).withEntry W.cur) :=
    ⟨{ ci198 := ci198, i198 := i198, fBack := fB }, ⟨hk198, hg198, ha198, hsB⟩, by
      have := fresh_default (c := P1.m.cls) tyB
      rw [htB] at this
      simpa [preparedCellV, Cell.setSlot, Cell.withEntry, Array.getElem?_setIfInBounds, bC, bS, bP, bC.symm, bS.symm, bP.symm, defaultValue] using this, fun _ _ => rfl⟩
  obtain ⟨tm, methC, cdC, kC, vm₁, hnC, -, -, -, -, -, -, -, hW₁, st1⟩ := Steps.initColdS (tb := p.tables) (e := e) (below := below) (s := s) (U := W) X.here hexec X.warmed hpl hown (t := Bundle.initS cls) rfl rfl (Bundle.fit_spec hcls).2
    (a' (.methodLink own ic (Bundle.initS cls)) (by simp [zOwn])) (h (.instanceMethod (Bundle.initS cls)) (by cases names <;> simp [zOwn, zChain, Bundle.passSAtoms])) (bytes := rx) (maxL := 2) (h (.code (Bundle.initS cls) rx 2 none) (by cases names <;> simp [zOwn, zChain, Bundle.passSAtoms]))
    (f := g) hg (a := a) (msg := msg) (rest := .ref a :: rest) hstack hd6
  cases Option.some.inj (hnC.symm.trans hP1m)
  have X₁ := X.noted hW₁
  obtain ⟨vm₂, X₂, st2⟩ := X₁.ctorMessageOffV hexec (g := { g with stack := .ref a :: rest }) hg hsize T L Z LZ M LM (P1 :: Ps)
    (fun P hP => by rcases List.mem_cons.mp hP with rfl | hP; exact L1; exact hL P hP) ⟨hlink1, hlink⟩ (u0 := u0) (sen := sen) (self := a) hmsg (cell := freshCell P1.m.cls kX) (cellS := cellS)
    hcell (fun _ => by simp) (by simp) rfl rfl hsel0 hselF hcellS hneS hknownS (by rw [hkeep _ (hout' _)]; exact hu0) (by rw [hkeep _ (hout' _)]; exact hsen)
    (Takes.of_laid hk hord tyC (by rw [Y.causeType]; rfl)) (Takes.of_laid hk hord tyS (by rw [Y.stackType]; exact fits_refV_array _ u0)) (Takes.of_laid hk hord tyP (by rw [Y.suppType]; exact fits_refV_object _ sen))
    (Takes.of_laid hk hord tyM (by rw [Y.msgType]; exact fits_refV_object _ ⟨msg, hmsg⟩)) Y.objLocals hskip htr [] hd6
    (by simp only [List.length_cons, hlen]; omega) (by simp only [List.length_cons, hlen]; exact hRlocals)
  have hlt : a < ((W.setVm vm₁).setVm vm₂).heap.size := (Array.getElem?_eq_some_iff.mp hcell).1
  refine ⟨(W.setVm vm₁).setVm vm₂, _, _, X₂, fun y hy => ?_, hlt, rfl, rfl, fun target hwalk => st1 _ (fun acts => ?_)⟩
  · simp only [List.mem_cons, List.not_mem_nil, or_false] at hy
    rcases hy with rfl | rfl | rfl | rfl | rfl <;> rfl
  · rw [doInvoke_state]
    exact st2 _ hwalk
end ZX1
section ZX2
variable {p : Program} {l : Launch} {e : Env} {R : Room} {s : State} {m : MethodId} {args : Array Value} {below : List Frame} {meth : Method} {c : Code} {H : Heap} {locs : List Loc} {cells slots : Nat} {Q : State → Prop}
variable {ls : Array Slot} {rest : List Value} {D : va_G} {cl : List vw_C} {tys : List (ClassId × FieldType)} {ws : va_W}
theorem vx_athrow {cc : ByteArray} {pc : Nat} (hexec : p.tables.exec = Jvm.exec) (hb : c.code = cc) {q : Addr} (hdg : decode cc pc = .ok (.athrow, 1)) (k : vx_W p l e R s m args below meth c H locs cells slots Q (F0 m pc ls rest) q) : W p l e R s m args below meth c H locs cells slots Q (F0 m pc ls (.ref q :: rest)) := by
  intro T hT X
  obtain ⟨t, st, hq⟩ := k T hT X
  refine ⟨t, ?_, hq⟩
  have hdg' : decode c.code pc = .ok (.athrow, 1) := by rw [hb]; exact hdg
  jvm_step X.here [X.here.top, hexec, hdg', athrow.wp_sem]
  exact st
set_option maxHeartbeats 1000000 in
theorem zx_throw {cc : ByteArray} {pc : Nat} (hexec : p.tables.exec = Jvm.exec) (hb : c.code = cc) (hl : l.stackTraces = false) {own cls text : String} {names : List String} {ik is ic sa ix : Nat} {rx : ByteArray} {A : Nat → Prop} (x0 : decode rx 0 = .ok (.aload_n 0, 1)) (x1 : decode rx 1 = .ok (.aload_n 1, 1)) (x2 : decode rx 2 = .ok (.invokespecial ix, 3)) (x5 : decode rx 5 = .ok (.return_, 1))
    (hown : s.vm.findClass own = some m.cls) (hcls : Bundle.fit cls = true) (hnames : ∀ n ∈ names, Bundle.fit n = true)
    (hk : (Cond.classLink own ik cls).before args s = true) (hini : (Cond.initialized cls).before args s = true) (hstr : vk_R own is text sa s) (hat : ∀ w ∈ zAt own ic cls ix rx names, w.before args s = true)
    (hgood : ∀ w ∈ Cond.classLink own ik cls :: Cond.initialized cls :: zAt own ic cls ix rx names, vx_ot w = true)
    (hU : vx_Zq Bundle.tN "UNASSIGNED_STACK" Bundle.steD A s s.heap) (hN : vx_Zq Bundle.tN "SUPPRESSED_SENTINEL" Bundle.listD A s s.heap) (hS : va_S A s.heap H locs) (hsize : ls.size = c.maxLocals)
    (d0 : decode cc pc = .ok (.new ik, 3)) (d3 : decode cc (pc + 3) = .ok (.dup, 1)) (d4 : decode cc (pc + 4) = .ok (.ldc is, 2)) (d6 : decode cc (pc + 6) = .ok (.invokespecial ic, 3))
    (hRframes : names.length + 3 < R.frames) (hRlocals : (rest.map fun v => v.category).sum + (13 * (names.length + 1) + 43) ≤ R.locals) (hRcells : cells + 1 ≤ R.cells) (hRslots : slots + 6 ≤ R.slots)
    (d9 : decode cc (pc + 9) = .ok (.athrow, 1)) (kk : ∀ (q : Nat) (H1 : Heap) (ce : Cell), H.size ≤ H1.size → (∀ z : Nat, z < H.size → H1[z]? = H[z]?) → H1[q]? = some ce → ce.vm = .none → s.vm.findClass cls = some ce.cls → vx_W p l e R s m args below meth c H1 locs (cells + 1) (slots + 6) Q (F0 m (pc + 9) ls rest) q) :
    W p l e R s m args below meth c H locs cells slots Q (F0 m pc ls rest) := by
  intro T hT X
  subst hT
  have htr : e.platform.stackTraces = false := (show e.platform.stackTraces = l.stackTraces by rw [X.admits.platform]).trans hl
  have Y := vx_rebase X (R' := { frames := R.frames, locals := R.locals, cells := 1, slots := 6 }) (Nat.le_refl _) (Nat.le_refl _) hRcells hRslots
  obtain ⟨s', hA'⟩ : ∃ z, z = (T.setVm s.vm).setFrames (.invoking m args :: below) := ⟨_, rfl⟩
  rw [← hA'] at Y
  have hvm : s'.vm = s.vm := by rw [hA']; rfl
  have hhp : s'.heap = T.heap := by rw [hA']; rfl
  have hW0 : s.WarmedH s'.vm := by rw [hvm]; exact State.WarmedH.refl s
  have hat' : ∀ w ∈ zAt own ic cls ix rx names, w.before args s' = true := fun w hw => vx_ot_at hW0 hvm.symm (hgood w (List.mem_cons_of_mem _ (List.mem_cons_of_mem _ hw))) (hat w hw)
  have hk' : (Cond.classLink own ik cls).before args s' = true := vx_ot_at hW0 hvm.symm (hgood _ List.mem_cons_self) hk
  have hini' : (Cond.initialized cls).before args s' = true := vx_ot_at hW0 hvm.symm (hgood _ (List.mem_cons_of_mem _ List.mem_cons_self)) hini
  have hU' : vx_Zq Bundle.tN "UNASSIGNED_STACK" Bundle.steD A s' s'.heap := by rw [hhp]; exact vx_Zq.moved hW0.alike (hU.kept hS.2.1)
  have hN' : vx_Zq Bundle.tN "SUPPRESSED_SENTINEL" Bundle.listD A s' s'.heap := by rw [hhp]; exact vx_Zq.moved hW0.alike (hN.kept hS.2.1)
  have h : ∀ w ∈ zOwn own ic cls ix rx names, w.before args s' = true := vx_own hat' (vx_isRefq hU'.1) (vx_isRefq hN'.1) hU'.2.word hN'.2.word
  have hown' : s'.vm.findClass own = some m.cls := by rw [hvm]; exact hown
  have hins : (Cond.instantiable cls 6).before args s' = true := h _ (by simp [zOwn])
  obtain ⟨vm₁, cX, kX, hfX, hkX, -, -, X₁, st1⟩ := Y.newCold hexec (own := own) (C := cls) (index := ik) (n := 6) hown' hk' hins hini'
    (g := F0 m pc ls rest) rfl (by rw [hb]; exact d0) (Nat.le_refl _) (Nat.le_refl _)
  generalize hT1 : (T.setVm vm₁).pushCell { cls := cX, slots := kX.instanceTypes.map defaultValue, vm := .none } = T1 at X₁ st1
  have hcat : (Value.ref T.heap.size).category = 1 := rfl
  have hcellA : T1.heap[T.heap.size]? = some (freshCell cX kX) := by rw [← hT1]; exact State.heap_pushCell_size _ _
  have d3' : decode c.code (pc + 3) = .ok (.dup, 1) := by rw [hb]; exact d3
  have d4' : decode c.code (pc + 4) = .ok (.ldc is, 2) := by rw [hb]; exact d4
  have hstr' : vk_R own is text sa s' := vk_R.warm hW0 hstr
  obtain ⟨V, ce, L, Z, hL, hlt, hcl9, hvm9, st⟩ := zx_ctorMade X₁ hexec htr x0 x1 x2 x5 (own := own) (cls := cls) (names := names) (ic := ic) hown' hcls hnames h (fun x hx => nomatch hx) hfX hkX hcellA (by rw [hhp]; exact Nat.le_refl _) (msg := .ref sa) rfl
    (g := { method := m, pc := pc + 6, locals := ls, stack := .ref sa :: .ref T.heap.size :: .ref T.heap.size :: rest, locked := none }) rfl hsize (rest := rest) rfl
    (by rw [hb]; exact d6) hRframes (by simp only [List.map_cons, List.sum_cons, hcat]; omega)
  have Z0 := Stand.forget (locs := []) Z (fun y hy => by rw [hL y hy, hhp]; exact Nat.le_refl _)
  obtain ⟨f1, f2⟩ := vx_frame Z0.same
  rw [hhp] at f1 f2
  have hcid : s.vm.findClass cls = some ce.cls := by
    rw [hcl9]
    rw [hvm] at hfX
    exact hfX
  have hh : (V.setCell T.heap.size ce).heap[T.heap.size]? = some ce := heapAt_setCell_self (s := V) ce hlt
  subst hA'
  have X5 := vx_back9 X Y Z0
  have X6 : Stand p l e R s m args below meth c (V.setCell T.heap.size ce) locs (cells + 1) (slots + 6) := { X5 with same := X5.same.mono (by omega) (by omega) }
  obtain ⟨t, a1, b1⟩ := vx_athrow hexec hb d9 (kk T.heap.size (V.setCell T.heap.size ce).heap ce f1 (fun z hz => f2 z hz (fun w hw => nomatch hw)) hh hvm9 hcid) _ rfl X6
  refine ⟨t, st1 _ ?_, b1⟩
  show Steps p.tables e below (T1.setTop { method := m, pc := pc + 3, locals := ls, stack := .ref T.heap.size :: rest, locked := none }) _
  jvm_step X₁.here [X₁.here.top, hexec, d3', Value.category]
  exact X₁.ldcString hexec (own := own) (text := text) (index := is) (a := sa) hown' hstr'.1 hstr'.2
    (g := { method := m, pc := pc + 4, locals := ls, stack := .ref T.heap.size :: .ref T.heap.size :: rest, locked := none }) rfl d4' _ (st _ a1)
end ZX2
end
section
theorem zw_or {L : List Cond} {ps : List Nat} (h : ps.map (fun i => tables_1[i]?) = L.map some) (g : L.all (fun w => goodWord w || decide (w ∈ zxw)) = true) : ∀ w ∈ L, w ∈ zWL ∨ w ∈ zxw := by
  intro w hw
  have h1 : some w ∈ ps.map (fun i => tables_1[i]?) := by rw [h]; exact List.mem_map.mpr ⟨w, hw, rfl⟩
  obtain ⟨i, -, hi⟩ := List.mem_map.mp h1
  have h2 := List.all_eq_true.mp g w hw
  rcases Bool.or_eq_true_iff.mp h2 with h3 | h3
  · exact Or.inl (zw_i i hi h3)
  · exact Or.inr (of_decide_eq_true h3)
set_option maxRecDepth 20000 in
theorem zat0_IllegalArgumentException : [7, 365, 374, 382, 385, 387, 366, 367, 26, 27, 368, 373, 383, 403, 355, 404, 357, 405, 359, 369, 371, 361, 399, 400, 402, 361, 390, 391, 392, 393, 347, 393, 394, 395, 396, 349, 396, 397, 398, 399, 351, 389, 344, 345, 352, 353, 354, 356, 358, 360, 364, 363, 362].map (fun i => tables_1[i]?) = (zAt RX4 54 "java/lang/IllegalArgumentException" 7 Bundle.six ["java/lang/RuntimeException", "java/lang/Exception"]).map some := by decide +kernel
set_option maxRecDepth 20000 in
theorem zat1_IllegalArgumentException : (zAt RX4 54 "java/lang/IllegalArgumentException" 7 Bundle.six ["java/lang/RuntimeException", "java/lang/Exception"]).all (fun w => goodWord w || decide (w ∈ zxw)) = true := by decide +kernel
theorem zat_IllegalArgumentException : ∀ w ∈ (zAt RX4 54 "java/lang/IllegalArgumentException" 7 Bundle.six ["java/lang/RuntimeException", "java/lang/Exception"]), w ∈ zWL ∨ w ∈ zxw := zw_or zat0_IllegalArgumentException zat1_IllegalArgumentException
set_option maxRecDepth 20000 in
theorem zat0_IllegalStateException : [7, 365, 374, 382, 385, 387, 366, 367, 26, 27, 368, 373, 383, 403, 355, 404, 357, 405, 359, 369, 371, 361, 399, 400, 402, 361, 430, 431, 432, 393, 347, 393, 394, 395, 396, 349, 396, 397, 398, 399, 351, 429, 420, 421, 422, 378, 423, 424, 425, 426, 364, 363, 427].map (fun i => tables_1[i]?) = (zAt RX4 64 "java/lang/IllegalStateException" 7 Bundle.six ["java/lang/RuntimeException", "java/lang/Exception"]).map some := by decide +kernel
set_option maxRecDepth 20000 in
theorem zat1_IllegalStateException : (zAt RX4 64 "java/lang/IllegalStateException" 7 Bundle.six ["java/lang/RuntimeException", "java/lang/Exception"]).all (fun w => goodWord w || decide (w ∈ zxw)) = true := by decide +kernel
theorem zat_IllegalStateException : ∀ w ∈ (zAt RX4 64 "java/lang/IllegalStateException" 7 Bundle.six ["java/lang/RuntimeException", "java/lang/Exception"]), w ∈ zWL ∨ w ∈ zxw := zw_or zat0_IllegalStateException zat1_IllegalStateException
set_option maxRecDepth 20000 in
theorem zat0_NoSuchElementException : [7, 365, 374, 382, 385, 387, 366, 367, 26, 27, 368, 373, 383, 403, 355, 404, 357, 405, 359, 369, 371, 361, 399, 400, 402, 361, 459, 460, 461, 393, 347, 393, 394, 395, 396, 349, 396, 397, 398, 399, 351, 458, 449, 450, 451, 381, 452, 453, 454, 455, 364, 363, 456].map (fun i => tables_1[i]?) = (zAt RX4 133 "java/util/NoSuchElementException" 13 prog_21_method_4_code ["java/lang/RuntimeException", "java/lang/Exception"]).map some := by decide +kernel
set_option maxRecDepth 20000 in
theorem zat1_NoSuchElementException : (zAt RX4 133 "java/util/NoSuchElementException" 13 prog_21_method_4_code ["java/lang/RuntimeException", "java/lang/Exception"]).all (fun w => goodWord w || decide (w ∈ zxw)) = true := by decide +kernel
theorem zat_NoSuchElementException : ∀ w ∈ (zAt RX4 133 "java/util/NoSuchElementException" 13 prog_21_method_4_code ["java/lang/RuntimeException", "java/lang/Exception"]), w ∈ zWL ∨ w ∈ zxw := zw_or zat0_NoSuchElementException zat1_NoSuchElementException
set_option maxRecDepth 20000 in
theorem zat0_UnsupportedOperationException : [7, 365, 374, 382, 385, 387, 366, 367, 26, 27, 368, 373, 383, 403, 355, 404, 357, 405, 359, 369, 371, 361, 399, 400, 402, 361, 499, 500, 501, 393, 347, 393, 394, 395, 396, 349, 396, 397, 398, 399, 351, 498, 489, 490, 491, 380, 492, 493, 494, 495, 364, 363, 496].map (fun i => tables_1[i]?) = (zAt RX4 90 "java/lang/UnsupportedOperationException" 7 Bundle.six ["java/lang/RuntimeException", "java/lang/Exception"]).map some := by decide +kernel
set_option maxRecDepth 20000 in
theorem zat1_UnsupportedOperationException : (zAt RX4 90 "java/lang/UnsupportedOperationException" 7 Bundle.six ["java/lang/RuntimeException", "java/lang/Exception"]).all (fun w => goodWord w || decide (w ∈ zxw)) = true := by decide +kernel
theorem zat_UnsupportedOperationException : ∀ w ∈ (zAt RX4 90 "java/lang/UnsupportedOperationException" 7 Bundle.six ["java/lang/RuntimeException", "java/lang/Exception"]), w ∈ zWL ∨ w ∈ zxw := zw_or zat0_UnsupportedOperationException zat1_UnsupportedOperationException
set_option maxRecDepth 20000 in
theorem zat0_IndexOutOfBoundsException : [7, 365, 374, 382, 385, 387, 366, 367, 26, 27, 368, 373, 383, 403, 355, 404, 357, 405, 359, 369, 371, 361, 399, 400, 402, 361, 517, 518, 519, 393, 347, 393, 394, 395, 396, 349, 396, 397, 398, 399, 351, 554, 545, 546, 547, 379, 548, 549, 550, 551, 364, 363, 552].map (fun i => tables_1[i]?) = (zAt RX4 210 "java/lang/IndexOutOfBoundsException" 7 Bundle.six ["java/lang/RuntimeException", "java/lang/Exception"]).map some := by decide +kernel
set_option maxRecDepth 20000 in
theorem zat1_IndexOutOfBoundsException : (zAt RX4 210 "java/lang/IndexOutOfBoundsException" 7 Bundle.six ["java/lang/RuntimeException", "java/lang/Exception"]).all (fun w => goodWord w || decide (w ∈ zxw)) = true := by decide +kernel
theorem zat_IndexOutOfBoundsException : ∀ w ∈ (zAt RX4 210 "java/lang/IndexOutOfBoundsException" 7 Bundle.six ["java/lang/RuntimeException", "java/lang/Exception"]), w ∈ zWL ∨ w ∈ zxw := zw_or zat0_IndexOutOfBoundsException zat1_IndexOutOfBoundsException
set_option maxRecDepth 20000 in
theorem zat0_ArithmeticException : [7, 365, 374, 382, 385, 387, 366, 367, 26, 27, 368, 373, 383, 403, 355, 404, 357, 405, 359, 369, 371, 361, 399, 400, 402, 361, 718, 719, 720, 393, 347, 393, 394, 395, 396, 349, 396, 397, 398, 399, 351, 736, 717, 728, 729, 376, 723, 724, 726, 722, 364, 363, 721].map (fun i => tables_1[i]?) = (zAt RX4 243 "java/lang/ArithmeticException" 7 Bundle.six ["java/lang/RuntimeException", "java/lang/Exception"]).map some := by decide +kernel
set_option maxRecDepth 20000 in
theorem zat1_ArithmeticException : (zAt RX4 243 "java/lang/ArithmeticException" 7 Bundle.six ["java/lang/RuntimeException", "java/lang/Exception"]).all (fun w => goodWord w || decide (w ∈ zxw)) = true := by decide +kernel
theorem zat_ArithmeticException : ∀ w ∈ (zAt RX4 243 "java/lang/ArithmeticException" 7 Bundle.six ["java/lang/RuntimeException", "java/lang/Exception"]), w ∈ zWL ∨ w ∈ zxw := zw_or zat0_ArithmeticException zat1_ArithmeticException
theorem zx13_0 : decode prog_21_method_4_code 0 = .ok (.aload_n 0, 1) := by decide +kernel
theorem zx13_1 : decode prog_21_method_4_code 1 = .ok (.aload_n 1, 1) := by decide +kernel
theorem zx13_2 : decode prog_21_method_4_code 2 = .ok (.invokespecial 13, 3) := by decide +kernel
theorem zx13_5 : decode prog_21_method_4_code 5 = .ok (.return_, 1) := by decide +kernel
end
section
/-! THE JUDGEMENT V, third part: contracts, ends, calls, throws. -/
def zPc (D : va_G) (cA : Nat → ClassId) (ad : Nat → Int → Nat) (sz : Nat) (x y : zSt) : State → Prop := fun U => U.heap.size = sz ∧ zW D cA ad x y U.heap ∧ zK D cA U ∧ zST (zA ad sz) U U.heap
def zQ (D : va_G) (cA : Nat → ClassId) (ad : Nat → Int → Nat) (post : Option Value → zSt → zSt → Prop) (A : Nat → Prop) : Array Value → State → Outcome → State → Prop := fun _ st oc t => (∃ (v : Option Value) (x y : zSt), oc = .returned v ∧ post v x y ∧ zW D cA ad x y t.heap) ∧ va_F A st t
def zXc (D : va_G) (cA : Nat → ClassId) (ad : Nat → Int → Nat) (px : String → zSt → zSt → Prop) (A : Nat → Prop) : String → State → State → Prop := fun E st t => (∃ (x y : zSt), px E x y ∧ zW D cA ad x y t.heap) ∧ va_F A st t
/-- room of a method at most d calls deep -/
def zrm (d mc ms : Nat) : Room := { frames := d, cells := mc, slots := ms, locals := 40 * d }
abbrev zws (y : MethodName) (bytes : ByteArray) (maxL : Nat) (ret : Option FieldType) : List Cond := Cond.code y bytes maxL ret :: zWL
/-- the contract of a method: called with av in the world (x, y) it ends as post says, or throws as px says -/
def zC (y : MethodName) (bytes : ByteArray) (maxL : Nat) (ret : Option FieldType) (d mc ms : Nat) (av : List Value) (ad : Nat → Int → Nat) (x y' : zSt) (post : Option Value → zSt → zSt → Prop) (px : String → zSt → zSt → Prop) : Prop :=
  ∀ (l : Launch) (D : va_G) (cA : Nat → ClassId), l.stackTraces = false → ∀ sz : Nat, vx_Met l y (zws y bytes maxL ret) (zrm d mc ms) (va_Pc av (zPc D cA ad sz x y')) (zQ D cA ad post (zA ad sz)) (zXc D cA ad px (zA ad sz)) mc ms (zA ad sz)
/-- never -/
def zF : String → zSt → zSt → Prop := fun _ _ _ => False
theorem zC.weak {y : MethodName} {bytes : ByteArray} {maxL : Nat} {ret : Option FieldType} {d mc ms : Nat} {av : List Value} {ad : Nat → Int → Nat} {x y' : zSt} {post post' : Option Value → zSt → zSt → Prop} {px px' : String → zSt → zSt → Prop} (h : zC y bytes maxL ret d mc ms av ad x y' post px) (h1 : ∀ v a b, post v a b → post' v a b) (h2 : ∀ E a b, px E a b → px' E a b) : zC y bytes maxL ret d mc ms av ad x y' post' px' := by
  intro l D cA hl sz
  have h0 := h l D cA hl sz
  unfold vx_Met MetFree at h0 ⊢
  intro p e ha hc hk s m args below hf happ hP hK
  obtain ⟨t, o, a1, a2, a3, a4⟩ := h0 p e ha hc hk s m args below hf happ hP hK
  refine ⟨t, o, a1, a2, a3, ?_⟩
  rcases a4 with ⟨⟨⟨v, x1, y1, e1, e2, e3⟩, e4⟩, e5⟩ | ⟨q, e0, E, ce, L, ⟨⟨x1, y1, e2, e3⟩, e4⟩, e5⟩
  · exact Or.inl ⟨⟨⟨v, x1, y1, e1, h1 _ _ _ e2, e3⟩, e4⟩, e5⟩
  · exact Or.inr ⟨q, e0, E, ce, L, ⟨⟨x1, y1, h2 _ _ _ e2, e3⟩, e4⟩, e5⟩
theorem zW.kept {D : va_G} {cA : Nat → ClassId} {ad : Nat → Int → Nat} {x y : zSt} {H H1 : Heap} (hW : zW D cA ad x y H) (h : ∀ q : Nat, q < H.size → H1[q]? = H[q]?) : zW D cA ad x y H1 :=
  ⟨hW.1, fun k i hz => (hW.2.1 k i hz).kept (h _ (hW.2.1 k i hz).lt), hW.2.2⟩
theorem zK.moved {D : va_G} {cA : Nat → ClassId} {u U : State} (hvm : u.vm.Alike U.vm) (h : zK D cA u) : zK D cA U := ⟨va_K.moved hvm h.1, fun k hk => ⟨arrOfT_moved hvm (h.2 k hk).1, (h.2 k hk).2.moved hvm⟩⟩
theorem zxw_warm {s U : State} {w : Cond} (hw : w ∈ zxw) (hW : s.WarmedH U.vm) (h : va_Nw w s) : va_Nw w U := by
  unfold zxw at hw
  rcases List.mem_append.mp hw with hw | hw
  · obtain ⟨E, -, rfl⟩ := List.mem_map.mp hw
    exact va_Nw.warmC hW h
  · obtain ⟨E, -, rfl⟩ := List.mem_map.mp hw
    exact va_Nw.warmD hW h
theorem zST.go {A B : Nat → Prop} {s U : State} {H : Heap} {locs : List Loc} (h : zST A s s.heap) (hS : va_S A s.heap H locs) (hAB : ∀ q, B q → A q) (hW : s.WarmedH U.vm) : zST B U H :=
  ⟨((h.1.kept hS.2.1).narrow hAB).moved hW.alike, ((h.2.1.kept hS.2.1).narrow hAB).moved hW.alike, fun q hq => (h.2.2.1 q hq).imp fun a ha => vk_R.warm hW ha, fun w hw => zxw_warm hw hW (h.2.2.2 w hw)⟩
theorem zPc_blind {av : List Value} {D : va_G} {cA : Nat → ClassId} {ad : Nat → Int → Nat} {sz : Nat} {x y : zSt} : FrameBlind (va_Pc av (zPc D cA ad sz x y)) := by
  intro a U g mk h
  obtain ⟨h0, h1, h2, h3, h4⟩ := h
  refine ⟨h0, h1, h2, zK.moved (u := U) (U := U.calling g mk a) (Vm.Alike.refl U.vm) h3, ?_⟩
  exact zST.go (s := U) (U := U.calling g mk a) (locs := []) h4 va_S.rf (fun _ h => h) (State.WarmedH.refl U)
theorem zGood {c : Cond} (h : c ∈ zWL) : GoodIn zWL (c :: zWL) := fun w hw => by
  have h1 : w ∈ zWL := (List.mem_cons.mp hw).elim (fun e => e ▸ h) id
  exact ⟨h1, good_of_word (zw_good h1)⟩
/-- room and statics of a method -/
def zN (Γ : zG) (d MC MS : Nat) : Prop := match Γ with
  | (_, l, _, R, s, _, _, _, _, _, _, _, A, _) => (d ≤ R.frames ∧ 40 * d ≤ R.locals ∧ MC ≤ R.cells ∧ MS ≤ R.slots) ∧ zST A s s.heap ∧ l.stackTraces = false
/-- what a method of this kind owes at its end -/
def zM (Γ : zG) (ad : Nat → Int → Nat) (MC MS : Nat) (ret : Option FieldType) (post : Option Value → zSt → zSt → Prop) (px : String → zSt → zSt → Prop) : Prop := match Γ with
  | (_, _, _, _, s, _, args, below, meth, _, D, cA, A, Q) => Q = vx_MQ below (zQ D cA ad post A) (zXc D cA ad px A) args s MC MS A ∧ meth.sig.returnType = ret
def zNT (Γ : zG) : Prop := match Γ with
  | (_, _, _, _, _, _, _, _, _, c, _, _, _, _) => ∀ x ∈ c.exceptionTable.toList, False
section ZV3
variable {Γ : zG} {ad : Nat → Int → Nat} {cs ss MC MS : Nat} {x y : zSt} {pc : Nat} {L : List (Option Value)} {st : List Value} {own : String} {cc : ByteArray} {nL : Nat} {ret : Option FieldType} {post : Option Value → zSt → zSt → Prop} {px : String → zSt → zSt → Prop}
theorem zV_iret (hX : zX Γ ad own cc nL) {ty : FieldType} (hM : zM Γ ad MC MS (some ty) post px) (h1 : cs ≤ MC) (h2 : ss ≤ MS) {z : Int} (hn : narrow ty (zI z) = zI z) (d : decode cc pc = .ok (.ireturn, 1)) (hp : post (some (zI z)) x y) : zV Γ ad cs ss x y pc L [zI z] := by
  obtain ⟨p, l, e, R, s, m, args, below, meth, c, D, cA, A, Q⟩ := Γ
  intro H locs ls hW hS hL
  obtain ⟨rfl, hr⟩ := hM
  exact W.widen h1 h2 (vx_ret (W.zret hX.1.1 hX.1.2.1 hr hn (fun t ht _ => ⟨⟨_, x, y, rfl, hp, by rw [ht]; exact hW⟩, hS.F ht⟩) (fun q hq => hS.2.2 q hq) d hX.2.1))
theorem zV_vret (hX : zX Γ ad own cc nL) (hM : zM Γ ad MC MS none post px) (h1 : cs ≤ MC) (h2 : ss ≤ MS) (d : decode cc pc = .ok (.return_, 1)) (hp : post none x y) : zV Γ ad cs ss x y pc L [] := by
  obtain ⟨p, l, e, R, s, m, args, below, meth, c, D, cA, A, Q⟩ := Γ
  intro H locs ls hW hS hL
  obtain ⟨rfl, hr⟩ := hM
  exact W.widen h1 h2 (vx_ret (W.vret hX.1.1 hX.1.2.1 hr (fun t ht _ => ⟨⟨_, x, y, rfl, hp, by rw [ht]; exact hW⟩, hS.F ht⟩) (fun q hq => hS.2.2 q hq) d hX.2.1))
theorem zV_aret (hX : zX Γ ad own cc nL) {n : String} (hM : zM Γ ad MC MS (some (.object n)) post px) (h1 : cs ≤ MC) (h2 : ss ≤ MS) {q : Nat} (d : decode cc pc = .ok (.areturn, 1)) (hp : post (some (.ref q)) x y) : zV Γ ad cs ss x y pc L [.ref q] := by
  obtain ⟨p, l, e, R, s, m, args, below, meth, c, D, cA, A, Q⟩ := Γ
  intro H locs ls hW hS hL
  obtain ⟨rfl, hr⟩ := hM
  exact W.widen h1 h2 (vx_ret (W.aret hX.1.1 hX.1.2.1 hr (Or.inl ⟨_, rfl⟩) (Or.inr ⟨_, rfl⟩) (fun t ht _ => ⟨⟨_, x, y, rfl, hp, by rw [ht]; exact hW⟩, hS.F ht⟩) (fun q hq => hS.2.2 q hq) d hX.2.1))
theorem zV_lret (hX : zX Γ ad own cc nL) (hM : zM Γ ad MC MS (some .long) post px) (h1 : cs ≤ MC) (h2 : ss ≤ MS) {v : Int64} (d : decode cc pc = .ok (.lreturn, 1)) (hp : post (some (.long v)) x y) : zV Γ ad cs ss x y pc L [.long v] := by
  obtain ⟨p, l, e, R, s, m, args, below, meth, c, D, cA, A, Q⟩ := Γ
  intro H locs ls hW hS hL
  obtain ⟨rfl, hr⟩ := hM
  exact W.widen h1 h2 (vx_ret (W.lret hX.1.1 hX.1.2.1 hr (fun t ht _ => ⟨⟨_, x, y, rfl, hp, by rw [ht]; exact hW⟩, hS.F ht⟩) (fun q hq => hS.2.2 q hq) d hX.2.1))
theorem zV_fret (hX : zX Γ ad own cc nL) (hM : zM Γ ad MC MS (some .float) post px) (h1 : cs ≤ MC) (h2 : ss ≤ MS) {v : UInt32} (d : decode cc pc = .ok (.freturn, 1)) (hp : post (some (.float v)) x y) : zV Γ ad cs ss x y pc L [.float v] := by
  obtain ⟨p, l, e, R, s, m, args, below, meth, c, D, cA, A, Q⟩ := Γ
  intro H locs ls hW hS hL
  obtain ⟨rfl, hr⟩ := hM
  exact W.widen h1 h2 (vx_ret (W.fret hX.1.1 hX.1.2.1 hr (fun t ht _ => ⟨⟨_, x, y, rfl, hp, by rw [ht]; exact hW⟩, hS.F ht⟩) (fun q hq => hS.2.2 q hq) d hX.2.1))
theorem zV_dret (hX : zX Γ ad own cc nL) (hM : zM Γ ad MC MS (some .double) post px) (h1 : cs ≤ MC) (h2 : ss ≤ MS) {v : UInt64} (d : decode cc pc = .ok (.dreturn, 1)) (hp : post (some (.double v)) x y) : zV Γ ad cs ss x y pc L [.double v] := by
  obtain ⟨p, l, e, R, s, m, args, below, meth, c, D, cA, A, Q⟩ := Γ
  intro H locs ls hW hS hL
  obtain ⟨rfl, hr⟩ := hM
  exact W.widen h1 h2 (vx_ret (W.dret hX.1.1 hX.1.2.1 hr (fun t ht _ => ⟨⟨_, x, y, rfl, hp, by rw [ht]; exact hW⟩, hS.F ht⟩) (fun q hq => hS.2.2 q hq) d hX.2.1))
/-- q is thrown over the frame at pc -/
def zVX (Γ : zG) (ad : Nat → Int → Nat) (cs ss : Nat) (x y : zSt) (pc : Nat) (L : List (Option Value)) (E : String) : Prop := match Γ with
  | (p, l, e, R, s, m, args, below, meth, c, D, cA, A, Q) => ∀ (H : Heap) (locs : List Loc) (ls : Array Slot) (q : Nat) (ce : Cell) (st : List Value), zW D cA ad x y H → va_S A s.heap H locs → zL ls L → H[q]? = some ce → ce.vm = .none → s.vm.findClass E = some ce.cls → vx_W p l e R s m args below meth c H locs cs ss Q (F0 m pc ls st) q
theorem zVX_out (hX : zX Γ ad own cc nL) (hT : zNT Γ) (hM : zM Γ ad MC MS ret post px) (h1 : cs ≤ MC) (h2 : ss ≤ MS) {E : String} (hp : px E x y) : zVX Γ ad cs ss x y pc L E := by
  obtain ⟨p, l, e, R, s, m, args, below, meth, c, D, cA, A, Q⟩ := Γ
  intro H locs ls q ce st hW hS hL hq hv hE
  obtain ⟨rfl, hr⟩ := hM
  exact vx_out (fun z hz => absurd hz (fun h => hT z h)) hX.2.1 hq hv hE (fun t ht _ => ⟨⟨x, y, hp, by rw [ht]; exact hW⟩, hS.F ht⟩) (fun z hz => hS.2.2 z hz) h1 h2
/-- behind a call -/
theorem zcall_run {p : Program} {l : Launch} {e : Env} {R : Room} {s : State} {m : MethodId} {args a : Array Value} {below : List Frame} {meth : Method} {c : Code} {D : va_G} {cA : Nat → ClassId} {A A1 : Nat → Prop} {Q : State → Prop} {H : Heap} {locs : List Loc} {ls : Array Slot} {st0 rest : List Value} {mc ms : Nat}
    (hr : vx_Run p l e R s m args below meth c H locs cs ss mc ms (F0 m pc ls st0) rest (zQ D cA ad post A1 a) (zXc D cA ad px A1) A1) (hS : va_S A s.heap H locs) (hA : ∀ q, A1 q → A q)
    (kk : ∀ (v : Option Value) (x y : zSt) (H1 : Heap) (locs1 : List Loc), post v x y → zW D cA ad x y H1 → va_S A s.heap H1 locs1 → W p l e R s m args below meth c H1 locs1 (cs + mc) (ss + ms) Q (F0 m (pc + 3) ls (v.toList ++ rest)))
    (kx : ∀ (E : String) (ce : Cell) (q : Nat) (x y : zSt) (H1 : Heap) (locs1 : List Loc), px E x y → zW D cA ad x y H1 → va_S A s.heap H1 locs1 → H1[q]? = some ce → ce.vm = .none → s.vm.findClass E = some ce.cls → vx_W p l e R s m args below meth c H1 locs1 (cs + mc) (ss + ms) Q (F0 m pc ls rest) q) :
    W p l e R s m args below meth c H locs cs ss Q (F0 m pc ls st0) := by
  intro T hT X
  rcases hr T hT X with ⟨v, st₀, t, T', Lc, h0, X', hL, e1, e2, ⟨⟨v', x1, y1, hv, hp, hw⟩, hF⟩, st⟩ | ⟨q, st₀, t, T', Lc, E, ce, h0, X', hL, e1, e2, ⟨⟨x1, y1, hp, hw⟩, hF⟩, hce, hcv, hcl, st⟩
  · cases hv
    obtain ⟨-, -, k3⟩ := vx_keep h0 e1 hS (fun q _ h => hA q h) hA hL hF
    obtain ⟨t2, a1, b1⟩ := kk v x1 y1 T'.heap (locs ++ Lc) hp (by rw [e1]; exact hw) k3 T' rfl X'
    exact ⟨t2, st t2 a1, b1⟩
  · obtain ⟨-, -, k3⟩ := vx_keep h0 e1 hS (fun q _ h => hA q h) hA hL hF
    obtain ⟨t2, a1, b1⟩ := kx E ce q x1 y1 T'.heap (locs ++ Lc) hp (by rw [e1]; exact hw) k3 (by rw [e1]; exact hce) hcv hcl T' rfl X'
    exact ⟨t2, st.trans a1, b1⟩
theorem zA_in {s : State} {H : Heap} {locs : List Loc} {A : Nat → Prop} (hS : va_S A s.heap H locs) (h1 : ∀ q, s.heap.size ≤ q → A q) (h2 : ∀ (k : Nat) (i : Int), zin k i → A (ad k i)) : ∀ q, zA ad H.size q → A q := by
  intro q h
  rcases h with ⟨k, i, hz, rfl⟩ | h
  · exact h2 k i hz
  · exact h1 q (Nat.le_trans hS.1 h)
/-- a static method of a class own -/
theorem zV_callS (hX : zX Γ ad own cc nL) (hlen : L.length = nL) {d mc ms d' index maxL n : Nat} (hN : zN Γ d MC MS) {y' : MethodName} {bytes : ByteArray} {ret' : Option FieldType} {As : List Value} {post' : Option Value → zSt → zSt → Prop} {px' : String → zSt → zSt → Prop}
    (hC : zC y' bytes maxL ret' d' mc ms As ad x y post' px') (hcode : Cond.code y' bytes maxL ret' ∈ zWL) (hlink : Cond.methodLink own index y' ∈ zWL) (hini : Cond.initialized y'.cls ∈ zWL) (hst : Cond.static y' ∈ zWL)
    (hd : y'.cls ≠ "java/lang/invoke/MethodHandle" ∧ y'.cls ≠ "java/lang/invoke/VarHandle" ∧ (parseMethodDescriptor y'.desc).map (fun d => d.parameters.length) = some n) (hn : As.length = n) (hdd : d' + 1 ≤ d) (hmL : maxL ≤ 20) (hmc : cs + mc ≤ MC) (hms : ss + ms ≤ MS) {rest : List Value} (hst0 : st = As.reverse ++ rest) (hc : (rest.map fun v => v.category).sum ≤ 8) (hg : decode cc pc = .ok (.invokestatic index, 3))
    (kk : ∀ (v : Option Value) (x' y' : zSt), post' v x' y' → zV Γ ad (cs + mc) (ss + ms) x' y' (pc + 3) L (v.toList ++ rest))
    (kx : ∀ (E : String) (x' y' : zSt), px' E x' y' → zVX Γ ad (cs + mc) (ss + ms) x' y' pc L E) : zV Γ ad cs ss x y pc L st := by
  obtain ⟨p, l, e, R, s, m, args, below, meth, c, D, cA, A, Q⟩ := Γ
  intro H locs ls hW hS hL
  obtain ⟨⟨r1, r2, r3, r4⟩, hT, hl⟩ := hN
  have hA := zA_in (ad := ad) hS hX.2.2.2.1 hX.2.2.2.2
  have hts := hX.1.2.2.2.2
  subst hst0
  refine zcall_run (vx_runS hX.1 (hC l D cA hl H.size) ⟨callB_of n hts (zGood hcode) rfl rfl rfl (hts _ hini) (hts _ hlink) hd ⟨by show d' + 1 ≤ _; omega, by show 8 + (maxL + 11) + 40 * d' ≤ _; omega⟩, hts _ hst⟩ ⟨zPc_blind, fun U hU hWm => ⟨rfl, by rw [hU], by rw [hU]; exact hW, hX.2.2.1.moved hWm.alike, by rw [hU]; exact hT.go hS hA hWm⟩⟩ rfl hn (hL.1.1.trans hlen) rfl (lv_room hc) hg ⟨by omega, by omega⟩) hS hA (fun v x' y' H1 locs1 hp hw hs => kk v x' y' hp H1 locs1 ls hw hs hL) (fun E ce q x' y' H1 locs1 hp hw hs h1 h2 h3 => kx E x' y' hp H1 locs1 ls q ce rest hw hs hL h1 h2 h3)
/-- a method of the object at (k, i) -/
theorem zV_callV (hX : zX Γ ad own cc nL) (hlen : L.length = nL) {d mc ms d' index maxL n : Nat} (hN : zN Γ d MC MS) {y' : MethodName} {bytes : ByteArray} {ret' : Option FieldType} {As : List Value} {C : String} {T : u_T} {N ci cn : Nat} (k : Nat) {i : Int} (hcl : zCl[ci]? = some (C, T, N)) (hsh : zsh k = (0, ci, N, cn)) (hi : 0 ≤ i ∧ i < cn) {post' : Option Value → zSt → zSt → Prop} {px' : String → zSt → zSt → Prop}
    (hC : zC y' bytes maxL ret' d' mc ms (.ref (ad k i) :: As) ad x y post' px') (hcode : Cond.code y' bytes maxL ret' ∈ zWL) (hlink : Cond.methodLink own index y' ∈ zWL) (hini : Cond.initialized y'.cls ∈ zWL) (hst : Cond.instanceMethod y' ∈ zWL) (hse : Cond.selects C y' y' ∈ zWL)
    (hd : y'.cls ≠ "java/lang/invoke/MethodHandle" ∧ y'.cls ≠ "java/lang/invoke/VarHandle" ∧ (parseMethodDescriptor y'.desc).map (fun d => d.parameters.length) = some n) (hn : As.length = n) (hdd : d' + 1 ≤ d) (hmL : maxL ≤ 20) (hmc : cs + mc ≤ MC) (hms : ss + ms ≤ MS) {rest : List Value} (hst0 : st = As.reverse ++ .ref (ad k i) :: rest) (hc : (rest.map fun v => v.category).sum ≤ 8) (hg : decode cc pc = .ok (.invokevirtual index, 3))
    (kk : ∀ (v : Option Value) (x' y' : zSt), post' v x' y' → zV Γ ad (cs + mc) (ss + ms) x' y' (pc + 3) L (v.toList ++ rest))
    (kx : ∀ (E : String) (x' y' : zSt), px' E x' y' → zVX Γ ad (cs + mc) (ss + ms) x' y' pc L E) : zV Γ ad cs ss x y pc L st := by
  obtain ⟨p, l, e, R, s, m, args, below, meth, c, D, cA, A, Q⟩ := Γ
  intro H locs ls hW hS hL
  obtain ⟨⟨r1, r2, r3, r4⟩, hT, hl⟩ := hN
  have hA := zA_in (ad := ad) hS hX.2.2.2.1 hX.2.2.2.2
  have hts := hX.1.2.2.2.2
  subst hst0
  have hz : zin k i := ⟨hi.1, by rw [hsh]; exact hi.2⟩
  have hat := hW.2.1 k i hz
  have he : zE cA ad (zm x y k i) k i = .inr (ci, (List.range N).map (fun j => zV1 ad (zm x y k i) i (zfl k j) j)) := by unfold zE; rw [hsh]; try rfl
  rw [he] at hat
  have hrv := va_recv hX.2.2.1.1 (zP1 hat) hcl (q0 := 0) rfl
  refine zcall_run (vx_runV (C := C) hX.1 (hC l D cA hl H.size) ⟨callB_of n hts (zGood hcode) rfl rfl rfl (hts _ hini) (hts _ hlink) hd ⟨by show d' + 1 ≤ _; omega, by show 8 + (maxL + 11) + 40 * d' ≤ _; omega⟩, hts _ hst, hts _ hse⟩ ⟨zPc_blind, hrv, fun U hU hWm => ⟨rfl, by rw [hU], by rw [hU]; exact hW, hX.2.2.1.moved hWm.alike, by rw [hU]; exact hT.go hS hA hWm⟩⟩ rfl hn (hL.1.1.trans hlen) rfl (lv_room hc) hg ⟨by omega, by omega⟩) hS hA (fun v x' y' H1 locs1 hp hw hs => kk v x' y' hp H1 locs1 ls hw hs hL) (fun E ce q x' y' H1 locs1 hp hw hs h1 h2 h3 => kx E x' y' hp H1 locs1 ls q ce rest hw hs hL h1 h2 h3)
theorem zxw_tab {w : Cond} (h : w ∈ zxw) : w.onTables = true := by
  unfold zxw at h
  rcases List.mem_append.mp h with h | h
  · obtain ⟨E, -, rfl⟩ := List.mem_map.mp h
    rfl
  · obtain ⟨E, -, rfl⟩ := List.mem_map.mp h
    rfl
/-- throw new E("text") -/
theorem zV_throw (hX : zX Γ ad RX4 cc nL) (hlen : L.length = nL) {d : Nat} (hN : zN Γ d MC MS) (hdd : 6 ≤ d) (hmc : cs + 1 ≤ MC) (hms : ss + 6 ≤ MS) {cls : String} {ik is ic ix : Nat} {rx : ByteArray} (x0 : decode rx 0 = .ok (.aload_n 0, 1)) (x1 : decode rx 1 = .ok (.aload_n 1, 1)) (x2 : decode rx 2 = .ok (.invokespecial ix, 3)) (x5 : decode rx 5 = .ok (.return_, 1))
    (hat : ∀ w ∈ zAt RX4 ic cls ix rx ["java/lang/RuntimeException", "java/lang/Exception"], w ∈ zWL ∨ w ∈ zxw) (hk : Cond.classLink RX4 ik cls ∈ zWL) (hini : Cond.initialized cls ∈ zWL) (text : String) (hstr : (is, text) ∈ zstrs) (hcls : Bundle.fit cls = true)
    (d0 : decode cc pc = .ok (.new ik, 3)) (d3 : decode cc (pc + 3) = .ok (.dup, 1)) (d4 : decode cc (pc + 4) = .ok (.ldc is, 2)) (d6 : decode cc (pc + 6) = .ok (.invokespecial ic, 3)) (d9 : decode cc (pc + 9) = .ok (.athrow, 1))
    (kk : zVX Γ ad (cs + 1) (ss + 6) x y (pc + 9) L cls) : zV Γ ad cs ss x y pc L [] := by
  obtain ⟨p, l, e, R, s, m, args, below, meth, c, D, cA, A, Q⟩ := Γ
  intro H locs ls hW hS hL
  obtain ⟨⟨r1, r2, r3, r4⟩, hT, hl⟩ := hN
  obtain ⟨sa, hsa⟩ := hT.2.2.1 _ hstr
  have hts := hX.1.2.2.2.2
  refine zx_throw (names := ["java/lang/RuntimeException", "java/lang/Exception"]) (A := A) hX.1.1 hX.1.2.1 hl x0 x1 x2 x5 hX.1.2.2.2.1 hcls (by decide) (hts _ hk) (hts _ hini) hsa (fun w hw => ?_) (fun w hw => ?_) hT.1 hT.2.1 hS (hL.1.1.trans (hlen.trans hX.1.2.2.1.symm)) d0 d3 d4 d6 (by show 2 + 3 < _; omega) (by show 0 + (13 * (2 + 1) + 43) ≤ _; omega) (by omega) (by omega) d9 (fun q H1 ce g1 g2 g3 g4 g5 => kk H1 locs ls q ce [] (hW.kept g2) ⟨Nat.le_trans hS.1 g1, fun z h1 h2 => (g2 z (Nat.lt_of_lt_of_le h1 hS.1)).trans (hS.2.1 z h1 h2), hS.2.2⟩ hL g3 g4 g5)
  · rcases hat w hw with h | h
    · exact hts w h
    · exact va_tabs (zxw_tab h) rfl (hT.2.2.2 w h)
  · unfold vx_ot
    rcases List.mem_cons.mp hw with rfl | hw
    · rfl
    · rcases List.mem_cons.mp hw with rfl | hw
      · rfl
      · rcases hat w hw with h | h
        · rw [zw_good h, Bool.or_true]
        · rw [zxw_tab h, Bool.true_or]
end ZV3
end
