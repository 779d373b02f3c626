section
-- ===== PART A: goes FIRST, ahead of the names: the tables' words, and 'selects' of the private methods out of them =====
/-- a private method of a class that the tables say can be made, by its rows of tables_1 -/
def lw_okq (q : MethodName × Nat) : Prop := (q.1.cls ≠ "java/lang/invoke/MethodHandle" ∧ q.1.cls ≠ "java/lang/invoke/VarHandle") ∧ Cond.instantiable q.1.cls q.2 ∈ tables_1 ∧ Cond.privateMethod q.1 ∈ tables_1 ∧ Cond.instanceMethod q.1 ∈ tables_1
theorem lw_p0 : lw_okq (⟨"LineLearner$Aligner", "fillRow", "(LLineLearner$Format;II)V"⟩, 10) := ⟨⟨by decide +kernel, by decide +kernel⟩, List.mem_of_getElem? (i := 71) (by decide +kernel), List.mem_of_getElem? (i := 214) (by decide +kernel), List.mem_of_getElem? (i := 215) (by decide +kernel)⟩
theorem lw_p1 : lw_okq (⟨"LineLearner$Aligner", "skipCost", "(LLineLearner$Format;I)I"⟩, 10) := ⟨⟨by decide +kernel, by decide +kernel⟩, List.mem_of_getElem? (i := 71) (by decide +kernel), List.mem_of_getElem? (i := 218) (by decide +kernel), List.mem_of_getElem? (i := 219) (by decide +kernel)⟩
theorem lw_p2 : lw_okq (⟨"LineLearner$Aligner", "pairCost", "(LLineLearner$Format;II)I"⟩, 10) := ⟨⟨by decide +kernel, by decide +kernel⟩, List.mem_of_getElem? (i := 71) (by decide +kernel), List.mem_of_getElem? (i := 232) (by decide +kernel), List.mem_of_getElem? (i := 233) (by decide +kernel)⟩
theorem lw_p3 : lw_okq (⟨"LineLearner", "textSize", "(I)I"⟩, 11) := ⟨⟨by decide +kernel, by decide +kernel⟩, List.mem_of_getElem? (i := 15) (by decide +kernel), List.mem_of_getElem? (i := 244) (by decide +kernel), List.mem_of_getElem? (i := 245) (by decide +kernel)⟩
theorem lw_p4 : lw_okq (⟨"LineLearner", "bitsOfVarying", "(I)I"⟩, 11) := ⟨⟨by decide +kernel, by decide +kernel⟩, List.mem_of_getElem? (i := 15) (by decide +kernel), List.mem_of_getElem? (i := 252) (by decide +kernel), List.mem_of_getElem? (i := 253) (by decide +kernel)⟩
theorem lw_p5 : lw_okq (⟨"LineLearner", "addLines", "(J)J"⟩, 11) := ⟨⟨by decide +kernel, by decide +kernel⟩, List.mem_of_getElem? (i := 15) (by decide +kernel), List.mem_of_getElem? (i := 273) (by decide +kernel), List.mem_of_getElem? (i := 274) (by decide +kernel)⟩
theorem lw_p6 : lw_okq (⟨"LineLearner", "addSlots", "(J)J"⟩, 11) := ⟨⟨by decide +kernel, by decide +kernel⟩, List.mem_of_getElem? (i := 15) (by decide +kernel), List.mem_of_getElem? (i := 280) (by decide +kernel), List.mem_of_getElem? (i := 281) (by decide +kernel)⟩
theorem lw_p7 : lw_okq (⟨"java/lang/Throwable", "fillInStackTrace", "(I)Ljava/lang/Throwable;"⟩, 6) := ⟨⟨by decide +kernel, by decide +kernel⟩, List.mem_of_getElem? (i := 337) (by decide +kernel), List.mem_of_getElem? (i := 335) (by decide +kernel), List.mem_of_getElem? (i := 336) (by decide +kernel)⟩
theorem lw_p8 : lw_okq (⟨"LineLearner$Lines", "cut", "(I)V"⟩, 8) := ⟨⟨by decide +kernel, by decide +kernel⟩, List.mem_of_getElem? (i := 23) (by decide +kernel), List.mem_of_getElem? (i := 395) (by decide +kernel), List.mem_of_getElem? (i := 396) (by decide +kernel)⟩
theorem lw_p9 : lw_okq (⟨"LineLearner$Lines", "numberTexts", "(I)V"⟩, 8) := ⟨⟨by decide +kernel, by decide +kernel⟩, List.mem_of_getElem? (i := 23) (by decide +kernel), List.mem_of_getElem? (i := 403) (by decide +kernel), List.mem_of_getElem? (i := 404) (by decide +kernel)⟩
theorem lw_p10 : lw_okq (⟨"LineLearner$Lines", "firstAlike", "(II)I"⟩, 8) := ⟨⟨by decide +kernel, by decide +kernel⟩, List.mem_of_getElem? (i := 23) (by decide +kernel), List.mem_of_getElem? (i := 407) (by decide +kernel), List.mem_of_getElem? (i := 408) (by decide +kernel)⟩
theorem lw_p11 : lw_okq (⟨"LineLearner$Lines", "isSameText", "(II)Z"⟩, 8) := ⟨⟨by decide +kernel, by decide +kernel⟩, List.mem_of_getElem? (i := 23) (by decide +kernel), List.mem_of_getElem? (i := 411) (by decide +kernel), List.mem_of_getElem? (i := 412) (by decide +kernel)⟩
theorem lw_p12 : lw_okq (⟨"LineLearner", "needLine", "(I)V"⟩, 11) := ⟨⟨by decide +kernel, by decide +kernel⟩, List.mem_of_getElem? (i := 15) (by decide +kernel), List.mem_of_getElem? (i := 423) (by decide +kernel), List.mem_of_getElem? (i := 424) (by decide +kernel)⟩
theorem lw_p13 : lw_okq (⟨"LineLearner", "needToken", "(II)V"⟩, 11) := ⟨⟨by decide +kernel, by decide +kernel⟩, List.mem_of_getElem? (i := 15) (by decide +kernel), List.mem_of_getElem? (i := 450) (by decide +kernel), List.mem_of_getElem? (i := 451) (by decide +kernel)⟩
theorem lw_p14 : lw_okq (⟨"LineLearner$Aligner", "lastStep", "(LLineLearner$Format;III)I"⟩, 10) := ⟨⟨by decide +kernel, by decide +kernel⟩, List.mem_of_getElem? (i := 71) (by decide +kernel), List.mem_of_getElem? (i := 498) (by decide +kernel), List.mem_of_getElem? (i := 499) (by decide +kernel)⟩
theorem lw_p15 : lw_okq (⟨"LineLearner$Aligner", "canTake", "(LLineLearner$Format;II)Z"⟩, 10) := ⟨⟨by decide +kernel, by decide +kernel⟩, List.mem_of_getElem? (i := 71) (by decide +kernel), List.mem_of_getElem? (i := 546) (by decide +kernel), List.mem_of_getElem? (i := 547) (by decide +kernel)⟩
def lw_privs_1 : List (MethodName × Nat) := [(⟨"LineLearner$Aligner", "fillRow", "(LLineLearner$Format;II)V"⟩, 10), (⟨"LineLearner$Aligner", "skipCost", "(LLineLearner$Format;I)I"⟩, 10), (⟨"LineLearner$Aligner", "pairCost", "(LLineLearner$Format;II)I"⟩, 10), (⟨"LineLearner", "textSize", "(I)I"⟩, 11), (⟨"LineLearner", "bitsOfVarying", "(I)I"⟩, 11), (⟨"LineLearner", "addLines", "(J)J"⟩, 11), (⟨"LineLearner", "addSlots", "(J)J"⟩, 11), (⟨"java/lang/Throwable", "fillInStackTrace", "(I)Ljava/lang/Throwable;"⟩, 6), (⟨"LineLearner$Lines", "cut", "(I)V"⟩, 8), (⟨"LineLearner$Lines", "numberTexts", "(I)V"⟩, 8), (⟨"LineLearner$Lines", "firstAlike", "(II)I"⟩, 8), (⟨"LineLearner$Lines", "isSameText", "(II)Z"⟩, 8), (⟨"LineLearner", "needLine", "(I)V"⟩, 11), (⟨"LineLearner", "needToken", "(II)V"⟩, 11), (⟨"LineLearner$Aligner", "lastStep", "(LLineLearner$Format;III)I"⟩, 10), (⟨"LineLearner$Aligner", "canTake", "(LLineLearner$Format;II)Z"⟩, 10)]
theorem lw_r1 : ∀ q ∈ lw_privs_1, lw_okq q := List.forall_mem_cons.mpr ⟨lw_p0, List.forall_mem_cons.mpr ⟨lw_p1, List.forall_mem_cons.mpr ⟨lw_p2, List.forall_mem_cons.mpr ⟨lw_p3, List.forall_mem_cons.mpr ⟨lw_p4, List.forall_mem_cons.mpr ⟨lw_p5, List.forall_mem_cons.mpr ⟨lw_p6, List.forall_mem_cons.mpr ⟨lw_p7, List.forall_mem_cons.mpr ⟨lw_p8, List.forall_mem_cons.mpr ⟨lw_p9, List.forall_mem_cons.mpr ⟨lw_p10, List.forall_mem_cons.mpr ⟨lw_p11, List.forall_mem_cons.mpr ⟨lw_p12, List.forall_mem_cons.mpr ⟨lw_p13, List.forall_mem_cons.mpr ⟨lw_p14, List.forall_mem_cons.mpr ⟨lw_p15, fun _ h => absurd h List.not_mem_nil⟩⟩⟩⟩⟩⟩⟩⟩⟩⟩⟩⟩⟩⟩⟩⟩
theorem lw_p16 : lw_okq (⟨"LineLearner", "neededSlot", "(I)I"⟩, 11) := ⟨⟨by decide +kernel, by decide +kernel⟩, List.mem_of_getElem? (i := 15) (by decide +kernel), List.mem_of_getElem? (i := 557) (by decide +kernel), List.mem_of_getElem? (i := 558) (by decide +kernel)⟩
theorem lw_p17 : lw_okq (⟨"LineLearner", "tokenIn", "(II)I"⟩, 11) := ⟨⟨by decide +kernel, by decide +kernel⟩, List.mem_of_getElem? (i := 15) (by decide +kernel), List.mem_of_getElem? (i := 598) (by decide +kernel), List.mem_of_getElem? (i := 599) (by decide +kernel)⟩
theorem lw_p18 : lw_okq (⟨"LineLearner", "numberIn", "(II)I"⟩, 11) := ⟨⟨by decide +kernel, by decide +kernel⟩, List.mem_of_getElem? (i := 15) (by decide +kernel), List.mem_of_getElem? (i := 609) (by decide +kernel), List.mem_of_getElem? (i := 610) (by decide +kernel)⟩
theorem lw_p19 : lw_okq (⟨"LineLearner", "textIn", "(II)I"⟩, 11) := ⟨⟨by decide +kernel, by decide +kernel⟩, List.mem_of_getElem? (i := 15) (by decide +kernel), List.mem_of_getElem? (i := 625) (by decide +kernel), List.mem_of_getElem? (i := 626) (by decide +kernel)⟩
theorem lw_p20 : lw_okq (⟨"LineLearner", "isTextBefore", "(III)Z"⟩, 11) := ⟨⟨by decide +kernel, by decide +kernel⟩, List.mem_of_getElem? (i := 15) (by decide +kernel), List.mem_of_getElem? (i := 629) (by decide +kernel), List.mem_of_getElem? (i := 630) (by decide +kernel)⟩
theorem lw_p21 : lw_okq (⟨"LineLearner", "nearestGroup", "(II)I"⟩, 11) := ⟨⟨by decide +kernel, by decide +kernel⟩, List.mem_of_getElem? (i := 15) (by decide +kernel), List.mem_of_getElem? (i := 648) (by decide +kernel), List.mem_of_getElem? (i := 649) (by decide +kernel)⟩
theorem lw_p22 : lw_okq (⟨"LineLearner", "needGrouping", "()V"⟩, 11) := ⟨⟨by decide +kernel, by decide +kernel⟩, List.mem_of_getElem? (i := 15) (by decide +kernel), List.mem_of_getElem? (i := 659) (by decide +kernel), List.mem_of_getElem? (i := 660) (by decide +kernel)⟩
theorem lw_p23 : lw_okq (⟨"LineLearnerModel", "fail", "(I)I"⟩, 27) := ⟨⟨by decide +kernel, by decide +kernel⟩, List.mem_of_getElem? (i := 672) (by decide +kernel), List.mem_of_getElem? (i := 773) (by decide +kernel), List.mem_of_getElem? (i := 774) (by decide +kernel)⟩
theorem lw_p24 : lw_okq (⟨"LineLearnerModel", "isLine", "(I)Z"⟩, 27) := ⟨⟨by decide +kernel, by decide +kernel⟩, List.mem_of_getElem? (i := 672) (by decide +kernel), List.mem_of_getElem? (i := 788) (by decide +kernel), List.mem_of_getElem? (i := 789) (by decide +kernel)⟩
theorem lw_p25 : lw_okq (⟨"LineLearnerModel", "isToken", "(II)Z"⟩, 27) := ⟨⟨by decide +kernel, by decide +kernel⟩, List.mem_of_getElem? (i := 672) (by decide +kernel), List.mem_of_getElem? (i := 796) (by decide +kernel), List.mem_of_getElem? (i := 797) (by decide +kernel)⟩
theorem lw_p26 : lw_okq (⟨"LineLearnerModel", "areSame", "(II)Z"⟩, 27) := ⟨⟨by decide +kernel, by decide +kernel⟩, List.mem_of_getElem? (i := 672) (by decide +kernel), List.mem_of_getElem? (i := 808) (by decide +kernel), List.mem_of_getElem? (i := 809) (by decide +kernel)⟩
theorem lw_p27 : lw_okq (⟨"LineLearnerModel", "align", "(II)I"⟩, 27) := ⟨⟨by decide +kernel, by decide +kernel⟩, List.mem_of_getElem? (i := 672) (by decide +kernel), List.mem_of_getElem? (i := 822) (by decide +kernel), List.mem_of_getElem? (i := 823) (by decide +kernel)⟩
theorem lw_p28 : lw_okq (⟨"LineLearnerModel", "costOf", "(IIIII)I"⟩, 27) := ⟨⟨by decide +kernel, by decide +kernel⟩, List.mem_of_getElem? (i := 672) (by decide +kernel), List.mem_of_getElem? (i := 827) (by decide +kernel), List.mem_of_getElem? (i := 828) (by decide +kernel)⟩
theorem lw_p29 : lw_okq (⟨"LineLearnerModel", "isFree", "(II)Z"⟩, 27) := ⟨⟨by decide +kernel, by decide +kernel⟩, List.mem_of_getElem? (i := 672) (by decide +kernel), List.mem_of_getElem? (i := 837) (by decide +kernel), List.mem_of_getElem? (i := 838) (by decide +kernel)⟩
theorem lw_p30 : lw_okq (⟨"LineLearnerModel", "usesOf", "(II)I"⟩, 27) := ⟨⟨by decide +kernel, by decide +kernel⟩, List.mem_of_getElem? (i := 672) (by decide +kernel), List.mem_of_getElem? (i := 841) (by decide +kernel), List.mem_of_getElem? (i := 842) (by decide +kernel)⟩
theorem lw_p31 : lw_okq (⟨"LineLearnerModel", "tokenOf", "(III)I"⟩, 27) := ⟨⟨by decide +kernel, by decide +kernel⟩, List.mem_of_getElem? (i := 672) (by decide +kernel), List.mem_of_getElem? (i := 845) (by decide +kernel), List.mem_of_getElem? (i := 846) (by decide +kernel)⟩
def lw_privs_2 : List (MethodName × Nat) := [(⟨"LineLearner", "neededSlot", "(I)I"⟩, 11), (⟨"LineLearner", "tokenIn", "(II)I"⟩, 11), (⟨"LineLearner", "numberIn", "(II)I"⟩, 11), (⟨"LineLearner", "textIn", "(II)I"⟩, 11), (⟨"LineLearner", "isTextBefore", "(III)Z"⟩, 11), (⟨"LineLearner", "nearestGroup", "(II)I"⟩, 11), (⟨"LineLearner", "needGrouping", "()V"⟩, 11), (⟨"LineLearnerModel", "fail", "(I)I"⟩, 27), (⟨"LineLearnerModel", "isLine", "(I)Z"⟩, 27), (⟨"LineLearnerModel", "isToken", "(II)Z"⟩, 27), (⟨"LineLearnerModel", "areSame", "(II)Z"⟩, 27), (⟨"LineLearnerModel", "align", "(II)I"⟩, 27), (⟨"LineLearnerModel", "costOf", "(IIIII)I"⟩, 27), (⟨"LineLearnerModel", "isFree", "(II)Z"⟩, 27), (⟨"LineLearnerModel", "usesOf", "(II)I"⟩, 27), (⟨"LineLearnerModel", "tokenOf", "(III)I"⟩, 27)]
theorem lw_r2 : ∀ q ∈ lw_privs_2, lw_okq q := List.forall_mem_cons.mpr ⟨lw_p16, List.forall_mem_cons.mpr ⟨lw_p17, List.forall_mem_cons.mpr ⟨lw_p18, List.forall_mem_cons.mpr ⟨lw_p19, List.forall_mem_cons.mpr ⟨lw_p20, List.forall_mem_cons.mpr ⟨lw_p21, List.forall_mem_cons.mpr ⟨lw_p22, List.forall_mem_cons.mpr ⟨lw_p23, List.forall_mem_cons.mpr ⟨lw_p24, List.forall_mem_cons.mpr ⟨lw_p25, List.forall_mem_cons.mpr ⟨lw_p26, List.forall_mem_cons.mpr ⟨lw_p27, List.forall_mem_cons.mpr ⟨lw_p28, List.forall_mem_cons.mpr ⟨lw_p29, List.forall_mem_cons.mpr ⟨lw_p30, List.forall_mem_cons.mpr ⟨lw_p31, fun _ h => absurd h List.not_mem_nil⟩⟩⟩⟩⟩⟩⟩⟩⟩⟩⟩⟩⟩⟩⟩⟩
theorem lw_p32 : lw_okq (⟨"LineLearnerModel", "follow", "(II)V"⟩, 27) := ⟨⟨by decide +kernel, by decide +kernel⟩, List.mem_of_getElem? (i := 672) (by decide +kernel), List.mem_of_getElem? (i := 855) (by decide +kernel), List.mem_of_getElem? (i := 856) (by decide +kernel)⟩
theorem lw_p33 : lw_okq (⟨"LineLearnerModel", "freshSteps", "()I"⟩, 27) := ⟨⟨by decide +kernel, by decide +kernel⟩, List.mem_of_getElem? (i := 672) (by decide +kernel), List.mem_of_getElem? (i := 859) (by decide +kernel), List.mem_of_getElem? (i := 860) (by decide +kernel)⟩
theorem lw_p34 : lw_okq (⟨"LineLearnerModel", "mergeInto", "(II)V"⟩, 27) := ⟨⟨by decide +kernel, by decide +kernel⟩, List.mem_of_getElem? (i := 672) (by decide +kernel), List.mem_of_getElem? (i := 863) (by decide +kernel), List.mem_of_getElem? (i := 864) (by decide +kernel)⟩
theorem lw_p35 : lw_okq (⟨"LineLearnerModel", "canPair", "(II)Z"⟩, 27) := ⟨⟨by decide +kernel, by decide +kernel⟩, List.mem_of_getElem? (i := 672) (by decide +kernel), List.mem_of_getElem? (i := 883) (by decide +kernel), List.mem_of_getElem? (i := 884) (by decide +kernel)⟩
theorem lw_p36 : lw_okq (⟨"LineLearnerModel", "extreme", "(IZ)I"⟩, 27) := ⟨⟨by decide +kernel, by decide +kernel⟩, List.mem_of_getElem? (i := 672) (by decide +kernel), List.mem_of_getElem? (i := 887) (by decide +kernel), List.mem_of_getElem? (i := 888) (by decide +kernel)⟩
theorem lw_p37 : lw_okq (⟨"LineLearnerModel", "isSlot", "(I)Z"⟩, 27) := ⟨⟨by decide +kernel, by decide +kernel⟩, List.mem_of_getElem? (i := 672) (by decide +kernel), List.mem_of_getElem? (i := 903) (by decide +kernel), List.mem_of_getElem? (i := 904) (by decide +kernel)⟩
theorem lw_p38 : lw_okq (⟨"LineLearnerModel", "numberOf", "(II)I"⟩, 27) := ⟨⟨by decide +kernel, by decide +kernel⟩, List.mem_of_getElem? (i := 672) (by decide +kernel), List.mem_of_getElem? (i := 931) (by decide +kernel), List.mem_of_getElem? (i := 932) (by decide +kernel)⟩
theorem lw_p39 : lw_okq (⟨"LineLearnerModel", "allBits", "()I"⟩, 27) := ⟨⟨by decide +kernel, by decide +kernel⟩, List.mem_of_getElem? (i := 672) (by decide +kernel), List.mem_of_getElem? (i := 947) (by decide +kernel), List.mem_of_getElem? (i := 948) (by decide +kernel)⟩
def lw_privs_3 : List (MethodName × Nat) := [(⟨"LineLearnerModel", "follow", "(II)V"⟩, 27), (⟨"LineLearnerModel", "freshSteps", "()I"⟩, 27), (⟨"LineLearnerModel", "mergeInto", "(II)V"⟩, 27), (⟨"LineLearnerModel", "canPair", "(II)Z"⟩, 27), (⟨"LineLearnerModel", "extreme", "(IZ)I"⟩, 27), (⟨"LineLearnerModel", "isSlot", "(I)Z"⟩, 27), (⟨"LineLearnerModel", "numberOf", "(II)I"⟩, 27), (⟨"LineLearnerModel", "allBits", "()I"⟩, 27)]
theorem lw_r3 : ∀ q ∈ lw_privs_3, lw_okq q := List.forall_mem_cons.mpr ⟨lw_p32, List.forall_mem_cons.mpr ⟨lw_p33, List.forall_mem_cons.mpr ⟨lw_p34, List.forall_mem_cons.mpr ⟨lw_p35, List.forall_mem_cons.mpr ⟨lw_p36, List.forall_mem_cons.mpr ⟨lw_p37, List.forall_mem_cons.mpr ⟨lw_p38, List.forall_mem_cons.mpr ⟨lw_p39, fun _ h => absurd h List.not_mem_nil⟩⟩⟩⟩⟩⟩⟩⟩
def lw_privs : List (MethodName × Nat) := lw_privs_1 ++ (lw_privs_2 ++ (lw_privs_3))
def lw_tbl : List Cond := k2_sels lw_privs ++ tables_1
theorem lw_privs_ok : ∀ q ∈ lw_privs, lw_okq q := by
  show ∀ q ∈ lw_privs_1 ++ (lw_privs_2 ++ (lw_privs_3)), lw_okq q
  exact List.forall_mem_append.mpr ⟨lw_r1, List.forall_mem_append.mpr ⟨lw_r2, lw_r3⟩⟩
/-- the streams that the claim lets the run draw from -/
abbrev lw_cs : List Choice := [Jvm.Choice.named "NaN.bits"]
theorem lw_bits : nanBits ∈ lw_cs := by first | decide | exact List.mem_cons_self | simp [lw_cs, nanBits]
-- ===== end of PART A; then your names; then what follows =====
end
section
/-! ===== BEGIN words of one list among another's, by their places ===== -/
theorem goodIn_r {big : List Cond} (ws : List Cond) (ps : List Nat) (hp : ws = ps.filterMap (fun i => big[i]?)) (h : ws.all goodWord = true) : GoodIn big ws := by
  intro w hw
  have h1 := List.all_eq_true.mp h w hw
  rw [hp] at hw
  obtain ⟨i, -, hi⟩ := List.mem_filterMap.mp hw
  have hm : w ∈ big := by first | exact List.mem_of_getElem? hi | exact List.getElem?_mem hi
  exact ⟨hm, good_of_word h1⟩
theorem goodIn_app {big a b : List Cond} (ha : GoodIn big a) (hb : GoodIn big b) : GoodIn big (a ++ b) := fun w h => (List.mem_append.mp h).elim (ha w) (hb w)
theorem goodIn_ca {big a b : List Cond} {c : Cond} (ha : GoodIn big (c :: a)) (hb : GoodIn big b) : GoodIn big (c :: (a ++ b)) := fun w h => (List.mem_cons.mp h).elim (fun e => ha w (List.mem_cons.mpr (Or.inl e))) (fun h => (List.mem_append.mp h).elim (fun h => ha w (List.mem_cons.mpr (Or.inr h))) (hb w))
theorem goodIn_sub {big ws : List Cond} (hm : ∀ w ∈ ws, w ∈ big) (h : ws.all goodWord = true) : GoodIn big ws := fun w hw => ⟨hm w hw, good_of_word (List.all_eq_true.mp h w hw)⟩
/-! ===== END ===== -/

/-! ===== BEGIN exceptions that leave a method, and their catching by the caller (launches without stack traces) ===== -/
section VXA
/-! The laws vx_back, vx_callV, vx_callS, vx_callSW, vx_throw0, vx_throwS follow proofs of the library, with one case more: JvmDerived/Free/Laws.lean (Back.of_free), Shelf42/LK1.lean (callV, callS), Shelf/KitTraced.lean (throwNew0V, throwNewS). -/
/-- where a method has thrown q: the class by its name, the cell, what was written, the world -/
def vx_T (XC : String → State → State → Prop) (st : State) (q : Addr) (t : State) (mc ms : Nat) (free : Addr → Prop) : Prop :=
  ∃ (E : String) (ce : Cell) (L : List Loc), XC E st t ∧ t.heap[q]? = some ce ∧ ce.vm = .none ∧ st.vm.findClass E = some ce.cls ∧ st.WarmedH t.vm ∧ st.sameButNew ({ t with vm := st.vm } : State) L mc ms ∧ ∀ z ∈ L, free z.base
def vx_Q (Qc : Array Value → State → Outcome → State → Prop) (XC : String → State → State → Prop) (mc ms : Nat) (free : Addr → Prop) : Array Value → State → Outcome → State → Prop := fun a st o t =>
  (Qc a st o t ∧ ∃ L, FrameEnd st o t L mc ms ∧ ∀ q ∈ L, free q.base) ∨ ∃ q, o = .threw q ∧ vx_T XC st q t mc ms free
/-- a callee that returns or throws -/
def vx_Met (l : Launch) (y : MethodName) (ws : List Cond) (rm : Room) (Pc : Array Value → State → Prop) (Qc : Array Value → State → Outcome → State → Prop) (XC : String → State → State → Prop) (mc ms : Nat) (free : Addr → Prop) : Prop :=
  MetFree l y (headSpec ws rm) Pc (fun _ _ _ _ _ => True) (vx_Q Qc XC mc ms free)
def vx_Post (XC : String → State → State → Prop) (mc ms : Nat) (free : Addr → Prop) : Pt → Array Value → Addr → Pt → Prop := fun A a q B =>
  ∃ (g : JFrame) (mk : MethodId) (t : State) (L : List Loc) (E : String) (ce : Cell), B.U.heap = t.heap ∧ B.U.vm = t.vm ∧ XC E (A.U.calling g mk a) t ∧ t.heap[q]? = some ce ∧ ce.vm = .none ∧ A.U.vm.findClass E = some ce.cls ∧ B.locs = A.locs ++ L ∧ (∀ z ∈ L, free z.base) ∧ B.cells = A.cells + mc ∧ B.slots = A.slots + ms
def vx_Back (l : Launch) (R : Room) (p : Program) (e : Env) (below : List Frame) (s : State) (sargs : Array Value) (y : MethodName) (len W9 : Nat)
    (Pre : Pt → Array Value → Prop) (Post : Pt → Array Value → Option Value → Pt → Prop) (PostX : Pt → Array Value → Addr → Pt → Prop) : Prop :=
  ∀ (m : MethodId) (meth : Method) (c : Code) (A : Pt) (g : JFrame) (ig : Instr) (mk : MethodId) (a : Array Value),
    Stand p l e R s m sargs below meth c A.U A.locs A.cells A.slots → g.method = m → g.locals.size = c.maxLocals → decode c.code g.pc = .ok (ig, len) →
    2 * g.monitorRoom + (g.stack.map fun v => v.category).sum ≤ W9 → A.U.methodNamed? y = some mk → Pre A a →
    (∃ (v : Option Value) (B : Pt), Stand p l e R s m sargs below meth c B.U B.locs B.cells B.slots ∧ Post A a v B ∧
      Steps p.tables e below (doInvoke e (A.U.setTop g) [] mk a).1 (B.U.setTop { g with pc := g.pc + len, stack := v.toList ++ g.stack })) ∨
    (∃ (q : Addr) (B : Pt), Stand p l e R s m sargs below meth c B.U B.locs B.cells B.slots ∧ PostX A a q B ∧
      Steps p.tables e below (doInvoke e (A.U.setTop g) [] mk a).1 ((B.U.setTop g).pushFrame (.throwing q)))
section Payer
variable {l : Launch} {R : Room} {p : Program} {e : Env} {below : List Frame} {s : State} {sargs : Array Value} {y : MethodName} {len W9 : Nat}
theorem vx_back {ws : List Cond} {rm : Room} {Pc : Array Value → State → Prop} {Qc : Array Value → State → Outcome → State → Prop} {XC : String → State → State → Prop} {mc ms : Nat} {free : Addr → Prop} {bytes : ByteArray} {maxL : Nat} {ret : Option FieldType}
    (hM : vx_Met l y ws rm Pc Qc XC mc ms free) (hblind : FrameBlind Pc) (hrc : rm.cells = mc) (hrs : rm.slots = ms)
    (hframes : rm.frames + 1 ≤ R.frames) (hlocals : W9 + (maxL + 11) + rm.locals ≤ R.locals)
    (hws : ∀ w ∈ ws, ∀ a' U, s.WarmedH U.vm → w.before a' U = true) (hcode : Cond.code y bytes maxL ret ∈ ws) (hinit : ∀ a' U, s.WarmedH U.vm → (Cond.initialized y.cls).before a' U = true) :
    vx_Back l R p e below s sargs y len W9 (PreOf R mc ms Pc) (PostOf Qc mc ms free) (vx_Post XC mc ms free) := by
  intro m meth c A g ig mk a X hg hsize hdg hW hn hp
  have h1 : (headSpec ws rm).pre.before a A.U = true := atoms_intro fun w hw => hws w hw _ _ X.warmed
  have h2 : (Cond.code y bytes maxL ret).before a A.U = true := hws _ hcode _ _ X.warmed
  have h3 : (Cond.initialized y.cls).before a A.U = true := hinit _ _ X.warmed
  have h4 : A.cells + (headSpec ws rm).room.cells ≤ R.cells := by rw [show (headSpec ws rm).room.cells = mc from hrc]; exact hp.1
  have h5 : A.slots + (headSpec ws rm).room.slots ≤ R.slots := by rw [show (headSpec ws rm).room.slots = ms from hrs]; exact hp.2.1
  have hPc : Pc a (A.U.calling g mk a) := hblind _ _ _ _ hp.2.2
  obtain ⟨U, Ls, c0, s0⟩ := A
  dsimp only [Pt.U, Pt.locs, Pt.cells, Pt.slots] at h1 h2 h3 h4 h5 X hn hPc ⊢
  obtain ⟨methY, cY, hmY, hcY, -, hlY, -, -, -, -⟩ := Cond.code_spec hn h2
  obtain ⟨kY, hkY, -⟩ := className_of_methodNamed hn
  have hinitY : kY.init = .initialized := Cond.initialized_spec (findClass_of_methodNamed hn) hkY h3
  have h : At U g.method c below := by rw [hg]; exact X.here
  have hlocals9 : W9 + (maxL + 11) + (headSpec ws rm).room.locals ≤ R.locals := hlocals
  have happ : (headSpec ws rm).appliesLoose y e.platform (U.calling g mk a) = true :=
    Spec.appliesLoose_calling (g := g) h hdg hn hkY hinitY
      (X.room_calling (g := g) (R' := (headSpec ws rm).room) hsize hmY hcY hframes (by rw [hlY]; omega) h4 h5) h1
  obtain ⟨mid, hmid⟩ := h.above
  have hfr : (U.setTop g).frames = (.java g :: mid) ++ below := by rw [State.frames_setTop' g h.top, hmid]; rfl
  obtain ⟨o, s₂, hsteps, -, hend, hq⟩ := Steps.callFree hM p X.admits X.cas X.clock (acts := []) hfr happ hPc trivial
  have hq' : vx_Q Qc XC mc ms free a (U.calling g mk a) o s₂ := hq
  rw [State.frames_setTop' g h.top] at hend
  obtain ⟨g₀, hg0⟩ := Option.isSome_iff_exists.mp h.top
  obtain ⟨r, hr⟩ := State.topJava?_eq_some.mp hg0
  have hr' : (({ U with heap := s₂.heap, slotsUsed := s₂.slotsUsed } : State).setVm s₂.vm).frames = .java g₀ :: r := hr
  rcases hq' with ⟨hqc, L, hfe, hL⟩ | ⟨q, rfl, E, ce, L, hx, hce, hcv, hcl, hW₂, hsm, hL⟩
  · obtain ⟨⟨v, rfl⟩, hW₂, e2, q2, q3, q4, q5, q6⟩ := id hfe
    have e3 : s₂ = ({ (U.calling g mk a).setFrames s₂.frames with heap := s₂.heap, slotsUsed := s₂.slotsUsed } : State).setVm s₂.vm := by
      have : s₂ = ({ s₂ with vm := (U.calling g mk a).vm } : State).setVm s₂.vm := rfl
      rw [e2] at this
      exact this
    obtain ⟨c₂, i₂, len₂, hc₂, hd₂, hf₂⟩ := hend
    have hW' : U.WarmedH s₂.vm := hW₂
    have hcc : c₂ = c := by
      have h1 : s₂.code? g.method = U.code? g.method := by
        rw [State.code?_eq, State.code?_eq, hW'.alike.method?]
      exact Option.some.inj (hc₂.symm.trans (h1.trans h.code))
    subst hcc
    have hlen : len₂ = len := by rw [hdg] at hd₂; cases hd₂; rfl
    subst hlen
    have hs₂ : s₂ = (({ U with heap := s₂.heap, slotsUsed := s₂.slotsUsed } : State).setVm s₂.vm).setTop { g with pc := g.pc + len₂, stack := v.toList ++ g.stack } := by
      refine e3.trans ?_
      rw [hf₂, State.calling_eq h.top, State.setFrames_setFrames, State.setTop_of_frames _ hr', hr]
      rfl
    have hsame : U.sameButNew ({ U with heap := s₂.heap, slotsUsed := s₂.slotsUsed } : State) L mc ms := by
      refine ⟨?_, q2, q3, q4, q5, q6⟩
      obtain ⟨t, ht, -⟩ := State.frames_cons hr
      show ({ U with heap := s₂.heap, slotsUsed := s₂.slotsUsed } : State) = { U.setFrames U.frames with heap := s₂.heap, slotsUsed := s₂.slotsUsed }
      rw [State.setFrames_self ht]
    subst hg
    refine Or.inl ⟨v, ⟨(({ U with heap := s₂.heap, slotsUsed := s₂.slotsUsed } : State).setVm s₂.vm), Ls ++ L, c0 + mc, s0 + ms⟩,
      ⟨X.admits, X.cas, X.clock, X.frames, X.room, X.hears, X.method, X.code, (X.here.setHeapUsed s₂.heap s₂.slotsUsed).setVm hW'.alike, X.tail, State.WarmedH.trans X.warmed hW', X.limits, X.bytes, X.same.trans (hsame.setVm s.vm)⟩,
      ⟨g, mk, s₂, L, rfl, rfl, hqc, rfl, hL, rfl, rfl⟩, ?_⟩
    show Steps p.tables e below _ ((({ U with heap := s₂.heap, slotsUsed := s₂.slotsUsed } : State).setVm s₂.vm).setTop { g with pc := g.pc + len₂, stack := v.toList ++ g.stack })
    rw [← hs₂]
    exact hsteps
  · obtain ⟨e2, q2, q3, q4, q5, q6⟩ := id hsm
    have e3 : s₂ = ({ (U.calling g mk a).setFrames s₂.frames with heap := s₂.heap, slotsUsed := s₂.slotsUsed } : State).setVm s₂.vm := by
      have : s₂ = ({ s₂ with vm := (U.calling g mk a).vm } : State).setVm s₂.vm := rfl
      rw [e2] at this
      exact this
    have hf₂ : s₂.frames = .throwing q :: .java g :: U.frames.tail := hend
    have hW' : U.WarmedH s₂.vm := hW₂
    have hs₂ : s₂ = ((({ U with heap := s₂.heap, slotsUsed := s₂.slotsUsed } : State).setVm s₂.vm).setTop g).pushFrame (.throwing q) := by
      refine e3.trans ?_
      rw [hf₂, State.calling_eq h.top, State.setFrames_setFrames, State.pushFrame, State.frames_setTop _ hr', State.setTop_of_frames _ hr', State.setFrames_setFrames, hr]
      rfl
    have hsame : U.sameButNew ({ U with heap := s₂.heap, slotsUsed := s₂.slotsUsed } : State) L mc ms := by
      refine ⟨?_, q2, q3, q4, q5, q6⟩
      obtain ⟨t, ht, -⟩ := State.frames_cons hr
      show ({ U with heap := s₂.heap, slotsUsed := s₂.slotsUsed } : State) = { U.setFrames U.frames with heap := s₂.heap, slotsUsed := s₂.slotsUsed }
      rw [State.setFrames_self ht]
    subst hg
    refine Or.inr ⟨q, ⟨(({ U with heap := s₂.heap, slotsUsed := s₂.slotsUsed } : State).setVm s₂.vm), Ls ++ L, c0 + mc, s0 + ms⟩,
      ⟨X.admits, X.cas, X.clock, X.frames, X.room, X.hears, X.method, X.code, (X.here.setHeapUsed s₂.heap s₂.slotsUsed).setVm hW'.alike, X.tail, State.WarmedH.trans X.warmed hW', X.limits, X.bytes, X.same.trans (hsame.setVm s.vm)⟩,
      ⟨g, mk, s₂, L, E, ce, rfl, rfl, hx, hce, hcv, hcl, rfl, hL, rfl, rfl⟩, ?_⟩
    show Steps p.tables e below _ (((({ U with heap := s₂.heap, slotsUsed := s₂.slotsUsed } : State).setVm s₂.vm).setTop g).pushFrame (.throwing q))
    rw [← hs₂]
    exact hsteps
end Payer
section Calls
variable {p : Program} {l : Launch} {e : Env} {R : Room} {s : State} {m : MethodId} {args : Array Value} {below : List Frame} {meth : Method} {c : Code} {T : State} {locs : List Loc} {cells slots : Nat}
theorem vx_callV (X : Stand p l e R s m args below meth c T locs cells slots) (hexec : p.tables.exec = Jvm.exec) {own C : String} {index : Nat} {y : MethodName} {bytes : ByteArray} {maxL : Nat} {ret : Option FieldType}
    (hown : s.vm.findClass own = some m.cls) (hlink : (Cond.methodLink own index y).before args s = true) (hinst : (Cond.instanceMethod y).before args s = true) (hsel : (Cond.selects C y y).before args s = true)
    (hcode : (Cond.code y bytes maxL ret).before args s = true) (hy : y.cls ≠ "java/lang/invoke/MethodHandle" ∧ y.cls ≠ "java/lang/invoke/VarHandle")
    {W9 : Nat} {Pre : Pt → Array Value → Prop} {Post : Pt → Array Value → Option Value → Pt → Prop} {PostX : Pt → Array Value → Addr → Pt → Prop} (hK : vx_Back l R p e below s args y 3 W9 Pre Post PostX)
    {b : Addr} {cellB : Cell} (hcell : T.heap[b]? = some cellB) (hobj : cellB.vm.isStatics = false) (hcls : s.vm.findClass C = some cellB.cls)
    {g : JFrame} (hg : g.method = m) (hsize : g.locals.size = c.maxLocals) {argsL rest : List Value} (hlen : ∀ sig, parseMethodDescriptor y.desc = some sig → argsL.length = sig.parameters.length)
    (hstack : g.stack = argsL.reverse ++ .ref b :: rest) (hW : 2 * g.monitorRoom + (rest.map fun v => v.category).sum ≤ W9) (hdg : decode c.code g.pc = .ok (.invokevirtual index, 3))
    (hpre : ∀ vm₁, s.WarmedH vm₁ → Pre ⟨T.setVm vm₁, locs, cells, slots⟩ (Value.ref b :: argsL).toArray) :
    (∃ (v : Option Value) (vm₁ : Vm) (B : Pt), s.WarmedH vm₁ ∧ Stand p l e R s m args below meth c B.U B.locs B.cells B.slots ∧ Post ⟨T.setVm vm₁, locs, cells, slots⟩ (Value.ref b :: argsL).toArray v B ∧
      ∀ target, Steps p.tables e below (B.U.setTop { g with pc := g.pc + 3, stack := v.toList ++ rest }) target → Steps p.tables e below (T.setTop g) target) ∨
    (∃ (q : Addr) (vm₁ : Vm) (B : Pt), s.WarmedH vm₁ ∧ Stand p l e R s m args below meth c B.U B.locs B.cells B.slots ∧ PostX ⟨T.setVm vm₁, locs, cells, slots⟩ (Value.ref b :: argsL).toArray q B ∧
      Steps p.tables e below (T.setTop g) ((B.U.setTop { g with stack := rest }).pushFrame (.throwing q))) := by
  obtain ⟨mk, methM, hnamed, hmethM, hstM, habM⟩ := Cond.instanceMethod_spec hinst
  obtain ⟨methM', cM, hmethM', -, -, -, -, -, -, hsigM⟩ := Cond.code_spec hnamed hcode
  cases hmethM.symm.trans hmethM'
  obtain ⟨c2, r2, m2, q1, q2, q3, q4, kP, hkP, hkPi⟩ := Cond.selects_spec hsel
  cases hcls.symm.trans q1
  cases (State.methodFound?_of_named hnamed hy).symm.trans q2
  cases hnamed.symm.trans q3
  have hselP : selectMethod e.platform s.vm cellB.cls mk = .method mk := by rw [Launch.admits_selectMethod X.admits]; exact q4
  obtain ⟨vm₁, X₁, hstep₁⟩ := X.invokevirtual hexec hown hlink hnamed hmethM hstM hkP hkPi hy (a := b) (cell := cellB) hcell
    (fun z h => by rw [h] at hobj; cases hobj) hselP hmethM habM hkP hkPi (g := g) hg (argsL := argsL) (rest := rest) (hlen _ hsigM) hstack hdg
  rcases hK m meth c ⟨T.setVm vm₁, locs, cells, slots⟩ { g with stack := rest } (.invokevirtual index) mk (Value.ref b :: argsL).toArray X₁ hg hsize hdg hW (X₁.named hnamed) (hpre vm₁ X₁.warmed) with ⟨v, B, X', hpost, hsteps⟩ | ⟨q, B, X', hpost, hsteps⟩
  · exact Or.inl ⟨v, vm₁, B, X₁.warmed, X', hpost, fun target h => hstep₁ _ fun acts => by rw [doInvoke_state]; exact hsteps.trans h⟩
  · exact Or.inr ⟨q, vm₁, B, X₁.warmed, X', hpost, hstep₁ _ fun acts => by rw [doInvoke_state]; exact hsteps⟩
theorem vx_callS (X : Stand p l e R s m args below meth c T locs cells slots) (hexec : p.tables.exec = Jvm.exec) {own : String} {index : Nat} {y : MethodName} {bytes : ByteArray} {maxL : Nat} {ret : Option FieldType}
    (hown : s.vm.findClass own = some m.cls) (hlink : (Cond.methodLink own index y).before args s = true) (hstat : (Cond.static y).before args s = true) (hinit : (Cond.initialized y.cls).before args s = true)
    (hcode : (Cond.code y bytes maxL ret).before args s = true) (hy : y.cls ≠ "java/lang/invoke/MethodHandle" ∧ y.cls ≠ "java/lang/invoke/VarHandle")
    {W9 : Nat} {Pre : Pt → Array Value → Prop} {Post : Pt → Array Value → Option Value → Pt → Prop} {PostX : Pt → Array Value → Addr → Pt → Prop} (hK : vx_Back l R p e below s args y 3 W9 Pre Post PostX)
    {g : JFrame} (hg : g.method = m) (hsize : g.locals.size = c.maxLocals) {argsL rest : List Value} (hlen : ∀ sig, parseMethodDescriptor y.desc = some sig → argsL.length = sig.parameters.length)
    (hstack : g.stack = argsL.reverse ++ rest) (hW : 2 * g.monitorRoom + (rest.map fun v => v.category).sum ≤ W9) (hdg : decode c.code g.pc = .ok (.invokestatic index, 3))
    (hpre : ∀ vm₁, s.WarmedH vm₁ → Pre ⟨T.setVm vm₁, locs, cells, slots⟩ argsL.toArray) :
    (∃ (v : Option Value) (vm₁ : Vm) (B : Pt), s.WarmedH vm₁ ∧ Stand p l e R s m args below meth c B.U B.locs B.cells B.slots ∧ Post ⟨T.setVm vm₁, locs, cells, slots⟩ argsL.toArray v B ∧
      ∀ target, Steps p.tables e below (B.U.setTop { g with pc := g.pc + 3, stack := v.toList ++ rest }) target → Steps p.tables e below (T.setTop g) target) ∨
    (∃ (q : Addr) (vm₁ : Vm) (B : Pt), s.WarmedH vm₁ ∧ Stand p l e R s m args below meth c B.U B.locs B.cells B.slots ∧ PostX ⟨T.setVm vm₁, locs, cells, slots⟩ argsL.toArray q B ∧
      Steps p.tables e below (T.setTop g) ((B.U.setTop { g with stack := rest }).pushFrame (.throwing q))) := by
  obtain ⟨mk, hnamed⟩ := Cond.code_named hcode
  obtain ⟨methM, cM, hmethM, -, -, -, -, -, -, hsigM⟩ := Cond.code_spec hnamed hcode
  have hstatic : methM.isStatic = true := Cond.static_spec hnamed hmethM hstat
  obtain ⟨kP, hkP, -⟩ := className_of_methodNamed hnamed
  have hinitP : kP.init = .initialized := Cond.initialized_spec (findClass_of_methodNamed hnamed) hkP hinit
  obtain ⟨vm₁, X₁, hstep₁⟩ := X.invokestatic hexec hown hlink hnamed hmethM hstatic hkP hinitP hy (g := g) hg (argsL := argsL) (rest := rest) (hlen _ hsigM) hstack hdg
  rcases hK m meth c ⟨T.setVm vm₁, locs, cells, slots⟩ { g with stack := rest } (.invokestatic index) mk argsL.toArray X₁ hg hsize hdg hW (X₁.named hnamed) (hpre vm₁ X₁.warmed) with ⟨v, B, X', hpost, hsteps⟩ | ⟨q, B, X', hpost, hsteps⟩
  · exact Or.inl ⟨v, vm₁, B, X₁.warmed, X', hpost, fun target h => hstep₁ _ fun acts => by rw [doInvoke_state]; exact hsteps.trans h⟩
  · exact Or.inr ⟨q, vm₁, B, X₁.warmed, X', hpost, hstep₁ _ fun acts => by rw [doInvoke_state]; exact hsteps⟩
end Calls
theorem vx_cls {s : State} {T : State} {vm₁ : Vm} {E : String} {k : ClassId} (hW : s.WarmedH vm₁) (h : (T.setVm vm₁).vm.findClass E = some k) : s.vm.findClass E = some k := by
  have h1 : vm₁.findClass E = some k := h
  rw [hW.alike.findClass] at h1
  exact h1
/-- the method's frame g, with q thrown over it -/
def vx_W (p : Program) (l : Launch) (e : Env) (R : Room) (s : State) (m : MethodId) (args : Array Value) (below : List Frame) (meth : Method) (c : Code) (H : Heap) (locs : List Loc) (cells slots : Nat) (Q : State → Prop) (g : JFrame) (q : Addr) : Prop :=
  ∀ T : State, T.heap = H → Stand p l e R s m args below meth c T locs cells slots → ∃ t, Steps p.tables e below ((T.setTop g).pushFrame (.throwing q)) t ∧ Q t
def vx_Run (p : Program) (l : Launch) (e : Env) (R : Room) (s : State) (m : MethodId) (args : Array Value) (below : List Frame) (meth : Method) (c : Code) (H : Heap) (locs : List Loc) (cells slots mc ms : Nat) (g : JFrame) (rest : List Value) (Qa : State → Outcome → State → Prop) (XC : String → State → State → Prop) (free : Addr → Prop) : Prop :=
  ∀ T : State, T.heap = H → Stand p l e R s m args below meth c T locs cells slots →
    (∃ (v : Option Value) (st₀ t T' : State) (L : List Loc), st₀.heap = H ∧ Stand p l e R s m args below meth c T' (locs ++ L) (cells + mc) (slots + ms) ∧ (∀ q ∈ L, free q.base) ∧ T'.heap = t.heap ∧ T'.vm = t.vm ∧ Qa st₀ (.returned v) t ∧
      Goes p e below T g T' { g with pc := g.pc + 3, stack := v.toList ++ rest }) ∨
    (∃ (q : Addr) (st₀ t T' : State) (L : List Loc) (E : String) (ce : Cell), st₀.heap = H ∧ Stand p l e R s m args below meth c T' (locs ++ L) (cells + mc) (slots + ms) ∧ (∀ z ∈ L, free z.base) ∧ T'.heap = t.heap ∧ T'.vm = t.vm ∧ XC E st₀ t ∧ t.heap[q]? = some ce ∧ ce.vm = .none ∧ s.vm.findClass E = some ce.cls ∧
      Steps p.tables e below (T.setTop g) ((T'.setTop { g with stack := rest }).pushFrame (.throwing q)))
def vx_X {S : Type} (px : S → Prop) (B : String → S → State → Prop) (A : Nat → Prop) : String → State → State → Prop := fun E st t => ∃ u : S, px u ∧ B E u t ∧ va_F A st t
section Runs
variable {p : Program} {l : Launch} {e : Env} {R : Room} {s : State} {m : MethodId} {args : Array Value} {below : List Frame} {meth : Method} {c : Code} {H : Heap} {locs : List Loc} {cells slots : Nat}
variable {y : MethodName} {bytes cc : ByteArray} {maxL nL mc ms n index : Nat} {ret : Option FieldType} {ws : List Cond} {rm : Room} {Pc : Array Value → State → Prop} {Qc : Array Value → State → Outcome → State → Prop} {XC : String → State → State → Prop} {free : Addr → Prop} {Ts : List Cond} {own C : String} {b : Addr} {As rest : List Value} {g : JFrame}
theorem vx_callBack (cb : CallB R s args own index y bytes maxL ret ws rm mc ms n) (hM : vx_Met l y ws rm Pc Qc XC mc ms free) (hbl : FrameBlind Pc) : vx_Back l R p e below s args y 3 8 (PreOf R mc ms Pc) (PostOf Qc mc ms free) (vx_Post XC mc ms free) := by
  obtain ⟨hrc, hrs, hfr, hlo, hws, hcw, -, hini, -⟩ := cb
  exact vx_back (bytes := bytes) (maxL := maxL) (ret := ret) hM hbl hrc hrs hfr hlo hws hcw (fun a' U hW => word_at hW (Or.inl (by first | rfl | simp [Cond.onTables, Cond.keeps, Cond.steady])) hini)
theorem vx_runV (S : CallFix p m c cc nL s args Ts own) (hM : vx_Met l y ws rm Pc Qc XC mc ms free) (cw : CallW R s args own C index y bytes maxL ret ws rm mc ms n) (hp : PreV s H C b Pc As)
    (hg : g.method = m) (hn : As.length = n) (hsize : g.locals.size = nL) (hstack : g.stack = As.reverse ++ .ref b :: rest) (hW : 2 * g.monitorRoom + (rest.map fun v => v.category).sum ≤ 8) (hdg : decode cc g.pc = .ok (.invokevirtual index, 3)) (hf : cells + mc ≤ R.cells ∧ slots + ms ≤ R.slots) :
    vx_Run p l e R s m args below meth c H locs cells slots mc ms g rest (Qc (Value.ref b :: As).toArray) XC free := by
  have hK : vx_Back l R p e below s args y 3 8 (PreOf R mc ms Pc) (PostOf Qc mc ms free) (vx_Post XC mc ms free) := vx_callBack cw.1 hM hp.1
  obtain ⟨⟨-, -, -, -, -, -, hcode, -, hy, hlen, hl⟩, hin, hse⟩ := cw
  obtain ⟨hx, hb, hml, ho, -⟩ := S
  obtain ⟨-, ⟨cellB, hcB, hoB, hclB⟩, hPc⟩ := hp
  intro T hT X
  rcases vx_callV X hx (C := C) (bytes := bytes) (maxL := maxL) (ret := ret) ho hl hin hse hcode hy hK (by rw [hT]; exact hcB) hoB hclB hg (hsize.trans hml.symm) (argsL := As) (rest := rest) (fun sig h => hn.trans (hlen sig h)) hstack hW (by rw [hb]; exact hdg)
    (fun vm₁ hW₁ => ⟨hf.1, hf.2, hPc (T.setVm vm₁) hT hW₁⟩) with ⟨v, vm₁, ⟨U', l2, c2, s2⟩, hW₁, X', ⟨g', mk, t, L, e1, e2, hq, h1, hL, h2, h3⟩, st⟩ | ⟨q, vm₁, ⟨U', l2, c2, s2⟩, hW₁, X', ⟨g', mk, t, L, E, ce, e1, e2, hq, hce, hcv, hcl, h1, hL, h2, h3⟩, st⟩
  · dsimp only [Pt.U, Pt.locs, Pt.cells, Pt.slots] at X' e1 e2 h1 h2 h3 st
    subst h1; subst h2; subst h3
    exact Or.inl ⟨v, (T.setVm vm₁).calling g' mk (Value.ref b :: As).toArray, t, U', L, hT, X', hL, e1, e2, hq, st⟩
  · dsimp only [Pt.U, Pt.locs, Pt.cells, Pt.slots] at X' e1 e2 h1 h2 h3 st hcl
    subst h1; subst h2; subst h3
    exact Or.inr ⟨q, (T.setVm vm₁).calling g' mk (Value.ref b :: As).toArray, t, U', L, E, ce, hT, X', hL, e1, e2, hq, hce, hcv, vx_cls hW₁ hcl, st⟩
theorem vx_runS (S : CallFix p m c cc nL s args Ts own) (hM : vx_Met l y ws rm Pc Qc XC mc ms free) (cw : CallB R s args own index y bytes maxL ret ws rm mc ms n ∧ (Cond.static y).before args s = true) (hp : PreS s H Pc As)
    (hg : g.method = m) (hn : As.length = n) (hsize : g.locals.size = nL) (hstack : g.stack = As.reverse ++ rest) (hW : 2 * g.monitorRoom + (rest.map fun v => v.category).sum ≤ 8) (hdg : decode cc g.pc = .ok (.invokestatic index, 3)) (hf : cells + mc ≤ R.cells ∧ slots + ms ≤ R.slots) :
    vx_Run p l e R s m args below meth c H locs cells slots mc ms g rest (Qc As.toArray) XC free := by
  have hK : vx_Back l R p e below s args y 3 8 (PreOf R mc ms Pc) (PostOf Qc mc ms free) (vx_Post XC mc ms free) := vx_callBack cw.1 hM hp.1
  obtain ⟨⟨-, -, -, -, -, -, hcode, hini, hy, hlen, hl⟩, hstt⟩ := cw
  obtain ⟨hx, hb, hml, ho, -⟩ := S
  intro T hT X
  rcases vx_callS X hx (bytes := bytes) (maxL := maxL) (ret := ret) ho hl hstt hini hcode hy hK hg (hsize.trans hml.symm) (argsL := As) (rest := rest) (fun sig h => hn.trans (hlen sig h)) hstack hW (by rw [hb]; exact hdg)
    (fun vm₁ hW₁ => ⟨hf.1, hf.2, hp.2 (T.setVm vm₁) hT hW₁⟩) with ⟨v, vm₁, ⟨U', l2, c2, s2⟩, hW₁, X', ⟨g', mk, t, L, e1, e2, hq, h1, hL, h2, h3⟩, st⟩ | ⟨q, vm₁, ⟨U', l2, c2, s2⟩, hW₁, X', ⟨g', mk, t, L, E, ce, e1, e2, hq, hce, hcv, hcl, h1, hL, h2, h3⟩, st⟩
  · dsimp only [Pt.U, Pt.locs, Pt.cells, Pt.slots] at X' e1 e2 h1 h2 h3 st
    subst h1; subst h2; subst h3
    exact Or.inl ⟨v, (T.setVm vm₁).calling g' mk As.toArray, t, U', L, hT, X', hL, e1, e2, hq, st⟩
  · dsimp only [Pt.U, Pt.locs, Pt.cells, Pt.slots] at X' e1 e2 h1 h2 h3 st hcl
    subst h1; subst h2; subst h3
    exact Or.inr ⟨q, (T.setVm vm₁).calling g' mk As.toArray, t, U', L, E, ce, hT, X', hL, e1, e2, hq, hce, hcv, vx_cls hW₁ hcl, st⟩
end Runs
section Rows
variable {p : Program} {l : Launch} {e : Env} {R : Room} {s : State} {m : MethodId} {args : Array Value} {below : List Frame} {meth : Method} {c : Code} {H : Heap} {locs : List Loc} {cells slots : Nat} {Q : State → Prop}
variable {mc ms : Nat} {free : Addr → Prop} {A0 A1 : Nat → Prop} {H0 : Heap} {a : Array Value} {pc : Nat} {ls : Array Slot} {st0 rest : List Value}
theorem vx_keep {st₀ t T' : State} {L : List Loc} (h0 : st₀.heap = H) (e1 : T'.heap = t.heap) (hS : va_S A0 H0 H locs) (hA : ∀ q, q < H.size → A1 q → A0 q) (hf : ∀ q, free q → A0 q) (hL : ∀ q ∈ L, free q.base) (hF : va_F A1 st₀ t) :
    H.size ≤ T'.heap.size ∧ (∀ q : Nat, q < H.size → ¬ A1 q → T'.heap[q]? = H[q]?) ∧ va_S A0 H0 T'.heap (locs ++ L) := by
  obtain ⟨hz, hk⟩ := hF
  rw [h0] at hz hk
  exact ⟨by rw [e1]; exact hz, fun q h1 h2 => by rw [e1]; exact hk q h1 h2,
    ⟨Nat.le_trans hS.1 (by rw [e1]; exact hz), fun q h1 h2 => by rw [e1, hk q (Nat.lt_of_lt_of_le h1 hS.1) (fun z => h2 (hA q (Nat.lt_of_lt_of_le h1 hS.1) z))]; exact hS.2.1 q h1 h2, fun q hq => by
      rcases List.mem_append.mp hq with h | h
      · exact hS.2.2 q h
      · exact hf _ (hL q h)⟩⟩
theorem vx_calli {S SX : Type} {post : Int32 → S → Prop} {px : SX → Prop} {B : S → State → Prop} {BX : String → SX → State → Prop} {AX : Nat → Prop} (hr : vx_Run p l e R s m args below meth c H locs cells slots mc ms (F0 m pc ls st0) rest (va_Qi post B A1 a) (vx_X px BX AX) free) (hS : va_S A0 H0 H locs) (hA : ∀ q, q < H.size → A1 q → A0 q) (hf : ∀ q, free q → A0 q) (hAX : ∀ q, q < H.size → AX q → A0 q)
    (kx : ∀ (E : String) (ce : Cell) (q9 : Addr) (u : SX) (t : State) (H1 : Heap) (locs1 : List Loc), t.heap = H1 → s.vm.Alike t.vm → px u → BX E u t → H.size ≤ H1.size → (∀ q : Nat, q < H.size → ¬ AX q → H1[q]? = H[q]?) → va_S A0 H0 H1 locs1 → H1[q9]? = some ce → ce.vm = .none → s.vm.findClass E = some ce.cls → vx_W p l e R s m args below meth c H1 locs1 (cells + mc) (slots + ms) Q (F0 m pc ls rest) q9)
    (kk : ∀ (r : Int32) (u : S) (t : State) (H1 : Heap) (locs1 : List Loc), t.heap = H1 → s.vm.Alike t.vm → post r u → B u t → H.size ≤ H1.size → (∀ q : Nat, q < H.size → ¬ A1 q → H1[q]? = H[q]?) → va_S A0 H0 H1 locs1 → W p l e R s m args below meth c H1 locs1 (cells + mc) (slots + ms) Q (F0 m (pc + 3) ls (.int r :: rest))) : W p l e R s m args below meth c H locs cells slots Q (F0 m pc ls st0) := by
  intro T hT X
  rcases hr T hT X with ⟨v, st₀, t, T', L, h0, X', hL, e1, e2, ⟨⟨r, u, hv, hp, hb⟩, hF⟩, st⟩ | ⟨q, st₀, t, T', L, E, ce, h0, X', hL, e1, e2, ⟨u, hp, hb, hF⟩, hce, hcv, hcl, st⟩
  · cases hv
    obtain ⟨k1, k2, k3⟩ := vx_keep h0 e1 hS hA hf hL hF
    obtain ⟨t2, a1, b1⟩ := kk r u t T'.heap (locs ++ L) e1.symm (by rw [← e2]; exact X'.warmed.alike) hp hb k1 k2 k3 T' rfl X'
    exact ⟨t2, st t2 a1, b1⟩
  · obtain ⟨k1, k2, k3⟩ := vx_keep h0 e1 hS hAX hf hL hF
    obtain ⟨t2, a1, b1⟩ := kx E ce q u t T'.heap (locs ++ L) e1.symm (by rw [← e2]; exact X'.warmed.alike) hp hb k1 k2 k3 (by rw [e1]; exact hce) hcv hcl T' rfl X'
    exact ⟨t2, st.trans a1, b1⟩
theorem vx_calll {S SX : Type} {post : Int64 → S → Prop} {px : SX → Prop} {B : S → State → Prop} {BX : String → SX → State → Prop} {AX : Nat → Prop} (hr : vx_Run p l e R s m args below meth c H locs cells slots mc ms (F0 m pc ls st0) rest (va_Ql post B A1 a) (vx_X px BX AX) free) (hS : va_S A0 H0 H locs) (hA : ∀ q, q < H.size → A1 q → A0 q) (hf : ∀ q, free q → A0 q) (hAX : ∀ q, q < H.size → AX q → A0 q)
    (kx : ∀ (E : String) (ce : Cell) (q9 : Addr) (u : SX) (t : State) (H1 : Heap) (locs1 : List Loc), t.heap = H1 → s.vm.Alike t.vm → px u → BX E u t → H.size ≤ H1.size → (∀ q : Nat, q < H.size → ¬ AX q → H1[q]? = H[q]?) → va_S A0 H0 H1 locs1 → H1[q9]? = some ce → ce.vm = .none → s.vm.findClass E = some ce.cls → vx_W p l e R s m args below meth c H1 locs1 (cells + mc) (slots + ms) Q (F0 m pc ls rest) q9)
    (kk : ∀ (r : Int64) (u : S) (t : State) (H1 : Heap) (locs1 : List Loc), t.heap = H1 → s.vm.Alike t.vm → post r u → B u t → H.size ≤ H1.size → (∀ q : Nat, q < H.size → ¬ A1 q → H1[q]? = H[q]?) → va_S A0 H0 H1 locs1 → W p l e R s m args below meth c H1 locs1 (cells + mc) (slots + ms) Q (F0 m (pc + 3) ls (.long r :: rest))) : W p l e R s m args below meth c H locs cells slots Q (F0 m pc ls st0) := by
  intro T hT X
  rcases hr T hT X with ⟨v, st₀, t, T', L, h0, X', hL, e1, e2, ⟨⟨r, u, hv, hp, hb⟩, hF⟩, st⟩ | ⟨q, st₀, t, T', L, E, ce, h0, X', hL, e1, e2, ⟨u, hp, hb, hF⟩, hce, hcv, hcl, st⟩
  · cases hv
    obtain ⟨k1, k2, k3⟩ := vx_keep h0 e1 hS hA hf hL hF
    obtain ⟨t2, a1, b1⟩ := kk r u t T'.heap (locs ++ L) e1.symm (by rw [← e2]; exact X'.warmed.alike) hp hb k1 k2 k3 T' rfl X'
    exact ⟨t2, st t2 a1, b1⟩
  · obtain ⟨k1, k2, k3⟩ := vx_keep h0 e1 hS hAX hf hL hF
    obtain ⟨t2, a1, b1⟩ := kx E ce q u t T'.heap (locs ++ L) e1.symm (by rw [← e2]; exact X'.warmed.alike) hp hb k1 k2 k3 (by rw [e1]; exact hce) hcv hcl T' rfl X'
    exact ⟨t2, st.trans a1, b1⟩
theorem vx_callf {S SX : Type} {post : UInt32 → S → Prop} {px : SX → Prop} {B : S → State → Prop} {BX : String → SX → State → Prop} {AX : Nat → Prop} (hr : vx_Run p l e R s m args below meth c H locs cells slots mc ms (F0 m pc ls st0) rest (va_Qf post B A1 a) (vx_X px BX AX) free) (hS : va_S A0 H0 H locs) (hA : ∀ q, q < H.size → A1 q → A0 q) (hf : ∀ q, free q → A0 q) (hAX : ∀ q, q < H.size → AX q → A0 q)
    (kx : ∀ (E : String) (ce : Cell) (q9 : Addr) (u : SX) (t : State) (H1 : Heap) (locs1 : List Loc), t.heap = H1 → s.vm.Alike t.vm → px u → BX E u t → H.size ≤ H1.size → (∀ q : Nat, q < H.size → ¬ AX q → H1[q]? = H[q]?) → va_S A0 H0 H1 locs1 → H1[q9]? = some ce → ce.vm = .none → s.vm.findClass E = some ce.cls → vx_W p l e R s m args below meth c H1 locs1 (cells + mc) (slots + ms) Q (F0 m pc ls rest) q9)
    (kk : ∀ (r : UInt32) (u : S) (t : State) (H1 : Heap) (locs1 : List Loc), t.heap = H1 → s.vm.Alike t.vm → post r u → B u t → H.size ≤ H1.size → (∀ q : Nat, q < H.size → ¬ A1 q → H1[q]? = H[q]?) → va_S A0 H0 H1 locs1 → W p l e R s m args below meth c H1 locs1 (cells + mc) (slots + ms) Q (F0 m (pc + 3) ls (.float r :: rest))) : W p l e R s m args below meth c H locs cells slots Q (F0 m pc ls st0) := by
  intro T hT X
  rcases hr T hT X with ⟨v, st₀, t, T', L, h0, X', hL, e1, e2, ⟨⟨r, u, hv, hp, hb⟩, hF⟩, st⟩ | ⟨q, st₀, t, T', L, E, ce, h0, X', hL, e1, e2, ⟨u, hp, hb, hF⟩, hce, hcv, hcl, st⟩
  · cases hv
    obtain ⟨k1, k2, k3⟩ := vx_keep h0 e1 hS hA hf hL hF
    obtain ⟨t2, a1, b1⟩ := kk r u t T'.heap (locs ++ L) e1.symm (by rw [← e2]; exact X'.warmed.alike) hp hb k1 k2 k3 T' rfl X'
    exact ⟨t2, st t2 a1, b1⟩
  · obtain ⟨k1, k2, k3⟩ := vx_keep h0 e1 hS hAX hf hL hF
    obtain ⟨t2, a1, b1⟩ := kx E ce q u t T'.heap (locs ++ L) e1.symm (by rw [← e2]; exact X'.warmed.alike) hp hb k1 k2 k3 (by rw [e1]; exact hce) hcv hcl T' rfl X'
    exact ⟨t2, st.trans a1, b1⟩
theorem vx_calld {S SX : Type} {post : UInt64 → S → Prop} {px : SX → Prop} {B : S → State → Prop} {BX : String → SX → State → Prop} {AX : Nat → Prop} (hr : vx_Run p l e R s m args below meth c H locs cells slots mc ms (F0 m pc ls st0) rest (va_Qd post B A1 a) (vx_X px BX AX) free) (hS : va_S A0 H0 H locs) (hA : ∀ q, q < H.size → A1 q → A0 q) (hf : ∀ q, free q → A0 q) (hAX : ∀ q, q < H.size → AX q → A0 q)
    (kx : ∀ (E : String) (ce : Cell) (q9 : Addr) (u : SX) (t : State) (H1 : Heap) (locs1 : List Loc), t.heap = H1 → s.vm.Alike t.vm → px u → BX E u t → H.size ≤ H1.size → (∀ q : Nat, q < H.size → ¬ AX q → H1[q]? = H[q]?) → va_S A0 H0 H1 locs1 → H1[q9]? = some ce → ce.vm = .none → s.vm.findClass E = some ce.cls → vx_W p l e R s m args below meth c H1 locs1 (cells + mc) (slots + ms) Q (F0 m pc ls rest) q9)
    (kk : ∀ (r : UInt64) (u : S) (t : State) (H1 : Heap) (locs1 : List Loc), t.heap = H1 → s.vm.Alike t.vm → post r u → B u t → H.size ≤ H1.size → (∀ q : Nat, q < H.size → ¬ A1 q → H1[q]? = H[q]?) → va_S A0 H0 H1 locs1 → W p l e R s m args below meth c H1 locs1 (cells + mc) (slots + ms) Q (F0 m (pc + 3) ls (.double r :: rest))) : W p l e R s m args below meth c H locs cells slots Q (F0 m pc ls st0) := by
  intro T hT X
  rcases hr T hT X with ⟨v, st₀, t, T', L, h0, X', hL, e1, e2, ⟨⟨r, u, hv, hp, hb⟩, hF⟩, st⟩ | ⟨q, st₀, t, T', L, E, ce, h0, X', hL, e1, e2, ⟨u, hp, hb, hF⟩, hce, hcv, hcl, st⟩
  · cases hv
    obtain ⟨k1, k2, k3⟩ := vx_keep h0 e1 hS hA hf hL hF
    obtain ⟨t2, a1, b1⟩ := kk r u t T'.heap (locs ++ L) e1.symm (by rw [← e2]; exact X'.warmed.alike) hp hb k1 k2 k3 T' rfl X'
    exact ⟨t2, st t2 a1, b1⟩
  · obtain ⟨k1, k2, k3⟩ := vx_keep h0 e1 hS hAX hf hL hF
    obtain ⟨t2, a1, b1⟩ := kx E ce q u t T'.heap (locs ++ L) e1.symm (by rw [← e2]; exact X'.warmed.alike) hp hb k1 k2 k3 (by rw [e1]; exact hce) hcv hcl T' rfl X'
    exact ⟨t2, st.trans a1, b1⟩
theorem vx_callv {S SX : Type} {post : S → Prop} {px : SX → Prop} {B : S → State → Prop} {BX : String → SX → State → Prop} {AX : Nat → Prop} (hr : vx_Run p l e R s m args below meth c H locs cells slots mc ms (F0 m pc ls st0) rest (va_Qv post B A1 a) (vx_X px BX AX) free) (hS : va_S A0 H0 H locs) (hA : ∀ q, q < H.size → A1 q → A0 q) (hf : ∀ q, free q → A0 q) (hAX : ∀ q, q < H.size → AX q → A0 q)
    (kx : ∀ (E : String) (ce : Cell) (q9 : Addr) (u : SX) (t : State) (H1 : Heap) (locs1 : List Loc), t.heap = H1 → s.vm.Alike t.vm → px u → BX E u t → H.size ≤ H1.size → (∀ q : Nat, q < H.size → ¬ AX q → H1[q]? = H[q]?) → va_S A0 H0 H1 locs1 → H1[q9]? = some ce → ce.vm = .none → s.vm.findClass E = some ce.cls → vx_W p l e R s m args below meth c H1 locs1 (cells + mc) (slots + ms) Q (F0 m pc ls rest) q9)
    (kk : ∀ (u : S) (t : State) (H1 : Heap) (locs1 : List Loc), t.heap = H1 → s.vm.Alike t.vm → post u → B u t → H.size ≤ H1.size → (∀ q : Nat, q < H.size → ¬ A1 q → H1[q]? = H[q]?) → va_S A0 H0 H1 locs1 → W p l e R s m args below meth c H1 locs1 (cells + mc) (slots + ms) Q (F0 m (pc + 3) ls (rest))) : W p l e R s m args below meth c H locs cells slots Q (F0 m pc ls st0) := by
  intro T hT X
  rcases hr T hT X with ⟨v, st₀, t, T', L, h0, X', hL, e1, e2, ⟨⟨u, hv, hp, hb⟩, hF⟩, st⟩ | ⟨q, st₀, t, T', L, E, ce, h0, X', hL, e1, e2, ⟨u, hp, hb, hF⟩, hce, hcv, hcl, st⟩
  · cases hv
    obtain ⟨k1, k2, k3⟩ := vx_keep h0 e1 hS hA hf hL hF
    obtain ⟨t2, a1, b1⟩ := kk u t T'.heap (locs ++ L) e1.symm (by rw [← e2]; exact X'.warmed.alike) hp hb k1 k2 k3 T' rfl X'
    exact ⟨t2, st t2 a1, b1⟩
  · obtain ⟨k1, k2, k3⟩ := vx_keep h0 e1 hS hAX hf hL hF
    obtain ⟨t2, a1, b1⟩ := kx E ce q u t T'.heap (locs ++ L) e1.symm (by rw [← e2]; exact X'.warmed.alike) hp hb k1 k2 k3 (by rw [e1]; exact hce) hcv hcl T' rfl X'
    exact ⟨t2, st.trans a1, b1⟩
/-- caught by the row x of this method's table; the rows ahead don't take it -/
theorem vx_catch {own name : String} {E : String} {ce : Cell} {q : Addr} (hown : s.vm.findClass own = some m.cls) (pre : List ExceptionTableEntry) (x : ExceptionTableEntry) (suf : List ExceptionTableEntry) (hsplit : c.exceptionTable.toList = pre ++ x :: suf)
    (hpass : ∀ z ∈ pre, covers z pc = false ∨ (z.catchType ≠ 0 ∧ ∃ nm : String, (Cond.classLink own z.catchType nm).before args s = true ∧ va_Nc E nm s)) (hx : covers x pc = true) (h0 : x.catchType ≠ 0)
    (hlink : (Cond.classLink own x.catchType name).before args s = true) (hcast : (Cond.castable E name).before args s = true) (hcell : H[q]? = some ce) (hv : ce.vm = .none) (hcl : s.vm.findClass E = some ce.cls)
    (kk : W p l e R s m args below meth c H locs cells slots Q (F0 m x.handlerPc ls [.ref q])) : vx_W p l e R s m args below meth c H locs cells slots Q (F0 m pc ls rest) q := by
  intro T hT X
  have hpl : e.platform.magicAccessors = ({} : Platform).magicAccessors := by rw [X.admits.platform]
  obtain ⟨c3, c4, hc3, hc4, hasg⟩ := Cond.castable_spec hcast
  cases Option.some.inj (hc3.symm.trans hcl)
  obtain ⟨c5, hc5, hcl5⟩ := Cond.classLink_spec hown hlink e.platform hpl
  cases Option.some.inj (hc4.symm.trans hc5)
  obtain ⟨vm', X', st⟩ := X.thenCaughtThrough q (g := F0 m pc ls rest) rfl (Steps.refl _) (by rw [hT]; exact hcell) (by rw [hv]; rfl) (by obtain ⟨k9, h9, -⟩ := Vm.findClass_spec hcl; exact ⟨k9, h9⟩) pre x suf hsplit
    (fun z hz => by
      rcases hpass z hz with h | ⟨hz0, nm, hl1, hn1⟩
      · exact Or.inl h
      · obtain ⟨c6, hc6, hcl6⟩ := Cond.classLink_spec hown hl1 e.platform hpl
        obtain ⟨a8, b8, h1, h2, h3⟩ := hn1
        cases Option.some.inj (h1.symm.trans hcl)
        cases Option.some.inj (h2.symm.trans hc6)
        exact Or.inr ⟨hz0, _, hcl6, h3⟩) hx (Or.inr ⟨h0, c4, hcl5, hasg⟩)
  obtain ⟨t, a1, b1⟩ := kk (T.setVm vm') hT X'
  exact ⟨t, st.trans a1, b1⟩
end Rows
section Ends
variable {p : Program} {l : Launch} {e : Env} {R : Room} {s : State} {m : MethodId} {args : Array Value} {below : List Frame} {meth : Method} {c : Code} {H : Heap} {locs : List Loc} {cells slots : Nat} {Q : State → Prop}
variable {mc ms : Nat} {free : Addr → Prop} {A0 A1 : Nat → Prop} {H0 : Heap} {a : Array Value} {ls : Array Slot} {st0 rest : List Value}
variable {Qc : Array Value → State → Outcome → State → Prop} {XC : String → State → State → Prop}
/-- what a body that may throw owes at its end -/
def vx_MQ (below : List Frame) (Qc : Array Value → State → Outcome → State → Prop) (XC : String → State → State → Prop) (a : Array Value) (s : State) (mc ms : Nat) (free : Addr → Prop) : State → Prop := fun t =>
  ∃ o, t.status = .running ∧ Ended t below o ∧ vx_Q Qc XC mc ms free a s o t
theorem vx_ret {g : JFrame} {mc ms : Nat} (k : W p l e R s m args below meth c H locs cells slots (MQ below Qc args s mc ms free) g) : W p l e R s m args below meth c H locs cells slots (vx_MQ below Qc XC args s mc ms free) g := by
  intro T hT X
  obtain ⟨t, a1, o, b1, b2, b3, b4⟩ := k T hT X
  exact ⟨t, a1, o, b1, b2, Or.inl ⟨b3, b4⟩⟩
/-- not caught here: it goes on to the caller -/
theorem vx_widen {g : JFrame} {q : Addr} {k n : Nat} (h1 : cells ≤ k) (h2 : slots ≤ n) (kk : vx_W p l e R s m args below meth c H locs k n Q g q) : vx_W p l e R s m args below meth c H locs cells slots Q g q := fun T hT X => kk T hT (stand_widen X h1 h2)
theorem vx_out {pc : Nat} {E : String} {ce : Cell} {q : Addr} {mc ms : Nat} (hout : ∀ x ∈ c.exceptionTable.toList, covers x pc = false) (hlocks : meth.locks = false) (hcell : H[q]? = some ce) (hv : ce.vm = .none) (hcl : s.vm.findClass E = some ce.cls)
    (hx : ∀ t : State, t.heap = H → s.vm.Alike t.vm → XC E s t) (hf : ∀ z ∈ locs, free z.base) (hc : cells ≤ mc) (hs : slots ≤ ms) :
    vx_W p l e R s m args below meth c H locs cells slots (vx_MQ below Qc XC args s mc ms free) (F0 m pc ls rest) q := by
  intro T hT X
  obtain ⟨st1, hrun, hend, hW, hsm⟩ := X.leaveThrown q (g := F0 m pc ls rest) rfl rfl rfl hout hlocks
  have hcell9 : (T.setFrames (.throwing q :: below)).heap[q]? = some ce := by
    show T.heap[q]? = some ce
    rw [hT]; exact hcell
  exact ⟨_, st1, .threw q, hrun, hend, Or.inr ⟨q, rfl, E, ce, locs, hx _ hT hW.alike, hcell9, hv, hcl, hW, hsm.mono hc hs, hf⟩⟩
theorem vx_frame {U : State} {k n : Nat} (h : s.sameButNew ({ U with vm := s.vm } : State) locs k n) : s.heap.size ≤ U.heap.size ∧ ∀ q : Nat, q < s.heap.size → (∀ z ∈ locs, z.base ≠ q) → U.heap[q]? = s.heap[q]? := by
  obtain ⟨-, h2, -, -, -, h6⟩ := h
  refine ⟨h2, fun q hq hz => ?_⟩
  obtain ⟨c9, e1, e2, e3, e4⟩ := h6 q _ (Array.getElem?_eq_getElem hq)
  have hs : c9.slots = (s.heap[q]).slots := Array.ext_getElem? fun i => e4 i fun hm => hz _ hm rfl
  have h9 : c9 = s.heap[q] := by
    rw [hs] at e2
    exact e2
  have e5 : U.heap[q]? = some c9 := e1
  rw [e5, h9, Array.getElem?_eq_getElem hq]
/-- the words of a throw but the four that speak of the heap -/
def vx_no (w : Cond) : Bool := decide (w ≠ .isRef (.static Bundle.tN "UNASSIGNED_STACK" Bundle.steD)) && decide (w ≠ .isRef (.static Bundle.tN "SUPPRESSED_SENTINEL" Bundle.listD)) && decide (w ≠ .laysStatic Bundle.tN "UNASSIGNED_STACK" Bundle.steD) && decide (w ≠ .laysStatic Bundle.tN "SUPPRESSED_SENTINEL" Bundle.listD)
def vx_at0 (own : String) (ic : Nat) (X : String) (names : List String) : List Cond := (Bundle.ownAtoms0 own ic X names).filter vx_no
def vx_atS (own : String) (ic : Nat) (X : String) (names : List String) : List Cond := (Bundle.ownAtoms own ic X names).filter vx_no
/-- a word that the tables alone decide, or a good one -/
def vx_ot (w : Cond) : Bool := w.onTables || goodWord w
theorem vx_ot_at {args a' : Array Value} {s U : State} {w : Cond} (hW : s.WarmedH U.vm) (hvm : s.vm = U.vm) (hg : vx_ot w = true) (h : w.before args s = true) : w.before a' U = true := by
  simp only [vx_ot, Bool.or_eq_true] at hg
  rcases hg with hg | hg
  · exact va_tabs hg hvm h
  · exact word_at hW (good_of_word hg) h
/-- a list's words: the good ones out of the method's own list, the others by premises of their own -/
theorem vx_hat {args : Array Value} {s : State} {L B : List Cond} (h1 : ∀ w ∈ L.filter goodWord, w.before args s = true) (h2 : ∀ w ∈ L.filter (fun w => !goodWord w), w ∈ B) (h3 : ∀ w ∈ B, w.before args s = true) : ∀ w ∈ L, w.before args s = true := by
  intro w hw
  by_cases g : goodWord w = true
  · exact h1 w (List.mem_filter.mpr ⟨hw, g⟩)
  · refine h3 w (h2 w (List.mem_filter.mpr ⟨hw, ?_⟩))
    show (!goodWord w) = true
    cases hgw : goodWord w
    · rfl
    · exact absurd hgw g
theorem vx_c {args : Array Value} {s : State} {w : Cond} {B : List Cond} (h : w.before args s = true) (t : ∀ w ∈ B, w.before args s = true) : ∀ w' ∈ w :: B, w'.before args s = true := fun w' h' => (List.mem_cons.mp h').elim (fun e => by rw [e]; exact h) (t w')
theorem vx_n {args : Array Value} {s : State} : ∀ w ∈ ([] : List Cond), w.before args s = true := fun _ h => nomatch h
theorem vx_own {args : Array Value} {s : State} {L : List Cond} (h1 : ∀ w ∈ L.filter vx_no, w.before args s = true)
    (hU : (Cond.isRef (.static Bundle.tN "UNASSIGNED_STACK" Bundle.steD)).before args s = true) (hN : (Cond.isRef (.static Bundle.tN "SUPPRESSED_SENTINEL" Bundle.listD)).before args s = true)
    (lU : (Cond.laysStatic Bundle.tN "UNASSIGNED_STACK" Bundle.steD).before args s = true) (lN : (Cond.laysStatic Bundle.tN "SUPPRESSED_SENTINEL" Bundle.listD).before args s = true) : ∀ w ∈ L, w.before args s = true := by
  intro w hw
  by_cases e1 : w = .isRef (.static Bundle.tN "UNASSIGNED_STACK" Bundle.steD)
  · rw [e1]; exact hU
  · by_cases e2 : w = .isRef (.static Bundle.tN "SUPPRESSED_SENTINEL" Bundle.listD)
    · rw [e2]; exact hN
    · by_cases e3 : w = .laysStatic Bundle.tN "UNASSIGNED_STACK" Bundle.steD
      · rw [e3]; exact lU
      · by_cases e4 : w = .laysStatic Bundle.tN "SUPPRESSED_SENTINEL" Bundle.listD
        · rw [e4]; exact lN
        · exact h1 w (List.mem_filter.mpr ⟨hw, by unfold vx_no; rw [decide_eq_true e1, decide_eq_true e2, decide_eq_true e3, decide_eq_true e4]; rfl⟩)
/-- where a static field lies, its class's statics cell in H -/
def vx_L (C n d : String) (A : Nat → Prop) (U : State) (H : Heap) : Prop := ∃ (c : ClassId) (k : Class) (i : Nat) (f : Field) (a : Nat) (cell : Cell), U.vm.findClass C = some c ∧ U.fieldFound? C n d = some (c, k, i, f) ∧ f.isStatic = true ∧ k.statics = some a ∧ H[a]? = some cell ∧ cell.vm.isStatics = true ∧ cell.cls = c ∧ f.slot < cell.slots.size ∧ k.staticTypes[f.slot]? = some f.type ∧ ¬ A a
theorem vx_L.moved {C n d : String} {A : Nat → Prop} {u U : State} {H : Heap} (hvm : u.vm.Alike U.vm) (h : vx_L C n d A u H) : vx_L C n d A U H := by
  obtain ⟨c, k, i, f, a, cell, h1, h2, h3, h4, h5, h6, h7, h8, h9, h10⟩ := h
  obtain ⟨k', hi', he⟩ := State.fieldFound?_setVm hvm h2
  exact ⟨c, k', i, f, a, cell, by rw [hvm.findClass]; exact h1, hi', h3, by rw [he]; exact h4, h5, h6, h7, h8, by rw [he]; exact h9, h10⟩
theorem vx_L.kept {C n d : String} {A : Nat → Prop} {U : State} {H H1 : Heap} (h : vx_L C n d A U H) (hq : ∀ a : Nat, a < H.size → ¬ A a → H1[a]? = H[a]?) : vx_L C n d A U H1 := by
  obtain ⟨c, k, i, f, a, cell, h1, h2, h3, h4, h5, h6, h7, h8, h9, h10⟩ := h
  exact ⟨c, k, i, f, a, cell, h1, h2, h3, h4, by rw [hq a (Array.getElem?_eq_some_iff.mp h5).1 h10]; exact h5, h6, h7, h8, h9, h10⟩
theorem vx_L.narrow {C n d : String} {A B : Nat → Prop} {U : State} {H : Heap} (h : vx_L C n d A U H) (hAB : ∀ q, B q → A q) : vx_L C n d B U H := by
  obtain ⟨c, k, i, f, a, cell, h1, h2, h3, h4, h5, h6, h7, h8, h9, h10⟩ := h
  exact ⟨c, k, i, f, a, cell, h1, h2, h3, h4, h5, h6, h7, h8, h9, fun z => h10 (hAB _ z)⟩
theorem vx_L.word {C n d : String} {A : Nat → Prop} {s : State} {args : Array Value} (h : vx_L C n d A s s.heap) : (Cond.laysStatic C n d).before args s = true := by
  obtain ⟨c, k, i, f, a, cell, h1, h2, h3, h4, h5, h6, h7, h8, h9, -⟩ := h
  show (Cond.laysStatic C n d).holds args s none s [] = true
  exact Cond.laysStatic_of h1 h2 h3 h4 h5 h6 h7 h8 h9
/-- .. and what it holds: null or some reference -/
def vx_Zq (C n d : String) (A : Nat → Prop) (U : State) (H : Heap) : Prop := va_Zq C n d A U H ∧ vx_L C n d A U H
theorem vx_Zq.moved {C n d : String} {A : Nat → Prop} {u U : State} {H : Heap} (hvm : u.vm.Alike U.vm) (h : vx_Zq C n d A u H) : vx_Zq C n d A U H := ⟨va_Zq.moved hvm h.1, vx_L.moved hvm h.2⟩
theorem vx_Zq.kept {C n d : String} {A : Nat → Prop} {U : State} {H H1 : Heap} (h : vx_Zq C n d A U H) (hq : ∀ a : Nat, a < H.size → ¬ A a → H1[a]? = H[a]?) : vx_Zq C n d A U H1 := ⟨va_Zq.kept h.1 hq, vx_L.kept h.2 hq⟩
theorem vx_Zq.narrow {C n d : String} {A B : Nat → Prop} {U : State} {H : Heap} (h : vx_Zq C n d A U H) (hAB : ∀ q, B q → A q) : vx_Zq C n d B U H := ⟨va_Zq.narrow h.1 hAB, vx_L.narrow h.2 hAB⟩
theorem vx_Zqof {args : Array Value} {s : State} {C n d : String} {A : Nat → Prop} (hl : (Cond.laysStatic C n d).before args s = true) (hini : (Cond.initialized C).before args s = true) (h : (Cond.isRef (.static C n d)).before args s = true) (hA : ∀ a : Nat, a < s.heap.size → ¬ A a) : vx_Zq C n d A s s.heap := by
  refine ⟨va_Zqof hl hini h hA, ?_⟩
  obtain ⟨c, k, i, f, a, cell, h1, h2, h3, h4, h5, h6, h7, h8, h9⟩ := Cond.laysStatic_spec hl
  exact ⟨c, k, i, f, a, cell, h1, h2, h3, h4, h5, h6, h7, h8, h9, hA a (Array.getElem?_eq_some_iff.mp h5).1⟩
theorem vx_isRef {C n d : String} {v : Value} {A : Nat → Prop} {s : State} {args : Array Value} (h : va_Z C n d v A s s.heap) (hv : v.isRef = true) : (Cond.isRef (.static C n d)).before args s = true := by
  obtain ⟨cf, kf, fi, f, a, cell, h1, h2, h3, h4, h5, h6, h7, -⟩ := h
  have he : (Term.static C n d).eval args s none [] s = some v := by
    simp [Term.eval, State.fieldNamed?, h1, h2, h4, h5, h6, h7]
  simp only [Cond.before, Cond.holds, Cond.value, he]
  cases v <;> simp_all [Value.isRef]
theorem vx_isRefq {C n d : String} {A : Nat → Prop} {s : State} {args : Array Value} (h : va_Zq C n d A s s.heap) : (Cond.isRef (.static C n d)).before args s = true := by
  rcases h with h | ⟨t, h⟩
  · exact vx_isRef h rfl
  · exact vx_isRef h rfl
/-- the same frame, seen from here: as if the method were called anew in this heap -/
theorem vx_rebase {T : State} (X : Stand p l e R s m args below meth c T locs cells slots) {R' : Room} (hf : R'.frames ≤ R.frames) (hl : R'.locals ≤ R.locals) (hc : cells + R'.cells ≤ R.cells) (hs : slots + R'.slots ≤ R.slots) :
    Stand p l e R' ((T.setVm s.vm).setFrames (.invoking m args :: below)) m args below meth c T [] 0 0 := by
  have htop : (T.setVm s.vm).topJava?.isSome := X.here.top
  have hF : ((T.setVm s.vm).setFrames (.invoking m args :: below)).frames = .invoking m args :: below := State.frames_setFrames _ (State.cur_lt_of_top htop)
  obtain ⟨g₀, hg0⟩ := Option.isSome_iff_exists.mp htop
  obtain ⟨r, hr⟩ := State.topJava?_eq_some.mp hg0
  have hl9 : e.platform.stackLimits (T.setVm s.vm).me = e.platform.stackLimits s.me := X.limits
  have hb9 : (T.setVm s.vm).me.stackBytes = s.me.stackBytes := X.bytes
  refine ⟨X.admits, X.cas, X.clock, hF, ?_, X.hears, X.method, X.code, X.here, X.tail, X.warmed, ?_, ?_, ?_⟩
  · have h := X.room
    have hU : ((T.setVm s.vm).setFrames (.invoking m args :: below)).localsInUse = s.localsInUse := by
      rw [State.localsInUse_invoking hF (meth := meth) (c := c) X.method X.code, State.localsInUse_invoking X.frames X.method X.code]
    simp only [State.hasRoom, Bool.and_eq_true, decide_eq_true_eq] at h ⊢
    obtain ⟨⟨⟨⟨h1, h2, h3, h4, h5, h6⟩, h7⟩, h8⟩, h9⟩ := h
    rw [X.frames, List.length_cons] at h2 h3
    have q1 := X.heapSize
    have q2 := X.used
    simp only [hF, hU, List.length_cons, State.stackLimits_setFrames, State.stackBytes_setFrames, hl9, hb9]
    refine ⟨⟨⟨⟨by omega, by omega, by omega, by omega, by omega, h6⟩, ?_⟩, ?_⟩, X.book⟩
    · show T.heap.size + R'.cells ≤ e.platform.maxCells
      omega
    · show T.slotsUsed + R'.slots ≤ e.platform.maxSlots
      omega
  · rw [State.stackLimits_setFrames]; rfl
  · rw [State.stackBytes_setFrames]; rfl
  · refine ⟨?_, Nat.le_refl _, Nat.le_refl _, ?_, ?_, fun a c9 h9 => ⟨c9, h9, rfl, rfl, fun _ _ => rfl⟩⟩
    · obtain ⟨t, ht, -⟩ := State.frames_cons hr
      show T.setVm s.vm = { ((T.setVm s.vm).setFrames (.invoking m args :: below)).setFrames (T.setVm s.vm).frames with heap := T.heap, slotsUsed := T.slotsUsed }
      rw [State.setFrames_setFrames, State.setFrames_self ht]
      rfl
    · show T.slotsUsed = T.slotsUsed + ((T.heap.toList.drop T.heap.size).map (·.slots.size)).sum
      rw [List.drop_eq_nil_of_le (Nat.le_of_eq Array.length_toList)]
      rfl
    · show ((T.heap.toList.drop T.heap.size).map (·.slots.size)).sum ≤ 0
      rw [List.drop_eq_nil_of_le (Nat.le_of_eq Array.length_toList)]
      exact Nat.le_refl _
/-- 'throw new E()': new; dup; invokespecial; athrow -/
theorem vx_throw0 {cc : ByteArray} {pc : Nat} (hexec : p.tables.exec = Jvm.exec) (hb : c.code = cc) (hl : l.stackTraces = false) {own cls : String} {names : List String} {ik ic mc ms : Nat} {A : Nat → Prop}
    (hown : s.vm.findClass own = some m.cls) (hcls : Bundle.fit cls = true) (hnames : ∀ n ∈ names, Bundle.fit n = true)
    (hk : (Cond.classLink own ik cls).before args s = true) (hini : (Cond.initialized cls).before args s = true) (hat : ∀ w ∈ vx_at0 own ic cls names, w.before args s = true)
    (hgood : ∀ w ∈ Cond.classLink own ik cls :: Cond.initialized cls :: vx_at0 own ic cls names, vx_ot w = true)
    (hU : vx_Zq Bundle.tN "UNASSIGNED_STACK" Bundle.steD A s s.heap) (hN : vx_Zq Bundle.tN "SUPPRESSED_SENTINEL" Bundle.listD A s s.heap) (hS : va_S A s.heap H locs) (hsize : ls.size = c.maxLocals)
    (d0 : decode cc pc = .ok (.new ik, 3)) (d3 : decode cc (pc + 3) = .ok (.dup, 1)) (d4 : decode cc (pc + 4) = .ok (.invokespecial ic, 3)) (d7 : decode cc (pc + 7) = .ok (.athrow, 1))
    (hout : ∀ x ∈ c.exceptionTable.toList, covers x (pc + 7) = false)
    (hRframes : names.length + 3 < R.frames) (hRlocals : (rest.map fun v => v.category).sum + (13 * (names.length + 1) + 42) ≤ R.locals) (hRcells : cells + 1 ≤ R.cells) (hRslots : slots + 6 ≤ R.slots) (hlocks : meth.locks = false)
    (hx : ∀ t : State, s.vm.Alike t.vm → H.size ≤ t.heap.size → (∀ q : Nat, q < H.size → t.heap[q]? = H[q]?) → XC cls s t)
    (hf : ∀ z ∈ locs, free z.base) (hc : cells + 1 ≤ mc) (hs : slots + 6 ≤ ms) :
    W p l e R s m args below meth c H locs cells slots (vx_MQ below Qc XC args s mc ms free) (F0 m pc ls rest) := by
  intro T hT X
  have htr : e.platform.stackTraces = false := (show e.platform.stackTraces = l.stackTraces by rw [X.admits.platform]).trans hl
  have Y := vx_rebase X (R' := { frames := R.frames, locals := R.locals, cells := 1, slots := 6 }) (Nat.le_refl _) (Nat.le_refl _) hRcells hRslots
  obtain ⟨s', hA⟩ : ∃ z, z = (T.setVm s.vm).setFrames (.invoking m args :: below) := ⟨_, rfl⟩
  rw [← hA] at Y
  have hvm : s'.vm = s.vm := by rw [hA]; rfl
  have hhp : s'.heap = H := by rw [hA]; exact hT
  have hW0 : s.WarmedH s'.vm := by rw [hvm]; exact State.WarmedH.refl s
  have hat' : ∀ w ∈ vx_at0 own ic cls names, w.before args s' = true := fun w hw => vx_ot_at hW0 hvm.symm (hgood w (List.mem_cons_of_mem _ (List.mem_cons_of_mem _ hw))) (hat w hw)
  have hk' : (Cond.classLink own ik cls).before args s' = true := vx_ot_at hW0 hvm.symm (hgood _ List.mem_cons_self) hk
  have hini' : (Cond.initialized cls).before args s' = true := vx_ot_at hW0 hvm.symm (hgood _ (List.mem_cons_of_mem _ List.mem_cons_self)) hini
  have hU' : vx_Zq Bundle.tN "UNASSIGNED_STACK" Bundle.steD A s' s'.heap := by rw [hhp]; exact vx_Zq.moved hW0.alike (hU.kept hS.2.1)
  have hN' : vx_Zq Bundle.tN "SUPPRESSED_SENTINEL" Bundle.listD A s' s'.heap := by rw [hhp]; exact vx_Zq.moved hW0.alike (hN.kept hS.2.1)
  have h : ∀ w ∈ Bundle.ownAtoms0 own ic cls names, w.before args s' = true := vx_own hat' (vx_isRefq hU'.1) (vx_isRefq hN'.1) hU'.2.word hN'.2.word
  have hown' : s'.vm.findClass own = some m.cls := by rw [hvm]; exact hown
  have hins : (Cond.instantiable cls 6).before args s' = true := h _ (by simp [Bundle.ownAtoms0])
  obtain ⟨vm₁, cX, kX, hfX, hkX, -, -, X₁, st1⟩ := Y.newCold hexec (own := own) (C := cls) (index := ik) (n := 6) hown' hk' hins hini'
    (g := F0 m pc ls rest) rfl (by rw [hb]; exact d0) (Nat.le_refl _) (Nat.le_refl _)
  generalize hT1 : (T.setVm vm₁).pushCell { cls := cX, slots := kX.instanceTypes.map defaultValue, vm := .none } = T1 at X₁ st1
  have hcat : (Value.ref T.heap.size).category = 1 := rfl
  have hcellA : T1.heap[T.heap.size]? = some (freshCell cX kX) := by rw [← hT1]; exact State.heap_pushCell_size _ _
  have d3' : decode c.code (pc + 3) = .ok (.dup, 1) := by rw [hb]; exact d3
  obtain ⟨U, hsteps, hrun, hend, hW, hsame, ce, hce, hO⟩ := X₁.ctorThrow0 hexec htr (own := own) (cls := cls) (names := names) (ic := ic) hown' hcls hnames h (fun x hx => nomatch hx) hfX hkX hcellA (by rw [hhp, hT]; exact Nat.le_refl _)
    (g := { method := m, pc := pc + 4, locals := ls, stack := .ref T.heap.size :: .ref T.heap.size :: rest, locked := none }) rfl hsize rfl rfl (rest := rest) rfl
    (by rw [hb]; exact d4) (by rw [hb]; exact d7) hout hRframes (by simp only [List.map_cons, List.sum_cons, hcat]; omega) hlocks
  obtain ⟨f1, f2⟩ := vx_frame hsame
  rw [hhp] at f1 f2
  have hWs : s.WarmedH U.vm := State.WarmedH.trans hW0 hW
  have hcl : s.vm.findClass cls = some ce.cls := by
    have h9 := hO.cls
    rw [hvm] at h9
    exact h9
  have hall : s.sameButNew ({ U with vm := s.vm } : State) locs mc ms := by
    subst hA
    obtain ⟨e1, e2⟩ := hsame
    rw [State.setFrames_setFrames] at e1
    have h2 : (T.setVm s.vm).sameButNew ({ U with vm := s.vm } : State) [] (0 + 1) (0 + 6) := ⟨e1, e2⟩
    have h3 := X.same.trans h2
    rw [List.append_nil] at h3
    exact h3.mono hc hs
  refine ⟨U, ?_, .threw T.heap.size, hrun, hend, Or.inr ⟨T.heap.size, rfl, cls, ce, locs, hx U hWs.alike f1 (fun q hq => f2 q hq (fun z hz => nomatch hz)), hce, hO.vm, hcl, hWs, hall, hf⟩⟩
  refine st1 _ ?_
  show Steps p.tables e below (T1.setTop { method := m, pc := pc + 3, locals := ls, stack := .ref T.heap.size :: rest, locked := none }) _
  jvm_step X₁.here [X₁.here.top, hexec, d3', Value.category]
  exact hsteps
/-- 'throw new E("text")': new; dup; ldc; invokespecial; athrow -/
theorem vx_throwS {cc : ByteArray} {pc : Nat} (hexec : p.tables.exec = Jvm.exec) (hb : c.code = cc) (hl : l.stackTraces = false) {own cls text : String} {names : List String} {ik is ic mc ms sa : Nat} {A : Nat → Prop}
    (hown : s.vm.findClass own = some m.cls) (hcls : Bundle.fit cls = true) (hnames : ∀ n ∈ names, Bundle.fit n = true)
    (hk : (Cond.classLink own ik cls).before args s = true) (hini : (Cond.initialized cls).before args s = true) (hstr : vk_R own is text sa s) (hat : ∀ w ∈ vx_atS own ic cls names, w.before args s = true)
    (hgood : ∀ w ∈ Cond.classLink own ik cls :: Cond.initialized cls :: vx_atS own ic cls names, vx_ot w = true)
    (hU : vx_Zq Bundle.tN "UNASSIGNED_STACK" Bundle.steD A s s.heap) (hN : vx_Zq Bundle.tN "SUPPRESSED_SENTINEL" Bundle.listD A s s.heap) (hS : va_S A s.heap H locs) (hsize : ls.size = c.maxLocals)
    (d0 : decode cc pc = .ok (.new ik, 3)) (d3 : decode cc (pc + 3) = .ok (.dup, 1)) (d4 : decode cc (pc + 4) = .ok (.ldc is, 2)) (d6 : decode cc (pc + 6) = .ok (.invokespecial ic, 3)) (d9 : decode cc (pc + 9) = .ok (.athrow, 1))
    (hout : ∀ x ∈ c.exceptionTable.toList, covers x (pc + 9) = false)
    (hRframes : names.length + 3 < R.frames) (hRlocals : (rest.map fun v => v.category).sum + (13 * (names.length + 1) + 43) ≤ R.locals) (hRcells : cells + 1 ≤ R.cells) (hRslots : slots + 6 ≤ R.slots) (hlocks : meth.locks = false)
    (hx : ∀ t : State, s.vm.Alike t.vm → H.size ≤ t.heap.size → (∀ q : Nat, q < H.size → t.heap[q]? = H[q]?) → XC cls s t)
    (hf : ∀ z ∈ locs, free z.base) (hc : cells + 1 ≤ mc) (hs : slots + 6 ≤ ms) :
    W p l e R s m args below meth c H locs cells slots (vx_MQ below Qc XC args s mc ms free) (F0 m pc ls rest) := by
  intro T hT X
  have htr : e.platform.stackTraces = false := (show e.platform.stackTraces = l.stackTraces by rw [X.admits.platform]).trans hl
  have Y := vx_rebase X (R' := { frames := R.frames, locals := R.locals, cells := 1, slots := 6 }) (Nat.le_refl _) (Nat.le_refl _) hRcells hRslots
  obtain ⟨s', hA⟩ : ∃ z, z = (T.setVm s.vm).setFrames (.invoking m args :: below) := ⟨_, rfl⟩
  rw [← hA] at Y
  have hvm : s'.vm = s.vm := by rw [hA]; rfl
  have hhp : s'.heap = H := by rw [hA]; exact hT
  have hW0 : s.WarmedH s'.vm := by rw [hvm]; exact State.WarmedH.refl s
  have hat' : ∀ w ∈ vx_atS own ic cls names, w.before args s' = true := fun w hw => vx_ot_at hW0 hvm.symm (hgood w (List.mem_cons_of_mem _ (List.mem_cons_of_mem _ hw))) (hat w hw)
  have hk' : (Cond.classLink own ik cls).before args s' = true := vx_ot_at hW0 hvm.symm (hgood _ List.mem_cons_self) hk
  have hini' : (Cond.initialized cls).before args s' = true := vx_ot_at hW0 hvm.symm (hgood _ (List.mem_cons_of_mem _ List.mem_cons_self)) hini
  have hU' : vx_Zq Bundle.tN "UNASSIGNED_STACK" Bundle.steD A s' s'.heap := by rw [hhp]; exact vx_Zq.moved hW0.alike (hU.kept hS.2.1)
  have hN' : vx_Zq Bundle.tN "SUPPRESSED_SENTINEL" Bundle.listD A s' s'.heap := by rw [hhp]; exact vx_Zq.moved hW0.alike (hN.kept hS.2.1)
  have h : ∀ w ∈ Bundle.ownAtoms own ic cls names, w.before args s' = true := vx_own hat' (vx_isRefq hU'.1) (vx_isRefq hN'.1) hU'.2.word hN'.2.word
  have hown' : s'.vm.findClass own = some m.cls := by rw [hvm]; exact hown
  have hins : (Cond.instantiable cls 6).before args s' = true := h _ (by simp [Bundle.ownAtoms])
  obtain ⟨vm₁, cX, kX, hfX, hkX, -, -, X₁, st1⟩ := Y.newCold hexec (own := own) (C := cls) (index := ik) (n := 6) hown' hk' hins hini'
    (g := F0 m pc ls rest) rfl (by rw [hb]; exact d0) (Nat.le_refl _) (Nat.le_refl _)
  generalize hT1 : (T.setVm vm₁).pushCell { cls := cX, slots := kX.instanceTypes.map defaultValue, vm := .none } = T1 at X₁ st1
  have hcat : (Value.ref T.heap.size).category = 1 := rfl
  have hcellA : T1.heap[T.heap.size]? = some (freshCell cX kX) := by rw [← hT1]; exact State.heap_pushCell_size _ _
  have d3' : decode c.code (pc + 3) = .ok (.dup, 1) := by rw [hb]; exact d3
  have d4' : decode c.code (pc + 4) = .ok (.ldc is, 2) := by rw [hb]; exact d4
  have hstr' : vk_R own is text sa s' := vk_R.warm hW0 hstr
  obtain ⟨U, hsteps, hrun, hend, hW, hsame, ce, hce, hO⟩ := X₁.ctorThrowS hexec htr (own := own) (cls := cls) (names := names) (ic := ic) hown' hcls hnames h (fun x hx => nomatch hx) hfX hkX hcellA (by rw [hhp, hT]; exact Nat.le_refl _) (msg := .ref sa) rfl
    (g := { method := m, pc := pc + 6, locals := ls, stack := .ref sa :: .ref T.heap.size :: .ref T.heap.size :: rest, locked := none }) rfl hsize rfl rfl (rest := rest) rfl
    (by rw [hb]; exact d6) (by rw [hb]; exact d9) hout hRframes (by simp only [List.map_cons, List.sum_cons, hcat]; omega) hlocks
  obtain ⟨f1, f2⟩ := vx_frame hsame
  rw [hhp] at f1 f2
  have hWs : s.WarmedH U.vm := State.WarmedH.trans hW0 hW
  have hcl : s.vm.findClass cls = some ce.cls := by
    have h9 := hO.cls
    rw [hvm] at h9
    exact h9
  have hall : s.sameButNew ({ U with vm := s.vm } : State) locs mc ms := by
    subst hA
    obtain ⟨e1, e2⟩ := hsame
    rw [State.setFrames_setFrames] at e1
    have h2 : (T.setVm s.vm).sameButNew ({ U with vm := s.vm } : State) [] (0 + 1) (0 + 6) := ⟨e1, e2⟩
    have h3 := X.same.trans h2
    rw [List.append_nil] at h3
    exact h3.mono hc hs
  refine ⟨U, ?_, .threw T.heap.size, hrun, hend, Or.inr ⟨T.heap.size, rfl, cls, ce, locs, hx U hWs.alike f1 (fun q hq => f2 q hq (fun z hz => nomatch hz)), hce, hO.vm, hcl, hWs, hall, hf⟩⟩
  refine st1 _ ?_
  show Steps p.tables e below (T1.setTop { method := m, pc := pc + 3, locals := ls, stack := .ref T.heap.size :: rest, locked := none }) _
  jvm_step X₁.here [X₁.here.top, hexec, d3', Value.category]
  exact X₁.ldcString hexec (own := own) (text := text) (index := is) (a := sa) hown' hstr'.1 hstr'.2
    (g := { method := m, pc := pc + 4, locals := ls, stack := .ref T.heap.size :: .ref T.heap.size :: rest, locked := none }) rfl d4' _ hsteps
/-- 'throw new E("text")', the text by a wide index -/
theorem vx_throwSW {cc : ByteArray} {pc : Nat} (hexec : p.tables.exec = Jvm.exec) (hb : c.code = cc) (hl : l.stackTraces = false) {own cls text : String} {names : List String} {ik is ic mc ms sa : Nat} {A : Nat → Prop}
    (hown : s.vm.findClass own = some m.cls) (hcls : Bundle.fit cls = true) (hnames : ∀ n ∈ names, Bundle.fit n = true)
    (hk : (Cond.classLink own ik cls).before args s = true) (hini : (Cond.initialized cls).before args s = true) (hstr : vk_R own is text sa s) (hat : ∀ w ∈ vx_atS own ic cls names, w.before args s = true)
    (hgood : ∀ w ∈ Cond.classLink own ik cls :: Cond.initialized cls :: vx_atS own ic cls names, vx_ot w = true)
    (hU : vx_Zq Bundle.tN "UNASSIGNED_STACK" Bundle.steD A s s.heap) (hN : vx_Zq Bundle.tN "SUPPRESSED_SENTINEL" Bundle.listD A s s.heap) (hS : va_S A s.heap H locs) (hsize : ls.size = c.maxLocals)
    (d0 : decode cc pc = .ok (.new ik, 3)) (d3 : decode cc (pc + 3) = .ok (.dup, 1)) (d4 : decode cc (pc + 4) = .ok (.ldc_w is, 3)) (d7 : decode cc (pc + 7) = .ok (.invokespecial ic, 3)) (d10 : decode cc (pc + 10) = .ok (.athrow, 1))
    (hout : ∀ x ∈ c.exceptionTable.toList, covers x (pc + 10) = false)
    (hRframes : names.length + 3 < R.frames) (hRlocals : (rest.map fun v => v.category).sum + (13 * (names.length + 1) + 43) ≤ R.locals) (hRcells : cells + 1 ≤ R.cells) (hRslots : slots + 6 ≤ R.slots) (hlocks : meth.locks = false)
    (hx : ∀ t : State, s.vm.Alike t.vm → H.size ≤ t.heap.size → (∀ q : Nat, q < H.size → t.heap[q]? = H[q]?) → XC cls s t)
    (hf : ∀ z ∈ locs, free z.base) (hc : cells + 1 ≤ mc) (hs : slots + 6 ≤ ms) :
    W p l e R s m args below meth c H locs cells slots (vx_MQ below Qc XC args s mc ms free) (F0 m pc ls rest) := by
  intro T hT X
  have htr : e.platform.stackTraces = false := (show e.platform.stackTraces = l.stackTraces by rw [X.admits.platform]).trans hl
  have Y := vx_rebase X (R' := { frames := R.frames, locals := R.locals, cells := 1, slots := 6 }) (Nat.le_refl _) (Nat.le_refl _) hRcells hRslots
  obtain ⟨s', hA⟩ : ∃ z, z = (T.setVm s.vm).setFrames (.invoking m args :: below) := ⟨_, rfl⟩
  rw [← hA] at Y
  have hvm : s'.vm = s.vm := by rw [hA]; rfl
  have hhp : s'.heap = H := by rw [hA]; exact hT
  have hW0 : s.WarmedH s'.vm := by rw [hvm]; exact State.WarmedH.refl s
  have hat' : ∀ w ∈ vx_atS own ic cls names, w.before args s' = true := fun w hw => vx_ot_at hW0 hvm.symm (hgood w (List.mem_cons_of_mem _ (List.mem_cons_of_mem _ hw))) (hat w hw)
  have hk' : (Cond.classLink own ik cls).before args s' = true := vx_ot_at hW0 hvm.symm (hgood _ List.mem_cons_self) hk
  have hini' : (Cond.initialized cls).before args s' = true := vx_ot_at hW0 hvm.symm (hgood _ (List.mem_cons_of_mem _ List.mem_cons_self)) hini
  have hU' : vx_Zq Bundle.tN "UNASSIGNED_STACK" Bundle.steD A s' s'.heap := by rw [hhp]; exact vx_Zq.moved hW0.alike (hU.kept hS.2.1)
  have hN' : vx_Zq Bundle.tN "SUPPRESSED_SENTINEL" Bundle.listD A s' s'.heap := by rw [hhp]; exact vx_Zq.moved hW0.alike (hN.kept hS.2.1)
  have h : ∀ w ∈ Bundle.ownAtoms own ic cls names, w.before args s' = true := vx_own hat' (vx_isRefq hU'.1) (vx_isRefq hN'.1) hU'.2.word hN'.2.word
  have hown' : s'.vm.findClass own = some m.cls := by rw [hvm]; exact hown
  have hins : (Cond.instantiable cls 6).before args s' = true := h _ (by simp [Bundle.ownAtoms])
  obtain ⟨vm₁, cX, kX, hfX, hkX, -, -, X₁, st1⟩ := Y.newCold hexec (own := own) (C := cls) (index := ik) (n := 6) hown' hk' hins hini'
    (g := F0 m pc ls rest) rfl (by rw [hb]; exact d0) (Nat.le_refl _) (Nat.le_refl _)
  generalize hT1 : (T.setVm vm₁).pushCell { cls := cX, slots := kX.instanceTypes.map defaultValue, vm := .none } = T1 at X₁ st1
  have hcat : (Value.ref T.heap.size).category = 1 := rfl
  have hcellA : T1.heap[T.heap.size]? = some (freshCell cX kX) := by rw [← hT1]; exact State.heap_pushCell_size _ _
  have d3' : decode c.code (pc + 3) = .ok (.dup, 1) := by rw [hb]; exact d3
  have d4' : decode c.code (pc + 4) = .ok (.ldc_w is, 3) := by rw [hb]; exact d4
  have hstr' : vk_R own is text sa s' := vk_R.warm hW0 hstr
  obtain ⟨U, hsteps, hrun, hend, hW, hsame, ce, hce, hO⟩ := X₁.ctorThrowS hexec htr (own := own) (cls := cls) (names := names) (ic := ic) hown' hcls hnames h (fun x hx => nomatch hx) hfX hkX hcellA (by rw [hhp, hT]; exact Nat.le_refl _) (msg := .ref sa) rfl
    (g := { method := m, pc := pc + 7, locals := ls, stack := .ref sa :: .ref T.heap.size :: .ref T.heap.size :: rest, locked := none }) rfl hsize rfl rfl (rest := rest) rfl
    (by rw [hb]; exact d7) (by rw [hb]; exact d10) hout hRframes (by simp only [List.map_cons, List.sum_cons, hcat]; omega) hlocks
  obtain ⟨f1, f2⟩ := vx_frame hsame
  rw [hhp] at f1 f2
  have hWs : s.WarmedH U.vm := State.WarmedH.trans hW0 hW
  have hcl : s.vm.findClass cls = some ce.cls := by
    have h9 := hO.cls
    rw [hvm] at h9
    exact h9
  have hall : s.sameButNew ({ U with vm := s.vm } : State) locs mc ms := by
    subst hA
    obtain ⟨e1, e2⟩ := hsame
    rw [State.setFrames_setFrames] at e1
    have h2 : (T.setVm s.vm).sameButNew ({ U with vm := s.vm } : State) [] (0 + 1) (0 + 6) := ⟨e1, e2⟩
    have h3 := X.same.trans h2
    rw [List.append_nil] at h3
    exact h3.mono hc hs
  refine ⟨U, ?_, .threw T.heap.size, hrun, hend, Or.inr ⟨T.heap.size, rfl, cls, ce, locs, hx U hWs.alike f1 (fun q hq => f2 q hq (fun z hz => nomatch hz)), hce, hO.vm, hcl, hWs, hall, hf⟩⟩
  refine st1 _ ?_
  show Steps p.tables e below (T1.setTop { method := m, pc := pc + 3, locals := ls, stack := .ref T.heap.size :: rest, locked := none }) _
  jvm_step X₁.here [X₁.here.top, hexec, d3', Value.category]
  exact X₁.ldcStringW hexec (own := own) (text := text) (index := is) (a := sa) hown' hstr'.1 hstr'.2
    (g := { method := m, pc := pc + 4, locals := ls, stack := .ref T.heap.size :: .ref T.heap.size :: rest, locked := none }) rfl d4' _ hsteps
end Ends
section Bodies
variable {l : Launch}
theorem vx_ofW {y : MethodName} {ws ws' : List Cond} {rm : Room} {Pc : Array Value → State → Prop} {Qc : Array Value → State → Outcome → State → Prop} {XC : String → State → State → Prop} {mc ms : Nat} {free : Addr → Prop} {cc : ByteArray} {maxL : Nat} {ret : Option FieldType}
    (hy : plainName y.cls = true) (hw : ws = Cond.code y cc maxL ret :: ws')
    (body : ∀ p e s m args below meth c s₁, BodyLoose p l y (headSpec ws rm) cc maxL ret e s m args below meth c s₁ → c.maxLocals = maxL → (∀ x ∈ c.exceptionTable.toList, False) → Pc args s →
      W p l e (headSpec ws rm).room s m args below meth c s.heap [] 0 0 (vx_MQ below Qc XC args s mc ms free) (entryFrame m args maxL)) : vx_Met l y ws rm Pc Qc XC mc ms free := by
  refine MetFree.of_bodyS (code := cc) (maxLocals := maxL) (ret := ret) hy ?_ ?_
  · intro args s m h hn
    obtain ⟨meth, c, h1, h2, h3, h4, h5, h6, -, -⟩ := Cond.code_spec hn (atoms_spec (ws := ws) h _ (by rw [hw]; exact List.mem_cons_self))
    exact ⟨meth, c, h1, h2, h3, h4, h5, h6⟩
  · intro p e s m args below meth c s₁ B hml hP _
    have hh0 : s₁.heap = s.heap := by rw [B.state]; rfl
    have ht : ∀ x ∈ c.exceptionTable.toList, False := by
      obtain ⟨meth9, c9, h1, h2, -, -, -, -, h7, -⟩ := Cond.code_spec B.named (atoms_spec (ws := ws) B.pre _ (by rw [hw]; exact List.mem_cons_self))
      cases Option.some.inj (h1.symm.trans B.method)
      cases Option.some.inj (h2.symm.trans (Stand.of_body B).code)
      intro x hx
      rw [Array.isEmpty_iff.mp h7] at hx
      cases hx
    obtain ⟨t, a1, o, b1, b2, b3⟩ := body p e s m args below meth c s₁ B hml ht hP s₁ hh0 (Stand.of_body B)
    exact ⟨t, o, a1, b1, b2, b3⟩
/-- the table of a body with handlers -/
theorem vx_table {p : Program} {x y : MethodName} {S : Spec} {cc bytes : ByteArray} {maxL maxL' : Nat} {ret ret' : Option FieldType} {e : Env} {s s₁ : State} {m : MethodId} {args : Array Value} {below : List Frame} {meth : Method} {c : Code} {hh : List (Nat × Nat × Nat × Nat)}
    (B : BodyLoose p l y S cc maxL ret e s m args below meth c s₁) (h : (Cond.codeWith y bytes maxL' ret' hh).before args s = true) : c.exceptionTable.toList = tableOf hh := by
  obtain ⟨m9, meth9, c9, hn9, h1, h2, -, -, h6, -⟩ := Cond.codeWith_spec h
  cases Option.some.inj (hn9.symm.trans B.named)
  cases Option.some.inj (h1.symm.trans B.method)
  cases Option.some.inj (h2.symm.trans (Stand.of_body B).code)
  rw [← h6, table_eq]
end Bodies
end VXA
/-! ===== END ===== -/
/-! ===== BEGIN a static call of a method with an exception table ===== -/
section VXS
variable {p : Program} {l : Launch} {e : Env} {R : Room} {s : State} {m : MethodId} {args : Array Value} {below : List Frame} {meth : Method} {c : Code} {T : State} {H : Heap} {locs : List Loc} {cells slots : Nat}
abbrev vx_CSW (R : Room) (s : State) (args : Array Value) (own : String) (index : Nat) (y : MethodName) (bytes : ByteArray) (maxL : Nat) (ret : Option FieldType) (hh : List (Nat × Nat × Nat × Nat)) (ws : List Cond) (rm : Room) (mc ms n : Nat) : Prop :=
  (rm.cells = mc ∧ rm.slots = ms ∧ rm.frames + 1 ≤ R.frames ∧ 8 + (maxL + 11) + rm.locals ≤ R.locals ∧ (∀ w ∈ ws, ∀ (a' : Array Value) (U : State), s.WarmedH U.vm → w.before a' U = true) ∧ Cond.codeWith y bytes maxL ret hh ∈ ws) ∧
  (Cond.codeWith y bytes maxL ret hh).before args s = true ∧ (Cond.initialized y.cls).before args s = true ∧ (y.cls ≠ "java/lang/invoke/MethodHandle" ∧ y.cls ≠ "java/lang/invoke/VarHandle") ∧
  (∀ sig, parseMethodDescriptor y.desc = some sig → n = sig.parameters.length) ∧ (Cond.methodLink own index y).before args s = true ∧ (Cond.static y).before args s = true
theorem vx_cwSW {own : String} {index maxL mc ms : Nat} {y : MethodName} {bytes : ByteArray} {ret : Option FieldType} {hh : List (Nat × Nat × Nat × Nat)} {Ts ws ws' : List Cond} {rm : Room} (n : Nat) (ht : ∀ w ∈ Ts, w.before args s = true) (hT : GoodIn Ts (va_wsS own index y ws)) (hw : ws = Cond.codeWith y bytes maxL ret hh :: ws') (hrc : rm.cells = mc) (hrs : rm.slots = ms)
    (hd : y.cls ≠ "java/lang/invoke/MethodHandle" ∧ y.cls ≠ "java/lang/invoke/VarHandle" ∧ (parseMethodDescriptor y.desc).map (fun d => d.parameters.length) = some n) (hR : rm.frames + 1 ≤ R.frames ∧ 8 + (maxL + 11) + rm.locals ≤ R.locals) :
    vx_CSW R s args own index y bytes maxL ret hh ws rm mc ms n := by
  have ok : ∀ w ∈ va_wsS own index y ws, w.before args s = true := fun w h => ht w (hT w h).1
  have hG : GoodIn Ts ws := fun w h => hT w (by unfold va_wsS; exact List.mem_append_right _ h)
  have hc : Cond.codeWith y bytes maxL ret hh ∈ ws := by rw [hw]; exact List.mem_cons_self
  refine ⟨⟨hrc, hrs, hR.1, hR.2, pay_in ht hG, hc⟩, ht _ (hG _ hc).1, ok _ (by simp [va_wsS]), ⟨hd.1, hd.2.1⟩, fun sig h => ?_, ok _ (by simp [va_wsS]), ok _ (by simp [va_wsS])⟩
  have h2 := hd.2.2
  rw [h] at h2
  exact (Option.some.inj h2).symm
theorem vx_callSW (X : Stand p l e R s m args below meth c T locs cells slots) (hexec : p.tables.exec = Jvm.exec) {own : String} {index : Nat} {y : MethodName} {bytes : ByteArray} {maxL : Nat} {ret : Option FieldType} {hh : List (Nat × Nat × Nat × Nat)}
    (hown : s.vm.findClass own = some m.cls) (hlink : (Cond.methodLink own index y).before args s = true) (hstat : (Cond.static y).before args s = true) (hinit : (Cond.initialized y.cls).before args s = true)
    (hcode : (Cond.codeWith y bytes maxL ret hh).before args s = true) (hy : y.cls ≠ "java/lang/invoke/MethodHandle" ∧ y.cls ≠ "java/lang/invoke/VarHandle")
    {W9 : Nat} {Pre : Pt → Array Value → Prop} {Post : Pt → Array Value → Option Value → Pt → Prop} (hK : Back l R p e below s args y 3 W9 Pre Post)
    {g : JFrame} (hg : g.method = m) (hsize : g.locals.size = c.maxLocals) {argsL rest : List Value} (hlen : ∀ sig, parseMethodDescriptor y.desc = some sig → argsL.length = sig.parameters.length)
    (hstack : g.stack = argsL.reverse ++ rest) (hW : 2 * g.monitorRoom + (rest.map fun v => v.category).sum ≤ W9) (hdg : decode c.code g.pc = .ok (.invokestatic index, 3))
    (hpre : ∀ vm₁, s.WarmedH vm₁ → Pre ⟨T.setVm vm₁, locs, cells, slots⟩ argsL.toArray) :
    ∃ (v : Option Value) (vm₁ : Vm) (B : Pt), s.WarmedH vm₁ ∧ Stand p l e R s m args below meth c B.U B.locs B.cells B.slots ∧ Post ⟨T.setVm vm₁, locs, cells, slots⟩ argsL.toArray v B ∧
      ∀ target, Steps p.tables e below (B.U.setTop { g with pc := g.pc + 3, stack := v.toList ++ rest }) target → Steps p.tables e below (T.setTop g) target := by
  obtain ⟨mk, methM, cM, hnamed, hmethM, -, -, -, -, -, -, hsigM⟩ := Cond.codeWith_spec hcode
  have hstatic : methM.isStatic = true := Cond.static_spec hnamed hmethM hstat
  obtain ⟨kP, hkP, -⟩ := className_of_methodNamed hnamed
  have hinitP : kP.init = .initialized := Cond.initialized_spec (findClass_of_methodNamed hnamed) hkP hinit
  obtain ⟨vm₁, X₁, hstep₁⟩ := X.invokestatic hexec hown hlink hnamed hmethM hstatic hkP hinitP hy (g := g) hg (argsL := argsL) (rest := rest) (hlen _ hsigM) hstack hdg
  obtain ⟨v, B, X', hpost, hsteps⟩ := hK m meth c ⟨T.setVm vm₁, locs, cells, slots⟩ { g with stack := rest } (.invokestatic index) mk argsL.toArray X₁ hg hsize hdg hW (X₁.named hnamed) (hpre vm₁ X₁.warmed)
  exact ⟨v, vm₁, B, X₁.warmed, X', hpost, fun target h => hstep₁ _ fun acts => by rw [doInvoke_state]; exact hsteps.trans h⟩
theorem vx_runSW {y : MethodName} {bytes cc : ByteArray} {maxL nL mc ms n index : Nat} {ret : Option FieldType} {hh : List (Nat × Nat × Nat × Nat)} {ws : List Cond} {rm : Room} {Pc : Array Value → State → Prop} {Qc : Array Value → State → Outcome → State → Prop} {free : Addr → Prop} {Ts : List Cond} {own : String} {As rest : List Value} {g : JFrame}
    (S : CallFix p m c cc nL s args Ts own) (hM : Met l y ws rm Pc Qc mc ms free) (cw : vx_CSW R s args own index y bytes maxL ret hh ws rm mc ms n) (hp : PreS s H Pc As)
    (hg : g.method = m) (hn : As.length = n) (hsize : g.locals.size = nL) (hstack : g.stack = As.reverse ++ rest) (hW : 2 * g.monitorRoom + (rest.map fun v => v.category).sum ≤ 8) (hdg : decode cc g.pc = .ok (.invokestatic index, 3)) (hf : cells + mc ≤ R.cells ∧ slots + ms ≤ R.slots) :
    va_Run p l e R s m args below meth c H locs cells slots mc ms g rest (Qc As.toArray) (free) := by
  obtain ⟨⟨hrc, hrs, hfr, hlo, hws, hcw⟩, hcode, hini, hy, hlen, hl, hstt⟩ := cw
  have hK : Back l R p e below s args y 3 8 (PreOf R mc ms Pc) (PostOf Qc mc ms free) := va_backW (hh := hh) (bytes := bytes) (maxL := maxL) (ret := ret) hM hp.1 hrc hrs hfr hlo hws hcw (fun a' U hW => word_at hW (Or.inl (by first | rfl | simp [Cond.onTables, Cond.keeps, Cond.steady])) hini)
  obtain ⟨hx, hb, hml, ho, -⟩ := S
  intro T hT X
  obtain ⟨v, vm₁, ⟨U', l2, c2, s2⟩, hW₁, X', ⟨g', mk, t, L, e1, e2, hq, h1, hL, h2, h3⟩, st⟩ := vx_callSW X hx (hh := hh) (bytes := bytes) (maxL := maxL) (ret := ret) ho hl hstt hini hcode hy hK hg (hsize.trans hml.symm) (argsL := As) (rest := rest) (fun sig h => hn.trans (hlen sig h)) hstack hW (by rw [hb]; exact hdg)
    (fun vm₁ hW₁ => ⟨hf.1, hf.2, hp.2 (T.setVm vm₁) hT hW₁⟩)
  dsimp only [Pt.U, Pt.locs, Pt.cells, Pt.slots] at X' e1 e2 h1 h2 h3 st
  subst h1; subst h2; subst h3
  exact ⟨v, (T.setVm vm₁).calling g' mk As.toArray, t, U', L, hT, X', hL, e1, e2, hq, st⟩
/-- not caught here, past rows that name other classes: it goes on to the caller -/
theorem vx_outP {p : Program} {l : Launch} {e : Env} {R : Room} {s : State} {m : MethodId} {args : Array Value} {below : List Frame} {meth : Method} {c : Code} {H : Heap} {locs : List Loc} {cells slots : Nat} {free : Addr → Prop} {ls : Array Slot} {rest : List Value} {Qc : Array Value → State → Outcome → State → Prop} {XC : String → State → State → Prop}
    {pc : Nat} {own E : String} {ce : Cell} {q : Addr} {mc ms : Nat} (hown : s.vm.findClass own = some m.cls) (hlocks : meth.locks = false)
    (hpass : ∀ z ∈ c.exceptionTable.toList, covers z pc = false ∨ (z.catchType ≠ 0 ∧ ∃ nm : String, (Cond.classLink own z.catchType nm).before args s = true ∧ va_Nc E nm s)) (hcell : H[q]? = some ce) (hv : ce.vm = .none) (hcl : s.vm.findClass E = some ce.cls)
    (hx : ∀ t : State, t.heap = H → s.vm.Alike t.vm → XC E s t) (hf : ∀ z ∈ locs, free z.base) (hc : cells ≤ mc) (hs : slots ≤ ms) :
    vx_W p l e R s m args below meth c H locs cells slots (vx_MQ below Qc XC args s mc ms free) (F0 m pc ls rest) q := by
  intro T hT X
  have hpl : e.platform.magicAccessors = ({} : Platform).magicAccessors := by rw [X.admits.platform]
  obtain ⟨vm', hW', X', st⟩ := X.outThrough hlocks q (g := F0 m pc ls rest) rfl rfl rfl (cell := ce) (by rw [hT]; exact hcell) (by rw [hv]; rfl)
    (by obtain ⟨k9, h9, -⟩ := Vm.findClass_spec hcl; exact ⟨k9, h9⟩) (fun z hz => by
      rcases hpass z hz with h | ⟨hz0, nm, hl1, hn1⟩
      · exact Or.inl h
      · obtain ⟨c6, hc6, hcl6⟩ := Cond.classLink_spec hown hl1 e.platform hpl
        obtain ⟨a8, b8, h1, h2, h3⟩ := hn1
        cases Option.some.inj (h1.symm.trans hcl)
        cases Option.some.inj (h2.symm.trans hc6)
        exact Or.inr ⟨hz0, _, hcl6, h3⟩)
  obtain ⟨g₀, hfr⟩ := X'.frames_eq
  have hcell9 : ((T.setVm vm').setFrames (.throwing q :: below)).heap[q]? = some ce := by
    show T.heap[q]? = some ce
    rw [hT]; exact hcell
  have hend : Ended ((T.setVm vm').setFrames (.throwing q :: below)) below (.threw q) := State.frames_setFrames _ (State.cur_lt_of_frames hfr)
  refine ⟨(T.setVm vm').setFrames (.throwing q :: below), ?_, .threw q, X'.here.running, hend, Or.inr ⟨q, rfl, E, ce, locs, hx _ hT (X'.ends _).1.alike, hcell9, hv, hcl, (X'.ends _).1, (X'.ends _).2.mono hc hs, hf⟩⟩
  rw [X.pushThrowing_eq]
  exact st
/-- a thing of a world lies in the heap -/
theorem vx_lt {D : va_G} {cl : List vw_C} {ws : va_W} {H1 : Heap} (h : va_P D cl ws H1) {k : Nat} {q : Nat × va_E} (hk : ws[k]? = some q) : q.1 < H1.size := (h k q hk).lt
end VXS
/-! ===== END ===== -/
/-! ===== BEGIN methods with a table of their own: called by a name, returning or throwing ===== -/
section VXH
/-! vx_backW, vx_callVX, vx_callSX, vx_callVW, vx_runVW, vx_runVX, vx_runSX, vx_ofWH follow the same proofs as their sisters above (Free/Laws.lean, Shelf42/LK1.lean); vx_outP calls Shelf42/NT130.lean (outThrough). -/
section
variable {l : Launch} {R : Room} {p : Program} {e : Env} {below : List Frame} {s : State} {sargs : Array Value} {y : MethodName} {len W9 : Nat}
theorem vx_backW {ws : List Cond} {rm : Room} {Pc : Array Value → State → Prop} {Qc : Array Value → State → Outcome → State → Prop} {XC : String → State → State → Prop} {mc ms : Nat} {free : Addr → Prop} {bytes : ByteArray} {maxL : Nat} {ret : Option FieldType} {hh : List (Nat × Nat × Nat × Nat)}
    (hM : vx_Met l y ws rm Pc Qc XC mc ms free) (hblind : FrameBlind Pc) (hrc : rm.cells = mc) (hrs : rm.slots = ms)
    (hframes : rm.frames + 1 ≤ R.frames) (hlocals : W9 + (maxL + 11) + rm.locals ≤ R.locals)
    (hws : ∀ w ∈ ws, ∀ a' U, s.WarmedH U.vm → w.before a' U = true) (hcode : Cond.codeWith y bytes maxL ret hh ∈ ws) (hinit : ∀ a' U, s.WarmedH U.vm → (Cond.initialized y.cls).before a' U = true) :
    vx_Back l R p e below s sargs y len W9 (PreOf R mc ms Pc) (PostOf Qc mc ms free) (vx_Post XC mc ms free) := by
  intro m meth c A g ig mk a X hg hsize hdg hW hn hp
  have h1 : (headSpec ws rm).pre.before a A.U = true := atoms_intro fun w hw => hws w hw _ _ X.warmed
  have h2 : (Cond.codeWith y bytes maxL ret hh).before a A.U = true := hws _ hcode _ _ X.warmed
  have h3 : (Cond.initialized y.cls).before a A.U = true := hinit _ _ X.warmed
  have h4 : A.cells + (headSpec ws rm).room.cells ≤ R.cells := by rw [show (headSpec ws rm).room.cells = mc from hrc]; exact hp.1
  have h5 : A.slots + (headSpec ws rm).room.slots ≤ R.slots := by rw [show (headSpec ws rm).room.slots = ms from hrs]; exact hp.2.1
  have hPc : Pc a (A.U.calling g mk a) := hblind _ _ _ _ hp.2.2
  obtain ⟨U, Ls, c0, s0⟩ := A
  dsimp only [Pt.U, Pt.locs, Pt.cells, Pt.slots] at h1 h2 h3 h4 h5 X hn hPc ⊢
  obtain ⟨m9, methY, cY, hn9, hmY, hcY, -, hlY, -⟩ := Cond.codeWith_spec h2
  cases Option.some.inj (hn9.symm.trans hn)
  obtain ⟨kY, hkY, -⟩ := className_of_methodNamed hn
  have hinitY : kY.init = .initialized := Cond.initialized_spec (findClass_of_methodNamed hn) hkY h3
  have h : At U g.method c below := by rw [hg]; exact X.here
  have hlocals9 : W9 + (maxL + 11) + (headSpec ws rm).room.locals ≤ R.locals := hlocals
  have happ : (headSpec ws rm).appliesLoose y e.platform (U.calling g mk a) = true :=
    Spec.appliesLoose_calling (g := g) h hdg hn hkY hinitY
      (X.room_calling (g := g) (R' := (headSpec ws rm).room) hsize hmY hcY hframes (by rw [hlY]; omega) h4 h5) h1
  obtain ⟨mid, hmid⟩ := h.above
  have hfr : (U.setTop g).frames = (.java g :: mid) ++ below := by rw [State.frames_setTop' g h.top, hmid]; rfl
  obtain ⟨o, s₂, hsteps, -, hend, hq⟩ := Steps.callFree hM p X.admits X.cas X.clock (acts := []) hfr happ hPc trivial
  have hq' : vx_Q Qc XC mc ms free a (U.calling g mk a) o s₂ := hq
  rw [State.frames_setTop' g h.top] at hend
  obtain ⟨g₀, hg0⟩ := Option.isSome_iff_exists.mp h.top
  obtain ⟨r, hr⟩ := State.topJava?_eq_some.mp hg0
  have hr' : (({ U with heap := s₂.heap, slotsUsed := s₂.slotsUsed } : State).setVm s₂.vm).frames = .java g₀ :: r := hr
  rcases hq' with ⟨hqc, L, hfe, hL⟩ | ⟨q, rfl, E, ce, L, hx, hce, hcv, hcl, hW₂, hsm, hL⟩
  · obtain ⟨⟨v, rfl⟩, hW₂, e2, q2, q3, q4, q5, q6⟩ := id hfe
    have e3 : s₂ = ({ (U.calling g mk a).setFrames s₂.frames with heap := s₂.heap, slotsUsed := s₂.slotsUsed } : State).setVm s₂.vm := by
      have : s₂ = ({ s₂ with vm := (U.calling g mk a).vm } : State).setVm s₂.vm := rfl
      rw [e2] at this
      exact this
    obtain ⟨c₂, i₂, len₂, hc₂, hd₂, hf₂⟩ := hend
    have hW' : U.WarmedH s₂.vm := hW₂
    have hcc : c₂ = c := by
      have h1 : s₂.code? g.method = U.code? g.method := by
        rw [State.code?_eq, State.code?_eq, hW'.alike.method?]
      exact Option.some.inj (hc₂.symm.trans (h1.trans h.code))
    subst hcc
    have hlen : len₂ = len := by rw [hdg] at hd₂; cases hd₂; rfl
    subst hlen
    have hs₂ : s₂ = (({ U with heap := s₂.heap, slotsUsed := s₂.slotsUsed } : State).setVm s₂.vm).setTop { g with pc := g.pc + len₂, stack := v.toList ++ g.stack } := by
      refine e3.trans ?_
      rw [hf₂, State.calling_eq h.top, State.setFrames_setFrames, State.setTop_of_frames _ hr', hr]
      rfl
    have hsame : U.sameButNew ({ U with heap := s₂.heap, slotsUsed := s₂.slotsUsed } : State) L mc ms := by
      refine ⟨?_, q2, q3, q4, q5, q6⟩
      obtain ⟨t, ht, -⟩ := State.frames_cons hr
      show ({ U with heap := s₂.heap, slotsUsed := s₂.slotsUsed } : State) = { U.setFrames U.frames with heap := s₂.heap, slotsUsed := s₂.slotsUsed }
      rw [State.setFrames_self ht]
    subst hg
    refine Or.inl ⟨v, ⟨(({ U with heap := s₂.heap, slotsUsed := s₂.slotsUsed } : State).setVm s₂.vm), Ls ++ L, c0 + mc, s0 + ms⟩,
      ⟨X.admits, X.cas, X.clock, X.frames, X.room, X.hears, X.method, X.code, (X.here.setHeapUsed s₂.heap s₂.slotsUsed).setVm hW'.alike, X.tail, State.WarmedH.trans X.warmed hW', X.limits, X.bytes, X.same.trans (hsame.setVm s.vm)⟩,
      ⟨g, mk, s₂, L, rfl, rfl, hqc, rfl, hL, rfl, rfl⟩, ?_⟩
    show Steps p.tables e below _ ((({ U with heap := s₂.heap, slotsUsed := s₂.slotsUsed } : State).setVm s₂.vm).setTop { g with pc := g.pc + len₂, stack := v.toList ++ g.stack })
    rw [← hs₂]
    exact hsteps
  · obtain ⟨e2, q2, q3, q4, q5, q6⟩ := id hsm
    have e3 : s₂ = ({ (U.calling g mk a).setFrames s₂.frames with heap := s₂.heap, slotsUsed := s₂.slotsUsed } : State).setVm s₂.vm := by
      have : s₂ = ({ s₂ with vm := (U.calling g mk a).vm } : State).setVm s₂.vm := rfl
      rw [e2] at this
      exact this
    have hf₂ : s₂.frames = .throwing q :: .java g :: U.frames.tail := hend
    have hW' : U.WarmedH s₂.vm := hW₂
    have hs₂ : s₂ = ((({ U with heap := s₂.heap, slotsUsed := s₂.slotsUsed } : State).setVm s₂.vm).setTop g).pushFrame (.throwing q) := by
      refine e3.trans ?_
      rw [hf₂, State.calling_eq h.top, State.setFrames_setFrames, State.pushFrame, State.frames_setTop _ hr', State.setTop_of_frames _ hr', State.setFrames_setFrames, hr]
      rfl
    have hsame : U.sameButNew ({ U with heap := s₂.heap, slotsUsed := s₂.slotsUsed } : State) L mc ms := by
      refine ⟨?_, q2, q3, q4, q5, q6⟩
      obtain ⟨t, ht, -⟩ := State.frames_cons hr
      show ({ U with heap := s₂.heap, slotsUsed := s₂.slotsUsed } : State) = { U.setFrames U.frames with heap := s₂.heap, slotsUsed := s₂.slotsUsed }
      rw [State.setFrames_self ht]
    subst hg
    refine Or.inr ⟨q, ⟨(({ U with heap := s₂.heap, slotsUsed := s₂.slotsUsed } : State).setVm s₂.vm), Ls ++ L, c0 + mc, s0 + ms⟩,
      ⟨X.admits, X.cas, X.clock, X.frames, X.room, X.hears, X.method, X.code, (X.here.setHeapUsed s₂.heap s₂.slotsUsed).setVm hW'.alike, X.tail, State.WarmedH.trans X.warmed hW', X.limits, X.bytes, X.same.trans (hsame.setVm s.vm)⟩,
      ⟨g, mk, s₂, L, E, ce, rfl, rfl, hx, hce, hcv, hcl, rfl, hL, rfl, rfl⟩, ?_⟩
    show Steps p.tables e below _ (((({ U with heap := s₂.heap, slotsUsed := s₂.slotsUsed } : State).setVm s₂.vm).setTop g).pushFrame (.throwing q))
    rw [← hs₂]
    exact hsteps
end
variable {p : Program} {l : Launch} {e : Env} {R : Room} {s : State} {m : MethodId} {args : Array Value} {below : List Frame} {meth : Method} {c : Code} {T : State} {H : Heap} {locs : List Loc} {cells slots : Nat}
theorem vx_callVX (X : Stand p l e R s m args below meth c T locs cells slots) (hexec : p.tables.exec = Jvm.exec) {own C : String} {index : Nat} {y : MethodName} {bytes : ByteArray} {maxL : Nat} {ret : Option FieldType} {hh : List (Nat × Nat × Nat × Nat)}
    (hown : s.vm.findClass own = some m.cls) (hlink : (Cond.methodLink own index y).before args s = true) (hinst : (Cond.instanceMethod y).before args s = true) (hsel : (Cond.selects C y y).before args s = true)
    (hcode : (Cond.codeWith y bytes maxL ret hh).before args s = true) (hy : y.cls ≠ "java/lang/invoke/MethodHandle" ∧ y.cls ≠ "java/lang/invoke/VarHandle")
    {W9 : Nat} {Pre : Pt → Array Value → Prop} {Post : Pt → Array Value → Option Value → Pt → Prop} {PostX : Pt → Array Value → Addr → Pt → Prop} (hK : vx_Back l R p e below s args y 3 W9 Pre Post PostX)
    {b : Addr} {cellB : Cell} (hcell : T.heap[b]? = some cellB) (hobj : cellB.vm.isStatics = false) (hcls : s.vm.findClass C = some cellB.cls)
    {g : JFrame} (hg : g.method = m) (hsize : g.locals.size = c.maxLocals) {argsL rest : List Value} (hlen : ∀ sig, parseMethodDescriptor y.desc = some sig → argsL.length = sig.parameters.length)
    (hstack : g.stack = argsL.reverse ++ .ref b :: rest) (hW : 2 * g.monitorRoom + (rest.map fun v => v.category).sum ≤ W9) (hdg : decode c.code g.pc = .ok (.invokevirtual index, 3))
    (hpre : ∀ vm₁, s.WarmedH vm₁ → Pre ⟨T.setVm vm₁, locs, cells, slots⟩ (Value.ref b :: argsL).toArray) :
    (∃ (v : Option Value) (vm₁ : Vm) (B : Pt), s.WarmedH vm₁ ∧ Stand p l e R s m args below meth c B.U B.locs B.cells B.slots ∧ Post ⟨T.setVm vm₁, locs, cells, slots⟩ (Value.ref b :: argsL).toArray v B ∧
      ∀ target, Steps p.tables e below (B.U.setTop { g with pc := g.pc + 3, stack := v.toList ++ rest }) target → Steps p.tables e below (T.setTop g) target) ∨
    (∃ (q : Addr) (vm₁ : Vm) (B : Pt), s.WarmedH vm₁ ∧ Stand p l e R s m args below meth c B.U B.locs B.cells B.slots ∧ PostX ⟨T.setVm vm₁, locs, cells, slots⟩ (Value.ref b :: argsL).toArray q B ∧
      Steps p.tables e below (T.setTop g) ((B.U.setTop { g with stack := rest }).pushFrame (.throwing q))) := by
  obtain ⟨mk, methM, hnamed, hmethM, hstM, habM⟩ := Cond.instanceMethod_spec hinst
  obtain ⟨m8, methM', cM, hn8, hmethM', -, -, -, -, -, -, hsigM⟩ := Cond.codeWith_spec hcode
  cases Option.some.inj (hn8.symm.trans hnamed)
  cases hmethM.symm.trans hmethM'
  obtain ⟨c2, r2, m2, q1, q2, q3, q4, kP, hkP, hkPi⟩ := Cond.selects_spec hsel
  cases hcls.symm.trans q1
  cases (State.methodFound?_of_named hnamed hy).symm.trans q2
  cases hnamed.symm.trans q3
  have hselP : selectMethod e.platform s.vm cellB.cls mk = .method mk := by rw [Launch.admits_selectMethod X.admits]; exact q4
  obtain ⟨vm₁, X₁, hstep₁⟩ := X.invokevirtual hexec hown hlink hnamed hmethM hstM hkP hkPi hy (a := b) (cell := cellB) hcell
    (fun z h => by rw [h] at hobj; cases hobj) hselP hmethM habM hkP hkPi (g := g) hg (argsL := argsL) (rest := rest) (hlen _ hsigM) hstack hdg
  rcases hK m meth c ⟨T.setVm vm₁, locs, cells, slots⟩ { g with stack := rest } (.invokevirtual index) mk (Value.ref b :: argsL).toArray X₁ hg hsize hdg hW (X₁.named hnamed) (hpre vm₁ X₁.warmed) with ⟨v, B, X', hpost, hsteps⟩ | ⟨q, B, X', hpost, hsteps⟩
  · exact Or.inl ⟨v, vm₁, B, X₁.warmed, X', hpost, fun target h => hstep₁ _ fun acts => by rw [doInvoke_state]; exact hsteps.trans h⟩
  · exact Or.inr ⟨q, vm₁, B, X₁.warmed, X', hpost, hstep₁ _ fun acts => by rw [doInvoke_state]; exact hsteps⟩
theorem vx_callSX (X : Stand p l e R s m args below meth c T locs cells slots) (hexec : p.tables.exec = Jvm.exec) {own : String} {index : Nat} {y : MethodName} {bytes : ByteArray} {maxL : Nat} {ret : Option FieldType} {hh : List (Nat × Nat × Nat × Nat)}
    (hown : s.vm.findClass own = some m.cls) (hlink : (Cond.methodLink own index y).before args s = true) (hstat : (Cond.static y).before args s = true) (hinit : (Cond.initialized y.cls).before args s = true)
    (hcode : (Cond.codeWith y bytes maxL ret hh).before args s = true) (hy : y.cls ≠ "java/lang/invoke/MethodHandle" ∧ y.cls ≠ "java/lang/invoke/VarHandle")
    {W9 : Nat} {Pre : Pt → Array Value → Prop} {Post : Pt → Array Value → Option Value → Pt → Prop} {PostX : Pt → Array Value → Addr → Pt → Prop} (hK : vx_Back l R p e below s args y 3 W9 Pre Post PostX)
    {g : JFrame} (hg : g.method = m) (hsize : g.locals.size = c.maxLocals) {argsL rest : List Value} (hlen : ∀ sig, parseMethodDescriptor y.desc = some sig → argsL.length = sig.parameters.length)
    (hstack : g.stack = argsL.reverse ++ rest) (hW : 2 * g.monitorRoom + (rest.map fun v => v.category).sum ≤ W9) (hdg : decode c.code g.pc = .ok (.invokestatic index, 3))
    (hpre : ∀ vm₁, s.WarmedH vm₁ → Pre ⟨T.setVm vm₁, locs, cells, slots⟩ argsL.toArray) :
    (∃ (v : Option Value) (vm₁ : Vm) (B : Pt), s.WarmedH vm₁ ∧ Stand p l e R s m args below meth c B.U B.locs B.cells B.slots ∧ Post ⟨T.setVm vm₁, locs, cells, slots⟩ argsL.toArray v B ∧
      ∀ target, Steps p.tables e below (B.U.setTop { g with pc := g.pc + 3, stack := v.toList ++ rest }) target → Steps p.tables e below (T.setTop g) target) ∨
    (∃ (q : Addr) (vm₁ : Vm) (B : Pt), s.WarmedH vm₁ ∧ Stand p l e R s m args below meth c B.U B.locs B.cells B.slots ∧ PostX ⟨T.setVm vm₁, locs, cells, slots⟩ argsL.toArray q B ∧
      Steps p.tables e below (T.setTop g) ((B.U.setTop { g with stack := rest }).pushFrame (.throwing q))) := by
  obtain ⟨mk, methM, cM, hnamed, hmethM, -, -, -, -, -, -, hsigM⟩ := Cond.codeWith_spec hcode
  have hstatic : methM.isStatic = true := Cond.static_spec hnamed hmethM hstat
  obtain ⟨kP, hkP, -⟩ := className_of_methodNamed hnamed
  have hinitP : kP.init = .initialized := Cond.initialized_spec (findClass_of_methodNamed hnamed) hkP hinit
  obtain ⟨vm₁, X₁, hstep₁⟩ := X.invokestatic hexec hown hlink hnamed hmethM hstatic hkP hinitP hy (g := g) hg (argsL := argsL) (rest := rest) (hlen _ hsigM) hstack hdg
  rcases hK m meth c ⟨T.setVm vm₁, locs, cells, slots⟩ { g with stack := rest } (.invokestatic index) mk argsL.toArray X₁ hg hsize hdg hW (X₁.named hnamed) (hpre vm₁ X₁.warmed) with ⟨v, B, X', hpost, hsteps⟩ | ⟨q, B, X', hpost, hsteps⟩
  · exact Or.inl ⟨v, vm₁, B, X₁.warmed, X', hpost, fun target h => hstep₁ _ fun acts => by rw [doInvoke_state]; exact hsteps.trans h⟩
  · exact Or.inr ⟨q, vm₁, B, X₁.warmed, X', hpost, hstep₁ _ fun acts => by rw [doInvoke_state]; exact hsteps⟩
theorem vx_callVW (X : Stand p l e R s m args below meth c T locs cells slots) (hexec : p.tables.exec = Jvm.exec) {own C : String} {index : Nat} {y : MethodName} {bytes : ByteArray} {maxL : Nat} {ret : Option FieldType} {hh : List (Nat × Nat × Nat × Nat)}
    (hown : s.vm.findClass own = some m.cls) (hlink : (Cond.methodLink own index y).before args s = true) (hinst : (Cond.instanceMethod y).before args s = true) (hsel : (Cond.selects C y y).before args s = true)
    (hcode : (Cond.codeWith y bytes maxL ret hh).before args s = true) (hy : y.cls ≠ "java/lang/invoke/MethodHandle" ∧ y.cls ≠ "java/lang/invoke/VarHandle")
    {W9 : Nat} {Pre : Pt → Array Value → Prop} {Post : Pt → Array Value → Option Value → Pt → Prop} (hK : Back l R p e below s args y 3 W9 Pre Post)
    {b : Addr} {cellB : Cell} (hcell : T.heap[b]? = some cellB) (hobj : cellB.vm.isStatics = false) (hcls : s.vm.findClass C = some cellB.cls)
    {g : JFrame} (hg : g.method = m) (hsize : g.locals.size = c.maxLocals) {argsL rest : List Value} (hlen : ∀ sig, parseMethodDescriptor y.desc = some sig → argsL.length = sig.parameters.length)
    (hstack : g.stack = argsL.reverse ++ .ref b :: rest) (hW : 2 * g.monitorRoom + (rest.map fun v => v.category).sum ≤ W9) (hdg : decode c.code g.pc = .ok (.invokevirtual index, 3))
    (hpre : ∀ vm₁, s.WarmedH vm₁ → Pre ⟨T.setVm vm₁, locs, cells, slots⟩ (Value.ref b :: argsL).toArray) :
    ∃ (v : Option Value) (vm₁ : Vm) (B : Pt), s.WarmedH vm₁ ∧ Stand p l e R s m args below meth c B.U B.locs B.cells B.slots ∧ Post ⟨T.setVm vm₁, locs, cells, slots⟩ (Value.ref b :: argsL).toArray v B ∧
      ∀ target, Steps p.tables e below (B.U.setTop { g with pc := g.pc + 3, stack := v.toList ++ rest }) target → Steps p.tables e below (T.setTop g) target := by
  obtain ⟨mk, methM, hnamed, hmethM, hstM, habM⟩ := Cond.instanceMethod_spec hinst
  obtain ⟨m8, methM', cM, hn8, hmethM', -, -, -, -, -, -, hsigM⟩ := Cond.codeWith_spec hcode
  cases Option.some.inj (hn8.symm.trans hnamed)
  cases hmethM.symm.trans hmethM'
  obtain ⟨c2, r2, m2, q1, q2, q3, q4, kP, hkP, hkPi⟩ := Cond.selects_spec hsel
  cases hcls.symm.trans q1
  cases (State.methodFound?_of_named hnamed hy).symm.trans q2
  cases hnamed.symm.trans q3
  have hselP : selectMethod e.platform s.vm cellB.cls mk = .method mk := by rw [Launch.admits_selectMethod X.admits]; exact q4
  obtain ⟨vm₁, X₁, hstep₁⟩ := X.invokevirtual hexec hown hlink hnamed hmethM hstM hkP hkPi hy (a := b) (cell := cellB) hcell
    (fun z h => by rw [h] at hobj; cases hobj) hselP hmethM habM hkP hkPi (g := g) hg (argsL := argsL) (rest := rest) (hlen _ hsigM) hstack hdg
  obtain ⟨v, B, X', hpost, hsteps⟩ := hK m meth c ⟨T.setVm vm₁, locs, cells, slots⟩ { g with stack := rest } (.invokevirtual index) mk (Value.ref b :: argsL).toArray X₁ hg hsize hdg hW (X₁.named hnamed) (hpre vm₁ X₁.warmed)
  exact ⟨v, vm₁, B, X₁.warmed, X', hpost, fun target h => hstep₁ _ fun acts => by rw [doInvoke_state]; exact hsteps.trans h⟩
abbrev vx_CVW (R : Room) (s : State) (args : Array Value) (own C : String) (index : Nat) (y : MethodName) (bytes : ByteArray) (maxL : Nat) (ret : Option FieldType) (hh : List (Nat × Nat × Nat × Nat)) (ws : List Cond) (rm : Room) (mc ms n : Nat) : Prop :=
  (rm.cells = mc ∧ rm.slots = ms ∧ rm.frames + 1 ≤ R.frames ∧ 8 + (maxL + 11) + rm.locals ≤ R.locals ∧ (∀ w ∈ ws, ∀ (a' : Array Value) (U : State), s.WarmedH U.vm → w.before a' U = true) ∧ Cond.codeWith y bytes maxL ret hh ∈ ws) ∧
  (Cond.codeWith y bytes maxL ret hh).before args s = true ∧ (Cond.initialized y.cls).before args s = true ∧ (y.cls ≠ "java/lang/invoke/MethodHandle" ∧ y.cls ≠ "java/lang/invoke/VarHandle") ∧
  (∀ sig, parseMethodDescriptor y.desc = some sig → n = sig.parameters.length) ∧ (Cond.methodLink own index y).before args s = true ∧ (Cond.instanceMethod y).before args s = true ∧ (Cond.selects C y y).before args s = true
theorem vx_cwVW {own C : String} {index maxL mc ms : Nat} {y : MethodName} {bytes : ByteArray} {ret : Option FieldType} {hh : List (Nat × Nat × Nat × Nat)} {Ts ws ws' : List Cond} {rm : Room} (n : Nat) (ht : ∀ w ∈ Ts, w.before args s = true) (hT : GoodIn Ts (wsV own index C y ws)) (hw : ws = Cond.codeWith y bytes maxL ret hh :: ws') (hrc : rm.cells = mc) (hrs : rm.slots = ms)
    (hd : y.cls = C ∧ y.cls ≠ "java/lang/invoke/MethodHandle" ∧ y.cls ≠ "java/lang/invoke/VarHandle" ∧ (parseMethodDescriptor y.desc).map (fun d => d.parameters.length) = some n) (hR : rm.frames + 1 ≤ R.frames ∧ 8 + (maxL + 11) + rm.locals ≤ R.locals) :
    vx_CVW R s args own C index y bytes maxL ret hh ws rm mc ms n := by
  obtain ⟨hC, hd⟩ := hd
  subst hC
  have ok : ∀ w ∈ wsV own index y.cls y ws, w.before args s = true := fun w h => ht w (hT w h).1
  have hG : GoodIn Ts ws := fun w h => hT w (by unfold wsV; exact List.mem_append_right _ h)
  have hc : Cond.codeWith y bytes maxL ret hh ∈ ws := by rw [hw]; exact List.mem_cons_self
  refine ⟨⟨hrc, hrs, hR.1, hR.2, pay_in ht hG, hc⟩, ht _ (hG _ hc).1, ok _ (by simp [wsV]), ⟨hd.1, hd.2.1⟩, fun sig h => ?_, ok _ (by simp [wsV]), ok _ (by simp [wsV]), ok _ (by simp [wsV])⟩
  have h2 := hd.2.2
  rw [h] at h2
  exact (Option.some.inj h2).symm
theorem vx_runVW {y : MethodName} {bytes cc : ByteArray} {maxL nL mc ms n index : Nat} {ret : Option FieldType} {hh : List (Nat × Nat × Nat × Nat)} {ws : List Cond} {rm : Room} {Pc : Array Value → State → Prop} {Qc : Array Value → State → Outcome → State → Prop} {free : Addr → Prop} {Ts : List Cond} {own C : String} {b : Addr} {As rest : List Value} {g : JFrame}
    (S : CallFix p m c cc nL s args Ts own) (hM : Met l y ws rm Pc Qc mc ms free) (cw : vx_CVW R s args own C index y bytes maxL ret hh ws rm mc ms n) (hp : PreV s H C b Pc As)
    (hg : g.method = m) (hn : As.length = n) (hsize : g.locals.size = nL) (hstack : g.stack = As.reverse ++ .ref b :: rest) (hW : 2 * g.monitorRoom + (rest.map fun v => v.category).sum ≤ 8) (hdg : decode cc g.pc = .ok (.invokevirtual index, 3)) (hf : cells + mc ≤ R.cells ∧ slots + ms ≤ R.slots) :
    va_Run p l e R s m args below meth c H locs cells slots mc ms g rest (Qc (Value.ref b :: As).toArray) free := by
  obtain ⟨⟨hrc, hrs, hfr, hlo, hws, hcw⟩, hcode, hini, hy, hlen, hl, hin, hse⟩ := cw
  have hK : Back l R p e below s args y 3 8 (PreOf R mc ms Pc) (PostOf Qc mc ms free) := va_backW (hh := hh) (bytes := bytes) (maxL := maxL) (ret := ret) hM hp.1 hrc hrs hfr hlo hws hcw (fun a' U hW => word_at hW (Or.inl (by first | rfl | simp [Cond.onTables, Cond.keeps, Cond.steady])) hini)
  obtain ⟨hx, hb, hml, ho, -⟩ := S
  obtain ⟨-, ⟨cellB, hcB, hoB, hclB⟩, hPc⟩ := hp
  intro T hT X
  obtain ⟨v, vm₁, ⟨U', l2, c2, s2⟩, hW₁, X', ⟨g', mk, t, L, e1, e2, hq, h1, hL, h2, h3⟩, st⟩ := vx_callVW X hx (C := C) (hh := hh) (bytes := bytes) (maxL := maxL) (ret := ret) ho hl hin hse hcode hy hK (by rw [hT]; exact hcB) hoB hclB hg (hsize.trans hml.symm) (argsL := As) (rest := rest) (fun sig h => hn.trans (hlen sig h)) hstack hW (by rw [hb]; exact hdg)
    (fun vm₁ hW₁ => ⟨hf.1, hf.2, hPc (T.setVm vm₁) hT hW₁⟩)
  dsimp only [Pt.U, Pt.locs, Pt.cells, Pt.slots] at X' e1 e2 h1 h2 h3 st
  subst h1; subst h2; subst h3
  exact ⟨v, (T.setVm vm₁).calling g' mk (Value.ref b :: As).toArray, t, U', L, hT, X', hL, e1, e2, hq, st⟩
section
variable {y : MethodName} {bytes cc : ByteArray} {maxL nL mc ms n index : Nat} {ret : Option FieldType} {ws : List Cond} {rm : Room} {Pc : Array Value → State → Prop} {Qc : Array Value → State → Outcome → State → Prop} {XC : String → State → State → Prop} {free : Addr → Prop} {Ts : List Cond} {own C : String} {b : Addr} {As rest : List Value} {g : JFrame}
theorem vx_runVX {hh : List (Nat × Nat × Nat × Nat)} (S : CallFix p m c cc nL s args Ts own) (hM : vx_Met l y ws rm Pc Qc XC mc ms free) (cw : vx_CVW R s args own C index y bytes maxL ret hh ws rm mc ms n) (hp : PreV s H C b Pc As)
    (hg : g.method = m) (hn : As.length = n) (hsize : g.locals.size = nL) (hstack : g.stack = As.reverse ++ .ref b :: rest) (hW : 2 * g.monitorRoom + (rest.map fun v => v.category).sum ≤ 8) (hdg : decode cc g.pc = .ok (.invokevirtual index, 3)) (hf : cells + mc ≤ R.cells ∧ slots + ms ≤ R.slots) :
    vx_Run p l e R s m args below meth c H locs cells slots mc ms g rest (Qc (Value.ref b :: As).toArray) XC free := by
  obtain ⟨⟨hrc, hrs, hfr, hlo, hws, hcw⟩, hcode, hini, hy, hlen, hl, hin, hse⟩ := cw
  have hK : vx_Back l R p e below s args y 3 8 (PreOf R mc ms Pc) (PostOf Qc mc ms free) (vx_Post XC mc ms free) := vx_backW (hh := hh) (bytes := bytes) (maxL := maxL) (ret := ret) hM hp.1 hrc hrs hfr hlo hws hcw (fun a' U hW => word_at hW (Or.inl (by first | rfl | simp [Cond.onTables, Cond.keeps, Cond.steady])) hini)
  obtain ⟨hx, hb, hml, ho, -⟩ := S
  obtain ⟨-, ⟨cellB, hcB, hoB, hclB⟩, hPc⟩ := hp
  intro T hT X
  rcases vx_callVX X hx (C := C) (hh := hh) (bytes := bytes) (maxL := maxL) (ret := ret) ho hl hin hse hcode hy hK (by rw [hT]; exact hcB) hoB hclB hg (hsize.trans hml.symm) (argsL := As) (rest := rest) (fun sig h => hn.trans (hlen sig h)) hstack hW (by rw [hb]; exact hdg)
    (fun vm₁ hW₁ => ⟨hf.1, hf.2, hPc (T.setVm vm₁) hT hW₁⟩) with ⟨v, vm₁, ⟨U', l2, c2, s2⟩, hW₁, X', ⟨g', mk, t, L, e1, e2, hq, h1, hL, h2, h3⟩, st⟩ | ⟨q, vm₁, ⟨U', l2, c2, s2⟩, hW₁, X', ⟨g', mk, t, L, E, ce, e1, e2, hq, hce, hcv, hcl, h1, hL, h2, h3⟩, st⟩
  · dsimp only [Pt.U, Pt.locs, Pt.cells, Pt.slots] at X' e1 e2 h1 h2 h3 st
    subst h1; subst h2; subst h3
    exact Or.inl ⟨v, (T.setVm vm₁).calling g' mk (Value.ref b :: As).toArray, t, U', L, hT, X', hL, e1, e2, hq, st⟩
  · dsimp only [Pt.U, Pt.locs, Pt.cells, Pt.slots] at X' e1 e2 h1 h2 h3 st hcl
    subst h1; subst h2; subst h3
    exact Or.inr ⟨q, (T.setVm vm₁).calling g' mk (Value.ref b :: As).toArray, t, U', L, E, ce, hT, X', hL, e1, e2, hq, hce, hcv, vx_cls hW₁ hcl, st⟩
theorem vx_runSX {hh : List (Nat × Nat × Nat × Nat)} (S : CallFix p m c cc nL s args Ts own) (hM : vx_Met l y ws rm Pc Qc XC mc ms free) (cw : vx_CSW R s args own index y bytes maxL ret hh ws rm mc ms n) (hp : PreS s H Pc As)
    (hg : g.method = m) (hn : As.length = n) (hsize : g.locals.size = nL) (hstack : g.stack = As.reverse ++ rest) (hW : 2 * g.monitorRoom + (rest.map fun v => v.category).sum ≤ 8) (hdg : decode cc g.pc = .ok (.invokestatic index, 3)) (hf : cells + mc ≤ R.cells ∧ slots + ms ≤ R.slots) :
    vx_Run p l e R s m args below meth c H locs cells slots mc ms g rest (Qc As.toArray) XC free := by
  obtain ⟨⟨hrc, hrs, hfr, hlo, hws, hcw⟩, hcode, hini, hy, hlen, hl, hstt⟩ := cw
  have hK : vx_Back l R p e below s args y 3 8 (PreOf R mc ms Pc) (PostOf Qc mc ms free) (vx_Post XC mc ms free) := vx_backW (hh := hh) (bytes := bytes) (maxL := maxL) (ret := ret) hM hp.1 hrc hrs hfr hlo hws hcw (fun a' U hW => word_at hW (Or.inl (by first | rfl | simp [Cond.onTables, Cond.keeps, Cond.steady])) hini)
  obtain ⟨hx, hb, hml, ho, -⟩ := S
  intro T hT X
  rcases vx_callSX X hx (hh := hh) (bytes := bytes) (maxL := maxL) (ret := ret) ho hl hstt hini hcode hy hK hg (hsize.trans hml.symm) (argsL := As) (rest := rest) (fun sig h => hn.trans (hlen sig h)) hstack hW (by rw [hb]; exact hdg)
    (fun vm₁ hW₁ => ⟨hf.1, hf.2, hp.2 (T.setVm vm₁) hT hW₁⟩) with ⟨v, vm₁, ⟨U', l2, c2, s2⟩, hW₁, X', ⟨g', mk, t, L, e1, e2, hq, h1, hL, h2, h3⟩, st⟩ | ⟨q, vm₁, ⟨U', l2, c2, s2⟩, hW₁, X', ⟨g', mk, t, L, E, ce, e1, e2, hq, hce, hcv, hcl, h1, hL, h2, h3⟩, st⟩
  · dsimp only [Pt.U, Pt.locs, Pt.cells, Pt.slots] at X' e1 e2 h1 h2 h3 st
    subst h1; subst h2; subst h3
    exact Or.inl ⟨v, (T.setVm vm₁).calling g' mk As.toArray, t, U', L, hT, X', hL, e1, e2, hq, st⟩
  · dsimp only [Pt.U, Pt.locs, Pt.cells, Pt.slots] at X' e1 e2 h1 h2 h3 st hcl
    subst h1; subst h2; subst h3
    exact Or.inr ⟨q, (T.setVm vm₁).calling g' mk As.toArray, t, U', L, E, ce, hT, X', hL, e1, e2, hq, hce, hcv, vx_cls hW₁ hcl, st⟩
end
end VXH
theorem vx_ofWH {l : Launch} {y : MethodName} {ws ws' : List Cond} {rm : Room} {Pc : Array Value → State → Prop} {Qc : Array Value → State → Outcome → State → Prop} {XC : String → State → State → Prop} {mc ms : Nat} {free : Addr → Prop} {cc : ByteArray} {maxL : Nat} {ret : Option FieldType} {hh : List (Nat × Nat × Nat × Nat)}
    (hy : plainName y.cls = true) (hw : ws = Cond.codeWith y cc maxL ret hh :: ws')
    (body : ∀ p e s m args below meth c s₁, BodyLoose p l y (headSpec ws rm) cc maxL ret e s m args below meth c s₁ → c.maxLocals = maxL → Pc args s →
      W p l e (headSpec ws rm).room s m args below meth c s.heap [] 0 0 (vx_MQ below Qc XC args s mc ms free) (entryFrame m args maxL)) : vx_Met l y ws rm Pc Qc XC mc ms free := by
  refine MetFree.of_bodyS (code := cc) (maxLocals := maxL) (ret := ret) hy ?_ ?_
  · intro args s m h hn
    obtain ⟨m9, meth, c, hn9, h1, h2, h3, h4, -, h5, h6, -⟩ := Cond.codeWith_spec (atoms_spec (ws := ws) h _ (by rw [hw]; exact List.mem_cons_self))
    cases hn.symm.trans hn9
    exact ⟨meth, c, h1, h2, h3, h4, h5, h6⟩
  · intro p e s m args below meth c s₁ B hml hP _
    have hh0 : s₁.heap = s.heap := by rw [B.state]; rfl
    obtain ⟨t, a1, o, b1, b2, b3⟩ := body p e s m args below meth c s₁ B hml hP s₁ hh0 (Stand.of_body B)
    exact ⟨t, o, a1, b1, b2, b3⟩
/-! ===== END ===== -/
end
section
/-! ===== BEGIN printed: names, fields, word lists, decode rows ===== -/
def RX0 : String := "LineLearner$Aligner"
def TX0 : u_T := fun k => match k with
  | 0 => ("LineLearner$Aligner", "lines", "LLineLearner$Lines;", true)
  | 1 => ("LineLearner$Aligner", "change", "I", false)
  | 2 => ("LineLearner$Aligner", "skip", "I", false)
  | 3 => ("LineLearner$Aligner", "fresh", "I", false)
  | 4 => ("LineLearner$Aligner", "costs", "[I", true)
  | 5 => ("LineLearner$Aligner", "steps", "[I", true)
  | 6 => ("LineLearner$Aligner", "stepCount", "I", false)
  | 7 => ("LineLearner$Aligner", "freshCount", "I", false)
  | 8 => ("LineLearner$Aligner", "slotsOfTokens", "[I", true)
  | _ => ("LineLearner$Aligner", "reached", "[Z", true)
def tyX0 : Nat → FieldType := fun k => match k with
  | 0 => .object "LineLearner$Lines"
  | 1 => .int
  | 2 => .int
  | 3 => .int
  | 4 => .array .int
  | 5 => .array .int
  | 6 => .int
  | 7 => .int
  | 8 => .array .int
  | _ => .array .boolean
abbrev wsX00 : List Cond := u_ws RX0 TX0 10
theorem nmX0 : ∀ a, a < 10 → ∀ b, b < 10 → a ≠ b → (TX0 a).2.1 ≠ (TX0 b).2.1 := by decide +kernel
theorem tyX0_ok : ∀ k, k < 10 → parseFieldDescriptor (TX0 k).2.2.1 = some (tyX0 k) := by decide +kernel
abbrev cX0_init : ByteArray := prog_2_method_1_code
def yX0_init : MethodName := ⟨RX0, "<init>", "(LLineLearner$Lines;)V"⟩
abbrev cX0_takeCosts : ByteArray := prog_2_method_2_code
def yX0_takeCosts : MethodName := ⟨RX0, "takeCosts", "(III)Z"⟩
abbrev cX0_leastCost : ByteArray := prog_2_method_3_code
def yX0_leastCost : MethodName := ⟨RX0, "leastCost", "(LLineLearner$Format;I)I"⟩
abbrev cX0_fillRow : ByteArray := prog_2_method_4_code
def yX0_fillRow : MethodName := ⟨RX0, "fillRow", "(LLineLearner$Format;II)V"⟩
abbrev cX0_skipCost : ByteArray := prog_2_method_5_code
def yX0_skipCost : MethodName := ⟨RX0, "skipCost", "(LLineLearner$Format;I)I"⟩
abbrev cX0_pairCost : ByteArray := prog_2_method_6_code
def yX0_pairCost : MethodName := ⟨RX0, "pairCost", "(LLineLearner$Format;II)I"⟩
abbrev cX0_align : ByteArray := prog_2_method_7_code
def yX0_align : MethodName := ⟨RX0, "align", "(LLineLearner$Format;I)I"⟩
abbrev cX0_lastStep : ByteArray := prog_2_method_8_code
def yX0_lastStep : MethodName := ⟨RX0, "lastStep", "(LLineLearner$Format;III)I"⟩
abbrev cX0_hasRoom : ByteArray := prog_2_method_9_code
def yX0_hasRoom : MethodName := ⟨RX0, "hasRoom", "(LLineLearner$Format;)Z"⟩
abbrev cX0_join : ByteArray := prog_2_method_10_code
def yX0_join : MethodName := ⟨RX0, "join", "(LLineLearner$Format;I)V"⟩
abbrev cX0_isMatch : ByteArray := prog_2_method_11_code
def yX0_isMatch : MethodName := ⟨RX0, "isMatch", "(LLineLearner$Format;I)Z"⟩
abbrev cX0_canTake : ByteArray := prog_2_method_12_code
def yX0_canTake : MethodName := ⟨RX0, "canTake", "(LLineLearner$Format;II)Z"⟩
def RX1 : String := "LineLearner$Format"
def TX1 : u_T := fun k => match k with
  | 0 => ("LineLearner$Format", "size", "I", false)
  | 1 => ("LineLearner$Format", "joinedLines", "I", false)
  | 2 => ("LineLearner$Format", "order", "[I", true)
  | 3 => ("LineLearner$Format", "kinds", "[I", true)
  | 4 => ("LineLearner$Format", "texts", "[I", true)
  | 5 => ("LineLearner$Format", "least", "[I", true)
  | 6 => ("LineLearner$Format", "greatest", "[I", true)
  | _ => ("LineLearner$Format", "useCounts", "[I", true)
def tyX1 : Nat → FieldType := fun k => match k with
  | 0 => .int
  | 1 => .int
  | 2 => .array .int
  | 3 => .array .int
  | 4 => .array .int
  | 5 => .array .int
  | 6 => .array .int
  | _ => .array .int
abbrev wsX10 : List Cond := u_ws RX1 TX1 8
theorem nmX1 : ∀ a, a < 8 → ∀ b, b < 8 → a ≠ b → (TX1 a).2.1 ≠ (TX1 b).2.1 := by decide +kernel
theorem tyX1_ok : ∀ k, k < 8 → parseFieldDescriptor (TX1 k).2.2.1 = some (tyX1 k) := by decide +kernel
abbrev cX1_init : ByteArray := prog_3_method_1_code
def yX1_init : MethodName := ⟨RX1, "<init>", "()V"⟩
abbrev cX1_makeEmpty : ByteArray := prog_3_method_2_code
def yX1_makeEmpty : MethodName := ⟨RX1, "makeEmpty", "()V"⟩
abbrev cX1_canMiss : ByteArray := prog_3_method_3_code
def yX1_canMiss : MethodName := ⟨RX1, "canMiss", "(I)Z"⟩
abbrev cX1_addSlot : ByteArray := prog_3_method_4_code
def yX1_addSlot : MethodName := ⟨RX1, "addSlot", "(LLineLearner$Lines;I)I"⟩
abbrev cX1_useSlot : ByteArray := prog_3_method_5_code
def yX1_useSlot : MethodName := ⟨RX1, "useSlot", "(ILLineLearner$Lines;I)V"⟩
def RX2 : String := "LineLearner$Lines"
def TX2 : u_T := fun k => match k with
  | 0 => ("LineLearner$Lines", "count", "I", false)
  | 1 => ("LineLearner$Lines", "sizes", "[I", true)
  | 2 => ("LineLearner$Lines", "tokenCounts", "[I", true)
  | 3 => ("LineLearner$Lines", "bytes", "[B", true)
  | 4 => ("LineLearner$Lines", "kinds", "[I", true)
  | 5 => ("LineLearner$Lines", "starts", "[I", true)
  | 6 => ("LineLearner$Lines", "tokenSizes", "[I", true)
  | _ => ("LineLearner$Lines", "texts", "[I", true)
def tyX2 : Nat → FieldType := fun k => match k with
  | 0 => .int
  | 1 => .array .int
  | 2 => .array .int
  | 3 => .array .byte
  | 4 => .array .int
  | 5 => .array .int
  | 6 => .array .int
  | _ => .array .int
abbrev wsX20 : List Cond := u_ws RX2 TX2 8
theorem nmX2 : ∀ a, a < 8 → ∀ b, b < 8 → a ≠ b → (TX2 a).2.1 ≠ (TX2 b).2.1 := by decide +kernel
theorem tyX2_ok : ∀ k, k < 8 → parseFieldDescriptor (TX2 k).2.2.1 = some (tyX2 k) := by decide +kernel
abbrev cX2_init : ByteArray := prog_4_method_1_code
def yX2_init : MethodName := ⟨RX2, "<init>", "()V"⟩
abbrev cX2_add : ByteArray := prog_4_method_2_code
def yX2_add : MethodName := ⟨RX2, "add", "([BI)I"⟩
abbrev cX2_cut : ByteArray := prog_4_method_3_code
def yX2_cut : MethodName := ⟨RX2, "cut", "(I)V"⟩
abbrev cX2_kindOf : ByteArray := prog_4_method_4_code
def yX2_kindOf : MethodName := ⟨RX2, "kindOf", "(I)I"⟩
abbrev cX2_numberTexts : ByteArray := prog_4_method_5_code
def yX2_numberTexts : MethodName := ⟨RX2, "numberTexts", "(I)V"⟩
abbrev cX2_firstAlike : ByteArray := prog_4_method_6_code
def yX2_firstAlike : MethodName := ⟨RX2, "firstAlike", "(II)I"⟩
abbrev cX2_isSameText : ByteArray := prog_4_method_7_code
def yX2_isSameText : MethodName := ⟨RX2, "isSameText", "(II)Z"⟩
abbrev cX2_numberOf : ByteArray := prog_4_method_8_code
def yX2_numberOf : MethodName := ⟨RX2, "numberOf", "(I)I"⟩
def RX3 : String := "LineLearner"
def TX3 : u_T := fun k => match k with
  | 0 => ("LineLearner", "buffer", "[B", true)
  | 1 => ("LineLearner", "buffered", "I", false)
  | 2 => ("LineLearner", "lines", "LLineLearner$Lines;", true)
  | 3 => ("LineLearner", "aligner", "LLineLearner$Aligner;", true)
  | 4 => ("LineLearner", "format", "LLineLearner$Format;", true)
  | 5 => ("LineLearner", "merged", "[Z", true)
  | 6 => ("LineLearner", "usedSlots", "[I", true)
  | 7 => ("LineLearner", "isGrouped", "Z", false)
  | 8 => ("LineLearner", "groupCount", "I", false)
  | 9 => ("LineLearner", "groupsOfLines", "[I", true)
  | _ => ("LineLearner", "groupFormats", "[LLineLearner$Format;", true)
def tyX3 : Nat → FieldType := fun k => match k with
  | 0 => .array .byte
  | 1 => .int
  | 2 => .object "LineLearner$Lines"
  | 3 => .object "LineLearner$Aligner"
  | 4 => .object "LineLearner$Format"
  | 5 => .array .boolean
  | 6 => .array .int
  | 7 => .boolean
  | 8 => .int
  | 9 => .array .int
  | _ => .array (.object "LineLearner$Format")
abbrev wsX30 : List Cond := u_ws RX3 TX3 11
theorem nmX3 : ∀ a, a < 11 → ∀ b, b < 11 → a ≠ b → (TX3 a).2.1 ≠ (TX3 b).2.1 := by decide +kernel
theorem tyX3_ok : ∀ k, k < 11 → parseFieldDescriptor (TX3 k).2.2.1 = some (tyX3 k) := by decide +kernel
abbrev cX3_init : ByteArray := prog_1_method_1_code
def yX3_init : MethodName := ⟨RX3, "<init>", "()V"⟩
abbrev cX3_feed : ByteArray := prog_1_method_2_code
def yX3_feed : MethodName := ⟨RX3, "feed", "(J)I"⟩
abbrev cX3_countBytes : ByteArray := prog_1_method_3_code
def yX3_countBytes : MethodName := ⟨RX3, "countBytes", "(J)I"⟩
abbrev cX3_byteOf : ByteArray := prog_1_method_4_code
def yX3_byteOf : MethodName := ⟨RX3, "byteOf", "(JI)I"⟩
abbrev cX3_store : ByteArray := prog_1_method_5_code
def yX3_store : MethodName := ⟨RX3, "store", "()I"⟩
abbrev cX3_lineCount : ByteArray := prog_1_method_6_code
def yX3_lineCount : MethodName := ⟨RX3, "lineCount", "()I"⟩
abbrev cX3_tokenCount : ByteArray := prog_1_method_7_code
def yX3_tokenCount : MethodName := ⟨RX3, "tokenCount", "(I)I"⟩
abbrev cX3_tokenKind : ByteArray := prog_1_method_8_code
def yX3_tokenKind : MethodName := ⟨RX3, "tokenKind", "(II)I"⟩
abbrev cX3_tokenStart : ByteArray := prog_1_method_9_code
def yX3_tokenStart : MethodName := ⟨RX3, "tokenStart", "(II)I"⟩
abbrev cX3_sameAtFront : ByteArray := prog_1_method_10_code
def yX3_sameAtFront : MethodName := ⟨RX3, "sameAtFront", "(II)I"⟩
abbrev cX3_setCosts : ByteArray := prog_1_method_11_code
def yX3_setCosts : MethodName := ⟨RX3, "setCosts", "(III)Z"⟩
abbrev cX3_isCost : ByteArray := prog_1_method_12_code
def yX3_isCost : MethodName := ⟨RX3, "isCost", "(I)Z"⟩
abbrev cX3_merge : ByteArray := prog_1_method_13_code
def yX3_merge : MethodName := ⟨RX3, "merge", "(I)I"⟩
abbrev cX3_clear : ByteArray := prog_1_method_14_code
def yX3_clear : MethodName := ⟨RX3, "clear", "()I"⟩
abbrev cX3_isMerged : ByteArray := prog_1_method_15_code
def yX3_isMerged : MethodName := ⟨RX3, "isMerged", "(I)Z"⟩
abbrev cX3_costWith : ByteArray := prog_1_method_16_code
def yX3_costWith : MethodName := ⟨RX3, "costWith", "(I)I"⟩
abbrev cX3_fits : ByteArray := prog_1_method_17_code
def yX3_fits : MethodName := ⟨RX3, "fits", "(I)Z"⟩
abbrev cX3_strangest : ByteArray := prog_1_method_18_code
def yX3_strangest : MethodName := ⟨RX3, "strangest", "()I"⟩
abbrev cX3_slotCount : ByteArray := prog_1_method_19_code
def yX3_slotCount : MethodName := ⟨RX3, "slotCount", "()I"⟩
abbrev cX3_slotKind : ByteArray := prog_1_method_20_code
def yX3_slotKind : MethodName := ⟨RX3, "slotKind", "(I)I"⟩
abbrev cX3_textByte : ByteArray := prog_1_method_21_code
def yX3_textByte : MethodName := ⟨RX3, "textByte", "(II)I"⟩
abbrev cX3_sizeOf : ByteArray := prog_1_method_22_code
def yX3_sizeOf : MethodName := ⟨RX3, "sizeOf", "(IZ)I"⟩
abbrev cX3_uses : ByteArray := prog_1_method_23_code
def yX3_uses : MethodName := ⟨RX3, "uses", "(I)I"⟩
abbrev cX3_isOptional : ByteArray := prog_1_method_24_code
def yX3_isOptional : MethodName := ⟨RX3, "isOptional", "(I)Z"⟩
abbrev cX3_tokenAt : ByteArray := prog_1_method_25_code
def yX3_tokenAt : MethodName := ⟨RX3, "tokenAt", "(II)I"⟩
abbrev cX3_numberAt : ByteArray := prog_1_method_26_code
def yX3_numberAt : MethodName := ⟨RX3, "numberAt", "(II)I"⟩
abbrev cX3_distinct : ByteArray := prog_1_method_27_code
def yX3_distinct : MethodName := ⟨RX3, "distinct", "(I)I"⟩
abbrev cX3_isTextBefore : ByteArray := prog_1_method_28_code
def yX3_isTextBefore : MethodName := ⟨RX3, "isTextBefore", "(III)Z"⟩
abbrev cX3_isRising : ByteArray := prog_1_method_29_code
def yX3_isRising : MethodName := ⟨RX3, "isRising", "(I)Z"⟩
abbrev cX3_bits : ByteArray := prog_1_method_30_code
def yX3_bits : MethodName := ⟨RX3, "bits", "()I"⟩
abbrev cX3_bitsOfVarying : ByteArray := prog_1_method_31_code
def yX3_bitsOfVarying : MethodName := ⟨RX3, "bitsOfVarying", "(I)I"⟩
abbrev cX3_saving : ByteArray := prog_1_method_32_code
def yX3_saving : MethodName := ⟨RX3, "saving", "()D"⟩
abbrev cX3_group : ByteArray := prog_1_method_33_code
def yX3_group : MethodName := ⟨RX3, "group", "(I)I"⟩
abbrev cX3_nearestGroup : ByteArray := prog_1_method_34_code
def yX3_nearestGroup : MethodName := ⟨RX3, "nearestGroup", "(II)I"⟩
abbrev cX3_groupOf : ByteArray := prog_1_method_35_code
def yX3_groupOf : MethodName := ⟨RX3, "groupOf", "(I)I"⟩
abbrev cX3_groupSlots : ByteArray := prog_1_method_36_code
def yX3_groupSlots : MethodName := ⟨RX3, "groupSlots", "(I)I"⟩
abbrev cX3_digest : ByteArray := prog_1_method_37_code
def yX3_digest : MethodName := ⟨RX3, "digest", "()J"⟩
abbrev cX3_mixed : ByteArray := prog_1_method_38_code
def yX3_mixed : MethodName := ⟨RX3, "mixed", "(JI)J"⟩
abbrev cX3_addLines : ByteArray := prog_1_method_39_code
def yX3_addLines : MethodName := ⟨RX3, "addLines", "(J)J"⟩
abbrev cX3_addSlots : ByteArray := prog_1_method_40_code
def yX3_addSlots : MethodName := ⟨RX3, "addSlots", "(J)J"⟩
abbrev cX3_needLine : ByteArray := prog_1_method_41_code
def yX3_needLine : MethodName := ⟨RX3, "needLine", "(I)V"⟩
abbrev cX3_needToken : ByteArray := prog_1_method_42_code
def yX3_needToken : MethodName := ⟨RX3, "needToken", "(II)V"⟩
abbrev cX3_neededSlot : ByteArray := prog_1_method_43_code
def yX3_neededSlot : MethodName := ⟨RX3, "neededSlot", "(I)I"⟩
abbrev cX3_needGrouping : ByteArray := prog_1_method_44_code
def yX3_needGrouping : MethodName := ⟨RX3, "needGrouping", "()V"⟩
abbrev cX3_textSize : ByteArray := prog_1_method_45_code
def yX3_textSize : MethodName := ⟨RX3, "textSize", "(I)I"⟩
abbrev cX3_tokenIn : ByteArray := prog_1_method_46_code
def yX3_tokenIn : MethodName := ⟨RX3, "tokenIn", "(II)I"⟩
abbrev cX3_textIn : ByteArray := prog_1_method_47_code
def yX3_textIn : MethodName := ⟨RX3, "textIn", "(II)I"⟩
abbrev cX3_numberIn : ByteArray := prog_1_method_48_code
def yX3_numberIn : MethodName := ⟨RX3, "numberIn", "(II)I"⟩
abbrev cX3_firstByteOf : ByteArray := prog_1_method_49_code
def yX3_firstByteOf : MethodName := ⟨RX3, "firstByteOf", "(I)I"⟩
abbrev cX3_placeOf : ByteArray := prog_1_method_50_code
def yX3_placeOf : MethodName := ⟨RX3, "placeOf", "(II)I"⟩
def RX4 : String := "LineLearnerModel"
def TX4 : u_T := fun k => match k with
  | 0 => ("LineLearnerModel", "thrown", "I", false)
  | 1 => ("LineLearnerModel", "buffered", "I", false)
  | 2 => ("LineLearnerModel", "buffer", "[I", true)
  | 3 => ("LineLearnerModel", "lines", "I", false)
  | 4 => ("LineLearnerModel", "sizes", "[I", true)
  | 5 => ("LineLearnerModel", "text", "[I", true)
  | 6 => ("LineLearnerModel", "tokens", "[I", true)
  | 7 => ("LineLearnerModel", "tokenKinds", "[I", true)
  | 8 => ("LineLearnerModel", "tokenStarts", "[I", true)
  | 9 => ("LineLearnerModel", "tokenSizes", "[I", true)
  | 10 => ("LineLearnerModel", "changeCost", "I", false)
  | 11 => ("LineLearnerModel", "skipCost", "I", false)
  | 12 => ("LineLearnerModel", "freshCost", "I", false)
  | 13 => ("LineLearnerModel", "slots", "[I", true)
  | 14 => ("LineLearnerModel", "merged", "[I", true)
  | 15 => ("LineLearnerModel", "kinds", "[I", true)
  | 16 => ("LineLearnerModel", "texts", "[I", true)
  | 17 => ("LineLearnerModel", "used", "[I", true)
  | 18 => ("LineLearnerModel", "isGrouped", "Z", false)
  | 19 => ("LineLearnerModel", "groups", "I", false)
  | 20 => ("LineLearnerModel", "groupOf", "[I", true)
  | 21 => ("LineLearnerModel", "costs", "[I", true)
  | 22 => ("LineLearnerModel", "steps", "I", false)
  | 23 => ("LineLearnerModel", "way", "[I", true)
  | 24 => ("LineLearnerModel", "newKinds", "[I", true)
  | 25 => ("LineLearnerModel", "newTexts", "[I", true)
  | _ => ("LineLearnerModel", "newUsed", "[I", true)
def tyX4 : Nat → FieldType := fun k => match k with
  | 0 => .int
  | 1 => .int
  | 2 => .array .int
  | 3 => .int
  | 4 => .array .int
  | 5 => .array .int
  | 6 => .array .int
  | 7 => .array .int
  | 8 => .array .int
  | 9 => .array .int
  | 10 => .int
  | 11 => .int
  | 12 => .int
  | 13 => .array .int
  | 14 => .array .int
  | 15 => .array .int
  | 16 => .array .int
  | 17 => .array .int
  | 18 => .boolean
  | 19 => .int
  | 20 => .array .int
  | 21 => .array .int
  | 22 => .int
  | 23 => .array .int
  | 24 => .array .int
  | 25 => .array .int
  | _ => .array .int
abbrev wsX40 : List Cond := u_ws RX4 TX4 27
theorem nmX4 : ∀ a, a < 27 → ∀ b, b < 27 → a ≠ b → (TX4 a).2.1 ≠ (TX4 b).2.1 := by decide +kernel
theorem tyX4_ok : ∀ k, k < 27 → parseFieldDescriptor (TX4 k).2.2.1 = some (tyX4 k) := by decide +kernel
abbrev cX4_init : ByteArray := prog_6_method_1_code
def yX4_init : MethodName := ⟨RX4, "<init>", "()V"⟩
abbrev cX4_thrown : ByteArray := prog_6_method_2_code
def yX4_thrown : MethodName := ⟨RX4, "thrown", "()I"⟩
abbrev cX4_fail : ByteArray := prog_6_method_3_code
def yX4_fail : MethodName := ⟨RX4, "fail", "(I)I"⟩
abbrev cX4_isLine : ByteArray := prog_6_method_4_code
def yX4_isLine : MethodName := ⟨RX4, "isLine", "(I)Z"⟩
abbrev cX4_isSlot : ByteArray := prog_6_method_5_code
def yX4_isSlot : MethodName := ⟨RX4, "isSlot", "(I)Z"⟩
abbrev cX4_feed : ByteArray := prog_6_method_6_code
def yX4_feed : MethodName := ⟨RX4, "feed", "(J)I"⟩
abbrev cX4_kindOf : ByteArray := prog_6_method_7_code
def yX4_kindOf : MethodName := ⟨RX4, "kindOf", "(I)I"⟩
abbrev cX4_store : ByteArray := prog_6_method_8_code
def yX4_store : MethodName := ⟨RX4, "store", "()I"⟩
abbrev cX4_lineCount : ByteArray := prog_6_method_9_code
def yX4_lineCount : MethodName := ⟨RX4, "lineCount", "()I"⟩
abbrev cX4_tokenCount : ByteArray := prog_6_method_10_code
def yX4_tokenCount : MethodName := ⟨RX4, "tokenCount", "(I)I"⟩
abbrev cX4_isToken : ByteArray := prog_6_method_11_code
def yX4_isToken : MethodName := ⟨RX4, "isToken", "(II)Z"⟩
abbrev cX4_tokenKind : ByteArray := prog_6_method_12_code
def yX4_tokenKind : MethodName := ⟨RX4, "tokenKind", "(II)I"⟩
abbrev cX4_tokenStart : ByteArray := prog_6_method_13_code
def yX4_tokenStart : MethodName := ⟨RX4, "tokenStart", "(II)I"⟩
abbrev cX4_areSame : ByteArray := prog_6_method_14_code
def yX4_areSame : MethodName := ⟨RX4, "areSame", "(II)Z"⟩
abbrev cX4_sameAtFront : ByteArray := prog_6_method_15_code
def yX4_sameAtFront : MethodName := ⟨RX4, "sameAtFront", "(II)I"⟩
abbrev cX4_at : ByteArray := prog_6_method_16_code
def yX4_at : MethodName := ⟨RX4, "at", "(II)I"⟩
abbrev cX4_tokenOf : ByteArray := prog_6_method_17_code
def yX4_tokenOf : MethodName := ⟨RX4, "tokenOf", "(III)I"⟩
abbrev cX4_usesOf : ByteArray := prog_6_method_18_code
def yX4_usesOf : MethodName := ⟨RX4, "usesOf", "(II)I"⟩
abbrev cX4_isFree : ByteArray := prog_6_method_19_code
def yX4_isFree : MethodName := ⟨RX4, "isFree", "(II)Z"⟩
abbrev cX4_cell : ByteArray := prog_6_method_20_code
def yX4_cell : MethodName := ⟨RX4, "cell", "(II)I"⟩
abbrev cX4_costOf : ByteArray := prog_6_method_21_code
def yX4_costOf : MethodName := ⟨RX4, "costOf", "(IIIII)I"⟩
abbrev cX4_align : ByteArray := prog_6_method_22_code
def yX4_align : MethodName := ⟨RX4, "align", "(II)I"⟩
abbrev cX4_follow : ByteArray := prog_6_method_23_code
def yX4_follow : MethodName := ⟨RX4, "follow", "(II)V"⟩
abbrev cX4_freshSteps : ByteArray := prog_6_method_24_code
def yX4_freshSteps : MethodName := ⟨RX4, "freshSteps", "()I"⟩
abbrev cX4_mergeInto : ByteArray := prog_6_method_25_code
def yX4_mergeInto : MethodName := ⟨RX4, "mergeInto", "(II)V"⟩
abbrev cX4_setCosts : ByteArray := prog_6_method_26_code
def yX4_setCosts : MethodName := ⟨RX4, "setCosts", "(III)Z"⟩
abbrev cX4_merge : ByteArray := prog_6_method_27_code
def yX4_merge : MethodName := ⟨RX4, "merge", "(I)I"⟩
abbrev cX4_clear : ByteArray := prog_6_method_28_code
def yX4_clear : MethodName := ⟨RX4, "clear", "()I"⟩
abbrev cX4_isMerged : ByteArray := prog_6_method_29_code
def yX4_isMerged : MethodName := ⟨RX4, "isMerged", "(I)Z"⟩
abbrev cX4_costWith : ByteArray := prog_6_method_30_code
def yX4_costWith : MethodName := ⟨RX4, "costWith", "(I)I"⟩
abbrev cX4_extreme : ByteArray := prog_6_method_31_code
def yX4_extreme : MethodName := ⟨RX4, "extreme", "(IZ)I"⟩
abbrev cX4_canPair : ByteArray := prog_6_method_32_code
def yX4_canPair : MethodName := ⟨RX4, "canPair", "(II)Z"⟩
abbrev cX4_fits : ByteArray := prog_6_method_33_code
def yX4_fits : MethodName := ⟨RX4, "fits", "(I)Z"⟩
abbrev cX4_strangest : ByteArray := prog_6_method_34_code
def yX4_strangest : MethodName := ⟨RX4, "strangest", "()I"⟩
abbrev cX4_slotCount : ByteArray := prog_6_method_35_code
def yX4_slotCount : MethodName := ⟨RX4, "slotCount", "()I"⟩
abbrev cX4_slotKind : ByteArray := prog_6_method_36_code
def yX4_slotKind : MethodName := ⟨RX4, "slotKind", "(I)I"⟩
abbrev cX4_textByte : ByteArray := prog_6_method_37_code
def yX4_textByte : MethodName := ⟨RX4, "textByte", "(II)I"⟩
abbrev cX4_sizeOf : ByteArray := prog_6_method_38_code
def yX4_sizeOf : MethodName := ⟨RX4, "sizeOf", "(IZ)I"⟩
abbrev cX4_uses : ByteArray := prog_6_method_39_code
def yX4_uses : MethodName := ⟨RX4, "uses", "(I)I"⟩
abbrev cX4_isOptional : ByteArray := prog_6_method_40_code
def yX4_isOptional : MethodName := ⟨RX4, "isOptional", "(I)Z"⟩
abbrev cX4_tokenAt : ByteArray := prog_6_method_41_code
def yX4_tokenAt : MethodName := ⟨RX4, "tokenAt", "(II)I"⟩
abbrev cX4_numberOf : ByteArray := prog_6_method_42_code
def yX4_numberOf : MethodName := ⟨RX4, "numberOf", "(II)I"⟩
abbrev cX4_numberAt : ByteArray := prog_6_method_43_code
def yX4_numberAt : MethodName := ⟨RX4, "numberAt", "(II)I"⟩
abbrev cX4_distinct : ByteArray := prog_6_method_44_code
def yX4_distinct : MethodName := ⟨RX4, "distinct", "(I)I"⟩
abbrev cX4_isRising : ByteArray := prog_6_method_45_code
def yX4_isRising : MethodName := ⟨RX4, "isRising", "(I)Z"⟩
abbrev cX4_allBits : ByteArray := prog_6_method_46_code
def yX4_allBits : MethodName := ⟨RX4, "allBits", "()I"⟩
abbrev cX4_bits : ByteArray := prog_6_method_47_code
def yX4_bits : MethodName := ⟨RX4, "bits", "()I"⟩
abbrev cX4_saving : ByteArray := prog_6_method_48_code
def yX4_saving : MethodName := ⟨RX4, "saving", "()D"⟩
abbrev cX4_group : ByteArray := prog_6_method_49_code
def yX4_group : MethodName := ⟨RX4, "group", "(I)I"⟩
abbrev cX4_groupOf : ByteArray := prog_6_method_50_code
def yX4_groupOf : MethodName := ⟨RX4, "groupOf", "(I)I"⟩
abbrev cX4_groupSlots : ByteArray := prog_6_method_51_code
def yX4_groupSlots : MethodName := ⟨RX4, "groupSlots", "(I)I"⟩
abbrev cX4_digest : ByteArray := prog_6_method_52_code
def yX4_digest : MethodName := ⟨RX4, "digest", "()J"⟩
def RJ6 : String := "java/lang/Integer"
def TJ6 : u_T := fun k => match k with
  | _ => ("", "", "", false)
def tyJ6 : Nat → FieldType := fun k => match k with
  | _ => .int
abbrev wsJ60 : List Cond := u_ws RJ6 TJ6 0
theorem nmJ6 : ∀ a, a < 0 → ∀ b, b < 0 → a ≠ b → (TJ6 a).2.1 ≠ (TJ6 b).2.1 := by decide +kernel
theorem tyJ6_ok : ∀ k, k < 0 → parseFieldDescriptor (TJ6 k).2.2.1 = some (tyJ6 k) := by decide +kernel
abbrev cJ6_bitCount_0f7a4 : ByteArray := prog_11_method_49_code
def yJ6_bitCount_0f7a4 : MethodName := ⟨RJ6, "bitCount", "(I)I"⟩
def RJ9 : String := "java/lang/Math"
def TJ9 : u_T := fun k => match k with
  | _ => ("", "", "", false)
def tyJ9 : Nat → FieldType := fun k => match k with
  | _ => .int
abbrev wsJ90 : List Cond := u_ws RJ9 TJ9 0
theorem nmJ9 : ∀ a, a < 0 → ∀ b, b < 0 → a ≠ b → (TJ9 a).2.1 ≠ (TJ9 b).2.1 := by decide +kernel
theorem tyJ9_ok : ∀ k, k < 0 → parseFieldDescriptor (TJ9 k).2.2.1 = some (tyJ9 k) := by decide +kernel
abbrev cJ9_max_7cf53 : ByteArray := prog_12_method_65_code
def yJ9_max_7cf53 : MethodName := ⟨RJ9, "max", "(II)I"⟩
abbrev cJ9_min_7cf53 : ByteArray := prog_12_method_69_code
def yJ9_min_7cf53 : MethodName := ⟨RJ9, "min", "(II)I"⟩
def RJ0 : String := "java/lang/String"
def TJ0 : u_T := fun k => match k with
  | _ => ("", "", "", false)
def tyJ0 : Nat → FieldType := fun k => match k with
  | _ => .int
abbrev wsJ00 : List Cond := u_ws RJ0 TJ0 0
theorem nmJ0 : ∀ a, a < 0 → ∀ b, b < 0 → a ≠ b → (TJ0 a).2.1 ≠ (TJ0 b).2.1 := by decide +kernel
theorem tyJ0_ok : ∀ k, k < 0 → parseFieldDescriptor (TJ0 k).2.2.1 = some (tyJ0 k) := by decide +kernel
def RL : String := "LineLearnerLaw"
abbrev cL_feed : ByteArray := method_3_code
def yL_feed : MethodName := ⟨RL, "feed", "(LLineLearner;J[J)I"⟩
abbrev cL_store : ByteArray := method_4_code
def yL_store : MethodName := ⟨RL, "store", "(LLineLearner;[J)I"⟩
abbrev cL_tokenCount : ByteArray := method_5_code
def yL_tokenCount : MethodName := ⟨RL, "tokenCount", "(LLineLearner;I[J)I"⟩
abbrev cL_tokenKind : ByteArray := method_6_code
def yL_tokenKind : MethodName := ⟨RL, "tokenKind", "(LLineLearner;II[J)I"⟩
abbrev cL_tokenStart : ByteArray := method_7_code
def yL_tokenStart : MethodName := ⟨RL, "tokenStart", "(LLineLearner;II[J)I"⟩
abbrev cL_sameAtFront : ByteArray := method_8_code
def yL_sameAtFront : MethodName := ⟨RL, "sameAtFront", "(LLineLearner;II[J)I"⟩
abbrev cL_setCosts : ByteArray := method_9_code
def yL_setCosts : MethodName := ⟨RL, "setCosts", "(LLineLearner;III[J)I"⟩
abbrev cL_merge : ByteArray := method_10_code
def yL_merge : MethodName := ⟨RL, "merge", "(LLineLearner;I[J)I"⟩
abbrev cL_isMerged : ByteArray := method_11_code
def yL_isMerged : MethodName := ⟨RL, "isMerged", "(LLineLearner;I[J)I"⟩
abbrev cL_costWith : ByteArray := method_12_code
def yL_costWith : MethodName := ⟨RL, "costWith", "(LLineLearner;I[J)I"⟩
abbrev cL_fits : ByteArray := method_13_code
def yL_fits : MethodName := ⟨RL, "fits", "(LLineLearner;I[J)I"⟩
abbrev cL_slotKind : ByteArray := method_14_code
def yL_slotKind : MethodName := ⟨RL, "slotKind", "(LLineLearner;I[J)I"⟩
abbrev cL_textByte : ByteArray := method_15_code
def yL_textByte : MethodName := ⟨RL, "textByte", "(LLineLearner;II[J)I"⟩
abbrev cL_sizeOf : ByteArray := method_16_code
def yL_sizeOf : MethodName := ⟨RL, "sizeOf", "(LLineLearner;IZ[J)I"⟩
abbrev cL_uses : ByteArray := method_17_code
def yL_uses : MethodName := ⟨RL, "uses", "(LLineLearner;I[J)I"⟩
abbrev cL_isOptional : ByteArray := method_18_code
def yL_isOptional : MethodName := ⟨RL, "isOptional", "(LLineLearner;I[J)I"⟩
abbrev cL_tokenAt : ByteArray := method_19_code
def yL_tokenAt : MethodName := ⟨RL, "tokenAt", "(LLineLearner;II[J)I"⟩
abbrev cL_numberAt : ByteArray := method_20_code
def yL_numberAt : MethodName := ⟨RL, "numberAt", "(LLineLearner;II[J)I"⟩
abbrev cL_distinct : ByteArray := method_21_code
def yL_distinct : MethodName := ⟨RL, "distinct", "(LLineLearner;I[J)I"⟩
abbrev cL_isRising : ByteArray := method_22_code
def yL_isRising : MethodName := ⟨RL, "isRising", "(LLineLearner;I[J)I"⟩
abbrev cL_group : ByteArray := method_23_code
def yL_group : MethodName := ⟨RL, "group", "(LLineLearner;I[J)I"⟩
abbrev cL_groupOf : ByteArray := method_24_code
def yL_groupOf : MethodName := ⟨RL, "groupOf", "(LLineLearner;I[J)I"⟩
abbrev cL_groupSlots : ByteArray := method_25_code
def yL_groupSlots : MethodName := ⟨RL, "groupSlots", "(LLineLearner;I[J)I"⟩
abbrev cL_law : ByteArray := code
def yL_law : MethodName := ⟨RL, "law", "([I)Z"⟩
end
section
abbrev vwCl : List vw_C := [(RX0, TX0, 10), (RX1, TX1, 8), (RX2, TX2, 8), (RX3, TX3, 11), (RX4, TX4, 27)]

/-! numbers: an int of the machine is zI of an Int, a long zJ of an Int -/
def zI (z : Int) : Int32 := Int32.ofInt z
def zJ (z : Int) : Int64 := Int64.ofInt z
theorem zbm32 {z : Int} (h1 : -2147483648 ≤ z) (h2 : z < 2147483648) : z.bmod (2 ^ 32) = z := Int.bmod_eq_of_le (by omega) (by omega)
theorem zbm64 {z : Int} (h1 : -9223372036854775808 ≤ z) (h2 : z < 9223372036854775808) : z.bmod (2 ^ 64) = z := Int.bmod_eq_of_le (by omega) (by omega)
theorem zbm8 {z : Int} (h1 : -128 ≤ z) (h2 : z < 128) : z.bmod (2 ^ 8) = z := Int.bmod_eq_of_le (by omega) (by omega)
theorem zI_toInt {z : Int} (h1 : -2147483648 ≤ z) (h2 : z < 2147483648) : (zI z).toInt = z := by
  unfold zI
  rw [Int32.toInt_ofInt]
  exact zbm32 h1 h2
theorem zI_of (x : Int32) : zI x.toInt = x := Int32.ofInt_toInt x
theorem zI_rng (x : Int32) : -2147483648 ≤ x.toInt ∧ x.toInt < 2147483648 := by
  have h1 := Int32.le_toInt x
  have h2 := Int32.toInt_lt x
  omega
theorem zI_add (a b : Int) : zI a + zI b = zI (a + b) := by
  unfold zI; apply Int32.toInt_inj.mp; rw [Int32.toInt_add]; simp only [Int32.toInt_ofInt]; simp
theorem zI_sub (a b : Int) : zI a - zI b = zI (a - b) := by
  unfold zI; apply Int32.toInt_inj.mp; rw [Int32.toInt_sub]; simp only [Int32.toInt_ofInt]; simp
theorem zI_mul (a b : Int) : zI a * zI b = zI (a * b) := by
  unfold zI; apply Int32.toInt_inj.mp; rw [Int32.toInt_mul]; simp only [Int32.toInt_ofInt]; simp
theorem zI_le {a b : Int} (h1 : -2147483648 ≤ a ∧ a < 2147483648) (h2 : -2147483648 ≤ b ∧ b < 2147483648) : zI a ≤ zI b ↔ a ≤ b := by
  rw [Int32.le_iff_toInt_le, zI_toInt h1.1 h1.2, zI_toInt h2.1 h2.2]
theorem zI_lt {a b : Int} (h1 : -2147483648 ≤ a ∧ a < 2147483648) (h2 : -2147483648 ≤ b ∧ b < 2147483648) : zI a < zI b ↔ a < b := by
  rw [Int32.lt_iff_toInt_lt, zI_toInt h1.1 h1.2, zI_toInt h2.1 h2.2]
theorem zI_eq {a b : Int} (h1 : -2147483648 ≤ a ∧ a < 2147483648) (h2 : -2147483648 ≤ b ∧ b < 2147483648) : zI a = zI b ↔ a = b := by
  rw [← Int32.toInt_inj, zI_toInt h1.1 h1.2, zI_toInt h2.1 h2.2]
theorem zI_clamp {z : Int} (h1 : 0 ≤ z) (h2 : z < 2147483648) : (((zI z).toNatClampNeg : Nat) : Int) = z := by
  have h := zI_toInt (z := z) (by omega) h2
  have h3 : (zI z).toNatClampNeg = (zI z).toInt.toNat := rfl
  rw [h3, h]; omega
theorem zI_in {z : Int} {n : Nat} (h1 : 0 ≤ z) (h2 : z < (n : Int)) (hn : n ≤ 2147483647) : vp_in (zI z) n := by
  rintro (h | h)
  · have := (zI_lt (a := z) (b := 0) (by omega) (by omega)).mp h
    omega
  · have h3 := zI_clamp (z := z) h1 (by omega)
    omega
theorem zI_wide {z : Int} (h1 : -2147483648 ≤ z ∧ z < 2147483648) : (zI z).toInt64 = zJ z := by
  apply Int64.toInt_inj.mp
  rw [Int32.toInt_toInt64, zI_toInt h1.1 h1.2]
  unfold zJ
  rw [Int64.toInt_ofInt]
  exact (zbm64 (z := z) (by omega) (by omega)).symm
theorem zJ_toInt {z : Int} (h1 : -9223372036854775808 ≤ z) (h2 : z < 9223372036854775808) : (zJ z).toInt = z := by
  unfold zJ
  rw [Int64.toInt_ofInt]
  exact zbm64 (by omega) (by omega)
theorem zJ_of (x : Int64) : zJ x.toInt = x := Int64.ofInt_toInt x
theorem zJ_add (a b : Int) : zJ a + zJ b = zJ (a + b) := by
  unfold zJ; apply Int64.toInt_inj.mp; rw [Int64.toInt_add]; simp only [Int64.toInt_ofInt]; simp
theorem zJ_mul (a b : Int) : zJ a * zJ b = zJ (a * b) := by
  unfold zJ; apply Int64.toInt_inj.mp; rw [Int64.toInt_mul]; simp only [Int64.toInt_ofInt]; simp
theorem zJ_lt {a b : Int} (h1 : -2147483648 ≤ a ∧ a < 2147483648) (h2 : -2147483648 ≤ b ∧ b < 2147483648) : zJ a < zJ b ↔ a < b := by
  rw [Int64.lt_iff_toInt_lt, zJ_toInt (by omega) (by omega), zJ_toInt (by omega) (by omega)]
theorem zJ_eq {a b : Int} (h1 : -2147483648 ≤ a ∧ a < 2147483648) (h2 : -2147483648 ≤ b ∧ b < 2147483648) : zJ a = zJ b ↔ a = b := by
  rw [← Int64.toInt_inj, zJ_toInt (by omega) (by omega), zJ_toInt (by omega) (by omega)]
theorem zI_byte {z : Int} (h1 : -128 ≤ z) (h2 : z < 128) : (zI z).toInt8.toInt32 = zI z := by
  apply Int32.toInt_inj.mp
  rw [Int8.toInt_toInt32, Int32.toInt_toInt8, zI_toInt (by omega) (by omega)]
  exact zbm8 h1 h2
/-! words: what the tables say, at any state of the run -/
def zst (w : Cond) : Bool := match w with
  | .arrayClass _ => true
  | .fieldLinkNest .. => true
  | .methodLinkNest .. => true
  | w => w.onTables && w.keepsFace
theorem zst_warm {w : Cond} (hw : zst w = true) {A A' : Array Value} {s U : State} (hW : s.WarmedH U.vm) (h : w.before A s = true) : w.before A' U = true := by
  by_cases h1 : (w.onTables && w.keepsFace) = true
  · simp only [Bool.and_eq_true] at h1
    have h2 : w.before A (s.setVm U.vm) = true := Cond.before_shiftedFace (State.Shifted.of_warmed hW) w h1.2 h
    exact va_tabs (u := s.setVm U.vm) h1.1 rfl h2
  · cases w with
    | arrayClass ty => exact word_at hW (Or.inr ⟨ty, rfl⟩) h
    | fieldLinkNest a i b n d x => exact va_Nw.use rfl (va_Nw.warmF hW (va_Nw.of rfl h))
    | methodLinkNest a i x y => exact va_Nw.use rfl (va_Nw.warmM hW (va_Nw.of rfl h))
    | _ => exact absurd hw h1
def zTb (U : State) : Prop := ∀ w ∈ lw_tbl, zst w = true → w.before #[] U = true
theorem zTb.warm {s U : State} (hW : s.WarmedH U.vm) (h : zTb s) : zTb U := fun w hw h1 => zst_warm h1 hW (h w hw h1)
abbrev zWd (w : Cond) : Prop := w ∈ lw_tbl ∧ zst w = true
theorem zTb.at {s : State} (h : zTb s) {w : Cond} (hw : zWd w) (A : Array Value) : w.before A s = true := zst_warm hw.2 (State.WarmedH.refl s) (h w hw.1 hw.2)

/-! what lies outside of the objects: two statics of Throwable, the static row, the texts of the throws, casts that fail -/
def zStrs : List (Nat × String) := [(57, "a byte is not 0 or 32 to 126"), (68, "the buffer would get more than 30 bytes"), (78, "there are 12 lines"), (265, "there is no such line"), (267, "there is no such token"), (125, "a cost is not 0 to 20"), (131, "the line is merged already"), (141, "the format would have more than 40 slots"), (269, "there is no such slot"), (176, "there is no such index in the text"), (228, "the limit is not 0 to 200"), (271, "there is no grouping"), (239, "there is no such group")]
def zNcs : List (String × String) := [("java/lang/IllegalStateException", "java/lang/IllegalArgumentException"), ("java/lang/IllegalStateException", "java/lang/IndexOutOfBoundsException"), ("java/lang/IndexOutOfBoundsException", "java/lang/IllegalStateException")]
def zPer (j : Nat) : Int := [5, 4, 1, 7].getD j 0
def zOutH (A : Nat → Prop) (U : State) (H : Heap) : Prop := vx_Zq Bundle.tN "UNASSIGNED_STACK" Bundle.steD A U H ∧ vx_Zq Bundle.tN "SUPPRESSED_SENTINEL" Bundle.listD A U H ∧ ∃ t : Nat, va_Z "LineLearner" "BITS_A_BYTE" "[I" (.ref t) A U H ∧ va_T .int t 4 (fun j => .int (zI (zPer j))) A U H
def zOutV (U : State) : Prop := (∀ q ∈ zStrs, ∃ sa, vk_R "LineLearner" q.1 q.2 sa U) ∧ (∀ q ∈ zNcs, va_Nc q.1 q.2 U)
theorem zOutH.kept {A : Nat → Prop} {U : State} {H H1 : Heap} (h : zOutH A U H) (hq : ∀ a : Nat, a < H.size → ¬ A a → H1[a]? = H[a]?) : zOutH A U H1 := by
  obtain ⟨h1, h2, t, h3, h4⟩ := h
  exact ⟨h1.kept hq, h2.kept hq, t, h3.kept hq, h4.kept hq⟩
theorem zOutH.moved {A : Nat → Prop} {u U : State} {H : Heap} (hvm : u.vm.Alike U.vm) (h : zOutH A u H) : zOutH A U H := by
  obtain ⟨h1, h2, t, h3, h4⟩ := h
  exact ⟨h1.moved hvm, h2.moved hvm, t, h3.moved hvm, h4.moved hvm⟩
theorem zOutH.narrow {A B : Nat → Prop} {U : State} {H : Heap} (h : zOutH A U H) (hAB : ∀ q, B q → A q) : zOutH B U H := by
  obtain ⟨h1, h2, t, h3, h4⟩ := h
  exact ⟨h1.narrow hAB, h2.narrow hAB, t, h3.narrow hAB, h4.narrow hAB⟩
theorem zOutV.warm {s U : State} (hW : s.WarmedH U.vm) (h : zOutV s) : zOutV U := by
  refine ⟨fun q hq => ?_, fun q hq => (h.2 q hq).moved hW.alike⟩
  obtain ⟨sa, h1⟩ := h.1 q hq
  exact ⟨sa, h1.warm hW⟩
/-! the store: what the cell k holds at the place i; the layout: what kind of cell k is -/
abbrev zStore : Type := Nat → Int → Int
abbrev zSpec : Type := (Nat × List (Option (Option Nat))) ⊕ ((Nat × Nat) ⊕ List (Option Nat))
abbrev zFr : Type := (Nat → Nat) × Nat × (Nat → zSpec)
def zup (I : zStore) (k : Nat) (i v : Int) : zStore := fun a b => if a = k ∧ b = i then v else I a b
theorem zup_at (I : zStore) (k : Nat) (i v : Int) : zup I k i v k i = v := by simp [zup]
theorem zup_k {I : zStore} {k a : Nat} {i v b : Int} (h : a ≠ k) : zup I k i v a b = I a b := by simp [zup, h]
theorem zup_i {I : zStore} {k a : Nat} {i v b : Int} (h : b ≠ i) : zup I k i v a b = I a b := by simp [zup, h]
def zfv (ad : Nat → Nat) (row : Int → Int) : Nat → List (Option (Option Nat)) → List Value
  | _, [] => []
  | j, none :: r => .int (zI (row j)) :: zfv ad row (j + 1) r
  | j, some none :: r => .null :: zfv ad row (j + 1) r
  | j, some (some t) :: r => .ref (ad t) :: zfv ad row (j + 1) r
theorem zfv_int {ad : Nat → Nat} {row : Int → Int} : ∀ {fs : List (Option (Option Nat))} {j k : Nat}, fs[k]? = some none → (zfv ad row j fs)[k]? = some (.int (zI (row ((j + k : Nat) : Int))))
  | none :: r, j, 0, _ => rfl
  | some none :: r, j, 0, h => by cases h
  | some (some t) :: r, j, 0, h => by cases h
  | x :: r, j, k + 1, h => by
    have h1 := zfv_int (ad := ad) (row := row) (fs := r) (j := j + 1) (k := k) h
    rw [show j + (k + 1) = j + 1 + k by omega]
    rcases x with _ | _ | t <;> exact h1
theorem zfv_ref {ad : Nat → Nat} {row : Int → Int} : ∀ {fs : List (Option (Option Nat))} {j k t : Nat}, fs[k]? = some (some (some t)) → (zfv ad row j fs)[k]? = some (.ref (ad t))
  | none :: r, j, 0, t, h => by cases h
  | some none :: r, j, 0, t, h => by cases h
  | some (some t') :: r, j, 0, t, h => by cases h; rfl
  | x :: r, j, k + 1, t, h => by
    have h1 := zfv_ref (ad := ad) (row := row) (fs := r) (j := j + 1) (k := k) (t := t) h
    rcases x with _ | _ | t <;> exact h1
theorem zfv_len {ad : Nat → Nat} {row : Int → Int} : ∀ {fs : List (Option (Option Nat))} {j : Nat}, (zfv ad row j fs).length = fs.length
  | [], _ => rfl
  | x :: r, j => by
    have h1 := zfv_len (ad := ad) (row := row) (fs := r) (j := j + 1)
    rcases x with _ | _ | t <;> (simp only [zfv, List.length_cons]; rw [h1])
theorem zfv_eq {ad : Nat → Nat} {row row' : Int → Int} : ∀ {fs : List (Option (Option Nat))} {j : Nat}, (∀ i : Nat, j ≤ i → row (i : Int) = row' (i : Int)) → zfv ad row j fs = zfv ad row' j fs
  | [], _, _ => rfl
  | x :: r, j, h => by
    have h1 := zfv_eq (ad := ad) (row := row) (row' := row') (fs := r) (j := j + 1) (fun i hi => h i (by omega))
    have h2 := h j (Nat.le_refl j)
    rcases x with _ | _ | t
    · simp only [zfv]; rw [h1, h2]
    · simp only [zfv]; rw [h1]
    · simp only [zfv]; rw [h1]
theorem zfv_put {ad : Nat → Nat} {row row' : Int → Int} {v : Int} : ∀ {fs : List (Option (Option Nat))} {j k : Nat}, fs[k]? = some none → row' ((j + k : Nat) : Int) = v → (∀ i : Nat, i ≠ j + k → row' (i : Int) = row (i : Int)) → (zfv ad row j fs).set k (.int (zI v)) = zfv ad row' j fs
  | none :: r, j, 0, _, h1, h2 => by
    subst h1
    show _ :: _ = _ :: _
    congr 1
    exact zfv_eq fun i hi => (h2 i (by omega)).symm
  | some none :: r, j, 0, h, _, _ => by cases h
  | some (some t) :: r, j, 0, h, _, _ => by cases h
  | x :: r, j, k + 1, h, h1, h2 => by
    have h3 := zfv_put (ad := ad) (row := row) (row' := row') (v := v) (fs := r) (j := j + 1) (k := k) h (by rw [← h1]; congr 2; omega) (fun i hi => h2 i (by omega))
    have h4 : row' (j : Int) = row (j : Int) := h2 j (by omega)
    rcases x with _ | _ | t
    · show _ :: _ = _ :: _
      rw [h4]; congr 1
    · show _ :: _ = _ :: _
      congr 1
    · show _ :: _ = _ :: _
      congr 1

def zar (t : Nat) (row : Int → Int) : (Nat → Int32) ⊕ (Nat → Int64) ⊕ (Nat → UInt32) ⊕ (Nat → UInt64) ⊕ (Nat → Option Nat) := if t = 3 then .inr (.inl (fun j => zJ (row (j : Int)))) else .inl (fun j => zI (row (j : Int)))
def zE (cs : Nat → ClassId) (F : zFr) (I : zStore) (k : Nat) : va_E := match F.2.2 k with
  | .inl q => .inr (q.1, zfv F.1 (I k) 0 q.2)
  | .inr (.inl q) => .inl (cs q.1, q.2, zar q.1 (I k))
  | .inr (.inr r) => .inl (cs 4, r.length, .inr (.inr (.inr (.inr (fun j => (r.getD j none).map F.1)))))
def zws (cs : Nat → ClassId) (F : zFr) (I : zStore) : va_W := (List.range F.2.1).map (fun k => (F.1 k, zE cs F I k))
theorem zE_obj {cs : Nat → ClassId} {F : zFr} {I : zStore} {k ci : Nat} {fs : List (Option (Option Nat))} (h : F.2.2 k = .inl (ci, fs)) : zE cs F I k = .inr (ci, zfv F.1 (I k) 0 fs) := by unfold zE; rw [h]
theorem zE_arr {cs : Nat → ClassId} {F : zFr} {I : zStore} {k t n : Nat} (h : F.2.2 k = .inr (.inl (t, n))) : zE cs F I k = .inl (cs t, n, zar t (I k)) := by unfold zE; rw [h]
theorem zE_row {cs : Nat → ClassId} {F : zFr} {I : zStore} {k : Nat} {r : List (Option Nat)} (h : F.2.2 k = .inr (.inr r)) : zE cs F I k = .inl (cs 4, r.length, .inr (.inr (.inr (.inr (fun j => (r.getD j none).map F.1))))) := by unfold zE; rw [h]
theorem zws_get {cs : Nat → ClassId} {F : zFr} {I : zStore} {k : Nat} (h : k < F.2.1) : (zws cs F I)[k]? = some (F.1 k, zE cs F I k) := by
  unfold zws
  rw [List.getElem?_map, List.getElem?_range h]; rfl
theorem zws_len {cs : Nat → ClassId} {F : zFr} {I : zStore} : (zws cs F I).length = F.2.1 := by simp [zws]
theorem zws_set {cs : Nat → ClassId} {F : zFr} {I I' : zStore} {k : Nat} {e : va_E} (h : k < F.2.1) (he : zE cs F I' k = e) (ho : ∀ j, j < F.2.1 → j ≠ k → zE cs F I' j = zE cs F I j) : (zws cs F I).set k (F.1 k, e) = zws cs F I' := by
  apply List.ext_getElem?
  intro j
  rw [List.getElem?_set]
  by_cases hj : k = j
  · subst hj
    rw [if_pos rfl, if_pos (by rw [zws_len]; exact h), zws_get h, he]
  · rw [if_neg hj]
    by_cases hn : j < F.2.1
    · rw [zws_get hn, zws_get hn, ho j hn (Ne.symm hj)]
    · rw [List.getElem?_eq_none (by rw [zws_len]; omega), List.getElem?_eq_none (by rw [zws_len]; omega)]
theorem zE_congr {cs : Nat → ClassId} {F : zFr} {I I' : zStore} {k : Nat} (h : ∀ i, I' k i = I k i) : zE cs F I' k = zE cs F I k := by
  have h1 : I' k = I k := funext h
  unfold zE; rw [h1]
theorem zws_up {cs : Nat → ClassId} {F : zFr} {I : zStore} {k : Nat} {i v : Int} {e : va_E} (h : k < F.2.1) (he : zE cs F (zup I k i v) k = e) : (zws cs F I).set k (F.1 k, e) = zws cs F (zup I k i v) :=
  zws_set h he fun j _ hj => zE_congr fun b => zup_k hj
def zAd (F : zFr) (sz : Nat) : Nat → Prop := fun q => (∃ k, k < F.2.1 ∧ q = F.1 k) ∨ sz ≤ q
theorem zD_inj {cs : Nat → ClassId} {F : zFr} {I : zStore} {A : Nat → Prop} (h : va_D A (zws cs F I)) : ∀ i j, i < F.2.1 → j < F.2.1 → F.1 i = F.1 j → i = j :=
  fun i j hi hj e => h.1 i j _ _ (zws_get hi) (zws_get hj) e
theorem zD_in {cs : Nat → ClassId} {F : zFr} {I : zStore} {A : Nat → Prop} (h : va_D A (zws cs F I)) {k : Nat} (hk : k < F.2.1) : A (F.1 k) := h.2 k _ (zws_get hk)
theorem zD_of {cs : Nat → ClassId} {F : zFr} {I : zStore} {A : Nat → Prop} (h : ∀ i j, i < F.2.1 → j < F.2.1 → F.1 i = F.1 j → i = j) (hA : ∀ k, k < F.2.1 → A (F.1 k)) : va_D A (zws cs F I) := by
  have hlt : ∀ (k : Nat) (q : Nat × va_E), (zws cs F I)[k]? = some q → k < F.2.1 ∧ q.1 = F.1 k := by
    intro k q hq
    have h1 : k < F.2.1 := by
      have := (List.getElem?_eq_some_iff.mp hq).1
      rwa [zws_len] at this
    refine ⟨h1, ?_⟩
    rw [zws_get h1] at hq
    exact (congrArg Prod.fst (Option.some.inj hq)).symm
  refine ⟨fun i j p q hi hj e => ?_, fun k q hq => ?_⟩
  · have h1 := hlt i p hi
    have h2 := hlt j q hj
    exact h i j h1.1 h2.1 (by rw [← h1.2, ← h2.2]; exact e)
  · have h1 := hlt k q hq
    rw [h1.2]; exact hA k h1.1
def ztys (cs : Nat → ClassId) : List (ClassId × FieldType) := [(cs 0, .int), (cs 1, .byte), (cs 2, .boolean), (cs 3, .long), (cs 4, .object "LineLearner$Format")]
end
section
/-! the judgement: from this place of the method, with these locals, this stack and this store, the method comes to its end -/
abbrev zCx : Type := Program × Launch × Env × Room × State × MethodId × Array Value × List Frame × Method × Code × (State → Prop) × (Nat → Prop) × Nat × va_G × (Nat → ClassId)
abbrev zLv : Type := List (Nat × Value)
def zW (G : zCx) (F : zFr) (cells slots : Nat) (I : zStore) (lv : zLv) (st : List Value) (pc : Nat) : Prop := match G with
  | (p, l, e, R, s, m, args, below, meth, c, Q, A, n, D, cs) => cells ≤ R.cells → slots ≤ R.slots → ∀ (H : Heap) (locs : List Loc) (ls : Array Slot), va_P D vwCl (zws cs F I) H → va_D A (zws cs F I) → va_S A s.heap H locs → lv_has ls n lv → W p l e R s m args below meth c H locs cells slots Q (F0 m pc ls st)
def zOK (G : zCx) (own : String) (cc : ByteArray) (nL : Nat) : Prop := match G with
  | (p, l, e, R, s, m, args, below, meth, c, Q, A, n, D, cs) => p.tables.exec = Jvm.exec ∧ c.code = cc ∧ s.vm.findClass own = some m.cls ∧ c.maxLocals = n ∧ n = nL ∧ va_K D vwCl (ztys cs) s ∧ zTb s ∧ zOutH A s s.heap ∧ zOutV s ∧ (∀ q, s.heap.size ≤ q → A q) ∧ l.stackTraces = false
def zRm (G : zCx) (f n : Nat) : Prop := match G with
  | (p, l, e, R, s, m, args, below, meth, c, Q, A, nn, D, cs) => f ≤ R.frames ∧ n ≤ R.locals
section ZR
variable {G : zCx} {F : zFr} {cells slots : Nat} {I : zStore} {lv lv' : zLv} {st : List Value} {pc : Nat} {own : String} {cc : ByteArray} {nL : Nat}
theorem z_perm (ks : List Nat) (h : lv_pick lv ks = lv') (k : zW G F cells slots I lv' st pc) : zW G F cells slots I lv st pc := by
  obtain ⟨p, l, e, R, s, m, args, below, meth, c, Q, A, n, D, cs⟩ := G
  intro hc hs H locs ls hP hD hS hl
  exact k hc hs H locs ls hP hD hS (lv_sub hl ks h)
theorem z_eqst {st' : List Value} (h : st = st') (k : zW G F cells slots I lv st' pc) : zW G F cells slots I lv st pc := h ▸ k
theorem z_iadd {a b : Int} (hG : zOK G own cc nL) (hd : decode cc pc = .ok (.iadd, 1)) (k : zW G F cells slots I lv (.int (zI (a + b)) :: st) (pc + 1)) : zW G F cells slots I lv (.int (zI b) :: .int (zI a) :: st) pc := by
  obtain ⟨p, l, e, R, s, m, args, below, meth, c, Q, A, n, D, cs⟩ := G
  intro hc hs H locs ls hP hD hS hl
  have h := k hc hs H locs ls hP hD hS hl
  rw [← zI_add] at h
  exact lv_iadd hG.1 hG.2.1 hd h
theorem z_isub {a b : Int} (hG : zOK G own cc nL) (hd : decode cc pc = .ok (.isub, 1)) (k : zW G F cells slots I lv (.int (zI (a - b)) :: st) (pc + 1)) : zW G F cells slots I lv (.int (zI b) :: .int (zI a) :: st) pc := by
  obtain ⟨p, l, e, R, s, m, args, below, meth, c, Q, A, n, D, cs⟩ := G
  intro hc hs H locs ls hP hD hS hl
  have h := k hc hs H locs ls hP hD hS hl
  rw [← zI_sub] at h
  exact lv_isub hG.1 hG.2.1 hd h
theorem z_imul {a b : Int} (hG : zOK G own cc nL) (hd : decode cc pc = .ok (.imul, 1)) (k : zW G F cells slots I lv (.int (zI (a * b)) :: st) (pc + 1)) : zW G F cells slots I lv (.int (zI b) :: .int (zI a) :: st) pc := by
  obtain ⟨p, l, e, R, s, m, args, below, meth, c, Q, A, n, D, cs⟩ := G
  intro hc hs H locs ls hP hD hS hl
  have h := k hc hs H locs ls hP hD hS hl
  rw [← zI_mul] at h
  exact lv_imul hG.1 hG.2.1 hd h
theorem z_ladd {a b : Int} (hG : zOK G own cc nL) (hd : decode cc pc = .ok (.ladd, 1)) (k : zW G F cells slots I lv (.long (zJ (a + b)) :: st) (pc + 1)) : zW G F cells slots I lv (.long (zJ b) :: .long (zJ a) :: st) pc := by
  obtain ⟨p, l, e, R, s, m, args, below, meth, c, Q, A, n, D, cs⟩ := G
  intro hc hs H locs ls hP hD hS hl
  have h := k hc hs H locs ls hP hD hS hl
  rw [← zJ_add] at h
  exact lv_ladd hG.1 hG.2.1 hd h
theorem z_lmul {a b : Int} (hG : zOK G own cc nL) (hd : decode cc pc = .ok (.lmul, 1)) (k : zW G F cells slots I lv (.long (zJ (a * b)) :: st) (pc + 1)) : zW G F cells slots I lv (.long (zJ b) :: .long (zJ a) :: st) pc := by
  obtain ⟨p, l, e, R, s, m, args, below, meth, c, Q, A, n, D, cs⟩ := G
  intro hc hs H locs ls hP hD hS hl
  have h := k hc hs H locs ls hP hD hS hl
  rw [← zJ_mul] at h
  exact lv_lmul hG.1 hG.2.1 hd h
theorem z_iconst (n : Int) (hG : zOK G own cc nL) (hd : decode cc pc = .ok (.iconst n, 1)) (k : zW G F cells slots I lv (.int (zI n) :: st) (pc + 1)) : zW G F cells slots I lv st pc := by
  obtain ⟨p, l, e, R, s, m, args, below, meth, c, Q, A, nn, D, cs⟩ := G
  intro hc hs H locs ls hP hD hS hl
  exact lv_iconst hG.1 hG.2.1 hd rfl (k hc hs H locs ls hP hD hS hl)
theorem z_bipush (n : Int) (hG : zOK G own cc nL) (hd : decode cc pc = .ok (.bipush n, 2)) (hv : (Int8.ofInt n).toInt32 = zI n) (k : zW G F cells slots I lv (.int (zI n) :: st) (pc + 2)) : zW G F cells slots I lv st pc := by
  obtain ⟨p, l, e, R, s, m, args, below, meth, c, Q, A, nn, D, cs⟩ := G
  intro hc hs H locs ls hP hD hS hl
  exact lv_bipush hG.1 hG.2.1 hd hv (k hc hs H locs ls hP hD hS hl)
theorem z_sipush (n : Int) (hG : zOK G own cc nL) (hd : decode cc pc = .ok (.sipush n, 3)) (hv : (Int16.ofInt n).toInt32 = zI n) (k : zW G F cells slots I lv (.int (zI n) :: st) (pc + 3)) : zW G F cells slots I lv st pc := by
  obtain ⟨p, l, e, R, s, m, args, below, meth, c, Q, A, nn, D, cs⟩ := G
  intro hc hs H locs ls hP hD hS hl
  exact lv_sipush hG.1 hG.2.1 hd hv (k hc hs H locs ls hP hD hS hl)
theorem z_lconst {f : Fin 2} (n : Int) (hG : zOK G own cc nL) (hd : decode cc pc = .ok (.lconst f, 1)) (hv : Int64.ofNat (f : Nat) = zJ n) (k : zW G F cells slots I lv (.long (zJ n) :: st) (pc + 1)) : zW G F cells slots I lv st pc := by
  obtain ⟨p, l, e, R, s, m, args, below, meth, c, Q, A, nn, D, cs⟩ := G
  intro hc hs H locs ls hP hD hS hl
  exact lv_lconst hG.1 hG.2.1 hd hv (k hc hs H locs ls hP hD hS hl)
theorem z_iload_n {i : Nat} {f : Fin 4} {x : Int32} (j : Nat) (hG : zOK G own cc nL) (hd : decode cc pc = .ok (.iload_n f, 1)) (hi : (f : Nat) = i) (hk : lv[j]? = some (i, .int x)) (k : zW G F cells slots I lv (.int x :: st) (pc + 1)) : zW G F cells slots I lv st pc := by
  obtain ⟨p, l, e, R, s, m, args, below, meth, c, Q, A, nn, D, cs⟩ := G
  intro hc hs H locs ls hP hD hS hl
  exact lv_iload_n hG.1 hG.2.1 hd hi (lv_at hl j hk) (k hc hs H locs ls hP hD hS hl)
theorem z_iload {i : Nat} {x : Int32} (j : Nat) (hG : zOK G own cc nL) (hd : decode cc pc = .ok (.iload i, 2)) (hk : lv[j]? = some (i, .int x)) (k : zW G F cells slots I lv (.int x :: st) (pc + 2)) : zW G F cells slots I lv st pc := by
  obtain ⟨p, l, e, R, s, m, args, below, meth, c, Q, A, nn, D, cs⟩ := G
  intro hc hs H locs ls hP hD hS hl
  exact lv_iload hG.1 hG.2.1 hd (lv_at hl j hk) (k hc hs H locs ls hP hD hS hl)
theorem z_lload_n {i : Nat} {f : Fin 4} {x : Int64} (j : Nat) (hG : zOK G own cc nL) (hd : decode cc pc = .ok (.lload_n f, 1)) (hi : (f : Nat) = i) (hk : lv[j]? = some (i, .long x)) (k : zW G F cells slots I lv (.long x :: st) (pc + 1)) : zW G F cells slots I lv st pc := by
  obtain ⟨p, l, e, R, s, m, args, below, meth, c, Q, A, nn, D, cs⟩ := G
  intro hc hs H locs ls hP hD hS hl
  exact lv_lload_n hG.1 hG.2.1 hd hi (lv_at hl j hk) (k hc hs H locs ls hP hD hS hl)
theorem z_aload_n {i x : Nat} {f : Fin 4} (j : Nat) (hG : zOK G own cc nL) (hd : decode cc pc = .ok (.aload_n f, 1)) (hi : (f : Nat) = i) (hk : lv[j]? = some (i, .ref x)) (k : zW G F cells slots I lv (.ref x :: st) (pc + 1)) : zW G F cells slots I lv st pc := by
  obtain ⟨p, l, e, R, s, m, args, below, meth, c, Q, A, nn, D, cs⟩ := G
  intro hc hs H locs ls hP hD hS hl
  exact lv_aload_n hG.1 hG.2.1 hd hi (lv_at hl j hk) (k hc hs H locs ls hP hD hS hl)
theorem z_aload {i x : Nat} (j : Nat) (hG : zOK G own cc nL) (hd : decode cc pc = .ok (.aload i, 2)) (hk : lv[j]? = some (i, .ref x)) (k : zW G F cells slots I lv (.ref x :: st) (pc + 2)) : zW G F cells slots I lv st pc := by
  obtain ⟨p, l, e, R, s, m, args, below, meth, c, Q, A, nn, D, cs⟩ := G
  intro hc hs H locs ls hP hD hS hl
  exact lv_aload hG.1 hG.2.1 hd (lv_at hl j hk) (k hc hs H locs ls hP hD hS hl)
theorem z_istore_n {i : Nat} {f : Fin 4} {x : Int32} (hG : zOK G own cc nL) (hd : decode cc pc = .ok (.istore_n f, 1)) (hi : (f : Nat) = i) (hn : i < nL) (hl' : (i, Value.int x) :: lv.filter (fun q => !(q.1 == i) && !(q.1 + 1 == i && q.2.category == 2)) = lv') (k : zW G F cells slots I lv' st (pc + 1)) : zW G F cells slots I lv (.int x :: st) pc := by
  obtain ⟨p, l, e, R, s, m, args, below, meth, c, Q, A, nn, D, cs⟩ := G
  intro hc hs H locs ls hP hD hS hl
  have hn2 : i < nn := by have := hG.2.2.2.2.1; omega
  exact lv_istore_n hG.1 hG.2.1 hd hi hl hn2 hl' (fun ls2 hl2 => k hc hs H locs ls2 hP hD hS hl2)
theorem z_istore {i : Nat} {x : Int32} (hG : zOK G own cc nL) (hd : decode cc pc = .ok (.istore i, 2)) (hn : i < nL) (hl' : (i, Value.int x) :: lv.filter (fun q => !(q.1 == i) && !(q.1 + 1 == i && q.2.category == 2)) = lv') (k : zW G F cells slots I lv' st (pc + 2)) : zW G F cells slots I lv (.int x :: st) pc := by
  obtain ⟨p, l, e, R, s, m, args, below, meth, c, Q, A, nn, D, cs⟩ := G
  intro hc hs H locs ls hP hD hS hl
  have hn2 : i < nn := by have := hG.2.2.2.2.1; omega
  exact lv_istore hG.1 hG.2.1 hd hl hn2 hl' (fun ls2 hl2 => k hc hs H locs ls2 hP hD hS hl2)
theorem z_lstore_n {i : Nat} {f : Fin 4} {x : Int64} (hG : zOK G own cc nL) (hd : decode cc pc = .ok (.lstore_n f, 1)) (hi : (f : Nat) = i) (hn : i + 1 < nL) (hl' : (i, Value.long x) :: lv.filter (fun q => !(q.1 == i) && (!(q.1 == i + 1) && !(q.1 + 1 == i && q.2.category == 2))) = lv') (k : zW G F cells slots I lv' st (pc + 1)) : zW G F cells slots I lv (.long x :: st) pc := by
  obtain ⟨p, l, e, R, s, m, args, below, meth, c, Q, A, nn, D, cs⟩ := G
  intro hc hs H locs ls hP hD hS hl
  have hn2 : i + 1 < nn := by have := hG.2.2.2.2.1; omega
  exact lv_lstore_n hG.1 hG.2.1 hd hi hl hn2 hl' (fun ls2 hl2 => k hc hs H locs ls2 hP hD hS hl2)
theorem z_astore_n {i : Nat} {f : Fin 4} {x : Nat} (hG : zOK G own cc nL) (hd : decode cc pc = .ok (.astore_n f, 1)) (hi : (f : Nat) = i) (hn : i < nL) (hl' : (i, Value.ref x) :: lv.filter (fun q => !(q.1 == i) && !(q.1 + 1 == i && q.2.category == 2)) = lv') (k : zW G F cells slots I lv' st (pc + 1)) : zW G F cells slots I lv (.ref x :: st) pc := by
  obtain ⟨p, l, e, R, s, m, args, below, meth, c, Q, A, nn, D, cs⟩ := G
  intro hc hs H locs ls hP hD hS hl
  have hn2 : i < nn := by have := hG.2.2.2.2.1; omega
  exact lv_astore_n hG.1 hG.2.1 hd hi hl hn2 hl' (fun ls2 hl2 => k hc hs H locs ls2 hP hD hS hl2)
theorem z_astore {i : Nat} {x : Nat} (hG : zOK G own cc nL) (hd : decode cc pc = .ok (.astore i, 2)) (hn : i < nL) (hl' : (i, Value.ref x) :: lv.filter (fun q => !(q.1 == i) && !(q.1 + 1 == i && q.2.category == 2)) = lv') (k : zW G F cells slots I lv' st (pc + 2)) : zW G F cells slots I lv (.ref x :: st) pc := by
  obtain ⟨p, l, e, R, s, m, args, below, meth, c, Q, A, nn, D, cs⟩ := G
  intro hc hs H locs ls hP hD hS hl
  have hn2 : i < nn := by have := hG.2.2.2.2.1; omega
  exact lv_astore hG.1 hG.2.1 hd hl hn2 hl' (fun ls2 hl2 => k hc hs H locs ls2 hP hD hS hl2)
theorem z_iinc {i : Nat} {a n : Int} (j : Nat) (hG : zOK G own cc nL) (hd : decode cc pc = .ok (.iinc i n, 3)) (hk : lv[j]? = some (i, .int (zI a))) (hn : i < nL) (hl' : (i, Value.int (zI (a + n))) :: lv.filter (fun q => !(q.1 == i) && !(q.1 + 1 == i && q.2.category == 2)) = lv') (k : zW G F cells slots I lv' st (pc + 3)) : zW G F cells slots I lv st pc := by
  obtain ⟨p, l, e, R, s, m, args, below, meth, c, Q, A, nn, D, cs⟩ := G
  intro hc hs H locs ls hP hD hS hl
  have hn2 : i < nn := by have := hG.2.2.2.2.1; omega
  exact lv_iinc hG.1 hG.2.1 hd hl hk (zI_add a n) hn2 hl' (fun ls2 hl2 => k hc hs H locs ls2 hP hD hS hl2)
theorem z_dup {v : Value} (hG : zOK G own cc nL) (hd : decode cc pc = .ok (.dup, 1)) (hv : v.category = 1) (k : zW G F cells slots I lv (v :: v :: st) (pc + 1)) : zW G F cells slots I lv (v :: st) pc := by
  obtain ⟨p, l, e, R, s, m, args, below, meth, c, Q, A, nn, D, cs⟩ := G
  intro hc hs H locs ls hP hD hS hl
  exact lv_dup hG.1 hG.2.1 hd hv (k hc hs H locs ls hP hD hS hl)
theorem z_dup2 {v w : Value} (hG : zOK G own cc nL) (hd : decode cc pc = .ok (.dup2, 1)) (hv : v.category = 1) (hw : w.category = 1) (k : zW G F cells slots I lv (v :: w :: v :: w :: st) (pc + 1)) : zW G F cells slots I lv (v :: w :: st) pc := by
  obtain ⟨p, l, e, R, s, m, args, below, meth, c, Q, A, nn, D, cs⟩ := G
  intro hc hs H locs ls hP hD hS hl
  exact lv_dup2_11 hG.1 hG.2.1 hd hv hw (k hc hs H locs ls hP hD hS hl)
theorem z_pop {v : Value} (hG : zOK G own cc nL) (hd : decode cc pc = .ok (.pop, 1)) (hv : v.category = 1) (k : zW G F cells slots I lv st (pc + 1)) : zW G F cells slots I lv (v :: st) pc := by
  obtain ⟨p, l, e, R, s, m, args, below, meth, c, Q, A, nn, D, cs⟩ := G
  intro hc hs H locs ls hP hD hS hl
  exact lv_pop hG.1 hG.2.1 hd hv (k hc hs H locs ls hP hD hS hl)
theorem z_goto {off : Int} {tgt : Nat} (hG : zOK G own cc nL) (hd : decode cc pc = .ok (.goto off, 3)) (ht : (pc : Int) + off = (tgt : Int)) (k : zW G F cells slots I lv st tgt) : zW G F cells slots I lv st pc := by
  obtain ⟨p, l, e, R, s, m, args, below, meth, c, Q, A, nn, D, cs⟩ := G
  intro hc hs H locs ls hP hD hS hl
  exact lv_goto hG.1 hG.2.1 hd ht (k hc hs H locs ls hP hD hS hl)
theorem z_i2l {a : Int} (hG : zOK G own cc nL) (hd : decode cc pc = .ok (.i2l, 1)) (ha : -2147483648 ≤ a ∧ a < 2147483648) (k : zW G F cells slots I lv (.long (zJ a) :: st) (pc + 1)) : zW G F cells slots I lv (.int (zI a) :: st) pc := by
  obtain ⟨p, l, e, R, s, m, args, below, meth, c, Q, A, nn, D, cs⟩ := G
  intro hc hs H locs ls hP hD hS hl
  exact lv_i2l hG.1 hG.2.1 hd (zI_wide ha) (k hc hs H locs ls hP hD hS hl)
theorem z_icmp_eq {a b : Int} {off : Int} {tgt : Nat} (hG : zOK G own cc nL) (hd : decode cc pc = .ok (.if_icmp .eq off, 3)) (ht : (pc : Int) + off = (tgt : Int)) (ha : -2147483648 ≤ a ∧ a < 2147483648) (hb : -2147483648 ≤ b ∧ b < 2147483648) (kt : a = b → zW G F cells slots I lv st tgt) (kf : a ≠ b → zW G F cells slots I lv st (pc + 3)) : zW G F cells slots I lv (.int (zI b) :: .int (zI a) :: st) pc := by
  obtain ⟨p, l, e, R, s, m, args, below, meth, c, Q, A, nn, D, cs⟩ := G
  intro hc hs H locs ls hP hD hS hl
  exact lv_icmp_eq hG.1 hG.2.1 hd ht (fun h => kt ((zI_eq ha hb).mp h) hc hs H locs ls hP hD hS hl) (fun h => kf (fun q => h ((zI_eq ha hb).mpr q)) hc hs H locs ls hP hD hS hl)
theorem z_if_eq {a : Int} {off : Int} {tgt : Nat} (hG : zOK G own cc nL) (hd : decode cc pc = .ok (.ifCond .eq off, 3)) (ht : (pc : Int) + off = (tgt : Int)) (ha : -2147483648 ≤ a ∧ a < 2147483648) (kt : a = 0 → zW G F cells slots I lv st tgt) (kf : a ≠ 0 → zW G F cells slots I lv st (pc + 3)) : zW G F cells slots I lv (.int (zI a) :: st) pc := by
  obtain ⟨p, l, e, R, s, m, args, below, meth, c, Q, A, nn, D, cs⟩ := G
  intro hc hs H locs ls hP hD hS hl
  have hb : -2147483648 ≤ (0 : Int) ∧ (0 : Int) < 2147483648 := by omega
  exact lv_if_eq hG.1 hG.2.1 hd ht (fun h => kt ((zI_eq ha hb).mp h) hc hs H locs ls hP hD hS hl) (fun h => kf (fun q => h ((zI_eq ha hb).mpr q)) hc hs H locs ls hP hD hS hl)
theorem z_icmp_ne {a b : Int} {off : Int} {tgt : Nat} (hG : zOK G own cc nL) (hd : decode cc pc = .ok (.if_icmp .ne off, 3)) (ht : (pc : Int) + off = (tgt : Int)) (ha : -2147483648 ≤ a ∧ a < 2147483648) (hb : -2147483648 ≤ b ∧ b < 2147483648) (kt : a ≠ b → zW G F cells slots I lv st tgt) (kf : a = b → zW G F cells slots I lv st (pc + 3)) : zW G F cells slots I lv (.int (zI b) :: .int (zI a) :: st) pc := by
  obtain ⟨p, l, e, R, s, m, args, below, meth, c, Q, A, nn, D, cs⟩ := G
  intro hc hs H locs ls hP hD hS hl
  exact lv_icmp_ne hG.1 hG.2.1 hd ht (fun h => kt (fun q => h ((zI_eq ha hb).mpr q)) hc hs H locs ls hP hD hS hl) (fun h => kf ((zI_eq ha hb).mp h) hc hs H locs ls hP hD hS hl)
theorem z_if_ne {a : Int} {off : Int} {tgt : Nat} (hG : zOK G own cc nL) (hd : decode cc pc = .ok (.ifCond .ne off, 3)) (ht : (pc : Int) + off = (tgt : Int)) (ha : -2147483648 ≤ a ∧ a < 2147483648) (kt : a ≠ 0 → zW G F cells slots I lv st tgt) (kf : a = 0 → zW G F cells slots I lv st (pc + 3)) : zW G F cells slots I lv (.int (zI a) :: st) pc := by
  obtain ⟨p, l, e, R, s, m, args, below, meth, c, Q, A, nn, D, cs⟩ := G
  intro hc hs H locs ls hP hD hS hl
  have hb : -2147483648 ≤ (0 : Int) ∧ (0 : Int) < 2147483648 := by omega
  exact lv_if_ne hG.1 hG.2.1 hd ht (fun h => kt (fun q => h ((zI_eq ha hb).mpr q)) hc hs H locs ls hP hD hS hl) (fun h => kf ((zI_eq ha hb).mp h) hc hs H locs ls hP hD hS hl)
theorem z_icmp_lt {a b : Int} {off : Int} {tgt : Nat} (hG : zOK G own cc nL) (hd : decode cc pc = .ok (.if_icmp .lt off, 3)) (ht : (pc : Int) + off = (tgt : Int)) (ha : -2147483648 ≤ a ∧ a < 2147483648) (hb : -2147483648 ≤ b ∧ b < 2147483648) (kt : a < b → zW G F cells slots I lv st tgt) (kf : b ≤ a → zW G F cells slots I lv st (pc + 3)) : zW G F cells slots I lv (.int (zI b) :: .int (zI a) :: st) pc := by
  obtain ⟨p, l, e, R, s, m, args, below, meth, c, Q, A, nn, D, cs⟩ := G
  intro hc hs H locs ls hP hD hS hl
  exact lv_icmp_lt hG.1 hG.2.1 hd ht (fun h => kt ((zI_lt ha hb).mp h) hc hs H locs ls hP hD hS hl) (fun h => kf (by have h2 := mt (zI_lt ha hb).mpr h; omega) hc hs H locs ls hP hD hS hl)
theorem z_if_lt {a : Int} {off : Int} {tgt : Nat} (hG : zOK G own cc nL) (hd : decode cc pc = .ok (.ifCond .lt off, 3)) (ht : (pc : Int) + off = (tgt : Int)) (ha : -2147483648 ≤ a ∧ a < 2147483648) (kt : a < 0 → zW G F cells slots I lv st tgt) (kf : 0 ≤ a → zW G F cells slots I lv st (pc + 3)) : zW G F cells slots I lv (.int (zI a) :: st) pc := by
  obtain ⟨p, l, e, R, s, m, args, below, meth, c, Q, A, nn, D, cs⟩ := G
  intro hc hs H locs ls hP hD hS hl
  have hb : -2147483648 ≤ (0 : Int) ∧ (0 : Int) < 2147483648 := by omega
  exact lv_if_lt hG.1 hG.2.1 hd ht (fun h => kt ((zI_lt ha hb).mp h) hc hs H locs ls hP hD hS hl) (fun h => kf (by have h2 := mt (zI_lt ha hb).mpr h; omega) hc hs H locs ls hP hD hS hl)
theorem z_icmp_ge {a b : Int} {off : Int} {tgt : Nat} (hG : zOK G own cc nL) (hd : decode cc pc = .ok (.if_icmp .ge off, 3)) (ht : (pc : Int) + off = (tgt : Int)) (ha : -2147483648 ≤ a ∧ a < 2147483648) (hb : -2147483648 ≤ b ∧ b < 2147483648) (kt : b ≤ a → zW G F cells slots I lv st tgt) (kf : a < b → zW G F cells slots I lv st (pc + 3)) : zW G F cells slots I lv (.int (zI b) :: .int (zI a) :: st) pc := by
  obtain ⟨p, l, e, R, s, m, args, below, meth, c, Q, A, nn, D, cs⟩ := G
  intro hc hs H locs ls hP hD hS hl
  exact lv_icmp_ge hG.1 hG.2.1 hd ht (fun h => kt ((zI_le hb ha).mp h) hc hs H locs ls hP hD hS hl) (fun h => kf (by have h2 := mt (zI_le hb ha).mpr h; omega) hc hs H locs ls hP hD hS hl)
theorem z_if_ge {a : Int} {off : Int} {tgt : Nat} (hG : zOK G own cc nL) (hd : decode cc pc = .ok (.ifCond .ge off, 3)) (ht : (pc : Int) + off = (tgt : Int)) (ha : -2147483648 ≤ a ∧ a < 2147483648) (kt : 0 ≤ a → zW G F cells slots I lv st tgt) (kf : a < 0 → zW G F cells slots I lv st (pc + 3)) : zW G F cells slots I lv (.int (zI a) :: st) pc := by
  obtain ⟨p, l, e, R, s, m, args, below, meth, c, Q, A, nn, D, cs⟩ := G
  intro hc hs H locs ls hP hD hS hl
  have hb : -2147483648 ≤ (0 : Int) ∧ (0 : Int) < 2147483648 := by omega
  exact lv_if_ge hG.1 hG.2.1 hd ht (fun h => kt ((zI_le hb ha).mp h) hc hs H locs ls hP hD hS hl) (fun h => kf (by have h2 := mt (zI_le hb ha).mpr h; omega) hc hs H locs ls hP hD hS hl)
theorem z_icmp_gt {a b : Int} {off : Int} {tgt : Nat} (hG : zOK G own cc nL) (hd : decode cc pc = .ok (.if_icmp .gt off, 3)) (ht : (pc : Int) + off = (tgt : Int)) (ha : -2147483648 ≤ a ∧ a < 2147483648) (hb : -2147483648 ≤ b ∧ b < 2147483648) (kt : b < a → zW G F cells slots I lv st tgt) (kf : a ≤ b → zW G F cells slots I lv st (pc + 3)) : zW G F cells slots I lv (.int (zI b) :: .int (zI a) :: st) pc := by
  obtain ⟨p, l, e, R, s, m, args, below, meth, c, Q, A, nn, D, cs⟩ := G
  intro hc hs H locs ls hP hD hS hl
  exact lv_icmp_gt hG.1 hG.2.1 hd ht (fun h => kt ((zI_lt hb ha).mp h) hc hs H locs ls hP hD hS hl) (fun h => kf (by have h2 := mt (zI_lt hb ha).mpr h; omega) hc hs H locs ls hP hD hS hl)
theorem z_if_gt {a : Int} {off : Int} {tgt : Nat} (hG : zOK G own cc nL) (hd : decode cc pc = .ok (.ifCond .gt off, 3)) (ht : (pc : Int) + off = (tgt : Int)) (ha : -2147483648 ≤ a ∧ a < 2147483648) (kt : 0 < a → zW G F cells slots I lv st tgt) (kf : a ≤ 0 → zW G F cells slots I lv st (pc + 3)) : zW G F cells slots I lv (.int (zI a) :: st) pc := by
  obtain ⟨p, l, e, R, s, m, args, below, meth, c, Q, A, nn, D, cs⟩ := G
  intro hc hs H locs ls hP hD hS hl
  have hb : -2147483648 ≤ (0 : Int) ∧ (0 : Int) < 2147483648 := by omega
  exact lv_if_gt hG.1 hG.2.1 hd ht (fun h => kt ((zI_lt hb ha).mp h) hc hs H locs ls hP hD hS hl) (fun h => kf (by have h2 := mt (zI_lt hb ha).mpr h; omega) hc hs H locs ls hP hD hS hl)
theorem z_icmp_le {a b : Int} {off : Int} {tgt : Nat} (hG : zOK G own cc nL) (hd : decode cc pc = .ok (.if_icmp .le off, 3)) (ht : (pc : Int) + off = (tgt : Int)) (ha : -2147483648 ≤ a ∧ a < 2147483648) (hb : -2147483648 ≤ b ∧ b < 2147483648) (kt : a ≤ b → zW G F cells slots I lv st tgt) (kf : b < a → zW G F cells slots I lv st (pc + 3)) : zW G F cells slots I lv (.int (zI b) :: .int (zI a) :: st) pc := by
  obtain ⟨p, l, e, R, s, m, args, below, meth, c, Q, A, nn, D, cs⟩ := G
  intro hc hs H locs ls hP hD hS hl
  exact lv_icmp_le hG.1 hG.2.1 hd ht (fun h => kt ((zI_le ha hb).mp h) hc hs H locs ls hP hD hS hl) (fun h => kf (by have h2 := mt (zI_le ha hb).mpr h; omega) hc hs H locs ls hP hD hS hl)
theorem z_if_le {a : Int} {off : Int} {tgt : Nat} (hG : zOK G own cc nL) (hd : decode cc pc = .ok (.ifCond .le off, 3)) (ht : (pc : Int) + off = (tgt : Int)) (ha : -2147483648 ≤ a ∧ a < 2147483648) (kt : a ≤ 0 → zW G F cells slots I lv st tgt) (kf : 0 < a → zW G F cells slots I lv st (pc + 3)) : zW G F cells slots I lv (.int (zI a) :: st) pc := by
  obtain ⟨p, l, e, R, s, m, args, below, meth, c, Q, A, nn, D, cs⟩ := G
  intro hc hs H locs ls hP hD hS hl
  have hb : -2147483648 ≤ (0 : Int) ∧ (0 : Int) < 2147483648 := by omega
  exact lv_if_le hG.1 hG.2.1 hd ht (fun h => kt ((zI_le ha hb).mp h) hc hs H locs ls hP hD hS hl) (fun h => kf (by have h2 := mt (zI_le ha hb).mpr h; omega) hc hs H locs ls hP hD hS hl)
end ZR
end
section
/-! rows that read and write the store -/
def zCl (ci : Nat) (C : String) (T : u_T) (N : Nat) (ty : Nat → FieldType) : Prop := vwCl[ci]? = some (C, T, N) ∧ (∀ w ∈ u_ws C T N, zWd w) ∧ (∀ k, k < N → parseFieldDescriptor (T k).2.2.1 = some (ty k)) ∧ (∀ a, a < N → ∀ b, b < N → a ≠ b → (T a).2.1 ≠ (T b).2.1)
theorem zPt {cs : Nat → ClassId} {F : zFr} {I : zStore} {k : Nat} {e : va_E} (h : k < F.2.1) (he : zE cs F I k = e) : (zws cs F I)[k]? = some (F.1 k, e) := by rw [zws_get h, he]
section ZH
variable {G : zCx} {F : zFr} {cells slots : Nat} {I : zStore} {lv lv' : zLv} {st : List Value} {pc : Nat} {own : String} {cc : ByteArray} {nL : Nat} {ci N index : Nat} {C : String} {T : u_T} {ty : Nat → FieldType} {fs : List (Option (Option Nat))}
theorem z_getI {ki : Int} (hG : zOK G own cc nL) (hcl : zCl ci C T N ty) {b : Nat} (hb : b < F.2.1) (hlay : F.2.2 b = .inl (ci, fs)) (k : Nat) (hk : k < N) (hki : (k : Int) = ki) (hf : fs[k]? = some none) (hlink : zWd (.fieldLink own index (T k).1 (T k).2.1 (T k).2.2.1)) (hd : decode cc pc = .ok (.getfield index, 3)) (kk : zW G F cells slots I lv (.int (zI (I b ki)) :: st) (pc + 3)) : zW G F cells slots I lv (.ref (F.1 b) :: st) pc := by
  obtain ⟨p, l, e, R, s, m, args, below, meth, c, Q, A, nn, D, cs⟩ := G
  intro hc hs H locs ls hP hD hS hl
  obtain ⟨g1, g2, g3, g4, g5, g6, g7, g8, g9, g10, g11⟩ := hG
  subst hki
  refine va_get (ref := (T k).1) (v := .int (zI (I b (k : Int)))) g1 g2 (Ts := u_ws C T N) (fun w hw => g7.at (hcl.2.1 w hw) _) (fun _ h => h) g3 g6 hP b (zPt hb (zE_obj hlay)) hcl.1 k hk (g7.at hlink _) (fun _ h => h) ?_ hd (kk hc hs H locs ls hP hD hS hl)
  have := zfv_int (ad := F.1) (row := I b) (fs := fs) (j := 0) (k := k) hf
  rwa [Nat.zero_add] at this
theorem z_getR {t : Nat} (hG : zOK G own cc nL) (hcl : zCl ci C T N ty) {b : Nat} (hb : b < F.2.1) (hlay : F.2.2 b = .inl (ci, fs)) (k : Nat) (hk : k < N) (hf : fs[k]? = some (some (some t))) (hlink : zWd (.fieldLink own index (T k).1 (T k).2.1 (T k).2.2.1)) (hd : decode cc pc = .ok (.getfield index, 3)) (kk : zW G F cells slots I lv (.ref (F.1 t) :: st) (pc + 3)) : zW G F cells slots I lv (.ref (F.1 b) :: st) pc := by
  obtain ⟨p, l, e, R, s, m, args, below, meth, c, Q, A, nn, D, cs⟩ := G
  intro hc hs H locs ls hP hD hS hl
  obtain ⟨g1, g2, g3, g4, g5, g6, g7, g8, g9, g10, g11⟩ := hG
  exact va_get (ref := (T k).1) (v := .ref (F.1 t)) g1 g2 (Ts := u_ws C T N) (fun w hw => g7.at (hcl.2.1 w hw) _) (fun _ h => h) g3 g6 hP b (zPt hb (zE_obj hlay)) hcl.1 k hk (g7.at hlink _) (fun _ h => h) (zfv_ref hf) hd (kk hc hs H locs ls hP hD hS hl)
theorem z_getIN {ki : Int} {host : String} (hG : zOK G own cc nL) (hcl : zCl ci C T N ty) {b : Nat} (hb : b < F.2.1) (hlay : F.2.2 b = .inl (ci, fs)) (k : Nat) (hk : k < N) (hki : (k : Int) = ki) (hf : fs[k]? = some none) (hlink : zWd (.fieldLinkNest own index (T k).1 (T k).2.1 (T k).2.2.1 host)) (hd : decode cc pc = .ok (.getfield index, 3)) (kk : zW G F cells slots I lv (.int (zI (I b ki)) :: st) (pc + 3)) : zW G F cells slots I lv (.ref (F.1 b) :: st) pc := by
  obtain ⟨p, l, e, R, s, m, args, below, meth, c, Q, A, nn, D, cs⟩ := G
  intro hc hs H locs ls hP hD hS hl
  obtain ⟨g1, g2, g3, g4, g5, g6, g7, g8, g9, g10, g11⟩ := hG
  subst hki
  refine va_getN (ref := (T k).1) (host := host) (v := .int (zI (I b (k : Int)))) g1 g2 (Ts := u_ws C T N) (fun w hw => g7.at (hcl.2.1 w hw) _) (fun _ h => h) g3 g6 hP b (zPt hb (zE_obj hlay)) hcl.1 k hk (g7.at hlink _) (fun _ h => h) ?_ hd (kk hc hs H locs ls hP hD hS hl)
  have := zfv_int (ad := F.1) (row := I b) (fs := fs) (j := 0) (k := k) hf
  rwa [Nat.zero_add] at this
theorem z_getRN {t : Nat} {host : String} (hG : zOK G own cc nL) (hcl : zCl ci C T N ty) {b : Nat} (hb : b < F.2.1) (hlay : F.2.2 b = .inl (ci, fs)) (k : Nat) (hk : k < N) (hf : fs[k]? = some (some (some t))) (hlink : zWd (.fieldLinkNest own index (T k).1 (T k).2.1 (T k).2.2.1 host)) (hd : decode cc pc = .ok (.getfield index, 3)) (kk : zW G F cells slots I lv (.ref (F.1 t) :: st) (pc + 3)) : zW G F cells slots I lv (.ref (F.1 b) :: st) pc := by
  obtain ⟨p, l, e, R, s, m, args, below, meth, c, Q, A, nn, D, cs⟩ := G
  intro hc hs H locs ls hP hD hS hl
  obtain ⟨g1, g2, g3, g4, g5, g6, g7, g8, g9, g10, g11⟩ := hG
  exact va_getN (ref := (T k).1) (host := host) (v := .ref (F.1 t)) g1 g2 (Ts := u_ws C T N) (fun w hw => g7.at (hcl.2.1 w hw) _) (fun _ h => h) g3 g6 hP b (zPt hb (zE_obj hlay)) hcl.1 k hk (g7.at hlink _) (fun _ h => h) (zfv_ref hf) hd (kk hc hs H locs ls hP hD hS hl)
theorem zObj_up {cs : Nat → ClassId} {b k : Nat} {ki v : Int} (hb : b < F.2.1) (hlay : F.2.2 b = .inl (ci, fs)) (hki : (k : Int) = ki) (hf : fs[k]? = some none) : (zws cs F I).set b (F.1 b, .inr (ci, (zfv F.1 (I b) 0 fs).set k (.int (zI v)))) = zws cs F (zup I b ki v) := by
  refine zws_up hb ?_
  rw [zE_obj hlay, zfv_put (row := I b) (row' := zup I b ki v b) (v := v) hf]
  · rw [Nat.zero_add, hki]; exact zup_at _ _ _ _
  · intro i hi
    refine zup_i ?_
    rw [← hki]; omega
theorem z_putI {ki v : Int} (hG : zOK G own cc nL) (hcl : zCl ci C T N ty) {b : Nat} (hb : b < F.2.1) (hlay : F.2.2 b = .inl (ci, fs)) (k : Nat) (hk : k < N) (hki : (k : Int) = ki) (hf : fs[k]? = some none) (hlink : zWd (.fieldLink own index (T k).1 (T k).2.1 (T k).2.2.1)) (hfin : (T k).2.2.2 = false) (hty : ty k = .int) (hd : decode cc pc = .ok (.putfield index, 3)) (kk : zW G F cells slots (zup I b ki v) lv st (pc + 3)) : zW G F cells slots I lv (.int (zI v) :: .ref (F.1 b) :: st) pc := by
  obtain ⟨p, l, e, R, s, m, args, below, meth, c, Q, A, nn, D, cs⟩ := G
  intro hc hs H locs ls hP hD hS hl
  obtain ⟨g1, g2, g3, g4, g5, g6, g7, g8, g9, g10, g11⟩ := hG
  refine va_put (ref := (T k).1) g1 g2 (Ts := u_ws C T N) (fun w hw => g7.at (hcl.2.1 w hw) _) (fun _ h => h) ty hcl.2.2.1 hcl.2.2.2 g3 g6 hP hD hS b (zPt hb (zE_obj hlay)) hcl.1 k hk (g7.at hlink _) (fun _ h => h) hfin (by rw [hcl.2.2.1 k hk, hty]) rfl rfl (by rw [zfv_len]; exact (List.getElem?_eq_some_iff.mp hf).1) hd (fun H1 locs1 hP1 hD1 hS1 => ?_)
  rw [zObj_up hb hlay hki hf] at hP1 hD1
  exact kk hc hs H1 locs1 ls hP1 hD1 hS1 hl
theorem z_putZ {ki v : Int} (hG : zOK G own cc nL) (hcl : zCl ci C T N ty) {b : Nat} (hb : b < F.2.1) (hlay : F.2.2 b = .inl (ci, fs)) (k : Nat) (hk : k < N) (hki : (k : Int) = ki) (hf : fs[k]? = some none) (hlink : zWd (.fieldLink own index (T k).1 (T k).2.1 (T k).2.2.1)) (hfin : (T k).2.2.2 = false) (hty : ty k = .boolean) (hv : v = 0 ∨ v = 1) (hd : decode cc pc = .ok (.putfield index, 3)) (kk : zW G F cells slots (zup I b ki v) lv st (pc + 3)) : zW G F cells slots I lv (.int (zI v) :: .ref (F.1 b) :: st) pc := by
  obtain ⟨p, l, e, R, s, m, args, below, meth, c, Q, A, nn, D, cs⟩ := G
  intro hc hs H locs ls hP hD hS hl
  obtain ⟨g1, g2, g3, g4, g5, g6, g7, g8, g9, g10, g11⟩ := hG
  refine va_put (ref := (T k).1) g1 g2 (Ts := u_ws C T N) (fun w hw => g7.at (hcl.2.1 w hw) _) (fun _ h => h) ty hcl.2.2.1 hcl.2.2.2 g3 g6 hP hD hS b (zPt hb (zE_obj hlay)) hcl.1 k hk (g7.at hlink _) (fun _ h => h) hfin (by rw [hcl.2.2.1 k hk, hty]) (by rcases hv with rfl | rfl <;> rfl) (by rcases hv with rfl | rfl <;> rfl) (by rw [zfv_len]; exact (List.getElem?_eq_some_iff.mp hf).1) hd (fun H1 locs1 hP1 hD1 hS1 => ?_)
  rw [zObj_up hb hlay hki hf] at hP1 hD1
  exact kk hc hs H1 locs1 ls hP1 hD1 hS1 hl
theorem z_putIN {ki v : Int} {host : String} (hG : zOK G own cc nL) (hcl : zCl ci C T N ty) {b : Nat} (hb : b < F.2.1) (hlay : F.2.2 b = .inl (ci, fs)) (k : Nat) (hk : k < N) (hki : (k : Int) = ki) (hf : fs[k]? = some none) (hlink : zWd (.fieldLinkNest own index (T k).1 (T k).2.1 (T k).2.2.1 host)) (hfin : (T k).2.2.2 = false) (hty : ty k = .int) (hd : decode cc pc = .ok (.putfield index, 3)) (kk : zW G F cells slots (zup I b ki v) lv st (pc + 3)) : zW G F cells slots I lv (.int (zI v) :: .ref (F.1 b) :: st) pc := by
  obtain ⟨p, l, e, R, s, m, args, below, meth, c, Q, A, nn, D, cs⟩ := G
  intro hc hs H locs ls hP hD hS hl
  obtain ⟨g1, g2, g3, g4, g5, g6, g7, g8, g9, g10, g11⟩ := hG
  refine va_putN (ref := (T k).1) (host := host) g1 g2 (Ts := u_ws C T N) (fun w hw => g7.at (hcl.2.1 w hw) _) (fun _ h => h) ty hcl.2.2.1 hcl.2.2.2 g3 g6 hP hD hS b (zPt hb (zE_obj hlay)) hcl.1 k hk (g7.at hlink _) (fun _ h => h) hfin (by rw [hcl.2.2.1 k hk, hty]) rfl rfl (by rw [zfv_len]; exact (List.getElem?_eq_some_iff.mp hf).1) hd (fun H1 locs1 hP1 hD1 hS1 => ?_)
  rw [zObj_up hb hlay hki hf] at hP1 hD1
  exact kk hc hs H1 locs1 ls hP1 hD1 hS1 hl
/-! arrays -/
theorem zar_i {t : Nat} (h : t ≠ 3) (row : Int → Int) : zar t row = .inl (fun j => zI (row (j : Int))) := by unfold zar; rw [if_neg h]
theorem zar_j (row : Int → Int) : zar 3 row = .inr (.inl (fun j => zJ (row (j : Int)))) := by unfold zar; rw [if_pos rfl]
theorem zArr_up {cs : Nat → ClassId} {b t n : Nat} {i v : Int} {x : Int32} (ht : t ≠ 3) (hb : b < F.2.1) (hlay : F.2.2 b = .inr (.inl (t, n))) (h0 : 0 ≤ i) (h1 : i < 2147483648) (hx : x = zI v) : (zws cs F I).set b (F.1 b, .inl (cs t, n, .inl (upd (fun j => zI (I b (j : Int))) (zI i).toNatClampNeg x))) = zws cs F (zup I b i v) := by
  refine zws_up hb ?_
  rw [zE_arr hlay, zar_i ht]
  congr 4
  funext j
  have hc := zI_clamp h0 h1
  by_cases hj : j = (zI i).toNatClampNeg
  · subst hj
    simp only [upd, if_pos]
    rw [hc, zup_at, hx]
  · simp only [upd, if_neg hj]
    rw [zup_i]
    omega
theorem z_iald {i : Int} {n : Nat} (hG : zOK G own cc nL) {b : Nat} (hb : b < F.2.1) (hlay : F.2.2 b = .inr (.inl (0, n))) (hn : n ≤ 2147483647) (hi : 0 ≤ i ∧ i < (n : Int)) (hd : decode cc pc = .ok (.iaload, 1)) (kk : zW G F cells slots I lv (.int (zI (I b i)) :: st) (pc + 1)) : zW G F cells slots I lv (.int (zI i) :: .ref (F.1 b) :: st) pc := by
  obtain ⟨p, l, e, R, s, m, args, below, meth, c, Q, A, nn, D, cs⟩ := G
  intro hc hs H locs ls hP hD hS hl
  obtain ⟨g1, g2, g3, g4, g5, g6, g7, g8, g9, g10, g11⟩ := hG
  have hw := kk hc hs H locs ls hP hD hS hl
  have he : zE cs F I b = .inl (cs 0, n, .inl (fun j => zI (I b (j : Int)))) := by rw [zE_arr hlay, zar_i (by decide)]
  refine va_iald g1 g2 g6 hP b 0 (zPt hb he) rfl (zI_in hi.1 hi.2 hn) hd ?_
  rw [zI_clamp hi.1 (by omega)]
  exact hw
theorem z_bald {i : Int} {n : Nat} (hG : zOK G own cc nL) {b : Nat} (hb : b < F.2.1) (hlay : F.2.2 b = .inr (.inl (1, n))) (hn : n ≤ 2147483647) (hi : 0 ≤ i ∧ i < (n : Int)) (hd : decode cc pc = .ok (.baload, 1)) (kk : zW G F cells slots I lv (.int (zI (I b i)) :: st) (pc + 1)) : zW G F cells slots I lv (.int (zI i) :: .ref (F.1 b) :: st) pc := by
  obtain ⟨p, l, e, R, s, m, args, below, meth, c, Q, A, nn, D, cs⟩ := G
  intro hc hs H locs ls hP hD hS hl
  obtain ⟨g1, g2, g3, g4, g5, g6, g7, g8, g9, g10, g11⟩ := hG
  have hw := kk hc hs H locs ls hP hD hS hl
  have he : zE cs F I b = .inl (cs 1, n, .inl (fun j => zI (I b (j : Int)))) := by rw [zE_arr hlay, zar_i (by decide)]
  refine va_bald g1 g2 g6 hP b 1 (zPt hb he) rfl (zI_in hi.1 hi.2 hn) hd ?_
  rw [zI_clamp hi.1 (by omega)]
  exact hw
theorem z_zald {i : Int} {n : Nat} (hG : zOK G own cc nL) {b : Nat} (hb : b < F.2.1) (hlay : F.2.2 b = .inr (.inl (2, n))) (hn : n ≤ 2147483647) (hi : 0 ≤ i ∧ i < (n : Int)) (hd : decode cc pc = .ok (.baload, 1)) (kk : zW G F cells slots I lv (.int (zI (I b i)) :: st) (pc + 1)) : zW G F cells slots I lv (.int (zI i) :: .ref (F.1 b) :: st) pc := by
  obtain ⟨p, l, e, R, s, m, args, below, meth, c, Q, A, nn, D, cs⟩ := G
  intro hc hs H locs ls hP hD hS hl
  obtain ⟨g1, g2, g3, g4, g5, g6, g7, g8, g9, g10, g11⟩ := hG
  have hw := kk hc hs H locs ls hP hD hS hl
  have he : zE cs F I b = .inl (cs 2, n, .inl (fun j => zI (I b (j : Int)))) := by rw [zE_arr hlay, zar_i (by decide)]
  refine va_zald g1 g2 g6 hP b 2 (zPt hb he) rfl (zI_in hi.1 hi.2 hn) hd ?_
  rw [zI_clamp hi.1 (by omega)]
  exact hw
theorem z_lald {i : Int} {n : Nat} (hG : zOK G own cc nL) {b : Nat} (hb : b < F.2.1) (hlay : F.2.2 b = .inr (.inl (3, n))) (hn : n ≤ 2147483647) (hi : 0 ≤ i ∧ i < (n : Int)) (hd : decode cc pc = .ok (.laload, 1)) (kk : zW G F cells slots I lv (.long (zJ (I b i)) :: st) (pc + 1)) : zW G F cells slots I lv (.int (zI i) :: .ref (F.1 b) :: st) pc := by
  obtain ⟨p, l, e, R, s, m, args, below, meth, c, Q, A, nn, D, cs⟩ := G
  intro hc hs H locs ls hP hD hS hl
  obtain ⟨g1, g2, g3, g4, g5, g6, g7, g8, g9, g10, g11⟩ := hG
  have hw := kk hc hs H locs ls hP hD hS hl
  have he : zE cs F I b = .inl (cs 3, n, .inr (.inl (fun j => zJ (I b (j : Int))))) := by rw [zE_arr hlay, zar_j]
  refine va_lald g1 g2 g6 hP b 3 (zPt hb he) rfl (zI_in hi.1 hi.2 hn) hd ?_
  rw [zI_clamp hi.1 (by omega)]
  exact hw
theorem z_iast {i v : Int} {n : Nat} (hG : zOK G own cc nL) {b : Nat} (hb : b < F.2.1) (hlay : F.2.2 b = .inr (.inl (0, n))) (hn : n ≤ 2147483647) (hi : 0 ≤ i ∧ i < (n : Int)) (hd : decode cc pc = .ok (.iastore, 1)) (kk : zW G F cells slots (zup I b i v) lv st (pc + 1)) : zW G F cells slots I lv (.int (zI v) :: .int (zI i) :: .ref (F.1 b) :: st) pc := by
  obtain ⟨p, l, e, R, s, m, args, below, meth, c, Q, A, nn, D, cs⟩ := G
  intro hc hs H locs ls hP hD hS hl
  obtain ⟨g1, g2, g3, g4, g5, g6, g7, g8, g9, g10, g11⟩ := hG
  have he : zE cs F I b = .inl (cs 0, n, .inl (fun j => zI (I b (j : Int)))) := by rw [zE_arr hlay, zar_i (by decide)]
  refine va_iast g1 g2 g6 hP hD hS b 0 (zPt hb he) rfl (zI_in hi.1 hi.2 hn) hd (fun H1 locs1 hP1 hD1 hS1 => ?_)
  rw [zArr_up (by decide) hb hlay hi.1 (by omega) rfl] at hP1 hD1
  exact kk hc hs H1 locs1 ls hP1 hD1 hS1 hl
theorem z_bast {i v : Int} {n : Nat} (hG : zOK G own cc nL) {b : Nat} (hb : b < F.2.1) (hlay : F.2.2 b = .inr (.inl (1, n))) (hn : n ≤ 2147483647) (hi : 0 ≤ i ∧ i < (n : Int)) (hv : -128 ≤ v ∧ v < 128) (hd : decode cc pc = .ok (.bastore, 1)) (kk : zW G F cells slots (zup I b i v) lv st (pc + 1)) : zW G F cells slots I lv (.int (zI v) :: .int (zI i) :: .ref (F.1 b) :: st) pc := by
  obtain ⟨p, l, e, R, s, m, args, below, meth, c, Q, A, nn, D, cs⟩ := G
  intro hc hs H locs ls hP hD hS hl
  obtain ⟨g1, g2, g3, g4, g5, g6, g7, g8, g9, g10, g11⟩ := hG
  have he : zE cs F I b = .inl (cs 1, n, .inl (fun j => zI (I b (j : Int)))) := by rw [zE_arr hlay, zar_i (by decide)]
  refine va_bast g1 g2 g6 hP hD hS b 1 (zPt hb he) rfl (zI_in hi.1 hi.2 hn) hd (fun H1 locs1 hP1 hD1 hS1 => ?_)
  rw [zArr_up (by decide) hb hlay hi.1 (by omega) (by rw [vp_nar_byte]; exact zI_byte hv.1 hv.2)] at hP1 hD1
  exact kk hc hs H1 locs1 ls hP1 hD1 hS1 hl
theorem z_zast {i v : Int} {n : Nat} (hG : zOK G own cc nL) {b : Nat} (hb : b < F.2.1) (hlay : F.2.2 b = .inr (.inl (2, n))) (hn : n ≤ 2147483647) (hi : 0 ≤ i ∧ i < (n : Int)) (hv : v = 0 ∨ v = 1) (hd : decode cc pc = .ok (.bastore, 1)) (kk : zW G F cells slots (zup I b i v) lv st (pc + 1)) : zW G F cells slots I lv (.int (zI v) :: .int (zI i) :: .ref (F.1 b) :: st) pc := by
  obtain ⟨p, l, e, R, s, m, args, below, meth, c, Q, A, nn, D, cs⟩ := G
  intro hc hs H locs ls hP hD hS hl
  obtain ⟨g1, g2, g3, g4, g5, g6, g7, g8, g9, g10, g11⟩ := hG
  have he : zE cs F I b = .inl (cs 2, n, .inl (fun j => zI (I b (j : Int)))) := by rw [zE_arr hlay, zar_i (by decide)]
  refine va_zast g1 g2 g6 hP hD hS b 2 (zPt hb he) rfl (zI_in hi.1 hi.2 hn) hd (fun H1 locs1 hP1 hD1 hS1 => ?_)
  have hz : vp_nar .boolean (zI v) = zI v := by rcases hv with rfl | rfl <;> decide
  rw [zArr_up (by decide) hb hlay hi.1 (by omega) hz] at hP1 hD1
  exact kk hc hs H1 locs1 ls hP1 hD1 hS1 hl
theorem zArrJ_up {cs : Nat → ClassId} {b n : Nat} {i v : Int} (hb : b < F.2.1) (hlay : F.2.2 b = .inr (.inl (3, n))) (h0 : 0 ≤ i) (h1 : i < 2147483648) : (zws cs F I).set b (F.1 b, .inl (cs 3, n, .inr (.inl (vp_updL (fun j => zJ (I b (j : Int))) (zI i).toNatClampNeg (zJ v))))) = zws cs F (zup I b i v) := by
  refine zws_up hb ?_
  rw [zE_arr hlay, zar_j]
  congr 5
  funext j
  have hc := zI_clamp h0 h1
  by_cases hj : j = (zI i).toNatClampNeg
  · subst hj
    simp only [vp_updL, if_pos]
    rw [hc, zup_at]
  · simp only [vp_updL, if_neg hj]
    rw [zup_i]
    omega
theorem z_last {i v : Int} {n : Nat} (hG : zOK G own cc nL) {b : Nat} (hb : b < F.2.1) (hlay : F.2.2 b = .inr (.inl (3, n))) (hn : n ≤ 2147483647) (hi : 0 ≤ i ∧ i < (n : Int)) (hd : decode cc pc = .ok (.lastore, 1)) (kk : zW G F cells slots (zup I b i v) lv st (pc + 1)) : zW G F cells slots I lv (.long (zJ v) :: .int (zI i) :: .ref (F.1 b) :: st) pc := by
  obtain ⟨p, l, e, R, s, m, args, below, meth, c, Q, A, nn, D, cs⟩ := G
  intro hc hs H locs ls hP hD hS hl
  obtain ⟨g1, g2, g3, g4, g5, g6, g7, g8, g9, g10, g11⟩ := hG
  have he : zE cs F I b = .inl (cs 3, n, .inr (.inl (fun j => zJ (I b (j : Int))))) := by rw [zE_arr hlay, zar_j]
  refine va_last g1 g2 g6 hP hD hS b 3 (zPt hb he) rfl (zI_in hi.1 hi.2 hn) hd (fun H1 locs1 hP1 hD1 hS1 => ?_)
  rw [zArrJ_up hb hlay hi.1 (by omega)] at hP1 hD1
  exact kk hc hs H1 locs1 ls hP1 hD1 hS1 hl
theorem z_aald {i : Int} {r : List (Option Nat)} {t j : Nat} (hG : zOK G own cc nL) {b : Nat} (hb : b < F.2.1) (hlay : F.2.2 b = .inr (.inr r)) (hn : r.length ≤ 2147483647) (hj : (j : Int) = i) (hr : r[j]? = some (some t)) (hd : decode cc pc = .ok (.aaload, 1)) (kk : zW G F cells slots I lv (.ref (F.1 t) :: st) (pc + 1)) : zW G F cells slots I lv (.int (zI i) :: .ref (F.1 b) :: st) pc := by
  obtain ⟨p, l, e, R, s, m, args, below, meth, c, Q, A, nn, D, cs⟩ := G
  intro hc hs H locs ls hP hD hS hl
  obtain ⟨g1, g2, g3, g4, g5, g6, g7, g8, g9, g10, g11⟩ := hG
  have hw := kk hc hs H locs ls hP hD hS hl
  have hlt : j < r.length := (List.getElem?_eq_some_iff.mp hr).1
  refine va_aldq g1 g2 g6 hP b 4 (zPt hb (zE_row hlay)) rfl (zI_in (by omega) (by omega) hn) hd ?_
  have e1 : (zI i).toNatClampNeg = j := by
    have := zI_clamp (z := i) (by omega) (by omega)
    omega
  rw [e1]
  have e2 : r.getD j none = some t := by rw [List.getD_eq_getElem?_getD, hr]; rfl
  rw [e2]
  exact hw
end ZH
theorem va_tabsA {w : Cond} {U : State} {g : JFrame} {mk : MethodId} {a : Array Value} (h : w.before #[] U = true) (hs : zst w = true) : w.before #[] (U.calling g mk a) = true := zst_warm hs (s := U) (U := U.calling g mk a) (State.WarmedH.refl U) h
end
section
/-! contracts over the store, their proofs and their calls -/
def zJn (F : zFr) : Prop := ∀ i j, i < F.2.1 → j < F.2.1 → F.1 i = F.1 j → i = j
def zWo (D : va_G) (cs : Nat → ClassId) (F : zFr) (A : Nat → Prop) (I : zStore) (U : State) : Prop := va_P D vwCl (zws cs F I) U.heap ∧ va_K D vwCl (ztys cs) U ∧ zJn F ∧ zTb U ∧ zOutH A U U.heap ∧ zOutV U
def zPre (D : va_G) (cs : Nat → ClassId) (F : zFr) (I : zStore) (sz : Nat) (av : List Value) : Array Value → State → Prop := va_Pc av (fun U => U.heap.size = sz ∧ zWo D cs F (zAd F sz) I U)
def zQ (D : va_G) (cs : Nat → ClassId) (F : zFr) (sz : Nat) (post : Option Value → zStore → Prop) : Array Value → State → Outcome → State → Prop := fun _ st oc t => (∃ (r : Option Value) (u : zStore), oc = .returned r ∧ post r u ∧ va_P D vwCl (zws cs F u) t.heap) ∧ va_F (zAd F sz) st t
def zXC (D : va_G) (cs : Nat → ClassId) (F : zFr) (sz : Nat) (px : String → zStore → Prop) : String → State → State → Prop := fun E st t => (∃ u : zStore, px E u ∧ va_P D vwCl (zws cs F u) t.heap) ∧ va_F (zAd F sz) st t
/-- a method that returns -/
def zMt (l : Launch) (y : MethodName) (cc : ByteArray) (maxL : Nat) (ret : Option FieldType) (rm : Room) (D : va_G) (cs : Nat → ClassId) (F : zFr) (I : zStore) (av : List Value) (post : Option Value → zStore → Prop) : Prop :=
  ∀ sz, Met l y [Cond.code y cc maxL ret] rm (zPre D cs F I sz av) (zQ D cs F sz post) rm.cells rm.slots (zAd F sz)
/-- a method that returns or throws -/
def zMx (l : Launch) (y : MethodName) (cc : ByteArray) (maxL : Nat) (ret : Option FieldType) (rm : Room) (D : va_G) (cs : Nat → ClassId) (F : zFr) (I : zStore) (av : List Value) (post : Option Value → zStore → Prop) (px : String → zStore → Prop) : Prop :=
  ∀ sz, vx_Met l y [Cond.code y cc maxL ret] rm (zPre D cs F I sz av) (zQ D cs F sz post) (zXC D cs F sz px) rm.cells rm.slots (zAd F sz)
def zRoom (G : zCx) (rm : Room) : Prop := match G with
  | (p, l, e, R, s, m, args, below, meth, c, Q, A, nn, D, cs) => rm.frames ≤ R.frames ∧ rm.locals ≤ R.locals ∧ rm.cells ≤ R.cells ∧ rm.slots ≤ R.slots
def zRetI (G : zCx) (F : zFr) (cc : ByteArray) (mc ms : Nat) (post : Option Value → zStore → Prop) : Prop := ∀ x I lv pc, decode cc pc = .ok (.ireturn, 1) → post (some (.int x)) I → zW G F mc ms I lv [.int x] pc
def zRetZ (G : zCx) (F : zFr) (cc : ByteArray) (mc ms : Nat) (post : Option Value → zStore → Prop) : Prop := ∀ x I lv pc, decode cc pc = .ok (.ireturn, 1) → (x = 0 ∨ x = 1) → post (some (.int (zI x))) I → zW G F mc ms I lv [.int (zI x)] pc
def zRetV (G : zCx) (F : zFr) (cc : ByteArray) (mc ms : Nat) (post : Option Value → zStore → Prop) : Prop := ∀ I lv pc, decode cc pc = .ok (.return_, 1) → post none I → zW G F mc ms I lv [] pc
def zRetL (G : zCx) (F : zFr) (cc : ByteArray) (mc ms : Nat) (post : Option Value → zStore → Prop) : Prop := ∀ x I lv pc, decode cc pc = .ok (.lreturn, 1) → post (some (.long x)) I → zW G F mc ms I lv [.long x] pc
theorem zPre_blind {D : va_G} {cs : Nat → ClassId} {F : zFr} {I : zStore} {sz : Nat} {av : List Value} : FrameBlind (zPre D cs F I sz av) := by
  intro a U g mk ⟨h1, h2, h3, h4, h5, h6, h7, h8⟩
  exact ⟨h1, h2, h3, va_K.moved (u := U) (U := U.calling g mk a) (Vm.Alike.refl U.vm) h4, h5, fun w hw hs => va_tabsA (h6 w hw hs) hs, h7.moved (u := U) (U := U.calling g mk a) (Vm.Alike.refl U.vm), h8.warm (s := U) (U := U.calling g mk a) (State.WarmedH.refl U)⟩
section ZC
variable {G : zCx} {F : zFr} {cells slots : Nat} {I : zStore} {lv lv' : zLv} {st : List Value} {pc : Nat} {own : String} {cc : ByteArray} {nL : Nat}
theorem zBody {p : Program} {l : Launch} {e : Env} {s : State} {m : MethodId} {args : Array Value} {below : List Frame} {meth : Method} {c : Code} {s₁ : State} {y : MethodName} {maxL : Nat} {ret : Option FieldType} {rm : Room} {D : va_G} {cs : Nat → ClassId} {av : List Value} {sz : Nat} {ws : List Cond}
    (hst : l.stackTraces = false) (hlen : (lg_sl av).length ≤ maxL) (Q : State → Prop) (B : BodyLoose p l y (headSpec ws rm) cc maxL ret e s m args below meth c s₁) (hml : c.maxLocals = maxL) (hv : zPre D cs F I sz av args s)
    (k : ∀ G, G = (p, l, e, rm, s, m, args, below, meth, c, Q, zAd F sz, maxL, D, cs) → zOK G y.cls cc maxL → zRoom G rm → zW G F 0 0 I (lv_args 0 av) [] 0) :
    W p l e (headSpec ws rm).room s m args below meth c s.heap [] 0 0 Q (entryFrame m args maxL) := by
  obtain ⟨rfl, hsz, hP, hK, hJ, hT, hO, hV⟩ := hv
  subst hsz
  have hl := lv_entry av (n := maxL) hlen
  rw [lg_entry_eq]
  exact k _ rfl ⟨B.exec, B.bytes, findClass_of_methodNamed B.named, hml, rfl, hK, hT, hO, hV, fun q h => Or.inr h, hst⟩ ⟨Nat.le_refl _, Nat.le_refl _, Nat.le_refl _, Nat.le_refl _⟩ (Nat.zero_le _) (Nat.zero_le _) _ _ _ hP (zD_of hJ (fun k hk => Or.inl ⟨k, hk, rfl⟩)) va_S.rf hl
theorem zMt.ofI {l : Launch} {y : MethodName} {maxL : Nat} {rm : Room} {D : va_G} {cs : Nat → ClassId} {av : List Value} {post : Option Value → zStore → Prop} (hst : l.stackTraces = false) (hy : plainName y.cls = true) (hlen : (lg_sl av).length ≤ maxL)
    (k : ∀ G, zOK G y.cls cc maxL → zRoom G rm → zRetI G F cc rm.cells rm.slots post → zW G F 0 0 I (lv_args 0 av) [] 0) : zMt l y cc maxL (some .int) rm D cs F I av post := by
  intro sz
  refine Met.ofW (cc := cc) (maxL := maxL) (ret := some .int) hy rfl ?_
  intro p e s m args below meth c s₁ B hml hv
  refine zBody hst hlen _ B hml hv (fun G hG hok hrm => k G hok hrm ?_)
  subst hG
  intro x I1 lv1 pc1 hd hp hc hs H locs ls hP hD hS hl
  exact W.iret (v := x) B.exec B.bytes B.returns (fun t ht hW => ⟨⟨_, I1, rfl, hp, by rw [ht]; exact hP⟩, hS.F ht⟩) hS.2.2 hd B.notSynchronized
theorem zMt.ofZ {l : Launch} {y : MethodName} {maxL : Nat} {rm : Room} {D : va_G} {cs : Nat → ClassId} {av : List Value} {post : Option Value → zStore → Prop} (hst : l.stackTraces = false) (hy : plainName y.cls = true) (hlen : (lg_sl av).length ≤ maxL)
    (k : ∀ G, zOK G y.cls cc maxL → zRoom G rm → zRetZ G F cc rm.cells rm.slots post → zW G F 0 0 I (lv_args 0 av) [] 0) : zMt l y cc maxL (some .boolean) rm D cs F I av post := by
  intro sz
  refine Met.ofW (cc := cc) (maxL := maxL) (ret := some .boolean) hy rfl ?_
  intro p e s m args below meth c s₁ B hml hv
  refine zBody hst hlen _ B hml hv (fun G hG hok hrm => k G hok hrm ?_)
  subst hG
  intro x I1 lv1 pc1 hd hx hp hc hs H locs ls hP hD hS hl
  exact W.zret (v := zI x) B.exec B.bytes B.returns (by rcases hx with rfl | rfl <;> rfl) (fun t ht hW => ⟨⟨_, I1, rfl, hp, by rw [ht]; exact hP⟩, hS.F ht⟩) hS.2.2 hd B.notSynchronized
theorem zMt.ofV {l : Launch} {y : MethodName} {maxL : Nat} {rm : Room} {D : va_G} {cs : Nat → ClassId} {av : List Value} {post : Option Value → zStore → Prop} (hst : l.stackTraces = false) (hy : plainName y.cls = true) (hlen : (lg_sl av).length ≤ maxL)
    (k : ∀ G, zOK G y.cls cc maxL → zRoom G rm → zRetV G F cc rm.cells rm.slots post → zW G F 0 0 I (lv_args 0 av) [] 0) : zMt l y cc maxL none rm D cs F I av post := by
  intro sz
  refine Met.ofW (cc := cc) (maxL := maxL) (ret := none) hy rfl ?_
  intro p e s m args below meth c s₁ B hml hv
  refine zBody hst hlen _ B hml hv (fun G hG hok hrm => k G hok hrm ?_)
  subst hG
  intro I1 lv1 pc1 hd hp hc hs H locs ls hP hD hS hl
  exact W.vret B.exec B.bytes B.returns (fun t ht hW => ⟨⟨_, I1, rfl, hp, by rw [ht]; exact hP⟩, hS.F ht⟩) hS.2.2 hd B.notSynchronized
theorem zMt.ofL {l : Launch} {y : MethodName} {maxL : Nat} {rm : Room} {D : va_G} {cs : Nat → ClassId} {av : List Value} {post : Option Value → zStore → Prop} (hst : l.stackTraces = false) (hy : plainName y.cls = true) (hlen : (lg_sl av).length ≤ maxL)
    (k : ∀ G, zOK G y.cls cc maxL → zRoom G rm → zRetL G F cc rm.cells rm.slots post → zW G F 0 0 I (lv_args 0 av) [] 0) : zMt l y cc maxL (some .long) rm D cs F I av post := by
  intro sz
  refine Met.ofW (cc := cc) (maxL := maxL) (ret := some .long) hy rfl ?_
  intro p e s m args below meth c s₁ B hml hv
  refine zBody hst hlen _ B hml hv (fun G hG hok hrm => k G hok hrm ?_)
  subst hG
  intro x I1 lv1 pc1 hd hp hc hs H locs ls hP hD hS hl
  exact W.lret (v := x) B.exec B.bytes B.returns (fun t ht hW => ⟨⟨_, I1, rfl, hp, by rw [ht]; exact hP⟩, hS.F ht⟩) hS.2.2 hd B.notSynchronized
/-- a call that comes back -/
theorem z_back {p : Program} {l : Launch} {e : Env} {R : Room} {s : State} {m : MethodId} {args : Array Value} {below : List Frame} {meth : Method} {c : Code} {H : Heap} {locs : List Loc} {mc ms : Nat} {Q : State → Prop} {D : va_G} {cs : Nat → ClassId} {A0 : Nat → Prop} {H0 : Heap} {ls : Array Slot} {st0 rest : List Value} {post : Option Value → zStore → Prop} {a : Array Value}
    (hr : va_Run p l e R s m args below meth c H locs cells slots mc ms (F0 m pc ls st0) rest (zQ D cs F H.size post a) (zAd F H.size)) (hS : va_S A0 H0 H locs) (hA : ∀ q, zAd F H.size q → A0 q)
    (kk : ∀ (r : Option Value) (u : zStore) (H1 : Heap) (locs1 : List Loc), post r u → va_P D vwCl (zws cs F u) H1 → va_S A0 H0 H1 locs1 → W p l e R s m args below meth c H1 locs1 (cells + mc) (slots + ms) Q (F0 m (pc + 3) ls (r.toList ++ rest))) : W p l e R s m args below meth c H locs cells slots Q (F0 m pc ls st0) := by
  intro T hT X
  obtain ⟨v, st₀, t, T', L, h0, X', hL, e1, e2, ⟨⟨r, u, hv, hp, hb⟩, hF⟩, st⟩ := hr T hT X
  cases hv
  obtain ⟨k1, k2, k3⟩ := vx_keep h0 e1 hS (fun q _ h => hA q h) hA hL hF
  obtain ⟨t2, a1, b1⟩ := kk v u T'.heap (locs ++ L) hp (by rw [e1]; exact hb) k3 T' rfl X'
  exact ⟨t2, st t2 a1, b1⟩
theorem zRecv {s : State} {H : Heap} {D : va_G} {cs : Nat → ClassId} {b ci : Nat} {fs : List (Option (Option Nat))} {C : String} {T : u_T} {N : Nat} (hK : va_K D vwCl (ztys cs) s) (hP : va_P D vwCl (zws cs F I) H) (hc : vwCl[ci]? = some (C, T, N)) (hb : b < F.2.1) (hlay : F.2.2 b = .inl (ci, fs)) : ∃ cell : Cell, H[F.1 b]? = some cell ∧ cell.vm.isStatics = false ∧ s.vm.findClass C = some cell.cls :=
  va_recv hK hP hc (q0 := b) (zPt hb (zE_obj hlay))
theorem zAd_in {G : zCx} {p : Program} {l : Launch} {e : Env} {R : Room} {s : State} {m : MethodId} {args : Array Value} {below : List Frame} {meth : Method} {c : Code} {Q : State → Prop} {A : Nat → Prop} {nn : Nat} {D : va_G} {cs : Nat → ClassId} {H : Heap} {locs : List Loc} (hG : zOK (p, l, e, R, s, m, args, below, meth, c, Q, A, nn, D, cs) own cc nL) (hD : va_D A (zws cs F I)) (hS : va_S A s.heap H locs) : ∀ q, zAd F H.size q → A q := by
  intro q h
  obtain ⟨g1, g2, g3, g4, g5, g6, g7, g8, g9, g10, g11⟩ := hG
  rcases h with ⟨k, hk, rfl⟩ | h
  · exact zD_in hD hk
  · exact g10 q (Nat.le_trans hS.1 h)
theorem zWo_in {p : Program} {l : Launch} {e : Env} {R : Room} {s : State} {m : MethodId} {args : Array Value} {below : List Frame} {meth : Method} {c : Code} {Q : State → Prop} {A : Nat → Prop} {nn : Nat} {D : va_G} {cs : Nat → ClassId} {H : Heap} {locs : List Loc} {U : State} (hG : zOK (p, l, e, R, s, m, args, below, meth, c, Q, A, nn, D, cs) own cc nL) (hP : va_P D vwCl (zws cs F I) H) (hD : va_D A (zws cs F I)) (hS : va_S A s.heap H locs) (hU : U.heap = H) (hW : s.WarmedH U.vm) : U.heap.size = H.size ∧ zWo D cs F (zAd F H.size) I U := by
  have hA := zAd_in (G := (p, l, e, R, s, m, args, below, meth, c, Q, A, nn, D, cs)) hG hD hS
  obtain ⟨g1, g2, g3, g4, g5, g6, g7, g8, g9, g10, g11⟩ := hG
  refine ⟨by rw [hU], by rw [hU]; exact hP, va_K.moved hW.alike g6, zD_inj hD, g7.warm hW, ?_, g9.warm hW⟩
  rw [hU]
  exact ((g8.kept hS.2.1).moved hW.alike).narrow hA
abbrev zHead (y : MethodName) (cc : ByteArray) (maxL n : Nat) (ret : Option FieldType) : Prop := zWd (.code y cc maxL ret) ∧ zWd (.initialized y.cls) ∧ y.cls ≠ "java/lang/invoke/MethodHandle" ∧ y.cls ≠ "java/lang/invoke/VarHandle" ∧ (parseMethodDescriptor y.desc).map (fun d => d.parameters.length) = some n
theorem zCallB {p : Program} {l : Launch} {e : Env} {R : Room} {s : State} {m : MethodId} {args : Array Value} {below : List Frame} {meth : Method} {c : Code} {Q : State → Prop} {A : Nat → Prop} {nn : Nat} {D : va_G} {cs : Nat → ClassId} {index maxL n : Nat} {y : MethodName} {cy : ByteArray} {ret : Option FieldType} {rm : Room} (hG : zOK (p, l, e, R, s, m, args, below, meth, c, Q, A, nn, D, cs) own cc nL) (hy : zHead y cy maxL n ret) (hl : zWd (.methodLink own index y)) (hR : rm.frames + 1 ≤ R.frames ∧ 8 + (maxL + 11) + rm.locals ≤ R.locals) : CallB R s args own index y cy maxL ret [.code y cy maxL ret] rm rm.cells rm.slots n := by
  obtain ⟨g1, g2, g3, g4, g5, g6, g7, g8, g9, g10, g11⟩ := hG
  obtain ⟨y1, y2, y3, y4, y5⟩ := hy
  refine ⟨rfl, rfl, hR.1, hR.2, fun w hw a' U hW => ?_, List.mem_cons_self, g7.at y1 _, g7.at y2 _, ⟨y3, y4⟩, fun sig h => ?_, g7.at hl _⟩
  · cases List.mem_singleton.mp hw
    exact zst_warm y1.2 hW (g7.at y1 #[])
  · rw [h] at y5
    exact (Option.some.inj y5).symm
theorem zRm_of {G : zCx} {rm rm' : Room} {maxL : Nat} (h : zRoom G rm') (hf : rm.frames + 1 ≤ rm'.frames) (hl : 8 + (maxL + 11) + rm.locals ≤ rm'.locals) : match G with
  | (p, l, e, R, s, m, args, below, meth, c, Q, A, nn, D, cs) => rm.frames + 1 ≤ R.frames ∧ 8 + (maxL + 11) + rm.locals ≤ R.locals := by
  obtain ⟨p, l, e, R, s, m, args, below, meth, c, Q, A, nn, D, cs⟩ := G
  exact ⟨Nat.le_trans hf h.1, Nat.le_trans hl h.2.1⟩
end ZC
end
section
/-! the rows of the calls -/
def zX (G : zCx) (F : zFr) (cells slots : Nat) (I : zStore) (lv : zLv) (E : String) (pc : Nat) : Prop := match G with
  | (p, l, e, R, s, m, args, below, meth, c, Q, A, n, D, cs) => cells ≤ R.cells → slots ≤ R.slots → ∀ (H : Heap) (locs : List Loc) (ls : Array Slot) (rest : List Value) (q : Addr) (ce : Cell), va_P D vwCl (zws cs F I) H → va_D A (zws cs F I) → va_S A s.heap H locs → lv_has ls n lv → H[q]? = some ce → ce.vm = .none → s.vm.findClass E = some ce.cls → vx_W p l e R s m args below meth c H locs cells slots Q (F0 m pc ls rest) q
def zSite (cls text : String) (names : List String) (ik is ic : Nat) : Prop := Bundle.fit cls = true ∧ (∀ n ∈ names, Bundle.fit n = true) ∧ zWd (.classLink "LineLearner" ik cls) ∧ zWd (.initialized cls) ∧ (is, text) ∈ zStrs ∧ (∀ w ∈ vx_atS "LineLearner" ic cls names, zWd w) ∧ (∀ w ∈ Cond.classLink "LineLearner" ik cls :: Cond.initialized cls :: vx_atS "LineLearner" ic cls names, vx_ot w = true)
/-- where a method may throw: straight out of it (S: the text by ldc, W: by ldc_w), or out of a callee -/
def zThrS (G : zCx) (F : zFr) (cc : ByteArray) (mc ms : Nat) (px : String → zStore → Prop) : Prop := ∀ (cls text : String) (names : List String) (ik is ic : Nat) (I : zStore) (lv : zLv) (st : List Value) (pc cells slots : Nat) (rm : Room), zSite cls text names ik is ic → decode cc pc = .ok (.new ik, 3) → decode cc (pc + 3) = .ok (.dup, 1) → decode cc (pc + 4) = .ok (.ldc is, 2) → decode cc (pc + 6) = .ok (.invokespecial ic, 3) → decode cc (pc + 9) = .ok (.athrow, 1) → zRoom G rm → names.length + 3 < rm.frames → (st.map fun v => v.category).sum + (13 * (names.length + 1) + 43) ≤ rm.locals → cells + 1 ≤ mc → slots + 6 ≤ ms → mc ≤ rm.cells → ms ≤ rm.slots → px cls I → zW G F cells slots I lv st pc
def zThrW (G : zCx) (F : zFr) (cc : ByteArray) (mc ms : Nat) (px : String → zStore → Prop) : Prop := ∀ (cls text : String) (names : List String) (ik is ic : Nat) (I : zStore) (lv : zLv) (st : List Value) (pc cells slots : Nat) (rm : Room), zSite cls text names ik is ic → decode cc pc = .ok (.new ik, 3) → decode cc (pc + 3) = .ok (.dup, 1) → decode cc (pc + 4) = .ok (.ldc_w is, 3) → decode cc (pc + 7) = .ok (.invokespecial ic, 3) → decode cc (pc + 10) = .ok (.athrow, 1) → zRoom G rm → names.length + 3 < rm.frames → (st.map fun v => v.category).sum + (13 * (names.length + 1) + 43) ≤ rm.locals → cells + 1 ≤ mc → slots + 6 ≤ ms → mc ≤ rm.cells → ms ≤ rm.slots → px cls I → zW G F cells slots I lv st pc
def zThrO (G : zCx) (F : zFr) (mc ms : Nat) (px : String → zStore → Prop) : Prop := ∀ (E : String) (I : zStore) (lv : zLv) (pc cells slots : Nat), cells ≤ mc → slots ≤ ms → px E I → zX G F cells slots I lv E pc
def zThr (G : zCx) (F : zFr) (cc : ByteArray) (mc ms : Nat) (px : String → zStore → Prop) : Prop := zThrS G F cc mc ms px ∧ zThrW G F cc mc ms px ∧ zThrO G F mc ms px
section ZD
variable {G : zCx} {F : zFr} {cells slots : Nat} {I : zStore} {lv lv' : zLv} {st stk : List Value} {pc : Nat} {own : String} {cc : ByteArray} {nL : Nat}
theorem z_widen {k n : Nat} (h1 : cells ≤ k) (h2 : slots ≤ n) {rm : Room} (hR : zRoom G rm) (hk : k ≤ rm.cells) (hn : n ≤ rm.slots) (kk : zW G F k n I lv st pc) : zW G F cells slots I lv st pc := by
  obtain ⟨p, l, e, R, s, m, args, below, meth, c, Q, A, nn, D, cs⟩ := G
  intro hc hs H locs ls hP hD hS hl
  exact W.widen h1 h2 (kk (Nat.le_trans hk hR.2.2.1) (Nat.le_trans hn hR.2.2.2) H locs ls hP hD hS hl)
theorem zThr.of {p : Program} {l : Launch} {e : Env} {R : Room} {s : State} {m : MethodId} {args : Array Value} {below : List Frame} {meth : Method} {c : Code} {Qc : Array Value → State → Outcome → State → Prop} {nn : Nat} {D : va_G} {cs : Nat → ClassId} {mc ms : Nat} {px : String → zStore → Prop} {sz : Nat} (hsz : s.heap.size = sz)
    (hG : zOK (p, l, e, R, s, m, args, below, meth, c, vx_MQ below Qc (zXC D cs F sz px) args s mc ms (zAd F sz), zAd F sz, nn, D, cs) "LineLearner" cc nL) (hlocks : meth.locks = false) (hout : ∀ x ∈ c.exceptionTable.toList, False) :
    zThr (p, l, e, R, s, m, args, below, meth, c, vx_MQ below Qc (zXC D cs F sz px) args s mc ms (zAd F sz), zAd F sz, nn, D, cs) F cc mc ms px := by
  subst hsz
  obtain ⟨g1, g2, g3, g4, g5, g6, g7, g8, g9, g10, g11⟩ := hG
  refine ⟨?_, ?_, ?_⟩
  · intro cls text names ik is ic I lv st pc cells slots rm hsite d0 d3 d4 d6 d9 hR hf hlo hc1 hs1 hmc hms hp hc hs H locs ls hP hD hS hl
    obtain ⟨s1, s2, s3, s4, s5, s6, s7⟩ := hsite
    obtain ⟨sa, hstr⟩ := g9.1 _ s5
    have r3 := hR.2.2.1
    have r4 := hR.2.2.2
    have r1 := hR.1
    have r2 := hR.2.1
    refine vx_throwS g1 g2 g11 g3 s1 s2 (g7.at s3 _) (g7.at s4 _) hstr (fun w hw => g7.at (s6 w hw) _) s7 g8.1 g8.2.1 hS (by rw [hl.1, g4]) d0 d3 d4 d6 d9 (fun x hx => (hout x hx).elim) (by omega) (by omega) (by omega) (by omega) hlocks (fun t hal hz hk => ⟨⟨I, hp, hP.kept fun k q hq => hk _ (hP k q hq).lt⟩, ?_⟩) hS.2.2 hc1 hs1
    exact ⟨Nat.le_trans hS.1 hz, fun q h1 h2 => (hk q (Nat.lt_of_lt_of_le h1 hS.1)).trans (hS.2.1 q h1 h2)⟩
  · intro cls text names ik is ic I lv st pc cells slots rm hsite d0 d3 d4 d6 d9 hR hf hlo hc1 hs1 hmc hms hp hc hs H locs ls hP hD hS hl
    obtain ⟨s1, s2, s3, s4, s5, s6, s7⟩ := hsite
    obtain ⟨sa, hstr⟩ := g9.1 _ s5
    have r3 := hR.2.2.1
    have r4 := hR.2.2.2
    have r1 := hR.1
    have r2 := hR.2.1
    refine vx_throwSW g1 g2 g11 g3 s1 s2 (g7.at s3 _) (g7.at s4 _) hstr (fun w hw => g7.at (s6 w hw) _) s7 g8.1 g8.2.1 hS (by rw [hl.1, g4]) d0 d3 d4 d6 d9 (fun x hx => (hout x hx).elim) (by omega) (by omega) (by omega) (by omega) hlocks (fun t hal hz hk => ⟨⟨I, hp, hP.kept fun k q hq => hk _ (hP k q hq).lt⟩, ?_⟩) hS.2.2 hc1 hs1
    exact ⟨Nat.le_trans hS.1 hz, fun q h1 h2 => (hk q (Nat.lt_of_lt_of_le h1 hS.1)).trans (hS.2.1 q h1 h2)⟩
  · intro E I lv pc cells slots hc1 hs1 hp hc hs H locs ls rest q ce hP hD hS hl hce hcv hcl
    refine vx_out (fun x hx => (hout x hx).elim) hlocks hce hcv hcl (fun t ht hal => ⟨⟨I, hp, by rw [ht]; exact hP⟩, hS.F ht⟩) hS.2.2 hc1 hs1
theorem zMx.ofI {l : Launch} {y : MethodName} {maxL : Nat} {rm : Room} {D : va_G} {cs : Nat → ClassId} {av : List Value} {post : Option Value → zStore → Prop} {px : String → zStore → Prop} (hst : l.stackTraces = false) (hy : plainName y.cls = true) (hyc : y.cls = "LineLearner") (hlen : (lg_sl av).length ≤ maxL)
    (k : ∀ G, zOK G y.cls cc maxL → zRoom G rm → zRetI G F cc rm.cells rm.slots post → zThr G F cc rm.cells rm.slots px → zW G F 0 0 I (lv_args 0 av) [] 0) : zMx l y cc maxL (some .int) rm D cs F I av post px := by
  intro sz
  refine vx_ofW (cc := cc) (maxL := maxL) (ret := some .int) hy rfl ?_
  intro p e s m args below meth c s₁ B hml hex hv
  have hsz := hv.2.1
  refine zBody hst hlen _ B hml hv (fun G hG hok hrm => k G hok hrm ?_ ?_)
  · subst hG
    intro x I1 lv1 pc1 hd hp hc hs H locs ls hP hD hS hl
    exact vx_ret (W.iret (v := x) B.exec B.bytes B.returns (fun t ht hW => ⟨⟨_, I1, rfl, hp, by rw [ht]; exact hP⟩, hS.F ht⟩) hS.2.2 hd B.notSynchronized)
  · subst hG
    rw [hyc] at hok
    exact zThr.of hsz hok B.notSynchronized hex
theorem zMx.ofZ {l : Launch} {y : MethodName} {maxL : Nat} {rm : Room} {D : va_G} {cs : Nat → ClassId} {av : List Value} {post : Option Value → zStore → Prop} {px : String → zStore → Prop} (hst : l.stackTraces = false) (hy : plainName y.cls = true) (hyc : y.cls = "LineLearner") (hlen : (lg_sl av).length ≤ maxL)
    (k : ∀ G, zOK G y.cls cc maxL → zRoom G rm → zRetZ G F cc rm.cells rm.slots post → zThr G F cc rm.cells rm.slots px → zW G F 0 0 I (lv_args 0 av) [] 0) : zMx l y cc maxL (some .boolean) rm D cs F I av post px := by
  intro sz
  refine vx_ofW (cc := cc) (maxL := maxL) (ret := some .boolean) hy rfl ?_
  intro p e s m args below meth c s₁ B hml hex hv
  have hsz := hv.2.1
  refine zBody hst hlen _ B hml hv (fun G hG hok hrm => k G hok hrm ?_ ?_)
  · subst hG
    intro x I1 lv1 pc1 hd hx hp hc hs H locs ls hP hD hS hl
    exact vx_ret (W.zret (v := zI x) B.exec B.bytes B.returns (by rcases hx with rfl | rfl <;> rfl) (fun t ht hW => ⟨⟨_, I1, rfl, hp, by rw [ht]; exact hP⟩, hS.F ht⟩) hS.2.2 hd B.notSynchronized)
  · subst hG
    rw [hyc] at hok
    exact zThr.of hsz hok B.notSynchronized hex
theorem zMx.ofV {l : Launch} {y : MethodName} {maxL : Nat} {rm : Room} {D : va_G} {cs : Nat → ClassId} {av : List Value} {post : Option Value → zStore → Prop} {px : String → zStore → Prop} (hst : l.stackTraces = false) (hy : plainName y.cls = true) (hyc : y.cls = "LineLearner") (hlen : (lg_sl av).length ≤ maxL)
    (k : ∀ G, zOK G y.cls cc maxL → zRoom G rm → zRetV G F cc rm.cells rm.slots post → zThr G F cc rm.cells rm.slots px → zW G F 0 0 I (lv_args 0 av) [] 0) : zMx l y cc maxL none rm D cs F I av post px := by
  intro sz
  refine vx_ofW (cc := cc) (maxL := maxL) (ret := none) hy rfl ?_
  intro p e s m args below meth c s₁ B hml hex hv
  have hsz := hv.2.1
  refine zBody hst hlen _ B hml hv (fun G hG hok hrm => k G hok hrm ?_ ?_)
  · subst hG
    intro I1 lv1 pc1 hd hp hc hs H locs ls hP hD hS hl
    exact vx_ret (W.vret B.exec B.bytes B.returns (fun t ht hW => ⟨⟨_, I1, rfl, hp, by rw [ht]; exact hP⟩, hS.F ht⟩) hS.2.2 hd B.notSynchronized)
  · subst hG
    rw [hyc] at hok
    exact zThr.of hsz hok B.notSynchronized hex
/-- a virtual call (invokevirtual, the class's own word) of a method that returns -/
theorem z_callV {index maxL n ci b N : Nat} {C : String} {T : u_T} {fs : List (Option (Option Nat))} {y : MethodName} {cy : ByteArray} {ret : Option FieldType} {rm rmG : Room} {post : Option Value → zStore → Prop} (As : List Value) (hG : zOK G own cc nL) (hRm : zRoom G rmG)
    (hM : ∀ (l : Launch) (D : va_G) (cs : Nat → ClassId), l.stackTraces = false → zMt l y cy maxL ret rm D cs F I (.ref (F.1 b) :: As) post) (hy : zHead y cy maxL n ret) (hl : zWd (.methodLink own index y)) (hi : zWd (.instanceMethod y)) (hse : zWd (.selects C y y)) (hc0 : vwCl[ci]? = some (C, T, N)) (hb : b < F.2.1) (hlay : F.2.2 b = .inl (ci, fs))
    (hf : rm.frames + 1 ≤ rmG.frames) (hlo : 8 + (maxL + 11) + rm.locals ≤ rmG.locals) (hce : cells + rm.cells ≤ rmG.cells) (hsl : slots + rm.slots ≤ rmG.slots) (hn : As.length = n) (hstk : stk = As.reverse ++ .ref (F.1 b) :: st) (hcat : (st.map fun v => v.category).sum ≤ 8) (hd : decode cc pc = .ok (.invokevirtual index, 3))
    (kk : ∀ (r : Option Value) (I' : zStore), post r I' → zW G F (cells + rm.cells) (slots + rm.slots) I' lv (r.toList ++ st) (pc + 3)) : zW G F cells slots I lv stk pc := by
  obtain ⟨p, l, e, R, s, m, args, below, meth, c, Q, A, nn, D, cs⟩ := G
  intro hc hs H locs ls hP hD hS hl2
  have r1 := hRm.1
  have r2 := hRm.2.1
  have r3 := hRm.2.2.1
  have r4 := hRm.2.2.2
  have hG' := hG
  obtain ⟨g1, g2, g3, g4, g5, g6, g7, g8, g9, g10, g11⟩ := hG
  subst hstk
  refine z_back (D := D) (cs := cs) (F := F) (rest := st) (va_runV (As := As) ⟨g1, g2, g4, g3, fun w (hw : w ∈ []) => (List.not_mem_nil hw).elim⟩ (hM l D cs g11 H.size) ⟨zCallB hG' hy hl ⟨by omega, by omega⟩, g7.at hi _, g7.at hse _⟩ ⟨zPre_blind, zRecv g6 hP hc0 hb hlay, fun U hU hW => ⟨rfl, zWo_in hG' hP hD hS hU hW⟩⟩ rfl hn hl2.1 rfl (lv_room hcat) hd ⟨by omega, by omega⟩) hS (zAd_in (G := (p, l, e, R, s, m, args, below, meth, c, Q, A, nn, D, cs)) hG' hD hS) (fun r u H1 locs1 hp hP1 hS1 => ?_)
  exact kk r u hp (by omega) (by omega) H1 locs1 ls hP1 (zD_of (zD_inj hD) (fun k hk => zD_in hD hk)) hS1 hl2
theorem z_callS {index maxL n : Nat} {y : MethodName} {cy : ByteArray} {ret : Option FieldType} {rm rmG : Room} {post : Option Value → zStore → Prop} (As : List Value) (hG : zOK G own cc nL) (hRm : zRoom G rmG)
    (hM : ∀ (l : Launch) (D : va_G) (cs : Nat → ClassId), l.stackTraces = false → zMt l y cy maxL ret rm D cs F I As post) (hy : zHead y cy maxL n ret) (hl : zWd (.methodLink own index y)) (hi : zWd (.static y))
    (hf : rm.frames + 1 ≤ rmG.frames) (hlo : 8 + (maxL + 11) + rm.locals ≤ rmG.locals) (hce : cells + rm.cells ≤ rmG.cells) (hsl : slots + rm.slots ≤ rmG.slots) (hn : As.length = n) (hstk : stk = As.reverse ++ st) (hcat : (st.map fun v => v.category).sum ≤ 8) (hd : decode cc pc = .ok (.invokestatic index, 3))
    (kk : ∀ (r : Option Value) (I' : zStore), post r I' → zW G F (cells + rm.cells) (slots + rm.slots) I' lv (r.toList ++ st) (pc + 3)) : zW G F cells slots I lv stk pc := by
  obtain ⟨p, l, e, R, s, m, args, below, meth, c, Q, A, nn, D, cs⟩ := G
  intro hc hs H locs ls hP hD hS hl2
  have r1 := hRm.1
  have r2 := hRm.2.1
  have r3 := hRm.2.2.1
  have r4 := hRm.2.2.2
  have hG' := hG
  obtain ⟨g1, g2, g3, g4, g5, g6, g7, g8, g9, g10, g11⟩ := hG
  subst hstk
  refine z_back (D := D) (cs := cs) (F := F) (rest := st) (va_runS (As := As) (Ts := []) ⟨g1, g2, g4, g3, fun w (hw : w ∈ []) => (List.not_mem_nil hw).elim⟩ (hM l D cs g11 H.size) ⟨zCallB hG' hy hl ⟨by omega, by omega⟩, g7.at hi _⟩ ⟨zPre_blind, fun U hU hW => ⟨rfl, zWo_in hG' hP hD hS hU hW⟩⟩ rfl hn hl2.1 rfl (lv_room hcat) hd ⟨by omega, by omega⟩) hS (zAd_in (G := (p, l, e, R, s, m, args, below, meth, c, Q, A, nn, D, cs)) hG' hD hS) (fun r u H1 locs1 hp hP1 hS1 => ?_)
  exact kk r u hp (by omega) (by omega) H1 locs1 ls hP1 (zD_of (zD_inj hD) (fun k hk => zD_in hD hk)) hS1 hl2
theorem zCallN {p : Program} {l : Launch} {e : Env} {R : Room} {s : State} {m : MethodId} {args : Array Value} {below : List Frame} {meth : Method} {c : Code} {Q : State → Prop} {A : Nat → Prop} {nn : Nat} {D : va_G} {cs : Nat → ClassId} {index maxL n : Nat} {y : MethodName} {cy : ByteArray} {ret : Option FieldType} {rm : Room} {host : String} (hG : zOK (p, l, e, R, s, m, args, below, meth, c, Q, A, nn, D, cs) own cc nL) (hy : zHead y cy maxL n ret) (hl : zWd (.methodLinkNest own index y host)) (hR : rm.frames + 1 ≤ R.frames ∧ 8 + (maxL + 11) + rm.locals ≤ R.locals) : va_CN R s args own index y host cy maxL ret [.code y cy maxL ret] rm rm.cells rm.slots n := by
  obtain ⟨g1, g2, g3, g4, g5, g6, g7, g8, g9, g10, g11⟩ := hG
  obtain ⟨y1, y2, y3, y4, y5⟩ := hy
  refine ⟨⟨rfl, rfl, hR.1, hR.2, fun w hw a' U hW => ?_, List.mem_cons_self⟩, g7.at y1 _, g7.at y2 _, ⟨y3, y4⟩, fun sig h => ?_, g7.at hl _⟩
  · cases List.mem_singleton.mp hw
    exact zst_warm y1.2 hW (g7.at y1 #[])
  · rw [h] at y5
    exact (Option.some.inj y5).symm
theorem z_callSN {index maxL n : Nat} {host : String} {y : MethodName} {cy : ByteArray} {ret : Option FieldType} {rm rmG : Room} {post : Option Value → zStore → Prop} (As : List Value) (hG : zOK G own cc nL) (hRm : zRoom G rmG)
    (hM : ∀ (l : Launch) (D : va_G) (cs : Nat → ClassId), l.stackTraces = false → zMt l y cy maxL ret rm D cs F I As post) (hy : zHead y cy maxL n ret) (hl : zWd (.methodLinkNest own index y host)) (hi : zWd (.static y))
    (hf : rm.frames + 1 ≤ rmG.frames) (hlo : 8 + (maxL + 11) + rm.locals ≤ rmG.locals) (hce : cells + rm.cells ≤ rmG.cells) (hsl : slots + rm.slots ≤ rmG.slots) (hn : As.length = n) (hstk : stk = As.reverse ++ st) (hcat : (st.map fun v => v.category).sum ≤ 8) (hd : decode cc pc = .ok (.invokestatic index, 3))
    (kk : ∀ (r : Option Value) (I' : zStore), post r I' → zW G F (cells + rm.cells) (slots + rm.slots) I' lv (r.toList ++ st) (pc + 3)) : zW G F cells slots I lv stk pc := by
  obtain ⟨p, l, e, R, s, m, args, below, meth, c, Q, A, nn, D, cs⟩ := G
  intro hc hs H locs ls hP hD hS hl2
  have r1 := hRm.1
  have r2 := hRm.2.1
  have r3 := hRm.2.2.1
  have r4 := hRm.2.2.2
  have hG' := hG
  obtain ⟨g1, g2, g3, g4, g5, g6, g7, g8, g9, g10, g11⟩ := hG
  subst hstk
  refine z_back (D := D) (cs := cs) (F := F) (rest := st) (va_runSN (As := As) (Ts := []) ⟨g1, g2, g4, g3, fun w (hw : w ∈ []) => (List.not_mem_nil hw).elim⟩ (hM l D cs g11 H.size) ⟨zCallN hG' hy hl ⟨by omega, by omega⟩, g7.at hi _, trivial⟩ ⟨zPre_blind, fun U hU hW => ⟨rfl, zWo_in hG' hP hD hS hU hW⟩⟩ rfl hn hl2.1 rfl (lv_room hcat) hd ⟨by omega, by omega⟩) hS (zAd_in (G := (p, l, e, R, s, m, args, below, meth, c, Q, A, nn, D, cs)) hG' hD hS) (fun r u H1 locs1 hp hP1 hS1 => ?_)
  exact kk r u hp (by omega) (by omega) H1 locs1 ls hP1 (zD_of (zD_inj hD) (fun k hk => zD_in hD hk)) hS1 hl2
/-- a call of a method that returns or throws -/
theorem zx_back {p : Program} {l : Launch} {e : Env} {R : Room} {s : State} {m : MethodId} {args : Array Value} {below : List Frame} {meth : Method} {c : Code} {H : Heap} {locs : List Loc} {mc ms : Nat} {Q : State → Prop} {D : va_G} {cs : Nat → ClassId} {A0 : Nat → Prop} {H0 : Heap} {ls : Array Slot} {st0 rest : List Value} {post : Option Value → zStore → Prop} {px : String → zStore → Prop} {a : Array Value}
    (hr : vx_Run p l e R s m args below meth c H locs cells slots mc ms (F0 m pc ls st0) rest (zQ D cs F H.size post a) (zXC D cs F H.size px) (zAd F H.size)) (hS : va_S A0 H0 H locs) (hA : ∀ q, zAd F H.size q → A0 q)
    (kx : ∀ (E : String) (ce : Cell) (q9 : Addr) (u : zStore) (H1 : Heap) (locs1 : List Loc), px E u → va_P D vwCl (zws cs F u) H1 → va_S A0 H0 H1 locs1 → H1[q9]? = some ce → ce.vm = .none → s.vm.findClass E = some ce.cls → vx_W p l e R s m args below meth c H1 locs1 (cells + mc) (slots + ms) Q (F0 m pc ls rest) q9)
    (kk : ∀ (r : Option Value) (u : zStore) (H1 : Heap) (locs1 : List Loc), post r u → va_P D vwCl (zws cs F u) H1 → va_S A0 H0 H1 locs1 → W p l e R s m args below meth c H1 locs1 (cells + mc) (slots + ms) Q (F0 m (pc + 3) ls (r.toList ++ rest))) : W p l e R s m args below meth c H locs cells slots Q (F0 m pc ls st0) := by
  intro T hT X
  rcases hr T hT X with ⟨v, st₀, t, T', L, h0, X', hL, e1, e2, ⟨⟨r, u, hv, hp, hb⟩, hF⟩, st⟩ | ⟨q, st₀, t, T', L, E, ce, h0, X', hL, e1, e2, ⟨⟨u, hp, hb⟩, hF⟩, hce, hcv, hcl, st⟩
  · cases hv
    obtain ⟨k1, k2, k3⟩ := vx_keep h0 e1 hS (fun q _ h => hA q h) hA hL hF
    obtain ⟨t2, a1, b1⟩ := kk v u T'.heap (locs ++ L) hp (by rw [e1]; exact hb) k3 T' rfl X'
    exact ⟨t2, st t2 a1, b1⟩
  · obtain ⟨k1, k2, k3⟩ := vx_keep h0 e1 hS (fun q _ h => hA q h) hA hL hF
    obtain ⟨t2, a1, b1⟩ := kx E ce q u T'.heap (locs ++ L) hp (by rw [e1]; exact hb) k3 (by rw [e1]; exact hce) hcv hcl T' rfl X'
    exact ⟨t2, st.trans a1, b1⟩
theorem z_callVX {index maxL n ci b N : Nat} {C : String} {T : u_T} {fs : List (Option (Option Nat))} {y : MethodName} {cy : ByteArray} {ret : Option FieldType} {rm rmG : Room} {post : Option Value → zStore → Prop} {px : String → zStore → Prop} (As : List Value) (hG : zOK G own cc nL) (hRm : zRoom G rmG)
    (hM : ∀ (l : Launch) (D : va_G) (cs : Nat → ClassId), l.stackTraces = false → zMx l y cy maxL ret rm D cs F I (.ref (F.1 b) :: As) post px) (hy : zHead y cy maxL n ret) (hl : zWd (.methodLink own index y)) (hi : zWd (.instanceMethod y)) (hse : zWd (.selects C y y)) (hc0 : vwCl[ci]? = some (C, T, N)) (hb : b < F.2.1) (hlay : F.2.2 b = .inl (ci, fs))
    (hf : rm.frames + 1 ≤ rmG.frames) (hlo : 8 + (maxL + 11) + rm.locals ≤ rmG.locals) (hce : cells + rm.cells ≤ rmG.cells) (hsl : slots + rm.slots ≤ rmG.slots) (hn : As.length = n) (hstk : stk = As.reverse ++ .ref (F.1 b) :: st) (hcat : (st.map fun v => v.category).sum ≤ 8) (hd : decode cc pc = .ok (.invokevirtual index, 3))
    (kx : ∀ (E : String) (I' : zStore), px E I' → zX G F (cells + rm.cells) (slots + rm.slots) I' lv E pc)
    (kk : ∀ (r : Option Value) (I' : zStore), post r I' → zW G F (cells + rm.cells) (slots + rm.slots) I' lv (r.toList ++ st) (pc + 3)) : zW G F cells slots I lv stk pc := by
  obtain ⟨p, l, e, R, s, m, args, below, meth, c, Q, A, nn, D, cs⟩ := G
  intro hc hs H locs ls hP hD hS hl2
  have r1 := hRm.1
  have r2 := hRm.2.1
  have r3 := hRm.2.2.1
  have r4 := hRm.2.2.2
  have hG' := hG
  obtain ⟨g1, g2, g3, g4, g5, g6, g7, g8, g9, g10, g11⟩ := hG
  subst hstk
  refine zx_back (D := D) (cs := cs) (F := F) (rest := st) (vx_runV (As := As) ⟨g1, g2, g4, g3, fun w (hw : w ∈ []) => (List.not_mem_nil hw).elim⟩ (hM l D cs g11 H.size) ⟨zCallB hG' hy hl ⟨by omega, by omega⟩, g7.at hi _, g7.at hse _⟩ ⟨zPre_blind, zRecv g6 hP hc0 hb hlay, fun U hU hW => ⟨rfl, zWo_in hG' hP hD hS hU hW⟩⟩ rfl hn hl2.1 rfl (lv_room hcat) hd ⟨by omega, by omega⟩) hS (zAd_in (G := (p, l, e, R, s, m, args, below, meth, c, Q, A, nn, D, cs)) hG' hD hS) (fun E ce q9 u H1 locs1 hp hP1 hS1 h1 h2 h3 => ?_) (fun r u H1 locs1 hp hP1 hS1 => ?_)
  · exact kx E u hp (by omega) (by omega) H1 locs1 ls st q9 ce hP1 (zD_of (zD_inj hD) (fun k hk => zD_in hD hk)) hS1 hl2 h1 h2 h3
  · exact kk r u hp (by omega) (by omega) H1 locs1 ls hP1 (zD_of (zD_inj hD) (fun k hk => zD_in hD hk)) hS1 hl2
theorem zmin {a b : Int} (ha : -2147483648 ≤ a ∧ a < 2147483648) (hb : -2147483648 ≤ b ∧ b < 2147483648) : (if zI b < zI a then zI b else zI a) = zI (min a b) := by
  by_cases h : b < a
  · rw [if_pos ((zI_lt hb ha).mpr h), Int.min_eq_right (by omega)]
  · rw [if_neg (fun q => h ((zI_lt hb ha).mp q)), Int.min_eq_left (by omega)]
theorem zmax {a b : Int} (ha : -2147483648 ≤ a ∧ a < 2147483648) (hb : -2147483648 ≤ b ∧ b < 2147483648) : (if zI a < zI b then zI b else zI a) = zI (max a b) := by
  by_cases h : a < b
  · rw [if_pos ((zI_lt ha hb).mpr h), Int.max_eq_right (by omega)]
  · rw [if_neg (fun q => h ((zI_lt ha hb).mp q)), Int.max_eq_left (by omega)]
abbrev zMath (own : String) (index : Nat) (y : MethodName) (cy : ByteArray) : Prop := zWd (.methodLink own index y) ∧ zWd (.static y) ∧ zWd (.initialized "java/lang/Math") ∧ zWd (.code y cy 2 (some .int))
theorem z_min {index : Nat} {a b : Int} {rmG : Room} (hG : zOK G own cc nL) (hRm : zRoom G rmG) (hm : zMath own index Lib.Math.min.name Lib.Math.min.code) (hf : 1 ≤ rmG.frames) (hlo : (st.map fun v => v.category).sum + 13 ≤ rmG.locals) (ha : -2147483648 ≤ a ∧ a < 2147483648) (hb : -2147483648 ≤ b ∧ b < 2147483648) (hd : decode cc pc = .ok (.invokestatic index, 3)) (kk : zW G F cells slots I lv (.int (zI (min a b)) :: st) (pc + 3)) : zW G F cells slots I lv (.int (zI b) :: .int (zI a) :: st) pc := by
  obtain ⟨p, l, e, R, s, m, args, below, meth, c, Q, A, nn, D, cs⟩ := G
  intro hc hs H locs ls hP hD hS hl2
  have h := kk hc hs H locs ls hP hD hS hl2
  rw [← zmin ha hb] at h
  have r1 := hRm.1
  have r2 := hRm.2.1
  obtain ⟨g1, g2, g3, g4, g5, g6, g7, g8, g9, g10, g11⟩ := hG
  obtain ⟨m1, m2, m3, m4⟩ := hm
  exact va_mmin g1 g2 (g4.trans hl2.1.symm) g3 (g7.at m1 _) (g7.at m2 _) (g7.at m3 _) (g7.at m4 _) (by omega) (by omega) hc hs hd h
theorem z_max {index : Nat} {a b : Int} {rmG : Room} (hG : zOK G own cc nL) (hRm : zRoom G rmG) (hm : zMath own index Lib.Math.max.name Lib.Math.max.code) (hf : 1 ≤ rmG.frames) (hlo : (st.map fun v => v.category).sum + 13 ≤ rmG.locals) (ha : -2147483648 ≤ a ∧ a < 2147483648) (hb : -2147483648 ≤ b ∧ b < 2147483648) (hd : decode cc pc = .ok (.invokestatic index, 3)) (kk : zW G F cells slots I lv (.int (zI (max a b)) :: st) (pc + 3)) : zW G F cells slots I lv (.int (zI b) :: .int (zI a) :: st) pc := by
  obtain ⟨p, l, e, R, s, m, args, below, meth, c, Q, A, nn, D, cs⟩ := G
  intro hc hs H locs ls hP hD hS hl2
  have h := kk hc hs H locs ls hP hD hS hl2
  rw [← zmax ha hb] at h
  have r1 := hRm.1
  have r2 := hRm.2.1
  obtain ⟨g1, g2, g3, g4, g5, g6, g7, g8, g9, g10, g11⟩ := hG
  obtain ⟨m1, m2, m3, m4⟩ := hm
  exact va_mmax g1 g2 (g4.trans hl2.1.symm) g3 (g7.at m1 _) (g7.at m2 _) (g7.at m3 _) (g7.at m4 _) (by omega) (by omega) hc hs hd h
end ZD
end
section
theorem zz_last : True := trivial
end
