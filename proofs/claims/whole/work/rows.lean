section
-- ===== PART A: goes FIRST, ahead of the names: the tables' words, and 'selects' of the private methods out of them =====
/-- a private method of a class that the tables say can be made, by its rows of tables_1 -/
def lw_okq (q : MethodName × Nat) : Prop := (q.1.cls ≠ "java/lang/invoke/MethodHandle" ∧ q.1.cls ≠ "java/lang/invoke/VarHandle") ∧ Cond.instantiable q.1.cls q.2 ∈ tables_1 ∧ Cond.privateMethod q.1 ∈ tables_1 ∧ Cond.instanceMethod q.1 ∈ tables_1
theorem lw_p0 : lw_okq (⟨"LineLearner$Aligner", "fillRow", "(LLineLearner$Format;II)V"⟩, 10) := ⟨⟨by decide +kernel, by decide +kernel⟩, List.mem_of_getElem? (i := 71) (by decide +kernel), List.mem_of_getElem? (i := 214) (by decide +kernel), List.mem_of_getElem? (i := 215) (by decide +kernel)⟩
theorem lw_p1 : lw_okq (⟨"LineLearner$Aligner", "skipCost", "(LLineLearner$Format;I)I"⟩, 10) := ⟨⟨by decide +kernel, by decide +kernel⟩, List.mem_of_getElem? (i := 71) (by decide +kernel), List.mem_of_getElem? (i := 218) (by decide +kernel), List.mem_of_getElem? (i := 219) (by decide +kernel)⟩
theorem lw_p2 : lw_okq (⟨"LineLearner$Aligner", "pairCost", "(LLineLearner$Format;II)I"⟩, 10) := ⟨⟨by decide +kernel, by decide +kernel⟩, List.mem_of_getElem? (i := 71) (by decide +kernel), List.mem_of_getElem? (i := 232) (by decide +kernel), List.mem_of_getElem? (i := 233) (by decide +kernel)⟩
theorem lw_p3 : lw_okq (⟨"LineLearner", "textSize", "(I)I"⟩, 11) := ⟨⟨by decide +kernel, by decide +kernel⟩, List.mem_of_getElem? (i := 15) (by decide +kernel), List.mem_of_getElem? (i := 244) (by decide +kernel), List.mem_of_getElem? (i := 245) (by decide +kernel)⟩
theorem lw_p4 : lw_okq (⟨"LineLearner", "bitsOfVarying", "(I)I"⟩, 11) := ⟨⟨by decide +kernel, by decide +kernel⟩, List.mem_of_getElem? (i := 15) (by decide +kernel), List.mem_of_getElem? (i := 252) (by decide +kernel), List.mem_of_getElem? (i := 253) (by decide +kernel)⟩
theorem lw_p5 : lw_okq (⟨"LineLearner", "addLines", "(J)J"⟩, 11) := ⟨⟨by decide +kernel, by decide +kernel⟩, List.mem_of_getElem? (i := 15) (by decide +kernel), List.mem_of_getElem? (i := 273) (by decide +kernel), List.mem_of_getElem? (i := 274) (by decide +kernel)⟩
theorem lw_p6 : lw_okq (⟨"LineLearner", "addSlots", "(J)J"⟩, 11) := ⟨⟨by decide +kernel, by decide +kernel⟩, List.mem_of_getElem? (i := 15) (by decide +kernel), List.mem_of_getElem? (i := 280) (by decide +kernel), List.mem_of_getElem? (i := 281) (by decide +kernel)⟩
theorem lw_p7 : lw_okq (⟨"java/lang/Throwable", "fillInStackTrace", "(I)Ljava/lang/Throwable;"⟩, 6) := ⟨⟨by decide +kernel, by decide +kernel⟩, List.mem_of_getElem? (i := 337) (by decide +kernel), List.mem_of_getElem? (i := 335) (by decide +kernel), List.mem_of_getElem? (i := 336) (by decide +kernel)⟩
theorem lw_p8 : lw_okq (⟨"LineLearner$Lines", "cut", "(I)V"⟩, 8) := ⟨⟨by decide +kernel, by decide +kernel⟩, List.mem_of_getElem? (i := 23) (by decide +kernel), List.mem_of_getElem? (i := 395) (by decide +kernel), List.mem_of_getElem? (i := 396) (by decide +kernel)⟩
theorem lw_p9 : lw_okq (⟨"LineLearner$Lines", "numberTexts", "(I)V"⟩, 8) := ⟨⟨by decide +kernel, by decide +kernel⟩, List.mem_of_getElem? (i := 23) (by decide +kernel), List.mem_of_getElem? (i := 403) (by decide +kernel), List.mem_of_getElem? (i := 404) (by decide +kernel)⟩
theorem lw_p10 : lw_okq (⟨"LineLearner$Lines", "firstAlike", "(II)I"⟩, 8) := ⟨⟨by decide +kernel, by decide +kernel⟩, List.mem_of_getElem? (i := 23) (by decide +kernel), List.mem_of_getElem? (i := 407) (by decide +kernel), List.mem_of_getElem? (i := 408) (by decide +kernel)⟩
theorem lw_p11 : lw_okq (⟨"LineLearner$Lines", "isSameText", "(II)Z"⟩, 8) := ⟨⟨by decide +kernel, by decide +kernel⟩, List.mem_of_getElem? (i := 23) (by decide +kernel), List.mem_of_getElem? (i := 411) (by decide +kernel), List.mem_of_getElem? (i := 412) (by decide +kernel)⟩
theorem lw_p12 : lw_okq (⟨"LineLearner", "needLine", "(I)V"⟩, 11) := ⟨⟨by decide +kernel, by decide +kernel⟩, List.mem_of_getElem? (i := 15) (by decide +kernel), List.mem_of_getElem? (i := 423) (by decide +kernel), List.mem_of_getElem? (i := 424) (by decide +kernel)⟩
theorem lw_p13 : lw_okq (⟨"LineLearner", "needToken", "(II)V"⟩, 11) := ⟨⟨by decide +kernel, by decide +kernel⟩, List.mem_of_getElem? (i := 15) (by decide +kernel), List.mem_of_getElem? (i := 450) (by decide +kernel), List.mem_of_getElem? (i := 451) (by decide +kernel)⟩
theorem lw_p14 : lw_okq (⟨"LineLearner$Aligner", "lastStep", "(LLineLearner$Format;III)I"⟩, 10) := ⟨⟨by decide +kernel, by decide +kernel⟩, List.mem_of_getElem? (i := 71) (by decide +kernel), List.mem_of_getElem? (i := 498) (by decide +kernel), List.mem_of_getElem? (i := 499) (by decide +kernel)⟩
theorem lw_p15 : lw_okq (⟨"LineLearner$Aligner", "canTake", "(LLineLearner$Format;II)Z"⟩, 10) := ⟨⟨by decide +kernel, by decide +kernel⟩, List.mem_of_getElem? (i := 71) (by decide +kernel), List.mem_of_getElem? (i := 546) (by decide +kernel), List.mem_of_getElem? (i := 547) (by decide +kernel)⟩
def lw_privs_1 : List (MethodName × Nat) := [(⟨"LineLearner$Aligner", "fillRow", "(LLineLearner$Format;II)V"⟩, 10), (⟨"LineLearner$Aligner", "skipCost", "(LLineLearner$Format;I)I"⟩, 10), (⟨"LineLearner$Aligner", "pairCost", "(LLineLearner$Format;II)I"⟩, 10), (⟨"LineLearner", "textSize", "(I)I"⟩, 11), (⟨"LineLearner", "bitsOfVarying", "(I)I"⟩, 11), (⟨"LineLearner", "addLines", "(J)J"⟩, 11), (⟨"LineLearner", "addSlots", "(J)J"⟩, 11), (⟨"java/lang/Throwable", "fillInStackTrace", "(I)Ljava/lang/Throwable;"⟩, 6), (⟨"LineLearner$Lines", "cut", "(I)V"⟩, 8), (⟨"LineLearner$Lines", "numberTexts", "(I)V"⟩, 8), (⟨"LineLearner$Lines", "firstAlike", "(II)I"⟩, 8), (⟨"LineLearner$Lines", "isSameText", "(II)Z"⟩, 8), (⟨"LineLearner", "needLine", "(I)V"⟩, 11), (⟨"LineLearner", "needToken", "(II)V"⟩, 11), (⟨"LineLearner$Aligner", "lastStep", "(LLineLearner$Format;III)I"⟩, 10), (⟨"LineLearner$Aligner", "canTake", "(LLineLearner$Format;II)Z"⟩, 10)]
theorem lw_r1 : ∀ q ∈ lw_privs_1, lw_okq q := List.forall_mem_cons.mpr ⟨lw_p0, List.forall_mem_cons.mpr ⟨lw_p1, List.forall_mem_cons.mpr ⟨lw_p2, List.forall_mem_cons.mpr ⟨lw_p3, List.forall_mem_cons.mpr ⟨lw_p4, List.forall_mem_cons.mpr ⟨lw_p5, List.forall_mem_cons.mpr ⟨lw_p6, List.forall_mem_cons.mpr ⟨lw_p7, List.forall_mem_cons.mpr ⟨lw_p8, List.forall_mem_cons.mpr ⟨lw_p9, List.forall_mem_cons.mpr ⟨lw_p10, List.forall_mem_cons.mpr ⟨lw_p11, List.forall_mem_cons.mpr ⟨lw_p12, List.forall_mem_cons.mpr ⟨lw_p13, List.forall_mem_cons.mpr ⟨lw_p14, List.forall_mem_cons.mpr ⟨lw_p15, fun _ h => absurd h List.not_mem_nil⟩⟩⟩⟩⟩⟩⟩⟩⟩⟩⟩⟩⟩⟩⟩⟩
theorem lw_p16 : lw_okq (⟨"LineLearner", "neededSlot", "(I)I"⟩, 11) := ⟨⟨by decide +kernel, by decide +kernel⟩, List.mem_of_getElem? (i := 15) (by decide +kernel), List.mem_of_getElem? (i := 557) (by decide +kernel), List.mem_of_getElem? (i := 558) (by decide +kernel)⟩
theorem lw_p17 : lw_okq (⟨"LineLearner", "tokenIn", "(II)I"⟩, 11) := ⟨⟨by decide +kernel, by decide +kernel⟩, List.mem_of_getElem? (i := 15) (by decide +kernel), List.mem_of_getElem? (i := 598) (by decide +kernel), List.mem_of_getElem? (i := 599) (by decide +kernel)⟩
theorem lw_p18 : lw_okq (⟨"LineLearner", "numberIn", "(II)I"⟩, 11) := ⟨⟨by decide +kernel, by decide +kernel⟩, List.mem_of_getElem? (i := 15) (by decide +kernel), List.mem_of_getElem? (i := 609) (by decide +kernel), List.mem_of_getElem? (i := 610) (by decide +kernel)⟩
theorem lw_p19 : lw_okq (⟨"LineLearner", "textIn", "(II)I"⟩, 11) := ⟨⟨by decide +kernel, by decide +kernel⟩, List.mem_of_getElem? (i := 15) (by decide +kernel), List.mem_of_getElem? (i := 625) (by decide +kernel), List.mem_of_getElem? (i := 626) (by decide +kernel)⟩
theorem lw_p20 : lw_okq (⟨"LineLearner", "isTextBefore", "(III)Z"⟩, 11) := ⟨⟨by decide +kernel, by decide +kernel⟩, List.mem_of_getElem? (i := 15) (by decide +kernel), List.mem_of_getElem? (i := 629) (by decide +kernel), List.mem_of_getElem? (i := 630) (by decide +kernel)⟩
theorem lw_p21 : lw_okq (⟨"LineLearner", "nearestGroup", "(II)I"⟩, 11) := ⟨⟨by decide +kernel, by decide +kernel⟩, List.mem_of_getElem? (i := 15) (by decide +kernel), List.mem_of_getElem? (i := 648) (by decide +kernel), List.mem_of_getElem? (i := 649) (by decide +kernel)⟩
theorem lw_p22 : lw_okq (⟨"LineLearner", "needGrouping", "()V"⟩, 11) := ⟨⟨by decide +kernel, by decide +kernel⟩, List.mem_of_getElem? (i := 15) (by decide +kernel), List.mem_of_getElem? (i := 659) (by decide +kernel), List.mem_of_getElem? (i := 660) (by decide +kernel)⟩
theorem lw_p23 : lw_okq (⟨"LineLearnerModel", "fail", "(I)I"⟩, 27) := ⟨⟨by decide +kernel, by decide +kernel⟩, List.mem_of_getElem? (i := 672) (by decide +kernel), List.mem_of_getElem? (i := 773) (by decide +kernel), List.mem_of_getElem? (i := 774) (by decide +kernel)⟩
theorem lw_p24 : lw_okq (⟨"LineLearnerModel", "isLine", "(I)Z"⟩, 27) := ⟨⟨by decide +kernel, by decide +kernel⟩, List.mem_of_getElem? (i := 672) (by decide +kernel), List.mem_of_getElem? (i := 788) (by decide +kernel), List.mem_of_getElem? (i := 789) (by decide +kernel)⟩
theorem lw_p25 : lw_okq (⟨"LineLearnerModel", "isToken", "(II)Z"⟩, 27) := ⟨⟨by decide +kernel, by decide +kernel⟩, List.mem_of_getElem? (i := 672) (by decide +kernel), List.mem_of_getElem? (i := 796) (by decide +kernel), List.mem_of_getElem? (i := 797) (by decide +kernel)⟩
theorem lw_p26 : lw_okq (⟨"LineLearnerModel", "areSame", "(II)Z"⟩, 27) := ⟨⟨by decide +kernel, by decide +kernel⟩, List.mem_of_getElem? (i := 672) (by decide +kernel), List.mem_of_getElem? (i := 808) (by decide +kernel), List.mem_of_getElem? (i := 809) (by decide +kernel)⟩
theorem lw_p27 : lw_okq (⟨"LineLearnerModel", "align", "(II)I"⟩, 27) := ⟨⟨by decide +kernel, by decide +kernel⟩, List.mem_of_getElem? (i := 672) (by decide +kernel), List.mem_of_getElem? (i := 822) (by decide +kernel), List.mem_of_getElem? (i := 823) (by decide +kernel)⟩
theorem lw_p28 : lw_okq (⟨"LineLearnerModel", "costOf", "(IIIII)I"⟩, 27) := ⟨⟨by decide +kernel, by decide +kernel⟩, List.mem_of_getElem? (i := 672) (by decide +kernel), List.mem_of_getElem? (i := 827) (by decide +kernel), List.mem_of_getElem? (i := 828) (by decide +kernel)⟩
theorem lw_p29 : lw_okq (⟨"LineLearnerModel", "isFree", "(II)Z"⟩, 27) := ⟨⟨by decide +kernel, by decide +kernel⟩, List.mem_of_getElem? (i := 672) (by decide +kernel), List.mem_of_getElem? (i := 837) (by decide +kernel), List.mem_of_getElem? (i := 838) (by decide +kernel)⟩
theorem lw_p30 : lw_okq (⟨"LineLearnerModel", "usesOf", "(II)I"⟩, 27) := ⟨⟨by decide +kernel, by decide +kernel⟩, List.mem_of_getElem? (i := 672) (by decide +kernel), List.mem_of_getElem? (i := 841) (by decide +kernel), List.mem_of_getElem? (i := 842) (by decide +kernel)⟩
theorem lw_p31 : lw_okq (⟨"LineLearnerModel", "tokenOf", "(III)I"⟩, 27) := ⟨⟨by decide +kernel, by decide +kernel⟩, List.mem_of_getElem? (i := 672) (by decide +kernel), List.mem_of_getElem? (i := 845) (by decide +kernel), List.mem_of_getElem? (i := 846) (by decide +kernel)⟩
def lw_privs_2 : List (MethodName × Nat) := [(⟨"LineLearner", "neededSlot", "(I)I"⟩, 11), (⟨"LineLearner", "tokenIn", "(II)I"⟩, 11), (⟨"LineLearner", "numberIn", "(II)I"⟩, 11), (⟨"LineLearner", "textIn", "(II)I"⟩, 11), (⟨"LineLearner", "isTextBefore", "(III)Z"⟩, 11), (⟨"LineLearner", "nearestGroup", "(II)I"⟩, 11), (⟨"LineLearner", "needGrouping", "()V"⟩, 11), (⟨"LineLearnerModel", "fail", "(I)I"⟩, 27), (⟨"LineLearnerModel", "isLine", "(I)Z"⟩, 27), (⟨"LineLearnerModel", "isToken", "(II)Z"⟩, 27), (⟨"LineLearnerModel", "areSame", "(II)Z"⟩, 27), (⟨"LineLearnerModel", "align", "(II)I"⟩, 27), (⟨"LineLearnerModel", "costOf", "(IIIII)I"⟩, 27), (⟨"LineLearnerModel", "isFree", "(II)Z"⟩, 27), (⟨"LineLearnerModel", "usesOf", "(II)I"⟩, 27), (⟨"LineLearnerModel", "tokenOf", "(III)I"⟩, 27)]
theorem lw_r2 : ∀ q ∈ lw_privs_2, lw_okq q := List.forall_mem_cons.mpr ⟨lw_p16, List.forall_mem_cons.mpr ⟨lw_p17, List.forall_mem_cons.mpr ⟨lw_p18, List.forall_mem_cons.mpr ⟨lw_p19, List.forall_mem_cons.mpr ⟨lw_p20, List.forall_mem_cons.mpr ⟨lw_p21, List.forall_mem_cons.mpr ⟨lw_p22, List.forall_mem_cons.mpr ⟨lw_p23, List.forall_mem_cons.mpr ⟨lw_p24, List.forall_mem_cons.mpr ⟨lw_p25, List.forall_mem_cons.mpr ⟨lw_p26, List.forall_mem_cons.mpr ⟨lw_p27, List.forall_mem_cons.mpr ⟨lw_p28, List.forall_mem_cons.mpr ⟨lw_p29, List.forall_mem_cons.mpr ⟨lw_p30, List.forall_mem_cons.mpr ⟨lw_p31, fun _ h => absurd h List.not_mem_nil⟩⟩⟩⟩⟩⟩⟩⟩⟩⟩⟩⟩⟩⟩⟩⟩
theorem lw_p32 : lw_okq (⟨"LineLearnerModel", "follow", "(II)V"⟩, 27) := ⟨⟨by decide +kernel, by decide +kernel⟩, List.mem_of_getElem? (i := 672) (by decide +kernel), List.mem_of_getElem? (i := 855) (by decide +kernel), List.mem_of_getElem? (i := 856) (by decide +kernel)⟩
theorem lw_p33 : lw_okq (⟨"LineLearnerModel", "freshSteps", "()I"⟩, 27) := ⟨⟨by decide +kernel, by decide +kernel⟩, List.mem_of_getElem? (i := 672) (by decide +kernel), List.mem_of_getElem? (i := 859) (by decide +kernel), List.mem_of_getElem? (i := 860) (by decide +kernel)⟩
theorem lw_p34 : lw_okq (⟨"LineLearnerModel", "mergeInto", "(II)V"⟩, 27) := ⟨⟨by decide +kernel, by decide +kernel⟩, List.mem_of_getElem? (i := 672) (by decide +kernel), List.mem_of_getElem? (i := 863) (by decide +kernel), List.mem_of_getElem? (i := 864) (by decide +kernel)⟩
theorem lw_p35 : lw_okq (⟨"LineLearnerModel", "canPair", "(II)Z"⟩, 27) := ⟨⟨by decide +kernel, by decide +kernel⟩, List.mem_of_getElem? (i := 672) (by decide +kernel), List.mem_of_getElem? (i := 883) (by decide +kernel), List.mem_of_getElem? (i := 884) (by decide +kernel)⟩
theorem lw_p36 : lw_okq (⟨"LineLearnerModel", "extreme", "(IZ)I"⟩, 27) := ⟨⟨by decide +kernel, by decide +kernel⟩, List.mem_of_getElem? (i := 672) (by decide +kernel), List.mem_of_getElem? (i := 887) (by decide +kernel), List.mem_of_getElem? (i := 888) (by decide +kernel)⟩
theorem lw_p37 : lw_okq (⟨"LineLearnerModel", "isSlot", "(I)Z"⟩, 27) := ⟨⟨by decide +kernel, by decide +kernel⟩, List.mem_of_getElem? (i := 672) (by decide +kernel), List.mem_of_getElem? (i := 903) (by decide +kernel), List.mem_of_getElem? (i := 904) (by decide +kernel)⟩
theorem lw_p38 : lw_okq (⟨"LineLearnerModel", "numberOf", "(II)I"⟩, 27) := ⟨⟨by decide +kernel, by decide +kernel⟩, List.mem_of_getElem? (i := 672) (by decide +kernel), List.mem_of_getElem? (i := 931) (by decide +kernel), List.mem_of_getElem? (i := 932) (by decide +kernel)⟩
theorem lw_p39 : lw_okq (⟨"LineLearnerModel", "allBits", "()I"⟩, 27) := ⟨⟨by decide +kernel, by decide +kernel⟩, List.mem_of_getElem? (i := 672) (by decide +kernel), List.mem_of_getElem? (i := 947) (by decide +kernel), List.mem_of_getElem? (i := 948) (by decide +kernel)⟩
def lw_privs_3 : List (MethodName × Nat) := [(⟨"LineLearnerModel", "follow", "(II)V"⟩, 27), (⟨"LineLearnerModel", "freshSteps", "()I"⟩, 27), (⟨"LineLearnerModel", "mergeInto", "(II)V"⟩, 27), (⟨"LineLearnerModel", "canPair", "(II)Z"⟩, 27), (⟨"LineLearnerModel", "extreme", "(IZ)I"⟩, 27), (⟨"LineLearnerModel", "isSlot", "(I)Z"⟩, 27), (⟨"LineLearnerModel", "numberOf", "(II)I"⟩, 27), (⟨"LineLearnerModel", "allBits", "()I"⟩, 27)]
theorem lw_r3 : ∀ q ∈ lw_privs_3, lw_okq q := List.forall_mem_cons.mpr ⟨lw_p32, List.forall_mem_cons.mpr ⟨lw_p33, List.forall_mem_cons.mpr ⟨lw_p34, List.forall_mem_cons.mpr ⟨lw_p35, List.forall_mem_cons.mpr ⟨lw_p36, List.forall_mem_cons.mpr ⟨lw_p37, List.forall_mem_cons.mpr ⟨lw_p38, List.forall_mem_cons.mpr ⟨lw_p39, fun _ h => absurd h List.not_mem_nil⟩⟩⟩⟩⟩⟩⟩⟩
def lw_privs : List (MethodName × Nat) := lw_privs_1 ++ (lw_privs_2 ++ (lw_privs_3))
def lw_tbl : List Cond := k2_sels lw_privs ++ tables_1
theorem lw_privs_ok : ∀ q ∈ lw_privs, lw_okq q := by
  show ∀ q ∈ lw_privs_1 ++ (lw_privs_2 ++ (lw_privs_3)), lw_okq q
  exact List.forall_mem_append.mpr ⟨lw_r1, List.forall_mem_append.mpr ⟨lw_r2, lw_r3⟩⟩
/-- the streams that the claim lets the run draw from -/
abbrev lw_cs : List Choice := [Jvm.Choice.named "NaN.bits"]
theorem lw_bits : nanBits ∈ lw_cs := by first | decide | exact List.mem_cons_self | simp [lw_cs, nanBits]
-- ===== end of PART A; then your names; then what follows =====
end
section
/-! ===== BEGIN words of one list among another's, by their places ===== -/
theorem goodIn_r {big : List Cond} (ws : List Cond) (ps : List Nat) (hp : ws = ps.filterMap (fun i => big[i]?)) (h : ws.all goodWord = true) : GoodIn big ws := by
  intro w hw
  have h1 := List.all_eq_true.mp h w hw
  rw [hp] at hw
  obtain ⟨i, -, hi⟩ := List.mem_filterMap.mp hw
  have hm : w ∈ big := by first | exact List.mem_of_getElem? hi | exact List.getElem?_mem hi
  exact ⟨hm, good_of_word h1⟩
theorem goodIn_app {big a b : List Cond} (ha : GoodIn big a) (hb : GoodIn big b) : GoodIn big (a ++ b) := fun w h => (List.mem_append.mp h).elim (ha w) (hb w)
theorem goodIn_ca {big a b : List Cond} {c : Cond} (ha : GoodIn big (c :: a)) (hb : GoodIn big b) : GoodIn big (c :: (a ++ b)) := fun w h => (List.mem_cons.mp h).elim (fun e => ha w (List.mem_cons.mpr (Or.inl e))) (fun h => (List.mem_append.mp h).elim (fun h => ha w (List.mem_cons.mpr (Or.inr h))) (hb w))
theorem goodIn_sub {big ws : List Cond} (hm : ∀ w ∈ ws, w ∈ big) (h : ws.all goodWord = true) : GoodIn big ws := fun w hw => ⟨hm w hw, good_of_word (List.all_eq_true.mp h w hw)⟩
/-! ===== END ===== -/

/-! ===== BEGIN exceptions that leave a method, and their catching by the caller (launches without stack traces) ===== -/
section VXA
/-! The laws vx_back, vx_callV, vx_callS, vx_callSW, vx_throw0, vx_throwS follow proofs of the library, with one case more: JvmDerived/Free/Laws.lean (Back.of_free), Shelf42/LK1.lean (callV, callS), Shelf/KitTraced.lean (throwNew0V, throwNewS). -/
/-- where a method has thrown q: the class by its name, the cell, what was written, the world -/
def vx_T (XC : String → State → State → Prop) (st : State) (q : Addr) (t : State) (mc ms : Nat) (free : Addr → Prop) : Prop :=
  ∃ (E : String) (ce : Cell) (L : List Loc), XC E st t ∧ t.heap[q]? = some ce ∧ ce.vm = .none ∧ st.vm.findClass E = some ce.cls ∧ st.WarmedH t.vm ∧ st.sameButNew ({ t with vm := st.vm } : State) L mc ms ∧ ∀ z ∈ L, free z.base
def vx_Q (Qc : Array Value → State → Outcome → State → Prop) (XC : String → State → State → Prop) (mc ms : Nat) (free : Addr → Prop) : Array Value → State → Outcome → State → Prop := fun a st o t =>
  (Qc a st o t ∧ ∃ L, FrameEnd st o t L mc ms ∧ ∀ q ∈ L, free q.base) ∨ ∃ q, o = .threw q ∧ vx_T XC st q t mc ms free
/-- a callee that returns or throws -/
def vx_Met (l : Launch) (y : MethodName) (ws : List Cond) (rm : Room) (Pc : Array Value → State → Prop) (Qc : Array Value → State → Outcome → State → Prop) (XC : String → State → State → Prop) (mc ms : Nat) (free : Addr → Prop) : Prop :=
  MetFree l y (headSpec ws rm) Pc (fun _ _ _ _ _ => True) (vx_Q Qc XC mc ms free)
def vx_Post (XC : String → State → State → Prop) (mc ms : Nat) (free : Addr → Prop) : Pt → Array Value → Addr → Pt → Prop := fun A a q B =>
  ∃ (g : JFrame) (mk : MethodId) (t : State) (L : List Loc) (E : String) (ce : Cell), B.U.heap = t.heap ∧ B.U.vm = t.vm ∧ XC E (A.U.calling g mk a) t ∧ t.heap[q]? = some ce ∧ ce.vm = .none ∧ A.U.vm.findClass E = some ce.cls ∧ B.locs = A.locs ++ L ∧ (∀ z ∈ L, free z.base) ∧ B.cells = A.cells + mc ∧ B.slots = A.slots + ms
def vx_Back (l : Launch) (R : Room) (p : Program) (e : Env) (below : List Frame) (s : State) (sargs : Array Value) (y : MethodName) (len W9 : Nat)
    (Pre : Pt → Array Value → Prop) (Post : Pt → Array Value → Option Value → Pt → Prop) (PostX : Pt → Array Value → Addr → Pt → Prop) : Prop :=
  ∀ (m : MethodId) (meth : Method) (c : Code) (A : Pt) (g : JFrame) (ig : Instr) (mk : MethodId) (a : Array Value),
    Stand p l e R s m sargs below meth c A.U A.locs A.cells A.slots → g.method = m → g.locals.size = c.maxLocals → decode c.code g.pc = .ok (ig, len) →
    2 * g.monitorRoom + (g.stack.map fun v => v.category).sum ≤ W9 → A.U.methodNamed? y = some mk → Pre A a →
    (∃ (v : Option Value) (B : Pt), Stand p l e R s m sargs below meth c B.U B.locs B.cells B.slots ∧ Post A a v B ∧
      Steps p.tables e below (doInvoke e (A.U.setTop g) [] mk a).1 (B.U.setTop { g with pc := g.pc + len, stack := v.toList ++ g.stack })) ∨
    (∃ (q : Addr) (B : Pt), Stand p l e R s m sargs below meth c B.U B.locs B.cells B.slots ∧ PostX A a q B ∧
      Steps p.tables e below (doInvoke e (A.U.setTop g) [] mk a).1 ((B.U.setTop g).pushFrame (.throwing q)))
section Payer
variable {l : Launch} {R : Room} {p : Program} {e : Env} {below : List Frame} {s : State} {sargs : Array Value} {y : MethodName} {len W9 : Nat}
theorem vx_back {ws : List Cond} {rm : Room} {Pc : Array Value → State → Prop} {Qc : Array Value → State → Outcome → State → Prop} {XC : String → State → State → Prop} {mc ms : Nat} {free : Addr → Prop} {bytes : ByteArray} {maxL : Nat} {ret : Option FieldType}
    (hM : vx_Met l y ws rm Pc Qc XC mc ms free) (hblind : FrameBlind Pc) (hrc : rm.cells = mc) (hrs : rm.slots = ms)
    (hframes : rm.frames + 1 ≤ R.frames) (hlocals : W9 + (maxL + 11) + rm.locals ≤ R.locals)
    (hws : ∀ w ∈ ws, ∀ a' U, s.WarmedH U.vm → w.before a' U = true) (hcode : Cond.code y bytes maxL ret ∈ ws) (hinit : ∀ a' U, s.WarmedH U.vm → (Cond.initialized y.cls).before a' U = true) :
    vx_Back l R p e below s sargs y len W9 (PreOf R mc ms Pc) (PostOf Qc mc ms free) (vx_Post XC mc ms free) := by
  intro m meth c A g ig mk a X hg hsize hdg hW hn hp
  have h1 : (headSpec ws rm).pre.before a A.U = true := atoms_intro fun w hw => hws w hw _ _ X.warmed
  have h2 : (Cond.code y bytes maxL ret).before a A.U = true := hws _ hcode _ _ X.warmed
  have h3 : (Cond.initialized y.cls).before a A.U = true := hinit _ _ X.warmed
  have h4 : A.cells + (headSpec ws rm).room.cells ≤ R.cells := by rw [show (headSpec ws rm).room.cells = mc from hrc]; exact hp.1
  have h5 : A.slots + (headSpec ws rm).room.slots ≤ R.slots := by rw [show (headSpec ws rm).room.slots = ms from hrs]; exact hp.2.1
  have hPc : Pc a (A.U.calling g mk a) := hblind _ _ _ _ hp.2.2
  obtain ⟨U, Ls, c0, s0⟩ := A
  dsimp only [Pt.U, Pt.locs, Pt.cells, Pt.slots] at h1 h2 h3 h4 h5 X hn hPc ⊢
  obtain ⟨methY, cY, hmY, hcY, -, hlY, -, -, -, -⟩ := Cond.code_spec hn h2
  obtain ⟨kY, hkY, -⟩ := className_of_methodNamed hn
  have hinitY : kY.init = .initialized := Cond.initialized_spec (findClass_of_methodNamed hn) hkY h3
  have h : At U g.method c below := by rw [hg]; exact X.here
  have hlocals9 : W9 + (maxL + 11) + (headSpec ws rm).room.locals ≤ R.locals := hlocals
  have happ : (headSpec ws rm).appliesLoose y e.platform (U.calling g mk a) = true :=
    Spec.appliesLoose_calling (g := g) h hdg hn hkY hinitY
      (X.room_calling (g := g) (R' := (headSpec ws rm).room) hsize hmY hcY hframes (by rw [hlY]; omega) h4 h5) h1
  obtain ⟨mid, hmid⟩ := h.above
  have hfr : (U.setTop g).frames = (.java g :: mid) ++ below := by rw [State.frames_setTop' g h.top, hmid]; rfl
  obtain ⟨o, s₂, hsteps, -, hend, hq⟩ := Steps.callFree hM p X.admits X.cas X.clock (acts := []) hfr happ hPc trivial
  have hq' : vx_Q Qc XC mc ms free a (U.calling g mk a) o s₂ := hq
  rw [State.frames_setTop' g h.top] at hend
  obtain ⟨g₀, hg0⟩ := Option.isSome_iff_exists.mp h.top
  obtain ⟨r, hr⟩ := State.topJava?_eq_some.mp hg0
  have hr' : (({ U with heap := s₂.heap, slotsUsed := s₂.slotsUsed } : State).setVm s₂.vm).frames = .java g₀ :: r := hr
  rcases hq' with ⟨hqc, L, hfe, hL⟩ | ⟨q, rfl, E, ce, L, hx, hce, hcv, hcl, hW₂, hsm, hL⟩
  · obtain ⟨⟨v, rfl⟩, hW₂, e2, q2, q3, q4, q5, q6⟩ := id hfe
    have e3 : s₂ = ({ (U.calling g mk a).setFrames s₂.frames with heap := s₂.heap, slotsUsed := s₂.slotsUsed } : State).setVm s₂.vm := by
      have : s₂ = ({ s₂ with vm := (U.calling g mk a).vm } : State).setVm s₂.vm := rfl
      rw [e2] at this
      exact this
    obtain ⟨c₂, i₂, len₂, hc₂, hd₂, hf₂⟩ := hend
    have hW' : U.WarmedH s₂.vm := hW₂
    have hcc : c₂ = c := by
      have h1 : s₂.code? g.method = U.code? g.method := by
        rw [State.code?_eq, State.code?_eq, hW'.alike.method?]
      exact Option.some.inj (hc₂.symm.trans (h1.trans h.code))
    subst hcc
    have hlen : len₂ = len := by rw [hdg] at hd₂; cases hd₂; rfl
    subst hlen
    have hs₂ : s₂ = (({ U with heap := s₂.heap, slotsUsed := s₂.slotsUsed } : State).setVm s₂.vm).setTop { g with pc := g.pc + len₂, stack := v.toList ++ g.stack } := by
      refine e3.trans ?_
      rw [hf₂, State.calling_eq h.top, State.setFrames_setFrames, State.setTop_of_frames _ hr', hr]
      rfl
    have hsame : U.sameButNew ({ U with heap := s₂.heap, slotsUsed := s₂.slotsUsed } : State) L mc ms := by
      refine ⟨?_, q2, q3, q4, q5, q6⟩
      obtain ⟨t, ht, -⟩ := State.frames_cons hr
      show ({ U with heap := s₂.heap, slotsUsed := s₂.slotsUsed } : State) = { U.setFrames U.frames with heap := s₂.heap, slotsUsed := s₂.slotsUsed }
      rw [State.setFrames_self ht]
    subst hg
    refine Or.inl ⟨v, ⟨(({ U with heap := s₂.heap, slotsUsed := s₂.slotsUsed } : State).setVm s₂.vm), Ls ++ L, c0 + mc, s0 + ms⟩,
      ⟨X.admits, X.cas, X.clock, X.frames, X.room, X.hears, X.method, X.code, (X.here.setHeapUsed s₂.heap s₂.slotsUsed).setVm hW'.alike, X.tail, State.WarmedH.trans X.warmed hW', X.limits, X.bytes, X.same.trans (hsame.setVm s.vm)⟩,
      ⟨g, mk, s₂, L, rfl, rfl, hqc, rfl, hL, rfl, rfl⟩, ?_⟩
    show Steps p.tables e below _ ((({ U with heap := s₂.heap, slotsUsed := s₂.slotsUsed } : State).setVm s₂.vm).setTop { g with pc := g.pc + len₂, stack := v.toList ++ g.stack })
    rw [← hs₂]
    exact hsteps
  · obtain ⟨e2, q2, q3, q4, q5, q6⟩ := id hsm
    have e3 : s₂ = ({ (U.calling g mk a).setFrames s₂.frames with heap := s₂.heap, slotsUsed := s₂.slotsUsed } : State).setVm s₂.vm := by
      have : s₂ = ({ s₂ with vm := (U.calling g mk a).vm } : State).setVm s₂.vm := rfl
      rw [e2] at this
      exact this
    have hf₂ : s₂.frames = .throwing q :: .java g :: U.frames.tail := hend
    have hW' : U.WarmedH s₂.vm := hW₂
    have hs₂ : s₂ = ((({ U with heap := s₂.heap, slotsUsed := s₂.slotsUsed } : State).setVm s₂.vm).setTop g).pushFrame (.throwing q) := by
      refine e3.trans ?_
      rw [hf₂, State.calling_eq h.top, State.setFrames_setFrames, State.pushFrame, State.frames_setTop _ hr', State.setTop_of_frames _ hr', State.setFrames_setFrames, hr]
      rfl
    have hsame : U.sameButNew ({ U with heap := s₂.heap, slotsUsed := s₂.slotsUsed } : State) L mc ms := by
      refine ⟨?_, q2, q3, q4, q5, q6⟩
      obtain ⟨t, ht, -⟩ := State.frames_cons hr
      show ({ U with heap := s₂.heap, slotsUsed := s₂.slotsUsed } : State) = { U.setFrames U.frames with heap := s₂.heap, slotsUsed := s₂.slotsUsed }
      rw [State.setFrames_self ht]
    subst hg
    refine Or.inr ⟨q, ⟨(({ U with heap := s₂.heap, slotsUsed := s₂.slotsUsed } : State).setVm s₂.vm), Ls ++ L, c0 + mc, s0 + ms⟩,
      ⟨X.admits, X.cas, X.clock, X.frames, X.room, X.hears, X.method, X.code, (X.here.setHeapUsed s₂.heap s₂.slotsUsed).setVm hW'.alike, X.tail, State.WarmedH.trans X.warmed hW', X.limits, X.bytes, X.same.trans (hsame.setVm s.vm)⟩,
      ⟨g, mk, s₂, L, E, ce, rfl, rfl, hx, hce, hcv, hcl, rfl, hL, rfl, rfl⟩, ?_⟩
    show Steps p.tables e below _ (((({ U with heap := s₂.heap, slotsUsed := s₂.slotsUsed } : State).setVm s₂.vm).setTop g).pushFrame (.throwing q))
    rw [← hs₂]
    exact hsteps
end Payer
section Calls
variable {p : Program} {l : Launch} {e : Env} {R : Room} {s : State} {m : MethodId} {args : Array Value} {below : List Frame} {meth : Method} {c : Code} {T : State} {locs : List Loc} {cells slots : Nat}
theorem vx_callV (X : Stand p l e R s m args below meth c T locs cells slots) (hexec : p.tables.exec = Jvm.exec) {own C : String} {index : Nat} {y : MethodName} {bytes : ByteArray} {maxL : Nat} {ret : Option FieldType}
    (hown : s.vm.findClass own = some m.cls) (hlink : (Cond.methodLink own index y).before args s = true) (hinst : (Cond.instanceMethod y).before args s = true) (hsel : (Cond.selects C y y).before args s = true)
    (hcode : (Cond.code y bytes maxL ret).before args s = true) (hy : y.cls ≠ "java/lang/invoke/MethodHandle" ∧ y.cls ≠ "java/lang/invoke/VarHandle")
    {W9 : Nat} {Pre : Pt → Array Value → Prop} {Post : Pt → Array Value → Option Value → Pt → Prop} {PostX : Pt → Array Value → Addr → Pt → Prop} (hK : vx_Back l R p e below s args y 3 W9 Pre Post PostX)
    {b : Addr} {cellB : Cell} (hcell : T.heap[b]? = some cellB) (hobj : cellB.vm.isStatics = false) (hcls : s.vm.findClass C = some cellB.cls)
    {g : JFrame} (hg : g.method = m) (hsize : g.locals.size = c.maxLocals) {argsL rest : List Value} (hlen : ∀ sig, parseMethodDescriptor y.desc = some sig → argsL.length = sig.parameters.length)
    (hstack : g.stack = argsL.reverse ++ .ref b :: rest) (hW : 2 * g.monitorRoom + (rest.map fun v => v.category).sum ≤ W9) (hdg : decode c.code g.pc = .ok (.invokevirtual index, 3))
    (hpre : ∀ vm₁, s.WarmedH vm₁ → Pre ⟨T.setVm vm₁, locs, cells, slots⟩ (Value.ref b :: argsL).toArray) :
    (∃ (v : Option Value) (vm₁ : Vm) (B : Pt), s.WarmedH vm₁ ∧ Stand p l e R s m args below meth c B.U B.locs B.cells B.slots ∧ Post ⟨T.setVm vm₁, locs, cells, slots⟩ (Value.ref b :: argsL).toArray v B ∧
      ∀ target, Steps p.tables e below (B.U.setTop { g with pc := g.pc + 3, stack := v.toList ++ rest }) target → Steps p.tables e below (T.setTop g) target) ∨
    (∃ (q : Addr) (vm₁ : Vm) (B : Pt), s.WarmedH vm₁ ∧ Stand p l e R s m args below meth c B.U B.locs B.cells B.slots ∧ PostX ⟨T.setVm vm₁, locs, cells, slots⟩ (Value.ref b :: argsL).toArray q B ∧
      Steps p.tables e below (T.setTop g) ((B.U.setTop { g with stack := rest }).pushFrame (.throwing q))) := by
  obtain ⟨mk, methM, hnamed, hmethM, hstM, habM⟩ := Cond.instanceMethod_spec hinst
  obtain ⟨methM', cM, hmethM', -, -, -, -, -, -, hsigM⟩ := Cond.code_spec hnamed hcode
  cases hmethM.symm.trans hmethM'
  obtain ⟨c2, r2, m2, q1, q2, q3, q4, kP, hkP, hkPi⟩ := Cond.selects_spec hsel
  cases hcls.symm.trans q1
  cases (State.methodFound?_of_named hnamed hy).symm.trans q2
  cases hnamed.symm.trans q3
  have hselP : selectMethod e.platform s.vm cellB.cls mk = .method mk := by rw [Launch.admits_selectMethod X.admits]; exact q4
  obtain ⟨vm₁, X₁, hstep₁⟩ := X.invokevirtual hexec hown hlink hnamed hmethM hstM hkP hkPi hy (a := b) (cell := cellB) hcell
    (fun z h => by rw [h] at hobj; cases hobj) hselP hmethM habM hkP hkPi (g := g) hg (argsL := argsL) (rest := rest) (hlen _ hsigM) hstack hdg
  rcases hK m meth c ⟨T.setVm vm₁, locs, cells, slots⟩ { g with stack := rest } (.invokevirtual index) mk (Value.ref b :: argsL).toArray X₁ hg hsize hdg hW (X₁.named hnamed) (hpre vm₁ X₁.warmed) with ⟨v, B, X', hpost, hsteps⟩ | ⟨q, B, X', hpost, hsteps⟩
  · exact Or.inl ⟨v, vm₁, B, X₁.warmed, X', hpost, fun target h => hstep₁ _ fun acts => by rw [doInvoke_state]; exact hsteps.trans h⟩
  · exact Or.inr ⟨q, vm₁, B, X₁.warmed, X', hpost, hstep₁ _ fun acts => by rw [doInvoke_state]; exact hsteps⟩
theorem vx_callS (X : Stand p l e R s m args below meth c T locs cells slots) (hexec : p.tables.exec = Jvm.exec) {own : String} {index : Nat} {y : MethodName} {bytes : ByteArray} {maxL : Nat} {ret : Option FieldType}
    (hown : s.vm.findClass own = some m.cls) (hlink : (Cond.methodLink own index y).before args s = true) (hstat : (Cond.static y).before args s = true) (hinit : (Cond.initialized y.cls).before args s = true)
    (hcode : (Cond.code y bytes maxL ret).before args s = true) (hy : y.cls ≠ "java/lang/invoke/MethodHandle" ∧ y.cls ≠ "java/lang/invoke/VarHandle")
    {W9 : Nat} {Pre : Pt → Array Value → Prop} {Post : Pt → Array Value → Option Value → Pt → Prop} {PostX : Pt → Array Value → Addr → Pt → Prop} (hK : vx_Back l R p e below s args y 3 W9 Pre Post PostX)
    {g : JFrame} (hg : g.method = m) (hsize : g.locals.size = c.maxLocals) {argsL rest : List Value} (hlen : ∀ sig, parseMethodDescriptor y.desc = some sig → argsL.length = sig.parameters.length)
    (hstack : g.stack = argsL.reverse ++ rest) (hW : 2 * g.monitorRoom + (rest.map fun v => v.category).sum ≤ W9) (hdg : decode c.code g.pc = .ok (.invokestatic index, 3))
    (hpre : ∀ vm₁, s.WarmedH vm₁ → Pre ⟨T.setVm vm₁, locs, cells, slots⟩ argsL.toArray) :
    (∃ (v : Option Value) (vm₁ : Vm) (B : Pt), s.WarmedH vm₁ ∧ Stand p l e R s m args below meth c B.U B.locs B.cells B.slots ∧ Post ⟨T.setVm vm₁, locs, cells, slots⟩ argsL.toArray v B ∧
      ∀ target, Steps p.tables e below (B.U.setTop { g with pc := g.pc + 3, stack := v.toList ++ rest }) target → Steps p.tables e below (T.setTop g) target) ∨
    (∃ (q : Addr) (vm₁ : Vm) (B : Pt), s.WarmedH vm₁ ∧ Stand p l e R s m args below meth c B.U B.locs B.cells B.slots ∧ PostX ⟨T.setVm vm₁, locs, cells, slots⟩ argsL.toArray q B ∧
      Steps p.tables e below (T.setTop g) ((B.U.setTop { g with stack := rest }).pushFrame (.throwing q))) := by
  obtain ⟨mk, hnamed⟩ := Cond.code_named hcode
  obtain ⟨methM, cM, hmethM, -, -, -, -, -, -, hsigM⟩ := Cond.code_spec hnamed hcode
  have hstatic : methM.isStatic = true := Cond.static_spec hnamed hmethM hstat
  obtain ⟨kP, hkP, -⟩ := className_of_methodNamed hnamed
  have hinitP : kP.init = .initialized := Cond.initialized_spec (findClass_of_methodNamed hnamed) hkP hinit
  obtain ⟨vm₁, X₁, hstep₁⟩ := X.invokestatic hexec hown hlink hnamed hmethM hstatic hkP hinitP hy (g := g) hg (argsL := argsL) (rest := rest) (hlen _ hsigM) hstack hdg
  rcases hK m meth c ⟨T.setVm vm₁, locs, cells, slots⟩ { g with stack := rest } (.invokestatic index) mk argsL.toArray X₁ hg hsize hdg hW (X₁.named hnamed) (hpre vm₁ X₁.warmed) with ⟨v, B, X', hpost, hsteps⟩ | ⟨q, B, X', hpost, hsteps⟩
  · exact Or.inl ⟨v, vm₁, B, X₁.warmed, X', hpost, fun target h => hstep₁ _ fun acts => by rw [doInvoke_state]; exact hsteps.trans h⟩
  · exact Or.inr ⟨q, vm₁, B, X₁.warmed, X', hpost, hstep₁ _ fun acts => by rw [doInvoke_state]; exact hsteps⟩
end Calls
theorem vx_cls {s : State} {T : State} {vm₁ : Vm} {E : String} {k : ClassId} (hW : s.WarmedH vm₁) (h : (T.setVm vm₁).vm.findClass E = some k) : s.vm.findClass E = some k := by
  have h1 : vm₁.findClass E = some k := h
  rw [hW.alike.findClass] at h1
  exact h1
/-- the method's frame g, with q thrown over it -/
def vx_W (p : Program) (l : Launch) (e : Env) (R : Room) (s : State) (m : MethodId) (args : Array Value) (below : List Frame) (meth : Method) (c : Code) (H : Heap) (locs : List Loc) (cells slots : Nat) (Q : State → Prop) (g : JFrame) (q : Addr) : Prop :=
  ∀ T : State, T.heap = H → Stand p l e R s m args below meth c T locs cells slots → ∃ t, Steps p.tables e below ((T.setTop g).pushFrame (.throwing q)) t ∧ Q t
def vx_Run (p : Program) (l : Launch) (e : Env) (R : Room) (s : State) (m : MethodId) (args : Array Value) (below : List Frame) (meth : Method) (c : Code) (H : Heap) (locs : List Loc) (cells slots mc ms : Nat) (g : JFrame) (rest : List Value) (Qa : State → Outcome → State → Prop) (XC : String → State → State → Prop) (free : Addr → Prop) : Prop :=
  ∀ T : State, T.heap = H → Stand p l e R s m args below meth c T locs cells slots →
    (∃ (v : Option Value) (st₀ t T' : State) (L : List Loc), st₀.heap = H ∧ Stand p l e R s m args below meth c T' (locs ++ L) (cells + mc) (slots + ms) ∧ (∀ q ∈ L, free q.base) ∧ T'.heap = t.heap ∧ T'.vm = t.vm ∧ Qa st₀ (.returned v) t ∧
      Goes p e below T g T' { g with pc := g.pc + 3, stack := v.toList ++ rest }) ∨
    (∃ (q : Addr) (st₀ t T' : State) (L : List Loc) (E : String) (ce : Cell), st₀.heap = H ∧ Stand p l e R s m args below meth c T' (locs ++ L) (cells + mc) (slots + ms) ∧ (∀ z ∈ L, free z.base) ∧ T'.heap = t.heap ∧ T'.vm = t.vm ∧ XC E st₀ t ∧ t.heap[q]? = some ce ∧ ce.vm = .none ∧ s.vm.findClass E = some ce.cls ∧
      Steps p.tables e below (T.setTop g) ((T'.setTop { g with stack := rest }).pushFrame (.throwing q)))
def vx_X {S : Type} (px : S → Prop) (B : String → S → State → Prop) (A : Nat → Prop) : String → State → State → Prop := fun E st t => ∃ u : S, px u ∧ B E u t ∧ va_F A st t
section Runs
variable {p : Program} {l : Launch} {e : Env} {R : Room} {s : State} {m : MethodId} {args : Array Value} {below : List Frame} {meth : Method} {c : Code} {H : Heap} {locs : List Loc} {cells slots : Nat}
variable {y : MethodName} {bytes cc : ByteArray} {maxL nL mc ms n index : Nat} {ret : Option FieldType} {ws : List Cond} {rm : Room} {Pc : Array Value → State → Prop} {Qc : Array Value → State → Outcome → State → Prop} {XC : String → State → State → Prop} {free : Addr → Prop} {Ts : List Cond} {own C : String} {b : Addr} {As rest : List Value} {g : JFrame}
theorem vx_callBack (cb : CallB R s args own index y bytes maxL ret ws rm mc ms n) (hM : vx_Met l y ws rm Pc Qc XC mc ms free) (hbl : FrameBlind Pc) : vx_Back l R p e below s args y 3 8 (PreOf R mc ms Pc) (PostOf Qc mc ms free) (vx_Post XC mc ms free) := by
  obtain ⟨hrc, hrs, hfr, hlo, hws, hcw, -, hini, -⟩ := cb
  exact vx_back (bytes := bytes) (maxL := maxL) (ret := ret) hM hbl hrc hrs hfr hlo hws hcw (fun a' U hW => word_at hW (Or.inl (by first | rfl | simp [Cond.onTables, Cond.keeps, Cond.steady])) hini)
theorem vx_runV (S : CallFix p m c cc nL s args Ts own) (hM : vx_Met l y ws rm Pc Qc XC mc ms free) (cw : CallW R s args own C index y bytes maxL ret ws rm mc ms n) (hp : PreV s H C b Pc As)
    (hg : g.method = m) (hn : As.length = n) (hsize : g.locals.size = nL) (hstack : g.stack = As.reverse ++ .ref b :: rest) (hW : 2 * g.monitorRoom + (rest.map fun v => v.category).sum ≤ 8) (hdg : decode cc g.pc = .ok (.invokevirtual index, 3)) (hf : cells + mc ≤ R.cells ∧ slots + ms ≤ R.slots) :
    vx_Run p l e R s m args below meth c H locs cells slots mc ms g rest (Qc (Value.ref b :: As).toArray) XC free := by
  have hK : vx_Back l R p e below s args y 3 8 (PreOf R mc ms Pc) (PostOf Qc mc ms free) (vx_Post XC mc ms free) := vx_callBack cw.1 hM hp.1
  obtain ⟨⟨-, -, -, -, -, -, hcode, -, hy, hlen, hl⟩, hin, hse⟩ := cw
  obtain ⟨hx, hb, hml, ho, -⟩ := S
  obtain ⟨-, ⟨cellB, hcB, hoB, hclB⟩, hPc⟩ := hp
  intro T hT X
  rcases vx_callV X hx (C := C) (bytes := bytes) (maxL := maxL) (ret := ret) ho hl hin hse hcode hy hK (by rw [hT]; exact hcB) hoB hclB hg (hsize.trans hml.symm) (argsL := As) (rest := rest) (fun sig h => hn.trans (hlen sig h)) hstack hW (by rw [hb]; exact hdg)
    (fun vm₁ hW₁ => ⟨hf.1, hf.2, hPc (T.setVm vm₁) hT hW₁⟩) with ⟨v, vm₁, ⟨U', l2, c2, s2⟩, hW₁, X', ⟨g', mk, t, L, e1, e2, hq, h1, hL, h2, h3⟩, st⟩ | ⟨q, vm₁, ⟨U', l2, c2, s2⟩, hW₁, X', ⟨g', mk, t, L, E, ce, e1, e2, hq, hce, hcv, hcl, h1, hL, h2, h3⟩, st⟩
  · dsimp only [Pt.U, Pt.locs, Pt.cells, Pt.slots] at X' e1 e2 h1 h2 h3 st
    subst h1; subst h2; subst h3
    exact Or.inl ⟨v, (T.setVm vm₁).calling g' mk (Value.ref b :: As).toArray, t, U', L, hT, X', hL, e1, e2, hq, st⟩
  · dsimp only [Pt.U, Pt.locs, Pt.cells, Pt.slots] at X' e1 e2 h1 h2 h3 st hcl
    subst h1; subst h2; subst h3
    exact Or.inr ⟨q, (T.setVm vm₁).calling g' mk (Value.ref b :: As).toArray, t, U', L, E, ce, hT, X', hL, e1, e2, hq, hce, hcv, vx_cls hW₁ hcl, st⟩
theorem vx_runS (S : CallFix p m c cc nL s args Ts own) (hM : vx_Met l y ws rm Pc Qc XC mc ms free) (cw : CallB R s args own index y bytes maxL ret ws rm mc ms n ∧ (Cond.static y).before args s = true) (hp : PreS s H Pc As)
    (hg : g.method = m) (hn : As.length = n) (hsize : g.locals.size = nL) (hstack : g.stack = As.reverse ++ rest) (hW : 2 * g.monitorRoom + (rest.map fun v => v.category).sum ≤ 8) (hdg : decode cc g.pc = .ok (.invokestatic index, 3)) (hf : cells + mc ≤ R.cells ∧ slots + ms ≤ R.slots) :
    vx_Run p l e R s m args below meth c H locs cells slots mc ms g rest (Qc As.toArray) XC free := by
  have hK : vx_Back l R p e below s args y 3 8 (PreOf R mc ms Pc) (PostOf Qc mc ms free) (vx_Post XC mc ms free) := vx_callBack cw.1 hM hp.1
  obtain ⟨⟨-, -, -, -, -, -, hcode, hini, hy, hlen, hl⟩, hstt⟩ := cw
  obtain ⟨hx, hb, hml, ho, -⟩ := S
  intro T hT X
  rcases vx_callS X hx (bytes := bytes) (maxL := maxL) (ret := ret) ho hl hstt hini hcode hy hK hg (hsize.trans hml.symm) (argsL := As) (rest := rest) (fun sig h => hn.trans (hlen sig h)) hstack hW (by rw [hb]; exact hdg)
    (fun vm₁ hW₁ => ⟨hf.1, hf.2, hp.2 (T.setVm vm₁) hT hW₁⟩) with ⟨v, vm₁, ⟨U', l2, c2, s2⟩, hW₁, X', ⟨g', mk, t, L, e1, e2, hq, h1, hL, h2, h3⟩, st⟩ | ⟨q, vm₁, ⟨U', l2, c2, s2⟩, hW₁, X', ⟨g', mk, t, L, E, ce, e1, e2, hq, hce, hcv, hcl, h1, hL, h2, h3⟩, st⟩
  · dsimp only [Pt.U, Pt.locs, Pt.cells, Pt.slots] at X' e1 e2 h1 h2 h3 st
    subst h1; subst h2; subst h3
    exact Or.inl ⟨v, (T.setVm vm₁).calling g' mk As.toArray, t, U', L, hT, X', hL, e1, e2, hq, st⟩
  · dsimp only [Pt.U, Pt.locs, Pt.cells, Pt.slots] at X' e1 e2 h1 h2 h3 st hcl
    subst h1; subst h2; subst h3
    exact Or.inr ⟨q, (T.setVm vm₁).calling g' mk As.toArray, t, U', L, E, ce, hT, X', hL, e1, e2, hq, hce, hcv, vx_cls hW₁ hcl, st⟩
end Runs
section Rows
variable {p : Program} {l : Launch} {e : Env} {R : Room} {s : State} {m : MethodId} {args : Array Value} {below : List Frame} {meth : Method} {c : Code} {H : Heap} {locs : List Loc} {cells slots : Nat} {Q : State → Prop}
variable {mc ms : Nat} {free : Addr → Prop} {A0 A1 : Nat → Prop} {H0 : Heap} {a : Array Value} {pc : Nat} {ls : Array Slot} {st0 rest : List Value}
theorem vx_keep {st₀ t T' : State} {L : List Loc} (h0 : st₀.heap = H) (e1 : T'.heap = t.heap) (hS : va_S A0 H0 H locs) (hA : ∀ q, q < H.size → A1 q → A0 q) (hf : ∀ q, free q → A0 q) (hL : ∀ q ∈ L, free q.base) (hF : va_F A1 st₀ t) :
    H.size ≤ T'.heap.size ∧ (∀ q : Nat, q < H.size → ¬ A1 q → T'.heap[q]? = H[q]?) ∧ va_S A0 H0 T'.heap (locs ++ L) := by
  obtain ⟨hz, hk⟩ := hF
  rw [h0] at hz hk
  exact ⟨by rw [e1]; exact hz, fun q h1 h2 => by rw [e1]; exact hk q h1 h2,
    ⟨Nat.le_trans hS.1 (by rw [e1]; exact hz), fun q h1 h2 => by rw [e1, hk q (Nat.lt_of_lt_of_le h1 hS.1) (fun z => h2 (hA q (Nat.lt_of_lt_of_le h1 hS.1) z))]; exact hS.2.1 q h1 h2, fun q hq => by
      rcases List.mem_append.mp hq with h | h
      · exact hS.2.2 q h
      · exact hf _ (hL q h)⟩⟩
theorem vx_calli {S SX : Type} {post : Int32 → S → Prop} {px : SX → Prop} {B : S → State → Prop} {BX : String → SX → State → Prop} {AX : Nat → Prop} (hr : vx_Run p l e R s m args below meth c H locs cells slots mc ms (F0 m pc ls st0) rest (va_Qi post B A1 a) (vx_X px BX AX) free) (hS : va_S A0 H0 H locs) (hA : ∀ q, q < H.size → A1 q → A0 q) (hf : ∀ q, free q → A0 q) (hAX : ∀ q, q < H.size → AX q → A0 q)
    (kx : ∀ (E : String) (ce : Cell) (q9 : Addr) (u : SX) (t : State) (H1 : Heap) (locs1 : List Loc), t.heap = H1 → s.vm.Alike t.vm → px u → BX E u t → H.size ≤ H1.size → (∀ q : Nat, q < H.size → ¬ AX q → H1[q]? = H[q]?) → va_S A0 H0 H1 locs1 → H1[q9]? = some ce → ce.vm = .none → s.vm.findClass E = some ce.cls → vx_W p l e R s m args below meth c H1 locs1 (cells + mc) (slots + ms) Q (F0 m pc ls rest) q9)
    (kk : ∀ (r : Int32) (u : S) (t : State) (H1 : Heap) (locs1 : List Loc), t.heap = H1 → s.vm.Alike t.vm → post r u → B u t → H.size ≤ H1.size → (∀ q : Nat, q < H.size → ¬ A1 q → H1[q]? = H[q]?) → va_S A0 H0 H1 locs1 → W p l e R s m args below meth c H1 locs1 (cells + mc) (slots + ms) Q (F0 m (pc + 3) ls (.int r :: rest))) : W p l e R s m args below meth c H locs cells slots Q (F0 m pc ls st0) := by
  intro T hT X
  rcases hr T hT X with ⟨v, st₀, t, T', L, h0, X', hL, e1, e2, ⟨⟨r, u, hv, hp, hb⟩, hF⟩, st⟩ | ⟨q, st₀, t, T', L, E, ce, h0, X', hL, e1, e2, ⟨u, hp, hb, hF⟩, hce, hcv, hcl, st⟩
  · cases hv
    obtain ⟨k1, k2, k3⟩ := vx_keep h0 e1 hS hA hf hL hF
    obtain ⟨t2, a1, b1⟩ := kk r u t T'.heap (locs ++ L) e1.symm (by rw [← e2]; exact X'.warmed.alike) hp hb k1 k2 k3 T' rfl X'
    exact ⟨t2, st t2 a1, b1⟩
  · obtain ⟨k1, k2, k3⟩ := vx_keep h0 e1 hS hAX hf hL hF
    obtain ⟨t2, a1, b1⟩ := kx E ce q u t T'.heap (locs ++ L) e1.symm (by rw [← e2]; exact X'.warmed.alike) hp hb k1 k2 k3 (by rw [e1]; exact hce) hcv hcl T' rfl X'
    exact ⟨t2, st.trans a1, b1⟩
theorem vx_calll {S SX : Type} {post : Int64 → S → Prop} {px : SX → Prop} {B : S → State → Prop} {BX : String → SX → State → Prop} {AX : Nat → Prop} (hr : vx_Run p l e R s m args below meth c H locs cells slots mc ms (F0 m pc ls st0) rest (va_Ql post B A1 a) (vx_X px BX AX) free) (hS : va_S A0 H0 H locs) (hA : ∀ q, q < H.size → A1 q → A0 q) (hf : ∀ q, free q → A0 q) (hAX : ∀ q, q < H.size → AX q → A0 q)
    (kx : ∀ (E : String) (ce : Cell) (q9 : Addr) (u : SX) (t : State) (H1 : Heap) (locs1 : List Loc), t.heap = H1 → s.vm.Alike t.vm → px u → BX E u t → H.size ≤ H1.size → (∀ q : Nat, q < H.size → ¬ AX q → H1[q]? = H[q]?) → va_S A0 H0 H1 locs1 → H1[q9]? = some ce → ce.vm = .none → s.vm.findClass E = some ce.cls → vx_W p l e R s m args below meth c H1 locs1 (cells + mc) (slots + ms) Q (F0 m pc ls rest) q9)
    (kk : ∀ (r : Int64) (u : S) (t : State) (H1 : Heap) (locs1 : List Loc), t.heap = H1 → s.vm.Alike t.vm → post r u → B u t → H.size ≤ H1.size → (∀ q : Nat, q < H.size → ¬ A1 q → H1[q]? = H[q]?) → va_S A0 H0 H1 locs1 → W p l e R s m args below meth c H1 locs1 (cells + mc) (slots + ms) Q (F0 m (pc + 3) ls (.long r :: rest))) : W p l e R s m args below meth c H locs cells slots Q (F0 m pc ls st0) := by
  intro T hT X
  rcases hr T hT X with ⟨v, st₀, t, T', L, h0, X', hL, e1, e2, ⟨⟨r, u, hv, hp, hb⟩, hF⟩, st⟩ | ⟨q, st₀, t, T', L, E, ce, h0, X', hL, e1, e2, ⟨u, hp, hb, hF⟩, hce, hcv, hcl, st⟩
  · cases hv
    obtain ⟨k1, k2, k3⟩ := vx_keep h0 e1 hS hA hf hL hF
    obtain ⟨t2, a1, b1⟩ := kk r u t T'.heap (locs ++ L) e1.symm (by rw [← e2]; exact X'.warmed.alike) hp hb k1 k2 k3 T' rfl X'
    exact ⟨t2, st t2 a1, b1⟩
  · obtain ⟨k1, k2, k3⟩ := vx_keep h0 e1 hS hAX hf hL hF
    obtain ⟨t2, a1, b1⟩ := kx E ce q u t T'.heap (locs ++ L) e1.symm (by rw [← e2]; exact X'.warmed.alike) hp hb k1 k2 k3 (by rw [e1]; exact hce) hcv hcl T' rfl X'
    exact ⟨t2, st.trans a1, b1⟩
theorem vx_callf {S SX : Type} {post : UInt32 → S → Prop} {px : SX → Prop} {B : S → State → Prop} {BX : String → SX → State → Prop} {AX : Nat → Prop} (hr : vx_Run p l e R s m args below meth c H locs cells slots mc ms (F0 m pc ls st0) rest (va_Qf post B A1 a) (vx_X px BX AX) free) (hS : va_S A0 H0 H locs) (hA : ∀ q, q < H.size → A1 q → A0 q) (hf : ∀ q, free q → A0 q) (hAX : ∀ q, q < H.size → AX q → A0 q)
    (kx : ∀ (E : String) (ce : Cell) (q9 : Addr) (u : SX) (t : State) (H1 : Heap) (locs1 : List Loc), t.heap = H1 → s.vm.Alike t.vm → px u → BX E u t → H.size ≤ H1.size → (∀ q : Nat, q < H.size → ¬ AX q → H1[q]? = H[q]?) → va_S A0 H0 H1 locs1 → H1[q9]? = some ce → ce.vm = .none → s.vm.findClass E = some ce.cls → vx_W p l e R s m args below meth c H1 locs1 (cells + mc) (slots + ms) Q (F0 m pc ls rest) q9)
    (kk : ∀ (r : UInt32) (u : S) (t : State) (H1 : Heap) (locs1 : List Loc), t.heap = H1 → s.vm.Alike t.vm → post r u → B u t → H.size ≤ H1.size → (∀ q : Nat, q < H.size → ¬ A1 q → H1[q]? = H[q]?) → va_S A0 H0 H1 locs1 → W p l e R s m args below meth c H1 locs1 (cells + mc) (slots + ms) Q (F0 m (pc + 3) ls (.float r :: rest))) : W p l e R s m args below meth c H locs cells slots Q (F0 m pc ls st0) := by
  intro T hT X
  rcases hr T hT X with ⟨v, st₀, t, T', L, h0, X', hL, e1, e2, ⟨⟨r, u, hv, hp, hb⟩, hF⟩, st⟩ | ⟨q, st₀, t, T', L, E, ce, h0, X', hL, e1, e2, ⟨u, hp, hb, hF⟩, hce, hcv, hcl, st⟩
  · cases hv
    obtain ⟨k1, k2, k3⟩ := vx_keep h0 e1 hS hA hf hL hF
    obtain ⟨t2, a1, b1⟩ := kk r u t T'.heap (locs ++ L) e1.symm (by rw [← e2]; exact X'.warmed.alike) hp hb k1 k2 k3 T' rfl X'
    exact ⟨t2, st t2 a1, b1⟩
  · obtain ⟨k1, k2, k3⟩ := vx_keep h0 e1 hS hAX hf hL hF
    obtain ⟨t2, a1, b1⟩ := kx E ce q u t T'.heap (locs ++ L) e1.symm (by rw [← e2]; exact X'.warmed.alike) hp hb k1 k2 k3 (by rw [e1]; exact hce) hcv hcl T' rfl X'
    exact ⟨t2, st.trans a1, b1⟩
theorem vx_calld {S SX : Type} {post : UInt64 → S → Prop} {px : SX → Prop} {B : S → State → Prop} {BX : String → SX → State → Prop} {AX : Nat → Prop} (hr : vx_Run p l e R s m args below meth c H locs cells slots mc ms (F0 m pc ls st0) rest (va_Qd post B A1 a) (vx_X px BX AX) free) (hS : va_S A0 H0 H locs) (hA : ∀ q, q < H.size → A1 q → A0 q) (hf : ∀ q, free q → A0 q) (hAX : ∀ q, q < H.size → AX q → A0 q)
    (kx : ∀ (E : String) (ce : Cell) (q9 : Addr) (u : SX) (t : State) (H1 : Heap) (locs1 : List Loc), t.heap = H1 → s.vm.Alike t.vm → px u → BX E u t → H.size ≤ H1.size → (∀ q : Nat, q < H.size → ¬ AX q → H1[q]? = H[q]?) → va_S A0 H0 H1 locs1 → H1[q9]? = some ce → ce.vm = .none → s.vm.findClass E = some ce.cls → vx_W p l e R s m args below meth c H1 locs1 (cells + mc) (slots + ms) Q (F0 m pc ls rest) q9)
    (kk : ∀ (r : UInt64) (u : S) (t : State) (H1 : Heap) (locs1 : List Loc), t.heap = H1 → s.vm.Alike t.vm → post r u → B u t → H.size ≤ H1.size → (∀ q : Nat, q < H.size → ¬ A1 q → H1[q]? = H[q]?) → va_S A0 H0 H1 locs1 → W p l e R s m args below meth c H1 locs1 (cells + mc) (slots + ms) Q (F0 m (pc + 3) ls (.double r :: rest))) : W p l e R s m args below meth c H locs cells slots Q (F0 m pc ls st0) := by
  intro T hT X
  rcases hr T hT X with ⟨v, st₀, t, T', L, h0, X', hL, e1, e2, ⟨⟨r, u, hv, hp, hb⟩, hF⟩, st⟩ | ⟨q, st₀, t, T', L, E, ce, h0, X', hL, e1, e2, ⟨u, hp, hb, hF⟩, hce, hcv, hcl, st⟩
  · cases hv
    obtain ⟨k1, k2, k3⟩ := vx_keep h0 e1 hS hA hf hL hF
    obtain ⟨t2, a1, b1⟩ := kk r u t T'.heap (locs ++ L) e1.symm (by rw [← e2]; exact X'.warmed.alike) hp hb k1 k2 k3 T' rfl X'
    exact ⟨t2, st t2 a1, b1⟩
  · obtain ⟨k1, k2, k3⟩ := vx_keep h0 e1 hS hAX hf hL hF
    obtain ⟨t2, a1, b1⟩ := kx E ce q u t T'.heap (locs ++ L) e1.symm (by rw [← e2]; exact X'.warmed.alike) hp hb k1 k2 k3 (by rw [e1]; exact hce) hcv hcl T' rfl X'
    exact ⟨t2, st.trans a1, b1⟩
theorem vx_callv {S SX : Type} {post : S → Prop} {px : SX → Prop} {B : S → State → Prop} {BX : String → SX → State → Prop} {AX : Nat → Prop} (hr : vx_Run p l e R s m args below meth c H locs cells slots mc ms (F0 m pc ls st0) rest (va_Qv post B A1 a) (vx_X px BX AX) free) (hS : va_S A0 H0 H locs) (hA : ∀ q, q < H.size → A1 q → A0 q) (hf : ∀ q, free q → A0 q) (hAX : ∀ q, q < H.size → AX q → A0 q)
    (kx : ∀ (E : String) (ce : Cell) (q9 : Addr) (u : SX) (t : State) (H1 : Heap) (locs1 : List Loc), t.heap = H1 → s.vm.Alike t.vm → px u → BX E u t → H.size ≤ H1.size → (∀ q : Nat, q < H.size → ¬ AX q → H1[q]? = H[q]?) → va_S A0 H0 H1 locs1 → H1[q9]? = some ce → ce.vm = .none → s.vm.findClass E = some ce.cls → vx_W p l e R s m args below meth c H1 locs1 (cells + mc) (slots + ms) Q (F0 m pc ls rest) q9)
    (kk : ∀ (u : S) (t : State) (H1 : Heap) (locs1 : List Loc), t.heap = H1 → s.vm.Alike t.vm → post u → B u t → H.size ≤ H1.size → (∀ q : Nat, q < H.size → ¬ A1 q → H1[q]? = H[q]?) → va_S A0 H0 H1 locs1 → W p l e R s m args below meth c H1 locs1 (cells + mc) (slots + ms) Q (F0 m (pc + 3) ls (rest))) : W p l e R s m args below meth c H locs cells slots Q (F0 m pc ls st0) := by
  intro T hT X
  rcases hr T hT X with ⟨v, st₀, t, T', L, h0, X', hL, e1, e2, ⟨⟨u, hv, hp, hb⟩, hF⟩, st⟩ | ⟨q, st₀, t, T', L, E, ce, h0, X', hL, e1, e2, ⟨u, hp, hb, hF⟩, hce, hcv, hcl, st⟩
  · cases hv
    obtain ⟨k1, k2, k3⟩ := vx_keep h0 e1 hS hA hf hL hF
    obtain ⟨t2, a1, b1⟩ := kk u t T'.heap (locs ++ L) e1.symm (by rw [← e2]; exact X'.warmed.alike) hp hb k1 k2 k3 T' rfl X'
    exact ⟨t2, st t2 a1, b1⟩
  · obtain ⟨k1, k2, k3⟩ := vx_keep h0 e1 hS hAX hf hL hF
    obtain ⟨t2, a1, b1⟩ := kx E ce q u t T'.heap (locs ++ L) e1.symm (by rw [← e2]; exact X'.warmed.alike) hp hb k1 k2 k3 (by rw [e1]; exact hce) hcv hcl T' rfl X'
    exact ⟨t2, st.trans a1, b1⟩
/-- caught by the row x of this method's table; the rows ahead don't take it -/
theorem vx_catch {own name : String} {E : String} {ce : Cell} {q : Addr} (hown : s.vm.findClass own = some m.cls) (pre : List ExceptionTableEntry) (x : ExceptionTableEntry) (suf : List ExceptionTableEntry) (hsplit : c.exceptionTable.toList = pre ++ x :: suf)
    (hpass : ∀ z ∈ pre, covers z pc = false ∨ (z.catchType ≠ 0 ∧ ∃ nm : String, (Cond.classLink own z.catchType nm).before args s = true ∧ va_Nc E nm s)) (hx : covers x pc = true) (h0 : x.catchType ≠ 0)
    (hlink : (Cond.classLink own x.catchType name).before args s = true) (hcast : (Cond.castable E name).before args s = true) (hcell : H[q]? = some ce) (hv : ce.vm = .none) (hcl : s.vm.findClass E = some ce.cls)
    (kk : W p l e R s m args below meth c H locs cells slots Q (F0 m x.handlerPc ls [.ref q])) : vx_W p l e R s m args below meth c H locs cells slots Q (F0 m pc ls rest) q := by
  intro T hT X
  have hpl : e.platform.magicAccessors = ({} : Platform).magicAccessors := by rw [X.admits.platform]
  obtain ⟨c3, c4, hc3, hc4, hasg⟩ := Cond.castable_spec hcast
  cases Option.some.inj (hc3.symm.trans hcl)
  obtain ⟨c5, hc5, hcl5⟩ := Cond.classLink_spec hown hlink e.platform hpl
  cases Option.some.inj (hc4.symm.trans hc5)
  obtain ⟨vm', X', st⟩ := X.thenCaughtThrough q (g := F0 m pc ls rest) rfl (Steps.refl _) (by rw [hT]; exact hcell) (by rw [hv]; rfl) (by obtain ⟨k9, h9, -⟩ := Vm.findClass_spec hcl; exact ⟨k9, h9⟩) pre x suf hsplit
    (fun z hz => by
      rcases hpass z hz with h | ⟨hz0, nm, hl1, hn1⟩
      · exact Or.inl h
      · obtain ⟨c6, hc6, hcl6⟩ := Cond.classLink_spec hown hl1 e.platform hpl
        obtain ⟨a8, b8, h1, h2, h3⟩ := hn1
        cases Option.some.inj (h1.symm.trans hcl)
        cases Option.some.inj (h2.symm.trans hc6)
        exact Or.inr ⟨hz0, _, hcl6, h3⟩) hx (Or.inr ⟨h0, c4, hcl5, hasg⟩)
  obtain ⟨t, a1, b1⟩ := kk (T.setVm vm') hT X'
  exact ⟨t, st.trans a1, b1⟩
end Rows
section Ends
variable {p : Program} {l : Launch} {e : Env} {R : Room} {s : State} {m : MethodId} {args : Array Value} {below : List Frame} {meth : Method} {c : Code} {H : Heap} {locs : List Loc} {cells slots : Nat} {Q : State → Prop}
variable {mc ms : Nat} {free : Addr → Prop} {A0 A1 : Nat → Prop} {H0 : Heap} {a : Array Value} {ls : Array Slot} {st0 rest : List Value}
variable {Qc : Array Value → State → Outcome → State → Prop} {XC : String → State → State → Prop}
/-- what a body that may throw owes at its end -/
def vx_MQ (below : List Frame) (Qc : Array Value → State → Outcome → State → Prop) (XC : String → State → State → Prop) (a : Array Value) (s : State) (mc ms : Nat) (free : Addr → Prop) : State → Prop := fun t =>
  ∃ o, t.status = .running ∧ Ended t below o ∧ vx_Q Qc XC mc ms free a s o t
theorem vx_ret {g : JFrame} {mc ms : Nat} (k : W p l e R s m args below meth c H locs cells slots (MQ below Qc args s mc ms free) g) : W p l e R s m args below meth c H locs cells slots (vx_MQ below Qc XC args s mc ms free) g := by
  intro T hT X
  obtain ⟨t, a1, o, b1, b2, b3, b4⟩ := k T hT X
  exact ⟨t, a1, o, b1, b2, Or.inl ⟨b3, b4⟩⟩
/-- not caught here: it goes on to the caller -/
theorem vx_widen {g : JFrame} {q : Addr} {k n : Nat} (h1 : cells ≤ k) (h2 : slots ≤ n) (kk : vx_W p l e R s m args below meth c H locs k n Q g q) : vx_W p l e R s m args below meth c H locs cells slots Q g q := fun T hT X => kk T hT (stand_widen X h1 h2)
theorem vx_out {pc : Nat} {E : String} {ce : Cell} {q : Addr} {mc ms : Nat} (hout : ∀ x ∈ c.exceptionTable.toList, covers x pc = false) (hlocks : meth.locks = false) (hcell : H[q]? = some ce) (hv : ce.vm = .none) (hcl : s.vm.findClass E = some ce.cls)
    (hx : ∀ t : State, t.heap = H → s.vm.Alike t.vm → XC E s t) (hf : ∀ z ∈ locs, free z.base) (hc : cells ≤ mc) (hs : slots ≤ ms) :
    vx_W p l e R s m args below meth c H locs cells slots (vx_MQ below Qc XC args s mc ms free) (F0 m pc ls rest) q := by
  intro T hT X
  obtain ⟨st1, hrun, hend, hW, hsm⟩ := X.leaveThrown q (g := F0 m pc ls rest) rfl rfl rfl hout hlocks
  have hcell9 : (T.setFrames (.throwing q :: below)).heap[q]? = some ce := by
    show T.heap[q]? = some ce
    rw [hT]; exact hcell
  exact ⟨_, st1, .threw q, hrun, hend, Or.inr ⟨q, rfl, E, ce, locs, hx _ hT hW.alike, hcell9, hv, hcl, hW, hsm.mono hc hs, hf⟩⟩
theorem vx_frame {U : State} {k n : Nat} (h : s.sameButNew ({ U with vm := s.vm } : State) locs k n) : s.heap.size ≤ U.heap.size ∧ ∀ q : Nat, q < s.heap.size → (∀ z ∈ locs, z.base ≠ q) → U.heap[q]? = s.heap[q]? := by
  obtain ⟨-, h2, -, -, -, h6⟩ := h
  refine ⟨h2, fun q hq hz => ?_⟩
  obtain ⟨c9, e1, e2, e3, e4⟩ := h6 q _ (Array.getElem?_eq_getElem hq)
  have hs : c9.slots = (s.heap[q]).slots := Array.ext_getElem? fun i => e4 i fun hm => hz _ hm rfl
  have h9 : c9 = s.heap[q] := by
    rw [hs] at e2
    exact e2
  have e5 : U.heap[q]? = some c9 := e1
  rw [e5, h9, Array.getElem?_eq_getElem hq]
/-- the words of a throw but the four that speak of the heap -/
def vx_no (w : Cond) : Bool := decide (w ≠ .isRef (.static Bundle.tN "UNASSIGNED_STACK" Bundle.steD)) && decide (w ≠ .isRef (.static Bundle.tN "SUPPRESSED_SENTINEL" Bundle.listD)) && decide (w ≠ .laysStatic Bundle.tN "UNASSIGNED_STACK" Bundle.steD) && decide (w ≠ .laysStatic Bundle.tN "SUPPRESSED_SENTINEL" Bundle.listD)
def vx_at0 (own : String) (ic : Nat) (X : String) (names : List String) : List Cond := (Bundle.ownAtoms0 own ic X names).filter vx_no
def vx_atS (own : String) (ic : Nat) (X : String) (names : List String) : List Cond := (Bundle.ownAtoms own ic X names).filter vx_no
/-- a word that the tables alone decide, or a good one -/
def vx_ot (w : Cond) : Bool := w.onTables || goodWord w
theorem vx_ot_at {args a' : Array Value} {s U : State} {w : Cond} (hW : s.WarmedH U.vm) (hvm : s.vm = U.vm) (hg : vx_ot w = true) (h : w.before args s = true) : w.before a' U = true := by
  simp only [vx_ot, Bool.or_eq_true] at hg
  rcases hg with hg | hg
  · exact va_tabs hg hvm h
  · exact word_at hW (good_of_word hg) h
/-- a list's words: the good ones out of the method's own list, the others by premises of their own -/
theorem vx_hat {args : Array Value} {s : State} {L B : List Cond} (h1 : ∀ w ∈ L.filter goodWord, w.before args s = true) (h2 : ∀ w ∈ L.filter (fun w => !goodWord w), w ∈ B) (h3 : ∀ w ∈ B, w.before args s = true) : ∀ w ∈ L, w.before args s = true := by
  intro w hw
  by_cases g : goodWord w = true
  · exact h1 w (List.mem_filter.mpr ⟨hw, g⟩)
  · refine h3 w (h2 w (List.mem_filter.mpr ⟨hw, ?_⟩))
    show (!goodWord w) = true
    cases hgw : goodWord w
    · rfl
    · exact absurd hgw g
theorem vx_c {args : Array Value} {s : State} {w : Cond} {B : List Cond} (h : w.before args s = true) (t : ∀ w ∈ B, w.before args s = true) : ∀ w' ∈ w :: B, w'.before args s = true := fun w' h' => (List.mem_cons.mp h').elim (fun e => by rw [e]; exact h) (t w')
theorem vx_n {args : Array Value} {s : State} : ∀ w ∈ ([] : List Cond), w.before args s = true := fun _ h => nomatch h
theorem vx_own {args : Array Value} {s : State} {L : List Cond} (h1 : ∀ w ∈ L.filter vx_no, w.before args s = true)
    (hU : (Cond.isRef (.static Bundle.tN "UNASSIGNED_STACK" Bundle.steD)).before args s = true) (hN : (Cond.isRef (.static Bundle.tN "SUPPRESSED_SENTINEL" Bundle.listD)).before args s = true)
    (lU : (Cond.laysStatic Bundle.tN "UNASSIGNED_STACK" Bundle.steD).before args s = true) (lN : (Cond.laysStatic Bundle.tN "SUPPRESSED_SENTINEL" Bundle.listD).before args s = true) : ∀ w ∈ L, w.before args s = true := by
  intro w hw
  by_cases e1 : w = .isRef (.static Bundle.tN "UNASSIGNED_STACK" Bundle.steD)
  · rw [e1]; exact hU
  · by_cases e2 : w = .isRef (.static Bundle.tN "SUPPRESSED_SENTINEL" Bundle.listD)
    · rw [e2]; exact hN
    · by_cases e3 : w = .laysStatic Bundle.tN "UNASSIGNED_STACK" Bundle.steD
      · rw [e3]; exact lU
      · by_cases e4 : w = .laysStatic Bundle.tN "SUPPRESSED_SENTINEL" Bundle.listD
        · rw [e4]; exact lN
        · exact h1 w (List.mem_filter.mpr ⟨hw, by unfold vx_no; rw [decide_eq_true e1, decide_eq_true e2, decide_eq_true e3, decide_eq_true e4]; rfl⟩)
/-- where a static field lies, its class's statics cell in H -/
def vx_L (C n d : String) (A : Nat → Prop) (U : State) (H : Heap) : Prop := ∃ (c : ClassId) (k : Class) (i : Nat) (f : Field) (a : Nat) (cell : Cell), U.vm.findClass C = some c ∧ U.fieldFound? C n d = some (c, k, i, f) ∧ f.isStatic = true ∧ k.statics = some a ∧ H[a]? = some cell ∧ cell.vm.isStatics = true ∧ cell.cls = c ∧ f.slot < cell.slots.size ∧ k.staticTypes[f.slot]? = some f.type ∧ ¬ A a
theorem vx_L.moved {C n d : String} {A : Nat → Prop} {u U : State} {H : Heap} (hvm : u.vm.Alike U.vm) (h : vx_L C n d A u H) : vx_L C n d A U H := by
  obtain ⟨c, k, i, f, a, cell, h1, h2, h3, h4, h5, h6, h7, h8, h9, h10⟩ := h
  obtain ⟨k', hi', he⟩ := State.fieldFound?_setVm hvm h2
  exact ⟨c, k', i, f, a, cell, by rw [hvm.findClass]; exact h1, hi', h3, by rw [he]; exact h4, h5, h6, h7, h8, by rw [he]; exact h9, h10⟩
theorem vx_L.kept {C n d : String} {A : Nat → Prop} {U : State} {H H1 : Heap} (h : vx_L C n d A U H) (hq : ∀ a : Nat, a < H.size → ¬ A a → H1[a]? = H[a]?) : vx_L C n d A U H1 := by
  obtain ⟨c, k, i, f, a, cell, h1, h2, h3, h4, h5, h6, h7, h8, h9, h10⟩ := h
  exact ⟨c, k, i, f, a, cell, h1, h2, h3, h4, by rw [hq a (Array.getElem?_eq_some_iff.mp h5).1 h10]; exact h5, h6, h7, h8, h9, h10⟩
theorem vx_L.narrow {C n d : String} {A B : Nat → Prop} {U : State} {H : Heap} (h : vx_L C n d A U H) (hAB : ∀ q, B q → A q) : vx_L C n d B U H := by
  obtain ⟨c, k, i, f, a, cell, h1, h2, h3, h4, h5, h6, h7, h8, h9, h10⟩ := h
  exact ⟨c, k, i, f, a, cell, h1, h2, h3, h4, h5, h6, h7, h8, h9, fun z => h10 (hAB _ z)⟩
theorem vx_L.word {C n d : String} {A : Nat → Prop} {s : State} {args : Array Value} (h : vx_L C n d A s s.heap) : (Cond.laysStatic C n d).before args s = true := by
  obtain ⟨c, k, i, f, a, cell, h1, h2, h3, h4, h5, h6, h7, h8, h9, -⟩ := h
  show (Cond.laysStatic C n d).holds args s none s [] = true
  exact Cond.laysStatic_of h1 h2 h3 h4 h5 h6 h7 h8 h9
/-- .. and what it holds: null or some reference -/
def vx_Zq (C n d : String) (A : Nat → Prop) (U : State) (H : Heap) : Prop := va_Zq C n d A U H ∧ vx_L C n d A U H
theorem vx_Zq.moved {C n d : String} {A : Nat → Prop} {u U : State} {H : Heap} (hvm : u.vm.Alike U.vm) (h : vx_Zq C n d A u H) : vx_Zq C n d A U H := ⟨va_Zq.moved hvm h.1, vx_L.moved hvm h.2⟩
theorem vx_Zq.kept {C n d : String} {A : Nat → Prop} {U : State} {H H1 : Heap} (h : vx_Zq C n d A U H) (hq : ∀ a : Nat, a < H.size → ¬ A a → H1[a]? = H[a]?) : vx_Zq C n d A U H1 := ⟨va_Zq.kept h.1 hq, vx_L.kept h.2 hq⟩
theorem vx_Zq.narrow {C n d : String} {A B : Nat → Prop} {U : State} {H : Heap} (h : vx_Zq C n d A U H) (hAB : ∀ q, B q → A q) : vx_Zq C n d B U H := ⟨va_Zq.narrow h.1 hAB, vx_L.narrow h.2 hAB⟩
theorem vx_Zqof {args : Array Value} {s : State} {C n d : String} {A : Nat → Prop} (hl : (Cond.laysStatic C n d).before args s = true) (hini : (Cond.initialized C).before args s = true) (h : (Cond.isRef (.static C n d)).before args s = true) (hA : ∀ a : Nat, a < s.heap.size → ¬ A a) : vx_Zq C n d A s s.heap := by
  refine ⟨va_Zqof hl hini h hA, ?_⟩
  obtain ⟨c, k, i, f, a, cell, h1, h2, h3, h4, h5, h6, h7, h8, h9⟩ := Cond.laysStatic_spec hl
  exact ⟨c, k, i, f, a, cell, h1, h2, h3, h4, h5, h6, h7, h8, h9, hA a (Array.getElem?_eq_some_iff.mp h5).1⟩
theorem vx_isRef {C n d : String} {v : Value} {A : Nat → Prop} {s : State} {args : Array Value} (h : va_Z C n d v A s s.heap) (hv : v.isRef = true) : (Cond.isRef (.static C n d)).before args s = true := by
  obtain ⟨cf, kf, fi, f, a, cell, h1, h2, h3, h4, h5, h6, h7, -⟩ := h
  have he : (Term.static C n d).eval args s none [] s = some v := by
    simp [Term.eval, State.fieldNamed?, h1, h2, h4, h5, h6, h7]
  simp only [Cond.before, Cond.holds, Cond.value, he]
  cases v <;> simp_all [Value.isRef]
theorem vx_isRefq {C n d : String} {A : Nat → Prop} {s : State} {args : Array Value} (h : va_Zq C n d A s s.heap) : (Cond.isRef (.static C n d)).before args s = true := by
  rcases h with h | ⟨t, h⟩
  · exact vx_isRef h rfl
  · exact vx_isRef h rfl
/-- the same frame, seen from here: as if the method were called anew in this heap -/
theorem vx_rebase {T : State} (X : Stand p l e R s m args below meth c T locs cells slots) {R' : Room} (hf : R'.frames ≤ R.frames) (hl : R'.locals ≤ R.locals) (hc : cells + R'.cells ≤ R.cells) (hs : slots + R'.slots ≤ R.slots) :
    Stand p l e R' ((T.setVm s.vm).setFrames (.invoking m args :: below)) m args below meth c T [] 0 0 := by
  have htop : (T.setVm s.vm).topJava?.isSome := X.here.top
  have hF : ((T.setVm s.vm).setFrames (.invoking m args :: below)).frames = .invoking m args :: below := State.frames_setFrames _ (State.cur_lt_of_top htop)
  obtain ⟨g₀, hg0⟩ := Option.isSome_iff_exists.mp htop
  obtain ⟨r, hr⟩ := State.topJava?_eq_some.mp hg0
  have hl9 : e.platform.stackLimits (T.setVm s.vm).me = e.platform.stackLimits s.me := X.limits
  have hb9 : (T.setVm s.vm).me.stackBytes = s.me.stackBytes := X.bytes
  refine ⟨X.admits, X.cas, X.clock, hF, ?_, X.hears, X.method, X.code, X.here, X.tail, X.warmed, ?_, ?_, ?_⟩
  · have h := X.room
    have hU : ((T.setVm s.vm).setFrames (.invoking m args :: below)).localsInUse = s.localsInUse := by
      rw [State.localsInUse_invoking hF (meth := meth) (c := c) X.method X.code, State.localsInUse_invoking X.frames X.method X.code]
    simp only [State.hasRoom, Bool.and_eq_true, decide_eq_true_eq] at h ⊢
    obtain ⟨⟨⟨⟨h1, h2, h3, h4, h5, h6⟩, h7⟩, h8⟩, h9⟩ := h
    rw [X.frames, List.length_cons] at h2 h3
    have q1 := X.heapSize
    have q2 := X.used
    simp only [hF, hU, List.length_cons, State.stackLimits_setFrames, State.stackBytes_setFrames, hl9, hb9]
    refine ⟨⟨⟨⟨by omega, by omega, by omega, by omega, by omega, h6⟩, ?_⟩, ?_⟩, X.book⟩
    · show T.heap.size + R'.cells ≤ e.platform.maxCells
      omega
    · show T.slotsUsed + R'.slots ≤ e.platform.maxSlots
      omega
  · rw [State.stackLimits_setFrames]; rfl
  · rw [State.stackBytes_setFrames]; rfl
  · refine ⟨?_, Nat.le_refl _, Nat.le_refl _, ?_, ?_, fun a c9 h9 => ⟨c9, h9, rfl, rfl, fun _ _ => rfl⟩⟩
    · obtain ⟨t, ht, -⟩ := State.frames_cons hr
      show T.setVm s.vm = { ((T.setVm s.vm).setFrames (.invoking m args :: below)).setFrames (T.setVm s.vm).frames with heap := T.heap, slotsUsed := T.slotsUsed }
      rw [State.setFrames_setFrames, State.setFrames_self ht]
      rfl
    · show T.slotsUsed = T.slotsUsed + ((T.heap.toList.drop T.heap.size).map (·.slots.size)).sum
      rw [List.drop_eq_nil_of_le (Nat.le_of_eq Array.length_toList)]
      rfl
    · show ((T.heap.toList.drop T.heap.size).map (·.slots.size)).sum ≤ 0
      rw [List.drop_eq_nil_of_le (Nat.le_of_eq Array.length_toList)]
      exact Nat.le_refl _
/-- 'throw new E()': new; dup; invokespecial; athrow -/
theorem vx_throw0 {cc : ByteArray} {pc : Nat} (hexec : p.tables.exec = Jvm.exec) (hb : c.code = cc) (hl : l.stackTraces = false) {own cls : String} {names : List String} {ik ic mc ms : Nat} {A : Nat → Prop}
    (hown : s.vm.findClass own = some m.cls) (hcls : Bundle.fit cls = true) (hnames : ∀ n ∈ names, Bundle.fit n = true)
    (hk : (Cond.classLink own ik cls).before args s = true) (hini : (Cond.initialized cls).before args s = true) (hat : ∀ w ∈ vx_at0 own ic cls names, w.before args s = true)
    (hgood : ∀ w ∈ Cond.classLink own ik cls :: Cond.initialized cls :: vx_at0 own ic cls names, vx_ot w = true)
    (hU : vx_Zq Bundle.tN "UNASSIGNED_STACK" Bundle.steD A s s.heap) (hN : vx_Zq Bundle.tN "SUPPRESSED_SENTINEL" Bundle.listD A s s.heap) (hS : va_S A s.heap H locs) (hsize : ls.size = c.maxLocals)
    (d0 : decode cc pc = .ok (.new ik, 3)) (d3 : decode cc (pc + 3) = .ok (.dup, 1)) (d4 : decode cc (pc + 4) = .ok (.invokespecial ic, 3)) (d7 : decode cc (pc + 7) = .ok (.athrow, 1))
    (hout : ∀ x ∈ c.exceptionTable.toList, covers x (pc + 7) = false)
    (hRframes : names.length + 3 < R.frames) (hRlocals : (rest.map fun v => v.category).sum + (13 * (names.length + 1) + 42) ≤ R.locals) (hRcells : cells + 1 ≤ R.cells) (hRslots : slots + 6 ≤ R.slots) (hlocks : meth.locks = false)
    (hx : ∀ t : State, s.vm.Alike t.vm → H.size ≤ t.heap.size → (∀ q : Nat, q < H.size → t.heap[q]? = H[q]?) → XC cls s t)
    (hf : ∀ z ∈ locs, free z.base) (hc : cells + 1 ≤ mc) (hs : slots + 6 ≤ ms) :
    W p l e R s m args below meth c H locs cells slots (vx_MQ below Qc XC args s mc ms free) (F0 m pc ls rest) := by
  intro T hT X
  have htr : e.platform.stackTraces = false := (show e.platform.stackTraces = l.stackTraces by rw [X.admits.platform]).trans hl
  have Y := vx_rebase X (R' := { frames := R.frames, locals := R.locals, cells := 1, slots := 6 }) (Nat.le_refl _) (Nat.le_refl _) hRcells hRslots
  obtain ⟨s', hA⟩ : ∃ z, z = (T.setVm s.vm).setFrames (.invoking m args :: below) := ⟨_, rfl⟩
  rw [← hA] at Y
  have hvm : s'.vm = s.vm := by rw [hA]; rfl
  have hhp : s'.heap = H := by rw [hA]; exact hT
  have hW0 : s.WarmedH s'.vm := by rw [hvm]; exact State.WarmedH.refl s
  have hat' : ∀ w ∈ vx_at0 own ic cls names, w.before args s' = true := fun w hw => vx_ot_at hW0 hvm.symm (hgood w (List.mem_cons_of_mem _ (List.mem_cons_of_mem _ hw))) (hat w hw)
  have hk' : (Cond.classLink own ik cls).before args s' = true := vx_ot_at hW0 hvm.symm (hgood _ List.mem_cons_self) hk
  have hini' : (Cond.initialized cls).before args s' = true := vx_ot_at hW0 hvm.symm (hgood _ (List.mem_cons_of_mem _ List.mem_cons_self)) hini
  have hU' : vx_Zq Bundle.tN "UNASSIGNED_STACK" Bundle.steD A s' s'.heap := by rw [hhp]; exact vx_Zq.moved hW0.alike (hU.kept hS.2.1)
  have hN' : vx_Zq Bundle.tN "SUPPRESSED_SENTINEL" Bundle.listD A s' s'.heap := by rw [hhp]; exact vx_Zq.moved hW0.alike (hN.kept hS.2.1)
  have h : ∀ w ∈ Bundle.ownAtoms0 own ic cls names, w.before args s' = true := vx_own hat' (vx_isRefq hU'.1) (vx_isRefq hN'.1) hU'.2.word hN'.2.word
  have hown' : s'.vm.findClass own = some m.cls := by rw [hvm]; exact hown
  have hins : (Cond.instantiable cls 6).before args s' = true := h _ (by simp [Bundle.ownAtoms0])
  obtain ⟨vm₁, cX, kX, hfX, hkX, -, -, X₁, st1⟩ := Y.newCold hexec (own := own) (C := cls) (index := ik) (n := 6) hown' hk' hins hini'
    (g := F0 m pc ls rest) rfl (by rw [hb]; exact d0) (Nat.le_refl _) (Nat.le_refl _)
  generalize hT1 : (T.setVm vm₁).pushCell { cls := cX, slots := kX.instanceTypes.map defaultValue, vm := .none } = T1 at X₁ st1
  have hcat : (Value.ref T.heap.size).category = 1 := rfl
  have hcellA : T1.heap[T.heap.size]? = some (freshCell cX kX) := by rw [← hT1]; exact State.heap_pushCell_size _ _
  have d3' : decode c.code (pc + 3) = .ok (.dup, 1) := by rw [hb]; exact d3
  obtain ⟨U, hsteps, hrun, hend, hW, hsame, ce, hce, hO⟩ := X₁.ctorThrow0 hexec htr (own := own) (cls := cls) (names := names) (ic := ic) hown' hcls hnames h (fun x hx => nomatch hx) hfX hkX hcellA (by rw [hhp, hT]; exact Nat.le_refl _)
    (g := { method := m, pc := pc + 4, locals := ls, stack := .ref T.heap.size :: .ref T.heap.size :: rest, locked := none }) rfl hsize rfl rfl (rest := rest) rfl
    (by rw [hb]; exact d4) (by rw [hb]; exact d7) hout hRframes (by simp only [List.map_cons, List.sum_cons, hcat]; omega) hlocks
  obtain ⟨f1, f2⟩ := vx_frame hsame
  rw [hhp] at f1 f2
  have hWs : s.WarmedH U.vm := State.WarmedH.trans hW0 hW
  have hcl : s.vm.findClass cls = some ce.cls := by
    have h9 := hO.cls
    rw [hvm] at h9
    exact h9
  have hall : s.sameButNew ({ U with vm := s.vm } : State) locs mc ms := by
    subst hA
    obtain ⟨e1, e2⟩ := hsame
    rw [State.setFrames_setFrames] at e1
    have h2 : (T.setVm s.vm).sameButNew ({ U with vm := s.vm } : State) [] (0 + 1) (0 + 6) := ⟨e1, e2⟩
    have h3 := X.same.trans h2
    rw [List.append_nil] at h3
    exact h3.mono hc hs
  refine ⟨U, ?_, .threw T.heap.size, hrun, hend, Or.inr ⟨T.heap.size, rfl, cls, ce, locs, hx U hWs.alike f1 (fun q hq => f2 q hq (fun z hz => nomatch hz)), hce, hO.vm, hcl, hWs, hall, hf⟩⟩
  refine st1 _ ?_
  show Steps p.tables e below (T1.setTop { method := m, pc := pc + 3, locals := ls, stack := .ref T.heap.size :: rest, locked := none }) _
  jvm_step X₁.here [X₁.here.top, hexec, d3', Value.category]
  exact hsteps
/-- 'throw new E("text")': new; dup; ldc; invokespecial; athrow -/
theorem vx_throwS {cc : ByteArray} {pc : Nat} (hexec : p.tables.exec = Jvm.exec) (hb : c.code = cc) (hl : l.stackTraces = false) {own cls text : String} {names : List String} {ik is ic mc ms sa : Nat} {A : Nat → Prop}
    (hown : s.vm.findClass own = some m.cls) (hcls : Bundle.fit cls = true) (hnames : ∀ n ∈ names, Bundle.fit n = true)
    (hk : (Cond.classLink own ik cls).before args s = true) (hini : (Cond.initialized cls).before args s = true) (hstr : vk_R own is text sa s) (hat : ∀ w ∈ vx_atS own ic cls names, w.before args s = true)
    (hgood : ∀ w ∈ Cond.classLink own ik cls :: Cond.initialized cls :: vx_atS own ic cls names, vx_ot w = true)
    (hU : vx_Zq Bundle.tN "UNASSIGNED_STACK" Bundle.steD A s s.heap) (hN : vx_Zq Bundle.tN "SUPPRESSED_SENTINEL" Bundle.listD A s s.heap) (hS : va_S A s.heap H locs) (hsize : ls.size = c.maxLocals)
    (d0 : decode cc pc = .ok (.new ik, 3)) (d3 : decode cc (pc + 3) = .ok (.dup, 1)) (d4 : decode cc (pc + 4) = .ok (.ldc is, 2)) (d6 : decode cc (pc + 6) = .ok (.invokespecial ic, 3)) (d9 : decode cc (pc + 9) = .ok (.athrow, 1))
    (hout : ∀ x ∈ c.exceptionTable.toList, covers x (pc + 9) = false)
    (hRframes : names.length + 3 < R.frames) (hRlocals : (rest.map fun v => v.category).sum + (13 * (names.length + 1) + 43) ≤ R.locals) (hRcells : cells + 1 ≤ R.cells) (hRslots : slots + 6 ≤ R.slots) (hlocks : meth.locks = false)
    (hx : ∀ t : State, s.vm.Alike t.vm → H.size ≤ t.heap.size → (∀ q : Nat, q < H.size → t.heap[q]? = H[q]?) → XC cls s t)
    (hf : ∀ z ∈ locs, free z.base) (hc : cells + 1 ≤ mc) (hs : slots + 6 ≤ ms) :
    W p l e R s m args below meth c H locs cells slots (vx_MQ below Qc XC args s mc ms free) (F0 m pc ls rest) := by
  intro T hT X
  have htr : e.platform.stackTraces = false := (show e.platform.stackTraces = l.stackTraces by rw [X.admits.platform]).trans hl
  have Y := vx_rebase X (R' := { frames := R.frames, locals := R.locals, cells := 1, slots := 6 }) (Nat.le_refl _) (Nat.le_refl _) hRcells hRslots
  obtain ⟨s', hA⟩ : ∃ z, z = (T.setVm s.vm).setFrames (.invoking m args :: below) := ⟨_, rfl⟩
  rw [← hA] at Y
  have hvm : s'.vm = s.vm := by rw [hA]; rfl
  have hhp : s'.heap = H := by rw [hA]; exact hT
  have hW0 : s.WarmedH s'.vm := by rw [hvm]; exact State.WarmedH.refl s
  have hat' : ∀ w ∈ vx_atS own ic cls names, w.before args s' = true := fun w hw => vx_ot_at hW0 hvm.symm (hgood w (List.mem_cons_of_mem _ (List.mem_cons_of_mem _ hw))) (hat w hw)
  have hk' : (Cond.classLink own ik cls).before args s' = true := vx_ot_at hW0 hvm.symm (hgood _ List.mem_cons_self) hk
  have hini' : (Cond.initialized cls).before args s' = true := vx_ot_at hW0 hvm.symm (hgood _ (List.mem_cons_of_mem _ List.mem_cons_self)) hini
  have hU' : vx_Zq Bundle.tN "UNASSIGNED_STACK" Bundle.steD A s' s'.heap := by rw [hhp]; exact vx_Zq.moved hW0.alike (hU.kept hS.2.1)
  have hN' : vx_Zq Bundle.tN "SUPPRESSED_SENTINEL" Bundle.listD A s' s'.heap := by rw [hhp]; exact vx_Zq.moved hW0.alike (hN.kept hS.2.1)
  have h : ∀ w ∈ Bundle.ownAtoms own ic cls names, w.before args s' = true := vx_own hat' (vx_isRefq hU'.1) (vx_isRefq hN'.1) hU'.2.word hN'.2.word
  have hown' : s'.vm.findClass own = some m.cls := by rw [hvm]; exact hown
  have hins : (Cond.instantiable cls 6).before args s' = true := h _ (by simp [Bundle.ownAtoms])
  obtain ⟨vm₁, cX, kX, hfX, hkX, -, -, X₁, st1⟩ := Y.newCold hexec (own := own) (C := cls) (index := ik) (n := 6) hown' hk' hins hini'
    (g := F0 m pc ls rest) rfl (by rw [hb]; exact d0) (Nat.le_refl _) (Nat.le_refl _)
  generalize hT1 : (T.setVm vm₁).pushCell { cls := cX, slots := kX.instanceTypes.map defaultValue, vm := .none } = T1 at X₁ st1
  have hcat : (Value.ref T.heap.size).category = 1 := rfl
  have hcellA : T1.heap[T.heap.size]? = some (freshCell cX kX) := by rw [← hT1]; exact State.heap_pushCell_size _ _
  have d3' : decode c.code (pc + 3) = .ok (.dup, 1) := by rw [hb]; exact d3
  have d4' : decode c.code (pc + 4) = .ok (.ldc is, 2) := by rw [hb]; exact d4
  have hstr' : vk_R own is text sa s' := vk_R.warm hW0 hstr
  obtain ⟨U, hsteps, hrun, hend, hW, hsame, ce, hce, hO⟩ := X₁.ctorThrowS hexec htr (own := own) (cls := cls) (names := names) (ic := ic) hown' hcls hnames h (fun x hx => nomatch hx) hfX hkX hcellA (by rw [hhp, hT]; exact Nat.le_refl _) (msg := .ref sa) rfl
    (g := { method := m, pc := pc + 6, locals := ls, stack := .ref sa :: .ref T.heap.size :: .ref T.heap.size :: rest, locked := none }) rfl hsize rfl rfl (rest := rest) rfl
    (by rw [hb]; exact d6) (by rw [hb]; exact d9) hout hRframes (by simp only [List.map_cons, List.sum_cons, hcat]; omega) hlocks
  obtain ⟨f1, f2⟩ := vx_frame hsame
  rw [hhp] at f1 f2
  have hWs : s.WarmedH U.vm := State.WarmedH.trans hW0 hW
  have hcl : s.vm.findClass cls = some ce.cls := by
    have h9 := hO.cls
    rw [hvm] at h9
    exact h9
  have hall : s.sameButNew ({ U with vm := s.vm } : State) locs mc ms := by
    subst hA
    obtain ⟨e1, e2⟩ := hsame
    rw [State.setFrames_setFrames] at e1
    have h2 : (T.setVm s.vm).sameButNew ({ U with vm := s.vm } : State) [] (0 + 1) (0 + 6) := ⟨e1, e2⟩
    have h3 := X.same.trans h2
    rw [List.append_nil] at h3
    exact h3.mono hc hs
  refine ⟨U, ?_, .threw T.heap.size, hrun, hend, Or.inr ⟨T.heap.size, rfl, cls, ce, locs, hx U hWs.alike f1 (fun q hq => f2 q hq (fun z hz => nomatch hz)), hce, hO.vm, hcl, hWs, hall, hf⟩⟩
  refine st1 _ ?_
  show Steps p.tables e below (T1.setTop { method := m, pc := pc + 3, locals := ls, stack := .ref T.heap.size :: rest, locked := none }) _
  jvm_step X₁.here [X₁.here.top, hexec, d3', Value.category]
  exact X₁.ldcString hexec (own := own) (text := text) (index := is) (a := sa) hown' hstr'.1 hstr'.2
    (g := { method := m, pc := pc + 4, locals := ls, stack := .ref T.heap.size :: .ref T.heap.size :: rest, locked := none }) rfl d4' _ hsteps
/-- 'throw new E("text")', the text by a wide index -/
theorem vx_throwSW {cc : ByteArray} {pc : Nat} (hexec : p.tables.exec = Jvm.exec) (hb : c.code = cc) (hl : l.stackTraces = false) {own cls text : String} {names : List String} {ik is ic mc ms sa : Nat} {A : Nat → Prop}
    (hown : s.vm.findClass own = some m.cls) (hcls : Bundle.fit cls = true) (hnames : ∀ n ∈ names, Bundle.fit n = true)
    (hk : (Cond.classLink own ik cls).before args s = true) (hini : (Cond.initialized cls).before args s = true) (hstr : vk_R own is text sa s) (hat : ∀ w ∈ vx_atS own ic cls names, w.before args s = true)
    (hgood : ∀ w ∈ Cond.classLink own ik cls :: Cond.initialized cls :: vx_atS own ic cls names, vx_ot w = true)
    (hU : vx_Zq Bundle.tN "UNASSIGNED_STACK" Bundle.steD A s s.heap) (hN : vx_Zq Bundle.tN "SUPPRESSED_SENTINEL" Bundle.listD A s s.heap) (hS : va_S A s.heap H locs) (hsize : ls.size = c.maxLocals)
    (d0 : decode cc pc = .ok (.new ik, 3)) (d3 : decode cc (pc + 3) = .ok (.dup, 1)) (d4 : decode cc (pc + 4) = .ok (.ldc_w is, 3)) (d7 : decode cc (pc + 7) = .ok (.invokespecial ic, 3)) (d10 : decode cc (pc + 10) = .ok (.athrow, 1))
    (hout : ∀ x ∈ c.exceptionTable.toList, covers x (pc + 10) = false)
    (hRframes : names.length + 3 < R.frames) (hRlocals : (rest.map fun v => v.category).sum + (13 * (names.length + 1) + 43) ≤ R.locals) (hRcells : cells + 1 ≤ R.cells) (hRslots : slots + 6 ≤ R.slots) (hlocks : meth.locks = false)
    (hx : ∀ t : State, s.vm.Alike t.vm → H.size ≤ t.heap.size → (∀ q : Nat, q < H.size → t.heap[q]? = H[q]?) → XC cls s t)
    (hf : ∀ z ∈ locs, free z.base) (hc : cells + 1 ≤ mc) (hs : slots + 6 ≤ ms) :
    W p l e R s m args below meth c H locs cells slots (vx_MQ below Qc XC args s mc ms free) (F0 m pc ls rest) := by
  intro T hT X
  have htr : e.platform.stackTraces = false := (show e.platform.stackTraces = l.stackTraces by rw [X.admits.platform]).trans hl
  have Y := vx_rebase X (R' := { frames := R.frames, locals := R.locals, cells := 1, slots := 6 }) (Nat.le_refl _) (Nat.le_refl _) hRcells hRslots
  obtain ⟨s', hA⟩ : ∃ z, z = (T.setVm s.vm).setFrames (.invoking m args :: below) := ⟨_, rfl⟩
  rw [← hA] at Y
  have hvm : s'.vm = s.vm := by rw [hA]; rfl
  have hhp : s'.heap = H := by rw [hA]; exact hT
  have hW0 : s.WarmedH s'.vm := by rw [hvm]; exact State.WarmedH.refl s
  have hat' : ∀ w ∈ vx_atS own ic cls names, w.before args s' = true := fun w hw => vx_ot_at hW0 hvm.symm (hgood w (List.mem_cons_of_mem _ (List.mem_cons_of_mem _ hw))) (hat w hw)
  have hk' : (Cond.classLink own ik cls).before args s' = true := vx_ot_at hW0 hvm.symm (hgood _ List.mem_cons_self) hk
  have hini' : (Cond.initialized cls).before args s' = true := vx_ot_at hW0 hvm.symm (hgood _ (List.mem_cons_of_mem _ List.mem_cons_self)) hini
  have hU' : vx_Zq Bundle.tN "UNASSIGNED_STACK" Bundle.steD A s' s'.heap := by rw [hhp]; exact vx_Zq.moved hW0.alike (hU.kept hS.2.1)
  have hN' : vx_Zq Bundle.tN "SUPPRESSED_SENTINEL" Bundle.listD A s' s'.heap := by rw [hhp]; exact vx_Zq.moved hW0.alike (hN.kept hS.2.1)
  have h : ∀ w ∈ Bundle.ownAtoms own ic cls names, w.before args s' = true := vx_own hat' (vx_isRefq hU'.1) (vx_isRefq hN'.1) hU'.2.word hN'.2.word
  have hown' : s'.vm.findClass own = some m.cls := by rw [hvm]; exact hown
  have hins : (Cond.instantiable cls 6).before args s' = true := h _ (by simp [Bundle.ownAtoms])
  obtain ⟨vm₁, cX, kX, hfX, hkX, -, -, X₁, st1⟩ := Y.newCold hexec (own := own) (C := cls) (index := ik) (n := 6) hown' hk' hins hini'
    (g := F0 m pc ls rest) rfl (by rw [hb]; exact d0) (Nat.le_refl _) (Nat.le_refl _)
  generalize hT1 : (T.setVm vm₁).pushCell { cls := cX, slots := kX.instanceTypes.map defaultValue, vm := .none } = T1 at X₁ st1
  have hcat : (Value.ref T.heap.size).category = 1 := rfl
  have hcellA : T1.heap[T.heap.size]? = some (freshCell cX kX) := by rw [← hT1]; exact State.heap_pushCell_size _ _
  have d3' : decode c.code (pc + 3) = .ok (.dup, 1) := by rw [hb]; exact d3
  have d4' : decode c.code (pc + 4) = .ok (.ldc_w is, 3) := by rw [hb]; exact d4
  have hstr' : vk_R own is text sa s' := vk_R.warm hW0 hstr
  obtain ⟨U, hsteps, hrun, hend, hW, hsame, ce, hce, hO⟩ := X₁.ctorThrowS hexec htr (own := own) (cls := cls) (names := names) (ic := ic) hown' hcls hnames h (fun x hx => nomatch hx) hfX hkX hcellA (by rw [hhp, hT]; exact Nat.le_refl _) (msg := .ref sa) rfl
    (g := { method := m, pc := pc + 7, locals := ls, stack := .ref sa :: .ref T.heap.size :: .ref T.heap.size :: rest, locked := none }) rfl hsize rfl rfl (rest := rest) rfl
    (by rw [hb]; exact d7) (by rw [hb]; exact d10) hout hRframes (by simp only [List.map_cons, List.sum_cons, hcat]; omega) hlocks
  obtain ⟨f1, f2⟩ := vx_frame hsame
  rw [hhp] at f1 f2
  have hWs : s.WarmedH U.vm := State.WarmedH.trans hW0 hW
  have hcl : s.vm.findClass cls = some ce.cls := by
    have h9 := hO.cls
    rw [hvm] at h9
    exact h9
  have hall : s.sameButNew ({ U with vm := s.vm } : State) locs mc ms := by
    subst hA
    obtain ⟨e1, e2⟩ := hsame
    rw [State.setFrames_setFrames] at e1
    have h2 : (T.setVm s.vm).sameButNew ({ U with vm := s.vm } : State) [] (0 + 1) (0 + 6) := ⟨e1, e2⟩
    have h3 := X.same.trans h2
    rw [List.append_nil] at h3
    exact h3.mono hc hs
  refine ⟨U, ?_, .threw T.heap.size, hrun, hend, Or.inr ⟨T.heap.size, rfl, cls, ce, locs, hx U hWs.alike f1 (fun q hq => f2 q hq (fun z hz => nomatch hz)), hce, hO.vm, hcl, hWs, hall, hf⟩⟩
  refine st1 _ ?_
  show Steps p.tables e below (T1.setTop { method := m, pc := pc + 3, locals := ls, stack := .ref T.heap.size :: rest, locked := none }) _
  jvm_step X₁.here [X₁.here.top, hexec, d3', Value.category]
  exact X₁.ldcStringW hexec (own := own) (text := text) (index := is) (a := sa) hown' hstr'.1 hstr'.2
    (g := { method := m, pc := pc + 4, locals := ls, stack := .ref T.heap.size :: .ref T.heap.size :: rest, locked := none }) rfl d4' _ hsteps
end Ends
section Bodies
variable {l : Launch}
theorem vx_ofW {y : MethodName} {ws ws' : List Cond} {rm : Room} {Pc : Array Value → State → Prop} {Qc : Array Value → State → Outcome → State → Prop} {XC : String → State → State → Prop} {mc ms : Nat} {free : Addr → Prop} {cc : ByteArray} {maxL : Nat} {ret : Option FieldType}
    (hy : plainName y.cls = true) (hw : ws = Cond.code y cc maxL ret :: ws')
    (body : ∀ p e s m args below meth c s₁, BodyLoose p l y (headSpec ws rm) cc maxL ret e s m args below meth c s₁ → c.maxLocals = maxL → (∀ x ∈ c.exceptionTable.toList, False) → Pc args s →
      W p l e (headSpec ws rm).room s m args below meth c s.heap [] 0 0 (vx_MQ below Qc XC args s mc ms free) (entryFrame m args maxL)) : vx_Met l y ws rm Pc Qc XC mc ms free := by
  refine MetFree.of_bodyS (code := cc) (maxLocals := maxL) (ret := ret) hy ?_ ?_
  · intro args s m h hn
    obtain ⟨meth, c, h1, h2, h3, h4, h5, h6, -, -⟩ := Cond.code_spec hn (atoms_spec (ws := ws) h _ (by rw [hw]; exact List.mem_cons_self))
    exact ⟨meth, c, h1, h2, h3, h4, h5, h6⟩
  · intro p e s m args below meth c s₁ B hml hP _
    have hh0 : s₁.heap = s.heap := by rw [B.state]; rfl
    have ht : ∀ x ∈ c.exceptionTable.toList, False := by
      obtain ⟨meth9, c9, h1, h2, -, -, -, -, h7, -⟩ := Cond.code_spec B.named (atoms_spec (ws := ws) B.pre _ (by rw [hw]; exact List.mem_cons_self))
      cases Option.some.inj (h1.symm.trans B.method)
      cases Option.some.inj (h2.symm.trans (Stand.of_body B).code)
      intro x hx
      rw [Array.isEmpty_iff.mp h7] at hx
      cases hx
    obtain ⟨t, a1, o, b1, b2, b3⟩ := body p e s m args below meth c s₁ B hml ht hP s₁ hh0 (Stand.of_body B)
    exact ⟨t, o, a1, b1, b2, b3⟩
/-- the table of a body with handlers -/
theorem vx_table {p : Program} {x y : MethodName} {S : Spec} {cc bytes : ByteArray} {maxL maxL' : Nat} {ret ret' : Option FieldType} {e : Env} {s s₁ : State} {m : MethodId} {args : Array Value} {below : List Frame} {meth : Method} {c : Code} {hh : List (Nat × Nat × Nat × Nat)}
    (B : BodyLoose p l y S cc maxL ret e s m args below meth c s₁) (h : (Cond.codeWith y bytes maxL' ret' hh).before args s = true) : c.exceptionTable.toList = tableOf hh := by
  obtain ⟨m9, meth9, c9, hn9, h1, h2, -, -, h6, -⟩ := Cond.codeWith_spec h
  cases Option.some.inj (hn9.symm.trans B.named)
  cases Option.some.inj (h1.symm.trans B.method)
  cases Option.some.inj (h2.symm.trans (Stand.of_body B).code)
  rw [← h6, table_eq]
end Bodies
end VXA
/-! ===== END ===== -/
/-! ===== BEGIN a static call of a method with an exception table ===== -/
section VXS
variable {p : Program} {l : Launch} {e : Env} {R : Room} {s : State} {m : MethodId} {args : Array Value} {below : List Frame} {meth : Method} {c : Code} {T : State} {H : Heap} {locs : List Loc} {cells slots : Nat}
abbrev vx_CSW (R : Room) (s : State) (args : Array Value) (own : String) (index : Nat) (y : MethodName) (bytes : ByteArray) (maxL : Nat) (ret : Option FieldType) (hh : List (Nat × Nat × Nat × Nat)) (ws : List Cond) (rm : Room) (mc ms n : Nat) : Prop :=
  (rm.cells = mc ∧ rm.slots = ms ∧ rm.frames + 1 ≤ R.frames ∧ 8 + (maxL + 11) + rm.locals ≤ R.locals ∧ (∀ w ∈ ws, ∀ (a' : Array Value) (U : State), s.WarmedH U.vm → w.before a' U = true) ∧ Cond.codeWith y bytes maxL ret hh ∈ ws) ∧
  (Cond.codeWith y bytes maxL ret hh).before args s = true ∧ (Cond.initialized y.cls).before args s = true ∧ (y.cls ≠ "java/lang/invoke/MethodHandle" ∧ y.cls ≠ "java/lang/invoke/VarHandle") ∧
  (∀ sig, parseMethodDescriptor y.desc = some sig → n = sig.parameters.length) ∧ (Cond.methodLink own index y).before args s = true ∧ (Cond.static y).before args s = true
theorem vx_cwSW {own : String} {index maxL mc ms : Nat} {y : MethodName} {bytes : ByteArray} {ret : Option FieldType} {hh : List (Nat × Nat × Nat × Nat)} {Ts ws ws' : List Cond} {rm : Room} (n : Nat) (ht : ∀ w ∈ Ts, w.before args s = true) (hT : GoodIn Ts (va_wsS own index y ws)) (hw : ws = Cond.codeWith y bytes maxL ret hh :: ws') (hrc : rm.cells = mc) (hrs : rm.slots = ms)
    (hd : y.cls ≠ "java/lang/invoke/MethodHandle" ∧ y.cls ≠ "java/lang/invoke/VarHandle" ∧ (parseMethodDescriptor y.desc).map (fun d => d.parameters.length) = some n) (hR : rm.frames + 1 ≤ R.frames ∧ 8 + (maxL + 11) + rm.locals ≤ R.locals) :
    vx_CSW R s args own index y bytes maxL ret hh ws rm mc ms n := by
  have ok : ∀ w ∈ va_wsS own index y ws, w.before args s = true := fun w h => ht w (hT w h).1
  have hG : GoodIn Ts ws := fun w h => hT w (by unfold va_wsS; exact List.mem_append_right _ h)
  have hc : Cond.codeWith y bytes maxL ret hh ∈ ws := by rw [hw]; exact List.mem_cons_self
  refine ⟨⟨hrc, hrs, hR.1, hR.2, pay_in ht hG, hc⟩, ht _ (hG _ hc).1, ok _ (by simp [va_wsS]), ⟨hd.1, hd.2.1⟩, fun sig h => ?_, ok _ (by simp [va_wsS]), ok _ (by simp [va_wsS])⟩
  have h2 := hd.2.2
  rw [h] at h2
  exact (Option.some.inj h2).symm
theorem vx_callSW (X : Stand p l e R s m args below meth c T locs cells slots) (hexec : p.tables.exec = Jvm.exec) {own : String} {index : Nat} {y : MethodName} {bytes : ByteArray} {maxL : Nat} {ret : Option FieldType} {hh : List (Nat × Nat × Nat × Nat)}
    (hown : s.vm.findClass own = some m.cls) (hlink : (Cond.methodLink own index y).before args s = true) (hstat : (Cond.static y).before args s = true) (hinit : (Cond.initialized y.cls).before args s = true)
    (hcode : (Cond.codeWith y bytes maxL ret hh).before args s = true) (hy : y.cls ≠ "java/lang/invoke/MethodHandle" ∧ y.cls ≠ "java/lang/invoke/VarHandle")
    {W9 : Nat} {Pre : Pt → Array Value → Prop} {Post : Pt → Array Value → Option Value → Pt → Prop} (hK : Back l R p e below s args y 3 W9 Pre Post)
    {g : JFrame} (hg : g.method = m) (hsize : g.locals.size = c.maxLocals) {argsL rest : List Value} (hlen : ∀ sig, parseMethodDescriptor y.desc = some sig → argsL.length = sig.parameters.length)
    (hstack : g.stack = argsL.reverse ++ rest) (hW : 2 * g.monitorRoom + (rest.map fun v => v.category).sum ≤ W9) (hdg : decode c.code g.pc = .ok (.invokestatic index, 3))
    (hpre : ∀ vm₁, s.WarmedH vm₁ → Pre ⟨T.setVm vm₁, locs, cells, slots⟩ argsL.toArray) :
    ∃ (v : Option Value) (vm₁ : Vm) (B : Pt), s.WarmedH vm₁ ∧ Stand p l e R s m args below meth c B.U B.locs B.cells B.slots ∧ Post ⟨T.setVm vm₁, locs, cells, slots⟩ argsL.toArray v B ∧
      ∀ target, Steps p.tables e below (B.U.setTop { g with pc := g.pc + 3, stack := v.toList ++ rest }) target → Steps p.tables e below (T.setTop g) target := by
  obtain ⟨mk, methM, cM, hnamed, hmethM, -, -, -, -, -, -, hsigM⟩ := Cond.codeWith_spec hcode
  have hstatic : methM.isStatic = true := Cond.static_spec hnamed hmethM hstat
  obtain ⟨kP, hkP, -⟩ := className_of_methodNamed hnamed
  have hinitP : kP.init = .initialized := Cond.initialized_spec (findClass_of_methodNamed hnamed) hkP hinit
  obtain ⟨vm₁, X₁, hstep₁⟩ := X.invokestatic hexec hown hlink hnamed hmethM hstatic hkP hinitP hy (g := g) hg (argsL := argsL) (rest := rest) (hlen _ hsigM) hstack hdg
  obtain ⟨v, B, X', hpost, hsteps⟩ := hK m meth c ⟨T.setVm vm₁, locs, cells, slots⟩ { g with stack := rest } (.invokestatic index) mk argsL.toArray X₁ hg hsize hdg hW (X₁.named hnamed) (hpre vm₁ X₁.warmed)
  exact ⟨v, vm₁, B, X₁.warmed, X', hpost, fun target h => hstep₁ _ fun acts => by rw [doInvoke_state]; exact hsteps.trans h⟩
theorem vx_runSW {y : MethodName} {bytes cc : ByteArray} {maxL nL mc ms n index : Nat} {ret : Option FieldType} {hh : List (Nat × Nat × Nat × Nat)} {ws : List Cond} {rm : Room} {Pc : Array Value → State → Prop} {Qc : Array Value → State → Outcome → State → Prop} {free : Addr → Prop} {Ts : List Cond} {own : String} {As rest : List Value} {g : JFrame}
    (S : CallFix p m c cc nL s args Ts own) (hM : Met l y ws rm Pc Qc mc ms free) (cw : vx_CSW R s args own index y bytes maxL ret hh ws rm mc ms n) (hp : PreS s H Pc As)
    (hg : g.method = m) (hn : As.length = n) (hsize : g.locals.size = nL) (hstack : g.stack = As.reverse ++ rest) (hW : 2 * g.monitorRoom + (rest.map fun v => v.category).sum ≤ 8) (hdg : decode cc g.pc = .ok (.invokestatic index, 3)) (hf : cells + mc ≤ R.cells ∧ slots + ms ≤ R.slots) :
    va_Run p l e R s m args below meth c H locs cells slots mc ms g rest (Qc As.toArray) (free) := by
  obtain ⟨⟨hrc, hrs, hfr, hlo, hws, hcw⟩, hcode, hini, hy, hlen, hl, hstt⟩ := cw
  have hK : Back l R p e below s args y 3 8 (PreOf R mc ms Pc) (PostOf Qc mc ms free) := va_backW (hh := hh) (bytes := bytes) (maxL := maxL) (ret := ret) hM hp.1 hrc hrs hfr hlo hws hcw (fun a' U hW => word_at hW (Or.inl (by first | rfl | simp [Cond.onTables, Cond.keeps, Cond.steady])) hini)
  obtain ⟨hx, hb, hml, ho, -⟩ := S
  intro T hT X
  obtain ⟨v, vm₁, ⟨U', l2, c2, s2⟩, hW₁, X', ⟨g', mk, t, L, e1, e2, hq, h1, hL, h2, h3⟩, st⟩ := vx_callSW X hx (hh := hh) (bytes := bytes) (maxL := maxL) (ret := ret) ho hl hstt hini hcode hy hK hg (hsize.trans hml.symm) (argsL := As) (rest := rest) (fun sig h => hn.trans (hlen sig h)) hstack hW (by rw [hb]; exact hdg)
    (fun vm₁ hW₁ => ⟨hf.1, hf.2, hp.2 (T.setVm vm₁) hT hW₁⟩)
  dsimp only [Pt.U, Pt.locs, Pt.cells, Pt.slots] at X' e1 e2 h1 h2 h3 st
  subst h1; subst h2; subst h3
  exact ⟨v, (T.setVm vm₁).calling g' mk As.toArray, t, U', L, hT, X', hL, e1, e2, hq, st⟩
/-- not caught here, past rows that name other classes: it goes on to the caller -/
theorem vx_outP {p : Program} {l : Launch} {e : Env} {R : Room} {s : State} {m : MethodId} {args : Array Value} {below : List Frame} {meth : Method} {c : Code} {H : Heap} {locs : List Loc} {cells slots : Nat} {free : Addr → Prop} {ls : Array Slot} {rest : List Value} {Qc : Array Value → State → Outcome → State → Prop} {XC : String → State → State → Prop}
    {pc : Nat} {own E : String} {ce : Cell} {q : Addr} {mc ms : Nat} (hown : s.vm.findClass own = some m.cls) (hlocks : meth.locks = false)
    (hpass : ∀ z ∈ c.exceptionTable.toList, covers z pc = false ∨ (z.catchType ≠ 0 ∧ ∃ nm : String, (Cond.classLink own z.catchType nm).before args s = true ∧ va_Nc E nm s)) (hcell : H[q]? = some ce) (hv : ce.vm = .none) (hcl : s.vm.findClass E = some ce.cls)
    (hx : ∀ t : State, t.heap = H → s.vm.Alike t.vm → XC E s t) (hf : ∀ z ∈ locs, free z.base) (hc : cells ≤ mc) (hs : slots ≤ ms) :
    vx_W p l e R s m args below meth c H locs cells slots (vx_MQ below Qc XC args s mc ms free) (F0 m pc ls rest) q := by
  intro T hT X
  have hpl : e.platform.magicAccessors = ({} : Platform).magicAccessors := by rw [X.admits.platform]
  obtain ⟨vm', hW', X', st⟩ := X.outThrough hlocks q (g := F0 m pc ls rest) rfl rfl rfl (cell := ce) (by rw [hT]; exact hcell) (by rw [hv]; rfl)
    (by obtain ⟨k9, h9, -⟩ := Vm.findClass_spec hcl; exact ⟨k9, h9⟩) (fun z hz => by
      rcases hpass z hz with h | ⟨hz0, nm, hl1, hn1⟩
      · exact Or.inl h
      · obtain ⟨c6, hc6, hcl6⟩ := Cond.classLink_spec hown hl1 e.platform hpl
        obtain ⟨a8, b8, h1, h2, h3⟩ := hn1
        cases Option.some.inj (h1.symm.trans hcl)
        cases Option.some.inj (h2.symm.trans hc6)
        exact Or.inr ⟨hz0, _, hcl6, h3⟩)
  obtain ⟨g₀, hfr⟩ := X'.frames_eq
  have hcell9 : ((T.setVm vm').setFrames (.throwing q :: below)).heap[q]? = some ce := by
    show T.heap[q]? = some ce
    rw [hT]; exact hcell
  have hend : Ended ((T.setVm vm').setFrames (.throwing q :: below)) below (.threw q) := State.frames_setFrames _ (State.cur_lt_of_frames hfr)
  refine ⟨(T.setVm vm').setFrames (.throwing q :: below), ?_, .threw q, X'.here.running, hend, Or.inr ⟨q, rfl, E, ce, locs, hx _ hT (X'.ends _).1.alike, hcell9, hv, hcl, (X'.ends _).1, (X'.ends _).2.mono hc hs, hf⟩⟩
  rw [X.pushThrowing_eq]
  exact st
/-- a thing of a world lies in the heap -/
theorem vx_lt {D : va_G} {cl : List vw_C} {ws : va_W} {H1 : Heap} (h : va_P D cl ws H1) {k : Nat} {q : Nat × va_E} (hk : ws[k]? = some q) : q.1 < H1.size := (h k q hk).lt
end VXS
/-! ===== END ===== -/
/-! ===== BEGIN methods with a table of their own: called by a name, returning or throwing ===== -/
section VXH
/-! vx_backW, vx_callVX, vx_callSX, vx_callVW, vx_runVW, vx_runVX, vx_runSX, vx_ofWH follow the same proofs as their sisters above (Free/Laws.lean, Shelf42/LK1.lean); vx_outP calls Shelf42/NT130.lean (outThrough). -/
section
variable {l : Launch} {R : Room} {p : Program} {e : Env} {below : List Frame} {s : State} {sargs : Array Value} {y : MethodName} {len W9 : Nat}
theorem vx_backW {ws : List Cond} {rm : Room} {Pc : Array Value → State → Prop} {Qc : Array Value → State → Outcome → State → Prop} {XC : String → State → State → Prop} {mc ms : Nat} {free : Addr → Prop} {bytes : ByteArray} {maxL : Nat} {ret : Option FieldType} {hh : List (Nat × Nat × Nat × Nat)}
    (hM : vx_Met l y ws rm Pc Qc XC mc ms free) (hblind : FrameBlind Pc) (hrc : rm.cells = mc) (hrs : rm.slots = ms)
    (hframes : rm.frames + 1 ≤ R.frames) (hlocals : W9 + (maxL + 11) + rm.locals ≤ R.locals)
    (hws : ∀ w ∈ ws, ∀ a' U, s.WarmedH U.vm → w.before a' U = true) (hcode : Cond.codeWith y bytes maxL ret hh ∈ ws) (hinit : ∀ a' U, s.WarmedH U.vm → (Cond.initialized y.cls).before a' U = true) :
    vx_Back l R p e below s sargs y len W9 (PreOf R mc ms Pc) (PostOf Qc mc ms free) (vx_Post XC mc ms free) := by
  intro m meth c A g ig mk a X hg hsize hdg hW hn hp
  have h1 : (headSpec ws rm).pre.before a A.U = true := atoms_intro fun w hw => hws w hw _ _ X.warmed
  have h2 : (Cond.codeWith y bytes maxL ret hh).before a A.U = true := hws _ hcode _ _ X.warmed
  have h3 : (Cond.initialized y.cls).before a A.U = true := hinit _ _ X.warmed
  have h4 : A.cells + (headSpec ws rm).room.cells ≤ R.cells := by rw [show (headSpec ws rm).room.cells = mc from hrc]; exact hp.1
  have h5 : A.slots + (headSpec ws rm).room.slots ≤ R.slots := by rw [show (headSpec ws rm).room.slots = ms from hrs]; exact hp.2.1
  have hPc : Pc a (A.U.calling g mk a) := hblind _ _ _ _ hp.2.2
  obtain ⟨U, Ls, c0, s0⟩ := A
  dsimp only [Pt.U, Pt.locs, Pt.cells, Pt.slots] at h1 h2 h3 h4 h5 X hn hPc ⊢
  obtain ⟨m9, methY, cY, hn9, hmY, hcY, -, hlY, -⟩ := Cond.codeWith_spec h2
  cases Option.some.inj (hn9.symm.trans hn)
  obtain ⟨kY, hkY, -⟩ := className_of_methodNamed hn
  have hinitY : kY.init = .initialized := Cond.initialized_spec (findClass_of_methodNamed hn) hkY h3
  have h : At U g.method c below := by rw [hg]; exact X.here
  have hlocals9 : W9 + (maxL + 11) + (headSpec ws rm).room.locals ≤ R.locals := hlocals
  have happ : (headSpec ws rm).appliesLoose y e.platform (U.calling g mk a) = true :=
    Spec.appliesLoose_calling (g := g) h hdg hn hkY hinitY
      (X.room_calling (g := g) (R' := (headSpec ws rm).room) hsize hmY hcY hframes (by rw [hlY]; omega) h4 h5) h1
  obtain ⟨mid, hmid⟩ := h.above
  have hfr : (U.setTop g).frames = (.java g :: mid) ++ below := by rw [State.frames_setTop' g h.top, hmid]; rfl
  obtain ⟨o, s₂, hsteps, -, hend, hq⟩ := Steps.callFree hM p X.admits X.cas X.clock (acts := []) hfr happ hPc trivial
  have hq' : vx_Q Qc XC mc ms free a (U.calling g mk a) o s₂ := hq
  rw [State.frames_setTop' g h.top] at hend
  obtain ⟨g₀, hg0⟩ := Option.isSome_iff_exists.mp h.top
  obtain ⟨r, hr⟩ := State.topJava?_eq_some.mp hg0
  have hr' : (({ U with heap := s₂.heap, slotsUsed := s₂.slotsUsed } : State).setVm s₂.vm).frames = .java g₀ :: r := hr
  rcases hq' with ⟨hqc, L, hfe, hL⟩ | ⟨q, rfl, E, ce, L, hx, hce, hcv, hcl, hW₂, hsm, hL⟩
  · obtain ⟨⟨v, rfl⟩, hW₂, e2, q2, q3, q4, q5, q6⟩ := id hfe
    have e3 : s₂ = ({ (U.calling g mk a).setFrames s₂.frames with heap := s₂.heap, slotsUsed := s₂.slotsUsed } : State).setVm s₂.vm := by
      have : s₂ = ({ s₂ with vm := (U.calling g mk a).vm } : State).setVm s₂.vm := rfl
      rw [e2] at this
      exact this
    obtain ⟨c₂, i₂, len₂, hc₂, hd₂, hf₂⟩ := hend
    have hW' : U.WarmedH s₂.vm := hW₂
    have hcc : c₂ = c := by
      have h1 : s₂.code? g.method = U.code? g.method := by
        rw [State.code?_eq, State.code?_eq, hW'.alike.method?]
      exact Option.some.inj (hc₂.symm.trans (h1.trans h.code))
    subst hcc
    have hlen : len₂ = len := by rw [hdg] at hd₂; cases hd₂; rfl
    subst hlen
    have hs₂ : s₂ = (({ U with heap := s₂.heap, slotsUsed := s₂.slotsUsed } : State).setVm s₂.vm).setTop { g with pc := g.pc + len₂, stack := v.toList ++ g.stack } := by
      refine e3.trans ?_
      rw [hf₂, State.calling_eq h.top, State.setFrames_setFrames, State.setTop_of_frames _ hr', hr]
      rfl
    have hsame : U.sameButNew ({ U with heap := s₂.heap, slotsUsed := s₂.slotsUsed } : State) L mc ms := by
      refine ⟨?_, q2, q3, q4, q5, q6⟩
      obtain ⟨t, ht, -⟩ := State.frames_cons hr
      show ({ U with heap := s₂.heap, slotsUsed := s₂.slotsUsed } : State) = { U.setFrames U.frames with heap := s₂.heap, slotsUsed := s₂.slotsUsed }
      rw [State.setFrames_self ht]
    subst hg
    refine Or.inl ⟨v, ⟨(({ U with heap := s₂.heap, slotsUsed := s₂.slotsUsed } : State).setVm s₂.vm), Ls ++ L, c0 + mc, s0 + ms⟩,
      ⟨X.admits, X.cas, X.clock, X.frames, X.room, X.hears, X.method, X.code, (X.here.setHeapUsed s₂.heap s₂.slotsUsed).setVm hW'.alike, X.tail, State.WarmedH.trans X.warmed hW', X.limits, X.bytes, X.same.trans (hsame.setVm s.vm)⟩,
      ⟨g, mk, s₂, L, rfl, rfl, hqc, rfl, hL, rfl, rfl⟩, ?_⟩
    show Steps p.tables e below _ ((({ U with heap := s₂.heap, slotsUsed := s₂.slotsUsed } : State).setVm s₂.vm).setTop { g with pc := g.pc + len₂, stack := v.toList ++ g.stack })
    rw [← hs₂]
    exact hsteps
  · obtain ⟨e2, q2, q3, q4, q5, q6⟩ := id hsm
    have e3 : s₂ = ({ (U.calling g mk a).setFrames s₂.frames with heap := s₂.heap, slotsUsed := s₂.slotsUsed } : State).setVm s₂.vm := by
      have : s₂ = ({ s₂ with vm := (U.calling g mk a).vm } : State).setVm s₂.vm := rfl
      rw [e2] at this
      exact this
    have hf₂ : s₂.frames = .throwing q :: .java g :: U.frames.tail := hend
    have hW' : U.WarmedH s₂.vm := hW₂
    have hs₂ : s₂ = ((({ U with heap := s₂.heap, slotsUsed := s₂.slotsUsed } : State).setVm s₂.vm).setTop g).pushFrame (.throwing q) := by
      refine e3.trans ?_
      rw [hf₂, State.calling_eq h.top, State.setFrames_setFrames, State.pushFrame, State.frames_setTop _ hr', State.setTop_of_frames _ hr', State.setFrames_setFrames, hr]
      rfl
    have hsame : U.sameButNew ({ U with heap := s₂.heap, slotsUsed := s₂.slotsUsed } : State) L mc ms := by
      refine ⟨?_, q2, q3, q4, q5, q6⟩
      obtain ⟨t, ht, -⟩ := State.frames_cons hr
      show ({ U with heap := s₂.heap, slotsUsed := s₂.slotsUsed } : State) = { U.setFrames U.frames with heap := s₂.heap, slotsUsed := s₂.slotsUsed }
      rw [State.setFrames_self ht]
    subst hg
    refine Or.inr ⟨q, ⟨(({ U with heap := s₂.heap, slotsUsed := s₂.slotsUsed } : State).setVm s₂.vm), Ls ++ L, c0 + mc, s0 + ms⟩,
      ⟨X.admits, X.cas, X.clock, X.frames, X.room, X.hears, X.method, X.code, (X.here.setHeapUsed s₂.heap s₂.slotsUsed).setVm hW'.alike, X.tail, State.WarmedH.trans X.warmed hW', X.limits, X.bytes, X.same.trans (hsame.setVm s.vm)⟩,
      ⟨g, mk, s₂, L, E, ce, rfl, rfl, hx, hce, hcv, hcl, rfl, hL, rfl, rfl⟩, ?_⟩
    show Steps p.tables e below _ (((({ U with heap := s₂.heap, slotsUsed := s₂.slotsUsed } : State).setVm s₂.vm).setTop g).pushFrame (.throwing q))
    rw [← hs₂]
    exact hsteps
end
variable {p : Program} {l : Launch} {e : Env} {R : Room} {s : State} {m : MethodId} {args : Array Value} {below : List Frame} {meth : Method} {c : Code} {T : State} {H : Heap} {locs : List Loc} {cells slots : Nat}
theorem vx_callVX (X : Stand p l e R s m args below meth c T locs cells slots) (hexec : p.tables.exec = Jvm.exec) {own C : String} {index : Nat} {y : MethodName} {bytes : ByteArray} {maxL : Nat} {ret : Option FieldType} {hh : List (Nat × Nat × Nat × Nat)}
    (hown : s.vm.findClass own = some m.cls) (hlink : (Cond.methodLink own index y).before args s = true) (hinst : (Cond.instanceMethod y).before args s = true) (hsel : (Cond.selects C y y).before args s = true)
    (hcode : (Cond.codeWith y bytes maxL ret hh).before args s = true) (hy : y.cls ≠ "java/lang/invoke/MethodHandle" ∧ y.cls ≠ "java/lang/invoke/VarHandle")
    {W9 : Nat} {Pre : Pt → Array Value → Prop} {Post : Pt → Array Value → Option Value → Pt → Prop} {PostX : Pt → Array Value → Addr → Pt → Prop} (hK : vx_Back l R p e below s args y 3 W9 Pre Post PostX)
    {b : Addr} {cellB : Cell} (hcell : T.heap[b]? = some cellB) (hobj : cellB.vm.isStatics = false) (hcls : s.vm.findClass C = some cellB.cls)
    {g : JFrame} (hg : g.method = m) (hsize : g.locals.size = c.maxLocals) {argsL rest : List Value} (hlen : ∀ sig, parseMethodDescriptor y.desc = some sig → argsL.length = sig.parameters.length)
    (hstack : g.stack = argsL.reverse ++ .ref b :: rest) (hW : 2 * g.monitorRoom + (rest.map fun v => v.category).sum ≤ W9) (hdg : decode c.code g.pc = .ok (.invokevirtual index, 3))
    (hpre : ∀ vm₁, s.WarmedH vm₁ → Pre ⟨T.setVm vm₁, locs, cells, slots⟩ (Value.ref b :: argsL).toArray) :
    (∃ (v : Option Value) (vm₁ : Vm) (B : Pt), s.WarmedH vm₁ ∧ Stand p l e R s m args below meth c B.U B.locs B.cells B.slots ∧ Post ⟨T.setVm vm₁, locs, cells, slots⟩ (Value.ref b :: argsL).toArray v B ∧
      ∀ target, Steps p.tables e below (B.U.setTop { g with pc := g.pc + 3, stack := v.toList ++ rest }) target → Steps p.tables e below (T.setTop g) target) ∨
    (∃ (q : Addr) (vm₁ : Vm) (B : Pt), s.WarmedH vm₁ ∧ Stand p l e R s m args below meth c B.U B.locs B.cells B.slots ∧ PostX ⟨T.setVm vm₁, locs, cells, slots⟩ (Value.ref b :: argsL).toArray q B ∧
      Steps p.tables e below (T.setTop g) ((B.U.setTop { g with stack := rest }).pushFrame (.throwing q))) := by
  obtain ⟨mk, methM, hnamed, hmethM, hstM, habM⟩ := Cond.instanceMethod_spec hinst
  obtain ⟨m8, methM', cM, hn8, hmethM', -, -, -, -, -, -, hsigM⟩ := Cond.codeWith_spec hcode
  cases Option.some.inj (hn8.symm.trans hnamed)
  cases hmethM.symm.trans hmethM'
  obtain ⟨c2, r2, m2, q1, q2, q3, q4, kP, hkP, hkPi⟩ := Cond.selects_spec hsel
  cases hcls.symm.trans q1
  cases (State.methodFound?_of_named hnamed hy).symm.trans q2
  cases hnamed.symm.trans q3
  have hselP : selectMethod e.platform s.vm cellB.cls mk = .method mk := by rw [Launch.admits_selectMethod X.admits]; exact q4
  obtain ⟨vm₁, X₁, hstep₁⟩ := X.invokevirtual hexec hown hlink hnamed hmethM hstM hkP hkPi hy (a := b) (cell := cellB) hcell
    (fun z h => by rw [h] at hobj; cases hobj) hselP hmethM habM hkP hkPi (g := g) hg (argsL := argsL) (rest := rest) (hlen _ hsigM) hstack hdg
  rcases hK m meth c ⟨T.setVm vm₁, locs, cells, slots⟩ { g with stack := rest } (.invokevirtual index) mk (Value.ref b :: argsL).toArray X₁ hg hsize hdg hW (X₁.named hnamed) (hpre vm₁ X₁.warmed) with ⟨v, B, X', hpost, hsteps⟩ | ⟨q, B, X', hpost, hsteps⟩
  · exact Or.inl ⟨v, vm₁, B, X₁.warmed, X', hpost, fun target h => hstep₁ _ fun acts => by rw [doInvoke_state]; exact hsteps.trans h⟩
  · exact Or.inr ⟨q, vm₁, B, X₁.warmed, X', hpost, hstep₁ _ fun acts => by rw [doInvoke_state]; exact hsteps⟩
theorem vx_callSX (X : Stand p l e R s m args below meth c T locs cells slots) (hexec : p.tables.exec = Jvm.exec) {own : String} {index : Nat} {y : MethodName} {bytes : ByteArray} {maxL : Nat} {ret : Option FieldType} {hh : List (Nat × Nat × Nat × Nat)}
    (hown : s.vm.findClass own = some m.cls) (hlink : (Cond.methodLink own index y).before args s = true) (hstat : (Cond.static y).before args s = true) (hinit : (Cond.initialized y.cls).before args s = true)
    (hcode : (Cond.codeWith y bytes maxL ret hh).before args s = true) (hy : y.cls ≠ "java/lang/invoke/MethodHandle" ∧ y.cls ≠ "java/lang/invoke/VarHandle")
    {W9 : Nat} {Pre : Pt → Array Value → Prop} {Post : Pt → Array Value → Option Value → Pt → Prop} {PostX : Pt → Array Value → Addr → Pt → Prop} (hK : vx_Back l R p e below s args y 3 W9 Pre Post PostX)
    {g : JFrame} (hg : g.method = m) (hsize : g.locals.size = c.maxLocals) {argsL rest : List Value} (hlen : ∀ sig, parseMethodDescriptor y.desc = some sig → argsL.length = sig.parameters.length)
    (hstack : g.stack = argsL.reverse ++ rest) (hW : 2 * g.monitorRoom + (rest.map fun v => v.category).sum ≤ W9) (hdg : decode c.code g.pc = .ok (.invokestatic index, 3))
    (hpre : ∀ vm₁, s.WarmedH vm₁ → Pre ⟨T.setVm vm₁, locs, cells, slots⟩ argsL.toArray) :
    (∃ (v : Option Value) (vm₁ : Vm) (B : Pt), s.WarmedH vm₁ ∧ Stand p l e R s m args below meth c B.U B.locs B.cells B.slots ∧ Post ⟨T.setVm vm₁, locs, cells, slots⟩ argsL.toArray v B ∧
      ∀ target, Steps p.tables e below (B.U.setTop { g with pc := g.pc + 3, stack := v.toList ++ rest }) target → Steps p.tables e below (T.setTop g) target) ∨
    (∃ (q : Addr) (vm₁ : Vm) (B : Pt), s.WarmedH vm₁ ∧ Stand p l e R s m args below meth c B.U B.locs B.cells B.slots ∧ PostX ⟨T.setVm vm₁, locs, cells, slots⟩ argsL.toArray q B ∧
      Steps p.tables e below (T.setTop g) ((B.U.setTop { g with stack := rest }).pushFrame (.throwing q))) := by
  obtain ⟨mk, methM, cM, hnamed, hmethM, -, -, -, -, -, -, hsigM⟩ := Cond.codeWith_spec hcode
  have hstatic : methM.isStatic = true := Cond.static_spec hnamed hmethM hstat
  obtain ⟨kP, hkP, -⟩ := className_of_methodNamed hnamed
  have hinitP : kP.init = .initialized := Cond.initialized_spec (findClass_of_methodNamed hnamed) hkP hinit
  obtain ⟨vm₁, X₁, hstep₁⟩ := X.invokestatic hexec hown hlink hnamed hmethM hstatic hkP hinitP hy (g := g) hg (argsL := argsL) (rest := rest) (hlen _ hsigM) hstack hdg
  rcases hK m meth c ⟨T.setVm vm₁, locs, cells, slots⟩ { g with stack := rest } (.invokestatic index) mk argsL.toArray X₁ hg hsize hdg hW (X₁.named hnamed) (hpre vm₁ X₁.warmed) with ⟨v, B, X', hpost, hsteps⟩ | ⟨q, B, X', hpost, hsteps⟩
  · exact Or.inl ⟨v, vm₁, B, X₁.warmed, X', hpost, fun target h => hstep₁ _ fun acts => by rw [doInvoke_state]; exact hsteps.trans h⟩
  · exact Or.inr ⟨q, vm₁, B, X₁.warmed, X', hpost, hstep₁ _ fun acts => by rw [doInvoke_state]; exact hsteps⟩
theorem vx_callVW (X : Stand p l e R s m args below meth c T locs cells slots) (hexec : p.tables.exec = Jvm.exec) {own C : String} {index : Nat} {y : MethodName} {bytes : ByteArray} {maxL : Nat} {ret : Option FieldType} {hh : List (Nat × Nat × Nat × Nat)}
    (hown : s.vm.findClass own = some m.cls) (hlink : (Cond.methodLink own index y).before args s = true) (hinst : (Cond.instanceMethod y).before args s = true) (hsel : (Cond.selects C y y).before args s = true)
    (hcode : (Cond.codeWith y bytes maxL ret hh).before args s = true) (hy : y.cls ≠ "java/lang/invoke/MethodHandle" ∧ y.cls ≠ "java/lang/invoke/VarHandle")
    {W9 : Nat} {Pre : Pt → Array Value → Prop} {Post : Pt → Array Value → Option Value → Pt → Prop} (hK : Back l R p e below s args y 3 W9 Pre Post)
    {b : Addr} {cellB : Cell} (hcell : T.heap[b]? = some cellB) (hobj : cellB.vm.isStatics = false) (hcls : s.vm.findClass C = some cellB.cls)
    {g : JFrame} (hg : g.method = m) (hsize : g.locals.size = c.maxLocals) {argsL rest : List Value} (hlen : ∀ sig, parseMethodDescriptor y.desc = some sig → argsL.length = sig.parameters.length)
    (hstack : g.stack = argsL.reverse ++ .ref b :: rest) (hW : 2 * g.monitorRoom + (rest.map fun v => v.category).sum ≤ W9) (hdg : decode c.code g.pc = .ok (.invokevirtual index, 3))
    (hpre : ∀ vm₁, s.WarmedH vm₁ → Pre ⟨T.setVm vm₁, locs, cells, slots⟩ (Value.ref b :: argsL).toArray) :
    ∃ (v : Option Value) (vm₁ : Vm) (B : Pt), s.WarmedH vm₁ ∧ Stand p l e R s m args below meth c B.U B.locs B.cells B.slots ∧ Post ⟨T.setVm vm₁, locs, cells, slots⟩ (Value.ref b :: argsL).toArray v B ∧
      ∀ target, Steps p.tables e below (B.U.setTop { g with pc := g.pc + 3, stack := v.toList ++ rest }) target → Steps p.tables e below (T.setTop g) target := by
  obtain ⟨mk, methM, hnamed, hmethM, hstM, habM⟩ := Cond.instanceMethod_spec hinst
  obtain ⟨m8, methM', cM, hn8, hmethM', -, -, -, -, -, -, hsigM⟩ := Cond.codeWith_spec hcode
  cases Option.some.inj (hn8.symm.trans hnamed)
  cases hmethM.symm.trans hmethM'
  obtain ⟨c2, r2, m2, q1, q2, q3, q4, kP, hkP, hkPi⟩ := Cond.selects_spec hsel
  cases hcls.symm.trans q1
  cases (State.methodFound?_of_named hnamed hy).symm.trans q2
  cases hnamed.symm.trans q3
  have hselP : selectMethod e.platform s.vm cellB.cls mk = .method mk := by rw [Launch.admits_selectMethod X.admits]; exact q4
  obtain ⟨vm₁, X₁, hstep₁⟩ := X.invokevirtual hexec hown hlink hnamed hmethM hstM hkP hkPi hy (a := b) (cell := cellB) hcell
    (fun z h => by rw [h] at hobj; cases hobj) hselP hmethM habM hkP hkPi (g := g) hg (argsL := argsL) (rest := rest) (hlen _ hsigM) hstack hdg
  obtain ⟨v, B, X', hpost, hsteps⟩ := hK m meth c ⟨T.setVm vm₁, locs, cells, slots⟩ { g with stack := rest } (.invokevirtual index) mk (Value.ref b :: argsL).toArray X₁ hg hsize hdg hW (X₁.named hnamed) (hpre vm₁ X₁.warmed)
  exact ⟨v, vm₁, B, X₁.warmed, X', hpost, fun target h => hstep₁ _ fun acts => by rw [doInvoke_state]; exact hsteps.trans h⟩
abbrev vx_CVW (R : Room) (s : State) (args : Array Value) (own C : String) (index : Nat) (y : MethodName) (bytes : ByteArray) (maxL : Nat) (ret : Option FieldType) (hh : List (Nat × Nat × Nat × Nat)) (ws : List Cond) (rm : Room) (mc ms n : Nat) : Prop :=
  (rm.cells = mc ∧ rm.slots = ms ∧ rm.frames + 1 ≤ R.frames ∧ 8 + (maxL + 11) + rm.locals ≤ R.locals ∧ (∀ w ∈ ws, ∀ (a' : Array Value) (U : State), s.WarmedH U.vm → w.before a' U = true) ∧ Cond.codeWith y bytes maxL ret hh ∈ ws) ∧
  (Cond.codeWith y bytes maxL ret hh).before args s = true ∧ (Cond.initialized y.cls).before args s = true ∧ (y.cls ≠ "java/lang/invoke/MethodHandle" ∧ y.cls ≠ "java/lang/invoke/VarHandle") ∧
  (∀ sig, parseMethodDescriptor y.desc = some sig → n = sig.parameters.length) ∧ (Cond.methodLink own index y).before args s = true ∧ (Cond.instanceMethod y).before args s = true ∧ (Cond.selects C y y).before args s = true
theorem vx_cwVW {own C : String} {index maxL mc ms : Nat} {y : MethodName} {bytes : ByteArray} {ret : Option FieldType} {hh : List (Nat × Nat × Nat × Nat)} {Ts ws ws' : List Cond} {rm : Room} (n : Nat) (ht : ∀ w ∈ Ts, w.before args s = true) (hT : GoodIn Ts (wsV own index C y ws)) (hw : ws = Cond.codeWith y bytes maxL ret hh :: ws') (hrc : rm.cells = mc) (hrs : rm.slots = ms)
    (hd : y.cls = C ∧ y.cls ≠ "java/lang/invoke/MethodHandle" ∧ y.cls ≠ "java/lang/invoke/VarHandle" ∧ (parseMethodDescriptor y.desc).map (fun d => d.parameters.length) = some n) (hR : rm.frames + 1 ≤ R.frames ∧ 8 + (maxL + 11) + rm.locals ≤ R.locals) :
    vx_CVW R s args own C index y bytes maxL ret hh ws rm mc ms n := by
  obtain ⟨hC, hd⟩ := hd
  subst hC
  have ok : ∀ w ∈ wsV own index y.cls y ws, w.before args s = true := fun w h => ht w (hT w h).1
  have hG : GoodIn Ts ws := fun w h => hT w (by unfold wsV; exact List.mem_append_right _ h)
  have hc : Cond.codeWith y bytes maxL ret hh ∈ ws := by rw [hw]; exact List.mem_cons_self
  refine ⟨⟨hrc, hrs, hR.1, hR.2, pay_in ht hG, hc⟩, ht _ (hG _ hc).1, ok _ (by simp [wsV]), ⟨hd.1, hd.2.1⟩, fun sig h => ?_, ok _ (by simp [wsV]), ok _ (by simp [wsV]), ok _ (by simp [wsV])⟩
  have h2 := hd.2.2
  rw [h] at h2
  exact (Option.some.inj h2).symm
theorem vx_runVW {y : MethodName} {bytes cc : ByteArray} {maxL nL mc ms n index : Nat} {ret : Option FieldType} {hh : List (Nat × Nat × Nat × Nat)} {ws : List Cond} {rm : Room} {Pc : Array Value → State → Prop} {Qc : Array Value → State → Outcome → State → Prop} {free : Addr → Prop} {Ts : List Cond} {own C : String} {b : Addr} {As rest : List Value} {g : JFrame}
    (S : CallFix p m c cc nL s args Ts own) (hM : Met l y ws rm Pc Qc mc ms free) (cw : vx_CVW R s args own C index y bytes maxL ret hh ws rm mc ms n) (hp : PreV s H C b Pc As)
    (hg : g.method = m) (hn : As.length = n) (hsize : g.locals.size = nL) (hstack : g.stack = As.reverse ++ .ref b :: rest) (hW : 2 * g.monitorRoom + (rest.map fun v => v.category).sum ≤ 8) (hdg : decode cc g.pc = .ok (.invokevirtual index, 3)) (hf : cells + mc ≤ R.cells ∧ slots + ms ≤ R.slots) :
    va_Run p l e R s m args below meth c H locs cells slots mc ms g rest (Qc (Value.ref b :: As).toArray) free := by
  obtain ⟨⟨hrc, hrs, hfr, hlo, hws, hcw⟩, hcode, hini, hy, hlen, hl, hin, hse⟩ := cw
  have hK : Back l R p e below s args y 3 8 (PreOf R mc ms Pc) (PostOf Qc mc ms free) := va_backW (hh := hh) (bytes := bytes) (maxL := maxL) (ret := ret) hM hp.1 hrc hrs hfr hlo hws hcw (fun a' U hW => word_at hW (Or.inl (by first | rfl | simp [Cond.onTables, Cond.keeps, Cond.steady])) hini)
  obtain ⟨hx, hb, hml, ho, -⟩ := S
  obtain ⟨-, ⟨cellB, hcB, hoB, hclB⟩, hPc⟩ := hp
  intro T hT X
  obtain ⟨v, vm₁, ⟨U', l2, c2, s2⟩, hW₁, X', ⟨g', mk, t, L, e1, e2, hq, h1, hL, h2, h3⟩, st⟩ := vx_callVW X hx (C := C) (hh := hh) (bytes := bytes) (maxL := maxL) (ret := ret) ho hl hin hse hcode hy hK (by rw [hT]; exact hcB) hoB hclB hg (hsize.trans hml.symm) (argsL := As) (rest := rest) (fun sig h => hn.trans (hlen sig h)) hstack hW (by rw [hb]; exact hdg)
    (fun vm₁ hW₁ => ⟨hf.1, hf.2, hPc (T.setVm vm₁) hT hW₁⟩)
  dsimp only [Pt.U, Pt.locs, Pt.cells, Pt.slots] at X' e1 e2 h1 h2 h3 st
  subst h1; subst h2; subst h3
  exact ⟨v, (T.setVm vm₁).calling g' mk (Value.ref b :: As).toArray, t, U', L, hT, X', hL, e1, e2, hq, st⟩
section
variable {y : MethodName} {bytes cc : ByteArray} {maxL nL mc ms n index : Nat} {ret : Option FieldType} {ws : List Cond} {rm : Room} {Pc : Array Value → State → Prop} {Qc : Array Value → State → Outcome → State → Prop} {XC : String → State → State → Prop} {free : Addr → Prop} {Ts : List Cond} {own C : String} {b : Addr} {As rest : List Value} {g : JFrame}
theorem vx_runVX {hh : List (Nat × Nat × Nat × Nat)} (S : CallFix p m c cc nL s args Ts own) (hM : vx_Met l y ws rm Pc Qc XC mc ms free) (cw : vx_CVW R s args own C index y bytes maxL ret hh ws rm mc ms n) (hp : PreV s H C b Pc As)
    (hg : g.method = m) (hn : As.length = n) (hsize : g.locals.size = nL) (hstack : g.stack = As.reverse ++ .ref b :: rest) (hW : 2 * g.monitorRoom + (rest.map fun v => v.category).sum ≤ 8) (hdg : decode cc g.pc = .ok (.invokevirtual index, 3)) (hf : cells + mc ≤ R.cells ∧ slots + ms ≤ R.slots) :
    vx_Run p l e R s m args below meth c H locs cells slots mc ms g rest (Qc (Value.ref b :: As).toArray) XC free := by
  obtain ⟨⟨hrc, hrs, hfr, hlo, hws, hcw⟩, hcode, hini, hy, hlen, hl, hin, hse⟩ := cw
  have hK : vx_Back l R p e below s args y 3 8 (PreOf R mc ms Pc) (PostOf Qc mc ms free) (vx_Post XC mc ms free) := vx_backW (hh := hh) (bytes := bytes) (maxL := maxL) (ret := ret) hM hp.1 hrc hrs hfr hlo hws hcw (fun a' U hW => word_at hW (Or.inl (by first | rfl | simp [Cond.onTables, Cond.keeps, Cond.steady])) hini)
  obtain ⟨hx, hb, hml, ho, -⟩ := S
  obtain ⟨-, ⟨cellB, hcB, hoB, hclB⟩, hPc⟩ := hp
  intro T hT X
  rcases vx_callVX X hx (C := C) (hh := hh) (bytes := bytes) (maxL := maxL) (ret := ret) ho hl hin hse hcode hy hK (by rw [hT]; exact hcB) hoB hclB hg (hsize.trans hml.symm) (argsL := As) (rest := rest) (fun sig h => hn.trans (hlen sig h)) hstack hW (by rw [hb]; exact hdg)
    (fun vm₁ hW₁ => ⟨hf.1, hf.2, hPc (T.setVm vm₁) hT hW₁⟩) with ⟨v, vm₁, ⟨U', l2, c2, s2⟩, hW₁, X', ⟨g', mk, t, L, e1, e2, hq, h1, hL, h2, h3⟩, st⟩ | ⟨q, vm₁, ⟨U', l2, c2, s2⟩, hW₁, X', ⟨g', mk, t, L, E, ce, e1, e2, hq, hce, hcv, hcl, h1, hL, h2, h3⟩, st⟩
  · dsimp only [Pt.U, Pt.locs, Pt.cells, Pt.slots] at X' e1 e2 h1 h2 h3 st
    subst h1; subst h2; subst h3
    exact Or.inl ⟨v, (T.setVm vm₁).calling g' mk (Value.ref b :: As).toArray, t, U', L, hT, X', hL, e1, e2, hq, st⟩
  · dsimp only [Pt.U, Pt.locs, Pt.cells, Pt.slots] at X' e1 e2 h1 h2 h3 st hcl
    subst h1; subst h2; subst h3
    exact Or.inr ⟨q, (T.setVm vm₁).calling g' mk (Value.ref b :: As).toArray, t, U', L, E, ce, hT, X', hL, e1, e2, hq, hce, hcv, vx_cls hW₁ hcl, st⟩
theorem vx_runSX {hh : List (Nat × Nat × Nat × Nat)} (S : CallFix p m c cc nL s args Ts own) (hM : vx_Met l y ws rm Pc Qc XC mc ms free) (cw : vx_CSW R s args own index y bytes maxL ret hh ws rm mc ms n) (hp : PreS s H Pc As)
    (hg : g.method = m) (hn : As.length = n) (hsize : g.locals.size = nL) (hstack : g.stack = As.reverse ++ rest) (hW : 2 * g.monitorRoom + (rest.map fun v => v.category).sum ≤ 8) (hdg : decode cc g.pc = .ok (.invokestatic index, 3)) (hf : cells + mc ≤ R.cells ∧ slots + ms ≤ R.slots) :
    vx_Run p l e R s m args below meth c H locs cells slots mc ms g rest (Qc As.toArray) XC free := by
  obtain ⟨⟨hrc, hrs, hfr, hlo, hws, hcw⟩, hcode, hini, hy, hlen, hl, hstt⟩ := cw
  have hK : vx_Back l R p e below s args y 3 8 (PreOf R mc ms Pc) (PostOf Qc mc ms free) (vx_Post XC mc ms free) := vx_backW (hh := hh) (bytes := bytes) (maxL := maxL) (ret := ret) hM hp.1 hrc hrs hfr hlo hws hcw (fun a' U hW => word_at hW (Or.inl (by first | rfl | simp [Cond.onTables, Cond.keeps, Cond.steady])) hini)
  obtain ⟨hx, hb, hml, ho, -⟩ := S
  intro T hT X
  rcases vx_callSX X hx (hh := hh) (bytes := bytes) (maxL := maxL) (ret := ret) ho hl hstt hini hcode hy hK hg (hsize.trans hml.symm) (argsL := As) (rest := rest) (fun sig h => hn.trans (hlen sig h)) hstack hW (by rw [hb]; exact hdg)
    (fun vm₁ hW₁ => ⟨hf.1, hf.2, hp.2 (T.setVm vm₁) hT hW₁⟩) with ⟨v, vm₁, ⟨U', l2, c2, s2⟩, hW₁, X', ⟨g', mk, t, L, e1, e2, hq, h1, hL, h2, h3⟩, st⟩ | ⟨q, vm₁, ⟨U', l2, c2, s2⟩, hW₁, X', ⟨g', mk, t, L, E, ce, e1, e2, hq, hce, hcv, hcl, h1, hL, h2, h3⟩, st⟩
  · dsimp only [Pt.U, Pt.locs, Pt.cells, Pt.slots] at X' e1 e2 h1 h2 h3 st
    subst h1; subst h2; subst h3
    exact Or.inl ⟨v, (T.setVm vm₁).calling g' mk As.toArray, t, U', L, hT, X', hL, e1, e2, hq, st⟩
  · dsimp only [Pt.U, Pt.locs, Pt.cells, Pt.slots] at X' e1 e2 h1 h2 h3 st hcl
    subst h1; subst h2; subst h3
    exact Or.inr ⟨q, (T.setVm vm₁).calling g' mk As.toArray, t, U', L, E, ce, hT, X', hL, e1, e2, hq, hce, hcv, vx_cls hW₁ hcl, st⟩
end
end VXH
theorem vx_ofWH {l : Launch} {y : MethodName} {ws ws' : List Cond} {rm : Room} {Pc : Array Value → State → Prop} {Qc : Array Value → State → Outcome → State → Prop} {XC : String → State → State → Prop} {mc ms : Nat} {free : Addr → Prop} {cc : ByteArray} {maxL : Nat} {ret : Option FieldType} {hh : List (Nat × Nat × Nat × Nat)}
    (hy : plainName y.cls = true) (hw : ws = Cond.codeWith y cc maxL ret hh :: ws')
    (body : ∀ p e s m args below meth c s₁, BodyLoose p l y (headSpec ws rm) cc maxL ret e s m args below meth c s₁ → c.maxLocals = maxL → Pc args s →
      W p l e (headSpec ws rm).room s m args below meth c s.heap [] 0 0 (vx_MQ below Qc XC args s mc ms free) (entryFrame m args maxL)) : vx_Met l y ws rm Pc Qc XC mc ms free := by
  refine MetFree.of_bodyS (code := cc) (maxLocals := maxL) (ret := ret) hy ?_ ?_
  · intro args s m h hn
    obtain ⟨m9, meth, c, hn9, h1, h2, h3, h4, -, h5, h6, -⟩ := Cond.codeWith_spec (atoms_spec (ws := ws) h _ (by rw [hw]; exact List.mem_cons_self))
    cases hn.symm.trans hn9
    exact ⟨meth, c, h1, h2, h3, h4, h5, h6⟩
  · intro p e s m args below meth c s₁ B hml hP _
    have hh0 : s₁.heap = s.heap := by rw [B.state]; rfl
    obtain ⟨t, a1, o, b1, b2, b3⟩ := body p e s m args below meth c s₁ B hml hP s₁ hh0 (Stand.of_body B)
    exact ⟨t, o, a1, b1, b2, b3⟩
/-! ===== END ===== -/
end
section
/-! ===== BEGIN printed: names, fields, word lists, decode rows ===== -/
def RX0 : String := "LineLearner$Aligner"
def TX0 : u_T := fun k => match k with
  | 0 => ("LineLearner$Aligner", "lines", "LLineLearner$Lines;", true)
  | 1 => ("LineLearner$Aligner", "change", "I", false)
  | 2 => ("LineLearner$Aligner", "skip", "I", false)
  | 3 => ("LineLearner$Aligner", "fresh", "I", false)
  | 4 => ("LineLearner$Aligner", "costs", "[I", true)
  | 5 => ("LineLearner$Aligner", "steps", "[I", true)
  | 6 => ("LineLearner$Aligner", "stepCount", "I", false)
  | 7 => ("LineLearner$Aligner", "freshCount", "I", false)
  | 8 => ("LineLearner$Aligner", "slotsOfTokens", "[I", true)
  | _ => ("LineLearner$Aligner", "reached", "[Z", true)
def tyX0 : Nat → FieldType := fun k => match k with
  | 0 => .object "LineLearner$Lines"
  | 1 => .int
  | 2 => .int
  | 3 => .int
  | 4 => .array .int
  | 5 => .array .int
  | 6 => .int
  | 7 => .int
  | 8 => .array .int
  | _ => .array .boolean
abbrev wsX00 : List Cond := u_ws RX0 TX0 10
theorem nmX0 : ∀ a, a < 10 → ∀ b, b < 10 → a ≠ b → (TX0 a).2.1 ≠ (TX0 b).2.1 := by decide +kernel
theorem tyX0_ok : ∀ k, k < 10 → parseFieldDescriptor (TX0 k).2.2.1 = some (tyX0 k) := by decide +kernel
abbrev cX0_init : ByteArray := prog_2_method_1_code
def yX0_init : MethodName := ⟨RX0, "<init>", "(LLineLearner$Lines;)V"⟩
abbrev cX0_takeCosts : ByteArray := prog_2_method_2_code
def yX0_takeCosts : MethodName := ⟨RX0, "takeCosts", "(III)Z"⟩
abbrev cX0_leastCost : ByteArray := prog_2_method_3_code
def yX0_leastCost : MethodName := ⟨RX0, "leastCost", "(LLineLearner$Format;I)I"⟩
abbrev cX0_fillRow : ByteArray := prog_2_method_4_code
def yX0_fillRow : MethodName := ⟨RX0, "fillRow", "(LLineLearner$Format;II)V"⟩
abbrev cX0_skipCost : ByteArray := prog_2_method_5_code
def yX0_skipCost : MethodName := ⟨RX0, "skipCost", "(LLineLearner$Format;I)I"⟩
abbrev cX0_pairCost : ByteArray := prog_2_method_6_code
def yX0_pairCost : MethodName := ⟨RX0, "pairCost", "(LLineLearner$Format;II)I"⟩
abbrev cX0_align : ByteArray := prog_2_method_7_code
def yX0_align : MethodName := ⟨RX0, "align", "(LLineLearner$Format;I)I"⟩
abbrev cX0_lastStep : ByteArray := prog_2_method_8_code
def yX0_lastStep : MethodName := ⟨RX0, "lastStep", "(LLineLearner$Format;III)I"⟩
abbrev cX0_hasRoom : ByteArray := prog_2_method_9_code
def yX0_hasRoom : MethodName := ⟨RX0, "hasRoom", "(LLineLearner$Format;)Z"⟩
abbrev cX0_join : ByteArray := prog_2_method_10_code
def yX0_join : MethodName := ⟨RX0, "join", "(LLineLearner$Format;I)V"⟩
abbrev cX0_isMatch : ByteArray := prog_2_method_11_code
def yX0_isMatch : MethodName := ⟨RX0, "isMatch", "(LLineLearner$Format;I)Z"⟩
abbrev cX0_canTake : ByteArray := prog_2_method_12_code
def yX0_canTake : MethodName := ⟨RX0, "canTake", "(LLineLearner$Format;II)Z"⟩
def RX1 : String := "LineLearner$Format"
def TX1 : u_T := fun k => match k with
  | 0 => ("LineLearner$Format", "size", "I", false)
  | 1 => ("LineLearner$Format", "joinedLines", "I", false)
  | 2 => ("LineLearner$Format", "order", "[I", true)
  | 3 => ("LineLearner$Format", "kinds", "[I", true)
  | 4 => ("LineLearner$Format", "texts", "[I", true)
  | 5 => ("LineLearner$Format", "least", "[I", true)
  | 6 => ("LineLearner$Format", "greatest", "[I", true)
  | _ => ("LineLearner$Format", "useCounts", "[I", true)
def tyX1 : Nat → FieldType := fun k => match k with
  | 0 => .int
  | 1 => .int
  | 2 => .array .int
  | 3 => .array .int
  | 4 => .array .int
  | 5 => .array .int
  | 6 => .array .int
  | _ => .array .int
abbrev wsX10 : List Cond := u_ws RX1 TX1 8
theorem nmX1 : ∀ a, a < 8 → ∀ b, b < 8 → a ≠ b → (TX1 a).2.1 ≠ (TX1 b).2.1 := by decide +kernel
theorem tyX1_ok : ∀ k, k < 8 → parseFieldDescriptor (TX1 k).2.2.1 = some (tyX1 k) := by decide +kernel
abbrev cX1_init : ByteArray := prog_3_method_1_code
def yX1_init : MethodName := ⟨RX1, "<init>", "()V"⟩
abbrev cX1_makeEmpty : ByteArray := prog_3_method_2_code
def yX1_makeEmpty : MethodName := ⟨RX1, "makeEmpty", "()V"⟩
abbrev cX1_canMiss : ByteArray := prog_3_method_3_code
def yX1_canMiss : MethodName := ⟨RX1, "canMiss", "(I)Z"⟩
abbrev cX1_addSlot : ByteArray := prog_3_method_4_code
def yX1_addSlot : MethodName := ⟨RX1, "addSlot", "(LLineLearner$Lines;I)I"⟩
abbrev cX1_useSlot : ByteArray := prog_3_method_5_code
def yX1_useSlot : MethodName := ⟨RX1, "useSlot", "(ILLineLearner$Lines;I)V"⟩
def RX2 : String := "LineLearner$Lines"
def TX2 : u_T := fun k => match k with
  | 0 => ("LineLearner$Lines", "count", "I", false)
  | 1 => ("LineLearner$Lines", "sizes", "[I", true)
  | 2 => ("LineLearner$Lines", "tokenCounts", "[I", true)
  | 3 => ("LineLearner$Lines", "bytes", "[B", true)
  | 4 => ("LineLearner$Lines", "kinds", "[I", true)
  | 5 => ("LineLearner$Lines", "starts", "[I", true)
  | 6 => ("LineLearner$Lines", "tokenSizes", "[I", true)
  | _ => ("LineLearner$Lines", "texts", "[I", true)
def tyX2 : Nat → FieldType := fun k => match k with
  | 0 => .int
  | 1 => .array .int
  | 2 => .array .int
  | 3 => .array .byte
  | 4 => .array .int
  | 5 => .array .int
  | 6 => .array .int
  | _ => .array .int
abbrev wsX20 : List Cond := u_ws RX2 TX2 8
theorem nmX2 : ∀ a, a < 8 → ∀ b, b < 8 → a ≠ b → (TX2 a).2.1 ≠ (TX2 b).2.1 := by decide +kernel
theorem tyX2_ok : ∀ k, k < 8 → parseFieldDescriptor (TX2 k).2.2.1 = some (tyX2 k) := by decide +kernel
abbrev cX2_init : ByteArray := prog_4_method_1_code
def yX2_init : MethodName := ⟨RX2, "<init>", "()V"⟩
abbrev cX2_add : ByteArray := prog_4_method_2_code
def yX2_add : MethodName := ⟨RX2, "add", "([BI)I"⟩
abbrev cX2_cut : ByteArray := prog_4_method_3_code
def yX2_cut : MethodName := ⟨RX2, "cut", "(I)V"⟩
abbrev cX2_kindOf : ByteArray := prog_4_method_4_code
def yX2_kindOf : MethodName := ⟨RX2, "kindOf", "(I)I"⟩
abbrev cX2_numberTexts : ByteArray := prog_4_method_5_code
def yX2_numberTexts : MethodName := ⟨RX2, "numberTexts", "(I)V"⟩
abbrev cX2_firstAlike : ByteArray := prog_4_method_6_code
def yX2_firstAlike : MethodName := ⟨RX2, "firstAlike", "(II)I"⟩
abbrev cX2_isSameText : ByteArray := prog_4_method_7_code
def yX2_isSameText : MethodName := ⟨RX2, "isSameText", "(II)Z"⟩
abbrev cX2_numberOf : ByteArray := prog_4_method_8_code
def yX2_numberOf : MethodName := ⟨RX2, "numberOf", "(I)I"⟩
def RX3 : String := "LineLearner"
def TX3 : u_T := fun k => match k with
  | 0 => ("LineLearner", "buffer", "[B", true)
  | 1 => ("LineLearner", "buffered", "I", false)
  | 2 => ("LineLearner", "lines", "LLineLearner$Lines;", true)
  | 3 => ("LineLearner", "aligner", "LLineLearner$Aligner;", true)
  | 4 => ("LineLearner", "format", "LLineLearner$Format;", true)
  | 5 => ("LineLearner", "merged", "[Z", true)
  | 6 => ("LineLearner", "usedSlots", "[I", true)
  | 7 => ("LineLearner", "isGrouped", "Z", false)
  | 8 => ("LineLearner", "groupCount", "I", false)
  | 9 => ("LineLearner", "groupsOfLines", "[I", true)
  | _ => ("LineLearner", "groupFormats", "[LLineLearner$Format;", true)
def tyX3 : Nat → FieldType := fun k => match k with
  | 0 => .array .byte
  | 1 => .int
  | 2 => .object "LineLearner$Lines"
  | 3 => .object "LineLearner$Aligner"
  | 4 => .object "LineLearner$Format"
  | 5 => .array .boolean
  | 6 => .array .int
  | 7 => .boolean
  | 8 => .int
  | 9 => .array .int
  | _ => .array (.object "LineLearner$Format")
abbrev wsX30 : List Cond := u_ws RX3 TX3 11
theorem nmX3 : ∀ a, a < 11 → ∀ b, b < 11 → a ≠ b → (TX3 a).2.1 ≠ (TX3 b).2.1 := by decide +kernel
theorem tyX3_ok : ∀ k, k < 11 → parseFieldDescriptor (TX3 k).2.2.1 = some (tyX3 k) := by decide +kernel
abbrev cX3_init : ByteArray := prog_1_method_1_code
def yX3_init : MethodName := ⟨RX3, "<init>", "()V"⟩
abbrev cX3_feed : ByteArray := prog_1_method_2_code
def yX3_feed : MethodName := ⟨RX3, "feed", "(J)I"⟩
abbrev cX3_countBytes : ByteArray := prog_1_method_3_code
def yX3_countBytes : MethodName := ⟨RX3, "countBytes", "(J)I"⟩
abbrev cX3_byteOf : ByteArray := prog_1_method_4_code
def yX3_byteOf : MethodName := ⟨RX3, "byteOf", "(JI)I"⟩
abbrev cX3_store : ByteArray := prog_1_method_5_code
def yX3_store : MethodName := ⟨RX3, "store", "()I"⟩
abbrev cX3_lineCount : ByteArray := prog_1_method_6_code
def yX3_lineCount : MethodName := ⟨RX3, "lineCount", "()I"⟩
abbrev cX3_tokenCount : ByteArray := prog_1_method_7_code
def yX3_tokenCount : MethodName := ⟨RX3, "tokenCount", "(I)I"⟩
abbrev cX3_tokenKind : ByteArray := prog_1_method_8_code
def yX3_tokenKind : MethodName := ⟨RX3, "tokenKind", "(II)I"⟩
abbrev cX3_tokenStart : ByteArray := prog_1_method_9_code
def yX3_tokenStart : MethodName := ⟨RX3, "tokenStart", "(II)I"⟩
abbrev cX3_sameAtFront : ByteArray := prog_1_method_10_code
def yX3_sameAtFront : MethodName := ⟨RX3, "sameAtFront", "(II)I"⟩
abbrev cX3_setCosts : ByteArray := prog_1_method_11_code
def yX3_setCosts : MethodName := ⟨RX3, "setCosts", "(III)Z"⟩
abbrev cX3_isCost : ByteArray := prog_1_method_12_code
def yX3_isCost : MethodName := ⟨RX3, "isCost", "(I)Z"⟩
abbrev cX3_merge : ByteArray := prog_1_method_13_code
def yX3_merge : MethodName := ⟨RX3, "merge", "(I)I"⟩
abbrev cX3_clear : ByteArray := prog_1_method_14_code
def yX3_clear : MethodName := ⟨RX3, "clear", "()I"⟩
abbrev cX3_isMerged : ByteArray := prog_1_method_15_code
def yX3_isMerged : MethodName := ⟨RX3, "isMerged", "(I)Z"⟩
abbrev cX3_costWith : ByteArray := prog_1_method_16_code
def yX3_costWith : MethodName := ⟨RX3, "costWith", "(I)I"⟩
abbrev cX3_fits : ByteArray := prog_1_method_17_code
def yX3_fits : MethodName := ⟨RX3, "fits", "(I)Z"⟩
abbrev cX3_strangest : ByteArray := prog_1_method_18_code
def yX3_strangest : MethodName := ⟨RX3, "strangest", "()I"⟩
abbrev cX3_slotCount : ByteArray := prog_1_method_19_code
def yX3_slotCount : MethodName := ⟨RX3, "slotCount", "()I"⟩
abbrev cX3_slotKind : ByteArray := prog_1_method_20_code
def yX3_slotKind : MethodName := ⟨RX3, "slotKind", "(I)I"⟩
abbrev cX3_textByte : ByteArray := prog_1_method_21_code
def yX3_textByte : MethodName := ⟨RX3, "textByte", "(II)I"⟩
abbrev cX3_sizeOf : ByteArray := prog_1_method_22_code
def yX3_sizeOf : MethodName := ⟨RX3, "sizeOf", "(IZ)I"⟩
abbrev cX3_uses : ByteArray := prog_1_method_23_code
def yX3_uses : MethodName := ⟨RX3, "uses", "(I)I"⟩
abbrev cX3_isOptional : ByteArray := prog_1_method_24_code
def yX3_isOptional : MethodName := ⟨RX3, "isOptional", "(I)Z"⟩
abbrev cX3_tokenAt : ByteArray := prog_1_method_25_code
def yX3_tokenAt : MethodName := ⟨RX3, "tokenAt", "(II)I"⟩
abbrev cX3_numberAt : ByteArray := prog_1_method_26_code
def yX3_numberAt : MethodName := ⟨RX3, "numberAt", "(II)I"⟩
abbrev cX3_distinct : ByteArray := prog_1_method_27_code
def yX3_distinct : MethodName := ⟨RX3, "distinct", "(I)I"⟩
abbrev cX3_isTextBefore : ByteArray := prog_1_method_28_code
def yX3_isTextBefore : MethodName := ⟨RX3, "isTextBefore", "(III)Z"⟩
abbrev cX3_isRising : ByteArray := prog_1_method_29_code
def yX3_isRising : MethodName := ⟨RX3, "isRising", "(I)Z"⟩
abbrev cX3_bits : ByteArray := prog_1_method_30_code
def yX3_bits : MethodName := ⟨RX3, "bits", "()I"⟩
abbrev cX3_bitsOfVarying : ByteArray := prog_1_method_31_code
def yX3_bitsOfVarying : MethodName := ⟨RX3, "bitsOfVarying", "(I)I"⟩
abbrev cX3_saving : ByteArray := prog_1_method_32_code
def yX3_saving : MethodName := ⟨RX3, "saving", "()D"⟩
abbrev cX3_group : ByteArray := prog_1_method_33_code
def yX3_group : MethodName := ⟨RX3, "group", "(I)I"⟩
abbrev cX3_nearestGroup : ByteArray := prog_1_method_34_code
def yX3_nearestGroup : MethodName := ⟨RX3, "nearestGroup", "(II)I"⟩
abbrev cX3_groupOf : ByteArray := prog_1_method_35_code
def yX3_groupOf : MethodName := ⟨RX3, "groupOf", "(I)I"⟩
abbrev cX3_groupSlots : ByteArray := prog_1_method_36_code
def yX3_groupSlots : MethodName := ⟨RX3, "groupSlots", "(I)I"⟩
abbrev cX3_digest : ByteArray := prog_1_method_37_code
def yX3_digest : MethodName := ⟨RX3, "digest", "()J"⟩
abbrev cX3_mixed : ByteArray := prog_1_method_38_code
def yX3_mixed : MethodName := ⟨RX3, "mixed", "(JI)J"⟩
abbrev cX3_addLines : ByteArray := prog_1_method_39_code
def yX3_addLines : MethodName := ⟨RX3, "addLines", "(J)J"⟩
abbrev cX3_addSlots : ByteArray := prog_1_method_40_code
def yX3_addSlots : MethodName := ⟨RX3, "addSlots", "(J)J"⟩
abbrev cX3_needLine : ByteArray := prog_1_method_41_code
def yX3_needLine : MethodName := ⟨RX3, "needLine", "(I)V"⟩
abbrev cX3_needToken : ByteArray := prog_1_method_42_code
def yX3_needToken : MethodName := ⟨RX3, "needToken", "(II)V"⟩
abbrev cX3_neededSlot : ByteArray := prog_1_method_43_code
def yX3_neededSlot : MethodName := ⟨RX3, "neededSlot", "(I)I"⟩
abbrev cX3_needGrouping : ByteArray := prog_1_method_44_code
def yX3_needGrouping : MethodName := ⟨RX3, "needGrouping", "()V"⟩
abbrev cX3_textSize : ByteArray := prog_1_method_45_code
def yX3_textSize : MethodName := ⟨RX3, "textSize", "(I)I"⟩
abbrev cX3_tokenIn : ByteArray := prog_1_method_46_code
def yX3_tokenIn : MethodName := ⟨RX3, "tokenIn", "(II)I"⟩
abbrev cX3_textIn : ByteArray := prog_1_method_47_code
def yX3_textIn : MethodName := ⟨RX3, "textIn", "(II)I"⟩
abbrev cX3_numberIn : ByteArray := prog_1_method_48_code
def yX3_numberIn : MethodName := ⟨RX3, "numberIn", "(II)I"⟩
abbrev cX3_firstByteOf : ByteArray := prog_1_method_49_code
def yX3_firstByteOf : MethodName := ⟨RX3, "firstByteOf", "(I)I"⟩
abbrev cX3_placeOf : ByteArray := prog_1_method_50_code
def yX3_placeOf : MethodName := ⟨RX3, "placeOf", "(II)I"⟩
def RX4 : String := "LineLearnerModel"
def TX4 : u_T := fun k => match k with
  | 0 => ("LineLearnerModel", "thrown", "I", false)
  | 1 => ("LineLearnerModel", "buffered", "I", false)
  | 2 => ("LineLearnerModel", "buffer", "[I", true)
  | 3 => ("LineLearnerModel", "lines", "I", false)
  | 4 => ("LineLearnerModel", "sizes", "[I", true)
  | 5 => ("LineLearnerModel", "text", "[I", true)
  | 6 => ("LineLearnerModel", "tokens", "[I", true)
  | 7 => ("LineLearnerModel", "tokenKinds", "[I", true)
  | 8 => ("LineLearnerModel", "tokenStarts", "[I", true)
  | 9 => ("LineLearnerModel", "tokenSizes", "[I", true)
  | 10 => ("LineLearnerModel", "changeCost", "I", false)
  | 11 => ("LineLearnerModel", "skipCost", "I", false)
  | 12 => ("LineLearnerModel", "freshCost", "I", false)
  | 13 => ("LineLearnerModel", "slots", "[I", true)
  | 14 => ("LineLearnerModel", "merged", "[I", true)
  | 15 => ("LineLearnerModel", "kinds", "[I", true)
  | 16 => ("LineLearnerModel", "texts", "[I", true)
  | 17 => ("LineLearnerModel", "used", "[I", true)
  | 18 => ("LineLearnerModel", "isGrouped", "Z", false)
  | 19 => ("LineLearnerModel", "groups", "I", false)
  | 20 => ("LineLearnerModel", "groupOf", "[I", true)
  | 21 => ("LineLearnerModel", "costs", "[I", true)
  | 22 => ("LineLearnerModel", "steps", "I", false)
  | 23 => ("LineLearnerModel", "way", "[I", true)
  | 24 => ("LineLearnerModel", "newKinds", "[I", true)
  | 25 => ("LineLearnerModel", "newTexts", "[I", true)
  | _ => ("LineLearnerModel", "newUsed", "[I", true)
def tyX4 : Nat → FieldType := fun k => match k with
  | 0 => .int
  | 1 => .int
  | 2 => .array .int
  | 3 => .int
  | 4 => .array .int
  | 5 => .array .int
  | 6 => .array .int
  | 7 => .array .int
  | 8 => .array .int
  | 9 => .array .int
  | 10 => .int
  | 11 => .int
  | 12 => .int
  | 13 => .array .int
  | 14 => .array .int
  | 15 => .array .int
  | 16 => .array .int
  | 17 => .array .int
  | 18 => .boolean
  | 19 => .int
  | 20 => .array .int
  | 21 => .array .int
  | 22 => .int
  | 23 => .array .int
  | 24 => .array .int
  | 25 => .array .int
  | _ => .array .int
abbrev wsX40 : List Cond := u_ws RX4 TX4 27
theorem nmX4 : ∀ a, a < 27 → ∀ b, b < 27 → a ≠ b → (TX4 a).2.1 ≠ (TX4 b).2.1 := by decide +kernel
theorem tyX4_ok : ∀ k, k < 27 → parseFieldDescriptor (TX4 k).2.2.1 = some (tyX4 k) := by decide +kernel
abbrev cX4_init : ByteArray := prog_6_method_1_code
def yX4_init : MethodName := ⟨RX4, "<init>", "()V"⟩
abbrev cX4_thrown : ByteArray := prog_6_method_2_code
def yX4_thrown : MethodName := ⟨RX4, "thrown", "()I"⟩
abbrev cX4_fail : ByteArray := prog_6_method_3_code
def yX4_fail : MethodName := ⟨RX4, "fail", "(I)I"⟩
abbrev cX4_isLine : ByteArray := prog_6_method_4_code
def yX4_isLine : MethodName := ⟨RX4, "isLine", "(I)Z"⟩
abbrev cX4_isSlot : ByteArray := prog_6_method_5_code
def yX4_isSlot : MethodName := ⟨RX4, "isSlot", "(I)Z"⟩
abbrev cX4_feed : ByteArray := prog_6_method_6_code
def yX4_feed : MethodName := ⟨RX4, "feed", "(J)I"⟩
abbrev cX4_kindOf : ByteArray := prog_6_method_7_code
def yX4_kindOf : MethodName := ⟨RX4, "kindOf", "(I)I"⟩
abbrev cX4_store : ByteArray := prog_6_method_8_code
def yX4_store : MethodName := ⟨RX4, "store", "()I"⟩
abbrev cX4_lineCount : ByteArray := prog_6_method_9_code
def yX4_lineCount : MethodName := ⟨RX4, "lineCount", "()I"⟩
abbrev cX4_tokenCount : ByteArray := prog_6_method_10_code
def yX4_tokenCount : MethodName := ⟨RX4, "tokenCount", "(I)I"⟩
abbrev cX4_isToken : ByteArray := prog_6_method_11_code
def yX4_isToken : MethodName := ⟨RX4, "isToken", "(II)Z"⟩
abbrev cX4_tokenKind : ByteArray := prog_6_method_12_code
def yX4_tokenKind : MethodName := ⟨RX4, "tokenKind", "(II)I"⟩
abbrev cX4_tokenStart : ByteArray := prog_6_method_13_code
def yX4_tokenStart : MethodName := ⟨RX4, "tokenStart", "(II)I"⟩
abbrev cX4_areSame : ByteArray := prog_6_method_14_code
def yX4_areSame : MethodName := ⟨RX4, "areSame", "(II)Z"⟩
abbrev cX4_sameAtFront : ByteArray := prog_6_method_15_code
def yX4_sameAtFront : MethodName := ⟨RX4, "sameAtFront", "(II)I"⟩
abbrev cX4_at : ByteArray := prog_6_method_16_code
def yX4_at : MethodName := ⟨RX4, "at", "(II)I"⟩
abbrev cX4_tokenOf : ByteArray := prog_6_method_17_code
def yX4_tokenOf : MethodName := ⟨RX4, "tokenOf", "(III)I"⟩
abbrev cX4_usesOf : ByteArray := prog_6_method_18_code
def yX4_usesOf : MethodName := ⟨RX4, "usesOf", "(II)I"⟩
abbrev cX4_isFree : ByteArray := prog_6_method_19_code
def yX4_isFree : MethodName := ⟨RX4, "isFree", "(II)Z"⟩
abbrev cX4_cell : ByteArray := prog_6_method_20_code
def yX4_cell : MethodName := ⟨RX4, "cell", "(II)I"⟩
abbrev cX4_costOf : ByteArray := prog_6_method_21_code
def yX4_costOf : MethodName := ⟨RX4, "costOf", "(IIIII)I"⟩
abbrev cX4_align : ByteArray := prog_6_method_22_code
def yX4_align : MethodName := ⟨RX4, "align", "(II)I"⟩
abbrev cX4_follow : ByteArray := prog_6_method_23_code
def yX4_follow : MethodName := ⟨RX4, "follow", "(II)V"⟩
abbrev cX4_freshSteps : ByteArray := prog_6_method_24_code
def yX4_freshSteps : MethodName := ⟨RX4, "freshSteps", "()I"⟩
abbrev cX4_mergeInto : ByteArray := prog_6_method_25_code
def yX4_mergeInto : MethodName := ⟨RX4, "mergeInto", "(II)V"⟩
abbrev cX4_setCosts : ByteArray := prog_6_method_26_code
def yX4_setCosts : MethodName := ⟨RX4, "setCosts", "(III)Z"⟩
abbrev cX4_merge : ByteArray := prog_6_method_27_code
def yX4_merge : MethodName := ⟨RX4, "merge", "(I)I"⟩
abbrev cX4_clear : ByteArray := prog_6_method_28_code
def yX4_clear : MethodName := ⟨RX4, "clear", "()I"⟩
abbrev cX4_isMerged : ByteArray := prog_6_method_29_code
def yX4_isMerged : MethodName := ⟨RX4, "isMerged", "(I)Z"⟩
abbrev cX4_costWith : ByteArray := prog_6_method_30_code
def yX4_costWith : MethodName := ⟨RX4, "costWith", "(I)I"⟩
abbrev cX4_extreme : ByteArray := prog_6_method_31_code
def yX4_extreme : MethodName := ⟨RX4, "extreme", "(IZ)I"⟩
abbrev cX4_canPair : ByteArray := prog_6_method_32_code
def yX4_canPair : MethodName := ⟨RX4, "canPair", "(II)Z"⟩
abbrev cX4_fits : ByteArray := prog_6_method_33_code
def yX4_fits : MethodName := ⟨RX4, "fits", "(I)Z"⟩
abbrev cX4_strangest : ByteArray := prog_6_method_34_code
def yX4_strangest : MethodName := ⟨RX4, "strangest", "()I"⟩
abbrev cX4_slotCount : ByteArray := prog_6_method_35_code
def yX4_slotCount : MethodName := ⟨RX4, "slotCount", "()I"⟩
abbrev cX4_slotKind : ByteArray := prog_6_method_36_code
def yX4_slotKind : MethodName := ⟨RX4, "slotKind", "(I)I"⟩
abbrev cX4_textByte : ByteArray := prog_6_method_37_code
def yX4_textByte : MethodName := ⟨RX4, "textByte", "(II)I"⟩
abbrev cX4_sizeOf : ByteArray := prog_6_method_38_code
def yX4_sizeOf : MethodName := ⟨RX4, "sizeOf", "(IZ)I"⟩
abbrev cX4_uses : ByteArray := prog_6_method_39_code
def yX4_uses : MethodName := ⟨RX4, "uses", "(I)I"⟩
abbrev cX4_isOptional : ByteArray := prog_6_method_40_code
def yX4_isOptional : MethodName := ⟨RX4, "isOptional", "(I)Z"⟩
abbrev cX4_tokenAt : ByteArray := prog_6_method_41_code
def yX4_tokenAt : MethodName := ⟨RX4, "tokenAt", "(II)I"⟩
abbrev cX4_numberOf : ByteArray := prog_6_method_42_code
def yX4_numberOf : MethodName := ⟨RX4, "numberOf", "(II)I"⟩
abbrev cX4_numberAt : ByteArray := prog_6_method_43_code
def yX4_numberAt : MethodName := ⟨RX4, "numberAt", "(II)I"⟩
abbrev cX4_distinct : ByteArray := prog_6_method_44_code
def yX4_distinct : MethodName := ⟨RX4, "distinct", "(I)I"⟩
abbrev cX4_isRising : ByteArray := prog_6_method_45_code
def yX4_isRising : MethodName := ⟨RX4, "isRising", "(I)Z"⟩
abbrev cX4_allBits : ByteArray := prog_6_method_46_code
def yX4_allBits : MethodName := ⟨RX4, "allBits", "()I"⟩
abbrev cX4_bits : ByteArray := prog_6_method_47_code
def yX4_bits : MethodName := ⟨RX4, "bits", "()I"⟩
abbrev cX4_saving : ByteArray := prog_6_method_48_code
def yX4_saving : MethodName := ⟨RX4, "saving", "()D"⟩
abbrev cX4_group : ByteArray := prog_6_method_49_code
def yX4_group : MethodName := ⟨RX4, "group", "(I)I"⟩
abbrev cX4_groupOf : ByteArray := prog_6_method_50_code
def yX4_groupOf : MethodName := ⟨RX4, "groupOf", "(I)I"⟩
abbrev cX4_groupSlots : ByteArray := prog_6_method_51_code
def yX4_groupSlots : MethodName := ⟨RX4, "groupSlots", "(I)I"⟩
abbrev cX4_digest : ByteArray := prog_6_method_52_code
def yX4_digest : MethodName := ⟨RX4, "digest", "()J"⟩
def RJ6 : String := "java/lang/Integer"
def TJ6 : u_T := fun k => match k with
  | _ => ("", "", "", false)
def tyJ6 : Nat → FieldType := fun k => match k with
  | _ => .int
abbrev wsJ60 : List Cond := u_ws RJ6 TJ6 0
theorem nmJ6 : ∀ a, a < 0 → ∀ b, b < 0 → a ≠ b → (TJ6 a).2.1 ≠ (TJ6 b).2.1 := by decide +kernel
theorem tyJ6_ok : ∀ k, k < 0 → parseFieldDescriptor (TJ6 k).2.2.1 = some (tyJ6 k) := by decide +kernel
abbrev cJ6_bitCount_0f7a4 : ByteArray := prog_11_method_49_code
def yJ6_bitCount_0f7a4 : MethodName := ⟨RJ6, "bitCount", "(I)I"⟩
def RJ9 : String := "java/lang/Math"
def TJ9 : u_T := fun k => match k with
  | _ => ("", "", "", false)
def tyJ9 : Nat → FieldType := fun k => match k with
  | _ => .int
abbrev wsJ90 : List Cond := u_ws RJ9 TJ9 0
theorem nmJ9 : ∀ a, a < 0 → ∀ b, b < 0 → a ≠ b → (TJ9 a).2.1 ≠ (TJ9 b).2.1 := by decide +kernel
theorem tyJ9_ok : ∀ k, k < 0 → parseFieldDescriptor (TJ9 k).2.2.1 = some (tyJ9 k) := by decide +kernel
abbrev cJ9_max_7cf53 : ByteArray := prog_12_method_65_code
def yJ9_max_7cf53 : MethodName := ⟨RJ9, "max", "(II)I"⟩
abbrev cJ9_min_7cf53 : ByteArray := prog_12_method_69_code
def yJ9_min_7cf53 : MethodName := ⟨RJ9, "min", "(II)I"⟩
def RJ0 : String := "java/lang/String"
def TJ0 : u_T := fun k => match k with
  | _ => ("", "", "", false)
def tyJ0 : Nat → FieldType := fun k => match k with
  | _ => .int
abbrev wsJ00 : List Cond := u_ws RJ0 TJ0 0
theorem nmJ0 : ∀ a, a < 0 → ∀ b, b < 0 → a ≠ b → (TJ0 a).2.1 ≠ (TJ0 b).2.1 := by decide +kernel
theorem tyJ0_ok : ∀ k, k < 0 → parseFieldDescriptor (TJ0 k).2.2.1 = some (tyJ0 k) := by decide +kernel
def RL : String := "LineLearnerLaw"
abbrev cL_feed : ByteArray := method_3_code
def yL_feed : MethodName := ⟨RL, "feed", "(LLineLearner;J[J)I"⟩
abbrev cL_store : ByteArray := method_4_code
def yL_store : MethodName := ⟨RL, "store", "(LLineLearner;[J)I"⟩
abbrev cL_tokenCount : ByteArray := method_5_code
def yL_tokenCount : MethodName := ⟨RL, "tokenCount", "(LLineLearner;I[J)I"⟩
abbrev cL_tokenKind : ByteArray := method_6_code
def yL_tokenKind : MethodName := ⟨RL, "tokenKind", "(LLineLearner;II[J)I"⟩
abbrev cL_tokenStart : ByteArray := method_7_code
def yL_tokenStart : MethodName := ⟨RL, "tokenStart", "(LLineLearner;II[J)I"⟩
abbrev cL_sameAtFront : ByteArray := method_8_code
def yL_sameAtFront : MethodName := ⟨RL, "sameAtFront", "(LLineLearner;II[J)I"⟩
abbrev cL_setCosts : ByteArray := method_9_code
def yL_setCosts : MethodName := ⟨RL, "setCosts", "(LLineLearner;III[J)I"⟩
abbrev cL_merge : ByteArray := method_10_code
def yL_merge : MethodName := ⟨RL, "merge", "(LLineLearner;I[J)I"⟩
abbrev cL_isMerged : ByteArray := method_11_code
def yL_isMerged : MethodName := ⟨RL, "isMerged", "(LLineLearner;I[J)I"⟩
abbrev cL_costWith : ByteArray := method_12_code
def yL_costWith : MethodName := ⟨RL, "costWith", "(LLineLearner;I[J)I"⟩
abbrev cL_fits : ByteArray := method_13_code
def yL_fits : MethodName := ⟨RL, "fits", "(LLineLearner;I[J)I"⟩
abbrev cL_slotKind : ByteArray := method_14_code
def yL_slotKind : MethodName := ⟨RL, "slotKind", "(LLineLearner;I[J)I"⟩
abbrev cL_textByte : ByteArray := method_15_code
def yL_textByte : MethodName := ⟨RL, "textByte", "(LLineLearner;II[J)I"⟩
abbrev cL_sizeOf : ByteArray := method_16_code
def yL_sizeOf : MethodName := ⟨RL, "sizeOf", "(LLineLearner;IZ[J)I"⟩
abbrev cL_uses : ByteArray := method_17_code
def yL_uses : MethodName := ⟨RL, "uses", "(LLineLearner;I[J)I"⟩
abbrev cL_isOptional : ByteArray := method_18_code
def yL_isOptional : MethodName := ⟨RL, "isOptional", "(LLineLearner;I[J)I"⟩
abbrev cL_tokenAt : ByteArray := method_19_code
def yL_tokenAt : MethodName := ⟨RL, "tokenAt", "(LLineLearner;II[J)I"⟩
abbrev cL_numberAt : ByteArray := method_20_code
def yL_numberAt : MethodName := ⟨RL, "numberAt", "(LLineLearner;II[J)I"⟩
abbrev cL_distinct : ByteArray := method_21_code
def yL_distinct : MethodName := ⟨RL, "distinct", "(LLineLearner;I[J)I"⟩
abbrev cL_isRising : ByteArray := method_22_code
def yL_isRising : MethodName := ⟨RL, "isRising", "(LLineLearner;I[J)I"⟩
abbrev cL_group : ByteArray := method_23_code
def yL_group : MethodName := ⟨RL, "group", "(LLineLearner;I[J)I"⟩
abbrev cL_groupOf : ByteArray := method_24_code
def yL_groupOf : MethodName := ⟨RL, "groupOf", "(LLineLearner;I[J)I"⟩
abbrev cL_groupSlots : ByteArray := method_25_code
def yL_groupSlots : MethodName := ⟨RL, "groupSlots", "(LLineLearner;I[J)I"⟩
abbrev cL_law : ByteArray := code
def yL_law : MethodName := ⟨RL, "law", "([I)Z"⟩
end
section
theorem dX0_init_0 : decode cX0_init 0 = .ok (.aload_n 0, 1) := by decide +kernel
theorem dX0_init_1 : decode cX0_init 1 = .ok (.invokespecial 3, 3) := by decide +kernel
theorem dX0_init_4 : decode cX0_init 4 = .ok (.aload_n 0, 1) := by decide +kernel
theorem dX0_init_5 : decode cX0_init 5 = .ok (.iconst 2, 1) := by decide +kernel
theorem dX0_init_6 : decode cX0_init 6 = .ok (.putfield 9, 3) := by decide +kernel
theorem dX0_init_9 : decode cX0_init 9 = .ok (.aload_n 0, 1) := by decide +kernel
theorem dX0_init_10 : decode cX0_init 10 = .ok (.iconst 3, 1) := by decide +kernel
theorem dX0_init_11 : decode cX0_init 11 = .ok (.putfield 15, 3) := by decide +kernel
theorem dX0_init_14 : decode cX0_init 14 = .ok (.aload_n 0, 1) := by decide +kernel
theorem dX0_init_15 : decode cX0_init 15 = .ok (.iconst 4, 1) := by decide +kernel
theorem dX0_init_16 : decode cX0_init 16 = .ok (.putfield 18, 3) := by decide +kernel
theorem dX0_init_19 : decode cX0_init 19 = .ok (.aload_n 0, 1) := by decide +kernel
theorem dX0_init_20 : decode cX0_init 20 = .ok (.sipush 1271, 3) := by decide +kernel
theorem dX0_init_23 : decode cX0_init 23 = .ok (.newarray .int, 2) := by decide +kernel
theorem dX0_init_25 : decode cX0_init 25 = .ok (.putfield 21, 3) := by decide +kernel
theorem dX0_init_28 : decode cX0_init 28 = .ok (.aload_n 0, 1) := by decide +kernel
theorem dX0_init_29 : decode cX0_init 29 = .ok (.bipush 70, 2) := by decide +kernel
theorem dX0_init_31 : decode cX0_init 31 = .ok (.newarray .int, 2) := by decide +kernel
theorem dX0_init_33 : decode cX0_init 33 = .ok (.putfield 25, 3) := by decide +kernel
theorem dX0_init_36 : decode cX0_init 36 = .ok (.aload_n 0, 1) := by decide +kernel
theorem dX0_init_37 : decode cX0_init 37 = .ok (.bipush 30, 2) := by decide +kernel
theorem dX0_init_39 : decode cX0_init 39 = .ok (.newarray .int, 2) := by decide +kernel
theorem dX0_init_41 : decode cX0_init 41 = .ok (.putfield 28, 3) := by decide +kernel
theorem dX0_init_44 : decode cX0_init 44 = .ok (.aload_n 0, 1) := by decide +kernel
theorem dX0_init_45 : decode cX0_init 45 = .ok (.bipush 31, 2) := by decide +kernel
theorem dX0_init_47 : decode cX0_init 47 = .ok (.newarray .boolean, 2) := by decide +kernel
theorem dX0_init_49 : decode cX0_init 49 = .ok (.putfield 31, 3) := by decide +kernel
theorem dX0_init_52 : decode cX0_init 52 = .ok (.aload_n 0, 1) := by decide +kernel
theorem dX0_init_53 : decode cX0_init 53 = .ok (.aload_n 1, 1) := by decide +kernel
theorem dX0_init_54 : decode cX0_init 54 = .ok (.putfield 35, 3) := by decide +kernel
theorem dX0_init_57 : decode cX0_init 57 = .ok (.return_, 1) := by decide +kernel
theorem dX0_takeCosts_0 : decode cX0_takeCosts 0 = .ok (.iload_n 1, 1) := by decide +kernel
theorem dX0_takeCosts_1 : decode cX0_takeCosts 1 = .ok (.aload_n 0, 1) := by decide +kernel
theorem dX0_takeCosts_2 : decode cX0_takeCosts 2 = .ok (.getfield 9, 3) := by decide +kernel
theorem dX0_takeCosts_5 : decode cX0_takeCosts 5 = .ok (.if_icmp .ne 19, 3) := by decide +kernel
theorem dX0_takeCosts_8 : decode cX0_takeCosts 8 = .ok (.iload_n 2, 1) := by decide +kernel
theorem dX0_takeCosts_9 : decode cX0_takeCosts 9 = .ok (.aload_n 0, 1) := by decide +kernel
theorem dX0_takeCosts_10 : decode cX0_takeCosts 10 = .ok (.getfield 15, 3) := by decide +kernel
theorem dX0_takeCosts_13 : decode cX0_takeCosts 13 = .ok (.if_icmp .ne 11, 3) := by decide +kernel
theorem dX0_takeCosts_16 : decode cX0_takeCosts 16 = .ok (.iload_n 3, 1) := by decide +kernel
theorem dX0_takeCosts_17 : decode cX0_takeCosts 17 = .ok (.aload_n 0, 1) := by decide +kernel
theorem dX0_takeCosts_18 : decode cX0_takeCosts 18 = .ok (.getfield 18, 3) := by decide +kernel
theorem dX0_takeCosts_21 : decode cX0_takeCosts 21 = .ok (.if_icmp .eq 7, 3) := by decide +kernel
theorem dX0_takeCosts_24 : decode cX0_takeCosts 24 = .ok (.iconst 1, 1) := by decide +kernel
theorem dX0_takeCosts_25 : decode cX0_takeCosts 25 = .ok (.goto 4, 3) := by decide +kernel
theorem dX0_takeCosts_28 : decode cX0_takeCosts 28 = .ok (.iconst 0, 1) := by decide +kernel
theorem dX0_takeCosts_29 : decode cX0_takeCosts 29 = .ok (.istore 4, 2) := by decide +kernel
theorem dX0_takeCosts_31 : decode cX0_takeCosts 31 = .ok (.aload_n 0, 1) := by decide +kernel
theorem dX0_takeCosts_32 : decode cX0_takeCosts 32 = .ok (.iload_n 1, 1) := by decide +kernel
theorem dX0_takeCosts_33 : decode cX0_takeCosts 33 = .ok (.putfield 9, 3) := by decide +kernel
theorem dX0_takeCosts_36 : decode cX0_takeCosts 36 = .ok (.aload_n 0, 1) := by decide +kernel
theorem dX0_takeCosts_37 : decode cX0_takeCosts 37 = .ok (.iload_n 2, 1) := by decide +kernel
theorem dX0_takeCosts_38 : decode cX0_takeCosts 38 = .ok (.putfield 15, 3) := by decide +kernel
theorem dX0_takeCosts_41 : decode cX0_takeCosts 41 = .ok (.aload_n 0, 1) := by decide +kernel
theorem dX0_takeCosts_42 : decode cX0_takeCosts 42 = .ok (.iload_n 3, 1) := by decide +kernel
theorem dX0_takeCosts_43 : decode cX0_takeCosts 43 = .ok (.putfield 18, 3) := by decide +kernel
theorem dX0_takeCosts_46 : decode cX0_takeCosts 46 = .ok (.iload 4, 2) := by decide +kernel
theorem dX0_takeCosts_48 : decode cX0_takeCosts 48 = .ok (.ireturn, 1) := by decide +kernel
theorem dX0_leastCost_0 : decode cX0_leastCost 0 = .ok (.aload_n 0, 1) := by decide +kernel
theorem dX0_leastCost_1 : decode cX0_leastCost 1 = .ok (.getfield 35, 3) := by decide +kernel
theorem dX0_leastCost_4 : decode cX0_leastCost 4 = .ok (.getfield 39, 3) := by decide +kernel
theorem dX0_leastCost_7 : decode cX0_leastCost 7 = .ok (.iload_n 2, 1) := by decide +kernel
theorem dX0_leastCost_8 : decode cX0_leastCost 8 = .ok (.iaload, 1) := by decide +kernel
theorem dX0_leastCost_9 : decode cX0_leastCost 9 = .ok (.istore_n 3, 1) := by decide +kernel
theorem dX0_leastCost_10 : decode cX0_leastCost 10 = .ok (.iconst 0, 1) := by decide +kernel
theorem dX0_leastCost_11 : decode cX0_leastCost 11 = .ok (.istore 4, 2) := by decide +kernel
theorem dX0_leastCost_13 : decode cX0_leastCost 13 = .ok (.iload 4, 2) := by decide +kernel
theorem dX0_leastCost_15 : decode cX0_leastCost 15 = .ok (.iload_n 3, 1) := by decide +kernel
theorem dX0_leastCost_16 : decode cX0_leastCost 16 = .ok (.if_icmp .gt 23, 3) := by decide +kernel
theorem dX0_leastCost_19 : decode cX0_leastCost 19 = .ok (.aload_n 0, 1) := by decide +kernel
theorem dX0_leastCost_20 : decode cX0_leastCost 20 = .ok (.getfield 21, 3) := by decide +kernel
theorem dX0_leastCost_23 : decode cX0_leastCost 23 = .ok (.iload 4, 2) := by decide +kernel
theorem dX0_leastCost_25 : decode cX0_leastCost 25 = .ok (.iload 4, 2) := by decide +kernel
theorem dX0_leastCost_27 : decode cX0_leastCost 27 = .ok (.aload_n 0, 1) := by decide +kernel
theorem dX0_leastCost_28 : decode cX0_leastCost 28 = .ok (.getfield 18, 3) := by decide +kernel
theorem dX0_leastCost_31 : decode cX0_leastCost 31 = .ok (.imul, 1) := by decide +kernel
theorem dX0_leastCost_32 : decode cX0_leastCost 32 = .ok (.iastore, 1) := by decide +kernel
theorem dX0_leastCost_33 : decode cX0_leastCost 33 = .ok (.iinc 4 1, 3) := by decide +kernel
theorem dX0_leastCost_36 : decode cX0_leastCost 36 = .ok (.goto (-23), 3) := by decide +kernel
theorem dX0_leastCost_39 : decode cX0_leastCost 39 = .ok (.iconst 0, 1) := by decide +kernel
theorem dX0_leastCost_40 : decode cX0_leastCost 40 = .ok (.istore 4, 2) := by decide +kernel
theorem dX0_leastCost_42 : decode cX0_leastCost 42 = .ok (.iload 4, 2) := by decide +kernel
theorem dX0_leastCost_44 : decode cX0_leastCost 44 = .ok (.aload_n 1, 1) := by decide +kernel
theorem dX0_leastCost_45 : decode cX0_leastCost 45 = .ok (.getfield 44, 3) := by decide +kernel
theorem dX0_leastCost_48 : decode cX0_leastCost 48 = .ok (.if_icmp .ge 17, 3) := by decide +kernel
theorem dX0_leastCost_51 : decode cX0_leastCost 51 = .ok (.aload_n 0, 1) := by decide +kernel
theorem dX0_leastCost_52 : decode cX0_leastCost 52 = .ok (.aload_n 1, 1) := by decide +kernel
theorem dX0_leastCost_53 : decode cX0_leastCost 53 = .ok (.iload 4, 2) := by decide +kernel
theorem dX0_leastCost_55 : decode cX0_leastCost 55 = .ok (.iload_n 2, 1) := by decide +kernel
theorem dX0_leastCost_56 : decode cX0_leastCost 56 = .ok (.invokevirtual 49, 3) := by decide +kernel
theorem dX0_leastCost_59 : decode cX0_leastCost 59 = .ok (.iinc 4 1, 3) := by decide +kernel
theorem dX0_leastCost_62 : decode cX0_leastCost 62 = .ok (.goto (-20), 3) := by decide +kernel
theorem dX0_leastCost_65 : decode cX0_leastCost 65 = .ok (.aload_n 0, 1) := by decide +kernel
theorem dX0_leastCost_66 : decode cX0_leastCost 66 = .ok (.getfield 21, 3) := by decide +kernel
theorem dX0_leastCost_69 : decode cX0_leastCost 69 = .ok (.aload_n 1, 1) := by decide +kernel
theorem dX0_leastCost_70 : decode cX0_leastCost 70 = .ok (.getfield 44, 3) := by decide +kernel
theorem dX0_leastCost_73 : decode cX0_leastCost 73 = .ok (.bipush 31, 2) := by decide +kernel
theorem dX0_leastCost_75 : decode cX0_leastCost 75 = .ok (.imul, 1) := by decide +kernel
theorem dX0_leastCost_76 : decode cX0_leastCost 76 = .ok (.iload_n 3, 1) := by decide +kernel
theorem dX0_leastCost_77 : decode cX0_leastCost 77 = .ok (.iadd, 1) := by decide +kernel
theorem dX0_leastCost_78 : decode cX0_leastCost 78 = .ok (.iaload, 1) := by decide +kernel
theorem dX0_leastCost_79 : decode cX0_leastCost 79 = .ok (.ireturn, 1) := by decide +kernel
theorem dX0_fillRow_0 : decode cX0_fillRow 0 = .ok (.aload_n 1, 1) := by decide +kernel
theorem dX0_fillRow_1 : decode cX0_fillRow 1 = .ok (.getfield 53, 3) := by decide +kernel
theorem dX0_fillRow_4 : decode cX0_fillRow 4 = .ok (.iload_n 2, 1) := by decide +kernel
theorem dX0_fillRow_5 : decode cX0_fillRow 5 = .ok (.iaload, 1) := by decide +kernel
theorem dX0_fillRow_6 : decode cX0_fillRow 6 = .ok (.istore 4, 2) := by decide +kernel
theorem dX0_fillRow_8 : decode cX0_fillRow 8 = .ok (.aload_n 0, 1) := by decide +kernel
theorem dX0_fillRow_9 : decode cX0_fillRow 9 = .ok (.getfield 35, 3) := by decide +kernel
theorem dX0_fillRow_12 : decode cX0_fillRow 12 = .ok (.getfield 39, 3) := by decide +kernel
theorem dX0_fillRow_15 : decode cX0_fillRow 15 = .ok (.iload_n 3, 1) := by decide +kernel
theorem dX0_fillRow_16 : decode cX0_fillRow 16 = .ok (.iaload, 1) := by decide +kernel
theorem dX0_fillRow_17 : decode cX0_fillRow 17 = .ok (.istore 5, 2) := by decide +kernel
theorem dX0_fillRow_19 : decode cX0_fillRow 19 = .ok (.aload_n 0, 1) := by decide +kernel
theorem dX0_fillRow_20 : decode cX0_fillRow 20 = .ok (.aload_n 1, 1) := by decide +kernel
theorem dX0_fillRow_21 : decode cX0_fillRow 21 = .ok (.iload 4, 2) := by decide +kernel
theorem dX0_fillRow_23 : decode cX0_fillRow 23 = .ok (.invokevirtual 56, 3) := by decide +kernel
theorem dX0_fillRow_26 : decode cX0_fillRow 26 = .ok (.istore 6, 2) := by decide +kernel
theorem dX0_fillRow_28 : decode cX0_fillRow 28 = .ok (.iload_n 2, 1) := by decide +kernel
theorem dX0_fillRow_29 : decode cX0_fillRow 29 = .ok (.bipush 31, 2) := by decide +kernel
theorem dX0_fillRow_31 : decode cX0_fillRow 31 = .ok (.imul, 1) := by decide +kernel
theorem dX0_fillRow_32 : decode cX0_fillRow 32 = .ok (.istore 7, 2) := by decide +kernel
theorem dX0_fillRow_34 : decode cX0_fillRow 34 = .ok (.iload 7, 2) := by decide +kernel
theorem dX0_fillRow_36 : decode cX0_fillRow 36 = .ok (.bipush 31, 2) := by decide +kernel
theorem dX0_fillRow_38 : decode cX0_fillRow 38 = .ok (.iadd, 1) := by decide +kernel
theorem dX0_fillRow_39 : decode cX0_fillRow 39 = .ok (.istore 8, 2) := by decide +kernel
theorem dX0_fillRow_41 : decode cX0_fillRow 41 = .ok (.aload_n 0, 1) := by decide +kernel
theorem dX0_fillRow_42 : decode cX0_fillRow 42 = .ok (.getfield 21, 3) := by decide +kernel
theorem dX0_fillRow_45 : decode cX0_fillRow 45 = .ok (.iload 8, 2) := by decide +kernel
theorem dX0_fillRow_47 : decode cX0_fillRow 47 = .ok (.aload_n 0, 1) := by decide +kernel
theorem dX0_fillRow_48 : decode cX0_fillRow 48 = .ok (.getfield 21, 3) := by decide +kernel
theorem dX0_fillRow_51 : decode cX0_fillRow 51 = .ok (.iload 7, 2) := by decide +kernel
theorem dX0_fillRow_53 : decode cX0_fillRow 53 = .ok (.iaload, 1) := by decide +kernel
theorem dX0_fillRow_54 : decode cX0_fillRow 54 = .ok (.iload 6, 2) := by decide +kernel
theorem dX0_fillRow_56 : decode cX0_fillRow 56 = .ok (.iadd, 1) := by decide +kernel
theorem dX0_fillRow_57 : decode cX0_fillRow 57 = .ok (.iastore, 1) := by decide +kernel
theorem dX0_fillRow_58 : decode cX0_fillRow 58 = .ok (.iconst 0, 1) := by decide +kernel
theorem dX0_fillRow_59 : decode cX0_fillRow 59 = .ok (.istore 9, 2) := by decide +kernel
theorem dX0_fillRow_61 : decode cX0_fillRow 61 = .ok (.iload 9, 2) := by decide +kernel
theorem dX0_fillRow_63 : decode cX0_fillRow 63 = .ok (.iload 5, 2) := by decide +kernel
theorem dX0_fillRow_65 : decode cX0_fillRow 65 = .ok (.if_icmp .ge 99, 3) := by decide +kernel
theorem dX0_fillRow_68 : decode cX0_fillRow 68 = .ok (.aload_n 0, 1) := by decide +kernel
theorem dX0_fillRow_69 : decode cX0_fillRow 69 = .ok (.getfield 21, 3) := by decide +kernel
theorem dX0_fillRow_72 : decode cX0_fillRow 72 = .ok (.iload 7, 2) := by decide +kernel
theorem dX0_fillRow_74 : decode cX0_fillRow 74 = .ok (.iload 9, 2) := by decide +kernel
theorem dX0_fillRow_76 : decode cX0_fillRow 76 = .ok (.iadd, 1) := by decide +kernel
theorem dX0_fillRow_77 : decode cX0_fillRow 77 = .ok (.iconst 1, 1) := by decide +kernel
theorem dX0_fillRow_78 : decode cX0_fillRow 78 = .ok (.iadd, 1) := by decide +kernel
theorem dX0_fillRow_79 : decode cX0_fillRow 79 = .ok (.iaload, 1) := by decide +kernel
theorem dX0_fillRow_80 : decode cX0_fillRow 80 = .ok (.iload 6, 2) := by decide +kernel
theorem dX0_fillRow_82 : decode cX0_fillRow 82 = .ok (.iadd, 1) := by decide +kernel
theorem dX0_fillRow_83 : decode cX0_fillRow 83 = .ok (.aload_n 0, 1) := by decide +kernel
theorem dX0_fillRow_84 : decode cX0_fillRow 84 = .ok (.getfield 21, 3) := by decide +kernel
theorem dX0_fillRow_87 : decode cX0_fillRow 87 = .ok (.iload 8, 2) := by decide +kernel
theorem dX0_fillRow_89 : decode cX0_fillRow 89 = .ok (.iload 9, 2) := by decide +kernel
theorem dX0_fillRow_91 : decode cX0_fillRow 91 = .ok (.iadd, 1) := by decide +kernel
theorem dX0_fillRow_92 : decode cX0_fillRow 92 = .ok (.iaload, 1) := by decide +kernel
theorem dX0_fillRow_93 : decode cX0_fillRow 93 = .ok (.aload_n 0, 1) := by decide +kernel
theorem dX0_fillRow_94 : decode cX0_fillRow 94 = .ok (.getfield 18, 3) := by decide +kernel
theorem dX0_fillRow_97 : decode cX0_fillRow 97 = .ok (.iadd, 1) := by decide +kernel
theorem dX0_fillRow_98 : decode cX0_fillRow 98 = .ok (.invokestatic 60, 3) := by decide +kernel
theorem dX0_fillRow_101 : decode cX0_fillRow 101 = .ok (.istore 10, 2) := by decide +kernel
theorem dX0_fillRow_103 : decode cX0_fillRow 103 = .ok (.aload_n 0, 1) := by decide +kernel
theorem dX0_fillRow_104 : decode cX0_fillRow 104 = .ok (.aload_n 1, 1) := by decide +kernel
theorem dX0_fillRow_105 : decode cX0_fillRow 105 = .ok (.iload 4, 2) := by decide +kernel
theorem dX0_fillRow_107 : decode cX0_fillRow 107 = .ok (.iload_n 3, 1) := by decide +kernel
theorem dX0_fillRow_108 : decode cX0_fillRow 108 = .ok (.iload 9, 2) := by decide +kernel
theorem dX0_fillRow_110 : decode cX0_fillRow 110 = .ok (.invokestatic 66, 3) := by decide +kernel
theorem dX0_fillRow_113 : decode cX0_fillRow 113 = .ok (.invokevirtual 69, 3) := by decide +kernel
theorem dX0_fillRow_116 : decode cX0_fillRow 116 = .ok (.istore 11, 2) := by decide +kernel
theorem dX0_fillRow_118 : decode cX0_fillRow 118 = .ok (.iload 11, 2) := by decide +kernel
theorem dX0_fillRow_120 : decode cX0_fillRow 120 = .ok (.iconst (-1), 1) := by decide +kernel
theorem dX0_fillRow_121 : decode cX0_fillRow 121 = .ok (.if_icmp .eq 23, 3) := by decide +kernel
theorem dX0_fillRow_124 : decode cX0_fillRow 124 = .ok (.iload 10, 2) := by decide +kernel
theorem dX0_fillRow_126 : decode cX0_fillRow 126 = .ok (.aload_n 0, 1) := by decide +kernel
theorem dX0_fillRow_127 : decode cX0_fillRow 127 = .ok (.getfield 21, 3) := by decide +kernel
theorem dX0_fillRow_130 : decode cX0_fillRow 130 = .ok (.iload 7, 2) := by decide +kernel
theorem dX0_fillRow_132 : decode cX0_fillRow 132 = .ok (.iload 9, 2) := by decide +kernel
theorem dX0_fillRow_134 : decode cX0_fillRow 134 = .ok (.iadd, 1) := by decide +kernel
theorem dX0_fillRow_135 : decode cX0_fillRow 135 = .ok (.iaload, 1) := by decide +kernel
theorem dX0_fillRow_136 : decode cX0_fillRow 136 = .ok (.iload 11, 2) := by decide +kernel
theorem dX0_fillRow_138 : decode cX0_fillRow 138 = .ok (.iadd, 1) := by decide +kernel
theorem dX0_fillRow_139 : decode cX0_fillRow 139 = .ok (.invokestatic 60, 3) := by decide +kernel
theorem dX0_fillRow_142 : decode cX0_fillRow 142 = .ok (.istore 10, 2) := by decide +kernel
theorem dX0_fillRow_144 : decode cX0_fillRow 144 = .ok (.aload_n 0, 1) := by decide +kernel
theorem dX0_fillRow_145 : decode cX0_fillRow 145 = .ok (.getfield 21, 3) := by decide +kernel
theorem dX0_fillRow_148 : decode cX0_fillRow 148 = .ok (.iload 8, 2) := by decide +kernel
theorem dX0_fillRow_150 : decode cX0_fillRow 150 = .ok (.iload 9, 2) := by decide +kernel
theorem dX0_fillRow_152 : decode cX0_fillRow 152 = .ok (.iadd, 1) := by decide +kernel
theorem dX0_fillRow_153 : decode cX0_fillRow 153 = .ok (.iconst 1, 1) := by decide +kernel
theorem dX0_fillRow_154 : decode cX0_fillRow 154 = .ok (.iadd, 1) := by decide +kernel
theorem dX0_fillRow_155 : decode cX0_fillRow 155 = .ok (.iload 10, 2) := by decide +kernel
theorem dX0_fillRow_157 : decode cX0_fillRow 157 = .ok (.iastore, 1) := by decide +kernel
theorem dX0_fillRow_158 : decode cX0_fillRow 158 = .ok (.iinc 9 1, 3) := by decide +kernel
theorem dX0_fillRow_161 : decode cX0_fillRow 161 = .ok (.goto (-100), 3) := by decide +kernel
theorem dX0_fillRow_164 : decode cX0_fillRow 164 = .ok (.return_, 1) := by decide +kernel
theorem dX0_skipCost_0 : decode cX0_skipCost 0 = .ok (.aload_n 1, 1) := by decide +kernel
theorem dX0_skipCost_1 : decode cX0_skipCost 1 = .ok (.iload_n 2, 1) := by decide +kernel
theorem dX0_skipCost_2 : decode cX0_skipCost 2 = .ok (.invokevirtual 73, 3) := by decide +kernel
theorem dX0_skipCost_5 : decode cX0_skipCost 5 = .ok (.ifCond .eq 7, 3) := by decide +kernel
theorem dX0_skipCost_8 : decode cX0_skipCost 8 = .ok (.iconst 1, 1) := by decide +kernel
theorem dX0_skipCost_9 : decode cX0_skipCost 9 = .ok (.goto 7, 3) := by decide +kernel
theorem dX0_skipCost_12 : decode cX0_skipCost 12 = .ok (.aload_n 0, 1) := by decide +kernel
theorem dX0_skipCost_13 : decode cX0_skipCost 13 = .ok (.getfield 15, 3) := by decide +kernel
theorem dX0_skipCost_16 : decode cX0_skipCost 16 = .ok (.ireturn, 1) := by decide +kernel
theorem dX0_pairCost_0 : decode cX0_pairCost 0 = .ok (.aload_n 1, 1) := by decide +kernel
theorem dX0_pairCost_1 : decode cX0_pairCost 1 = .ok (.getfield 77, 3) := by decide +kernel
theorem dX0_pairCost_4 : decode cX0_pairCost 4 = .ok (.iload_n 2, 1) := by decide +kernel
theorem dX0_pairCost_5 : decode cX0_pairCost 5 = .ok (.iaload, 1) := by decide +kernel
theorem dX0_pairCost_6 : decode cX0_pairCost 6 = .ok (.aload_n 0, 1) := by decide +kernel
theorem dX0_pairCost_7 : decode cX0_pairCost 7 = .ok (.getfield 35, 3) := by decide +kernel
theorem dX0_pairCost_10 : decode cX0_pairCost 10 = .ok (.getfield 80, 3) := by decide +kernel
theorem dX0_pairCost_13 : decode cX0_pairCost 13 = .ok (.iload_n 3, 1) := by decide +kernel
theorem dX0_pairCost_14 : decode cX0_pairCost 14 = .ok (.iaload, 1) := by decide +kernel
theorem dX0_pairCost_15 : decode cX0_pairCost 15 = .ok (.if_icmp .eq 5, 3) := by decide +kernel
theorem dX0_pairCost_18 : decode cX0_pairCost 18 = .ok (.iconst (-1), 1) := by decide +kernel
theorem dX0_pairCost_19 : decode cX0_pairCost 19 = .ok (.ireturn, 1) := by decide +kernel
theorem dX0_pairCost_20 : decode cX0_pairCost 20 = .ok (.aload_n 1, 1) := by decide +kernel
theorem dX0_pairCost_21 : decode cX0_pairCost 21 = .ok (.getfield 81, 3) := by decide +kernel
theorem dX0_pairCost_24 : decode cX0_pairCost 24 = .ok (.iload_n 2, 1) := by decide +kernel
theorem dX0_pairCost_25 : decode cX0_pairCost 25 = .ok (.iaload, 1) := by decide +kernel
theorem dX0_pairCost_26 : decode cX0_pairCost 26 = .ok (.iconst (-1), 1) := by decide +kernel
theorem dX0_pairCost_27 : decode cX0_pairCost 27 = .ok (.if_icmp .ne 5, 3) := by decide +kernel
theorem dX0_pairCost_30 : decode cX0_pairCost 30 = .ok (.iconst 1, 1) := by decide +kernel
theorem dX0_pairCost_31 : decode cX0_pairCost 31 = .ok (.ireturn, 1) := by decide +kernel
theorem dX0_pairCost_32 : decode cX0_pairCost 32 = .ok (.aload_n 1, 1) := by decide +kernel
theorem dX0_pairCost_33 : decode cX0_pairCost 33 = .ok (.getfield 81, 3) := by decide +kernel
theorem dX0_pairCost_36 : decode cX0_pairCost 36 = .ok (.iload_n 2, 1) := by decide +kernel
theorem dX0_pairCost_37 : decode cX0_pairCost 37 = .ok (.iaload, 1) := by decide +kernel
theorem dX0_pairCost_38 : decode cX0_pairCost 38 = .ok (.aload_n 0, 1) := by decide +kernel
theorem dX0_pairCost_39 : decode cX0_pairCost 39 = .ok (.getfield 35, 3) := by decide +kernel
theorem dX0_pairCost_42 : decode cX0_pairCost 42 = .ok (.getfield 84, 3) := by decide +kernel
theorem dX0_pairCost_45 : decode cX0_pairCost 45 = .ok (.iload_n 3, 1) := by decide +kernel
theorem dX0_pairCost_46 : decode cX0_pairCost 46 = .ok (.iaload, 1) := by decide +kernel
theorem dX0_pairCost_47 : decode cX0_pairCost 47 = .ok (.if_icmp .ne 7, 3) := by decide +kernel
theorem dX0_pairCost_50 : decode cX0_pairCost 50 = .ok (.iconst 0, 1) := by decide +kernel
theorem dX0_pairCost_51 : decode cX0_pairCost 51 = .ok (.goto 7, 3) := by decide +kernel
theorem dX0_pairCost_54 : decode cX0_pairCost 54 = .ok (.aload_n 0, 1) := by decide +kernel
theorem dX0_pairCost_55 : decode cX0_pairCost 55 = .ok (.getfield 9, 3) := by decide +kernel
theorem dX0_pairCost_58 : decode cX0_pairCost 58 = .ok (.ireturn, 1) := by decide +kernel
theorem dX0_align_0 : decode cX0_align 0 = .ok (.aload_n 0, 1) := by decide +kernel
theorem dX0_align_1 : decode cX0_align 1 = .ok (.aload_n 1, 1) := by decide +kernel
theorem dX0_align_2 : decode cX0_align 2 = .ok (.iload_n 2, 1) := by decide +kernel
theorem dX0_align_3 : decode cX0_align 3 = .ok (.invokevirtual 85, 3) := by decide +kernel
theorem dX0_align_6 : decode cX0_align 6 = .ok (.istore_n 3, 1) := by decide +kernel
theorem dX0_align_7 : decode cX0_align 7 = .ok (.aload_n 1, 1) := by decide +kernel
theorem dX0_align_8 : decode cX0_align 8 = .ok (.getfield 44, 3) := by decide +kernel
theorem dX0_align_11 : decode cX0_align 11 = .ok (.istore 4, 2) := by decide +kernel
theorem dX0_align_13 : decode cX0_align 13 = .ok (.aload_n 0, 1) := by decide +kernel
theorem dX0_align_14 : decode cX0_align 14 = .ok (.getfield 35, 3) := by decide +kernel
theorem dX0_align_17 : decode cX0_align 17 = .ok (.getfield 39, 3) := by decide +kernel
theorem dX0_align_20 : decode cX0_align 20 = .ok (.iload_n 2, 1) := by decide +kernel
theorem dX0_align_21 : decode cX0_align 21 = .ok (.iaload, 1) := by decide +kernel
theorem dX0_align_22 : decode cX0_align 22 = .ok (.istore 5, 2) := by decide +kernel
theorem dX0_align_24 : decode cX0_align 24 = .ok (.iconst 0, 1) := by decide +kernel
theorem dX0_align_25 : decode cX0_align 25 = .ok (.istore 6, 2) := by decide +kernel
theorem dX0_align_27 : decode cX0_align 27 = .ok (.aload_n 0, 1) := by decide +kernel
theorem dX0_align_28 : decode cX0_align 28 = .ok (.iconst 0, 1) := by decide +kernel
theorem dX0_align_29 : decode cX0_align 29 = .ok (.putfield 88, 3) := by decide +kernel
theorem dX0_align_32 : decode cX0_align 32 = .ok (.iload 6, 2) := by decide +kernel
theorem dX0_align_34 : decode cX0_align 34 = .ok (.bipush 70, 2) := by decide +kernel
theorem dX0_align_36 : decode cX0_align 36 = .ok (.if_icmp .ge 69, 3) := by decide +kernel
theorem dX0_align_39 : decode cX0_align 39 = .ok (.iload 4, 2) := by decide +kernel
theorem dX0_align_41 : decode cX0_align 41 = .ok (.iload 5, 2) := by decide +kernel
theorem dX0_align_43 : decode cX0_align 43 = .ok (.iadd, 1) := by decide +kernel
theorem dX0_align_44 : decode cX0_align 44 = .ok (.ifCond .le 61, 3) := by decide +kernel
theorem dX0_align_47 : decode cX0_align 47 = .ok (.aload_n 0, 1) := by decide +kernel
theorem dX0_align_48 : decode cX0_align 48 = .ok (.aload_n 1, 1) := by decide +kernel
theorem dX0_align_49 : decode cX0_align 49 = .ok (.iload_n 2, 1) := by decide +kernel
theorem dX0_align_50 : decode cX0_align 50 = .ok (.iload 4, 2) := by decide +kernel
theorem dX0_align_52 : decode cX0_align 52 = .ok (.iload 5, 2) := by decide +kernel
theorem dX0_align_54 : decode cX0_align 54 = .ok (.invokevirtual 91, 3) := by decide +kernel
theorem dX0_align_57 : decode cX0_align 57 = .ok (.istore 7, 2) := by decide +kernel
theorem dX0_align_59 : decode cX0_align 59 = .ok (.aload_n 0, 1) := by decide +kernel
theorem dX0_align_60 : decode cX0_align 60 = .ok (.getfield 25, 3) := by decide +kernel
theorem dX0_align_63 : decode cX0_align 63 = .ok (.iload 6, 2) := by decide +kernel
theorem dX0_align_65 : decode cX0_align 65 = .ok (.iload 7, 2) := by decide +kernel
theorem dX0_align_67 : decode cX0_align 67 = .ok (.iastore, 1) := by decide +kernel
theorem dX0_align_68 : decode cX0_align 68 = .ok (.iinc 6 1, 3) := by decide +kernel
theorem dX0_align_71 : decode cX0_align 71 = .ok (.iload 7, 2) := by decide +kernel
theorem dX0_align_73 : decode cX0_align 73 = .ok (.iconst 2, 1) := by decide +kernel
theorem dX0_align_74 : decode cX0_align 74 = .ok (.if_icmp .ne 16, 3) := by decide +kernel
theorem dX0_align_77 : decode cX0_align 77 = .ok (.aload_n 0, 1) := by decide +kernel
theorem dX0_align_78 : decode cX0_align 78 = .ok (.dup, 1) := by decide +kernel
theorem dX0_align_79 : decode cX0_align 79 = .ok (.getfield 88, 3) := by decide +kernel
theorem dX0_align_82 : decode cX0_align 82 = .ok (.iconst 1, 1) := by decide +kernel
theorem dX0_align_83 : decode cX0_align 83 = .ok (.iadd, 1) := by decide +kernel
theorem dX0_align_84 : decode cX0_align 84 = .ok (.putfield 88, 3) := by decide +kernel
theorem dX0_align_87 : decode cX0_align 87 = .ok (.goto 6, 3) := by decide +kernel
theorem dX0_align_90 : decode cX0_align 90 = .ok (.iinc 4 (-1), 3) := by decide +kernel
theorem dX0_align_93 : decode cX0_align 93 = .ok (.iload 7, 2) := by decide +kernel
theorem dX0_align_95 : decode cX0_align 95 = .ok (.iconst 1, 1) := by decide +kernel
theorem dX0_align_96 : decode cX0_align 96 = .ok (.if_icmp .eq 6, 3) := by decide +kernel
theorem dX0_align_99 : decode cX0_align 99 = .ok (.iinc 5 (-1), 3) := by decide +kernel
theorem dX0_align_102 : decode cX0_align 102 = .ok (.goto (-70), 3) := by decide +kernel
theorem dX0_align_105 : decode cX0_align 105 = .ok (.aload_n 0, 1) := by decide +kernel
theorem dX0_align_106 : decode cX0_align 106 = .ok (.iload 6, 2) := by decide +kernel
theorem dX0_align_108 : decode cX0_align 108 = .ok (.putfield 95, 3) := by decide +kernel
theorem dX0_align_111 : decode cX0_align 111 = .ok (.iload_n 3, 1) := by decide +kernel
theorem dX0_align_112 : decode cX0_align 112 = .ok (.ireturn, 1) := by decide +kernel
theorem dX0_lastStep_0 : decode cX0_lastStep 0 = .ok (.iload_n 3, 1) := by decide +kernel
theorem dX0_lastStep_1 : decode cX0_lastStep 1 = .ok (.ifCond .ne 5, 3) := by decide +kernel
theorem dX0_lastStep_4 : decode cX0_lastStep 4 = .ok (.iconst 2, 1) := by decide +kernel
theorem dX0_lastStep_5 : decode cX0_lastStep 5 = .ok (.ireturn, 1) := by decide +kernel
theorem dX0_lastStep_6 : decode cX0_lastStep 6 = .ok (.iload 4, 2) := by decide +kernel
theorem dX0_lastStep_8 : decode cX0_lastStep 8 = .ok (.ifCond .ne 5, 3) := by decide +kernel
theorem dX0_lastStep_11 : decode cX0_lastStep 11 = .ok (.iconst 1, 1) := by decide +kernel
theorem dX0_lastStep_12 : decode cX0_lastStep 12 = .ok (.ireturn, 1) := by decide +kernel
theorem dX0_lastStep_13 : decode cX0_lastStep 13 = .ok (.iload_n 3, 1) := by decide +kernel
theorem dX0_lastStep_14 : decode cX0_lastStep 14 = .ok (.bipush 31, 2) := by decide +kernel
theorem dX0_lastStep_16 : decode cX0_lastStep 16 = .ok (.imul, 1) := by decide +kernel
theorem dX0_lastStep_17 : decode cX0_lastStep 17 = .ok (.iload 4, 2) := by decide +kernel
theorem dX0_lastStep_19 : decode cX0_lastStep 19 = .ok (.iadd, 1) := by decide +kernel
theorem dX0_lastStep_20 : decode cX0_lastStep 20 = .ok (.istore 5, 2) := by decide +kernel
theorem dX0_lastStep_22 : decode cX0_lastStep 22 = .ok (.aload_n 1, 1) := by decide +kernel
theorem dX0_lastStep_23 : decode cX0_lastStep 23 = .ok (.getfield 53, 3) := by decide +kernel
theorem dX0_lastStep_26 : decode cX0_lastStep 26 = .ok (.iload_n 3, 1) := by decide +kernel
theorem dX0_lastStep_27 : decode cX0_lastStep 27 = .ok (.iconst 1, 1) := by decide +kernel
theorem dX0_lastStep_28 : decode cX0_lastStep 28 = .ok (.isub, 1) := by decide +kernel
theorem dX0_lastStep_29 : decode cX0_lastStep 29 = .ok (.iaload, 1) := by decide +kernel
theorem dX0_lastStep_30 : decode cX0_lastStep 30 = .ok (.istore 6, 2) := by decide +kernel
theorem dX0_lastStep_32 : decode cX0_lastStep 32 = .ok (.aload_n 0, 1) := by decide +kernel
theorem dX0_lastStep_33 : decode cX0_lastStep 33 = .ok (.aload_n 1, 1) := by decide +kernel
theorem dX0_lastStep_34 : decode cX0_lastStep 34 = .ok (.iload 6, 2) := by decide +kernel
theorem dX0_lastStep_36 : decode cX0_lastStep 36 = .ok (.iload_n 2, 1) := by decide +kernel
theorem dX0_lastStep_37 : decode cX0_lastStep 37 = .ok (.iload 4, 2) := by decide +kernel
theorem dX0_lastStep_39 : decode cX0_lastStep 39 = .ok (.iconst 1, 1) := by decide +kernel
theorem dX0_lastStep_40 : decode cX0_lastStep 40 = .ok (.isub, 1) := by decide +kernel
theorem dX0_lastStep_41 : decode cX0_lastStep 41 = .ok (.invokestatic 66, 3) := by decide +kernel
theorem dX0_lastStep_44 : decode cX0_lastStep 44 = .ok (.invokevirtual 69, 3) := by decide +kernel
theorem dX0_lastStep_47 : decode cX0_lastStep 47 = .ok (.istore 7, 2) := by decide +kernel
theorem dX0_lastStep_49 : decode cX0_lastStep 49 = .ok (.iload 7, 2) := by decide +kernel
theorem dX0_lastStep_51 : decode cX0_lastStep 51 = .ok (.iconst (-1), 1) := by decide +kernel
theorem dX0_lastStep_52 : decode cX0_lastStep 52 = .ok (.if_icmp .eq 30, 3) := by decide +kernel
theorem dX0_lastStep_55 : decode cX0_lastStep 55 = .ok (.aload_n 0, 1) := by decide +kernel
theorem dX0_lastStep_56 : decode cX0_lastStep 56 = .ok (.getfield 21, 3) := by decide +kernel
theorem dX0_lastStep_59 : decode cX0_lastStep 59 = .ok (.iload 5, 2) := by decide +kernel
theorem dX0_lastStep_61 : decode cX0_lastStep 61 = .ok (.iaload, 1) := by decide +kernel
theorem dX0_lastStep_62 : decode cX0_lastStep 62 = .ok (.aload_n 0, 1) := by decide +kernel
theorem dX0_lastStep_63 : decode cX0_lastStep 63 = .ok (.getfield 21, 3) := by decide +kernel
theorem dX0_lastStep_66 : decode cX0_lastStep 66 = .ok (.iload 5, 2) := by decide +kernel
theorem dX0_lastStep_68 : decode cX0_lastStep 68 = .ok (.bipush 31, 2) := by decide +kernel
theorem dX0_lastStep_70 : decode cX0_lastStep 70 = .ok (.isub, 1) := by decide +kernel
theorem dX0_lastStep_71 : decode cX0_lastStep 71 = .ok (.iconst 1, 1) := by decide +kernel
theorem dX0_lastStep_72 : decode cX0_lastStep 72 = .ok (.isub, 1) := by decide +kernel
theorem dX0_lastStep_73 : decode cX0_lastStep 73 = .ok (.iaload, 1) := by decide +kernel
theorem dX0_lastStep_74 : decode cX0_lastStep 74 = .ok (.iload 7, 2) := by decide +kernel
theorem dX0_lastStep_76 : decode cX0_lastStep 76 = .ok (.iadd, 1) := by decide +kernel
theorem dX0_lastStep_77 : decode cX0_lastStep 77 = .ok (.if_icmp .ne 5, 3) := by decide +kernel
theorem dX0_lastStep_80 : decode cX0_lastStep 80 = .ok (.iconst 0, 1) := by decide +kernel
theorem dX0_lastStep_81 : decode cX0_lastStep 81 = .ok (.ireturn, 1) := by decide +kernel
theorem dX0_lastStep_82 : decode cX0_lastStep 82 = .ok (.aload_n 0, 1) := by decide +kernel
theorem dX0_lastStep_83 : decode cX0_lastStep 83 = .ok (.getfield 21, 3) := by decide +kernel
theorem dX0_lastStep_86 : decode cX0_lastStep 86 = .ok (.iload 5, 2) := by decide +kernel
theorem dX0_lastStep_88 : decode cX0_lastStep 88 = .ok (.iaload, 1) := by decide +kernel
theorem dX0_lastStep_89 : decode cX0_lastStep 89 = .ok (.aload_n 0, 1) := by decide +kernel
theorem dX0_lastStep_90 : decode cX0_lastStep 90 = .ok (.getfield 21, 3) := by decide +kernel
theorem dX0_lastStep_93 : decode cX0_lastStep 93 = .ok (.iload 5, 2) := by decide +kernel
theorem dX0_lastStep_95 : decode cX0_lastStep 95 = .ok (.bipush 31, 2) := by decide +kernel
theorem dX0_lastStep_97 : decode cX0_lastStep 97 = .ok (.isub, 1) := by decide +kernel
theorem dX0_lastStep_98 : decode cX0_lastStep 98 = .ok (.iaload, 1) := by decide +kernel
theorem dX0_lastStep_99 : decode cX0_lastStep 99 = .ok (.aload_n 0, 1) := by decide +kernel
theorem dX0_lastStep_100 : decode cX0_lastStep 100 = .ok (.aload_n 1, 1) := by decide +kernel
theorem dX0_lastStep_101 : decode cX0_lastStep 101 = .ok (.iload 6, 2) := by decide +kernel
theorem dX0_lastStep_103 : decode cX0_lastStep 103 = .ok (.invokevirtual 56, 3) := by decide +kernel
theorem dX0_lastStep_106 : decode cX0_lastStep 106 = .ok (.iadd, 1) := by decide +kernel
theorem dX0_lastStep_107 : decode cX0_lastStep 107 = .ok (.if_icmp .ne 7, 3) := by decide +kernel
theorem dX0_lastStep_110 : decode cX0_lastStep 110 = .ok (.iconst 1, 1) := by decide +kernel
theorem dX0_lastStep_111 : decode cX0_lastStep 111 = .ok (.goto 4, 3) := by decide +kernel
theorem dX0_lastStep_114 : decode cX0_lastStep 114 = .ok (.iconst 2, 1) := by decide +kernel
theorem dX0_lastStep_115 : decode cX0_lastStep 115 = .ok (.ireturn, 1) := by decide +kernel
theorem dX0_hasRoom_0 : decode cX0_hasRoom 0 = .ok (.aload_n 1, 1) := by decide +kernel
theorem dX0_hasRoom_1 : decode cX0_hasRoom 1 = .ok (.getfield 44, 3) := by decide +kernel
theorem dX0_hasRoom_4 : decode cX0_hasRoom 4 = .ok (.aload_n 0, 1) := by decide +kernel
theorem dX0_hasRoom_5 : decode cX0_hasRoom 5 = .ok (.getfield 88, 3) := by decide +kernel
theorem dX0_hasRoom_8 : decode cX0_hasRoom 8 = .ok (.iadd, 1) := by decide +kernel
theorem dX0_hasRoom_9 : decode cX0_hasRoom 9 = .ok (.bipush 40, 2) := by decide +kernel
theorem dX0_hasRoom_11 : decode cX0_hasRoom 11 = .ok (.if_icmp .gt 7, 3) := by decide +kernel
theorem dX0_hasRoom_14 : decode cX0_hasRoom 14 = .ok (.iconst 1, 1) := by decide +kernel
theorem dX0_hasRoom_15 : decode cX0_hasRoom 15 = .ok (.goto 4, 3) := by decide +kernel
theorem dX0_hasRoom_18 : decode cX0_hasRoom 18 = .ok (.iconst 0, 1) := by decide +kernel
theorem dX0_hasRoom_19 : decode cX0_hasRoom 19 = .ok (.ireturn, 1) := by decide +kernel
theorem dX0_join_0 : decode cX0_join 0 = .ok (.aload_n 1, 1) := by decide +kernel
theorem dX0_join_1 : decode cX0_join 1 = .ok (.getfield 44, 3) := by decide +kernel
theorem dX0_join_4 : decode cX0_join 4 = .ok (.istore_n 3, 1) := by decide +kernel
theorem dX0_join_5 : decode cX0_join 5 = .ok (.aload_n 0, 1) := by decide +kernel
theorem dX0_join_6 : decode cX0_join 6 = .ok (.getfield 35, 3) := by decide +kernel
theorem dX0_join_9 : decode cX0_join 9 = .ok (.getfield 39, 3) := by decide +kernel
theorem dX0_join_12 : decode cX0_join 12 = .ok (.iload_n 2, 1) := by decide +kernel
theorem dX0_join_13 : decode cX0_join 13 = .ok (.iaload, 1) := by decide +kernel
theorem dX0_join_14 : decode cX0_join 14 = .ok (.istore 4, 2) := by decide +kernel
theorem dX0_join_16 : decode cX0_join 16 = .ok (.iload_n 3, 1) := by decide +kernel
theorem dX0_join_17 : decode cX0_join 17 = .ok (.aload_n 0, 1) := by decide +kernel
theorem dX0_join_18 : decode cX0_join 18 = .ok (.getfield 88, 3) := by decide +kernel
theorem dX0_join_21 : decode cX0_join 21 = .ok (.iadd, 1) := by decide +kernel
theorem dX0_join_22 : decode cX0_join 22 = .ok (.istore 5, 2) := by decide +kernel
theorem dX0_join_24 : decode cX0_join 24 = .ok (.iconst 0, 1) := by decide +kernel
theorem dX0_join_25 : decode cX0_join 25 = .ok (.istore 6, 2) := by decide +kernel
theorem dX0_join_27 : decode cX0_join 27 = .ok (.iload 6, 2) := by decide +kernel
theorem dX0_join_29 : decode cX0_join 29 = .ok (.aload_n 0, 1) := by decide +kernel
theorem dX0_join_30 : decode cX0_join 30 = .ok (.getfield 95, 3) := by decide +kernel
theorem dX0_join_33 : decode cX0_join 33 = .ok (.if_icmp .ge 115, 3) := by decide +kernel
theorem dX0_join_36 : decode cX0_join 36 = .ok (.iinc 5 (-1), 3) := by decide +kernel
theorem dX0_join_39 : decode cX0_join 39 = .ok (.aload_n 0, 1) := by decide +kernel
theorem dX0_join_40 : decode cX0_join 40 = .ok (.getfield 25, 3) := by decide +kernel
theorem dX0_join_43 : decode cX0_join 43 = .ok (.iload 6, 2) := by decide +kernel
theorem dX0_join_45 : decode cX0_join 45 = .ok (.iaload, 1) := by decide +kernel
theorem dX0_join_46 : decode cX0_join 46 = .ok (.iconst 2, 1) := by decide +kernel
theorem dX0_join_47 : decode cX0_join 47 = .ok (.if_icmp .ne 24, 3) := by decide +kernel
theorem dX0_join_50 : decode cX0_join 50 = .ok (.aload_n 1, 1) := by decide +kernel
theorem dX0_join_51 : decode cX0_join 51 = .ok (.aload_n 0, 1) := by decide +kernel
theorem dX0_join_52 : decode cX0_join 52 = .ok (.getfield 35, 3) := by decide +kernel
theorem dX0_join_55 : decode cX0_join 55 = .ok (.iload_n 2, 1) := by decide +kernel
theorem dX0_join_56 : decode cX0_join 56 = .ok (.iload 4, 2) := by decide +kernel
theorem dX0_join_58 : decode cX0_join 58 = .ok (.iconst 1, 1) := by decide +kernel
theorem dX0_join_59 : decode cX0_join 59 = .ok (.isub, 1) := by decide +kernel
theorem dX0_join_60 : decode cX0_join 60 = .ok (.invokestatic 66, 3) := by decide +kernel
theorem dX0_join_63 : decode cX0_join 63 = .ok (.invokevirtual 98, 3) := by decide +kernel
theorem dX0_join_66 : decode cX0_join 66 = .ok (.istore 7, 2) := by decide +kernel
theorem dX0_join_68 : decode cX0_join 68 = .ok (.goto 42, 3) := by decide +kernel
theorem dX0_join_71 : decode cX0_join 71 = .ok (.iinc 3 (-1), 3) := by decide +kernel
theorem dX0_join_74 : decode cX0_join 74 = .ok (.aload_n 1, 1) := by decide +kernel
theorem dX0_join_75 : decode cX0_join 75 = .ok (.getfield 53, 3) := by decide +kernel
theorem dX0_join_78 : decode cX0_join 78 = .ok (.iload_n 3, 1) := by decide +kernel
theorem dX0_join_79 : decode cX0_join 79 = .ok (.iaload, 1) := by decide +kernel
theorem dX0_join_80 : decode cX0_join 80 = .ok (.istore 7, 2) := by decide +kernel
theorem dX0_join_82 : decode cX0_join 82 = .ok (.aload_n 0, 1) := by decide +kernel
theorem dX0_join_83 : decode cX0_join 83 = .ok (.getfield 25, 3) := by decide +kernel
theorem dX0_join_86 : decode cX0_join 86 = .ok (.iload 6, 2) := by decide +kernel
theorem dX0_join_88 : decode cX0_join 88 = .ok (.iaload, 1) := by decide +kernel
theorem dX0_join_89 : decode cX0_join 89 = .ok (.ifCond .ne 21, 3) := by decide +kernel
theorem dX0_join_92 : decode cX0_join 92 = .ok (.aload_n 1, 1) := by decide +kernel
theorem dX0_join_93 : decode cX0_join 93 = .ok (.iload 7, 2) := by decide +kernel
theorem dX0_join_95 : decode cX0_join 95 = .ok (.aload_n 0, 1) := by decide +kernel
theorem dX0_join_96 : decode cX0_join 96 = .ok (.getfield 35, 3) := by decide +kernel
theorem dX0_join_99 : decode cX0_join 99 = .ok (.iload_n 2, 1) := by decide +kernel
theorem dX0_join_100 : decode cX0_join 100 = .ok (.iload 4, 2) := by decide +kernel
theorem dX0_join_102 : decode cX0_join 102 = .ok (.iconst 1, 1) := by decide +kernel
theorem dX0_join_103 : decode cX0_join 103 = .ok (.isub, 1) := by decide +kernel
theorem dX0_join_104 : decode cX0_join 104 = .ok (.invokestatic 66, 3) := by decide +kernel
theorem dX0_join_107 : decode cX0_join 107 = .ok (.invokevirtual 102, 3) := by decide +kernel
theorem dX0_join_110 : decode cX0_join 110 = .ok (.aload_n 0, 1) := by decide +kernel
theorem dX0_join_111 : decode cX0_join 111 = .ok (.getfield 25, 3) := by decide +kernel
theorem dX0_join_114 : decode cX0_join 114 = .ok (.iload 6, 2) := by decide +kernel
theorem dX0_join_116 : decode cX0_join 116 = .ok (.iaload, 1) := by decide +kernel
theorem dX0_join_117 : decode cX0_join 117 = .ok (.iconst 1, 1) := by decide +kernel
theorem dX0_join_118 : decode cX0_join 118 = .ok (.if_icmp .eq 15, 3) := by decide +kernel
theorem dX0_join_121 : decode cX0_join 121 = .ok (.iinc 4 (-1), 3) := by decide +kernel
theorem dX0_join_124 : decode cX0_join 124 = .ok (.aload_n 0, 1) := by decide +kernel
theorem dX0_join_125 : decode cX0_join 125 = .ok (.getfield 28, 3) := by decide +kernel
theorem dX0_join_128 : decode cX0_join 128 = .ok (.iload 4, 2) := by decide +kernel
theorem dX0_join_130 : decode cX0_join 130 = .ok (.iload 7, 2) := by decide +kernel
theorem dX0_join_132 : decode cX0_join 132 = .ok (.iastore, 1) := by decide +kernel
theorem dX0_join_133 : decode cX0_join 133 = .ok (.aload_n 1, 1) := by decide +kernel
theorem dX0_join_134 : decode cX0_join 134 = .ok (.getfield 53, 3) := by decide +kernel
theorem dX0_join_137 : decode cX0_join 137 = .ok (.iload 5, 2) := by decide +kernel
theorem dX0_join_139 : decode cX0_join 139 = .ok (.iload 7, 2) := by decide +kernel
theorem dX0_join_141 : decode cX0_join 141 = .ok (.iastore, 1) := by decide +kernel
theorem dX0_join_142 : decode cX0_join 142 = .ok (.iinc 6 1, 3) := by decide +kernel
theorem dX0_join_145 : decode cX0_join 145 = .ok (.goto (-118), 3) := by decide +kernel
theorem dX0_join_148 : decode cX0_join 148 = .ok (.aload_n 1, 1) := by decide +kernel
theorem dX0_join_149 : decode cX0_join 149 = .ok (.dup, 1) := by decide +kernel
theorem dX0_join_150 : decode cX0_join 150 = .ok (.getfield 106, 3) := by decide +kernel
theorem dX0_join_153 : decode cX0_join 153 = .ok (.iconst 1, 1) := by decide +kernel
theorem dX0_join_154 : decode cX0_join 154 = .ok (.iadd, 1) := by decide +kernel
theorem dX0_join_155 : decode cX0_join 155 = .ok (.putfield 106, 3) := by decide +kernel
theorem dX0_join_158 : decode cX0_join 158 = .ok (.return_, 1) := by decide +kernel
theorem dX0_isMatch_0 : decode cX0_isMatch 0 = .ok (.aload_n 0, 1) := by decide +kernel
theorem dX0_isMatch_1 : decode cX0_isMatch 1 = .ok (.getfield 35, 3) := by decide +kernel
theorem dX0_isMatch_4 : decode cX0_isMatch 4 = .ok (.getfield 39, 3) := by decide +kernel
theorem dX0_isMatch_7 : decode cX0_isMatch 7 = .ok (.iload_n 2, 1) := by decide +kernel
theorem dX0_isMatch_8 : decode cX0_isMatch 8 = .ok (.iaload, 1) := by decide +kernel
theorem dX0_isMatch_9 : decode cX0_isMatch 9 = .ok (.istore_n 3, 1) := by decide +kernel
theorem dX0_isMatch_10 : decode cX0_isMatch 10 = .ok (.iconst 0, 1) := by decide +kernel
theorem dX0_isMatch_11 : decode cX0_isMatch 11 = .ok (.istore 4, 2) := by decide +kernel
theorem dX0_isMatch_13 : decode cX0_isMatch 13 = .ok (.iload 4, 2) := by decide +kernel
theorem dX0_isMatch_15 : decode cX0_isMatch 15 = .ok (.iload_n 3, 1) := by decide +kernel
theorem dX0_isMatch_16 : decode cX0_isMatch 16 = .ok (.if_icmp .gt 26, 3) := by decide +kernel
theorem dX0_isMatch_19 : decode cX0_isMatch 19 = .ok (.aload_n 0, 1) := by decide +kernel
theorem dX0_isMatch_20 : decode cX0_isMatch 20 = .ok (.getfield 31, 3) := by decide +kernel
theorem dX0_isMatch_23 : decode cX0_isMatch 23 = .ok (.iload 4, 2) := by decide +kernel
theorem dX0_isMatch_25 : decode cX0_isMatch 25 = .ok (.iload 4, 2) := by decide +kernel
theorem dX0_isMatch_27 : decode cX0_isMatch 27 = .ok (.ifCond .ne 7, 3) := by decide +kernel
theorem dX0_isMatch_30 : decode cX0_isMatch 30 = .ok (.iconst 1, 1) := by decide +kernel
theorem dX0_isMatch_31 : decode cX0_isMatch 31 = .ok (.goto 4, 3) := by decide +kernel
theorem dX0_isMatch_34 : decode cX0_isMatch 34 = .ok (.iconst 0, 1) := by decide +kernel
theorem dX0_isMatch_35 : decode cX0_isMatch 35 = .ok (.bastore, 1) := by decide +kernel
theorem dX0_isMatch_36 : decode cX0_isMatch 36 = .ok (.iinc 4 1, 3) := by decide +kernel
theorem dX0_isMatch_39 : decode cX0_isMatch 39 = .ok (.goto (-26), 3) := by decide +kernel
theorem dX0_isMatch_42 : decode cX0_isMatch 42 = .ok (.iconst 0, 1) := by decide +kernel
theorem dX0_isMatch_43 : decode cX0_isMatch 43 = .ok (.istore 4, 2) := by decide +kernel
theorem dX0_isMatch_45 : decode cX0_isMatch 45 = .ok (.iload 4, 2) := by decide +kernel
theorem dX0_isMatch_47 : decode cX0_isMatch 47 = .ok (.aload_n 1, 1) := by decide +kernel
theorem dX0_isMatch_48 : decode cX0_isMatch 48 = .ok (.getfield 44, 3) := by decide +kernel
theorem dX0_isMatch_51 : decode cX0_isMatch 51 = .ok (.if_icmp .ge 122, 3) := by decide +kernel
theorem dX0_isMatch_54 : decode cX0_isMatch 54 = .ok (.aload_n 1, 1) := by decide +kernel
theorem dX0_isMatch_55 : decode cX0_isMatch 55 = .ok (.getfield 53, 3) := by decide +kernel
theorem dX0_isMatch_58 : decode cX0_isMatch 58 = .ok (.iload 4, 2) := by decide +kernel
theorem dX0_isMatch_60 : decode cX0_isMatch 60 = .ok (.iaload, 1) := by decide +kernel
theorem dX0_isMatch_61 : decode cX0_isMatch 61 = .ok (.istore 5, 2) := by decide +kernel
theorem dX0_isMatch_63 : decode cX0_isMatch 63 = .ok (.aload_n 1, 1) := by decide +kernel
theorem dX0_isMatch_64 : decode cX0_isMatch 64 = .ok (.iload 5, 2) := by decide +kernel
theorem dX0_isMatch_66 : decode cX0_isMatch 66 = .ok (.invokevirtual 73, 3) := by decide +kernel
theorem dX0_isMatch_69 : decode cX0_isMatch 69 = .ok (.istore 6, 2) := by decide +kernel
theorem dX0_isMatch_71 : decode cX0_isMatch 71 = .ok (.iload_n 3, 1) := by decide +kernel
theorem dX0_isMatch_72 : decode cX0_isMatch 72 = .ok (.istore 7, 2) := by decide +kernel
theorem dX0_isMatch_74 : decode cX0_isMatch 74 = .ok (.iload 7, 2) := by decide +kernel
theorem dX0_isMatch_76 : decode cX0_isMatch 76 = .ok (.ifCond .le 66, 3) := by decide +kernel
theorem dX0_isMatch_79 : decode cX0_isMatch 79 = .ok (.aload_n 0, 1) := by decide +kernel
theorem dX0_isMatch_80 : decode cX0_isMatch 80 = .ok (.getfield 31, 3) := by decide +kernel
theorem dX0_isMatch_83 : decode cX0_isMatch 83 = .ok (.iload 7, 2) := by decide +kernel
theorem dX0_isMatch_85 : decode cX0_isMatch 85 = .ok (.iload 6, 2) := by decide +kernel
theorem dX0_isMatch_87 : decode cX0_isMatch 87 = .ok (.ifCond .eq 13, 3) := by decide +kernel
theorem dX0_isMatch_90 : decode cX0_isMatch 90 = .ok (.aload_n 0, 1) := by decide +kernel
theorem dX0_isMatch_91 : decode cX0_isMatch 91 = .ok (.getfield 31, 3) := by decide +kernel
theorem dX0_isMatch_94 : decode cX0_isMatch 94 = .ok (.iload 7, 2) := by decide +kernel
theorem dX0_isMatch_96 : decode cX0_isMatch 96 = .ok (.baload, 1) := by decide +kernel
theorem dX0_isMatch_97 : decode cX0_isMatch 97 = .ok (.ifCond .ne 33, 3) := by decide +kernel
theorem dX0_isMatch_100 : decode cX0_isMatch 100 = .ok (.aload_n 0, 1) := by decide +kernel
theorem dX0_isMatch_101 : decode cX0_isMatch 101 = .ok (.getfield 31, 3) := by decide +kernel
theorem dX0_isMatch_104 : decode cX0_isMatch 104 = .ok (.iload 7, 2) := by decide +kernel
theorem dX0_isMatch_106 : decode cX0_isMatch 106 = .ok (.iconst 1, 1) := by decide +kernel
theorem dX0_isMatch_107 : decode cX0_isMatch 107 = .ok (.isub, 1) := by decide +kernel
theorem dX0_isMatch_108 : decode cX0_isMatch 108 = .ok (.baload, 1) := by decide +kernel
theorem dX0_isMatch_109 : decode cX0_isMatch 109 = .ok (.ifCond .eq 25, 3) := by decide +kernel
theorem dX0_isMatch_112 : decode cX0_isMatch 112 = .ok (.aload_n 0, 1) := by decide +kernel
theorem dX0_isMatch_113 : decode cX0_isMatch 113 = .ok (.aload_n 1, 1) := by decide +kernel
theorem dX0_isMatch_114 : decode cX0_isMatch 114 = .ok (.iload 5, 2) := by decide +kernel
theorem dX0_isMatch_116 : decode cX0_isMatch 116 = .ok (.iload_n 2, 1) := by decide +kernel
theorem dX0_isMatch_117 : decode cX0_isMatch 117 = .ok (.iload 7, 2) := by decide +kernel
theorem dX0_isMatch_119 : decode cX0_isMatch 119 = .ok (.iconst 1, 1) := by decide +kernel
theorem dX0_isMatch_120 : decode cX0_isMatch 120 = .ok (.isub, 1) := by decide +kernel
theorem dX0_isMatch_121 : decode cX0_isMatch 121 = .ok (.invokestatic 66, 3) := by decide +kernel
theorem dX0_isMatch_124 : decode cX0_isMatch 124 = .ok (.invokevirtual 109, 3) := by decide +kernel
theorem dX0_isMatch_127 : decode cX0_isMatch 127 = .ok (.ifCond .eq 7, 3) := by decide +kernel
theorem dX0_isMatch_130 : decode cX0_isMatch 130 = .ok (.iconst 1, 1) := by decide +kernel
theorem dX0_isMatch_131 : decode cX0_isMatch 131 = .ok (.goto 4, 3) := by decide +kernel
theorem dX0_isMatch_134 : decode cX0_isMatch 134 = .ok (.iconst 0, 1) := by decide +kernel
theorem dX0_isMatch_135 : decode cX0_isMatch 135 = .ok (.bastore, 1) := by decide +kernel
theorem dX0_isMatch_136 : decode cX0_isMatch 136 = .ok (.iinc 7 (-1), 3) := by decide +kernel
theorem dX0_isMatch_139 : decode cX0_isMatch 139 = .ok (.goto (-65), 3) := by decide +kernel
theorem dX0_isMatch_142 : decode cX0_isMatch 142 = .ok (.aload_n 0, 1) := by decide +kernel
theorem dX0_isMatch_143 : decode cX0_isMatch 143 = .ok (.getfield 31, 3) := by decide +kernel
theorem dX0_isMatch_146 : decode cX0_isMatch 146 = .ok (.iconst 0, 1) := by decide +kernel
theorem dX0_isMatch_147 : decode cX0_isMatch 147 = .ok (.iload 6, 2) := by decide +kernel
theorem dX0_isMatch_149 : decode cX0_isMatch 149 = .ok (.ifCond .eq 16, 3) := by decide +kernel
theorem dX0_isMatch_152 : decode cX0_isMatch 152 = .ok (.aload_n 0, 1) := by decide +kernel
theorem dX0_isMatch_153 : decode cX0_isMatch 153 = .ok (.getfield 31, 3) := by decide +kernel
theorem dX0_isMatch_156 : decode cX0_isMatch 156 = .ok (.iconst 0, 1) := by decide +kernel
theorem dX0_isMatch_157 : decode cX0_isMatch 157 = .ok (.baload, 1) := by decide +kernel
theorem dX0_isMatch_158 : decode cX0_isMatch 158 = .ok (.ifCond .eq 7, 3) := by decide +kernel
theorem dX0_isMatch_161 : decode cX0_isMatch 161 = .ok (.iconst 1, 1) := by decide +kernel
theorem dX0_isMatch_162 : decode cX0_isMatch 162 = .ok (.goto 4, 3) := by decide +kernel
theorem dX0_isMatch_165 : decode cX0_isMatch 165 = .ok (.iconst 0, 1) := by decide +kernel
theorem dX0_isMatch_166 : decode cX0_isMatch 166 = .ok (.bastore, 1) := by decide +kernel
theorem dX0_isMatch_167 : decode cX0_isMatch 167 = .ok (.iinc 4 1, 3) := by decide +kernel
theorem dX0_isMatch_170 : decode cX0_isMatch 170 = .ok (.goto (-125), 3) := by decide +kernel
theorem dX0_isMatch_173 : decode cX0_isMatch 173 = .ok (.aload_n 0, 1) := by decide +kernel
theorem dX0_isMatch_174 : decode cX0_isMatch 174 = .ok (.getfield 31, 3) := by decide +kernel
theorem dX0_isMatch_177 : decode cX0_isMatch 177 = .ok (.iload_n 3, 1) := by decide +kernel
theorem dX0_isMatch_178 : decode cX0_isMatch 178 = .ok (.baload, 1) := by decide +kernel
theorem dX0_isMatch_179 : decode cX0_isMatch 179 = .ok (.ireturn, 1) := by decide +kernel
theorem dX0_canTake_0 : decode cX0_canTake 0 = .ok (.aload_n 1, 1) := by decide +kernel
theorem dX0_canTake_1 : decode cX0_canTake 1 = .ok (.getfield 81, 3) := by decide +kernel
theorem dX0_canTake_4 : decode cX0_canTake 4 = .ok (.iload_n 2, 1) := by decide +kernel
theorem dX0_canTake_5 : decode cX0_canTake 5 = .ok (.iaload, 1) := by decide +kernel
theorem dX0_canTake_6 : decode cX0_canTake 6 = .ok (.iconst (-1), 1) := by decide +kernel
theorem dX0_canTake_7 : decode cX0_canTake 7 = .ok (.if_icmp .eq 27, 3) := by decide +kernel
theorem dX0_canTake_10 : decode cX0_canTake 10 = .ok (.aload_n 1, 1) := by decide +kernel
theorem dX0_canTake_11 : decode cX0_canTake 11 = .ok (.getfield 81, 3) := by decide +kernel
theorem dX0_canTake_14 : decode cX0_canTake 14 = .ok (.iload_n 2, 1) := by decide +kernel
theorem dX0_canTake_15 : decode cX0_canTake 15 = .ok (.iaload, 1) := by decide +kernel
theorem dX0_canTake_16 : decode cX0_canTake 16 = .ok (.aload_n 0, 1) := by decide +kernel
theorem dX0_canTake_17 : decode cX0_canTake 17 = .ok (.getfield 35, 3) := by decide +kernel
theorem dX0_canTake_20 : decode cX0_canTake 20 = .ok (.getfield 84, 3) := by decide +kernel
theorem dX0_canTake_23 : decode cX0_canTake 23 = .ok (.iload_n 3, 1) := by decide +kernel
theorem dX0_canTake_24 : decode cX0_canTake 24 = .ok (.iaload, 1) := by decide +kernel
theorem dX0_canTake_25 : decode cX0_canTake 25 = .ok (.if_icmp .ne 7, 3) := by decide +kernel
theorem dX0_canTake_28 : decode cX0_canTake 28 = .ok (.iconst 1, 1) := by decide +kernel
theorem dX0_canTake_29 : decode cX0_canTake 29 = .ok (.goto 4, 3) := by decide +kernel
theorem dX0_canTake_32 : decode cX0_canTake 32 = .ok (.iconst 0, 1) := by decide +kernel
theorem dX0_canTake_33 : decode cX0_canTake 33 = .ok (.ireturn, 1) := by decide +kernel
theorem dX0_canTake_34 : decode cX0_canTake 34 = .ok (.aload_n 0, 1) := by decide +kernel
theorem dX0_canTake_35 : decode cX0_canTake 35 = .ok (.getfield 35, 3) := by decide +kernel
theorem dX0_canTake_38 : decode cX0_canTake 38 = .ok (.getfield 113, 3) := by decide +kernel
theorem dX0_canTake_41 : decode cX0_canTake 41 = .ok (.iload_n 3, 1) := by decide +kernel
theorem dX0_canTake_42 : decode cX0_canTake 42 = .ok (.iaload, 1) := by decide +kernel
theorem dX0_canTake_43 : decode cX0_canTake 43 = .ok (.istore 4, 2) := by decide +kernel
theorem dX0_canTake_45 : decode cX0_canTake 45 = .ok (.aload_n 1, 1) := by decide +kernel
theorem dX0_canTake_46 : decode cX0_canTake 46 = .ok (.getfield 77, 3) := by decide +kernel
theorem dX0_canTake_49 : decode cX0_canTake 49 = .ok (.iload_n 2, 1) := by decide +kernel
theorem dX0_canTake_50 : decode cX0_canTake 50 = .ok (.iaload, 1) := by decide +kernel
theorem dX0_canTake_51 : decode cX0_canTake 51 = .ok (.aload_n 0, 1) := by decide +kernel
theorem dX0_canTake_52 : decode cX0_canTake 52 = .ok (.getfield 35, 3) := by decide +kernel
theorem dX0_canTake_55 : decode cX0_canTake 55 = .ok (.getfield 80, 3) := by decide +kernel
theorem dX0_canTake_58 : decode cX0_canTake 58 = .ok (.iload_n 3, 1) := by decide +kernel
theorem dX0_canTake_59 : decode cX0_canTake 59 = .ok (.iaload, 1) := by decide +kernel
theorem dX0_canTake_60 : decode cX0_canTake 60 = .ok (.if_icmp .ne 29, 3) := by decide +kernel
theorem dX0_canTake_63 : decode cX0_canTake 63 = .ok (.aload_n 1, 1) := by decide +kernel
theorem dX0_canTake_64 : decode cX0_canTake 64 = .ok (.getfield 116, 3) := by decide +kernel
theorem dX0_canTake_67 : decode cX0_canTake 67 = .ok (.iload_n 2, 1) := by decide +kernel
theorem dX0_canTake_68 : decode cX0_canTake 68 = .ok (.iaload, 1) := by decide +kernel
theorem dX0_canTake_69 : decode cX0_canTake 69 = .ok (.iload 4, 2) := by decide +kernel
theorem dX0_canTake_71 : decode cX0_canTake 71 = .ok (.if_icmp .gt 18, 3) := by decide +kernel
theorem dX0_canTake_74 : decode cX0_canTake 74 = .ok (.aload_n 1, 1) := by decide +kernel
theorem dX0_canTake_75 : decode cX0_canTake 75 = .ok (.getfield 119, 3) := by decide +kernel
theorem dX0_canTake_78 : decode cX0_canTake 78 = .ok (.iload_n 2, 1) := by decide +kernel
theorem dX0_canTake_79 : decode cX0_canTake 79 = .ok (.iaload, 1) := by decide +kernel
theorem dX0_canTake_80 : decode cX0_canTake 80 = .ok (.iload 4, 2) := by decide +kernel
theorem dX0_canTake_82 : decode cX0_canTake 82 = .ok (.if_icmp .lt 7, 3) := by decide +kernel
theorem dX0_canTake_85 : decode cX0_canTake 85 = .ok (.iconst 1, 1) := by decide +kernel
theorem dX0_canTake_86 : decode cX0_canTake 86 = .ok (.goto 4, 3) := by decide +kernel
theorem dX0_canTake_89 : decode cX0_canTake 89 = .ok (.iconst 0, 1) := by decide +kernel
theorem dX0_canTake_90 : decode cX0_canTake 90 = .ok (.ireturn, 1) := by decide +kernel
theorem dX1_init_0 : decode cX1_init 0 = .ok (.aload_n 0, 1) := by decide +kernel
theorem dX1_init_1 : decode cX1_init 1 = .ok (.invokespecial 3, 3) := by decide +kernel
theorem dX1_init_4 : decode cX1_init 4 = .ok (.aload_n 0, 1) := by decide +kernel
theorem dX1_init_5 : decode cX1_init 5 = .ok (.bipush 40, 2) := by decide +kernel
theorem dX1_init_7 : decode cX1_init 7 = .ok (.newarray .int, 2) := by decide +kernel
theorem dX1_init_9 : decode cX1_init 9 = .ok (.putfield 9, 3) := by decide +kernel
theorem dX1_init_12 : decode cX1_init 12 = .ok (.aload_n 0, 1) := by decide +kernel
theorem dX1_init_13 : decode cX1_init 13 = .ok (.bipush 40, 2) := by decide +kernel
theorem dX1_init_15 : decode cX1_init 15 = .ok (.newarray .int, 2) := by decide +kernel
theorem dX1_init_17 : decode cX1_init 17 = .ok (.putfield 15, 3) := by decide +kernel
theorem dX1_init_20 : decode cX1_init 20 = .ok (.aload_n 0, 1) := by decide +kernel
theorem dX1_init_21 : decode cX1_init 21 = .ok (.bipush 40, 2) := by decide +kernel
theorem dX1_init_23 : decode cX1_init 23 = .ok (.newarray .int, 2) := by decide +kernel
theorem dX1_init_25 : decode cX1_init 25 = .ok (.putfield 18, 3) := by decide +kernel
theorem dX1_init_28 : decode cX1_init 28 = .ok (.aload_n 0, 1) := by decide +kernel
theorem dX1_init_29 : decode cX1_init 29 = .ok (.bipush 40, 2) := by decide +kernel
theorem dX1_init_31 : decode cX1_init 31 = .ok (.newarray .int, 2) := by decide +kernel
theorem dX1_init_33 : decode cX1_init 33 = .ok (.putfield 21, 3) := by decide +kernel
theorem dX1_init_36 : decode cX1_init 36 = .ok (.aload_n 0, 1) := by decide +kernel
theorem dX1_init_37 : decode cX1_init 37 = .ok (.bipush 40, 2) := by decide +kernel
theorem dX1_init_39 : decode cX1_init 39 = .ok (.newarray .int, 2) := by decide +kernel
theorem dX1_init_41 : decode cX1_init 41 = .ok (.putfield 24, 3) := by decide +kernel
theorem dX1_init_44 : decode cX1_init 44 = .ok (.aload_n 0, 1) := by decide +kernel
theorem dX1_init_45 : decode cX1_init 45 = .ok (.bipush 40, 2) := by decide +kernel
theorem dX1_init_47 : decode cX1_init 47 = .ok (.newarray .int, 2) := by decide +kernel
theorem dX1_init_49 : decode cX1_init 49 = .ok (.putfield 27, 3) := by decide +kernel
theorem dX1_init_52 : decode cX1_init 52 = .ok (.return_, 1) := by decide +kernel
theorem dX1_makeEmpty_0 : decode cX1_makeEmpty 0 = .ok (.aload_n 0, 1) := by decide +kernel
theorem dX1_makeEmpty_1 : decode cX1_makeEmpty 1 = .ok (.iconst 0, 1) := by decide +kernel
theorem dX1_makeEmpty_2 : decode cX1_makeEmpty 2 = .ok (.putfield 30, 3) := by decide +kernel
theorem dX1_makeEmpty_5 : decode cX1_makeEmpty 5 = .ok (.aload_n 0, 1) := by decide +kernel
theorem dX1_makeEmpty_6 : decode cX1_makeEmpty 6 = .ok (.iconst 0, 1) := by decide +kernel
theorem dX1_makeEmpty_7 : decode cX1_makeEmpty 7 = .ok (.putfield 34, 3) := by decide +kernel
theorem dX1_makeEmpty_10 : decode cX1_makeEmpty 10 = .ok (.return_, 1) := by decide +kernel
theorem dX1_canMiss_0 : decode cX1_canMiss 0 = .ok (.aload_n 0, 1) := by decide +kernel
theorem dX1_canMiss_1 : decode cX1_canMiss 1 = .ok (.getfield 27, 3) := by decide +kernel
theorem dX1_canMiss_4 : decode cX1_canMiss 4 = .ok (.iload_n 1, 1) := by decide +kernel
theorem dX1_canMiss_5 : decode cX1_canMiss 5 = .ok (.iaload, 1) := by decide +kernel
theorem dX1_canMiss_6 : decode cX1_canMiss 6 = .ok (.aload_n 0, 1) := by decide +kernel
theorem dX1_canMiss_7 : decode cX1_canMiss 7 = .ok (.getfield 34, 3) := by decide +kernel
theorem dX1_canMiss_10 : decode cX1_canMiss 10 = .ok (.if_icmp .ge 7, 3) := by decide +kernel
theorem dX1_canMiss_13 : decode cX1_canMiss 13 = .ok (.iconst 1, 1) := by decide +kernel
theorem dX1_canMiss_14 : decode cX1_canMiss 14 = .ok (.goto 4, 3) := by decide +kernel
theorem dX1_canMiss_17 : decode cX1_canMiss 17 = .ok (.iconst 0, 1) := by decide +kernel
theorem dX1_canMiss_18 : decode cX1_canMiss 18 = .ok (.ireturn, 1) := by decide +kernel
theorem dX1_addSlot_0 : decode cX1_addSlot 0 = .ok (.aload_n 0, 1) := by decide +kernel
theorem dX1_addSlot_1 : decode cX1_addSlot 1 = .ok (.getfield 30, 3) := by decide +kernel
theorem dX1_addSlot_4 : decode cX1_addSlot 4 = .ok (.istore_n 3, 1) := by decide +kernel
theorem dX1_addSlot_5 : decode cX1_addSlot 5 = .ok (.aload_n 0, 1) := by decide +kernel
theorem dX1_addSlot_6 : decode cX1_addSlot 6 = .ok (.dup, 1) := by decide +kernel
theorem dX1_addSlot_7 : decode cX1_addSlot 7 = .ok (.getfield 30, 3) := by decide +kernel
theorem dX1_addSlot_10 : decode cX1_addSlot 10 = .ok (.iconst 1, 1) := by decide +kernel
theorem dX1_addSlot_11 : decode cX1_addSlot 11 = .ok (.iadd, 1) := by decide +kernel
theorem dX1_addSlot_12 : decode cX1_addSlot 12 = .ok (.putfield 30, 3) := by decide +kernel
theorem dX1_addSlot_15 : decode cX1_addSlot 15 = .ok (.aload_n 0, 1) := by decide +kernel
theorem dX1_addSlot_16 : decode cX1_addSlot 16 = .ok (.getfield 15, 3) := by decide +kernel
theorem dX1_addSlot_19 : decode cX1_addSlot 19 = .ok (.iload_n 3, 1) := by decide +kernel
theorem dX1_addSlot_20 : decode cX1_addSlot 20 = .ok (.aload_n 1, 1) := by decide +kernel
theorem dX1_addSlot_21 : decode cX1_addSlot 21 = .ok (.getfield 37, 3) := by decide +kernel
theorem dX1_addSlot_24 : decode cX1_addSlot 24 = .ok (.iload_n 2, 1) := by decide +kernel
theorem dX1_addSlot_25 : decode cX1_addSlot 25 = .ok (.iaload, 1) := by decide +kernel
theorem dX1_addSlot_26 : decode cX1_addSlot 26 = .ok (.iastore, 1) := by decide +kernel
theorem dX1_addSlot_27 : decode cX1_addSlot 27 = .ok (.aload_n 0, 1) := by decide +kernel
theorem dX1_addSlot_28 : decode cX1_addSlot 28 = .ok (.getfield 18, 3) := by decide +kernel
theorem dX1_addSlot_31 : decode cX1_addSlot 31 = .ok (.iload_n 3, 1) := by decide +kernel
theorem dX1_addSlot_32 : decode cX1_addSlot 32 = .ok (.aload_n 1, 1) := by decide +kernel
theorem dX1_addSlot_33 : decode cX1_addSlot 33 = .ok (.getfield 40, 3) := by decide +kernel
theorem dX1_addSlot_36 : decode cX1_addSlot 36 = .ok (.iload_n 2, 1) := by decide +kernel
theorem dX1_addSlot_37 : decode cX1_addSlot 37 = .ok (.iaload, 1) := by decide +kernel
theorem dX1_addSlot_38 : decode cX1_addSlot 38 = .ok (.iastore, 1) := by decide +kernel
theorem dX1_addSlot_39 : decode cX1_addSlot 39 = .ok (.aload_n 0, 1) := by decide +kernel
theorem dX1_addSlot_40 : decode cX1_addSlot 40 = .ok (.getfield 21, 3) := by decide +kernel
theorem dX1_addSlot_43 : decode cX1_addSlot 43 = .ok (.iload_n 3, 1) := by decide +kernel
theorem dX1_addSlot_44 : decode cX1_addSlot 44 = .ok (.aload_n 1, 1) := by decide +kernel
theorem dX1_addSlot_45 : decode cX1_addSlot 45 = .ok (.getfield 41, 3) := by decide +kernel
theorem dX1_addSlot_48 : decode cX1_addSlot 48 = .ok (.iload_n 2, 1) := by decide +kernel
theorem dX1_addSlot_49 : decode cX1_addSlot 49 = .ok (.iaload, 1) := by decide +kernel
theorem dX1_addSlot_50 : decode cX1_addSlot 50 = .ok (.iastore, 1) := by decide +kernel
theorem dX1_addSlot_51 : decode cX1_addSlot 51 = .ok (.aload_n 0, 1) := by decide +kernel
theorem dX1_addSlot_52 : decode cX1_addSlot 52 = .ok (.getfield 24, 3) := by decide +kernel
theorem dX1_addSlot_55 : decode cX1_addSlot 55 = .ok (.iload_n 3, 1) := by decide +kernel
theorem dX1_addSlot_56 : decode cX1_addSlot 56 = .ok (.aload_n 1, 1) := by decide +kernel
theorem dX1_addSlot_57 : decode cX1_addSlot 57 = .ok (.getfield 41, 3) := by decide +kernel
theorem dX1_addSlot_60 : decode cX1_addSlot 60 = .ok (.iload_n 2, 1) := by decide +kernel
theorem dX1_addSlot_61 : decode cX1_addSlot 61 = .ok (.iaload, 1) := by decide +kernel
theorem dX1_addSlot_62 : decode cX1_addSlot 62 = .ok (.iastore, 1) := by decide +kernel
theorem dX1_addSlot_63 : decode cX1_addSlot 63 = .ok (.aload_n 0, 1) := by decide +kernel
theorem dX1_addSlot_64 : decode cX1_addSlot 64 = .ok (.getfield 27, 3) := by decide +kernel
theorem dX1_addSlot_67 : decode cX1_addSlot 67 = .ok (.iload_n 3, 1) := by decide +kernel
theorem dX1_addSlot_68 : decode cX1_addSlot 68 = .ok (.iconst 1, 1) := by decide +kernel
theorem dX1_addSlot_69 : decode cX1_addSlot 69 = .ok (.iastore, 1) := by decide +kernel
theorem dX1_addSlot_70 : decode cX1_addSlot 70 = .ok (.iload_n 3, 1) := by decide +kernel
theorem dX1_addSlot_71 : decode cX1_addSlot 71 = .ok (.ireturn, 1) := by decide +kernel
theorem dX1_useSlot_0 : decode cX1_useSlot 0 = .ok (.aload_n 0, 1) := by decide +kernel
theorem dX1_useSlot_1 : decode cX1_useSlot 1 = .ok (.getfield 18, 3) := by decide +kernel
theorem dX1_useSlot_4 : decode cX1_useSlot 4 = .ok (.iload_n 1, 1) := by decide +kernel
theorem dX1_useSlot_5 : decode cX1_useSlot 5 = .ok (.iaload, 1) := by decide +kernel
theorem dX1_useSlot_6 : decode cX1_useSlot 6 = .ok (.aload_n 2, 1) := by decide +kernel
theorem dX1_useSlot_7 : decode cX1_useSlot 7 = .ok (.getfield 40, 3) := by decide +kernel
theorem dX1_useSlot_10 : decode cX1_useSlot 10 = .ok (.iload_n 3, 1) := by decide +kernel
theorem dX1_useSlot_11 : decode cX1_useSlot 11 = .ok (.iaload, 1) := by decide +kernel
theorem dX1_useSlot_12 : decode cX1_useSlot 12 = .ok (.if_icmp .eq 10, 3) := by decide +kernel
theorem dX1_useSlot_15 : decode cX1_useSlot 15 = .ok (.aload_n 0, 1) := by decide +kernel
theorem dX1_useSlot_16 : decode cX1_useSlot 16 = .ok (.getfield 18, 3) := by decide +kernel
theorem dX1_useSlot_19 : decode cX1_useSlot 19 = .ok (.iload_n 1, 1) := by decide +kernel
theorem dX1_useSlot_20 : decode cX1_useSlot 20 = .ok (.iconst (-1), 1) := by decide +kernel
theorem dX1_useSlot_21 : decode cX1_useSlot 21 = .ok (.iastore, 1) := by decide +kernel
theorem dX1_useSlot_22 : decode cX1_useSlot 22 = .ok (.aload_n 0, 1) := by decide +kernel
theorem dX1_useSlot_23 : decode cX1_useSlot 23 = .ok (.getfield 21, 3) := by decide +kernel
theorem dX1_useSlot_26 : decode cX1_useSlot 26 = .ok (.iload_n 1, 1) := by decide +kernel
theorem dX1_useSlot_27 : decode cX1_useSlot 27 = .ok (.aload_n 0, 1) := by decide +kernel
theorem dX1_useSlot_28 : decode cX1_useSlot 28 = .ok (.getfield 21, 3) := by decide +kernel
theorem dX1_useSlot_31 : decode cX1_useSlot 31 = .ok (.iload_n 1, 1) := by decide +kernel
theorem dX1_useSlot_32 : decode cX1_useSlot 32 = .ok (.iaload, 1) := by decide +kernel
theorem dX1_useSlot_33 : decode cX1_useSlot 33 = .ok (.aload_n 2, 1) := by decide +kernel
theorem dX1_useSlot_34 : decode cX1_useSlot 34 = .ok (.getfield 41, 3) := by decide +kernel
theorem dX1_useSlot_37 : decode cX1_useSlot 37 = .ok (.iload_n 3, 1) := by decide +kernel
theorem dX1_useSlot_38 : decode cX1_useSlot 38 = .ok (.iaload, 1) := by decide +kernel
theorem dX1_useSlot_39 : decode cX1_useSlot 39 = .ok (.invokestatic 44, 3) := by decide +kernel
theorem dX1_useSlot_42 : decode cX1_useSlot 42 = .ok (.iastore, 1) := by decide +kernel
theorem dX1_useSlot_43 : decode cX1_useSlot 43 = .ok (.aload_n 0, 1) := by decide +kernel
theorem dX1_useSlot_44 : decode cX1_useSlot 44 = .ok (.getfield 24, 3) := by decide +kernel
theorem dX1_useSlot_47 : decode cX1_useSlot 47 = .ok (.iload_n 1, 1) := by decide +kernel
theorem dX1_useSlot_48 : decode cX1_useSlot 48 = .ok (.aload_n 0, 1) := by decide +kernel
theorem dX1_useSlot_49 : decode cX1_useSlot 49 = .ok (.getfield 24, 3) := by decide +kernel
theorem dX1_useSlot_52 : decode cX1_useSlot 52 = .ok (.iload_n 1, 1) := by decide +kernel
theorem dX1_useSlot_53 : decode cX1_useSlot 53 = .ok (.iaload, 1) := by decide +kernel
theorem dX1_useSlot_54 : decode cX1_useSlot 54 = .ok (.aload_n 2, 1) := by decide +kernel
theorem dX1_useSlot_55 : decode cX1_useSlot 55 = .ok (.getfield 41, 3) := by decide +kernel
theorem dX1_useSlot_58 : decode cX1_useSlot 58 = .ok (.iload_n 3, 1) := by decide +kernel
theorem dX1_useSlot_59 : decode cX1_useSlot 59 = .ok (.iaload, 1) := by decide +kernel
theorem dX1_useSlot_60 : decode cX1_useSlot 60 = .ok (.invokestatic 50, 3) := by decide +kernel
theorem dX1_useSlot_63 : decode cX1_useSlot 63 = .ok (.iastore, 1) := by decide +kernel
theorem dX1_useSlot_64 : decode cX1_useSlot 64 = .ok (.aload_n 0, 1) := by decide +kernel
theorem dX1_useSlot_65 : decode cX1_useSlot 65 = .ok (.getfield 27, 3) := by decide +kernel
theorem dX1_useSlot_68 : decode cX1_useSlot 68 = .ok (.iload_n 1, 1) := by decide +kernel
theorem dX1_useSlot_69 : decode cX1_useSlot 69 = .ok (.dup2, 1) := by decide +kernel
theorem dX1_useSlot_70 : decode cX1_useSlot 70 = .ok (.iaload, 1) := by decide +kernel
theorem dX1_useSlot_71 : decode cX1_useSlot 71 = .ok (.iconst 1, 1) := by decide +kernel
theorem dX1_useSlot_72 : decode cX1_useSlot 72 = .ok (.iadd, 1) := by decide +kernel
theorem dX1_useSlot_73 : decode cX1_useSlot 73 = .ok (.iastore, 1) := by decide +kernel
theorem dX1_useSlot_74 : decode cX1_useSlot 74 = .ok (.return_, 1) := by decide +kernel
theorem dX2_init_0 : decode cX2_init 0 = .ok (.aload_n 0, 1) := by decide +kernel
theorem dX2_init_1 : decode cX2_init 1 = .ok (.invokespecial 3, 3) := by decide +kernel
theorem dX2_init_4 : decode cX2_init 4 = .ok (.aload_n 0, 1) := by decide +kernel
theorem dX2_init_5 : decode cX2_init 5 = .ok (.bipush 12, 2) := by decide +kernel
theorem dX2_init_7 : decode cX2_init 7 = .ok (.newarray .int, 2) := by decide +kernel
theorem dX2_init_9 : decode cX2_init 9 = .ok (.putfield 9, 3) := by decide +kernel
theorem dX2_init_12 : decode cX2_init 12 = .ok (.aload_n 0, 1) := by decide +kernel
theorem dX2_init_13 : decode cX2_init 13 = .ok (.bipush 12, 2) := by decide +kernel
theorem dX2_init_15 : decode cX2_init 15 = .ok (.newarray .int, 2) := by decide +kernel
theorem dX2_init_17 : decode cX2_init 17 = .ok (.putfield 15, 3) := by decide +kernel
theorem dX2_init_20 : decode cX2_init 20 = .ok (.aload_n 0, 1) := by decide +kernel
theorem dX2_init_21 : decode cX2_init 21 = .ok (.sipush 360, 3) := by decide +kernel
theorem dX2_init_24 : decode cX2_init 24 = .ok (.newarray .byte, 2) := by decide +kernel
theorem dX2_init_26 : decode cX2_init 26 = .ok (.putfield 18, 3) := by decide +kernel
theorem dX2_init_29 : decode cX2_init 29 = .ok (.aload_n 0, 1) := by decide +kernel
theorem dX2_init_30 : decode cX2_init 30 = .ok (.sipush 360, 3) := by decide +kernel
theorem dX2_init_33 : decode cX2_init 33 = .ok (.newarray .int, 2) := by decide +kernel
theorem dX2_init_35 : decode cX2_init 35 = .ok (.putfield 22, 3) := by decide +kernel
theorem dX2_init_38 : decode cX2_init 38 = .ok (.aload_n 0, 1) := by decide +kernel
theorem dX2_init_39 : decode cX2_init 39 = .ok (.sipush 360, 3) := by decide +kernel
theorem dX2_init_42 : decode cX2_init 42 = .ok (.newarray .int, 2) := by decide +kernel
theorem dX2_init_44 : decode cX2_init 44 = .ok (.putfield 25, 3) := by decide +kernel
theorem dX2_init_47 : decode cX2_init 47 = .ok (.aload_n 0, 1) := by decide +kernel
theorem dX2_init_48 : decode cX2_init 48 = .ok (.sipush 360, 3) := by decide +kernel
theorem dX2_init_51 : decode cX2_init 51 = .ok (.newarray .int, 2) := by decide +kernel
theorem dX2_init_53 : decode cX2_init 53 = .ok (.putfield 28, 3) := by decide +kernel
theorem dX2_init_56 : decode cX2_init 56 = .ok (.aload_n 0, 1) := by decide +kernel
theorem dX2_init_57 : decode cX2_init 57 = .ok (.sipush 360, 3) := by decide +kernel
theorem dX2_init_60 : decode cX2_init 60 = .ok (.newarray .int, 2) := by decide +kernel
theorem dX2_init_62 : decode cX2_init 62 = .ok (.putfield 31, 3) := by decide +kernel
theorem dX2_init_65 : decode cX2_init 65 = .ok (.return_, 1) := by decide +kernel
theorem dX2_add_0 : decode cX2_add 0 = .ok (.aload_n 0, 1) := by decide +kernel
theorem dX2_add_1 : decode cX2_add 1 = .ok (.getfield 34, 3) := by decide +kernel
theorem dX2_add_4 : decode cX2_add 4 = .ok (.istore_n 3, 1) := by decide +kernel
theorem dX2_add_5 : decode cX2_add 5 = .ok (.iconst 0, 1) := by decide +kernel
theorem dX2_add_6 : decode cX2_add 6 = .ok (.istore 4, 2) := by decide +kernel
theorem dX2_add_8 : decode cX2_add 8 = .ok (.iload 4, 2) := by decide +kernel
theorem dX2_add_10 : decode cX2_add 10 = .ok (.iload_n 2, 1) := by decide +kernel
theorem dX2_add_11 : decode cX2_add 11 = .ok (.if_icmp .ge 25, 3) := by decide +kernel
theorem dX2_add_14 : decode cX2_add 14 = .ok (.aload_n 0, 1) := by decide +kernel
theorem dX2_add_15 : decode cX2_add 15 = .ok (.getfield 18, 3) := by decide +kernel
theorem dX2_add_18 : decode cX2_add 18 = .ok (.iload_n 3, 1) := by decide +kernel
theorem dX2_add_19 : decode cX2_add 19 = .ok (.invokestatic 38, 3) := by decide +kernel
theorem dX2_add_22 : decode cX2_add 22 = .ok (.iload 4, 2) := by decide +kernel
theorem dX2_add_24 : decode cX2_add 24 = .ok (.iadd, 1) := by decide +kernel
theorem dX2_add_25 : decode cX2_add 25 = .ok (.aload_n 1, 1) := by decide +kernel
theorem dX2_add_26 : decode cX2_add 26 = .ok (.iload 4, 2) := by decide +kernel
theorem dX2_add_28 : decode cX2_add 28 = .ok (.baload, 1) := by decide +kernel
theorem dX2_add_29 : decode cX2_add 29 = .ok (.bastore, 1) := by decide +kernel
theorem dX2_add_30 : decode cX2_add 30 = .ok (.iinc 4 1, 3) := by decide +kernel
theorem dX2_add_33 : decode cX2_add 33 = .ok (.goto (-25), 3) := by decide +kernel
theorem dX2_add_36 : decode cX2_add 36 = .ok (.aload_n 0, 1) := by decide +kernel
theorem dX2_add_37 : decode cX2_add 37 = .ok (.getfield 9, 3) := by decide +kernel
theorem dX2_add_40 : decode cX2_add 40 = .ok (.iload_n 3, 1) := by decide +kernel
theorem dX2_add_41 : decode cX2_add 41 = .ok (.iload_n 2, 1) := by decide +kernel
theorem dX2_add_42 : decode cX2_add 42 = .ok (.iastore, 1) := by decide +kernel
theorem dX2_add_43 : decode cX2_add 43 = .ok (.aload_n 0, 1) := by decide +kernel
theorem dX2_add_44 : decode cX2_add 44 = .ok (.iload_n 3, 1) := by decide +kernel
theorem dX2_add_45 : decode cX2_add 45 = .ok (.invokevirtual 42, 3) := by decide +kernel
theorem dX2_add_48 : decode cX2_add 48 = .ok (.aload_n 0, 1) := by decide +kernel
theorem dX2_add_49 : decode cX2_add 49 = .ok (.iload_n 3, 1) := by decide +kernel
theorem dX2_add_50 : decode cX2_add 50 = .ok (.invokevirtual 46, 3) := by decide +kernel
theorem dX2_add_53 : decode cX2_add 53 = .ok (.aload_n 0, 1) := by decide +kernel
theorem dX2_add_54 : decode cX2_add 54 = .ok (.dup, 1) := by decide +kernel
theorem dX2_add_55 : decode cX2_add 55 = .ok (.getfield 34, 3) := by decide +kernel
theorem dX2_add_58 : decode cX2_add 58 = .ok (.iconst 1, 1) := by decide +kernel
theorem dX2_add_59 : decode cX2_add 59 = .ok (.iadd, 1) := by decide +kernel
theorem dX2_add_60 : decode cX2_add 60 = .ok (.putfield 34, 3) := by decide +kernel
theorem dX2_add_63 : decode cX2_add 63 = .ok (.iload_n 3, 1) := by decide +kernel
theorem dX2_add_64 : decode cX2_add 64 = .ok (.ireturn, 1) := by decide +kernel
theorem dX2_cut_0 : decode cX2_cut 0 = .ok (.iload_n 1, 1) := by decide +kernel
theorem dX2_cut_1 : decode cX2_cut 1 = .ok (.invokestatic 38, 3) := by decide +kernel
theorem dX2_cut_4 : decode cX2_cut 4 = .ok (.istore_n 2, 1) := by decide +kernel
theorem dX2_cut_5 : decode cX2_cut 5 = .ok (.iconst 0, 1) := by decide +kernel
theorem dX2_cut_6 : decode cX2_cut 6 = .ok (.istore_n 3, 1) := by decide +kernel
theorem dX2_cut_7 : decode cX2_cut 7 = .ok (.iload_n 2, 1) := by decide +kernel
theorem dX2_cut_8 : decode cX2_cut 8 = .ok (.istore 4, 2) := by decide +kernel
theorem dX2_cut_10 : decode cX2_cut 10 = .ok (.iconst (-1), 1) := by decide +kernel
theorem dX2_cut_11 : decode cX2_cut 11 = .ok (.istore 5, 2) := by decide +kernel
theorem dX2_cut_13 : decode cX2_cut 13 = .ok (.iconst 0, 1) := by decide +kernel
theorem dX2_cut_14 : decode cX2_cut 14 = .ok (.istore 6, 2) := by decide +kernel
theorem dX2_cut_16 : decode cX2_cut 16 = .ok (.iload 6, 2) := by decide +kernel
theorem dX2_cut_18 : decode cX2_cut 18 = .ok (.aload_n 0, 1) := by decide +kernel
theorem dX2_cut_19 : decode cX2_cut 19 = .ok (.getfield 9, 3) := by decide +kernel
theorem dX2_cut_22 : decode cX2_cut 22 = .ok (.iload_n 1, 1) := by decide +kernel
theorem dX2_cut_23 : decode cX2_cut 23 = .ok (.iaload, 1) := by decide +kernel
theorem dX2_cut_24 : decode cX2_cut 24 = .ok (.if_icmp .ge 89, 3) := by decide +kernel
theorem dX2_cut_27 : decode cX2_cut 27 = .ok (.aload_n 0, 1) := by decide +kernel
theorem dX2_cut_28 : decode cX2_cut 28 = .ok (.getfield 18, 3) := by decide +kernel
theorem dX2_cut_31 : decode cX2_cut 31 = .ok (.iload_n 2, 1) := by decide +kernel
theorem dX2_cut_32 : decode cX2_cut 32 = .ok (.iload 6, 2) := by decide +kernel
theorem dX2_cut_34 : decode cX2_cut 34 = .ok (.iadd, 1) := by decide +kernel
theorem dX2_cut_35 : decode cX2_cut 35 = .ok (.baload, 1) := by decide +kernel
theorem dX2_cut_36 : decode cX2_cut 36 = .ok (.invokestatic 49, 3) := by decide +kernel
theorem dX2_cut_39 : decode cX2_cut 39 = .ok (.istore 7, 2) := by decide +kernel
theorem dX2_cut_41 : decode cX2_cut 41 = .ok (.iload 7, 2) := by decide +kernel
theorem dX2_cut_43 : decode cX2_cut 43 = .ok (.iload 5, 2) := by decide +kernel
theorem dX2_cut_45 : decode cX2_cut 45 = .ok (.if_icmp .ne 9, 3) := by decide +kernel
theorem dX2_cut_48 : decode cX2_cut 48 = .ok (.iload 7, 2) := by decide +kernel
theorem dX2_cut_50 : decode cX2_cut 50 = .ok (.iconst 3, 1) := by decide +kernel
theorem dX2_cut_51 : decode cX2_cut 51 = .ok (.if_icmp .ne 41, 3) := by decide +kernel
theorem dX2_cut_54 : decode cX2_cut 54 = .ok (.iload_n 1, 1) := by decide +kernel
theorem dX2_cut_55 : decode cX2_cut 55 = .ok (.iload_n 3, 1) := by decide +kernel
theorem dX2_cut_56 : decode cX2_cut 56 = .ok (.invokestatic 52, 3) := by decide +kernel
theorem dX2_cut_59 : decode cX2_cut 59 = .ok (.istore 4, 2) := by decide +kernel
theorem dX2_cut_61 : decode cX2_cut 61 = .ok (.aload_n 0, 1) := by decide +kernel
theorem dX2_cut_62 : decode cX2_cut 62 = .ok (.getfield 22, 3) := by decide +kernel
theorem dX2_cut_65 : decode cX2_cut 65 = .ok (.iload 4, 2) := by decide +kernel
theorem dX2_cut_67 : decode cX2_cut 67 = .ok (.iload 7, 2) := by decide +kernel
theorem dX2_cut_69 : decode cX2_cut 69 = .ok (.iastore, 1) := by decide +kernel
theorem dX2_cut_70 : decode cX2_cut 70 = .ok (.aload_n 0, 1) := by decide +kernel
theorem dX2_cut_71 : decode cX2_cut 71 = .ok (.getfield 25, 3) := by decide +kernel
theorem dX2_cut_74 : decode cX2_cut 74 = .ok (.iload 4, 2) := by decide +kernel
theorem dX2_cut_76 : decode cX2_cut 76 = .ok (.iload_n 2, 1) := by decide +kernel
theorem dX2_cut_77 : decode cX2_cut 77 = .ok (.iload 6, 2) := by decide +kernel
theorem dX2_cut_79 : decode cX2_cut 79 = .ok (.iadd, 1) := by decide +kernel
theorem dX2_cut_80 : decode cX2_cut 80 = .ok (.iastore, 1) := by decide +kernel
theorem dX2_cut_81 : decode cX2_cut 81 = .ok (.aload_n 0, 1) := by decide +kernel
theorem dX2_cut_82 : decode cX2_cut 82 = .ok (.getfield 28, 3) := by decide +kernel
theorem dX2_cut_85 : decode cX2_cut 85 = .ok (.iload 4, 2) := by decide +kernel
theorem dX2_cut_87 : decode cX2_cut 87 = .ok (.iconst 0, 1) := by decide +kernel
theorem dX2_cut_88 : decode cX2_cut 88 = .ok (.iastore, 1) := by decide +kernel
theorem dX2_cut_89 : decode cX2_cut 89 = .ok (.iinc 3 1, 3) := by decide +kernel
theorem dX2_cut_92 : decode cX2_cut 92 = .ok (.aload_n 0, 1) := by decide +kernel
theorem dX2_cut_93 : decode cX2_cut 93 = .ok (.getfield 28, 3) := by decide +kernel
theorem dX2_cut_96 : decode cX2_cut 96 = .ok (.iload 4, 2) := by decide +kernel
theorem dX2_cut_98 : decode cX2_cut 98 = .ok (.dup2, 1) := by decide +kernel
theorem dX2_cut_99 : decode cX2_cut 99 = .ok (.iaload, 1) := by decide +kernel
theorem dX2_cut_100 : decode cX2_cut 100 = .ok (.iconst 1, 1) := by decide +kernel
theorem dX2_cut_101 : decode cX2_cut 101 = .ok (.iadd, 1) := by decide +kernel
theorem dX2_cut_102 : decode cX2_cut 102 = .ok (.iastore, 1) := by decide +kernel
theorem dX2_cut_103 : decode cX2_cut 103 = .ok (.iload 7, 2) := by decide +kernel
theorem dX2_cut_105 : decode cX2_cut 105 = .ok (.istore 5, 2) := by decide +kernel
theorem dX2_cut_107 : decode cX2_cut 107 = .ok (.iinc 6 1, 3) := by decide +kernel
theorem dX2_cut_110 : decode cX2_cut 110 = .ok (.goto (-94), 3) := by decide +kernel
theorem dX2_cut_113 : decode cX2_cut 113 = .ok (.aload_n 0, 1) := by decide +kernel
theorem dX2_cut_114 : decode cX2_cut 114 = .ok (.getfield 15, 3) := by decide +kernel
theorem dX2_cut_117 : decode cX2_cut 117 = .ok (.iload_n 1, 1) := by decide +kernel
theorem dX2_cut_118 : decode cX2_cut 118 = .ok (.iload_n 3, 1) := by decide +kernel
theorem dX2_cut_119 : decode cX2_cut 119 = .ok (.iastore, 1) := by decide +kernel
theorem dX2_cut_120 : decode cX2_cut 120 = .ok (.return_, 1) := by decide +kernel
theorem dX2_kindOf_0 : decode cX2_kindOf 0 = .ok (.iload_n 0, 1) := by decide +kernel
theorem dX2_kindOf_1 : decode cX2_kindOf 1 = .ok (.bipush 65, 2) := by decide +kernel
theorem dX2_kindOf_3 : decode cX2_kindOf 3 = .ok (.if_icmp .lt 9, 3) := by decide +kernel
theorem dX2_kindOf_6 : decode cX2_kindOf 6 = .ok (.iload_n 0, 1) := by decide +kernel
theorem dX2_kindOf_7 : decode cX2_kindOf 7 = .ok (.bipush 90, 2) := by decide +kernel
theorem dX2_kindOf_9 : decode cX2_kindOf 9 = .ok (.if_icmp .le 15, 3) := by decide +kernel
theorem dX2_kindOf_12 : decode cX2_kindOf 12 = .ok (.iload_n 0, 1) := by decide +kernel
theorem dX2_kindOf_13 : decode cX2_kindOf 13 = .ok (.bipush 97, 2) := by decide +kernel
theorem dX2_kindOf_15 : decode cX2_kindOf 15 = .ok (.if_icmp .lt 11, 3) := by decide +kernel
theorem dX2_kindOf_18 : decode cX2_kindOf 18 = .ok (.iload_n 0, 1) := by decide +kernel
theorem dX2_kindOf_19 : decode cX2_kindOf 19 = .ok (.bipush 122, 2) := by decide +kernel
theorem dX2_kindOf_21 : decode cX2_kindOf 21 = .ok (.if_icmp .gt 5, 3) := by decide +kernel
theorem dX2_kindOf_24 : decode cX2_kindOf 24 = .ok (.iconst 0, 1) := by decide +kernel
theorem dX2_kindOf_25 : decode cX2_kindOf 25 = .ok (.ireturn, 1) := by decide +kernel
theorem dX2_kindOf_26 : decode cX2_kindOf 26 = .ok (.iload_n 0, 1) := by decide +kernel
theorem dX2_kindOf_27 : decode cX2_kindOf 27 = .ok (.bipush 48, 2) := by decide +kernel
theorem dX2_kindOf_29 : decode cX2_kindOf 29 = .ok (.if_icmp .lt 11, 3) := by decide +kernel
theorem dX2_kindOf_32 : decode cX2_kindOf 32 = .ok (.iload_n 0, 1) := by decide +kernel
theorem dX2_kindOf_33 : decode cX2_kindOf 33 = .ok (.bipush 57, 2) := by decide +kernel
theorem dX2_kindOf_35 : decode cX2_kindOf 35 = .ok (.if_icmp .gt 5, 3) := by decide +kernel
theorem dX2_kindOf_38 : decode cX2_kindOf 38 = .ok (.iconst 1, 1) := by decide +kernel
theorem dX2_kindOf_39 : decode cX2_kindOf 39 = .ok (.ireturn, 1) := by decide +kernel
theorem dX2_kindOf_40 : decode cX2_kindOf 40 = .ok (.iload_n 0, 1) := by decide +kernel
theorem dX2_kindOf_41 : decode cX2_kindOf 41 = .ok (.bipush 32, 2) := by decide +kernel
theorem dX2_kindOf_43 : decode cX2_kindOf 43 = .ok (.if_icmp .ne 7, 3) := by decide +kernel
theorem dX2_kindOf_46 : decode cX2_kindOf 46 = .ok (.iconst 2, 1) := by decide +kernel
theorem dX2_kindOf_47 : decode cX2_kindOf 47 = .ok (.goto 4, 3) := by decide +kernel
theorem dX2_kindOf_50 : decode cX2_kindOf 50 = .ok (.iconst 3, 1) := by decide +kernel
theorem dX2_kindOf_51 : decode cX2_kindOf 51 = .ok (.ireturn, 1) := by decide +kernel
theorem dX2_numberTexts_0 : decode cX2_numberTexts 0 = .ok (.iconst 0, 1) := by decide +kernel
theorem dX2_numberTexts_1 : decode cX2_numberTexts 1 = .ok (.istore_n 2, 1) := by decide +kernel
theorem dX2_numberTexts_2 : decode cX2_numberTexts 2 = .ok (.iload_n 2, 1) := by decide +kernel
theorem dX2_numberTexts_3 : decode cX2_numberTexts 3 = .ok (.aload_n 0, 1) := by decide +kernel
theorem dX2_numberTexts_4 : decode cX2_numberTexts 4 = .ok (.getfield 15, 3) := by decide +kernel
theorem dX2_numberTexts_7 : decode cX2_numberTexts 7 = .ok (.iload_n 1, 1) := by decide +kernel
theorem dX2_numberTexts_8 : decode cX2_numberTexts 8 = .ok (.iaload, 1) := by decide +kernel
theorem dX2_numberTexts_9 : decode cX2_numberTexts 9 = .ok (.if_icmp .ge 27, 3) := by decide +kernel
theorem dX2_numberTexts_12 : decode cX2_numberTexts 12 = .ok (.iload_n 1, 1) := by decide +kernel
theorem dX2_numberTexts_13 : decode cX2_numberTexts 13 = .ok (.iload_n 2, 1) := by decide +kernel
theorem dX2_numberTexts_14 : decode cX2_numberTexts 14 = .ok (.invokestatic 52, 3) := by decide +kernel
theorem dX2_numberTexts_17 : decode cX2_numberTexts 17 = .ok (.istore_n 3, 1) := by decide +kernel
theorem dX2_numberTexts_18 : decode cX2_numberTexts 18 = .ok (.aload_n 0, 1) := by decide +kernel
theorem dX2_numberTexts_19 : decode cX2_numberTexts 19 = .ok (.getfield 31, 3) := by decide +kernel
theorem dX2_numberTexts_22 : decode cX2_numberTexts 22 = .ok (.iload_n 3, 1) := by decide +kernel
theorem dX2_numberTexts_23 : decode cX2_numberTexts 23 = .ok (.aload_n 0, 1) := by decide +kernel
theorem dX2_numberTexts_24 : decode cX2_numberTexts 24 = .ok (.iload_n 1, 1) := by decide +kernel
theorem dX2_numberTexts_25 : decode cX2_numberTexts 25 = .ok (.iload_n 3, 1) := by decide +kernel
theorem dX2_numberTexts_26 : decode cX2_numberTexts 26 = .ok (.invokevirtual 56, 3) := by decide +kernel
theorem dX2_numberTexts_29 : decode cX2_numberTexts 29 = .ok (.iastore, 1) := by decide +kernel
theorem dX2_numberTexts_30 : decode cX2_numberTexts 30 = .ok (.iinc 2 1, 3) := by decide +kernel
theorem dX2_numberTexts_33 : decode cX2_numberTexts 33 = .ok (.goto (-31), 3) := by decide +kernel
theorem dX2_numberTexts_36 : decode cX2_numberTexts 36 = .ok (.return_, 1) := by decide +kernel
theorem dX2_firstAlike_0 : decode cX2_firstAlike 0 = .ok (.iconst 0, 1) := by decide +kernel
theorem dX2_firstAlike_1 : decode cX2_firstAlike 1 = .ok (.istore_n 3, 1) := by decide +kernel
theorem dX2_firstAlike_2 : decode cX2_firstAlike 2 = .ok (.iload_n 3, 1) := by decide +kernel
theorem dX2_firstAlike_3 : decode cX2_firstAlike 3 = .ok (.iload_n 1, 1) := by decide +kernel
theorem dX2_firstAlike_4 : decode cX2_firstAlike 4 = .ok (.if_icmp .gt 50, 3) := by decide +kernel
theorem dX2_firstAlike_7 : decode cX2_firstAlike 7 = .ok (.iconst 0, 1) := by decide +kernel
theorem dX2_firstAlike_8 : decode cX2_firstAlike 8 = .ok (.istore 4, 2) := by decide +kernel
theorem dX2_firstAlike_10 : decode cX2_firstAlike 10 = .ok (.iload 4, 2) := by decide +kernel
theorem dX2_firstAlike_12 : decode cX2_firstAlike 12 = .ok (.aload_n 0, 1) := by decide +kernel
theorem dX2_firstAlike_13 : decode cX2_firstAlike 13 = .ok (.getfield 15, 3) := by decide +kernel
theorem dX2_firstAlike_16 : decode cX2_firstAlike 16 = .ok (.iload_n 3, 1) := by decide +kernel
theorem dX2_firstAlike_17 : decode cX2_firstAlike 17 = .ok (.iaload, 1) := by decide +kernel
theorem dX2_firstAlike_18 : decode cX2_firstAlike 18 = .ok (.if_icmp .ge 30, 3) := by decide +kernel
theorem dX2_firstAlike_21 : decode cX2_firstAlike 21 = .ok (.aload_n 0, 1) := by decide +kernel
theorem dX2_firstAlike_22 : decode cX2_firstAlike 22 = .ok (.iload_n 3, 1) := by decide +kernel
theorem dX2_firstAlike_23 : decode cX2_firstAlike 23 = .ok (.iload 4, 2) := by decide +kernel
theorem dX2_firstAlike_25 : decode cX2_firstAlike 25 = .ok (.invokestatic 52, 3) := by decide +kernel
theorem dX2_firstAlike_28 : decode cX2_firstAlike 28 = .ok (.iload_n 2, 1) := by decide +kernel
theorem dX2_firstAlike_29 : decode cX2_firstAlike 29 = .ok (.invokevirtual 59, 3) := by decide +kernel
theorem dX2_firstAlike_32 : decode cX2_firstAlike 32 = .ok (.ifCond .eq 10, 3) := by decide +kernel
theorem dX2_firstAlike_35 : decode cX2_firstAlike 35 = .ok (.iload_n 3, 1) := by decide +kernel
theorem dX2_firstAlike_36 : decode cX2_firstAlike 36 = .ok (.iload 4, 2) := by decide +kernel
theorem dX2_firstAlike_38 : decode cX2_firstAlike 38 = .ok (.invokestatic 52, 3) := by decide +kernel
theorem dX2_firstAlike_41 : decode cX2_firstAlike 41 = .ok (.ireturn, 1) := by decide +kernel
theorem dX2_firstAlike_42 : decode cX2_firstAlike 42 = .ok (.iinc 4 1, 3) := by decide +kernel
theorem dX2_firstAlike_45 : decode cX2_firstAlike 45 = .ok (.goto (-35), 3) := by decide +kernel
theorem dX2_firstAlike_48 : decode cX2_firstAlike 48 = .ok (.iinc 3 1, 3) := by decide +kernel
theorem dX2_firstAlike_51 : decode cX2_firstAlike 51 = .ok (.goto (-49), 3) := by decide +kernel
theorem dX2_firstAlike_54 : decode cX2_firstAlike 54 = .ok (.iload_n 2, 1) := by decide +kernel
theorem dX2_firstAlike_55 : decode cX2_firstAlike 55 = .ok (.ireturn, 1) := by decide +kernel
theorem dX2_isSameText_0 : decode cX2_isSameText 0 = .ok (.aload_n 0, 1) := by decide +kernel
theorem dX2_isSameText_1 : decode cX2_isSameText 1 = .ok (.getfield 28, 3) := by decide +kernel
theorem dX2_isSameText_4 : decode cX2_isSameText 4 = .ok (.iload_n 1, 1) := by decide +kernel
theorem dX2_isSameText_5 : decode cX2_isSameText 5 = .ok (.iaload, 1) := by decide +kernel
theorem dX2_isSameText_6 : decode cX2_isSameText 6 = .ok (.aload_n 0, 1) := by decide +kernel
theorem dX2_isSameText_7 : decode cX2_isSameText 7 = .ok (.getfield 28, 3) := by decide +kernel
theorem dX2_isSameText_10 : decode cX2_isSameText 10 = .ok (.iload_n 2, 1) := by decide +kernel
theorem dX2_isSameText_11 : decode cX2_isSameText 11 = .ok (.iaload, 1) := by decide +kernel
theorem dX2_isSameText_12 : decode cX2_isSameText 12 = .ok (.if_icmp .eq 5, 3) := by decide +kernel
theorem dX2_isSameText_15 : decode cX2_isSameText 15 = .ok (.iconst 0, 1) := by decide +kernel
theorem dX2_isSameText_16 : decode cX2_isSameText 16 = .ok (.ireturn, 1) := by decide +kernel
theorem dX2_isSameText_17 : decode cX2_isSameText 17 = .ok (.iconst 0, 1) := by decide +kernel
theorem dX2_isSameText_18 : decode cX2_isSameText 18 = .ok (.istore_n 3, 1) := by decide +kernel
theorem dX2_isSameText_19 : decode cX2_isSameText 19 = .ok (.iload_n 3, 1) := by decide +kernel
theorem dX2_isSameText_20 : decode cX2_isSameText 20 = .ok (.aload_n 0, 1) := by decide +kernel
theorem dX2_isSameText_21 : decode cX2_isSameText 21 = .ok (.getfield 28, 3) := by decide +kernel
theorem dX2_isSameText_24 : decode cX2_isSameText 24 = .ok (.iload_n 1, 1) := by decide +kernel
theorem dX2_isSameText_25 : decode cX2_isSameText 25 = .ok (.iaload, 1) := by decide +kernel
theorem dX2_isSameText_26 : decode cX2_isSameText 26 = .ok (.if_icmp .ge 40, 3) := by decide +kernel
theorem dX2_isSameText_29 : decode cX2_isSameText 29 = .ok (.aload_n 0, 1) := by decide +kernel
theorem dX2_isSameText_30 : decode cX2_isSameText 30 = .ok (.getfield 18, 3) := by decide +kernel
theorem dX2_isSameText_33 : decode cX2_isSameText 33 = .ok (.aload_n 0, 1) := by decide +kernel
theorem dX2_isSameText_34 : decode cX2_isSameText 34 = .ok (.getfield 25, 3) := by decide +kernel
theorem dX2_isSameText_37 : decode cX2_isSameText 37 = .ok (.iload_n 1, 1) := by decide +kernel
theorem dX2_isSameText_38 : decode cX2_isSameText 38 = .ok (.iaload, 1) := by decide +kernel
theorem dX2_isSameText_39 : decode cX2_isSameText 39 = .ok (.iload_n 3, 1) := by decide +kernel
theorem dX2_isSameText_40 : decode cX2_isSameText 40 = .ok (.iadd, 1) := by decide +kernel
theorem dX2_isSameText_41 : decode cX2_isSameText 41 = .ok (.baload, 1) := by decide +kernel
theorem dX2_isSameText_42 : decode cX2_isSameText 42 = .ok (.aload_n 0, 1) := by decide +kernel
theorem dX2_isSameText_43 : decode cX2_isSameText 43 = .ok (.getfield 18, 3) := by decide +kernel
theorem dX2_isSameText_46 : decode cX2_isSameText 46 = .ok (.aload_n 0, 1) := by decide +kernel
theorem dX2_isSameText_47 : decode cX2_isSameText 47 = .ok (.getfield 25, 3) := by decide +kernel
theorem dX2_isSameText_50 : decode cX2_isSameText 50 = .ok (.iload_n 2, 1) := by decide +kernel
theorem dX2_isSameText_51 : decode cX2_isSameText 51 = .ok (.iaload, 1) := by decide +kernel
theorem dX2_isSameText_52 : decode cX2_isSameText 52 = .ok (.iload_n 3, 1) := by decide +kernel
theorem dX2_isSameText_53 : decode cX2_isSameText 53 = .ok (.iadd, 1) := by decide +kernel
theorem dX2_isSameText_54 : decode cX2_isSameText 54 = .ok (.baload, 1) := by decide +kernel
theorem dX2_isSameText_55 : decode cX2_isSameText 55 = .ok (.if_icmp .eq 5, 3) := by decide +kernel
theorem dX2_isSameText_58 : decode cX2_isSameText 58 = .ok (.iconst 0, 1) := by decide +kernel
theorem dX2_isSameText_59 : decode cX2_isSameText 59 = .ok (.ireturn, 1) := by decide +kernel
theorem dX2_isSameText_60 : decode cX2_isSameText 60 = .ok (.iinc 3 1, 3) := by decide +kernel
theorem dX2_isSameText_63 : decode cX2_isSameText 63 = .ok (.goto (-44), 3) := by decide +kernel
theorem dX2_isSameText_66 : decode cX2_isSameText 66 = .ok (.iconst 1, 1) := by decide +kernel
theorem dX2_isSameText_67 : decode cX2_isSameText 67 = .ok (.ireturn, 1) := by decide +kernel
theorem dX2_numberOf_0 : decode cX2_numberOf 0 = .ok (.aload_n 0, 1) := by decide +kernel
theorem dX2_numberOf_1 : decode cX2_numberOf 1 = .ok (.getfield 25, 3) := by decide +kernel
theorem dX2_numberOf_4 : decode cX2_numberOf 4 = .ok (.iload_n 1, 1) := by decide +kernel
theorem dX2_numberOf_5 : decode cX2_numberOf 5 = .ok (.iaload, 1) := by decide +kernel
theorem dX2_numberOf_6 : decode cX2_numberOf 6 = .ok (.aload_n 0, 1) := by decide +kernel
theorem dX2_numberOf_7 : decode cX2_numberOf 7 = .ok (.getfield 28, 3) := by decide +kernel
theorem dX2_numberOf_10 : decode cX2_numberOf 10 = .ok (.iload_n 1, 1) := by decide +kernel
theorem dX2_numberOf_11 : decode cX2_numberOf 11 = .ok (.iaload, 1) := by decide +kernel
theorem dX2_numberOf_12 : decode cX2_numberOf 12 = .ok (.iadd, 1) := by decide +kernel
theorem dX2_numberOf_13 : decode cX2_numberOf 13 = .ok (.istore_n 2, 1) := by decide +kernel
theorem dX2_numberOf_14 : decode cX2_numberOf 14 = .ok (.iconst 0, 1) := by decide +kernel
theorem dX2_numberOf_15 : decode cX2_numberOf 15 = .ok (.istore_n 3, 1) := by decide +kernel
theorem dX2_numberOf_16 : decode cX2_numberOf 16 = .ok (.aload_n 0, 1) := by decide +kernel
theorem dX2_numberOf_17 : decode cX2_numberOf 17 = .ok (.getfield 25, 3) := by decide +kernel
theorem dX2_numberOf_20 : decode cX2_numberOf 20 = .ok (.iload_n 1, 1) := by decide +kernel
theorem dX2_numberOf_21 : decode cX2_numberOf 21 = .ok (.iaload, 1) := by decide +kernel
theorem dX2_numberOf_22 : decode cX2_numberOf 22 = .ok (.iload_n 2, 1) := by decide +kernel
theorem dX2_numberOf_23 : decode cX2_numberOf 23 = .ok (.bipush 9, 2) := by decide +kernel
theorem dX2_numberOf_25 : decode cX2_numberOf 25 = .ok (.isub, 1) := by decide +kernel
theorem dX2_numberOf_26 : decode cX2_numberOf 26 = .ok (.invokestatic 63, 3) := by decide +kernel
theorem dX2_numberOf_29 : decode cX2_numberOf 29 = .ok (.istore 4, 2) := by decide +kernel
theorem dX2_numberOf_31 : decode cX2_numberOf 31 = .ok (.iload 4, 2) := by decide +kernel
theorem dX2_numberOf_33 : decode cX2_numberOf 33 = .ok (.iload_n 2, 1) := by decide +kernel
theorem dX2_numberOf_34 : decode cX2_numberOf 34 = .ok (.if_icmp .ge 25, 3) := by decide +kernel
theorem dX2_numberOf_37 : decode cX2_numberOf 37 = .ok (.iload_n 3, 1) := by decide +kernel
theorem dX2_numberOf_38 : decode cX2_numberOf 38 = .ok (.bipush 10, 2) := by decide +kernel
theorem dX2_numberOf_40 : decode cX2_numberOf 40 = .ok (.imul, 1) := by decide +kernel
theorem dX2_numberOf_41 : decode cX2_numberOf 41 = .ok (.aload_n 0, 1) := by decide +kernel
theorem dX2_numberOf_42 : decode cX2_numberOf 42 = .ok (.getfield 18, 3) := by decide +kernel
theorem dX2_numberOf_45 : decode cX2_numberOf 45 = .ok (.iload 4, 2) := by decide +kernel
theorem dX2_numberOf_47 : decode cX2_numberOf 47 = .ok (.baload, 1) := by decide +kernel
theorem dX2_numberOf_48 : decode cX2_numberOf 48 = .ok (.bipush 48, 2) := by decide +kernel
theorem dX2_numberOf_50 : decode cX2_numberOf 50 = .ok (.isub, 1) := by decide +kernel
theorem dX2_numberOf_51 : decode cX2_numberOf 51 = .ok (.iadd, 1) := by decide +kernel
theorem dX2_numberOf_52 : decode cX2_numberOf 52 = .ok (.istore_n 3, 1) := by decide +kernel
theorem dX2_numberOf_53 : decode cX2_numberOf 53 = .ok (.iinc 4 1, 3) := by decide +kernel
theorem dX2_numberOf_56 : decode cX2_numberOf 56 = .ok (.goto (-25), 3) := by decide +kernel
theorem dX2_numberOf_59 : decode cX2_numberOf 59 = .ok (.iload_n 3, 1) := by decide +kernel
theorem dX2_numberOf_60 : decode cX2_numberOf 60 = .ok (.ireturn, 1) := by decide +kernel
end
section
theorem dX3_init_0 : decode cX3_init 0 = .ok (.aload_n 0, 1) := by decide +kernel
theorem dX3_init_1 : decode cX3_init 1 = .ok (.invokespecial 3, 3) := by decide +kernel
theorem dX3_init_4 : decode cX3_init 4 = .ok (.aload_n 0, 1) := by decide +kernel
theorem dX3_init_5 : decode cX3_init 5 = .ok (.bipush 30, 2) := by decide +kernel
theorem dX3_init_7 : decode cX3_init 7 = .ok (.newarray .byte, 2) := by decide +kernel
theorem dX3_init_9 : decode cX3_init 9 = .ok (.putfield 9, 3) := by decide +kernel
theorem dX3_init_12 : decode cX3_init 12 = .ok (.aload_n 0, 1) := by decide +kernel
theorem dX3_init_13 : decode cX3_init 13 = .ok (.new 13, 3) := by decide +kernel
theorem dX3_init_16 : decode cX3_init 16 = .ok (.dup, 1) := by decide +kernel
theorem dX3_init_17 : decode cX3_init 17 = .ok (.invokespecial 15, 3) := by decide +kernel
theorem dX3_init_20 : decode cX3_init 20 = .ok (.putfield 16, 3) := by decide +kernel
theorem dX3_init_23 : decode cX3_init 23 = .ok (.aload_n 0, 1) := by decide +kernel
theorem dX3_init_24 : decode cX3_init 24 = .ok (.new 20, 3) := by decide +kernel
theorem dX3_init_27 : decode cX3_init 27 = .ok (.dup, 1) := by decide +kernel
theorem dX3_init_28 : decode cX3_init 28 = .ok (.aload_n 0, 1) := by decide +kernel
theorem dX3_init_29 : decode cX3_init 29 = .ok (.getfield 16, 3) := by decide +kernel
theorem dX3_init_32 : decode cX3_init 32 = .ok (.invokespecial 22, 3) := by decide +kernel
theorem dX3_init_35 : decode cX3_init 35 = .ok (.putfield 25, 3) := by decide +kernel
theorem dX3_init_38 : decode cX3_init 38 = .ok (.aload_n 0, 1) := by decide +kernel
theorem dX3_init_39 : decode cX3_init 39 = .ok (.new 29, 3) := by decide +kernel
theorem dX3_init_42 : decode cX3_init 42 = .ok (.dup, 1) := by decide +kernel
theorem dX3_init_43 : decode cX3_init 43 = .ok (.invokespecial 31, 3) := by decide +kernel
theorem dX3_init_46 : decode cX3_init 46 = .ok (.putfield 32, 3) := by decide +kernel
theorem dX3_init_49 : decode cX3_init 49 = .ok (.aload_n 0, 1) := by decide +kernel
theorem dX3_init_50 : decode cX3_init 50 = .ok (.bipush 12, 2) := by decide +kernel
theorem dX3_init_52 : decode cX3_init 52 = .ok (.newarray .boolean, 2) := by decide +kernel
theorem dX3_init_54 : decode cX3_init 54 = .ok (.putfield 36, 3) := by decide +kernel
theorem dX3_init_57 : decode cX3_init 57 = .ok (.aload_n 0, 1) := by decide +kernel
theorem dX3_init_58 : decode cX3_init 58 = .ok (.sipush 360, 3) := by decide +kernel
theorem dX3_init_61 : decode cX3_init 61 = .ok (.newarray .int, 2) := by decide +kernel
theorem dX3_init_63 : decode cX3_init 63 = .ok (.putfield 40, 3) := by decide +kernel
theorem dX3_init_66 : decode cX3_init 66 = .ok (.aload_n 0, 1) := by decide +kernel
theorem dX3_init_67 : decode cX3_init 67 = .ok (.bipush 12, 2) := by decide +kernel
theorem dX3_init_69 : decode cX3_init 69 = .ok (.newarray .int, 2) := by decide +kernel
theorem dX3_init_71 : decode cX3_init 71 = .ok (.putfield 44, 3) := by decide +kernel
theorem dX3_init_74 : decode cX3_init 74 = .ok (.aload_n 0, 1) := by decide +kernel
theorem dX3_init_75 : decode cX3_init 75 = .ok (.bipush 12, 2) := by decide +kernel
theorem dX3_init_77 : decode cX3_init 77 = .ok (.anewarray 29, 3) := by decide +kernel
theorem dX3_init_80 : decode cX3_init 80 = .ok (.putfield 47, 3) := by decide +kernel
theorem dX3_init_83 : decode cX3_init 83 = .ok (.iconst 0, 1) := by decide +kernel
theorem dX3_init_84 : decode cX3_init 84 = .ok (.istore_n 1, 1) := by decide +kernel
theorem dX3_init_85 : decode cX3_init 85 = .ok (.iload_n 1, 1) := by decide +kernel
theorem dX3_init_86 : decode cX3_init 86 = .ok (.bipush 12, 2) := by decide +kernel
theorem dX3_init_88 : decode cX3_init 88 = .ok (.if_icmp .ge 22, 3) := by decide +kernel
theorem dX3_init_91 : decode cX3_init 91 = .ok (.aload_n 0, 1) := by decide +kernel
theorem dX3_init_92 : decode cX3_init 92 = .ok (.getfield 47, 3) := by decide +kernel
theorem dX3_init_95 : decode cX3_init 95 = .ok (.iload_n 1, 1) := by decide +kernel
theorem dX3_init_96 : decode cX3_init 96 = .ok (.new 29, 3) := by decide +kernel
theorem dX3_init_99 : decode cX3_init 99 = .ok (.dup, 1) := by decide +kernel
theorem dX3_init_100 : decode cX3_init 100 = .ok (.invokespecial 31, 3) := by decide +kernel
theorem dX3_init_103 : decode cX3_init 103 = .ok (.aastore, 1) := by decide +kernel
theorem dX3_init_104 : decode cX3_init 104 = .ok (.iinc 1 1, 3) := by decide +kernel
theorem dX3_init_107 : decode cX3_init 107 = .ok (.goto (-22), 3) := by decide +kernel
theorem dX3_init_110 : decode cX3_init 110 = .ok (.return_, 1) := by decide +kernel
theorem dX3_feed_0 : decode cX3_feed 0 = .ok (.lload_n 1, 1) := by decide +kernel
theorem dX3_feed_1 : decode cX3_feed 1 = .ok (.invokestatic 51, 3) := by decide +kernel
theorem dX3_feed_4 : decode cX3_feed 4 = .ok (.istore_n 3, 1) := by decide +kernel
theorem dX3_feed_5 : decode cX3_feed 5 = .ok (.iload_n 3, 1) := by decide +kernel
theorem dX3_feed_6 : decode cX3_feed 6 = .ok (.iconst (-1), 1) := by decide +kernel
theorem dX3_feed_7 : decode cX3_feed 7 = .ok (.if_icmp .ne 13, 3) := by decide +kernel
theorem dX3_feed_10 : decode cX3_feed 10 = .ok (.new 55, 3) := by decide +kernel
theorem dX3_feed_13 : decode cX3_feed 13 = .ok (.dup, 1) := by decide +kernel
theorem dX3_feed_14 : decode cX3_feed 14 = .ok (.ldc 57, 2) := by decide +kernel
theorem dX3_feed_16 : decode cX3_feed 16 = .ok (.invokespecial 59, 3) := by decide +kernel
theorem dX3_feed_19 : decode cX3_feed 19 = .ok (.athrow, 1) := by decide +kernel
theorem dX3_feed_20 : decode cX3_feed 20 = .ok (.aload_n 0, 1) := by decide +kernel
theorem dX3_feed_21 : decode cX3_feed 21 = .ok (.getfield 62, 3) := by decide +kernel
theorem dX3_feed_24 : decode cX3_feed 24 = .ok (.iload_n 3, 1) := by decide +kernel
theorem dX3_feed_25 : decode cX3_feed 25 = .ok (.iadd, 1) := by decide +kernel
theorem dX3_feed_26 : decode cX3_feed 26 = .ok (.bipush 30, 2) := by decide +kernel
theorem dX3_feed_28 : decode cX3_feed 28 = .ok (.if_icmp .le 13, 3) := by decide +kernel
theorem dX3_feed_31 : decode cX3_feed 31 = .ok (.new 66, 3) := by decide +kernel
theorem dX3_feed_34 : decode cX3_feed 34 = .ok (.dup, 1) := by decide +kernel
theorem dX3_feed_35 : decode cX3_feed 35 = .ok (.ldc 68, 2) := by decide +kernel
theorem dX3_feed_37 : decode cX3_feed 37 = .ok (.invokespecial 70, 3) := by decide +kernel
theorem dX3_feed_40 : decode cX3_feed 40 = .ok (.athrow, 1) := by decide +kernel
theorem dX3_feed_41 : decode cX3_feed 41 = .ok (.iconst 0, 1) := by decide +kernel
theorem dX3_feed_42 : decode cX3_feed 42 = .ok (.istore 4, 2) := by decide +kernel
theorem dX3_feed_44 : decode cX3_feed 44 = .ok (.iload 4, 2) := by decide +kernel
theorem dX3_feed_46 : decode cX3_feed 46 = .ok (.bipush 8, 2) := by decide +kernel
theorem dX3_feed_48 : decode cX3_feed 48 = .ok (.if_icmp .ge 44, 3) := by decide +kernel
theorem dX3_feed_51 : decode cX3_feed 51 = .ok (.lload_n 1, 1) := by decide +kernel
theorem dX3_feed_52 : decode cX3_feed 52 = .ok (.iload 4, 2) := by decide +kernel
theorem dX3_feed_54 : decode cX3_feed 54 = .ok (.invokestatic 71, 3) := by decide +kernel
theorem dX3_feed_57 : decode cX3_feed 57 = .ok (.istore 5, 2) := by decide +kernel
theorem dX3_feed_59 : decode cX3_feed 59 = .ok (.iload 5, 2) := by decide +kernel
theorem dX3_feed_61 : decode cX3_feed 61 = .ok (.ifCond .eq 25, 3) := by decide +kernel
theorem dX3_feed_64 : decode cX3_feed 64 = .ok (.aload_n 0, 1) := by decide +kernel
theorem dX3_feed_65 : decode cX3_feed 65 = .ok (.getfield 9, 3) := by decide +kernel
theorem dX3_feed_68 : decode cX3_feed 68 = .ok (.aload_n 0, 1) := by decide +kernel
theorem dX3_feed_69 : decode cX3_feed 69 = .ok (.getfield 62, 3) := by decide +kernel
theorem dX3_feed_72 : decode cX3_feed 72 = .ok (.iload 5, 2) := by decide +kernel
theorem dX3_feed_74 : decode cX3_feed 74 = .ok (.i2b, 1) := by decide +kernel
theorem dX3_feed_75 : decode cX3_feed 75 = .ok (.bastore, 1) := by decide +kernel
theorem dX3_feed_76 : decode cX3_feed 76 = .ok (.aload_n 0, 1) := by decide +kernel
theorem dX3_feed_77 : decode cX3_feed 77 = .ok (.dup, 1) := by decide +kernel
theorem dX3_feed_78 : decode cX3_feed 78 = .ok (.getfield 62, 3) := by decide +kernel
theorem dX3_feed_81 : decode cX3_feed 81 = .ok (.iconst 1, 1) := by decide +kernel
theorem dX3_feed_82 : decode cX3_feed 82 = .ok (.iadd, 1) := by decide +kernel
theorem dX3_feed_83 : decode cX3_feed 83 = .ok (.putfield 62, 3) := by decide +kernel
theorem dX3_feed_86 : decode cX3_feed 86 = .ok (.iinc 4 1, 3) := by decide +kernel
theorem dX3_feed_89 : decode cX3_feed 89 = .ok (.goto (-45), 3) := by decide +kernel
theorem dX3_feed_92 : decode cX3_feed 92 = .ok (.aload_n 0, 1) := by decide +kernel
theorem dX3_feed_93 : decode cX3_feed 93 = .ok (.getfield 62, 3) := by decide +kernel
theorem dX3_feed_96 : decode cX3_feed 96 = .ok (.ireturn, 1) := by decide +kernel
theorem dX3_countBytes_0 : decode cX3_countBytes 0 = .ok (.iconst 0, 1) := by decide +kernel
theorem dX3_countBytes_1 : decode cX3_countBytes 1 = .ok (.istore_n 2, 1) := by decide +kernel
theorem dX3_countBytes_2 : decode cX3_countBytes 2 = .ok (.iconst 0, 1) := by decide +kernel
theorem dX3_countBytes_3 : decode cX3_countBytes 3 = .ok (.istore_n 3, 1) := by decide +kernel
theorem dX3_countBytes_4 : decode cX3_countBytes 4 = .ok (.iload_n 3, 1) := by decide +kernel
theorem dX3_countBytes_5 : decode cX3_countBytes 5 = .ok (.bipush 8, 2) := by decide +kernel
theorem dX3_countBytes_7 : decode cX3_countBytes 7 = .ok (.if_icmp .ge 40, 3) := by decide +kernel
theorem dX3_countBytes_10 : decode cX3_countBytes 10 = .ok (.lload_n 0, 1) := by decide +kernel
theorem dX3_countBytes_11 : decode cX3_countBytes 11 = .ok (.iload_n 3, 1) := by decide +kernel
theorem dX3_countBytes_12 : decode cX3_countBytes 12 = .ok (.invokestatic 71, 3) := by decide +kernel
theorem dX3_countBytes_15 : decode cX3_countBytes 15 = .ok (.istore 4, 2) := by decide +kernel
theorem dX3_countBytes_17 : decode cX3_countBytes 17 = .ok (.iload 4, 2) := by decide +kernel
theorem dX3_countBytes_19 : decode cX3_countBytes 19 = .ok (.ifCond .eq 22, 3) := by decide +kernel
theorem dX3_countBytes_22 : decode cX3_countBytes 22 = .ok (.iload 4, 2) := by decide +kernel
theorem dX3_countBytes_24 : decode cX3_countBytes 24 = .ok (.bipush 32, 2) := by decide +kernel
theorem dX3_countBytes_26 : decode cX3_countBytes 26 = .ok (.if_icmp .lt 10, 3) := by decide +kernel
theorem dX3_countBytes_29 : decode cX3_countBytes 29 = .ok (.iload 4, 2) := by decide +kernel
theorem dX3_countBytes_31 : decode cX3_countBytes 31 = .ok (.bipush 126, 2) := by decide +kernel
theorem dX3_countBytes_33 : decode cX3_countBytes 33 = .ok (.if_icmp .le 5, 3) := by decide +kernel
theorem dX3_countBytes_36 : decode cX3_countBytes 36 = .ok (.iconst (-1), 1) := by decide +kernel
theorem dX3_countBytes_37 : decode cX3_countBytes 37 = .ok (.ireturn, 1) := by decide +kernel
theorem dX3_countBytes_38 : decode cX3_countBytes 38 = .ok (.iinc 2 1, 3) := by decide +kernel
theorem dX3_countBytes_41 : decode cX3_countBytes 41 = .ok (.iinc 3 1, 3) := by decide +kernel
theorem dX3_countBytes_44 : decode cX3_countBytes 44 = .ok (.goto (-40), 3) := by decide +kernel
theorem dX3_countBytes_47 : decode cX3_countBytes 47 = .ok (.iload_n 2, 1) := by decide +kernel
theorem dX3_countBytes_48 : decode cX3_countBytes 48 = .ok (.ireturn, 1) := by decide +kernel
theorem dX3_byteOf_0 : decode cX3_byteOf 0 = .ok (.lload_n 0, 1) := by decide +kernel
theorem dX3_byteOf_1 : decode cX3_byteOf 1 = .ok (.bipush 56, 2) := by decide +kernel
theorem dX3_byteOf_3 : decode cX3_byteOf 3 = .ok (.bipush 8, 2) := by decide +kernel
theorem dX3_byteOf_5 : decode cX3_byteOf 5 = .ok (.iload_n 2, 1) := by decide +kernel
theorem dX3_byteOf_6 : decode cX3_byteOf 6 = .ok (.imul, 1) := by decide +kernel
theorem dX3_byteOf_7 : decode cX3_byteOf 7 = .ok (.isub, 1) := by decide +kernel
theorem dX3_byteOf_8 : decode cX3_byteOf 8 = .ok (.lushr, 1) := by decide +kernel
theorem dX3_byteOf_9 : decode cX3_byteOf 9 = .ok (.l2i, 1) := by decide +kernel
theorem dX3_byteOf_10 : decode cX3_byteOf 10 = .ok (.sipush 255, 3) := by decide +kernel
theorem dX3_byteOf_13 : decode cX3_byteOf 13 = .ok (.iand, 1) := by decide +kernel
theorem dX3_byteOf_14 : decode cX3_byteOf 14 = .ok (.ireturn, 1) := by decide +kernel
theorem dX3_store_0 : decode cX3_store 0 = .ok (.aload_n 0, 1) := by decide +kernel
theorem dX3_store_1 : decode cX3_store 1 = .ok (.getfield 16, 3) := by decide +kernel
theorem dX3_store_4 : decode cX3_store 4 = .ok (.getfield 75, 3) := by decide +kernel
theorem dX3_store_7 : decode cX3_store 7 = .ok (.bipush 12, 2) := by decide +kernel
theorem dX3_store_9 : decode cX3_store 9 = .ok (.if_icmp .lt 13, 3) := by decide +kernel
theorem dX3_store_12 : decode cX3_store 12 = .ok (.new 66, 3) := by decide +kernel
theorem dX3_store_15 : decode cX3_store 15 = .ok (.dup, 1) := by decide +kernel
theorem dX3_store_16 : decode cX3_store 16 = .ok (.ldc 78, 2) := by decide +kernel
theorem dX3_store_18 : decode cX3_store 18 = .ok (.invokespecial 70, 3) := by decide +kernel
theorem dX3_store_21 : decode cX3_store 21 = .ok (.athrow, 1) := by decide +kernel
theorem dX3_store_22 : decode cX3_store 22 = .ok (.aload_n 0, 1) := by decide +kernel
theorem dX3_store_23 : decode cX3_store 23 = .ok (.getfield 16, 3) := by decide +kernel
theorem dX3_store_26 : decode cX3_store 26 = .ok (.aload_n 0, 1) := by decide +kernel
theorem dX3_store_27 : decode cX3_store 27 = .ok (.getfield 9, 3) := by decide +kernel
theorem dX3_store_30 : decode cX3_store 30 = .ok (.aload_n 0, 1) := by decide +kernel
theorem dX3_store_31 : decode cX3_store 31 = .ok (.getfield 62, 3) := by decide +kernel
theorem dX3_store_34 : decode cX3_store 34 = .ok (.invokevirtual 80, 3) := by decide +kernel
theorem dX3_store_37 : decode cX3_store 37 = .ok (.istore_n 1, 1) := by decide +kernel
theorem dX3_store_38 : decode cX3_store 38 = .ok (.aload_n 0, 1) := by decide +kernel
theorem dX3_store_39 : decode cX3_store 39 = .ok (.iconst 0, 1) := by decide +kernel
theorem dX3_store_40 : decode cX3_store 40 = .ok (.putfield 62, 3) := by decide +kernel
theorem dX3_store_43 : decode cX3_store 43 = .ok (.aload_n 0, 1) := by decide +kernel
theorem dX3_store_44 : decode cX3_store 44 = .ok (.iconst 0, 1) := by decide +kernel
theorem dX3_store_45 : decode cX3_store 45 = .ok (.putfield 84, 3) := by decide +kernel
theorem dX3_store_48 : decode cX3_store 48 = .ok (.iload_n 1, 1) := by decide +kernel
theorem dX3_store_49 : decode cX3_store 49 = .ok (.ireturn, 1) := by decide +kernel
theorem dX3_lineCount_0 : decode cX3_lineCount 0 = .ok (.aload_n 0, 1) := by decide +kernel
theorem dX3_lineCount_1 : decode cX3_lineCount 1 = .ok (.getfield 16, 3) := by decide +kernel
theorem dX3_lineCount_4 : decode cX3_lineCount 4 = .ok (.getfield 75, 3) := by decide +kernel
theorem dX3_lineCount_7 : decode cX3_lineCount 7 = .ok (.ireturn, 1) := by decide +kernel
theorem dX3_tokenCount_0 : decode cX3_tokenCount 0 = .ok (.aload_n 0, 1) := by decide +kernel
theorem dX3_tokenCount_1 : decode cX3_tokenCount 1 = .ok (.iload_n 1, 1) := by decide +kernel
theorem dX3_tokenCount_2 : decode cX3_tokenCount 2 = .ok (.invokevirtual 88, 3) := by decide +kernel
theorem dX3_tokenCount_5 : decode cX3_tokenCount 5 = .ok (.aload_n 0, 1) := by decide +kernel
theorem dX3_tokenCount_6 : decode cX3_tokenCount 6 = .ok (.getfield 16, 3) := by decide +kernel
theorem dX3_tokenCount_9 : decode cX3_tokenCount 9 = .ok (.getfield 92, 3) := by decide +kernel
theorem dX3_tokenCount_12 : decode cX3_tokenCount 12 = .ok (.iload_n 1, 1) := by decide +kernel
theorem dX3_tokenCount_13 : decode cX3_tokenCount 13 = .ok (.iaload, 1) := by decide +kernel
theorem dX3_tokenCount_14 : decode cX3_tokenCount 14 = .ok (.ireturn, 1) := by decide +kernel
theorem dX3_tokenKind_0 : decode cX3_tokenKind 0 = .ok (.aload_n 0, 1) := by decide +kernel
theorem dX3_tokenKind_1 : decode cX3_tokenKind 1 = .ok (.iload_n 1, 1) := by decide +kernel
theorem dX3_tokenKind_2 : decode cX3_tokenKind 2 = .ok (.iload_n 2, 1) := by decide +kernel
theorem dX3_tokenKind_3 : decode cX3_tokenKind 3 = .ok (.invokevirtual 95, 3) := by decide +kernel
theorem dX3_tokenKind_6 : decode cX3_tokenKind 6 = .ok (.aload_n 0, 1) := by decide +kernel
theorem dX3_tokenKind_7 : decode cX3_tokenKind 7 = .ok (.getfield 16, 3) := by decide +kernel
theorem dX3_tokenKind_10 : decode cX3_tokenKind 10 = .ok (.getfield 99, 3) := by decide +kernel
theorem dX3_tokenKind_13 : decode cX3_tokenKind 13 = .ok (.iload_n 1, 1) := by decide +kernel
theorem dX3_tokenKind_14 : decode cX3_tokenKind 14 = .ok (.iload_n 2, 1) := by decide +kernel
theorem dX3_tokenKind_15 : decode cX3_tokenKind 15 = .ok (.invokestatic 102, 3) := by decide +kernel
theorem dX3_tokenKind_18 : decode cX3_tokenKind 18 = .ok (.iaload, 1) := by decide +kernel
theorem dX3_tokenKind_19 : decode cX3_tokenKind 19 = .ok (.ireturn, 1) := by decide +kernel
theorem dX3_tokenStart_0 : decode cX3_tokenStart 0 = .ok (.aload_n 0, 1) := by decide +kernel
theorem dX3_tokenStart_1 : decode cX3_tokenStart 1 = .ok (.iload_n 1, 1) := by decide +kernel
theorem dX3_tokenStart_2 : decode cX3_tokenStart 2 = .ok (.iload_n 2, 1) := by decide +kernel
theorem dX3_tokenStart_3 : decode cX3_tokenStart 3 = .ok (.invokevirtual 95, 3) := by decide +kernel
theorem dX3_tokenStart_6 : decode cX3_tokenStart 6 = .ok (.aload_n 0, 1) := by decide +kernel
theorem dX3_tokenStart_7 : decode cX3_tokenStart 7 = .ok (.getfield 16, 3) := by decide +kernel
theorem dX3_tokenStart_10 : decode cX3_tokenStart 10 = .ok (.getfield 106, 3) := by decide +kernel
theorem dX3_tokenStart_13 : decode cX3_tokenStart 13 = .ok (.iload_n 1, 1) := by decide +kernel
theorem dX3_tokenStart_14 : decode cX3_tokenStart 14 = .ok (.iload_n 2, 1) := by decide +kernel
theorem dX3_tokenStart_15 : decode cX3_tokenStart 15 = .ok (.invokestatic 102, 3) := by decide +kernel
theorem dX3_tokenStart_18 : decode cX3_tokenStart 18 = .ok (.iaload, 1) := by decide +kernel
theorem dX3_tokenStart_19 : decode cX3_tokenStart 19 = .ok (.iload_n 1, 1) := by decide +kernel
theorem dX3_tokenStart_20 : decode cX3_tokenStart 20 = .ok (.invokestatic 109, 3) := by decide +kernel
theorem dX3_tokenStart_23 : decode cX3_tokenStart 23 = .ok (.isub, 1) := by decide +kernel
theorem dX3_tokenStart_24 : decode cX3_tokenStart 24 = .ok (.ireturn, 1) := by decide +kernel
theorem dX3_sameAtFront_0 : decode cX3_sameAtFront 0 = .ok (.aload_n 0, 1) := by decide +kernel
theorem dX3_sameAtFront_1 : decode cX3_sameAtFront 1 = .ok (.iload_n 1, 1) := by decide +kernel
theorem dX3_sameAtFront_2 : decode cX3_sameAtFront 2 = .ok (.invokevirtual 88, 3) := by decide +kernel
theorem dX3_sameAtFront_5 : decode cX3_sameAtFront 5 = .ok (.aload_n 0, 1) := by decide +kernel
theorem dX3_sameAtFront_6 : decode cX3_sameAtFront 6 = .ok (.iload_n 2, 1) := by decide +kernel
theorem dX3_sameAtFront_7 : decode cX3_sameAtFront 7 = .ok (.invokevirtual 88, 3) := by decide +kernel
theorem dX3_sameAtFront_10 : decode cX3_sameAtFront 10 = .ok (.aload_n 0, 1) := by decide +kernel
theorem dX3_sameAtFront_11 : decode cX3_sameAtFront 11 = .ok (.getfield 16, 3) := by decide +kernel
theorem dX3_sameAtFront_14 : decode cX3_sameAtFront 14 = .ok (.getfield 92, 3) := by decide +kernel
theorem dX3_sameAtFront_17 : decode cX3_sameAtFront 17 = .ok (.iload_n 1, 1) := by decide +kernel
theorem dX3_sameAtFront_18 : decode cX3_sameAtFront 18 = .ok (.iaload, 1) := by decide +kernel
theorem dX3_sameAtFront_19 : decode cX3_sameAtFront 19 = .ok (.aload_n 0, 1) := by decide +kernel
theorem dX3_sameAtFront_20 : decode cX3_sameAtFront 20 = .ok (.getfield 16, 3) := by decide +kernel
theorem dX3_sameAtFront_23 : decode cX3_sameAtFront 23 = .ok (.getfield 92, 3) := by decide +kernel
theorem dX3_sameAtFront_26 : decode cX3_sameAtFront 26 = .ok (.iload_n 2, 1) := by decide +kernel
theorem dX3_sameAtFront_27 : decode cX3_sameAtFront 27 = .ok (.iaload, 1) := by decide +kernel
theorem dX3_sameAtFront_28 : decode cX3_sameAtFront 28 = .ok (.invokestatic 113, 3) := by decide +kernel
theorem dX3_sameAtFront_31 : decode cX3_sameAtFront 31 = .ok (.istore_n 3, 1) := by decide +kernel
theorem dX3_sameAtFront_32 : decode cX3_sameAtFront 32 = .ok (.iconst 0, 1) := by decide +kernel
theorem dX3_sameAtFront_33 : decode cX3_sameAtFront 33 = .ok (.istore 4, 2) := by decide +kernel
theorem dX3_sameAtFront_35 : decode cX3_sameAtFront 35 = .ok (.iload 4, 2) := by decide +kernel
theorem dX3_sameAtFront_37 : decode cX3_sameAtFront 37 = .ok (.iload_n 3, 1) := by decide +kernel
theorem dX3_sameAtFront_38 : decode cX3_sameAtFront 38 = .ok (.if_icmp .ge 40, 3) := by decide +kernel
theorem dX3_sameAtFront_41 : decode cX3_sameAtFront 41 = .ok (.aload_n 0, 1) := by decide +kernel
theorem dX3_sameAtFront_42 : decode cX3_sameAtFront 42 = .ok (.getfield 16, 3) := by decide +kernel
theorem dX3_sameAtFront_45 : decode cX3_sameAtFront 45 = .ok (.getfield 118, 3) := by decide +kernel
theorem dX3_sameAtFront_48 : decode cX3_sameAtFront 48 = .ok (.iload_n 1, 1) := by decide +kernel
theorem dX3_sameAtFront_49 : decode cX3_sameAtFront 49 = .ok (.iload 4, 2) := by decide +kernel
theorem dX3_sameAtFront_51 : decode cX3_sameAtFront 51 = .ok (.invokestatic 102, 3) := by decide +kernel
theorem dX3_sameAtFront_54 : decode cX3_sameAtFront 54 = .ok (.iaload, 1) := by decide +kernel
theorem dX3_sameAtFront_55 : decode cX3_sameAtFront 55 = .ok (.aload_n 0, 1) := by decide +kernel
theorem dX3_sameAtFront_56 : decode cX3_sameAtFront 56 = .ok (.getfield 16, 3) := by decide +kernel
theorem dX3_sameAtFront_59 : decode cX3_sameAtFront 59 = .ok (.getfield 118, 3) := by decide +kernel
theorem dX3_sameAtFront_62 : decode cX3_sameAtFront 62 = .ok (.iload_n 2, 1) := by decide +kernel
theorem dX3_sameAtFront_63 : decode cX3_sameAtFront 63 = .ok (.iload 4, 2) := by decide +kernel
theorem dX3_sameAtFront_65 : decode cX3_sameAtFront 65 = .ok (.invokestatic 102, 3) := by decide +kernel
theorem dX3_sameAtFront_68 : decode cX3_sameAtFront 68 = .ok (.iaload, 1) := by decide +kernel
theorem dX3_sameAtFront_69 : decode cX3_sameAtFront 69 = .ok (.if_icmp .ne 9, 3) := by decide +kernel
theorem dX3_sameAtFront_72 : decode cX3_sameAtFront 72 = .ok (.iinc 4 1, 3) := by decide +kernel
theorem dX3_sameAtFront_75 : decode cX3_sameAtFront 75 = .ok (.goto (-40), 3) := by decide +kernel
theorem dX3_sameAtFront_78 : decode cX3_sameAtFront 78 = .ok (.iload 4, 2) := by decide +kernel
theorem dX3_sameAtFront_80 : decode cX3_sameAtFront 80 = .ok (.ireturn, 1) := by decide +kernel
theorem dX3_setCosts_0 : decode cX3_setCosts 0 = .ok (.iload_n 1, 1) := by decide +kernel
theorem dX3_setCosts_1 : decode cX3_setCosts 1 = .ok (.invokestatic 121, 3) := by decide +kernel
theorem dX3_setCosts_4 : decode cX3_setCosts 4 = .ok (.ifCond .eq 17, 3) := by decide +kernel
theorem dX3_setCosts_7 : decode cX3_setCosts 7 = .ok (.iload_n 2, 1) := by decide +kernel
theorem dX3_setCosts_8 : decode cX3_setCosts 8 = .ok (.invokestatic 121, 3) := by decide +kernel
theorem dX3_setCosts_11 : decode cX3_setCosts 11 = .ok (.ifCond .eq 10, 3) := by decide +kernel
theorem dX3_setCosts_14 : decode cX3_setCosts 14 = .ok (.iload_n 3, 1) := by decide +kernel
theorem dX3_setCosts_15 : decode cX3_setCosts 15 = .ok (.invokestatic 121, 3) := by decide +kernel
theorem dX3_setCosts_18 : decode cX3_setCosts 18 = .ok (.ifCond .ne 13, 3) := by decide +kernel
theorem dX3_setCosts_21 : decode cX3_setCosts 21 = .ok (.new 55, 3) := by decide +kernel
theorem dX3_setCosts_24 : decode cX3_setCosts 24 = .ok (.dup, 1) := by decide +kernel
theorem dX3_setCosts_25 : decode cX3_setCosts 25 = .ok (.ldc 125, 2) := by decide +kernel
theorem dX3_setCosts_27 : decode cX3_setCosts 27 = .ok (.invokespecial 59, 3) := by decide +kernel
theorem dX3_setCosts_30 : decode cX3_setCosts 30 = .ok (.athrow, 1) := by decide +kernel
theorem dX3_setCosts_31 : decode cX3_setCosts 31 = .ok (.aload_n 0, 1) := by decide +kernel
theorem dX3_setCosts_32 : decode cX3_setCosts 32 = .ok (.iconst 0, 1) := by decide +kernel
theorem dX3_setCosts_33 : decode cX3_setCosts 33 = .ok (.putfield 84, 3) := by decide +kernel
theorem dX3_setCosts_36 : decode cX3_setCosts 36 = .ok (.aload_n 0, 1) := by decide +kernel
theorem dX3_setCosts_37 : decode cX3_setCosts 37 = .ok (.getfield 25, 3) := by decide +kernel
theorem dX3_setCosts_40 : decode cX3_setCosts 40 = .ok (.iload_n 1, 1) := by decide +kernel
theorem dX3_setCosts_41 : decode cX3_setCosts 41 = .ok (.iload_n 2, 1) := by decide +kernel
theorem dX3_setCosts_42 : decode cX3_setCosts 42 = .ok (.iload_n 3, 1) := by decide +kernel
theorem dX3_setCosts_43 : decode cX3_setCosts 43 = .ok (.invokevirtual 127, 3) := by decide +kernel
theorem dX3_setCosts_46 : decode cX3_setCosts 46 = .ok (.ireturn, 1) := by decide +kernel
theorem dX3_isCost_0 : decode cX3_isCost 0 = .ok (.iload_n 0, 1) := by decide +kernel
theorem dX3_isCost_1 : decode cX3_isCost 1 = .ok (.ifCond .lt 13, 3) := by decide +kernel
theorem dX3_isCost_4 : decode cX3_isCost 4 = .ok (.iload_n 0, 1) := by decide +kernel
theorem dX3_isCost_5 : decode cX3_isCost 5 = .ok (.bipush 20, 2) := by decide +kernel
theorem dX3_isCost_7 : decode cX3_isCost 7 = .ok (.if_icmp .gt 7, 3) := by decide +kernel
theorem dX3_isCost_10 : decode cX3_isCost 10 = .ok (.iconst 1, 1) := by decide +kernel
theorem dX3_isCost_11 : decode cX3_isCost 11 = .ok (.goto 4, 3) := by decide +kernel
theorem dX3_isCost_14 : decode cX3_isCost 14 = .ok (.iconst 0, 1) := by decide +kernel
theorem dX3_isCost_15 : decode cX3_isCost 15 = .ok (.ireturn, 1) := by decide +kernel
theorem dX3_merge_0 : decode cX3_merge 0 = .ok (.aload_n 0, 1) := by decide +kernel
theorem dX3_merge_1 : decode cX3_merge 1 = .ok (.iload_n 1, 1) := by decide +kernel
theorem dX3_merge_2 : decode cX3_merge 2 = .ok (.invokevirtual 88, 3) := by decide +kernel
theorem dX3_merge_5 : decode cX3_merge 5 = .ok (.aload_n 0, 1) := by decide +kernel
theorem dX3_merge_6 : decode cX3_merge 6 = .ok (.getfield 36, 3) := by decide +kernel
theorem dX3_merge_9 : decode cX3_merge 9 = .ok (.iload_n 1, 1) := by decide +kernel
theorem dX3_merge_10 : decode cX3_merge 10 = .ok (.baload, 1) := by decide +kernel
theorem dX3_merge_11 : decode cX3_merge 11 = .ok (.ifCond .eq 13, 3) := by decide +kernel
theorem dX3_merge_14 : decode cX3_merge 14 = .ok (.new 66, 3) := by decide +kernel
theorem dX3_merge_17 : decode cX3_merge 17 = .ok (.dup, 1) := by decide +kernel
theorem dX3_merge_18 : decode cX3_merge 18 = .ok (.ldc 131, 2) := by decide +kernel
theorem dX3_merge_20 : decode cX3_merge 20 = .ok (.invokespecial 70, 3) := by decide +kernel
theorem dX3_merge_23 : decode cX3_merge 23 = .ok (.athrow, 1) := by decide +kernel
theorem dX3_merge_24 : decode cX3_merge 24 = .ok (.aload_n 0, 1) := by decide +kernel
theorem dX3_merge_25 : decode cX3_merge 25 = .ok (.getfield 25, 3) := by decide +kernel
theorem dX3_merge_28 : decode cX3_merge 28 = .ok (.aload_n 0, 1) := by decide +kernel
theorem dX3_merge_29 : decode cX3_merge 29 = .ok (.getfield 32, 3) := by decide +kernel
theorem dX3_merge_32 : decode cX3_merge 32 = .ok (.iload_n 1, 1) := by decide +kernel
theorem dX3_merge_33 : decode cX3_merge 33 = .ok (.invokevirtual 133, 3) := by decide +kernel
theorem dX3_merge_36 : decode cX3_merge 36 = .ok (.istore_n 2, 1) := by decide +kernel
theorem dX3_merge_37 : decode cX3_merge 37 = .ok (.aload_n 0, 1) := by decide +kernel
theorem dX3_merge_38 : decode cX3_merge 38 = .ok (.getfield 25, 3) := by decide +kernel
theorem dX3_merge_41 : decode cX3_merge 41 = .ok (.aload_n 0, 1) := by decide +kernel
theorem dX3_merge_42 : decode cX3_merge 42 = .ok (.getfield 32, 3) := by decide +kernel
theorem dX3_merge_45 : decode cX3_merge 45 = .ok (.invokevirtual 137, 3) := by decide +kernel
theorem dX3_merge_48 : decode cX3_merge 48 = .ok (.ifCond .ne 13, 3) := by decide +kernel
theorem dX3_merge_51 : decode cX3_merge 51 = .ok (.new 66, 3) := by decide +kernel
theorem dX3_merge_54 : decode cX3_merge 54 = .ok (.dup, 1) := by decide +kernel
theorem dX3_merge_55 : decode cX3_merge 55 = .ok (.ldc 141, 2) := by decide +kernel
theorem dX3_merge_57 : decode cX3_merge 57 = .ok (.invokespecial 70, 3) := by decide +kernel
theorem dX3_merge_60 : decode cX3_merge 60 = .ok (.athrow, 1) := by decide +kernel
theorem dX3_merge_61 : decode cX3_merge 61 = .ok (.aload_n 0, 1) := by decide +kernel
theorem dX3_merge_62 : decode cX3_merge 62 = .ok (.getfield 25, 3) := by decide +kernel
theorem dX3_merge_65 : decode cX3_merge 65 = .ok (.aload_n 0, 1) := by decide +kernel
theorem dX3_merge_66 : decode cX3_merge 66 = .ok (.getfield 32, 3) := by decide +kernel
theorem dX3_merge_69 : decode cX3_merge 69 = .ok (.iload_n 1, 1) := by decide +kernel
theorem dX3_merge_70 : decode cX3_merge 70 = .ok (.invokevirtual 143, 3) := by decide +kernel
theorem dX3_merge_73 : decode cX3_merge 73 = .ok (.aload_n 0, 1) := by decide +kernel
theorem dX3_merge_74 : decode cX3_merge 74 = .ok (.getfield 16, 3) := by decide +kernel
theorem dX3_merge_77 : decode cX3_merge 77 = .ok (.getfield 92, 3) := by decide +kernel
theorem dX3_merge_80 : decode cX3_merge 80 = .ok (.iload_n 1, 1) := by decide +kernel
theorem dX3_merge_81 : decode cX3_merge 81 = .ok (.iaload, 1) := by decide +kernel
theorem dX3_merge_82 : decode cX3_merge 82 = .ok (.istore_n 3, 1) := by decide +kernel
theorem dX3_merge_83 : decode cX3_merge 83 = .ok (.iconst 0, 1) := by decide +kernel
theorem dX3_merge_84 : decode cX3_merge 84 = .ok (.istore 4, 2) := by decide +kernel
theorem dX3_merge_86 : decode cX3_merge 86 = .ok (.iload 4, 2) := by decide +kernel
theorem dX3_merge_88 : decode cX3_merge 88 = .ok (.iload_n 3, 1) := by decide +kernel
theorem dX3_merge_89 : decode cX3_merge 89 = .ok (.if_icmp .ge 30, 3) := by decide +kernel
theorem dX3_merge_92 : decode cX3_merge 92 = .ok (.aload_n 0, 1) := by decide +kernel
theorem dX3_merge_93 : decode cX3_merge 93 = .ok (.getfield 40, 3) := by decide +kernel
theorem dX3_merge_96 : decode cX3_merge 96 = .ok (.iload_n 1, 1) := by decide +kernel
theorem dX3_merge_97 : decode cX3_merge 97 = .ok (.iload 4, 2) := by decide +kernel
theorem dX3_merge_99 : decode cX3_merge 99 = .ok (.invokestatic 102, 3) := by decide +kernel
theorem dX3_merge_102 : decode cX3_merge 102 = .ok (.aload_n 0, 1) := by decide +kernel
theorem dX3_merge_103 : decode cX3_merge 103 = .ok (.getfield 25, 3) := by decide +kernel
theorem dX3_merge_106 : decode cX3_merge 106 = .ok (.getfield 147, 3) := by decide +kernel
theorem dX3_merge_109 : decode cX3_merge 109 = .ok (.iload 4, 2) := by decide +kernel
theorem dX3_merge_111 : decode cX3_merge 111 = .ok (.iaload, 1) := by decide +kernel
theorem dX3_merge_112 : decode cX3_merge 112 = .ok (.iastore, 1) := by decide +kernel
theorem dX3_merge_113 : decode cX3_merge 113 = .ok (.iinc 4 1, 3) := by decide +kernel
theorem dX3_merge_116 : decode cX3_merge 116 = .ok (.goto (-30), 3) := by decide +kernel
theorem dX3_merge_119 : decode cX3_merge 119 = .ok (.aload_n 0, 1) := by decide +kernel
theorem dX3_merge_120 : decode cX3_merge 120 = .ok (.getfield 36, 3) := by decide +kernel
theorem dX3_merge_123 : decode cX3_merge 123 = .ok (.iload_n 1, 1) := by decide +kernel
theorem dX3_merge_124 : decode cX3_merge 124 = .ok (.iconst 1, 1) := by decide +kernel
theorem dX3_merge_125 : decode cX3_merge 125 = .ok (.bastore, 1) := by decide +kernel
theorem dX3_merge_126 : decode cX3_merge 126 = .ok (.iload_n 2, 1) := by decide +kernel
theorem dX3_merge_127 : decode cX3_merge 127 = .ok (.ireturn, 1) := by decide +kernel
theorem dX3_clear_0 : decode cX3_clear 0 = .ok (.aload_n 0, 1) := by decide +kernel
theorem dX3_clear_1 : decode cX3_clear 1 = .ok (.getfield 32, 3) := by decide +kernel
theorem dX3_clear_4 : decode cX3_clear 4 = .ok (.getfield 150, 3) := by decide +kernel
theorem dX3_clear_7 : decode cX3_clear 7 = .ok (.istore_n 1, 1) := by decide +kernel
theorem dX3_clear_8 : decode cX3_clear 8 = .ok (.aload_n 0, 1) := by decide +kernel
theorem dX3_clear_9 : decode cX3_clear 9 = .ok (.getfield 32, 3) := by decide +kernel
theorem dX3_clear_12 : decode cX3_clear 12 = .ok (.invokevirtual 153, 3) := by decide +kernel
theorem dX3_clear_15 : decode cX3_clear 15 = .ok (.iconst 0, 1) := by decide +kernel
theorem dX3_clear_16 : decode cX3_clear 16 = .ok (.istore_n 2, 1) := by decide +kernel
theorem dX3_clear_17 : decode cX3_clear 17 = .ok (.iload_n 2, 1) := by decide +kernel
theorem dX3_clear_18 : decode cX3_clear 18 = .ok (.bipush 12, 2) := by decide +kernel
theorem dX3_clear_20 : decode cX3_clear 20 = .ok (.if_icmp .ge 16, 3) := by decide +kernel
theorem dX3_clear_23 : decode cX3_clear 23 = .ok (.aload_n 0, 1) := by decide +kernel
theorem dX3_clear_24 : decode cX3_clear 24 = .ok (.getfield 36, 3) := by decide +kernel
theorem dX3_clear_27 : decode cX3_clear 27 = .ok (.iload_n 2, 1) := by decide +kernel
theorem dX3_clear_28 : decode cX3_clear 28 = .ok (.iconst 0, 1) := by decide +kernel
theorem dX3_clear_29 : decode cX3_clear 29 = .ok (.bastore, 1) := by decide +kernel
theorem dX3_clear_30 : decode cX3_clear 30 = .ok (.iinc 2 1, 3) := by decide +kernel
theorem dX3_clear_33 : decode cX3_clear 33 = .ok (.goto (-16), 3) := by decide +kernel
theorem dX3_clear_36 : decode cX3_clear 36 = .ok (.iload_n 1, 1) := by decide +kernel
theorem dX3_clear_37 : decode cX3_clear 37 = .ok (.ireturn, 1) := by decide +kernel
theorem dX3_isMerged_0 : decode cX3_isMerged 0 = .ok (.aload_n 0, 1) := by decide +kernel
theorem dX3_isMerged_1 : decode cX3_isMerged 1 = .ok (.iload_n 1, 1) := by decide +kernel
theorem dX3_isMerged_2 : decode cX3_isMerged 2 = .ok (.invokevirtual 88, 3) := by decide +kernel
theorem dX3_isMerged_5 : decode cX3_isMerged 5 = .ok (.aload_n 0, 1) := by decide +kernel
theorem dX3_isMerged_6 : decode cX3_isMerged 6 = .ok (.getfield 36, 3) := by decide +kernel
theorem dX3_isMerged_9 : decode cX3_isMerged 9 = .ok (.iload_n 1, 1) := by decide +kernel
theorem dX3_isMerged_10 : decode cX3_isMerged 10 = .ok (.baload, 1) := by decide +kernel
theorem dX3_isMerged_11 : decode cX3_isMerged 11 = .ok (.ireturn, 1) := by decide +kernel
theorem dX3_costWith_0 : decode cX3_costWith 0 = .ok (.aload_n 0, 1) := by decide +kernel
theorem dX3_costWith_1 : decode cX3_costWith 1 = .ok (.iload_n 1, 1) := by decide +kernel
theorem dX3_costWith_2 : decode cX3_costWith 2 = .ok (.invokevirtual 88, 3) := by decide +kernel
theorem dX3_costWith_5 : decode cX3_costWith 5 = .ok (.aload_n 0, 1) := by decide +kernel
theorem dX3_costWith_6 : decode cX3_costWith 6 = .ok (.getfield 25, 3) := by decide +kernel
theorem dX3_costWith_9 : decode cX3_costWith 9 = .ok (.aload_n 0, 1) := by decide +kernel
theorem dX3_costWith_10 : decode cX3_costWith 10 = .ok (.getfield 32, 3) := by decide +kernel
theorem dX3_costWith_13 : decode cX3_costWith 13 = .ok (.iload_n 1, 1) := by decide +kernel
theorem dX3_costWith_14 : decode cX3_costWith 14 = .ok (.invokevirtual 156, 3) := by decide +kernel
theorem dX3_costWith_17 : decode cX3_costWith 17 = .ok (.ireturn, 1) := by decide +kernel
theorem dX3_fits_0 : decode cX3_fits 0 = .ok (.aload_n 0, 1) := by decide +kernel
theorem dX3_fits_1 : decode cX3_fits 1 = .ok (.iload_n 1, 1) := by decide +kernel
theorem dX3_fits_2 : decode cX3_fits 2 = .ok (.invokevirtual 88, 3) := by decide +kernel
theorem dX3_fits_5 : decode cX3_fits 5 = .ok (.aload_n 0, 1) := by decide +kernel
theorem dX3_fits_6 : decode cX3_fits 6 = .ok (.getfield 25, 3) := by decide +kernel
theorem dX3_fits_9 : decode cX3_fits 9 = .ok (.aload_n 0, 1) := by decide +kernel
theorem dX3_fits_10 : decode cX3_fits 10 = .ok (.getfield 32, 3) := by decide +kernel
theorem dX3_fits_13 : decode cX3_fits 13 = .ok (.iload_n 1, 1) := by decide +kernel
theorem dX3_fits_14 : decode cX3_fits 14 = .ok (.invokevirtual 159, 3) := by decide +kernel
theorem dX3_fits_17 : decode cX3_fits 17 = .ok (.ireturn, 1) := by decide +kernel
theorem dX3_strangest_0 : decode cX3_strangest 0 = .ok (.iconst (-1), 1) := by decide +kernel
theorem dX3_strangest_1 : decode cX3_strangest 1 = .ok (.istore_n 1, 1) := by decide +kernel
theorem dX3_strangest_2 : decode cX3_strangest 2 = .ok (.iconst (-1), 1) := by decide +kernel
theorem dX3_strangest_3 : decode cX3_strangest 3 = .ok (.istore_n 2, 1) := by decide +kernel
theorem dX3_strangest_4 : decode cX3_strangest 4 = .ok (.iconst 0, 1) := by decide +kernel
theorem dX3_strangest_5 : decode cX3_strangest 5 = .ok (.istore_n 3, 1) := by decide +kernel
theorem dX3_strangest_6 : decode cX3_strangest 6 = .ok (.iload_n 3, 1) := by decide +kernel
theorem dX3_strangest_7 : decode cX3_strangest 7 = .ok (.aload_n 0, 1) := by decide +kernel
theorem dX3_strangest_8 : decode cX3_strangest 8 = .ok (.getfield 16, 3) := by decide +kernel
theorem dX3_strangest_11 : decode cX3_strangest 11 = .ok (.getfield 75, 3) := by decide +kernel
theorem dX3_strangest_14 : decode cX3_strangest 14 = .ok (.if_icmp .ge 34, 3) := by decide +kernel
theorem dX3_strangest_17 : decode cX3_strangest 17 = .ok (.aload_n 0, 1) := by decide +kernel
theorem dX3_strangest_18 : decode cX3_strangest 18 = .ok (.getfield 25, 3) := by decide +kernel
theorem dX3_strangest_21 : decode cX3_strangest 21 = .ok (.aload_n 0, 1) := by decide +kernel
theorem dX3_strangest_22 : decode cX3_strangest 22 = .ok (.getfield 32, 3) := by decide +kernel
theorem dX3_strangest_25 : decode cX3_strangest 25 = .ok (.iload_n 3, 1) := by decide +kernel
theorem dX3_strangest_26 : decode cX3_strangest 26 = .ok (.invokevirtual 156, 3) := by decide +kernel
theorem dX3_strangest_29 : decode cX3_strangest 29 = .ok (.istore 4, 2) := by decide +kernel
theorem dX3_strangest_31 : decode cX3_strangest 31 = .ok (.iload 4, 2) := by decide +kernel
theorem dX3_strangest_33 : decode cX3_strangest 33 = .ok (.iload_n 2, 1) := by decide +kernel
theorem dX3_strangest_34 : decode cX3_strangest 34 = .ok (.if_icmp .le 8, 3) := by decide +kernel
theorem dX3_strangest_37 : decode cX3_strangest 37 = .ok (.iload 4, 2) := by decide +kernel
theorem dX3_strangest_39 : decode cX3_strangest 39 = .ok (.istore_n 2, 1) := by decide +kernel
theorem dX3_strangest_40 : decode cX3_strangest 40 = .ok (.iload_n 3, 1) := by decide +kernel
theorem dX3_strangest_41 : decode cX3_strangest 41 = .ok (.istore_n 1, 1) := by decide +kernel
theorem dX3_strangest_42 : decode cX3_strangest 42 = .ok (.iinc 3 1, 3) := by decide +kernel
theorem dX3_strangest_45 : decode cX3_strangest 45 = .ok (.goto (-39), 3) := by decide +kernel
theorem dX3_strangest_48 : decode cX3_strangest 48 = .ok (.iload_n 1, 1) := by decide +kernel
theorem dX3_strangest_49 : decode cX3_strangest 49 = .ok (.ireturn, 1) := by decide +kernel
theorem dX3_slotCount_0 : decode cX3_slotCount 0 = .ok (.aload_n 0, 1) := by decide +kernel
theorem dX3_slotCount_1 : decode cX3_slotCount 1 = .ok (.getfield 32, 3) := by decide +kernel
theorem dX3_slotCount_4 : decode cX3_slotCount 4 = .ok (.getfield 163, 3) := by decide +kernel
theorem dX3_slotCount_7 : decode cX3_slotCount 7 = .ok (.ireturn, 1) := by decide +kernel
theorem dX3_slotKind_0 : decode cX3_slotKind 0 = .ok (.aload_n 0, 1) := by decide +kernel
theorem dX3_slotKind_1 : decode cX3_slotKind 1 = .ok (.getfield 32, 3) := by decide +kernel
theorem dX3_slotKind_4 : decode cX3_slotKind 4 = .ok (.getfield 166, 3) := by decide +kernel
theorem dX3_slotKind_7 : decode cX3_slotKind 7 = .ok (.aload_n 0, 1) := by decide +kernel
theorem dX3_slotKind_8 : decode cX3_slotKind 8 = .ok (.iload_n 1, 1) := by decide +kernel
theorem dX3_slotKind_9 : decode cX3_slotKind 9 = .ok (.invokevirtual 167, 3) := by decide +kernel
theorem dX3_slotKind_12 : decode cX3_slotKind 12 = .ok (.iaload, 1) := by decide +kernel
theorem dX3_slotKind_13 : decode cX3_slotKind 13 = .ok (.ireturn, 1) := by decide +kernel
theorem dX3_textByte_0 : decode cX3_textByte 0 = .ok (.aload_n 0, 1) := by decide +kernel
theorem dX3_textByte_1 : decode cX3_textByte 1 = .ok (.getfield 32, 3) := by decide +kernel
theorem dX3_textByte_4 : decode cX3_textByte 4 = .ok (.getfield 170, 3) := by decide +kernel
theorem dX3_textByte_7 : decode cX3_textByte 7 = .ok (.aload_n 0, 1) := by decide +kernel
theorem dX3_textByte_8 : decode cX3_textByte 8 = .ok (.iload_n 1, 1) := by decide +kernel
theorem dX3_textByte_9 : decode cX3_textByte 9 = .ok (.invokevirtual 167, 3) := by decide +kernel
theorem dX3_textByte_12 : decode cX3_textByte 12 = .ok (.iaload, 1) := by decide +kernel
theorem dX3_textByte_13 : decode cX3_textByte 13 = .ok (.istore_n 3, 1) := by decide +kernel
theorem dX3_textByte_14 : decode cX3_textByte 14 = .ok (.iload_n 3, 1) := by decide +kernel
theorem dX3_textByte_15 : decode cX3_textByte 15 = .ok (.iconst (-1), 1) := by decide +kernel
theorem dX3_textByte_16 : decode cX3_textByte 16 = .ok (.if_icmp .ne 5, 3) := by decide +kernel
theorem dX3_textByte_19 : decode cX3_textByte 19 = .ok (.iconst (-1), 1) := by decide +kernel
theorem dX3_textByte_20 : decode cX3_textByte 20 = .ok (.ireturn, 1) := by decide +kernel
theorem dX3_textByte_21 : decode cX3_textByte 21 = .ok (.iload_n 2, 1) := by decide +kernel
theorem dX3_textByte_22 : decode cX3_textByte 22 = .ok (.ifCond .lt 16, 3) := by decide +kernel
theorem dX3_textByte_25 : decode cX3_textByte 25 = .ok (.iload_n 2, 1) := by decide +kernel
theorem dX3_textByte_26 : decode cX3_textByte 26 = .ok (.aload_n 0, 1) := by decide +kernel
theorem dX3_textByte_27 : decode cX3_textByte 27 = .ok (.getfield 16, 3) := by decide +kernel
theorem dX3_textByte_30 : decode cX3_textByte 30 = .ok (.getfield 171, 3) := by decide +kernel
theorem dX3_textByte_33 : decode cX3_textByte 33 = .ok (.iload_n 3, 1) := by decide +kernel
theorem dX3_textByte_34 : decode cX3_textByte 34 = .ok (.iaload, 1) := by decide +kernel
theorem dX3_textByte_35 : decode cX3_textByte 35 = .ok (.if_icmp .lt 13, 3) := by decide +kernel
theorem dX3_textByte_38 : decode cX3_textByte 38 = .ok (.new 174, 3) := by decide +kernel
theorem dX3_textByte_41 : decode cX3_textByte 41 = .ok (.dup, 1) := by decide +kernel
theorem dX3_textByte_42 : decode cX3_textByte 42 = .ok (.ldc 176, 2) := by decide +kernel
theorem dX3_textByte_44 : decode cX3_textByte 44 = .ok (.invokespecial 178, 3) := by decide +kernel
theorem dX3_textByte_47 : decode cX3_textByte 47 = .ok (.athrow, 1) := by decide +kernel
theorem dX3_textByte_48 : decode cX3_textByte 48 = .ok (.aload_n 0, 1) := by decide +kernel
theorem dX3_textByte_49 : decode cX3_textByte 49 = .ok (.getfield 16, 3) := by decide +kernel
theorem dX3_textByte_52 : decode cX3_textByte 52 = .ok (.getfield 179, 3) := by decide +kernel
theorem dX3_textByte_55 : decode cX3_textByte 55 = .ok (.aload_n 0, 1) := by decide +kernel
theorem dX3_textByte_56 : decode cX3_textByte 56 = .ok (.getfield 16, 3) := by decide +kernel
theorem dX3_textByte_59 : decode cX3_textByte 59 = .ok (.getfield 106, 3) := by decide +kernel
theorem dX3_textByte_62 : decode cX3_textByte 62 = .ok (.iload_n 3, 1) := by decide +kernel
theorem dX3_textByte_63 : decode cX3_textByte 63 = .ok (.iaload, 1) := by decide +kernel
theorem dX3_textByte_64 : decode cX3_textByte 64 = .ok (.iload_n 2, 1) := by decide +kernel
theorem dX3_textByte_65 : decode cX3_textByte 65 = .ok (.iadd, 1) := by decide +kernel
theorem dX3_textByte_66 : decode cX3_textByte 66 = .ok (.baload, 1) := by decide +kernel
theorem dX3_textByte_67 : decode cX3_textByte 67 = .ok (.ireturn, 1) := by decide +kernel
theorem dX3_sizeOf_0 : decode cX3_sizeOf 0 = .ok (.aload_n 0, 1) := by decide +kernel
theorem dX3_sizeOf_1 : decode cX3_sizeOf 1 = .ok (.iload_n 1, 1) := by decide +kernel
theorem dX3_sizeOf_2 : decode cX3_sizeOf 2 = .ok (.invokevirtual 167, 3) := by decide +kernel
theorem dX3_sizeOf_5 : decode cX3_sizeOf 5 = .ok (.istore_n 3, 1) := by decide +kernel
theorem dX3_sizeOf_6 : decode cX3_sizeOf 6 = .ok (.iload_n 2, 1) := by decide +kernel
theorem dX3_sizeOf_7 : decode cX3_sizeOf 7 = .ok (.ifCond .eq 15, 3) := by decide +kernel
theorem dX3_sizeOf_10 : decode cX3_sizeOf 10 = .ok (.aload_n 0, 1) := by decide +kernel
theorem dX3_sizeOf_11 : decode cX3_sizeOf 11 = .ok (.getfield 32, 3) := by decide +kernel
theorem dX3_sizeOf_14 : decode cX3_sizeOf 14 = .ok (.getfield 182, 3) := by decide +kernel
theorem dX3_sizeOf_17 : decode cX3_sizeOf 17 = .ok (.iload_n 3, 1) := by decide +kernel
theorem dX3_sizeOf_18 : decode cX3_sizeOf 18 = .ok (.iaload, 1) := by decide +kernel
theorem dX3_sizeOf_19 : decode cX3_sizeOf 19 = .ok (.goto 12, 3) := by decide +kernel
theorem dX3_sizeOf_22 : decode cX3_sizeOf 22 = .ok (.aload_n 0, 1) := by decide +kernel
theorem dX3_sizeOf_23 : decode cX3_sizeOf 23 = .ok (.getfield 32, 3) := by decide +kernel
theorem dX3_sizeOf_26 : decode cX3_sizeOf 26 = .ok (.getfield 185, 3) := by decide +kernel
theorem dX3_sizeOf_29 : decode cX3_sizeOf 29 = .ok (.iload_n 3, 1) := by decide +kernel
theorem dX3_sizeOf_30 : decode cX3_sizeOf 30 = .ok (.iaload, 1) := by decide +kernel
theorem dX3_sizeOf_31 : decode cX3_sizeOf 31 = .ok (.ireturn, 1) := by decide +kernel
theorem dX3_uses_0 : decode cX3_uses 0 = .ok (.aload_n 0, 1) := by decide +kernel
theorem dX3_uses_1 : decode cX3_uses 1 = .ok (.getfield 32, 3) := by decide +kernel
theorem dX3_uses_4 : decode cX3_uses 4 = .ok (.getfield 188, 3) := by decide +kernel
theorem dX3_uses_7 : decode cX3_uses 7 = .ok (.aload_n 0, 1) := by decide +kernel
theorem dX3_uses_8 : decode cX3_uses 8 = .ok (.iload_n 1, 1) := by decide +kernel
theorem dX3_uses_9 : decode cX3_uses 9 = .ok (.invokevirtual 167, 3) := by decide +kernel
theorem dX3_uses_12 : decode cX3_uses 12 = .ok (.iaload, 1) := by decide +kernel
theorem dX3_uses_13 : decode cX3_uses 13 = .ok (.ireturn, 1) := by decide +kernel
theorem dX3_isOptional_0 : decode cX3_isOptional 0 = .ok (.aload_n 0, 1) := by decide +kernel
theorem dX3_isOptional_1 : decode cX3_isOptional 1 = .ok (.getfield 32, 3) := by decide +kernel
theorem dX3_isOptional_4 : decode cX3_isOptional 4 = .ok (.aload_n 0, 1) := by decide +kernel
theorem dX3_isOptional_5 : decode cX3_isOptional 5 = .ok (.iload_n 1, 1) := by decide +kernel
theorem dX3_isOptional_6 : decode cX3_isOptional 6 = .ok (.invokevirtual 167, 3) := by decide +kernel
theorem dX3_isOptional_9 : decode cX3_isOptional 9 = .ok (.invokevirtual 191, 3) := by decide +kernel
theorem dX3_isOptional_12 : decode cX3_isOptional 12 = .ok (.ireturn, 1) := by decide +kernel
theorem dX3_tokenAt_0 : decode cX3_tokenAt 0 = .ok (.aload_n 0, 1) := by decide +kernel
theorem dX3_tokenAt_1 : decode cX3_tokenAt 1 = .ok (.iload_n 1, 1) := by decide +kernel
theorem dX3_tokenAt_2 : decode cX3_tokenAt 2 = .ok (.invokevirtual 88, 3) := by decide +kernel
theorem dX3_tokenAt_5 : decode cX3_tokenAt 5 = .ok (.aload_n 0, 1) := by decide +kernel
theorem dX3_tokenAt_6 : decode cX3_tokenAt 6 = .ok (.iload_n 1, 1) := by decide +kernel
theorem dX3_tokenAt_7 : decode cX3_tokenAt 7 = .ok (.aload_n 0, 1) := by decide +kernel
theorem dX3_tokenAt_8 : decode cX3_tokenAt 8 = .ok (.iload_n 2, 1) := by decide +kernel
theorem dX3_tokenAt_9 : decode cX3_tokenAt 9 = .ok (.invokevirtual 167, 3) := by decide +kernel
theorem dX3_tokenAt_12 : decode cX3_tokenAt 12 = .ok (.invokevirtual 194, 3) := by decide +kernel
theorem dX3_tokenAt_15 : decode cX3_tokenAt 15 = .ok (.ireturn, 1) := by decide +kernel
theorem dX3_numberAt_0 : decode cX3_numberAt 0 = .ok (.aload_n 0, 1) := by decide +kernel
theorem dX3_numberAt_1 : decode cX3_numberAt 1 = .ok (.iload_n 1, 1) := by decide +kernel
theorem dX3_numberAt_2 : decode cX3_numberAt 2 = .ok (.invokevirtual 88, 3) := by decide +kernel
theorem dX3_numberAt_5 : decode cX3_numberAt 5 = .ok (.aload_n 0, 1) := by decide +kernel
theorem dX3_numberAt_6 : decode cX3_numberAt 6 = .ok (.iload_n 1, 1) := by decide +kernel
theorem dX3_numberAt_7 : decode cX3_numberAt 7 = .ok (.aload_n 0, 1) := by decide +kernel
theorem dX3_numberAt_8 : decode cX3_numberAt 8 = .ok (.iload_n 2, 1) := by decide +kernel
theorem dX3_numberAt_9 : decode cX3_numberAt 9 = .ok (.invokevirtual 167, 3) := by decide +kernel
theorem dX3_numberAt_12 : decode cX3_numberAt 12 = .ok (.invokevirtual 197, 3) := by decide +kernel
theorem dX3_numberAt_15 : decode cX3_numberAt 15 = .ok (.ireturn, 1) := by decide +kernel
theorem dX3_distinct_0 : decode cX3_distinct 0 = .ok (.aload_n 0, 1) := by decide +kernel
theorem dX3_distinct_1 : decode cX3_distinct 1 = .ok (.iload_n 1, 1) := by decide +kernel
theorem dX3_distinct_2 : decode cX3_distinct 2 = .ok (.invokevirtual 167, 3) := by decide +kernel
theorem dX3_distinct_5 : decode cX3_distinct 5 = .ok (.istore_n 2, 1) := by decide +kernel
theorem dX3_distinct_6 : decode cX3_distinct 6 = .ok (.iconst 0, 1) := by decide +kernel
theorem dX3_distinct_7 : decode cX3_distinct 7 = .ok (.istore_n 3, 1) := by decide +kernel
theorem dX3_distinct_8 : decode cX3_distinct 8 = .ok (.iconst 0, 1) := by decide +kernel
theorem dX3_distinct_9 : decode cX3_distinct 9 = .ok (.istore 4, 2) := by decide +kernel
theorem dX3_distinct_11 : decode cX3_distinct 11 = .ok (.iload 4, 2) := by decide +kernel
theorem dX3_distinct_13 : decode cX3_distinct 13 = .ok (.aload_n 0, 1) := by decide +kernel
theorem dX3_distinct_14 : decode cX3_distinct 14 = .ok (.getfield 16, 3) := by decide +kernel
theorem dX3_distinct_17 : decode cX3_distinct 17 = .ok (.getfield 75, 3) := by decide +kernel
theorem dX3_distinct_20 : decode cX3_distinct 20 = .ok (.if_icmp .ge 39, 3) := by decide +kernel
theorem dX3_distinct_23 : decode cX3_distinct 23 = .ok (.aload_n 0, 1) := by decide +kernel
theorem dX3_distinct_24 : decode cX3_distinct 24 = .ok (.iload 4, 2) := by decide +kernel
theorem dX3_distinct_26 : decode cX3_distinct 26 = .ok (.iload_n 2, 1) := by decide +kernel
theorem dX3_distinct_27 : decode cX3_distinct 27 = .ok (.invokevirtual 200, 3) := by decide +kernel
theorem dX3_distinct_30 : decode cX3_distinct 30 = .ok (.istore 5, 2) := by decide +kernel
theorem dX3_distinct_32 : decode cX3_distinct 32 = .ok (.iload 5, 2) := by decide +kernel
theorem dX3_distinct_34 : decode cX3_distinct 34 = .ok (.iconst (-1), 1) := by decide +kernel
theorem dX3_distinct_35 : decode cX3_distinct 35 = .ok (.if_icmp .eq 18, 3) := by decide +kernel
theorem dX3_distinct_38 : decode cX3_distinct 38 = .ok (.aload_n 0, 1) := by decide +kernel
theorem dX3_distinct_39 : decode cX3_distinct 39 = .ok (.iload 4, 2) := by decide +kernel
theorem dX3_distinct_41 : decode cX3_distinct 41 = .ok (.iload_n 2, 1) := by decide +kernel
theorem dX3_distinct_42 : decode cX3_distinct 42 = .ok (.iload 5, 2) := by decide +kernel
theorem dX3_distinct_44 : decode cX3_distinct 44 = .ok (.invokevirtual 203, 3) := by decide +kernel
theorem dX3_distinct_47 : decode cX3_distinct 47 = .ok (.ifCond .ne 6, 3) := by decide +kernel
theorem dX3_distinct_50 : decode cX3_distinct 50 = .ok (.iinc 3 1, 3) := by decide +kernel
theorem dX3_distinct_53 : decode cX3_distinct 53 = .ok (.iinc 4 1, 3) := by decide +kernel
theorem dX3_distinct_56 : decode cX3_distinct 56 = .ok (.goto (-45), 3) := by decide +kernel
theorem dX3_distinct_59 : decode cX3_distinct 59 = .ok (.iload_n 3, 1) := by decide +kernel
theorem dX3_distinct_60 : decode cX3_distinct 60 = .ok (.ireturn, 1) := by decide +kernel
theorem dX3_isTextBefore_0 : decode cX3_isTextBefore 0 = .ok (.iconst 0, 1) := by decide +kernel
theorem dX3_isTextBefore_1 : decode cX3_isTextBefore 1 = .ok (.istore 4, 2) := by decide +kernel
theorem dX3_isTextBefore_3 : decode cX3_isTextBefore 3 = .ok (.iload 4, 2) := by decide +kernel
theorem dX3_isTextBefore_5 : decode cX3_isTextBefore 5 = .ok (.iload_n 1, 1) := by decide +kernel
theorem dX3_isTextBefore_6 : decode cX3_isTextBefore 6 = .ok (.if_icmp .ge 22, 3) := by decide +kernel
theorem dX3_isTextBefore_9 : decode cX3_isTextBefore 9 = .ok (.aload_n 0, 1) := by decide +kernel
theorem dX3_isTextBefore_10 : decode cX3_isTextBefore 10 = .ok (.iload 4, 2) := by decide +kernel
theorem dX3_isTextBefore_12 : decode cX3_isTextBefore 12 = .ok (.iload_n 2, 1) := by decide +kernel
theorem dX3_isTextBefore_13 : decode cX3_isTextBefore 13 = .ok (.invokevirtual 200, 3) := by decide +kernel
theorem dX3_isTextBefore_16 : decode cX3_isTextBefore 16 = .ok (.iload_n 3, 1) := by decide +kernel
theorem dX3_isTextBefore_17 : decode cX3_isTextBefore 17 = .ok (.if_icmp .ne 5, 3) := by decide +kernel
theorem dX3_isTextBefore_20 : decode cX3_isTextBefore 20 = .ok (.iconst 1, 1) := by decide +kernel
theorem dX3_isTextBefore_21 : decode cX3_isTextBefore 21 = .ok (.ireturn, 1) := by decide +kernel
theorem dX3_isTextBefore_22 : decode cX3_isTextBefore 22 = .ok (.iinc 4 1, 3) := by decide +kernel
theorem dX3_isTextBefore_25 : decode cX3_isTextBefore 25 = .ok (.goto (-22), 3) := by decide +kernel
theorem dX3_isTextBefore_28 : decode cX3_isTextBefore 28 = .ok (.iconst 0, 1) := by decide +kernel
theorem dX3_isTextBefore_29 : decode cX3_isTextBefore 29 = .ok (.ireturn, 1) := by decide +kernel
theorem dX3_isRising_0 : decode cX3_isRising 0 = .ok (.aload_n 0, 1) := by decide +kernel
theorem dX3_isRising_1 : decode cX3_isRising 1 = .ok (.iload_n 1, 1) := by decide +kernel
theorem dX3_isRising_2 : decode cX3_isRising 2 = .ok (.invokevirtual 167, 3) := by decide +kernel
theorem dX3_isRising_5 : decode cX3_isRising 5 = .ok (.istore_n 2, 1) := by decide +kernel
theorem dX3_isRising_6 : decode cX3_isRising 6 = .ok (.aload_n 0, 1) := by decide +kernel
theorem dX3_isRising_7 : decode cX3_isRising 7 = .ok (.getfield 32, 3) := by decide +kernel
theorem dX3_isRising_10 : decode cX3_isRising 10 = .ok (.getfield 166, 3) := by decide +kernel
theorem dX3_isRising_13 : decode cX3_isRising 13 = .ok (.iload_n 2, 1) := by decide +kernel
theorem dX3_isRising_14 : decode cX3_isRising 14 = .ok (.iaload, 1) := by decide +kernel
theorem dX3_isRising_15 : decode cX3_isRising 15 = .ok (.iconst 1, 1) := by decide +kernel
theorem dX3_isRising_16 : decode cX3_isRising 16 = .ok (.if_icmp .ne 16, 3) := by decide +kernel
theorem dX3_isRising_19 : decode cX3_isRising 19 = .ok (.aload_n 0, 1) := by decide +kernel
theorem dX3_isRising_20 : decode cX3_isRising 20 = .ok (.getfield 32, 3) := by decide +kernel
theorem dX3_isRising_23 : decode cX3_isRising 23 = .ok (.getfield 188, 3) := by decide +kernel
theorem dX3_isRising_26 : decode cX3_isRising 26 = .ok (.iload_n 2, 1) := by decide +kernel
theorem dX3_isRising_27 : decode cX3_isRising 27 = .ok (.iaload, 1) := by decide +kernel
theorem dX3_isRising_28 : decode cX3_isRising 28 = .ok (.iconst 2, 1) := by decide +kernel
theorem dX3_isRising_29 : decode cX3_isRising 29 = .ok (.if_icmp .ge 5, 3) := by decide +kernel
theorem dX3_isRising_32 : decode cX3_isRising 32 = .ok (.iconst 0, 1) := by decide +kernel
theorem dX3_isRising_33 : decode cX3_isRising 33 = .ok (.ireturn, 1) := by decide +kernel
theorem dX3_isRising_34 : decode cX3_isRising 34 = .ok (.iconst (-1), 1) := by decide +kernel
theorem dX3_isRising_35 : decode cX3_isRising 35 = .ok (.istore_n 3, 1) := by decide +kernel
theorem dX3_isRising_36 : decode cX3_isRising 36 = .ok (.iconst 0, 1) := by decide +kernel
theorem dX3_isRising_37 : decode cX3_isRising 37 = .ok (.istore 4, 2) := by decide +kernel
theorem dX3_isRising_39 : decode cX3_isRising 39 = .ok (.iload 4, 2) := by decide +kernel
theorem dX3_isRising_41 : decode cX3_isRising 41 = .ok (.aload_n 0, 1) := by decide +kernel
theorem dX3_isRising_42 : decode cX3_isRising 42 = .ok (.getfield 16, 3) := by decide +kernel
theorem dX3_isRising_45 : decode cX3_isRising 45 = .ok (.getfield 75, 3) := by decide +kernel
theorem dX3_isRising_48 : decode cX3_isRising 48 = .ok (.if_icmp .ge 40, 3) := by decide +kernel
theorem dX3_isRising_51 : decode cX3_isRising 51 = .ok (.aload_n 0, 1) := by decide +kernel
theorem dX3_isRising_52 : decode cX3_isRising 52 = .ok (.iload 4, 2) := by decide +kernel
theorem dX3_isRising_54 : decode cX3_isRising 54 = .ok (.iload_n 2, 1) := by decide +kernel
theorem dX3_isRising_55 : decode cX3_isRising 55 = .ok (.invokevirtual 194, 3) := by decide +kernel
theorem dX3_isRising_58 : decode cX3_isRising 58 = .ok (.iconst (-1), 1) := by decide +kernel
theorem dX3_isRising_59 : decode cX3_isRising 59 = .ok (.if_icmp .eq 23, 3) := by decide +kernel
theorem dX3_isRising_62 : decode cX3_isRising 62 = .ok (.aload_n 0, 1) := by decide +kernel
theorem dX3_isRising_63 : decode cX3_isRising 63 = .ok (.iload 4, 2) := by decide +kernel
theorem dX3_isRising_65 : decode cX3_isRising 65 = .ok (.iload_n 2, 1) := by decide +kernel
theorem dX3_isRising_66 : decode cX3_isRising 66 = .ok (.invokevirtual 197, 3) := by decide +kernel
theorem dX3_isRising_69 : decode cX3_isRising 69 = .ok (.istore 5, 2) := by decide +kernel
theorem dX3_isRising_71 : decode cX3_isRising 71 = .ok (.iload 5, 2) := by decide +kernel
theorem dX3_isRising_73 : decode cX3_isRising 73 = .ok (.iload_n 3, 1) := by decide +kernel
theorem dX3_isRising_74 : decode cX3_isRising 74 = .ok (.if_icmp .gt 5, 3) := by decide +kernel
theorem dX3_isRising_77 : decode cX3_isRising 77 = .ok (.iconst 0, 1) := by decide +kernel
theorem dX3_isRising_78 : decode cX3_isRising 78 = .ok (.ireturn, 1) := by decide +kernel
theorem dX3_isRising_79 : decode cX3_isRising 79 = .ok (.iload 5, 2) := by decide +kernel
theorem dX3_isRising_81 : decode cX3_isRising 81 = .ok (.istore_n 3, 1) := by decide +kernel
theorem dX3_isRising_82 : decode cX3_isRising 82 = .ok (.iinc 4 1, 3) := by decide +kernel
theorem dX3_isRising_85 : decode cX3_isRising 85 = .ok (.goto (-46), 3) := by decide +kernel
theorem dX3_isRising_88 : decode cX3_isRising 88 = .ok (.iconst 1, 1) := by decide +kernel
theorem dX3_isRising_89 : decode cX3_isRising 89 = .ok (.ireturn, 1) := by decide +kernel
theorem dX3_bits_0 : decode cX3_bits 0 = .ok (.iconst 0, 1) := by decide +kernel
theorem dX3_bits_1 : decode cX3_bits 1 = .ok (.istore_n 1, 1) := by decide +kernel
theorem dX3_bits_2 : decode cX3_bits 2 = .ok (.iconst 0, 1) := by decide +kernel
theorem dX3_bits_3 : decode cX3_bits 3 = .ok (.istore_n 2, 1) := by decide +kernel
theorem dX3_bits_4 : decode cX3_bits 4 = .ok (.iload_n 2, 1) := by decide +kernel
theorem dX3_bits_5 : decode cX3_bits 5 = .ok (.aload_n 0, 1) := by decide +kernel
theorem dX3_bits_6 : decode cX3_bits 6 = .ok (.getfield 32, 3) := by decide +kernel
theorem dX3_bits_9 : decode cX3_bits 9 = .ok (.getfield 163, 3) := by decide +kernel
theorem dX3_bits_12 : decode cX3_bits 12 = .ok (.if_icmp .ge 57, 3) := by decide +kernel
theorem dX3_bits_15 : decode cX3_bits 15 = .ok (.aload_n 0, 1) := by decide +kernel
theorem dX3_bits_16 : decode cX3_bits 16 = .ok (.getfield 32, 3) := by decide +kernel
theorem dX3_bits_19 : decode cX3_bits 19 = .ok (.getfield 206, 3) := by decide +kernel
theorem dX3_bits_22 : decode cX3_bits 22 = .ok (.iload_n 2, 1) := by decide +kernel
theorem dX3_bits_23 : decode cX3_bits 23 = .ok (.iaload, 1) := by decide +kernel
theorem dX3_bits_24 : decode cX3_bits 24 = .ok (.istore_n 3, 1) := by decide +kernel
theorem dX3_bits_25 : decode cX3_bits 25 = .ok (.iload_n 1, 1) := by decide +kernel
theorem dX3_bits_26 : decode cX3_bits 26 = .ok (.iconst 4, 1) := by decide +kernel
theorem dX3_bits_27 : decode cX3_bits 27 = .ok (.bipush 8, 2) := by decide +kernel
theorem dX3_bits_29 : decode cX3_bits 29 = .ok (.iconst 0, 1) := by decide +kernel
theorem dX3_bits_30 : decode cX3_bits 30 = .ok (.aload_n 0, 1) := by decide +kernel
theorem dX3_bits_31 : decode cX3_bits 31 = .ok (.iload_n 3, 1) := by decide +kernel
theorem dX3_bits_32 : decode cX3_bits 32 = .ok (.invokevirtual 209, 3) := by decide +kernel
theorem dX3_bits_35 : decode cX3_bits 35 = .ok (.invokestatic 212, 3) := by decide +kernel
theorem dX3_bits_38 : decode cX3_bits 38 = .ok (.imul, 1) := by decide +kernel
theorem dX3_bits_39 : decode cX3_bits 39 = .ok (.iadd, 1) := by decide +kernel
theorem dX3_bits_40 : decode cX3_bits 40 = .ok (.iadd, 1) := by decide +kernel
theorem dX3_bits_41 : decode cX3_bits 41 = .ok (.istore_n 1, 1) := by decide +kernel
theorem dX3_bits_42 : decode cX3_bits 42 = .ok (.aload_n 0, 1) := by decide +kernel
theorem dX3_bits_43 : decode cX3_bits 43 = .ok (.getfield 32, 3) := by decide +kernel
theorem dX3_bits_46 : decode cX3_bits 46 = .ok (.iload_n 3, 1) := by decide +kernel
theorem dX3_bits_47 : decode cX3_bits 47 = .ok (.invokevirtual 191, 3) := by decide +kernel
theorem dX3_bits_50 : decode cX3_bits 50 = .ok (.ifCond .eq 13, 3) := by decide +kernel
theorem dX3_bits_53 : decode cX3_bits 53 = .ok (.iload_n 1, 1) := by decide +kernel
theorem dX3_bits_54 : decode cX3_bits 54 = .ok (.aload_n 0, 1) := by decide +kernel
theorem dX3_bits_55 : decode cX3_bits 55 = .ok (.getfield 32, 3) := by decide +kernel
theorem dX3_bits_58 : decode cX3_bits 58 = .ok (.getfield 150, 3) := by decide +kernel
theorem dX3_bits_61 : decode cX3_bits 61 = .ok (.iadd, 1) := by decide +kernel
theorem dX3_bits_62 : decode cX3_bits 62 = .ok (.istore_n 1, 1) := by decide +kernel
theorem dX3_bits_63 : decode cX3_bits 63 = .ok (.iinc 2 1, 3) := by decide +kernel
theorem dX3_bits_66 : decode cX3_bits 66 = .ok (.goto (-62), 3) := by decide +kernel
theorem dX3_bits_69 : decode cX3_bits 69 = .ok (.iconst 0, 1) := by decide +kernel
theorem dX3_bits_70 : decode cX3_bits 70 = .ok (.istore_n 2, 1) := by decide +kernel
theorem dX3_bits_71 : decode cX3_bits 71 = .ok (.iload_n 2, 1) := by decide +kernel
theorem dX3_bits_72 : decode cX3_bits 72 = .ok (.aload_n 0, 1) := by decide +kernel
theorem dX3_bits_73 : decode cX3_bits 73 = .ok (.getfield 16, 3) := by decide +kernel
theorem dX3_bits_76 : decode cX3_bits 76 = .ok (.getfield 75, 3) := by decide +kernel
theorem dX3_bits_79 : decode cX3_bits 79 = .ok (.if_icmp .ge 26, 3) := by decide +kernel
theorem dX3_bits_82 : decode cX3_bits 82 = .ok (.aload_n 0, 1) := by decide +kernel
theorem dX3_bits_83 : decode cX3_bits 83 = .ok (.getfield 36, 3) := by decide +kernel
theorem dX3_bits_86 : decode cX3_bits 86 = .ok (.iload_n 2, 1) := by decide +kernel
theorem dX3_bits_87 : decode cX3_bits 87 = .ok (.baload, 1) := by decide +kernel
theorem dX3_bits_88 : decode cX3_bits 88 = .ok (.ifCond .eq 11, 3) := by decide +kernel
theorem dX3_bits_91 : decode cX3_bits 91 = .ok (.iload_n 1, 1) := by decide +kernel
theorem dX3_bits_92 : decode cX3_bits 92 = .ok (.aload_n 0, 1) := by decide +kernel
theorem dX3_bits_93 : decode cX3_bits 93 = .ok (.iload_n 2, 1) := by decide +kernel
theorem dX3_bits_94 : decode cX3_bits 94 = .ok (.invokevirtual 215, 3) := by decide +kernel
theorem dX3_bits_97 : decode cX3_bits 97 = .ok (.iadd, 1) := by decide +kernel
theorem dX3_bits_98 : decode cX3_bits 98 = .ok (.istore_n 1, 1) := by decide +kernel
theorem dX3_bits_99 : decode cX3_bits 99 = .ok (.iinc 2 1, 3) := by decide +kernel
theorem dX3_bits_102 : decode cX3_bits 102 = .ok (.goto (-31), 3) := by decide +kernel
theorem dX3_bits_105 : decode cX3_bits 105 = .ok (.iload_n 1, 1) := by decide +kernel
theorem dX3_bits_106 : decode cX3_bits 106 = .ok (.ireturn, 1) := by decide +kernel
theorem dX3_bitsOfVarying_0 : decode cX3_bitsOfVarying 0 = .ok (.iconst 0, 1) := by decide +kernel
theorem dX3_bitsOfVarying_1 : decode cX3_bitsOfVarying 1 = .ok (.istore_n 2, 1) := by decide +kernel
theorem dX3_bitsOfVarying_2 : decode cX3_bitsOfVarying 2 = .ok (.aload_n 0, 1) := by decide +kernel
theorem dX3_bitsOfVarying_3 : decode cX3_bitsOfVarying 3 = .ok (.getfield 16, 3) := by decide +kernel
theorem dX3_bitsOfVarying_6 : decode cX3_bitsOfVarying 6 = .ok (.getfield 92, 3) := by decide +kernel
theorem dX3_bitsOfVarying_9 : decode cX3_bitsOfVarying 9 = .ok (.iload_n 1, 1) := by decide +kernel
theorem dX3_bitsOfVarying_10 : decode cX3_bitsOfVarying 10 = .ok (.iaload, 1) := by decide +kernel
theorem dX3_bitsOfVarying_11 : decode cX3_bitsOfVarying 11 = .ok (.istore_n 3, 1) := by decide +kernel
theorem dX3_bitsOfVarying_12 : decode cX3_bitsOfVarying 12 = .ok (.iconst 0, 1) := by decide +kernel
theorem dX3_bitsOfVarying_13 : decode cX3_bitsOfVarying 13 = .ok (.istore 4, 2) := by decide +kernel
theorem dX3_bitsOfVarying_15 : decode cX3_bitsOfVarying 15 = .ok (.iload 4, 2) := by decide +kernel
theorem dX3_bitsOfVarying_17 : decode cX3_bitsOfVarying 17 = .ok (.iload_n 3, 1) := by decide +kernel
theorem dX3_bitsOfVarying_18 : decode cX3_bitsOfVarying 18 = .ok (.if_icmp .ge 66, 3) := by decide +kernel
theorem dX3_bitsOfVarying_21 : decode cX3_bitsOfVarying 21 = .ok (.iload_n 1, 1) := by decide +kernel
theorem dX3_bitsOfVarying_22 : decode cX3_bitsOfVarying 22 = .ok (.iload 4, 2) := by decide +kernel
theorem dX3_bitsOfVarying_24 : decode cX3_bitsOfVarying 24 = .ok (.invokestatic 102, 3) := by decide +kernel
theorem dX3_bitsOfVarying_27 : decode cX3_bitsOfVarying 27 = .ok (.istore 5, 2) := by decide +kernel
theorem dX3_bitsOfVarying_29 : decode cX3_bitsOfVarying 29 = .ok (.aload_n 0, 1) := by decide +kernel
theorem dX3_bitsOfVarying_30 : decode cX3_bitsOfVarying 30 = .ok (.getfield 32, 3) := by decide +kernel
theorem dX3_bitsOfVarying_33 : decode cX3_bitsOfVarying 33 = .ok (.getfield 170, 3) := by decide +kernel
theorem dX3_bitsOfVarying_36 : decode cX3_bitsOfVarying 36 = .ok (.aload_n 0, 1) := by decide +kernel
theorem dX3_bitsOfVarying_37 : decode cX3_bitsOfVarying 37 = .ok (.getfield 40, 3) := by decide +kernel
theorem dX3_bitsOfVarying_40 : decode cX3_bitsOfVarying 40 = .ok (.iload 5, 2) := by decide +kernel
theorem dX3_bitsOfVarying_42 : decode cX3_bitsOfVarying 42 = .ok (.iaload, 1) := by decide +kernel
theorem dX3_bitsOfVarying_43 : decode cX3_bitsOfVarying 43 = .ok (.iaload, 1) := by decide +kernel
theorem dX3_bitsOfVarying_44 : decode cX3_bitsOfVarying 44 = .ok (.iconst (-1), 1) := by decide +kernel
theorem dX3_bitsOfVarying_45 : decode cX3_bitsOfVarying 45 = .ok (.if_icmp .ne 33, 3) := by decide +kernel
theorem dX3_bitsOfVarying_48 : decode cX3_bitsOfVarying 48 = .ok (.iload_n 2, 1) := by decide +kernel
theorem dX3_bitsOfVarying_49 : decode cX3_bitsOfVarying 49 = .ok (.iconst 1, 1) := by decide +kernel
theorem dX3_bitsOfVarying_50 : decode cX3_bitsOfVarying 50 = .ok (.getstatic 218, 3) := by decide +kernel
theorem dX3_bitsOfVarying_53 : decode cX3_bitsOfVarying 53 = .ok (.aload_n 0, 1) := by decide +kernel
theorem dX3_bitsOfVarying_54 : decode cX3_bitsOfVarying 54 = .ok (.getfield 16, 3) := by decide +kernel
theorem dX3_bitsOfVarying_57 : decode cX3_bitsOfVarying 57 = .ok (.getfield 99, 3) := by decide +kernel
theorem dX3_bitsOfVarying_60 : decode cX3_bitsOfVarying 60 = .ok (.iload 5, 2) := by decide +kernel
theorem dX3_bitsOfVarying_62 : decode cX3_bitsOfVarying 62 = .ok (.iaload, 1) := by decide +kernel
theorem dX3_bitsOfVarying_63 : decode cX3_bitsOfVarying 63 = .ok (.iaload, 1) := by decide +kernel
theorem dX3_bitsOfVarying_64 : decode cX3_bitsOfVarying 64 = .ok (.aload_n 0, 1) := by decide +kernel
theorem dX3_bitsOfVarying_65 : decode cX3_bitsOfVarying 65 = .ok (.getfield 16, 3) := by decide +kernel
theorem dX3_bitsOfVarying_68 : decode cX3_bitsOfVarying 68 = .ok (.getfield 171, 3) := by decide +kernel
theorem dX3_bitsOfVarying_71 : decode cX3_bitsOfVarying 71 = .ok (.iload 5, 2) := by decide +kernel
theorem dX3_bitsOfVarying_73 : decode cX3_bitsOfVarying 73 = .ok (.iaload, 1) := by decide +kernel
theorem dX3_bitsOfVarying_74 : decode cX3_bitsOfVarying 74 = .ok (.imul, 1) := by decide +kernel
theorem dX3_bitsOfVarying_75 : decode cX3_bitsOfVarying 75 = .ok (.iadd, 1) := by decide +kernel
theorem dX3_bitsOfVarying_76 : decode cX3_bitsOfVarying 76 = .ok (.iadd, 1) := by decide +kernel
theorem dX3_bitsOfVarying_77 : decode cX3_bitsOfVarying 77 = .ok (.istore_n 2, 1) := by decide +kernel
theorem dX3_bitsOfVarying_78 : decode cX3_bitsOfVarying 78 = .ok (.iinc 4 1, 3) := by decide +kernel
theorem dX3_bitsOfVarying_81 : decode cX3_bitsOfVarying 81 = .ok (.goto (-66), 3) := by decide +kernel
theorem dX3_bitsOfVarying_84 : decode cX3_bitsOfVarying 84 = .ok (.iload_n 2, 1) := by decide +kernel
theorem dX3_bitsOfVarying_85 : decode cX3_bitsOfVarying 85 = .ok (.ireturn, 1) := by decide +kernel
theorem dX3_saving_0 : decode cX3_saving 0 = .ok (.iconst 0, 1) := by decide +kernel
theorem dX3_saving_1 : decode cX3_saving 1 = .ok (.istore_n 1, 1) := by decide +kernel
theorem dX3_saving_2 : decode cX3_saving 2 = .ok (.iconst 0, 1) := by decide +kernel
theorem dX3_saving_3 : decode cX3_saving 3 = .ok (.istore_n 2, 1) := by decide +kernel
theorem dX3_saving_4 : decode cX3_saving 4 = .ok (.iload_n 2, 1) := by decide +kernel
theorem dX3_saving_5 : decode cX3_saving 5 = .ok (.aload_n 0, 1) := by decide +kernel
theorem dX3_saving_6 : decode cX3_saving 6 = .ok (.getfield 16, 3) := by decide +kernel
theorem dX3_saving_9 : decode cX3_saving 9 = .ok (.getfield 75, 3) := by decide +kernel
theorem dX3_saving_12 : decode cX3_saving 12 = .ok (.if_icmp .ge 36, 3) := by decide +kernel
theorem dX3_saving_15 : decode cX3_saving 15 = .ok (.aload_n 0, 1) := by decide +kernel
theorem dX3_saving_16 : decode cX3_saving 16 = .ok (.getfield 36, 3) := by decide +kernel
theorem dX3_saving_19 : decode cX3_saving 19 = .ok (.iload_n 2, 1) := by decide +kernel
theorem dX3_saving_20 : decode cX3_saving 20 = .ok (.baload, 1) := by decide +kernel
theorem dX3_saving_21 : decode cX3_saving 21 = .ok (.ifCond .eq 21, 3) := by decide +kernel
theorem dX3_saving_24 : decode cX3_saving 24 = .ok (.iload_n 1, 1) := by decide +kernel
theorem dX3_saving_25 : decode cX3_saving 25 = .ok (.bipush 8, 2) := by decide +kernel
theorem dX3_saving_27 : decode cX3_saving 27 = .ok (.bipush 8, 2) := by decide +kernel
theorem dX3_saving_29 : decode cX3_saving 29 = .ok (.aload_n 0, 1) := by decide +kernel
theorem dX3_saving_30 : decode cX3_saving 30 = .ok (.getfield 16, 3) := by decide +kernel
theorem dX3_saving_33 : decode cX3_saving 33 = .ok (.getfield 221, 3) := by decide +kernel
theorem dX3_saving_36 : decode cX3_saving 36 = .ok (.iload_n 2, 1) := by decide +kernel
theorem dX3_saving_37 : decode cX3_saving 37 = .ok (.iaload, 1) := by decide +kernel
theorem dX3_saving_38 : decode cX3_saving 38 = .ok (.imul, 1) := by decide +kernel
theorem dX3_saving_39 : decode cX3_saving 39 = .ok (.iadd, 1) := by decide +kernel
theorem dX3_saving_40 : decode cX3_saving 40 = .ok (.iadd, 1) := by decide +kernel
theorem dX3_saving_41 : decode cX3_saving 41 = .ok (.istore_n 1, 1) := by decide +kernel
theorem dX3_saving_42 : decode cX3_saving 42 = .ok (.iinc 2 1, 3) := by decide +kernel
theorem dX3_saving_45 : decode cX3_saving 45 = .ok (.goto (-41), 3) := by decide +kernel
theorem dX3_saving_48 : decode cX3_saving 48 = .ok (.iload_n 1, 1) := by decide +kernel
theorem dX3_saving_49 : decode cX3_saving 49 = .ok (.ifCond .ne 5, 3) := by decide +kernel
theorem dX3_saving_52 : decode cX3_saving 52 = .ok (.dconst 0, 1) := by decide +kernel
theorem dX3_saving_53 : decode cX3_saving 53 = .ok (.dreturn, 1) := by decide +kernel
theorem dX3_saving_54 : decode cX3_saving 54 = .ok (.dconst 1, 1) := by decide +kernel
theorem dX3_saving_55 : decode cX3_saving 55 = .ok (.aload_n 0, 1) := by decide +kernel
theorem dX3_saving_56 : decode cX3_saving 56 = .ok (.invokevirtual 224, 3) := by decide +kernel
theorem dX3_saving_59 : decode cX3_saving 59 = .ok (.i2d, 1) := by decide +kernel
theorem dX3_saving_60 : decode cX3_saving 60 = .ok (.iload_n 1, 1) := by decide +kernel
theorem dX3_saving_61 : decode cX3_saving 61 = .ok (.i2d, 1) := by decide +kernel
theorem dX3_saving_62 : decode cX3_saving 62 = .ok (.ddiv, 1) := by decide +kernel
theorem dX3_saving_63 : decode cX3_saving 63 = .ok (.dsub, 1) := by decide +kernel
theorem dX3_saving_64 : decode cX3_saving 64 = .ok (.dreturn, 1) := by decide +kernel
theorem dX3_group_0 : decode cX3_group 0 = .ok (.iload_n 1, 1) := by decide +kernel
theorem dX3_group_1 : decode cX3_group 1 = .ok (.ifCond .lt 10, 3) := by decide +kernel
theorem dX3_group_4 : decode cX3_group 4 = .ok (.iload_n 1, 1) := by decide +kernel
theorem dX3_group_5 : decode cX3_group 5 = .ok (.sipush 200, 3) := by decide +kernel
theorem dX3_group_8 : decode cX3_group 8 = .ok (.if_icmp .le 13, 3) := by decide +kernel
theorem dX3_group_11 : decode cX3_group 11 = .ok (.new 55, 3) := by decide +kernel
theorem dX3_group_14 : decode cX3_group 14 = .ok (.dup, 1) := by decide +kernel
theorem dX3_group_15 : decode cX3_group 15 = .ok (.ldc 228, 2) := by decide +kernel
theorem dX3_group_17 : decode cX3_group 17 = .ok (.invokespecial 59, 3) := by decide +kernel
theorem dX3_group_20 : decode cX3_group 20 = .ok (.athrow, 1) := by decide +kernel
theorem dX3_group_21 : decode cX3_group 21 = .ok (.aload_n 0, 1) := by decide +kernel
theorem dX3_group_22 : decode cX3_group 22 = .ok (.iconst 0, 1) := by decide +kernel
theorem dX3_group_23 : decode cX3_group 23 = .ok (.putfield 230, 3) := by decide +kernel
theorem dX3_group_26 : decode cX3_group 26 = .ok (.iconst 0, 1) := by decide +kernel
theorem dX3_group_27 : decode cX3_group 27 = .ok (.istore_n 2, 1) := by decide +kernel
theorem dX3_group_28 : decode cX3_group 28 = .ok (.iload_n 2, 1) := by decide +kernel
theorem dX3_group_29 : decode cX3_group 29 = .ok (.aload_n 0, 1) := by decide +kernel
theorem dX3_group_30 : decode cX3_group 30 = .ok (.getfield 16, 3) := by decide +kernel
theorem dX3_group_33 : decode cX3_group 33 = .ok (.getfield 75, 3) := by decide +kernel
theorem dX3_group_36 : decode cX3_group 36 = .ok (.if_icmp .ge 81, 3) := by decide +kernel
theorem dX3_group_39 : decode cX3_group 39 = .ok (.aload_n 0, 1) := by decide +kernel
theorem dX3_group_40 : decode cX3_group 40 = .ok (.iload_n 2, 1) := by decide +kernel
theorem dX3_group_41 : decode cX3_group 41 = .ok (.iload_n 1, 1) := by decide +kernel
theorem dX3_group_42 : decode cX3_group 42 = .ok (.invokevirtual 233, 3) := by decide +kernel
theorem dX3_group_45 : decode cX3_group 45 = .ok (.istore_n 3, 1) := by decide +kernel
theorem dX3_group_46 : decode cX3_group 46 = .ok (.iload_n 3, 1) := by decide +kernel
theorem dX3_group_47 : decode cX3_group 47 = .ok (.iconst (-1), 1) := by decide +kernel
theorem dX3_group_48 : decode cX3_group 48 = .ok (.if_icmp .ne 27, 3) := by decide +kernel
theorem dX3_group_51 : decode cX3_group 51 = .ok (.aload_n 0, 1) := by decide +kernel
theorem dX3_group_52 : decode cX3_group 52 = .ok (.getfield 230, 3) := by decide +kernel
theorem dX3_group_55 : decode cX3_group 55 = .ok (.istore_n 3, 1) := by decide +kernel
theorem dX3_group_56 : decode cX3_group 56 = .ok (.aload_n 0, 1) := by decide +kernel
theorem dX3_group_57 : decode cX3_group 57 = .ok (.getfield 47, 3) := by decide +kernel
theorem dX3_group_60 : decode cX3_group 60 = .ok (.iload_n 3, 1) := by decide +kernel
theorem dX3_group_61 : decode cX3_group 61 = .ok (.aaload, 1) := by decide +kernel
theorem dX3_group_62 : decode cX3_group 62 = .ok (.invokevirtual 153, 3) := by decide +kernel
theorem dX3_group_65 : decode cX3_group 65 = .ok (.aload_n 0, 1) := by decide +kernel
theorem dX3_group_66 : decode cX3_group 66 = .ok (.dup, 1) := by decide +kernel
theorem dX3_group_67 : decode cX3_group 67 = .ok (.getfield 230, 3) := by decide +kernel
theorem dX3_group_70 : decode cX3_group 70 = .ok (.iconst 1, 1) := by decide +kernel
theorem dX3_group_71 : decode cX3_group 71 = .ok (.iadd, 1) := by decide +kernel
theorem dX3_group_72 : decode cX3_group 72 = .ok (.putfield 230, 3) := by decide +kernel
theorem dX3_group_75 : decode cX3_group 75 = .ok (.aload_n 0, 1) := by decide +kernel
theorem dX3_group_76 : decode cX3_group 76 = .ok (.getfield 25, 3) := by decide +kernel
theorem dX3_group_79 : decode cX3_group 79 = .ok (.aload_n 0, 1) := by decide +kernel
theorem dX3_group_80 : decode cX3_group 80 = .ok (.getfield 47, 3) := by decide +kernel
theorem dX3_group_83 : decode cX3_group 83 = .ok (.iload_n 3, 1) := by decide +kernel
theorem dX3_group_84 : decode cX3_group 84 = .ok (.aaload, 1) := by decide +kernel
theorem dX3_group_85 : decode cX3_group 85 = .ok (.iload_n 2, 1) := by decide +kernel
theorem dX3_group_86 : decode cX3_group 86 = .ok (.invokevirtual 133, 3) := by decide +kernel
theorem dX3_group_89 : decode cX3_group 89 = .ok (.pop, 1) := by decide +kernel
theorem dX3_group_90 : decode cX3_group 90 = .ok (.aload_n 0, 1) := by decide +kernel
theorem dX3_group_91 : decode cX3_group 91 = .ok (.getfield 25, 3) := by decide +kernel
theorem dX3_group_94 : decode cX3_group 94 = .ok (.aload_n 0, 1) := by decide +kernel
theorem dX3_group_95 : decode cX3_group 95 = .ok (.getfield 47, 3) := by decide +kernel
theorem dX3_group_98 : decode cX3_group 98 = .ok (.iload_n 3, 1) := by decide +kernel
theorem dX3_group_99 : decode cX3_group 99 = .ok (.aaload, 1) := by decide +kernel
theorem dX3_group_100 : decode cX3_group 100 = .ok (.iload_n 2, 1) := by decide +kernel
theorem dX3_group_101 : decode cX3_group 101 = .ok (.invokevirtual 143, 3) := by decide +kernel
theorem dX3_group_104 : decode cX3_group 104 = .ok (.aload_n 0, 1) := by decide +kernel
theorem dX3_group_105 : decode cX3_group 105 = .ok (.getfield 44, 3) := by decide +kernel
theorem dX3_group_108 : decode cX3_group 108 = .ok (.iload_n 2, 1) := by decide +kernel
theorem dX3_group_109 : decode cX3_group 109 = .ok (.iload_n 3, 1) := by decide +kernel
theorem dX3_group_110 : decode cX3_group 110 = .ok (.iastore, 1) := by decide +kernel
theorem dX3_group_111 : decode cX3_group 111 = .ok (.iinc 2 1, 3) := by decide +kernel
theorem dX3_group_114 : decode cX3_group 114 = .ok (.goto (-86), 3) := by decide +kernel
theorem dX3_group_117 : decode cX3_group 117 = .ok (.aload_n 0, 1) := by decide +kernel
theorem dX3_group_118 : decode cX3_group 118 = .ok (.iconst 1, 1) := by decide +kernel
theorem dX3_group_119 : decode cX3_group 119 = .ok (.putfield 84, 3) := by decide +kernel
theorem dX3_group_122 : decode cX3_group 122 = .ok (.aload_n 0, 1) := by decide +kernel
theorem dX3_group_123 : decode cX3_group 123 = .ok (.getfield 230, 3) := by decide +kernel
theorem dX3_group_126 : decode cX3_group 126 = .ok (.ireturn, 1) := by decide +kernel
theorem dX3_nearestGroup_0 : decode cX3_nearestGroup 0 = .ok (.iconst (-1), 1) := by decide +kernel
theorem dX3_nearestGroup_1 : decode cX3_nearestGroup 1 = .ok (.istore_n 3, 1) := by decide +kernel
theorem dX3_nearestGroup_2 : decode cX3_nearestGroup 2 = .ok (.iload_n 2, 1) := by decide +kernel
theorem dX3_nearestGroup_3 : decode cX3_nearestGroup 3 = .ok (.iconst 1, 1) := by decide +kernel
theorem dX3_nearestGroup_4 : decode cX3_nearestGroup 4 = .ok (.iadd, 1) := by decide +kernel
theorem dX3_nearestGroup_5 : decode cX3_nearestGroup 5 = .ok (.istore 4, 2) := by decide +kernel
theorem dX3_nearestGroup_7 : decode cX3_nearestGroup 7 = .ok (.iconst 0, 1) := by decide +kernel
theorem dX3_nearestGroup_8 : decode cX3_nearestGroup 8 = .ok (.istore 5, 2) := by decide +kernel
theorem dX3_nearestGroup_10 : decode cX3_nearestGroup 10 = .ok (.iload 5, 2) := by decide +kernel
theorem dX3_nearestGroup_12 : decode cX3_nearestGroup 12 = .ok (.aload_n 0, 1) := by decide +kernel
theorem dX3_nearestGroup_13 : decode cX3_nearestGroup 13 = .ok (.getfield 230, 3) := by decide +kernel
theorem dX3_nearestGroup_16 : decode cX3_nearestGroup 16 = .ok (.if_icmp .ge 57, 3) := by decide +kernel
theorem dX3_nearestGroup_19 : decode cX3_nearestGroup 19 = .ok (.aload_n 0, 1) := by decide +kernel
theorem dX3_nearestGroup_20 : decode cX3_nearestGroup 20 = .ok (.getfield 25, 3) := by decide +kernel
theorem dX3_nearestGroup_23 : decode cX3_nearestGroup 23 = .ok (.aload_n 0, 1) := by decide +kernel
theorem dX3_nearestGroup_24 : decode cX3_nearestGroup 24 = .ok (.getfield 47, 3) := by decide +kernel
theorem dX3_nearestGroup_27 : decode cX3_nearestGroup 27 = .ok (.iload 5, 2) := by decide +kernel
theorem dX3_nearestGroup_29 : decode cX3_nearestGroup 29 = .ok (.aaload, 1) := by decide +kernel
theorem dX3_nearestGroup_30 : decode cX3_nearestGroup 30 = .ok (.iload_n 1, 1) := by decide +kernel
theorem dX3_nearestGroup_31 : decode cX3_nearestGroup 31 = .ok (.invokevirtual 133, 3) := by decide +kernel
theorem dX3_nearestGroup_34 : decode cX3_nearestGroup 34 = .ok (.istore 6, 2) := by decide +kernel
theorem dX3_nearestGroup_36 : decode cX3_nearestGroup 36 = .ok (.iload 6, 2) := by decide +kernel
theorem dX3_nearestGroup_38 : decode cX3_nearestGroup 38 = .ok (.iload 4, 2) := by decide +kernel
theorem dX3_nearestGroup_40 : decode cX3_nearestGroup 40 = .ok (.if_icmp .ge 27, 3) := by decide +kernel
theorem dX3_nearestGroup_43 : decode cX3_nearestGroup 43 = .ok (.aload_n 0, 1) := by decide +kernel
theorem dX3_nearestGroup_44 : decode cX3_nearestGroup 44 = .ok (.getfield 25, 3) := by decide +kernel
theorem dX3_nearestGroup_47 : decode cX3_nearestGroup 47 = .ok (.aload_n 0, 1) := by decide +kernel
theorem dX3_nearestGroup_48 : decode cX3_nearestGroup 48 = .ok (.getfield 47, 3) := by decide +kernel
theorem dX3_nearestGroup_51 : decode cX3_nearestGroup 51 = .ok (.iload 5, 2) := by decide +kernel
theorem dX3_nearestGroup_53 : decode cX3_nearestGroup 53 = .ok (.aaload, 1) := by decide +kernel
theorem dX3_nearestGroup_54 : decode cX3_nearestGroup 54 = .ok (.invokevirtual 137, 3) := by decide +kernel
theorem dX3_nearestGroup_57 : decode cX3_nearestGroup 57 = .ok (.ifCond .eq 10, 3) := by decide +kernel
theorem dX3_nearestGroup_60 : decode cX3_nearestGroup 60 = .ok (.iload 6, 2) := by decide +kernel
theorem dX3_nearestGroup_62 : decode cX3_nearestGroup 62 = .ok (.istore 4, 2) := by decide +kernel
theorem dX3_nearestGroup_64 : decode cX3_nearestGroup 64 = .ok (.iload 5, 2) := by decide +kernel
theorem dX3_nearestGroup_66 : decode cX3_nearestGroup 66 = .ok (.istore_n 3, 1) := by decide +kernel
theorem dX3_nearestGroup_67 : decode cX3_nearestGroup 67 = .ok (.iinc 5 1, 3) := by decide +kernel
theorem dX3_nearestGroup_70 : decode cX3_nearestGroup 70 = .ok (.goto (-60), 3) := by decide +kernel
theorem dX3_nearestGroup_73 : decode cX3_nearestGroup 73 = .ok (.iload_n 3, 1) := by decide +kernel
theorem dX3_nearestGroup_74 : decode cX3_nearestGroup 74 = .ok (.ireturn, 1) := by decide +kernel
theorem dX3_groupOf_0 : decode cX3_groupOf 0 = .ok (.aload_n 0, 1) := by decide +kernel
theorem dX3_groupOf_1 : decode cX3_groupOf 1 = .ok (.invokevirtual 236, 3) := by decide +kernel
theorem dX3_groupOf_4 : decode cX3_groupOf 4 = .ok (.aload_n 0, 1) := by decide +kernel
theorem dX3_groupOf_5 : decode cX3_groupOf 5 = .ok (.iload_n 1, 1) := by decide +kernel
theorem dX3_groupOf_6 : decode cX3_groupOf 6 = .ok (.invokevirtual 88, 3) := by decide +kernel
theorem dX3_groupOf_9 : decode cX3_groupOf 9 = .ok (.aload_n 0, 1) := by decide +kernel
theorem dX3_groupOf_10 : decode cX3_groupOf 10 = .ok (.getfield 44, 3) := by decide +kernel
theorem dX3_groupOf_13 : decode cX3_groupOf 13 = .ok (.iload_n 1, 1) := by decide +kernel
theorem dX3_groupOf_14 : decode cX3_groupOf 14 = .ok (.iaload, 1) := by decide +kernel
theorem dX3_groupOf_15 : decode cX3_groupOf 15 = .ok (.ireturn, 1) := by decide +kernel
theorem dX3_groupSlots_0 : decode cX3_groupSlots 0 = .ok (.aload_n 0, 1) := by decide +kernel
theorem dX3_groupSlots_1 : decode cX3_groupSlots 1 = .ok (.invokevirtual 236, 3) := by decide +kernel
theorem dX3_groupSlots_4 : decode cX3_groupSlots 4 = .ok (.iload_n 1, 1) := by decide +kernel
theorem dX3_groupSlots_5 : decode cX3_groupSlots 5 = .ok (.ifCond .lt 11, 3) := by decide +kernel
theorem dX3_groupSlots_8 : decode cX3_groupSlots 8 = .ok (.iload_n 1, 1) := by decide +kernel
theorem dX3_groupSlots_9 : decode cX3_groupSlots 9 = .ok (.aload_n 0, 1) := by decide +kernel
theorem dX3_groupSlots_10 : decode cX3_groupSlots 10 = .ok (.getfield 230, 3) := by decide +kernel
theorem dX3_groupSlots_13 : decode cX3_groupSlots 13 = .ok (.if_icmp .lt 13, 3) := by decide +kernel
theorem dX3_groupSlots_16 : decode cX3_groupSlots 16 = .ok (.new 174, 3) := by decide +kernel
theorem dX3_groupSlots_19 : decode cX3_groupSlots 19 = .ok (.dup, 1) := by decide +kernel
theorem dX3_groupSlots_20 : decode cX3_groupSlots 20 = .ok (.ldc 239, 2) := by decide +kernel
theorem dX3_groupSlots_22 : decode cX3_groupSlots 22 = .ok (.invokespecial 178, 3) := by decide +kernel
theorem dX3_groupSlots_25 : decode cX3_groupSlots 25 = .ok (.athrow, 1) := by decide +kernel
theorem dX3_groupSlots_26 : decode cX3_groupSlots 26 = .ok (.aload_n 0, 1) := by decide +kernel
theorem dX3_groupSlots_27 : decode cX3_groupSlots 27 = .ok (.getfield 47, 3) := by decide +kernel
theorem dX3_groupSlots_30 : decode cX3_groupSlots 30 = .ok (.iload_n 1, 1) := by decide +kernel
theorem dX3_groupSlots_31 : decode cX3_groupSlots 31 = .ok (.aaload, 1) := by decide +kernel
theorem dX3_groupSlots_32 : decode cX3_groupSlots 32 = .ok (.getfield 163, 3) := by decide +kernel
theorem dX3_groupSlots_35 : decode cX3_groupSlots 35 = .ok (.ireturn, 1) := by decide +kernel
theorem dX3_digest_0 : decode cX3_digest 0 = .ok (.ldc2_w 241, 3) := by decide +kernel
theorem dX3_digest_3 : decode cX3_digest 3 = .ok (.aload_n 0, 1) := by decide +kernel
theorem dX3_digest_4 : decode cX3_digest 4 = .ok (.getfield 62, 3) := by decide +kernel
theorem dX3_digest_7 : decode cX3_digest 7 = .ok (.invokestatic 243, 3) := by decide +kernel
theorem dX3_digest_10 : decode cX3_digest 10 = .ok (.lstore_n 1, 1) := by decide +kernel
theorem dX3_digest_11 : decode cX3_digest 11 = .ok (.aload_n 0, 1) := by decide +kernel
theorem dX3_digest_12 : decode cX3_digest 12 = .ok (.lload_n 1, 1) := by decide +kernel
theorem dX3_digest_13 : decode cX3_digest 13 = .ok (.invokevirtual 247, 3) := by decide +kernel
theorem dX3_digest_16 : decode cX3_digest 16 = .ok (.lstore_n 1, 1) := by decide +kernel
theorem dX3_digest_17 : decode cX3_digest 17 = .ok (.lload_n 1, 1) := by decide +kernel
theorem dX3_digest_18 : decode cX3_digest 18 = .ok (.aload_n 0, 1) := by decide +kernel
theorem dX3_digest_19 : decode cX3_digest 19 = .ok (.getfield 25, 3) := by decide +kernel
theorem dX3_digest_22 : decode cX3_digest 22 = .ok (.getfield 251, 3) := by decide +kernel
theorem dX3_digest_25 : decode cX3_digest 25 = .ok (.invokestatic 243, 3) := by decide +kernel
theorem dX3_digest_28 : decode cX3_digest 28 = .ok (.aload_n 0, 1) := by decide +kernel
theorem dX3_digest_29 : decode cX3_digest 29 = .ok (.getfield 25, 3) := by decide +kernel
theorem dX3_digest_32 : decode cX3_digest 32 = .ok (.getfield 254, 3) := by decide +kernel
theorem dX3_digest_35 : decode cX3_digest 35 = .ok (.invokestatic 243, 3) := by decide +kernel
theorem dX3_digest_38 : decode cX3_digest 38 = .ok (.aload_n 0, 1) := by decide +kernel
theorem dX3_digest_39 : decode cX3_digest 39 = .ok (.getfield 25, 3) := by decide +kernel
theorem dX3_digest_42 : decode cX3_digest 42 = .ok (.getfield 257, 3) := by decide +kernel
theorem dX3_digest_45 : decode cX3_digest 45 = .ok (.invokestatic 243, 3) := by decide +kernel
theorem dX3_digest_48 : decode cX3_digest 48 = .ok (.lstore_n 1, 1) := by decide +kernel
theorem dX3_digest_49 : decode cX3_digest 49 = .ok (.aload_n 0, 1) := by decide +kernel
theorem dX3_digest_50 : decode cX3_digest 50 = .ok (.lload_n 1, 1) := by decide +kernel
theorem dX3_digest_51 : decode cX3_digest 51 = .ok (.invokevirtual 260, 3) := by decide +kernel
theorem dX3_digest_54 : decode cX3_digest 54 = .ok (.lstore_n 1, 1) := by decide +kernel
theorem dX3_digest_55 : decode cX3_digest 55 = .ok (.lload_n 1, 1) := by decide +kernel
theorem dX3_digest_56 : decode cX3_digest 56 = .ok (.aload_n 0, 1) := by decide +kernel
theorem dX3_digest_57 : decode cX3_digest 57 = .ok (.getfield 32, 3) := by decide +kernel
theorem dX3_digest_60 : decode cX3_digest 60 = .ok (.getfield 150, 3) := by decide +kernel
theorem dX3_digest_63 : decode cX3_digest 63 = .ok (.invokestatic 243, 3) := by decide +kernel
theorem dX3_digest_66 : decode cX3_digest 66 = .ok (.lstore_n 1, 1) := by decide +kernel
theorem dX3_digest_67 : decode cX3_digest 67 = .ok (.aload_n 0, 1) := by decide +kernel
theorem dX3_digest_68 : decode cX3_digest 68 = .ok (.getfield 84, 3) := by decide +kernel
theorem dX3_digest_71 : decode cX3_digest 71 = .ok (.ifCond .eq 33, 3) := by decide +kernel
theorem dX3_digest_74 : decode cX3_digest 74 = .ok (.iconst 0, 1) := by decide +kernel
theorem dX3_digest_75 : decode cX3_digest 75 = .ok (.istore_n 3, 1) := by decide +kernel
theorem dX3_digest_76 : decode cX3_digest 76 = .ok (.iload_n 3, 1) := by decide +kernel
theorem dX3_digest_77 : decode cX3_digest 77 = .ok (.aload_n 0, 1) := by decide +kernel
theorem dX3_digest_78 : decode cX3_digest 78 = .ok (.getfield 16, 3) := by decide +kernel
theorem dX3_digest_81 : decode cX3_digest 81 = .ok (.getfield 75, 3) := by decide +kernel
theorem dX3_digest_84 : decode cX3_digest 84 = .ok (.if_icmp .ge 20, 3) := by decide +kernel
theorem dX3_digest_87 : decode cX3_digest 87 = .ok (.lload_n 1, 1) := by decide +kernel
theorem dX3_digest_88 : decode cX3_digest 88 = .ok (.aload_n 0, 1) := by decide +kernel
theorem dX3_digest_89 : decode cX3_digest 89 = .ok (.getfield 44, 3) := by decide +kernel
theorem dX3_digest_92 : decode cX3_digest 92 = .ok (.iload_n 3, 1) := by decide +kernel
theorem dX3_digest_93 : decode cX3_digest 93 = .ok (.iaload, 1) := by decide +kernel
theorem dX3_digest_94 : decode cX3_digest 94 = .ok (.invokestatic 243, 3) := by decide +kernel
theorem dX3_digest_97 : decode cX3_digest 97 = .ok (.lstore_n 1, 1) := by decide +kernel
theorem dX3_digest_98 : decode cX3_digest 98 = .ok (.iinc 3 1, 3) := by decide +kernel
theorem dX3_digest_101 : decode cX3_digest 101 = .ok (.goto (-25), 3) := by decide +kernel
theorem dX3_digest_104 : decode cX3_digest 104 = .ok (.lload_n 1, 1) := by decide +kernel
theorem dX3_digest_105 : decode cX3_digest 105 = .ok (.lreturn, 1) := by decide +kernel
theorem dX3_mixed_0 : decode cX3_mixed 0 = .ok (.lload_n 0, 1) := by decide +kernel
theorem dX3_mixed_1 : decode cX3_mixed 1 = .ok (.ldc2_w 263, 3) := by decide +kernel
theorem dX3_mixed_4 : decode cX3_mixed 4 = .ok (.lmul, 1) := by decide +kernel
theorem dX3_mixed_5 : decode cX3_mixed 5 = .ok (.iload_n 2, 1) := by decide +kernel
theorem dX3_mixed_6 : decode cX3_mixed 6 = .ok (.i2l, 1) := by decide +kernel
theorem dX3_mixed_7 : decode cX3_mixed 7 = .ok (.ladd, 1) := by decide +kernel
theorem dX3_mixed_8 : decode cX3_mixed 8 = .ok (.lreturn, 1) := by decide +kernel
theorem dX3_addLines_0 : decode cX3_addLines 0 = .ok (.lload_n 1, 1) := by decide +kernel
theorem dX3_addLines_1 : decode cX3_addLines 1 = .ok (.aload_n 0, 1) := by decide +kernel
theorem dX3_addLines_2 : decode cX3_addLines 2 = .ok (.getfield 16, 3) := by decide +kernel
theorem dX3_addLines_5 : decode cX3_addLines 5 = .ok (.getfield 75, 3) := by decide +kernel
theorem dX3_addLines_8 : decode cX3_addLines 8 = .ok (.invokestatic 243, 3) := by decide +kernel
theorem dX3_addLines_11 : decode cX3_addLines 11 = .ok (.lstore_n 3, 1) := by decide +kernel
theorem dX3_addLines_12 : decode cX3_addLines 12 = .ok (.iconst 0, 1) := by decide +kernel
theorem dX3_addLines_13 : decode cX3_addLines 13 = .ok (.istore 5, 2) := by decide +kernel
theorem dX3_addLines_15 : decode cX3_addLines 15 = .ok (.iload 5, 2) := by decide +kernel
theorem dX3_addLines_17 : decode cX3_addLines 17 = .ok (.aload_n 0, 1) := by decide +kernel
theorem dX3_addLines_18 : decode cX3_addLines 18 = .ok (.getfield 16, 3) := by decide +kernel
theorem dX3_addLines_21 : decode cX3_addLines 21 = .ok (.getfield 75, 3) := by decide +kernel
theorem dX3_addLines_24 : decode cX3_addLines 24 = .ok (.if_icmp .ge 65, 3) := by decide +kernel
theorem dX3_addLines_27 : decode cX3_addLines 27 = .ok (.aload_n 0, 1) := by decide +kernel
theorem dX3_addLines_28 : decode cX3_addLines 28 = .ok (.getfield 16, 3) := by decide +kernel
theorem dX3_addLines_31 : decode cX3_addLines 31 = .ok (.getfield 221, 3) := by decide +kernel
theorem dX3_addLines_34 : decode cX3_addLines 34 = .ok (.iload 5, 2) := by decide +kernel
theorem dX3_addLines_36 : decode cX3_addLines 36 = .ok (.iaload, 1) := by decide +kernel
theorem dX3_addLines_37 : decode cX3_addLines 37 = .ok (.istore 6, 2) := by decide +kernel
theorem dX3_addLines_39 : decode cX3_addLines 39 = .ok (.lload_n 3, 1) := by decide +kernel
theorem dX3_addLines_40 : decode cX3_addLines 40 = .ok (.iload 6, 2) := by decide +kernel
theorem dX3_addLines_42 : decode cX3_addLines 42 = .ok (.invokestatic 243, 3) := by decide +kernel
theorem dX3_addLines_45 : decode cX3_addLines 45 = .ok (.lstore_n 3, 1) := by decide +kernel
theorem dX3_addLines_46 : decode cX3_addLines 46 = .ok (.iconst 0, 1) := by decide +kernel
theorem dX3_addLines_47 : decode cX3_addLines 47 = .ok (.istore 7, 2) := by decide +kernel
theorem dX3_addLines_49 : decode cX3_addLines 49 = .ok (.iload 7, 2) := by decide +kernel
theorem dX3_addLines_51 : decode cX3_addLines 51 = .ok (.iload 6, 2) := by decide +kernel
theorem dX3_addLines_53 : decode cX3_addLines 53 = .ok (.if_icmp .ge 30, 3) := by decide +kernel
theorem dX3_addLines_56 : decode cX3_addLines 56 = .ok (.lload_n 3, 1) := by decide +kernel
theorem dX3_addLines_57 : decode cX3_addLines 57 = .ok (.aload_n 0, 1) := by decide +kernel
theorem dX3_addLines_58 : decode cX3_addLines 58 = .ok (.getfield 16, 3) := by decide +kernel
theorem dX3_addLines_61 : decode cX3_addLines 61 = .ok (.getfield 179, 3) := by decide +kernel
theorem dX3_addLines_64 : decode cX3_addLines 64 = .ok (.iload 5, 2) := by decide +kernel
theorem dX3_addLines_66 : decode cX3_addLines 66 = .ok (.invokestatic 109, 3) := by decide +kernel
theorem dX3_addLines_69 : decode cX3_addLines 69 = .ok (.iload 7, 2) := by decide +kernel
theorem dX3_addLines_71 : decode cX3_addLines 71 = .ok (.iadd, 1) := by decide +kernel
theorem dX3_addLines_72 : decode cX3_addLines 72 = .ok (.baload, 1) := by decide +kernel
theorem dX3_addLines_73 : decode cX3_addLines 73 = .ok (.invokestatic 243, 3) := by decide +kernel
theorem dX3_addLines_76 : decode cX3_addLines 76 = .ok (.lstore_n 3, 1) := by decide +kernel
theorem dX3_addLines_77 : decode cX3_addLines 77 = .ok (.iinc 7 1, 3) := by decide +kernel
theorem dX3_addLines_80 : decode cX3_addLines 80 = .ok (.goto (-31), 3) := by decide +kernel
theorem dX3_addLines_83 : decode cX3_addLines 83 = .ok (.iinc 5 1, 3) := by decide +kernel
theorem dX3_addLines_86 : decode cX3_addLines 86 = .ok (.goto (-71), 3) := by decide +kernel
theorem dX3_addLines_89 : decode cX3_addLines 89 = .ok (.lload_n 3, 1) := by decide +kernel
theorem dX3_addLines_90 : decode cX3_addLines 90 = .ok (.lreturn, 1) := by decide +kernel
theorem dX3_addSlots_0 : decode cX3_addSlots 0 = .ok (.lload_n 1, 1) := by decide +kernel
theorem dX3_addSlots_1 : decode cX3_addSlots 1 = .ok (.aload_n 0, 1) := by decide +kernel
theorem dX3_addSlots_2 : decode cX3_addSlots 2 = .ok (.getfield 32, 3) := by decide +kernel
theorem dX3_addSlots_5 : decode cX3_addSlots 5 = .ok (.getfield 163, 3) := by decide +kernel
theorem dX3_addSlots_8 : decode cX3_addSlots 8 = .ok (.invokestatic 243, 3) := by decide +kernel
theorem dX3_addSlots_11 : decode cX3_addSlots 11 = .ok (.lstore_n 3, 1) := by decide +kernel
theorem dX3_addSlots_12 : decode cX3_addSlots 12 = .ok (.iconst 0, 1) := by decide +kernel
theorem dX3_addSlots_13 : decode cX3_addSlots 13 = .ok (.istore 5, 2) := by decide +kernel
theorem dX3_addSlots_15 : decode cX3_addSlots 15 = .ok (.iload 5, 2) := by decide +kernel
theorem dX3_addSlots_17 : decode cX3_addSlots 17 = .ok (.aload_n 0, 1) := by decide +kernel
theorem dX3_addSlots_18 : decode cX3_addSlots 18 = .ok (.getfield 32, 3) := by decide +kernel
theorem dX3_addSlots_21 : decode cX3_addSlots 21 = .ok (.getfield 163, 3) := by decide +kernel
theorem dX3_addSlots_24 : decode cX3_addSlots 24 = .ok (.if_icmp .ge 92, 3) := by decide +kernel
theorem dX3_addSlots_27 : decode cX3_addSlots 27 = .ok (.aload_n 0, 1) := by decide +kernel
theorem dX3_addSlots_28 : decode cX3_addSlots 28 = .ok (.getfield 32, 3) := by decide +kernel
theorem dX3_addSlots_31 : decode cX3_addSlots 31 = .ok (.getfield 206, 3) := by decide +kernel
theorem dX3_addSlots_34 : decode cX3_addSlots 34 = .ok (.iload 5, 2) := by decide +kernel
theorem dX3_addSlots_36 : decode cX3_addSlots 36 = .ok (.iaload, 1) := by decide +kernel
theorem dX3_addSlots_37 : decode cX3_addSlots 37 = .ok (.istore 6, 2) := by decide +kernel
theorem dX3_addSlots_39 : decode cX3_addSlots 39 = .ok (.lload_n 3, 1) := by decide +kernel
theorem dX3_addSlots_40 : decode cX3_addSlots 40 = .ok (.aload_n 0, 1) := by decide +kernel
theorem dX3_addSlots_41 : decode cX3_addSlots 41 = .ok (.getfield 32, 3) := by decide +kernel
theorem dX3_addSlots_44 : decode cX3_addSlots 44 = .ok (.getfield 166, 3) := by decide +kernel
theorem dX3_addSlots_47 : decode cX3_addSlots 47 = .ok (.iload 6, 2) := by decide +kernel
theorem dX3_addSlots_49 : decode cX3_addSlots 49 = .ok (.iaload, 1) := by decide +kernel
theorem dX3_addSlots_50 : decode cX3_addSlots 50 = .ok (.invokestatic 243, 3) := by decide +kernel
theorem dX3_addSlots_53 : decode cX3_addSlots 53 = .ok (.lstore_n 3, 1) := by decide +kernel
theorem dX3_addSlots_54 : decode cX3_addSlots 54 = .ok (.lload_n 3, 1) := by decide +kernel
theorem dX3_addSlots_55 : decode cX3_addSlots 55 = .ok (.aload_n 0, 1) := by decide +kernel
theorem dX3_addSlots_56 : decode cX3_addSlots 56 = .ok (.getfield 32, 3) := by decide +kernel
theorem dX3_addSlots_59 : decode cX3_addSlots 59 = .ok (.getfield 185, 3) := by decide +kernel
theorem dX3_addSlots_62 : decode cX3_addSlots 62 = .ok (.iload 6, 2) := by decide +kernel
theorem dX3_addSlots_64 : decode cX3_addSlots 64 = .ok (.iaload, 1) := by decide +kernel
theorem dX3_addSlots_65 : decode cX3_addSlots 65 = .ok (.invokestatic 243, 3) := by decide +kernel
theorem dX3_addSlots_68 : decode cX3_addSlots 68 = .ok (.lstore_n 3, 1) := by decide +kernel
theorem dX3_addSlots_69 : decode cX3_addSlots 69 = .ok (.lload_n 3, 1) := by decide +kernel
theorem dX3_addSlots_70 : decode cX3_addSlots 70 = .ok (.aload_n 0, 1) := by decide +kernel
theorem dX3_addSlots_71 : decode cX3_addSlots 71 = .ok (.getfield 32, 3) := by decide +kernel
theorem dX3_addSlots_74 : decode cX3_addSlots 74 = .ok (.getfield 182, 3) := by decide +kernel
theorem dX3_addSlots_77 : decode cX3_addSlots 77 = .ok (.iload 6, 2) := by decide +kernel
theorem dX3_addSlots_79 : decode cX3_addSlots 79 = .ok (.iaload, 1) := by decide +kernel
theorem dX3_addSlots_80 : decode cX3_addSlots 80 = .ok (.invokestatic 243, 3) := by decide +kernel
theorem dX3_addSlots_83 : decode cX3_addSlots 83 = .ok (.lstore_n 3, 1) := by decide +kernel
theorem dX3_addSlots_84 : decode cX3_addSlots 84 = .ok (.lload_n 3, 1) := by decide +kernel
theorem dX3_addSlots_85 : decode cX3_addSlots 85 = .ok (.aload_n 0, 1) := by decide +kernel
theorem dX3_addSlots_86 : decode cX3_addSlots 86 = .ok (.getfield 32, 3) := by decide +kernel
theorem dX3_addSlots_89 : decode cX3_addSlots 89 = .ok (.getfield 188, 3) := by decide +kernel
theorem dX3_addSlots_92 : decode cX3_addSlots 92 = .ok (.iload 6, 2) := by decide +kernel
theorem dX3_addSlots_94 : decode cX3_addSlots 94 = .ok (.iaload, 1) := by decide +kernel
theorem dX3_addSlots_95 : decode cX3_addSlots 95 = .ok (.invokestatic 243, 3) := by decide +kernel
theorem dX3_addSlots_98 : decode cX3_addSlots 98 = .ok (.lstore_n 3, 1) := by decide +kernel
theorem dX3_addSlots_99 : decode cX3_addSlots 99 = .ok (.lload_n 3, 1) := by decide +kernel
theorem dX3_addSlots_100 : decode cX3_addSlots 100 = .ok (.aload_n 0, 1) := by decide +kernel
theorem dX3_addSlots_101 : decode cX3_addSlots 101 = .ok (.iload 6, 2) := by decide +kernel
theorem dX3_addSlots_103 : decode cX3_addSlots 103 = .ok (.invokevirtual 209, 3) := by decide +kernel
theorem dX3_addSlots_106 : decode cX3_addSlots 106 = .ok (.invokestatic 243, 3) := by decide +kernel
theorem dX3_addSlots_109 : decode cX3_addSlots 109 = .ok (.lstore_n 3, 1) := by decide +kernel
theorem dX3_addSlots_110 : decode cX3_addSlots 110 = .ok (.iinc 5 1, 3) := by decide +kernel
theorem dX3_addSlots_113 : decode cX3_addSlots 113 = .ok (.goto (-98), 3) := by decide +kernel
theorem dX3_addSlots_116 : decode cX3_addSlots 116 = .ok (.lload_n 3, 1) := by decide +kernel
theorem dX3_addSlots_117 : decode cX3_addSlots 117 = .ok (.lreturn, 1) := by decide +kernel
theorem dX3_needLine_0 : decode cX3_needLine 0 = .ok (.iload_n 1, 1) := by decide +kernel
theorem dX3_needLine_1 : decode cX3_needLine 1 = .ok (.ifCond .lt 14, 3) := by decide +kernel
theorem dX3_needLine_4 : decode cX3_needLine 4 = .ok (.iload_n 1, 1) := by decide +kernel
theorem dX3_needLine_5 : decode cX3_needLine 5 = .ok (.aload_n 0, 1) := by decide +kernel
theorem dX3_needLine_6 : decode cX3_needLine 6 = .ok (.getfield 16, 3) := by decide +kernel
theorem dX3_needLine_9 : decode cX3_needLine 9 = .ok (.getfield 75, 3) := by decide +kernel
theorem dX3_needLine_12 : decode cX3_needLine 12 = .ok (.if_icmp .lt 14, 3) := by decide +kernel
theorem dX3_needLine_15 : decode cX3_needLine 15 = .ok (.new 174, 3) := by decide +kernel
theorem dX3_needLine_18 : decode cX3_needLine 18 = .ok (.dup, 1) := by decide +kernel
theorem dX3_needLine_19 : decode cX3_needLine 19 = .ok (.ldc_w 265, 3) := by decide +kernel
theorem dX3_needLine_22 : decode cX3_needLine 22 = .ok (.invokespecial 178, 3) := by decide +kernel
theorem dX3_needLine_25 : decode cX3_needLine 25 = .ok (.athrow, 1) := by decide +kernel
theorem dX3_needLine_26 : decode cX3_needLine 26 = .ok (.return_, 1) := by decide +kernel
theorem dX3_needToken_0 : decode cX3_needToken 0 = .ok (.aload_n 0, 1) := by decide +kernel
theorem dX3_needToken_1 : decode cX3_needToken 1 = .ok (.iload_n 1, 1) := by decide +kernel
theorem dX3_needToken_2 : decode cX3_needToken 2 = .ok (.invokevirtual 88, 3) := by decide +kernel
theorem dX3_needToken_5 : decode cX3_needToken 5 = .ok (.iload_n 2, 1) := by decide +kernel
theorem dX3_needToken_6 : decode cX3_needToken 6 = .ok (.ifCond .lt 16, 3) := by decide +kernel
theorem dX3_needToken_9 : decode cX3_needToken 9 = .ok (.iload_n 2, 1) := by decide +kernel
theorem dX3_needToken_10 : decode cX3_needToken 10 = .ok (.aload_n 0, 1) := by decide +kernel
theorem dX3_needToken_11 : decode cX3_needToken 11 = .ok (.getfield 16, 3) := by decide +kernel
theorem dX3_needToken_14 : decode cX3_needToken 14 = .ok (.getfield 92, 3) := by decide +kernel
theorem dX3_needToken_17 : decode cX3_needToken 17 = .ok (.iload_n 1, 1) := by decide +kernel
theorem dX3_needToken_18 : decode cX3_needToken 18 = .ok (.iaload, 1) := by decide +kernel
theorem dX3_needToken_19 : decode cX3_needToken 19 = .ok (.if_icmp .lt 14, 3) := by decide +kernel
theorem dX3_needToken_22 : decode cX3_needToken 22 = .ok (.new 174, 3) := by decide +kernel
theorem dX3_needToken_25 : decode cX3_needToken 25 = .ok (.dup, 1) := by decide +kernel
theorem dX3_needToken_26 : decode cX3_needToken 26 = .ok (.ldc_w 267, 3) := by decide +kernel
theorem dX3_needToken_29 : decode cX3_needToken 29 = .ok (.invokespecial 178, 3) := by decide +kernel
theorem dX3_needToken_32 : decode cX3_needToken 32 = .ok (.athrow, 1) := by decide +kernel
theorem dX3_needToken_33 : decode cX3_needToken 33 = .ok (.return_, 1) := by decide +kernel
theorem dX3_neededSlot_0 : decode cX3_neededSlot 0 = .ok (.iload_n 1, 1) := by decide +kernel
theorem dX3_neededSlot_1 : decode cX3_neededSlot 1 = .ok (.ifCond .lt 14, 3) := by decide +kernel
theorem dX3_neededSlot_4 : decode cX3_neededSlot 4 = .ok (.iload_n 1, 1) := by decide +kernel
theorem dX3_neededSlot_5 : decode cX3_neededSlot 5 = .ok (.aload_n 0, 1) := by decide +kernel
theorem dX3_neededSlot_6 : decode cX3_neededSlot 6 = .ok (.getfield 32, 3) := by decide +kernel
theorem dX3_neededSlot_9 : decode cX3_neededSlot 9 = .ok (.getfield 163, 3) := by decide +kernel
theorem dX3_neededSlot_12 : decode cX3_neededSlot 12 = .ok (.if_icmp .lt 14, 3) := by decide +kernel
theorem dX3_neededSlot_15 : decode cX3_neededSlot 15 = .ok (.new 174, 3) := by decide +kernel
theorem dX3_neededSlot_18 : decode cX3_neededSlot 18 = .ok (.dup, 1) := by decide +kernel
theorem dX3_neededSlot_19 : decode cX3_neededSlot 19 = .ok (.ldc_w 269, 3) := by decide +kernel
theorem dX3_neededSlot_22 : decode cX3_neededSlot 22 = .ok (.invokespecial 178, 3) := by decide +kernel
theorem dX3_neededSlot_25 : decode cX3_neededSlot 25 = .ok (.athrow, 1) := by decide +kernel
theorem dX3_neededSlot_26 : decode cX3_neededSlot 26 = .ok (.aload_n 0, 1) := by decide +kernel
theorem dX3_neededSlot_27 : decode cX3_neededSlot 27 = .ok (.getfield 32, 3) := by decide +kernel
theorem dX3_neededSlot_30 : decode cX3_neededSlot 30 = .ok (.getfield 206, 3) := by decide +kernel
theorem dX3_neededSlot_33 : decode cX3_neededSlot 33 = .ok (.iload_n 1, 1) := by decide +kernel
theorem dX3_neededSlot_34 : decode cX3_neededSlot 34 = .ok (.iaload, 1) := by decide +kernel
theorem dX3_neededSlot_35 : decode cX3_neededSlot 35 = .ok (.ireturn, 1) := by decide +kernel
theorem dX3_needGrouping_0 : decode cX3_needGrouping 0 = .ok (.aload_n 0, 1) := by decide +kernel
theorem dX3_needGrouping_1 : decode cX3_needGrouping 1 = .ok (.getfield 84, 3) := by decide +kernel
theorem dX3_needGrouping_4 : decode cX3_needGrouping 4 = .ok (.ifCond .ne 14, 3) := by decide +kernel
theorem dX3_needGrouping_7 : decode cX3_needGrouping 7 = .ok (.new 66, 3) := by decide +kernel
theorem dX3_needGrouping_10 : decode cX3_needGrouping 10 = .ok (.dup, 1) := by decide +kernel
theorem dX3_needGrouping_11 : decode cX3_needGrouping 11 = .ok (.ldc_w 271, 3) := by decide +kernel
theorem dX3_needGrouping_14 : decode cX3_needGrouping 14 = .ok (.invokespecial 70, 3) := by decide +kernel
theorem dX3_needGrouping_17 : decode cX3_needGrouping 17 = .ok (.athrow, 1) := by decide +kernel
theorem dX3_needGrouping_18 : decode cX3_needGrouping 18 = .ok (.return_, 1) := by decide +kernel
theorem dX3_textSize_0 : decode cX3_textSize 0 = .ok (.aload_n 0, 1) := by decide +kernel
theorem dX3_textSize_1 : decode cX3_textSize 1 = .ok (.getfield 32, 3) := by decide +kernel
theorem dX3_textSize_4 : decode cX3_textSize 4 = .ok (.getfield 170, 3) := by decide +kernel
theorem dX3_textSize_7 : decode cX3_textSize 7 = .ok (.iload_n 1, 1) := by decide +kernel
theorem dX3_textSize_8 : decode cX3_textSize 8 = .ok (.iaload, 1) := by decide +kernel
theorem dX3_textSize_9 : decode cX3_textSize 9 = .ok (.istore_n 2, 1) := by decide +kernel
theorem dX3_textSize_10 : decode cX3_textSize 10 = .ok (.iload_n 2, 1) := by decide +kernel
theorem dX3_textSize_11 : decode cX3_textSize 11 = .ok (.iconst (-1), 1) := by decide +kernel
theorem dX3_textSize_12 : decode cX3_textSize 12 = .ok (.if_icmp .ne 7, 3) := by decide +kernel
theorem dX3_textSize_15 : decode cX3_textSize 15 = .ok (.iconst (-1), 1) := by decide +kernel
theorem dX3_textSize_16 : decode cX3_textSize 16 = .ok (.goto 12, 3) := by decide +kernel
theorem dX3_textSize_19 : decode cX3_textSize 19 = .ok (.aload_n 0, 1) := by decide +kernel
theorem dX3_textSize_20 : decode cX3_textSize 20 = .ok (.getfield 16, 3) := by decide +kernel
theorem dX3_textSize_23 : decode cX3_textSize 23 = .ok (.getfield 171, 3) := by decide +kernel
theorem dX3_textSize_26 : decode cX3_textSize 26 = .ok (.iload_n 2, 1) := by decide +kernel
theorem dX3_textSize_27 : decode cX3_textSize 27 = .ok (.iaload, 1) := by decide +kernel
theorem dX3_textSize_28 : decode cX3_textSize 28 = .ok (.ireturn, 1) := by decide +kernel
theorem dX3_tokenIn_0 : decode cX3_tokenIn 0 = .ok (.aload_n 0, 1) := by decide +kernel
theorem dX3_tokenIn_1 : decode cX3_tokenIn 1 = .ok (.getfield 36, 3) := by decide +kernel
theorem dX3_tokenIn_4 : decode cX3_tokenIn 4 = .ok (.iload_n 1, 1) := by decide +kernel
theorem dX3_tokenIn_5 : decode cX3_tokenIn 5 = .ok (.baload, 1) := by decide +kernel
theorem dX3_tokenIn_6 : decode cX3_tokenIn 6 = .ok (.ifCond .ne 5, 3) := by decide +kernel
theorem dX3_tokenIn_9 : decode cX3_tokenIn 9 = .ok (.iconst (-1), 1) := by decide +kernel
theorem dX3_tokenIn_10 : decode cX3_tokenIn 10 = .ok (.ireturn, 1) := by decide +kernel
theorem dX3_tokenIn_11 : decode cX3_tokenIn 11 = .ok (.aload_n 0, 1) := by decide +kernel
theorem dX3_tokenIn_12 : decode cX3_tokenIn 12 = .ok (.getfield 16, 3) := by decide +kernel
theorem dX3_tokenIn_15 : decode cX3_tokenIn 15 = .ok (.getfield 92, 3) := by decide +kernel
theorem dX3_tokenIn_18 : decode cX3_tokenIn 18 = .ok (.iload_n 1, 1) := by decide +kernel
theorem dX3_tokenIn_19 : decode cX3_tokenIn 19 = .ok (.iaload, 1) := by decide +kernel
theorem dX3_tokenIn_20 : decode cX3_tokenIn 20 = .ok (.istore_n 3, 1) := by decide +kernel
theorem dX3_tokenIn_21 : decode cX3_tokenIn 21 = .ok (.iconst 0, 1) := by decide +kernel
theorem dX3_tokenIn_22 : decode cX3_tokenIn 22 = .ok (.istore 4, 2) := by decide +kernel
theorem dX3_tokenIn_24 : decode cX3_tokenIn 24 = .ok (.iload 4, 2) := by decide +kernel
theorem dX3_tokenIn_26 : decode cX3_tokenIn 26 = .ok (.iload_n 3, 1) := by decide +kernel
theorem dX3_tokenIn_27 : decode cX3_tokenIn 27 = .ok (.if_icmp .ge 27, 3) := by decide +kernel
theorem dX3_tokenIn_30 : decode cX3_tokenIn 30 = .ok (.aload_n 0, 1) := by decide +kernel
theorem dX3_tokenIn_31 : decode cX3_tokenIn 31 = .ok (.getfield 40, 3) := by decide +kernel
theorem dX3_tokenIn_34 : decode cX3_tokenIn 34 = .ok (.iload_n 1, 1) := by decide +kernel
theorem dX3_tokenIn_35 : decode cX3_tokenIn 35 = .ok (.iload 4, 2) := by decide +kernel
theorem dX3_tokenIn_37 : decode cX3_tokenIn 37 = .ok (.invokestatic 102, 3) := by decide +kernel
theorem dX3_tokenIn_40 : decode cX3_tokenIn 40 = .ok (.iaload, 1) := by decide +kernel
theorem dX3_tokenIn_41 : decode cX3_tokenIn 41 = .ok (.iload_n 2, 1) := by decide +kernel
theorem dX3_tokenIn_42 : decode cX3_tokenIn 42 = .ok (.if_icmp .ne 6, 3) := by decide +kernel
theorem dX3_tokenIn_45 : decode cX3_tokenIn 45 = .ok (.iload 4, 2) := by decide +kernel
theorem dX3_tokenIn_47 : decode cX3_tokenIn 47 = .ok (.ireturn, 1) := by decide +kernel
theorem dX3_tokenIn_48 : decode cX3_tokenIn 48 = .ok (.iinc 4 1, 3) := by decide +kernel
theorem dX3_tokenIn_51 : decode cX3_tokenIn 51 = .ok (.goto (-27), 3) := by decide +kernel
theorem dX3_tokenIn_54 : decode cX3_tokenIn 54 = .ok (.iconst (-1), 1) := by decide +kernel
theorem dX3_tokenIn_55 : decode cX3_tokenIn 55 = .ok (.ireturn, 1) := by decide +kernel
theorem dX3_textIn_0 : decode cX3_textIn 0 = .ok (.aload_n 0, 1) := by decide +kernel
theorem dX3_textIn_1 : decode cX3_textIn 1 = .ok (.iload_n 1, 1) := by decide +kernel
theorem dX3_textIn_2 : decode cX3_textIn 2 = .ok (.iload_n 2, 1) := by decide +kernel
theorem dX3_textIn_3 : decode cX3_textIn 3 = .ok (.invokevirtual 194, 3) := by decide +kernel
theorem dX3_textIn_6 : decode cX3_textIn 6 = .ok (.istore_n 3, 1) := by decide +kernel
theorem dX3_textIn_7 : decode cX3_textIn 7 = .ok (.iload_n 3, 1) := by decide +kernel
theorem dX3_textIn_8 : decode cX3_textIn 8 = .ok (.iconst (-1), 1) := by decide +kernel
theorem dX3_textIn_9 : decode cX3_textIn 9 = .ok (.if_icmp .ne 7, 3) := by decide +kernel
theorem dX3_textIn_12 : decode cX3_textIn 12 = .ok (.iconst (-1), 1) := by decide +kernel
theorem dX3_textIn_13 : decode cX3_textIn 13 = .ok (.goto 16, 3) := by decide +kernel
theorem dX3_textIn_16 : decode cX3_textIn 16 = .ok (.aload_n 0, 1) := by decide +kernel
theorem dX3_textIn_17 : decode cX3_textIn 17 = .ok (.getfield 16, 3) := by decide +kernel
theorem dX3_textIn_20 : decode cX3_textIn 20 = .ok (.getfield 118, 3) := by decide +kernel
theorem dX3_textIn_23 : decode cX3_textIn 23 = .ok (.iload_n 1, 1) := by decide +kernel
theorem dX3_textIn_24 : decode cX3_textIn 24 = .ok (.iload_n 3, 1) := by decide +kernel
theorem dX3_textIn_25 : decode cX3_textIn 25 = .ok (.invokestatic 102, 3) := by decide +kernel
theorem dX3_textIn_28 : decode cX3_textIn 28 = .ok (.iaload, 1) := by decide +kernel
theorem dX3_textIn_29 : decode cX3_textIn 29 = .ok (.ireturn, 1) := by decide +kernel
theorem dX3_numberIn_0 : decode cX3_numberIn 0 = .ok (.aload_n 0, 1) := by decide +kernel
theorem dX3_numberIn_1 : decode cX3_numberIn 1 = .ok (.iload_n 1, 1) := by decide +kernel
theorem dX3_numberIn_2 : decode cX3_numberIn 2 = .ok (.iload_n 2, 1) := by decide +kernel
theorem dX3_numberIn_3 : decode cX3_numberIn 3 = .ok (.invokevirtual 194, 3) := by decide +kernel
theorem dX3_numberIn_6 : decode cX3_numberIn 6 = .ok (.istore_n 3, 1) := by decide +kernel
theorem dX3_numberIn_7 : decode cX3_numberIn 7 = .ok (.iload_n 3, 1) := by decide +kernel
theorem dX3_numberIn_8 : decode cX3_numberIn 8 = .ok (.iconst (-1), 1) := by decide +kernel
theorem dX3_numberIn_9 : decode cX3_numberIn 9 = .ok (.if_icmp .eq 16, 3) := by decide +kernel
theorem dX3_numberIn_12 : decode cX3_numberIn 12 = .ok (.aload_n 0, 1) := by decide +kernel
theorem dX3_numberIn_13 : decode cX3_numberIn 13 = .ok (.getfield 32, 3) := by decide +kernel
theorem dX3_numberIn_16 : decode cX3_numberIn 16 = .ok (.getfield 166, 3) := by decide +kernel
theorem dX3_numberIn_19 : decode cX3_numberIn 19 = .ok (.iload_n 2, 1) := by decide +kernel
theorem dX3_numberIn_20 : decode cX3_numberIn 20 = .ok (.iaload, 1) := by decide +kernel
theorem dX3_numberIn_21 : decode cX3_numberIn 21 = .ok (.iconst 1, 1) := by decide +kernel
theorem dX3_numberIn_22 : decode cX3_numberIn 22 = .ok (.if_icmp .eq 5, 3) := by decide +kernel
theorem dX3_numberIn_25 : decode cX3_numberIn 25 = .ok (.iconst (-1), 1) := by decide +kernel
theorem dX3_numberIn_26 : decode cX3_numberIn 26 = .ok (.ireturn, 1) := by decide +kernel
theorem dX3_numberIn_27 : decode cX3_numberIn 27 = .ok (.aload_n 0, 1) := by decide +kernel
theorem dX3_numberIn_28 : decode cX3_numberIn 28 = .ok (.getfield 16, 3) := by decide +kernel
theorem dX3_numberIn_31 : decode cX3_numberIn 31 = .ok (.iload_n 1, 1) := by decide +kernel
theorem dX3_numberIn_32 : decode cX3_numberIn 32 = .ok (.iload_n 3, 1) := by decide +kernel
theorem dX3_numberIn_33 : decode cX3_numberIn 33 = .ok (.invokestatic 102, 3) := by decide +kernel
theorem dX3_numberIn_36 : decode cX3_numberIn 36 = .ok (.invokevirtual 273, 3) := by decide +kernel
theorem dX3_numberIn_39 : decode cX3_numberIn 39 = .ok (.ireturn, 1) := by decide +kernel
theorem dX3_firstByteOf_0 : decode cX3_firstByteOf 0 = .ok (.iload_n 0, 1) := by decide +kernel
theorem dX3_firstByteOf_1 : decode cX3_firstByteOf 1 = .ok (.bipush 30, 2) := by decide +kernel
theorem dX3_firstByteOf_3 : decode cX3_firstByteOf 3 = .ok (.imul, 1) := by decide +kernel
theorem dX3_firstByteOf_4 : decode cX3_firstByteOf 4 = .ok (.ireturn, 1) := by decide +kernel
theorem dX3_placeOf_0 : decode cX3_placeOf 0 = .ok (.iload_n 0, 1) := by decide +kernel
theorem dX3_placeOf_1 : decode cX3_placeOf 1 = .ok (.bipush 30, 2) := by decide +kernel
theorem dX3_placeOf_3 : decode cX3_placeOf 3 = .ok (.imul, 1) := by decide +kernel
theorem dX3_placeOf_4 : decode cX3_placeOf 4 = .ok (.iload_n 1, 1) := by decide +kernel
theorem dX3_placeOf_5 : decode cX3_placeOf 5 = .ok (.iadd, 1) := by decide +kernel
theorem dX3_placeOf_6 : decode cX3_placeOf 6 = .ok (.ireturn, 1) := by decide +kernel
end
section
theorem dX4_init_0 : decode cX4_init 0 = .ok (.aload_n 0, 1) := by decide +kernel
theorem dX4_init_1 : decode cX4_init 1 = .ok (.invokespecial 1, 3) := by decide +kernel
theorem dX4_init_4 : decode cX4_init 4 = .ok (.aload_n 0, 1) := by decide +kernel
theorem dX4_init_5 : decode cX4_init 5 = .ok (.bipush 30, 2) := by decide +kernel
theorem dX4_init_7 : decode cX4_init 7 = .ok (.newarray .int, 2) := by decide +kernel
theorem dX4_init_9 : decode cX4_init 9 = .ok (.putfield 9, 3) := by decide +kernel
theorem dX4_init_12 : decode cX4_init 12 = .ok (.aload_n 0, 1) := by decide +kernel
theorem dX4_init_13 : decode cX4_init 13 = .ok (.bipush 12, 2) := by decide +kernel
theorem dX4_init_15 : decode cX4_init 15 = .ok (.newarray .int, 2) := by decide +kernel
theorem dX4_init_17 : decode cX4_init 17 = .ok (.putfield 13, 3) := by decide +kernel
theorem dX4_init_20 : decode cX4_init 20 = .ok (.aload_n 0, 1) := by decide +kernel
theorem dX4_init_21 : decode cX4_init 21 = .ok (.sipush 360, 3) := by decide +kernel
theorem dX4_init_24 : decode cX4_init 24 = .ok (.newarray .int, 2) := by decide +kernel
theorem dX4_init_26 : decode cX4_init 26 = .ok (.putfield 16, 3) := by decide +kernel
theorem dX4_init_29 : decode cX4_init 29 = .ok (.aload_n 0, 1) := by decide +kernel
theorem dX4_init_30 : decode cX4_init 30 = .ok (.bipush 12, 2) := by decide +kernel
theorem dX4_init_32 : decode cX4_init 32 = .ok (.newarray .int, 2) := by decide +kernel
theorem dX4_init_34 : decode cX4_init 34 = .ok (.putfield 19, 3) := by decide +kernel
theorem dX4_init_37 : decode cX4_init 37 = .ok (.aload_n 0, 1) := by decide +kernel
theorem dX4_init_38 : decode cX4_init 38 = .ok (.sipush 360, 3) := by decide +kernel
theorem dX4_init_41 : decode cX4_init 41 = .ok (.newarray .int, 2) := by decide +kernel
theorem dX4_init_43 : decode cX4_init 43 = .ok (.putfield 22, 3) := by decide +kernel
theorem dX4_init_46 : decode cX4_init 46 = .ok (.aload_n 0, 1) := by decide +kernel
theorem dX4_init_47 : decode cX4_init 47 = .ok (.sipush 360, 3) := by decide +kernel
theorem dX4_init_50 : decode cX4_init 50 = .ok (.newarray .int, 2) := by decide +kernel
theorem dX4_init_52 : decode cX4_init 52 = .ok (.putfield 25, 3) := by decide +kernel
theorem dX4_init_55 : decode cX4_init 55 = .ok (.aload_n 0, 1) := by decide +kernel
theorem dX4_init_56 : decode cX4_init 56 = .ok (.sipush 360, 3) := by decide +kernel
theorem dX4_init_59 : decode cX4_init 59 = .ok (.newarray .int, 2) := by decide +kernel
theorem dX4_init_61 : decode cX4_init 61 = .ok (.putfield 28, 3) := by decide +kernel
theorem dX4_init_64 : decode cX4_init 64 = .ok (.aload_n 0, 1) := by decide +kernel
theorem dX4_init_65 : decode cX4_init 65 = .ok (.iconst 2, 1) := by decide +kernel
theorem dX4_init_66 : decode cX4_init 66 = .ok (.putfield 31, 3) := by decide +kernel
theorem dX4_init_69 : decode cX4_init 69 = .ok (.aload_n 0, 1) := by decide +kernel
theorem dX4_init_70 : decode cX4_init 70 = .ok (.iconst 3, 1) := by decide +kernel
theorem dX4_init_71 : decode cX4_init 71 = .ok (.putfield 35, 3) := by decide +kernel
theorem dX4_init_74 : decode cX4_init 74 = .ok (.aload_n 0, 1) := by decide +kernel
theorem dX4_init_75 : decode cX4_init 75 = .ok (.iconst 4, 1) := by decide +kernel
theorem dX4_init_76 : decode cX4_init 76 = .ok (.putfield 38, 3) := by decide +kernel
theorem dX4_init_79 : decode cX4_init 79 = .ok (.aload_n 0, 1) := by decide +kernel
theorem dX4_init_80 : decode cX4_init 80 = .ok (.bipush 13, 2) := by decide +kernel
theorem dX4_init_82 : decode cX4_init 82 = .ok (.newarray .int, 2) := by decide +kernel
theorem dX4_init_84 : decode cX4_init 84 = .ok (.putfield 41, 3) := by decide +kernel
theorem dX4_init_87 : decode cX4_init 87 = .ok (.aload_n 0, 1) := by decide +kernel
theorem dX4_init_88 : decode cX4_init 88 = .ok (.bipush 13, 2) := by decide +kernel
theorem dX4_init_90 : decode cX4_init 90 = .ok (.newarray .int, 2) := by decide +kernel
theorem dX4_init_92 : decode cX4_init 92 = .ok (.putfield 44, 3) := by decide +kernel
theorem dX4_init_95 : decode cX4_init 95 = .ok (.aload_n 0, 1) := by decide +kernel
theorem dX4_init_96 : decode cX4_init 96 = .ok (.sipush 520, 3) := by decide +kernel
theorem dX4_init_99 : decode cX4_init 99 = .ok (.newarray .int, 2) := by decide +kernel
theorem dX4_init_101 : decode cX4_init 101 = .ok (.putfield 47, 3) := by decide +kernel
theorem dX4_init_104 : decode cX4_init 104 = .ok (.aload_n 0, 1) := by decide +kernel
theorem dX4_init_105 : decode cX4_init 105 = .ok (.sipush 520, 3) := by decide +kernel
theorem dX4_init_108 : decode cX4_init 108 = .ok (.newarray .int, 2) := by decide +kernel
theorem dX4_init_110 : decode cX4_init 110 = .ok (.putfield 50, 3) := by decide +kernel
theorem dX4_init_113 : decode cX4_init 113 = .ok (.aload_n 0, 1) := by decide +kernel
theorem dX4_init_114 : decode cX4_init 114 = .ok (.sipush 6240, 3) := by decide +kernel
theorem dX4_init_117 : decode cX4_init 117 = .ok (.newarray .int, 2) := by decide +kernel
theorem dX4_init_119 : decode cX4_init 119 = .ok (.putfield 53, 3) := by decide +kernel
theorem dX4_init_122 : decode cX4_init 122 = .ok (.aload_n 0, 1) := by decide +kernel
theorem dX4_init_123 : decode cX4_init 123 = .ok (.bipush 12, 2) := by decide +kernel
theorem dX4_init_125 : decode cX4_init 125 = .ok (.newarray .int, 2) := by decide +kernel
theorem dX4_init_127 : decode cX4_init 127 = .ok (.putfield 56, 3) := by decide +kernel
theorem dX4_init_130 : decode cX4_init 130 = .ok (.aload_n 0, 1) := by decide +kernel
theorem dX4_init_131 : decode cX4_init 131 = .ok (.sipush 1271, 3) := by decide +kernel
theorem dX4_init_134 : decode cX4_init 134 = .ok (.newarray .int, 2) := by decide +kernel
theorem dX4_init_136 : decode cX4_init 136 = .ok (.putfield 59, 3) := by decide +kernel
theorem dX4_init_139 : decode cX4_init 139 = .ok (.aload_n 0, 1) := by decide +kernel
theorem dX4_init_140 : decode cX4_init 140 = .ok (.bipush 70, 2) := by decide +kernel
theorem dX4_init_142 : decode cX4_init 142 = .ok (.newarray .int, 2) := by decide +kernel
theorem dX4_init_144 : decode cX4_init 144 = .ok (.putfield 62, 3) := by decide +kernel
theorem dX4_init_147 : decode cX4_init 147 = .ok (.aload_n 0, 1) := by decide +kernel
theorem dX4_init_148 : decode cX4_init 148 = .ok (.bipush 40, 2) := by decide +kernel
theorem dX4_init_150 : decode cX4_init 150 = .ok (.newarray .int, 2) := by decide +kernel
theorem dX4_init_152 : decode cX4_init 152 = .ok (.putfield 65, 3) := by decide +kernel
theorem dX4_init_155 : decode cX4_init 155 = .ok (.aload_n 0, 1) := by decide +kernel
theorem dX4_init_156 : decode cX4_init 156 = .ok (.bipush 40, 2) := by decide +kernel
theorem dX4_init_158 : decode cX4_init 158 = .ok (.newarray .int, 2) := by decide +kernel
theorem dX4_init_160 : decode cX4_init 160 = .ok (.putfield 68, 3) := by decide +kernel
theorem dX4_init_163 : decode cX4_init 163 = .ok (.aload_n 0, 1) := by decide +kernel
theorem dX4_init_164 : decode cX4_init 164 = .ok (.sipush 480, 3) := by decide +kernel
theorem dX4_init_167 : decode cX4_init 167 = .ok (.newarray .int, 2) := by decide +kernel
theorem dX4_init_169 : decode cX4_init 169 = .ok (.putfield 71, 3) := by decide +kernel
theorem dX4_init_172 : decode cX4_init 172 = .ok (.return_, 1) := by decide +kernel
theorem dX4_thrown_0 : decode cX4_thrown 0 = .ok (.aload_n 0, 1) := by decide +kernel
theorem dX4_thrown_1 : decode cX4_thrown 1 = .ok (.getfield 74, 3) := by decide +kernel
theorem dX4_thrown_4 : decode cX4_thrown 4 = .ok (.ireturn, 1) := by decide +kernel
theorem dX4_fail_0 : decode cX4_fail 0 = .ok (.aload_n 0, 1) := by decide +kernel
theorem dX4_fail_1 : decode cX4_fail 1 = .ok (.iload_n 1, 1) := by decide +kernel
theorem dX4_fail_2 : decode cX4_fail 2 = .ok (.putfield 74, 3) := by decide +kernel
theorem dX4_fail_5 : decode cX4_fail 5 = .ok (.iconst 0, 1) := by decide +kernel
theorem dX4_fail_6 : decode cX4_fail 6 = .ok (.ireturn, 1) := by decide +kernel
theorem dX4_isLine_0 : decode cX4_isLine 0 = .ok (.iload_n 1, 1) := by decide +kernel
theorem dX4_isLine_1 : decode cX4_isLine 1 = .ok (.ifCond .lt 15, 3) := by decide +kernel
theorem dX4_isLine_4 : decode cX4_isLine 4 = .ok (.iload_n 1, 1) := by decide +kernel
theorem dX4_isLine_5 : decode cX4_isLine 5 = .ok (.aload_n 0, 1) := by decide +kernel
theorem dX4_isLine_6 : decode cX4_isLine 6 = .ok (.getfield 77, 3) := by decide +kernel
theorem dX4_isLine_9 : decode cX4_isLine 9 = .ok (.if_icmp .ge 7, 3) := by decide +kernel
theorem dX4_isLine_12 : decode cX4_isLine 12 = .ok (.iconst 1, 1) := by decide +kernel
theorem dX4_isLine_13 : decode cX4_isLine 13 = .ok (.goto 4, 3) := by decide +kernel
theorem dX4_isLine_16 : decode cX4_isLine 16 = .ok (.iconst 0, 1) := by decide +kernel
theorem dX4_isLine_17 : decode cX4_isLine 17 = .ok (.ireturn, 1) := by decide +kernel
theorem dX4_isSlot_0 : decode cX4_isSlot 0 = .ok (.iload_n 1, 1) := by decide +kernel
theorem dX4_isSlot_1 : decode cX4_isSlot 1 = .ok (.ifCond .lt 17, 3) := by decide +kernel
theorem dX4_isSlot_4 : decode cX4_isSlot 4 = .ok (.iload_n 1, 1) := by decide +kernel
theorem dX4_isSlot_5 : decode cX4_isSlot 5 = .ok (.aload_n 0, 1) := by decide +kernel
theorem dX4_isSlot_6 : decode cX4_isSlot 6 = .ok (.getfield 41, 3) := by decide +kernel
theorem dX4_isSlot_9 : decode cX4_isSlot 9 = .ok (.iconst 0, 1) := by decide +kernel
theorem dX4_isSlot_10 : decode cX4_isSlot 10 = .ok (.iaload, 1) := by decide +kernel
theorem dX4_isSlot_11 : decode cX4_isSlot 11 = .ok (.if_icmp .ge 7, 3) := by decide +kernel
theorem dX4_isSlot_14 : decode cX4_isSlot 14 = .ok (.iconst 1, 1) := by decide +kernel
theorem dX4_isSlot_15 : decode cX4_isSlot 15 = .ok (.goto 4, 3) := by decide +kernel
theorem dX4_isSlot_18 : decode cX4_isSlot 18 = .ok (.iconst 0, 1) := by decide +kernel
theorem dX4_isSlot_19 : decode cX4_isSlot 19 = .ok (.ireturn, 1) := by decide +kernel
theorem dX4_feed_0 : decode cX4_feed 0 = .ok (.aload_n 0, 1) := by decide +kernel
theorem dX4_feed_1 : decode cX4_feed 1 = .ok (.iconst 0, 1) := by decide +kernel
theorem dX4_feed_2 : decode cX4_feed 2 = .ok (.putfield 74, 3) := by decide +kernel
theorem dX4_feed_5 : decode cX4_feed 5 = .ok (.iconst 0, 1) := by decide +kernel
theorem dX4_feed_6 : decode cX4_feed 6 = .ok (.istore_n 3, 1) := by decide +kernel
theorem dX4_feed_7 : decode cX4_feed 7 = .ok (.bipush 56, 2) := by decide +kernel
theorem dX4_feed_9 : decode cX4_feed 9 = .ok (.istore 4, 2) := by decide +kernel
theorem dX4_feed_11 : decode cX4_feed 11 = .ok (.iload 4, 2) := by decide +kernel
theorem dX4_feed_13 : decode cX4_feed 13 = .ok (.ifCond .lt 57, 3) := by decide +kernel
theorem dX4_feed_16 : decode cX4_feed 16 = .ok (.lload_n 1, 1) := by decide +kernel
theorem dX4_feed_17 : decode cX4_feed 17 = .ok (.iload 4, 2) := by decide +kernel
theorem dX4_feed_19 : decode cX4_feed 19 = .ok (.lushr, 1) := by decide +kernel
theorem dX4_feed_20 : decode cX4_feed 20 = .ok (.ldc2_w 80, 3) := by decide +kernel
theorem dX4_feed_23 : decode cX4_feed 23 = .ok (.land, 1) := by decide +kernel
theorem dX4_feed_24 : decode cX4_feed 24 = .ok (.l2i, 1) := by decide +kernel
theorem dX4_feed_25 : decode cX4_feed 25 = .ok (.istore 5, 2) := by decide +kernel
theorem dX4_feed_27 : decode cX4_feed 27 = .ok (.iload 5, 2) := by decide +kernel
theorem dX4_feed_29 : decode cX4_feed 29 = .ok (.ifCond .eq 22, 3) := by decide +kernel
theorem dX4_feed_32 : decode cX4_feed 32 = .ok (.iload 5, 2) := by decide +kernel
theorem dX4_feed_34 : decode cX4_feed 34 = .ok (.bipush 32, 2) := by decide +kernel
theorem dX4_feed_36 : decode cX4_feed 36 = .ok (.if_icmp .lt 10, 3) := by decide +kernel
theorem dX4_feed_39 : decode cX4_feed 39 = .ok (.iload 5, 2) := by decide +kernel
theorem dX4_feed_41 : decode cX4_feed 41 = .ok (.bipush 126, 2) := by decide +kernel
theorem dX4_feed_43 : decode cX4_feed 43 = .ok (.if_icmp .le 8, 3) := by decide +kernel
theorem dX4_feed_46 : decode cX4_feed 46 = .ok (.aload_n 0, 1) := by decide +kernel
theorem dX4_feed_47 : decode cX4_feed 47 = .ok (.iconst 1, 1) := by decide +kernel
theorem dX4_feed_48 : decode cX4_feed 48 = .ok (.putfield 74, 3) := by decide +kernel
theorem dX4_feed_51 : decode cX4_feed 51 = .ok (.iload_n 3, 1) := by decide +kernel
theorem dX4_feed_52 : decode cX4_feed 52 = .ok (.iload 5, 2) := by decide +kernel
theorem dX4_feed_54 : decode cX4_feed 54 = .ok (.ifCond .ne 7, 3) := by decide +kernel
theorem dX4_feed_57 : decode cX4_feed 57 = .ok (.iconst 0, 1) := by decide +kernel
theorem dX4_feed_58 : decode cX4_feed 58 = .ok (.goto 4, 3) := by decide +kernel
theorem dX4_feed_61 : decode cX4_feed 61 = .ok (.iconst 1, 1) := by decide +kernel
theorem dX4_feed_62 : decode cX4_feed 62 = .ok (.iadd, 1) := by decide +kernel
theorem dX4_feed_63 : decode cX4_feed 63 = .ok (.istore_n 3, 1) := by decide +kernel
theorem dX4_feed_64 : decode cX4_feed 64 = .ok (.iinc 4 (-8), 3) := by decide +kernel
theorem dX4_feed_67 : decode cX4_feed 67 = .ok (.goto (-56), 3) := by decide +kernel
theorem dX4_feed_70 : decode cX4_feed 70 = .ok (.aload_n 0, 1) := by decide +kernel
theorem dX4_feed_71 : decode cX4_feed 71 = .ok (.getfield 74, 3) := by decide +kernel
theorem dX4_feed_74 : decode cX4_feed 74 = .ok (.ifCond .ne 19, 3) := by decide +kernel
theorem dX4_feed_77 : decode cX4_feed 77 = .ok (.aload_n 0, 1) := by decide +kernel
theorem dX4_feed_78 : decode cX4_feed 78 = .ok (.getfield 82, 3) := by decide +kernel
theorem dX4_feed_81 : decode cX4_feed 81 = .ok (.iload_n 3, 1) := by decide +kernel
theorem dX4_feed_82 : decode cX4_feed 82 = .ok (.iadd, 1) := by decide +kernel
theorem dX4_feed_83 : decode cX4_feed 83 = .ok (.bipush 30, 2) := by decide +kernel
theorem dX4_feed_85 : decode cX4_feed 85 = .ok (.if_icmp .le 8, 3) := by decide +kernel
theorem dX4_feed_88 : decode cX4_feed 88 = .ok (.aload_n 0, 1) := by decide +kernel
theorem dX4_feed_89 : decode cX4_feed 89 = .ok (.iconst 2, 1) := by decide +kernel
theorem dX4_feed_90 : decode cX4_feed 90 = .ok (.putfield 74, 3) := by decide +kernel
theorem dX4_feed_93 : decode cX4_feed 93 = .ok (.aload_n 0, 1) := by decide +kernel
theorem dX4_feed_94 : decode cX4_feed 94 = .ok (.getfield 74, 3) := by decide +kernel
theorem dX4_feed_97 : decode cX4_feed 97 = .ok (.ifCond .eq 5, 3) := by decide +kernel
theorem dX4_feed_100 : decode cX4_feed 100 = .ok (.iconst 0, 1) := by decide +kernel
theorem dX4_feed_101 : decode cX4_feed 101 = .ok (.ireturn, 1) := by decide +kernel
theorem dX4_feed_102 : decode cX4_feed 102 = .ok (.bipush 56, 2) := by decide +kernel
theorem dX4_feed_104 : decode cX4_feed 104 = .ok (.istore 4, 2) := by decide +kernel
theorem dX4_feed_106 : decode cX4_feed 106 = .ok (.iload 4, 2) := by decide +kernel
theorem dX4_feed_108 : decode cX4_feed 108 = .ok (.ifCond .lt 49, 3) := by decide +kernel
theorem dX4_feed_111 : decode cX4_feed 111 = .ok (.lload_n 1, 1) := by decide +kernel
theorem dX4_feed_112 : decode cX4_feed 112 = .ok (.iload 4, 2) := by decide +kernel
theorem dX4_feed_114 : decode cX4_feed 114 = .ok (.lushr, 1) := by decide +kernel
theorem dX4_feed_115 : decode cX4_feed 115 = .ok (.ldc2_w 80, 3) := by decide +kernel
theorem dX4_feed_118 : decode cX4_feed 118 = .ok (.land, 1) := by decide +kernel
theorem dX4_feed_119 : decode cX4_feed 119 = .ok (.l2i, 1) := by decide +kernel
theorem dX4_feed_120 : decode cX4_feed 120 = .ok (.istore 5, 2) := by decide +kernel
theorem dX4_feed_122 : decode cX4_feed 122 = .ok (.iload 5, 2) := by decide +kernel
theorem dX4_feed_124 : decode cX4_feed 124 = .ok (.ifCond .ne 6, 3) := by decide +kernel
theorem dX4_feed_127 : decode cX4_feed 127 = .ok (.goto 24, 3) := by decide +kernel
theorem dX4_feed_130 : decode cX4_feed 130 = .ok (.aload_n 0, 1) := by decide +kernel
theorem dX4_feed_131 : decode cX4_feed 131 = .ok (.getfield 9, 3) := by decide +kernel
theorem dX4_feed_134 : decode cX4_feed 134 = .ok (.aload_n 0, 1) := by decide +kernel
theorem dX4_feed_135 : decode cX4_feed 135 = .ok (.getfield 82, 3) := by decide +kernel
theorem dX4_feed_138 : decode cX4_feed 138 = .ok (.iload 5, 2) := by decide +kernel
theorem dX4_feed_140 : decode cX4_feed 140 = .ok (.iastore, 1) := by decide +kernel
theorem dX4_feed_141 : decode cX4_feed 141 = .ok (.aload_n 0, 1) := by decide +kernel
theorem dX4_feed_142 : decode cX4_feed 142 = .ok (.dup, 1) := by decide +kernel
theorem dX4_feed_143 : decode cX4_feed 143 = .ok (.getfield 82, 3) := by decide +kernel
theorem dX4_feed_146 : decode cX4_feed 146 = .ok (.iconst 1, 1) := by decide +kernel
theorem dX4_feed_147 : decode cX4_feed 147 = .ok (.iadd, 1) := by decide +kernel
theorem dX4_feed_148 : decode cX4_feed 148 = .ok (.putfield 82, 3) := by decide +kernel
theorem dX4_feed_151 : decode cX4_feed 151 = .ok (.iinc 4 (-8), 3) := by decide +kernel
theorem dX4_feed_154 : decode cX4_feed 154 = .ok (.goto (-48), 3) := by decide +kernel
theorem dX4_feed_157 : decode cX4_feed 157 = .ok (.aload_n 0, 1) := by decide +kernel
theorem dX4_feed_158 : decode cX4_feed 158 = .ok (.getfield 82, 3) := by decide +kernel
theorem dX4_feed_161 : decode cX4_feed 161 = .ok (.ireturn, 1) := by decide +kernel
theorem dX4_kindOf_0 : decode cX4_kindOf 0 = .ok (.iload_n 0, 1) := by decide +kernel
theorem dX4_kindOf_1 : decode cX4_kindOf 1 = .ok (.bipush 65, 2) := by decide +kernel
theorem dX4_kindOf_3 : decode cX4_kindOf 3 = .ok (.if_icmp .lt 9, 3) := by decide +kernel
theorem dX4_kindOf_6 : decode cX4_kindOf 6 = .ok (.iload_n 0, 1) := by decide +kernel
theorem dX4_kindOf_7 : decode cX4_kindOf 7 = .ok (.bipush 90, 2) := by decide +kernel
theorem dX4_kindOf_9 : decode cX4_kindOf 9 = .ok (.if_icmp .le 15, 3) := by decide +kernel
theorem dX4_kindOf_12 : decode cX4_kindOf 12 = .ok (.iload_n 0, 1) := by decide +kernel
theorem dX4_kindOf_13 : decode cX4_kindOf 13 = .ok (.bipush 97, 2) := by decide +kernel
theorem dX4_kindOf_15 : decode cX4_kindOf 15 = .ok (.if_icmp .lt 13, 3) := by decide +kernel
theorem dX4_kindOf_18 : decode cX4_kindOf 18 = .ok (.iload_n 0, 1) := by decide +kernel
theorem dX4_kindOf_19 : decode cX4_kindOf 19 = .ok (.bipush 122, 2) := by decide +kernel
theorem dX4_kindOf_21 : decode cX4_kindOf 21 = .ok (.if_icmp .gt 7, 3) := by decide +kernel
theorem dX4_kindOf_24 : decode cX4_kindOf 24 = .ok (.iconst 0, 1) := by decide +kernel
theorem dX4_kindOf_25 : decode cX4_kindOf 25 = .ok (.goto 30, 3) := by decide +kernel
theorem dX4_kindOf_28 : decode cX4_kindOf 28 = .ok (.iload_n 0, 1) := by decide +kernel
theorem dX4_kindOf_29 : decode cX4_kindOf 29 = .ok (.bipush 48, 2) := by decide +kernel
theorem dX4_kindOf_31 : decode cX4_kindOf 31 = .ok (.if_icmp .lt 13, 3) := by decide +kernel
theorem dX4_kindOf_34 : decode cX4_kindOf 34 = .ok (.iload_n 0, 1) := by decide +kernel
theorem dX4_kindOf_35 : decode cX4_kindOf 35 = .ok (.bipush 57, 2) := by decide +kernel
theorem dX4_kindOf_37 : decode cX4_kindOf 37 = .ok (.if_icmp .gt 7, 3) := by decide +kernel
theorem dX4_kindOf_40 : decode cX4_kindOf 40 = .ok (.iconst 1, 1) := by decide +kernel
theorem dX4_kindOf_41 : decode cX4_kindOf 41 = .ok (.goto 14, 3) := by decide +kernel
theorem dX4_kindOf_44 : decode cX4_kindOf 44 = .ok (.iload_n 0, 1) := by decide +kernel
theorem dX4_kindOf_45 : decode cX4_kindOf 45 = .ok (.bipush 32, 2) := by decide +kernel
theorem dX4_kindOf_47 : decode cX4_kindOf 47 = .ok (.if_icmp .ne 7, 3) := by decide +kernel
theorem dX4_kindOf_50 : decode cX4_kindOf 50 = .ok (.iconst 2, 1) := by decide +kernel
theorem dX4_kindOf_51 : decode cX4_kindOf 51 = .ok (.goto 4, 3) := by decide +kernel
theorem dX4_kindOf_54 : decode cX4_kindOf 54 = .ok (.iconst 3, 1) := by decide +kernel
theorem dX4_kindOf_55 : decode cX4_kindOf 55 = .ok (.ireturn, 1) := by decide +kernel
theorem dX4_store_0 : decode cX4_store 0 = .ok (.aload_n 0, 1) := by decide +kernel
theorem dX4_store_1 : decode cX4_store 1 = .ok (.iconst 0, 1) := by decide +kernel
theorem dX4_store_2 : decode cX4_store 2 = .ok (.putfield 74, 3) := by decide +kernel
theorem dX4_store_5 : decode cX4_store 5 = .ok (.aload_n 0, 1) := by decide +kernel
theorem dX4_store_6 : decode cX4_store 6 = .ok (.getfield 77, 3) := by decide +kernel
theorem dX4_store_9 : decode cX4_store 9 = .ok (.bipush 12, 2) := by decide +kernel
theorem dX4_store_11 : decode cX4_store 11 = .ok (.if_icmp .ne 9, 3) := by decide +kernel
theorem dX4_store_14 : decode cX4_store 14 = .ok (.aload_n 0, 1) := by decide +kernel
theorem dX4_store_15 : decode cX4_store 15 = .ok (.iconst 1, 1) := by decide +kernel
theorem dX4_store_16 : decode cX4_store 16 = .ok (.invokevirtual 85, 3) := by decide +kernel
theorem dX4_store_19 : decode cX4_store 19 = .ok (.ireturn, 1) := by decide +kernel
theorem dX4_store_20 : decode cX4_store 20 = .ok (.bipush 30, 2) := by decide +kernel
theorem dX4_store_22 : decode cX4_store 22 = .ok (.aload_n 0, 1) := by decide +kernel
theorem dX4_store_23 : decode cX4_store 23 = .ok (.getfield 77, 3) := by decide +kernel
theorem dX4_store_26 : decode cX4_store 26 = .ok (.imul, 1) := by decide +kernel
theorem dX4_store_27 : decode cX4_store 27 = .ok (.istore_n 1, 1) := by decide +kernel
theorem dX4_store_28 : decode cX4_store 28 = .ok (.aload_n 0, 1) := by decide +kernel
theorem dX4_store_29 : decode cX4_store 29 = .ok (.getfield 13, 3) := by decide +kernel
theorem dX4_store_32 : decode cX4_store 32 = .ok (.aload_n 0, 1) := by decide +kernel
theorem dX4_store_33 : decode cX4_store 33 = .ok (.getfield 77, 3) := by decide +kernel
theorem dX4_store_36 : decode cX4_store 36 = .ok (.aload_n 0, 1) := by decide +kernel
theorem dX4_store_37 : decode cX4_store 37 = .ok (.getfield 82, 3) := by decide +kernel
theorem dX4_store_40 : decode cX4_store 40 = .ok (.iastore, 1) := by decide +kernel
theorem dX4_store_41 : decode cX4_store 41 = .ok (.aload_n 0, 1) := by decide +kernel
theorem dX4_store_42 : decode cX4_store 42 = .ok (.getfield 19, 3) := by decide +kernel
theorem dX4_store_45 : decode cX4_store 45 = .ok (.aload_n 0, 1) := by decide +kernel
theorem dX4_store_46 : decode cX4_store 46 = .ok (.getfield 77, 3) := by decide +kernel
theorem dX4_store_49 : decode cX4_store 49 = .ok (.iconst 0, 1) := by decide +kernel
theorem dX4_store_50 : decode cX4_store 50 = .ok (.iastore, 1) := by decide +kernel
theorem dX4_store_51 : decode cX4_store 51 = .ok (.iconst 0, 1) := by decide +kernel
theorem dX4_store_52 : decode cX4_store 52 = .ok (.istore_n 2, 1) := by decide +kernel
theorem dX4_store_53 : decode cX4_store 53 = .ok (.iload_n 2, 1) := by decide +kernel
theorem dX4_store_54 : decode cX4_store 54 = .ok (.aload_n 0, 1) := by decide +kernel
theorem dX4_store_55 : decode cX4_store 55 = .ok (.getfield 82, 3) := by decide +kernel
theorem dX4_store_58 : decode cX4_store 58 = .ok (.if_icmp .ge 155, 3) := by decide +kernel
theorem dX4_store_61 : decode cX4_store 61 = .ok (.aload_n 0, 1) := by decide +kernel
theorem dX4_store_62 : decode cX4_store 62 = .ok (.getfield 16, 3) := by decide +kernel
theorem dX4_store_65 : decode cX4_store 65 = .ok (.iload_n 1, 1) := by decide +kernel
theorem dX4_store_66 : decode cX4_store 66 = .ok (.iload_n 2, 1) := by decide +kernel
theorem dX4_store_67 : decode cX4_store 67 = .ok (.iadd, 1) := by decide +kernel
theorem dX4_store_68 : decode cX4_store 68 = .ok (.aload_n 0, 1) := by decide +kernel
theorem dX4_store_69 : decode cX4_store 69 = .ok (.getfield 9, 3) := by decide +kernel
theorem dX4_store_72 : decode cX4_store 72 = .ok (.iload_n 2, 1) := by decide +kernel
theorem dX4_store_73 : decode cX4_store 73 = .ok (.iaload, 1) := by decide +kernel
theorem dX4_store_74 : decode cX4_store 74 = .ok (.iastore, 1) := by decide +kernel
theorem dX4_store_75 : decode cX4_store 75 = .ok (.aload_n 0, 1) := by decide +kernel
theorem dX4_store_76 : decode cX4_store 76 = .ok (.getfield 9, 3) := by decide +kernel
theorem dX4_store_79 : decode cX4_store 79 = .ok (.iload_n 2, 1) := by decide +kernel
theorem dX4_store_80 : decode cX4_store 80 = .ok (.iaload, 1) := by decide +kernel
theorem dX4_store_81 : decode cX4_store 81 = .ok (.invokestatic 89, 3) := by decide +kernel
theorem dX4_store_84 : decode cX4_store 84 = .ok (.istore_n 3, 1) := by decide +kernel
theorem dX4_store_85 : decode cX4_store 85 = .ok (.iload_n 2, 1) := by decide +kernel
theorem dX4_store_86 : decode cX4_store 86 = .ok (.ifCond .le 27, 3) := by decide +kernel
theorem dX4_store_89 : decode cX4_store 89 = .ok (.iload_n 3, 1) := by decide +kernel
theorem dX4_store_90 : decode cX4_store 90 = .ok (.iconst 3, 1) := by decide +kernel
theorem dX4_store_91 : decode cX4_store 91 = .ok (.if_icmp .eq 22, 3) := by decide +kernel
theorem dX4_store_94 : decode cX4_store 94 = .ok (.aload_n 0, 1) := by decide +kernel
theorem dX4_store_95 : decode cX4_store 95 = .ok (.getfield 9, 3) := by decide +kernel
theorem dX4_store_98 : decode cX4_store 98 = .ok (.iload_n 2, 1) := by decide +kernel
theorem dX4_store_99 : decode cX4_store 99 = .ok (.iconst 1, 1) := by decide +kernel
theorem dX4_store_100 : decode cX4_store 100 = .ok (.isub, 1) := by decide +kernel
theorem dX4_store_101 : decode cX4_store 101 = .ok (.iaload, 1) := by decide +kernel
theorem dX4_store_102 : decode cX4_store 102 = .ok (.invokestatic 89, 3) := by decide +kernel
theorem dX4_store_105 : decode cX4_store 105 = .ok (.iload_n 3, 1) := by decide +kernel
theorem dX4_store_106 : decode cX4_store 106 = .ok (.if_icmp .ne 7, 3) := by decide +kernel
theorem dX4_store_109 : decode cX4_store 109 = .ok (.iconst 1, 1) := by decide +kernel
theorem dX4_store_110 : decode cX4_store 110 = .ok (.goto 4, 3) := by decide +kernel
theorem dX4_store_113 : decode cX4_store 113 = .ok (.iconst 0, 1) := by decide +kernel
theorem dX4_store_114 : decode cX4_store 114 = .ok (.istore 4, 2) := by decide +kernel
theorem dX4_store_116 : decode cX4_store 116 = .ok (.iload 4, 2) := by decide +kernel
theorem dX4_store_118 : decode cX4_store 118 = .ok (.ifCond .ne 67, 3) := by decide +kernel
theorem dX4_store_121 : decode cX4_store 121 = .ok (.aload_n 0, 1) := by decide +kernel
theorem dX4_store_122 : decode cX4_store 122 = .ok (.getfield 22, 3) := by decide +kernel
theorem dX4_store_125 : decode cX4_store 125 = .ok (.iload_n 1, 1) := by decide +kernel
theorem dX4_store_126 : decode cX4_store 126 = .ok (.aload_n 0, 1) := by decide +kernel
theorem dX4_store_127 : decode cX4_store 127 = .ok (.getfield 19, 3) := by decide +kernel
theorem dX4_store_130 : decode cX4_store 130 = .ok (.aload_n 0, 1) := by decide +kernel
theorem dX4_store_131 : decode cX4_store 131 = .ok (.getfield 77, 3) := by decide +kernel
theorem dX4_store_134 : decode cX4_store 134 = .ok (.iaload, 1) := by decide +kernel
theorem dX4_store_135 : decode cX4_store 135 = .ok (.iadd, 1) := by decide +kernel
theorem dX4_store_136 : decode cX4_store 136 = .ok (.iload_n 3, 1) := by decide +kernel
theorem dX4_store_137 : decode cX4_store 137 = .ok (.iastore, 1) := by decide +kernel
theorem dX4_store_138 : decode cX4_store 138 = .ok (.aload_n 0, 1) := by decide +kernel
theorem dX4_store_139 : decode cX4_store 139 = .ok (.getfield 25, 3) := by decide +kernel
theorem dX4_store_142 : decode cX4_store 142 = .ok (.iload_n 1, 1) := by decide +kernel
theorem dX4_store_143 : decode cX4_store 143 = .ok (.aload_n 0, 1) := by decide +kernel
theorem dX4_store_144 : decode cX4_store 144 = .ok (.getfield 19, 3) := by decide +kernel
theorem dX4_store_147 : decode cX4_store 147 = .ok (.aload_n 0, 1) := by decide +kernel
theorem dX4_store_148 : decode cX4_store 148 = .ok (.getfield 77, 3) := by decide +kernel
theorem dX4_store_151 : decode cX4_store 151 = .ok (.iaload, 1) := by decide +kernel
theorem dX4_store_152 : decode cX4_store 152 = .ok (.iadd, 1) := by decide +kernel
theorem dX4_store_153 : decode cX4_store 153 = .ok (.iload_n 2, 1) := by decide +kernel
theorem dX4_store_154 : decode cX4_store 154 = .ok (.iastore, 1) := by decide +kernel
theorem dX4_store_155 : decode cX4_store 155 = .ok (.aload_n 0, 1) := by decide +kernel
theorem dX4_store_156 : decode cX4_store 156 = .ok (.getfield 28, 3) := by decide +kernel
theorem dX4_store_159 : decode cX4_store 159 = .ok (.iload_n 1, 1) := by decide +kernel
theorem dX4_store_160 : decode cX4_store 160 = .ok (.aload_n 0, 1) := by decide +kernel
theorem dX4_store_161 : decode cX4_store 161 = .ok (.getfield 19, 3) := by decide +kernel
theorem dX4_store_164 : decode cX4_store 164 = .ok (.aload_n 0, 1) := by decide +kernel
theorem dX4_store_165 : decode cX4_store 165 = .ok (.getfield 77, 3) := by decide +kernel
theorem dX4_store_168 : decode cX4_store 168 = .ok (.iaload, 1) := by decide +kernel
theorem dX4_store_169 : decode cX4_store 169 = .ok (.iadd, 1) := by decide +kernel
theorem dX4_store_170 : decode cX4_store 170 = .ok (.iconst 0, 1) := by decide +kernel
theorem dX4_store_171 : decode cX4_store 171 = .ok (.iastore, 1) := by decide +kernel
theorem dX4_store_172 : decode cX4_store 172 = .ok (.aload_n 0, 1) := by decide +kernel
theorem dX4_store_173 : decode cX4_store 173 = .ok (.getfield 19, 3) := by decide +kernel
theorem dX4_store_176 : decode cX4_store 176 = .ok (.aload_n 0, 1) := by decide +kernel
theorem dX4_store_177 : decode cX4_store 177 = .ok (.getfield 77, 3) := by decide +kernel
theorem dX4_store_180 : decode cX4_store 180 = .ok (.dup2, 1) := by decide +kernel
theorem dX4_store_181 : decode cX4_store 181 = .ok (.iaload, 1) := by decide +kernel
theorem dX4_store_182 : decode cX4_store 182 = .ok (.iconst 1, 1) := by decide +kernel
theorem dX4_store_183 : decode cX4_store 183 = .ok (.iadd, 1) := by decide +kernel
theorem dX4_store_184 : decode cX4_store 184 = .ok (.iastore, 1) := by decide +kernel
theorem dX4_store_185 : decode cX4_store 185 = .ok (.aload_n 0, 1) := by decide +kernel
theorem dX4_store_186 : decode cX4_store 186 = .ok (.getfield 28, 3) := by decide +kernel
theorem dX4_store_189 : decode cX4_store 189 = .ok (.iload_n 1, 1) := by decide +kernel
theorem dX4_store_190 : decode cX4_store 190 = .ok (.aload_n 0, 1) := by decide +kernel
theorem dX4_store_191 : decode cX4_store 191 = .ok (.getfield 19, 3) := by decide +kernel
theorem dX4_store_194 : decode cX4_store 194 = .ok (.aload_n 0, 1) := by decide +kernel
theorem dX4_store_195 : decode cX4_store 195 = .ok (.getfield 77, 3) := by decide +kernel
theorem dX4_store_198 : decode cX4_store 198 = .ok (.iaload, 1) := by decide +kernel
theorem dX4_store_199 : decode cX4_store 199 = .ok (.iadd, 1) := by decide +kernel
theorem dX4_store_200 : decode cX4_store 200 = .ok (.iconst 1, 1) := by decide +kernel
theorem dX4_store_201 : decode cX4_store 201 = .ok (.isub, 1) := by decide +kernel
theorem dX4_store_202 : decode cX4_store 202 = .ok (.dup2, 1) := by decide +kernel
theorem dX4_store_203 : decode cX4_store 203 = .ok (.iaload, 1) := by decide +kernel
theorem dX4_store_204 : decode cX4_store 204 = .ok (.iconst 1, 1) := by decide +kernel
theorem dX4_store_205 : decode cX4_store 205 = .ok (.iadd, 1) := by decide +kernel
theorem dX4_store_206 : decode cX4_store 206 = .ok (.iastore, 1) := by decide +kernel
theorem dX4_store_207 : decode cX4_store 207 = .ok (.iinc 2 1, 3) := by decide +kernel
theorem dX4_store_210 : decode cX4_store 210 = .ok (.goto (-157), 3) := by decide +kernel
theorem dX4_store_213 : decode cX4_store 213 = .ok (.aload_n 0, 1) := by decide +kernel
theorem dX4_store_214 : decode cX4_store 214 = .ok (.iconst 0, 1) := by decide +kernel
theorem dX4_store_215 : decode cX4_store 215 = .ok (.putfield 82, 3) := by decide +kernel
theorem dX4_store_218 : decode cX4_store 218 = .ok (.aload_n 0, 1) := by decide +kernel
theorem dX4_store_219 : decode cX4_store 219 = .ok (.dup, 1) := by decide +kernel
theorem dX4_store_220 : decode cX4_store 220 = .ok (.getfield 77, 3) := by decide +kernel
theorem dX4_store_223 : decode cX4_store 223 = .ok (.iconst 1, 1) := by decide +kernel
theorem dX4_store_224 : decode cX4_store 224 = .ok (.iadd, 1) := by decide +kernel
theorem dX4_store_225 : decode cX4_store 225 = .ok (.putfield 77, 3) := by decide +kernel
theorem dX4_store_228 : decode cX4_store 228 = .ok (.aload_n 0, 1) := by decide +kernel
theorem dX4_store_229 : decode cX4_store 229 = .ok (.iconst 0, 1) := by decide +kernel
theorem dX4_store_230 : decode cX4_store 230 = .ok (.putfield 92, 3) := by decide +kernel
theorem dX4_store_233 : decode cX4_store 233 = .ok (.aload_n 0, 1) := by decide +kernel
theorem dX4_store_234 : decode cX4_store 234 = .ok (.getfield 77, 3) := by decide +kernel
theorem dX4_store_237 : decode cX4_store 237 = .ok (.iconst 1, 1) := by decide +kernel
theorem dX4_store_238 : decode cX4_store 238 = .ok (.isub, 1) := by decide +kernel
theorem dX4_store_239 : decode cX4_store 239 = .ok (.ireturn, 1) := by decide +kernel
theorem dX4_lineCount_0 : decode cX4_lineCount 0 = .ok (.aload_n 0, 1) := by decide +kernel
theorem dX4_lineCount_1 : decode cX4_lineCount 1 = .ok (.iconst 0, 1) := by decide +kernel
theorem dX4_lineCount_2 : decode cX4_lineCount 2 = .ok (.putfield 74, 3) := by decide +kernel
theorem dX4_lineCount_5 : decode cX4_lineCount 5 = .ok (.aload_n 0, 1) := by decide +kernel
theorem dX4_lineCount_6 : decode cX4_lineCount 6 = .ok (.getfield 77, 3) := by decide +kernel
theorem dX4_lineCount_9 : decode cX4_lineCount 9 = .ok (.ireturn, 1) := by decide +kernel
theorem dX4_tokenCount_0 : decode cX4_tokenCount 0 = .ok (.aload_n 0, 1) := by decide +kernel
theorem dX4_tokenCount_1 : decode cX4_tokenCount 1 = .ok (.iconst 0, 1) := by decide +kernel
theorem dX4_tokenCount_2 : decode cX4_tokenCount 2 = .ok (.putfield 74, 3) := by decide +kernel
theorem dX4_tokenCount_5 : decode cX4_tokenCount 5 = .ok (.aload_n 0, 1) := by decide +kernel
theorem dX4_tokenCount_6 : decode cX4_tokenCount 6 = .ok (.iload_n 1, 1) := by decide +kernel
theorem dX4_tokenCount_7 : decode cX4_tokenCount 7 = .ok (.invokevirtual 96, 3) := by decide +kernel
theorem dX4_tokenCount_10 : decode cX4_tokenCount 10 = .ok (.ifCond .eq 12, 3) := by decide +kernel
theorem dX4_tokenCount_13 : decode cX4_tokenCount 13 = .ok (.aload_n 0, 1) := by decide +kernel
theorem dX4_tokenCount_14 : decode cX4_tokenCount 14 = .ok (.getfield 19, 3) := by decide +kernel
theorem dX4_tokenCount_17 : decode cX4_tokenCount 17 = .ok (.iload_n 1, 1) := by decide +kernel
theorem dX4_tokenCount_18 : decode cX4_tokenCount 18 = .ok (.iaload, 1) := by decide +kernel
theorem dX4_tokenCount_19 : decode cX4_tokenCount 19 = .ok (.goto 8, 3) := by decide +kernel
theorem dX4_tokenCount_22 : decode cX4_tokenCount 22 = .ok (.aload_n 0, 1) := by decide +kernel
theorem dX4_tokenCount_23 : decode cX4_tokenCount 23 = .ok (.iconst 1, 1) := by decide +kernel
theorem dX4_tokenCount_24 : decode cX4_tokenCount 24 = .ok (.invokevirtual 85, 3) := by decide +kernel
theorem dX4_tokenCount_27 : decode cX4_tokenCount 27 = .ok (.ireturn, 1) := by decide +kernel
theorem dX4_isToken_0 : decode cX4_isToken 0 = .ok (.aload_n 0, 1) := by decide +kernel
theorem dX4_isToken_1 : decode cX4_isToken 1 = .ok (.iload_n 1, 1) := by decide +kernel
theorem dX4_isToken_2 : decode cX4_isToken 2 = .ok (.invokevirtual 96, 3) := by decide +kernel
theorem dX4_isToken_5 : decode cX4_isToken 5 = .ok (.ifCond .eq 21, 3) := by decide +kernel
theorem dX4_isToken_8 : decode cX4_isToken 8 = .ok (.iload_n 2, 1) := by decide +kernel
theorem dX4_isToken_9 : decode cX4_isToken 9 = .ok (.ifCond .lt 17, 3) := by decide +kernel
theorem dX4_isToken_12 : decode cX4_isToken 12 = .ok (.iload_n 2, 1) := by decide +kernel
theorem dX4_isToken_13 : decode cX4_isToken 13 = .ok (.aload_n 0, 1) := by decide +kernel
theorem dX4_isToken_14 : decode cX4_isToken 14 = .ok (.getfield 19, 3) := by decide +kernel
theorem dX4_isToken_17 : decode cX4_isToken 17 = .ok (.iload_n 1, 1) := by decide +kernel
theorem dX4_isToken_18 : decode cX4_isToken 18 = .ok (.iaload, 1) := by decide +kernel
theorem dX4_isToken_19 : decode cX4_isToken 19 = .ok (.if_icmp .ge 7, 3) := by decide +kernel
theorem dX4_isToken_22 : decode cX4_isToken 22 = .ok (.iconst 1, 1) := by decide +kernel
theorem dX4_isToken_23 : decode cX4_isToken 23 = .ok (.goto 4, 3) := by decide +kernel
theorem dX4_isToken_26 : decode cX4_isToken 26 = .ok (.iconst 0, 1) := by decide +kernel
theorem dX4_isToken_27 : decode cX4_isToken 27 = .ok (.ireturn, 1) := by decide +kernel
theorem dX4_tokenKind_0 : decode cX4_tokenKind 0 = .ok (.aload_n 0, 1) := by decide +kernel
theorem dX4_tokenKind_1 : decode cX4_tokenKind 1 = .ok (.iconst 0, 1) := by decide +kernel
theorem dX4_tokenKind_2 : decode cX4_tokenKind 2 = .ok (.putfield 74, 3) := by decide +kernel
theorem dX4_tokenKind_5 : decode cX4_tokenKind 5 = .ok (.aload_n 0, 1) := by decide +kernel
theorem dX4_tokenKind_6 : decode cX4_tokenKind 6 = .ok (.iload_n 1, 1) := by decide +kernel
theorem dX4_tokenKind_7 : decode cX4_tokenKind 7 = .ok (.iload_n 2, 1) := by decide +kernel
theorem dX4_tokenKind_8 : decode cX4_tokenKind 8 = .ok (.invokevirtual 100, 3) := by decide +kernel
theorem dX4_tokenKind_11 : decode cX4_tokenKind 11 = .ok (.ifCond .eq 17, 3) := by decide +kernel
theorem dX4_tokenKind_14 : decode cX4_tokenKind 14 = .ok (.aload_n 0, 1) := by decide +kernel
theorem dX4_tokenKind_15 : decode cX4_tokenKind 15 = .ok (.getfield 22, 3) := by decide +kernel
theorem dX4_tokenKind_18 : decode cX4_tokenKind 18 = .ok (.bipush 30, 2) := by decide +kernel
theorem dX4_tokenKind_20 : decode cX4_tokenKind 20 = .ok (.iload_n 1, 1) := by decide +kernel
theorem dX4_tokenKind_21 : decode cX4_tokenKind 21 = .ok (.imul, 1) := by decide +kernel
theorem dX4_tokenKind_22 : decode cX4_tokenKind 22 = .ok (.iload_n 2, 1) := by decide +kernel
theorem dX4_tokenKind_23 : decode cX4_tokenKind 23 = .ok (.iadd, 1) := by decide +kernel
theorem dX4_tokenKind_24 : decode cX4_tokenKind 24 = .ok (.iaload, 1) := by decide +kernel
theorem dX4_tokenKind_25 : decode cX4_tokenKind 25 = .ok (.goto 8, 3) := by decide +kernel
theorem dX4_tokenKind_28 : decode cX4_tokenKind 28 = .ok (.aload_n 0, 1) := by decide +kernel
theorem dX4_tokenKind_29 : decode cX4_tokenKind 29 = .ok (.iconst 1, 1) := by decide +kernel
theorem dX4_tokenKind_30 : decode cX4_tokenKind 30 = .ok (.invokevirtual 85, 3) := by decide +kernel
theorem dX4_tokenKind_33 : decode cX4_tokenKind 33 = .ok (.ireturn, 1) := by decide +kernel
theorem dX4_tokenStart_0 : decode cX4_tokenStart 0 = .ok (.aload_n 0, 1) := by decide +kernel
theorem dX4_tokenStart_1 : decode cX4_tokenStart 1 = .ok (.iconst 0, 1) := by decide +kernel
theorem dX4_tokenStart_2 : decode cX4_tokenStart 2 = .ok (.putfield 74, 3) := by decide +kernel
theorem dX4_tokenStart_5 : decode cX4_tokenStart 5 = .ok (.aload_n 0, 1) := by decide +kernel
theorem dX4_tokenStart_6 : decode cX4_tokenStart 6 = .ok (.iload_n 1, 1) := by decide +kernel
theorem dX4_tokenStart_7 : decode cX4_tokenStart 7 = .ok (.iload_n 2, 1) := by decide +kernel
theorem dX4_tokenStart_8 : decode cX4_tokenStart 8 = .ok (.invokevirtual 100, 3) := by decide +kernel
theorem dX4_tokenStart_11 : decode cX4_tokenStart 11 = .ok (.ifCond .eq 17, 3) := by decide +kernel
theorem dX4_tokenStart_14 : decode cX4_tokenStart 14 = .ok (.aload_n 0, 1) := by decide +kernel
theorem dX4_tokenStart_15 : decode cX4_tokenStart 15 = .ok (.getfield 25, 3) := by decide +kernel
theorem dX4_tokenStart_18 : decode cX4_tokenStart 18 = .ok (.bipush 30, 2) := by decide +kernel
theorem dX4_tokenStart_20 : decode cX4_tokenStart 20 = .ok (.iload_n 1, 1) := by decide +kernel
theorem dX4_tokenStart_21 : decode cX4_tokenStart 21 = .ok (.imul, 1) := by decide +kernel
theorem dX4_tokenStart_22 : decode cX4_tokenStart 22 = .ok (.iload_n 2, 1) := by decide +kernel
theorem dX4_tokenStart_23 : decode cX4_tokenStart 23 = .ok (.iadd, 1) := by decide +kernel
theorem dX4_tokenStart_24 : decode cX4_tokenStart 24 = .ok (.iaload, 1) := by decide +kernel
theorem dX4_tokenStart_25 : decode cX4_tokenStart 25 = .ok (.goto 8, 3) := by decide +kernel
theorem dX4_tokenStart_28 : decode cX4_tokenStart 28 = .ok (.aload_n 0, 1) := by decide +kernel
theorem dX4_tokenStart_29 : decode cX4_tokenStart 29 = .ok (.iconst 1, 1) := by decide +kernel
theorem dX4_tokenStart_30 : decode cX4_tokenStart 30 = .ok (.invokevirtual 85, 3) := by decide +kernel
theorem dX4_tokenStart_33 : decode cX4_tokenStart 33 = .ok (.ireturn, 1) := by decide +kernel
theorem dX4_areSame_0 : decode cX4_areSame 0 = .ok (.aload_n 0, 1) := by decide +kernel
theorem dX4_areSame_1 : decode cX4_areSame 1 = .ok (.getfield 28, 3) := by decide +kernel
theorem dX4_areSame_4 : decode cX4_areSame 4 = .ok (.iload_n 1, 1) := by decide +kernel
theorem dX4_areSame_5 : decode cX4_areSame 5 = .ok (.iaload, 1) := by decide +kernel
theorem dX4_areSame_6 : decode cX4_areSame 6 = .ok (.aload_n 0, 1) := by decide +kernel
theorem dX4_areSame_7 : decode cX4_areSame 7 = .ok (.getfield 28, 3) := by decide +kernel
theorem dX4_areSame_10 : decode cX4_areSame 10 = .ok (.iload_n 2, 1) := by decide +kernel
theorem dX4_areSame_11 : decode cX4_areSame 11 = .ok (.iaload, 1) := by decide +kernel
theorem dX4_areSame_12 : decode cX4_areSame 12 = .ok (.if_icmp .eq 5, 3) := by decide +kernel
theorem dX4_areSame_15 : decode cX4_areSame 15 = .ok (.iconst 0, 1) := by decide +kernel
theorem dX4_areSame_16 : decode cX4_areSame 16 = .ok (.ireturn, 1) := by decide +kernel
theorem dX4_areSame_17 : decode cX4_areSame 17 = .ok (.iload_n 1, 1) := by decide +kernel
theorem dX4_areSame_18 : decode cX4_areSame 18 = .ok (.bipush 30, 2) := by decide +kernel
theorem dX4_areSame_20 : decode cX4_areSame 20 = .ok (.idiv, 1) := by decide +kernel
theorem dX4_areSame_21 : decode cX4_areSame 21 = .ok (.bipush 30, 2) := by decide +kernel
theorem dX4_areSame_23 : decode cX4_areSame 23 = .ok (.imul, 1) := by decide +kernel
theorem dX4_areSame_24 : decode cX4_areSame 24 = .ok (.aload_n 0, 1) := by decide +kernel
theorem dX4_areSame_25 : decode cX4_areSame 25 = .ok (.getfield 25, 3) := by decide +kernel
theorem dX4_areSame_28 : decode cX4_areSame 28 = .ok (.iload_n 1, 1) := by decide +kernel
theorem dX4_areSame_29 : decode cX4_areSame 29 = .ok (.iaload, 1) := by decide +kernel
theorem dX4_areSame_30 : decode cX4_areSame 30 = .ok (.iadd, 1) := by decide +kernel
theorem dX4_areSame_31 : decode cX4_areSame 31 = .ok (.istore_n 3, 1) := by decide +kernel
theorem dX4_areSame_32 : decode cX4_areSame 32 = .ok (.iload_n 2, 1) := by decide +kernel
theorem dX4_areSame_33 : decode cX4_areSame 33 = .ok (.bipush 30, 2) := by decide +kernel
theorem dX4_areSame_35 : decode cX4_areSame 35 = .ok (.idiv, 1) := by decide +kernel
theorem dX4_areSame_36 : decode cX4_areSame 36 = .ok (.bipush 30, 2) := by decide +kernel
theorem dX4_areSame_38 : decode cX4_areSame 38 = .ok (.imul, 1) := by decide +kernel
theorem dX4_areSame_39 : decode cX4_areSame 39 = .ok (.aload_n 0, 1) := by decide +kernel
theorem dX4_areSame_40 : decode cX4_areSame 40 = .ok (.getfield 25, 3) := by decide +kernel
theorem dX4_areSame_43 : decode cX4_areSame 43 = .ok (.iload_n 2, 1) := by decide +kernel
theorem dX4_areSame_44 : decode cX4_areSame 44 = .ok (.iaload, 1) := by decide +kernel
theorem dX4_areSame_45 : decode cX4_areSame 45 = .ok (.iadd, 1) := by decide +kernel
theorem dX4_areSame_46 : decode cX4_areSame 46 = .ok (.istore 4, 2) := by decide +kernel
theorem dX4_areSame_48 : decode cX4_areSame 48 = .ok (.iconst 0, 1) := by decide +kernel
theorem dX4_areSame_49 : decode cX4_areSame 49 = .ok (.istore 5, 2) := by decide +kernel
theorem dX4_areSame_51 : decode cX4_areSame 51 = .ok (.iload 5, 2) := by decide +kernel
theorem dX4_areSame_53 : decode cX4_areSame 53 = .ok (.aload_n 0, 1) := by decide +kernel
theorem dX4_areSame_54 : decode cX4_areSame 54 = .ok (.getfield 28, 3) := by decide +kernel
theorem dX4_areSame_57 : decode cX4_areSame 57 = .ok (.iload_n 1, 1) := by decide +kernel
theorem dX4_areSame_58 : decode cX4_areSame 58 = .ok (.iaload, 1) := by decide +kernel
theorem dX4_areSame_59 : decode cX4_areSame 59 = .ok (.if_icmp .ge 33, 3) := by decide +kernel
theorem dX4_areSame_62 : decode cX4_areSame 62 = .ok (.aload_n 0, 1) := by decide +kernel
theorem dX4_areSame_63 : decode cX4_areSame 63 = .ok (.getfield 16, 3) := by decide +kernel
theorem dX4_areSame_66 : decode cX4_areSame 66 = .ok (.iload_n 3, 1) := by decide +kernel
theorem dX4_areSame_67 : decode cX4_areSame 67 = .ok (.iload 5, 2) := by decide +kernel
theorem dX4_areSame_69 : decode cX4_areSame 69 = .ok (.iadd, 1) := by decide +kernel
theorem dX4_areSame_70 : decode cX4_areSame 70 = .ok (.iaload, 1) := by decide +kernel
theorem dX4_areSame_71 : decode cX4_areSame 71 = .ok (.aload_n 0, 1) := by decide +kernel
theorem dX4_areSame_72 : decode cX4_areSame 72 = .ok (.getfield 16, 3) := by decide +kernel
theorem dX4_areSame_75 : decode cX4_areSame 75 = .ok (.iload 4, 2) := by decide +kernel
theorem dX4_areSame_77 : decode cX4_areSame 77 = .ok (.iload 5, 2) := by decide +kernel
theorem dX4_areSame_79 : decode cX4_areSame 79 = .ok (.iadd, 1) := by decide +kernel
theorem dX4_areSame_80 : decode cX4_areSame 80 = .ok (.iaload, 1) := by decide +kernel
theorem dX4_areSame_81 : decode cX4_areSame 81 = .ok (.if_icmp .eq 5, 3) := by decide +kernel
theorem dX4_areSame_84 : decode cX4_areSame 84 = .ok (.iconst 0, 1) := by decide +kernel
theorem dX4_areSame_85 : decode cX4_areSame 85 = .ok (.ireturn, 1) := by decide +kernel
theorem dX4_areSame_86 : decode cX4_areSame 86 = .ok (.iinc 5 1, 3) := by decide +kernel
theorem dX4_areSame_89 : decode cX4_areSame 89 = .ok (.goto (-38), 3) := by decide +kernel
theorem dX4_areSame_92 : decode cX4_areSame 92 = .ok (.iconst 1, 1) := by decide +kernel
theorem dX4_areSame_93 : decode cX4_areSame 93 = .ok (.ireturn, 1) := by decide +kernel
theorem dX4_sameAtFront_0 : decode cX4_sameAtFront 0 = .ok (.aload_n 0, 1) := by decide +kernel
theorem dX4_sameAtFront_1 : decode cX4_sameAtFront 1 = .ok (.iconst 0, 1) := by decide +kernel
theorem dX4_sameAtFront_2 : decode cX4_sameAtFront 2 = .ok (.putfield 74, 3) := by decide +kernel
theorem dX4_sameAtFront_5 : decode cX4_sameAtFront 5 = .ok (.aload_n 0, 1) := by decide +kernel
theorem dX4_sameAtFront_6 : decode cX4_sameAtFront 6 = .ok (.iload_n 1, 1) := by decide +kernel
theorem dX4_sameAtFront_7 : decode cX4_sameAtFront 7 = .ok (.invokevirtual 96, 3) := by decide +kernel
theorem dX4_sameAtFront_10 : decode cX4_sameAtFront 10 = .ok (.ifCond .eq 11, 3) := by decide +kernel
theorem dX4_sameAtFront_13 : decode cX4_sameAtFront 13 = .ok (.aload_n 0, 1) := by decide +kernel
theorem dX4_sameAtFront_14 : decode cX4_sameAtFront 14 = .ok (.iload_n 2, 1) := by decide +kernel
theorem dX4_sameAtFront_15 : decode cX4_sameAtFront 15 = .ok (.invokevirtual 96, 3) := by decide +kernel
theorem dX4_sameAtFront_18 : decode cX4_sameAtFront 18 = .ok (.ifCond .ne 9, 3) := by decide +kernel
theorem dX4_sameAtFront_21 : decode cX4_sameAtFront 21 = .ok (.aload_n 0, 1) := by decide +kernel
theorem dX4_sameAtFront_22 : decode cX4_sameAtFront 22 = .ok (.iconst 1, 1) := by decide +kernel
theorem dX4_sameAtFront_23 : decode cX4_sameAtFront 23 = .ok (.invokevirtual 85, 3) := by decide +kernel
theorem dX4_sameAtFront_26 : decode cX4_sameAtFront 26 = .ok (.ireturn, 1) := by decide +kernel
theorem dX4_sameAtFront_27 : decode cX4_sameAtFront 27 = .ok (.iconst 0, 1) := by decide +kernel
theorem dX4_sameAtFront_28 : decode cX4_sameAtFront 28 = .ok (.istore_n 3, 1) := by decide +kernel
theorem dX4_sameAtFront_29 : decode cX4_sameAtFront 29 = .ok (.iload_n 3, 1) := by decide +kernel
theorem dX4_sameAtFront_30 : decode cX4_sameAtFront 30 = .ok (.aload_n 0, 1) := by decide +kernel
theorem dX4_sameAtFront_31 : decode cX4_sameAtFront 31 = .ok (.getfield 19, 3) := by decide +kernel
theorem dX4_sameAtFront_34 : decode cX4_sameAtFront 34 = .ok (.iload_n 1, 1) := by decide +kernel
theorem dX4_sameAtFront_35 : decode cX4_sameAtFront 35 = .ok (.iaload, 1) := by decide +kernel
theorem dX4_sameAtFront_36 : decode cX4_sameAtFront 36 = .ok (.if_icmp .ge 38, 3) := by decide +kernel
theorem dX4_sameAtFront_39 : decode cX4_sameAtFront 39 = .ok (.iload_n 3, 1) := by decide +kernel
theorem dX4_sameAtFront_40 : decode cX4_sameAtFront 40 = .ok (.aload_n 0, 1) := by decide +kernel
theorem dX4_sameAtFront_41 : decode cX4_sameAtFront 41 = .ok (.getfield 19, 3) := by decide +kernel
theorem dX4_sameAtFront_44 : decode cX4_sameAtFront 44 = .ok (.iload_n 2, 1) := by decide +kernel
theorem dX4_sameAtFront_45 : decode cX4_sameAtFront 45 = .ok (.iaload, 1) := by decide +kernel
theorem dX4_sameAtFront_46 : decode cX4_sameAtFront 46 = .ok (.if_icmp .ge 28, 3) := by decide +kernel
theorem dX4_sameAtFront_49 : decode cX4_sameAtFront 49 = .ok (.aload_n 0, 1) := by decide +kernel
theorem dX4_sameAtFront_50 : decode cX4_sameAtFront 50 = .ok (.bipush 30, 2) := by decide +kernel
theorem dX4_sameAtFront_52 : decode cX4_sameAtFront 52 = .ok (.iload_n 1, 1) := by decide +kernel
theorem dX4_sameAtFront_53 : decode cX4_sameAtFront 53 = .ok (.imul, 1) := by decide +kernel
theorem dX4_sameAtFront_54 : decode cX4_sameAtFront 54 = .ok (.iload_n 3, 1) := by decide +kernel
theorem dX4_sameAtFront_55 : decode cX4_sameAtFront 55 = .ok (.iadd, 1) := by decide +kernel
theorem dX4_sameAtFront_56 : decode cX4_sameAtFront 56 = .ok (.bipush 30, 2) := by decide +kernel
theorem dX4_sameAtFront_58 : decode cX4_sameAtFront 58 = .ok (.iload_n 2, 1) := by decide +kernel
theorem dX4_sameAtFront_59 : decode cX4_sameAtFront 59 = .ok (.imul, 1) := by decide +kernel
theorem dX4_sameAtFront_60 : decode cX4_sameAtFront 60 = .ok (.iload_n 3, 1) := by decide +kernel
theorem dX4_sameAtFront_61 : decode cX4_sameAtFront 61 = .ok (.iadd, 1) := by decide +kernel
theorem dX4_sameAtFront_62 : decode cX4_sameAtFront 62 = .ok (.invokevirtual 104, 3) := by decide +kernel
theorem dX4_sameAtFront_65 : decode cX4_sameAtFront 65 = .ok (.ifCond .eq 9, 3) := by decide +kernel
theorem dX4_sameAtFront_68 : decode cX4_sameAtFront 68 = .ok (.iinc 3 1, 3) := by decide +kernel
theorem dX4_sameAtFront_71 : decode cX4_sameAtFront 71 = .ok (.goto (-42), 3) := by decide +kernel
theorem dX4_sameAtFront_74 : decode cX4_sameAtFront 74 = .ok (.iload_n 3, 1) := by decide +kernel
theorem dX4_sameAtFront_75 : decode cX4_sameAtFront 75 = .ok (.ireturn, 1) := by decide +kernel
theorem dX4_at_0 : decode cX4_at 0 = .ok (.bipush 40, 2) := by decide +kernel
theorem dX4_at_2 : decode cX4_at 2 = .ok (.iload_n 0, 1) := by decide +kernel
theorem dX4_at_3 : decode cX4_at 3 = .ok (.imul, 1) := by decide +kernel
theorem dX4_at_4 : decode cX4_at 4 = .ok (.iload_n 1, 1) := by decide +kernel
theorem dX4_at_5 : decode cX4_at 5 = .ok (.iadd, 1) := by decide +kernel
theorem dX4_at_6 : decode cX4_at 6 = .ok (.ireturn, 1) := by decide +kernel
theorem dX4_tokenOf_0 : decode cX4_tokenOf 0 = .ok (.aload_n 0, 1) := by decide +kernel
theorem dX4_tokenOf_1 : decode cX4_tokenOf 1 = .ok (.getfield 53, 3) := by decide +kernel
theorem dX4_tokenOf_4 : decode cX4_tokenOf 4 = .ok (.bipush 12, 2) := by decide +kernel
theorem dX4_tokenOf_6 : decode cX4_tokenOf 6 = .ok (.iload_n 1, 1) := by decide +kernel
theorem dX4_tokenOf_7 : decode cX4_tokenOf 7 = .ok (.iload_n 2, 1) := by decide +kernel
theorem dX4_tokenOf_8 : decode cX4_tokenOf 8 = .ok (.invokestatic 107, 3) := by decide +kernel
theorem dX4_tokenOf_11 : decode cX4_tokenOf 11 = .ok (.imul, 1) := by decide +kernel
theorem dX4_tokenOf_12 : decode cX4_tokenOf 12 = .ok (.iload_n 3, 1) := by decide +kernel
theorem dX4_tokenOf_13 : decode cX4_tokenOf 13 = .ok (.iadd, 1) := by decide +kernel
theorem dX4_tokenOf_14 : decode cX4_tokenOf 14 = .ok (.iaload, 1) := by decide +kernel
theorem dX4_tokenOf_15 : decode cX4_tokenOf 15 = .ok (.ireturn, 1) := by decide +kernel
theorem dX4_usesOf_0 : decode cX4_usesOf 0 = .ok (.iconst 0, 1) := by decide +kernel
theorem dX4_usesOf_1 : decode cX4_usesOf 1 = .ok (.istore_n 3, 1) := by decide +kernel
theorem dX4_usesOf_2 : decode cX4_usesOf 2 = .ok (.iconst 0, 1) := by decide +kernel
theorem dX4_usesOf_3 : decode cX4_usesOf 3 = .ok (.istore 4, 2) := by decide +kernel
theorem dX4_usesOf_5 : decode cX4_usesOf 5 = .ok (.iload 4, 2) := by decide +kernel
theorem dX4_usesOf_7 : decode cX4_usesOf 7 = .ok (.aload_n 0, 1) := by decide +kernel
theorem dX4_usesOf_8 : decode cX4_usesOf 8 = .ok (.getfield 77, 3) := by decide +kernel
theorem dX4_usesOf_11 : decode cX4_usesOf 11 = .ok (.if_icmp .ge 29, 3) := by decide +kernel
theorem dX4_usesOf_14 : decode cX4_usesOf 14 = .ok (.iload_n 3, 1) := by decide +kernel
theorem dX4_usesOf_15 : decode cX4_usesOf 15 = .ok (.aload_n 0, 1) := by decide +kernel
theorem dX4_usesOf_16 : decode cX4_usesOf 16 = .ok (.iload_n 1, 1) := by decide +kernel
theorem dX4_usesOf_17 : decode cX4_usesOf 17 = .ok (.iload_n 2, 1) := by decide +kernel
theorem dX4_usesOf_18 : decode cX4_usesOf 18 = .ok (.iload 4, 2) := by decide +kernel
theorem dX4_usesOf_20 : decode cX4_usesOf 20 = .ok (.invokevirtual 111, 3) := by decide +kernel
theorem dX4_usesOf_23 : decode cX4_usesOf 23 = .ok (.iconst (-1), 1) := by decide +kernel
theorem dX4_usesOf_24 : decode cX4_usesOf 24 = .ok (.if_icmp .ne 7, 3) := by decide +kernel
theorem dX4_usesOf_27 : decode cX4_usesOf 27 = .ok (.iconst 0, 1) := by decide +kernel
theorem dX4_usesOf_28 : decode cX4_usesOf 28 = .ok (.goto 4, 3) := by decide +kernel
theorem dX4_usesOf_31 : decode cX4_usesOf 31 = .ok (.iconst 1, 1) := by decide +kernel
theorem dX4_usesOf_32 : decode cX4_usesOf 32 = .ok (.iadd, 1) := by decide +kernel
theorem dX4_usesOf_33 : decode cX4_usesOf 33 = .ok (.istore_n 3, 1) := by decide +kernel
theorem dX4_usesOf_34 : decode cX4_usesOf 34 = .ok (.iinc 4 1, 3) := by decide +kernel
theorem dX4_usesOf_37 : decode cX4_usesOf 37 = .ok (.goto (-32), 3) := by decide +kernel
theorem dX4_usesOf_40 : decode cX4_usesOf 40 = .ok (.iload_n 3, 1) := by decide +kernel
theorem dX4_usesOf_41 : decode cX4_usesOf 41 = .ok (.ireturn, 1) := by decide +kernel
theorem dX4_isFree_0 : decode cX4_isFree 0 = .ok (.aload_n 0, 1) := by decide +kernel
theorem dX4_isFree_1 : decode cX4_isFree 1 = .ok (.iload_n 1, 1) := by decide +kernel
theorem dX4_isFree_2 : decode cX4_isFree 2 = .ok (.iload_n 2, 1) := by decide +kernel
theorem dX4_isFree_3 : decode cX4_isFree 3 = .ok (.invokevirtual 115, 3) := by decide +kernel
theorem dX4_isFree_6 : decode cX4_isFree 6 = .ok (.aload_n 0, 1) := by decide +kernel
theorem dX4_isFree_7 : decode cX4_isFree 7 = .ok (.getfield 44, 3) := by decide +kernel
theorem dX4_isFree_10 : decode cX4_isFree 10 = .ok (.iload_n 1, 1) := by decide +kernel
theorem dX4_isFree_11 : decode cX4_isFree 11 = .ok (.iaload, 1) := by decide +kernel
theorem dX4_isFree_12 : decode cX4_isFree 12 = .ok (.invokestatic 118, 3) := by decide +kernel
theorem dX4_isFree_15 : decode cX4_isFree 15 = .ok (.if_icmp .ge 7, 3) := by decide +kernel
theorem dX4_isFree_18 : decode cX4_isFree 18 = .ok (.iconst 1, 1) := by decide +kernel
theorem dX4_isFree_19 : decode cX4_isFree 19 = .ok (.goto 4, 3) := by decide +kernel
theorem dX4_isFree_22 : decode cX4_isFree 22 = .ok (.iconst 0, 1) := by decide +kernel
theorem dX4_isFree_23 : decode cX4_isFree 23 = .ok (.ireturn, 1) := by decide +kernel
theorem dX4_cell_0 : decode cX4_cell 0 = .ok (.bipush 31, 2) := by decide +kernel
theorem dX4_cell_2 : decode cX4_cell 2 = .ok (.iload_n 0, 1) := by decide +kernel
theorem dX4_cell_3 : decode cX4_cell 3 = .ok (.imul, 1) := by decide +kernel
theorem dX4_cell_4 : decode cX4_cell 4 = .ok (.iload_n 1, 1) := by decide +kernel
theorem dX4_cell_5 : decode cX4_cell 5 = .ok (.iadd, 1) := by decide +kernel
theorem dX4_cell_6 : decode cX4_cell 6 = .ok (.ireturn, 1) := by decide +kernel
theorem dX4_costOf_0 : decode cX4_costOf 0 = .ok (.iload_n 1, 1) := by decide +kernel
theorem dX4_costOf_1 : decode cX4_costOf 1 = .ok (.ifCond .ne 112, 3) := by decide +kernel
theorem dX4_costOf_4 : decode cX4_costOf 4 = .ok (.iload 4, 2) := by decide +kernel
theorem dX4_costOf_6 : decode cX4_costOf 6 = .ok (.ifCond .eq 8, 3) := by decide +kernel
theorem dX4_costOf_9 : decode cX4_costOf 9 = .ok (.iload 5, 2) := by decide +kernel
theorem dX4_costOf_11 : decode cX4_costOf 11 = .ok (.ifCond .ne 5, 3) := by decide +kernel
theorem dX4_costOf_14 : decode cX4_costOf 14 = .ok (.iconst (-1), 1) := by decide +kernel
theorem dX4_costOf_15 : decode cX4_costOf 15 = .ok (.ireturn, 1) := by decide +kernel
theorem dX4_costOf_16 : decode cX4_costOf 16 = .ok (.iload_n 2, 1) := by decide +kernel
theorem dX4_costOf_17 : decode cX4_costOf 17 = .ok (.iload 4, 2) := by decide +kernel
theorem dX4_costOf_19 : decode cX4_costOf 19 = .ok (.iconst 1, 1) := by decide +kernel
theorem dX4_costOf_20 : decode cX4_costOf 20 = .ok (.isub, 1) := by decide +kernel
theorem dX4_costOf_21 : decode cX4_costOf 21 = .ok (.invokestatic 107, 3) := by decide +kernel
theorem dX4_costOf_24 : decode cX4_costOf 24 = .ok (.istore 6, 2) := by decide +kernel
theorem dX4_costOf_26 : decode cX4_costOf 26 = .ok (.bipush 30, 2) := by decide +kernel
theorem dX4_costOf_28 : decode cX4_costOf 28 = .ok (.iload_n 3, 1) := by decide +kernel
theorem dX4_costOf_29 : decode cX4_costOf 29 = .ok (.imul, 1) := by decide +kernel
theorem dX4_costOf_30 : decode cX4_costOf 30 = .ok (.iload 5, 2) := by decide +kernel
theorem dX4_costOf_32 : decode cX4_costOf 32 = .ok (.iadd, 1) := by decide +kernel
theorem dX4_costOf_33 : decode cX4_costOf 33 = .ok (.iconst 1, 1) := by decide +kernel
theorem dX4_costOf_34 : decode cX4_costOf 34 = .ok (.isub, 1) := by decide +kernel
theorem dX4_costOf_35 : decode cX4_costOf 35 = .ok (.istore 7, 2) := by decide +kernel
theorem dX4_costOf_37 : decode cX4_costOf 37 = .ok (.aload_n 0, 1) := by decide +kernel
theorem dX4_costOf_38 : decode cX4_costOf 38 = .ok (.getfield 47, 3) := by decide +kernel
theorem dX4_costOf_41 : decode cX4_costOf 41 = .ok (.iload 6, 2) := by decide +kernel
theorem dX4_costOf_43 : decode cX4_costOf 43 = .ok (.iaload, 1) := by decide +kernel
theorem dX4_costOf_44 : decode cX4_costOf 44 = .ok (.aload_n 0, 1) := by decide +kernel
theorem dX4_costOf_45 : decode cX4_costOf 45 = .ok (.getfield 22, 3) := by decide +kernel
theorem dX4_costOf_48 : decode cX4_costOf 48 = .ok (.iload 7, 2) := by decide +kernel
theorem dX4_costOf_50 : decode cX4_costOf 50 = .ok (.iaload, 1) := by decide +kernel
theorem dX4_costOf_51 : decode cX4_costOf 51 = .ok (.if_icmp .eq 5, 3) := by decide +kernel
theorem dX4_costOf_54 : decode cX4_costOf 54 = .ok (.iconst (-1), 1) := by decide +kernel
theorem dX4_costOf_55 : decode cX4_costOf 55 = .ok (.ireturn, 1) := by decide +kernel
theorem dX4_costOf_56 : decode cX4_costOf 56 = .ok (.aload_n 0, 1) := by decide +kernel
theorem dX4_costOf_57 : decode cX4_costOf 57 = .ok (.getfield 59, 3) := by decide +kernel
theorem dX4_costOf_60 : decode cX4_costOf 60 = .ok (.iload 4, 2) := by decide +kernel
theorem dX4_costOf_62 : decode cX4_costOf 62 = .ok (.iconst 1, 1) := by decide +kernel
theorem dX4_costOf_63 : decode cX4_costOf 63 = .ok (.isub, 1) := by decide +kernel
theorem dX4_costOf_64 : decode cX4_costOf 64 = .ok (.iload 5, 2) := by decide +kernel
theorem dX4_costOf_66 : decode cX4_costOf 66 = .ok (.iconst 1, 1) := by decide +kernel
theorem dX4_costOf_67 : decode cX4_costOf 67 = .ok (.isub, 1) := by decide +kernel
theorem dX4_costOf_68 : decode cX4_costOf 68 = .ok (.invokestatic 123, 3) := by decide +kernel
theorem dX4_costOf_71 : decode cX4_costOf 71 = .ok (.iaload, 1) := by decide +kernel
theorem dX4_costOf_72 : decode cX4_costOf 72 = .ok (.aload_n 0, 1) := by decide +kernel
theorem dX4_costOf_73 : decode cX4_costOf 73 = .ok (.getfield 50, 3) := by decide +kernel
theorem dX4_costOf_76 : decode cX4_costOf 76 = .ok (.iload 6, 2) := by decide +kernel
theorem dX4_costOf_78 : decode cX4_costOf 78 = .ok (.iaload, 1) := by decide +kernel
theorem dX4_costOf_79 : decode cX4_costOf 79 = .ok (.iconst (-1), 1) := by decide +kernel
theorem dX4_costOf_80 : decode cX4_costOf 80 = .ok (.if_icmp .ne 7, 3) := by decide +kernel
theorem dX4_costOf_83 : decode cX4_costOf 83 = .ok (.iconst 1, 1) := by decide +kernel
theorem dX4_costOf_84 : decode cX4_costOf 84 = .ok (.goto 27, 3) := by decide +kernel
theorem dX4_costOf_87 : decode cX4_costOf 87 = .ok (.aload_n 0, 1) := by decide +kernel
theorem dX4_costOf_88 : decode cX4_costOf 88 = .ok (.aload_n 0, 1) := by decide +kernel
theorem dX4_costOf_89 : decode cX4_costOf 89 = .ok (.getfield 50, 3) := by decide +kernel
theorem dX4_costOf_92 : decode cX4_costOf 92 = .ok (.iload 6, 2) := by decide +kernel
theorem dX4_costOf_94 : decode cX4_costOf 94 = .ok (.iaload, 1) := by decide +kernel
theorem dX4_costOf_95 : decode cX4_costOf 95 = .ok (.iload 7, 2) := by decide +kernel
theorem dX4_costOf_97 : decode cX4_costOf 97 = .ok (.invokevirtual 104, 3) := by decide +kernel
theorem dX4_costOf_100 : decode cX4_costOf 100 = .ok (.ifCond .eq 7, 3) := by decide +kernel
theorem dX4_costOf_103 : decode cX4_costOf 103 = .ok (.iconst 0, 1) := by decide +kernel
theorem dX4_costOf_104 : decode cX4_costOf 104 = .ok (.goto 7, 3) := by decide +kernel
theorem dX4_costOf_107 : decode cX4_costOf 107 = .ok (.aload_n 0, 1) := by decide +kernel
theorem dX4_costOf_108 : decode cX4_costOf 108 = .ok (.getfield 31, 3) := by decide +kernel
theorem dX4_costOf_111 : decode cX4_costOf 111 = .ok (.iadd, 1) := by decide +kernel
theorem dX4_costOf_112 : decode cX4_costOf 112 = .ok (.ireturn, 1) := by decide +kernel
theorem dX4_costOf_113 : decode cX4_costOf 113 = .ok (.iload_n 1, 1) := by decide +kernel
theorem dX4_costOf_114 : decode cX4_costOf 114 = .ok (.iconst 1, 1) := by decide +kernel
theorem dX4_costOf_115 : decode cX4_costOf 115 = .ok (.if_icmp .ne 48, 3) := by decide +kernel
theorem dX4_costOf_118 : decode cX4_costOf 118 = .ok (.iload 4, 2) := by decide +kernel
theorem dX4_costOf_120 : decode cX4_costOf 120 = .ok (.ifCond .ne 7, 3) := by decide +kernel
theorem dX4_costOf_123 : decode cX4_costOf 123 = .ok (.iconst (-1), 1) := by decide +kernel
theorem dX4_costOf_124 : decode cX4_costOf 124 = .ok (.goto 38, 3) := by decide +kernel
theorem dX4_costOf_127 : decode cX4_costOf 127 = .ok (.aload_n 0, 1) := by decide +kernel
theorem dX4_costOf_128 : decode cX4_costOf 128 = .ok (.getfield 59, 3) := by decide +kernel
theorem dX4_costOf_131 : decode cX4_costOf 131 = .ok (.iload 4, 2) := by decide +kernel
theorem dX4_costOf_133 : decode cX4_costOf 133 = .ok (.iconst 1, 1) := by decide +kernel
theorem dX4_costOf_134 : decode cX4_costOf 134 = .ok (.isub, 1) := by decide +kernel
theorem dX4_costOf_135 : decode cX4_costOf 135 = .ok (.iload 5, 2) := by decide +kernel
theorem dX4_costOf_137 : decode cX4_costOf 137 = .ok (.invokestatic 123, 3) := by decide +kernel
theorem dX4_costOf_140 : decode cX4_costOf 140 = .ok (.iaload, 1) := by decide +kernel
theorem dX4_costOf_141 : decode cX4_costOf 141 = .ok (.aload_n 0, 1) := by decide +kernel
theorem dX4_costOf_142 : decode cX4_costOf 142 = .ok (.iload_n 2, 1) := by decide +kernel
theorem dX4_costOf_143 : decode cX4_costOf 143 = .ok (.iload 4, 2) := by decide +kernel
theorem dX4_costOf_145 : decode cX4_costOf 145 = .ok (.iconst 1, 1) := by decide +kernel
theorem dX4_costOf_146 : decode cX4_costOf 146 = .ok (.isub, 1) := by decide +kernel
theorem dX4_costOf_147 : decode cX4_costOf 147 = .ok (.invokevirtual 126, 3) := by decide +kernel
theorem dX4_costOf_150 : decode cX4_costOf 150 = .ok (.ifCond .eq 7, 3) := by decide +kernel
theorem dX4_costOf_153 : decode cX4_costOf 153 = .ok (.iconst 1, 1) := by decide +kernel
theorem dX4_costOf_154 : decode cX4_costOf 154 = .ok (.goto 7, 3) := by decide +kernel
theorem dX4_costOf_157 : decode cX4_costOf 157 = .ok (.aload_n 0, 1) := by decide +kernel
theorem dX4_costOf_158 : decode cX4_costOf 158 = .ok (.getfield 35, 3) := by decide +kernel
theorem dX4_costOf_161 : decode cX4_costOf 161 = .ok (.iadd, 1) := by decide +kernel
theorem dX4_costOf_162 : decode cX4_costOf 162 = .ok (.ireturn, 1) := by decide +kernel
theorem dX4_costOf_163 : decode cX4_costOf 163 = .ok (.iload 5, 2) := by decide +kernel
theorem dX4_costOf_165 : decode cX4_costOf 165 = .ok (.ifCond .ne 7, 3) := by decide +kernel
theorem dX4_costOf_168 : decode cX4_costOf 168 = .ok (.iconst (-1), 1) := by decide +kernel
theorem dX4_costOf_169 : decode cX4_costOf 169 = .ok (.goto 22, 3) := by decide +kernel
theorem dX4_costOf_172 : decode cX4_costOf 172 = .ok (.aload_n 0, 1) := by decide +kernel
theorem dX4_costOf_173 : decode cX4_costOf 173 = .ok (.getfield 59, 3) := by decide +kernel
theorem dX4_costOf_176 : decode cX4_costOf 176 = .ok (.iload 4, 2) := by decide +kernel
theorem dX4_costOf_178 : decode cX4_costOf 178 = .ok (.iload 5, 2) := by decide +kernel
theorem dX4_costOf_180 : decode cX4_costOf 180 = .ok (.iconst 1, 1) := by decide +kernel
theorem dX4_costOf_181 : decode cX4_costOf 181 = .ok (.isub, 1) := by decide +kernel
theorem dX4_costOf_182 : decode cX4_costOf 182 = .ok (.invokestatic 123, 3) := by decide +kernel
theorem dX4_costOf_185 : decode cX4_costOf 185 = .ok (.iaload, 1) := by decide +kernel
theorem dX4_costOf_186 : decode cX4_costOf 186 = .ok (.aload_n 0, 1) := by decide +kernel
theorem dX4_costOf_187 : decode cX4_costOf 187 = .ok (.getfield 38, 3) := by decide +kernel
theorem dX4_costOf_190 : decode cX4_costOf 190 = .ok (.iadd, 1) := by decide +kernel
theorem dX4_costOf_191 : decode cX4_costOf 191 = .ok (.ireturn, 1) := by decide +kernel
theorem dX4_align_0 : decode cX4_align 0 = .ok (.iconst 0, 1) := by decide +kernel
theorem dX4_align_1 : decode cX4_align 1 = .ok (.istore_n 3, 1) := by decide +kernel
theorem dX4_align_2 : decode cX4_align 2 = .ok (.iload_n 3, 1) := by decide +kernel
theorem dX4_align_3 : decode cX4_align 3 = .ok (.aload_n 0, 1) := by decide +kernel
theorem dX4_align_4 : decode cX4_align 4 = .ok (.getfield 41, 3) := by decide +kernel
theorem dX4_align_7 : decode cX4_align 7 = .ok (.iload_n 1, 1) := by decide +kernel
theorem dX4_align_8 : decode cX4_align 8 = .ok (.iaload, 1) := by decide +kernel
theorem dX4_align_9 : decode cX4_align 9 = .ok (.if_icmp .gt 100, 3) := by decide +kernel
theorem dX4_align_12 : decode cX4_align 12 = .ok (.iconst 0, 1) := by decide +kernel
theorem dX4_align_13 : decode cX4_align 13 = .ok (.istore 4, 2) := by decide +kernel
theorem dX4_align_15 : decode cX4_align 15 = .ok (.iload 4, 2) := by decide +kernel
theorem dX4_align_17 : decode cX4_align 17 = .ok (.aload_n 0, 1) := by decide +kernel
theorem dX4_align_18 : decode cX4_align 18 = .ok (.getfield 19, 3) := by decide +kernel
theorem dX4_align_21 : decode cX4_align 21 = .ok (.iload_n 2, 1) := by decide +kernel
theorem dX4_align_22 : decode cX4_align 22 = .ok (.iaload, 1) := by decide +kernel
theorem dX4_align_23 : decode cX4_align 23 = .ok (.if_icmp .gt 80, 3) := by decide +kernel
theorem dX4_align_26 : decode cX4_align 26 = .ok (.iload_n 3, 1) := by decide +kernel
theorem dX4_align_27 : decode cX4_align 27 = .ok (.iload 4, 2) := by decide +kernel
theorem dX4_align_29 : decode cX4_align 29 = .ok (.iadd, 1) := by decide +kernel
theorem dX4_align_30 : decode cX4_align 30 = .ok (.ifCond .ne 7, 3) := by decide +kernel
theorem dX4_align_33 : decode cX4_align 33 = .ok (.iconst 0, 1) := by decide +kernel
theorem dX4_align_34 : decode cX4_align 34 = .ok (.goto 5, 3) := by decide +kernel
theorem dX4_align_37 : decode cX4_align 37 = .ok (.ldc 129, 2) := by decide +kernel
theorem dX4_align_39 : decode cX4_align 39 = .ok (.istore 5, 2) := by decide +kernel
theorem dX4_align_41 : decode cX4_align 41 = .ok (.iconst 0, 1) := by decide +kernel
theorem dX4_align_42 : decode cX4_align 42 = .ok (.istore 6, 2) := by decide +kernel
theorem dX4_align_44 : decode cX4_align 44 = .ok (.iload 6, 2) := by decide +kernel
theorem dX4_align_46 : decode cX4_align 46 = .ok (.iconst 2, 1) := by decide +kernel
theorem dX4_align_47 : decode cX4_align 47 = .ok (.if_icmp .gt 37, 3) := by decide +kernel
theorem dX4_align_50 : decode cX4_align 50 = .ok (.aload_n 0, 1) := by decide +kernel
theorem dX4_align_51 : decode cX4_align 51 = .ok (.iload 6, 2) := by decide +kernel
theorem dX4_align_53 : decode cX4_align 53 = .ok (.iload_n 1, 1) := by decide +kernel
theorem dX4_align_54 : decode cX4_align 54 = .ok (.iload_n 2, 1) := by decide +kernel
theorem dX4_align_55 : decode cX4_align 55 = .ok (.iload_n 3, 1) := by decide +kernel
theorem dX4_align_56 : decode cX4_align 56 = .ok (.iload 4, 2) := by decide +kernel
theorem dX4_align_58 : decode cX4_align 58 = .ok (.invokevirtual 130, 3) := by decide +kernel
theorem dX4_align_61 : decode cX4_align 61 = .ok (.istore 7, 2) := by decide +kernel
theorem dX4_align_63 : decode cX4_align 63 = .ok (.iload 7, 2) := by decide +kernel
theorem dX4_align_65 : decode cX4_align 65 = .ok (.iconst (-1), 1) := by decide +kernel
theorem dX4_align_66 : decode cX4_align 66 = .ok (.if_icmp .eq 12, 3) := by decide +kernel
theorem dX4_align_69 : decode cX4_align 69 = .ok (.iload 5, 2) := by decide +kernel
theorem dX4_align_71 : decode cX4_align 71 = .ok (.iload 7, 2) := by decide +kernel
theorem dX4_align_73 : decode cX4_align 73 = .ok (.invokestatic 134, 3) := by decide +kernel
theorem dX4_align_76 : decode cX4_align 76 = .ok (.istore 5, 2) := by decide +kernel
theorem dX4_align_78 : decode cX4_align 78 = .ok (.iinc 6 1, 3) := by decide +kernel
theorem dX4_align_81 : decode cX4_align 81 = .ok (.goto (-37), 3) := by decide +kernel
theorem dX4_align_84 : decode cX4_align 84 = .ok (.aload_n 0, 1) := by decide +kernel
theorem dX4_align_85 : decode cX4_align 85 = .ok (.getfield 59, 3) := by decide +kernel
theorem dX4_align_88 : decode cX4_align 88 = .ok (.iload_n 3, 1) := by decide +kernel
theorem dX4_align_89 : decode cX4_align 89 = .ok (.iload 4, 2) := by decide +kernel
theorem dX4_align_91 : decode cX4_align 91 = .ok (.invokestatic 123, 3) := by decide +kernel
theorem dX4_align_94 : decode cX4_align 94 = .ok (.iload 5, 2) := by decide +kernel
theorem dX4_align_96 : decode cX4_align 96 = .ok (.iastore, 1) := by decide +kernel
theorem dX4_align_97 : decode cX4_align 97 = .ok (.iinc 4 1, 3) := by decide +kernel
theorem dX4_align_100 : decode cX4_align 100 = .ok (.goto (-85), 3) := by decide +kernel
theorem dX4_align_103 : decode cX4_align 103 = .ok (.iinc 3 1, 3) := by decide +kernel
theorem dX4_align_106 : decode cX4_align 106 = .ok (.goto (-104), 3) := by decide +kernel
theorem dX4_align_109 : decode cX4_align 109 = .ok (.aload_n 0, 1) := by decide +kernel
theorem dX4_align_110 : decode cX4_align 110 = .ok (.getfield 59, 3) := by decide +kernel
theorem dX4_align_113 : decode cX4_align 113 = .ok (.aload_n 0, 1) := by decide +kernel
theorem dX4_align_114 : decode cX4_align 114 = .ok (.getfield 41, 3) := by decide +kernel
theorem dX4_align_117 : decode cX4_align 117 = .ok (.iload_n 1, 1) := by decide +kernel
theorem dX4_align_118 : decode cX4_align 118 = .ok (.iaload, 1) := by decide +kernel
theorem dX4_align_119 : decode cX4_align 119 = .ok (.aload_n 0, 1) := by decide +kernel
theorem dX4_align_120 : decode cX4_align 120 = .ok (.getfield 19, 3) := by decide +kernel
theorem dX4_align_123 : decode cX4_align 123 = .ok (.iload_n 2, 1) := by decide +kernel
theorem dX4_align_124 : decode cX4_align 124 = .ok (.iaload, 1) := by decide +kernel
theorem dX4_align_125 : decode cX4_align 125 = .ok (.invokestatic 123, 3) := by decide +kernel
theorem dX4_align_128 : decode cX4_align 128 = .ok (.iaload, 1) := by decide +kernel
theorem dX4_align_129 : decode cX4_align 129 = .ok (.ireturn, 1) := by decide +kernel
theorem dX4_follow_0 : decode cX4_follow 0 = .ok (.aload_n 0, 1) := by decide +kernel
theorem dX4_follow_1 : decode cX4_follow 1 = .ok (.getfield 41, 3) := by decide +kernel
theorem dX4_follow_4 : decode cX4_follow 4 = .ok (.iload_n 1, 1) := by decide +kernel
theorem dX4_follow_5 : decode cX4_follow 5 = .ok (.iaload, 1) := by decide +kernel
theorem dX4_follow_6 : decode cX4_follow 6 = .ok (.istore_n 3, 1) := by decide +kernel
theorem dX4_follow_7 : decode cX4_follow 7 = .ok (.aload_n 0, 1) := by decide +kernel
theorem dX4_follow_8 : decode cX4_follow 8 = .ok (.getfield 19, 3) := by decide +kernel
theorem dX4_follow_11 : decode cX4_follow 11 = .ok (.iload_n 2, 1) := by decide +kernel
theorem dX4_follow_12 : decode cX4_follow 12 = .ok (.iaload, 1) := by decide +kernel
theorem dX4_follow_13 : decode cX4_follow 13 = .ok (.istore 4, 2) := by decide +kernel
theorem dX4_follow_15 : decode cX4_follow 15 = .ok (.aload_n 0, 1) := by decide +kernel
theorem dX4_follow_16 : decode cX4_follow 16 = .ok (.iconst 0, 1) := by decide +kernel
theorem dX4_follow_17 : decode cX4_follow 17 = .ok (.putfield 139, 3) := by decide +kernel
theorem dX4_follow_20 : decode cX4_follow 20 = .ok (.iload_n 3, 1) := by decide +kernel
theorem dX4_follow_21 : decode cX4_follow 21 = .ok (.iload 4, 2) := by decide +kernel
theorem dX4_follow_23 : decode cX4_follow 23 = .ok (.iadd, 1) := by decide +kernel
theorem dX4_follow_24 : decode cX4_follow 24 = .ok (.ifCond .le 91, 3) := by decide +kernel
theorem dX4_follow_27 : decode cX4_follow 27 = .ok (.iconst 0, 1) := by decide +kernel
theorem dX4_follow_28 : decode cX4_follow 28 = .ok (.istore 5, 2) := by decide +kernel
theorem dX4_follow_30 : decode cX4_follow 30 = .ok (.aload_n 0, 1) := by decide +kernel
theorem dX4_follow_31 : decode cX4_follow 31 = .ok (.iload 5, 2) := by decide +kernel
theorem dX4_follow_33 : decode cX4_follow 33 = .ok (.iload_n 1, 1) := by decide +kernel
theorem dX4_follow_34 : decode cX4_follow 34 = .ok (.iload_n 2, 1) := by decide +kernel
theorem dX4_follow_35 : decode cX4_follow 35 = .ok (.iload_n 3, 1) := by decide +kernel
theorem dX4_follow_36 : decode cX4_follow 36 = .ok (.iload 4, 2) := by decide +kernel
theorem dX4_follow_38 : decode cX4_follow 38 = .ok (.invokevirtual 130, 3) := by decide +kernel
theorem dX4_follow_41 : decode cX4_follow 41 = .ok (.aload_n 0, 1) := by decide +kernel
theorem dX4_follow_42 : decode cX4_follow 42 = .ok (.getfield 59, 3) := by decide +kernel
theorem dX4_follow_45 : decode cX4_follow 45 = .ok (.iload_n 3, 1) := by decide +kernel
theorem dX4_follow_46 : decode cX4_follow 46 = .ok (.iload 4, 2) := by decide +kernel
theorem dX4_follow_48 : decode cX4_follow 48 = .ok (.invokestatic 123, 3) := by decide +kernel
theorem dX4_follow_51 : decode cX4_follow 51 = .ok (.iaload, 1) := by decide +kernel
theorem dX4_follow_52 : decode cX4_follow 52 = .ok (.if_icmp .eq 9, 3) := by decide +kernel
theorem dX4_follow_55 : decode cX4_follow 55 = .ok (.iinc 5 1, 3) := by decide +kernel
theorem dX4_follow_58 : decode cX4_follow 58 = .ok (.goto (-28), 3) := by decide +kernel
theorem dX4_follow_61 : decode cX4_follow 61 = .ok (.aload_n 0, 1) := by decide +kernel
theorem dX4_follow_62 : decode cX4_follow 62 = .ok (.getfield 62, 3) := by decide +kernel
theorem dX4_follow_65 : decode cX4_follow 65 = .ok (.aload_n 0, 1) := by decide +kernel
theorem dX4_follow_66 : decode cX4_follow 66 = .ok (.getfield 139, 3) := by decide +kernel
theorem dX4_follow_69 : decode cX4_follow 69 = .ok (.iload 5, 2) := by decide +kernel
theorem dX4_follow_71 : decode cX4_follow 71 = .ok (.iastore, 1) := by decide +kernel
theorem dX4_follow_72 : decode cX4_follow 72 = .ok (.aload_n 0, 1) := by decide +kernel
theorem dX4_follow_73 : decode cX4_follow 73 = .ok (.dup, 1) := by decide +kernel
theorem dX4_follow_74 : decode cX4_follow 74 = .ok (.getfield 139, 3) := by decide +kernel
theorem dX4_follow_77 : decode cX4_follow 77 = .ok (.iconst 1, 1) := by decide +kernel
theorem dX4_follow_78 : decode cX4_follow 78 = .ok (.iadd, 1) := by decide +kernel
theorem dX4_follow_79 : decode cX4_follow 79 = .ok (.putfield 139, 3) := by decide +kernel
theorem dX4_follow_82 : decode cX4_follow 82 = .ok (.iload_n 3, 1) := by decide +kernel
theorem dX4_follow_83 : decode cX4_follow 83 = .ok (.iload 5, 2) := by decide +kernel
theorem dX4_follow_85 : decode cX4_follow 85 = .ok (.iconst 2, 1) := by decide +kernel
theorem dX4_follow_86 : decode cX4_follow 86 = .ok (.if_icmp .ne 7, 3) := by decide +kernel
theorem dX4_follow_89 : decode cX4_follow 89 = .ok (.iconst 0, 1) := by decide +kernel
theorem dX4_follow_90 : decode cX4_follow 90 = .ok (.goto 4, 3) := by decide +kernel
theorem dX4_follow_93 : decode cX4_follow 93 = .ok (.iconst 1, 1) := by decide +kernel
theorem dX4_follow_94 : decode cX4_follow 94 = .ok (.isub, 1) := by decide +kernel
theorem dX4_follow_95 : decode cX4_follow 95 = .ok (.istore_n 3, 1) := by decide +kernel
theorem dX4_follow_96 : decode cX4_follow 96 = .ok (.iload 4, 2) := by decide +kernel
theorem dX4_follow_98 : decode cX4_follow 98 = .ok (.iload 5, 2) := by decide +kernel
theorem dX4_follow_100 : decode cX4_follow 100 = .ok (.iconst 1, 1) := by decide +kernel
theorem dX4_follow_101 : decode cX4_follow 101 = .ok (.if_icmp .ne 7, 3) := by decide +kernel
theorem dX4_follow_104 : decode cX4_follow 104 = .ok (.iconst 0, 1) := by decide +kernel
theorem dX4_follow_105 : decode cX4_follow 105 = .ok (.goto 4, 3) := by decide +kernel
theorem dX4_follow_108 : decode cX4_follow 108 = .ok (.iconst 1, 1) := by decide +kernel
theorem dX4_follow_109 : decode cX4_follow 109 = .ok (.isub, 1) := by decide +kernel
theorem dX4_follow_110 : decode cX4_follow 110 = .ok (.istore 4, 2) := by decide +kernel
theorem dX4_follow_112 : decode cX4_follow 112 = .ok (.goto (-92), 3) := by decide +kernel
theorem dX4_follow_115 : decode cX4_follow 115 = .ok (.return_, 1) := by decide +kernel
theorem dX4_freshSteps_0 : decode cX4_freshSteps 0 = .ok (.iconst 0, 1) := by decide +kernel
theorem dX4_freshSteps_1 : decode cX4_freshSteps 1 = .ok (.istore_n 1, 1) := by decide +kernel
theorem dX4_freshSteps_2 : decode cX4_freshSteps 2 = .ok (.iconst 0, 1) := by decide +kernel
theorem dX4_freshSteps_3 : decode cX4_freshSteps 3 = .ok (.istore_n 2, 1) := by decide +kernel
theorem dX4_freshSteps_4 : decode cX4_freshSteps 4 = .ok (.iload_n 2, 1) := by decide +kernel
theorem dX4_freshSteps_5 : decode cX4_freshSteps 5 = .ok (.aload_n 0, 1) := by decide +kernel
theorem dX4_freshSteps_6 : decode cX4_freshSteps 6 = .ok (.getfield 139, 3) := by decide +kernel
theorem dX4_freshSteps_9 : decode cX4_freshSteps 9 = .ok (.if_icmp .ge 27, 3) := by decide +kernel
theorem dX4_freshSteps_12 : decode cX4_freshSteps 12 = .ok (.iload_n 1, 1) := by decide +kernel
theorem dX4_freshSteps_13 : decode cX4_freshSteps 13 = .ok (.aload_n 0, 1) := by decide +kernel
theorem dX4_freshSteps_14 : decode cX4_freshSteps 14 = .ok (.getfield 62, 3) := by decide +kernel
theorem dX4_freshSteps_17 : decode cX4_freshSteps 17 = .ok (.iload_n 2, 1) := by decide +kernel
theorem dX4_freshSteps_18 : decode cX4_freshSteps 18 = .ok (.iaload, 1) := by decide +kernel
theorem dX4_freshSteps_19 : decode cX4_freshSteps 19 = .ok (.iconst 2, 1) := by decide +kernel
theorem dX4_freshSteps_20 : decode cX4_freshSteps 20 = .ok (.if_icmp .ne 7, 3) := by decide +kernel
theorem dX4_freshSteps_23 : decode cX4_freshSteps 23 = .ok (.iconst 1, 1) := by decide +kernel
theorem dX4_freshSteps_24 : decode cX4_freshSteps 24 = .ok (.goto 4, 3) := by decide +kernel
theorem dX4_freshSteps_27 : decode cX4_freshSteps 27 = .ok (.iconst 0, 1) := by decide +kernel
theorem dX4_freshSteps_28 : decode cX4_freshSteps 28 = .ok (.iadd, 1) := by decide +kernel
theorem dX4_freshSteps_29 : decode cX4_freshSteps 29 = .ok (.istore_n 1, 1) := by decide +kernel
theorem dX4_freshSteps_30 : decode cX4_freshSteps 30 = .ok (.iinc 2 1, 3) := by decide +kernel
theorem dX4_freshSteps_33 : decode cX4_freshSteps 33 = .ok (.goto (-29), 3) := by decide +kernel
theorem dX4_freshSteps_36 : decode cX4_freshSteps 36 = .ok (.iload_n 1, 1) := by decide +kernel
theorem dX4_freshSteps_37 : decode cX4_freshSteps 37 = .ok (.ireturn, 1) := by decide +kernel
theorem dX4_mergeInto_0 : decode cX4_mergeInto 0 = .ok (.iconst 0, 1) := by decide +kernel
theorem dX4_mergeInto_1 : decode cX4_mergeInto 1 = .ok (.istore_n 3, 1) := by decide +kernel
theorem dX4_mergeInto_2 : decode cX4_mergeInto 2 = .ok (.iconst 0, 1) := by decide +kernel
theorem dX4_mergeInto_3 : decode cX4_mergeInto 3 = .ok (.istore 4, 2) := by decide +kernel
theorem dX4_mergeInto_5 : decode cX4_mergeInto 5 = .ok (.iconst 0, 1) := by decide +kernel
theorem dX4_mergeInto_6 : decode cX4_mergeInto 6 = .ok (.istore 5, 2) := by decide +kernel
theorem dX4_mergeInto_8 : decode cX4_mergeInto 8 = .ok (.aload_n 0, 1) := by decide +kernel
theorem dX4_mergeInto_9 : decode cX4_mergeInto 9 = .ok (.getfield 139, 3) := by decide +kernel
theorem dX4_mergeInto_12 : decode cX4_mergeInto 12 = .ok (.iconst 1, 1) := by decide +kernel
theorem dX4_mergeInto_13 : decode cX4_mergeInto 13 = .ok (.isub, 1) := by decide +kernel
theorem dX4_mergeInto_14 : decode cX4_mergeInto 14 = .ok (.istore 6, 2) := by decide +kernel
theorem dX4_mergeInto_16 : decode cX4_mergeInto 16 = .ok (.iload 6, 2) := by decide +kernel
theorem dX4_mergeInto_18 : decode cX4_mergeInto 18 = .ok (.ifCond .lt 260, 3) := by decide +kernel
theorem dX4_mergeInto_21 : decode cX4_mergeInto 21 = .ok (.bipush 30, 2) := by decide +kernel
theorem dX4_mergeInto_23 : decode cX4_mergeInto 23 = .ok (.iload_n 2, 1) := by decide +kernel
theorem dX4_mergeInto_24 : decode cX4_mergeInto 24 = .ok (.imul, 1) := by decide +kernel
theorem dX4_mergeInto_25 : decode cX4_mergeInto 25 = .ok (.iload 4, 2) := by decide +kernel
theorem dX4_mergeInto_27 : decode cX4_mergeInto 27 = .ok (.iadd, 1) := by decide +kernel
theorem dX4_mergeInto_28 : decode cX4_mergeInto 28 = .ok (.istore 7, 2) := by decide +kernel
theorem dX4_mergeInto_30 : decode cX4_mergeInto 30 = .ok (.iload_n 1, 1) := by decide +kernel
theorem dX4_mergeInto_31 : decode cX4_mergeInto 31 = .ok (.iload_n 3, 1) := by decide +kernel
theorem dX4_mergeInto_32 : decode cX4_mergeInto 32 = .ok (.invokestatic 107, 3) := by decide +kernel
theorem dX4_mergeInto_35 : decode cX4_mergeInto 35 = .ok (.istore 8, 2) := by decide +kernel
theorem dX4_mergeInto_37 : decode cX4_mergeInto 37 = .ok (.iconst 0, 1) := by decide +kernel
theorem dX4_mergeInto_38 : decode cX4_mergeInto 38 = .ok (.istore 9, 2) := by decide +kernel
theorem dX4_mergeInto_40 : decode cX4_mergeInto 40 = .ok (.iload 9, 2) := by decide +kernel
theorem dX4_mergeInto_42 : decode cX4_mergeInto 42 = .ok (.bipush 12, 2) := by decide +kernel
theorem dX4_mergeInto_44 : decode cX4_mergeInto 44 = .ok (.if_icmp .ge 50, 3) := by decide +kernel
theorem dX4_mergeInto_47 : decode cX4_mergeInto 47 = .ok (.aload_n 0, 1) := by decide +kernel
theorem dX4_mergeInto_48 : decode cX4_mergeInto 48 = .ok (.getfield 71, 3) := by decide +kernel
theorem dX4_mergeInto_51 : decode cX4_mergeInto 51 = .ok (.bipush 12, 2) := by decide +kernel
theorem dX4_mergeInto_53 : decode cX4_mergeInto 53 = .ok (.iload 5, 2) := by decide +kernel
theorem dX4_mergeInto_55 : decode cX4_mergeInto 55 = .ok (.imul, 1) := by decide +kernel
theorem dX4_mergeInto_56 : decode cX4_mergeInto 56 = .ok (.iload 9, 2) := by decide +kernel
theorem dX4_mergeInto_58 : decode cX4_mergeInto 58 = .ok (.iadd, 1) := by decide +kernel
theorem dX4_mergeInto_59 : decode cX4_mergeInto 59 = .ok (.aload_n 0, 1) := by decide +kernel
theorem dX4_mergeInto_60 : decode cX4_mergeInto 60 = .ok (.getfield 62, 3) := by decide +kernel
theorem dX4_mergeInto_63 : decode cX4_mergeInto 63 = .ok (.iload 6, 2) := by decide +kernel
theorem dX4_mergeInto_65 : decode cX4_mergeInto 65 = .ok (.iaload, 1) := by decide +kernel
theorem dX4_mergeInto_66 : decode cX4_mergeInto 66 = .ok (.iconst 2, 1) := by decide +kernel
theorem dX4_mergeInto_67 : decode cX4_mergeInto 67 = .ok (.if_icmp .ne 7, 3) := by decide +kernel
theorem dX4_mergeInto_70 : decode cX4_mergeInto 70 = .ok (.iconst (-1), 1) := by decide +kernel
theorem dX4_mergeInto_71 : decode cX4_mergeInto 71 = .ok (.goto 16, 3) := by decide +kernel
theorem dX4_mergeInto_74 : decode cX4_mergeInto 74 = .ok (.aload_n 0, 1) := by decide +kernel
theorem dX4_mergeInto_75 : decode cX4_mergeInto 75 = .ok (.getfield 53, 3) := by decide +kernel
theorem dX4_mergeInto_78 : decode cX4_mergeInto 78 = .ok (.bipush 12, 2) := by decide +kernel
theorem dX4_mergeInto_80 : decode cX4_mergeInto 80 = .ok (.iload 8, 2) := by decide +kernel
theorem dX4_mergeInto_82 : decode cX4_mergeInto 82 = .ok (.imul, 1) := by decide +kernel
theorem dX4_mergeInto_83 : decode cX4_mergeInto 83 = .ok (.iload 9, 2) := by decide +kernel
theorem dX4_mergeInto_85 : decode cX4_mergeInto 85 = .ok (.iadd, 1) := by decide +kernel
theorem dX4_mergeInto_86 : decode cX4_mergeInto 86 = .ok (.iaload, 1) := by decide +kernel
theorem dX4_mergeInto_87 : decode cX4_mergeInto 87 = .ok (.iastore, 1) := by decide +kernel
theorem dX4_mergeInto_88 : decode cX4_mergeInto 88 = .ok (.iinc 9 1, 3) := by decide +kernel
theorem dX4_mergeInto_91 : decode cX4_mergeInto 91 = .ok (.goto (-51), 3) := by decide +kernel
theorem dX4_mergeInto_94 : decode cX4_mergeInto 94 = .ok (.aload_n 0, 1) := by decide +kernel
theorem dX4_mergeInto_95 : decode cX4_mergeInto 95 = .ok (.getfield 65, 3) := by decide +kernel
theorem dX4_mergeInto_98 : decode cX4_mergeInto 98 = .ok (.iload 5, 2) := by decide +kernel
theorem dX4_mergeInto_100 : decode cX4_mergeInto 100 = .ok (.aload_n 0, 1) := by decide +kernel
theorem dX4_mergeInto_101 : decode cX4_mergeInto 101 = .ok (.getfield 62, 3) := by decide +kernel
theorem dX4_mergeInto_104 : decode cX4_mergeInto 104 = .ok (.iload 6, 2) := by decide +kernel
theorem dX4_mergeInto_106 : decode cX4_mergeInto 106 = .ok (.iaload, 1) := by decide +kernel
theorem dX4_mergeInto_107 : decode cX4_mergeInto 107 = .ok (.iconst 2, 1) := by decide +kernel
theorem dX4_mergeInto_108 : decode cX4_mergeInto 108 = .ok (.if_icmp .ne 13, 3) := by decide +kernel
theorem dX4_mergeInto_111 : decode cX4_mergeInto 111 = .ok (.aload_n 0, 1) := by decide +kernel
theorem dX4_mergeInto_112 : decode cX4_mergeInto 112 = .ok (.getfield 22, 3) := by decide +kernel
theorem dX4_mergeInto_115 : decode cX4_mergeInto 115 = .ok (.iload 7, 2) := by decide +kernel
theorem dX4_mergeInto_117 : decode cX4_mergeInto 117 = .ok (.iaload, 1) := by decide +kernel
theorem dX4_mergeInto_118 : decode cX4_mergeInto 118 = .ok (.goto 10, 3) := by decide +kernel
theorem dX4_mergeInto_121 : decode cX4_mergeInto 121 = .ok (.aload_n 0, 1) := by decide +kernel
theorem dX4_mergeInto_122 : decode cX4_mergeInto 122 = .ok (.getfield 47, 3) := by decide +kernel
theorem dX4_mergeInto_125 : decode cX4_mergeInto 125 = .ok (.iload 8, 2) := by decide +kernel
theorem dX4_mergeInto_127 : decode cX4_mergeInto 127 = .ok (.iaload, 1) := by decide +kernel
theorem dX4_mergeInto_128 : decode cX4_mergeInto 128 = .ok (.iastore, 1) := by decide +kernel
theorem dX4_mergeInto_129 : decode cX4_mergeInto 129 = .ok (.aload_n 0, 1) := by decide +kernel
theorem dX4_mergeInto_130 : decode cX4_mergeInto 130 = .ok (.getfield 68, 3) := by decide +kernel
theorem dX4_mergeInto_133 : decode cX4_mergeInto 133 = .ok (.iload 5, 2) := by decide +kernel
theorem dX4_mergeInto_135 : decode cX4_mergeInto 135 = .ok (.aload_n 0, 1) := by decide +kernel
theorem dX4_mergeInto_136 : decode cX4_mergeInto 136 = .ok (.getfield 62, 3) := by decide +kernel
theorem dX4_mergeInto_139 : decode cX4_mergeInto 139 = .ok (.iload 6, 2) := by decide +kernel
theorem dX4_mergeInto_141 : decode cX4_mergeInto 141 = .ok (.iaload, 1) := by decide +kernel
theorem dX4_mergeInto_142 : decode cX4_mergeInto 142 = .ok (.iconst 2, 1) := by decide +kernel
theorem dX4_mergeInto_143 : decode cX4_mergeInto 143 = .ok (.if_icmp .ne 8, 3) := by decide +kernel
theorem dX4_mergeInto_146 : decode cX4_mergeInto 146 = .ok (.iload 7, 2) := by decide +kernel
theorem dX4_mergeInto_148 : decode cX4_mergeInto 148 = .ok (.goto 10, 3) := by decide +kernel
theorem dX4_mergeInto_151 : decode cX4_mergeInto 151 = .ok (.aload_n 0, 1) := by decide +kernel
theorem dX4_mergeInto_152 : decode cX4_mergeInto 152 = .ok (.getfield 50, 3) := by decide +kernel
theorem dX4_mergeInto_155 : decode cX4_mergeInto 155 = .ok (.iload 8, 2) := by decide +kernel
theorem dX4_mergeInto_157 : decode cX4_mergeInto 157 = .ok (.iaload, 1) := by decide +kernel
theorem dX4_mergeInto_158 : decode cX4_mergeInto 158 = .ok (.iastore, 1) := by decide +kernel
theorem dX4_mergeInto_159 : decode cX4_mergeInto 159 = .ok (.aload_n 0, 1) := by decide +kernel
theorem dX4_mergeInto_160 : decode cX4_mergeInto 160 = .ok (.getfield 62, 3) := by decide +kernel
theorem dX4_mergeInto_163 : decode cX4_mergeInto 163 = .ok (.iload 6, 2) := by decide +kernel
theorem dX4_mergeInto_165 : decode cX4_mergeInto 165 = .ok (.iaload, 1) := by decide +kernel
theorem dX4_mergeInto_166 : decode cX4_mergeInto 166 = .ok (.ifCond .ne 38, 3) := by decide +kernel
theorem dX4_mergeInto_169 : decode cX4_mergeInto 169 = .ok (.aload_n 0, 1) := by decide +kernel
theorem dX4_mergeInto_170 : decode cX4_mergeInto 170 = .ok (.getfield 50, 3) := by decide +kernel
theorem dX4_mergeInto_173 : decode cX4_mergeInto 173 = .ok (.iload 8, 2) := by decide +kernel
theorem dX4_mergeInto_175 : decode cX4_mergeInto 175 = .ok (.iaload, 1) := by decide +kernel
theorem dX4_mergeInto_176 : decode cX4_mergeInto 176 = .ok (.iconst (-1), 1) := by decide +kernel
theorem dX4_mergeInto_177 : decode cX4_mergeInto 177 = .ok (.if_icmp .eq 27, 3) := by decide +kernel
theorem dX4_mergeInto_180 : decode cX4_mergeInto 180 = .ok (.aload_n 0, 1) := by decide +kernel
theorem dX4_mergeInto_181 : decode cX4_mergeInto 181 = .ok (.aload_n 0, 1) := by decide +kernel
theorem dX4_mergeInto_182 : decode cX4_mergeInto 182 = .ok (.getfield 50, 3) := by decide +kernel
theorem dX4_mergeInto_185 : decode cX4_mergeInto 185 = .ok (.iload 8, 2) := by decide +kernel
theorem dX4_mergeInto_187 : decode cX4_mergeInto 187 = .ok (.iaload, 1) := by decide +kernel
theorem dX4_mergeInto_188 : decode cX4_mergeInto 188 = .ok (.iload 7, 2) := by decide +kernel
theorem dX4_mergeInto_190 : decode cX4_mergeInto 190 = .ok (.invokevirtual 104, 3) := by decide +kernel
theorem dX4_mergeInto_193 : decode cX4_mergeInto 193 = .ok (.ifCond .ne 11, 3) := by decide +kernel
theorem dX4_mergeInto_196 : decode cX4_mergeInto 196 = .ok (.aload_n 0, 1) := by decide +kernel
theorem dX4_mergeInto_197 : decode cX4_mergeInto 197 = .ok (.getfield 68, 3) := by decide +kernel
theorem dX4_mergeInto_200 : decode cX4_mergeInto 200 = .ok (.iload 5, 2) := by decide +kernel
theorem dX4_mergeInto_202 : decode cX4_mergeInto 202 = .ok (.iconst (-1), 1) := by decide +kernel
theorem dX4_mergeInto_203 : decode cX4_mergeInto 203 = .ok (.iastore, 1) := by decide +kernel
theorem dX4_mergeInto_204 : decode cX4_mergeInto 204 = .ok (.aload_n 0, 1) := by decide +kernel
theorem dX4_mergeInto_205 : decode cX4_mergeInto 205 = .ok (.getfield 62, 3) := by decide +kernel
theorem dX4_mergeInto_208 : decode cX4_mergeInto 208 = .ok (.iload 6, 2) := by decide +kernel
theorem dX4_mergeInto_210 : decode cX4_mergeInto 210 = .ok (.iaload, 1) := by decide +kernel
theorem dX4_mergeInto_211 : decode cX4_mergeInto 211 = .ok (.iconst 1, 1) := by decide +kernel
theorem dX4_mergeInto_212 : decode cX4_mergeInto 212 = .ok (.if_icmp .eq 17, 3) := by decide +kernel
theorem dX4_mergeInto_215 : decode cX4_mergeInto 215 = .ok (.aload_n 0, 1) := by decide +kernel
theorem dX4_mergeInto_216 : decode cX4_mergeInto 216 = .ok (.getfield 71, 3) := by decide +kernel
theorem dX4_mergeInto_219 : decode cX4_mergeInto 219 = .ok (.bipush 12, 2) := by decide +kernel
theorem dX4_mergeInto_221 : decode cX4_mergeInto 221 = .ok (.iload 5, 2) := by decide +kernel
theorem dX4_mergeInto_223 : decode cX4_mergeInto 223 = .ok (.imul, 1) := by decide +kernel
theorem dX4_mergeInto_224 : decode cX4_mergeInto 224 = .ok (.iload_n 2, 1) := by decide +kernel
theorem dX4_mergeInto_225 : decode cX4_mergeInto 225 = .ok (.iadd, 1) := by decide +kernel
theorem dX4_mergeInto_226 : decode cX4_mergeInto 226 = .ok (.iload 4, 2) := by decide +kernel
theorem dX4_mergeInto_228 : decode cX4_mergeInto 228 = .ok (.iastore, 1) := by decide +kernel
theorem dX4_mergeInto_229 : decode cX4_mergeInto 229 = .ok (.iload_n 3, 1) := by decide +kernel
theorem dX4_mergeInto_230 : decode cX4_mergeInto 230 = .ok (.aload_n 0, 1) := by decide +kernel
theorem dX4_mergeInto_231 : decode cX4_mergeInto 231 = .ok (.getfield 62, 3) := by decide +kernel
theorem dX4_mergeInto_234 : decode cX4_mergeInto 234 = .ok (.iload 6, 2) := by decide +kernel
theorem dX4_mergeInto_236 : decode cX4_mergeInto 236 = .ok (.iaload, 1) := by decide +kernel
theorem dX4_mergeInto_237 : decode cX4_mergeInto 237 = .ok (.iconst 2, 1) := by decide +kernel
theorem dX4_mergeInto_238 : decode cX4_mergeInto 238 = .ok (.if_icmp .ne 7, 3) := by decide +kernel
theorem dX4_mergeInto_241 : decode cX4_mergeInto 241 = .ok (.iconst 0, 1) := by decide +kernel
theorem dX4_mergeInto_242 : decode cX4_mergeInto 242 = .ok (.goto 4, 3) := by decide +kernel
theorem dX4_mergeInto_245 : decode cX4_mergeInto 245 = .ok (.iconst 1, 1) := by decide +kernel
theorem dX4_mergeInto_246 : decode cX4_mergeInto 246 = .ok (.iadd, 1) := by decide +kernel
theorem dX4_mergeInto_247 : decode cX4_mergeInto 247 = .ok (.istore_n 3, 1) := by decide +kernel
theorem dX4_mergeInto_248 : decode cX4_mergeInto 248 = .ok (.iload 4, 2) := by decide +kernel
theorem dX4_mergeInto_250 : decode cX4_mergeInto 250 = .ok (.aload_n 0, 1) := by decide +kernel
theorem dX4_mergeInto_251 : decode cX4_mergeInto 251 = .ok (.getfield 62, 3) := by decide +kernel
theorem dX4_mergeInto_254 : decode cX4_mergeInto 254 = .ok (.iload 6, 2) := by decide +kernel
theorem dX4_mergeInto_256 : decode cX4_mergeInto 256 = .ok (.iaload, 1) := by decide +kernel
theorem dX4_mergeInto_257 : decode cX4_mergeInto 257 = .ok (.iconst 1, 1) := by decide +kernel
theorem dX4_mergeInto_258 : decode cX4_mergeInto 258 = .ok (.if_icmp .ne 7, 3) := by decide +kernel
theorem dX4_mergeInto_261 : decode cX4_mergeInto 261 = .ok (.iconst 0, 1) := by decide +kernel
theorem dX4_mergeInto_262 : decode cX4_mergeInto 262 = .ok (.goto 4, 3) := by decide +kernel
theorem dX4_mergeInto_265 : decode cX4_mergeInto 265 = .ok (.iconst 1, 1) := by decide +kernel
theorem dX4_mergeInto_266 : decode cX4_mergeInto 266 = .ok (.iadd, 1) := by decide +kernel
theorem dX4_mergeInto_267 : decode cX4_mergeInto 267 = .ok (.istore 4, 2) := by decide +kernel
theorem dX4_mergeInto_269 : decode cX4_mergeInto 269 = .ok (.iinc 5 1, 3) := by decide +kernel
theorem dX4_mergeInto_272 : decode cX4_mergeInto 272 = .ok (.iinc 6 (-1), 3) := by decide +kernel
theorem dX4_mergeInto_275 : decode cX4_mergeInto 275 = .ok (.goto (-259), 3) := by decide +kernel
theorem dX4_mergeInto_278 : decode cX4_mergeInto 278 = .ok (.iconst 0, 1) := by decide +kernel
theorem dX4_mergeInto_279 : decode cX4_mergeInto 279 = .ok (.istore 6, 2) := by decide +kernel
theorem dX4_mergeInto_281 : decode cX4_mergeInto 281 = .ok (.iload 6, 2) := by decide +kernel
theorem dX4_mergeInto_283 : decode cX4_mergeInto 283 = .ok (.iload 5, 2) := by decide +kernel
theorem dX4_mergeInto_285 : decode cX4_mergeInto 285 = .ok (.if_icmp .ge 91, 3) := by decide +kernel
theorem dX4_mergeInto_288 : decode cX4_mergeInto 288 = .ok (.aload_n 0, 1) := by decide +kernel
theorem dX4_mergeInto_289 : decode cX4_mergeInto 289 = .ok (.getfield 47, 3) := by decide +kernel
theorem dX4_mergeInto_292 : decode cX4_mergeInto 292 = .ok (.iload_n 1, 1) := by decide +kernel
theorem dX4_mergeInto_293 : decode cX4_mergeInto 293 = .ok (.iload 6, 2) := by decide +kernel
theorem dX4_mergeInto_295 : decode cX4_mergeInto 295 = .ok (.invokestatic 107, 3) := by decide +kernel
theorem dX4_mergeInto_298 : decode cX4_mergeInto 298 = .ok (.aload_n 0, 1) := by decide +kernel
theorem dX4_mergeInto_299 : decode cX4_mergeInto 299 = .ok (.getfield 65, 3) := by decide +kernel
theorem dX4_mergeInto_302 : decode cX4_mergeInto 302 = .ok (.iload 6, 2) := by decide +kernel
theorem dX4_mergeInto_304 : decode cX4_mergeInto 304 = .ok (.iaload, 1) := by decide +kernel
theorem dX4_mergeInto_305 : decode cX4_mergeInto 305 = .ok (.iastore, 1) := by decide +kernel
theorem dX4_mergeInto_306 : decode cX4_mergeInto 306 = .ok (.aload_n 0, 1) := by decide +kernel
theorem dX4_mergeInto_307 : decode cX4_mergeInto 307 = .ok (.getfield 50, 3) := by decide +kernel
theorem dX4_mergeInto_310 : decode cX4_mergeInto 310 = .ok (.iload_n 1, 1) := by decide +kernel
theorem dX4_mergeInto_311 : decode cX4_mergeInto 311 = .ok (.iload 6, 2) := by decide +kernel
theorem dX4_mergeInto_313 : decode cX4_mergeInto 313 = .ok (.invokestatic 107, 3) := by decide +kernel
theorem dX4_mergeInto_316 : decode cX4_mergeInto 316 = .ok (.aload_n 0, 1) := by decide +kernel
theorem dX4_mergeInto_317 : decode cX4_mergeInto 317 = .ok (.getfield 68, 3) := by decide +kernel
theorem dX4_mergeInto_320 : decode cX4_mergeInto 320 = .ok (.iload 6, 2) := by decide +kernel
theorem dX4_mergeInto_322 : decode cX4_mergeInto 322 = .ok (.iaload, 1) := by decide +kernel
theorem dX4_mergeInto_323 : decode cX4_mergeInto 323 = .ok (.iastore, 1) := by decide +kernel
theorem dX4_mergeInto_324 : decode cX4_mergeInto 324 = .ok (.iconst 0, 1) := by decide +kernel
theorem dX4_mergeInto_325 : decode cX4_mergeInto 325 = .ok (.istore 7, 2) := by decide +kernel
theorem dX4_mergeInto_327 : decode cX4_mergeInto 327 = .ok (.iload 7, 2) := by decide +kernel
theorem dX4_mergeInto_329 : decode cX4_mergeInto 329 = .ok (.bipush 12, 2) := by decide +kernel
theorem dX4_mergeInto_331 : decode cX4_mergeInto 331 = .ok (.if_icmp .ge 39, 3) := by decide +kernel
theorem dX4_mergeInto_334 : decode cX4_mergeInto 334 = .ok (.aload_n 0, 1) := by decide +kernel
theorem dX4_mergeInto_335 : decode cX4_mergeInto 335 = .ok (.getfield 53, 3) := by decide +kernel
theorem dX4_mergeInto_338 : decode cX4_mergeInto 338 = .ok (.bipush 12, 2) := by decide +kernel
theorem dX4_mergeInto_340 : decode cX4_mergeInto 340 = .ok (.iload_n 1, 1) := by decide +kernel
theorem dX4_mergeInto_341 : decode cX4_mergeInto 341 = .ok (.iload 6, 2) := by decide +kernel
theorem dX4_mergeInto_343 : decode cX4_mergeInto 343 = .ok (.invokestatic 107, 3) := by decide +kernel
theorem dX4_mergeInto_346 : decode cX4_mergeInto 346 = .ok (.imul, 1) := by decide +kernel
theorem dX4_mergeInto_347 : decode cX4_mergeInto 347 = .ok (.iload 7, 2) := by decide +kernel
theorem dX4_mergeInto_349 : decode cX4_mergeInto 349 = .ok (.iadd, 1) := by decide +kernel
theorem dX4_mergeInto_350 : decode cX4_mergeInto 350 = .ok (.aload_n 0, 1) := by decide +kernel
theorem dX4_mergeInto_351 : decode cX4_mergeInto 351 = .ok (.getfield 71, 3) := by decide +kernel
theorem dX4_mergeInto_354 : decode cX4_mergeInto 354 = .ok (.bipush 12, 2) := by decide +kernel
theorem dX4_mergeInto_356 : decode cX4_mergeInto 356 = .ok (.iload 6, 2) := by decide +kernel
theorem dX4_mergeInto_358 : decode cX4_mergeInto 358 = .ok (.imul, 1) := by decide +kernel
theorem dX4_mergeInto_359 : decode cX4_mergeInto 359 = .ok (.iload 7, 2) := by decide +kernel
theorem dX4_mergeInto_361 : decode cX4_mergeInto 361 = .ok (.iadd, 1) := by decide +kernel
theorem dX4_mergeInto_362 : decode cX4_mergeInto 362 = .ok (.iaload, 1) := by decide +kernel
theorem dX4_mergeInto_363 : decode cX4_mergeInto 363 = .ok (.iastore, 1) := by decide +kernel
theorem dX4_mergeInto_364 : decode cX4_mergeInto 364 = .ok (.iinc 7 1, 3) := by decide +kernel
theorem dX4_mergeInto_367 : decode cX4_mergeInto 367 = .ok (.goto (-40), 3) := by decide +kernel
theorem dX4_mergeInto_370 : decode cX4_mergeInto 370 = .ok (.iinc 6 1, 3) := by decide +kernel
theorem dX4_mergeInto_373 : decode cX4_mergeInto 373 = .ok (.goto (-92), 3) := by decide +kernel
theorem dX4_mergeInto_376 : decode cX4_mergeInto 376 = .ok (.aload_n 0, 1) := by decide +kernel
theorem dX4_mergeInto_377 : decode cX4_mergeInto 377 = .ok (.getfield 41, 3) := by decide +kernel
theorem dX4_mergeInto_380 : decode cX4_mergeInto 380 = .ok (.iload_n 1, 1) := by decide +kernel
theorem dX4_mergeInto_381 : decode cX4_mergeInto 381 = .ok (.iload 5, 2) := by decide +kernel
theorem dX4_mergeInto_383 : decode cX4_mergeInto 383 = .ok (.iastore, 1) := by decide +kernel
theorem dX4_mergeInto_384 : decode cX4_mergeInto 384 = .ok (.aload_n 0, 1) := by decide +kernel
theorem dX4_mergeInto_385 : decode cX4_mergeInto 385 = .ok (.getfield 44, 3) := by decide +kernel
theorem dX4_mergeInto_388 : decode cX4_mergeInto 388 = .ok (.iload_n 1, 1) := by decide +kernel
theorem dX4_mergeInto_389 : decode cX4_mergeInto 389 = .ok (.dup2, 1) := by decide +kernel
theorem dX4_mergeInto_390 : decode cX4_mergeInto 390 = .ok (.iaload, 1) := by decide +kernel
theorem dX4_mergeInto_391 : decode cX4_mergeInto 391 = .ok (.iconst 1, 1) := by decide +kernel
theorem dX4_mergeInto_392 : decode cX4_mergeInto 392 = .ok (.iload_n 2, 1) := by decide +kernel
theorem dX4_mergeInto_393 : decode cX4_mergeInto 393 = .ok (.ishl, 1) := by decide +kernel
theorem dX4_mergeInto_394 : decode cX4_mergeInto 394 = .ok (.ior, 1) := by decide +kernel
theorem dX4_mergeInto_395 : decode cX4_mergeInto 395 = .ok (.iastore, 1) := by decide +kernel
theorem dX4_mergeInto_396 : decode cX4_mergeInto 396 = .ok (.return_, 1) := by decide +kernel
theorem dX4_setCosts_0 : decode cX4_setCosts 0 = .ok (.aload_n 0, 1) := by decide +kernel
theorem dX4_setCosts_1 : decode cX4_setCosts 1 = .ok (.iload_n 1, 1) := by decide +kernel
theorem dX4_setCosts_2 : decode cX4_setCosts 2 = .ok (.iload_n 2, 1) := by decide +kernel
theorem dX4_setCosts_3 : decode cX4_setCosts 3 = .ok (.iload_n 3, 1) := by decide +kernel
theorem dX4_setCosts_4 : decode cX4_setCosts 4 = .ok (.invokestatic 134, 3) := by decide +kernel
theorem dX4_setCosts_7 : decode cX4_setCosts 7 = .ok (.invokestatic 134, 3) := by decide +kernel
theorem dX4_setCosts_10 : decode cX4_setCosts 10 = .ok (.ifCond .lt 17, 3) := by decide +kernel
theorem dX4_setCosts_13 : decode cX4_setCosts 13 = .ok (.iload_n 1, 1) := by decide +kernel
theorem dX4_setCosts_14 : decode cX4_setCosts 14 = .ok (.iload_n 2, 1) := by decide +kernel
theorem dX4_setCosts_15 : decode cX4_setCosts 15 = .ok (.iload_n 3, 1) := by decide +kernel
theorem dX4_setCosts_16 : decode cX4_setCosts 16 = .ok (.invokestatic 142, 3) := by decide +kernel
theorem dX4_setCosts_19 : decode cX4_setCosts 19 = .ok (.invokestatic 142, 3) := by decide +kernel
theorem dX4_setCosts_22 : decode cX4_setCosts 22 = .ok (.bipush 20, 2) := by decide +kernel
theorem dX4_setCosts_24 : decode cX4_setCosts 24 = .ok (.if_icmp .le 7, 3) := by decide +kernel
theorem dX4_setCosts_27 : decode cX4_setCosts 27 = .ok (.iconst 1, 1) := by decide +kernel
theorem dX4_setCosts_28 : decode cX4_setCosts 28 = .ok (.goto 4, 3) := by decide +kernel
theorem dX4_setCosts_31 : decode cX4_setCosts 31 = .ok (.iconst 0, 1) := by decide +kernel
theorem dX4_setCosts_32 : decode cX4_setCosts 32 = .ok (.putfield 74, 3) := by decide +kernel
theorem dX4_setCosts_35 : decode cX4_setCosts 35 = .ok (.aload_n 0, 1) := by decide +kernel
theorem dX4_setCosts_36 : decode cX4_setCosts 36 = .ok (.getfield 74, 3) := by decide +kernel
theorem dX4_setCosts_39 : decode cX4_setCosts 39 = .ok (.ifCond .eq 5, 3) := by decide +kernel
theorem dX4_setCosts_42 : decode cX4_setCosts 42 = .ok (.iconst 0, 1) := by decide +kernel
theorem dX4_setCosts_43 : decode cX4_setCosts 43 = .ok (.ireturn, 1) := by decide +kernel
theorem dX4_setCosts_44 : decode cX4_setCosts 44 = .ok (.aload_n 0, 1) := by decide +kernel
theorem dX4_setCosts_45 : decode cX4_setCosts 45 = .ok (.getfield 31, 3) := by decide +kernel
theorem dX4_setCosts_48 : decode cX4_setCosts 48 = .ok (.iload_n 1, 1) := by decide +kernel
theorem dX4_setCosts_49 : decode cX4_setCosts 49 = .ok (.if_icmp .ne 19, 3) := by decide +kernel
theorem dX4_setCosts_52 : decode cX4_setCosts 52 = .ok (.aload_n 0, 1) := by decide +kernel
theorem dX4_setCosts_53 : decode cX4_setCosts 53 = .ok (.getfield 35, 3) := by decide +kernel
theorem dX4_setCosts_56 : decode cX4_setCosts 56 = .ok (.iload_n 2, 1) := by decide +kernel
theorem dX4_setCosts_57 : decode cX4_setCosts 57 = .ok (.if_icmp .ne 11, 3) := by decide +kernel
theorem dX4_setCosts_60 : decode cX4_setCosts 60 = .ok (.aload_n 0, 1) := by decide +kernel
theorem dX4_setCosts_61 : decode cX4_setCosts 61 = .ok (.getfield 38, 3) := by decide +kernel
theorem dX4_setCosts_64 : decode cX4_setCosts 64 = .ok (.iload_n 3, 1) := by decide +kernel
theorem dX4_setCosts_65 : decode cX4_setCosts 65 = .ok (.if_icmp .eq 7, 3) := by decide +kernel
theorem dX4_setCosts_68 : decode cX4_setCosts 68 = .ok (.iconst 1, 1) := by decide +kernel
theorem dX4_setCosts_69 : decode cX4_setCosts 69 = .ok (.goto 4, 3) := by decide +kernel
theorem dX4_setCosts_72 : decode cX4_setCosts 72 = .ok (.iconst 0, 1) := by decide +kernel
theorem dX4_setCosts_73 : decode cX4_setCosts 73 = .ok (.istore 4, 2) := by decide +kernel
theorem dX4_setCosts_75 : decode cX4_setCosts 75 = .ok (.aload_n 0, 1) := by decide +kernel
theorem dX4_setCosts_76 : decode cX4_setCosts 76 = .ok (.iload_n 1, 1) := by decide +kernel
theorem dX4_setCosts_77 : decode cX4_setCosts 77 = .ok (.putfield 31, 3) := by decide +kernel
theorem dX4_setCosts_80 : decode cX4_setCosts 80 = .ok (.aload_n 0, 1) := by decide +kernel
theorem dX4_setCosts_81 : decode cX4_setCosts 81 = .ok (.iload_n 2, 1) := by decide +kernel
theorem dX4_setCosts_82 : decode cX4_setCosts 82 = .ok (.putfield 35, 3) := by decide +kernel
theorem dX4_setCosts_85 : decode cX4_setCosts 85 = .ok (.aload_n 0, 1) := by decide +kernel
theorem dX4_setCosts_86 : decode cX4_setCosts 86 = .ok (.iload_n 3, 1) := by decide +kernel
theorem dX4_setCosts_87 : decode cX4_setCosts 87 = .ok (.putfield 38, 3) := by decide +kernel
theorem dX4_setCosts_90 : decode cX4_setCosts 90 = .ok (.aload_n 0, 1) := by decide +kernel
theorem dX4_setCosts_91 : decode cX4_setCosts 91 = .ok (.iconst 0, 1) := by decide +kernel
theorem dX4_setCosts_92 : decode cX4_setCosts 92 = .ok (.putfield 92, 3) := by decide +kernel
theorem dX4_setCosts_95 : decode cX4_setCosts 95 = .ok (.iload 4, 2) := by decide +kernel
theorem dX4_setCosts_97 : decode cX4_setCosts 97 = .ok (.ireturn, 1) := by decide +kernel
theorem dX4_merge_0 : decode cX4_merge 0 = .ok (.aload_n 0, 1) := by decide +kernel
theorem dX4_merge_1 : decode cX4_merge 1 = .ok (.iconst 0, 1) := by decide +kernel
theorem dX4_merge_2 : decode cX4_merge 2 = .ok (.putfield 74, 3) := by decide +kernel
theorem dX4_merge_5 : decode cX4_merge 5 = .ok (.aload_n 0, 1) := by decide +kernel
theorem dX4_merge_6 : decode cX4_merge 6 = .ok (.iload_n 1, 1) := by decide +kernel
theorem dX4_merge_7 : decode cX4_merge 7 = .ok (.invokevirtual 96, 3) := by decide +kernel
theorem dX4_merge_10 : decode cX4_merge 10 = .ok (.ifCond .ne 9, 3) := by decide +kernel
theorem dX4_merge_13 : decode cX4_merge 13 = .ok (.aload_n 0, 1) := by decide +kernel
theorem dX4_merge_14 : decode cX4_merge 14 = .ok (.iconst 1, 1) := by decide +kernel
theorem dX4_merge_15 : decode cX4_merge 15 = .ok (.invokevirtual 85, 3) := by decide +kernel
theorem dX4_merge_18 : decode cX4_merge 18 = .ok (.ireturn, 1) := by decide +kernel
theorem dX4_merge_19 : decode cX4_merge 19 = .ok (.aload_n 0, 1) := by decide +kernel
theorem dX4_merge_20 : decode cX4_merge 20 = .ok (.getfield 44, 3) := by decide +kernel
theorem dX4_merge_23 : decode cX4_merge 23 = .ok (.iconst 0, 1) := by decide +kernel
theorem dX4_merge_24 : decode cX4_merge 24 = .ok (.iaload, 1) := by decide +kernel
theorem dX4_merge_25 : decode cX4_merge 25 = .ok (.iload_n 1, 1) := by decide +kernel
theorem dX4_merge_26 : decode cX4_merge 26 = .ok (.ishr, 1) := by decide +kernel
theorem dX4_merge_27 : decode cX4_merge 27 = .ok (.iconst 1, 1) := by decide +kernel
theorem dX4_merge_28 : decode cX4_merge 28 = .ok (.iand, 1) := by decide +kernel
theorem dX4_merge_29 : decode cX4_merge 29 = .ok (.iconst 1, 1) := by decide +kernel
theorem dX4_merge_30 : decode cX4_merge 30 = .ok (.if_icmp .ne 9, 3) := by decide +kernel
theorem dX4_merge_33 : decode cX4_merge 33 = .ok (.aload_n 0, 1) := by decide +kernel
theorem dX4_merge_34 : decode cX4_merge 34 = .ok (.iconst 2, 1) := by decide +kernel
theorem dX4_merge_35 : decode cX4_merge 35 = .ok (.invokevirtual 85, 3) := by decide +kernel
theorem dX4_merge_38 : decode cX4_merge 38 = .ok (.ireturn, 1) := by decide +kernel
theorem dX4_merge_39 : decode cX4_merge 39 = .ok (.aload_n 0, 1) := by decide +kernel
theorem dX4_merge_40 : decode cX4_merge 40 = .ok (.iconst 0, 1) := by decide +kernel
theorem dX4_merge_41 : decode cX4_merge 41 = .ok (.iload_n 1, 1) := by decide +kernel
theorem dX4_merge_42 : decode cX4_merge 42 = .ok (.invokevirtual 145, 3) := by decide +kernel
theorem dX4_merge_45 : decode cX4_merge 45 = .ok (.istore_n 2, 1) := by decide +kernel
theorem dX4_merge_46 : decode cX4_merge 46 = .ok (.aload_n 0, 1) := by decide +kernel
theorem dX4_merge_47 : decode cX4_merge 47 = .ok (.iconst 0, 1) := by decide +kernel
theorem dX4_merge_48 : decode cX4_merge 48 = .ok (.iload_n 1, 1) := by decide +kernel
theorem dX4_merge_49 : decode cX4_merge 49 = .ok (.invokevirtual 148, 3) := by decide +kernel
theorem dX4_merge_52 : decode cX4_merge 52 = .ok (.aload_n 0, 1) := by decide +kernel
theorem dX4_merge_53 : decode cX4_merge 53 = .ok (.getfield 41, 3) := by decide +kernel
theorem dX4_merge_56 : decode cX4_merge 56 = .ok (.iconst 0, 1) := by decide +kernel
theorem dX4_merge_57 : decode cX4_merge 57 = .ok (.iaload, 1) := by decide +kernel
theorem dX4_merge_58 : decode cX4_merge 58 = .ok (.aload_n 0, 1) := by decide +kernel
theorem dX4_merge_59 : decode cX4_merge 59 = .ok (.invokevirtual 152, 3) := by decide +kernel
theorem dX4_merge_62 : decode cX4_merge 62 = .ok (.iadd, 1) := by decide +kernel
theorem dX4_merge_63 : decode cX4_merge 63 = .ok (.bipush 40, 2) := by decide +kernel
theorem dX4_merge_65 : decode cX4_merge 65 = .ok (.if_icmp .le 9, 3) := by decide +kernel
theorem dX4_merge_68 : decode cX4_merge 68 = .ok (.aload_n 0, 1) := by decide +kernel
theorem dX4_merge_69 : decode cX4_merge 69 = .ok (.iconst 2, 1) := by decide +kernel
theorem dX4_merge_70 : decode cX4_merge 70 = .ok (.invokevirtual 85, 3) := by decide +kernel
theorem dX4_merge_73 : decode cX4_merge 73 = .ok (.ireturn, 1) := by decide +kernel
theorem dX4_merge_74 : decode cX4_merge 74 = .ok (.aload_n 0, 1) := by decide +kernel
theorem dX4_merge_75 : decode cX4_merge 75 = .ok (.iconst 0, 1) := by decide +kernel
theorem dX4_merge_76 : decode cX4_merge 76 = .ok (.iload_n 1, 1) := by decide +kernel
theorem dX4_merge_77 : decode cX4_merge 77 = .ok (.invokevirtual 156, 3) := by decide +kernel
theorem dX4_merge_80 : decode cX4_merge 80 = .ok (.iload_n 2, 1) := by decide +kernel
theorem dX4_merge_81 : decode cX4_merge 81 = .ok (.ireturn, 1) := by decide +kernel
theorem dX4_clear_0 : decode cX4_clear 0 = .ok (.aload_n 0, 1) := by decide +kernel
theorem dX4_clear_1 : decode cX4_clear 1 = .ok (.iconst 0, 1) := by decide +kernel
theorem dX4_clear_2 : decode cX4_clear 2 = .ok (.putfield 74, 3) := by decide +kernel
theorem dX4_clear_5 : decode cX4_clear 5 = .ok (.aload_n 0, 1) := by decide +kernel
theorem dX4_clear_6 : decode cX4_clear 6 = .ok (.getfield 44, 3) := by decide +kernel
theorem dX4_clear_9 : decode cX4_clear 9 = .ok (.iconst 0, 1) := by decide +kernel
theorem dX4_clear_10 : decode cX4_clear 10 = .ok (.iaload, 1) := by decide +kernel
theorem dX4_clear_11 : decode cX4_clear 11 = .ok (.invokestatic 118, 3) := by decide +kernel
theorem dX4_clear_14 : decode cX4_clear 14 = .ok (.istore_n 1, 1) := by decide +kernel
theorem dX4_clear_15 : decode cX4_clear 15 = .ok (.aload_n 0, 1) := by decide +kernel
theorem dX4_clear_16 : decode cX4_clear 16 = .ok (.getfield 44, 3) := by decide +kernel
theorem dX4_clear_19 : decode cX4_clear 19 = .ok (.iconst 0, 1) := by decide +kernel
theorem dX4_clear_20 : decode cX4_clear 20 = .ok (.iconst 0, 1) := by decide +kernel
theorem dX4_clear_21 : decode cX4_clear 21 = .ok (.iastore, 1) := by decide +kernel
theorem dX4_clear_22 : decode cX4_clear 22 = .ok (.aload_n 0, 1) := by decide +kernel
theorem dX4_clear_23 : decode cX4_clear 23 = .ok (.getfield 41, 3) := by decide +kernel
theorem dX4_clear_26 : decode cX4_clear 26 = .ok (.iconst 0, 1) := by decide +kernel
theorem dX4_clear_27 : decode cX4_clear 27 = .ok (.iconst 0, 1) := by decide +kernel
theorem dX4_clear_28 : decode cX4_clear 28 = .ok (.iastore, 1) := by decide +kernel
theorem dX4_clear_29 : decode cX4_clear 29 = .ok (.iload_n 1, 1) := by decide +kernel
theorem dX4_clear_30 : decode cX4_clear 30 = .ok (.ireturn, 1) := by decide +kernel
theorem dX4_isMerged_0 : decode cX4_isMerged 0 = .ok (.aload_n 0, 1) := by decide +kernel
theorem dX4_isMerged_1 : decode cX4_isMerged 1 = .ok (.aload_n 0, 1) := by decide +kernel
theorem dX4_isMerged_2 : decode cX4_isMerged 2 = .ok (.iload_n 1, 1) := by decide +kernel
theorem dX4_isMerged_3 : decode cX4_isMerged 3 = .ok (.invokevirtual 96, 3) := by decide +kernel
theorem dX4_isMerged_6 : decode cX4_isMerged 6 = .ok (.ifCond .eq 7, 3) := by decide +kernel
theorem dX4_isMerged_9 : decode cX4_isMerged 9 = .ok (.iconst 0, 1) := by decide +kernel
theorem dX4_isMerged_10 : decode cX4_isMerged 10 = .ok (.goto 4, 3) := by decide +kernel
theorem dX4_isMerged_13 : decode cX4_isMerged 13 = .ok (.iconst 1, 1) := by decide +kernel
theorem dX4_isMerged_14 : decode cX4_isMerged 14 = .ok (.putfield 74, 3) := by decide +kernel
theorem dX4_isMerged_17 : decode cX4_isMerged 17 = .ok (.aload_n 0, 1) := by decide +kernel
theorem dX4_isMerged_18 : decode cX4_isMerged 18 = .ok (.getfield 74, 3) := by decide +kernel
theorem dX4_isMerged_21 : decode cX4_isMerged 21 = .ok (.ifCond .ne 21, 3) := by decide +kernel
theorem dX4_isMerged_24 : decode cX4_isMerged 24 = .ok (.aload_n 0, 1) := by decide +kernel
theorem dX4_isMerged_25 : decode cX4_isMerged 25 = .ok (.getfield 44, 3) := by decide +kernel
theorem dX4_isMerged_28 : decode cX4_isMerged 28 = .ok (.iconst 0, 1) := by decide +kernel
theorem dX4_isMerged_29 : decode cX4_isMerged 29 = .ok (.iaload, 1) := by decide +kernel
theorem dX4_isMerged_30 : decode cX4_isMerged 30 = .ok (.iload_n 1, 1) := by decide +kernel
theorem dX4_isMerged_31 : decode cX4_isMerged 31 = .ok (.ishr, 1) := by decide +kernel
theorem dX4_isMerged_32 : decode cX4_isMerged 32 = .ok (.iconst 1, 1) := by decide +kernel
theorem dX4_isMerged_33 : decode cX4_isMerged 33 = .ok (.iand, 1) := by decide +kernel
theorem dX4_isMerged_34 : decode cX4_isMerged 34 = .ok (.iconst 1, 1) := by decide +kernel
theorem dX4_isMerged_35 : decode cX4_isMerged 35 = .ok (.if_icmp .ne 7, 3) := by decide +kernel
theorem dX4_isMerged_38 : decode cX4_isMerged 38 = .ok (.iconst 1, 1) := by decide +kernel
theorem dX4_isMerged_39 : decode cX4_isMerged 39 = .ok (.goto 4, 3) := by decide +kernel
theorem dX4_isMerged_42 : decode cX4_isMerged 42 = .ok (.iconst 0, 1) := by decide +kernel
theorem dX4_isMerged_43 : decode cX4_isMerged 43 = .ok (.ireturn, 1) := by decide +kernel
theorem dX4_costWith_0 : decode cX4_costWith 0 = .ok (.aload_n 0, 1) := by decide +kernel
theorem dX4_costWith_1 : decode cX4_costWith 1 = .ok (.iconst 0, 1) := by decide +kernel
theorem dX4_costWith_2 : decode cX4_costWith 2 = .ok (.putfield 74, 3) := by decide +kernel
theorem dX4_costWith_5 : decode cX4_costWith 5 = .ok (.aload_n 0, 1) := by decide +kernel
theorem dX4_costWith_6 : decode cX4_costWith 6 = .ok (.iload_n 1, 1) := by decide +kernel
theorem dX4_costWith_7 : decode cX4_costWith 7 = .ok (.invokevirtual 96, 3) := by decide +kernel
theorem dX4_costWith_10 : decode cX4_costWith 10 = .ok (.ifCond .eq 12, 3) := by decide +kernel
theorem dX4_costWith_13 : decode cX4_costWith 13 = .ok (.aload_n 0, 1) := by decide +kernel
theorem dX4_costWith_14 : decode cX4_costWith 14 = .ok (.iconst 0, 1) := by decide +kernel
theorem dX4_costWith_15 : decode cX4_costWith 15 = .ok (.iload_n 1, 1) := by decide +kernel
theorem dX4_costWith_16 : decode cX4_costWith 16 = .ok (.invokevirtual 145, 3) := by decide +kernel
theorem dX4_costWith_19 : decode cX4_costWith 19 = .ok (.goto 8, 3) := by decide +kernel
theorem dX4_costWith_22 : decode cX4_costWith 22 = .ok (.aload_n 0, 1) := by decide +kernel
theorem dX4_costWith_23 : decode cX4_costWith 23 = .ok (.iconst 1, 1) := by decide +kernel
theorem dX4_costWith_24 : decode cX4_costWith 24 = .ok (.invokevirtual 85, 3) := by decide +kernel
theorem dX4_costWith_27 : decode cX4_costWith 27 = .ok (.ireturn, 1) := by decide +kernel
theorem dX4_extreme_0 : decode cX4_extreme 0 = .ok (.iconst (-1), 1) := by decide +kernel
theorem dX4_extreme_1 : decode cX4_extreme 1 = .ok (.istore_n 3, 1) := by decide +kernel
theorem dX4_extreme_2 : decode cX4_extreme 2 = .ok (.iconst 0, 1) := by decide +kernel
theorem dX4_extreme_3 : decode cX4_extreme 3 = .ok (.istore 4, 2) := by decide +kernel
theorem dX4_extreme_5 : decode cX4_extreme 5 = .ok (.iload 4, 2) := by decide +kernel
theorem dX4_extreme_7 : decode cX4_extreme 7 = .ok (.aload_n 0, 1) := by decide +kernel
theorem dX4_extreme_8 : decode cX4_extreme 8 = .ok (.getfield 77, 3) := by decide +kernel
theorem dX4_extreme_11 : decode cX4_extreme 11 = .ok (.if_icmp .ge 71, 3) := by decide +kernel
theorem dX4_extreme_14 : decode cX4_extreme 14 = .ok (.aload_n 0, 1) := by decide +kernel
theorem dX4_extreme_15 : decode cX4_extreme 15 = .ok (.iconst 0, 1) := by decide +kernel
theorem dX4_extreme_16 : decode cX4_extreme 16 = .ok (.iload_n 1, 1) := by decide +kernel
theorem dX4_extreme_17 : decode cX4_extreme 17 = .ok (.iload 4, 2) := by decide +kernel
theorem dX4_extreme_19 : decode cX4_extreme 19 = .ok (.invokevirtual 111, 3) := by decide +kernel
theorem dX4_extreme_22 : decode cX4_extreme 22 = .ok (.istore 5, 2) := by decide +kernel
theorem dX4_extreme_24 : decode cX4_extreme 24 = .ok (.iload 5, 2) := by decide +kernel
theorem dX4_extreme_26 : decode cX4_extreme 26 = .ok (.iconst (-1), 1) := by decide +kernel
theorem dX4_extreme_27 : decode cX4_extreme 27 = .ok (.if_icmp .ne 6, 3) := by decide +kernel
theorem dX4_extreme_30 : decode cX4_extreme 30 = .ok (.goto 46, 3) := by decide +kernel
theorem dX4_extreme_33 : decode cX4_extreme 33 = .ok (.aload_n 0, 1) := by decide +kernel
theorem dX4_extreme_34 : decode cX4_extreme 34 = .ok (.getfield 28, 3) := by decide +kernel
theorem dX4_extreme_37 : decode cX4_extreme 37 = .ok (.bipush 30, 2) := by decide +kernel
theorem dX4_extreme_39 : decode cX4_extreme 39 = .ok (.iload 4, 2) := by decide +kernel
theorem dX4_extreme_41 : decode cX4_extreme 41 = .ok (.imul, 1) := by decide +kernel
theorem dX4_extreme_42 : decode cX4_extreme 42 = .ok (.iload 5, 2) := by decide +kernel
theorem dX4_extreme_44 : decode cX4_extreme 44 = .ok (.iadd, 1) := by decide +kernel
theorem dX4_extreme_45 : decode cX4_extreme 45 = .ok (.iaload, 1) := by decide +kernel
theorem dX4_extreme_46 : decode cX4_extreme 46 = .ok (.istore 6, 2) := by decide +kernel
theorem dX4_extreme_48 : decode cX4_extreme 48 = .ok (.iload_n 3, 1) := by decide +kernel
theorem dX4_extreme_49 : decode cX4_extreme 49 = .ok (.iconst (-1), 1) := by decide +kernel
theorem dX4_extreme_50 : decode cX4_extreme 50 = .ok (.if_icmp .eq 23, 3) := by decide +kernel
theorem dX4_extreme_53 : decode cX4_extreme 53 = .ok (.iload_n 2, 1) := by decide +kernel
theorem dX4_extreme_54 : decode cX4_extreme 54 = .ok (.ifCond .eq 9, 3) := by decide +kernel
theorem dX4_extreme_57 : decode cX4_extreme 57 = .ok (.iload 6, 2) := by decide +kernel
theorem dX4_extreme_59 : decode cX4_extreme 59 = .ok (.iload_n 3, 1) := by decide +kernel
theorem dX4_extreme_60 : decode cX4_extreme 60 = .ok (.if_icmp .gt 13, 3) := by decide +kernel
theorem dX4_extreme_63 : decode cX4_extreme 63 = .ok (.iload_n 2, 1) := by decide +kernel
theorem dX4_extreme_64 : decode cX4_extreme 64 = .ok (.ifCond .ne 12, 3) := by decide +kernel
theorem dX4_extreme_67 : decode cX4_extreme 67 = .ok (.iload 6, 2) := by decide +kernel
theorem dX4_extreme_69 : decode cX4_extreme 69 = .ok (.iload_n 3, 1) := by decide +kernel
theorem dX4_extreme_70 : decode cX4_extreme 70 = .ok (.if_icmp .ge 6, 3) := by decide +kernel
theorem dX4_extreme_73 : decode cX4_extreme 73 = .ok (.iload 6, 2) := by decide +kernel
theorem dX4_extreme_75 : decode cX4_extreme 75 = .ok (.istore_n 3, 1) := by decide +kernel
theorem dX4_extreme_76 : decode cX4_extreme 76 = .ok (.iinc 4 1, 3) := by decide +kernel
theorem dX4_extreme_79 : decode cX4_extreme 79 = .ok (.goto (-74), 3) := by decide +kernel
theorem dX4_extreme_82 : decode cX4_extreme 82 = .ok (.iload_n 3, 1) := by decide +kernel
theorem dX4_extreme_83 : decode cX4_extreme 83 = .ok (.ireturn, 1) := by decide +kernel
theorem dX4_canPair_0 : decode cX4_canPair 0 = .ok (.iconst 0, 1) := by decide +kernel
theorem dX4_canPair_1 : decode cX4_canPair 1 = .ok (.iload_n 1, 1) := by decide +kernel
theorem dX4_canPair_2 : decode cX4_canPair 2 = .ok (.invokestatic 107, 3) := by decide +kernel
theorem dX4_canPair_5 : decode cX4_canPair 5 = .ok (.istore_n 3, 1) := by decide +kernel
theorem dX4_canPair_6 : decode cX4_canPair 6 = .ok (.aload_n 0, 1) := by decide +kernel
theorem dX4_canPair_7 : decode cX4_canPair 7 = .ok (.getfield 47, 3) := by decide +kernel
theorem dX4_canPair_10 : decode cX4_canPair 10 = .ok (.iload_n 3, 1) := by decide +kernel
theorem dX4_canPair_11 : decode cX4_canPair 11 = .ok (.iaload, 1) := by decide +kernel
theorem dX4_canPair_12 : decode cX4_canPair 12 = .ok (.aload_n 0, 1) := by decide +kernel
theorem dX4_canPair_13 : decode cX4_canPair 13 = .ok (.getfield 22, 3) := by decide +kernel
theorem dX4_canPair_16 : decode cX4_canPair 16 = .ok (.iload_n 2, 1) := by decide +kernel
theorem dX4_canPair_17 : decode cX4_canPair 17 = .ok (.iaload, 1) := by decide +kernel
theorem dX4_canPair_18 : decode cX4_canPair 18 = .ok (.if_icmp .eq 5, 3) := by decide +kernel
theorem dX4_canPair_21 : decode cX4_canPair 21 = .ok (.iconst 0, 1) := by decide +kernel
theorem dX4_canPair_22 : decode cX4_canPair 22 = .ok (.ireturn, 1) := by decide +kernel
theorem dX4_canPair_23 : decode cX4_canPair 23 = .ok (.aload_n 0, 1) := by decide +kernel
theorem dX4_canPair_24 : decode cX4_canPair 24 = .ok (.getfield 50, 3) := by decide +kernel
theorem dX4_canPair_27 : decode cX4_canPair 27 = .ok (.iload_n 3, 1) := by decide +kernel
theorem dX4_canPair_28 : decode cX4_canPair 28 = .ok (.iaload, 1) := by decide +kernel
theorem dX4_canPair_29 : decode cX4_canPair 29 = .ok (.iconst (-1), 1) := by decide +kernel
theorem dX4_canPair_30 : decode cX4_canPair 30 = .ok (.if_icmp .eq 15, 3) := by decide +kernel
theorem dX4_canPair_33 : decode cX4_canPair 33 = .ok (.aload_n 0, 1) := by decide +kernel
theorem dX4_canPair_34 : decode cX4_canPair 34 = .ok (.aload_n 0, 1) := by decide +kernel
theorem dX4_canPair_35 : decode cX4_canPair 35 = .ok (.getfield 50, 3) := by decide +kernel
theorem dX4_canPair_38 : decode cX4_canPair 38 = .ok (.iload_n 3, 1) := by decide +kernel
theorem dX4_canPair_39 : decode cX4_canPair 39 = .ok (.iaload, 1) := by decide +kernel
theorem dX4_canPair_40 : decode cX4_canPair 40 = .ok (.iload_n 2, 1) := by decide +kernel
theorem dX4_canPair_41 : decode cX4_canPair 41 = .ok (.invokevirtual 104, 3) := by decide +kernel
theorem dX4_canPair_44 : decode cX4_canPair 44 = .ok (.ireturn, 1) := by decide +kernel
theorem dX4_canPair_45 : decode cX4_canPair 45 = .ok (.aload_n 0, 1) := by decide +kernel
theorem dX4_canPair_46 : decode cX4_canPair 46 = .ok (.getfield 28, 3) := by decide +kernel
theorem dX4_canPair_49 : decode cX4_canPair 49 = .ok (.iload_n 2, 1) := by decide +kernel
theorem dX4_canPair_50 : decode cX4_canPair 50 = .ok (.iaload, 1) := by decide +kernel
theorem dX4_canPair_51 : decode cX4_canPair 51 = .ok (.aload_n 0, 1) := by decide +kernel
theorem dX4_canPair_52 : decode cX4_canPair 52 = .ok (.iload_n 1, 1) := by decide +kernel
theorem dX4_canPair_53 : decode cX4_canPair 53 = .ok (.iconst 0, 1) := by decide +kernel
theorem dX4_canPair_54 : decode cX4_canPair 54 = .ok (.invokevirtual 159, 3) := by decide +kernel
theorem dX4_canPair_57 : decode cX4_canPair 57 = .ok (.if_icmp .lt 22, 3) := by decide +kernel
theorem dX4_canPair_60 : decode cX4_canPair 60 = .ok (.aload_n 0, 1) := by decide +kernel
theorem dX4_canPair_61 : decode cX4_canPair 61 = .ok (.getfield 28, 3) := by decide +kernel
theorem dX4_canPair_64 : decode cX4_canPair 64 = .ok (.iload_n 2, 1) := by decide +kernel
theorem dX4_canPair_65 : decode cX4_canPair 65 = .ok (.iaload, 1) := by decide +kernel
theorem dX4_canPair_66 : decode cX4_canPair 66 = .ok (.aload_n 0, 1) := by decide +kernel
theorem dX4_canPair_67 : decode cX4_canPair 67 = .ok (.iload_n 1, 1) := by decide +kernel
theorem dX4_canPair_68 : decode cX4_canPair 68 = .ok (.iconst 1, 1) := by decide +kernel
theorem dX4_canPair_69 : decode cX4_canPair 69 = .ok (.invokevirtual 159, 3) := by decide +kernel
theorem dX4_canPair_72 : decode cX4_canPair 72 = .ok (.if_icmp .gt 7, 3) := by decide +kernel
theorem dX4_canPair_75 : decode cX4_canPair 75 = .ok (.iconst 1, 1) := by decide +kernel
theorem dX4_canPair_76 : decode cX4_canPair 76 = .ok (.goto 4, 3) := by decide +kernel
theorem dX4_canPair_79 : decode cX4_canPair 79 = .ok (.iconst 0, 1) := by decide +kernel
theorem dX4_canPair_80 : decode cX4_canPair 80 = .ok (.ireturn, 1) := by decide +kernel
theorem dX4_fits_0 : decode cX4_fits 0 = .ok (.aload_n 0, 1) := by decide +kernel
theorem dX4_fits_1 : decode cX4_fits 1 = .ok (.aload_n 0, 1) := by decide +kernel
theorem dX4_fits_2 : decode cX4_fits 2 = .ok (.iload_n 1, 1) := by decide +kernel
theorem dX4_fits_3 : decode cX4_fits 3 = .ok (.invokevirtual 96, 3) := by decide +kernel
theorem dX4_fits_6 : decode cX4_fits 6 = .ok (.ifCond .eq 7, 3) := by decide +kernel
theorem dX4_fits_9 : decode cX4_fits 9 = .ok (.iconst 0, 1) := by decide +kernel
theorem dX4_fits_10 : decode cX4_fits 10 = .ok (.goto 4, 3) := by decide +kernel
theorem dX4_fits_13 : decode cX4_fits 13 = .ok (.iconst 1, 1) := by decide +kernel
theorem dX4_fits_14 : decode cX4_fits 14 = .ok (.putfield 74, 3) := by decide +kernel
theorem dX4_fits_17 : decode cX4_fits 17 = .ok (.aload_n 0, 1) := by decide +kernel
theorem dX4_fits_18 : decode cX4_fits 18 = .ok (.getfield 74, 3) := by decide +kernel
theorem dX4_fits_21 : decode cX4_fits 21 = .ok (.ifCond .eq 5, 3) := by decide +kernel
theorem dX4_fits_24 : decode cX4_fits 24 = .ok (.iconst 0, 1) := by decide +kernel
theorem dX4_fits_25 : decode cX4_fits 25 = .ok (.ireturn, 1) := by decide +kernel
theorem dX4_fits_26 : decode cX4_fits 26 = .ok (.sipush 1271, 3) := by decide +kernel
theorem dX4_fits_29 : decode cX4_fits 29 = .ok (.newarray .boolean, 2) := by decide +kernel
theorem dX4_fits_31 : decode cX4_fits 31 = .ok (.astore_n 2, 1) := by decide +kernel
theorem dX4_fits_32 : decode cX4_fits 32 = .ok (.iconst 0, 1) := by decide +kernel
theorem dX4_fits_33 : decode cX4_fits 33 = .ok (.istore_n 3, 1) := by decide +kernel
theorem dX4_fits_34 : decode cX4_fits 34 = .ok (.iload_n 3, 1) := by decide +kernel
theorem dX4_fits_35 : decode cX4_fits 35 = .ok (.aload_n 0, 1) := by decide +kernel
theorem dX4_fits_36 : decode cX4_fits 36 = .ok (.getfield 41, 3) := by decide +kernel
theorem dX4_fits_39 : decode cX4_fits 39 = .ok (.iconst 0, 1) := by decide +kernel
theorem dX4_fits_40 : decode cX4_fits 40 = .ok (.iaload, 1) := by decide +kernel
theorem dX4_fits_41 : decode cX4_fits 41 = .ok (.if_icmp .gt 148, 3) := by decide +kernel
theorem dX4_fits_44 : decode cX4_fits 44 = .ok (.iconst 0, 1) := by decide +kernel
theorem dX4_fits_45 : decode cX4_fits 45 = .ok (.istore 4, 2) := by decide +kernel
theorem dX4_fits_47 : decode cX4_fits 47 = .ok (.iload 4, 2) := by decide +kernel
theorem dX4_fits_49 : decode cX4_fits 49 = .ok (.aload_n 0, 1) := by decide +kernel
theorem dX4_fits_50 : decode cX4_fits 50 = .ok (.getfield 19, 3) := by decide +kernel
theorem dX4_fits_53 : decode cX4_fits 53 = .ok (.iload_n 1, 1) := by decide +kernel
theorem dX4_fits_54 : decode cX4_fits 54 = .ok (.iaload, 1) := by decide +kernel
theorem dX4_fits_55 : decode cX4_fits 55 = .ok (.if_icmp .gt 128, 3) := by decide +kernel
theorem dX4_fits_58 : decode cX4_fits 58 = .ok (.iload_n 3, 1) := by decide +kernel
theorem dX4_fits_59 : decode cX4_fits 59 = .ok (.iload 4, 2) := by decide +kernel
theorem dX4_fits_61 : decode cX4_fits 61 = .ok (.iadd, 1) := by decide +kernel
theorem dX4_fits_62 : decode cX4_fits 62 = .ok (.ifCond .ne 7, 3) := by decide +kernel
theorem dX4_fits_65 : decode cX4_fits 65 = .ok (.iconst 1, 1) := by decide +kernel
theorem dX4_fits_66 : decode cX4_fits 66 = .ok (.goto 4, 3) := by decide +kernel
theorem dX4_fits_69 : decode cX4_fits 69 = .ok (.iconst 0, 1) := by decide +kernel
theorem dX4_fits_70 : decode cX4_fits 70 = .ok (.istore 5, 2) := by decide +kernel
theorem dX4_fits_72 : decode cX4_fits 72 = .ok (.iload 5, 2) := by decide +kernel
theorem dX4_fits_74 : decode cX4_fits 74 = .ok (.ifCond .ne 31, 3) := by decide +kernel
theorem dX4_fits_77 : decode cX4_fits 77 = .ok (.iload_n 3, 1) := by decide +kernel
theorem dX4_fits_78 : decode cX4_fits 78 = .ok (.ifCond .le 31, 3) := by decide +kernel
theorem dX4_fits_81 : decode cX4_fits 81 = .ok (.aload_n 2, 1) := by decide +kernel
theorem dX4_fits_82 : decode cX4_fits 82 = .ok (.iload_n 3, 1) := by decide +kernel
theorem dX4_fits_83 : decode cX4_fits 83 = .ok (.iconst 1, 1) := by decide +kernel
theorem dX4_fits_84 : decode cX4_fits 84 = .ok (.isub, 1) := by decide +kernel
theorem dX4_fits_85 : decode cX4_fits 85 = .ok (.iload 4, 2) := by decide +kernel
theorem dX4_fits_87 : decode cX4_fits 87 = .ok (.invokestatic 123, 3) := by decide +kernel
theorem dX4_fits_90 : decode cX4_fits 90 = .ok (.baload, 1) := by decide +kernel
theorem dX4_fits_91 : decode cX4_fits 91 = .ok (.ifCond .eq 18, 3) := by decide +kernel
theorem dX4_fits_94 : decode cX4_fits 94 = .ok (.aload_n 0, 1) := by decide +kernel
theorem dX4_fits_95 : decode cX4_fits 95 = .ok (.iconst 0, 1) := by decide +kernel
theorem dX4_fits_96 : decode cX4_fits 96 = .ok (.iload_n 3, 1) := by decide +kernel
theorem dX4_fits_97 : decode cX4_fits 97 = .ok (.iconst 1, 1) := by decide +kernel
theorem dX4_fits_98 : decode cX4_fits 98 = .ok (.isub, 1) := by decide +kernel
theorem dX4_fits_99 : decode cX4_fits 99 = .ok (.invokevirtual 126, 3) := by decide +kernel
theorem dX4_fits_102 : decode cX4_fits 102 = .ok (.ifCond .eq 7, 3) := by decide +kernel
theorem dX4_fits_105 : decode cX4_fits 105 = .ok (.iconst 1, 1) := by decide +kernel
theorem dX4_fits_106 : decode cX4_fits 106 = .ok (.goto 4, 3) := by decide +kernel
theorem dX4_fits_109 : decode cX4_fits 109 = .ok (.iconst 0, 1) := by decide +kernel
theorem dX4_fits_110 : decode cX4_fits 110 = .ok (.istore 5, 2) := by decide +kernel
theorem dX4_fits_112 : decode cX4_fits 112 = .ok (.iload 5, 2) := by decide +kernel
theorem dX4_fits_114 : decode cX4_fits 114 = .ok (.ifCond .ne 46, 3) := by decide +kernel
theorem dX4_fits_117 : decode cX4_fits 117 = .ok (.iload_n 3, 1) := by decide +kernel
theorem dX4_fits_118 : decode cX4_fits 118 = .ok (.ifCond .le 46, 3) := by decide +kernel
theorem dX4_fits_121 : decode cX4_fits 121 = .ok (.iload 4, 2) := by decide +kernel
theorem dX4_fits_123 : decode cX4_fits 123 = .ok (.ifCond .le 41, 3) := by decide +kernel
theorem dX4_fits_126 : decode cX4_fits 126 = .ok (.aload_n 2, 1) := by decide +kernel
theorem dX4_fits_127 : decode cX4_fits 127 = .ok (.iload_n 3, 1) := by decide +kernel
theorem dX4_fits_128 : decode cX4_fits 128 = .ok (.iconst 1, 1) := by decide +kernel
theorem dX4_fits_129 : decode cX4_fits 129 = .ok (.isub, 1) := by decide +kernel
theorem dX4_fits_130 : decode cX4_fits 130 = .ok (.iload 4, 2) := by decide +kernel
theorem dX4_fits_132 : decode cX4_fits 132 = .ok (.iconst 1, 1) := by decide +kernel
theorem dX4_fits_133 : decode cX4_fits 133 = .ok (.isub, 1) := by decide +kernel
theorem dX4_fits_134 : decode cX4_fits 134 = .ok (.invokestatic 123, 3) := by decide +kernel
theorem dX4_fits_137 : decode cX4_fits 137 = .ok (.baload, 1) := by decide +kernel
theorem dX4_fits_138 : decode cX4_fits 138 = .ok (.ifCond .eq 26, 3) := by decide +kernel
theorem dX4_fits_141 : decode cX4_fits 141 = .ok (.aload_n 0, 1) := by decide +kernel
theorem dX4_fits_142 : decode cX4_fits 142 = .ok (.iload_n 3, 1) := by decide +kernel
theorem dX4_fits_143 : decode cX4_fits 143 = .ok (.iconst 1, 1) := by decide +kernel
theorem dX4_fits_144 : decode cX4_fits 144 = .ok (.isub, 1) := by decide +kernel
theorem dX4_fits_145 : decode cX4_fits 145 = .ok (.bipush 30, 2) := by decide +kernel
theorem dX4_fits_147 : decode cX4_fits 147 = .ok (.iload_n 1, 1) := by decide +kernel
theorem dX4_fits_148 : decode cX4_fits 148 = .ok (.imul, 1) := by decide +kernel
theorem dX4_fits_149 : decode cX4_fits 149 = .ok (.iload 4, 2) := by decide +kernel
theorem dX4_fits_151 : decode cX4_fits 151 = .ok (.iadd, 1) := by decide +kernel
theorem dX4_fits_152 : decode cX4_fits 152 = .ok (.iconst 1, 1) := by decide +kernel
theorem dX4_fits_153 : decode cX4_fits 153 = .ok (.isub, 1) := by decide +kernel
theorem dX4_fits_154 : decode cX4_fits 154 = .ok (.invokevirtual 163, 3) := by decide +kernel
theorem dX4_fits_157 : decode cX4_fits 157 = .ok (.ifCond .eq 7, 3) := by decide +kernel
theorem dX4_fits_160 : decode cX4_fits 160 = .ok (.iconst 1, 1) := by decide +kernel
theorem dX4_fits_161 : decode cX4_fits 161 = .ok (.goto 4, 3) := by decide +kernel
theorem dX4_fits_164 : decode cX4_fits 164 = .ok (.iconst 0, 1) := by decide +kernel
theorem dX4_fits_165 : decode cX4_fits 165 = .ok (.istore 5, 2) := by decide +kernel
theorem dX4_fits_167 : decode cX4_fits 167 = .ok (.aload_n 2, 1) := by decide +kernel
theorem dX4_fits_168 : decode cX4_fits 168 = .ok (.iload_n 3, 1) := by decide +kernel
theorem dX4_fits_169 : decode cX4_fits 169 = .ok (.iload 4, 2) := by decide +kernel
theorem dX4_fits_171 : decode cX4_fits 171 = .ok (.invokestatic 123, 3) := by decide +kernel
theorem dX4_fits_174 : decode cX4_fits 174 = .ok (.iload 5, 2) := by decide +kernel
theorem dX4_fits_176 : decode cX4_fits 176 = .ok (.bastore, 1) := by decide +kernel
theorem dX4_fits_177 : decode cX4_fits 177 = .ok (.iinc 4 1, 3) := by decide +kernel
theorem dX4_fits_180 : decode cX4_fits 180 = .ok (.goto (-133), 3) := by decide +kernel
theorem dX4_fits_183 : decode cX4_fits 183 = .ok (.iinc 3 1, 3) := by decide +kernel
theorem dX4_fits_186 : decode cX4_fits 186 = .ok (.goto (-152), 3) := by decide +kernel
theorem dX4_fits_189 : decode cX4_fits 189 = .ok (.aload_n 2, 1) := by decide +kernel
theorem dX4_fits_190 : decode cX4_fits 190 = .ok (.aload_n 0, 1) := by decide +kernel
theorem dX4_fits_191 : decode cX4_fits 191 = .ok (.getfield 41, 3) := by decide +kernel
theorem dX4_fits_194 : decode cX4_fits 194 = .ok (.iconst 0, 1) := by decide +kernel
theorem dX4_fits_195 : decode cX4_fits 195 = .ok (.iaload, 1) := by decide +kernel
theorem dX4_fits_196 : decode cX4_fits 196 = .ok (.aload_n 0, 1) := by decide +kernel
theorem dX4_fits_197 : decode cX4_fits 197 = .ok (.getfield 19, 3) := by decide +kernel
theorem dX4_fits_200 : decode cX4_fits 200 = .ok (.iload_n 1, 1) := by decide +kernel
theorem dX4_fits_201 : decode cX4_fits 201 = .ok (.iaload, 1) := by decide +kernel
theorem dX4_fits_202 : decode cX4_fits 202 = .ok (.invokestatic 123, 3) := by decide +kernel
theorem dX4_fits_205 : decode cX4_fits 205 = .ok (.baload, 1) := by decide +kernel
theorem dX4_fits_206 : decode cX4_fits 206 = .ok (.ireturn, 1) := by decide +kernel
theorem dX4_strangest_0 : decode cX4_strangest 0 = .ok (.aload_n 0, 1) := by decide +kernel
theorem dX4_strangest_1 : decode cX4_strangest 1 = .ok (.iconst 0, 1) := by decide +kernel
theorem dX4_strangest_2 : decode cX4_strangest 2 = .ok (.putfield 74, 3) := by decide +kernel
theorem dX4_strangest_5 : decode cX4_strangest 5 = .ok (.iconst (-1), 1) := by decide +kernel
theorem dX4_strangest_6 : decode cX4_strangest 6 = .ok (.istore_n 1, 1) := by decide +kernel
theorem dX4_strangest_7 : decode cX4_strangest 7 = .ok (.iconst (-1), 1) := by decide +kernel
theorem dX4_strangest_8 : decode cX4_strangest 8 = .ok (.istore_n 2, 1) := by decide +kernel
theorem dX4_strangest_9 : decode cX4_strangest 9 = .ok (.iconst 0, 1) := by decide +kernel
theorem dX4_strangest_10 : decode cX4_strangest 10 = .ok (.istore_n 3, 1) := by decide +kernel
theorem dX4_strangest_11 : decode cX4_strangest 11 = .ok (.iload_n 3, 1) := by decide +kernel
theorem dX4_strangest_12 : decode cX4_strangest 12 = .ok (.aload_n 0, 1) := by decide +kernel
theorem dX4_strangest_13 : decode cX4_strangest 13 = .ok (.getfield 77, 3) := by decide +kernel
theorem dX4_strangest_16 : decode cX4_strangest 16 = .ok (.if_icmp .ge 31, 3) := by decide +kernel
theorem dX4_strangest_19 : decode cX4_strangest 19 = .ok (.aload_n 0, 1) := by decide +kernel
theorem dX4_strangest_20 : decode cX4_strangest 20 = .ok (.iconst 0, 1) := by decide +kernel
theorem dX4_strangest_21 : decode cX4_strangest 21 = .ok (.iload_n 3, 1) := by decide +kernel
theorem dX4_strangest_22 : decode cX4_strangest 22 = .ok (.invokevirtual 145, 3) := by decide +kernel
theorem dX4_strangest_25 : decode cX4_strangest 25 = .ok (.istore 4, 2) := by decide +kernel
theorem dX4_strangest_27 : decode cX4_strangest 27 = .ok (.iload 4, 2) := by decide +kernel
theorem dX4_strangest_29 : decode cX4_strangest 29 = .ok (.iload_n 2, 1) := by decide +kernel
theorem dX4_strangest_30 : decode cX4_strangest 30 = .ok (.if_icmp .gt 6, 3) := by decide +kernel
theorem dX4_strangest_33 : decode cX4_strangest 33 = .ok (.goto 8, 3) := by decide +kernel
theorem dX4_strangest_36 : decode cX4_strangest 36 = .ok (.iload_n 3, 1) := by decide +kernel
theorem dX4_strangest_37 : decode cX4_strangest 37 = .ok (.istore_n 1, 1) := by decide +kernel
theorem dX4_strangest_38 : decode cX4_strangest 38 = .ok (.iload 4, 2) := by decide +kernel
theorem dX4_strangest_40 : decode cX4_strangest 40 = .ok (.istore_n 2, 1) := by decide +kernel
theorem dX4_strangest_41 : decode cX4_strangest 41 = .ok (.iinc 3 1, 3) := by decide +kernel
theorem dX4_strangest_44 : decode cX4_strangest 44 = .ok (.goto (-33), 3) := by decide +kernel
theorem dX4_strangest_47 : decode cX4_strangest 47 = .ok (.iload_n 1, 1) := by decide +kernel
theorem dX4_strangest_48 : decode cX4_strangest 48 = .ok (.ireturn, 1) := by decide +kernel
theorem dX4_slotCount_0 : decode cX4_slotCount 0 = .ok (.aload_n 0, 1) := by decide +kernel
theorem dX4_slotCount_1 : decode cX4_slotCount 1 = .ok (.iconst 0, 1) := by decide +kernel
theorem dX4_slotCount_2 : decode cX4_slotCount 2 = .ok (.putfield 74, 3) := by decide +kernel
theorem dX4_slotCount_5 : decode cX4_slotCount 5 = .ok (.aload_n 0, 1) := by decide +kernel
theorem dX4_slotCount_6 : decode cX4_slotCount 6 = .ok (.getfield 41, 3) := by decide +kernel
theorem dX4_slotCount_9 : decode cX4_slotCount 9 = .ok (.iconst 0, 1) := by decide +kernel
theorem dX4_slotCount_10 : decode cX4_slotCount 10 = .ok (.iaload, 1) := by decide +kernel
theorem dX4_slotCount_11 : decode cX4_slotCount 11 = .ok (.ireturn, 1) := by decide +kernel
theorem dX4_slotKind_0 : decode cX4_slotKind 0 = .ok (.aload_n 0, 1) := by decide +kernel
theorem dX4_slotKind_1 : decode cX4_slotKind 1 = .ok (.iconst 0, 1) := by decide +kernel
theorem dX4_slotKind_2 : decode cX4_slotKind 2 = .ok (.putfield 74, 3) := by decide +kernel
theorem dX4_slotKind_5 : decode cX4_slotKind 5 = .ok (.aload_n 0, 1) := by decide +kernel
theorem dX4_slotKind_6 : decode cX4_slotKind 6 = .ok (.iload_n 1, 1) := by decide +kernel
theorem dX4_slotKind_7 : decode cX4_slotKind 7 = .ok (.invokevirtual 166, 3) := by decide +kernel
theorem dX4_slotKind_10 : decode cX4_slotKind 10 = .ok (.ifCond .eq 12, 3) := by decide +kernel
theorem dX4_slotKind_13 : decode cX4_slotKind 13 = .ok (.aload_n 0, 1) := by decide +kernel
theorem dX4_slotKind_14 : decode cX4_slotKind 14 = .ok (.getfield 47, 3) := by decide +kernel
theorem dX4_slotKind_17 : decode cX4_slotKind 17 = .ok (.iload_n 1, 1) := by decide +kernel
theorem dX4_slotKind_18 : decode cX4_slotKind 18 = .ok (.iaload, 1) := by decide +kernel
theorem dX4_slotKind_19 : decode cX4_slotKind 19 = .ok (.goto 8, 3) := by decide +kernel
theorem dX4_slotKind_22 : decode cX4_slotKind 22 = .ok (.aload_n 0, 1) := by decide +kernel
theorem dX4_slotKind_23 : decode cX4_slotKind 23 = .ok (.iconst 1, 1) := by decide +kernel
theorem dX4_slotKind_24 : decode cX4_slotKind 24 = .ok (.invokevirtual 85, 3) := by decide +kernel
theorem dX4_slotKind_27 : decode cX4_slotKind 27 = .ok (.ireturn, 1) := by decide +kernel
theorem dX4_textByte_0 : decode cX4_textByte 0 = .ok (.aload_n 0, 1) := by decide +kernel
theorem dX4_textByte_1 : decode cX4_textByte 1 = .ok (.iconst 0, 1) := by decide +kernel
theorem dX4_textByte_2 : decode cX4_textByte 2 = .ok (.putfield 74, 3) := by decide +kernel
theorem dX4_textByte_5 : decode cX4_textByte 5 = .ok (.aload_n 0, 1) := by decide +kernel
theorem dX4_textByte_6 : decode cX4_textByte 6 = .ok (.iload_n 1, 1) := by decide +kernel
theorem dX4_textByte_7 : decode cX4_textByte 7 = .ok (.invokevirtual 166, 3) := by decide +kernel
theorem dX4_textByte_10 : decode cX4_textByte 10 = .ok (.ifCond .ne 9, 3) := by decide +kernel
theorem dX4_textByte_13 : decode cX4_textByte 13 = .ok (.aload_n 0, 1) := by decide +kernel
theorem dX4_textByte_14 : decode cX4_textByte 14 = .ok (.iconst 1, 1) := by decide +kernel
theorem dX4_textByte_15 : decode cX4_textByte 15 = .ok (.invokevirtual 85, 3) := by decide +kernel
theorem dX4_textByte_18 : decode cX4_textByte 18 = .ok (.ireturn, 1) := by decide +kernel
theorem dX4_textByte_19 : decode cX4_textByte 19 = .ok (.aload_n 0, 1) := by decide +kernel
theorem dX4_textByte_20 : decode cX4_textByte 20 = .ok (.getfield 50, 3) := by decide +kernel
theorem dX4_textByte_23 : decode cX4_textByte 23 = .ok (.iload_n 1, 1) := by decide +kernel
theorem dX4_textByte_24 : decode cX4_textByte 24 = .ok (.iaload, 1) := by decide +kernel
theorem dX4_textByte_25 : decode cX4_textByte 25 = .ok (.istore_n 3, 1) := by decide +kernel
theorem dX4_textByte_26 : decode cX4_textByte 26 = .ok (.iload_n 3, 1) := by decide +kernel
theorem dX4_textByte_27 : decode cX4_textByte 27 = .ok (.iconst (-1), 1) := by decide +kernel
theorem dX4_textByte_28 : decode cX4_textByte 28 = .ok (.if_icmp .ne 5, 3) := by decide +kernel
theorem dX4_textByte_31 : decode cX4_textByte 31 = .ok (.iconst (-1), 1) := by decide +kernel
theorem dX4_textByte_32 : decode cX4_textByte 32 = .ok (.ireturn, 1) := by decide +kernel
theorem dX4_textByte_33 : decode cX4_textByte 33 = .ok (.iload_n 2, 1) := by decide +kernel
theorem dX4_textByte_34 : decode cX4_textByte 34 = .ok (.ifCond .lt 37, 3) := by decide +kernel
theorem dX4_textByte_37 : decode cX4_textByte 37 = .ok (.iload_n 2, 1) := by decide +kernel
theorem dX4_textByte_38 : decode cX4_textByte 38 = .ok (.aload_n 0, 1) := by decide +kernel
theorem dX4_textByte_39 : decode cX4_textByte 39 = .ok (.getfield 28, 3) := by decide +kernel
theorem dX4_textByte_42 : decode cX4_textByte 42 = .ok (.iload_n 3, 1) := by decide +kernel
theorem dX4_textByte_43 : decode cX4_textByte 43 = .ok (.iaload, 1) := by decide +kernel
theorem dX4_textByte_44 : decode cX4_textByte 44 = .ok (.if_icmp .ge 27, 3) := by decide +kernel
theorem dX4_textByte_47 : decode cX4_textByte 47 = .ok (.aload_n 0, 1) := by decide +kernel
theorem dX4_textByte_48 : decode cX4_textByte 48 = .ok (.getfield 16, 3) := by decide +kernel
theorem dX4_textByte_51 : decode cX4_textByte 51 = .ok (.iload_n 3, 1) := by decide +kernel
theorem dX4_textByte_52 : decode cX4_textByte 52 = .ok (.bipush 30, 2) := by decide +kernel
theorem dX4_textByte_54 : decode cX4_textByte 54 = .ok (.idiv, 1) := by decide +kernel
theorem dX4_textByte_55 : decode cX4_textByte 55 = .ok (.bipush 30, 2) := by decide +kernel
theorem dX4_textByte_57 : decode cX4_textByte 57 = .ok (.imul, 1) := by decide +kernel
theorem dX4_textByte_58 : decode cX4_textByte 58 = .ok (.aload_n 0, 1) := by decide +kernel
theorem dX4_textByte_59 : decode cX4_textByte 59 = .ok (.getfield 25, 3) := by decide +kernel
theorem dX4_textByte_62 : decode cX4_textByte 62 = .ok (.iload_n 3, 1) := by decide +kernel
theorem dX4_textByte_63 : decode cX4_textByte 63 = .ok (.iaload, 1) := by decide +kernel
theorem dX4_textByte_64 : decode cX4_textByte 64 = .ok (.iadd, 1) := by decide +kernel
theorem dX4_textByte_65 : decode cX4_textByte 65 = .ok (.iload_n 2, 1) := by decide +kernel
theorem dX4_textByte_66 : decode cX4_textByte 66 = .ok (.iadd, 1) := by decide +kernel
theorem dX4_textByte_67 : decode cX4_textByte 67 = .ok (.iaload, 1) := by decide +kernel
theorem dX4_textByte_68 : decode cX4_textByte 68 = .ok (.goto 8, 3) := by decide +kernel
theorem dX4_textByte_71 : decode cX4_textByte 71 = .ok (.aload_n 0, 1) := by decide +kernel
theorem dX4_textByte_72 : decode cX4_textByte 72 = .ok (.iconst 1, 1) := by decide +kernel
theorem dX4_textByte_73 : decode cX4_textByte 73 = .ok (.invokevirtual 85, 3) := by decide +kernel
theorem dX4_textByte_76 : decode cX4_textByte 76 = .ok (.ireturn, 1) := by decide +kernel
theorem dX4_sizeOf_0 : decode cX4_sizeOf 0 = .ok (.aload_n 0, 1) := by decide +kernel
theorem dX4_sizeOf_1 : decode cX4_sizeOf 1 = .ok (.iconst 0, 1) := by decide +kernel
theorem dX4_sizeOf_2 : decode cX4_sizeOf 2 = .ok (.putfield 74, 3) := by decide +kernel
theorem dX4_sizeOf_5 : decode cX4_sizeOf 5 = .ok (.aload_n 0, 1) := by decide +kernel
theorem dX4_sizeOf_6 : decode cX4_sizeOf 6 = .ok (.iload_n 1, 1) := by decide +kernel
theorem dX4_sizeOf_7 : decode cX4_sizeOf 7 = .ok (.invokevirtual 166, 3) := by decide +kernel
theorem dX4_sizeOf_10 : decode cX4_sizeOf 10 = .ok (.ifCond .eq 12, 3) := by decide +kernel
theorem dX4_sizeOf_13 : decode cX4_sizeOf 13 = .ok (.aload_n 0, 1) := by decide +kernel
theorem dX4_sizeOf_14 : decode cX4_sizeOf 14 = .ok (.iload_n 1, 1) := by decide +kernel
theorem dX4_sizeOf_15 : decode cX4_sizeOf 15 = .ok (.iload_n 2, 1) := by decide +kernel
theorem dX4_sizeOf_16 : decode cX4_sizeOf 16 = .ok (.invokevirtual 159, 3) := by decide +kernel
theorem dX4_sizeOf_19 : decode cX4_sizeOf 19 = .ok (.goto 8, 3) := by decide +kernel
theorem dX4_sizeOf_22 : decode cX4_sizeOf 22 = .ok (.aload_n 0, 1) := by decide +kernel
theorem dX4_sizeOf_23 : decode cX4_sizeOf 23 = .ok (.iconst 1, 1) := by decide +kernel
theorem dX4_sizeOf_24 : decode cX4_sizeOf 24 = .ok (.invokevirtual 85, 3) := by decide +kernel
theorem dX4_sizeOf_27 : decode cX4_sizeOf 27 = .ok (.ireturn, 1) := by decide +kernel
theorem dX4_uses_0 : decode cX4_uses 0 = .ok (.aload_n 0, 1) := by decide +kernel
theorem dX4_uses_1 : decode cX4_uses 1 = .ok (.iconst 0, 1) := by decide +kernel
theorem dX4_uses_2 : decode cX4_uses 2 = .ok (.putfield 74, 3) := by decide +kernel
theorem dX4_uses_5 : decode cX4_uses 5 = .ok (.aload_n 0, 1) := by decide +kernel
theorem dX4_uses_6 : decode cX4_uses 6 = .ok (.iload_n 1, 1) := by decide +kernel
theorem dX4_uses_7 : decode cX4_uses 7 = .ok (.invokevirtual 166, 3) := by decide +kernel
theorem dX4_uses_10 : decode cX4_uses 10 = .ok (.ifCond .eq 12, 3) := by decide +kernel
theorem dX4_uses_13 : decode cX4_uses 13 = .ok (.aload_n 0, 1) := by decide +kernel
theorem dX4_uses_14 : decode cX4_uses 14 = .ok (.iconst 0, 1) := by decide +kernel
theorem dX4_uses_15 : decode cX4_uses 15 = .ok (.iload_n 1, 1) := by decide +kernel
theorem dX4_uses_16 : decode cX4_uses 16 = .ok (.invokevirtual 115, 3) := by decide +kernel
theorem dX4_uses_19 : decode cX4_uses 19 = .ok (.goto 8, 3) := by decide +kernel
theorem dX4_uses_22 : decode cX4_uses 22 = .ok (.aload_n 0, 1) := by decide +kernel
theorem dX4_uses_23 : decode cX4_uses 23 = .ok (.iconst 1, 1) := by decide +kernel
theorem dX4_uses_24 : decode cX4_uses 24 = .ok (.invokevirtual 85, 3) := by decide +kernel
theorem dX4_uses_27 : decode cX4_uses 27 = .ok (.ireturn, 1) := by decide +kernel
theorem dX4_isOptional_0 : decode cX4_isOptional 0 = .ok (.aload_n 0, 1) := by decide +kernel
theorem dX4_isOptional_1 : decode cX4_isOptional 1 = .ok (.aload_n 0, 1) := by decide +kernel
theorem dX4_isOptional_2 : decode cX4_isOptional 2 = .ok (.iload_n 1, 1) := by decide +kernel
theorem dX4_isOptional_3 : decode cX4_isOptional 3 = .ok (.invokevirtual 166, 3) := by decide +kernel
theorem dX4_isOptional_6 : decode cX4_isOptional 6 = .ok (.ifCond .eq 7, 3) := by decide +kernel
theorem dX4_isOptional_9 : decode cX4_isOptional 9 = .ok (.iconst 0, 1) := by decide +kernel
theorem dX4_isOptional_10 : decode cX4_isOptional 10 = .ok (.goto 4, 3) := by decide +kernel
theorem dX4_isOptional_13 : decode cX4_isOptional 13 = .ok (.iconst 1, 1) := by decide +kernel
theorem dX4_isOptional_14 : decode cX4_isOptional 14 = .ok (.putfield 74, 3) := by decide +kernel
theorem dX4_isOptional_17 : decode cX4_isOptional 17 = .ok (.aload_n 0, 1) := by decide +kernel
theorem dX4_isOptional_18 : decode cX4_isOptional 18 = .ok (.getfield 74, 3) := by decide +kernel
theorem dX4_isOptional_21 : decode cX4_isOptional 21 = .ok (.ifCond .ne 16, 3) := by decide +kernel
theorem dX4_isOptional_24 : decode cX4_isOptional 24 = .ok (.aload_n 0, 1) := by decide +kernel
theorem dX4_isOptional_25 : decode cX4_isOptional 25 = .ok (.iconst 0, 1) := by decide +kernel
theorem dX4_isOptional_26 : decode cX4_isOptional 26 = .ok (.iload_n 1, 1) := by decide +kernel
theorem dX4_isOptional_27 : decode cX4_isOptional 27 = .ok (.invokevirtual 126, 3) := by decide +kernel
theorem dX4_isOptional_30 : decode cX4_isOptional 30 = .ok (.ifCond .eq 7, 3) := by decide +kernel
theorem dX4_isOptional_33 : decode cX4_isOptional 33 = .ok (.iconst 1, 1) := by decide +kernel
theorem dX4_isOptional_34 : decode cX4_isOptional 34 = .ok (.goto 4, 3) := by decide +kernel
theorem dX4_isOptional_37 : decode cX4_isOptional 37 = .ok (.iconst 0, 1) := by decide +kernel
theorem dX4_isOptional_38 : decode cX4_isOptional 38 = .ok (.ireturn, 1) := by decide +kernel
theorem dX4_tokenAt_0 : decode cX4_tokenAt 0 = .ok (.aload_n 0, 1) := by decide +kernel
theorem dX4_tokenAt_1 : decode cX4_tokenAt 1 = .ok (.iconst 0, 1) := by decide +kernel
theorem dX4_tokenAt_2 : decode cX4_tokenAt 2 = .ok (.putfield 74, 3) := by decide +kernel
theorem dX4_tokenAt_5 : decode cX4_tokenAt 5 = .ok (.aload_n 0, 1) := by decide +kernel
theorem dX4_tokenAt_6 : decode cX4_tokenAt 6 = .ok (.iload_n 1, 1) := by decide +kernel
theorem dX4_tokenAt_7 : decode cX4_tokenAt 7 = .ok (.invokevirtual 96, 3) := by decide +kernel
theorem dX4_tokenAt_10 : decode cX4_tokenAt 10 = .ok (.ifCond .eq 21, 3) := by decide +kernel
theorem dX4_tokenAt_13 : decode cX4_tokenAt 13 = .ok (.aload_n 0, 1) := by decide +kernel
theorem dX4_tokenAt_14 : decode cX4_tokenAt 14 = .ok (.iload_n 2, 1) := by decide +kernel
theorem dX4_tokenAt_15 : decode cX4_tokenAt 15 = .ok (.invokevirtual 166, 3) := by decide +kernel
theorem dX4_tokenAt_18 : decode cX4_tokenAt 18 = .ok (.ifCond .eq 13, 3) := by decide +kernel
theorem dX4_tokenAt_21 : decode cX4_tokenAt 21 = .ok (.aload_n 0, 1) := by decide +kernel
theorem dX4_tokenAt_22 : decode cX4_tokenAt 22 = .ok (.iconst 0, 1) := by decide +kernel
theorem dX4_tokenAt_23 : decode cX4_tokenAt 23 = .ok (.iload_n 2, 1) := by decide +kernel
theorem dX4_tokenAt_24 : decode cX4_tokenAt 24 = .ok (.iload_n 1, 1) := by decide +kernel
theorem dX4_tokenAt_25 : decode cX4_tokenAt 25 = .ok (.invokevirtual 111, 3) := by decide +kernel
theorem dX4_tokenAt_28 : decode cX4_tokenAt 28 = .ok (.goto 8, 3) := by decide +kernel
theorem dX4_tokenAt_31 : decode cX4_tokenAt 31 = .ok (.aload_n 0, 1) := by decide +kernel
theorem dX4_tokenAt_32 : decode cX4_tokenAt 32 = .ok (.iconst 1, 1) := by decide +kernel
theorem dX4_tokenAt_33 : decode cX4_tokenAt 33 = .ok (.invokevirtual 85, 3) := by decide +kernel
theorem dX4_tokenAt_36 : decode cX4_tokenAt 36 = .ok (.ireturn, 1) := by decide +kernel
theorem dX4_numberOf_0 : decode cX4_numberOf 0 = .ok (.aload_n 0, 1) := by decide +kernel
theorem dX4_numberOf_1 : decode cX4_numberOf 1 = .ok (.iconst 0, 1) := by decide +kernel
theorem dX4_numberOf_2 : decode cX4_numberOf 2 = .ok (.iload_n 2, 1) := by decide +kernel
theorem dX4_numberOf_3 : decode cX4_numberOf 3 = .ok (.iload_n 1, 1) := by decide +kernel
theorem dX4_numberOf_4 : decode cX4_numberOf 4 = .ok (.invokevirtual 111, 3) := by decide +kernel
theorem dX4_numberOf_7 : decode cX4_numberOf 7 = .ok (.istore_n 3, 1) := by decide +kernel
theorem dX4_numberOf_8 : decode cX4_numberOf 8 = .ok (.iload_n 3, 1) := by decide +kernel
theorem dX4_numberOf_9 : decode cX4_numberOf 9 = .ok (.iconst (-1), 1) := by decide +kernel
theorem dX4_numberOf_10 : decode cX4_numberOf 10 = .ok (.if_icmp .eq 13, 3) := by decide +kernel
theorem dX4_numberOf_13 : decode cX4_numberOf 13 = .ok (.aload_n 0, 1) := by decide +kernel
theorem dX4_numberOf_14 : decode cX4_numberOf 14 = .ok (.getfield 47, 3) := by decide +kernel
theorem dX4_numberOf_17 : decode cX4_numberOf 17 = .ok (.iload_n 2, 1) := by decide +kernel
theorem dX4_numberOf_18 : decode cX4_numberOf 18 = .ok (.iaload, 1) := by decide +kernel
theorem dX4_numberOf_19 : decode cX4_numberOf 19 = .ok (.iconst 1, 1) := by decide +kernel
theorem dX4_numberOf_20 : decode cX4_numberOf 20 = .ok (.if_icmp .eq 5, 3) := by decide +kernel
theorem dX4_numberOf_23 : decode cX4_numberOf 23 = .ok (.iconst (-1), 1) := by decide +kernel
theorem dX4_numberOf_24 : decode cX4_numberOf 24 = .ok (.ireturn, 1) := by decide +kernel
theorem dX4_numberOf_25 : decode cX4_numberOf 25 = .ok (.bipush 30, 2) := by decide +kernel
theorem dX4_numberOf_27 : decode cX4_numberOf 27 = .ok (.iload_n 1, 1) := by decide +kernel
theorem dX4_numberOf_28 : decode cX4_numberOf 28 = .ok (.imul, 1) := by decide +kernel
theorem dX4_numberOf_29 : decode cX4_numberOf 29 = .ok (.iload_n 3, 1) := by decide +kernel
theorem dX4_numberOf_30 : decode cX4_numberOf 30 = .ok (.iadd, 1) := by decide +kernel
theorem dX4_numberOf_31 : decode cX4_numberOf 31 = .ok (.istore 4, 2) := by decide +kernel
theorem dX4_numberOf_33 : decode cX4_numberOf 33 = .ok (.iconst 0, 1) := by decide +kernel
theorem dX4_numberOf_34 : decode cX4_numberOf 34 = .ok (.istore 5, 2) := by decide +kernel
theorem dX4_numberOf_36 : decode cX4_numberOf 36 = .ok (.iconst 0, 1) := by decide +kernel
theorem dX4_numberOf_37 : decode cX4_numberOf 37 = .ok (.aload_n 0, 1) := by decide +kernel
theorem dX4_numberOf_38 : decode cX4_numberOf 38 = .ok (.getfield 28, 3) := by decide +kernel
theorem dX4_numberOf_41 : decode cX4_numberOf 41 = .ok (.iload 4, 2) := by decide +kernel
theorem dX4_numberOf_43 : decode cX4_numberOf 43 = .ok (.iaload, 1) := by decide +kernel
theorem dX4_numberOf_44 : decode cX4_numberOf 44 = .ok (.bipush 9, 2) := by decide +kernel
theorem dX4_numberOf_46 : decode cX4_numberOf 46 = .ok (.isub, 1) := by decide +kernel
theorem dX4_numberOf_47 : decode cX4_numberOf 47 = .ok (.invokestatic 142, 3) := by decide +kernel
theorem dX4_numberOf_50 : decode cX4_numberOf 50 = .ok (.istore 6, 2) := by decide +kernel
theorem dX4_numberOf_52 : decode cX4_numberOf 52 = .ok (.iload 6, 2) := by decide +kernel
theorem dX4_numberOf_54 : decode cX4_numberOf 54 = .ok (.aload_n 0, 1) := by decide +kernel
theorem dX4_numberOf_55 : decode cX4_numberOf 55 = .ok (.getfield 28, 3) := by decide +kernel
theorem dX4_numberOf_58 : decode cX4_numberOf 58 = .ok (.iload 4, 2) := by decide +kernel
theorem dX4_numberOf_60 : decode cX4_numberOf 60 = .ok (.iaload, 1) := by decide +kernel
theorem dX4_numberOf_61 : decode cX4_numberOf 61 = .ok (.if_icmp .ge 40, 3) := by decide +kernel
theorem dX4_numberOf_64 : decode cX4_numberOf 64 = .ok (.bipush 10, 2) := by decide +kernel
theorem dX4_numberOf_66 : decode cX4_numberOf 66 = .ok (.iload 5, 2) := by decide +kernel
theorem dX4_numberOf_68 : decode cX4_numberOf 68 = .ok (.imul, 1) := by decide +kernel
theorem dX4_numberOf_69 : decode cX4_numberOf 69 = .ok (.aload_n 0, 1) := by decide +kernel
theorem dX4_numberOf_70 : decode cX4_numberOf 70 = .ok (.getfield 16, 3) := by decide +kernel
theorem dX4_numberOf_73 : decode cX4_numberOf 73 = .ok (.bipush 30, 2) := by decide +kernel
theorem dX4_numberOf_75 : decode cX4_numberOf 75 = .ok (.iload_n 1, 1) := by decide +kernel
theorem dX4_numberOf_76 : decode cX4_numberOf 76 = .ok (.imul, 1) := by decide +kernel
theorem dX4_numberOf_77 : decode cX4_numberOf 77 = .ok (.aload_n 0, 1) := by decide +kernel
theorem dX4_numberOf_78 : decode cX4_numberOf 78 = .ok (.getfield 25, 3) := by decide +kernel
theorem dX4_numberOf_81 : decode cX4_numberOf 81 = .ok (.iload 4, 2) := by decide +kernel
theorem dX4_numberOf_83 : decode cX4_numberOf 83 = .ok (.iaload, 1) := by decide +kernel
theorem dX4_numberOf_84 : decode cX4_numberOf 84 = .ok (.iadd, 1) := by decide +kernel
theorem dX4_numberOf_85 : decode cX4_numberOf 85 = .ok (.iload 6, 2) := by decide +kernel
theorem dX4_numberOf_87 : decode cX4_numberOf 87 = .ok (.iadd, 1) := by decide +kernel
theorem dX4_numberOf_88 : decode cX4_numberOf 88 = .ok (.iaload, 1) := by decide +kernel
theorem dX4_numberOf_89 : decode cX4_numberOf 89 = .ok (.iadd, 1) := by decide +kernel
theorem dX4_numberOf_90 : decode cX4_numberOf 90 = .ok (.bipush 48, 2) := by decide +kernel
theorem dX4_numberOf_92 : decode cX4_numberOf 92 = .ok (.isub, 1) := by decide +kernel
theorem dX4_numberOf_93 : decode cX4_numberOf 93 = .ok (.istore 5, 2) := by decide +kernel
theorem dX4_numberOf_95 : decode cX4_numberOf 95 = .ok (.iinc 6 1, 3) := by decide +kernel
theorem dX4_numberOf_98 : decode cX4_numberOf 98 = .ok (.goto (-46), 3) := by decide +kernel
theorem dX4_numberOf_101 : decode cX4_numberOf 101 = .ok (.iload 5, 2) := by decide +kernel
theorem dX4_numberOf_103 : decode cX4_numberOf 103 = .ok (.ireturn, 1) := by decide +kernel
theorem dX4_numberAt_0 : decode cX4_numberAt 0 = .ok (.aload_n 0, 1) := by decide +kernel
theorem dX4_numberAt_1 : decode cX4_numberAt 1 = .ok (.iconst 0, 1) := by decide +kernel
theorem dX4_numberAt_2 : decode cX4_numberAt 2 = .ok (.putfield 74, 3) := by decide +kernel
theorem dX4_numberAt_5 : decode cX4_numberAt 5 = .ok (.aload_n 0, 1) := by decide +kernel
theorem dX4_numberAt_6 : decode cX4_numberAt 6 = .ok (.iload_n 1, 1) := by decide +kernel
theorem dX4_numberAt_7 : decode cX4_numberAt 7 = .ok (.invokevirtual 96, 3) := by decide +kernel
theorem dX4_numberAt_10 : decode cX4_numberAt 10 = .ok (.ifCond .eq 20, 3) := by decide +kernel
theorem dX4_numberAt_13 : decode cX4_numberAt 13 = .ok (.aload_n 0, 1) := by decide +kernel
theorem dX4_numberAt_14 : decode cX4_numberAt 14 = .ok (.iload_n 2, 1) := by decide +kernel
theorem dX4_numberAt_15 : decode cX4_numberAt 15 = .ok (.invokevirtual 166, 3) := by decide +kernel
theorem dX4_numberAt_18 : decode cX4_numberAt 18 = .ok (.ifCond .eq 12, 3) := by decide +kernel
theorem dX4_numberAt_21 : decode cX4_numberAt 21 = .ok (.aload_n 0, 1) := by decide +kernel
theorem dX4_numberAt_22 : decode cX4_numberAt 22 = .ok (.iload_n 1, 1) := by decide +kernel
theorem dX4_numberAt_23 : decode cX4_numberAt 23 = .ok (.iload_n 2, 1) := by decide +kernel
theorem dX4_numberAt_24 : decode cX4_numberAt 24 = .ok (.invokevirtual 169, 3) := by decide +kernel
theorem dX4_numberAt_27 : decode cX4_numberAt 27 = .ok (.goto 8, 3) := by decide +kernel
theorem dX4_numberAt_30 : decode cX4_numberAt 30 = .ok (.aload_n 0, 1) := by decide +kernel
theorem dX4_numberAt_31 : decode cX4_numberAt 31 = .ok (.iconst 1, 1) := by decide +kernel
theorem dX4_numberAt_32 : decode cX4_numberAt 32 = .ok (.invokevirtual 85, 3) := by decide +kernel
theorem dX4_numberAt_35 : decode cX4_numberAt 35 = .ok (.ireturn, 1) := by decide +kernel
theorem dX4_distinct_0 : decode cX4_distinct 0 = .ok (.aload_n 0, 1) := by decide +kernel
theorem dX4_distinct_1 : decode cX4_distinct 1 = .ok (.iconst 0, 1) := by decide +kernel
theorem dX4_distinct_2 : decode cX4_distinct 2 = .ok (.putfield 74, 3) := by decide +kernel
theorem dX4_distinct_5 : decode cX4_distinct 5 = .ok (.aload_n 0, 1) := by decide +kernel
theorem dX4_distinct_6 : decode cX4_distinct 6 = .ok (.iload_n 1, 1) := by decide +kernel
theorem dX4_distinct_7 : decode cX4_distinct 7 = .ok (.invokevirtual 166, 3) := by decide +kernel
theorem dX4_distinct_10 : decode cX4_distinct 10 = .ok (.ifCond .ne 9, 3) := by decide +kernel
theorem dX4_distinct_13 : decode cX4_distinct 13 = .ok (.aload_n 0, 1) := by decide +kernel
theorem dX4_distinct_14 : decode cX4_distinct 14 = .ok (.iconst 1, 1) := by decide +kernel
theorem dX4_distinct_15 : decode cX4_distinct 15 = .ok (.invokevirtual 85, 3) := by decide +kernel
theorem dX4_distinct_18 : decode cX4_distinct 18 = .ok (.ireturn, 1) := by decide +kernel
theorem dX4_distinct_19 : decode cX4_distinct 19 = .ok (.iconst 0, 1) := by decide +kernel
theorem dX4_distinct_20 : decode cX4_distinct 20 = .ok (.istore_n 2, 1) := by decide +kernel
theorem dX4_distinct_21 : decode cX4_distinct 21 = .ok (.iconst 0, 1) := by decide +kernel
theorem dX4_distinct_22 : decode cX4_distinct 22 = .ok (.istore_n 3, 1) := by decide +kernel
theorem dX4_distinct_23 : decode cX4_distinct 23 = .ok (.iload_n 3, 1) := by decide +kernel
theorem dX4_distinct_24 : decode cX4_distinct 24 = .ok (.aload_n 0, 1) := by decide +kernel
theorem dX4_distinct_25 : decode cX4_distinct 25 = .ok (.getfield 77, 3) := by decide +kernel
theorem dX4_distinct_28 : decode cX4_distinct 28 = .ok (.if_icmp .ge 112, 3) := by decide +kernel
theorem dX4_distinct_31 : decode cX4_distinct 31 = .ok (.aload_n 0, 1) := by decide +kernel
theorem dX4_distinct_32 : decode cX4_distinct 32 = .ok (.iconst 0, 1) := by decide +kernel
theorem dX4_distinct_33 : decode cX4_distinct 33 = .ok (.iload_n 1, 1) := by decide +kernel
theorem dX4_distinct_34 : decode cX4_distinct 34 = .ok (.iload_n 3, 1) := by decide +kernel
theorem dX4_distinct_35 : decode cX4_distinct 35 = .ok (.invokevirtual 111, 3) := by decide +kernel
theorem dX4_distinct_38 : decode cX4_distinct 38 = .ok (.iconst (-1), 1) := by decide +kernel
theorem dX4_distinct_39 : decode cX4_distinct 39 = .ok (.if_icmp .eq 7, 3) := by decide +kernel
theorem dX4_distinct_42 : decode cX4_distinct 42 = .ok (.iconst 1, 1) := by decide +kernel
theorem dX4_distinct_43 : decode cX4_distinct 43 = .ok (.goto 4, 3) := by decide +kernel
theorem dX4_distinct_46 : decode cX4_distinct 46 = .ok (.iconst 0, 1) := by decide +kernel
theorem dX4_distinct_47 : decode cX4_distinct 47 = .ok (.istore 4, 2) := by decide +kernel
theorem dX4_distinct_49 : decode cX4_distinct 49 = .ok (.iconst 0, 1) := by decide +kernel
theorem dX4_distinct_50 : decode cX4_distinct 50 = .ok (.istore 5, 2) := by decide +kernel
theorem dX4_distinct_52 : decode cX4_distinct 52 = .ok (.iload 5, 2) := by decide +kernel
theorem dX4_distinct_54 : decode cX4_distinct 54 = .ok (.iload_n 3, 1) := by decide +kernel
theorem dX4_distinct_55 : decode cX4_distinct 55 = .ok (.if_icmp .ge 66, 3) := by decide +kernel
theorem dX4_distinct_58 : decode cX4_distinct 58 = .ok (.iload 4, 2) := by decide +kernel
theorem dX4_distinct_60 : decode cX4_distinct 60 = .ok (.ifCond .eq 61, 3) := by decide +kernel
theorem dX4_distinct_63 : decode cX4_distinct 63 = .ok (.aload_n 0, 1) := by decide +kernel
theorem dX4_distinct_64 : decode cX4_distinct 64 = .ok (.iconst 0, 1) := by decide +kernel
theorem dX4_distinct_65 : decode cX4_distinct 65 = .ok (.iload_n 1, 1) := by decide +kernel
theorem dX4_distinct_66 : decode cX4_distinct 66 = .ok (.iload 5, 2) := by decide +kernel
theorem dX4_distinct_68 : decode cX4_distinct 68 = .ok (.invokevirtual 111, 3) := by decide +kernel
theorem dX4_distinct_71 : decode cX4_distinct 71 = .ok (.iconst (-1), 1) := by decide +kernel
theorem dX4_distinct_72 : decode cX4_distinct 72 = .ok (.if_icmp .eq 43, 3) := by decide +kernel
theorem dX4_distinct_75 : decode cX4_distinct 75 = .ok (.aload_n 0, 1) := by decide +kernel
theorem dX4_distinct_76 : decode cX4_distinct 76 = .ok (.bipush 30, 2) := by decide +kernel
theorem dX4_distinct_78 : decode cX4_distinct 78 = .ok (.iload_n 3, 1) := by decide +kernel
theorem dX4_distinct_79 : decode cX4_distinct 79 = .ok (.imul, 1) := by decide +kernel
theorem dX4_distinct_80 : decode cX4_distinct 80 = .ok (.aload_n 0, 1) := by decide +kernel
theorem dX4_distinct_81 : decode cX4_distinct 81 = .ok (.iconst 0, 1) := by decide +kernel
theorem dX4_distinct_82 : decode cX4_distinct 82 = .ok (.iload_n 1, 1) := by decide +kernel
theorem dX4_distinct_83 : decode cX4_distinct 83 = .ok (.iload_n 3, 1) := by decide +kernel
theorem dX4_distinct_84 : decode cX4_distinct 84 = .ok (.invokevirtual 111, 3) := by decide +kernel
theorem dX4_distinct_87 : decode cX4_distinct 87 = .ok (.iadd, 1) := by decide +kernel
theorem dX4_distinct_88 : decode cX4_distinct 88 = .ok (.bipush 30, 2) := by decide +kernel
theorem dX4_distinct_90 : decode cX4_distinct 90 = .ok (.iload 5, 2) := by decide +kernel
theorem dX4_distinct_92 : decode cX4_distinct 92 = .ok (.imul, 1) := by decide +kernel
theorem dX4_distinct_93 : decode cX4_distinct 93 = .ok (.aload_n 0, 1) := by decide +kernel
theorem dX4_distinct_94 : decode cX4_distinct 94 = .ok (.iconst 0, 1) := by decide +kernel
theorem dX4_distinct_95 : decode cX4_distinct 95 = .ok (.iload_n 1, 1) := by decide +kernel
theorem dX4_distinct_96 : decode cX4_distinct 96 = .ok (.iload 5, 2) := by decide +kernel
theorem dX4_distinct_98 : decode cX4_distinct 98 = .ok (.invokevirtual 111, 3) := by decide +kernel
theorem dX4_distinct_101 : decode cX4_distinct 101 = .ok (.iadd, 1) := by decide +kernel
theorem dX4_distinct_102 : decode cX4_distinct 102 = .ok (.invokevirtual 104, 3) := by decide +kernel
theorem dX4_distinct_105 : decode cX4_distinct 105 = .ok (.ifCond .ne 7, 3) := by decide +kernel
theorem dX4_distinct_108 : decode cX4_distinct 108 = .ok (.iconst 1, 1) := by decide +kernel
theorem dX4_distinct_109 : decode cX4_distinct 109 = .ok (.goto 4, 3) := by decide +kernel
theorem dX4_distinct_112 : decode cX4_distinct 112 = .ok (.iconst 0, 1) := by decide +kernel
theorem dX4_distinct_113 : decode cX4_distinct 113 = .ok (.istore 4, 2) := by decide +kernel
theorem dX4_distinct_115 : decode cX4_distinct 115 = .ok (.iinc 5 1, 3) := by decide +kernel
theorem dX4_distinct_118 : decode cX4_distinct 118 = .ok (.goto (-66), 3) := by decide +kernel
theorem dX4_distinct_121 : decode cX4_distinct 121 = .ok (.iload_n 2, 1) := by decide +kernel
theorem dX4_distinct_122 : decode cX4_distinct 122 = .ok (.iload 4, 2) := by decide +kernel
theorem dX4_distinct_124 : decode cX4_distinct 124 = .ok (.ifCond .eq 7, 3) := by decide +kernel
theorem dX4_distinct_127 : decode cX4_distinct 127 = .ok (.iconst 1, 1) := by decide +kernel
theorem dX4_distinct_128 : decode cX4_distinct 128 = .ok (.goto 4, 3) := by decide +kernel
theorem dX4_distinct_131 : decode cX4_distinct 131 = .ok (.iconst 0, 1) := by decide +kernel
theorem dX4_distinct_132 : decode cX4_distinct 132 = .ok (.iadd, 1) := by decide +kernel
theorem dX4_distinct_133 : decode cX4_distinct 133 = .ok (.istore_n 2, 1) := by decide +kernel
theorem dX4_distinct_134 : decode cX4_distinct 134 = .ok (.iinc 3 1, 3) := by decide +kernel
theorem dX4_distinct_137 : decode cX4_distinct 137 = .ok (.goto (-114), 3) := by decide +kernel
theorem dX4_distinct_140 : decode cX4_distinct 140 = .ok (.iload_n 2, 1) := by decide +kernel
theorem dX4_distinct_141 : decode cX4_distinct 141 = .ok (.ireturn, 1) := by decide +kernel
theorem dX4_isRising_0 : decode cX4_isRising 0 = .ok (.aload_n 0, 1) := by decide +kernel
theorem dX4_isRising_1 : decode cX4_isRising 1 = .ok (.aload_n 0, 1) := by decide +kernel
theorem dX4_isRising_2 : decode cX4_isRising 2 = .ok (.iload_n 1, 1) := by decide +kernel
theorem dX4_isRising_3 : decode cX4_isRising 3 = .ok (.invokevirtual 166, 3) := by decide +kernel
theorem dX4_isRising_6 : decode cX4_isRising 6 = .ok (.ifCond .eq 7, 3) := by decide +kernel
theorem dX4_isRising_9 : decode cX4_isRising 9 = .ok (.iconst 0, 1) := by decide +kernel
theorem dX4_isRising_10 : decode cX4_isRising 10 = .ok (.goto 4, 3) := by decide +kernel
theorem dX4_isRising_13 : decode cX4_isRising 13 = .ok (.iconst 1, 1) := by decide +kernel
theorem dX4_isRising_14 : decode cX4_isRising 14 = .ok (.putfield 74, 3) := by decide +kernel
theorem dX4_isRising_17 : decode cX4_isRising 17 = .ok (.aload_n 0, 1) := by decide +kernel
theorem dX4_isRising_18 : decode cX4_isRising 18 = .ok (.getfield 74, 3) := by decide +kernel
theorem dX4_isRising_21 : decode cX4_isRising 21 = .ok (.ifCond .ne 23, 3) := by decide +kernel
theorem dX4_isRising_24 : decode cX4_isRising 24 = .ok (.aload_n 0, 1) := by decide +kernel
theorem dX4_isRising_25 : decode cX4_isRising 25 = .ok (.getfield 47, 3) := by decide +kernel
theorem dX4_isRising_28 : decode cX4_isRising 28 = .ok (.iload_n 1, 1) := by decide +kernel
theorem dX4_isRising_29 : decode cX4_isRising 29 = .ok (.iaload, 1) := by decide +kernel
theorem dX4_isRising_30 : decode cX4_isRising 30 = .ok (.iconst 1, 1) := by decide +kernel
theorem dX4_isRising_31 : decode cX4_isRising 31 = .ok (.if_icmp .ne 13, 3) := by decide +kernel
theorem dX4_isRising_34 : decode cX4_isRising 34 = .ok (.aload_n 0, 1) := by decide +kernel
theorem dX4_isRising_35 : decode cX4_isRising 35 = .ok (.iconst 0, 1) := by decide +kernel
theorem dX4_isRising_36 : decode cX4_isRising 36 = .ok (.iload_n 1, 1) := by decide +kernel
theorem dX4_isRising_37 : decode cX4_isRising 37 = .ok (.invokevirtual 115, 3) := by decide +kernel
theorem dX4_isRising_40 : decode cX4_isRising 40 = .ok (.iconst 2, 1) := by decide +kernel
theorem dX4_isRising_41 : decode cX4_isRising 41 = .ok (.if_icmp .ge 5, 3) := by decide +kernel
theorem dX4_isRising_44 : decode cX4_isRising 44 = .ok (.iconst 0, 1) := by decide +kernel
theorem dX4_isRising_45 : decode cX4_isRising 45 = .ok (.ireturn, 1) := by decide +kernel
theorem dX4_isRising_46 : decode cX4_isRising 46 = .ok (.iconst (-1), 1) := by decide +kernel
theorem dX4_isRising_47 : decode cX4_isRising 47 = .ok (.istore_n 2, 1) := by decide +kernel
theorem dX4_isRising_48 : decode cX4_isRising 48 = .ok (.iconst 1, 1) := by decide +kernel
theorem dX4_isRising_49 : decode cX4_isRising 49 = .ok (.istore_n 3, 1) := by decide +kernel
theorem dX4_isRising_50 : decode cX4_isRising 50 = .ok (.iconst 0, 1) := by decide +kernel
theorem dX4_isRising_51 : decode cX4_isRising 51 = .ok (.istore 4, 2) := by decide +kernel
theorem dX4_isRising_53 : decode cX4_isRising 53 = .ok (.iload 4, 2) := by decide +kernel
theorem dX4_isRising_55 : decode cX4_isRising 55 = .ok (.aload_n 0, 1) := by decide +kernel
theorem dX4_isRising_56 : decode cX4_isRising 56 = .ok (.getfield 77, 3) := by decide +kernel
theorem dX4_isRising_59 : decode cX4_isRising 59 = .ok (.if_icmp .ge 53, 3) := by decide +kernel
theorem dX4_isRising_62 : decode cX4_isRising 62 = .ok (.aload_n 0, 1) := by decide +kernel
theorem dX4_isRising_63 : decode cX4_isRising 63 = .ok (.iconst 0, 1) := by decide +kernel
theorem dX4_isRising_64 : decode cX4_isRising 64 = .ok (.iload_n 1, 1) := by decide +kernel
theorem dX4_isRising_65 : decode cX4_isRising 65 = .ok (.iload 4, 2) := by decide +kernel
theorem dX4_isRising_67 : decode cX4_isRising 67 = .ok (.invokevirtual 111, 3) := by decide +kernel
theorem dX4_isRising_70 : decode cX4_isRising 70 = .ok (.iconst (-1), 1) := by decide +kernel
theorem dX4_isRising_71 : decode cX4_isRising 71 = .ok (.if_icmp .ne 6, 3) := by decide +kernel
theorem dX4_isRising_74 : decode cX4_isRising 74 = .ok (.goto 32, 3) := by decide +kernel
theorem dX4_isRising_77 : decode cX4_isRising 77 = .ok (.iload_n 3, 1) := by decide +kernel
theorem dX4_isRising_78 : decode cX4_isRising 78 = .ok (.ifCond .eq 18, 3) := by decide +kernel
theorem dX4_isRising_81 : decode cX4_isRising 81 = .ok (.aload_n 0, 1) := by decide +kernel
theorem dX4_isRising_82 : decode cX4_isRising 82 = .ok (.iload 4, 2) := by decide +kernel
theorem dX4_isRising_84 : decode cX4_isRising 84 = .ok (.iload_n 1, 1) := by decide +kernel
theorem dX4_isRising_85 : decode cX4_isRising 85 = .ok (.invokevirtual 169, 3) := by decide +kernel
theorem dX4_isRising_88 : decode cX4_isRising 88 = .ok (.iload_n 2, 1) := by decide +kernel
theorem dX4_isRising_89 : decode cX4_isRising 89 = .ok (.if_icmp .le 7, 3) := by decide +kernel
theorem dX4_isRising_92 : decode cX4_isRising 92 = .ok (.iconst 1, 1) := by decide +kernel
theorem dX4_isRising_93 : decode cX4_isRising 93 = .ok (.goto 4, 3) := by decide +kernel
theorem dX4_isRising_96 : decode cX4_isRising 96 = .ok (.iconst 0, 1) := by decide +kernel
theorem dX4_isRising_97 : decode cX4_isRising 97 = .ok (.istore_n 3, 1) := by decide +kernel
theorem dX4_isRising_98 : decode cX4_isRising 98 = .ok (.aload_n 0, 1) := by decide +kernel
theorem dX4_isRising_99 : decode cX4_isRising 99 = .ok (.iload 4, 2) := by decide +kernel
theorem dX4_isRising_101 : decode cX4_isRising 101 = .ok (.iload_n 1, 1) := by decide +kernel
theorem dX4_isRising_102 : decode cX4_isRising 102 = .ok (.invokevirtual 169, 3) := by decide +kernel
theorem dX4_isRising_105 : decode cX4_isRising 105 = .ok (.istore_n 2, 1) := by decide +kernel
theorem dX4_isRising_106 : decode cX4_isRising 106 = .ok (.iinc 4 1, 3) := by decide +kernel
theorem dX4_isRising_109 : decode cX4_isRising 109 = .ok (.goto (-56), 3) := by decide +kernel
theorem dX4_isRising_112 : decode cX4_isRising 112 = .ok (.iload_n 3, 1) := by decide +kernel
theorem dX4_isRising_113 : decode cX4_isRising 113 = .ok (.ireturn, 1) := by decide +kernel
theorem dX4_allBits_0 : decode cX4_allBits 0 = .ok (.iconst 4, 1) := by decide +kernel
theorem dX4_allBits_1 : decode cX4_allBits 1 = .ok (.newarray .int, 2) := by decide +kernel
theorem dX4_allBits_3 : decode cX4_allBits 3 = .ok (.dup, 1) := by decide +kernel
theorem dX4_allBits_4 : decode cX4_allBits 4 = .ok (.iconst 0, 1) := by decide +kernel
theorem dX4_allBits_5 : decode cX4_allBits 5 = .ok (.iconst 5, 1) := by decide +kernel
theorem dX4_allBits_6 : decode cX4_allBits 6 = .ok (.iastore, 1) := by decide +kernel
theorem dX4_allBits_7 : decode cX4_allBits 7 = .ok (.dup, 1) := by decide +kernel
theorem dX4_allBits_8 : decode cX4_allBits 8 = .ok (.iconst 1, 1) := by decide +kernel
theorem dX4_allBits_9 : decode cX4_allBits 9 = .ok (.iconst 4, 1) := by decide +kernel
theorem dX4_allBits_10 : decode cX4_allBits 10 = .ok (.iastore, 1) := by decide +kernel
theorem dX4_allBits_11 : decode cX4_allBits 11 = .ok (.dup, 1) := by decide +kernel
theorem dX4_allBits_12 : decode cX4_allBits 12 = .ok (.iconst 2, 1) := by decide +kernel
theorem dX4_allBits_13 : decode cX4_allBits 13 = .ok (.iconst 1, 1) := by decide +kernel
theorem dX4_allBits_14 : decode cX4_allBits 14 = .ok (.iastore, 1) := by decide +kernel
theorem dX4_allBits_15 : decode cX4_allBits 15 = .ok (.dup, 1) := by decide +kernel
theorem dX4_allBits_16 : decode cX4_allBits 16 = .ok (.iconst 3, 1) := by decide +kernel
theorem dX4_allBits_17 : decode cX4_allBits 17 = .ok (.bipush 7, 2) := by decide +kernel
theorem dX4_allBits_19 : decode cX4_allBits 19 = .ok (.iastore, 1) := by decide +kernel
theorem dX4_allBits_20 : decode cX4_allBits 20 = .ok (.astore_n 1, 1) := by decide +kernel
theorem dX4_allBits_21 : decode cX4_allBits 21 = .ok (.iconst 0, 1) := by decide +kernel
theorem dX4_allBits_22 : decode cX4_allBits 22 = .ok (.istore_n 2, 1) := by decide +kernel
theorem dX4_allBits_23 : decode cX4_allBits 23 = .ok (.iconst 0, 1) := by decide +kernel
theorem dX4_allBits_24 : decode cX4_allBits 24 = .ok (.istore_n 3, 1) := by decide +kernel
theorem dX4_allBits_25 : decode cX4_allBits 25 = .ok (.iload_n 3, 1) := by decide +kernel
theorem dX4_allBits_26 : decode cX4_allBits 26 = .ok (.aload_n 0, 1) := by decide +kernel
theorem dX4_allBits_27 : decode cX4_allBits 27 = .ok (.getfield 41, 3) := by decide +kernel
theorem dX4_allBits_30 : decode cX4_allBits 30 = .ok (.iconst 0, 1) := by decide +kernel
theorem dX4_allBits_31 : decode cX4_allBits 31 = .ok (.iaload, 1) := by decide +kernel
theorem dX4_allBits_32 : decode cX4_allBits 32 = .ok (.if_icmp .ge 131, 3) := by decide +kernel
theorem dX4_allBits_35 : decode cX4_allBits 35 = .ok (.iinc 2 4, 3) := by decide +kernel
theorem dX4_allBits_38 : decode cX4_allBits 38 = .ok (.aload_n 0, 1) := by decide +kernel
theorem dX4_allBits_39 : decode cX4_allBits 39 = .ok (.getfield 50, 3) := by decide +kernel
theorem dX4_allBits_42 : decode cX4_allBits 42 = .ok (.iload_n 3, 1) := by decide +kernel
theorem dX4_allBits_43 : decode cX4_allBits 43 = .ok (.iaload, 1) := by decide +kernel
theorem dX4_allBits_44 : decode cX4_allBits 44 = .ok (.iconst (-1), 1) := by decide +kernel
theorem dX4_allBits_45 : decode cX4_allBits 45 = .ok (.if_icmp .eq 20, 3) := by decide +kernel
theorem dX4_allBits_48 : decode cX4_allBits 48 = .ok (.iload_n 2, 1) := by decide +kernel
theorem dX4_allBits_49 : decode cX4_allBits 49 = .ok (.bipush 8, 2) := by decide +kernel
theorem dX4_allBits_51 : decode cX4_allBits 51 = .ok (.aload_n 0, 1) := by decide +kernel
theorem dX4_allBits_52 : decode cX4_allBits 52 = .ok (.getfield 28, 3) := by decide +kernel
theorem dX4_allBits_55 : decode cX4_allBits 55 = .ok (.aload_n 0, 1) := by decide +kernel
theorem dX4_allBits_56 : decode cX4_allBits 56 = .ok (.getfield 50, 3) := by decide +kernel
theorem dX4_allBits_59 : decode cX4_allBits 59 = .ok (.iload_n 3, 1) := by decide +kernel
theorem dX4_allBits_60 : decode cX4_allBits 60 = .ok (.iaload, 1) := by decide +kernel
theorem dX4_allBits_61 : decode cX4_allBits 61 = .ok (.iaload, 1) := by decide +kernel
theorem dX4_allBits_62 : decode cX4_allBits 62 = .ok (.imul, 1) := by decide +kernel
theorem dX4_allBits_63 : decode cX4_allBits 63 = .ok (.iadd, 1) := by decide +kernel
theorem dX4_allBits_64 : decode cX4_allBits 64 = .ok (.istore_n 2, 1) := by decide +kernel
theorem dX4_allBits_65 : decode cX4_allBits 65 = .ok (.aload_n 0, 1) := by decide +kernel
theorem dX4_allBits_66 : decode cX4_allBits 66 = .ok (.iconst 0, 1) := by decide +kernel
theorem dX4_allBits_67 : decode cX4_allBits 67 = .ok (.iload_n 3, 1) := by decide +kernel
theorem dX4_allBits_68 : decode cX4_allBits 68 = .ok (.invokevirtual 126, 3) := by decide +kernel
theorem dX4_allBits_71 : decode cX4_allBits 71 = .ok (.ifCond .eq 15, 3) := by decide +kernel
theorem dX4_allBits_74 : decode cX4_allBits 74 = .ok (.iload_n 2, 1) := by decide +kernel
theorem dX4_allBits_75 : decode cX4_allBits 75 = .ok (.aload_n 0, 1) := by decide +kernel
theorem dX4_allBits_76 : decode cX4_allBits 76 = .ok (.getfield 44, 3) := by decide +kernel
theorem dX4_allBits_79 : decode cX4_allBits 79 = .ok (.iconst 0, 1) := by decide +kernel
theorem dX4_allBits_80 : decode cX4_allBits 80 = .ok (.iaload, 1) := by decide +kernel
theorem dX4_allBits_81 : decode cX4_allBits 81 = .ok (.invokestatic 118, 3) := by decide +kernel
theorem dX4_allBits_84 : decode cX4_allBits 84 = .ok (.iadd, 1) := by decide +kernel
theorem dX4_allBits_85 : decode cX4_allBits 85 = .ok (.istore_n 2, 1) := by decide +kernel
theorem dX4_allBits_86 : decode cX4_allBits 86 = .ok (.iconst 0, 1) := by decide +kernel
theorem dX4_allBits_87 : decode cX4_allBits 87 = .ok (.istore 4, 2) := by decide +kernel
theorem dX4_allBits_89 : decode cX4_allBits 89 = .ok (.iload 4, 2) := by decide +kernel
theorem dX4_allBits_91 : decode cX4_allBits 91 = .ok (.aload_n 0, 1) := by decide +kernel
theorem dX4_allBits_92 : decode cX4_allBits 92 = .ok (.getfield 77, 3) := by decide +kernel
theorem dX4_allBits_95 : decode cX4_allBits 95 = .ok (.if_icmp .ge 62, 3) := by decide +kernel
theorem dX4_allBits_98 : decode cX4_allBits 98 = .ok (.aload_n 0, 1) := by decide +kernel
theorem dX4_allBits_99 : decode cX4_allBits 99 = .ok (.getfield 50, 3) := by decide +kernel
theorem dX4_allBits_102 : decode cX4_allBits 102 = .ok (.iload_n 3, 1) := by decide +kernel
theorem dX4_allBits_103 : decode cX4_allBits 103 = .ok (.iaload, 1) := by decide +kernel
theorem dX4_allBits_104 : decode cX4_allBits 104 = .ok (.iconst (-1), 1) := by decide +kernel
theorem dX4_allBits_105 : decode cX4_allBits 105 = .ok (.if_icmp .ne 52, 3) := by decide +kernel
theorem dX4_allBits_108 : decode cX4_allBits 108 = .ok (.aload_n 0, 1) := by decide +kernel
theorem dX4_allBits_109 : decode cX4_allBits 109 = .ok (.iconst 0, 1) := by decide +kernel
theorem dX4_allBits_110 : decode cX4_allBits 110 = .ok (.iload_n 3, 1) := by decide +kernel
theorem dX4_allBits_111 : decode cX4_allBits 111 = .ok (.iload 4, 2) := by decide +kernel
theorem dX4_allBits_113 : decode cX4_allBits 113 = .ok (.invokevirtual 111, 3) := by decide +kernel
theorem dX4_allBits_116 : decode cX4_allBits 116 = .ok (.istore 5, 2) := by decide +kernel
theorem dX4_allBits_118 : decode cX4_allBits 118 = .ok (.iload 5, 2) := by decide +kernel
theorem dX4_allBits_120 : decode cX4_allBits 120 = .ok (.iconst (-1), 1) := by decide +kernel
theorem dX4_allBits_121 : decode cX4_allBits 121 = .ok (.if_icmp .eq 30, 3) := by decide +kernel
theorem dX4_allBits_124 : decode cX4_allBits 124 = .ok (.iload_n 2, 1) := by decide +kernel
theorem dX4_allBits_125 : decode cX4_allBits 125 = .ok (.iconst 1, 1) := by decide +kernel
theorem dX4_allBits_126 : decode cX4_allBits 126 = .ok (.aload_n 1, 1) := by decide +kernel
theorem dX4_allBits_127 : decode cX4_allBits 127 = .ok (.aload_n 0, 1) := by decide +kernel
theorem dX4_allBits_128 : decode cX4_allBits 128 = .ok (.getfield 47, 3) := by decide +kernel
theorem dX4_allBits_131 : decode cX4_allBits 131 = .ok (.iload_n 3, 1) := by decide +kernel
theorem dX4_allBits_132 : decode cX4_allBits 132 = .ok (.iaload, 1) := by decide +kernel
theorem dX4_allBits_133 : decode cX4_allBits 133 = .ok (.iaload, 1) := by decide +kernel
theorem dX4_allBits_134 : decode cX4_allBits 134 = .ok (.aload_n 0, 1) := by decide +kernel
theorem dX4_allBits_135 : decode cX4_allBits 135 = .ok (.getfield 28, 3) := by decide +kernel
theorem dX4_allBits_138 : decode cX4_allBits 138 = .ok (.bipush 30, 2) := by decide +kernel
theorem dX4_allBits_140 : decode cX4_allBits 140 = .ok (.iload 4, 2) := by decide +kernel
theorem dX4_allBits_142 : decode cX4_allBits 142 = .ok (.imul, 1) := by decide +kernel
theorem dX4_allBits_143 : decode cX4_allBits 143 = .ok (.iload 5, 2) := by decide +kernel
theorem dX4_allBits_145 : decode cX4_allBits 145 = .ok (.iadd, 1) := by decide +kernel
theorem dX4_allBits_146 : decode cX4_allBits 146 = .ok (.iaload, 1) := by decide +kernel
theorem dX4_allBits_147 : decode cX4_allBits 147 = .ok (.imul, 1) := by decide +kernel
theorem dX4_allBits_148 : decode cX4_allBits 148 = .ok (.iadd, 1) := by decide +kernel
theorem dX4_allBits_149 : decode cX4_allBits 149 = .ok (.iadd, 1) := by decide +kernel
theorem dX4_allBits_150 : decode cX4_allBits 150 = .ok (.istore_n 2, 1) := by decide +kernel
theorem dX4_allBits_151 : decode cX4_allBits 151 = .ok (.iinc 4 1, 3) := by decide +kernel
theorem dX4_allBits_154 : decode cX4_allBits 154 = .ok (.goto (-65), 3) := by decide +kernel
theorem dX4_allBits_157 : decode cX4_allBits 157 = .ok (.iinc 3 1, 3) := by decide +kernel
theorem dX4_allBits_160 : decode cX4_allBits 160 = .ok (.goto (-135), 3) := by decide +kernel
theorem dX4_allBits_163 : decode cX4_allBits 163 = .ok (.iload_n 2, 1) := by decide +kernel
theorem dX4_allBits_164 : decode cX4_allBits 164 = .ok (.ireturn, 1) := by decide +kernel
theorem dX4_bits_0 : decode cX4_bits 0 = .ok (.aload_n 0, 1) := by decide +kernel
theorem dX4_bits_1 : decode cX4_bits 1 = .ok (.iconst 0, 1) := by decide +kernel
theorem dX4_bits_2 : decode cX4_bits 2 = .ok (.putfield 74, 3) := by decide +kernel
theorem dX4_bits_5 : decode cX4_bits 5 = .ok (.aload_n 0, 1) := by decide +kernel
theorem dX4_bits_6 : decode cX4_bits 6 = .ok (.invokevirtual 172, 3) := by decide +kernel
theorem dX4_bits_9 : decode cX4_bits 9 = .ok (.ireturn, 1) := by decide +kernel
theorem dX4_saving_0 : decode cX4_saving 0 = .ok (.aload_n 0, 1) := by decide +kernel
theorem dX4_saving_1 : decode cX4_saving 1 = .ok (.iconst 0, 1) := by decide +kernel
theorem dX4_saving_2 : decode cX4_saving 2 = .ok (.putfield 74, 3) := by decide +kernel
theorem dX4_saving_5 : decode cX4_saving 5 = .ok (.iconst 0, 1) := by decide +kernel
theorem dX4_saving_6 : decode cX4_saving 6 = .ok (.istore_n 1, 1) := by decide +kernel
theorem dX4_saving_7 : decode cX4_saving 7 = .ok (.iconst 0, 1) := by decide +kernel
theorem dX4_saving_8 : decode cX4_saving 8 = .ok (.istore_n 2, 1) := by decide +kernel
theorem dX4_saving_9 : decode cX4_saving 9 = .ok (.iload_n 2, 1) := by decide +kernel
theorem dX4_saving_10 : decode cX4_saving 10 = .ok (.aload_n 0, 1) := by decide +kernel
theorem dX4_saving_11 : decode cX4_saving 11 = .ok (.getfield 77, 3) := by decide +kernel
theorem dX4_saving_14 : decode cX4_saving 14 = .ok (.if_icmp .ge 38, 3) := by decide +kernel
theorem dX4_saving_17 : decode cX4_saving 17 = .ok (.aload_n 0, 1) := by decide +kernel
theorem dX4_saving_18 : decode cX4_saving 18 = .ok (.getfield 44, 3) := by decide +kernel
theorem dX4_saving_21 : decode cX4_saving 21 = .ok (.iconst 0, 1) := by decide +kernel
theorem dX4_saving_22 : decode cX4_saving 22 = .ok (.iaload, 1) := by decide +kernel
theorem dX4_saving_23 : decode cX4_saving 23 = .ok (.iload_n 2, 1) := by decide +kernel
theorem dX4_saving_24 : decode cX4_saving 24 = .ok (.ishr, 1) := by decide +kernel
theorem dX4_saving_25 : decode cX4_saving 25 = .ok (.iconst 1, 1) := by decide +kernel
theorem dX4_saving_26 : decode cX4_saving 26 = .ok (.iand, 1) := by decide +kernel
theorem dX4_saving_27 : decode cX4_saving 27 = .ok (.iconst 1, 1) := by decide +kernel
theorem dX4_saving_28 : decode cX4_saving 28 = .ok (.if_icmp .ne 18, 3) := by decide +kernel
theorem dX4_saving_31 : decode cX4_saving 31 = .ok (.iload_n 1, 1) := by decide +kernel
theorem dX4_saving_32 : decode cX4_saving 32 = .ok (.bipush 8, 2) := by decide +kernel
theorem dX4_saving_34 : decode cX4_saving 34 = .ok (.bipush 8, 2) := by decide +kernel
theorem dX4_saving_36 : decode cX4_saving 36 = .ok (.aload_n 0, 1) := by decide +kernel
theorem dX4_saving_37 : decode cX4_saving 37 = .ok (.getfield 13, 3) := by decide +kernel
theorem dX4_saving_40 : decode cX4_saving 40 = .ok (.iload_n 2, 1) := by decide +kernel
theorem dX4_saving_41 : decode cX4_saving 41 = .ok (.iaload, 1) := by decide +kernel
theorem dX4_saving_42 : decode cX4_saving 42 = .ok (.imul, 1) := by decide +kernel
theorem dX4_saving_43 : decode cX4_saving 43 = .ok (.iadd, 1) := by decide +kernel
theorem dX4_saving_44 : decode cX4_saving 44 = .ok (.iadd, 1) := by decide +kernel
theorem dX4_saving_45 : decode cX4_saving 45 = .ok (.istore_n 1, 1) := by decide +kernel
theorem dX4_saving_46 : decode cX4_saving 46 = .ok (.iinc 2 1, 3) := by decide +kernel
theorem dX4_saving_49 : decode cX4_saving 49 = .ok (.goto (-40), 3) := by decide +kernel
theorem dX4_saving_52 : decode cX4_saving 52 = .ok (.aload_n 0, 1) := by decide +kernel
theorem dX4_saving_53 : decode cX4_saving 53 = .ok (.getfield 44, 3) := by decide +kernel
theorem dX4_saving_56 : decode cX4_saving 56 = .ok (.iconst 0, 1) := by decide +kernel
theorem dX4_saving_57 : decode cX4_saving 57 = .ok (.iaload, 1) := by decide +kernel
theorem dX4_saving_58 : decode cX4_saving 58 = .ok (.ifCond .ne 7, 3) := by decide +kernel
theorem dX4_saving_61 : decode cX4_saving 61 = .ok (.dconst 0, 1) := by decide +kernel
theorem dX4_saving_62 : decode cX4_saving 62 = .ok (.goto 13, 3) := by decide +kernel
theorem dX4_saving_65 : decode cX4_saving 65 = .ok (.dconst 1, 1) := by decide +kernel
theorem dX4_saving_66 : decode cX4_saving 66 = .ok (.aload_n 0, 1) := by decide +kernel
theorem dX4_saving_67 : decode cX4_saving 67 = .ok (.invokevirtual 172, 3) := by decide +kernel
theorem dX4_saving_70 : decode cX4_saving 70 = .ok (.i2d, 1) := by decide +kernel
theorem dX4_saving_71 : decode cX4_saving 71 = .ok (.iload_n 1, 1) := by decide +kernel
theorem dX4_saving_72 : decode cX4_saving 72 = .ok (.i2d, 1) := by decide +kernel
theorem dX4_saving_73 : decode cX4_saving 73 = .ok (.ddiv, 1) := by decide +kernel
theorem dX4_saving_74 : decode cX4_saving 74 = .ok (.dsub, 1) := by decide +kernel
theorem dX4_saving_75 : decode cX4_saving 75 = .ok (.dreturn, 1) := by decide +kernel
theorem dX4_group_0 : decode cX4_group 0 = .ok (.aload_n 0, 1) := by decide +kernel
theorem dX4_group_1 : decode cX4_group 1 = .ok (.iload_n 1, 1) := by decide +kernel
theorem dX4_group_2 : decode cX4_group 2 = .ok (.ifCond .lt 10, 3) := by decide +kernel
theorem dX4_group_5 : decode cX4_group 5 = .ok (.iload_n 1, 1) := by decide +kernel
theorem dX4_group_6 : decode cX4_group 6 = .ok (.sipush 200, 3) := by decide +kernel
theorem dX4_group_9 : decode cX4_group 9 = .ok (.if_icmp .le 7, 3) := by decide +kernel
theorem dX4_group_12 : decode cX4_group 12 = .ok (.iconst 1, 1) := by decide +kernel
theorem dX4_group_13 : decode cX4_group 13 = .ok (.goto 4, 3) := by decide +kernel
theorem dX4_group_16 : decode cX4_group 16 = .ok (.iconst 0, 1) := by decide +kernel
theorem dX4_group_17 : decode cX4_group 17 = .ok (.putfield 74, 3) := by decide +kernel
theorem dX4_group_20 : decode cX4_group 20 = .ok (.aload_n 0, 1) := by decide +kernel
theorem dX4_group_21 : decode cX4_group 21 = .ok (.getfield 74, 3) := by decide +kernel
theorem dX4_group_24 : decode cX4_group 24 = .ok (.ifCond .eq 5, 3) := by decide +kernel
theorem dX4_group_27 : decode cX4_group 27 = .ok (.iconst 0, 1) := by decide +kernel
theorem dX4_group_28 : decode cX4_group 28 = .ok (.ireturn, 1) := by decide +kernel
theorem dX4_group_29 : decode cX4_group 29 = .ok (.aload_n 0, 1) := by decide +kernel
theorem dX4_group_30 : decode cX4_group 30 = .ok (.iconst 0, 1) := by decide +kernel
theorem dX4_group_31 : decode cX4_group 31 = .ok (.putfield 175, 3) := by decide +kernel
theorem dX4_group_34 : decode cX4_group 34 = .ok (.iconst 0, 1) := by decide +kernel
theorem dX4_group_35 : decode cX4_group 35 = .ok (.istore_n 2, 1) := by decide +kernel
theorem dX4_group_36 : decode cX4_group 36 = .ok (.iload_n 2, 1) := by decide +kernel
theorem dX4_group_37 : decode cX4_group 37 = .ok (.aload_n 0, 1) := by decide +kernel
theorem dX4_group_38 : decode cX4_group 38 = .ok (.getfield 77, 3) := by decide +kernel
theorem dX4_group_41 : decode cX4_group 41 = .ok (.if_icmp .ge 169, 3) := by decide +kernel
theorem dX4_group_44 : decode cX4_group 44 = .ok (.iconst (-1), 1) := by decide +kernel
theorem dX4_group_45 : decode cX4_group 45 = .ok (.istore_n 3, 1) := by decide +kernel
theorem dX4_group_46 : decode cX4_group 46 = .ok (.iconst 0, 1) := by decide +kernel
theorem dX4_group_47 : decode cX4_group 47 = .ok (.istore 4, 2) := by decide +kernel
theorem dX4_group_49 : decode cX4_group 49 = .ok (.iconst 0, 1) := by decide +kernel
theorem dX4_group_50 : decode cX4_group 50 = .ok (.istore 5, 2) := by decide +kernel
theorem dX4_group_52 : decode cX4_group 52 = .ok (.iload 5, 2) := by decide +kernel
theorem dX4_group_54 : decode cX4_group 54 = .ok (.aload_n 0, 1) := by decide +kernel
theorem dX4_group_55 : decode cX4_group 55 = .ok (.getfield 175, 3) := by decide +kernel
theorem dX4_group_58 : decode cX4_group 58 = .ok (.if_icmp .ge 70, 3) := by decide +kernel
theorem dX4_group_61 : decode cX4_group 61 = .ok (.aload_n 0, 1) := by decide +kernel
theorem dX4_group_62 : decode cX4_group 62 = .ok (.iconst 1, 1) := by decide +kernel
theorem dX4_group_63 : decode cX4_group 63 = .ok (.iload 5, 2) := by decide +kernel
theorem dX4_group_65 : decode cX4_group 65 = .ok (.iadd, 1) := by decide +kernel
theorem dX4_group_66 : decode cX4_group 66 = .ok (.iload_n 2, 1) := by decide +kernel
theorem dX4_group_67 : decode cX4_group 67 = .ok (.invokevirtual 145, 3) := by decide +kernel
theorem dX4_group_70 : decode cX4_group 70 = .ok (.istore 6, 2) := by decide +kernel
theorem dX4_group_72 : decode cX4_group 72 = .ok (.aload_n 0, 1) := by decide +kernel
theorem dX4_group_73 : decode cX4_group 73 = .ok (.iconst 1, 1) := by decide +kernel
theorem dX4_group_74 : decode cX4_group 74 = .ok (.iload 5, 2) := by decide +kernel
theorem dX4_group_76 : decode cX4_group 76 = .ok (.iadd, 1) := by decide +kernel
theorem dX4_group_77 : decode cX4_group 77 = .ok (.iload_n 2, 1) := by decide +kernel
theorem dX4_group_78 : decode cX4_group 78 = .ok (.invokevirtual 148, 3) := by decide +kernel
theorem dX4_group_81 : decode cX4_group 81 = .ok (.aload_n 0, 1) := by decide +kernel
theorem dX4_group_82 : decode cX4_group 82 = .ok (.getfield 41, 3) := by decide +kernel
theorem dX4_group_85 : decode cX4_group 85 = .ok (.iconst 1, 1) := by decide +kernel
theorem dX4_group_86 : decode cX4_group 86 = .ok (.iload 5, 2) := by decide +kernel
theorem dX4_group_88 : decode cX4_group 88 = .ok (.iadd, 1) := by decide +kernel
theorem dX4_group_89 : decode cX4_group 89 = .ok (.iaload, 1) := by decide +kernel
theorem dX4_group_90 : decode cX4_group 90 = .ok (.aload_n 0, 1) := by decide +kernel
theorem dX4_group_91 : decode cX4_group 91 = .ok (.invokevirtual 152, 3) := by decide +kernel
theorem dX4_group_94 : decode cX4_group 94 = .ok (.iadd, 1) := by decide +kernel
theorem dX4_group_95 : decode cX4_group 95 = .ok (.bipush 40, 2) := by decide +kernel
theorem dX4_group_97 : decode cX4_group 97 = .ok (.if_icmp .gt 25, 3) := by decide +kernel
theorem dX4_group_100 : decode cX4_group 100 = .ok (.iload_n 3, 1) := by decide +kernel
theorem dX4_group_101 : decode cX4_group 101 = .ok (.iconst (-1), 1) := by decide +kernel
theorem dX4_group_102 : decode cX4_group 102 = .ok (.if_icmp .eq 13, 3) := by decide +kernel
theorem dX4_group_105 : decode cX4_group 105 = .ok (.iload 6, 2) := by decide +kernel
theorem dX4_group_107 : decode cX4_group 107 = .ok (.iload 4, 2) := by decide +kernel
theorem dX4_group_109 : decode cX4_group 109 = .ok (.if_icmp .lt 6, 3) := by decide +kernel
theorem dX4_group_112 : decode cX4_group 112 = .ok (.goto 10, 3) := by decide +kernel
theorem dX4_group_115 : decode cX4_group 115 = .ok (.iload 5, 2) := by decide +kernel
theorem dX4_group_117 : decode cX4_group 117 = .ok (.istore_n 3, 1) := by decide +kernel
theorem dX4_group_118 : decode cX4_group 118 = .ok (.iload 6, 2) := by decide +kernel
theorem dX4_group_120 : decode cX4_group 120 = .ok (.istore 4, 2) := by decide +kernel
theorem dX4_group_122 : decode cX4_group 122 = .ok (.iinc 5 1, 3) := by decide +kernel
theorem dX4_group_125 : decode cX4_group 125 = .ok (.goto (-73), 3) := by decide +kernel
theorem dX4_group_128 : decode cX4_group 128 = .ok (.iload_n 3, 1) := by decide +kernel
theorem dX4_group_129 : decode cX4_group 129 = .ok (.iconst (-1), 1) := by decide +kernel
theorem dX4_group_130 : decode cX4_group 130 = .ok (.if_icmp .eq 9, 3) := by decide +kernel
theorem dX4_group_133 : decode cX4_group 133 = .ok (.iload 4, 2) := by decide +kernel
theorem dX4_group_135 : decode cX4_group 135 = .ok (.iload_n 1, 1) := by decide +kernel
theorem dX4_group_136 : decode cX4_group 136 = .ok (.if_icmp .le 36, 3) := by decide +kernel
theorem dX4_group_139 : decode cX4_group 139 = .ok (.aload_n 0, 1) := by decide +kernel
theorem dX4_group_140 : decode cX4_group 140 = .ok (.getfield 175, 3) := by decide +kernel
theorem dX4_group_143 : decode cX4_group 143 = .ok (.istore_n 3, 1) := by decide +kernel
theorem dX4_group_144 : decode cX4_group 144 = .ok (.aload_n 0, 1) := by decide +kernel
theorem dX4_group_145 : decode cX4_group 145 = .ok (.getfield 41, 3) := by decide +kernel
theorem dX4_group_148 : decode cX4_group 148 = .ok (.iconst 1, 1) := by decide +kernel
theorem dX4_group_149 : decode cX4_group 149 = .ok (.iload_n 3, 1) := by decide +kernel
theorem dX4_group_150 : decode cX4_group 150 = .ok (.iadd, 1) := by decide +kernel
theorem dX4_group_151 : decode cX4_group 151 = .ok (.iconst 0, 1) := by decide +kernel
theorem dX4_group_152 : decode cX4_group 152 = .ok (.iastore, 1) := by decide +kernel
theorem dX4_group_153 : decode cX4_group 153 = .ok (.aload_n 0, 1) := by decide +kernel
theorem dX4_group_154 : decode cX4_group 154 = .ok (.getfield 44, 3) := by decide +kernel
theorem dX4_group_157 : decode cX4_group 157 = .ok (.iconst 1, 1) := by decide +kernel
theorem dX4_group_158 : decode cX4_group 158 = .ok (.iload_n 3, 1) := by decide +kernel
theorem dX4_group_159 : decode cX4_group 159 = .ok (.iadd, 1) := by decide +kernel
theorem dX4_group_160 : decode cX4_group 160 = .ok (.iconst 0, 1) := by decide +kernel
theorem dX4_group_161 : decode cX4_group 161 = .ok (.iastore, 1) := by decide +kernel
theorem dX4_group_162 : decode cX4_group 162 = .ok (.aload_n 0, 1) := by decide +kernel
theorem dX4_group_163 : decode cX4_group 163 = .ok (.dup, 1) := by decide +kernel
theorem dX4_group_164 : decode cX4_group 164 = .ok (.getfield 175, 3) := by decide +kernel
theorem dX4_group_167 : decode cX4_group 167 = .ok (.iconst 1, 1) := by decide +kernel
theorem dX4_group_168 : decode cX4_group 168 = .ok (.iadd, 1) := by decide +kernel
theorem dX4_group_169 : decode cX4_group 169 = .ok (.putfield 175, 3) := by decide +kernel
theorem dX4_group_172 : decode cX4_group 172 = .ok (.aload_n 0, 1) := by decide +kernel
theorem dX4_group_173 : decode cX4_group 173 = .ok (.iconst 1, 1) := by decide +kernel
theorem dX4_group_174 : decode cX4_group 174 = .ok (.iload_n 3, 1) := by decide +kernel
theorem dX4_group_175 : decode cX4_group 175 = .ok (.iadd, 1) := by decide +kernel
theorem dX4_group_176 : decode cX4_group 176 = .ok (.iload_n 2, 1) := by decide +kernel
theorem dX4_group_177 : decode cX4_group 177 = .ok (.invokevirtual 145, 3) := by decide +kernel
theorem dX4_group_180 : decode cX4_group 180 = .ok (.pop, 1) := by decide +kernel
theorem dX4_group_181 : decode cX4_group 181 = .ok (.aload_n 0, 1) := by decide +kernel
theorem dX4_group_182 : decode cX4_group 182 = .ok (.iconst 1, 1) := by decide +kernel
theorem dX4_group_183 : decode cX4_group 183 = .ok (.iload_n 3, 1) := by decide +kernel
theorem dX4_group_184 : decode cX4_group 184 = .ok (.iadd, 1) := by decide +kernel
theorem dX4_group_185 : decode cX4_group 185 = .ok (.iload_n 2, 1) := by decide +kernel
theorem dX4_group_186 : decode cX4_group 186 = .ok (.invokevirtual 148, 3) := by decide +kernel
theorem dX4_group_189 : decode cX4_group 189 = .ok (.aload_n 0, 1) := by decide +kernel
theorem dX4_group_190 : decode cX4_group 190 = .ok (.iconst 1, 1) := by decide +kernel
theorem dX4_group_191 : decode cX4_group 191 = .ok (.iload_n 3, 1) := by decide +kernel
theorem dX4_group_192 : decode cX4_group 192 = .ok (.iadd, 1) := by decide +kernel
theorem dX4_group_193 : decode cX4_group 193 = .ok (.iload_n 2, 1) := by decide +kernel
theorem dX4_group_194 : decode cX4_group 194 = .ok (.invokevirtual 156, 3) := by decide +kernel
theorem dX4_group_197 : decode cX4_group 197 = .ok (.aload_n 0, 1) := by decide +kernel
theorem dX4_group_198 : decode cX4_group 198 = .ok (.getfield 56, 3) := by decide +kernel
theorem dX4_group_201 : decode cX4_group 201 = .ok (.iload_n 2, 1) := by decide +kernel
theorem dX4_group_202 : decode cX4_group 202 = .ok (.iload_n 3, 1) := by decide +kernel
theorem dX4_group_203 : decode cX4_group 203 = .ok (.iastore, 1) := by decide +kernel
theorem dX4_group_204 : decode cX4_group 204 = .ok (.iinc 2 1, 3) := by decide +kernel
theorem dX4_group_207 : decode cX4_group 207 = .ok (.goto (-171), 3) := by decide +kernel
theorem dX4_group_210 : decode cX4_group 210 = .ok (.aload_n 0, 1) := by decide +kernel
theorem dX4_group_211 : decode cX4_group 211 = .ok (.iconst 1, 1) := by decide +kernel
theorem dX4_group_212 : decode cX4_group 212 = .ok (.putfield 92, 3) := by decide +kernel
theorem dX4_group_215 : decode cX4_group 215 = .ok (.aload_n 0, 1) := by decide +kernel
theorem dX4_group_216 : decode cX4_group 216 = .ok (.getfield 175, 3) := by decide +kernel
theorem dX4_group_219 : decode cX4_group 219 = .ok (.ireturn, 1) := by decide +kernel
theorem dX4_groupOf_0 : decode cX4_groupOf 0 = .ok (.aload_n 0, 1) := by decide +kernel
theorem dX4_groupOf_1 : decode cX4_groupOf 1 = .ok (.iconst 0, 1) := by decide +kernel
theorem dX4_groupOf_2 : decode cX4_groupOf 2 = .ok (.putfield 74, 3) := by decide +kernel
theorem dX4_groupOf_5 : decode cX4_groupOf 5 = .ok (.aload_n 0, 1) := by decide +kernel
theorem dX4_groupOf_6 : decode cX4_groupOf 6 = .ok (.getfield 92, 3) := by decide +kernel
theorem dX4_groupOf_9 : decode cX4_groupOf 9 = .ok (.ifCond .ne 9, 3) := by decide +kernel
theorem dX4_groupOf_12 : decode cX4_groupOf 12 = .ok (.aload_n 0, 1) := by decide +kernel
theorem dX4_groupOf_13 : decode cX4_groupOf 13 = .ok (.iconst 1, 1) := by decide +kernel
theorem dX4_groupOf_14 : decode cX4_groupOf 14 = .ok (.invokevirtual 85, 3) := by decide +kernel
theorem dX4_groupOf_17 : decode cX4_groupOf 17 = .ok (.ireturn, 1) := by decide +kernel
theorem dX4_groupOf_18 : decode cX4_groupOf 18 = .ok (.aload_n 0, 1) := by decide +kernel
theorem dX4_groupOf_19 : decode cX4_groupOf 19 = .ok (.iload_n 1, 1) := by decide +kernel
theorem dX4_groupOf_20 : decode cX4_groupOf 20 = .ok (.invokevirtual 96, 3) := by decide +kernel
theorem dX4_groupOf_23 : decode cX4_groupOf 23 = .ok (.ifCond .eq 12, 3) := by decide +kernel
theorem dX4_groupOf_26 : decode cX4_groupOf 26 = .ok (.aload_n 0, 1) := by decide +kernel
theorem dX4_groupOf_27 : decode cX4_groupOf 27 = .ok (.getfield 56, 3) := by decide +kernel
theorem dX4_groupOf_30 : decode cX4_groupOf 30 = .ok (.iload_n 1, 1) := by decide +kernel
theorem dX4_groupOf_31 : decode cX4_groupOf 31 = .ok (.iaload, 1) := by decide +kernel
theorem dX4_groupOf_32 : decode cX4_groupOf 32 = .ok (.goto 8, 3) := by decide +kernel
theorem dX4_groupOf_35 : decode cX4_groupOf 35 = .ok (.aload_n 0, 1) := by decide +kernel
theorem dX4_groupOf_36 : decode cX4_groupOf 36 = .ok (.iconst 2, 1) := by decide +kernel
theorem dX4_groupOf_37 : decode cX4_groupOf 37 = .ok (.invokevirtual 85, 3) := by decide +kernel
theorem dX4_groupOf_40 : decode cX4_groupOf 40 = .ok (.ireturn, 1) := by decide +kernel
theorem dX4_groupSlots_0 : decode cX4_groupSlots 0 = .ok (.aload_n 0, 1) := by decide +kernel
theorem dX4_groupSlots_1 : decode cX4_groupSlots 1 = .ok (.iconst 0, 1) := by decide +kernel
theorem dX4_groupSlots_2 : decode cX4_groupSlots 2 = .ok (.putfield 74, 3) := by decide +kernel
theorem dX4_groupSlots_5 : decode cX4_groupSlots 5 = .ok (.aload_n 0, 1) := by decide +kernel
theorem dX4_groupSlots_6 : decode cX4_groupSlots 6 = .ok (.getfield 92, 3) := by decide +kernel
theorem dX4_groupSlots_9 : decode cX4_groupSlots 9 = .ok (.ifCond .ne 9, 3) := by decide +kernel
theorem dX4_groupSlots_12 : decode cX4_groupSlots 12 = .ok (.aload_n 0, 1) := by decide +kernel
theorem dX4_groupSlots_13 : decode cX4_groupSlots 13 = .ok (.iconst 1, 1) := by decide +kernel
theorem dX4_groupSlots_14 : decode cX4_groupSlots 14 = .ok (.invokevirtual 85, 3) := by decide +kernel
theorem dX4_groupSlots_17 : decode cX4_groupSlots 17 = .ok (.ireturn, 1) := by decide +kernel
theorem dX4_groupSlots_18 : decode cX4_groupSlots 18 = .ok (.iload_n 1, 1) := by decide +kernel
theorem dX4_groupSlots_19 : decode cX4_groupSlots 19 = .ok (.ifCond .lt 22, 3) := by decide +kernel
theorem dX4_groupSlots_22 : decode cX4_groupSlots 22 = .ok (.iload_n 1, 1) := by decide +kernel
theorem dX4_groupSlots_23 : decode cX4_groupSlots 23 = .ok (.aload_n 0, 1) := by decide +kernel
theorem dX4_groupSlots_24 : decode cX4_groupSlots 24 = .ok (.getfield 175, 3) := by decide +kernel
theorem dX4_groupSlots_27 : decode cX4_groupSlots 27 = .ok (.if_icmp .ge 14, 3) := by decide +kernel
theorem dX4_groupSlots_30 : decode cX4_groupSlots 30 = .ok (.aload_n 0, 1) := by decide +kernel
theorem dX4_groupSlots_31 : decode cX4_groupSlots 31 = .ok (.getfield 41, 3) := by decide +kernel
theorem dX4_groupSlots_34 : decode cX4_groupSlots 34 = .ok (.iconst 1, 1) := by decide +kernel
theorem dX4_groupSlots_35 : decode cX4_groupSlots 35 = .ok (.iload_n 1, 1) := by decide +kernel
theorem dX4_groupSlots_36 : decode cX4_groupSlots 36 = .ok (.iadd, 1) := by decide +kernel
theorem dX4_groupSlots_37 : decode cX4_groupSlots 37 = .ok (.iaload, 1) := by decide +kernel
theorem dX4_groupSlots_38 : decode cX4_groupSlots 38 = .ok (.goto 8, 3) := by decide +kernel
theorem dX4_groupSlots_41 : decode cX4_groupSlots 41 = .ok (.aload_n 0, 1) := by decide +kernel
theorem dX4_groupSlots_42 : decode cX4_groupSlots 42 = .ok (.iconst 2, 1) := by decide +kernel
theorem dX4_groupSlots_43 : decode cX4_groupSlots 43 = .ok (.invokevirtual 85, 3) := by decide +kernel
theorem dX4_groupSlots_46 : decode cX4_groupSlots 46 = .ok (.ireturn, 1) := by decide +kernel
theorem dX4_digest_0 : decode cX4_digest 0 = .ok (.aload_n 0, 1) := by decide +kernel
theorem dX4_digest_1 : decode cX4_digest 1 = .ok (.iconst 0, 1) := by decide +kernel
theorem dX4_digest_2 : decode cX4_digest 2 = .ok (.putfield 74, 3) := by decide +kernel
theorem dX4_digest_5 : decode cX4_digest 5 = .ok (.ldc2_w 178, 3) := by decide +kernel
theorem dX4_digest_8 : decode cX4_digest 8 = .ok (.aload_n 0, 1) := by decide +kernel
theorem dX4_digest_9 : decode cX4_digest 9 = .ok (.getfield 82, 3) := by decide +kernel
theorem dX4_digest_12 : decode cX4_digest 12 = .ok (.i2l, 1) := by decide +kernel
theorem dX4_digest_13 : decode cX4_digest 13 = .ok (.ladd, 1) := by decide +kernel
theorem dX4_digest_14 : decode cX4_digest 14 = .ok (.ldc2_w 180, 3) := by decide +kernel
theorem dX4_digest_17 : decode cX4_digest 17 = .ok (.lmul, 1) := by decide +kernel
theorem dX4_digest_18 : decode cX4_digest 18 = .ok (.aload_n 0, 1) := by decide +kernel
theorem dX4_digest_19 : decode cX4_digest 19 = .ok (.getfield 77, 3) := by decide +kernel
theorem dX4_digest_22 : decode cX4_digest 22 = .ok (.i2l, 1) := by decide +kernel
theorem dX4_digest_23 : decode cX4_digest 23 = .ok (.ladd, 1) := by decide +kernel
theorem dX4_digest_24 : decode cX4_digest 24 = .ok (.lstore_n 1, 1) := by decide +kernel
theorem dX4_digest_25 : decode cX4_digest 25 = .ok (.iconst 0, 1) := by decide +kernel
theorem dX4_digest_26 : decode cX4_digest 26 = .ok (.istore_n 3, 1) := by decide +kernel
theorem dX4_digest_27 : decode cX4_digest 27 = .ok (.iload_n 3, 1) := by decide +kernel
theorem dX4_digest_28 : decode cX4_digest 28 = .ok (.aload_n 0, 1) := by decide +kernel
theorem dX4_digest_29 : decode cX4_digest 29 = .ok (.getfield 77, 3) := by decide +kernel
theorem dX4_digest_32 : decode cX4_digest 32 = .ok (.if_icmp .ge 63, 3) := by decide +kernel
theorem dX4_digest_35 : decode cX4_digest 35 = .ok (.lload_n 1, 1) := by decide +kernel
theorem dX4_digest_36 : decode cX4_digest 36 = .ok (.ldc2_w 180, 3) := by decide +kernel
theorem dX4_digest_39 : decode cX4_digest 39 = .ok (.lmul, 1) := by decide +kernel
theorem dX4_digest_40 : decode cX4_digest 40 = .ok (.aload_n 0, 1) := by decide +kernel
theorem dX4_digest_41 : decode cX4_digest 41 = .ok (.getfield 13, 3) := by decide +kernel
theorem dX4_digest_44 : decode cX4_digest 44 = .ok (.iload_n 3, 1) := by decide +kernel
theorem dX4_digest_45 : decode cX4_digest 45 = .ok (.iaload, 1) := by decide +kernel
theorem dX4_digest_46 : decode cX4_digest 46 = .ok (.i2l, 1) := by decide +kernel
theorem dX4_digest_47 : decode cX4_digest 47 = .ok (.ladd, 1) := by decide +kernel
theorem dX4_digest_48 : decode cX4_digest 48 = .ok (.lstore_n 1, 1) := by decide +kernel
theorem dX4_digest_49 : decode cX4_digest 49 = .ok (.iconst 0, 1) := by decide +kernel
theorem dX4_digest_50 : decode cX4_digest 50 = .ok (.istore 4, 2) := by decide +kernel
theorem dX4_digest_52 : decode cX4_digest 52 = .ok (.iload 4, 2) := by decide +kernel
theorem dX4_digest_54 : decode cX4_digest 54 = .ok (.aload_n 0, 1) := by decide +kernel
theorem dX4_digest_55 : decode cX4_digest 55 = .ok (.getfield 13, 3) := by decide +kernel
theorem dX4_digest_58 : decode cX4_digest 58 = .ok (.iload_n 3, 1) := by decide +kernel
theorem dX4_digest_59 : decode cX4_digest 59 = .ok (.iaload, 1) := by decide +kernel
theorem dX4_digest_60 : decode cX4_digest 60 = .ok (.if_icmp .ge 29, 3) := by decide +kernel
theorem dX4_digest_63 : decode cX4_digest 63 = .ok (.lload_n 1, 1) := by decide +kernel
theorem dX4_digest_64 : decode cX4_digest 64 = .ok (.ldc2_w 180, 3) := by decide +kernel
theorem dX4_digest_67 : decode cX4_digest 67 = .ok (.lmul, 1) := by decide +kernel
theorem dX4_digest_68 : decode cX4_digest 68 = .ok (.aload_n 0, 1) := by decide +kernel
theorem dX4_digest_69 : decode cX4_digest 69 = .ok (.getfield 16, 3) := by decide +kernel
theorem dX4_digest_72 : decode cX4_digest 72 = .ok (.bipush 30, 2) := by decide +kernel
theorem dX4_digest_74 : decode cX4_digest 74 = .ok (.iload_n 3, 1) := by decide +kernel
theorem dX4_digest_75 : decode cX4_digest 75 = .ok (.imul, 1) := by decide +kernel
theorem dX4_digest_76 : decode cX4_digest 76 = .ok (.iload 4, 2) := by decide +kernel
theorem dX4_digest_78 : decode cX4_digest 78 = .ok (.iadd, 1) := by decide +kernel
theorem dX4_digest_79 : decode cX4_digest 79 = .ok (.iaload, 1) := by decide +kernel
theorem dX4_digest_80 : decode cX4_digest 80 = .ok (.i2l, 1) := by decide +kernel
theorem dX4_digest_81 : decode cX4_digest 81 = .ok (.ladd, 1) := by decide +kernel
theorem dX4_digest_82 : decode cX4_digest 82 = .ok (.lstore_n 1, 1) := by decide +kernel
theorem dX4_digest_83 : decode cX4_digest 83 = .ok (.iinc 4 1, 3) := by decide +kernel
theorem dX4_digest_86 : decode cX4_digest 86 = .ok (.goto (-34), 3) := by decide +kernel
theorem dX4_digest_89 : decode cX4_digest 89 = .ok (.iinc 3 1, 3) := by decide +kernel
theorem dX4_digest_92 : decode cX4_digest 92 = .ok (.goto (-65), 3) := by decide +kernel
theorem dX4_digest_95 : decode cX4_digest 95 = .ok (.lload_n 1, 1) := by decide +kernel
theorem dX4_digest_96 : decode cX4_digest 96 = .ok (.ldc2_w 180, 3) := by decide +kernel
theorem dX4_digest_99 : decode cX4_digest 99 = .ok (.lmul, 1) := by decide +kernel
theorem dX4_digest_100 : decode cX4_digest 100 = .ok (.aload_n 0, 1) := by decide +kernel
theorem dX4_digest_101 : decode cX4_digest 101 = .ok (.getfield 31, 3) := by decide +kernel
theorem dX4_digest_104 : decode cX4_digest 104 = .ok (.i2l, 1) := by decide +kernel
theorem dX4_digest_105 : decode cX4_digest 105 = .ok (.ladd, 1) := by decide +kernel
theorem dX4_digest_106 : decode cX4_digest 106 = .ok (.ldc2_w 180, 3) := by decide +kernel
theorem dX4_digest_109 : decode cX4_digest 109 = .ok (.lmul, 1) := by decide +kernel
theorem dX4_digest_110 : decode cX4_digest 110 = .ok (.aload_n 0, 1) := by decide +kernel
theorem dX4_digest_111 : decode cX4_digest 111 = .ok (.getfield 35, 3) := by decide +kernel
theorem dX4_digest_114 : decode cX4_digest 114 = .ok (.i2l, 1) := by decide +kernel
theorem dX4_digest_115 : decode cX4_digest 115 = .ok (.ladd, 1) := by decide +kernel
theorem dX4_digest_116 : decode cX4_digest 116 = .ok (.ldc2_w 180, 3) := by decide +kernel
theorem dX4_digest_119 : decode cX4_digest 119 = .ok (.lmul, 1) := by decide +kernel
theorem dX4_digest_120 : decode cX4_digest 120 = .ok (.aload_n 0, 1) := by decide +kernel
theorem dX4_digest_121 : decode cX4_digest 121 = .ok (.getfield 38, 3) := by decide +kernel
theorem dX4_digest_124 : decode cX4_digest 124 = .ok (.i2l, 1) := by decide +kernel
theorem dX4_digest_125 : decode cX4_digest 125 = .ok (.ladd, 1) := by decide +kernel
theorem dX4_digest_126 : decode cX4_digest 126 = .ok (.lstore_n 1, 1) := by decide +kernel
theorem dX4_digest_127 : decode cX4_digest 127 = .ok (.lload_n 1, 1) := by decide +kernel
theorem dX4_digest_128 : decode cX4_digest 128 = .ok (.ldc2_w 180, 3) := by decide +kernel
theorem dX4_digest_131 : decode cX4_digest 131 = .ok (.lmul, 1) := by decide +kernel
theorem dX4_digest_132 : decode cX4_digest 132 = .ok (.aload_n 0, 1) := by decide +kernel
theorem dX4_digest_133 : decode cX4_digest 133 = .ok (.getfield 41, 3) := by decide +kernel
theorem dX4_digest_136 : decode cX4_digest 136 = .ok (.iconst 0, 1) := by decide +kernel
theorem dX4_digest_137 : decode cX4_digest 137 = .ok (.iaload, 1) := by decide +kernel
theorem dX4_digest_138 : decode cX4_digest 138 = .ok (.i2l, 1) := by decide +kernel
theorem dX4_digest_139 : decode cX4_digest 139 = .ok (.ladd, 1) := by decide +kernel
theorem dX4_digest_140 : decode cX4_digest 140 = .ok (.lstore_n 1, 1) := by decide +kernel
theorem dX4_digest_141 : decode cX4_digest 141 = .ok (.iconst 0, 1) := by decide +kernel
theorem dX4_digest_142 : decode cX4_digest 142 = .ok (.istore_n 3, 1) := by decide +kernel
theorem dX4_digest_143 : decode cX4_digest 143 = .ok (.iload_n 3, 1) := by decide +kernel
theorem dX4_digest_144 : decode cX4_digest 144 = .ok (.aload_n 0, 1) := by decide +kernel
theorem dX4_digest_145 : decode cX4_digest 145 = .ok (.getfield 41, 3) := by decide +kernel
theorem dX4_digest_148 : decode cX4_digest 148 = .ok (.iconst 0, 1) := by decide +kernel
theorem dX4_digest_149 : decode cX4_digest 149 = .ok (.iaload, 1) := by decide +kernel
theorem dX4_digest_150 : decode cX4_digest 150 = .ok (.if_icmp .ge 92, 3) := by decide +kernel
theorem dX4_digest_153 : decode cX4_digest 153 = .ok (.lload_n 1, 1) := by decide +kernel
theorem dX4_digest_154 : decode cX4_digest 154 = .ok (.ldc2_w 180, 3) := by decide +kernel
theorem dX4_digest_157 : decode cX4_digest 157 = .ok (.lmul, 1) := by decide +kernel
theorem dX4_digest_158 : decode cX4_digest 158 = .ok (.aload_n 0, 1) := by decide +kernel
theorem dX4_digest_159 : decode cX4_digest 159 = .ok (.getfield 47, 3) := by decide +kernel
theorem dX4_digest_162 : decode cX4_digest 162 = .ok (.iload_n 3, 1) := by decide +kernel
theorem dX4_digest_163 : decode cX4_digest 163 = .ok (.iaload, 1) := by decide +kernel
theorem dX4_digest_164 : decode cX4_digest 164 = .ok (.i2l, 1) := by decide +kernel
theorem dX4_digest_165 : decode cX4_digest 165 = .ok (.ladd, 1) := by decide +kernel
theorem dX4_digest_166 : decode cX4_digest 166 = .ok (.ldc2_w 180, 3) := by decide +kernel
theorem dX4_digest_169 : decode cX4_digest 169 = .ok (.lmul, 1) := by decide +kernel
theorem dX4_digest_170 : decode cX4_digest 170 = .ok (.aload_n 0, 1) := by decide +kernel
theorem dX4_digest_171 : decode cX4_digest 171 = .ok (.iload_n 3, 1) := by decide +kernel
theorem dX4_digest_172 : decode cX4_digest 172 = .ok (.iconst 0, 1) := by decide +kernel
theorem dX4_digest_173 : decode cX4_digest 173 = .ok (.invokevirtual 159, 3) := by decide +kernel
theorem dX4_digest_176 : decode cX4_digest 176 = .ok (.i2l, 1) := by decide +kernel
theorem dX4_digest_177 : decode cX4_digest 177 = .ok (.ladd, 1) := by decide +kernel
theorem dX4_digest_178 : decode cX4_digest 178 = .ok (.ldc2_w 180, 3) := by decide +kernel
theorem dX4_digest_181 : decode cX4_digest 181 = .ok (.lmul, 1) := by decide +kernel
theorem dX4_digest_182 : decode cX4_digest 182 = .ok (.aload_n 0, 1) := by decide +kernel
theorem dX4_digest_183 : decode cX4_digest 183 = .ok (.iload_n 3, 1) := by decide +kernel
theorem dX4_digest_184 : decode cX4_digest 184 = .ok (.iconst 1, 1) := by decide +kernel
theorem dX4_digest_185 : decode cX4_digest 185 = .ok (.invokevirtual 159, 3) := by decide +kernel
theorem dX4_digest_188 : decode cX4_digest 188 = .ok (.i2l, 1) := by decide +kernel
theorem dX4_digest_189 : decode cX4_digest 189 = .ok (.ladd, 1) := by decide +kernel
theorem dX4_digest_190 : decode cX4_digest 190 = .ok (.lstore_n 1, 1) := by decide +kernel
theorem dX4_digest_191 : decode cX4_digest 191 = .ok (.lload_n 1, 1) := by decide +kernel
theorem dX4_digest_192 : decode cX4_digest 192 = .ok (.ldc2_w 180, 3) := by decide +kernel
theorem dX4_digest_195 : decode cX4_digest 195 = .ok (.lmul, 1) := by decide +kernel
theorem dX4_digest_196 : decode cX4_digest 196 = .ok (.aload_n 0, 1) := by decide +kernel
theorem dX4_digest_197 : decode cX4_digest 197 = .ok (.iconst 0, 1) := by decide +kernel
theorem dX4_digest_198 : decode cX4_digest 198 = .ok (.iload_n 3, 1) := by decide +kernel
theorem dX4_digest_199 : decode cX4_digest 199 = .ok (.invokevirtual 115, 3) := by decide +kernel
theorem dX4_digest_202 : decode cX4_digest 202 = .ok (.i2l, 1) := by decide +kernel
theorem dX4_digest_203 : decode cX4_digest 203 = .ok (.ladd, 1) := by decide +kernel
theorem dX4_digest_204 : decode cX4_digest 204 = .ok (.ldc2_w 180, 3) := by decide +kernel
theorem dX4_digest_207 : decode cX4_digest 207 = .ok (.lmul, 1) := by decide +kernel
theorem dX4_digest_208 : decode cX4_digest 208 = .ok (.aload_n 0, 1) := by decide +kernel
theorem dX4_digest_209 : decode cX4_digest 209 = .ok (.getfield 50, 3) := by decide +kernel
theorem dX4_digest_212 : decode cX4_digest 212 = .ok (.iload_n 3, 1) := by decide +kernel
theorem dX4_digest_213 : decode cX4_digest 213 = .ok (.iaload, 1) := by decide +kernel
theorem dX4_digest_214 : decode cX4_digest 214 = .ok (.iconst (-1), 1) := by decide +kernel
theorem dX4_digest_215 : decode cX4_digest 215 = .ok (.if_icmp .ne 7, 3) := by decide +kernel
theorem dX4_digest_218 : decode cX4_digest 218 = .ok (.iconst (-1), 1) := by decide +kernel
theorem dX4_digest_219 : decode cX4_digest 219 = .ok (.goto 14, 3) := by decide +kernel
theorem dX4_digest_222 : decode cX4_digest 222 = .ok (.aload_n 0, 1) := by decide +kernel
theorem dX4_digest_223 : decode cX4_digest 223 = .ok (.getfield 28, 3) := by decide +kernel
theorem dX4_digest_226 : decode cX4_digest 226 = .ok (.aload_n 0, 1) := by decide +kernel
theorem dX4_digest_227 : decode cX4_digest 227 = .ok (.getfield 50, 3) := by decide +kernel
theorem dX4_digest_230 : decode cX4_digest 230 = .ok (.iload_n 3, 1) := by decide +kernel
theorem dX4_digest_231 : decode cX4_digest 231 = .ok (.iaload, 1) := by decide +kernel
theorem dX4_digest_232 : decode cX4_digest 232 = .ok (.iaload, 1) := by decide +kernel
theorem dX4_digest_233 : decode cX4_digest 233 = .ok (.i2l, 1) := by decide +kernel
theorem dX4_digest_234 : decode cX4_digest 234 = .ok (.ladd, 1) := by decide +kernel
theorem dX4_digest_235 : decode cX4_digest 235 = .ok (.lstore_n 1, 1) := by decide +kernel
theorem dX4_digest_236 : decode cX4_digest 236 = .ok (.iinc 3 1, 3) := by decide +kernel
theorem dX4_digest_239 : decode cX4_digest 239 = .ok (.goto (-96), 3) := by decide +kernel
theorem dX4_digest_242 : decode cX4_digest 242 = .ok (.lload_n 1, 1) := by decide +kernel
theorem dX4_digest_243 : decode cX4_digest 243 = .ok (.ldc2_w 180, 3) := by decide +kernel
theorem dX4_digest_246 : decode cX4_digest 246 = .ok (.lmul, 1) := by decide +kernel
theorem dX4_digest_247 : decode cX4_digest 247 = .ok (.aload_n 0, 1) := by decide +kernel
theorem dX4_digest_248 : decode cX4_digest 248 = .ok (.getfield 44, 3) := by decide +kernel
theorem dX4_digest_251 : decode cX4_digest 251 = .ok (.iconst 0, 1) := by decide +kernel
theorem dX4_digest_252 : decode cX4_digest 252 = .ok (.iaload, 1) := by decide +kernel
theorem dX4_digest_253 : decode cX4_digest 253 = .ok (.invokestatic 118, 3) := by decide +kernel
theorem dX4_digest_256 : decode cX4_digest 256 = .ok (.i2l, 1) := by decide +kernel
theorem dX4_digest_257 : decode cX4_digest 257 = .ok (.ladd, 1) := by decide +kernel
theorem dX4_digest_258 : decode cX4_digest 258 = .ok (.lstore_n 1, 1) := by decide +kernel
theorem dX4_digest_259 : decode cX4_digest 259 = .ok (.iconst 0, 1) := by decide +kernel
theorem dX4_digest_260 : decode cX4_digest 260 = .ok (.istore_n 3, 1) := by decide +kernel
theorem dX4_digest_261 : decode cX4_digest 261 = .ok (.aload_n 0, 1) := by decide +kernel
theorem dX4_digest_262 : decode cX4_digest 262 = .ok (.getfield 92, 3) := by decide +kernel
theorem dX4_digest_265 : decode cX4_digest 265 = .ok (.ifCond .eq 31, 3) := by decide +kernel
theorem dX4_digest_268 : decode cX4_digest 268 = .ok (.iload_n 3, 1) := by decide +kernel
theorem dX4_digest_269 : decode cX4_digest 269 = .ok (.aload_n 0, 1) := by decide +kernel
theorem dX4_digest_270 : decode cX4_digest 270 = .ok (.getfield 77, 3) := by decide +kernel
theorem dX4_digest_273 : decode cX4_digest 273 = .ok (.if_icmp .ge 23, 3) := by decide +kernel
theorem dX4_digest_276 : decode cX4_digest 276 = .ok (.lload_n 1, 1) := by decide +kernel
theorem dX4_digest_277 : decode cX4_digest 277 = .ok (.ldc2_w 180, 3) := by decide +kernel
theorem dX4_digest_280 : decode cX4_digest 280 = .ok (.lmul, 1) := by decide +kernel
theorem dX4_digest_281 : decode cX4_digest 281 = .ok (.aload_n 0, 1) := by decide +kernel
theorem dX4_digest_282 : decode cX4_digest 282 = .ok (.getfield 56, 3) := by decide +kernel
theorem dX4_digest_285 : decode cX4_digest 285 = .ok (.iload_n 3, 1) := by decide +kernel
theorem dX4_digest_286 : decode cX4_digest 286 = .ok (.iaload, 1) := by decide +kernel
theorem dX4_digest_287 : decode cX4_digest 287 = .ok (.i2l, 1) := by decide +kernel
theorem dX4_digest_288 : decode cX4_digest 288 = .ok (.ladd, 1) := by decide +kernel
theorem dX4_digest_289 : decode cX4_digest 289 = .ok (.lstore_n 1, 1) := by decide +kernel
theorem dX4_digest_290 : decode cX4_digest 290 = .ok (.iinc 3 1, 3) := by decide +kernel
theorem dX4_digest_293 : decode cX4_digest 293 = .ok (.goto (-32), 3) := by decide +kernel
theorem dX4_digest_296 : decode cX4_digest 296 = .ok (.lload_n 1, 1) := by decide +kernel
theorem dX4_digest_297 : decode cX4_digest 297 = .ok (.lreturn, 1) := by decide +kernel
end
section
theorem dL_feed_0 : decode cL_feed 0 = .ok (.aload_n 3, 1) := by decide +kernel
theorem dL_feed_1 : decode cL_feed 1 = .ok (.iconst 0, 1) := by decide +kernel
theorem dL_feed_2 : decode cL_feed 2 = .ok (.aload_n 0, 1) := by decide +kernel
theorem dL_feed_3 : decode cL_feed 3 = .ok (.lload_n 1, 1) := by decide +kernel
theorem dL_feed_4 : decode cL_feed 4 = .ok (.invokevirtual 7, 3) := by decide +kernel
theorem dL_feed_7 : decode cL_feed 7 = .ok (.i2l, 1) := by decide +kernel
theorem dL_feed_8 : decode cL_feed 8 = .ok (.lastore, 1) := by decide +kernel
theorem dL_feed_9 : decode cL_feed 9 = .ok (.goto 11, 3) := by decide +kernel
theorem dL_feed_12 : decode cL_feed 12 = .ok (.astore 4, 2) := by decide +kernel
theorem dL_feed_14 : decode cL_feed 14 = .ok (.iconst 1, 1) := by decide +kernel
theorem dL_feed_15 : decode cL_feed 15 = .ok (.ireturn, 1) := by decide +kernel
theorem dL_feed_16 : decode cL_feed 16 = .ok (.astore 4, 2) := by decide +kernel
theorem dL_feed_18 : decode cL_feed 18 = .ok (.iconst 2, 1) := by decide +kernel
theorem dL_feed_19 : decode cL_feed 19 = .ok (.ireturn, 1) := by decide +kernel
theorem dL_feed_20 : decode cL_feed 20 = .ok (.iconst 0, 1) := by decide +kernel
theorem dL_feed_21 : decode cL_feed 21 = .ok (.ireturn, 1) := by decide +kernel
theorem dL_store_0 : decode cL_store 0 = .ok (.aload_n 1, 1) := by decide +kernel
theorem dL_store_1 : decode cL_store 1 = .ok (.iconst 0, 1) := by decide +kernel
theorem dL_store_2 : decode cL_store 2 = .ok (.aload_n 0, 1) := by decide +kernel
theorem dL_store_3 : decode cL_store 3 = .ok (.invokevirtual 17, 3) := by decide +kernel
theorem dL_store_6 : decode cL_store 6 = .ok (.i2l, 1) := by decide +kernel
theorem dL_store_7 : decode cL_store 7 = .ok (.lastore, 1) := by decide +kernel
theorem dL_store_8 : decode cL_store 8 = .ok (.goto 6, 3) := by decide +kernel
theorem dL_store_11 : decode cL_store 11 = .ok (.astore_n 2, 1) := by decide +kernel
theorem dL_store_12 : decode cL_store 12 = .ok (.iconst 1, 1) := by decide +kernel
theorem dL_store_13 : decode cL_store 13 = .ok (.ireturn, 1) := by decide +kernel
theorem dL_store_14 : decode cL_store 14 = .ok (.iconst 0, 1) := by decide +kernel
theorem dL_store_15 : decode cL_store 15 = .ok (.ireturn, 1) := by decide +kernel
theorem dL_tokenCount_0 : decode cL_tokenCount 0 = .ok (.aload_n 2, 1) := by decide +kernel
theorem dL_tokenCount_1 : decode cL_tokenCount 1 = .ok (.iconst 0, 1) := by decide +kernel
theorem dL_tokenCount_2 : decode cL_tokenCount 2 = .ok (.aload_n 0, 1) := by decide +kernel
theorem dL_tokenCount_3 : decode cL_tokenCount 3 = .ok (.iload_n 1, 1) := by decide +kernel
theorem dL_tokenCount_4 : decode cL_tokenCount 4 = .ok (.invokevirtual 21, 3) := by decide +kernel
theorem dL_tokenCount_7 : decode cL_tokenCount 7 = .ok (.i2l, 1) := by decide +kernel
theorem dL_tokenCount_8 : decode cL_tokenCount 8 = .ok (.lastore, 1) := by decide +kernel
theorem dL_tokenCount_9 : decode cL_tokenCount 9 = .ok (.goto 6, 3) := by decide +kernel
theorem dL_tokenCount_12 : decode cL_tokenCount 12 = .ok (.astore_n 3, 1) := by decide +kernel
theorem dL_tokenCount_13 : decode cL_tokenCount 13 = .ok (.iconst 1, 1) := by decide +kernel
theorem dL_tokenCount_14 : decode cL_tokenCount 14 = .ok (.ireturn, 1) := by decide +kernel
theorem dL_tokenCount_15 : decode cL_tokenCount 15 = .ok (.iconst 0, 1) := by decide +kernel
theorem dL_tokenCount_16 : decode cL_tokenCount 16 = .ok (.ireturn, 1) := by decide +kernel
theorem dL_tokenKind_0 : decode cL_tokenKind 0 = .ok (.aload_n 3, 1) := by decide +kernel
theorem dL_tokenKind_1 : decode cL_tokenKind 1 = .ok (.iconst 0, 1) := by decide +kernel
theorem dL_tokenKind_2 : decode cL_tokenKind 2 = .ok (.aload_n 0, 1) := by decide +kernel
theorem dL_tokenKind_3 : decode cL_tokenKind 3 = .ok (.iload_n 1, 1) := by decide +kernel
theorem dL_tokenKind_4 : decode cL_tokenKind 4 = .ok (.iload_n 2, 1) := by decide +kernel
theorem dL_tokenKind_5 : decode cL_tokenKind 5 = .ok (.invokevirtual 27, 3) := by decide +kernel
theorem dL_tokenKind_8 : decode cL_tokenKind 8 = .ok (.i2l, 1) := by decide +kernel
theorem dL_tokenKind_9 : decode cL_tokenKind 9 = .ok (.lastore, 1) := by decide +kernel
theorem dL_tokenKind_10 : decode cL_tokenKind 10 = .ok (.goto 7, 3) := by decide +kernel
theorem dL_tokenKind_13 : decode cL_tokenKind 13 = .ok (.astore 4, 2) := by decide +kernel
theorem dL_tokenKind_15 : decode cL_tokenKind 15 = .ok (.iconst 1, 1) := by decide +kernel
theorem dL_tokenKind_16 : decode cL_tokenKind 16 = .ok (.ireturn, 1) := by decide +kernel
theorem dL_tokenKind_17 : decode cL_tokenKind 17 = .ok (.iconst 0, 1) := by decide +kernel
theorem dL_tokenKind_18 : decode cL_tokenKind 18 = .ok (.ireturn, 1) := by decide +kernel
theorem dL_tokenStart_0 : decode cL_tokenStart 0 = .ok (.aload_n 3, 1) := by decide +kernel
theorem dL_tokenStart_1 : decode cL_tokenStart 1 = .ok (.iconst 0, 1) := by decide +kernel
theorem dL_tokenStart_2 : decode cL_tokenStart 2 = .ok (.aload_n 0, 1) := by decide +kernel
theorem dL_tokenStart_3 : decode cL_tokenStart 3 = .ok (.iload_n 1, 1) := by decide +kernel
theorem dL_tokenStart_4 : decode cL_tokenStart 4 = .ok (.iload_n 2, 1) := by decide +kernel
theorem dL_tokenStart_5 : decode cL_tokenStart 5 = .ok (.invokevirtual 31, 3) := by decide +kernel
theorem dL_tokenStart_8 : decode cL_tokenStart 8 = .ok (.i2l, 1) := by decide +kernel
theorem dL_tokenStart_9 : decode cL_tokenStart 9 = .ok (.lastore, 1) := by decide +kernel
theorem dL_tokenStart_10 : decode cL_tokenStart 10 = .ok (.goto 7, 3) := by decide +kernel
theorem dL_tokenStart_13 : decode cL_tokenStart 13 = .ok (.astore 4, 2) := by decide +kernel
theorem dL_tokenStart_15 : decode cL_tokenStart 15 = .ok (.iconst 1, 1) := by decide +kernel
theorem dL_tokenStart_16 : decode cL_tokenStart 16 = .ok (.ireturn, 1) := by decide +kernel
theorem dL_tokenStart_17 : decode cL_tokenStart 17 = .ok (.iconst 0, 1) := by decide +kernel
theorem dL_tokenStart_18 : decode cL_tokenStart 18 = .ok (.ireturn, 1) := by decide +kernel
theorem dL_sameAtFront_0 : decode cL_sameAtFront 0 = .ok (.aload_n 3, 1) := by decide +kernel
theorem dL_sameAtFront_1 : decode cL_sameAtFront 1 = .ok (.iconst 0, 1) := by decide +kernel
theorem dL_sameAtFront_2 : decode cL_sameAtFront 2 = .ok (.aload_n 0, 1) := by decide +kernel
theorem dL_sameAtFront_3 : decode cL_sameAtFront 3 = .ok (.iload_n 1, 1) := by decide +kernel
theorem dL_sameAtFront_4 : decode cL_sameAtFront 4 = .ok (.iload_n 2, 1) := by decide +kernel
theorem dL_sameAtFront_5 : decode cL_sameAtFront 5 = .ok (.invokevirtual 34, 3) := by decide +kernel
theorem dL_sameAtFront_8 : decode cL_sameAtFront 8 = .ok (.i2l, 1) := by decide +kernel
theorem dL_sameAtFront_9 : decode cL_sameAtFront 9 = .ok (.lastore, 1) := by decide +kernel
theorem dL_sameAtFront_10 : decode cL_sameAtFront 10 = .ok (.goto 7, 3) := by decide +kernel
theorem dL_sameAtFront_13 : decode cL_sameAtFront 13 = .ok (.astore 4, 2) := by decide +kernel
theorem dL_sameAtFront_15 : decode cL_sameAtFront 15 = .ok (.iconst 1, 1) := by decide +kernel
theorem dL_sameAtFront_16 : decode cL_sameAtFront 16 = .ok (.ireturn, 1) := by decide +kernel
theorem dL_sameAtFront_17 : decode cL_sameAtFront 17 = .ok (.iconst 0, 1) := by decide +kernel
theorem dL_sameAtFront_18 : decode cL_sameAtFront 18 = .ok (.ireturn, 1) := by decide +kernel
theorem dL_setCosts_0 : decode cL_setCosts 0 = .ok (.aload 4, 2) := by decide +kernel
theorem dL_setCosts_2 : decode cL_setCosts 2 = .ok (.iconst 0, 1) := by decide +kernel
theorem dL_setCosts_3 : decode cL_setCosts 3 = .ok (.aload_n 0, 1) := by decide +kernel
theorem dL_setCosts_4 : decode cL_setCosts 4 = .ok (.iload_n 1, 1) := by decide +kernel
theorem dL_setCosts_5 : decode cL_setCosts 5 = .ok (.iload_n 2, 1) := by decide +kernel
theorem dL_setCosts_6 : decode cL_setCosts 6 = .ok (.iload_n 3, 1) := by decide +kernel
theorem dL_setCosts_7 : decode cL_setCosts 7 = .ok (.invokevirtual 37, 3) := by decide +kernel
theorem dL_setCosts_10 : decode cL_setCosts 10 = .ok (.ifCond .eq 7, 3) := by decide +kernel
theorem dL_setCosts_13 : decode cL_setCosts 13 = .ok (.lconst 1, 1) := by decide +kernel
theorem dL_setCosts_14 : decode cL_setCosts 14 = .ok (.goto 4, 3) := by decide +kernel
theorem dL_setCosts_17 : decode cL_setCosts 17 = .ok (.lconst 0, 1) := by decide +kernel
theorem dL_setCosts_18 : decode cL_setCosts 18 = .ok (.lastore, 1) := by decide +kernel
theorem dL_setCosts_19 : decode cL_setCosts 19 = .ok (.goto 7, 3) := by decide +kernel
theorem dL_setCosts_22 : decode cL_setCosts 22 = .ok (.astore 5, 2) := by decide +kernel
theorem dL_setCosts_24 : decode cL_setCosts 24 = .ok (.iconst 1, 1) := by decide +kernel
theorem dL_setCosts_25 : decode cL_setCosts 25 = .ok (.ireturn, 1) := by decide +kernel
theorem dL_setCosts_26 : decode cL_setCosts 26 = .ok (.iconst 0, 1) := by decide +kernel
theorem dL_setCosts_27 : decode cL_setCosts 27 = .ok (.ireturn, 1) := by decide +kernel
theorem dL_merge_0 : decode cL_merge 0 = .ok (.aload_n 2, 1) := by decide +kernel
theorem dL_merge_1 : decode cL_merge 1 = .ok (.iconst 0, 1) := by decide +kernel
theorem dL_merge_2 : decode cL_merge 2 = .ok (.aload_n 0, 1) := by decide +kernel
theorem dL_merge_3 : decode cL_merge 3 = .ok (.iload_n 1, 1) := by decide +kernel
theorem dL_merge_4 : decode cL_merge 4 = .ok (.invokevirtual 41, 3) := by decide +kernel
theorem dL_merge_7 : decode cL_merge 7 = .ok (.i2l, 1) := by decide +kernel
theorem dL_merge_8 : decode cL_merge 8 = .ok (.lastore, 1) := by decide +kernel
theorem dL_merge_9 : decode cL_merge 9 = .ok (.goto 9, 3) := by decide +kernel
theorem dL_merge_12 : decode cL_merge 12 = .ok (.astore_n 3, 1) := by decide +kernel
theorem dL_merge_13 : decode cL_merge 13 = .ok (.iconst 1, 1) := by decide +kernel
theorem dL_merge_14 : decode cL_merge 14 = .ok (.ireturn, 1) := by decide +kernel
theorem dL_merge_15 : decode cL_merge 15 = .ok (.astore_n 3, 1) := by decide +kernel
theorem dL_merge_16 : decode cL_merge 16 = .ok (.iconst 2, 1) := by decide +kernel
theorem dL_merge_17 : decode cL_merge 17 = .ok (.ireturn, 1) := by decide +kernel
theorem dL_merge_18 : decode cL_merge 18 = .ok (.iconst 0, 1) := by decide +kernel
theorem dL_merge_19 : decode cL_merge 19 = .ok (.ireturn, 1) := by decide +kernel
theorem dL_isMerged_0 : decode cL_isMerged 0 = .ok (.aload_n 2, 1) := by decide +kernel
theorem dL_isMerged_1 : decode cL_isMerged 1 = .ok (.iconst 0, 1) := by decide +kernel
theorem dL_isMerged_2 : decode cL_isMerged 2 = .ok (.aload_n 0, 1) := by decide +kernel
theorem dL_isMerged_3 : decode cL_isMerged 3 = .ok (.iload_n 1, 1) := by decide +kernel
theorem dL_isMerged_4 : decode cL_isMerged 4 = .ok (.invokevirtual 44, 3) := by decide +kernel
theorem dL_isMerged_7 : decode cL_isMerged 7 = .ok (.ifCond .eq 7, 3) := by decide +kernel
theorem dL_isMerged_10 : decode cL_isMerged 10 = .ok (.lconst 1, 1) := by decide +kernel
theorem dL_isMerged_11 : decode cL_isMerged 11 = .ok (.goto 4, 3) := by decide +kernel
theorem dL_isMerged_14 : decode cL_isMerged 14 = .ok (.lconst 0, 1) := by decide +kernel
theorem dL_isMerged_15 : decode cL_isMerged 15 = .ok (.lastore, 1) := by decide +kernel
theorem dL_isMerged_16 : decode cL_isMerged 16 = .ok (.goto 6, 3) := by decide +kernel
theorem dL_isMerged_19 : decode cL_isMerged 19 = .ok (.astore_n 3, 1) := by decide +kernel
theorem dL_isMerged_20 : decode cL_isMerged 20 = .ok (.iconst 1, 1) := by decide +kernel
theorem dL_isMerged_21 : decode cL_isMerged 21 = .ok (.ireturn, 1) := by decide +kernel
theorem dL_isMerged_22 : decode cL_isMerged 22 = .ok (.iconst 0, 1) := by decide +kernel
theorem dL_isMerged_23 : decode cL_isMerged 23 = .ok (.ireturn, 1) := by decide +kernel
theorem dL_costWith_0 : decode cL_costWith 0 = .ok (.aload_n 2, 1) := by decide +kernel
theorem dL_costWith_1 : decode cL_costWith 1 = .ok (.iconst 0, 1) := by decide +kernel
theorem dL_costWith_2 : decode cL_costWith 2 = .ok (.aload_n 0, 1) := by decide +kernel
theorem dL_costWith_3 : decode cL_costWith 3 = .ok (.iload_n 1, 1) := by decide +kernel
theorem dL_costWith_4 : decode cL_costWith 4 = .ok (.invokevirtual 48, 3) := by decide +kernel
theorem dL_costWith_7 : decode cL_costWith 7 = .ok (.i2l, 1) := by decide +kernel
theorem dL_costWith_8 : decode cL_costWith 8 = .ok (.lastore, 1) := by decide +kernel
theorem dL_costWith_9 : decode cL_costWith 9 = .ok (.goto 6, 3) := by decide +kernel
theorem dL_costWith_12 : decode cL_costWith 12 = .ok (.astore_n 3, 1) := by decide +kernel
theorem dL_costWith_13 : decode cL_costWith 13 = .ok (.iconst 1, 1) := by decide +kernel
theorem dL_costWith_14 : decode cL_costWith 14 = .ok (.ireturn, 1) := by decide +kernel
theorem dL_costWith_15 : decode cL_costWith 15 = .ok (.iconst 0, 1) := by decide +kernel
theorem dL_costWith_16 : decode cL_costWith 16 = .ok (.ireturn, 1) := by decide +kernel
theorem dL_fits_0 : decode cL_fits 0 = .ok (.aload_n 2, 1) := by decide +kernel
theorem dL_fits_1 : decode cL_fits 1 = .ok (.iconst 0, 1) := by decide +kernel
theorem dL_fits_2 : decode cL_fits 2 = .ok (.aload_n 0, 1) := by decide +kernel
theorem dL_fits_3 : decode cL_fits 3 = .ok (.iload_n 1, 1) := by decide +kernel
theorem dL_fits_4 : decode cL_fits 4 = .ok (.invokevirtual 51, 3) := by decide +kernel
theorem dL_fits_7 : decode cL_fits 7 = .ok (.ifCond .eq 7, 3) := by decide +kernel
theorem dL_fits_10 : decode cL_fits 10 = .ok (.lconst 1, 1) := by decide +kernel
theorem dL_fits_11 : decode cL_fits 11 = .ok (.goto 4, 3) := by decide +kernel
theorem dL_fits_14 : decode cL_fits 14 = .ok (.lconst 0, 1) := by decide +kernel
theorem dL_fits_15 : decode cL_fits 15 = .ok (.lastore, 1) := by decide +kernel
theorem dL_fits_16 : decode cL_fits 16 = .ok (.goto 6, 3) := by decide +kernel
theorem dL_fits_19 : decode cL_fits 19 = .ok (.astore_n 3, 1) := by decide +kernel
theorem dL_fits_20 : decode cL_fits 20 = .ok (.iconst 1, 1) := by decide +kernel
theorem dL_fits_21 : decode cL_fits 21 = .ok (.ireturn, 1) := by decide +kernel
theorem dL_fits_22 : decode cL_fits 22 = .ok (.iconst 0, 1) := by decide +kernel
theorem dL_fits_23 : decode cL_fits 23 = .ok (.ireturn, 1) := by decide +kernel
theorem dL_slotKind_0 : decode cL_slotKind 0 = .ok (.aload_n 2, 1) := by decide +kernel
theorem dL_slotKind_1 : decode cL_slotKind 1 = .ok (.iconst 0, 1) := by decide +kernel
theorem dL_slotKind_2 : decode cL_slotKind 2 = .ok (.aload_n 0, 1) := by decide +kernel
theorem dL_slotKind_3 : decode cL_slotKind 3 = .ok (.iload_n 1, 1) := by decide +kernel
theorem dL_slotKind_4 : decode cL_slotKind 4 = .ok (.invokevirtual 54, 3) := by decide +kernel
theorem dL_slotKind_7 : decode cL_slotKind 7 = .ok (.i2l, 1) := by decide +kernel
theorem dL_slotKind_8 : decode cL_slotKind 8 = .ok (.lastore, 1) := by decide +kernel
theorem dL_slotKind_9 : decode cL_slotKind 9 = .ok (.goto 6, 3) := by decide +kernel
theorem dL_slotKind_12 : decode cL_slotKind 12 = .ok (.astore_n 3, 1) := by decide +kernel
theorem dL_slotKind_13 : decode cL_slotKind 13 = .ok (.iconst 1, 1) := by decide +kernel
theorem dL_slotKind_14 : decode cL_slotKind 14 = .ok (.ireturn, 1) := by decide +kernel
theorem dL_slotKind_15 : decode cL_slotKind 15 = .ok (.iconst 0, 1) := by decide +kernel
theorem dL_slotKind_16 : decode cL_slotKind 16 = .ok (.ireturn, 1) := by decide +kernel
theorem dL_textByte_0 : decode cL_textByte 0 = .ok (.aload_n 3, 1) := by decide +kernel
theorem dL_textByte_1 : decode cL_textByte 1 = .ok (.iconst 0, 1) := by decide +kernel
theorem dL_textByte_2 : decode cL_textByte 2 = .ok (.aload_n 0, 1) := by decide +kernel
theorem dL_textByte_3 : decode cL_textByte 3 = .ok (.iload_n 1, 1) := by decide +kernel
theorem dL_textByte_4 : decode cL_textByte 4 = .ok (.iload_n 2, 1) := by decide +kernel
theorem dL_textByte_5 : decode cL_textByte 5 = .ok (.invokevirtual 57, 3) := by decide +kernel
theorem dL_textByte_8 : decode cL_textByte 8 = .ok (.i2l, 1) := by decide +kernel
theorem dL_textByte_9 : decode cL_textByte 9 = .ok (.lastore, 1) := by decide +kernel
theorem dL_textByte_10 : decode cL_textByte 10 = .ok (.goto 7, 3) := by decide +kernel
theorem dL_textByte_13 : decode cL_textByte 13 = .ok (.astore 4, 2) := by decide +kernel
theorem dL_textByte_15 : decode cL_textByte 15 = .ok (.iconst 1, 1) := by decide +kernel
theorem dL_textByte_16 : decode cL_textByte 16 = .ok (.ireturn, 1) := by decide +kernel
theorem dL_textByte_17 : decode cL_textByte 17 = .ok (.iconst 0, 1) := by decide +kernel
theorem dL_textByte_18 : decode cL_textByte 18 = .ok (.ireturn, 1) := by decide +kernel
theorem dL_sizeOf_0 : decode cL_sizeOf 0 = .ok (.aload_n 3, 1) := by decide +kernel
theorem dL_sizeOf_1 : decode cL_sizeOf 1 = .ok (.iconst 0, 1) := by decide +kernel
theorem dL_sizeOf_2 : decode cL_sizeOf 2 = .ok (.aload_n 0, 1) := by decide +kernel
theorem dL_sizeOf_3 : decode cL_sizeOf 3 = .ok (.iload_n 1, 1) := by decide +kernel
theorem dL_sizeOf_4 : decode cL_sizeOf 4 = .ok (.iload_n 2, 1) := by decide +kernel
theorem dL_sizeOf_5 : decode cL_sizeOf 5 = .ok (.invokevirtual 60, 3) := by decide +kernel
theorem dL_sizeOf_8 : decode cL_sizeOf 8 = .ok (.i2l, 1) := by decide +kernel
theorem dL_sizeOf_9 : decode cL_sizeOf 9 = .ok (.lastore, 1) := by decide +kernel
theorem dL_sizeOf_10 : decode cL_sizeOf 10 = .ok (.goto 7, 3) := by decide +kernel
theorem dL_sizeOf_13 : decode cL_sizeOf 13 = .ok (.astore 4, 2) := by decide +kernel
theorem dL_sizeOf_15 : decode cL_sizeOf 15 = .ok (.iconst 1, 1) := by decide +kernel
theorem dL_sizeOf_16 : decode cL_sizeOf 16 = .ok (.ireturn, 1) := by decide +kernel
theorem dL_sizeOf_17 : decode cL_sizeOf 17 = .ok (.iconst 0, 1) := by decide +kernel
theorem dL_sizeOf_18 : decode cL_sizeOf 18 = .ok (.ireturn, 1) := by decide +kernel
theorem dL_uses_0 : decode cL_uses 0 = .ok (.aload_n 2, 1) := by decide +kernel
theorem dL_uses_1 : decode cL_uses 1 = .ok (.iconst 0, 1) := by decide +kernel
theorem dL_uses_2 : decode cL_uses 2 = .ok (.aload_n 0, 1) := by decide +kernel
theorem dL_uses_3 : decode cL_uses 3 = .ok (.iload_n 1, 1) := by decide +kernel
theorem dL_uses_4 : decode cL_uses 4 = .ok (.invokevirtual 64, 3) := by decide +kernel
theorem dL_uses_7 : decode cL_uses 7 = .ok (.i2l, 1) := by decide +kernel
theorem dL_uses_8 : decode cL_uses 8 = .ok (.lastore, 1) := by decide +kernel
theorem dL_uses_9 : decode cL_uses 9 = .ok (.goto 6, 3) := by decide +kernel
theorem dL_uses_12 : decode cL_uses 12 = .ok (.astore_n 3, 1) := by decide +kernel
theorem dL_uses_13 : decode cL_uses 13 = .ok (.iconst 1, 1) := by decide +kernel
theorem dL_uses_14 : decode cL_uses 14 = .ok (.ireturn, 1) := by decide +kernel
theorem dL_uses_15 : decode cL_uses 15 = .ok (.iconst 0, 1) := by decide +kernel
theorem dL_uses_16 : decode cL_uses 16 = .ok (.ireturn, 1) := by decide +kernel
theorem dL_isOptional_0 : decode cL_isOptional 0 = .ok (.aload_n 2, 1) := by decide +kernel
theorem dL_isOptional_1 : decode cL_isOptional 1 = .ok (.iconst 0, 1) := by decide +kernel
theorem dL_isOptional_2 : decode cL_isOptional 2 = .ok (.aload_n 0, 1) := by decide +kernel
theorem dL_isOptional_3 : decode cL_isOptional 3 = .ok (.iload_n 1, 1) := by decide +kernel
theorem dL_isOptional_4 : decode cL_isOptional 4 = .ok (.invokevirtual 67, 3) := by decide +kernel
theorem dL_isOptional_7 : decode cL_isOptional 7 = .ok (.ifCond .eq 7, 3) := by decide +kernel
theorem dL_isOptional_10 : decode cL_isOptional 10 = .ok (.lconst 1, 1) := by decide +kernel
theorem dL_isOptional_11 : decode cL_isOptional 11 = .ok (.goto 4, 3) := by decide +kernel
theorem dL_isOptional_14 : decode cL_isOptional 14 = .ok (.lconst 0, 1) := by decide +kernel
theorem dL_isOptional_15 : decode cL_isOptional 15 = .ok (.lastore, 1) := by decide +kernel
theorem dL_isOptional_16 : decode cL_isOptional 16 = .ok (.goto 6, 3) := by decide +kernel
theorem dL_isOptional_19 : decode cL_isOptional 19 = .ok (.astore_n 3, 1) := by decide +kernel
theorem dL_isOptional_20 : decode cL_isOptional 20 = .ok (.iconst 1, 1) := by decide +kernel
theorem dL_isOptional_21 : decode cL_isOptional 21 = .ok (.ireturn, 1) := by decide +kernel
theorem dL_isOptional_22 : decode cL_isOptional 22 = .ok (.iconst 0, 1) := by decide +kernel
theorem dL_isOptional_23 : decode cL_isOptional 23 = .ok (.ireturn, 1) := by decide +kernel
theorem dL_tokenAt_0 : decode cL_tokenAt 0 = .ok (.aload_n 3, 1) := by decide +kernel
theorem dL_tokenAt_1 : decode cL_tokenAt 1 = .ok (.iconst 0, 1) := by decide +kernel
theorem dL_tokenAt_2 : decode cL_tokenAt 2 = .ok (.aload_n 0, 1) := by decide +kernel
theorem dL_tokenAt_3 : decode cL_tokenAt 3 = .ok (.iload_n 1, 1) := by decide +kernel
theorem dL_tokenAt_4 : decode cL_tokenAt 4 = .ok (.iload_n 2, 1) := by decide +kernel
theorem dL_tokenAt_5 : decode cL_tokenAt 5 = .ok (.invokevirtual 70, 3) := by decide +kernel
theorem dL_tokenAt_8 : decode cL_tokenAt 8 = .ok (.i2l, 1) := by decide +kernel
theorem dL_tokenAt_9 : decode cL_tokenAt 9 = .ok (.lastore, 1) := by decide +kernel
theorem dL_tokenAt_10 : decode cL_tokenAt 10 = .ok (.goto 7, 3) := by decide +kernel
theorem dL_tokenAt_13 : decode cL_tokenAt 13 = .ok (.astore 4, 2) := by decide +kernel
theorem dL_tokenAt_15 : decode cL_tokenAt 15 = .ok (.iconst 1, 1) := by decide +kernel
theorem dL_tokenAt_16 : decode cL_tokenAt 16 = .ok (.ireturn, 1) := by decide +kernel
theorem dL_tokenAt_17 : decode cL_tokenAt 17 = .ok (.iconst 0, 1) := by decide +kernel
theorem dL_tokenAt_18 : decode cL_tokenAt 18 = .ok (.ireturn, 1) := by decide +kernel
theorem dL_numberAt_0 : decode cL_numberAt 0 = .ok (.aload_n 3, 1) := by decide +kernel
theorem dL_numberAt_1 : decode cL_numberAt 1 = .ok (.iconst 0, 1) := by decide +kernel
theorem dL_numberAt_2 : decode cL_numberAt 2 = .ok (.aload_n 0, 1) := by decide +kernel
theorem dL_numberAt_3 : decode cL_numberAt 3 = .ok (.iload_n 1, 1) := by decide +kernel
theorem dL_numberAt_4 : decode cL_numberAt 4 = .ok (.iload_n 2, 1) := by decide +kernel
theorem dL_numberAt_5 : decode cL_numberAt 5 = .ok (.invokevirtual 73, 3) := by decide +kernel
theorem dL_numberAt_8 : decode cL_numberAt 8 = .ok (.i2l, 1) := by decide +kernel
theorem dL_numberAt_9 : decode cL_numberAt 9 = .ok (.lastore, 1) := by decide +kernel
theorem dL_numberAt_10 : decode cL_numberAt 10 = .ok (.goto 7, 3) := by decide +kernel
theorem dL_numberAt_13 : decode cL_numberAt 13 = .ok (.astore 4, 2) := by decide +kernel
theorem dL_numberAt_15 : decode cL_numberAt 15 = .ok (.iconst 1, 1) := by decide +kernel
theorem dL_numberAt_16 : decode cL_numberAt 16 = .ok (.ireturn, 1) := by decide +kernel
theorem dL_numberAt_17 : decode cL_numberAt 17 = .ok (.iconst 0, 1) := by decide +kernel
theorem dL_numberAt_18 : decode cL_numberAt 18 = .ok (.ireturn, 1) := by decide +kernel
theorem dL_distinct_0 : decode cL_distinct 0 = .ok (.aload_n 2, 1) := by decide +kernel
theorem dL_distinct_1 : decode cL_distinct 1 = .ok (.iconst 0, 1) := by decide +kernel
theorem dL_distinct_2 : decode cL_distinct 2 = .ok (.aload_n 0, 1) := by decide +kernel
theorem dL_distinct_3 : decode cL_distinct 3 = .ok (.iload_n 1, 1) := by decide +kernel
theorem dL_distinct_4 : decode cL_distinct 4 = .ok (.invokevirtual 76, 3) := by decide +kernel
theorem dL_distinct_7 : decode cL_distinct 7 = .ok (.i2l, 1) := by decide +kernel
theorem dL_distinct_8 : decode cL_distinct 8 = .ok (.lastore, 1) := by decide +kernel
theorem dL_distinct_9 : decode cL_distinct 9 = .ok (.goto 6, 3) := by decide +kernel
theorem dL_distinct_12 : decode cL_distinct 12 = .ok (.astore_n 3, 1) := by decide +kernel
theorem dL_distinct_13 : decode cL_distinct 13 = .ok (.iconst 1, 1) := by decide +kernel
theorem dL_distinct_14 : decode cL_distinct 14 = .ok (.ireturn, 1) := by decide +kernel
theorem dL_distinct_15 : decode cL_distinct 15 = .ok (.iconst 0, 1) := by decide +kernel
theorem dL_distinct_16 : decode cL_distinct 16 = .ok (.ireturn, 1) := by decide +kernel
theorem dL_isRising_0 : decode cL_isRising 0 = .ok (.aload_n 2, 1) := by decide +kernel
theorem dL_isRising_1 : decode cL_isRising 1 = .ok (.iconst 0, 1) := by decide +kernel
theorem dL_isRising_2 : decode cL_isRising 2 = .ok (.aload_n 0, 1) := by decide +kernel
theorem dL_isRising_3 : decode cL_isRising 3 = .ok (.iload_n 1, 1) := by decide +kernel
theorem dL_isRising_4 : decode cL_isRising 4 = .ok (.invokevirtual 79, 3) := by decide +kernel
theorem dL_isRising_7 : decode cL_isRising 7 = .ok (.ifCond .eq 7, 3) := by decide +kernel
theorem dL_isRising_10 : decode cL_isRising 10 = .ok (.lconst 1, 1) := by decide +kernel
theorem dL_isRising_11 : decode cL_isRising 11 = .ok (.goto 4, 3) := by decide +kernel
theorem dL_isRising_14 : decode cL_isRising 14 = .ok (.lconst 0, 1) := by decide +kernel
theorem dL_isRising_15 : decode cL_isRising 15 = .ok (.lastore, 1) := by decide +kernel
theorem dL_isRising_16 : decode cL_isRising 16 = .ok (.goto 6, 3) := by decide +kernel
theorem dL_isRising_19 : decode cL_isRising 19 = .ok (.astore_n 3, 1) := by decide +kernel
theorem dL_isRising_20 : decode cL_isRising 20 = .ok (.iconst 1, 1) := by decide +kernel
theorem dL_isRising_21 : decode cL_isRising 21 = .ok (.ireturn, 1) := by decide +kernel
theorem dL_isRising_22 : decode cL_isRising 22 = .ok (.iconst 0, 1) := by decide +kernel
theorem dL_isRising_23 : decode cL_isRising 23 = .ok (.ireturn, 1) := by decide +kernel
theorem dL_group_0 : decode cL_group 0 = .ok (.aload_n 2, 1) := by decide +kernel
theorem dL_group_1 : decode cL_group 1 = .ok (.iconst 0, 1) := by decide +kernel
theorem dL_group_2 : decode cL_group 2 = .ok (.aload_n 0, 1) := by decide +kernel
theorem dL_group_3 : decode cL_group 3 = .ok (.iload_n 1, 1) := by decide +kernel
theorem dL_group_4 : decode cL_group 4 = .ok (.invokevirtual 82, 3) := by decide +kernel
theorem dL_group_7 : decode cL_group 7 = .ok (.i2l, 1) := by decide +kernel
theorem dL_group_8 : decode cL_group 8 = .ok (.lastore, 1) := by decide +kernel
theorem dL_group_9 : decode cL_group 9 = .ok (.goto 6, 3) := by decide +kernel
theorem dL_group_12 : decode cL_group 12 = .ok (.astore_n 3, 1) := by decide +kernel
theorem dL_group_13 : decode cL_group 13 = .ok (.iconst 1, 1) := by decide +kernel
theorem dL_group_14 : decode cL_group 14 = .ok (.ireturn, 1) := by decide +kernel
theorem dL_group_15 : decode cL_group 15 = .ok (.iconst 0, 1) := by decide +kernel
theorem dL_group_16 : decode cL_group 16 = .ok (.ireturn, 1) := by decide +kernel
theorem dL_groupOf_0 : decode cL_groupOf 0 = .ok (.aload_n 2, 1) := by decide +kernel
theorem dL_groupOf_1 : decode cL_groupOf 1 = .ok (.iconst 0, 1) := by decide +kernel
theorem dL_groupOf_2 : decode cL_groupOf 2 = .ok (.aload_n 0, 1) := by decide +kernel
theorem dL_groupOf_3 : decode cL_groupOf 3 = .ok (.iload_n 1, 1) := by decide +kernel
theorem dL_groupOf_4 : decode cL_groupOf 4 = .ok (.invokevirtual 85, 3) := by decide +kernel
theorem dL_groupOf_7 : decode cL_groupOf 7 = .ok (.i2l, 1) := by decide +kernel
theorem dL_groupOf_8 : decode cL_groupOf 8 = .ok (.lastore, 1) := by decide +kernel
theorem dL_groupOf_9 : decode cL_groupOf 9 = .ok (.goto 9, 3) := by decide +kernel
theorem dL_groupOf_12 : decode cL_groupOf 12 = .ok (.astore_n 3, 1) := by decide +kernel
theorem dL_groupOf_13 : decode cL_groupOf 13 = .ok (.iconst 1, 1) := by decide +kernel
theorem dL_groupOf_14 : decode cL_groupOf 14 = .ok (.ireturn, 1) := by decide +kernel
theorem dL_groupOf_15 : decode cL_groupOf 15 = .ok (.astore_n 3, 1) := by decide +kernel
theorem dL_groupOf_16 : decode cL_groupOf 16 = .ok (.iconst 2, 1) := by decide +kernel
theorem dL_groupOf_17 : decode cL_groupOf 17 = .ok (.ireturn, 1) := by decide +kernel
theorem dL_groupOf_18 : decode cL_groupOf 18 = .ok (.iconst 0, 1) := by decide +kernel
theorem dL_groupOf_19 : decode cL_groupOf 19 = .ok (.ireturn, 1) := by decide +kernel
theorem dL_groupSlots_0 : decode cL_groupSlots 0 = .ok (.aload_n 2, 1) := by decide +kernel
theorem dL_groupSlots_1 : decode cL_groupSlots 1 = .ok (.iconst 0, 1) := by decide +kernel
theorem dL_groupSlots_2 : decode cL_groupSlots 2 = .ok (.aload_n 0, 1) := by decide +kernel
theorem dL_groupSlots_3 : decode cL_groupSlots 3 = .ok (.iload_n 1, 1) := by decide +kernel
theorem dL_groupSlots_4 : decode cL_groupSlots 4 = .ok (.invokevirtual 88, 3) := by decide +kernel
theorem dL_groupSlots_7 : decode cL_groupSlots 7 = .ok (.i2l, 1) := by decide +kernel
theorem dL_groupSlots_8 : decode cL_groupSlots 8 = .ok (.lastore, 1) := by decide +kernel
theorem dL_groupSlots_9 : decode cL_groupSlots 9 = .ok (.goto 9, 3) := by decide +kernel
theorem dL_groupSlots_12 : decode cL_groupSlots 12 = .ok (.astore_n 3, 1) := by decide +kernel
theorem dL_groupSlots_13 : decode cL_groupSlots 13 = .ok (.iconst 1, 1) := by decide +kernel
theorem dL_groupSlots_14 : decode cL_groupSlots 14 = .ok (.ireturn, 1) := by decide +kernel
theorem dL_groupSlots_15 : decode cL_groupSlots 15 = .ok (.astore_n 3, 1) := by decide +kernel
theorem dL_groupSlots_16 : decode cL_groupSlots 16 = .ok (.iconst 2, 1) := by decide +kernel
theorem dL_groupSlots_17 : decode cL_groupSlots 17 = .ok (.ireturn, 1) := by decide +kernel
theorem dL_groupSlots_18 : decode cL_groupSlots 18 = .ok (.iconst 0, 1) := by decide +kernel
theorem dL_groupSlots_19 : decode cL_groupSlots 19 = .ok (.ireturn, 1) := by decide +kernel
theorem dL_law_0 : decode cL_law 0 = .ok (.new 8, 3) := by decide +kernel
theorem dL_law_3 : decode cL_law 3 = .ok (.dup, 1) := by decide +kernel
theorem dL_law_4 : decode cL_law 4 = .ok (.invokespecial 91, 3) := by decide +kernel
theorem dL_law_7 : decode cL_law 7 = .ok (.astore_n 1, 1) := by decide +kernel
theorem dL_law_8 : decode cL_law 8 = .ok (.new 92, 3) := by decide +kernel
theorem dL_law_11 : decode cL_law 11 = .ok (.dup, 1) := by decide +kernel
theorem dL_law_12 : decode cL_law 12 = .ok (.invokespecial 94, 3) := by decide +kernel
theorem dL_law_15 : decode cL_law 15 = .ok (.astore_n 2, 1) := by decide +kernel
theorem dL_law_16 : decode cL_law 16 = .ok (.iconst 1, 1) := by decide +kernel
theorem dL_law_17 : decode cL_law 17 = .ok (.newarray .long, 2) := by decide +kernel
theorem dL_law_19 : decode cL_law 19 = .ok (.astore_n 3, 1) := by decide +kernel
theorem dL_law_20 : decode cL_law 20 = .ok (.iconst 0, 1) := by decide +kernel
theorem dL_law_21 : decode cL_law 21 = .ok (.istore 4, 2) := by decide +kernel
theorem dL_law_23 : decode cL_law 23 = .ok (.iload 4, 2) := by decide +kernel
theorem dL_law_25 : decode cL_law 25 = .ok (.aload_n 0, 1) := by decide +kernel
theorem dL_law_26 : decode cL_law 26 = .ok (.arraylength, 1) := by decide +kernel
theorem dL_law_27 : decode cL_law 27 = .ok (.iconst 4, 1) := by decide +kernel
theorem dL_law_28 : decode cL_law 28 = .ok (.isub, 1) := by decide +kernel
theorem dL_law_29 : decode cL_law 29 = .ok (.if_icmp .gt 1736, 3) := by decide +kernel
theorem dL_law_32 : decode cL_law 32 = .ok (.aload_n 0, 1) := by decide +kernel
theorem dL_law_33 : decode cL_law 33 = .ok (.iload 4, 2) := by decide +kernel
theorem dL_law_35 : decode cL_law 35 = .ok (.iaload, 1) := by decide +kernel
theorem dL_law_36 : decode cL_law 36 = .ok (.bipush 31, 2) := by decide +kernel
theorem dL_law_38 : decode cL_law 38 = .ok (.iand, 1) := by decide +kernel
theorem dL_law_39 : decode cL_law 39 = .ok (.tableswitch 1720 0 29 #[133, 221, 265, 278, 334, 402, 470, 538, 625, 681, 694, 757, 813, 876, 889, 902, 958, 1026, 1110, 1166, 1229, 1297, 1365, 1421, 1484, 1497, 1538, 1594, 1650, 1706], 133) := by decide +kernel
theorem dL_law_172 : decode cL_law 172 = .ok (.aload_n 1, 1) := by decide +kernel
theorem dL_law_173 : decode cL_law 173 = .ok (.aload_n 0, 1) := by decide +kernel
theorem dL_law_174 : decode cL_law 174 = .ok (.iload 4, 2) := by decide +kernel
theorem dL_law_176 : decode cL_law 176 = .ok (.iconst 1, 1) := by decide +kernel
theorem dL_law_177 : decode cL_law 177 = .ok (.iadd, 1) := by decide +kernel
theorem dL_law_178 : decode cL_law 178 = .ok (.iaload, 1) := by decide +kernel
theorem dL_law_179 : decode cL_law 179 = .ok (.i2l, 1) := by decide +kernel
theorem dL_law_180 : decode cL_law 180 = .ok (.bipush 32, 2) := by decide +kernel
theorem dL_law_182 : decode cL_law 182 = .ok (.lshl, 1) := by decide +kernel
theorem dL_law_183 : decode cL_law 183 = .ok (.aload_n 0, 1) := by decide +kernel
theorem dL_law_184 : decode cL_law 184 = .ok (.iload 4, 2) := by decide +kernel
theorem dL_law_186 : decode cL_law 186 = .ok (.iconst 2, 1) := by decide +kernel
theorem dL_law_187 : decode cL_law 187 = .ok (.iadd, 1) := by decide +kernel
theorem dL_law_188 : decode cL_law 188 = .ok (.iaload, 1) := by decide +kernel
theorem dL_law_189 : decode cL_law 189 = .ok (.i2l, 1) := by decide +kernel
theorem dL_law_190 : decode cL_law 190 = .ok (.ldc2_w 95, 3) := by decide +kernel
theorem dL_law_193 : decode cL_law 193 = .ok (.land, 1) := by decide +kernel
theorem dL_law_194 : decode cL_law 194 = .ok (.lor, 1) := by decide +kernel
theorem dL_law_195 : decode cL_law 195 = .ok (.aload_n 3, 1) := by decide +kernel
theorem dL_law_196 : decode cL_law 196 = .ok (.invokestatic 97, 3) := by decide +kernel
theorem dL_law_199 : decode cL_law 199 = .ok (.istore 5, 2) := by decide +kernel
theorem dL_law_201 : decode cL_law 201 = .ok (.aload_n 2, 1) := by decide +kernel
theorem dL_law_202 : decode cL_law 202 = .ok (.aload_n 0, 1) := by decide +kernel
theorem dL_law_203 : decode cL_law 203 = .ok (.iload 4, 2) := by decide +kernel
theorem dL_law_205 : decode cL_law 205 = .ok (.iconst 1, 1) := by decide +kernel
theorem dL_law_206 : decode cL_law 206 = .ok (.iadd, 1) := by decide +kernel
theorem dL_law_207 : decode cL_law 207 = .ok (.iaload, 1) := by decide +kernel
theorem dL_law_208 : decode cL_law 208 = .ok (.i2l, 1) := by decide +kernel
theorem dL_law_209 : decode cL_law 209 = .ok (.bipush 32, 2) := by decide +kernel
theorem dL_law_211 : decode cL_law 211 = .ok (.lshl, 1) := by decide +kernel
theorem dL_law_212 : decode cL_law 212 = .ok (.aload_n 0, 1) := by decide +kernel
theorem dL_law_213 : decode cL_law 213 = .ok (.iload 4, 2) := by decide +kernel
theorem dL_law_215 : decode cL_law 215 = .ok (.iconst 2, 1) := by decide +kernel
theorem dL_law_216 : decode cL_law 216 = .ok (.iadd, 1) := by decide +kernel
theorem dL_law_217 : decode cL_law 217 = .ok (.iaload, 1) := by decide +kernel
theorem dL_law_218 : decode cL_law 218 = .ok (.i2l, 1) := by decide +kernel
theorem dL_law_219 : decode cL_law 219 = .ok (.ldc2_w 95, 3) := by decide +kernel
theorem dL_law_222 : decode cL_law 222 = .ok (.land, 1) := by decide +kernel
theorem dL_law_223 : decode cL_law 223 = .ok (.lor, 1) := by decide +kernel
theorem dL_law_224 : decode cL_law 224 = .ok (.invokevirtual 102, 3) := by decide +kernel
theorem dL_law_227 : decode cL_law 227 = .ok (.istore 6, 2) := by decide +kernel
theorem dL_law_229 : decode cL_law 229 = .ok (.aload_n 2, 1) := by decide +kernel
theorem dL_law_230 : decode cL_law 230 = .ok (.invokevirtual 103, 3) := by decide +kernel
theorem dL_law_233 : decode cL_law 233 = .ok (.iload 5, 2) := by decide +kernel
theorem dL_law_235 : decode cL_law 235 = .ok (.if_icmp .eq 5, 3) := by decide +kernel
theorem dL_law_238 : decode cL_law 238 = .ok (.iconst 0, 1) := by decide +kernel
theorem dL_law_239 : decode cL_law 239 = .ok (.ireturn, 1) := by decide +kernel
theorem dL_law_240 : decode cL_law 240 = .ok (.iload 5, 2) := by decide +kernel
theorem dL_law_242 : decode cL_law 242 = .ok (.ifCond .ne 15, 3) := by decide +kernel
theorem dL_law_245 : decode cL_law 245 = .ok (.aload_n 3, 1) := by decide +kernel
theorem dL_law_246 : decode cL_law 246 = .ok (.iconst 0, 1) := by decide +kernel
theorem dL_law_247 : decode cL_law 247 = .ok (.laload, 1) := by decide +kernel
theorem dL_law_248 : decode cL_law 248 = .ok (.iload 6, 2) := by decide +kernel
theorem dL_law_250 : decode cL_law 250 = .ok (.i2l, 1) := by decide +kernel
theorem dL_law_251 : decode cL_law 251 = .ok (.lcmp, 1) := by decide +kernel
theorem dL_law_252 : decode cL_law 252 = .ok (.ifCond .eq 5, 3) := by decide +kernel
theorem dL_law_255 : decode cL_law 255 = .ok (.iconst 0, 1) := by decide +kernel
theorem dL_law_256 : decode cL_law 256 = .ok (.ireturn, 1) := by decide +kernel
theorem dL_law_257 : decode cL_law 257 = .ok (.goto 1502, 3) := by decide +kernel
theorem dL_law_260 : decode cL_law 260 = .ok (.aload_n 1, 1) := by decide +kernel
theorem dL_law_261 : decode cL_law 261 = .ok (.aload_n 3, 1) := by decide +kernel
theorem dL_law_262 : decode cL_law 262 = .ok (.invokestatic 106, 3) := by decide +kernel
theorem dL_law_265 : decode cL_law 265 = .ok (.istore 5, 2) := by decide +kernel
theorem dL_law_267 : decode cL_law 267 = .ok (.aload_n 2, 1) := by decide +kernel
theorem dL_law_268 : decode cL_law 268 = .ok (.invokevirtual 109, 3) := by decide +kernel
theorem dL_law_271 : decode cL_law 271 = .ok (.istore 6, 2) := by decide +kernel
theorem dL_law_273 : decode cL_law 273 = .ok (.aload_n 2, 1) := by decide +kernel
theorem dL_law_274 : decode cL_law 274 = .ok (.invokevirtual 103, 3) := by decide +kernel
theorem dL_law_277 : decode cL_law 277 = .ok (.iload 5, 2) := by decide +kernel
theorem dL_law_279 : decode cL_law 279 = .ok (.if_icmp .eq 5, 3) := by decide +kernel
theorem dL_law_282 : decode cL_law 282 = .ok (.iconst 0, 1) := by decide +kernel
theorem dL_law_283 : decode cL_law 283 = .ok (.ireturn, 1) := by decide +kernel
theorem dL_law_284 : decode cL_law 284 = .ok (.iload 5, 2) := by decide +kernel
theorem dL_law_286 : decode cL_law 286 = .ok (.ifCond .ne 15, 3) := by decide +kernel
theorem dL_law_289 : decode cL_law 289 = .ok (.aload_n 3, 1) := by decide +kernel
theorem dL_law_290 : decode cL_law 290 = .ok (.iconst 0, 1) := by decide +kernel
theorem dL_law_291 : decode cL_law 291 = .ok (.laload, 1) := by decide +kernel
theorem dL_law_292 : decode cL_law 292 = .ok (.iload 6, 2) := by decide +kernel
theorem dL_law_294 : decode cL_law 294 = .ok (.i2l, 1) := by decide +kernel
theorem dL_law_295 : decode cL_law 295 = .ok (.lcmp, 1) := by decide +kernel
theorem dL_law_296 : decode cL_law 296 = .ok (.ifCond .eq 5, 3) := by decide +kernel
theorem dL_law_299 : decode cL_law 299 = .ok (.iconst 0, 1) := by decide +kernel
theorem dL_law_300 : decode cL_law 300 = .ok (.ireturn, 1) := by decide +kernel
theorem dL_law_301 : decode cL_law 301 = .ok (.goto 1458, 3) := by decide +kernel
theorem dL_law_304 : decode cL_law 304 = .ok (.aload_n 1, 1) := by decide +kernel
theorem dL_law_305 : decode cL_law 305 = .ok (.invokevirtual 110, 3) := by decide +kernel
theorem dL_law_308 : decode cL_law 308 = .ok (.aload_n 2, 1) := by decide +kernel
theorem dL_law_309 : decode cL_law 309 = .ok (.invokevirtual 113, 3) := by decide +kernel
theorem dL_law_312 : decode cL_law 312 = .ok (.if_icmp .eq 1447, 3) := by decide +kernel
theorem dL_law_315 : decode cL_law 315 = .ok (.iconst 0, 1) := by decide +kernel
theorem dL_law_316 : decode cL_law 316 = .ok (.ireturn, 1) := by decide +kernel
theorem dL_law_317 : decode cL_law 317 = .ok (.aload_n 1, 1) := by decide +kernel
theorem dL_law_318 : decode cL_law 318 = .ok (.aload_n 0, 1) := by decide +kernel
theorem dL_law_319 : decode cL_law 319 = .ok (.iload 4, 2) := by decide +kernel
theorem dL_law_321 : decode cL_law 321 = .ok (.iconst 1, 1) := by decide +kernel
theorem dL_law_322 : decode cL_law 322 = .ok (.iadd, 1) := by decide +kernel
theorem dL_law_323 : decode cL_law 323 = .ok (.iaload, 1) := by decide +kernel
theorem dL_law_324 : decode cL_law 324 = .ok (.aload_n 3, 1) := by decide +kernel
theorem dL_law_325 : decode cL_law 325 = .ok (.invokestatic 114, 3) := by decide +kernel
theorem dL_law_328 : decode cL_law 328 = .ok (.istore 5, 2) := by decide +kernel
theorem dL_law_330 : decode cL_law 330 = .ok (.aload_n 2, 1) := by decide +kernel
theorem dL_law_331 : decode cL_law 331 = .ok (.aload_n 0, 1) := by decide +kernel
theorem dL_law_332 : decode cL_law 332 = .ok (.iload 4, 2) := by decide +kernel
theorem dL_law_334 : decode cL_law 334 = .ok (.iconst 1, 1) := by decide +kernel
theorem dL_law_335 : decode cL_law 335 = .ok (.iadd, 1) := by decide +kernel
theorem dL_law_336 : decode cL_law 336 = .ok (.iaload, 1) := by decide +kernel
theorem dL_law_337 : decode cL_law 337 = .ok (.invokevirtual 117, 3) := by decide +kernel
theorem dL_law_340 : decode cL_law 340 = .ok (.istore 6, 2) := by decide +kernel
theorem dL_law_342 : decode cL_law 342 = .ok (.aload_n 2, 1) := by decide +kernel
theorem dL_law_343 : decode cL_law 343 = .ok (.invokevirtual 103, 3) := by decide +kernel
theorem dL_law_346 : decode cL_law 346 = .ok (.iload 5, 2) := by decide +kernel
theorem dL_law_348 : decode cL_law 348 = .ok (.if_icmp .eq 5, 3) := by decide +kernel
theorem dL_law_351 : decode cL_law 351 = .ok (.iconst 0, 1) := by decide +kernel
theorem dL_law_352 : decode cL_law 352 = .ok (.ireturn, 1) := by decide +kernel
theorem dL_law_353 : decode cL_law 353 = .ok (.iload 5, 2) := by decide +kernel
theorem dL_law_355 : decode cL_law 355 = .ok (.ifCond .ne 15, 3) := by decide +kernel
theorem dL_law_358 : decode cL_law 358 = .ok (.aload_n 3, 1) := by decide +kernel
theorem dL_law_359 : decode cL_law 359 = .ok (.iconst 0, 1) := by decide +kernel
theorem dL_law_360 : decode cL_law 360 = .ok (.laload, 1) := by decide +kernel
theorem dL_law_361 : decode cL_law 361 = .ok (.iload 6, 2) := by decide +kernel
theorem dL_law_363 : decode cL_law 363 = .ok (.i2l, 1) := by decide +kernel
theorem dL_law_364 : decode cL_law 364 = .ok (.lcmp, 1) := by decide +kernel
theorem dL_law_365 : decode cL_law 365 = .ok (.ifCond .eq 5, 3) := by decide +kernel
theorem dL_law_368 : decode cL_law 368 = .ok (.iconst 0, 1) := by decide +kernel
theorem dL_law_369 : decode cL_law 369 = .ok (.ireturn, 1) := by decide +kernel
theorem dL_law_370 : decode cL_law 370 = .ok (.goto 1389, 3) := by decide +kernel
theorem dL_law_373 : decode cL_law 373 = .ok (.aload_n 1, 1) := by decide +kernel
theorem dL_law_374 : decode cL_law 374 = .ok (.aload_n 0, 1) := by decide +kernel
theorem dL_law_375 : decode cL_law 375 = .ok (.iload 4, 2) := by decide +kernel
theorem dL_law_377 : decode cL_law 377 = .ok (.iconst 1, 1) := by decide +kernel
theorem dL_law_378 : decode cL_law 378 = .ok (.iadd, 1) := by decide +kernel
theorem dL_law_379 : decode cL_law 379 = .ok (.iaload, 1) := by decide +kernel
theorem dL_law_380 : decode cL_law 380 = .ok (.aload_n 0, 1) := by decide +kernel
theorem dL_law_381 : decode cL_law 381 = .ok (.iload 4, 2) := by decide +kernel
theorem dL_law_383 : decode cL_law 383 = .ok (.iconst 2, 1) := by decide +kernel
theorem dL_law_384 : decode cL_law 384 = .ok (.iadd, 1) := by decide +kernel
theorem dL_law_385 : decode cL_law 385 = .ok (.iaload, 1) := by decide +kernel
theorem dL_law_386 : decode cL_law 386 = .ok (.aload_n 3, 1) := by decide +kernel
theorem dL_law_387 : decode cL_law 387 = .ok (.invokestatic 118, 3) := by decide +kernel
theorem dL_law_390 : decode cL_law 390 = .ok (.istore 5, 2) := by decide +kernel
theorem dL_law_392 : decode cL_law 392 = .ok (.aload_n 2, 1) := by decide +kernel
theorem dL_law_393 : decode cL_law 393 = .ok (.aload_n 0, 1) := by decide +kernel
theorem dL_law_394 : decode cL_law 394 = .ok (.iload 4, 2) := by decide +kernel
theorem dL_law_396 : decode cL_law 396 = .ok (.iconst 1, 1) := by decide +kernel
theorem dL_law_397 : decode cL_law 397 = .ok (.iadd, 1) := by decide +kernel
theorem dL_law_398 : decode cL_law 398 = .ok (.iaload, 1) := by decide +kernel
theorem dL_law_399 : decode cL_law 399 = .ok (.aload_n 0, 1) := by decide +kernel
theorem dL_law_400 : decode cL_law 400 = .ok (.iload 4, 2) := by decide +kernel
theorem dL_law_402 : decode cL_law 402 = .ok (.iconst 2, 1) := by decide +kernel
theorem dL_law_403 : decode cL_law 403 = .ok (.iadd, 1) := by decide +kernel
theorem dL_law_404 : decode cL_law 404 = .ok (.iaload, 1) := by decide +kernel
theorem dL_law_405 : decode cL_law 405 = .ok (.invokevirtual 121, 3) := by decide +kernel
theorem dL_law_408 : decode cL_law 408 = .ok (.istore 6, 2) := by decide +kernel
theorem dL_law_410 : decode cL_law 410 = .ok (.aload_n 2, 1) := by decide +kernel
theorem dL_law_411 : decode cL_law 411 = .ok (.invokevirtual 103, 3) := by decide +kernel
theorem dL_law_414 : decode cL_law 414 = .ok (.iload 5, 2) := by decide +kernel
theorem dL_law_416 : decode cL_law 416 = .ok (.if_icmp .eq 5, 3) := by decide +kernel
theorem dL_law_419 : decode cL_law 419 = .ok (.iconst 0, 1) := by decide +kernel
theorem dL_law_420 : decode cL_law 420 = .ok (.ireturn, 1) := by decide +kernel
theorem dL_law_421 : decode cL_law 421 = .ok (.iload 5, 2) := by decide +kernel
theorem dL_law_423 : decode cL_law 423 = .ok (.ifCond .ne 15, 3) := by decide +kernel
theorem dL_law_426 : decode cL_law 426 = .ok (.aload_n 3, 1) := by decide +kernel
theorem dL_law_427 : decode cL_law 427 = .ok (.iconst 0, 1) := by decide +kernel
theorem dL_law_428 : decode cL_law 428 = .ok (.laload, 1) := by decide +kernel
theorem dL_law_429 : decode cL_law 429 = .ok (.iload 6, 2) := by decide +kernel
theorem dL_law_431 : decode cL_law 431 = .ok (.i2l, 1) := by decide +kernel
theorem dL_law_432 : decode cL_law 432 = .ok (.lcmp, 1) := by decide +kernel
theorem dL_law_433 : decode cL_law 433 = .ok (.ifCond .eq 5, 3) := by decide +kernel
theorem dL_law_436 : decode cL_law 436 = .ok (.iconst 0, 1) := by decide +kernel
theorem dL_law_437 : decode cL_law 437 = .ok (.ireturn, 1) := by decide +kernel
theorem dL_law_438 : decode cL_law 438 = .ok (.goto 1321, 3) := by decide +kernel
theorem dL_law_441 : decode cL_law 441 = .ok (.aload_n 1, 1) := by decide +kernel
theorem dL_law_442 : decode cL_law 442 = .ok (.aload_n 0, 1) := by decide +kernel
theorem dL_law_443 : decode cL_law 443 = .ok (.iload 4, 2) := by decide +kernel
theorem dL_law_445 : decode cL_law 445 = .ok (.iconst 1, 1) := by decide +kernel
theorem dL_law_446 : decode cL_law 446 = .ok (.iadd, 1) := by decide +kernel
theorem dL_law_447 : decode cL_law 447 = .ok (.iaload, 1) := by decide +kernel
theorem dL_law_448 : decode cL_law 448 = .ok (.aload_n 0, 1) := by decide +kernel
theorem dL_law_449 : decode cL_law 449 = .ok (.iload 4, 2) := by decide +kernel
theorem dL_law_451 : decode cL_law 451 = .ok (.iconst 2, 1) := by decide +kernel
theorem dL_law_452 : decode cL_law 452 = .ok (.iadd, 1) := by decide +kernel
theorem dL_law_453 : decode cL_law 453 = .ok (.iaload, 1) := by decide +kernel
theorem dL_law_454 : decode cL_law 454 = .ok (.aload_n 3, 1) := by decide +kernel
theorem dL_law_455 : decode cL_law 455 = .ok (.invokestatic 122, 3) := by decide +kernel
theorem dL_law_458 : decode cL_law 458 = .ok (.istore 5, 2) := by decide +kernel
theorem dL_law_460 : decode cL_law 460 = .ok (.aload_n 2, 1) := by decide +kernel
theorem dL_law_461 : decode cL_law 461 = .ok (.aload_n 0, 1) := by decide +kernel
theorem dL_law_462 : decode cL_law 462 = .ok (.iload 4, 2) := by decide +kernel
theorem dL_law_464 : decode cL_law 464 = .ok (.iconst 1, 1) := by decide +kernel
theorem dL_law_465 : decode cL_law 465 = .ok (.iadd, 1) := by decide +kernel
theorem dL_law_466 : decode cL_law 466 = .ok (.iaload, 1) := by decide +kernel
theorem dL_law_467 : decode cL_law 467 = .ok (.aload_n 0, 1) := by decide +kernel
theorem dL_law_468 : decode cL_law 468 = .ok (.iload 4, 2) := by decide +kernel
theorem dL_law_470 : decode cL_law 470 = .ok (.iconst 2, 1) := by decide +kernel
theorem dL_law_471 : decode cL_law 471 = .ok (.iadd, 1) := by decide +kernel
theorem dL_law_472 : decode cL_law 472 = .ok (.iaload, 1) := by decide +kernel
theorem dL_law_473 : decode cL_law 473 = .ok (.invokevirtual 124, 3) := by decide +kernel
theorem dL_law_476 : decode cL_law 476 = .ok (.istore 6, 2) := by decide +kernel
theorem dL_law_478 : decode cL_law 478 = .ok (.aload_n 2, 1) := by decide +kernel
theorem dL_law_479 : decode cL_law 479 = .ok (.invokevirtual 103, 3) := by decide +kernel
theorem dL_law_482 : decode cL_law 482 = .ok (.iload 5, 2) := by decide +kernel
theorem dL_law_484 : decode cL_law 484 = .ok (.if_icmp .eq 5, 3) := by decide +kernel
theorem dL_law_487 : decode cL_law 487 = .ok (.iconst 0, 1) := by decide +kernel
theorem dL_law_488 : decode cL_law 488 = .ok (.ireturn, 1) := by decide +kernel
theorem dL_law_489 : decode cL_law 489 = .ok (.iload 5, 2) := by decide +kernel
theorem dL_law_491 : decode cL_law 491 = .ok (.ifCond .ne 15, 3) := by decide +kernel
theorem dL_law_494 : decode cL_law 494 = .ok (.aload_n 3, 1) := by decide +kernel
theorem dL_law_495 : decode cL_law 495 = .ok (.iconst 0, 1) := by decide +kernel
theorem dL_law_496 : decode cL_law 496 = .ok (.laload, 1) := by decide +kernel
theorem dL_law_497 : decode cL_law 497 = .ok (.iload 6, 2) := by decide +kernel
theorem dL_law_499 : decode cL_law 499 = .ok (.i2l, 1) := by decide +kernel
theorem dL_law_500 : decode cL_law 500 = .ok (.lcmp, 1) := by decide +kernel
theorem dL_law_501 : decode cL_law 501 = .ok (.ifCond .eq 5, 3) := by decide +kernel
theorem dL_law_504 : decode cL_law 504 = .ok (.iconst 0, 1) := by decide +kernel
theorem dL_law_505 : decode cL_law 505 = .ok (.ireturn, 1) := by decide +kernel
theorem dL_law_506 : decode cL_law 506 = .ok (.goto 1253, 3) := by decide +kernel
theorem dL_law_509 : decode cL_law 509 = .ok (.aload_n 1, 1) := by decide +kernel
theorem dL_law_510 : decode cL_law 510 = .ok (.aload_n 0, 1) := by decide +kernel
theorem dL_law_511 : decode cL_law 511 = .ok (.iload 4, 2) := by decide +kernel
theorem dL_law_513 : decode cL_law 513 = .ok (.iconst 1, 1) := by decide +kernel
theorem dL_law_514 : decode cL_law 514 = .ok (.iadd, 1) := by decide +kernel
theorem dL_law_515 : decode cL_law 515 = .ok (.iaload, 1) := by decide +kernel
theorem dL_law_516 : decode cL_law 516 = .ok (.aload_n 0, 1) := by decide +kernel
theorem dL_law_517 : decode cL_law 517 = .ok (.iload 4, 2) := by decide +kernel
theorem dL_law_519 : decode cL_law 519 = .ok (.iconst 2, 1) := by decide +kernel
theorem dL_law_520 : decode cL_law 520 = .ok (.iadd, 1) := by decide +kernel
theorem dL_law_521 : decode cL_law 521 = .ok (.iaload, 1) := by decide +kernel
theorem dL_law_522 : decode cL_law 522 = .ok (.aload_n 3, 1) := by decide +kernel
theorem dL_law_523 : decode cL_law 523 = .ok (.invokestatic 125, 3) := by decide +kernel
theorem dL_law_526 : decode cL_law 526 = .ok (.istore 5, 2) := by decide +kernel
theorem dL_law_528 : decode cL_law 528 = .ok (.aload_n 2, 1) := by decide +kernel
theorem dL_law_529 : decode cL_law 529 = .ok (.aload_n 0, 1) := by decide +kernel
theorem dL_law_530 : decode cL_law 530 = .ok (.iload 4, 2) := by decide +kernel
theorem dL_law_532 : decode cL_law 532 = .ok (.iconst 1, 1) := by decide +kernel
theorem dL_law_533 : decode cL_law 533 = .ok (.iadd, 1) := by decide +kernel
theorem dL_law_534 : decode cL_law 534 = .ok (.iaload, 1) := by decide +kernel
theorem dL_law_535 : decode cL_law 535 = .ok (.aload_n 0, 1) := by decide +kernel
theorem dL_law_536 : decode cL_law 536 = .ok (.iload 4, 2) := by decide +kernel
theorem dL_law_538 : decode cL_law 538 = .ok (.iconst 2, 1) := by decide +kernel
theorem dL_law_539 : decode cL_law 539 = .ok (.iadd, 1) := by decide +kernel
theorem dL_law_540 : decode cL_law 540 = .ok (.iaload, 1) := by decide +kernel
theorem dL_law_541 : decode cL_law 541 = .ok (.invokevirtual 127, 3) := by decide +kernel
theorem dL_law_544 : decode cL_law 544 = .ok (.istore 6, 2) := by decide +kernel
theorem dL_law_546 : decode cL_law 546 = .ok (.aload_n 2, 1) := by decide +kernel
theorem dL_law_547 : decode cL_law 547 = .ok (.invokevirtual 103, 3) := by decide +kernel
theorem dL_law_550 : decode cL_law 550 = .ok (.iload 5, 2) := by decide +kernel
theorem dL_law_552 : decode cL_law 552 = .ok (.if_icmp .eq 5, 3) := by decide +kernel
theorem dL_law_555 : decode cL_law 555 = .ok (.iconst 0, 1) := by decide +kernel
theorem dL_law_556 : decode cL_law 556 = .ok (.ireturn, 1) := by decide +kernel
theorem dL_law_557 : decode cL_law 557 = .ok (.iload 5, 2) := by decide +kernel
theorem dL_law_559 : decode cL_law 559 = .ok (.ifCond .ne 15, 3) := by decide +kernel
theorem dL_law_562 : decode cL_law 562 = .ok (.aload_n 3, 1) := by decide +kernel
theorem dL_law_563 : decode cL_law 563 = .ok (.iconst 0, 1) := by decide +kernel
theorem dL_law_564 : decode cL_law 564 = .ok (.laload, 1) := by decide +kernel
theorem dL_law_565 : decode cL_law 565 = .ok (.iload 6, 2) := by decide +kernel
theorem dL_law_567 : decode cL_law 567 = .ok (.i2l, 1) := by decide +kernel
theorem dL_law_568 : decode cL_law 568 = .ok (.lcmp, 1) := by decide +kernel
theorem dL_law_569 : decode cL_law 569 = .ok (.ifCond .eq 5, 3) := by decide +kernel
theorem dL_law_572 : decode cL_law 572 = .ok (.iconst 0, 1) := by decide +kernel
theorem dL_law_573 : decode cL_law 573 = .ok (.ireturn, 1) := by decide +kernel
theorem dL_law_574 : decode cL_law 574 = .ok (.goto 1185, 3) := by decide +kernel
theorem dL_law_577 : decode cL_law 577 = .ok (.aload_n 1, 1) := by decide +kernel
theorem dL_law_578 : decode cL_law 578 = .ok (.aload_n 0, 1) := by decide +kernel
theorem dL_law_579 : decode cL_law 579 = .ok (.iload 4, 2) := by decide +kernel
theorem dL_law_581 : decode cL_law 581 = .ok (.iconst 1, 1) := by decide +kernel
theorem dL_law_582 : decode cL_law 582 = .ok (.iadd, 1) := by decide +kernel
theorem dL_law_583 : decode cL_law 583 = .ok (.iaload, 1) := by decide +kernel
theorem dL_law_584 : decode cL_law 584 = .ok (.aload_n 0, 1) := by decide +kernel
theorem dL_law_585 : decode cL_law 585 = .ok (.iload 4, 2) := by decide +kernel
theorem dL_law_587 : decode cL_law 587 = .ok (.iconst 2, 1) := by decide +kernel
theorem dL_law_588 : decode cL_law 588 = .ok (.iadd, 1) := by decide +kernel
theorem dL_law_589 : decode cL_law 589 = .ok (.iaload, 1) := by decide +kernel
theorem dL_law_590 : decode cL_law 590 = .ok (.aload_n 0, 1) := by decide +kernel
theorem dL_law_591 : decode cL_law 591 = .ok (.iload 4, 2) := by decide +kernel
theorem dL_law_593 : decode cL_law 593 = .ok (.iconst 3, 1) := by decide +kernel
theorem dL_law_594 : decode cL_law 594 = .ok (.iadd, 1) := by decide +kernel
theorem dL_law_595 : decode cL_law 595 = .ok (.iaload, 1) := by decide +kernel
theorem dL_law_596 : decode cL_law 596 = .ok (.aload_n 3, 1) := by decide +kernel
theorem dL_law_597 : decode cL_law 597 = .ok (.invokestatic 128, 3) := by decide +kernel
theorem dL_law_600 : decode cL_law 600 = .ok (.istore 5, 2) := by decide +kernel
theorem dL_law_602 : decode cL_law 602 = .ok (.aload_n 2, 1) := by decide +kernel
theorem dL_law_603 : decode cL_law 603 = .ok (.aload_n 0, 1) := by decide +kernel
theorem dL_law_604 : decode cL_law 604 = .ok (.iload 4, 2) := by decide +kernel
theorem dL_law_606 : decode cL_law 606 = .ok (.iconst 1, 1) := by decide +kernel
theorem dL_law_607 : decode cL_law 607 = .ok (.iadd, 1) := by decide +kernel
theorem dL_law_608 : decode cL_law 608 = .ok (.iaload, 1) := by decide +kernel
theorem dL_law_609 : decode cL_law 609 = .ok (.aload_n 0, 1) := by decide +kernel
theorem dL_law_610 : decode cL_law 610 = .ok (.iload 4, 2) := by decide +kernel
theorem dL_law_612 : decode cL_law 612 = .ok (.iconst 2, 1) := by decide +kernel
theorem dL_law_613 : decode cL_law 613 = .ok (.iadd, 1) := by decide +kernel
theorem dL_law_614 : decode cL_law 614 = .ok (.iaload, 1) := by decide +kernel
theorem dL_law_615 : decode cL_law 615 = .ok (.aload_n 0, 1) := by decide +kernel
theorem dL_law_616 : decode cL_law 616 = .ok (.iload 4, 2) := by decide +kernel
theorem dL_law_618 : decode cL_law 618 = .ok (.iconst 3, 1) := by decide +kernel
theorem dL_law_619 : decode cL_law 619 = .ok (.iadd, 1) := by decide +kernel
theorem dL_law_620 : decode cL_law 620 = .ok (.iaload, 1) := by decide +kernel
theorem dL_law_621 : decode cL_law 621 = .ok (.invokevirtual 131, 3) := by decide +kernel
theorem dL_law_624 : decode cL_law 624 = .ok (.istore 6, 2) := by decide +kernel
theorem dL_law_626 : decode cL_law 626 = .ok (.aload_n 2, 1) := by decide +kernel
theorem dL_law_627 : decode cL_law 627 = .ok (.invokevirtual 103, 3) := by decide +kernel
theorem dL_law_630 : decode cL_law 630 = .ok (.iload 5, 2) := by decide +kernel
theorem dL_law_632 : decode cL_law 632 = .ok (.if_icmp .eq 5, 3) := by decide +kernel
theorem dL_law_635 : decode cL_law 635 = .ok (.iconst 0, 1) := by decide +kernel
theorem dL_law_636 : decode cL_law 636 = .ok (.ireturn, 1) := by decide +kernel
theorem dL_law_637 : decode cL_law 637 = .ok (.iload 5, 2) := by decide +kernel
theorem dL_law_639 : decode cL_law 639 = .ok (.ifCond .ne 22, 3) := by decide +kernel
theorem dL_law_642 : decode cL_law 642 = .ok (.aload_n 3, 1) := by decide +kernel
theorem dL_law_643 : decode cL_law 643 = .ok (.iconst 0, 1) := by decide +kernel
theorem dL_law_644 : decode cL_law 644 = .ok (.laload, 1) := by decide +kernel
theorem dL_law_645 : decode cL_law 645 = .ok (.iload 6, 2) := by decide +kernel
theorem dL_law_647 : decode cL_law 647 = .ok (.ifCond .eq 7, 3) := by decide +kernel
theorem dL_law_650 : decode cL_law 650 = .ok (.lconst 1, 1) := by decide +kernel
theorem dL_law_651 : decode cL_law 651 = .ok (.goto 4, 3) := by decide +kernel
theorem dL_law_654 : decode cL_law 654 = .ok (.lconst 0, 1) := by decide +kernel
theorem dL_law_655 : decode cL_law 655 = .ok (.lcmp, 1) := by decide +kernel
theorem dL_law_656 : decode cL_law 656 = .ok (.ifCond .eq 5, 3) := by decide +kernel
theorem dL_law_659 : decode cL_law 659 = .ok (.iconst 0, 1) := by decide +kernel
theorem dL_law_660 : decode cL_law 660 = .ok (.ireturn, 1) := by decide +kernel
theorem dL_law_661 : decode cL_law 661 = .ok (.goto 1098, 3) := by decide +kernel
theorem dL_law_664 : decode cL_law 664 = .ok (.aload_n 1, 1) := by decide +kernel
theorem dL_law_665 : decode cL_law 665 = .ok (.aload_n 0, 1) := by decide +kernel
theorem dL_law_666 : decode cL_law 666 = .ok (.iload 4, 2) := by decide +kernel
theorem dL_law_668 : decode cL_law 668 = .ok (.iconst 1, 1) := by decide +kernel
theorem dL_law_669 : decode cL_law 669 = .ok (.iadd, 1) := by decide +kernel
theorem dL_law_670 : decode cL_law 670 = .ok (.iaload, 1) := by decide +kernel
theorem dL_law_671 : decode cL_law 671 = .ok (.aload_n 3, 1) := by decide +kernel
theorem dL_law_672 : decode cL_law 672 = .ok (.invokestatic 132, 3) := by decide +kernel
theorem dL_law_675 : decode cL_law 675 = .ok (.istore 5, 2) := by decide +kernel
theorem dL_law_677 : decode cL_law 677 = .ok (.aload_n 2, 1) := by decide +kernel
theorem dL_law_678 : decode cL_law 678 = .ok (.aload_n 0, 1) := by decide +kernel
theorem dL_law_679 : decode cL_law 679 = .ok (.iload 4, 2) := by decide +kernel
theorem dL_law_681 : decode cL_law 681 = .ok (.iconst 1, 1) := by decide +kernel
theorem dL_law_682 : decode cL_law 682 = .ok (.iadd, 1) := by decide +kernel
theorem dL_law_683 : decode cL_law 683 = .ok (.iaload, 1) := by decide +kernel
theorem dL_law_684 : decode cL_law 684 = .ok (.invokevirtual 134, 3) := by decide +kernel
theorem dL_law_687 : decode cL_law 687 = .ok (.istore 6, 2) := by decide +kernel
theorem dL_law_689 : decode cL_law 689 = .ok (.aload_n 2, 1) := by decide +kernel
theorem dL_law_690 : decode cL_law 690 = .ok (.invokevirtual 103, 3) := by decide +kernel
theorem dL_law_693 : decode cL_law 693 = .ok (.iload 5, 2) := by decide +kernel
theorem dL_law_695 : decode cL_law 695 = .ok (.if_icmp .eq 5, 3) := by decide +kernel
theorem dL_law_698 : decode cL_law 698 = .ok (.iconst 0, 1) := by decide +kernel
theorem dL_law_699 : decode cL_law 699 = .ok (.ireturn, 1) := by decide +kernel
theorem dL_law_700 : decode cL_law 700 = .ok (.iload 5, 2) := by decide +kernel
theorem dL_law_702 : decode cL_law 702 = .ok (.ifCond .ne 15, 3) := by decide +kernel
theorem dL_law_705 : decode cL_law 705 = .ok (.aload_n 3, 1) := by decide +kernel
theorem dL_law_706 : decode cL_law 706 = .ok (.iconst 0, 1) := by decide +kernel
theorem dL_law_707 : decode cL_law 707 = .ok (.laload, 1) := by decide +kernel
theorem dL_law_708 : decode cL_law 708 = .ok (.iload 6, 2) := by decide +kernel
theorem dL_law_710 : decode cL_law 710 = .ok (.i2l, 1) := by decide +kernel
theorem dL_law_711 : decode cL_law 711 = .ok (.lcmp, 1) := by decide +kernel
theorem dL_law_712 : decode cL_law 712 = .ok (.ifCond .eq 5, 3) := by decide +kernel
theorem dL_law_715 : decode cL_law 715 = .ok (.iconst 0, 1) := by decide +kernel
theorem dL_law_716 : decode cL_law 716 = .ok (.ireturn, 1) := by decide +kernel
theorem dL_law_717 : decode cL_law 717 = .ok (.goto 1042, 3) := by decide +kernel
theorem dL_law_720 : decode cL_law 720 = .ok (.aload_n 1, 1) := by decide +kernel
theorem dL_law_721 : decode cL_law 721 = .ok (.invokevirtual 135, 3) := by decide +kernel
theorem dL_law_724 : decode cL_law 724 = .ok (.aload_n 2, 1) := by decide +kernel
theorem dL_law_725 : decode cL_law 725 = .ok (.invokevirtual 138, 3) := by decide +kernel
theorem dL_law_728 : decode cL_law 728 = .ok (.if_icmp .eq 1031, 3) := by decide +kernel
theorem dL_law_731 : decode cL_law 731 = .ok (.iconst 0, 1) := by decide +kernel
theorem dL_law_732 : decode cL_law 732 = .ok (.ireturn, 1) := by decide +kernel
theorem dL_law_733 : decode cL_law 733 = .ok (.aload_n 1, 1) := by decide +kernel
theorem dL_law_734 : decode cL_law 734 = .ok (.aload_n 0, 1) := by decide +kernel
theorem dL_law_735 : decode cL_law 735 = .ok (.iload 4, 2) := by decide +kernel
theorem dL_law_737 : decode cL_law 737 = .ok (.iconst 1, 1) := by decide +kernel
theorem dL_law_738 : decode cL_law 738 = .ok (.iadd, 1) := by decide +kernel
theorem dL_law_739 : decode cL_law 739 = .ok (.iaload, 1) := by decide +kernel
theorem dL_law_740 : decode cL_law 740 = .ok (.aload_n 3, 1) := by decide +kernel
theorem dL_law_741 : decode cL_law 741 = .ok (.invokestatic 139, 3) := by decide +kernel
theorem dL_law_744 : decode cL_law 744 = .ok (.istore 5, 2) := by decide +kernel
theorem dL_law_746 : decode cL_law 746 = .ok (.aload_n 2, 1) := by decide +kernel
theorem dL_law_747 : decode cL_law 747 = .ok (.aload_n 0, 1) := by decide +kernel
theorem dL_law_748 : decode cL_law 748 = .ok (.iload 4, 2) := by decide +kernel
theorem dL_law_750 : decode cL_law 750 = .ok (.iconst 1, 1) := by decide +kernel
theorem dL_law_751 : decode cL_law 751 = .ok (.iadd, 1) := by decide +kernel
theorem dL_law_752 : decode cL_law 752 = .ok (.iaload, 1) := by decide +kernel
theorem dL_law_753 : decode cL_law 753 = .ok (.invokevirtual 141, 3) := by decide +kernel
theorem dL_law_756 : decode cL_law 756 = .ok (.istore 6, 2) := by decide +kernel
theorem dL_law_758 : decode cL_law 758 = .ok (.aload_n 2, 1) := by decide +kernel
theorem dL_law_759 : decode cL_law 759 = .ok (.invokevirtual 103, 3) := by decide +kernel
theorem dL_law_762 : decode cL_law 762 = .ok (.iload 5, 2) := by decide +kernel
theorem dL_law_764 : decode cL_law 764 = .ok (.if_icmp .eq 5, 3) := by decide +kernel
theorem dL_law_767 : decode cL_law 767 = .ok (.iconst 0, 1) := by decide +kernel
theorem dL_law_768 : decode cL_law 768 = .ok (.ireturn, 1) := by decide +kernel
theorem dL_law_769 : decode cL_law 769 = .ok (.iload 5, 2) := by decide +kernel
theorem dL_law_771 : decode cL_law 771 = .ok (.ifCond .ne 22, 3) := by decide +kernel
theorem dL_law_774 : decode cL_law 774 = .ok (.aload_n 3, 1) := by decide +kernel
theorem dL_law_775 : decode cL_law 775 = .ok (.iconst 0, 1) := by decide +kernel
theorem dL_law_776 : decode cL_law 776 = .ok (.laload, 1) := by decide +kernel
theorem dL_law_777 : decode cL_law 777 = .ok (.iload 6, 2) := by decide +kernel
theorem dL_law_779 : decode cL_law 779 = .ok (.ifCond .eq 7, 3) := by decide +kernel
theorem dL_law_782 : decode cL_law 782 = .ok (.lconst 1, 1) := by decide +kernel
theorem dL_law_783 : decode cL_law 783 = .ok (.goto 4, 3) := by decide +kernel
theorem dL_law_786 : decode cL_law 786 = .ok (.lconst 0, 1) := by decide +kernel
theorem dL_law_787 : decode cL_law 787 = .ok (.lcmp, 1) := by decide +kernel
theorem dL_law_788 : decode cL_law 788 = .ok (.ifCond .eq 5, 3) := by decide +kernel
theorem dL_law_791 : decode cL_law 791 = .ok (.iconst 0, 1) := by decide +kernel
theorem dL_law_792 : decode cL_law 792 = .ok (.ireturn, 1) := by decide +kernel
theorem dL_law_793 : decode cL_law 793 = .ok (.goto 966, 3) := by decide +kernel
theorem dL_law_796 : decode cL_law 796 = .ok (.aload_n 1, 1) := by decide +kernel
theorem dL_law_797 : decode cL_law 797 = .ok (.aload_n 0, 1) := by decide +kernel
theorem dL_law_798 : decode cL_law 798 = .ok (.iload 4, 2) := by decide +kernel
theorem dL_law_800 : decode cL_law 800 = .ok (.iconst 1, 1) := by decide +kernel
theorem dL_law_801 : decode cL_law 801 = .ok (.iadd, 1) := by decide +kernel
theorem dL_law_802 : decode cL_law 802 = .ok (.iaload, 1) := by decide +kernel
theorem dL_law_803 : decode cL_law 803 = .ok (.aload_n 3, 1) := by decide +kernel
theorem dL_law_804 : decode cL_law 804 = .ok (.invokestatic 142, 3) := by decide +kernel
theorem dL_law_807 : decode cL_law 807 = .ok (.istore 5, 2) := by decide +kernel
theorem dL_law_809 : decode cL_law 809 = .ok (.aload_n 2, 1) := by decide +kernel
theorem dL_law_810 : decode cL_law 810 = .ok (.aload_n 0, 1) := by decide +kernel
theorem dL_law_811 : decode cL_law 811 = .ok (.iload 4, 2) := by decide +kernel
theorem dL_law_813 : decode cL_law 813 = .ok (.iconst 1, 1) := by decide +kernel
theorem dL_law_814 : decode cL_law 814 = .ok (.iadd, 1) := by decide +kernel
theorem dL_law_815 : decode cL_law 815 = .ok (.iaload, 1) := by decide +kernel
theorem dL_law_816 : decode cL_law 816 = .ok (.invokevirtual 144, 3) := by decide +kernel
theorem dL_law_819 : decode cL_law 819 = .ok (.istore 6, 2) := by decide +kernel
theorem dL_law_821 : decode cL_law 821 = .ok (.aload_n 2, 1) := by decide +kernel
theorem dL_law_822 : decode cL_law 822 = .ok (.invokevirtual 103, 3) := by decide +kernel
theorem dL_law_825 : decode cL_law 825 = .ok (.iload 5, 2) := by decide +kernel
theorem dL_law_827 : decode cL_law 827 = .ok (.if_icmp .eq 5, 3) := by decide +kernel
theorem dL_law_830 : decode cL_law 830 = .ok (.iconst 0, 1) := by decide +kernel
theorem dL_law_831 : decode cL_law 831 = .ok (.ireturn, 1) := by decide +kernel
theorem dL_law_832 : decode cL_law 832 = .ok (.iload 5, 2) := by decide +kernel
theorem dL_law_834 : decode cL_law 834 = .ok (.ifCond .ne 15, 3) := by decide +kernel
theorem dL_law_837 : decode cL_law 837 = .ok (.aload_n 3, 1) := by decide +kernel
theorem dL_law_838 : decode cL_law 838 = .ok (.iconst 0, 1) := by decide +kernel
theorem dL_law_839 : decode cL_law 839 = .ok (.laload, 1) := by decide +kernel
theorem dL_law_840 : decode cL_law 840 = .ok (.iload 6, 2) := by decide +kernel
theorem dL_law_842 : decode cL_law 842 = .ok (.i2l, 1) := by decide +kernel
theorem dL_law_843 : decode cL_law 843 = .ok (.lcmp, 1) := by decide +kernel
theorem dL_law_844 : decode cL_law 844 = .ok (.ifCond .eq 5, 3) := by decide +kernel
theorem dL_law_847 : decode cL_law 847 = .ok (.iconst 0, 1) := by decide +kernel
theorem dL_law_848 : decode cL_law 848 = .ok (.ireturn, 1) := by decide +kernel
theorem dL_law_849 : decode cL_law 849 = .ok (.goto 910, 3) := by decide +kernel
theorem dL_law_852 : decode cL_law 852 = .ok (.aload_n 1, 1) := by decide +kernel
theorem dL_law_853 : decode cL_law 853 = .ok (.aload_n 0, 1) := by decide +kernel
theorem dL_law_854 : decode cL_law 854 = .ok (.iload 4, 2) := by decide +kernel
theorem dL_law_856 : decode cL_law 856 = .ok (.iconst 1, 1) := by decide +kernel
theorem dL_law_857 : decode cL_law 857 = .ok (.iadd, 1) := by decide +kernel
theorem dL_law_858 : decode cL_law 858 = .ok (.iaload, 1) := by decide +kernel
theorem dL_law_859 : decode cL_law 859 = .ok (.aload_n 3, 1) := by decide +kernel
theorem dL_law_860 : decode cL_law 860 = .ok (.invokestatic 145, 3) := by decide +kernel
theorem dL_law_863 : decode cL_law 863 = .ok (.istore 5, 2) := by decide +kernel
theorem dL_law_865 : decode cL_law 865 = .ok (.aload_n 2, 1) := by decide +kernel
theorem dL_law_866 : decode cL_law 866 = .ok (.aload_n 0, 1) := by decide +kernel
theorem dL_law_867 : decode cL_law 867 = .ok (.iload 4, 2) := by decide +kernel
theorem dL_law_869 : decode cL_law 869 = .ok (.iconst 1, 1) := by decide +kernel
theorem dL_law_870 : decode cL_law 870 = .ok (.iadd, 1) := by decide +kernel
theorem dL_law_871 : decode cL_law 871 = .ok (.iaload, 1) := by decide +kernel
theorem dL_law_872 : decode cL_law 872 = .ok (.invokevirtual 147, 3) := by decide +kernel
theorem dL_law_875 : decode cL_law 875 = .ok (.istore 6, 2) := by decide +kernel
theorem dL_law_877 : decode cL_law 877 = .ok (.aload_n 2, 1) := by decide +kernel
theorem dL_law_878 : decode cL_law 878 = .ok (.invokevirtual 103, 3) := by decide +kernel
theorem dL_law_881 : decode cL_law 881 = .ok (.iload 5, 2) := by decide +kernel
theorem dL_law_883 : decode cL_law 883 = .ok (.if_icmp .eq 5, 3) := by decide +kernel
theorem dL_law_886 : decode cL_law 886 = .ok (.iconst 0, 1) := by decide +kernel
theorem dL_law_887 : decode cL_law 887 = .ok (.ireturn, 1) := by decide +kernel
theorem dL_law_888 : decode cL_law 888 = .ok (.iload 5, 2) := by decide +kernel
theorem dL_law_890 : decode cL_law 890 = .ok (.ifCond .ne 22, 3) := by decide +kernel
theorem dL_law_893 : decode cL_law 893 = .ok (.aload_n 3, 1) := by decide +kernel
theorem dL_law_894 : decode cL_law 894 = .ok (.iconst 0, 1) := by decide +kernel
theorem dL_law_895 : decode cL_law 895 = .ok (.laload, 1) := by decide +kernel
theorem dL_law_896 : decode cL_law 896 = .ok (.iload 6, 2) := by decide +kernel
theorem dL_law_898 : decode cL_law 898 = .ok (.ifCond .eq 7, 3) := by decide +kernel
theorem dL_law_901 : decode cL_law 901 = .ok (.lconst 1, 1) := by decide +kernel
theorem dL_law_902 : decode cL_law 902 = .ok (.goto 4, 3) := by decide +kernel
theorem dL_law_905 : decode cL_law 905 = .ok (.lconst 0, 1) := by decide +kernel
theorem dL_law_906 : decode cL_law 906 = .ok (.lcmp, 1) := by decide +kernel
theorem dL_law_907 : decode cL_law 907 = .ok (.ifCond .eq 5, 3) := by decide +kernel
theorem dL_law_910 : decode cL_law 910 = .ok (.iconst 0, 1) := by decide +kernel
theorem dL_law_911 : decode cL_law 911 = .ok (.ireturn, 1) := by decide +kernel
theorem dL_law_912 : decode cL_law 912 = .ok (.goto 847, 3) := by decide +kernel
theorem dL_law_915 : decode cL_law 915 = .ok (.aload_n 1, 1) := by decide +kernel
theorem dL_law_916 : decode cL_law 916 = .ok (.invokevirtual 148, 3) := by decide +kernel
theorem dL_law_919 : decode cL_law 919 = .ok (.aload_n 2, 1) := by decide +kernel
theorem dL_law_920 : decode cL_law 920 = .ok (.invokevirtual 151, 3) := by decide +kernel
theorem dL_law_923 : decode cL_law 923 = .ok (.if_icmp .eq 836, 3) := by decide +kernel
theorem dL_law_926 : decode cL_law 926 = .ok (.iconst 0, 1) := by decide +kernel
theorem dL_law_927 : decode cL_law 927 = .ok (.ireturn, 1) := by decide +kernel
theorem dL_law_928 : decode cL_law 928 = .ok (.aload_n 1, 1) := by decide +kernel
theorem dL_law_929 : decode cL_law 929 = .ok (.invokevirtual 152, 3) := by decide +kernel
theorem dL_law_932 : decode cL_law 932 = .ok (.aload_n 2, 1) := by decide +kernel
theorem dL_law_933 : decode cL_law 933 = .ok (.invokevirtual 155, 3) := by decide +kernel
theorem dL_law_936 : decode cL_law 936 = .ok (.if_icmp .eq 823, 3) := by decide +kernel
theorem dL_law_939 : decode cL_law 939 = .ok (.iconst 0, 1) := by decide +kernel
theorem dL_law_940 : decode cL_law 940 = .ok (.ireturn, 1) := by decide +kernel
theorem dL_law_941 : decode cL_law 941 = .ok (.aload_n 1, 1) := by decide +kernel
theorem dL_law_942 : decode cL_law 942 = .ok (.aload_n 0, 1) := by decide +kernel
theorem dL_law_943 : decode cL_law 943 = .ok (.iload 4, 2) := by decide +kernel
theorem dL_law_945 : decode cL_law 945 = .ok (.iconst 1, 1) := by decide +kernel
theorem dL_law_946 : decode cL_law 946 = .ok (.iadd, 1) := by decide +kernel
theorem dL_law_947 : decode cL_law 947 = .ok (.iaload, 1) := by decide +kernel
theorem dL_law_948 : decode cL_law 948 = .ok (.aload_n 3, 1) := by decide +kernel
theorem dL_law_949 : decode cL_law 949 = .ok (.invokestatic 156, 3) := by decide +kernel
theorem dL_law_952 : decode cL_law 952 = .ok (.istore 5, 2) := by decide +kernel
theorem dL_law_954 : decode cL_law 954 = .ok (.aload_n 2, 1) := by decide +kernel
theorem dL_law_955 : decode cL_law 955 = .ok (.aload_n 0, 1) := by decide +kernel
theorem dL_law_956 : decode cL_law 956 = .ok (.iload 4, 2) := by decide +kernel
theorem dL_law_958 : decode cL_law 958 = .ok (.iconst 1, 1) := by decide +kernel
theorem dL_law_959 : decode cL_law 959 = .ok (.iadd, 1) := by decide +kernel
theorem dL_law_960 : decode cL_law 960 = .ok (.iaload, 1) := by decide +kernel
theorem dL_law_961 : decode cL_law 961 = .ok (.invokevirtual 158, 3) := by decide +kernel
theorem dL_law_964 : decode cL_law 964 = .ok (.istore 6, 2) := by decide +kernel
theorem dL_law_966 : decode cL_law 966 = .ok (.aload_n 2, 1) := by decide +kernel
theorem dL_law_967 : decode cL_law 967 = .ok (.invokevirtual 103, 3) := by decide +kernel
theorem dL_law_970 : decode cL_law 970 = .ok (.iload 5, 2) := by decide +kernel
theorem dL_law_972 : decode cL_law 972 = .ok (.if_icmp .eq 5, 3) := by decide +kernel
theorem dL_law_975 : decode cL_law 975 = .ok (.iconst 0, 1) := by decide +kernel
theorem dL_law_976 : decode cL_law 976 = .ok (.ireturn, 1) := by decide +kernel
theorem dL_law_977 : decode cL_law 977 = .ok (.iload 5, 2) := by decide +kernel
theorem dL_law_979 : decode cL_law 979 = .ok (.ifCond .ne 15, 3) := by decide +kernel
theorem dL_law_982 : decode cL_law 982 = .ok (.aload_n 3, 1) := by decide +kernel
theorem dL_law_983 : decode cL_law 983 = .ok (.iconst 0, 1) := by decide +kernel
theorem dL_law_984 : decode cL_law 984 = .ok (.laload, 1) := by decide +kernel
theorem dL_law_985 : decode cL_law 985 = .ok (.iload 6, 2) := by decide +kernel
theorem dL_law_987 : decode cL_law 987 = .ok (.i2l, 1) := by decide +kernel
theorem dL_law_988 : decode cL_law 988 = .ok (.lcmp, 1) := by decide +kernel
theorem dL_law_989 : decode cL_law 989 = .ok (.ifCond .eq 5, 3) := by decide +kernel
theorem dL_law_992 : decode cL_law 992 = .ok (.iconst 0, 1) := by decide +kernel
theorem dL_law_993 : decode cL_law 993 = .ok (.ireturn, 1) := by decide +kernel
theorem dL_law_994 : decode cL_law 994 = .ok (.goto 765, 3) := by decide +kernel
theorem dL_law_997 : decode cL_law 997 = .ok (.aload_n 1, 1) := by decide +kernel
theorem dL_law_998 : decode cL_law 998 = .ok (.aload_n 0, 1) := by decide +kernel
theorem dL_law_999 : decode cL_law 999 = .ok (.iload 4, 2) := by decide +kernel
theorem dL_law_1001 : decode cL_law 1001 = .ok (.iconst 1, 1) := by decide +kernel
theorem dL_law_1002 : decode cL_law 1002 = .ok (.iadd, 1) := by decide +kernel
theorem dL_law_1003 : decode cL_law 1003 = .ok (.iaload, 1) := by decide +kernel
theorem dL_law_1004 : decode cL_law 1004 = .ok (.aload_n 0, 1) := by decide +kernel
theorem dL_law_1005 : decode cL_law 1005 = .ok (.iload 4, 2) := by decide +kernel
theorem dL_law_1007 : decode cL_law 1007 = .ok (.iconst 2, 1) := by decide +kernel
theorem dL_law_1008 : decode cL_law 1008 = .ok (.iadd, 1) := by decide +kernel
theorem dL_law_1009 : decode cL_law 1009 = .ok (.iaload, 1) := by decide +kernel
theorem dL_law_1010 : decode cL_law 1010 = .ok (.aload_n 3, 1) := by decide +kernel
theorem dL_law_1011 : decode cL_law 1011 = .ok (.invokestatic 159, 3) := by decide +kernel
theorem dL_law_1014 : decode cL_law 1014 = .ok (.istore 5, 2) := by decide +kernel
theorem dL_law_1016 : decode cL_law 1016 = .ok (.aload_n 2, 1) := by decide +kernel
theorem dL_law_1017 : decode cL_law 1017 = .ok (.aload_n 0, 1) := by decide +kernel
theorem dL_law_1018 : decode cL_law 1018 = .ok (.iload 4, 2) := by decide +kernel
theorem dL_law_1020 : decode cL_law 1020 = .ok (.iconst 1, 1) := by decide +kernel
theorem dL_law_1021 : decode cL_law 1021 = .ok (.iadd, 1) := by decide +kernel
theorem dL_law_1022 : decode cL_law 1022 = .ok (.iaload, 1) := by decide +kernel
theorem dL_law_1023 : decode cL_law 1023 = .ok (.aload_n 0, 1) := by decide +kernel
theorem dL_law_1024 : decode cL_law 1024 = .ok (.iload 4, 2) := by decide +kernel
theorem dL_law_1026 : decode cL_law 1026 = .ok (.iconst 2, 1) := by decide +kernel
theorem dL_law_1027 : decode cL_law 1027 = .ok (.iadd, 1) := by decide +kernel
theorem dL_law_1028 : decode cL_law 1028 = .ok (.iaload, 1) := by decide +kernel
theorem dL_law_1029 : decode cL_law 1029 = .ok (.invokevirtual 161, 3) := by decide +kernel
theorem dL_law_1032 : decode cL_law 1032 = .ok (.istore 6, 2) := by decide +kernel
theorem dL_law_1034 : decode cL_law 1034 = .ok (.aload_n 2, 1) := by decide +kernel
theorem dL_law_1035 : decode cL_law 1035 = .ok (.invokevirtual 103, 3) := by decide +kernel
theorem dL_law_1038 : decode cL_law 1038 = .ok (.iload 5, 2) := by decide +kernel
theorem dL_law_1040 : decode cL_law 1040 = .ok (.if_icmp .eq 5, 3) := by decide +kernel
theorem dL_law_1043 : decode cL_law 1043 = .ok (.iconst 0, 1) := by decide +kernel
theorem dL_law_1044 : decode cL_law 1044 = .ok (.ireturn, 1) := by decide +kernel
theorem dL_law_1045 : decode cL_law 1045 = .ok (.iload 5, 2) := by decide +kernel
theorem dL_law_1047 : decode cL_law 1047 = .ok (.ifCond .ne 15, 3) := by decide +kernel
theorem dL_law_1050 : decode cL_law 1050 = .ok (.aload_n 3, 1) := by decide +kernel
theorem dL_law_1051 : decode cL_law 1051 = .ok (.iconst 0, 1) := by decide +kernel
theorem dL_law_1052 : decode cL_law 1052 = .ok (.laload, 1) := by decide +kernel
theorem dL_law_1053 : decode cL_law 1053 = .ok (.iload 6, 2) := by decide +kernel
theorem dL_law_1055 : decode cL_law 1055 = .ok (.i2l, 1) := by decide +kernel
theorem dL_law_1056 : decode cL_law 1056 = .ok (.lcmp, 1) := by decide +kernel
theorem dL_law_1057 : decode cL_law 1057 = .ok (.ifCond .eq 5, 3) := by decide +kernel
theorem dL_law_1060 : decode cL_law 1060 = .ok (.iconst 0, 1) := by decide +kernel
theorem dL_law_1061 : decode cL_law 1061 = .ok (.ireturn, 1) := by decide +kernel
theorem dL_law_1062 : decode cL_law 1062 = .ok (.goto 697, 3) := by decide +kernel
theorem dL_law_1065 : decode cL_law 1065 = .ok (.aload_n 1, 1) := by decide +kernel
theorem dL_law_1066 : decode cL_law 1066 = .ok (.aload_n 0, 1) := by decide +kernel
theorem dL_law_1067 : decode cL_law 1067 = .ok (.iload 4, 2) := by decide +kernel
theorem dL_law_1069 : decode cL_law 1069 = .ok (.iconst 1, 1) := by decide +kernel
theorem dL_law_1070 : decode cL_law 1070 = .ok (.iadd, 1) := by decide +kernel
theorem dL_law_1071 : decode cL_law 1071 = .ok (.iaload, 1) := by decide +kernel
theorem dL_law_1072 : decode cL_law 1072 = .ok (.aload_n 0, 1) := by decide +kernel
theorem dL_law_1073 : decode cL_law 1073 = .ok (.iload 4, 2) := by decide +kernel
theorem dL_law_1075 : decode cL_law 1075 = .ok (.iconst 2, 1) := by decide +kernel
theorem dL_law_1076 : decode cL_law 1076 = .ok (.iadd, 1) := by decide +kernel
theorem dL_law_1077 : decode cL_law 1077 = .ok (.iaload, 1) := by decide +kernel
theorem dL_law_1078 : decode cL_law 1078 = .ok (.ifCond .eq 7, 3) := by decide +kernel
theorem dL_law_1081 : decode cL_law 1081 = .ok (.iconst 1, 1) := by decide +kernel
theorem dL_law_1082 : decode cL_law 1082 = .ok (.goto 4, 3) := by decide +kernel
theorem dL_law_1085 : decode cL_law 1085 = .ok (.iconst 0, 1) := by decide +kernel
theorem dL_law_1086 : decode cL_law 1086 = .ok (.aload_n 3, 1) := by decide +kernel
theorem dL_law_1087 : decode cL_law 1087 = .ok (.invokestatic 162, 3) := by decide +kernel
theorem dL_law_1090 : decode cL_law 1090 = .ok (.istore 5, 2) := by decide +kernel
theorem dL_law_1092 : decode cL_law 1092 = .ok (.aload_n 2, 1) := by decide +kernel
theorem dL_law_1093 : decode cL_law 1093 = .ok (.aload_n 0, 1) := by decide +kernel
theorem dL_law_1094 : decode cL_law 1094 = .ok (.iload 4, 2) := by decide +kernel
theorem dL_law_1096 : decode cL_law 1096 = .ok (.iconst 1, 1) := by decide +kernel
theorem dL_law_1097 : decode cL_law 1097 = .ok (.iadd, 1) := by decide +kernel
theorem dL_law_1098 : decode cL_law 1098 = .ok (.iaload, 1) := by decide +kernel
theorem dL_law_1099 : decode cL_law 1099 = .ok (.aload_n 0, 1) := by decide +kernel
theorem dL_law_1100 : decode cL_law 1100 = .ok (.iload 4, 2) := by decide +kernel
theorem dL_law_1102 : decode cL_law 1102 = .ok (.iconst 2, 1) := by decide +kernel
theorem dL_law_1103 : decode cL_law 1103 = .ok (.iadd, 1) := by decide +kernel
theorem dL_law_1104 : decode cL_law 1104 = .ok (.iaload, 1) := by decide +kernel
theorem dL_law_1105 : decode cL_law 1105 = .ok (.ifCond .eq 7, 3) := by decide +kernel
theorem dL_law_1108 : decode cL_law 1108 = .ok (.iconst 1, 1) := by decide +kernel
theorem dL_law_1109 : decode cL_law 1109 = .ok (.goto 4, 3) := by decide +kernel
theorem dL_law_1112 : decode cL_law 1112 = .ok (.iconst 0, 1) := by decide +kernel
theorem dL_law_1113 : decode cL_law 1113 = .ok (.invokevirtual 165, 3) := by decide +kernel
theorem dL_law_1116 : decode cL_law 1116 = .ok (.istore 6, 2) := by decide +kernel
theorem dL_law_1118 : decode cL_law 1118 = .ok (.aload_n 2, 1) := by decide +kernel
theorem dL_law_1119 : decode cL_law 1119 = .ok (.invokevirtual 103, 3) := by decide +kernel
theorem dL_law_1122 : decode cL_law 1122 = .ok (.iload 5, 2) := by decide +kernel
theorem dL_law_1124 : decode cL_law 1124 = .ok (.if_icmp .eq 5, 3) := by decide +kernel
theorem dL_law_1127 : decode cL_law 1127 = .ok (.iconst 0, 1) := by decide +kernel
theorem dL_law_1128 : decode cL_law 1128 = .ok (.ireturn, 1) := by decide +kernel
theorem dL_law_1129 : decode cL_law 1129 = .ok (.iload 5, 2) := by decide +kernel
theorem dL_law_1131 : decode cL_law 1131 = .ok (.ifCond .ne 15, 3) := by decide +kernel
theorem dL_law_1134 : decode cL_law 1134 = .ok (.aload_n 3, 1) := by decide +kernel
theorem dL_law_1135 : decode cL_law 1135 = .ok (.iconst 0, 1) := by decide +kernel
theorem dL_law_1136 : decode cL_law 1136 = .ok (.laload, 1) := by decide +kernel
theorem dL_law_1137 : decode cL_law 1137 = .ok (.iload 6, 2) := by decide +kernel
theorem dL_law_1139 : decode cL_law 1139 = .ok (.i2l, 1) := by decide +kernel
theorem dL_law_1140 : decode cL_law 1140 = .ok (.lcmp, 1) := by decide +kernel
theorem dL_law_1141 : decode cL_law 1141 = .ok (.ifCond .eq 5, 3) := by decide +kernel
theorem dL_law_1144 : decode cL_law 1144 = .ok (.iconst 0, 1) := by decide +kernel
theorem dL_law_1145 : decode cL_law 1145 = .ok (.ireturn, 1) := by decide +kernel
theorem dL_law_1146 : decode cL_law 1146 = .ok (.goto 613, 3) := by decide +kernel
theorem dL_law_1149 : decode cL_law 1149 = .ok (.aload_n 1, 1) := by decide +kernel
theorem dL_law_1150 : decode cL_law 1150 = .ok (.aload_n 0, 1) := by decide +kernel
theorem dL_law_1151 : decode cL_law 1151 = .ok (.iload 4, 2) := by decide +kernel
theorem dL_law_1153 : decode cL_law 1153 = .ok (.iconst 1, 1) := by decide +kernel
theorem dL_law_1154 : decode cL_law 1154 = .ok (.iadd, 1) := by decide +kernel
theorem dL_law_1155 : decode cL_law 1155 = .ok (.iaload, 1) := by decide +kernel
theorem dL_law_1156 : decode cL_law 1156 = .ok (.aload_n 3, 1) := by decide +kernel
theorem dL_law_1157 : decode cL_law 1157 = .ok (.invokestatic 166, 3) := by decide +kernel
theorem dL_law_1160 : decode cL_law 1160 = .ok (.istore 5, 2) := by decide +kernel
theorem dL_law_1162 : decode cL_law 1162 = .ok (.aload_n 2, 1) := by decide +kernel
theorem dL_law_1163 : decode cL_law 1163 = .ok (.aload_n 0, 1) := by decide +kernel
theorem dL_law_1164 : decode cL_law 1164 = .ok (.iload 4, 2) := by decide +kernel
theorem dL_law_1166 : decode cL_law 1166 = .ok (.iconst 1, 1) := by decide +kernel
theorem dL_law_1167 : decode cL_law 1167 = .ok (.iadd, 1) := by decide +kernel
theorem dL_law_1168 : decode cL_law 1168 = .ok (.iaload, 1) := by decide +kernel
theorem dL_law_1169 : decode cL_law 1169 = .ok (.invokevirtual 168, 3) := by decide +kernel
theorem dL_law_1172 : decode cL_law 1172 = .ok (.istore 6, 2) := by decide +kernel
theorem dL_law_1174 : decode cL_law 1174 = .ok (.aload_n 2, 1) := by decide +kernel
theorem dL_law_1175 : decode cL_law 1175 = .ok (.invokevirtual 103, 3) := by decide +kernel
theorem dL_law_1178 : decode cL_law 1178 = .ok (.iload 5, 2) := by decide +kernel
theorem dL_law_1180 : decode cL_law 1180 = .ok (.if_icmp .eq 5, 3) := by decide +kernel
theorem dL_law_1183 : decode cL_law 1183 = .ok (.iconst 0, 1) := by decide +kernel
theorem dL_law_1184 : decode cL_law 1184 = .ok (.ireturn, 1) := by decide +kernel
theorem dL_law_1185 : decode cL_law 1185 = .ok (.iload 5, 2) := by decide +kernel
theorem dL_law_1187 : decode cL_law 1187 = .ok (.ifCond .ne 15, 3) := by decide +kernel
theorem dL_law_1190 : decode cL_law 1190 = .ok (.aload_n 3, 1) := by decide +kernel
theorem dL_law_1191 : decode cL_law 1191 = .ok (.iconst 0, 1) := by decide +kernel
theorem dL_law_1192 : decode cL_law 1192 = .ok (.laload, 1) := by decide +kernel
theorem dL_law_1193 : decode cL_law 1193 = .ok (.iload 6, 2) := by decide +kernel
theorem dL_law_1195 : decode cL_law 1195 = .ok (.i2l, 1) := by decide +kernel
theorem dL_law_1196 : decode cL_law 1196 = .ok (.lcmp, 1) := by decide +kernel
theorem dL_law_1197 : decode cL_law 1197 = .ok (.ifCond .eq 5, 3) := by decide +kernel
theorem dL_law_1200 : decode cL_law 1200 = .ok (.iconst 0, 1) := by decide +kernel
theorem dL_law_1201 : decode cL_law 1201 = .ok (.ireturn, 1) := by decide +kernel
theorem dL_law_1202 : decode cL_law 1202 = .ok (.goto 557, 3) := by decide +kernel
theorem dL_law_1205 : decode cL_law 1205 = .ok (.aload_n 1, 1) := by decide +kernel
theorem dL_law_1206 : decode cL_law 1206 = .ok (.aload_n 0, 1) := by decide +kernel
theorem dL_law_1207 : decode cL_law 1207 = .ok (.iload 4, 2) := by decide +kernel
theorem dL_law_1209 : decode cL_law 1209 = .ok (.iconst 1, 1) := by decide +kernel
theorem dL_law_1210 : decode cL_law 1210 = .ok (.iadd, 1) := by decide +kernel
theorem dL_law_1211 : decode cL_law 1211 = .ok (.iaload, 1) := by decide +kernel
theorem dL_law_1212 : decode cL_law 1212 = .ok (.aload_n 3, 1) := by decide +kernel
theorem dL_law_1213 : decode cL_law 1213 = .ok (.invokestatic 169, 3) := by decide +kernel
theorem dL_law_1216 : decode cL_law 1216 = .ok (.istore 5, 2) := by decide +kernel
theorem dL_law_1218 : decode cL_law 1218 = .ok (.aload_n 2, 1) := by decide +kernel
theorem dL_law_1219 : decode cL_law 1219 = .ok (.aload_n 0, 1) := by decide +kernel
theorem dL_law_1220 : decode cL_law 1220 = .ok (.iload 4, 2) := by decide +kernel
theorem dL_law_1222 : decode cL_law 1222 = .ok (.iconst 1, 1) := by decide +kernel
theorem dL_law_1223 : decode cL_law 1223 = .ok (.iadd, 1) := by decide +kernel
theorem dL_law_1224 : decode cL_law 1224 = .ok (.iaload, 1) := by decide +kernel
theorem dL_law_1225 : decode cL_law 1225 = .ok (.invokevirtual 171, 3) := by decide +kernel
theorem dL_law_1228 : decode cL_law 1228 = .ok (.istore 6, 2) := by decide +kernel
theorem dL_law_1230 : decode cL_law 1230 = .ok (.aload_n 2, 1) := by decide +kernel
theorem dL_law_1231 : decode cL_law 1231 = .ok (.invokevirtual 103, 3) := by decide +kernel
theorem dL_law_1234 : decode cL_law 1234 = .ok (.iload 5, 2) := by decide +kernel
theorem dL_law_1236 : decode cL_law 1236 = .ok (.if_icmp .eq 5, 3) := by decide +kernel
theorem dL_law_1239 : decode cL_law 1239 = .ok (.iconst 0, 1) := by decide +kernel
theorem dL_law_1240 : decode cL_law 1240 = .ok (.ireturn, 1) := by decide +kernel
theorem dL_law_1241 : decode cL_law 1241 = .ok (.iload 5, 2) := by decide +kernel
theorem dL_law_1243 : decode cL_law 1243 = .ok (.ifCond .ne 22, 3) := by decide +kernel
theorem dL_law_1246 : decode cL_law 1246 = .ok (.aload_n 3, 1) := by decide +kernel
theorem dL_law_1247 : decode cL_law 1247 = .ok (.iconst 0, 1) := by decide +kernel
theorem dL_law_1248 : decode cL_law 1248 = .ok (.laload, 1) := by decide +kernel
theorem dL_law_1249 : decode cL_law 1249 = .ok (.iload 6, 2) := by decide +kernel
theorem dL_law_1251 : decode cL_law 1251 = .ok (.ifCond .eq 7, 3) := by decide +kernel
theorem dL_law_1254 : decode cL_law 1254 = .ok (.lconst 1, 1) := by decide +kernel
theorem dL_law_1255 : decode cL_law 1255 = .ok (.goto 4, 3) := by decide +kernel
theorem dL_law_1258 : decode cL_law 1258 = .ok (.lconst 0, 1) := by decide +kernel
theorem dL_law_1259 : decode cL_law 1259 = .ok (.lcmp, 1) := by decide +kernel
theorem dL_law_1260 : decode cL_law 1260 = .ok (.ifCond .eq 5, 3) := by decide +kernel
theorem dL_law_1263 : decode cL_law 1263 = .ok (.iconst 0, 1) := by decide +kernel
theorem dL_law_1264 : decode cL_law 1264 = .ok (.ireturn, 1) := by decide +kernel
theorem dL_law_1265 : decode cL_law 1265 = .ok (.goto 494, 3) := by decide +kernel
theorem dL_law_1268 : decode cL_law 1268 = .ok (.aload_n 1, 1) := by decide +kernel
theorem dL_law_1269 : decode cL_law 1269 = .ok (.aload_n 0, 1) := by decide +kernel
theorem dL_law_1270 : decode cL_law 1270 = .ok (.iload 4, 2) := by decide +kernel
theorem dL_law_1272 : decode cL_law 1272 = .ok (.iconst 1, 1) := by decide +kernel
theorem dL_law_1273 : decode cL_law 1273 = .ok (.iadd, 1) := by decide +kernel
theorem dL_law_1274 : decode cL_law 1274 = .ok (.iaload, 1) := by decide +kernel
theorem dL_law_1275 : decode cL_law 1275 = .ok (.aload_n 0, 1) := by decide +kernel
theorem dL_law_1276 : decode cL_law 1276 = .ok (.iload 4, 2) := by decide +kernel
theorem dL_law_1278 : decode cL_law 1278 = .ok (.iconst 2, 1) := by decide +kernel
theorem dL_law_1279 : decode cL_law 1279 = .ok (.iadd, 1) := by decide +kernel
theorem dL_law_1280 : decode cL_law 1280 = .ok (.iaload, 1) := by decide +kernel
theorem dL_law_1281 : decode cL_law 1281 = .ok (.aload_n 3, 1) := by decide +kernel
theorem dL_law_1282 : decode cL_law 1282 = .ok (.invokestatic 172, 3) := by decide +kernel
theorem dL_law_1285 : decode cL_law 1285 = .ok (.istore 5, 2) := by decide +kernel
theorem dL_law_1287 : decode cL_law 1287 = .ok (.aload_n 2, 1) := by decide +kernel
theorem dL_law_1288 : decode cL_law 1288 = .ok (.aload_n 0, 1) := by decide +kernel
theorem dL_law_1289 : decode cL_law 1289 = .ok (.iload 4, 2) := by decide +kernel
theorem dL_law_1291 : decode cL_law 1291 = .ok (.iconst 1, 1) := by decide +kernel
theorem dL_law_1292 : decode cL_law 1292 = .ok (.iadd, 1) := by decide +kernel
theorem dL_law_1293 : decode cL_law 1293 = .ok (.iaload, 1) := by decide +kernel
theorem dL_law_1294 : decode cL_law 1294 = .ok (.aload_n 0, 1) := by decide +kernel
theorem dL_law_1295 : decode cL_law 1295 = .ok (.iload 4, 2) := by decide +kernel
theorem dL_law_1297 : decode cL_law 1297 = .ok (.iconst 2, 1) := by decide +kernel
theorem dL_law_1298 : decode cL_law 1298 = .ok (.iadd, 1) := by decide +kernel
theorem dL_law_1299 : decode cL_law 1299 = .ok (.iaload, 1) := by decide +kernel
theorem dL_law_1300 : decode cL_law 1300 = .ok (.invokevirtual 174, 3) := by decide +kernel
theorem dL_law_1303 : decode cL_law 1303 = .ok (.istore 6, 2) := by decide +kernel
theorem dL_law_1305 : decode cL_law 1305 = .ok (.aload_n 2, 1) := by decide +kernel
theorem dL_law_1306 : decode cL_law 1306 = .ok (.invokevirtual 103, 3) := by decide +kernel
theorem dL_law_1309 : decode cL_law 1309 = .ok (.iload 5, 2) := by decide +kernel
theorem dL_law_1311 : decode cL_law 1311 = .ok (.if_icmp .eq 5, 3) := by decide +kernel
theorem dL_law_1314 : decode cL_law 1314 = .ok (.iconst 0, 1) := by decide +kernel
theorem dL_law_1315 : decode cL_law 1315 = .ok (.ireturn, 1) := by decide +kernel
theorem dL_law_1316 : decode cL_law 1316 = .ok (.iload 5, 2) := by decide +kernel
theorem dL_law_1318 : decode cL_law 1318 = .ok (.ifCond .ne 15, 3) := by decide +kernel
theorem dL_law_1321 : decode cL_law 1321 = .ok (.aload_n 3, 1) := by decide +kernel
theorem dL_law_1322 : decode cL_law 1322 = .ok (.iconst 0, 1) := by decide +kernel
theorem dL_law_1323 : decode cL_law 1323 = .ok (.laload, 1) := by decide +kernel
theorem dL_law_1324 : decode cL_law 1324 = .ok (.iload 6, 2) := by decide +kernel
theorem dL_law_1326 : decode cL_law 1326 = .ok (.i2l, 1) := by decide +kernel
theorem dL_law_1327 : decode cL_law 1327 = .ok (.lcmp, 1) := by decide +kernel
theorem dL_law_1328 : decode cL_law 1328 = .ok (.ifCond .eq 5, 3) := by decide +kernel
theorem dL_law_1331 : decode cL_law 1331 = .ok (.iconst 0, 1) := by decide +kernel
theorem dL_law_1332 : decode cL_law 1332 = .ok (.ireturn, 1) := by decide +kernel
theorem dL_law_1333 : decode cL_law 1333 = .ok (.goto 426, 3) := by decide +kernel
theorem dL_law_1336 : decode cL_law 1336 = .ok (.aload_n 1, 1) := by decide +kernel
theorem dL_law_1337 : decode cL_law 1337 = .ok (.aload_n 0, 1) := by decide +kernel
theorem dL_law_1338 : decode cL_law 1338 = .ok (.iload 4, 2) := by decide +kernel
theorem dL_law_1340 : decode cL_law 1340 = .ok (.iconst 1, 1) := by decide +kernel
theorem dL_law_1341 : decode cL_law 1341 = .ok (.iadd, 1) := by decide +kernel
theorem dL_law_1342 : decode cL_law 1342 = .ok (.iaload, 1) := by decide +kernel
theorem dL_law_1343 : decode cL_law 1343 = .ok (.aload_n 0, 1) := by decide +kernel
theorem dL_law_1344 : decode cL_law 1344 = .ok (.iload 4, 2) := by decide +kernel
theorem dL_law_1346 : decode cL_law 1346 = .ok (.iconst 2, 1) := by decide +kernel
theorem dL_law_1347 : decode cL_law 1347 = .ok (.iadd, 1) := by decide +kernel
theorem dL_law_1348 : decode cL_law 1348 = .ok (.iaload, 1) := by decide +kernel
theorem dL_law_1349 : decode cL_law 1349 = .ok (.aload_n 3, 1) := by decide +kernel
theorem dL_law_1350 : decode cL_law 1350 = .ok (.invokestatic 175, 3) := by decide +kernel
theorem dL_law_1353 : decode cL_law 1353 = .ok (.istore 5, 2) := by decide +kernel
theorem dL_law_1355 : decode cL_law 1355 = .ok (.aload_n 2, 1) := by decide +kernel
theorem dL_law_1356 : decode cL_law 1356 = .ok (.aload_n 0, 1) := by decide +kernel
theorem dL_law_1357 : decode cL_law 1357 = .ok (.iload 4, 2) := by decide +kernel
theorem dL_law_1359 : decode cL_law 1359 = .ok (.iconst 1, 1) := by decide +kernel
theorem dL_law_1360 : decode cL_law 1360 = .ok (.iadd, 1) := by decide +kernel
theorem dL_law_1361 : decode cL_law 1361 = .ok (.iaload, 1) := by decide +kernel
theorem dL_law_1362 : decode cL_law 1362 = .ok (.aload_n 0, 1) := by decide +kernel
theorem dL_law_1363 : decode cL_law 1363 = .ok (.iload 4, 2) := by decide +kernel
theorem dL_law_1365 : decode cL_law 1365 = .ok (.iconst 2, 1) := by decide +kernel
theorem dL_law_1366 : decode cL_law 1366 = .ok (.iadd, 1) := by decide +kernel
theorem dL_law_1367 : decode cL_law 1367 = .ok (.iaload, 1) := by decide +kernel
theorem dL_law_1368 : decode cL_law 1368 = .ok (.invokevirtual 177, 3) := by decide +kernel
theorem dL_law_1371 : decode cL_law 1371 = .ok (.istore 6, 2) := by decide +kernel
theorem dL_law_1373 : decode cL_law 1373 = .ok (.aload_n 2, 1) := by decide +kernel
theorem dL_law_1374 : decode cL_law 1374 = .ok (.invokevirtual 103, 3) := by decide +kernel
theorem dL_law_1377 : decode cL_law 1377 = .ok (.iload 5, 2) := by decide +kernel
theorem dL_law_1379 : decode cL_law 1379 = .ok (.if_icmp .eq 5, 3) := by decide +kernel
theorem dL_law_1382 : decode cL_law 1382 = .ok (.iconst 0, 1) := by decide +kernel
theorem dL_law_1383 : decode cL_law 1383 = .ok (.ireturn, 1) := by decide +kernel
theorem dL_law_1384 : decode cL_law 1384 = .ok (.iload 5, 2) := by decide +kernel
theorem dL_law_1386 : decode cL_law 1386 = .ok (.ifCond .ne 15, 3) := by decide +kernel
theorem dL_law_1389 : decode cL_law 1389 = .ok (.aload_n 3, 1) := by decide +kernel
theorem dL_law_1390 : decode cL_law 1390 = .ok (.iconst 0, 1) := by decide +kernel
theorem dL_law_1391 : decode cL_law 1391 = .ok (.laload, 1) := by decide +kernel
theorem dL_law_1392 : decode cL_law 1392 = .ok (.iload 6, 2) := by decide +kernel
theorem dL_law_1394 : decode cL_law 1394 = .ok (.i2l, 1) := by decide +kernel
theorem dL_law_1395 : decode cL_law 1395 = .ok (.lcmp, 1) := by decide +kernel
theorem dL_law_1396 : decode cL_law 1396 = .ok (.ifCond .eq 5, 3) := by decide +kernel
theorem dL_law_1399 : decode cL_law 1399 = .ok (.iconst 0, 1) := by decide +kernel
theorem dL_law_1400 : decode cL_law 1400 = .ok (.ireturn, 1) := by decide +kernel
theorem dL_law_1401 : decode cL_law 1401 = .ok (.goto 358, 3) := by decide +kernel
theorem dL_law_1404 : decode cL_law 1404 = .ok (.aload_n 1, 1) := by decide +kernel
theorem dL_law_1405 : decode cL_law 1405 = .ok (.aload_n 0, 1) := by decide +kernel
theorem dL_law_1406 : decode cL_law 1406 = .ok (.iload 4, 2) := by decide +kernel
theorem dL_law_1408 : decode cL_law 1408 = .ok (.iconst 1, 1) := by decide +kernel
theorem dL_law_1409 : decode cL_law 1409 = .ok (.iadd, 1) := by decide +kernel
theorem dL_law_1410 : decode cL_law 1410 = .ok (.iaload, 1) := by decide +kernel
theorem dL_law_1411 : decode cL_law 1411 = .ok (.aload_n 3, 1) := by decide +kernel
theorem dL_law_1412 : decode cL_law 1412 = .ok (.invokestatic 178, 3) := by decide +kernel
theorem dL_law_1415 : decode cL_law 1415 = .ok (.istore 5, 2) := by decide +kernel
theorem dL_law_1417 : decode cL_law 1417 = .ok (.aload_n 2, 1) := by decide +kernel
theorem dL_law_1418 : decode cL_law 1418 = .ok (.aload_n 0, 1) := by decide +kernel
theorem dL_law_1419 : decode cL_law 1419 = .ok (.iload 4, 2) := by decide +kernel
theorem dL_law_1421 : decode cL_law 1421 = .ok (.iconst 1, 1) := by decide +kernel
theorem dL_law_1422 : decode cL_law 1422 = .ok (.iadd, 1) := by decide +kernel
theorem dL_law_1423 : decode cL_law 1423 = .ok (.iaload, 1) := by decide +kernel
theorem dL_law_1424 : decode cL_law 1424 = .ok (.invokevirtual 180, 3) := by decide +kernel
theorem dL_law_1427 : decode cL_law 1427 = .ok (.istore 6, 2) := by decide +kernel
theorem dL_law_1429 : decode cL_law 1429 = .ok (.aload_n 2, 1) := by decide +kernel
theorem dL_law_1430 : decode cL_law 1430 = .ok (.invokevirtual 103, 3) := by decide +kernel
theorem dL_law_1433 : decode cL_law 1433 = .ok (.iload 5, 2) := by decide +kernel
theorem dL_law_1435 : decode cL_law 1435 = .ok (.if_icmp .eq 5, 3) := by decide +kernel
theorem dL_law_1438 : decode cL_law 1438 = .ok (.iconst 0, 1) := by decide +kernel
theorem dL_law_1439 : decode cL_law 1439 = .ok (.ireturn, 1) := by decide +kernel
theorem dL_law_1440 : decode cL_law 1440 = .ok (.iload 5, 2) := by decide +kernel
theorem dL_law_1442 : decode cL_law 1442 = .ok (.ifCond .ne 15, 3) := by decide +kernel
theorem dL_law_1445 : decode cL_law 1445 = .ok (.aload_n 3, 1) := by decide +kernel
theorem dL_law_1446 : decode cL_law 1446 = .ok (.iconst 0, 1) := by decide +kernel
theorem dL_law_1447 : decode cL_law 1447 = .ok (.laload, 1) := by decide +kernel
theorem dL_law_1448 : decode cL_law 1448 = .ok (.iload 6, 2) := by decide +kernel
theorem dL_law_1450 : decode cL_law 1450 = .ok (.i2l, 1) := by decide +kernel
theorem dL_law_1451 : decode cL_law 1451 = .ok (.lcmp, 1) := by decide +kernel
theorem dL_law_1452 : decode cL_law 1452 = .ok (.ifCond .eq 5, 3) := by decide +kernel
theorem dL_law_1455 : decode cL_law 1455 = .ok (.iconst 0, 1) := by decide +kernel
theorem dL_law_1456 : decode cL_law 1456 = .ok (.ireturn, 1) := by decide +kernel
theorem dL_law_1457 : decode cL_law 1457 = .ok (.goto 302, 3) := by decide +kernel
theorem dL_law_1460 : decode cL_law 1460 = .ok (.aload_n 1, 1) := by decide +kernel
theorem dL_law_1461 : decode cL_law 1461 = .ok (.aload_n 0, 1) := by decide +kernel
theorem dL_law_1462 : decode cL_law 1462 = .ok (.iload 4, 2) := by decide +kernel
theorem dL_law_1464 : decode cL_law 1464 = .ok (.iconst 1, 1) := by decide +kernel
theorem dL_law_1465 : decode cL_law 1465 = .ok (.iadd, 1) := by decide +kernel
theorem dL_law_1466 : decode cL_law 1466 = .ok (.iaload, 1) := by decide +kernel
theorem dL_law_1467 : decode cL_law 1467 = .ok (.aload_n 3, 1) := by decide +kernel
theorem dL_law_1468 : decode cL_law 1468 = .ok (.invokestatic 181, 3) := by decide +kernel
theorem dL_law_1471 : decode cL_law 1471 = .ok (.istore 5, 2) := by decide +kernel
theorem dL_law_1473 : decode cL_law 1473 = .ok (.aload_n 2, 1) := by decide +kernel
theorem dL_law_1474 : decode cL_law 1474 = .ok (.aload_n 0, 1) := by decide +kernel
theorem dL_law_1475 : decode cL_law 1475 = .ok (.iload 4, 2) := by decide +kernel
theorem dL_law_1477 : decode cL_law 1477 = .ok (.iconst 1, 1) := by decide +kernel
theorem dL_law_1478 : decode cL_law 1478 = .ok (.iadd, 1) := by decide +kernel
theorem dL_law_1479 : decode cL_law 1479 = .ok (.iaload, 1) := by decide +kernel
theorem dL_law_1480 : decode cL_law 1480 = .ok (.invokevirtual 183, 3) := by decide +kernel
theorem dL_law_1483 : decode cL_law 1483 = .ok (.istore 6, 2) := by decide +kernel
theorem dL_law_1485 : decode cL_law 1485 = .ok (.aload_n 2, 1) := by decide +kernel
theorem dL_law_1486 : decode cL_law 1486 = .ok (.invokevirtual 103, 3) := by decide +kernel
theorem dL_law_1489 : decode cL_law 1489 = .ok (.iload 5, 2) := by decide +kernel
theorem dL_law_1491 : decode cL_law 1491 = .ok (.if_icmp .eq 5, 3) := by decide +kernel
theorem dL_law_1494 : decode cL_law 1494 = .ok (.iconst 0, 1) := by decide +kernel
theorem dL_law_1495 : decode cL_law 1495 = .ok (.ireturn, 1) := by decide +kernel
theorem dL_law_1496 : decode cL_law 1496 = .ok (.iload 5, 2) := by decide +kernel
theorem dL_law_1498 : decode cL_law 1498 = .ok (.ifCond .ne 22, 3) := by decide +kernel
theorem dL_law_1501 : decode cL_law 1501 = .ok (.aload_n 3, 1) := by decide +kernel
theorem dL_law_1502 : decode cL_law 1502 = .ok (.iconst 0, 1) := by decide +kernel
theorem dL_law_1503 : decode cL_law 1503 = .ok (.laload, 1) := by decide +kernel
theorem dL_law_1504 : decode cL_law 1504 = .ok (.iload 6, 2) := by decide +kernel
theorem dL_law_1506 : decode cL_law 1506 = .ok (.ifCond .eq 7, 3) := by decide +kernel
theorem dL_law_1509 : decode cL_law 1509 = .ok (.lconst 1, 1) := by decide +kernel
theorem dL_law_1510 : decode cL_law 1510 = .ok (.goto 4, 3) := by decide +kernel
theorem dL_law_1513 : decode cL_law 1513 = .ok (.lconst 0, 1) := by decide +kernel
theorem dL_law_1514 : decode cL_law 1514 = .ok (.lcmp, 1) := by decide +kernel
theorem dL_law_1515 : decode cL_law 1515 = .ok (.ifCond .eq 5, 3) := by decide +kernel
theorem dL_law_1518 : decode cL_law 1518 = .ok (.iconst 0, 1) := by decide +kernel
theorem dL_law_1519 : decode cL_law 1519 = .ok (.ireturn, 1) := by decide +kernel
theorem dL_law_1520 : decode cL_law 1520 = .ok (.goto 239, 3) := by decide +kernel
theorem dL_law_1523 : decode cL_law 1523 = .ok (.aload_n 1, 1) := by decide +kernel
theorem dL_law_1524 : decode cL_law 1524 = .ok (.invokevirtual 184, 3) := by decide +kernel
theorem dL_law_1527 : decode cL_law 1527 = .ok (.aload_n 2, 1) := by decide +kernel
theorem dL_law_1528 : decode cL_law 1528 = .ok (.invokevirtual 187, 3) := by decide +kernel
theorem dL_law_1531 : decode cL_law 1531 = .ok (.if_icmp .eq 228, 3) := by decide +kernel
theorem dL_law_1534 : decode cL_law 1534 = .ok (.iconst 0, 1) := by decide +kernel
theorem dL_law_1535 : decode cL_law 1535 = .ok (.ireturn, 1) := by decide +kernel
theorem dL_law_1536 : decode cL_law 1536 = .ok (.aload_n 1, 1) := by decide +kernel
theorem dL_law_1537 : decode cL_law 1537 = .ok (.invokevirtual 188, 3) := by decide +kernel
theorem dL_law_1540 : decode cL_law 1540 = .ok (.dstore 5, 2) := by decide +kernel
theorem dL_law_1542 : decode cL_law 1542 = .ok (.aload_n 2, 1) := by decide +kernel
theorem dL_law_1543 : decode cL_law 1543 = .ok (.invokevirtual 192, 3) := by decide +kernel
theorem dL_law_1546 : decode cL_law 1546 = .ok (.dstore 7, 2) := by decide +kernel
theorem dL_law_1548 : decode cL_law 1548 = .ok (.dload 5, 2) := by decide +kernel
theorem dL_law_1550 : decode cL_law 1550 = .ok (.dload 7, 2) := by decide +kernel
theorem dL_law_1552 : decode cL_law 1552 = .ok (.dcmp .l, 1) := by decide +kernel
theorem dL_law_1553 : decode cL_law 1553 = .ok (.ifCond .eq 21, 3) := by decide +kernel
theorem dL_law_1556 : decode cL_law 1556 = .ok (.dload 5, 2) := by decide +kernel
theorem dL_law_1558 : decode cL_law 1558 = .ok (.dload 5, 2) := by decide +kernel
theorem dL_law_1560 : decode cL_law 1560 = .ok (.dcmp .l, 1) := by decide +kernel
theorem dL_law_1561 : decode cL_law 1561 = .ok (.ifCond .eq 11, 3) := by decide +kernel
theorem dL_law_1564 : decode cL_law 1564 = .ok (.dload 7, 2) := by decide +kernel
theorem dL_law_1566 : decode cL_law 1566 = .ok (.dload 7, 2) := by decide +kernel
theorem dL_law_1568 : decode cL_law 1568 = .ok (.dcmp .l, 1) := by decide +kernel
theorem dL_law_1569 : decode cL_law 1569 = .ok (.ifCond .ne 5, 3) := by decide +kernel
theorem dL_law_1572 : decode cL_law 1572 = .ok (.iconst 0, 1) := by decide +kernel
theorem dL_law_1573 : decode cL_law 1573 = .ok (.ireturn, 1) := by decide +kernel
theorem dL_law_1574 : decode cL_law 1574 = .ok (.goto 185, 3) := by decide +kernel
theorem dL_law_1577 : decode cL_law 1577 = .ok (.aload_n 1, 1) := by decide +kernel
theorem dL_law_1578 : decode cL_law 1578 = .ok (.aload_n 0, 1) := by decide +kernel
theorem dL_law_1579 : decode cL_law 1579 = .ok (.iload 4, 2) := by decide +kernel
theorem dL_law_1581 : decode cL_law 1581 = .ok (.iconst 1, 1) := by decide +kernel
theorem dL_law_1582 : decode cL_law 1582 = .ok (.iadd, 1) := by decide +kernel
theorem dL_law_1583 : decode cL_law 1583 = .ok (.iaload, 1) := by decide +kernel
theorem dL_law_1584 : decode cL_law 1584 = .ok (.aload_n 3, 1) := by decide +kernel
theorem dL_law_1585 : decode cL_law 1585 = .ok (.invokestatic 193, 3) := by decide +kernel
theorem dL_law_1588 : decode cL_law 1588 = .ok (.istore 5, 2) := by decide +kernel
theorem dL_law_1590 : decode cL_law 1590 = .ok (.aload_n 2, 1) := by decide +kernel
theorem dL_law_1591 : decode cL_law 1591 = .ok (.aload_n 0, 1) := by decide +kernel
theorem dL_law_1592 : decode cL_law 1592 = .ok (.iload 4, 2) := by decide +kernel
theorem dL_law_1594 : decode cL_law 1594 = .ok (.iconst 1, 1) := by decide +kernel
theorem dL_law_1595 : decode cL_law 1595 = .ok (.iadd, 1) := by decide +kernel
theorem dL_law_1596 : decode cL_law 1596 = .ok (.iaload, 1) := by decide +kernel
theorem dL_law_1597 : decode cL_law 1597 = .ok (.invokevirtual 195, 3) := by decide +kernel
theorem dL_law_1600 : decode cL_law 1600 = .ok (.istore 6, 2) := by decide +kernel
theorem dL_law_1602 : decode cL_law 1602 = .ok (.aload_n 2, 1) := by decide +kernel
theorem dL_law_1603 : decode cL_law 1603 = .ok (.invokevirtual 103, 3) := by decide +kernel
theorem dL_law_1606 : decode cL_law 1606 = .ok (.iload 5, 2) := by decide +kernel
theorem dL_law_1608 : decode cL_law 1608 = .ok (.if_icmp .eq 5, 3) := by decide +kernel
theorem dL_law_1611 : decode cL_law 1611 = .ok (.iconst 0, 1) := by decide +kernel
theorem dL_law_1612 : decode cL_law 1612 = .ok (.ireturn, 1) := by decide +kernel
theorem dL_law_1613 : decode cL_law 1613 = .ok (.iload 5, 2) := by decide +kernel
theorem dL_law_1615 : decode cL_law 1615 = .ok (.ifCond .ne 15, 3) := by decide +kernel
theorem dL_law_1618 : decode cL_law 1618 = .ok (.aload_n 3, 1) := by decide +kernel
theorem dL_law_1619 : decode cL_law 1619 = .ok (.iconst 0, 1) := by decide +kernel
theorem dL_law_1620 : decode cL_law 1620 = .ok (.laload, 1) := by decide +kernel
theorem dL_law_1621 : decode cL_law 1621 = .ok (.iload 6, 2) := by decide +kernel
theorem dL_law_1623 : decode cL_law 1623 = .ok (.i2l, 1) := by decide +kernel
theorem dL_law_1624 : decode cL_law 1624 = .ok (.lcmp, 1) := by decide +kernel
theorem dL_law_1625 : decode cL_law 1625 = .ok (.ifCond .eq 5, 3) := by decide +kernel
theorem dL_law_1628 : decode cL_law 1628 = .ok (.iconst 0, 1) := by decide +kernel
theorem dL_law_1629 : decode cL_law 1629 = .ok (.ireturn, 1) := by decide +kernel
theorem dL_law_1630 : decode cL_law 1630 = .ok (.goto 129, 3) := by decide +kernel
theorem dL_law_1633 : decode cL_law 1633 = .ok (.aload_n 1, 1) := by decide +kernel
theorem dL_law_1634 : decode cL_law 1634 = .ok (.aload_n 0, 1) := by decide +kernel
theorem dL_law_1635 : decode cL_law 1635 = .ok (.iload 4, 2) := by decide +kernel
theorem dL_law_1637 : decode cL_law 1637 = .ok (.iconst 1, 1) := by decide +kernel
theorem dL_law_1638 : decode cL_law 1638 = .ok (.iadd, 1) := by decide +kernel
theorem dL_law_1639 : decode cL_law 1639 = .ok (.iaload, 1) := by decide +kernel
theorem dL_law_1640 : decode cL_law 1640 = .ok (.aload_n 3, 1) := by decide +kernel
theorem dL_law_1641 : decode cL_law 1641 = .ok (.invokestatic 196, 3) := by decide +kernel
theorem dL_law_1644 : decode cL_law 1644 = .ok (.istore 5, 2) := by decide +kernel
theorem dL_law_1646 : decode cL_law 1646 = .ok (.aload_n 2, 1) := by decide +kernel
theorem dL_law_1647 : decode cL_law 1647 = .ok (.aload_n 0, 1) := by decide +kernel
theorem dL_law_1648 : decode cL_law 1648 = .ok (.iload 4, 2) := by decide +kernel
theorem dL_law_1650 : decode cL_law 1650 = .ok (.iconst 1, 1) := by decide +kernel
theorem dL_law_1651 : decode cL_law 1651 = .ok (.iadd, 1) := by decide +kernel
theorem dL_law_1652 : decode cL_law 1652 = .ok (.iaload, 1) := by decide +kernel
theorem dL_law_1653 : decode cL_law 1653 = .ok (.invokevirtual 198, 3) := by decide +kernel
theorem dL_law_1656 : decode cL_law 1656 = .ok (.istore 6, 2) := by decide +kernel
theorem dL_law_1658 : decode cL_law 1658 = .ok (.aload_n 2, 1) := by decide +kernel
theorem dL_law_1659 : decode cL_law 1659 = .ok (.invokevirtual 103, 3) := by decide +kernel
theorem dL_law_1662 : decode cL_law 1662 = .ok (.iload 5, 2) := by decide +kernel
theorem dL_law_1664 : decode cL_law 1664 = .ok (.if_icmp .eq 5, 3) := by decide +kernel
theorem dL_law_1667 : decode cL_law 1667 = .ok (.iconst 0, 1) := by decide +kernel
theorem dL_law_1668 : decode cL_law 1668 = .ok (.ireturn, 1) := by decide +kernel
theorem dL_law_1669 : decode cL_law 1669 = .ok (.iload 5, 2) := by decide +kernel
theorem dL_law_1671 : decode cL_law 1671 = .ok (.ifCond .ne 15, 3) := by decide +kernel
theorem dL_law_1674 : decode cL_law 1674 = .ok (.aload_n 3, 1) := by decide +kernel
theorem dL_law_1675 : decode cL_law 1675 = .ok (.iconst 0, 1) := by decide +kernel
theorem dL_law_1676 : decode cL_law 1676 = .ok (.laload, 1) := by decide +kernel
theorem dL_law_1677 : decode cL_law 1677 = .ok (.iload 6, 2) := by decide +kernel
theorem dL_law_1679 : decode cL_law 1679 = .ok (.i2l, 1) := by decide +kernel
theorem dL_law_1680 : decode cL_law 1680 = .ok (.lcmp, 1) := by decide +kernel
theorem dL_law_1681 : decode cL_law 1681 = .ok (.ifCond .eq 5, 3) := by decide +kernel
theorem dL_law_1684 : decode cL_law 1684 = .ok (.iconst 0, 1) := by decide +kernel
theorem dL_law_1685 : decode cL_law 1685 = .ok (.ireturn, 1) := by decide +kernel
theorem dL_law_1686 : decode cL_law 1686 = .ok (.goto 73, 3) := by decide +kernel
theorem dL_law_1689 : decode cL_law 1689 = .ok (.aload_n 1, 1) := by decide +kernel
theorem dL_law_1690 : decode cL_law 1690 = .ok (.aload_n 0, 1) := by decide +kernel
theorem dL_law_1691 : decode cL_law 1691 = .ok (.iload 4, 2) := by decide +kernel
theorem dL_law_1693 : decode cL_law 1693 = .ok (.iconst 1, 1) := by decide +kernel
theorem dL_law_1694 : decode cL_law 1694 = .ok (.iadd, 1) := by decide +kernel
theorem dL_law_1695 : decode cL_law 1695 = .ok (.iaload, 1) := by decide +kernel
theorem dL_law_1696 : decode cL_law 1696 = .ok (.aload_n 3, 1) := by decide +kernel
theorem dL_law_1697 : decode cL_law 1697 = .ok (.invokestatic 199, 3) := by decide +kernel
theorem dL_law_1700 : decode cL_law 1700 = .ok (.istore 5, 2) := by decide +kernel
theorem dL_law_1702 : decode cL_law 1702 = .ok (.aload_n 2, 1) := by decide +kernel
theorem dL_law_1703 : decode cL_law 1703 = .ok (.aload_n 0, 1) := by decide +kernel
theorem dL_law_1704 : decode cL_law 1704 = .ok (.iload 4, 2) := by decide +kernel
theorem dL_law_1706 : decode cL_law 1706 = .ok (.iconst 1, 1) := by decide +kernel
theorem dL_law_1707 : decode cL_law 1707 = .ok (.iadd, 1) := by decide +kernel
theorem dL_law_1708 : decode cL_law 1708 = .ok (.iaload, 1) := by decide +kernel
theorem dL_law_1709 : decode cL_law 1709 = .ok (.invokevirtual 201, 3) := by decide +kernel
theorem dL_law_1712 : decode cL_law 1712 = .ok (.istore 6, 2) := by decide +kernel
theorem dL_law_1714 : decode cL_law 1714 = .ok (.aload_n 2, 1) := by decide +kernel
theorem dL_law_1715 : decode cL_law 1715 = .ok (.invokevirtual 103, 3) := by decide +kernel
theorem dL_law_1718 : decode cL_law 1718 = .ok (.iload 5, 2) := by decide +kernel
theorem dL_law_1720 : decode cL_law 1720 = .ok (.if_icmp .eq 5, 3) := by decide +kernel
theorem dL_law_1723 : decode cL_law 1723 = .ok (.iconst 0, 1) := by decide +kernel
theorem dL_law_1724 : decode cL_law 1724 = .ok (.ireturn, 1) := by decide +kernel
theorem dL_law_1725 : decode cL_law 1725 = .ok (.iload 5, 2) := by decide +kernel
theorem dL_law_1727 : decode cL_law 1727 = .ok (.ifCond .ne 15, 3) := by decide +kernel
theorem dL_law_1730 : decode cL_law 1730 = .ok (.aload_n 3, 1) := by decide +kernel
theorem dL_law_1731 : decode cL_law 1731 = .ok (.iconst 0, 1) := by decide +kernel
theorem dL_law_1732 : decode cL_law 1732 = .ok (.laload, 1) := by decide +kernel
theorem dL_law_1733 : decode cL_law 1733 = .ok (.iload 6, 2) := by decide +kernel
theorem dL_law_1735 : decode cL_law 1735 = .ok (.i2l, 1) := by decide +kernel
theorem dL_law_1736 : decode cL_law 1736 = .ok (.lcmp, 1) := by decide +kernel
theorem dL_law_1737 : decode cL_law 1737 = .ok (.ifCond .eq 5, 3) := by decide +kernel
theorem dL_law_1740 : decode cL_law 1740 = .ok (.iconst 0, 1) := by decide +kernel
theorem dL_law_1741 : decode cL_law 1741 = .ok (.ireturn, 1) := by decide +kernel
theorem dL_law_1742 : decode cL_law 1742 = .ok (.goto 17, 3) := by decide +kernel
theorem dL_law_1745 : decode cL_law 1745 = .ok (.aload_n 1, 1) := by decide +kernel
theorem dL_law_1746 : decode cL_law 1746 = .ok (.invokevirtual 202, 3) := by decide +kernel
theorem dL_law_1749 : decode cL_law 1749 = .ok (.aload_n 2, 1) := by decide +kernel
theorem dL_law_1750 : decode cL_law 1750 = .ok (.invokevirtual 206, 3) := by decide +kernel
theorem dL_law_1753 : decode cL_law 1753 = .ok (.lcmp, 1) := by decide +kernel
theorem dL_law_1754 : decode cL_law 1754 = .ok (.ifCond .eq 5, 3) := by decide +kernel
theorem dL_law_1757 : decode cL_law 1757 = .ok (.iconst 0, 1) := by decide +kernel
theorem dL_law_1758 : decode cL_law 1758 = .ok (.ireturn, 1) := by decide +kernel
theorem dL_law_1759 : decode cL_law 1759 = .ok (.iinc 4 4, 3) := by decide +kernel
theorem dL_law_1762 : decode cL_law 1762 = .ok (.goto (-1739), 3) := by decide +kernel
theorem dL_law_1765 : decode cL_law 1765 = .ok (.iconst 1, 1) := by decide +kernel
theorem dL_law_1766 : decode cL_law 1766 = .ok (.ireturn, 1) := by decide +kernel
end
section
abbrev vwCl : List vw_C := [(RX0, TX0, 10), (RX1, TX1, 8), (RX2, TX2, 8), (RX3, TX3, 11), (RX4, TX4, 27)]

/-! numbers: an int of the machine is zI of an Int, a long zJ of an Int -/
def zI (z : Int) : Int32 := Int32.ofInt z
def zJ (z : Int) : Int64 := Int64.ofInt z
theorem zbm32 {z : Int} (h1 : -2147483648 ≤ z) (h2 : z < 2147483648) : z.bmod (2 ^ 32) = z := Int.bmod_eq_of_le (by omega) (by omega)
theorem zbm64 {z : Int} (h1 : -9223372036854775808 ≤ z) (h2 : z < 9223372036854775808) : z.bmod (2 ^ 64) = z := Int.bmod_eq_of_le (by omega) (by omega)
theorem zbm8 {z : Int} (h1 : -128 ≤ z) (h2 : z < 128) : z.bmod (2 ^ 8) = z := Int.bmod_eq_of_le (by omega) (by omega)
theorem zI_toInt {z : Int} (h1 : -2147483648 ≤ z) (h2 : z < 2147483648) : (zI z).toInt = z := by
  unfold zI
  rw [Int32.toInt_ofInt]
  exact zbm32 h1 h2
theorem zI_of (x : Int32) : zI x.toInt = x := Int32.ofInt_toInt x
theorem zI_rng (x : Int32) : -2147483648 ≤ x.toInt ∧ x.toInt < 2147483648 := by
  have h1 := Int32.le_toInt x
  have h2 := Int32.toInt_lt x
  omega
theorem zI_add (a b : Int) : zI a + zI b = zI (a + b) := by
  unfold zI; apply Int32.toInt_inj.mp; rw [Int32.toInt_add]; simp only [Int32.toInt_ofInt]; simp
theorem zI_sub (a b : Int) : zI a - zI b = zI (a - b) := by
  unfold zI; apply Int32.toInt_inj.mp; rw [Int32.toInt_sub]; simp only [Int32.toInt_ofInt]; simp
theorem zI_mul (a b : Int) : zI a * zI b = zI (a * b) := by
  unfold zI; apply Int32.toInt_inj.mp; rw [Int32.toInt_mul]; simp only [Int32.toInt_ofInt]; simp
theorem zI_le {a b : Int} (h1 : -2147483648 ≤ a ∧ a < 2147483648) (h2 : -2147483648 ≤ b ∧ b < 2147483648) : zI a ≤ zI b ↔ a ≤ b := by
  rw [Int32.le_iff_toInt_le, zI_toInt h1.1 h1.2, zI_toInt h2.1 h2.2]
theorem zI_lt {a b : Int} (h1 : -2147483648 ≤ a ∧ a < 2147483648) (h2 : -2147483648 ≤ b ∧ b < 2147483648) : zI a < zI b ↔ a < b := by
  rw [Int32.lt_iff_toInt_lt, zI_toInt h1.1 h1.2, zI_toInt h2.1 h2.2]
theorem zI_eq {a b : Int} (h1 : -2147483648 ≤ a ∧ a < 2147483648) (h2 : -2147483648 ≤ b ∧ b < 2147483648) : zI a = zI b ↔ a = b := by
  rw [← Int32.toInt_inj, zI_toInt h1.1 h1.2, zI_toInt h2.1 h2.2]
theorem zI_clamp {z : Int} (h1 : 0 ≤ z) (h2 : z < 2147483648) : (((zI z).toNatClampNeg : Nat) : Int) = z := by
  have h := zI_toInt (z := z) (by omega) h2
  have h3 : (zI z).toNatClampNeg = (zI z).toInt.toNat := rfl
  rw [h3, h]; omega
theorem zI_in {z : Int} {n : Nat} (h1 : 0 ≤ z) (h2 : z < (n : Int)) (hn : n ≤ 2147483647) : vp_in (zI z) n := by
  rintro (h | h)
  · have := (zI_lt (a := z) (b := 0) (by omega) (by omega)).mp h
    omega
  · have h3 := zI_clamp (z := z) h1 (by omega)
    omega
theorem zI_wide {z : Int} (h1 : -2147483648 ≤ z ∧ z < 2147483648) : (zI z).toInt64 = zJ z := by
  apply Int64.toInt_inj.mp
  rw [Int32.toInt_toInt64, zI_toInt h1.1 h1.2]
  unfold zJ
  rw [Int64.toInt_ofInt]
  exact (zbm64 (z := z) (by omega) (by omega)).symm
theorem zJ_toInt {z : Int} (h1 : -9223372036854775808 ≤ z) (h2 : z < 9223372036854775808) : (zJ z).toInt = z := by
  unfold zJ
  rw [Int64.toInt_ofInt]
  exact zbm64 (by omega) (by omega)
theorem zJ_of (x : Int64) : zJ x.toInt = x := Int64.ofInt_toInt x
theorem zJ_add (a b : Int) : zJ a + zJ b = zJ (a + b) := by
  unfold zJ; apply Int64.toInt_inj.mp; rw [Int64.toInt_add]; simp only [Int64.toInt_ofInt]; simp
theorem zJ_mul (a b : Int) : zJ a * zJ b = zJ (a * b) := by
  unfold zJ; apply Int64.toInt_inj.mp; rw [Int64.toInt_mul]; simp only [Int64.toInt_ofInt]; simp
theorem zJ_lt {a b : Int} (h1 : -2147483648 ≤ a ∧ a < 2147483648) (h2 : -2147483648 ≤ b ∧ b < 2147483648) : zJ a < zJ b ↔ a < b := by
  rw [Int64.lt_iff_toInt_lt, zJ_toInt (by omega) (by omega), zJ_toInt (by omega) (by omega)]
theorem zJ_eq {a b : Int} (h1 : -2147483648 ≤ a ∧ a < 2147483648) (h2 : -2147483648 ≤ b ∧ b < 2147483648) : zJ a = zJ b ↔ a = b := by
  rw [← Int64.toInt_inj, zJ_toInt (by omega) (by omega), zJ_toInt (by omega) (by omega)]
theorem zI_byte {z : Int} (h1 : -128 ≤ z) (h2 : z < 128) : (zI z).toInt8.toInt32 = zI z := by
  apply Int32.toInt_inj.mp
  rw [Int8.toInt_toInt32, Int32.toInt_toInt8, zI_toInt (by omega) (by omega)]
  exact zbm8 h1 h2
/-! words: what the tables say, at any state of the run -/
def zst (w : Cond) : Bool := match w with
  | .arrayClass _ => true
  | .fieldLinkNest .. => true
  | .methodLinkNest .. => true
  | w => w.onTables && w.keepsFace
theorem zst_warm {w : Cond} (hw : zst w = true) {A A' : Array Value} {s U : State} (hW : s.WarmedH U.vm) (h : w.before A s = true) : w.before A' U = true := by
  by_cases h1 : (w.onTables && w.keepsFace) = true
  · simp only [Bool.and_eq_true] at h1
    have h2 : w.before A (s.setVm U.vm) = true := Cond.before_shiftedFace (State.Shifted.of_warmed hW) w h1.2 h
    exact va_tabs (u := s.setVm U.vm) h1.1 rfl h2
  · cases w with
    | arrayClass ty => exact word_at hW (Or.inr ⟨ty, rfl⟩) h
    | fieldLinkNest a i b n d x => exact va_Nw.use rfl (va_Nw.warmF hW (va_Nw.of rfl h))
    | methodLinkNest a i x y => exact va_Nw.use rfl (va_Nw.warmM hW (va_Nw.of rfl h))
    | _ => exact absurd hw h1
def zTb (U : State) : Prop := ∀ w ∈ lw_tbl, zst w = true → w.before #[] U = true
theorem zTb.warm {s U : State} (hW : s.WarmedH U.vm) (h : zTb s) : zTb U := fun w hw h1 => zst_warm h1 hW (h w hw h1)
abbrev zWd (w : Cond) : Prop := w ∈ lw_tbl ∧ zst w = true
theorem zTb.at {s : State} (h : zTb s) {w : Cond} (hw : zWd w) (A : Array Value) : w.before A s = true := zst_warm hw.2 (State.WarmedH.refl s) (h w hw.1 hw.2)

/-! what lies outside of the objects: two statics of Throwable, the static row, the texts of the throws, casts that fail -/
def zStrs : List (Nat × String) := [(57, "a byte is not 0 or 32 to 126"), (68, "the buffer would get more than 30 bytes"), (78, "there are 12 lines"), (265, "there is no such line"), (267, "there is no such token"), (125, "a cost is not 0 to 20"), (131, "the line is merged already"), (141, "the format would have more than 40 slots"), (269, "there is no such slot"), (176, "there is no such index in the text"), (228, "the limit is not 0 to 200"), (271, "there is no grouping"), (239, "there is no such group")]
def zNcs : List (String × String) := [("java/lang/IllegalStateException", "java/lang/IllegalArgumentException"), ("java/lang/IllegalStateException", "java/lang/IndexOutOfBoundsException"), ("java/lang/IndexOutOfBoundsException", "java/lang/IllegalStateException")]
def zPer (j : Nat) : Int := [5, 4, 1, 7].getD j 0
def zOutH (A : Nat → Prop) (U : State) (H : Heap) : Prop := vx_Zq Bundle.tN "UNASSIGNED_STACK" Bundle.steD A U H ∧ vx_Zq Bundle.tN "SUPPRESSED_SENTINEL" Bundle.listD A U H ∧ ∃ t : Nat, va_Z "LineLearner" "BITS_A_BYTE" "[I" (.ref t) A U H ∧ va_T .int t 4 (fun j => .int (zI (zPer j))) A U H
def zOutV (U : State) : Prop := (∀ q ∈ zStrs, ∃ sa, vk_R "LineLearner" q.1 q.2 sa U) ∧ (∀ q ∈ zNcs, va_Nc q.1 q.2 U)
theorem zOutH.kept {A : Nat → Prop} {U : State} {H H1 : Heap} (h : zOutH A U H) (hq : ∀ a : Nat, a < H.size → ¬ A a → H1[a]? = H[a]?) : zOutH A U H1 := by
  obtain ⟨h1, h2, t, h3, h4⟩ := h
  exact ⟨h1.kept hq, h2.kept hq, t, h3.kept hq, h4.kept hq⟩
theorem zOutH.moved {A : Nat → Prop} {u U : State} {H : Heap} (hvm : u.vm.Alike U.vm) (h : zOutH A u H) : zOutH A U H := by
  obtain ⟨h1, h2, t, h3, h4⟩ := h
  exact ⟨h1.moved hvm, h2.moved hvm, t, h3.moved hvm, h4.moved hvm⟩
theorem zOutH.narrow {A B : Nat → Prop} {U : State} {H : Heap} (h : zOutH A U H) (hAB : ∀ q, B q → A q) : zOutH B U H := by
  obtain ⟨h1, h2, t, h3, h4⟩ := h
  exact ⟨h1.narrow hAB, h2.narrow hAB, t, h3.narrow hAB, h4.narrow hAB⟩
theorem zOutV.warm {s U : State} (hW : s.WarmedH U.vm) (h : zOutV s) : zOutV U := by
  refine ⟨fun q hq => ?_, fun q hq => (h.2 q hq).moved hW.alike⟩
  obtain ⟨sa, h1⟩ := h.1 q hq
  exact ⟨sa, h1.warm hW⟩
/-! the store: what the cell k holds at the place i; the layout: what kind of cell k is -/
abbrev zStore : Type := Nat → Int → Int
abbrev zSpec : Type := (Nat × List (Option (Option Nat))) ⊕ ((Nat × Nat) ⊕ List (Option Nat))
abbrev zFr : Type := (Nat → Nat) × Nat × (Nat → zSpec)
def zup (I : zStore) (k : Nat) (i v : Int) : zStore := fun a b => if a = k ∧ b = i then v else I a b
theorem zup_at (I : zStore) (k : Nat) (i v : Int) : zup I k i v k i = v := by simp [zup]
theorem zup_k {I : zStore} {k a : Nat} {i v b : Int} (h : a ≠ k) : zup I k i v a b = I a b := by simp [zup, h]
theorem zup_i {I : zStore} {k a : Nat} {i v b : Int} (h : b ≠ i) : zup I k i v a b = I a b := by simp [zup, h]
def zfv (ad : Nat → Nat) (row : Int → Int) : Nat → List (Option (Option Nat)) → List Value
  | _, [] => []
  | j, none :: r => .int (zI (row j)) :: zfv ad row (j + 1) r
  | j, some none :: r => .null :: zfv ad row (j + 1) r
  | j, some (some t) :: r => .ref (ad t) :: zfv ad row (j + 1) r
theorem zfv_int {ad : Nat → Nat} {row : Int → Int} : ∀ {fs : List (Option (Option Nat))} {j k : Nat}, fs[k]? = some none → (zfv ad row j fs)[k]? = some (.int (zI (row ((j + k : Nat) : Int))))
  | none :: r, j, 0, _ => rfl
  | some none :: r, j, 0, h => by cases h
  | some (some t) :: r, j, 0, h => by cases h
  | x :: r, j, k + 1, h => by
    have h1 := zfv_int (ad := ad) (row := row) (fs := r) (j := j + 1) (k := k) h
    rw [show j + (k + 1) = j + 1 + k by omega]
    rcases x with _ | _ | t <;> exact h1
theorem zfv_ref {ad : Nat → Nat} {row : Int → Int} : ∀ {fs : List (Option (Option Nat))} {j k t : Nat}, fs[k]? = some (some (some t)) → (zfv ad row j fs)[k]? = some (.ref (ad t))
  | none :: r, j, 0, t, h => by cases h
  | some none :: r, j, 0, t, h => by cases h
  | some (some t') :: r, j, 0, t, h => by cases h; rfl
  | x :: r, j, k + 1, t, h => by
    have h1 := zfv_ref (ad := ad) (row := row) (fs := r) (j := j + 1) (k := k) (t := t) h
    rcases x with _ | _ | t <;> exact h1
theorem zfv_len {ad : Nat → Nat} {row : Int → Int} : ∀ {fs : List (Option (Option Nat))} {j : Nat}, (zfv ad row j fs).length = fs.length
  | [], _ => rfl
  | x :: r, j => by
    have h1 := zfv_len (ad := ad) (row := row) (fs := r) (j := j + 1)
    rcases x with _ | _ | t <;> (simp only [zfv, List.length_cons]; rw [h1])
theorem zfv_eq {ad : Nat → Nat} {row row' : Int → Int} : ∀ {fs : List (Option (Option Nat))} {j : Nat}, (∀ i : Nat, j ≤ i → row (i : Int) = row' (i : Int)) → zfv ad row j fs = zfv ad row' j fs
  | [], _, _ => rfl
  | x :: r, j, h => by
    have h1 := zfv_eq (ad := ad) (row := row) (row' := row') (fs := r) (j := j + 1) (fun i hi => h i (by omega))
    have h2 := h j (Nat.le_refl j)
    rcases x with _ | _ | t
    · simp only [zfv]; rw [h1, h2]
    · simp only [zfv]; rw [h1]
    · simp only [zfv]; rw [h1]
theorem zfv_put {ad : Nat → Nat} {row row' : Int → Int} {v : Int} : ∀ {fs : List (Option (Option Nat))} {j k : Nat}, fs[k]? = some none → row' ((j + k : Nat) : Int) = v → (∀ i : Nat, i ≠ j + k → row' (i : Int) = row (i : Int)) → (zfv ad row j fs).set k (.int (zI v)) = zfv ad row' j fs
  | none :: r, j, 0, _, h1, h2 => by
    subst h1
    show _ :: _ = _ :: _
    congr 1
    exact zfv_eq fun i hi => (h2 i (by omega)).symm
  | some none :: r, j, 0, h, _, _ => by cases h
  | some (some t) :: r, j, 0, h, _, _ => by cases h
  | x :: r, j, k + 1, h, h1, h2 => by
    have h3 := zfv_put (ad := ad) (row := row) (row' := row') (v := v) (fs := r) (j := j + 1) (k := k) h (by rw [← h1]; congr 2; omega) (fun i hi => h2 i (by omega))
    have h4 : row' (j : Int) = row (j : Int) := h2 j (by omega)
    rcases x with _ | _ | t
    · show _ :: _ = _ :: _
      rw [h4]; congr 1
    · show _ :: _ = _ :: _
      congr 1
    · show _ :: _ = _ :: _
      congr 1

def zar (t : Nat) (row : Int → Int) : (Nat → Int32) ⊕ (Nat → Int64) ⊕ (Nat → UInt32) ⊕ (Nat → UInt64) ⊕ (Nat → Option Nat) := if t = 3 then .inr (.inl (fun j => zJ (row (j : Int)))) else .inl (fun j => zI (row (j : Int)))
def zE (cs : Nat → ClassId) (F : zFr) (I : zStore) (k : Nat) : va_E := match F.2.2 k with
  | .inl q => .inr (q.1, zfv F.1 (I k) 0 q.2)
  | .inr (.inl q) => .inl (cs q.1, q.2, zar q.1 (I k))
  | .inr (.inr r) => .inl (cs 4, r.length, .inr (.inr (.inr (.inr (fun j => (r.getD j none).map F.1)))))
def zws (cs : Nat → ClassId) (F : zFr) (I : zStore) : va_W := (List.range F.2.1).map (fun k => (F.1 k, zE cs F I k))
theorem zE_obj {cs : Nat → ClassId} {F : zFr} {I : zStore} {k ci : Nat} {fs : List (Option (Option Nat))} (h : F.2.2 k = .inl (ci, fs)) : zE cs F I k = .inr (ci, zfv F.1 (I k) 0 fs) := by unfold zE; rw [h]
theorem zE_arr {cs : Nat → ClassId} {F : zFr} {I : zStore} {k t n : Nat} (h : F.2.2 k = .inr (.inl (t, n))) : zE cs F I k = .inl (cs t, n, zar t (I k)) := by unfold zE; rw [h]
theorem zE_row {cs : Nat → ClassId} {F : zFr} {I : zStore} {k : Nat} {r : List (Option Nat)} (h : F.2.2 k = .inr (.inr r)) : zE cs F I k = .inl (cs 4, r.length, .inr (.inr (.inr (.inr (fun j => (r.getD j none).map F.1))))) := by unfold zE; rw [h]
theorem zws_get {cs : Nat → ClassId} {F : zFr} {I : zStore} {k : Nat} (h : k < F.2.1) : (zws cs F I)[k]? = some (F.1 k, zE cs F I k) := by
  unfold zws
  rw [List.getElem?_map, List.getElem?_range h]; rfl
theorem zws_len {cs : Nat → ClassId} {F : zFr} {I : zStore} : (zws cs F I).length = F.2.1 := by simp [zws]
theorem zws_set {cs : Nat → ClassId} {F : zFr} {I I' : zStore} {k : Nat} {e : va_E} (h : k < F.2.1) (he : zE cs F I' k = e) (ho : ∀ j, j < F.2.1 → j ≠ k → zE cs F I' j = zE cs F I j) : (zws cs F I).set k (F.1 k, e) = zws cs F I' := by
  apply List.ext_getElem?
  intro j
  rw [List.getElem?_set]
  by_cases hj : k = j
  · subst hj
    rw [if_pos rfl, if_pos (by rw [zws_len]; exact h), zws_get h, he]
  · rw [if_neg hj]
    by_cases hn : j < F.2.1
    · rw [zws_get hn, zws_get hn, ho j hn (Ne.symm hj)]
    · rw [List.getElem?_eq_none (by rw [zws_len]; omega), List.getElem?_eq_none (by rw [zws_len]; omega)]
theorem zE_congr {cs : Nat → ClassId} {F : zFr} {I I' : zStore} {k : Nat} (h : ∀ i, I' k i = I k i) : zE cs F I' k = zE cs F I k := by
  have h1 : I' k = I k := funext h
  unfold zE; rw [h1]
theorem zws_up {cs : Nat → ClassId} {F : zFr} {I : zStore} {k : Nat} {i v : Int} {e : va_E} (h : k < F.2.1) (he : zE cs F (zup I k i v) k = e) : (zws cs F I).set k (F.1 k, e) = zws cs F (zup I k i v) :=
  zws_set h he fun j _ hj => zE_congr fun b => zup_k hj
def zAd (F : zFr) (sz : Nat) : Nat → Prop := fun q => (∃ k, k < F.2.1 ∧ q = F.1 k) ∨ sz ≤ q
theorem zD_inj {cs : Nat → ClassId} {F : zFr} {I : zStore} {A : Nat → Prop} (h : va_D A (zws cs F I)) : ∀ i j, i < F.2.1 → j < F.2.1 → F.1 i = F.1 j → i = j :=
  fun i j hi hj e => h.1 i j _ _ (zws_get hi) (zws_get hj) e
theorem zD_in {cs : Nat → ClassId} {F : zFr} {I : zStore} {A : Nat → Prop} (h : va_D A (zws cs F I)) {k : Nat} (hk : k < F.2.1) : A (F.1 k) := h.2 k _ (zws_get hk)
theorem zD_of {cs : Nat → ClassId} {F : zFr} {I : zStore} {A : Nat → Prop} (h : ∀ i j, i < F.2.1 → j < F.2.1 → F.1 i = F.1 j → i = j) (hA : ∀ k, k < F.2.1 → A (F.1 k)) : va_D A (zws cs F I) := by
  have hlt : ∀ (k : Nat) (q : Nat × va_E), (zws cs F I)[k]? = some q → k < F.2.1 ∧ q.1 = F.1 k := by
    intro k q hq
    have h1 : k < F.2.1 := by
      have := (List.getElem?_eq_some_iff.mp hq).1
      rwa [zws_len] at this
    refine ⟨h1, ?_⟩
    rw [zws_get h1] at hq
    exact (congrArg Prod.fst (Option.some.inj hq)).symm
  refine ⟨fun i j p q hi hj e => ?_, fun k q hq => ?_⟩
  · have h1 := hlt i p hi
    have h2 := hlt j q hj
    exact h i j h1.1 h2.1 (by rw [← h1.2, ← h2.2]; exact e)
  · have h1 := hlt k q hq
    rw [h1.2]; exact hA k h1.1
def ztys (cs : Nat → ClassId) : List (ClassId × FieldType) := [(cs 0, .int), (cs 1, .byte), (cs 2, .boolean), (cs 3, .long), (cs 4, .object "LineLearner$Format")]
end
section
theorem kw0 : zWd (Jvm.Cond.initialized "LineLearnerLaw") := ⟨List.mem_of_getElem? (i := 40) (by decide +kernel), by decide +kernel⟩
theorem kw1 : zWd (Jvm.Cond.initialized "LineLearner") := ⟨List.mem_of_getElem? (i := 41) (by decide +kernel), by decide +kernel⟩
theorem kw2 : zWd (Jvm.Cond.initialized "LineLearner$Lines") := ⟨List.mem_of_getElem? (i := 42) (by decide +kernel), by decide +kernel⟩
theorem kw3 : zWd (Jvm.Cond.initialized "LineLearner$Aligner") := ⟨List.mem_of_getElem? (i := 43) (by decide +kernel), by decide +kernel⟩
theorem kw4 : zWd (Jvm.Cond.initialized "LineLearner$Format") := ⟨List.mem_of_getElem? (i := 44) (by decide +kernel), by decide +kernel⟩
theorem kw5 : zWd (Jvm.Cond.initialized "LineLearnerModel") := ⟨List.mem_of_getElem? (i := 45) (by decide +kernel), by decide +kernel⟩
theorem kw6 : zWd (Jvm.Cond.initialized "java/lang/Throwable") := ⟨List.mem_of_getElem? (i := 46) (by decide +kernel), by decide +kernel⟩
theorem kw7 : zWd (Jvm.Cond.initialized "java/lang/Exception") := ⟨List.mem_of_getElem? (i := 47) (by decide +kernel), by decide +kernel⟩
theorem kw8 : zWd (Jvm.Cond.initialized "java/lang/RuntimeException") := ⟨List.mem_of_getElem? (i := 48) (by decide +kernel), by decide +kernel⟩
theorem kw9 : zWd (Jvm.Cond.initialized "java/lang/IllegalArgumentException") := ⟨List.mem_of_getElem? (i := 49) (by decide +kernel), by decide +kernel⟩
theorem kw10 : zWd (Jvm.Cond.initialized "java/lang/IllegalStateException") := ⟨List.mem_of_getElem? (i := 50) (by decide +kernel), by decide +kernel⟩
theorem kw11 : zWd (Jvm.Cond.initialized "java/lang/IndexOutOfBoundsException") := ⟨List.mem_of_getElem? (i := 51) (by decide +kernel), by decide +kernel⟩
theorem kw12 : zWd (Jvm.Cond.initialized "java/lang/Math") := ⟨List.mem_of_getElem? (i := 52) (by decide +kernel), by decide +kernel⟩
theorem kw13 : zWd (Jvm.Cond.initialized "java/lang/Integer") := ⟨List.mem_of_getElem? (i := 53) (by decide +kernel), by decide +kernel⟩
theorem kw14 : zWd (Jvm.Cond.classLink "LineLearnerLaw" (8 : Nat) "LineLearner") := ⟨List.mem_of_getElem? (i := 54) (by decide +kernel), by decide +kernel⟩
theorem kw15 : zWd (Jvm.Cond.instantiable "LineLearner" (11 : Nat)) := ⟨List.mem_of_getElem? (i := 55) (by decide +kernel), by decide +kernel⟩
theorem kw16 : zWd (Jvm.Cond.methodLink "LineLearnerLaw" (91 : Nat) ({ cls := "LineLearner", name := "<init>", desc := "()V" } : Jvm.MethodName)) := ⟨List.mem_of_getElem? (i := 56) (by decide +kernel), by decide +kernel⟩
theorem kw17 : zWd (Jvm.Cond.instanceMethod ({ cls := "LineLearner", name := "<init>", desc := "()V" } : Jvm.MethodName)) := ⟨List.mem_of_getElem? (i := 57) (by decide +kernel), by decide +kernel⟩
theorem kw18 : zWd (Jvm.Cond.code ({ cls := "LineLearner", name := "<init>", desc := "()V" } : Jvm.MethodName) prog_1_method_1_code (2 : Nat) (Option.none : Option Jvm.ClassFile.FieldType)) := ⟨List.mem_of_getElem? (i := 58) (by decide +kernel), by decide +kernel⟩
theorem kw19 : zWd (Jvm.Cond.methodLink "LineLearner" (3 : Nat) ({ cls := "java/lang/Object", name := "<init>", desc := "()V" } : Jvm.MethodName)) := ⟨List.mem_of_getElem? (i := 59) (by decide +kernel), by decide +kernel⟩
theorem kw20 : zWd (Jvm.Cond.instanceMethod ({ cls := "java/lang/Object", name := "<init>", desc := "()V" } : Jvm.MethodName)) := ⟨List.mem_of_getElem? (i := 60) (by decide +kernel), by decide +kernel⟩
theorem kw21 : zWd (Jvm.Cond.code ({ cls := "java/lang/Object", name := "<init>", desc := "()V" } : Jvm.MethodName) object_method_1_code (1 : Nat) (Option.none : Option Jvm.ClassFile.FieldType)) := ⟨List.mem_of_getElem? (i := 61) (by decide +kernel), by decide +kernel⟩
theorem kw22 : zWd (Jvm.Cond.classLink "LineLearner" (13 : Nat) "LineLearner$Lines") := ⟨List.mem_of_getElem? (i := 62) (by decide +kernel), by decide +kernel⟩
theorem kw23 : zWd (Jvm.Cond.instantiable "LineLearner$Lines" (8 : Nat)) := ⟨List.mem_of_getElem? (i := 63) (by decide +kernel), by decide +kernel⟩
theorem kw24 : zWd (Jvm.Cond.methodLinkNest "LineLearner" (15 : Nat) ({ cls := "LineLearner$Lines", name := "<init>", desc := "()V" } : Jvm.MethodName) "LineLearner") := ⟨List.mem_of_getElem? (i := 64) (by decide +kernel), by decide +kernel⟩
theorem kw25 : zWd (Jvm.Cond.instanceMethod ({ cls := "LineLearner$Lines", name := "<init>", desc := "()V" } : Jvm.MethodName)) := ⟨List.mem_of_getElem? (i := 65) (by decide +kernel), by decide +kernel⟩
theorem kw26 : zWd (Jvm.Cond.code ({ cls := "LineLearner$Lines", name := "<init>", desc := "()V" } : Jvm.MethodName) prog_4_method_1_code (1 : Nat) (Option.none : Option Jvm.ClassFile.FieldType)) := ⟨List.mem_of_getElem? (i := 66) (by decide +kernel), by decide +kernel⟩
theorem kw27 : zWd (Jvm.Cond.methodLink "LineLearner$Lines" (3 : Nat) ({ cls := "java/lang/Object", name := "<init>", desc := "()V" } : Jvm.MethodName)) := ⟨List.mem_of_getElem? (i := 67) (by decide +kernel), by decide +kernel⟩
theorem kw28 : zWd (Jvm.Cond.fieldLink "LineLearner$Lines" (34 : Nat) "LineLearner$Lines" "count" "I") := ⟨List.mem_of_getElem? (i := 68) (by decide +kernel), by decide +kernel⟩
theorem kw29 : zWd (Jvm.Cond.fieldLinkNest "LineLearner" (75 : Nat) "LineLearner$Lines" "count" "I" "LineLearner") := ⟨List.mem_of_getElem? (i := 69) (by decide +kernel), by decide +kernel⟩
theorem kw30 : zWd (Jvm.Cond.fieldLink "LineLearner$Lines" (9 : Nat) "LineLearner$Lines" "sizes" "[I") := ⟨List.mem_of_getElem? (i := 70) (by decide +kernel), by decide +kernel⟩
theorem kw31 : zWd (Jvm.Cond.fieldLinkNest "LineLearner" (221 : Nat) "LineLearner$Lines" "sizes" "[I" "LineLearner") := ⟨List.mem_of_getElem? (i := 71) (by decide +kernel), by decide +kernel⟩
theorem kw32 : zWd (Jvm.Cond.fieldLink "LineLearner$Lines" (15 : Nat) "LineLearner$Lines" "tokenCounts" "[I") := ⟨List.mem_of_getElem? (i := 72) (by decide +kernel), by decide +kernel⟩
theorem kw33 : zWd (Jvm.Cond.fieldLinkNest "LineLearner$Aligner" (39 : Nat) "LineLearner$Lines" "tokenCounts" "[I" "LineLearner") := ⟨List.mem_of_getElem? (i := 73) (by decide +kernel), by decide +kernel⟩
theorem kw34 : zWd (Jvm.Cond.fieldLinkNest "LineLearner" (92 : Nat) "LineLearner$Lines" "tokenCounts" "[I" "LineLearner") := ⟨List.mem_of_getElem? (i := 74) (by decide +kernel), by decide +kernel⟩
theorem kw35 : zWd (Jvm.Cond.fieldLink "LineLearner$Lines" (18 : Nat) "LineLearner$Lines" "bytes" "[B") := ⟨List.mem_of_getElem? (i := 75) (by decide +kernel), by decide +kernel⟩
theorem kw36 : zWd (Jvm.Cond.fieldLinkNest "LineLearner" (179 : Nat) "LineLearner$Lines" "bytes" "[B" "LineLearner") := ⟨List.mem_of_getElem? (i := 76) (by decide +kernel), by decide +kernel⟩
theorem kw37 : zWd (Jvm.Cond.fieldLink "LineLearner$Lines" (22 : Nat) "LineLearner$Lines" "kinds" "[I") := ⟨List.mem_of_getElem? (i := 77) (by decide +kernel), by decide +kernel⟩
theorem kw38 : zWd (Jvm.Cond.fieldLinkNest "LineLearner$Format" (37 : Nat) "LineLearner$Lines" "kinds" "[I" "LineLearner") := ⟨List.mem_of_getElem? (i := 78) (by decide +kernel), by decide +kernel⟩
theorem kw39 : zWd (Jvm.Cond.fieldLinkNest "LineLearner$Aligner" (80 : Nat) "LineLearner$Lines" "kinds" "[I" "LineLearner") := ⟨List.mem_of_getElem? (i := 79) (by decide +kernel), by decide +kernel⟩
theorem kw40 : zWd (Jvm.Cond.fieldLinkNest "LineLearner" (99 : Nat) "LineLearner$Lines" "kinds" "[I" "LineLearner") := ⟨List.mem_of_getElem? (i := 80) (by decide +kernel), by decide +kernel⟩
theorem kw41 : zWd (Jvm.Cond.fieldLink "LineLearner$Lines" (25 : Nat) "LineLearner$Lines" "starts" "[I") := ⟨List.mem_of_getElem? (i := 81) (by decide +kernel), by decide +kernel⟩
theorem kw42 : zWd (Jvm.Cond.fieldLinkNest "LineLearner" (106 : Nat) "LineLearner$Lines" "starts" "[I" "LineLearner") := ⟨List.mem_of_getElem? (i := 82) (by decide +kernel), by decide +kernel⟩
theorem kw43 : zWd (Jvm.Cond.fieldLink "LineLearner$Lines" (28 : Nat) "LineLearner$Lines" "tokenSizes" "[I") := ⟨List.mem_of_getElem? (i := 83) (by decide +kernel), by decide +kernel⟩
theorem kw44 : zWd (Jvm.Cond.fieldLinkNest "LineLearner$Format" (41 : Nat) "LineLearner$Lines" "tokenSizes" "[I" "LineLearner") := ⟨List.mem_of_getElem? (i := 84) (by decide +kernel), by decide +kernel⟩
theorem kw45 : zWd (Jvm.Cond.fieldLinkNest "LineLearner$Aligner" (113 : Nat) "LineLearner$Lines" "tokenSizes" "[I" "LineLearner") := ⟨List.mem_of_getElem? (i := 85) (by decide +kernel), by decide +kernel⟩
theorem kw46 : zWd (Jvm.Cond.fieldLinkNest "LineLearner" (171 : Nat) "LineLearner$Lines" "tokenSizes" "[I" "LineLearner") := ⟨List.mem_of_getElem? (i := 86) (by decide +kernel), by decide +kernel⟩
theorem kw47 : zWd (Jvm.Cond.fieldLink "LineLearner$Lines" (31 : Nat) "LineLearner$Lines" "texts" "[I") := ⟨List.mem_of_getElem? (i := 87) (by decide +kernel), by decide +kernel⟩
theorem kw48 : zWd (Jvm.Cond.fieldLinkNest "LineLearner$Format" (40 : Nat) "LineLearner$Lines" "texts" "[I" "LineLearner") := ⟨List.mem_of_getElem? (i := 88) (by decide +kernel), by decide +kernel⟩
theorem kw49 : zWd (Jvm.Cond.fieldLinkNest "LineLearner$Aligner" (84 : Nat) "LineLearner$Lines" "texts" "[I" "LineLearner") := ⟨List.mem_of_getElem? (i := 89) (by decide +kernel), by decide +kernel⟩
theorem kw50 : zWd (Jvm.Cond.fieldLinkNest "LineLearner" (118 : Nat) "LineLearner$Lines" "texts" "[I" "LineLearner") := ⟨List.mem_of_getElem? (i := 90) (by decide +kernel), by decide +kernel⟩
theorem kw68 : zWd (Jvm.Cond.arrayClass Jvm.ClassFile.FieldType.byte) := ⟨List.mem_of_getElem? (i := 108) (by decide +kernel), by decide +kernel⟩
theorem kw69 : zWd (Jvm.Cond.arrayClass Jvm.ClassFile.FieldType.int) := ⟨List.mem_of_getElem? (i := 109) (by decide +kernel), by decide +kernel⟩
theorem kw70 : zWd (Jvm.Cond.classLink "LineLearner" (20 : Nat) "LineLearner$Aligner") := ⟨List.mem_of_getElem? (i := 110) (by decide +kernel), by decide +kernel⟩
theorem kw71 : zWd (Jvm.Cond.instantiable "LineLearner$Aligner" (10 : Nat)) := ⟨List.mem_of_getElem? (i := 111) (by decide +kernel), by decide +kernel⟩
theorem kw72 : zWd (Jvm.Cond.methodLink "LineLearner" (22 : Nat) ({ cls := "LineLearner$Aligner", name := "<init>", desc := "(LLineLearner$Lines;)V" } : Jvm.MethodName)) := ⟨List.mem_of_getElem? (i := 112) (by decide +kernel), by decide +kernel⟩
theorem kw73 : zWd (Jvm.Cond.instanceMethod ({ cls := "LineLearner$Aligner", name := "<init>", desc := "(LLineLearner$Lines;)V" } : Jvm.MethodName)) := ⟨List.mem_of_getElem? (i := 113) (by decide +kernel), by decide +kernel⟩
theorem kw74 : zWd (Jvm.Cond.code ({ cls := "LineLearner$Aligner", name := "<init>", desc := "(LLineLearner$Lines;)V" } : Jvm.MethodName) prog_2_method_1_code (2 : Nat) (Option.none : Option Jvm.ClassFile.FieldType)) := ⟨List.mem_of_getElem? (i := 114) (by decide +kernel), by decide +kernel⟩
theorem kw75 : zWd (Jvm.Cond.methodLink "LineLearner$Aligner" (3 : Nat) ({ cls := "java/lang/Object", name := "<init>", desc := "()V" } : Jvm.MethodName)) := ⟨List.mem_of_getElem? (i := 115) (by decide +kernel), by decide +kernel⟩
theorem kw76 : zWd (Jvm.Cond.fieldLink "LineLearner$Aligner" (35 : Nat) "LineLearner$Aligner" "lines" "LLineLearner$Lines;") := ⟨List.mem_of_getElem? (i := 116) (by decide +kernel), by decide +kernel⟩
theorem kw77 : zWd (Jvm.Cond.fieldLink "LineLearner$Aligner" (9 : Nat) "LineLearner$Aligner" "change" "I") := ⟨List.mem_of_getElem? (i := 117) (by decide +kernel), by decide +kernel⟩
theorem kw78 : zWd (Jvm.Cond.fieldLinkNest "LineLearner" (251 : Nat) "LineLearner$Aligner" "change" "I" "LineLearner") := ⟨List.mem_of_getElem? (i := 118) (by decide +kernel), by decide +kernel⟩
theorem kw79 : zWd (Jvm.Cond.fieldLink "LineLearner$Aligner" (15 : Nat) "LineLearner$Aligner" "skip" "I") := ⟨List.mem_of_getElem? (i := 119) (by decide +kernel), by decide +kernel⟩
theorem kw80 : zWd (Jvm.Cond.fieldLinkNest "LineLearner" (254 : Nat) "LineLearner$Aligner" "skip" "I" "LineLearner") := ⟨List.mem_of_getElem? (i := 120) (by decide +kernel), by decide +kernel⟩
theorem kw81 : zWd (Jvm.Cond.fieldLink "LineLearner$Aligner" (18 : Nat) "LineLearner$Aligner" "fresh" "I") := ⟨List.mem_of_getElem? (i := 121) (by decide +kernel), by decide +kernel⟩
theorem kw82 : zWd (Jvm.Cond.fieldLinkNest "LineLearner" (257 : Nat) "LineLearner$Aligner" "fresh" "I" "LineLearner") := ⟨List.mem_of_getElem? (i := 122) (by decide +kernel), by decide +kernel⟩
theorem kw83 : zWd (Jvm.Cond.fieldLink "LineLearner$Aligner" (21 : Nat) "LineLearner$Aligner" "costs" "[I") := ⟨List.mem_of_getElem? (i := 123) (by decide +kernel), by decide +kernel⟩
theorem kw84 : zWd (Jvm.Cond.fieldLink "LineLearner$Aligner" (25 : Nat) "LineLearner$Aligner" "steps" "[I") := ⟨List.mem_of_getElem? (i := 124) (by decide +kernel), by decide +kernel⟩
theorem kw85 : zWd (Jvm.Cond.fieldLink "LineLearner$Aligner" (95 : Nat) "LineLearner$Aligner" "stepCount" "I") := ⟨List.mem_of_getElem? (i := 125) (by decide +kernel), by decide +kernel⟩
theorem kw86 : zWd (Jvm.Cond.fieldLink "LineLearner$Aligner" (88 : Nat) "LineLearner$Aligner" "freshCount" "I") := ⟨List.mem_of_getElem? (i := 126) (by decide +kernel), by decide +kernel⟩
theorem kw87 : zWd (Jvm.Cond.fieldLink "LineLearner$Aligner" (28 : Nat) "LineLearner$Aligner" "slotsOfTokens" "[I") := ⟨List.mem_of_getElem? (i := 127) (by decide +kernel), by decide +kernel⟩
theorem kw88 : zWd (Jvm.Cond.fieldLinkNest "LineLearner" (147 : Nat) "LineLearner$Aligner" "slotsOfTokens" "[I" "LineLearner") := ⟨List.mem_of_getElem? (i := 128) (by decide +kernel), by decide +kernel⟩
theorem kw89 : zWd (Jvm.Cond.fieldLink "LineLearner$Aligner" (31 : Nat) "LineLearner$Aligner" "reached" "[Z") := ⟨List.mem_of_getElem? (i := 129) (by decide +kernel), by decide +kernel⟩
theorem kw111 : zWd (Jvm.Cond.arrayClass Jvm.ClassFile.FieldType.boolean) := ⟨List.mem_of_getElem? (i := 151) (by decide +kernel), by decide +kernel⟩
theorem kw112 : zWd (Jvm.Cond.classLink "LineLearner" (29 : Nat) "LineLearner$Format") := ⟨List.mem_of_getElem? (i := 152) (by decide +kernel), by decide +kernel⟩
theorem kw113 : zWd (Jvm.Cond.instantiable "LineLearner$Format" (8 : Nat)) := ⟨List.mem_of_getElem? (i := 153) (by decide +kernel), by decide +kernel⟩
theorem kw114 : zWd (Jvm.Cond.methodLinkNest "LineLearner" (31 : Nat) ({ cls := "LineLearner$Format", name := "<init>", desc := "()V" } : Jvm.MethodName) "LineLearner") := ⟨List.mem_of_getElem? (i := 154) (by decide +kernel), by decide +kernel⟩
theorem kw115 : zWd (Jvm.Cond.instanceMethod ({ cls := "LineLearner$Format", name := "<init>", desc := "()V" } : Jvm.MethodName)) := ⟨List.mem_of_getElem? (i := 155) (by decide +kernel), by decide +kernel⟩
theorem kw116 : zWd (Jvm.Cond.code ({ cls := "LineLearner$Format", name := "<init>", desc := "()V" } : Jvm.MethodName) prog_3_method_1_code (1 : Nat) (Option.none : Option Jvm.ClassFile.FieldType)) := ⟨List.mem_of_getElem? (i := 156) (by decide +kernel), by decide +kernel⟩
theorem kw117 : zWd (Jvm.Cond.methodLink "LineLearner$Format" (3 : Nat) ({ cls := "java/lang/Object", name := "<init>", desc := "()V" } : Jvm.MethodName)) := ⟨List.mem_of_getElem? (i := 157) (by decide +kernel), by decide +kernel⟩
theorem kw118 : zWd (Jvm.Cond.fieldLink "LineLearner$Format" (30 : Nat) "LineLearner$Format" "size" "I") := ⟨List.mem_of_getElem? (i := 158) (by decide +kernel), by decide +kernel⟩
theorem kw119 : zWd (Jvm.Cond.fieldLinkNest "LineLearner$Aligner" (44 : Nat) "LineLearner$Format" "size" "I" "LineLearner") := ⟨List.mem_of_getElem? (i := 159) (by decide +kernel), by decide +kernel⟩
theorem kw120 : zWd (Jvm.Cond.fieldLinkNest "LineLearner" (163 : Nat) "LineLearner$Format" "size" "I" "LineLearner") := ⟨List.mem_of_getElem? (i := 160) (by decide +kernel), by decide +kernel⟩
theorem kw121 : zWd (Jvm.Cond.fieldLink "LineLearner$Format" (34 : Nat) "LineLearner$Format" "joinedLines" "I") := ⟨List.mem_of_getElem? (i := 161) (by decide +kernel), by decide +kernel⟩
theorem kw122 : zWd (Jvm.Cond.fieldLinkNest "LineLearner$Aligner" (106 : Nat) "LineLearner$Format" "joinedLines" "I" "LineLearner") := ⟨List.mem_of_getElem? (i := 162) (by decide +kernel), by decide +kernel⟩
theorem kw123 : zWd (Jvm.Cond.fieldLinkNest "LineLearner" (150 : Nat) "LineLearner$Format" "joinedLines" "I" "LineLearner") := ⟨List.mem_of_getElem? (i := 163) (by decide +kernel), by decide +kernel⟩
theorem kw124 : zWd (Jvm.Cond.fieldLink "LineLearner$Format" (9 : Nat) "LineLearner$Format" "order" "[I") := ⟨List.mem_of_getElem? (i := 164) (by decide +kernel), by decide +kernel⟩
theorem kw125 : zWd (Jvm.Cond.fieldLinkNest "LineLearner$Aligner" (53 : Nat) "LineLearner$Format" "order" "[I" "LineLearner") := ⟨List.mem_of_getElem? (i := 165) (by decide +kernel), by decide +kernel⟩
theorem kw126 : zWd (Jvm.Cond.fieldLinkNest "LineLearner" (206 : Nat) "LineLearner$Format" "order" "[I" "LineLearner") := ⟨List.mem_of_getElem? (i := 166) (by decide +kernel), by decide +kernel⟩
theorem kw127 : zWd (Jvm.Cond.fieldLink "LineLearner$Format" (15 : Nat) "LineLearner$Format" "kinds" "[I") := ⟨List.mem_of_getElem? (i := 167) (by decide +kernel), by decide +kernel⟩
theorem kw128 : zWd (Jvm.Cond.fieldLinkNest "LineLearner$Aligner" (77 : Nat) "LineLearner$Format" "kinds" "[I" "LineLearner") := ⟨List.mem_of_getElem? (i := 168) (by decide +kernel), by decide +kernel⟩
theorem kw129 : zWd (Jvm.Cond.fieldLinkNest "LineLearner" (166 : Nat) "LineLearner$Format" "kinds" "[I" "LineLearner") := ⟨List.mem_of_getElem? (i := 169) (by decide +kernel), by decide +kernel⟩
theorem kw130 : zWd (Jvm.Cond.fieldLink "LineLearner$Format" (18 : Nat) "LineLearner$Format" "texts" "[I") := ⟨List.mem_of_getElem? (i := 170) (by decide +kernel), by decide +kernel⟩
theorem kw131 : zWd (Jvm.Cond.fieldLinkNest "LineLearner$Aligner" (81 : Nat) "LineLearner$Format" "texts" "[I" "LineLearner") := ⟨List.mem_of_getElem? (i := 171) (by decide +kernel), by decide +kernel⟩
theorem kw132 : zWd (Jvm.Cond.fieldLinkNest "LineLearner" (170 : Nat) "LineLearner$Format" "texts" "[I" "LineLearner") := ⟨List.mem_of_getElem? (i := 172) (by decide +kernel), by decide +kernel⟩
theorem kw133 : zWd (Jvm.Cond.fieldLink "LineLearner$Format" (21 : Nat) "LineLearner$Format" "least" "[I") := ⟨List.mem_of_getElem? (i := 173) (by decide +kernel), by decide +kernel⟩
theorem kw134 : zWd (Jvm.Cond.fieldLinkNest "LineLearner$Aligner" (116 : Nat) "LineLearner$Format" "least" "[I" "LineLearner") := ⟨List.mem_of_getElem? (i := 174) (by decide +kernel), by decide +kernel⟩
theorem kw135 : zWd (Jvm.Cond.fieldLinkNest "LineLearner" (185 : Nat) "LineLearner$Format" "least" "[I" "LineLearner") := ⟨List.mem_of_getElem? (i := 175) (by decide +kernel), by decide +kernel⟩
theorem kw136 : zWd (Jvm.Cond.fieldLink "LineLearner$Format" (24 : Nat) "LineLearner$Format" "greatest" "[I") := ⟨List.mem_of_getElem? (i := 176) (by decide +kernel), by decide +kernel⟩
theorem kw137 : zWd (Jvm.Cond.fieldLinkNest "LineLearner$Aligner" (119 : Nat) "LineLearner$Format" "greatest" "[I" "LineLearner") := ⟨List.mem_of_getElem? (i := 177) (by decide +kernel), by decide +kernel⟩
theorem kw138 : zWd (Jvm.Cond.fieldLinkNest "LineLearner" (182 : Nat) "LineLearner$Format" "greatest" "[I" "LineLearner") := ⟨List.mem_of_getElem? (i := 178) (by decide +kernel), by decide +kernel⟩
theorem kw139 : zWd (Jvm.Cond.fieldLink "LineLearner$Format" (27 : Nat) "LineLearner$Format" "useCounts" "[I") := ⟨List.mem_of_getElem? (i := 179) (by decide +kernel), by decide +kernel⟩
theorem kw140 : zWd (Jvm.Cond.fieldLinkNest "LineLearner" (188 : Nat) "LineLearner$Format" "useCounts" "[I" "LineLearner") := ⟨List.mem_of_getElem? (i := 180) (by decide +kernel), by decide +kernel⟩
theorem kw159 : zWd (Jvm.Cond.fieldLink "LineLearner" (9 : Nat) "LineLearner" "buffer" "[B") := ⟨List.mem_of_getElem? (i := 199) (by decide +kernel), by decide +kernel⟩
theorem kw160 : zWd (Jvm.Cond.fieldLink "LineLearner" (62 : Nat) "LineLearner" "buffered" "I") := ⟨List.mem_of_getElem? (i := 200) (by decide +kernel), by decide +kernel⟩
theorem kw161 : zWd (Jvm.Cond.fieldLink "LineLearner" (16 : Nat) "LineLearner" "lines" "LLineLearner$Lines;") := ⟨List.mem_of_getElem? (i := 201) (by decide +kernel), by decide +kernel⟩
theorem kw162 : zWd (Jvm.Cond.fieldLink "LineLearner" (25 : Nat) "LineLearner" "aligner" "LLineLearner$Aligner;") := ⟨List.mem_of_getElem? (i := 202) (by decide +kernel), by decide +kernel⟩
theorem kw163 : zWd (Jvm.Cond.fieldLink "LineLearner" (32 : Nat) "LineLearner" "format" "LLineLearner$Format;") := ⟨List.mem_of_getElem? (i := 203) (by decide +kernel), by decide +kernel⟩
theorem kw164 : zWd (Jvm.Cond.fieldLink "LineLearner" (36 : Nat) "LineLearner" "merged" "[Z") := ⟨List.mem_of_getElem? (i := 204) (by decide +kernel), by decide +kernel⟩
theorem kw165 : zWd (Jvm.Cond.fieldLink "LineLearner" (40 : Nat) "LineLearner" "usedSlots" "[I") := ⟨List.mem_of_getElem? (i := 205) (by decide +kernel), by decide +kernel⟩
theorem kw166 : zWd (Jvm.Cond.fieldLink "LineLearner" (84 : Nat) "LineLearner" "isGrouped" "Z") := ⟨List.mem_of_getElem? (i := 206) (by decide +kernel), by decide +kernel⟩
theorem kw167 : zWd (Jvm.Cond.fieldLink "LineLearner" (230 : Nat) "LineLearner" "groupCount" "I") := ⟨List.mem_of_getElem? (i := 207) (by decide +kernel), by decide +kernel⟩
theorem kw168 : zWd (Jvm.Cond.fieldLink "LineLearner" (44 : Nat) "LineLearner" "groupsOfLines" "[I") := ⟨List.mem_of_getElem? (i := 208) (by decide +kernel), by decide +kernel⟩
theorem kw169 : zWd (Jvm.Cond.fieldLink "LineLearner" (47 : Nat) "LineLearner" "groupFormats" "[LLineLearner$Format;") := ⟨List.mem_of_getElem? (i := 209) (by decide +kernel), by decide +kernel⟩
theorem kw193 : zWd (Jvm.Cond.methodLink "LineLearnerLaw" (110 : Nat) ({ cls := "LineLearner", name := "lineCount", desc := "()I" } : Jvm.MethodName)) := ⟨List.mem_of_getElem? (i := 233) (by decide +kernel), by decide +kernel⟩
theorem kw194 : zWd (Jvm.Cond.instanceMethod ({ cls := "LineLearner", name := "lineCount", desc := "()I" } : Jvm.MethodName)) := ⟨List.mem_of_getElem? (i := 234) (by decide +kernel), by decide +kernel⟩
theorem kw195 : zWd (Jvm.Cond.selects "LineLearner" ({ cls := "LineLearner", name := "lineCount", desc := "()I" } : Jvm.MethodName) ({ cls := "LineLearner", name := "lineCount", desc := "()I" } : Jvm.MethodName)) := ⟨List.mem_of_getElem? (i := 235) (by decide +kernel), by decide +kernel⟩
theorem kw196 : zWd (Jvm.Cond.code ({ cls := "LineLearner", name := "lineCount", desc := "()I" } : Jvm.MethodName) prog_1_method_6_code (1 : Nat) (Option.some Jvm.ClassFile.FieldType.int)) := ⟨List.mem_of_getElem? (i := 236) (by decide +kernel), by decide +kernel⟩
theorem kw197 : zWd (Jvm.Cond.methodLink "LineLearnerLaw" (135 : Nat) ({ cls := "LineLearner", name := "clear", desc := "()I" } : Jvm.MethodName)) := ⟨List.mem_of_getElem? (i := 237) (by decide +kernel), by decide +kernel⟩
theorem kw198 : zWd (Jvm.Cond.instanceMethod ({ cls := "LineLearner", name := "clear", desc := "()I" } : Jvm.MethodName)) := ⟨List.mem_of_getElem? (i := 238) (by decide +kernel), by decide +kernel⟩
theorem kw199 : zWd (Jvm.Cond.selects "LineLearner" ({ cls := "LineLearner", name := "clear", desc := "()I" } : Jvm.MethodName) ({ cls := "LineLearner", name := "clear", desc := "()I" } : Jvm.MethodName)) := ⟨List.mem_of_getElem? (i := 239) (by decide +kernel), by decide +kernel⟩
theorem kw200 : zWd (Jvm.Cond.code ({ cls := "LineLearner", name := "clear", desc := "()I" } : Jvm.MethodName) prog_1_method_14_code (3 : Nat) (Option.some Jvm.ClassFile.FieldType.int)) := ⟨List.mem_of_getElem? (i := 240) (by decide +kernel), by decide +kernel⟩
theorem kw201 : zWd (Jvm.Cond.methodLink "LineLearner" (153 : Nat) ({ cls := "LineLearner$Format", name := "makeEmpty", desc := "()V" } : Jvm.MethodName)) := ⟨List.mem_of_getElem? (i := 241) (by decide +kernel), by decide +kernel⟩
theorem kw202 : zWd (Jvm.Cond.instanceMethod ({ cls := "LineLearner$Format", name := "makeEmpty", desc := "()V" } : Jvm.MethodName)) := ⟨List.mem_of_getElem? (i := 242) (by decide +kernel), by decide +kernel⟩
theorem kw203 : zWd (Jvm.Cond.selects "LineLearner$Format" ({ cls := "LineLearner$Format", name := "makeEmpty", desc := "()V" } : Jvm.MethodName) ({ cls := "LineLearner$Format", name := "makeEmpty", desc := "()V" } : Jvm.MethodName)) := ⟨List.mem_of_getElem? (i := 243) (by decide +kernel), by decide +kernel⟩
theorem kw204 : zWd (Jvm.Cond.code ({ cls := "LineLearner$Format", name := "makeEmpty", desc := "()V" } : Jvm.MethodName) prog_3_method_2_code (1 : Nat) (Option.none : Option Jvm.ClassFile.FieldType)) := ⟨List.mem_of_getElem? (i := 244) (by decide +kernel), by decide +kernel⟩
theorem kw205 : zWd (Jvm.Cond.methodLink "LineLearnerLaw" (148 : Nat) ({ cls := "LineLearner", name := "strangest", desc := "()I" } : Jvm.MethodName)) := ⟨List.mem_of_getElem? (i := 245) (by decide +kernel), by decide +kernel⟩
theorem kw206 : zWd (Jvm.Cond.instanceMethod ({ cls := "LineLearner", name := "strangest", desc := "()I" } : Jvm.MethodName)) := ⟨List.mem_of_getElem? (i := 246) (by decide +kernel), by decide +kernel⟩
theorem kw207 : zWd (Jvm.Cond.selects "LineLearner" ({ cls := "LineLearner", name := "strangest", desc := "()I" } : Jvm.MethodName) ({ cls := "LineLearner", name := "strangest", desc := "()I" } : Jvm.MethodName)) := ⟨List.mem_of_getElem? (i := 247) (by decide +kernel), by decide +kernel⟩
theorem kw208 : zWd (Jvm.Cond.code ({ cls := "LineLearner", name := "strangest", desc := "()I" } : Jvm.MethodName) prog_1_method_18_code (5 : Nat) (Option.some Jvm.ClassFile.FieldType.int)) := ⟨List.mem_of_getElem? (i := 248) (by decide +kernel), by decide +kernel⟩
theorem kw209 : zWd (Jvm.Cond.methodLink "LineLearner" (156 : Nat) ({ cls := "LineLearner$Aligner", name := "leastCost", desc := "(LLineLearner$Format;I)I" } : Jvm.MethodName)) := ⟨List.mem_of_getElem? (i := 249) (by decide +kernel), by decide +kernel⟩
theorem kw210 : zWd (Jvm.Cond.instanceMethod ({ cls := "LineLearner$Aligner", name := "leastCost", desc := "(LLineLearner$Format;I)I" } : Jvm.MethodName)) := ⟨List.mem_of_getElem? (i := 250) (by decide +kernel), by decide +kernel⟩
theorem kw211 : zWd (Jvm.Cond.selects "LineLearner$Aligner" ({ cls := "LineLearner$Aligner", name := "leastCost", desc := "(LLineLearner$Format;I)I" } : Jvm.MethodName) ({ cls := "LineLearner$Aligner", name := "leastCost", desc := "(LLineLearner$Format;I)I" } : Jvm.MethodName)) := ⟨List.mem_of_getElem? (i := 251) (by decide +kernel), by decide +kernel⟩
theorem kw212 : zWd (Jvm.Cond.code ({ cls := "LineLearner$Aligner", name := "leastCost", desc := "(LLineLearner$Format;I)I" } : Jvm.MethodName) prog_2_method_3_code (5 : Nat) (Option.some Jvm.ClassFile.FieldType.int)) := ⟨List.mem_of_getElem? (i := 252) (by decide +kernel), by decide +kernel⟩
theorem kw213 : zWd (Jvm.Cond.methodLink "LineLearner$Aligner" (49 : Nat) ({ cls := "LineLearner$Aligner", name := "fillRow", desc := "(LLineLearner$Format;II)V" } : Jvm.MethodName)) := ⟨List.mem_of_getElem? (i := 253) (by decide +kernel), by decide +kernel⟩
theorem kw215 : zWd (Jvm.Cond.instanceMethod ({ cls := "LineLearner$Aligner", name := "fillRow", desc := "(LLineLearner$Format;II)V" } : Jvm.MethodName)) := ⟨List.mem_of_getElem? (i := 255) (by decide +kernel), by decide +kernel⟩
theorem kw216 : zWd (Jvm.Cond.code ({ cls := "LineLearner$Aligner", name := "fillRow", desc := "(LLineLearner$Format;II)V" } : Jvm.MethodName) prog_2_method_4_code (12 : Nat) (Option.none : Option Jvm.ClassFile.FieldType)) := ⟨List.mem_of_getElem? (i := 256) (by decide +kernel), by decide +kernel⟩
theorem kw217 : zWd (Jvm.Cond.methodLink "LineLearner$Aligner" (56 : Nat) ({ cls := "LineLearner$Aligner", name := "skipCost", desc := "(LLineLearner$Format;I)I" } : Jvm.MethodName)) := ⟨List.mem_of_getElem? (i := 257) (by decide +kernel), by decide +kernel⟩
theorem kw219 : zWd (Jvm.Cond.instanceMethod ({ cls := "LineLearner$Aligner", name := "skipCost", desc := "(LLineLearner$Format;I)I" } : Jvm.MethodName)) := ⟨List.mem_of_getElem? (i := 259) (by decide +kernel), by decide +kernel⟩
theorem kw220 : zWd (Jvm.Cond.code ({ cls := "LineLearner$Aligner", name := "skipCost", desc := "(LLineLearner$Format;I)I" } : Jvm.MethodName) prog_2_method_5_code (3 : Nat) (Option.some Jvm.ClassFile.FieldType.int)) := ⟨List.mem_of_getElem? (i := 260) (by decide +kernel), by decide +kernel⟩
theorem kw221 : zWd (Jvm.Cond.methodLink "LineLearner$Aligner" (73 : Nat) ({ cls := "LineLearner$Format", name := "canMiss", desc := "(I)Z" } : Jvm.MethodName)) := ⟨List.mem_of_getElem? (i := 261) (by decide +kernel), by decide +kernel⟩
theorem kw222 : zWd (Jvm.Cond.instanceMethod ({ cls := "LineLearner$Format", name := "canMiss", desc := "(I)Z" } : Jvm.MethodName)) := ⟨List.mem_of_getElem? (i := 262) (by decide +kernel), by decide +kernel⟩
theorem kw223 : zWd (Jvm.Cond.selects "LineLearner$Format" ({ cls := "LineLearner$Format", name := "canMiss", desc := "(I)Z" } : Jvm.MethodName) ({ cls := "LineLearner$Format", name := "canMiss", desc := "(I)Z" } : Jvm.MethodName)) := ⟨List.mem_of_getElem? (i := 263) (by decide +kernel), by decide +kernel⟩
theorem kw224 : zWd (Jvm.Cond.code ({ cls := "LineLearner$Format", name := "canMiss", desc := "(I)Z" } : Jvm.MethodName) prog_3_method_3_code (2 : Nat) (Option.some Jvm.ClassFile.FieldType.boolean)) := ⟨List.mem_of_getElem? (i := 264) (by decide +kernel), by decide +kernel⟩
theorem kw225 : zWd (Jvm.Cond.methodLink "LineLearner$Aligner" (60 : Nat) ({ cls := "java/lang/Math", name := "min", desc := "(II)I" } : Jvm.MethodName)) := ⟨List.mem_of_getElem? (i := 265) (by decide +kernel), by decide +kernel⟩
theorem kw226 : zWd (Jvm.Cond.static ({ cls := "java/lang/Math", name := "min", desc := "(II)I" } : Jvm.MethodName)) := ⟨List.mem_of_getElem? (i := 266) (by decide +kernel), by decide +kernel⟩
theorem kw227 : zWd (Jvm.Cond.code ({ cls := "java/lang/Math", name := "min", desc := "(II)I" } : Jvm.MethodName) prog_12_method_69_code (2 : Nat) (Option.some Jvm.ClassFile.FieldType.int)) := ⟨List.mem_of_getElem? (i := 267) (by decide +kernel), by decide +kernel⟩
theorem kw228 : zWd (Jvm.Cond.methodLinkNest "LineLearner$Aligner" (66 : Nat) ({ cls := "LineLearner", name := "placeOf", desc := "(II)I" } : Jvm.MethodName) "LineLearner") := ⟨List.mem_of_getElem? (i := 268) (by decide +kernel), by decide +kernel⟩
theorem kw229 : zWd (Jvm.Cond.static ({ cls := "LineLearner", name := "placeOf", desc := "(II)I" } : Jvm.MethodName)) := ⟨List.mem_of_getElem? (i := 269) (by decide +kernel), by decide +kernel⟩
theorem kw230 : zWd (Jvm.Cond.code ({ cls := "LineLearner", name := "placeOf", desc := "(II)I" } : Jvm.MethodName) prog_1_method_50_code (2 : Nat) (Option.some Jvm.ClassFile.FieldType.int)) := ⟨List.mem_of_getElem? (i := 270) (by decide +kernel), by decide +kernel⟩
theorem kw231 : zWd (Jvm.Cond.methodLink "LineLearner$Aligner" (69 : Nat) ({ cls := "LineLearner$Aligner", name := "pairCost", desc := "(LLineLearner$Format;II)I" } : Jvm.MethodName)) := ⟨List.mem_of_getElem? (i := 271) (by decide +kernel), by decide +kernel⟩
theorem kw233 : zWd (Jvm.Cond.instanceMethod ({ cls := "LineLearner$Aligner", name := "pairCost", desc := "(LLineLearner$Format;II)I" } : Jvm.MethodName)) := ⟨List.mem_of_getElem? (i := 273) (by decide +kernel), by decide +kernel⟩
theorem kw234 : zWd (Jvm.Cond.code ({ cls := "LineLearner$Aligner", name := "pairCost", desc := "(LLineLearner$Format;II)I" } : Jvm.MethodName) prog_2_method_6_code (4 : Nat) (Option.some Jvm.ClassFile.FieldType.int)) := ⟨List.mem_of_getElem? (i := 274) (by decide +kernel), by decide +kernel⟩
theorem kw235 : zWd (Jvm.Cond.methodLink "LineLearnerLaw" (152 : Nat) ({ cls := "LineLearner", name := "slotCount", desc := "()I" } : Jvm.MethodName)) := ⟨List.mem_of_getElem? (i := 275) (by decide +kernel), by decide +kernel⟩
theorem kw236 : zWd (Jvm.Cond.instanceMethod ({ cls := "LineLearner", name := "slotCount", desc := "()I" } : Jvm.MethodName)) := ⟨List.mem_of_getElem? (i := 276) (by decide +kernel), by decide +kernel⟩
theorem kw237 : zWd (Jvm.Cond.selects "LineLearner" ({ cls := "LineLearner", name := "slotCount", desc := "()I" } : Jvm.MethodName) ({ cls := "LineLearner", name := "slotCount", desc := "()I" } : Jvm.MethodName)) := ⟨List.mem_of_getElem? (i := 277) (by decide +kernel), by decide +kernel⟩
theorem kw238 : zWd (Jvm.Cond.code ({ cls := "LineLearner", name := "slotCount", desc := "()I" } : Jvm.MethodName) prog_1_method_19_code (1 : Nat) (Option.some Jvm.ClassFile.FieldType.int)) := ⟨List.mem_of_getElem? (i := 278) (by decide +kernel), by decide +kernel⟩
theorem kw239 : zWd (Jvm.Cond.methodLink "LineLearnerLaw" (184 : Nat) ({ cls := "LineLearner", name := "bits", desc := "()I" } : Jvm.MethodName)) := ⟨List.mem_of_getElem? (i := 279) (by decide +kernel), by decide +kernel⟩
theorem kw240 : zWd (Jvm.Cond.instanceMethod ({ cls := "LineLearner", name := "bits", desc := "()I" } : Jvm.MethodName)) := ⟨List.mem_of_getElem? (i := 280) (by decide +kernel), by decide +kernel⟩
theorem kw241 : zWd (Jvm.Cond.selects "LineLearner" ({ cls := "LineLearner", name := "bits", desc := "()I" } : Jvm.MethodName) ({ cls := "LineLearner", name := "bits", desc := "()I" } : Jvm.MethodName)) := ⟨List.mem_of_getElem? (i := 281) (by decide +kernel), by decide +kernel⟩
theorem kw242 : zWd (Jvm.Cond.code ({ cls := "LineLearner", name := "bits", desc := "()I" } : Jvm.MethodName) prog_1_method_30_code (4 : Nat) (Option.some Jvm.ClassFile.FieldType.int)) := ⟨List.mem_of_getElem? (i := 282) (by decide +kernel), by decide +kernel⟩
theorem kw243 : zWd (Jvm.Cond.methodLink "LineLearner" (209 : Nat) ({ cls := "LineLearner", name := "textSize", desc := "(I)I" } : Jvm.MethodName)) := ⟨List.mem_of_getElem? (i := 283) (by decide +kernel), by decide +kernel⟩
theorem kw245 : zWd (Jvm.Cond.instanceMethod ({ cls := "LineLearner", name := "textSize", desc := "(I)I" } : Jvm.MethodName)) := ⟨List.mem_of_getElem? (i := 285) (by decide +kernel), by decide +kernel⟩
theorem kw246 : zWd (Jvm.Cond.code ({ cls := "LineLearner", name := "textSize", desc := "(I)I" } : Jvm.MethodName) prog_1_method_45_code (3 : Nat) (Option.some Jvm.ClassFile.FieldType.int)) := ⟨List.mem_of_getElem? (i := 286) (by decide +kernel), by decide +kernel⟩
theorem kw247 : zWd (Jvm.Cond.methodLink "LineLearner" (212 : Nat) ({ cls := "java/lang/Math", name := "max", desc := "(II)I" } : Jvm.MethodName)) := ⟨List.mem_of_getElem? (i := 287) (by decide +kernel), by decide +kernel⟩
theorem kw248 : zWd (Jvm.Cond.static ({ cls := "java/lang/Math", name := "max", desc := "(II)I" } : Jvm.MethodName)) := ⟨List.mem_of_getElem? (i := 288) (by decide +kernel), by decide +kernel⟩
theorem kw249 : zWd (Jvm.Cond.code ({ cls := "java/lang/Math", name := "max", desc := "(II)I" } : Jvm.MethodName) prog_12_method_65_code (2 : Nat) (Option.some Jvm.ClassFile.FieldType.int)) := ⟨List.mem_of_getElem? (i := 289) (by decide +kernel), by decide +kernel⟩
theorem kw250 : zWd (Jvm.Cond.methodLink "LineLearner" (191 : Nat) ({ cls := "LineLearner$Format", name := "canMiss", desc := "(I)Z" } : Jvm.MethodName)) := ⟨List.mem_of_getElem? (i := 290) (by decide +kernel), by decide +kernel⟩
theorem kw251 : zWd (Jvm.Cond.methodLink "LineLearner" (215 : Nat) ({ cls := "LineLearner", name := "bitsOfVarying", desc := "(I)I" } : Jvm.MethodName)) := ⟨List.mem_of_getElem? (i := 291) (by decide +kernel), by decide +kernel⟩
theorem kw253 : zWd (Jvm.Cond.instanceMethod ({ cls := "LineLearner", name := "bitsOfVarying", desc := "(I)I" } : Jvm.MethodName)) := ⟨List.mem_of_getElem? (i := 293) (by decide +kernel), by decide +kernel⟩
theorem kw254 : zWd (Jvm.Cond.code ({ cls := "LineLearner", name := "bitsOfVarying", desc := "(I)I" } : Jvm.MethodName) prog_1_method_31_code (6 : Nat) (Option.some Jvm.ClassFile.FieldType.int)) := ⟨List.mem_of_getElem? (i := 294) (by decide +kernel), by decide +kernel⟩
theorem kw255 : zWd (Jvm.Cond.methodLink "LineLearner" (102 : Nat) ({ cls := "LineLearner", name := "placeOf", desc := "(II)I" } : Jvm.MethodName)) := ⟨List.mem_of_getElem? (i := 295) (by decide +kernel), by decide +kernel⟩
theorem kw256 : zWd (Jvm.Cond.fieldLink "LineLearner" (218 : Nat) "LineLearner" "BITS_A_BYTE" "[I") := ⟨List.mem_of_getElem? (i := 296) (by decide +kernel), by decide +kernel⟩
theorem kw258 : zWd (Jvm.Cond.methodLink "LineLearnerLaw" (188 : Nat) ({ cls := "LineLearner", name := "saving", desc := "()D" } : Jvm.MethodName)) := ⟨List.mem_of_getElem? (i := 298) (by decide +kernel), by decide +kernel⟩
theorem kw259 : zWd (Jvm.Cond.instanceMethod ({ cls := "LineLearner", name := "saving", desc := "()D" } : Jvm.MethodName)) := ⟨List.mem_of_getElem? (i := 299) (by decide +kernel), by decide +kernel⟩
theorem kw260 : zWd (Jvm.Cond.selects "LineLearner" ({ cls := "LineLearner", name := "saving", desc := "()D" } : Jvm.MethodName) ({ cls := "LineLearner", name := "saving", desc := "()D" } : Jvm.MethodName)) := ⟨List.mem_of_getElem? (i := 300) (by decide +kernel), by decide +kernel⟩
theorem kw261 : zWd (Jvm.Cond.code ({ cls := "LineLearner", name := "saving", desc := "()D" } : Jvm.MethodName) prog_1_method_32_code (3 : Nat) (Option.some Jvm.ClassFile.FieldType.double)) := ⟨List.mem_of_getElem? (i := 301) (by decide +kernel), by decide +kernel⟩
theorem kw262 : zWd (Jvm.Cond.methodLink "LineLearner" (224 : Nat) ({ cls := "LineLearner", name := "bits", desc := "()I" } : Jvm.MethodName)) := ⟨List.mem_of_getElem? (i := 302) (by decide +kernel), by decide +kernel⟩
theorem kw263 : zWd (Jvm.Cond.methodLink "LineLearnerLaw" (202 : Nat) ({ cls := "LineLearner", name := "digest", desc := "()J" } : Jvm.MethodName)) := ⟨List.mem_of_getElem? (i := 303) (by decide +kernel), by decide +kernel⟩
theorem kw264 : zWd (Jvm.Cond.instanceMethod ({ cls := "LineLearner", name := "digest", desc := "()J" } : Jvm.MethodName)) := ⟨List.mem_of_getElem? (i := 304) (by decide +kernel), by decide +kernel⟩
theorem kw265 : zWd (Jvm.Cond.selects "LineLearner" ({ cls := "LineLearner", name := "digest", desc := "()J" } : Jvm.MethodName) ({ cls := "LineLearner", name := "digest", desc := "()J" } : Jvm.MethodName)) := ⟨List.mem_of_getElem? (i := 305) (by decide +kernel), by decide +kernel⟩
theorem kw266 : zWd (Jvm.Cond.code ({ cls := "LineLearner", name := "digest", desc := "()J" } : Jvm.MethodName) prog_1_method_37_code (4 : Nat) (Option.some Jvm.ClassFile.FieldType.long)) := ⟨List.mem_of_getElem? (i := 306) (by decide +kernel), by decide +kernel⟩
theorem kw267 : zWd (Jvm.Cond.constantLong "LineLearner" (241 : Nat) (149 : Int64)) := ⟨List.mem_of_getElem? (i := 307) (by decide +kernel), by decide +kernel⟩
theorem kw268 : zWd (Jvm.Cond.methodLink "LineLearner" (243 : Nat) ({ cls := "LineLearner", name := "mixed", desc := "(JI)J" } : Jvm.MethodName)) := ⟨List.mem_of_getElem? (i := 308) (by decide +kernel), by decide +kernel⟩
theorem kw269 : zWd (Jvm.Cond.static ({ cls := "LineLearner", name := "mixed", desc := "(JI)J" } : Jvm.MethodName)) := ⟨List.mem_of_getElem? (i := 309) (by decide +kernel), by decide +kernel⟩
theorem kw270 : zWd (Jvm.Cond.code ({ cls := "LineLearner", name := "mixed", desc := "(JI)J" } : Jvm.MethodName) prog_1_method_38_code (3 : Nat) (Option.some Jvm.ClassFile.FieldType.long)) := ⟨List.mem_of_getElem? (i := 310) (by decide +kernel), by decide +kernel⟩
theorem kw271 : zWd (Jvm.Cond.constantLong "LineLearner" (263 : Nat) (31 : Int64)) := ⟨List.mem_of_getElem? (i := 311) (by decide +kernel), by decide +kernel⟩
theorem kw272 : zWd (Jvm.Cond.methodLink "LineLearner" (247 : Nat) ({ cls := "LineLearner", name := "addLines", desc := "(J)J" } : Jvm.MethodName)) := ⟨List.mem_of_getElem? (i := 312) (by decide +kernel), by decide +kernel⟩
theorem kw274 : zWd (Jvm.Cond.instanceMethod ({ cls := "LineLearner", name := "addLines", desc := "(J)J" } : Jvm.MethodName)) := ⟨List.mem_of_getElem? (i := 314) (by decide +kernel), by decide +kernel⟩
theorem kw275 : zWd (Jvm.Cond.code ({ cls := "LineLearner", name := "addLines", desc := "(J)J" } : Jvm.MethodName) prog_1_method_39_code (8 : Nat) (Option.some Jvm.ClassFile.FieldType.long)) := ⟨List.mem_of_getElem? (i := 315) (by decide +kernel), by decide +kernel⟩
theorem kw276 : zWd (Jvm.Cond.methodLink "LineLearner" (109 : Nat) ({ cls := "LineLearner", name := "firstByteOf", desc := "(I)I" } : Jvm.MethodName)) := ⟨List.mem_of_getElem? (i := 316) (by decide +kernel), by decide +kernel⟩
theorem kw277 : zWd (Jvm.Cond.static ({ cls := "LineLearner", name := "firstByteOf", desc := "(I)I" } : Jvm.MethodName)) := ⟨List.mem_of_getElem? (i := 317) (by decide +kernel), by decide +kernel⟩
theorem kw278 : zWd (Jvm.Cond.code ({ cls := "LineLearner", name := "firstByteOf", desc := "(I)I" } : Jvm.MethodName) prog_1_method_49_code (1 : Nat) (Option.some Jvm.ClassFile.FieldType.int)) := ⟨List.mem_of_getElem? (i := 318) (by decide +kernel), by decide +kernel⟩
theorem kw279 : zWd (Jvm.Cond.methodLink "LineLearner" (260 : Nat) ({ cls := "LineLearner", name := "addSlots", desc := "(J)J" } : Jvm.MethodName)) := ⟨List.mem_of_getElem? (i := 319) (by decide +kernel), by decide +kernel⟩
theorem kw281 : zWd (Jvm.Cond.instanceMethod ({ cls := "LineLearner", name := "addSlots", desc := "(J)J" } : Jvm.MethodName)) := ⟨List.mem_of_getElem? (i := 321) (by decide +kernel), by decide +kernel⟩
theorem kw282 : zWd (Jvm.Cond.code ({ cls := "LineLearner", name := "addSlots", desc := "(J)J" } : Jvm.MethodName) prog_1_method_40_code (7 : Nat) (Option.some Jvm.ClassFile.FieldType.long)) := ⟨List.mem_of_getElem? (i := 322) (by decide +kernel), by decide +kernel⟩
theorem kw283 : zWd (Jvm.Cond.methodLink "LineLearnerLaw" (97 : Nat) ({ cls := "LineLearnerLaw", name := "feed", desc := "(LLineLearner;J[J)I" } : Jvm.MethodName)) := ⟨List.mem_of_getElem? (i := 323) (by decide +kernel), by decide +kernel⟩
theorem kw284 : zWd (Jvm.Cond.static ({ cls := "LineLearnerLaw", name := "feed", desc := "(LLineLearner;J[J)I" } : Jvm.MethodName)) := ⟨List.mem_of_getElem? (i := 324) (by decide +kernel), by decide +kernel⟩
theorem kw285 : zWd (Jvm.Cond.codeWith ({ cls := "LineLearnerLaw", name := "feed", desc := "(LLineLearner;J[J)I" } : Jvm.MethodName) method_3_code (5 : Nat) (Option.some Jvm.ClassFile.FieldType.int) [((0 : Nat), (9 : Nat), (12 : Nat), (13 : Nat)), ((0 : Nat), (9 : Nat), (16 : Nat), (15 : Nat))]) := ⟨List.mem_of_getElem? (i := 325) (by decide +kernel), by decide +kernel⟩
theorem kw286 : zWd (Jvm.Cond.classLink "LineLearnerLaw" (13 : Nat) "java/lang/IllegalArgumentException") := ⟨List.mem_of_getElem? (i := 326) (by decide +kernel), by decide +kernel⟩
theorem kw287 : zWd (Jvm.Cond.classLink "LineLearnerLaw" (15 : Nat) "java/lang/IllegalStateException") := ⟨List.mem_of_getElem? (i := 327) (by decide +kernel), by decide +kernel⟩
theorem kw288 : zWd (Jvm.Cond.methodLink "LineLearnerLaw" (7 : Nat) ({ cls := "LineLearner", name := "feed", desc := "(J)I" } : Jvm.MethodName)) := ⟨List.mem_of_getElem? (i := 328) (by decide +kernel), by decide +kernel⟩
theorem kw289 : zWd (Jvm.Cond.instanceMethod ({ cls := "LineLearner", name := "feed", desc := "(J)I" } : Jvm.MethodName)) := ⟨List.mem_of_getElem? (i := 329) (by decide +kernel), by decide +kernel⟩
theorem kw290 : zWd (Jvm.Cond.selects "LineLearner" ({ cls := "LineLearner", name := "feed", desc := "(J)I" } : Jvm.MethodName) ({ cls := "LineLearner", name := "feed", desc := "(J)I" } : Jvm.MethodName)) := ⟨List.mem_of_getElem? (i := 330) (by decide +kernel), by decide +kernel⟩
theorem kw291 : zWd (Jvm.Cond.code ({ cls := "LineLearner", name := "feed", desc := "(J)I" } : Jvm.MethodName) prog_1_method_2_code (6 : Nat) (Option.some Jvm.ClassFile.FieldType.int)) := ⟨List.mem_of_getElem? (i := 331) (by decide +kernel), by decide +kernel⟩
theorem kw292 : zWd (Jvm.Cond.methodLink "LineLearner" (51 : Nat) ({ cls := "LineLearner", name := "countBytes", desc := "(J)I" } : Jvm.MethodName)) := ⟨List.mem_of_getElem? (i := 332) (by decide +kernel), by decide +kernel⟩
theorem kw293 : zWd (Jvm.Cond.static ({ cls := "LineLearner", name := "countBytes", desc := "(J)I" } : Jvm.MethodName)) := ⟨List.mem_of_getElem? (i := 333) (by decide +kernel), by decide +kernel⟩
theorem kw294 : zWd (Jvm.Cond.code ({ cls := "LineLearner", name := "countBytes", desc := "(J)I" } : Jvm.MethodName) prog_1_method_3_code (5 : Nat) (Option.some Jvm.ClassFile.FieldType.int)) := ⟨List.mem_of_getElem? (i := 334) (by decide +kernel), by decide +kernel⟩
theorem kw295 : zWd (Jvm.Cond.methodLink "LineLearner" (71 : Nat) ({ cls := "LineLearner", name := "byteOf", desc := "(JI)I" } : Jvm.MethodName)) := ⟨List.mem_of_getElem? (i := 335) (by decide +kernel), by decide +kernel⟩
theorem kw296 : zWd (Jvm.Cond.static ({ cls := "LineLearner", name := "byteOf", desc := "(JI)I" } : Jvm.MethodName)) := ⟨List.mem_of_getElem? (i := 336) (by decide +kernel), by decide +kernel⟩
theorem kw297 : zWd (Jvm.Cond.code ({ cls := "LineLearner", name := "byteOf", desc := "(JI)I" } : Jvm.MethodName) prog_1_method_4_code (3 : Nat) (Option.some Jvm.ClassFile.FieldType.int)) := ⟨List.mem_of_getElem? (i := 337) (by decide +kernel), by decide +kernel⟩
theorem kw298 : zWd (Jvm.Cond.classLink "LineLearner" (55 : Nat) "java/lang/IllegalArgumentException") := ⟨List.mem_of_getElem? (i := 338) (by decide +kernel), by decide +kernel⟩
theorem kw299 : zWd (Jvm.Cond.instantiable "java/lang/IllegalArgumentException" (6 : Nat)) := ⟨List.mem_of_getElem? (i := 339) (by decide +kernel), by decide +kernel⟩
theorem kw307 : zWd (Jvm.Cond.selects "java/lang/IllegalArgumentException" ({ cls := "java/lang/Throwable", name := "fillInStackTrace", desc := "(I)Ljava/lang/Throwable;" } : Jvm.MethodName) ({ cls := "java/lang/Throwable", name := "fillInStackTrace", desc := "(I)Ljava/lang/Throwable;" } : Jvm.MethodName)) := ⟨List.mem_of_getElem? (i := 347) (by decide +kernel), by decide +kernel⟩
theorem kw308 : zWd (Jvm.Cond.selects "java/lang/IllegalArgumentException" ({ cls := "java/lang/Throwable", name := "fillInStackTrace", desc := "()Ljava/lang/Throwable;" } : Jvm.MethodName) ({ cls := "java/lang/Throwable", name := "fillInStackTrace", desc := "()Ljava/lang/Throwable;" } : Jvm.MethodName)) := ⟨List.mem_of_getElem? (i := 348) (by decide +kernel), by decide +kernel⟩
theorem kw319 : zWd (Jvm.Cond.fieldLink "java/lang/Throwable" (198 : Nat) "java/lang/Throwable" "backtrace" "Ljava/lang/Object;") := ⟨List.mem_of_getElem? (i := 359) (by decide +kernel), by decide +kernel⟩
theorem kw321 : zWd (Jvm.Cond.instanceMethod ({ cls := "java/lang/Throwable", name := "<init>", desc := "()V" } : Jvm.MethodName)) := ⟨List.mem_of_getElem? (i := 361) (by decide +kernel), by decide +kernel⟩
theorem kw322 : zWd (Jvm.Cond.code ({ cls := "java/lang/Throwable", name := "<init>", desc := "()V" } : Jvm.MethodName) prog_15_method_1_code (1 : Nat) (Option.none : Option Jvm.ClassFile.FieldType)) := ⟨List.mem_of_getElem? (i := 362) (by decide +kernel), by decide +kernel⟩
theorem kw323 : zWd (Jvm.Cond.methodLink "java/lang/Throwable" (1 : Nat) ({ cls := "java/lang/Object", name := "<init>", desc := "()V" } : Jvm.MethodName)) := ⟨List.mem_of_getElem? (i := 363) (by decide +kernel), by decide +kernel⟩
theorem kw324 : zWd (Jvm.Cond.fieldLink "java/lang/Throwable" (13 : Nat) "java/lang/Throwable" "UNASSIGNED_STACK" "[Ljava/lang/StackTraceElement;") := ⟨List.mem_of_getElem? (i := 364) (by decide +kernel), by decide +kernel⟩
theorem kw326 : zWd (Jvm.Cond.fieldLink "java/lang/Throwable" (20 : Nat) "java/lang/Throwable" "SUPPRESSED_SENTINEL" "Ljava/util/List;") := ⟨List.mem_of_getElem? (i := 366) (by decide +kernel), by decide +kernel⟩
theorem kw328 : zWd (Jvm.Cond.methodLink "java/lang/Throwable" (27 : Nat) ({ cls := "java/lang/Throwable", name := "fillInStackTrace", desc := "()Ljava/lang/Throwable;" } : Jvm.MethodName)) := ⟨List.mem_of_getElem? (i := 368) (by decide +kernel), by decide +kernel⟩
theorem kw329 : zWd (Jvm.Cond.instanceMethod ({ cls := "java/lang/Throwable", name := "fillInStackTrace", desc := "()Ljava/lang/Throwable;" } : Jvm.MethodName)) := ⟨List.mem_of_getElem? (i := 369) (by decide +kernel), by decide +kernel⟩
theorem kw331 : zWd (Jvm.Cond.selects "java/lang/IllegalStateException" ({ cls := "java/lang/Throwable", name := "fillInStackTrace", desc := "()Ljava/lang/Throwable;" } : Jvm.MethodName) ({ cls := "java/lang/Throwable", name := "fillInStackTrace", desc := "()Ljava/lang/Throwable;" } : Jvm.MethodName)) := ⟨List.mem_of_getElem? (i := 371) (by decide +kernel), by decide +kernel⟩
theorem kw332 : zWd (Jvm.Cond.selects "java/lang/IndexOutOfBoundsException" ({ cls := "java/lang/Throwable", name := "fillInStackTrace", desc := "()Ljava/lang/Throwable;" } : Jvm.MethodName) ({ cls := "java/lang/Throwable", name := "fillInStackTrace", desc := "()Ljava/lang/Throwable;" } : Jvm.MethodName)) := ⟨List.mem_of_getElem? (i := 372) (by decide +kernel), by decide +kernel⟩
theorem kw334 : zWd (Jvm.Cond.methodLink "java/lang/Throwable" (202 : Nat) ({ cls := "java/lang/Throwable", name := "fillInStackTrace", desc := "(I)Ljava/lang/Throwable;" } : Jvm.MethodName)) := ⟨List.mem_of_getElem? (i := 374) (by decide +kernel), by decide +kernel⟩
theorem kw336 : zWd (Jvm.Cond.instanceMethod ({ cls := "java/lang/Throwable", name := "fillInStackTrace", desc := "(I)Ljava/lang/Throwable;" } : Jvm.MethodName)) := ⟨List.mem_of_getElem? (i := 376) (by decide +kernel), by decide +kernel⟩
theorem kw337 : zWd (Jvm.Cond.instantiable "java/lang/Throwable" (6 : Nat)) := ⟨List.mem_of_getElem? (i := 377) (by decide +kernel), by decide +kernel⟩
theorem kw340 : zWd (Jvm.Cond.methodLink "LineLearner" (59 : Nat) ({ cls := "java/lang/IllegalArgumentException", name := "<init>", desc := "(Ljava/lang/String;)V" } : Jvm.MethodName)) := ⟨List.mem_of_getElem? (i := 380) (by decide +kernel), by decide +kernel⟩
theorem kw341 : zWd (Jvm.Cond.instanceMethod ({ cls := "java/lang/IllegalArgumentException", name := "<init>", desc := "(Ljava/lang/String;)V" } : Jvm.MethodName)) := ⟨List.mem_of_getElem? (i := 381) (by decide +kernel), by decide +kernel⟩
theorem kw342 : zWd (Jvm.Cond.code ({ cls := "java/lang/IllegalArgumentException", name := "<init>", desc := "(Ljava/lang/String;)V" } : Jvm.MethodName) prog_8_method_2_code (2 : Nat) (Option.none : Option Jvm.ClassFile.FieldType)) := ⟨List.mem_of_getElem? (i := 382) (by decide +kernel), by decide +kernel⟩
theorem kw343 : zWd (Jvm.Cond.methodLink "java/lang/IllegalArgumentException" (7 : Nat) ({ cls := "java/lang/RuntimeException", name := "<init>", desc := "(Ljava/lang/String;)V" } : Jvm.MethodName)) := ⟨List.mem_of_getElem? (i := 383) (by decide +kernel), by decide +kernel⟩
theorem kw344 : zWd (Jvm.Cond.instanceMethod ({ cls := "java/lang/RuntimeException", name := "<init>", desc := "(Ljava/lang/String;)V" } : Jvm.MethodName)) := ⟨List.mem_of_getElem? (i := 384) (by decide +kernel), by decide +kernel⟩
theorem kw345 : zWd (Jvm.Cond.code ({ cls := "java/lang/RuntimeException", name := "<init>", desc := "(Ljava/lang/String;)V" } : Jvm.MethodName) prog_13_method_2_code (2 : Nat) (Option.none : Option Jvm.ClassFile.FieldType)) := ⟨List.mem_of_getElem? (i := 385) (by decide +kernel), by decide +kernel⟩
theorem kw346 : zWd (Jvm.Cond.methodLink "java/lang/RuntimeException" (7 : Nat) ({ cls := "java/lang/Exception", name := "<init>", desc := "(Ljava/lang/String;)V" } : Jvm.MethodName)) := ⟨List.mem_of_getElem? (i := 386) (by decide +kernel), by decide +kernel⟩
theorem kw347 : zWd (Jvm.Cond.instanceMethod ({ cls := "java/lang/Exception", name := "<init>", desc := "(Ljava/lang/String;)V" } : Jvm.MethodName)) := ⟨List.mem_of_getElem? (i := 387) (by decide +kernel), by decide +kernel⟩
theorem kw348 : zWd (Jvm.Cond.code ({ cls := "java/lang/Exception", name := "<init>", desc := "(Ljava/lang/String;)V" } : Jvm.MethodName) prog_7_method_2_code (2 : Nat) (Option.none : Option Jvm.ClassFile.FieldType)) := ⟨List.mem_of_getElem? (i := 388) (by decide +kernel), by decide +kernel⟩
theorem kw349 : zWd (Jvm.Cond.methodLink "java/lang/Exception" (7 : Nat) ({ cls := "java/lang/Throwable", name := "<init>", desc := "(Ljava/lang/String;)V" } : Jvm.MethodName)) := ⟨List.mem_of_getElem? (i := 389) (by decide +kernel), by decide +kernel⟩
theorem kw350 : zWd (Jvm.Cond.instanceMethod ({ cls := "java/lang/Throwable", name := "<init>", desc := "(Ljava/lang/String;)V" } : Jvm.MethodName)) := ⟨List.mem_of_getElem? (i := 390) (by decide +kernel), by decide +kernel⟩
theorem kw351 : zWd (Jvm.Cond.code ({ cls := "java/lang/Throwable", name := "<init>", desc := "(Ljava/lang/String;)V" } : Jvm.MethodName) prog_15_method_2_code (2 : Nat) (Option.none : Option Jvm.ClassFile.FieldType)) := ⟨List.mem_of_getElem? (i := 391) (by decide +kernel), by decide +kernel⟩
theorem kw352 : zWd (Jvm.Cond.fieldLink "java/lang/Throwable" (198 : Nat) "java/lang/Throwable" "backtrace" "Ljava/lang/Object;") := ⟨List.mem_of_getElem? (i := 392) (by decide +kernel), by decide +kernel⟩
theorem kw353 : zWd (Jvm.Cond.fieldLink "java/lang/Throwable" (31 : Nat) "java/lang/Throwable" "detailMessage" "Ljava/lang/String;") := ⟨List.mem_of_getElem? (i := 393) (by decide +kernel), by decide +kernel⟩
theorem kw354 : zWd (Jvm.Cond.fieldLink "java/lang/Throwable" (7 : Nat) "java/lang/Throwable" "cause" "Ljava/lang/Throwable;") := ⟨List.mem_of_getElem? (i := 394) (by decide +kernel), by decide +kernel⟩
theorem kw355 : zWd (Jvm.Cond.fieldLink "java/lang/Throwable" (17 : Nat) "java/lang/Throwable" "stackTrace" "[Ljava/lang/StackTraceElement;") := ⟨List.mem_of_getElem? (i := 395) (by decide +kernel), by decide +kernel⟩
theorem kw356 : zWd (Jvm.Cond.fieldLink "java/lang/Throwable" (24 : Nat) "java/lang/Throwable" "suppressedExceptions" "Ljava/util/List;") := ⟨List.mem_of_getElem? (i := 396) (by decide +kernel), by decide +kernel⟩
theorem kw365 : zWd (Jvm.Cond.classLink "LineLearner" (66 : Nat) "java/lang/IllegalStateException") := ⟨List.mem_of_getElem? (i := 405) (by decide +kernel), by decide +kernel⟩
theorem kw366 : zWd (Jvm.Cond.instantiable "java/lang/IllegalStateException" (6 : Nat)) := ⟨List.mem_of_getElem? (i := 406) (by decide +kernel), by decide +kernel⟩
theorem kw368 : zWd (Jvm.Cond.selects "java/lang/IllegalStateException" ({ cls := "java/lang/Throwable", name := "fillInStackTrace", desc := "(I)Ljava/lang/Throwable;" } : Jvm.MethodName) ({ cls := "java/lang/Throwable", name := "fillInStackTrace", desc := "(I)Ljava/lang/Throwable;" } : Jvm.MethodName)) := ⟨List.mem_of_getElem? (i := 408) (by decide +kernel), by decide +kernel⟩
theorem kw375 : zWd (Jvm.Cond.methodLink "LineLearner" (70 : Nat) ({ cls := "java/lang/IllegalStateException", name := "<init>", desc := "(Ljava/lang/String;)V" } : Jvm.MethodName)) := ⟨List.mem_of_getElem? (i := 415) (by decide +kernel), by decide +kernel⟩
theorem kw376 : zWd (Jvm.Cond.instanceMethod ({ cls := "java/lang/IllegalStateException", name := "<init>", desc := "(Ljava/lang/String;)V" } : Jvm.MethodName)) := ⟨List.mem_of_getElem? (i := 416) (by decide +kernel), by decide +kernel⟩
theorem kw377 : zWd (Jvm.Cond.code ({ cls := "java/lang/IllegalStateException", name := "<init>", desc := "(Ljava/lang/String;)V" } : Jvm.MethodName) prog_9_method_2_code (2 : Nat) (Option.none : Option Jvm.ClassFile.FieldType)) := ⟨List.mem_of_getElem? (i := 417) (by decide +kernel), by decide +kernel⟩
theorem kw378 : zWd (Jvm.Cond.methodLink "java/lang/IllegalStateException" (7 : Nat) ({ cls := "java/lang/RuntimeException", name := "<init>", desc := "(Ljava/lang/String;)V" } : Jvm.MethodName)) := ⟨List.mem_of_getElem? (i := 418) (by decide +kernel), by decide +kernel⟩
theorem kw381 : zWd (Jvm.Cond.methodLink "LineLearnerLaw" (106 : Nat) ({ cls := "LineLearnerLaw", name := "store", desc := "(LLineLearner;[J)I" } : Jvm.MethodName)) := ⟨List.mem_of_getElem? (i := 421) (by decide +kernel), by decide +kernel⟩
theorem kw382 : zWd (Jvm.Cond.static ({ cls := "LineLearnerLaw", name := "store", desc := "(LLineLearner;[J)I" } : Jvm.MethodName)) := ⟨List.mem_of_getElem? (i := 422) (by decide +kernel), by decide +kernel⟩
theorem kw383 : zWd (Jvm.Cond.codeWith ({ cls := "LineLearnerLaw", name := "store", desc := "(LLineLearner;[J)I" } : Jvm.MethodName) method_4_code (3 : Nat) (Option.some Jvm.ClassFile.FieldType.int) [((0 : Nat), (8 : Nat), (11 : Nat), (15 : Nat))]) := ⟨List.mem_of_getElem? (i := 423) (by decide +kernel), by decide +kernel⟩
theorem kw384 : zWd (Jvm.Cond.methodLink "LineLearnerLaw" (17 : Nat) ({ cls := "LineLearner", name := "store", desc := "()I" } : Jvm.MethodName)) := ⟨List.mem_of_getElem? (i := 424) (by decide +kernel), by decide +kernel⟩
theorem kw385 : zWd (Jvm.Cond.instanceMethod ({ cls := "LineLearner", name := "store", desc := "()I" } : Jvm.MethodName)) := ⟨List.mem_of_getElem? (i := 425) (by decide +kernel), by decide +kernel⟩
theorem kw386 : zWd (Jvm.Cond.selects "LineLearner" ({ cls := "LineLearner", name := "store", desc := "()I" } : Jvm.MethodName) ({ cls := "LineLearner", name := "store", desc := "()I" } : Jvm.MethodName)) := ⟨List.mem_of_getElem? (i := 426) (by decide +kernel), by decide +kernel⟩
theorem kw387 : zWd (Jvm.Cond.code ({ cls := "LineLearner", name := "store", desc := "()I" } : Jvm.MethodName) prog_1_method_5_code (2 : Nat) (Option.some Jvm.ClassFile.FieldType.int)) := ⟨List.mem_of_getElem? (i := 427) (by decide +kernel), by decide +kernel⟩
theorem kw389 : zWd (Jvm.Cond.methodLink "LineLearner" (80 : Nat) ({ cls := "LineLearner$Lines", name := "add", desc := "([BI)I" } : Jvm.MethodName)) := ⟨List.mem_of_getElem? (i := 429) (by decide +kernel), by decide +kernel⟩
theorem kw390 : zWd (Jvm.Cond.instanceMethod ({ cls := "LineLearner$Lines", name := "add", desc := "([BI)I" } : Jvm.MethodName)) := ⟨List.mem_of_getElem? (i := 430) (by decide +kernel), by decide +kernel⟩
theorem kw391 : zWd (Jvm.Cond.selects "LineLearner$Lines" ({ cls := "LineLearner$Lines", name := "add", desc := "([BI)I" } : Jvm.MethodName) ({ cls := "LineLearner$Lines", name := "add", desc := "([BI)I" } : Jvm.MethodName)) := ⟨List.mem_of_getElem? (i := 431) (by decide +kernel), by decide +kernel⟩
theorem kw392 : zWd (Jvm.Cond.code ({ cls := "LineLearner$Lines", name := "add", desc := "([BI)I" } : Jvm.MethodName) prog_4_method_2_code (5 : Nat) (Option.some Jvm.ClassFile.FieldType.int)) := ⟨List.mem_of_getElem? (i := 432) (by decide +kernel), by decide +kernel⟩
theorem kw393 : zWd (Jvm.Cond.methodLinkNest "LineLearner$Lines" (38 : Nat) ({ cls := "LineLearner", name := "firstByteOf", desc := "(I)I" } : Jvm.MethodName) "LineLearner") := ⟨List.mem_of_getElem? (i := 433) (by decide +kernel), by decide +kernel⟩
theorem kw394 : zWd (Jvm.Cond.methodLink "LineLearner$Lines" (42 : Nat) ({ cls := "LineLearner$Lines", name := "cut", desc := "(I)V" } : Jvm.MethodName)) := ⟨List.mem_of_getElem? (i := 434) (by decide +kernel), by decide +kernel⟩
theorem kw396 : zWd (Jvm.Cond.instanceMethod ({ cls := "LineLearner$Lines", name := "cut", desc := "(I)V" } : Jvm.MethodName)) := ⟨List.mem_of_getElem? (i := 436) (by decide +kernel), by decide +kernel⟩
theorem kw397 : zWd (Jvm.Cond.code ({ cls := "LineLearner$Lines", name := "cut", desc := "(I)V" } : Jvm.MethodName) prog_4_method_3_code (8 : Nat) (Option.none : Option Jvm.ClassFile.FieldType)) := ⟨List.mem_of_getElem? (i := 437) (by decide +kernel), by decide +kernel⟩
theorem kw398 : zWd (Jvm.Cond.methodLink "LineLearner$Lines" (49 : Nat) ({ cls := "LineLearner$Lines", name := "kindOf", desc := "(I)I" } : Jvm.MethodName)) := ⟨List.mem_of_getElem? (i := 438) (by decide +kernel), by decide +kernel⟩
theorem kw399 : zWd (Jvm.Cond.static ({ cls := "LineLearner$Lines", name := "kindOf", desc := "(I)I" } : Jvm.MethodName)) := ⟨List.mem_of_getElem? (i := 439) (by decide +kernel), by decide +kernel⟩
theorem kw400 : zWd (Jvm.Cond.code ({ cls := "LineLearner$Lines", name := "kindOf", desc := "(I)I" } : Jvm.MethodName) prog_4_method_4_code (1 : Nat) (Option.some Jvm.ClassFile.FieldType.int)) := ⟨List.mem_of_getElem? (i := 440) (by decide +kernel), by decide +kernel⟩
theorem kw401 : zWd (Jvm.Cond.methodLinkNest "LineLearner$Lines" (52 : Nat) ({ cls := "LineLearner", name := "placeOf", desc := "(II)I" } : Jvm.MethodName) "LineLearner") := ⟨List.mem_of_getElem? (i := 441) (by decide +kernel), by decide +kernel⟩
theorem kw402 : zWd (Jvm.Cond.methodLink "LineLearner$Lines" (46 : Nat) ({ cls := "LineLearner$Lines", name := "numberTexts", desc := "(I)V" } : Jvm.MethodName)) := ⟨List.mem_of_getElem? (i := 442) (by decide +kernel), by decide +kernel⟩
theorem kw404 : zWd (Jvm.Cond.instanceMethod ({ cls := "LineLearner$Lines", name := "numberTexts", desc := "(I)V" } : Jvm.MethodName)) := ⟨List.mem_of_getElem? (i := 444) (by decide +kernel), by decide +kernel⟩
theorem kw405 : zWd (Jvm.Cond.code ({ cls := "LineLearner$Lines", name := "numberTexts", desc := "(I)V" } : Jvm.MethodName) prog_4_method_5_code (4 : Nat) (Option.none : Option Jvm.ClassFile.FieldType)) := ⟨List.mem_of_getElem? (i := 445) (by decide +kernel), by decide +kernel⟩
theorem kw406 : zWd (Jvm.Cond.methodLink "LineLearner$Lines" (56 : Nat) ({ cls := "LineLearner$Lines", name := "firstAlike", desc := "(II)I" } : Jvm.MethodName)) := ⟨List.mem_of_getElem? (i := 446) (by decide +kernel), by decide +kernel⟩
theorem kw408 : zWd (Jvm.Cond.instanceMethod ({ cls := "LineLearner$Lines", name := "firstAlike", desc := "(II)I" } : Jvm.MethodName)) := ⟨List.mem_of_getElem? (i := 448) (by decide +kernel), by decide +kernel⟩
theorem kw409 : zWd (Jvm.Cond.code ({ cls := "LineLearner$Lines", name := "firstAlike", desc := "(II)I" } : Jvm.MethodName) prog_4_method_6_code (5 : Nat) (Option.some Jvm.ClassFile.FieldType.int)) := ⟨List.mem_of_getElem? (i := 449) (by decide +kernel), by decide +kernel⟩
theorem kw410 : zWd (Jvm.Cond.methodLink "LineLearner$Lines" (59 : Nat) ({ cls := "LineLearner$Lines", name := "isSameText", desc := "(II)Z" } : Jvm.MethodName)) := ⟨List.mem_of_getElem? (i := 450) (by decide +kernel), by decide +kernel⟩
theorem kw412 : zWd (Jvm.Cond.instanceMethod ({ cls := "LineLearner$Lines", name := "isSameText", desc := "(II)Z" } : Jvm.MethodName)) := ⟨List.mem_of_getElem? (i := 452) (by decide +kernel), by decide +kernel⟩
theorem kw413 : zWd (Jvm.Cond.code ({ cls := "LineLearner$Lines", name := "isSameText", desc := "(II)Z" } : Jvm.MethodName) prog_4_method_7_code (4 : Nat) (Option.some Jvm.ClassFile.FieldType.boolean)) := ⟨List.mem_of_getElem? (i := 453) (by decide +kernel), by decide +kernel⟩
theorem kw414 : zWd (Jvm.Cond.methodLink "LineLearnerLaw" (114 : Nat) ({ cls := "LineLearnerLaw", name := "tokenCount", desc := "(LLineLearner;I[J)I" } : Jvm.MethodName)) := ⟨List.mem_of_getElem? (i := 454) (by decide +kernel), by decide +kernel⟩
theorem kw415 : zWd (Jvm.Cond.static ({ cls := "LineLearnerLaw", name := "tokenCount", desc := "(LLineLearner;I[J)I" } : Jvm.MethodName)) := ⟨List.mem_of_getElem? (i := 455) (by decide +kernel), by decide +kernel⟩
theorem kw416 : zWd (Jvm.Cond.codeWith ({ cls := "LineLearnerLaw", name := "tokenCount", desc := "(LLineLearner;I[J)I" } : Jvm.MethodName) method_5_code (4 : Nat) (Option.some Jvm.ClassFile.FieldType.int) [((0 : Nat), (9 : Nat), (12 : Nat), (25 : Nat))]) := ⟨List.mem_of_getElem? (i := 456) (by decide +kernel), by decide +kernel⟩
theorem kw417 : zWd (Jvm.Cond.classLink "LineLearnerLaw" (25 : Nat) "java/lang/IndexOutOfBoundsException") := ⟨List.mem_of_getElem? (i := 457) (by decide +kernel), by decide +kernel⟩
theorem kw418 : zWd (Jvm.Cond.methodLink "LineLearnerLaw" (21 : Nat) ({ cls := "LineLearner", name := "tokenCount", desc := "(I)I" } : Jvm.MethodName)) := ⟨List.mem_of_getElem? (i := 458) (by decide +kernel), by decide +kernel⟩
theorem kw419 : zWd (Jvm.Cond.instanceMethod ({ cls := "LineLearner", name := "tokenCount", desc := "(I)I" } : Jvm.MethodName)) := ⟨List.mem_of_getElem? (i := 459) (by decide +kernel), by decide +kernel⟩
theorem kw420 : zWd (Jvm.Cond.selects "LineLearner" ({ cls := "LineLearner", name := "tokenCount", desc := "(I)I" } : Jvm.MethodName) ({ cls := "LineLearner", name := "tokenCount", desc := "(I)I" } : Jvm.MethodName)) := ⟨List.mem_of_getElem? (i := 460) (by decide +kernel), by decide +kernel⟩
theorem kw421 : zWd (Jvm.Cond.code ({ cls := "LineLearner", name := "tokenCount", desc := "(I)I" } : Jvm.MethodName) prog_1_method_7_code (2 : Nat) (Option.some Jvm.ClassFile.FieldType.int)) := ⟨List.mem_of_getElem? (i := 461) (by decide +kernel), by decide +kernel⟩
theorem kw422 : zWd (Jvm.Cond.methodLink "LineLearner" (88 : Nat) ({ cls := "LineLearner", name := "needLine", desc := "(I)V" } : Jvm.MethodName)) := ⟨List.mem_of_getElem? (i := 462) (by decide +kernel), by decide +kernel⟩
theorem kw424 : zWd (Jvm.Cond.instanceMethod ({ cls := "LineLearner", name := "needLine", desc := "(I)V" } : Jvm.MethodName)) := ⟨List.mem_of_getElem? (i := 464) (by decide +kernel), by decide +kernel⟩
theorem kw425 : zWd (Jvm.Cond.code ({ cls := "LineLearner", name := "needLine", desc := "(I)V" } : Jvm.MethodName) prog_1_method_41_code (2 : Nat) (Option.none : Option Jvm.ClassFile.FieldType)) := ⟨List.mem_of_getElem? (i := 465) (by decide +kernel), by decide +kernel⟩
theorem kw426 : zWd (Jvm.Cond.classLink "LineLearner" (174 : Nat) "java/lang/IndexOutOfBoundsException") := ⟨List.mem_of_getElem? (i := 466) (by decide +kernel), by decide +kernel⟩
theorem kw427 : zWd (Jvm.Cond.instantiable "java/lang/IndexOutOfBoundsException" (6 : Nat)) := ⟨List.mem_of_getElem? (i := 467) (by decide +kernel), by decide +kernel⟩
theorem kw429 : zWd (Jvm.Cond.selects "java/lang/IndexOutOfBoundsException" ({ cls := "java/lang/Throwable", name := "fillInStackTrace", desc := "(I)Ljava/lang/Throwable;" } : Jvm.MethodName) ({ cls := "java/lang/Throwable", name := "fillInStackTrace", desc := "(I)Ljava/lang/Throwable;" } : Jvm.MethodName)) := ⟨List.mem_of_getElem? (i := 469) (by decide +kernel), by decide +kernel⟩
theorem kw436 : zWd (Jvm.Cond.methodLink "LineLearner" (178 : Nat) ({ cls := "java/lang/IndexOutOfBoundsException", name := "<init>", desc := "(Ljava/lang/String;)V" } : Jvm.MethodName)) := ⟨List.mem_of_getElem? (i := 476) (by decide +kernel), by decide +kernel⟩
theorem kw437 : zWd (Jvm.Cond.instanceMethod ({ cls := "java/lang/IndexOutOfBoundsException", name := "<init>", desc := "(Ljava/lang/String;)V" } : Jvm.MethodName)) := ⟨List.mem_of_getElem? (i := 477) (by decide +kernel), by decide +kernel⟩
theorem kw438 : zWd (Jvm.Cond.code ({ cls := "java/lang/IndexOutOfBoundsException", name := "<init>", desc := "(Ljava/lang/String;)V" } : Jvm.MethodName) prog_10_method_2_code (2 : Nat) (Option.none : Option Jvm.ClassFile.FieldType)) := ⟨List.mem_of_getElem? (i := 478) (by decide +kernel), by decide +kernel⟩
theorem kw439 : zWd (Jvm.Cond.methodLink "java/lang/IndexOutOfBoundsException" (7 : Nat) ({ cls := "java/lang/RuntimeException", name := "<init>", desc := "(Ljava/lang/String;)V" } : Jvm.MethodName)) := ⟨List.mem_of_getElem? (i := 479) (by decide +kernel), by decide +kernel⟩
theorem kw442 : zWd (Jvm.Cond.methodLink "LineLearnerLaw" (118 : Nat) ({ cls := "LineLearnerLaw", name := "tokenKind", desc := "(LLineLearner;II[J)I" } : Jvm.MethodName)) := ⟨List.mem_of_getElem? (i := 482) (by decide +kernel), by decide +kernel⟩
theorem kw443 : zWd (Jvm.Cond.static ({ cls := "LineLearnerLaw", name := "tokenKind", desc := "(LLineLearner;II[J)I" } : Jvm.MethodName)) := ⟨List.mem_of_getElem? (i := 483) (by decide +kernel), by decide +kernel⟩
theorem kw444 : zWd (Jvm.Cond.codeWith ({ cls := "LineLearnerLaw", name := "tokenKind", desc := "(LLineLearner;II[J)I" } : Jvm.MethodName) method_6_code (5 : Nat) (Option.some Jvm.ClassFile.FieldType.int) [((0 : Nat), (10 : Nat), (13 : Nat), (25 : Nat))]) := ⟨List.mem_of_getElem? (i := 484) (by decide +kernel), by decide +kernel⟩
theorem kw445 : zWd (Jvm.Cond.methodLink "LineLearnerLaw" (27 : Nat) ({ cls := "LineLearner", name := "tokenKind", desc := "(II)I" } : Jvm.MethodName)) := ⟨List.mem_of_getElem? (i := 485) (by decide +kernel), by decide +kernel⟩
theorem kw446 : zWd (Jvm.Cond.instanceMethod ({ cls := "LineLearner", name := "tokenKind", desc := "(II)I" } : Jvm.MethodName)) := ⟨List.mem_of_getElem? (i := 486) (by decide +kernel), by decide +kernel⟩
theorem kw447 : zWd (Jvm.Cond.selects "LineLearner" ({ cls := "LineLearner", name := "tokenKind", desc := "(II)I" } : Jvm.MethodName) ({ cls := "LineLearner", name := "tokenKind", desc := "(II)I" } : Jvm.MethodName)) := ⟨List.mem_of_getElem? (i := 487) (by decide +kernel), by decide +kernel⟩
theorem kw448 : zWd (Jvm.Cond.code ({ cls := "LineLearner", name := "tokenKind", desc := "(II)I" } : Jvm.MethodName) prog_1_method_8_code (3 : Nat) (Option.some Jvm.ClassFile.FieldType.int)) := ⟨List.mem_of_getElem? (i := 488) (by decide +kernel), by decide +kernel⟩
theorem kw449 : zWd (Jvm.Cond.methodLink "LineLearner" (95 : Nat) ({ cls := "LineLearner", name := "needToken", desc := "(II)V" } : Jvm.MethodName)) := ⟨List.mem_of_getElem? (i := 489) (by decide +kernel), by decide +kernel⟩
theorem kw451 : zWd (Jvm.Cond.instanceMethod ({ cls := "LineLearner", name := "needToken", desc := "(II)V" } : Jvm.MethodName)) := ⟨List.mem_of_getElem? (i := 491) (by decide +kernel), by decide +kernel⟩
theorem kw452 : zWd (Jvm.Cond.code ({ cls := "LineLearner", name := "needToken", desc := "(II)V" } : Jvm.MethodName) prog_1_method_42_code (3 : Nat) (Option.none : Option Jvm.ClassFile.FieldType)) := ⟨List.mem_of_getElem? (i := 492) (by decide +kernel), by decide +kernel⟩
theorem kw454 : zWd (Jvm.Cond.methodLink "LineLearnerLaw" (122 : Nat) ({ cls := "LineLearnerLaw", name := "tokenStart", desc := "(LLineLearner;II[J)I" } : Jvm.MethodName)) := ⟨List.mem_of_getElem? (i := 494) (by decide +kernel), by decide +kernel⟩
theorem kw455 : zWd (Jvm.Cond.static ({ cls := "LineLearnerLaw", name := "tokenStart", desc := "(LLineLearner;II[J)I" } : Jvm.MethodName)) := ⟨List.mem_of_getElem? (i := 495) (by decide +kernel), by decide +kernel⟩
theorem kw456 : zWd (Jvm.Cond.codeWith ({ cls := "LineLearnerLaw", name := "tokenStart", desc := "(LLineLearner;II[J)I" } : Jvm.MethodName) method_7_code (5 : Nat) (Option.some Jvm.ClassFile.FieldType.int) [((0 : Nat), (10 : Nat), (13 : Nat), (25 : Nat))]) := ⟨List.mem_of_getElem? (i := 496) (by decide +kernel), by decide +kernel⟩
theorem kw457 : zWd (Jvm.Cond.methodLink "LineLearnerLaw" (31 : Nat) ({ cls := "LineLearner", name := "tokenStart", desc := "(II)I" } : Jvm.MethodName)) := ⟨List.mem_of_getElem? (i := 497) (by decide +kernel), by decide +kernel⟩
theorem kw458 : zWd (Jvm.Cond.instanceMethod ({ cls := "LineLearner", name := "tokenStart", desc := "(II)I" } : Jvm.MethodName)) := ⟨List.mem_of_getElem? (i := 498) (by decide +kernel), by decide +kernel⟩
theorem kw459 : zWd (Jvm.Cond.selects "LineLearner" ({ cls := "LineLearner", name := "tokenStart", desc := "(II)I" } : Jvm.MethodName) ({ cls := "LineLearner", name := "tokenStart", desc := "(II)I" } : Jvm.MethodName)) := ⟨List.mem_of_getElem? (i := 499) (by decide +kernel), by decide +kernel⟩
theorem kw460 : zWd (Jvm.Cond.code ({ cls := "LineLearner", name := "tokenStart", desc := "(II)I" } : Jvm.MethodName) prog_1_method_9_code (3 : Nat) (Option.some Jvm.ClassFile.FieldType.int)) := ⟨List.mem_of_getElem? (i := 500) (by decide +kernel), by decide +kernel⟩
theorem kw461 : zWd (Jvm.Cond.methodLink "LineLearnerLaw" (125 : Nat) ({ cls := "LineLearnerLaw", name := "sameAtFront", desc := "(LLineLearner;II[J)I" } : Jvm.MethodName)) := ⟨List.mem_of_getElem? (i := 501) (by decide +kernel), by decide +kernel⟩
theorem kw462 : zWd (Jvm.Cond.static ({ cls := "LineLearnerLaw", name := "sameAtFront", desc := "(LLineLearner;II[J)I" } : Jvm.MethodName)) := ⟨List.mem_of_getElem? (i := 502) (by decide +kernel), by decide +kernel⟩
theorem kw463 : zWd (Jvm.Cond.codeWith ({ cls := "LineLearnerLaw", name := "sameAtFront", desc := "(LLineLearner;II[J)I" } : Jvm.MethodName) method_8_code (5 : Nat) (Option.some Jvm.ClassFile.FieldType.int) [((0 : Nat), (10 : Nat), (13 : Nat), (25 : Nat))]) := ⟨List.mem_of_getElem? (i := 503) (by decide +kernel), by decide +kernel⟩
theorem kw464 : zWd (Jvm.Cond.methodLink "LineLearnerLaw" (34 : Nat) ({ cls := "LineLearner", name := "sameAtFront", desc := "(II)I" } : Jvm.MethodName)) := ⟨List.mem_of_getElem? (i := 504) (by decide +kernel), by decide +kernel⟩
theorem kw465 : zWd (Jvm.Cond.instanceMethod ({ cls := "LineLearner", name := "sameAtFront", desc := "(II)I" } : Jvm.MethodName)) := ⟨List.mem_of_getElem? (i := 505) (by decide +kernel), by decide +kernel⟩
theorem kw466 : zWd (Jvm.Cond.selects "LineLearner" ({ cls := "LineLearner", name := "sameAtFront", desc := "(II)I" } : Jvm.MethodName) ({ cls := "LineLearner", name := "sameAtFront", desc := "(II)I" } : Jvm.MethodName)) := ⟨List.mem_of_getElem? (i := 506) (by decide +kernel), by decide +kernel⟩
theorem kw467 : zWd (Jvm.Cond.code ({ cls := "LineLearner", name := "sameAtFront", desc := "(II)I" } : Jvm.MethodName) prog_1_method_10_code (5 : Nat) (Option.some Jvm.ClassFile.FieldType.int)) := ⟨List.mem_of_getElem? (i := 507) (by decide +kernel), by decide +kernel⟩
theorem kw468 : zWd (Jvm.Cond.methodLink "LineLearner" (113 : Nat) ({ cls := "java/lang/Math", name := "min", desc := "(II)I" } : Jvm.MethodName)) := ⟨List.mem_of_getElem? (i := 508) (by decide +kernel), by decide +kernel⟩
theorem kw469 : zWd (Jvm.Cond.methodLink "LineLearnerLaw" (128 : Nat) ({ cls := "LineLearnerLaw", name := "setCosts", desc := "(LLineLearner;III[J)I" } : Jvm.MethodName)) := ⟨List.mem_of_getElem? (i := 509) (by decide +kernel), by decide +kernel⟩
theorem kw470 : zWd (Jvm.Cond.static ({ cls := "LineLearnerLaw", name := "setCosts", desc := "(LLineLearner;III[J)I" } : Jvm.MethodName)) := ⟨List.mem_of_getElem? (i := 510) (by decide +kernel), by decide +kernel⟩
theorem kw471 : zWd (Jvm.Cond.codeWith ({ cls := "LineLearnerLaw", name := "setCosts", desc := "(LLineLearner;III[J)I" } : Jvm.MethodName) method_9_code (6 : Nat) (Option.some Jvm.ClassFile.FieldType.int) [((0 : Nat), (19 : Nat), (22 : Nat), (13 : Nat))]) := ⟨List.mem_of_getElem? (i := 511) (by decide +kernel), by decide +kernel⟩
theorem kw472 : zWd (Jvm.Cond.methodLink "LineLearnerLaw" (37 : Nat) ({ cls := "LineLearner", name := "setCosts", desc := "(III)Z" } : Jvm.MethodName)) := ⟨List.mem_of_getElem? (i := 512) (by decide +kernel), by decide +kernel⟩
theorem kw473 : zWd (Jvm.Cond.instanceMethod ({ cls := "LineLearner", name := "setCosts", desc := "(III)Z" } : Jvm.MethodName)) := ⟨List.mem_of_getElem? (i := 513) (by decide +kernel), by decide +kernel⟩
theorem kw474 : zWd (Jvm.Cond.selects "LineLearner" ({ cls := "LineLearner", name := "setCosts", desc := "(III)Z" } : Jvm.MethodName) ({ cls := "LineLearner", name := "setCosts", desc := "(III)Z" } : Jvm.MethodName)) := ⟨List.mem_of_getElem? (i := 514) (by decide +kernel), by decide +kernel⟩
theorem kw475 : zWd (Jvm.Cond.code ({ cls := "LineLearner", name := "setCosts", desc := "(III)Z" } : Jvm.MethodName) prog_1_method_11_code (4 : Nat) (Option.some Jvm.ClassFile.FieldType.boolean)) := ⟨List.mem_of_getElem? (i := 515) (by decide +kernel), by decide +kernel⟩
theorem kw476 : zWd (Jvm.Cond.methodLink "LineLearner" (121 : Nat) ({ cls := "LineLearner", name := "isCost", desc := "(I)Z" } : Jvm.MethodName)) := ⟨List.mem_of_getElem? (i := 516) (by decide +kernel), by decide +kernel⟩
theorem kw477 : zWd (Jvm.Cond.static ({ cls := "LineLearner", name := "isCost", desc := "(I)Z" } : Jvm.MethodName)) := ⟨List.mem_of_getElem? (i := 517) (by decide +kernel), by decide +kernel⟩
theorem kw478 : zWd (Jvm.Cond.code ({ cls := "LineLearner", name := "isCost", desc := "(I)Z" } : Jvm.MethodName) prog_1_method_12_code (1 : Nat) (Option.some Jvm.ClassFile.FieldType.boolean)) := ⟨List.mem_of_getElem? (i := 518) (by decide +kernel), by decide +kernel⟩
theorem kw480 : zWd (Jvm.Cond.methodLink "LineLearner" (127 : Nat) ({ cls := "LineLearner$Aligner", name := "takeCosts", desc := "(III)Z" } : Jvm.MethodName)) := ⟨List.mem_of_getElem? (i := 520) (by decide +kernel), by decide +kernel⟩
theorem kw481 : zWd (Jvm.Cond.instanceMethod ({ cls := "LineLearner$Aligner", name := "takeCosts", desc := "(III)Z" } : Jvm.MethodName)) := ⟨List.mem_of_getElem? (i := 521) (by decide +kernel), by decide +kernel⟩
theorem kw482 : zWd (Jvm.Cond.selects "LineLearner$Aligner" ({ cls := "LineLearner$Aligner", name := "takeCosts", desc := "(III)Z" } : Jvm.MethodName) ({ cls := "LineLearner$Aligner", name := "takeCosts", desc := "(III)Z" } : Jvm.MethodName)) := ⟨List.mem_of_getElem? (i := 522) (by decide +kernel), by decide +kernel⟩
theorem kw483 : zWd (Jvm.Cond.code ({ cls := "LineLearner$Aligner", name := "takeCosts", desc := "(III)Z" } : Jvm.MethodName) prog_2_method_2_code (5 : Nat) (Option.some Jvm.ClassFile.FieldType.boolean)) := ⟨List.mem_of_getElem? (i := 523) (by decide +kernel), by decide +kernel⟩
theorem kw484 : zWd (Jvm.Cond.methodLink "LineLearnerLaw" (132 : Nat) ({ cls := "LineLearnerLaw", name := "merge", desc := "(LLineLearner;I[J)I" } : Jvm.MethodName)) := ⟨List.mem_of_getElem? (i := 524) (by decide +kernel), by decide +kernel⟩
theorem kw485 : zWd (Jvm.Cond.static ({ cls := "LineLearnerLaw", name := "merge", desc := "(LLineLearner;I[J)I" } : Jvm.MethodName)) := ⟨List.mem_of_getElem? (i := 525) (by decide +kernel), by decide +kernel⟩
theorem kw486 : zWd (Jvm.Cond.codeWith ({ cls := "LineLearnerLaw", name := "merge", desc := "(LLineLearner;I[J)I" } : Jvm.MethodName) method_10_code (4 : Nat) (Option.some Jvm.ClassFile.FieldType.int) [((0 : Nat), (9 : Nat), (12 : Nat), (25 : Nat)), ((0 : Nat), (9 : Nat), (15 : Nat), (15 : Nat))]) := ⟨List.mem_of_getElem? (i := 526) (by decide +kernel), by decide +kernel⟩
theorem kw487 : zWd (Jvm.Cond.methodLink "LineLearnerLaw" (41 : Nat) ({ cls := "LineLearner", name := "merge", desc := "(I)I" } : Jvm.MethodName)) := ⟨List.mem_of_getElem? (i := 527) (by decide +kernel), by decide +kernel⟩
theorem kw488 : zWd (Jvm.Cond.instanceMethod ({ cls := "LineLearner", name := "merge", desc := "(I)I" } : Jvm.MethodName)) := ⟨List.mem_of_getElem? (i := 528) (by decide +kernel), by decide +kernel⟩
theorem kw489 : zWd (Jvm.Cond.selects "LineLearner" ({ cls := "LineLearner", name := "merge", desc := "(I)I" } : Jvm.MethodName) ({ cls := "LineLearner", name := "merge", desc := "(I)I" } : Jvm.MethodName)) := ⟨List.mem_of_getElem? (i := 529) (by decide +kernel), by decide +kernel⟩
theorem kw490 : zWd (Jvm.Cond.code ({ cls := "LineLearner", name := "merge", desc := "(I)I" } : Jvm.MethodName) prog_1_method_13_code (5 : Nat) (Option.some Jvm.ClassFile.FieldType.int)) := ⟨List.mem_of_getElem? (i := 530) (by decide +kernel), by decide +kernel⟩
theorem kw492 : zWd (Jvm.Cond.methodLink "LineLearner" (133 : Nat) ({ cls := "LineLearner$Aligner", name := "align", desc := "(LLineLearner$Format;I)I" } : Jvm.MethodName)) := ⟨List.mem_of_getElem? (i := 532) (by decide +kernel), by decide +kernel⟩
theorem kw493 : zWd (Jvm.Cond.instanceMethod ({ cls := "LineLearner$Aligner", name := "align", desc := "(LLineLearner$Format;I)I" } : Jvm.MethodName)) := ⟨List.mem_of_getElem? (i := 533) (by decide +kernel), by decide +kernel⟩
theorem kw494 : zWd (Jvm.Cond.selects "LineLearner$Aligner" ({ cls := "LineLearner$Aligner", name := "align", desc := "(LLineLearner$Format;I)I" } : Jvm.MethodName) ({ cls := "LineLearner$Aligner", name := "align", desc := "(LLineLearner$Format;I)I" } : Jvm.MethodName)) := ⟨List.mem_of_getElem? (i := 534) (by decide +kernel), by decide +kernel⟩
theorem kw495 : zWd (Jvm.Cond.code ({ cls := "LineLearner$Aligner", name := "align", desc := "(LLineLearner$Format;I)I" } : Jvm.MethodName) prog_2_method_7_code (8 : Nat) (Option.some Jvm.ClassFile.FieldType.int)) := ⟨List.mem_of_getElem? (i := 535) (by decide +kernel), by decide +kernel⟩
theorem kw496 : zWd (Jvm.Cond.methodLink "LineLearner$Aligner" (85 : Nat) ({ cls := "LineLearner$Aligner", name := "leastCost", desc := "(LLineLearner$Format;I)I" } : Jvm.MethodName)) := ⟨List.mem_of_getElem? (i := 536) (by decide +kernel), by decide +kernel⟩
theorem kw497 : zWd (Jvm.Cond.methodLink "LineLearner$Aligner" (91 : Nat) ({ cls := "LineLearner$Aligner", name := "lastStep", desc := "(LLineLearner$Format;III)I" } : Jvm.MethodName)) := ⟨List.mem_of_getElem? (i := 537) (by decide +kernel), by decide +kernel⟩
theorem kw499 : zWd (Jvm.Cond.instanceMethod ({ cls := "LineLearner$Aligner", name := "lastStep", desc := "(LLineLearner$Format;III)I" } : Jvm.MethodName)) := ⟨List.mem_of_getElem? (i := 539) (by decide +kernel), by decide +kernel⟩
theorem kw500 : zWd (Jvm.Cond.code ({ cls := "LineLearner$Aligner", name := "lastStep", desc := "(LLineLearner$Format;III)I" } : Jvm.MethodName) prog_2_method_8_code (8 : Nat) (Option.some Jvm.ClassFile.FieldType.int)) := ⟨List.mem_of_getElem? (i := 540) (by decide +kernel), by decide +kernel⟩
theorem kw501 : zWd (Jvm.Cond.methodLink "LineLearner" (137 : Nat) ({ cls := "LineLearner$Aligner", name := "hasRoom", desc := "(LLineLearner$Format;)Z" } : Jvm.MethodName)) := ⟨List.mem_of_getElem? (i := 541) (by decide +kernel), by decide +kernel⟩
theorem kw502 : zWd (Jvm.Cond.instanceMethod ({ cls := "LineLearner$Aligner", name := "hasRoom", desc := "(LLineLearner$Format;)Z" } : Jvm.MethodName)) := ⟨List.mem_of_getElem? (i := 542) (by decide +kernel), by decide +kernel⟩
theorem kw503 : zWd (Jvm.Cond.selects "LineLearner$Aligner" ({ cls := "LineLearner$Aligner", name := "hasRoom", desc := "(LLineLearner$Format;)Z" } : Jvm.MethodName) ({ cls := "LineLearner$Aligner", name := "hasRoom", desc := "(LLineLearner$Format;)Z" } : Jvm.MethodName)) := ⟨List.mem_of_getElem? (i := 543) (by decide +kernel), by decide +kernel⟩
theorem kw504 : zWd (Jvm.Cond.code ({ cls := "LineLearner$Aligner", name := "hasRoom", desc := "(LLineLearner$Format;)Z" } : Jvm.MethodName) prog_2_method_9_code (2 : Nat) (Option.some Jvm.ClassFile.FieldType.boolean)) := ⟨List.mem_of_getElem? (i := 544) (by decide +kernel), by decide +kernel⟩
theorem kw506 : zWd (Jvm.Cond.methodLink "LineLearner" (143 : Nat) ({ cls := "LineLearner$Aligner", name := "join", desc := "(LLineLearner$Format;I)V" } : Jvm.MethodName)) := ⟨List.mem_of_getElem? (i := 546) (by decide +kernel), by decide +kernel⟩
theorem kw507 : zWd (Jvm.Cond.instanceMethod ({ cls := "LineLearner$Aligner", name := "join", desc := "(LLineLearner$Format;I)V" } : Jvm.MethodName)) := ⟨List.mem_of_getElem? (i := 547) (by decide +kernel), by decide +kernel⟩
theorem kw508 : zWd (Jvm.Cond.selects "LineLearner$Aligner" ({ cls := "LineLearner$Aligner", name := "join", desc := "(LLineLearner$Format;I)V" } : Jvm.MethodName) ({ cls := "LineLearner$Aligner", name := "join", desc := "(LLineLearner$Format;I)V" } : Jvm.MethodName)) := ⟨List.mem_of_getElem? (i := 548) (by decide +kernel), by decide +kernel⟩
theorem kw509 : zWd (Jvm.Cond.code ({ cls := "LineLearner$Aligner", name := "join", desc := "(LLineLearner$Format;I)V" } : Jvm.MethodName) prog_2_method_10_code (8 : Nat) (Option.none : Option Jvm.ClassFile.FieldType)) := ⟨List.mem_of_getElem? (i := 549) (by decide +kernel), by decide +kernel⟩
theorem kw510 : zWd (Jvm.Cond.methodLink "LineLearner$Aligner" (98 : Nat) ({ cls := "LineLearner$Format", name := "addSlot", desc := "(LLineLearner$Lines;I)I" } : Jvm.MethodName)) := ⟨List.mem_of_getElem? (i := 550) (by decide +kernel), by decide +kernel⟩
theorem kw511 : zWd (Jvm.Cond.instanceMethod ({ cls := "LineLearner$Format", name := "addSlot", desc := "(LLineLearner$Lines;I)I" } : Jvm.MethodName)) := ⟨List.mem_of_getElem? (i := 551) (by decide +kernel), by decide +kernel⟩
theorem kw512 : zWd (Jvm.Cond.selects "LineLearner$Format" ({ cls := "LineLearner$Format", name := "addSlot", desc := "(LLineLearner$Lines;I)I" } : Jvm.MethodName) ({ cls := "LineLearner$Format", name := "addSlot", desc := "(LLineLearner$Lines;I)I" } : Jvm.MethodName)) := ⟨List.mem_of_getElem? (i := 552) (by decide +kernel), by decide +kernel⟩
theorem kw513 : zWd (Jvm.Cond.code ({ cls := "LineLearner$Format", name := "addSlot", desc := "(LLineLearner$Lines;I)I" } : Jvm.MethodName) prog_3_method_4_code (4 : Nat) (Option.some Jvm.ClassFile.FieldType.int)) := ⟨List.mem_of_getElem? (i := 553) (by decide +kernel), by decide +kernel⟩
theorem kw514 : zWd (Jvm.Cond.methodLink "LineLearner$Aligner" (102 : Nat) ({ cls := "LineLearner$Format", name := "useSlot", desc := "(ILLineLearner$Lines;I)V" } : Jvm.MethodName)) := ⟨List.mem_of_getElem? (i := 554) (by decide +kernel), by decide +kernel⟩
theorem kw515 : zWd (Jvm.Cond.instanceMethod ({ cls := "LineLearner$Format", name := "useSlot", desc := "(ILLineLearner$Lines;I)V" } : Jvm.MethodName)) := ⟨List.mem_of_getElem? (i := 555) (by decide +kernel), by decide +kernel⟩
theorem kw516 : zWd (Jvm.Cond.selects "LineLearner$Format" ({ cls := "LineLearner$Format", name := "useSlot", desc := "(ILLineLearner$Lines;I)V" } : Jvm.MethodName) ({ cls := "LineLearner$Format", name := "useSlot", desc := "(ILLineLearner$Lines;I)V" } : Jvm.MethodName)) := ⟨List.mem_of_getElem? (i := 556) (by decide +kernel), by decide +kernel⟩
theorem kw517 : zWd (Jvm.Cond.code ({ cls := "LineLearner$Format", name := "useSlot", desc := "(ILLineLearner$Lines;I)V" } : Jvm.MethodName) prog_3_method_5_code (4 : Nat) (Option.none : Option Jvm.ClassFile.FieldType)) := ⟨List.mem_of_getElem? (i := 557) (by decide +kernel), by decide +kernel⟩
theorem kw518 : zWd (Jvm.Cond.methodLink "LineLearner$Format" (44 : Nat) ({ cls := "java/lang/Math", name := "min", desc := "(II)I" } : Jvm.MethodName)) := ⟨List.mem_of_getElem? (i := 558) (by decide +kernel), by decide +kernel⟩
theorem kw519 : zWd (Jvm.Cond.methodLink "LineLearner$Format" (50 : Nat) ({ cls := "java/lang/Math", name := "max", desc := "(II)I" } : Jvm.MethodName)) := ⟨List.mem_of_getElem? (i := 559) (by decide +kernel), by decide +kernel⟩
theorem kw520 : zWd (Jvm.Cond.methodLink "LineLearnerLaw" (139 : Nat) ({ cls := "LineLearnerLaw", name := "isMerged", desc := "(LLineLearner;I[J)I" } : Jvm.MethodName)) := ⟨List.mem_of_getElem? (i := 560) (by decide +kernel), by decide +kernel⟩
theorem kw521 : zWd (Jvm.Cond.static ({ cls := "LineLearnerLaw", name := "isMerged", desc := "(LLineLearner;I[J)I" } : Jvm.MethodName)) := ⟨List.mem_of_getElem? (i := 561) (by decide +kernel), by decide +kernel⟩
theorem kw522 : zWd (Jvm.Cond.codeWith ({ cls := "LineLearnerLaw", name := "isMerged", desc := "(LLineLearner;I[J)I" } : Jvm.MethodName) method_11_code (4 : Nat) (Option.some Jvm.ClassFile.FieldType.int) [((0 : Nat), (16 : Nat), (19 : Nat), (25 : Nat))]) := ⟨List.mem_of_getElem? (i := 562) (by decide +kernel), by decide +kernel⟩
theorem kw523 : zWd (Jvm.Cond.methodLink "LineLearnerLaw" (44 : Nat) ({ cls := "LineLearner", name := "isMerged", desc := "(I)Z" } : Jvm.MethodName)) := ⟨List.mem_of_getElem? (i := 563) (by decide +kernel), by decide +kernel⟩
theorem kw524 : zWd (Jvm.Cond.instanceMethod ({ cls := "LineLearner", name := "isMerged", desc := "(I)Z" } : Jvm.MethodName)) := ⟨List.mem_of_getElem? (i := 564) (by decide +kernel), by decide +kernel⟩
theorem kw525 : zWd (Jvm.Cond.selects "LineLearner" ({ cls := "LineLearner", name := "isMerged", desc := "(I)Z" } : Jvm.MethodName) ({ cls := "LineLearner", name := "isMerged", desc := "(I)Z" } : Jvm.MethodName)) := ⟨List.mem_of_getElem? (i := 565) (by decide +kernel), by decide +kernel⟩
theorem kw526 : zWd (Jvm.Cond.code ({ cls := "LineLearner", name := "isMerged", desc := "(I)Z" } : Jvm.MethodName) prog_1_method_15_code (2 : Nat) (Option.some Jvm.ClassFile.FieldType.boolean)) := ⟨List.mem_of_getElem? (i := 566) (by decide +kernel), by decide +kernel⟩
theorem kw527 : zWd (Jvm.Cond.methodLink "LineLearnerLaw" (142 : Nat) ({ cls := "LineLearnerLaw", name := "costWith", desc := "(LLineLearner;I[J)I" } : Jvm.MethodName)) := ⟨List.mem_of_getElem? (i := 567) (by decide +kernel), by decide +kernel⟩
theorem kw528 : zWd (Jvm.Cond.static ({ cls := "LineLearnerLaw", name := "costWith", desc := "(LLineLearner;I[J)I" } : Jvm.MethodName)) := ⟨List.mem_of_getElem? (i := 568) (by decide +kernel), by decide +kernel⟩
theorem kw529 : zWd (Jvm.Cond.codeWith ({ cls := "LineLearnerLaw", name := "costWith", desc := "(LLineLearner;I[J)I" } : Jvm.MethodName) method_12_code (4 : Nat) (Option.some Jvm.ClassFile.FieldType.int) [((0 : Nat), (9 : Nat), (12 : Nat), (25 : Nat))]) := ⟨List.mem_of_getElem? (i := 569) (by decide +kernel), by decide +kernel⟩
theorem kw530 : zWd (Jvm.Cond.methodLink "LineLearnerLaw" (48 : Nat) ({ cls := "LineLearner", name := "costWith", desc := "(I)I" } : Jvm.MethodName)) := ⟨List.mem_of_getElem? (i := 570) (by decide +kernel), by decide +kernel⟩
theorem kw531 : zWd (Jvm.Cond.instanceMethod ({ cls := "LineLearner", name := "costWith", desc := "(I)I" } : Jvm.MethodName)) := ⟨List.mem_of_getElem? (i := 571) (by decide +kernel), by decide +kernel⟩
theorem kw532 : zWd (Jvm.Cond.selects "LineLearner" ({ cls := "LineLearner", name := "costWith", desc := "(I)I" } : Jvm.MethodName) ({ cls := "LineLearner", name := "costWith", desc := "(I)I" } : Jvm.MethodName)) := ⟨List.mem_of_getElem? (i := 572) (by decide +kernel), by decide +kernel⟩
theorem kw533 : zWd (Jvm.Cond.code ({ cls := "LineLearner", name := "costWith", desc := "(I)I" } : Jvm.MethodName) prog_1_method_16_code (2 : Nat) (Option.some Jvm.ClassFile.FieldType.int)) := ⟨List.mem_of_getElem? (i := 573) (by decide +kernel), by decide +kernel⟩
theorem kw534 : zWd (Jvm.Cond.methodLink "LineLearnerLaw" (145 : Nat) ({ cls := "LineLearnerLaw", name := "fits", desc := "(LLineLearner;I[J)I" } : Jvm.MethodName)) := ⟨List.mem_of_getElem? (i := 574) (by decide +kernel), by decide +kernel⟩
theorem kw535 : zWd (Jvm.Cond.static ({ cls := "LineLearnerLaw", name := "fits", desc := "(LLineLearner;I[J)I" } : Jvm.MethodName)) := ⟨List.mem_of_getElem? (i := 575) (by decide +kernel), by decide +kernel⟩
theorem kw536 : zWd (Jvm.Cond.codeWith ({ cls := "LineLearnerLaw", name := "fits", desc := "(LLineLearner;I[J)I" } : Jvm.MethodName) method_13_code (4 : Nat) (Option.some Jvm.ClassFile.FieldType.int) [((0 : Nat), (16 : Nat), (19 : Nat), (25 : Nat))]) := ⟨List.mem_of_getElem? (i := 576) (by decide +kernel), by decide +kernel⟩
theorem kw537 : zWd (Jvm.Cond.methodLink "LineLearnerLaw" (51 : Nat) ({ cls := "LineLearner", name := "fits", desc := "(I)Z" } : Jvm.MethodName)) := ⟨List.mem_of_getElem? (i := 577) (by decide +kernel), by decide +kernel⟩
theorem kw538 : zWd (Jvm.Cond.instanceMethod ({ cls := "LineLearner", name := "fits", desc := "(I)Z" } : Jvm.MethodName)) := ⟨List.mem_of_getElem? (i := 578) (by decide +kernel), by decide +kernel⟩
theorem kw539 : zWd (Jvm.Cond.selects "LineLearner" ({ cls := "LineLearner", name := "fits", desc := "(I)Z" } : Jvm.MethodName) ({ cls := "LineLearner", name := "fits", desc := "(I)Z" } : Jvm.MethodName)) := ⟨List.mem_of_getElem? (i := 579) (by decide +kernel), by decide +kernel⟩
theorem kw540 : zWd (Jvm.Cond.code ({ cls := "LineLearner", name := "fits", desc := "(I)Z" } : Jvm.MethodName) prog_1_method_17_code (2 : Nat) (Option.some Jvm.ClassFile.FieldType.boolean)) := ⟨List.mem_of_getElem? (i := 580) (by decide +kernel), by decide +kernel⟩
theorem kw541 : zWd (Jvm.Cond.methodLink "LineLearner" (159 : Nat) ({ cls := "LineLearner$Aligner", name := "isMatch", desc := "(LLineLearner$Format;I)Z" } : Jvm.MethodName)) := ⟨List.mem_of_getElem? (i := 581) (by decide +kernel), by decide +kernel⟩
theorem kw542 : zWd (Jvm.Cond.instanceMethod ({ cls := "LineLearner$Aligner", name := "isMatch", desc := "(LLineLearner$Format;I)Z" } : Jvm.MethodName)) := ⟨List.mem_of_getElem? (i := 582) (by decide +kernel), by decide +kernel⟩
theorem kw543 : zWd (Jvm.Cond.selects "LineLearner$Aligner" ({ cls := "LineLearner$Aligner", name := "isMatch", desc := "(LLineLearner$Format;I)Z" } : Jvm.MethodName) ({ cls := "LineLearner$Aligner", name := "isMatch", desc := "(LLineLearner$Format;I)Z" } : Jvm.MethodName)) := ⟨List.mem_of_getElem? (i := 583) (by decide +kernel), by decide +kernel⟩
theorem kw544 : zWd (Jvm.Cond.code ({ cls := "LineLearner$Aligner", name := "isMatch", desc := "(LLineLearner$Format;I)Z" } : Jvm.MethodName) prog_2_method_11_code (8 : Nat) (Option.some Jvm.ClassFile.FieldType.boolean)) := ⟨List.mem_of_getElem? (i := 584) (by decide +kernel), by decide +kernel⟩
theorem kw545 : zWd (Jvm.Cond.methodLink "LineLearner$Aligner" (109 : Nat) ({ cls := "LineLearner$Aligner", name := "canTake", desc := "(LLineLearner$Format;II)Z" } : Jvm.MethodName)) := ⟨List.mem_of_getElem? (i := 585) (by decide +kernel), by decide +kernel⟩
theorem kw547 : zWd (Jvm.Cond.instanceMethod ({ cls := "LineLearner$Aligner", name := "canTake", desc := "(LLineLearner$Format;II)Z" } : Jvm.MethodName)) := ⟨List.mem_of_getElem? (i := 587) (by decide +kernel), by decide +kernel⟩
theorem kw548 : zWd (Jvm.Cond.code ({ cls := "LineLearner$Aligner", name := "canTake", desc := "(LLineLearner$Format;II)Z" } : Jvm.MethodName) prog_2_method_12_code (5 : Nat) (Option.some Jvm.ClassFile.FieldType.boolean)) := ⟨List.mem_of_getElem? (i := 588) (by decide +kernel), by decide +kernel⟩
theorem kw549 : zWd (Jvm.Cond.methodLink "LineLearnerLaw" (156 : Nat) ({ cls := "LineLearnerLaw", name := "slotKind", desc := "(LLineLearner;I[J)I" } : Jvm.MethodName)) := ⟨List.mem_of_getElem? (i := 589) (by decide +kernel), by decide +kernel⟩
theorem kw550 : zWd (Jvm.Cond.static ({ cls := "LineLearnerLaw", name := "slotKind", desc := "(LLineLearner;I[J)I" } : Jvm.MethodName)) := ⟨List.mem_of_getElem? (i := 590) (by decide +kernel), by decide +kernel⟩
theorem kw551 : zWd (Jvm.Cond.codeWith ({ cls := "LineLearnerLaw", name := "slotKind", desc := "(LLineLearner;I[J)I" } : Jvm.MethodName) method_14_code (4 : Nat) (Option.some Jvm.ClassFile.FieldType.int) [((0 : Nat), (9 : Nat), (12 : Nat), (25 : Nat))]) := ⟨List.mem_of_getElem? (i := 591) (by decide +kernel), by decide +kernel⟩
theorem kw552 : zWd (Jvm.Cond.methodLink "LineLearnerLaw" (54 : Nat) ({ cls := "LineLearner", name := "slotKind", desc := "(I)I" } : Jvm.MethodName)) := ⟨List.mem_of_getElem? (i := 592) (by decide +kernel), by decide +kernel⟩
theorem kw553 : zWd (Jvm.Cond.instanceMethod ({ cls := "LineLearner", name := "slotKind", desc := "(I)I" } : Jvm.MethodName)) := ⟨List.mem_of_getElem? (i := 593) (by decide +kernel), by decide +kernel⟩
theorem kw554 : zWd (Jvm.Cond.selects "LineLearner" ({ cls := "LineLearner", name := "slotKind", desc := "(I)I" } : Jvm.MethodName) ({ cls := "LineLearner", name := "slotKind", desc := "(I)I" } : Jvm.MethodName)) := ⟨List.mem_of_getElem? (i := 594) (by decide +kernel), by decide +kernel⟩
theorem kw555 : zWd (Jvm.Cond.code ({ cls := "LineLearner", name := "slotKind", desc := "(I)I" } : Jvm.MethodName) prog_1_method_20_code (2 : Nat) (Option.some Jvm.ClassFile.FieldType.int)) := ⟨List.mem_of_getElem? (i := 595) (by decide +kernel), by decide +kernel⟩
theorem kw556 : zWd (Jvm.Cond.methodLink "LineLearner" (167 : Nat) ({ cls := "LineLearner", name := "neededSlot", desc := "(I)I" } : Jvm.MethodName)) := ⟨List.mem_of_getElem? (i := 596) (by decide +kernel), by decide +kernel⟩
theorem kw558 : zWd (Jvm.Cond.instanceMethod ({ cls := "LineLearner", name := "neededSlot", desc := "(I)I" } : Jvm.MethodName)) := ⟨List.mem_of_getElem? (i := 598) (by decide +kernel), by decide +kernel⟩
theorem kw559 : zWd (Jvm.Cond.code ({ cls := "LineLearner", name := "neededSlot", desc := "(I)I" } : Jvm.MethodName) prog_1_method_43_code (2 : Nat) (Option.some Jvm.ClassFile.FieldType.int)) := ⟨List.mem_of_getElem? (i := 599) (by decide +kernel), by decide +kernel⟩
theorem kw561 : zWd (Jvm.Cond.methodLink "LineLearnerLaw" (159 : Nat) ({ cls := "LineLearnerLaw", name := "textByte", desc := "(LLineLearner;II[J)I" } : Jvm.MethodName)) := ⟨List.mem_of_getElem? (i := 601) (by decide +kernel), by decide +kernel⟩
theorem kw562 : zWd (Jvm.Cond.static ({ cls := "LineLearnerLaw", name := "textByte", desc := "(LLineLearner;II[J)I" } : Jvm.MethodName)) := ⟨List.mem_of_getElem? (i := 602) (by decide +kernel), by decide +kernel⟩
theorem kw563 : zWd (Jvm.Cond.codeWith ({ cls := "LineLearnerLaw", name := "textByte", desc := "(LLineLearner;II[J)I" } : Jvm.MethodName) method_15_code (5 : Nat) (Option.some Jvm.ClassFile.FieldType.int) [((0 : Nat), (10 : Nat), (13 : Nat), (25 : Nat))]) := ⟨List.mem_of_getElem? (i := 603) (by decide +kernel), by decide +kernel⟩
theorem kw564 : zWd (Jvm.Cond.methodLink "LineLearnerLaw" (57 : Nat) ({ cls := "LineLearner", name := "textByte", desc := "(II)I" } : Jvm.MethodName)) := ⟨List.mem_of_getElem? (i := 604) (by decide +kernel), by decide +kernel⟩
theorem kw565 : zWd (Jvm.Cond.instanceMethod ({ cls := "LineLearner", name := "textByte", desc := "(II)I" } : Jvm.MethodName)) := ⟨List.mem_of_getElem? (i := 605) (by decide +kernel), by decide +kernel⟩
theorem kw566 : zWd (Jvm.Cond.selects "LineLearner" ({ cls := "LineLearner", name := "textByte", desc := "(II)I" } : Jvm.MethodName) ({ cls := "LineLearner", name := "textByte", desc := "(II)I" } : Jvm.MethodName)) := ⟨List.mem_of_getElem? (i := 606) (by decide +kernel), by decide +kernel⟩
theorem kw567 : zWd (Jvm.Cond.code ({ cls := "LineLearner", name := "textByte", desc := "(II)I" } : Jvm.MethodName) prog_1_method_21_code (4 : Nat) (Option.some Jvm.ClassFile.FieldType.int)) := ⟨List.mem_of_getElem? (i := 607) (by decide +kernel), by decide +kernel⟩
theorem kw569 : zWd (Jvm.Cond.methodLink "LineLearnerLaw" (162 : Nat) ({ cls := "LineLearnerLaw", name := "sizeOf", desc := "(LLineLearner;IZ[J)I" } : Jvm.MethodName)) := ⟨List.mem_of_getElem? (i := 609) (by decide +kernel), by decide +kernel⟩
theorem kw570 : zWd (Jvm.Cond.static ({ cls := "LineLearnerLaw", name := "sizeOf", desc := "(LLineLearner;IZ[J)I" } : Jvm.MethodName)) := ⟨List.mem_of_getElem? (i := 610) (by decide +kernel), by decide +kernel⟩
theorem kw571 : zWd (Jvm.Cond.codeWith ({ cls := "LineLearnerLaw", name := "sizeOf", desc := "(LLineLearner;IZ[J)I" } : Jvm.MethodName) method_16_code (5 : Nat) (Option.some Jvm.ClassFile.FieldType.int) [((0 : Nat), (10 : Nat), (13 : Nat), (25 : Nat))]) := ⟨List.mem_of_getElem? (i := 611) (by decide +kernel), by decide +kernel⟩
theorem kw572 : zWd (Jvm.Cond.methodLink "LineLearnerLaw" (60 : Nat) ({ cls := "LineLearner", name := "sizeOf", desc := "(IZ)I" } : Jvm.MethodName)) := ⟨List.mem_of_getElem? (i := 612) (by decide +kernel), by decide +kernel⟩
theorem kw573 : zWd (Jvm.Cond.instanceMethod ({ cls := "LineLearner", name := "sizeOf", desc := "(IZ)I" } : Jvm.MethodName)) := ⟨List.mem_of_getElem? (i := 613) (by decide +kernel), by decide +kernel⟩
theorem kw574 : zWd (Jvm.Cond.selects "LineLearner" ({ cls := "LineLearner", name := "sizeOf", desc := "(IZ)I" } : Jvm.MethodName) ({ cls := "LineLearner", name := "sizeOf", desc := "(IZ)I" } : Jvm.MethodName)) := ⟨List.mem_of_getElem? (i := 614) (by decide +kernel), by decide +kernel⟩
theorem kw575 : zWd (Jvm.Cond.code ({ cls := "LineLearner", name := "sizeOf", desc := "(IZ)I" } : Jvm.MethodName) prog_1_method_22_code (4 : Nat) (Option.some Jvm.ClassFile.FieldType.int)) := ⟨List.mem_of_getElem? (i := 615) (by decide +kernel), by decide +kernel⟩
theorem kw576 : zWd (Jvm.Cond.methodLink "LineLearnerLaw" (166 : Nat) ({ cls := "LineLearnerLaw", name := "uses", desc := "(LLineLearner;I[J)I" } : Jvm.MethodName)) := ⟨List.mem_of_getElem? (i := 616) (by decide +kernel), by decide +kernel⟩
theorem kw577 : zWd (Jvm.Cond.static ({ cls := "LineLearnerLaw", name := "uses", desc := "(LLineLearner;I[J)I" } : Jvm.MethodName)) := ⟨List.mem_of_getElem? (i := 617) (by decide +kernel), by decide +kernel⟩
theorem kw578 : zWd (Jvm.Cond.codeWith ({ cls := "LineLearnerLaw", name := "uses", desc := "(LLineLearner;I[J)I" } : Jvm.MethodName) method_17_code (4 : Nat) (Option.some Jvm.ClassFile.FieldType.int) [((0 : Nat), (9 : Nat), (12 : Nat), (25 : Nat))]) := ⟨List.mem_of_getElem? (i := 618) (by decide +kernel), by decide +kernel⟩
theorem kw579 : zWd (Jvm.Cond.methodLink "LineLearnerLaw" (64 : Nat) ({ cls := "LineLearner", name := "uses", desc := "(I)I" } : Jvm.MethodName)) := ⟨List.mem_of_getElem? (i := 619) (by decide +kernel), by decide +kernel⟩
theorem kw580 : zWd (Jvm.Cond.instanceMethod ({ cls := "LineLearner", name := "uses", desc := "(I)I" } : Jvm.MethodName)) := ⟨List.mem_of_getElem? (i := 620) (by decide +kernel), by decide +kernel⟩
theorem kw581 : zWd (Jvm.Cond.selects "LineLearner" ({ cls := "LineLearner", name := "uses", desc := "(I)I" } : Jvm.MethodName) ({ cls := "LineLearner", name := "uses", desc := "(I)I" } : Jvm.MethodName)) := ⟨List.mem_of_getElem? (i := 621) (by decide +kernel), by decide +kernel⟩
theorem kw582 : zWd (Jvm.Cond.code ({ cls := "LineLearner", name := "uses", desc := "(I)I" } : Jvm.MethodName) prog_1_method_23_code (2 : Nat) (Option.some Jvm.ClassFile.FieldType.int)) := ⟨List.mem_of_getElem? (i := 622) (by decide +kernel), by decide +kernel⟩
theorem kw583 : zWd (Jvm.Cond.methodLink "LineLearnerLaw" (169 : Nat) ({ cls := "LineLearnerLaw", name := "isOptional", desc := "(LLineLearner;I[J)I" } : Jvm.MethodName)) := ⟨List.mem_of_getElem? (i := 623) (by decide +kernel), by decide +kernel⟩
theorem kw584 : zWd (Jvm.Cond.static ({ cls := "LineLearnerLaw", name := "isOptional", desc := "(LLineLearner;I[J)I" } : Jvm.MethodName)) := ⟨List.mem_of_getElem? (i := 624) (by decide +kernel), by decide +kernel⟩
theorem kw585 : zWd (Jvm.Cond.codeWith ({ cls := "LineLearnerLaw", name := "isOptional", desc := "(LLineLearner;I[J)I" } : Jvm.MethodName) method_18_code (4 : Nat) (Option.some Jvm.ClassFile.FieldType.int) [((0 : Nat), (16 : Nat), (19 : Nat), (25 : Nat))]) := ⟨List.mem_of_getElem? (i := 625) (by decide +kernel), by decide +kernel⟩
theorem kw586 : zWd (Jvm.Cond.methodLink "LineLearnerLaw" (67 : Nat) ({ cls := "LineLearner", name := "isOptional", desc := "(I)Z" } : Jvm.MethodName)) := ⟨List.mem_of_getElem? (i := 626) (by decide +kernel), by decide +kernel⟩
theorem kw587 : zWd (Jvm.Cond.instanceMethod ({ cls := "LineLearner", name := "isOptional", desc := "(I)Z" } : Jvm.MethodName)) := ⟨List.mem_of_getElem? (i := 627) (by decide +kernel), by decide +kernel⟩
theorem kw588 : zWd (Jvm.Cond.selects "LineLearner" ({ cls := "LineLearner", name := "isOptional", desc := "(I)Z" } : Jvm.MethodName) ({ cls := "LineLearner", name := "isOptional", desc := "(I)Z" } : Jvm.MethodName)) := ⟨List.mem_of_getElem? (i := 628) (by decide +kernel), by decide +kernel⟩
theorem kw589 : zWd (Jvm.Cond.code ({ cls := "LineLearner", name := "isOptional", desc := "(I)Z" } : Jvm.MethodName) prog_1_method_24_code (2 : Nat) (Option.some Jvm.ClassFile.FieldType.boolean)) := ⟨List.mem_of_getElem? (i := 629) (by decide +kernel), by decide +kernel⟩
theorem kw590 : zWd (Jvm.Cond.methodLink "LineLearnerLaw" (172 : Nat) ({ cls := "LineLearnerLaw", name := "tokenAt", desc := "(LLineLearner;II[J)I" } : Jvm.MethodName)) := ⟨List.mem_of_getElem? (i := 630) (by decide +kernel), by decide +kernel⟩
theorem kw591 : zWd (Jvm.Cond.static ({ cls := "LineLearnerLaw", name := "tokenAt", desc := "(LLineLearner;II[J)I" } : Jvm.MethodName)) := ⟨List.mem_of_getElem? (i := 631) (by decide +kernel), by decide +kernel⟩
theorem kw592 : zWd (Jvm.Cond.codeWith ({ cls := "LineLearnerLaw", name := "tokenAt", desc := "(LLineLearner;II[J)I" } : Jvm.MethodName) method_19_code (5 : Nat) (Option.some Jvm.ClassFile.FieldType.int) [((0 : Nat), (10 : Nat), (13 : Nat), (25 : Nat))]) := ⟨List.mem_of_getElem? (i := 632) (by decide +kernel), by decide +kernel⟩
theorem kw593 : zWd (Jvm.Cond.methodLink "LineLearnerLaw" (70 : Nat) ({ cls := "LineLearner", name := "tokenAt", desc := "(II)I" } : Jvm.MethodName)) := ⟨List.mem_of_getElem? (i := 633) (by decide +kernel), by decide +kernel⟩
theorem kw594 : zWd (Jvm.Cond.instanceMethod ({ cls := "LineLearner", name := "tokenAt", desc := "(II)I" } : Jvm.MethodName)) := ⟨List.mem_of_getElem? (i := 634) (by decide +kernel), by decide +kernel⟩
theorem kw595 : zWd (Jvm.Cond.selects "LineLearner" ({ cls := "LineLearner", name := "tokenAt", desc := "(II)I" } : Jvm.MethodName) ({ cls := "LineLearner", name := "tokenAt", desc := "(II)I" } : Jvm.MethodName)) := ⟨List.mem_of_getElem? (i := 635) (by decide +kernel), by decide +kernel⟩
theorem kw596 : zWd (Jvm.Cond.code ({ cls := "LineLearner", name := "tokenAt", desc := "(II)I" } : Jvm.MethodName) prog_1_method_25_code (3 : Nat) (Option.some Jvm.ClassFile.FieldType.int)) := ⟨List.mem_of_getElem? (i := 636) (by decide +kernel), by decide +kernel⟩
theorem kw597 : zWd (Jvm.Cond.methodLink "LineLearner" (194 : Nat) ({ cls := "LineLearner", name := "tokenIn", desc := "(II)I" } : Jvm.MethodName)) := ⟨List.mem_of_getElem? (i := 637) (by decide +kernel), by decide +kernel⟩
theorem kw599 : zWd (Jvm.Cond.instanceMethod ({ cls := "LineLearner", name := "tokenIn", desc := "(II)I" } : Jvm.MethodName)) := ⟨List.mem_of_getElem? (i := 639) (by decide +kernel), by decide +kernel⟩
theorem kw600 : zWd (Jvm.Cond.code ({ cls := "LineLearner", name := "tokenIn", desc := "(II)I" } : Jvm.MethodName) prog_1_method_46_code (5 : Nat) (Option.some Jvm.ClassFile.FieldType.int)) := ⟨List.mem_of_getElem? (i := 640) (by decide +kernel), by decide +kernel⟩
theorem kw601 : zWd (Jvm.Cond.methodLink "LineLearnerLaw" (175 : Nat) ({ cls := "LineLearnerLaw", name := "numberAt", desc := "(LLineLearner;II[J)I" } : Jvm.MethodName)) := ⟨List.mem_of_getElem? (i := 641) (by decide +kernel), by decide +kernel⟩
theorem kw602 : zWd (Jvm.Cond.static ({ cls := "LineLearnerLaw", name := "numberAt", desc := "(LLineLearner;II[J)I" } : Jvm.MethodName)) := ⟨List.mem_of_getElem? (i := 642) (by decide +kernel), by decide +kernel⟩
theorem kw603 : zWd (Jvm.Cond.codeWith ({ cls := "LineLearnerLaw", name := "numberAt", desc := "(LLineLearner;II[J)I" } : Jvm.MethodName) method_20_code (5 : Nat) (Option.some Jvm.ClassFile.FieldType.int) [((0 : Nat), (10 : Nat), (13 : Nat), (25 : Nat))]) := ⟨List.mem_of_getElem? (i := 643) (by decide +kernel), by decide +kernel⟩
theorem kw604 : zWd (Jvm.Cond.methodLink "LineLearnerLaw" (73 : Nat) ({ cls := "LineLearner", name := "numberAt", desc := "(II)I" } : Jvm.MethodName)) := ⟨List.mem_of_getElem? (i := 644) (by decide +kernel), by decide +kernel⟩
theorem kw605 : zWd (Jvm.Cond.instanceMethod ({ cls := "LineLearner", name := "numberAt", desc := "(II)I" } : Jvm.MethodName)) := ⟨List.mem_of_getElem? (i := 645) (by decide +kernel), by decide +kernel⟩
theorem kw606 : zWd (Jvm.Cond.selects "LineLearner" ({ cls := "LineLearner", name := "numberAt", desc := "(II)I" } : Jvm.MethodName) ({ cls := "LineLearner", name := "numberAt", desc := "(II)I" } : Jvm.MethodName)) := ⟨List.mem_of_getElem? (i := 646) (by decide +kernel), by decide +kernel⟩
theorem kw607 : zWd (Jvm.Cond.code ({ cls := "LineLearner", name := "numberAt", desc := "(II)I" } : Jvm.MethodName) prog_1_method_26_code (3 : Nat) (Option.some Jvm.ClassFile.FieldType.int)) := ⟨List.mem_of_getElem? (i := 647) (by decide +kernel), by decide +kernel⟩
theorem kw608 : zWd (Jvm.Cond.methodLink "LineLearner" (197 : Nat) ({ cls := "LineLearner", name := "numberIn", desc := "(II)I" } : Jvm.MethodName)) := ⟨List.mem_of_getElem? (i := 648) (by decide +kernel), by decide +kernel⟩
theorem kw610 : zWd (Jvm.Cond.instanceMethod ({ cls := "LineLearner", name := "numberIn", desc := "(II)I" } : Jvm.MethodName)) := ⟨List.mem_of_getElem? (i := 650) (by decide +kernel), by decide +kernel⟩
theorem kw611 : zWd (Jvm.Cond.code ({ cls := "LineLearner", name := "numberIn", desc := "(II)I" } : Jvm.MethodName) prog_1_method_48_code (4 : Nat) (Option.some Jvm.ClassFile.FieldType.int)) := ⟨List.mem_of_getElem? (i := 651) (by decide +kernel), by decide +kernel⟩
theorem kw612 : zWd (Jvm.Cond.methodLink "LineLearner" (273 : Nat) ({ cls := "LineLearner$Lines", name := "numberOf", desc := "(I)I" } : Jvm.MethodName)) := ⟨List.mem_of_getElem? (i := 652) (by decide +kernel), by decide +kernel⟩
theorem kw613 : zWd (Jvm.Cond.instanceMethod ({ cls := "LineLearner$Lines", name := "numberOf", desc := "(I)I" } : Jvm.MethodName)) := ⟨List.mem_of_getElem? (i := 653) (by decide +kernel), by decide +kernel⟩
theorem kw614 : zWd (Jvm.Cond.selects "LineLearner$Lines" ({ cls := "LineLearner$Lines", name := "numberOf", desc := "(I)I" } : Jvm.MethodName) ({ cls := "LineLearner$Lines", name := "numberOf", desc := "(I)I" } : Jvm.MethodName)) := ⟨List.mem_of_getElem? (i := 654) (by decide +kernel), by decide +kernel⟩
theorem kw615 : zWd (Jvm.Cond.code ({ cls := "LineLearner$Lines", name := "numberOf", desc := "(I)I" } : Jvm.MethodName) prog_4_method_8_code (5 : Nat) (Option.some Jvm.ClassFile.FieldType.int)) := ⟨List.mem_of_getElem? (i := 655) (by decide +kernel), by decide +kernel⟩
theorem kw616 : zWd (Jvm.Cond.methodLink "LineLearner$Lines" (63 : Nat) ({ cls := "java/lang/Math", name := "max", desc := "(II)I" } : Jvm.MethodName)) := ⟨List.mem_of_getElem? (i := 656) (by decide +kernel), by decide +kernel⟩
theorem kw617 : zWd (Jvm.Cond.methodLink "LineLearnerLaw" (178 : Nat) ({ cls := "LineLearnerLaw", name := "distinct", desc := "(LLineLearner;I[J)I" } : Jvm.MethodName)) := ⟨List.mem_of_getElem? (i := 657) (by decide +kernel), by decide +kernel⟩
theorem kw618 : zWd (Jvm.Cond.static ({ cls := "LineLearnerLaw", name := "distinct", desc := "(LLineLearner;I[J)I" } : Jvm.MethodName)) := ⟨List.mem_of_getElem? (i := 658) (by decide +kernel), by decide +kernel⟩
theorem kw619 : zWd (Jvm.Cond.codeWith ({ cls := "LineLearnerLaw", name := "distinct", desc := "(LLineLearner;I[J)I" } : Jvm.MethodName) method_21_code (4 : Nat) (Option.some Jvm.ClassFile.FieldType.int) [((0 : Nat), (9 : Nat), (12 : Nat), (25 : Nat))]) := ⟨List.mem_of_getElem? (i := 659) (by decide +kernel), by decide +kernel⟩
theorem kw620 : zWd (Jvm.Cond.methodLink "LineLearnerLaw" (76 : Nat) ({ cls := "LineLearner", name := "distinct", desc := "(I)I" } : Jvm.MethodName)) := ⟨List.mem_of_getElem? (i := 660) (by decide +kernel), by decide +kernel⟩
theorem kw621 : zWd (Jvm.Cond.instanceMethod ({ cls := "LineLearner", name := "distinct", desc := "(I)I" } : Jvm.MethodName)) := ⟨List.mem_of_getElem? (i := 661) (by decide +kernel), by decide +kernel⟩
theorem kw622 : zWd (Jvm.Cond.selects "LineLearner" ({ cls := "LineLearner", name := "distinct", desc := "(I)I" } : Jvm.MethodName) ({ cls := "LineLearner", name := "distinct", desc := "(I)I" } : Jvm.MethodName)) := ⟨List.mem_of_getElem? (i := 662) (by decide +kernel), by decide +kernel⟩
theorem kw623 : zWd (Jvm.Cond.code ({ cls := "LineLearner", name := "distinct", desc := "(I)I" } : Jvm.MethodName) prog_1_method_27_code (6 : Nat) (Option.some Jvm.ClassFile.FieldType.int)) := ⟨List.mem_of_getElem? (i := 663) (by decide +kernel), by decide +kernel⟩
theorem kw624 : zWd (Jvm.Cond.methodLink "LineLearner" (200 : Nat) ({ cls := "LineLearner", name := "textIn", desc := "(II)I" } : Jvm.MethodName)) := ⟨List.mem_of_getElem? (i := 664) (by decide +kernel), by decide +kernel⟩
theorem kw626 : zWd (Jvm.Cond.instanceMethod ({ cls := "LineLearner", name := "textIn", desc := "(II)I" } : Jvm.MethodName)) := ⟨List.mem_of_getElem? (i := 666) (by decide +kernel), by decide +kernel⟩
theorem kw627 : zWd (Jvm.Cond.code ({ cls := "LineLearner", name := "textIn", desc := "(II)I" } : Jvm.MethodName) prog_1_method_47_code (4 : Nat) (Option.some Jvm.ClassFile.FieldType.int)) := ⟨List.mem_of_getElem? (i := 667) (by decide +kernel), by decide +kernel⟩
theorem kw628 : zWd (Jvm.Cond.methodLink "LineLearner" (203 : Nat) ({ cls := "LineLearner", name := "isTextBefore", desc := "(III)Z" } : Jvm.MethodName)) := ⟨List.mem_of_getElem? (i := 668) (by decide +kernel), by decide +kernel⟩
theorem kw630 : zWd (Jvm.Cond.instanceMethod ({ cls := "LineLearner", name := "isTextBefore", desc := "(III)Z" } : Jvm.MethodName)) := ⟨List.mem_of_getElem? (i := 670) (by decide +kernel), by decide +kernel⟩
theorem kw631 : zWd (Jvm.Cond.code ({ cls := "LineLearner", name := "isTextBefore", desc := "(III)Z" } : Jvm.MethodName) prog_1_method_28_code (5 : Nat) (Option.some Jvm.ClassFile.FieldType.boolean)) := ⟨List.mem_of_getElem? (i := 671) (by decide +kernel), by decide +kernel⟩
theorem kw632 : zWd (Jvm.Cond.methodLink "LineLearnerLaw" (181 : Nat) ({ cls := "LineLearnerLaw", name := "isRising", desc := "(LLineLearner;I[J)I" } : Jvm.MethodName)) := ⟨List.mem_of_getElem? (i := 672) (by decide +kernel), by decide +kernel⟩
theorem kw633 : zWd (Jvm.Cond.static ({ cls := "LineLearnerLaw", name := "isRising", desc := "(LLineLearner;I[J)I" } : Jvm.MethodName)) := ⟨List.mem_of_getElem? (i := 673) (by decide +kernel), by decide +kernel⟩
theorem kw634 : zWd (Jvm.Cond.codeWith ({ cls := "LineLearnerLaw", name := "isRising", desc := "(LLineLearner;I[J)I" } : Jvm.MethodName) method_22_code (4 : Nat) (Option.some Jvm.ClassFile.FieldType.int) [((0 : Nat), (16 : Nat), (19 : Nat), (25 : Nat))]) := ⟨List.mem_of_getElem? (i := 674) (by decide +kernel), by decide +kernel⟩
theorem kw635 : zWd (Jvm.Cond.methodLink "LineLearnerLaw" (79 : Nat) ({ cls := "LineLearner", name := "isRising", desc := "(I)Z" } : Jvm.MethodName)) := ⟨List.mem_of_getElem? (i := 675) (by decide +kernel), by decide +kernel⟩
theorem kw636 : zWd (Jvm.Cond.instanceMethod ({ cls := "LineLearner", name := "isRising", desc := "(I)Z" } : Jvm.MethodName)) := ⟨List.mem_of_getElem? (i := 676) (by decide +kernel), by decide +kernel⟩
theorem kw637 : zWd (Jvm.Cond.selects "LineLearner" ({ cls := "LineLearner", name := "isRising", desc := "(I)Z" } : Jvm.MethodName) ({ cls := "LineLearner", name := "isRising", desc := "(I)Z" } : Jvm.MethodName)) := ⟨List.mem_of_getElem? (i := 677) (by decide +kernel), by decide +kernel⟩
theorem kw638 : zWd (Jvm.Cond.code ({ cls := "LineLearner", name := "isRising", desc := "(I)Z" } : Jvm.MethodName) prog_1_method_29_code (6 : Nat) (Option.some Jvm.ClassFile.FieldType.boolean)) := ⟨List.mem_of_getElem? (i := 678) (by decide +kernel), by decide +kernel⟩
theorem kw639 : zWd (Jvm.Cond.methodLink "LineLearnerLaw" (193 : Nat) ({ cls := "LineLearnerLaw", name := "group", desc := "(LLineLearner;I[J)I" } : Jvm.MethodName)) := ⟨List.mem_of_getElem? (i := 679) (by decide +kernel), by decide +kernel⟩
theorem kw640 : zWd (Jvm.Cond.static ({ cls := "LineLearnerLaw", name := "group", desc := "(LLineLearner;I[J)I" } : Jvm.MethodName)) := ⟨List.mem_of_getElem? (i := 680) (by decide +kernel), by decide +kernel⟩
theorem kw641 : zWd (Jvm.Cond.codeWith ({ cls := "LineLearnerLaw", name := "group", desc := "(LLineLearner;I[J)I" } : Jvm.MethodName) method_23_code (4 : Nat) (Option.some Jvm.ClassFile.FieldType.int) [((0 : Nat), (9 : Nat), (12 : Nat), (13 : Nat))]) := ⟨List.mem_of_getElem? (i := 681) (by decide +kernel), by decide +kernel⟩
theorem kw642 : zWd (Jvm.Cond.methodLink "LineLearnerLaw" (82 : Nat) ({ cls := "LineLearner", name := "group", desc := "(I)I" } : Jvm.MethodName)) := ⟨List.mem_of_getElem? (i := 682) (by decide +kernel), by decide +kernel⟩
theorem kw643 : zWd (Jvm.Cond.instanceMethod ({ cls := "LineLearner", name := "group", desc := "(I)I" } : Jvm.MethodName)) := ⟨List.mem_of_getElem? (i := 683) (by decide +kernel), by decide +kernel⟩
theorem kw644 : zWd (Jvm.Cond.selects "LineLearner" ({ cls := "LineLearner", name := "group", desc := "(I)I" } : Jvm.MethodName) ({ cls := "LineLearner", name := "group", desc := "(I)I" } : Jvm.MethodName)) := ⟨List.mem_of_getElem? (i := 684) (by decide +kernel), by decide +kernel⟩
theorem kw645 : zWd (Jvm.Cond.code ({ cls := "LineLearner", name := "group", desc := "(I)I" } : Jvm.MethodName) prog_1_method_33_code (4 : Nat) (Option.some Jvm.ClassFile.FieldType.int)) := ⟨List.mem_of_getElem? (i := 685) (by decide +kernel), by decide +kernel⟩
theorem kw647 : zWd (Jvm.Cond.methodLink "LineLearner" (233 : Nat) ({ cls := "LineLearner", name := "nearestGroup", desc := "(II)I" } : Jvm.MethodName)) := ⟨List.mem_of_getElem? (i := 687) (by decide +kernel), by decide +kernel⟩
theorem kw649 : zWd (Jvm.Cond.instanceMethod ({ cls := "LineLearner", name := "nearestGroup", desc := "(II)I" } : Jvm.MethodName)) := ⟨List.mem_of_getElem? (i := 689) (by decide +kernel), by decide +kernel⟩
theorem kw650 : zWd (Jvm.Cond.code ({ cls := "LineLearner", name := "nearestGroup", desc := "(II)I" } : Jvm.MethodName) prog_1_method_34_code (7 : Nat) (Option.some Jvm.ClassFile.FieldType.int)) := ⟨List.mem_of_getElem? (i := 690) (by decide +kernel), by decide +kernel⟩
theorem kw651 : zWd (Jvm.Cond.methodLink "LineLearnerLaw" (196 : Nat) ({ cls := "LineLearnerLaw", name := "groupOf", desc := "(LLineLearner;I[J)I" } : Jvm.MethodName)) := ⟨List.mem_of_getElem? (i := 691) (by decide +kernel), by decide +kernel⟩
theorem kw652 : zWd (Jvm.Cond.static ({ cls := "LineLearnerLaw", name := "groupOf", desc := "(LLineLearner;I[J)I" } : Jvm.MethodName)) := ⟨List.mem_of_getElem? (i := 692) (by decide +kernel), by decide +kernel⟩
theorem kw653 : zWd (Jvm.Cond.codeWith ({ cls := "LineLearnerLaw", name := "groupOf", desc := "(LLineLearner;I[J)I" } : Jvm.MethodName) method_24_code (4 : Nat) (Option.some Jvm.ClassFile.FieldType.int) [((0 : Nat), (9 : Nat), (12 : Nat), (15 : Nat)), ((0 : Nat), (9 : Nat), (15 : Nat), (25 : Nat))]) := ⟨List.mem_of_getElem? (i := 693) (by decide +kernel), by decide +kernel⟩
theorem kw654 : zWd (Jvm.Cond.methodLink "LineLearnerLaw" (85 : Nat) ({ cls := "LineLearner", name := "groupOf", desc := "(I)I" } : Jvm.MethodName)) := ⟨List.mem_of_getElem? (i := 694) (by decide +kernel), by decide +kernel⟩
theorem kw655 : zWd (Jvm.Cond.instanceMethod ({ cls := "LineLearner", name := "groupOf", desc := "(I)I" } : Jvm.MethodName)) := ⟨List.mem_of_getElem? (i := 695) (by decide +kernel), by decide +kernel⟩
theorem kw656 : zWd (Jvm.Cond.selects "LineLearner" ({ cls := "LineLearner", name := "groupOf", desc := "(I)I" } : Jvm.MethodName) ({ cls := "LineLearner", name := "groupOf", desc := "(I)I" } : Jvm.MethodName)) := ⟨List.mem_of_getElem? (i := 696) (by decide +kernel), by decide +kernel⟩
theorem kw657 : zWd (Jvm.Cond.code ({ cls := "LineLearner", name := "groupOf", desc := "(I)I" } : Jvm.MethodName) prog_1_method_35_code (2 : Nat) (Option.some Jvm.ClassFile.FieldType.int)) := ⟨List.mem_of_getElem? (i := 697) (by decide +kernel), by decide +kernel⟩
theorem kw658 : zWd (Jvm.Cond.methodLink "LineLearner" (236 : Nat) ({ cls := "LineLearner", name := "needGrouping", desc := "()V" } : Jvm.MethodName)) := ⟨List.mem_of_getElem? (i := 698) (by decide +kernel), by decide +kernel⟩
theorem kw660 : zWd (Jvm.Cond.instanceMethod ({ cls := "LineLearner", name := "needGrouping", desc := "()V" } : Jvm.MethodName)) := ⟨List.mem_of_getElem? (i := 700) (by decide +kernel), by decide +kernel⟩
theorem kw661 : zWd (Jvm.Cond.code ({ cls := "LineLearner", name := "needGrouping", desc := "()V" } : Jvm.MethodName) prog_1_method_44_code (1 : Nat) (Option.none : Option Jvm.ClassFile.FieldType)) := ⟨List.mem_of_getElem? (i := 701) (by decide +kernel), by decide +kernel⟩
theorem kw663 : zWd (Jvm.Cond.methodLink "LineLearnerLaw" (199 : Nat) ({ cls := "LineLearnerLaw", name := "groupSlots", desc := "(LLineLearner;I[J)I" } : Jvm.MethodName)) := ⟨List.mem_of_getElem? (i := 703) (by decide +kernel), by decide +kernel⟩
theorem kw664 : zWd (Jvm.Cond.static ({ cls := "LineLearnerLaw", name := "groupSlots", desc := "(LLineLearner;I[J)I" } : Jvm.MethodName)) := ⟨List.mem_of_getElem? (i := 704) (by decide +kernel), by decide +kernel⟩
theorem kw665 : zWd (Jvm.Cond.codeWith ({ cls := "LineLearnerLaw", name := "groupSlots", desc := "(LLineLearner;I[J)I" } : Jvm.MethodName) method_25_code (4 : Nat) (Option.some Jvm.ClassFile.FieldType.int) [((0 : Nat), (9 : Nat), (12 : Nat), (15 : Nat)), ((0 : Nat), (9 : Nat), (15 : Nat), (25 : Nat))]) := ⟨List.mem_of_getElem? (i := 705) (by decide +kernel), by decide +kernel⟩
theorem kw666 : zWd (Jvm.Cond.methodLink "LineLearnerLaw" (88 : Nat) ({ cls := "LineLearner", name := "groupSlots", desc := "(I)I" } : Jvm.MethodName)) := ⟨List.mem_of_getElem? (i := 706) (by decide +kernel), by decide +kernel⟩
theorem kw667 : zWd (Jvm.Cond.instanceMethod ({ cls := "LineLearner", name := "groupSlots", desc := "(I)I" } : Jvm.MethodName)) := ⟨List.mem_of_getElem? (i := 707) (by decide +kernel), by decide +kernel⟩
theorem kw668 : zWd (Jvm.Cond.selects "LineLearner" ({ cls := "LineLearner", name := "groupSlots", desc := "(I)I" } : Jvm.MethodName) ({ cls := "LineLearner", name := "groupSlots", desc := "(I)I" } : Jvm.MethodName)) := ⟨List.mem_of_getElem? (i := 708) (by decide +kernel), by decide +kernel⟩
theorem kw669 : zWd (Jvm.Cond.code ({ cls := "LineLearner", name := "groupSlots", desc := "(I)I" } : Jvm.MethodName) prog_1_method_36_code (2 : Nat) (Option.some Jvm.ClassFile.FieldType.int)) := ⟨List.mem_of_getElem? (i := 709) (by decide +kernel), by decide +kernel⟩
theorem kw671 : zWd (Jvm.Cond.classLink "LineLearnerLaw" (92 : Nat) "LineLearnerModel") := ⟨List.mem_of_getElem? (i := 711) (by decide +kernel), by decide +kernel⟩
theorem kw672 : zWd (Jvm.Cond.instantiable "LineLearnerModel" (27 : Nat)) := ⟨List.mem_of_getElem? (i := 712) (by decide +kernel), by decide +kernel⟩
theorem kw673 : zWd (Jvm.Cond.methodLink "LineLearnerLaw" (94 : Nat) ({ cls := "LineLearnerModel", name := "<init>", desc := "()V" } : Jvm.MethodName)) := ⟨List.mem_of_getElem? (i := 713) (by decide +kernel), by decide +kernel⟩
theorem kw674 : zWd (Jvm.Cond.instanceMethod ({ cls := "LineLearnerModel", name := "<init>", desc := "()V" } : Jvm.MethodName)) := ⟨List.mem_of_getElem? (i := 714) (by decide +kernel), by decide +kernel⟩
theorem kw675 : zWd (Jvm.Cond.code ({ cls := "LineLearnerModel", name := "<init>", desc := "()V" } : Jvm.MethodName) prog_6_method_1_code (1 : Nat) (Option.none : Option Jvm.ClassFile.FieldType)) := ⟨List.mem_of_getElem? (i := 715) (by decide +kernel), by decide +kernel⟩
theorem kw676 : zWd (Jvm.Cond.methodLink "LineLearnerModel" (1 : Nat) ({ cls := "java/lang/Object", name := "<init>", desc := "()V" } : Jvm.MethodName)) := ⟨List.mem_of_getElem? (i := 716) (by decide +kernel), by decide +kernel⟩
theorem kw677 : zWd (Jvm.Cond.fieldLink "LineLearnerModel" (74 : Nat) "LineLearnerModel" "thrown" "I") := ⟨List.mem_of_getElem? (i := 717) (by decide +kernel), by decide +kernel⟩
theorem kw678 : zWd (Jvm.Cond.fieldLink "LineLearnerModel" (82 : Nat) "LineLearnerModel" "buffered" "I") := ⟨List.mem_of_getElem? (i := 718) (by decide +kernel), by decide +kernel⟩
theorem kw679 : zWd (Jvm.Cond.fieldLink "LineLearnerModel" (9 : Nat) "LineLearnerModel" "buffer" "[I") := ⟨List.mem_of_getElem? (i := 719) (by decide +kernel), by decide +kernel⟩
theorem kw680 : zWd (Jvm.Cond.fieldLink "LineLearnerModel" (77 : Nat) "LineLearnerModel" "lines" "I") := ⟨List.mem_of_getElem? (i := 720) (by decide +kernel), by decide +kernel⟩
theorem kw681 : zWd (Jvm.Cond.fieldLink "LineLearnerModel" (13 : Nat) "LineLearnerModel" "sizes" "[I") := ⟨List.mem_of_getElem? (i := 721) (by decide +kernel), by decide +kernel⟩
theorem kw682 : zWd (Jvm.Cond.fieldLink "LineLearnerModel" (16 : Nat) "LineLearnerModel" "text" "[I") := ⟨List.mem_of_getElem? (i := 722) (by decide +kernel), by decide +kernel⟩
theorem kw683 : zWd (Jvm.Cond.fieldLink "LineLearnerModel" (19 : Nat) "LineLearnerModel" "tokens" "[I") := ⟨List.mem_of_getElem? (i := 723) (by decide +kernel), by decide +kernel⟩
theorem kw684 : zWd (Jvm.Cond.fieldLink "LineLearnerModel" (22 : Nat) "LineLearnerModel" "tokenKinds" "[I") := ⟨List.mem_of_getElem? (i := 724) (by decide +kernel), by decide +kernel⟩
theorem kw685 : zWd (Jvm.Cond.fieldLink "LineLearnerModel" (25 : Nat) "LineLearnerModel" "tokenStarts" "[I") := ⟨List.mem_of_getElem? (i := 725) (by decide +kernel), by decide +kernel⟩
theorem kw686 : zWd (Jvm.Cond.fieldLink "LineLearnerModel" (28 : Nat) "LineLearnerModel" "tokenSizes" "[I") := ⟨List.mem_of_getElem? (i := 726) (by decide +kernel), by decide +kernel⟩
theorem kw687 : zWd (Jvm.Cond.fieldLink "LineLearnerModel" (31 : Nat) "LineLearnerModel" "changeCost" "I") := ⟨List.mem_of_getElem? (i := 727) (by decide +kernel), by decide +kernel⟩
theorem kw688 : zWd (Jvm.Cond.fieldLink "LineLearnerModel" (35 : Nat) "LineLearnerModel" "skipCost" "I") := ⟨List.mem_of_getElem? (i := 728) (by decide +kernel), by decide +kernel⟩
theorem kw689 : zWd (Jvm.Cond.fieldLink "LineLearnerModel" (38 : Nat) "LineLearnerModel" "freshCost" "I") := ⟨List.mem_of_getElem? (i := 729) (by decide +kernel), by decide +kernel⟩
theorem kw690 : zWd (Jvm.Cond.fieldLink "LineLearnerModel" (41 : Nat) "LineLearnerModel" "slots" "[I") := ⟨List.mem_of_getElem? (i := 730) (by decide +kernel), by decide +kernel⟩
theorem kw691 : zWd (Jvm.Cond.fieldLink "LineLearnerModel" (44 : Nat) "LineLearnerModel" "merged" "[I") := ⟨List.mem_of_getElem? (i := 731) (by decide +kernel), by decide +kernel⟩
theorem kw692 : zWd (Jvm.Cond.fieldLink "LineLearnerModel" (47 : Nat) "LineLearnerModel" "kinds" "[I") := ⟨List.mem_of_getElem? (i := 732) (by decide +kernel), by decide +kernel⟩
theorem kw693 : zWd (Jvm.Cond.fieldLink "LineLearnerModel" (50 : Nat) "LineLearnerModel" "texts" "[I") := ⟨List.mem_of_getElem? (i := 733) (by decide +kernel), by decide +kernel⟩
theorem kw694 : zWd (Jvm.Cond.fieldLink "LineLearnerModel" (53 : Nat) "LineLearnerModel" "used" "[I") := ⟨List.mem_of_getElem? (i := 734) (by decide +kernel), by decide +kernel⟩
theorem kw695 : zWd (Jvm.Cond.fieldLink "LineLearnerModel" (92 : Nat) "LineLearnerModel" "isGrouped" "Z") := ⟨List.mem_of_getElem? (i := 735) (by decide +kernel), by decide +kernel⟩
theorem kw696 : zWd (Jvm.Cond.fieldLink "LineLearnerModel" (175 : Nat) "LineLearnerModel" "groups" "I") := ⟨List.mem_of_getElem? (i := 736) (by decide +kernel), by decide +kernel⟩
theorem kw697 : zWd (Jvm.Cond.fieldLink "LineLearnerModel" (56 : Nat) "LineLearnerModel" "groupOf" "[I") := ⟨List.mem_of_getElem? (i := 737) (by decide +kernel), by decide +kernel⟩
theorem kw698 : zWd (Jvm.Cond.fieldLink "LineLearnerModel" (59 : Nat) "LineLearnerModel" "costs" "[I") := ⟨List.mem_of_getElem? (i := 738) (by decide +kernel), by decide +kernel⟩
theorem kw699 : zWd (Jvm.Cond.fieldLink "LineLearnerModel" (139 : Nat) "LineLearnerModel" "steps" "I") := ⟨List.mem_of_getElem? (i := 739) (by decide +kernel), by decide +kernel⟩
theorem kw700 : zWd (Jvm.Cond.fieldLink "LineLearnerModel" (62 : Nat) "LineLearnerModel" "way" "[I") := ⟨List.mem_of_getElem? (i := 740) (by decide +kernel), by decide +kernel⟩
theorem kw701 : zWd (Jvm.Cond.fieldLink "LineLearnerModel" (65 : Nat) "LineLearnerModel" "newKinds" "[I") := ⟨List.mem_of_getElem? (i := 741) (by decide +kernel), by decide +kernel⟩
theorem kw702 : zWd (Jvm.Cond.fieldLink "LineLearnerModel" (68 : Nat) "LineLearnerModel" "newTexts" "[I") := ⟨List.mem_of_getElem? (i := 742) (by decide +kernel), by decide +kernel⟩
theorem kw703 : zWd (Jvm.Cond.fieldLink "LineLearnerModel" (71 : Nat) "LineLearnerModel" "newUsed" "[I") := ⟨List.mem_of_getElem? (i := 743) (by decide +kernel), by decide +kernel⟩
theorem kw759 : zWd (Jvm.Cond.methodLink "LineLearnerLaw" (103 : Nat) ({ cls := "LineLearnerModel", name := "thrown", desc := "()I" } : Jvm.MethodName)) := ⟨List.mem_of_getElem? (i := 799) (by decide +kernel), by decide +kernel⟩
theorem kw760 : zWd (Jvm.Cond.instanceMethod ({ cls := "LineLearnerModel", name := "thrown", desc := "()I" } : Jvm.MethodName)) := ⟨List.mem_of_getElem? (i := 800) (by decide +kernel), by decide +kernel⟩
theorem kw761 : zWd (Jvm.Cond.selects "LineLearnerModel" ({ cls := "LineLearnerModel", name := "thrown", desc := "()I" } : Jvm.MethodName) ({ cls := "LineLearnerModel", name := "thrown", desc := "()I" } : Jvm.MethodName)) := ⟨List.mem_of_getElem? (i := 801) (by decide +kernel), by decide +kernel⟩
theorem kw762 : zWd (Jvm.Cond.code ({ cls := "LineLearnerModel", name := "thrown", desc := "()I" } : Jvm.MethodName) prog_6_method_2_code (1 : Nat) (Option.some Jvm.ClassFile.FieldType.int)) := ⟨List.mem_of_getElem? (i := 802) (by decide +kernel), by decide +kernel⟩
theorem kw763 : zWd (Jvm.Cond.methodLink "LineLearnerLaw" (102 : Nat) ({ cls := "LineLearnerModel", name := "feed", desc := "(J)I" } : Jvm.MethodName)) := ⟨List.mem_of_getElem? (i := 803) (by decide +kernel), by decide +kernel⟩
theorem kw764 : zWd (Jvm.Cond.instanceMethod ({ cls := "LineLearnerModel", name := "feed", desc := "(J)I" } : Jvm.MethodName)) := ⟨List.mem_of_getElem? (i := 804) (by decide +kernel), by decide +kernel⟩
theorem kw765 : zWd (Jvm.Cond.selects "LineLearnerModel" ({ cls := "LineLearnerModel", name := "feed", desc := "(J)I" } : Jvm.MethodName) ({ cls := "LineLearnerModel", name := "feed", desc := "(J)I" } : Jvm.MethodName)) := ⟨List.mem_of_getElem? (i := 805) (by decide +kernel), by decide +kernel⟩
theorem kw766 : zWd (Jvm.Cond.code ({ cls := "LineLearnerModel", name := "feed", desc := "(J)I" } : Jvm.MethodName) prog_6_method_6_code (6 : Nat) (Option.some Jvm.ClassFile.FieldType.int)) := ⟨List.mem_of_getElem? (i := 806) (by decide +kernel), by decide +kernel⟩
theorem kw767 : zWd (Jvm.Cond.constantLong "LineLearnerModel" (80 : Nat) (255 : Int64)) := ⟨List.mem_of_getElem? (i := 807) (by decide +kernel), by decide +kernel⟩
theorem kw768 : zWd (Jvm.Cond.methodLink "LineLearnerLaw" (109 : Nat) ({ cls := "LineLearnerModel", name := "store", desc := "()I" } : Jvm.MethodName)) := ⟨List.mem_of_getElem? (i := 808) (by decide +kernel), by decide +kernel⟩
theorem kw769 : zWd (Jvm.Cond.instanceMethod ({ cls := "LineLearnerModel", name := "store", desc := "()I" } : Jvm.MethodName)) := ⟨List.mem_of_getElem? (i := 809) (by decide +kernel), by decide +kernel⟩
theorem kw770 : zWd (Jvm.Cond.selects "LineLearnerModel" ({ cls := "LineLearnerModel", name := "store", desc := "()I" } : Jvm.MethodName) ({ cls := "LineLearnerModel", name := "store", desc := "()I" } : Jvm.MethodName)) := ⟨List.mem_of_getElem? (i := 810) (by decide +kernel), by decide +kernel⟩
theorem kw771 : zWd (Jvm.Cond.code ({ cls := "LineLearnerModel", name := "store", desc := "()I" } : Jvm.MethodName) prog_6_method_8_code (5 : Nat) (Option.some Jvm.ClassFile.FieldType.int)) := ⟨List.mem_of_getElem? (i := 811) (by decide +kernel), by decide +kernel⟩
theorem kw772 : zWd (Jvm.Cond.methodLink "LineLearnerModel" (85 : Nat) ({ cls := "LineLearnerModel", name := "fail", desc := "(I)I" } : Jvm.MethodName)) := ⟨List.mem_of_getElem? (i := 812) (by decide +kernel), by decide +kernel⟩
theorem kw774 : zWd (Jvm.Cond.instanceMethod ({ cls := "LineLearnerModel", name := "fail", desc := "(I)I" } : Jvm.MethodName)) := ⟨List.mem_of_getElem? (i := 814) (by decide +kernel), by decide +kernel⟩
theorem kw775 : zWd (Jvm.Cond.code ({ cls := "LineLearnerModel", name := "fail", desc := "(I)I" } : Jvm.MethodName) prog_6_method_3_code (2 : Nat) (Option.some Jvm.ClassFile.FieldType.int)) := ⟨List.mem_of_getElem? (i := 815) (by decide +kernel), by decide +kernel⟩
theorem kw776 : zWd (Jvm.Cond.methodLink "LineLearnerModel" (89 : Nat) ({ cls := "LineLearnerModel", name := "kindOf", desc := "(I)I" } : Jvm.MethodName)) := ⟨List.mem_of_getElem? (i := 816) (by decide +kernel), by decide +kernel⟩
theorem kw777 : zWd (Jvm.Cond.static ({ cls := "LineLearnerModel", name := "kindOf", desc := "(I)I" } : Jvm.MethodName)) := ⟨List.mem_of_getElem? (i := 817) (by decide +kernel), by decide +kernel⟩
theorem kw778 : zWd (Jvm.Cond.code ({ cls := "LineLearnerModel", name := "kindOf", desc := "(I)I" } : Jvm.MethodName) prog_6_method_7_code (1 : Nat) (Option.some Jvm.ClassFile.FieldType.int)) := ⟨List.mem_of_getElem? (i := 818) (by decide +kernel), by decide +kernel⟩
theorem kw779 : zWd (Jvm.Cond.methodLink "LineLearnerLaw" (113 : Nat) ({ cls := "LineLearnerModel", name := "lineCount", desc := "()I" } : Jvm.MethodName)) := ⟨List.mem_of_getElem? (i := 819) (by decide +kernel), by decide +kernel⟩
theorem kw780 : zWd (Jvm.Cond.instanceMethod ({ cls := "LineLearnerModel", name := "lineCount", desc := "()I" } : Jvm.MethodName)) := ⟨List.mem_of_getElem? (i := 820) (by decide +kernel), by decide +kernel⟩
theorem kw781 : zWd (Jvm.Cond.selects "LineLearnerModel" ({ cls := "LineLearnerModel", name := "lineCount", desc := "()I" } : Jvm.MethodName) ({ cls := "LineLearnerModel", name := "lineCount", desc := "()I" } : Jvm.MethodName)) := ⟨List.mem_of_getElem? (i := 821) (by decide +kernel), by decide +kernel⟩
theorem kw782 : zWd (Jvm.Cond.code ({ cls := "LineLearnerModel", name := "lineCount", desc := "()I" } : Jvm.MethodName) prog_6_method_9_code (1 : Nat) (Option.some Jvm.ClassFile.FieldType.int)) := ⟨List.mem_of_getElem? (i := 822) (by decide +kernel), by decide +kernel⟩
theorem kw783 : zWd (Jvm.Cond.methodLink "LineLearnerLaw" (117 : Nat) ({ cls := "LineLearnerModel", name := "tokenCount", desc := "(I)I" } : Jvm.MethodName)) := ⟨List.mem_of_getElem? (i := 823) (by decide +kernel), by decide +kernel⟩
theorem kw784 : zWd (Jvm.Cond.instanceMethod ({ cls := "LineLearnerModel", name := "tokenCount", desc := "(I)I" } : Jvm.MethodName)) := ⟨List.mem_of_getElem? (i := 824) (by decide +kernel), by decide +kernel⟩
theorem kw785 : zWd (Jvm.Cond.selects "LineLearnerModel" ({ cls := "LineLearnerModel", name := "tokenCount", desc := "(I)I" } : Jvm.MethodName) ({ cls := "LineLearnerModel", name := "tokenCount", desc := "(I)I" } : Jvm.MethodName)) := ⟨List.mem_of_getElem? (i := 825) (by decide +kernel), by decide +kernel⟩
theorem kw786 : zWd (Jvm.Cond.code ({ cls := "LineLearnerModel", name := "tokenCount", desc := "(I)I" } : Jvm.MethodName) prog_6_method_10_code (2 : Nat) (Option.some Jvm.ClassFile.FieldType.int)) := ⟨List.mem_of_getElem? (i := 826) (by decide +kernel), by decide +kernel⟩
theorem kw787 : zWd (Jvm.Cond.methodLink "LineLearnerModel" (96 : Nat) ({ cls := "LineLearnerModel", name := "isLine", desc := "(I)Z" } : Jvm.MethodName)) := ⟨List.mem_of_getElem? (i := 827) (by decide +kernel), by decide +kernel⟩
theorem kw789 : zWd (Jvm.Cond.instanceMethod ({ cls := "LineLearnerModel", name := "isLine", desc := "(I)Z" } : Jvm.MethodName)) := ⟨List.mem_of_getElem? (i := 829) (by decide +kernel), by decide +kernel⟩
theorem kw790 : zWd (Jvm.Cond.code ({ cls := "LineLearnerModel", name := "isLine", desc := "(I)Z" } : Jvm.MethodName) prog_6_method_4_code (2 : Nat) (Option.some Jvm.ClassFile.FieldType.boolean)) := ⟨List.mem_of_getElem? (i := 830) (by decide +kernel), by decide +kernel⟩
theorem kw791 : zWd (Jvm.Cond.methodLink "LineLearnerLaw" (121 : Nat) ({ cls := "LineLearnerModel", name := "tokenKind", desc := "(II)I" } : Jvm.MethodName)) := ⟨List.mem_of_getElem? (i := 831) (by decide +kernel), by decide +kernel⟩
theorem kw792 : zWd (Jvm.Cond.instanceMethod ({ cls := "LineLearnerModel", name := "tokenKind", desc := "(II)I" } : Jvm.MethodName)) := ⟨List.mem_of_getElem? (i := 832) (by decide +kernel), by decide +kernel⟩
theorem kw793 : zWd (Jvm.Cond.selects "LineLearnerModel" ({ cls := "LineLearnerModel", name := "tokenKind", desc := "(II)I" } : Jvm.MethodName) ({ cls := "LineLearnerModel", name := "tokenKind", desc := "(II)I" } : Jvm.MethodName)) := ⟨List.mem_of_getElem? (i := 833) (by decide +kernel), by decide +kernel⟩
theorem kw794 : zWd (Jvm.Cond.code ({ cls := "LineLearnerModel", name := "tokenKind", desc := "(II)I" } : Jvm.MethodName) prog_6_method_12_code (3 : Nat) (Option.some Jvm.ClassFile.FieldType.int)) := ⟨List.mem_of_getElem? (i := 834) (by decide +kernel), by decide +kernel⟩
theorem kw795 : zWd (Jvm.Cond.methodLink "LineLearnerModel" (100 : Nat) ({ cls := "LineLearnerModel", name := "isToken", desc := "(II)Z" } : Jvm.MethodName)) := ⟨List.mem_of_getElem? (i := 835) (by decide +kernel), by decide +kernel⟩
theorem kw797 : zWd (Jvm.Cond.instanceMethod ({ cls := "LineLearnerModel", name := "isToken", desc := "(II)Z" } : Jvm.MethodName)) := ⟨List.mem_of_getElem? (i := 837) (by decide +kernel), by decide +kernel⟩
theorem kw798 : zWd (Jvm.Cond.code ({ cls := "LineLearnerModel", name := "isToken", desc := "(II)Z" } : Jvm.MethodName) prog_6_method_11_code (3 : Nat) (Option.some Jvm.ClassFile.FieldType.boolean)) := ⟨List.mem_of_getElem? (i := 838) (by decide +kernel), by decide +kernel⟩
theorem kw799 : zWd (Jvm.Cond.methodLink "LineLearnerLaw" (124 : Nat) ({ cls := "LineLearnerModel", name := "tokenStart", desc := "(II)I" } : Jvm.MethodName)) := ⟨List.mem_of_getElem? (i := 839) (by decide +kernel), by decide +kernel⟩
theorem kw800 : zWd (Jvm.Cond.instanceMethod ({ cls := "LineLearnerModel", name := "tokenStart", desc := "(II)I" } : Jvm.MethodName)) := ⟨List.mem_of_getElem? (i := 840) (by decide +kernel), by decide +kernel⟩
theorem kw801 : zWd (Jvm.Cond.selects "LineLearnerModel" ({ cls := "LineLearnerModel", name := "tokenStart", desc := "(II)I" } : Jvm.MethodName) ({ cls := "LineLearnerModel", name := "tokenStart", desc := "(II)I" } : Jvm.MethodName)) := ⟨List.mem_of_getElem? (i := 841) (by decide +kernel), by decide +kernel⟩
theorem kw802 : zWd (Jvm.Cond.code ({ cls := "LineLearnerModel", name := "tokenStart", desc := "(II)I" } : Jvm.MethodName) prog_6_method_13_code (3 : Nat) (Option.some Jvm.ClassFile.FieldType.int)) := ⟨List.mem_of_getElem? (i := 842) (by decide +kernel), by decide +kernel⟩
theorem kw803 : zWd (Jvm.Cond.methodLink "LineLearnerLaw" (127 : Nat) ({ cls := "LineLearnerModel", name := "sameAtFront", desc := "(II)I" } : Jvm.MethodName)) := ⟨List.mem_of_getElem? (i := 843) (by decide +kernel), by decide +kernel⟩
theorem kw804 : zWd (Jvm.Cond.instanceMethod ({ cls := "LineLearnerModel", name := "sameAtFront", desc := "(II)I" } : Jvm.MethodName)) := ⟨List.mem_of_getElem? (i := 844) (by decide +kernel), by decide +kernel⟩
theorem kw805 : zWd (Jvm.Cond.selects "LineLearnerModel" ({ cls := "LineLearnerModel", name := "sameAtFront", desc := "(II)I" } : Jvm.MethodName) ({ cls := "LineLearnerModel", name := "sameAtFront", desc := "(II)I" } : Jvm.MethodName)) := ⟨List.mem_of_getElem? (i := 845) (by decide +kernel), by decide +kernel⟩
theorem kw806 : zWd (Jvm.Cond.code ({ cls := "LineLearnerModel", name := "sameAtFront", desc := "(II)I" } : Jvm.MethodName) prog_6_method_15_code (4 : Nat) (Option.some Jvm.ClassFile.FieldType.int)) := ⟨List.mem_of_getElem? (i := 846) (by decide +kernel), by decide +kernel⟩
theorem kw807 : zWd (Jvm.Cond.methodLink "LineLearnerModel" (104 : Nat) ({ cls := "LineLearnerModel", name := "areSame", desc := "(II)Z" } : Jvm.MethodName)) := ⟨List.mem_of_getElem? (i := 847) (by decide +kernel), by decide +kernel⟩
theorem kw809 : zWd (Jvm.Cond.instanceMethod ({ cls := "LineLearnerModel", name := "areSame", desc := "(II)Z" } : Jvm.MethodName)) := ⟨List.mem_of_getElem? (i := 849) (by decide +kernel), by decide +kernel⟩
theorem kw810 : zWd (Jvm.Cond.code ({ cls := "LineLearnerModel", name := "areSame", desc := "(II)Z" } : Jvm.MethodName) prog_6_method_14_code (6 : Nat) (Option.some Jvm.ClassFile.FieldType.boolean)) := ⟨List.mem_of_getElem? (i := 850) (by decide +kernel), by decide +kernel⟩
theorem kw811 : zWd (Jvm.Cond.methodLink "LineLearnerLaw" (131 : Nat) ({ cls := "LineLearnerModel", name := "setCosts", desc := "(III)Z" } : Jvm.MethodName)) := ⟨List.mem_of_getElem? (i := 851) (by decide +kernel), by decide +kernel⟩
theorem kw812 : zWd (Jvm.Cond.instanceMethod ({ cls := "LineLearnerModel", name := "setCosts", desc := "(III)Z" } : Jvm.MethodName)) := ⟨List.mem_of_getElem? (i := 852) (by decide +kernel), by decide +kernel⟩
theorem kw813 : zWd (Jvm.Cond.selects "LineLearnerModel" ({ cls := "LineLearnerModel", name := "setCosts", desc := "(III)Z" } : Jvm.MethodName) ({ cls := "LineLearnerModel", name := "setCosts", desc := "(III)Z" } : Jvm.MethodName)) := ⟨List.mem_of_getElem? (i := 853) (by decide +kernel), by decide +kernel⟩
theorem kw814 : zWd (Jvm.Cond.code ({ cls := "LineLearnerModel", name := "setCosts", desc := "(III)Z" } : Jvm.MethodName) prog_6_method_26_code (5 : Nat) (Option.some Jvm.ClassFile.FieldType.boolean)) := ⟨List.mem_of_getElem? (i := 854) (by decide +kernel), by decide +kernel⟩
theorem kw815 : zWd (Jvm.Cond.methodLink "LineLearnerModel" (134 : Nat) ({ cls := "java/lang/Math", name := "min", desc := "(II)I" } : Jvm.MethodName)) := ⟨List.mem_of_getElem? (i := 855) (by decide +kernel), by decide +kernel⟩
theorem kw816 : zWd (Jvm.Cond.methodLink "LineLearnerModel" (142 : Nat) ({ cls := "java/lang/Math", name := "max", desc := "(II)I" } : Jvm.MethodName)) := ⟨List.mem_of_getElem? (i := 856) (by decide +kernel), by decide +kernel⟩
theorem kw817 : zWd (Jvm.Cond.methodLink "LineLearnerLaw" (134 : Nat) ({ cls := "LineLearnerModel", name := "merge", desc := "(I)I" } : Jvm.MethodName)) := ⟨List.mem_of_getElem? (i := 857) (by decide +kernel), by decide +kernel⟩
theorem kw818 : zWd (Jvm.Cond.instanceMethod ({ cls := "LineLearnerModel", name := "merge", desc := "(I)I" } : Jvm.MethodName)) := ⟨List.mem_of_getElem? (i := 858) (by decide +kernel), by decide +kernel⟩
theorem kw819 : zWd (Jvm.Cond.selects "LineLearnerModel" ({ cls := "LineLearnerModel", name := "merge", desc := "(I)I" } : Jvm.MethodName) ({ cls := "LineLearnerModel", name := "merge", desc := "(I)I" } : Jvm.MethodName)) := ⟨List.mem_of_getElem? (i := 859) (by decide +kernel), by decide +kernel⟩
theorem kw820 : zWd (Jvm.Cond.code ({ cls := "LineLearnerModel", name := "merge", desc := "(I)I" } : Jvm.MethodName) prog_6_method_27_code (3 : Nat) (Option.some Jvm.ClassFile.FieldType.int)) := ⟨List.mem_of_getElem? (i := 860) (by decide +kernel), by decide +kernel⟩
theorem kw821 : zWd (Jvm.Cond.methodLink "LineLearnerModel" (145 : Nat) ({ cls := "LineLearnerModel", name := "align", desc := "(II)I" } : Jvm.MethodName)) := ⟨List.mem_of_getElem? (i := 861) (by decide +kernel), by decide +kernel⟩
theorem kw823 : zWd (Jvm.Cond.instanceMethod ({ cls := "LineLearnerModel", name := "align", desc := "(II)I" } : Jvm.MethodName)) := ⟨List.mem_of_getElem? (i := 863) (by decide +kernel), by decide +kernel⟩
theorem kw824 : zWd (Jvm.Cond.code ({ cls := "LineLearnerModel", name := "align", desc := "(II)I" } : Jvm.MethodName) prog_6_method_22_code (8 : Nat) (Option.some Jvm.ClassFile.FieldType.int)) := ⟨List.mem_of_getElem? (i := 864) (by decide +kernel), by decide +kernel⟩
theorem kw825 : zWd (Jvm.Cond.constant "LineLearnerModel" (129 : Nat) (2147483647 : Int32)) := ⟨List.mem_of_getElem? (i := 865) (by decide +kernel), by decide +kernel⟩
theorem kw826 : zWd (Jvm.Cond.methodLink "LineLearnerModel" (130 : Nat) ({ cls := "LineLearnerModel", name := "costOf", desc := "(IIIII)I" } : Jvm.MethodName)) := ⟨List.mem_of_getElem? (i := 866) (by decide +kernel), by decide +kernel⟩
theorem kw828 : zWd (Jvm.Cond.instanceMethod ({ cls := "LineLearnerModel", name := "costOf", desc := "(IIIII)I" } : Jvm.MethodName)) := ⟨List.mem_of_getElem? (i := 868) (by decide +kernel), by decide +kernel⟩
theorem kw829 : zWd (Jvm.Cond.code ({ cls := "LineLearnerModel", name := "costOf", desc := "(IIIII)I" } : Jvm.MethodName) prog_6_method_21_code (8 : Nat) (Option.some Jvm.ClassFile.FieldType.int)) := ⟨List.mem_of_getElem? (i := 869) (by decide +kernel), by decide +kernel⟩
theorem kw830 : zWd (Jvm.Cond.methodLink "LineLearnerModel" (107 : Nat) ({ cls := "LineLearnerModel", name := "at", desc := "(II)I" } : Jvm.MethodName)) := ⟨List.mem_of_getElem? (i := 870) (by decide +kernel), by decide +kernel⟩
theorem kw831 : zWd (Jvm.Cond.static ({ cls := "LineLearnerModel", name := "at", desc := "(II)I" } : Jvm.MethodName)) := ⟨List.mem_of_getElem? (i := 871) (by decide +kernel), by decide +kernel⟩
theorem kw832 : zWd (Jvm.Cond.code ({ cls := "LineLearnerModel", name := "at", desc := "(II)I" } : Jvm.MethodName) prog_6_method_16_code (2 : Nat) (Option.some Jvm.ClassFile.FieldType.int)) := ⟨List.mem_of_getElem? (i := 872) (by decide +kernel), by decide +kernel⟩
theorem kw833 : zWd (Jvm.Cond.methodLink "LineLearnerModel" (123 : Nat) ({ cls := "LineLearnerModel", name := "cell", desc := "(II)I" } : Jvm.MethodName)) := ⟨List.mem_of_getElem? (i := 873) (by decide +kernel), by decide +kernel⟩
theorem kw834 : zWd (Jvm.Cond.static ({ cls := "LineLearnerModel", name := "cell", desc := "(II)I" } : Jvm.MethodName)) := ⟨List.mem_of_getElem? (i := 874) (by decide +kernel), by decide +kernel⟩
theorem kw835 : zWd (Jvm.Cond.code ({ cls := "LineLearnerModel", name := "cell", desc := "(II)I" } : Jvm.MethodName) prog_6_method_20_code (2 : Nat) (Option.some Jvm.ClassFile.FieldType.int)) := ⟨List.mem_of_getElem? (i := 875) (by decide +kernel), by decide +kernel⟩
theorem kw836 : zWd (Jvm.Cond.methodLink "LineLearnerModel" (126 : Nat) ({ cls := "LineLearnerModel", name := "isFree", desc := "(II)Z" } : Jvm.MethodName)) := ⟨List.mem_of_getElem? (i := 876) (by decide +kernel), by decide +kernel⟩
theorem kw838 : zWd (Jvm.Cond.instanceMethod ({ cls := "LineLearnerModel", name := "isFree", desc := "(II)Z" } : Jvm.MethodName)) := ⟨List.mem_of_getElem? (i := 878) (by decide +kernel), by decide +kernel⟩
theorem kw839 : zWd (Jvm.Cond.code ({ cls := "LineLearnerModel", name := "isFree", desc := "(II)Z" } : Jvm.MethodName) prog_6_method_19_code (3 : Nat) (Option.some Jvm.ClassFile.FieldType.boolean)) := ⟨List.mem_of_getElem? (i := 879) (by decide +kernel), by decide +kernel⟩
theorem kw840 : zWd (Jvm.Cond.methodLink "LineLearnerModel" (115 : Nat) ({ cls := "LineLearnerModel", name := "usesOf", desc := "(II)I" } : Jvm.MethodName)) := ⟨List.mem_of_getElem? (i := 880) (by decide +kernel), by decide +kernel⟩
theorem kw842 : zWd (Jvm.Cond.instanceMethod ({ cls := "LineLearnerModel", name := "usesOf", desc := "(II)I" } : Jvm.MethodName)) := ⟨List.mem_of_getElem? (i := 882) (by decide +kernel), by decide +kernel⟩
theorem kw843 : zWd (Jvm.Cond.code ({ cls := "LineLearnerModel", name := "usesOf", desc := "(II)I" } : Jvm.MethodName) prog_6_method_18_code (5 : Nat) (Option.some Jvm.ClassFile.FieldType.int)) := ⟨List.mem_of_getElem? (i := 883) (by decide +kernel), by decide +kernel⟩
theorem kw844 : zWd (Jvm.Cond.methodLink "LineLearnerModel" (111 : Nat) ({ cls := "LineLearnerModel", name := "tokenOf", desc := "(III)I" } : Jvm.MethodName)) := ⟨List.mem_of_getElem? (i := 884) (by decide +kernel), by decide +kernel⟩
theorem kw846 : zWd (Jvm.Cond.instanceMethod ({ cls := "LineLearnerModel", name := "tokenOf", desc := "(III)I" } : Jvm.MethodName)) := ⟨List.mem_of_getElem? (i := 886) (by decide +kernel), by decide +kernel⟩
theorem kw847 : zWd (Jvm.Cond.code ({ cls := "LineLearnerModel", name := "tokenOf", desc := "(III)I" } : Jvm.MethodName) prog_6_method_17_code (4 : Nat) (Option.some Jvm.ClassFile.FieldType.int)) := ⟨List.mem_of_getElem? (i := 887) (by decide +kernel), by decide +kernel⟩
theorem kw848 : zWd (Jvm.Cond.methodLink "LineLearnerModel" (118 : Nat) ({ cls := "java/lang/Integer", name := "bitCount", desc := "(I)I" } : Jvm.MethodName)) := ⟨List.mem_of_getElem? (i := 888) (by decide +kernel), by decide +kernel⟩
theorem kw849 : zWd (Jvm.Cond.static ({ cls := "java/lang/Integer", name := "bitCount", desc := "(I)I" } : Jvm.MethodName)) := ⟨List.mem_of_getElem? (i := 889) (by decide +kernel), by decide +kernel⟩
theorem kw850 : zWd (Jvm.Cond.code ({ cls := "java/lang/Integer", name := "bitCount", desc := "(I)I" } : Jvm.MethodName) prog_11_method_49_code (1 : Nat) (Option.some Jvm.ClassFile.FieldType.int)) := ⟨List.mem_of_getElem? (i := 890) (by decide +kernel), by decide +kernel⟩
theorem kw851 : zWd (Jvm.Cond.constant "java/lang/Integer" (265 : Nat) (1431655765 : Int32)) := ⟨List.mem_of_getElem? (i := 891) (by decide +kernel), by decide +kernel⟩
theorem kw852 : zWd (Jvm.Cond.constant "java/lang/Integer" (266 : Nat) (858993459 : Int32)) := ⟨List.mem_of_getElem? (i := 892) (by decide +kernel), by decide +kernel⟩
theorem kw853 : zWd (Jvm.Cond.constant "java/lang/Integer" (267 : Nat) (252645135 : Int32)) := ⟨List.mem_of_getElem? (i := 893) (by decide +kernel), by decide +kernel⟩
theorem kw854 : zWd (Jvm.Cond.methodLink "LineLearnerModel" (148 : Nat) ({ cls := "LineLearnerModel", name := "follow", desc := "(II)V" } : Jvm.MethodName)) := ⟨List.mem_of_getElem? (i := 894) (by decide +kernel), by decide +kernel⟩
theorem kw856 : zWd (Jvm.Cond.instanceMethod ({ cls := "LineLearnerModel", name := "follow", desc := "(II)V" } : Jvm.MethodName)) := ⟨List.mem_of_getElem? (i := 896) (by decide +kernel), by decide +kernel⟩
theorem kw857 : zWd (Jvm.Cond.code ({ cls := "LineLearnerModel", name := "follow", desc := "(II)V" } : Jvm.MethodName) prog_6_method_23_code (6 : Nat) (Option.none : Option Jvm.ClassFile.FieldType)) := ⟨List.mem_of_getElem? (i := 897) (by decide +kernel), by decide +kernel⟩
theorem kw858 : zWd (Jvm.Cond.methodLink "LineLearnerModel" (152 : Nat) ({ cls := "LineLearnerModel", name := "freshSteps", desc := "()I" } : Jvm.MethodName)) := ⟨List.mem_of_getElem? (i := 898) (by decide +kernel), by decide +kernel⟩
theorem kw860 : zWd (Jvm.Cond.instanceMethod ({ cls := "LineLearnerModel", name := "freshSteps", desc := "()I" } : Jvm.MethodName)) := ⟨List.mem_of_getElem? (i := 900) (by decide +kernel), by decide +kernel⟩
theorem kw861 : zWd (Jvm.Cond.code ({ cls := "LineLearnerModel", name := "freshSteps", desc := "()I" } : Jvm.MethodName) prog_6_method_24_code (3 : Nat) (Option.some Jvm.ClassFile.FieldType.int)) := ⟨List.mem_of_getElem? (i := 901) (by decide +kernel), by decide +kernel⟩
theorem kw862 : zWd (Jvm.Cond.methodLink "LineLearnerModel" (156 : Nat) ({ cls := "LineLearnerModel", name := "mergeInto", desc := "(II)V" } : Jvm.MethodName)) := ⟨List.mem_of_getElem? (i := 902) (by decide +kernel), by decide +kernel⟩
theorem kw864 : zWd (Jvm.Cond.instanceMethod ({ cls := "LineLearnerModel", name := "mergeInto", desc := "(II)V" } : Jvm.MethodName)) := ⟨List.mem_of_getElem? (i := 904) (by decide +kernel), by decide +kernel⟩
theorem kw865 : zWd (Jvm.Cond.code ({ cls := "LineLearnerModel", name := "mergeInto", desc := "(II)V" } : Jvm.MethodName) prog_6_method_25_code (10 : Nat) (Option.none : Option Jvm.ClassFile.FieldType)) := ⟨List.mem_of_getElem? (i := 905) (by decide +kernel), by decide +kernel⟩
theorem kw866 : zWd (Jvm.Cond.methodLink "LineLearnerLaw" (138 : Nat) ({ cls := "LineLearnerModel", name := "clear", desc := "()I" } : Jvm.MethodName)) := ⟨List.mem_of_getElem? (i := 906) (by decide +kernel), by decide +kernel⟩
theorem kw867 : zWd (Jvm.Cond.instanceMethod ({ cls := "LineLearnerModel", name := "clear", desc := "()I" } : Jvm.MethodName)) := ⟨List.mem_of_getElem? (i := 907) (by decide +kernel), by decide +kernel⟩
theorem kw868 : zWd (Jvm.Cond.selects "LineLearnerModel" ({ cls := "LineLearnerModel", name := "clear", desc := "()I" } : Jvm.MethodName) ({ cls := "LineLearnerModel", name := "clear", desc := "()I" } : Jvm.MethodName)) := ⟨List.mem_of_getElem? (i := 908) (by decide +kernel), by decide +kernel⟩
theorem kw869 : zWd (Jvm.Cond.code ({ cls := "LineLearnerModel", name := "clear", desc := "()I" } : Jvm.MethodName) prog_6_method_28_code (2 : Nat) (Option.some Jvm.ClassFile.FieldType.int)) := ⟨List.mem_of_getElem? (i := 909) (by decide +kernel), by decide +kernel⟩
theorem kw870 : zWd (Jvm.Cond.methodLink "LineLearnerLaw" (141 : Nat) ({ cls := "LineLearnerModel", name := "isMerged", desc := "(I)Z" } : Jvm.MethodName)) := ⟨List.mem_of_getElem? (i := 910) (by decide +kernel), by decide +kernel⟩
theorem kw871 : zWd (Jvm.Cond.instanceMethod ({ cls := "LineLearnerModel", name := "isMerged", desc := "(I)Z" } : Jvm.MethodName)) := ⟨List.mem_of_getElem? (i := 911) (by decide +kernel), by decide +kernel⟩
theorem kw872 : zWd (Jvm.Cond.selects "LineLearnerModel" ({ cls := "LineLearnerModel", name := "isMerged", desc := "(I)Z" } : Jvm.MethodName) ({ cls := "LineLearnerModel", name := "isMerged", desc := "(I)Z" } : Jvm.MethodName)) := ⟨List.mem_of_getElem? (i := 912) (by decide +kernel), by decide +kernel⟩
theorem kw873 : zWd (Jvm.Cond.code ({ cls := "LineLearnerModel", name := "isMerged", desc := "(I)Z" } : Jvm.MethodName) prog_6_method_29_code (2 : Nat) (Option.some Jvm.ClassFile.FieldType.boolean)) := ⟨List.mem_of_getElem? (i := 913) (by decide +kernel), by decide +kernel⟩
theorem kw874 : zWd (Jvm.Cond.methodLink "LineLearnerLaw" (144 : Nat) ({ cls := "LineLearnerModel", name := "costWith", desc := "(I)I" } : Jvm.MethodName)) := ⟨List.mem_of_getElem? (i := 914) (by decide +kernel), by decide +kernel⟩
theorem kw875 : zWd (Jvm.Cond.instanceMethod ({ cls := "LineLearnerModel", name := "costWith", desc := "(I)I" } : Jvm.MethodName)) := ⟨List.mem_of_getElem? (i := 915) (by decide +kernel), by decide +kernel⟩
theorem kw876 : zWd (Jvm.Cond.selects "LineLearnerModel" ({ cls := "LineLearnerModel", name := "costWith", desc := "(I)I" } : Jvm.MethodName) ({ cls := "LineLearnerModel", name := "costWith", desc := "(I)I" } : Jvm.MethodName)) := ⟨List.mem_of_getElem? (i := 916) (by decide +kernel), by decide +kernel⟩
theorem kw877 : zWd (Jvm.Cond.code ({ cls := "LineLearnerModel", name := "costWith", desc := "(I)I" } : Jvm.MethodName) prog_6_method_30_code (2 : Nat) (Option.some Jvm.ClassFile.FieldType.int)) := ⟨List.mem_of_getElem? (i := 917) (by decide +kernel), by decide +kernel⟩
theorem kw878 : zWd (Jvm.Cond.methodLink "LineLearnerLaw" (147 : Nat) ({ cls := "LineLearnerModel", name := "fits", desc := "(I)Z" } : Jvm.MethodName)) := ⟨List.mem_of_getElem? (i := 918) (by decide +kernel), by decide +kernel⟩
theorem kw879 : zWd (Jvm.Cond.instanceMethod ({ cls := "LineLearnerModel", name := "fits", desc := "(I)Z" } : Jvm.MethodName)) := ⟨List.mem_of_getElem? (i := 919) (by decide +kernel), by decide +kernel⟩
theorem kw880 : zWd (Jvm.Cond.selects "LineLearnerModel" ({ cls := "LineLearnerModel", name := "fits", desc := "(I)Z" } : Jvm.MethodName) ({ cls := "LineLearnerModel", name := "fits", desc := "(I)Z" } : Jvm.MethodName)) := ⟨List.mem_of_getElem? (i := 920) (by decide +kernel), by decide +kernel⟩
theorem kw881 : zWd (Jvm.Cond.code ({ cls := "LineLearnerModel", name := "fits", desc := "(I)Z" } : Jvm.MethodName) prog_6_method_33_code (6 : Nat) (Option.some Jvm.ClassFile.FieldType.boolean)) := ⟨List.mem_of_getElem? (i := 921) (by decide +kernel), by decide +kernel⟩
theorem kw882 : zWd (Jvm.Cond.methodLink "LineLearnerModel" (163 : Nat) ({ cls := "LineLearnerModel", name := "canPair", desc := "(II)Z" } : Jvm.MethodName)) := ⟨List.mem_of_getElem? (i := 922) (by decide +kernel), by decide +kernel⟩
theorem kw884 : zWd (Jvm.Cond.instanceMethod ({ cls := "LineLearnerModel", name := "canPair", desc := "(II)Z" } : Jvm.MethodName)) := ⟨List.mem_of_getElem? (i := 924) (by decide +kernel), by decide +kernel⟩
theorem kw885 : zWd (Jvm.Cond.code ({ cls := "LineLearnerModel", name := "canPair", desc := "(II)Z" } : Jvm.MethodName) prog_6_method_32_code (4 : Nat) (Option.some Jvm.ClassFile.FieldType.boolean)) := ⟨List.mem_of_getElem? (i := 925) (by decide +kernel), by decide +kernel⟩
theorem kw886 : zWd (Jvm.Cond.methodLink "LineLearnerModel" (159 : Nat) ({ cls := "LineLearnerModel", name := "extreme", desc := "(IZ)I" } : Jvm.MethodName)) := ⟨List.mem_of_getElem? (i := 926) (by decide +kernel), by decide +kernel⟩
theorem kw888 : zWd (Jvm.Cond.instanceMethod ({ cls := "LineLearnerModel", name := "extreme", desc := "(IZ)I" } : Jvm.MethodName)) := ⟨List.mem_of_getElem? (i := 928) (by decide +kernel), by decide +kernel⟩
theorem kw889 : zWd (Jvm.Cond.code ({ cls := "LineLearnerModel", name := "extreme", desc := "(IZ)I" } : Jvm.MethodName) prog_6_method_31_code (7 : Nat) (Option.some Jvm.ClassFile.FieldType.int)) := ⟨List.mem_of_getElem? (i := 929) (by decide +kernel), by decide +kernel⟩
theorem kw890 : zWd (Jvm.Cond.methodLink "LineLearnerLaw" (151 : Nat) ({ cls := "LineLearnerModel", name := "strangest", desc := "()I" } : Jvm.MethodName)) := ⟨List.mem_of_getElem? (i := 930) (by decide +kernel), by decide +kernel⟩
theorem kw891 : zWd (Jvm.Cond.instanceMethod ({ cls := "LineLearnerModel", name := "strangest", desc := "()I" } : Jvm.MethodName)) := ⟨List.mem_of_getElem? (i := 931) (by decide +kernel), by decide +kernel⟩
theorem kw892 : zWd (Jvm.Cond.selects "LineLearnerModel" ({ cls := "LineLearnerModel", name := "strangest", desc := "()I" } : Jvm.MethodName) ({ cls := "LineLearnerModel", name := "strangest", desc := "()I" } : Jvm.MethodName)) := ⟨List.mem_of_getElem? (i := 932) (by decide +kernel), by decide +kernel⟩
theorem kw893 : zWd (Jvm.Cond.code ({ cls := "LineLearnerModel", name := "strangest", desc := "()I" } : Jvm.MethodName) prog_6_method_34_code (5 : Nat) (Option.some Jvm.ClassFile.FieldType.int)) := ⟨List.mem_of_getElem? (i := 933) (by decide +kernel), by decide +kernel⟩
theorem kw894 : zWd (Jvm.Cond.methodLink "LineLearnerLaw" (155 : Nat) ({ cls := "LineLearnerModel", name := "slotCount", desc := "()I" } : Jvm.MethodName)) := ⟨List.mem_of_getElem? (i := 934) (by decide +kernel), by decide +kernel⟩
theorem kw895 : zWd (Jvm.Cond.instanceMethod ({ cls := "LineLearnerModel", name := "slotCount", desc := "()I" } : Jvm.MethodName)) := ⟨List.mem_of_getElem? (i := 935) (by decide +kernel), by decide +kernel⟩
theorem kw896 : zWd (Jvm.Cond.selects "LineLearnerModel" ({ cls := "LineLearnerModel", name := "slotCount", desc := "()I" } : Jvm.MethodName) ({ cls := "LineLearnerModel", name := "slotCount", desc := "()I" } : Jvm.MethodName)) := ⟨List.mem_of_getElem? (i := 936) (by decide +kernel), by decide +kernel⟩
theorem kw897 : zWd (Jvm.Cond.code ({ cls := "LineLearnerModel", name := "slotCount", desc := "()I" } : Jvm.MethodName) prog_6_method_35_code (1 : Nat) (Option.some Jvm.ClassFile.FieldType.int)) := ⟨List.mem_of_getElem? (i := 937) (by decide +kernel), by decide +kernel⟩
theorem kw898 : zWd (Jvm.Cond.methodLink "LineLearnerLaw" (158 : Nat) ({ cls := "LineLearnerModel", name := "slotKind", desc := "(I)I" } : Jvm.MethodName)) := ⟨List.mem_of_getElem? (i := 938) (by decide +kernel), by decide +kernel⟩
theorem kw899 : zWd (Jvm.Cond.instanceMethod ({ cls := "LineLearnerModel", name := "slotKind", desc := "(I)I" } : Jvm.MethodName)) := ⟨List.mem_of_getElem? (i := 939) (by decide +kernel), by decide +kernel⟩
theorem kw900 : zWd (Jvm.Cond.selects "LineLearnerModel" ({ cls := "LineLearnerModel", name := "slotKind", desc := "(I)I" } : Jvm.MethodName) ({ cls := "LineLearnerModel", name := "slotKind", desc := "(I)I" } : Jvm.MethodName)) := ⟨List.mem_of_getElem? (i := 940) (by decide +kernel), by decide +kernel⟩
theorem kw901 : zWd (Jvm.Cond.code ({ cls := "LineLearnerModel", name := "slotKind", desc := "(I)I" } : Jvm.MethodName) prog_6_method_36_code (2 : Nat) (Option.some Jvm.ClassFile.FieldType.int)) := ⟨List.mem_of_getElem? (i := 941) (by decide +kernel), by decide +kernel⟩
theorem kw902 : zWd (Jvm.Cond.methodLink "LineLearnerModel" (166 : Nat) ({ cls := "LineLearnerModel", name := "isSlot", desc := "(I)Z" } : Jvm.MethodName)) := ⟨List.mem_of_getElem? (i := 942) (by decide +kernel), by decide +kernel⟩
theorem kw904 : zWd (Jvm.Cond.instanceMethod ({ cls := "LineLearnerModel", name := "isSlot", desc := "(I)Z" } : Jvm.MethodName)) := ⟨List.mem_of_getElem? (i := 944) (by decide +kernel), by decide +kernel⟩
theorem kw905 : zWd (Jvm.Cond.code ({ cls := "LineLearnerModel", name := "isSlot", desc := "(I)Z" } : Jvm.MethodName) prog_6_method_5_code (2 : Nat) (Option.some Jvm.ClassFile.FieldType.boolean)) := ⟨List.mem_of_getElem? (i := 945) (by decide +kernel), by decide +kernel⟩
theorem kw906 : zWd (Jvm.Cond.methodLink "LineLearnerLaw" (161 : Nat) ({ cls := "LineLearnerModel", name := "textByte", desc := "(II)I" } : Jvm.MethodName)) := ⟨List.mem_of_getElem? (i := 946) (by decide +kernel), by decide +kernel⟩
theorem kw907 : zWd (Jvm.Cond.instanceMethod ({ cls := "LineLearnerModel", name := "textByte", desc := "(II)I" } : Jvm.MethodName)) := ⟨List.mem_of_getElem? (i := 947) (by decide +kernel), by decide +kernel⟩
theorem kw908 : zWd (Jvm.Cond.selects "LineLearnerModel" ({ cls := "LineLearnerModel", name := "textByte", desc := "(II)I" } : Jvm.MethodName) ({ cls := "LineLearnerModel", name := "textByte", desc := "(II)I" } : Jvm.MethodName)) := ⟨List.mem_of_getElem? (i := 948) (by decide +kernel), by decide +kernel⟩
theorem kw909 : zWd (Jvm.Cond.code ({ cls := "LineLearnerModel", name := "textByte", desc := "(II)I" } : Jvm.MethodName) prog_6_method_37_code (4 : Nat) (Option.some Jvm.ClassFile.FieldType.int)) := ⟨List.mem_of_getElem? (i := 949) (by decide +kernel), by decide +kernel⟩
theorem kw910 : zWd (Jvm.Cond.methodLink "LineLearnerLaw" (165 : Nat) ({ cls := "LineLearnerModel", name := "sizeOf", desc := "(IZ)I" } : Jvm.MethodName)) := ⟨List.mem_of_getElem? (i := 950) (by decide +kernel), by decide +kernel⟩
theorem kw911 : zWd (Jvm.Cond.instanceMethod ({ cls := "LineLearnerModel", name := "sizeOf", desc := "(IZ)I" } : Jvm.MethodName)) := ⟨List.mem_of_getElem? (i := 951) (by decide +kernel), by decide +kernel⟩
theorem kw912 : zWd (Jvm.Cond.selects "LineLearnerModel" ({ cls := "LineLearnerModel", name := "sizeOf", desc := "(IZ)I" } : Jvm.MethodName) ({ cls := "LineLearnerModel", name := "sizeOf", desc := "(IZ)I" } : Jvm.MethodName)) := ⟨List.mem_of_getElem? (i := 952) (by decide +kernel), by decide +kernel⟩
theorem kw913 : zWd (Jvm.Cond.code ({ cls := "LineLearnerModel", name := "sizeOf", desc := "(IZ)I" } : Jvm.MethodName) prog_6_method_38_code (3 : Nat) (Option.some Jvm.ClassFile.FieldType.int)) := ⟨List.mem_of_getElem? (i := 953) (by decide +kernel), by decide +kernel⟩
theorem kw914 : zWd (Jvm.Cond.methodLink "LineLearnerLaw" (168 : Nat) ({ cls := "LineLearnerModel", name := "uses", desc := "(I)I" } : Jvm.MethodName)) := ⟨List.mem_of_getElem? (i := 954) (by decide +kernel), by decide +kernel⟩
theorem kw915 : zWd (Jvm.Cond.instanceMethod ({ cls := "LineLearnerModel", name := "uses", desc := "(I)I" } : Jvm.MethodName)) := ⟨List.mem_of_getElem? (i := 955) (by decide +kernel), by decide +kernel⟩
theorem kw916 : zWd (Jvm.Cond.selects "LineLearnerModel" ({ cls := "LineLearnerModel", name := "uses", desc := "(I)I" } : Jvm.MethodName) ({ cls := "LineLearnerModel", name := "uses", desc := "(I)I" } : Jvm.MethodName)) := ⟨List.mem_of_getElem? (i := 956) (by decide +kernel), by decide +kernel⟩
theorem kw917 : zWd (Jvm.Cond.code ({ cls := "LineLearnerModel", name := "uses", desc := "(I)I" } : Jvm.MethodName) prog_6_method_39_code (2 : Nat) (Option.some Jvm.ClassFile.FieldType.int)) := ⟨List.mem_of_getElem? (i := 957) (by decide +kernel), by decide +kernel⟩
theorem kw918 : zWd (Jvm.Cond.methodLink "LineLearnerLaw" (171 : Nat) ({ cls := "LineLearnerModel", name := "isOptional", desc := "(I)Z" } : Jvm.MethodName)) := ⟨List.mem_of_getElem? (i := 958) (by decide +kernel), by decide +kernel⟩
theorem kw919 : zWd (Jvm.Cond.instanceMethod ({ cls := "LineLearnerModel", name := "isOptional", desc := "(I)Z" } : Jvm.MethodName)) := ⟨List.mem_of_getElem? (i := 959) (by decide +kernel), by decide +kernel⟩
theorem kw920 : zWd (Jvm.Cond.selects "LineLearnerModel" ({ cls := "LineLearnerModel", name := "isOptional", desc := "(I)Z" } : Jvm.MethodName) ({ cls := "LineLearnerModel", name := "isOptional", desc := "(I)Z" } : Jvm.MethodName)) := ⟨List.mem_of_getElem? (i := 960) (by decide +kernel), by decide +kernel⟩
theorem kw921 : zWd (Jvm.Cond.code ({ cls := "LineLearnerModel", name := "isOptional", desc := "(I)Z" } : Jvm.MethodName) prog_6_method_40_code (2 : Nat) (Option.some Jvm.ClassFile.FieldType.boolean)) := ⟨List.mem_of_getElem? (i := 961) (by decide +kernel), by decide +kernel⟩
theorem kw922 : zWd (Jvm.Cond.methodLink "LineLearnerLaw" (174 : Nat) ({ cls := "LineLearnerModel", name := "tokenAt", desc := "(II)I" } : Jvm.MethodName)) := ⟨List.mem_of_getElem? (i := 962) (by decide +kernel), by decide +kernel⟩
theorem kw923 : zWd (Jvm.Cond.instanceMethod ({ cls := "LineLearnerModel", name := "tokenAt", desc := "(II)I" } : Jvm.MethodName)) := ⟨List.mem_of_getElem? (i := 963) (by decide +kernel), by decide +kernel⟩
theorem kw924 : zWd (Jvm.Cond.selects "LineLearnerModel" ({ cls := "LineLearnerModel", name := "tokenAt", desc := "(II)I" } : Jvm.MethodName) ({ cls := "LineLearnerModel", name := "tokenAt", desc := "(II)I" } : Jvm.MethodName)) := ⟨List.mem_of_getElem? (i := 964) (by decide +kernel), by decide +kernel⟩
theorem kw925 : zWd (Jvm.Cond.code ({ cls := "LineLearnerModel", name := "tokenAt", desc := "(II)I" } : Jvm.MethodName) prog_6_method_41_code (3 : Nat) (Option.some Jvm.ClassFile.FieldType.int)) := ⟨List.mem_of_getElem? (i := 965) (by decide +kernel), by decide +kernel⟩
theorem kw926 : zWd (Jvm.Cond.methodLink "LineLearnerLaw" (177 : Nat) ({ cls := "LineLearnerModel", name := "numberAt", desc := "(II)I" } : Jvm.MethodName)) := ⟨List.mem_of_getElem? (i := 966) (by decide +kernel), by decide +kernel⟩
theorem kw927 : zWd (Jvm.Cond.instanceMethod ({ cls := "LineLearnerModel", name := "numberAt", desc := "(II)I" } : Jvm.MethodName)) := ⟨List.mem_of_getElem? (i := 967) (by decide +kernel), by decide +kernel⟩
theorem kw928 : zWd (Jvm.Cond.selects "LineLearnerModel" ({ cls := "LineLearnerModel", name := "numberAt", desc := "(II)I" } : Jvm.MethodName) ({ cls := "LineLearnerModel", name := "numberAt", desc := "(II)I" } : Jvm.MethodName)) := ⟨List.mem_of_getElem? (i := 968) (by decide +kernel), by decide +kernel⟩
theorem kw929 : zWd (Jvm.Cond.code ({ cls := "LineLearnerModel", name := "numberAt", desc := "(II)I" } : Jvm.MethodName) prog_6_method_43_code (3 : Nat) (Option.some Jvm.ClassFile.FieldType.int)) := ⟨List.mem_of_getElem? (i := 969) (by decide +kernel), by decide +kernel⟩
theorem kw930 : zWd (Jvm.Cond.methodLink "LineLearnerModel" (169 : Nat) ({ cls := "LineLearnerModel", name := "numberOf", desc := "(II)I" } : Jvm.MethodName)) := ⟨List.mem_of_getElem? (i := 970) (by decide +kernel), by decide +kernel⟩
theorem kw932 : zWd (Jvm.Cond.instanceMethod ({ cls := "LineLearnerModel", name := "numberOf", desc := "(II)I" } : Jvm.MethodName)) := ⟨List.mem_of_getElem? (i := 972) (by decide +kernel), by decide +kernel⟩
theorem kw933 : zWd (Jvm.Cond.code ({ cls := "LineLearnerModel", name := "numberOf", desc := "(II)I" } : Jvm.MethodName) prog_6_method_42_code (7 : Nat) (Option.some Jvm.ClassFile.FieldType.int)) := ⟨List.mem_of_getElem? (i := 973) (by decide +kernel), by decide +kernel⟩
theorem kw934 : zWd (Jvm.Cond.methodLink "LineLearnerLaw" (180 : Nat) ({ cls := "LineLearnerModel", name := "distinct", desc := "(I)I" } : Jvm.MethodName)) := ⟨List.mem_of_getElem? (i := 974) (by decide +kernel), by decide +kernel⟩
theorem kw935 : zWd (Jvm.Cond.instanceMethod ({ cls := "LineLearnerModel", name := "distinct", desc := "(I)I" } : Jvm.MethodName)) := ⟨List.mem_of_getElem? (i := 975) (by decide +kernel), by decide +kernel⟩
theorem kw936 : zWd (Jvm.Cond.selects "LineLearnerModel" ({ cls := "LineLearnerModel", name := "distinct", desc := "(I)I" } : Jvm.MethodName) ({ cls := "LineLearnerModel", name := "distinct", desc := "(I)I" } : Jvm.MethodName)) := ⟨List.mem_of_getElem? (i := 976) (by decide +kernel), by decide +kernel⟩
theorem kw937 : zWd (Jvm.Cond.code ({ cls := "LineLearnerModel", name := "distinct", desc := "(I)I" } : Jvm.MethodName) prog_6_method_44_code (6 : Nat) (Option.some Jvm.ClassFile.FieldType.int)) := ⟨List.mem_of_getElem? (i := 977) (by decide +kernel), by decide +kernel⟩
theorem kw938 : zWd (Jvm.Cond.methodLink "LineLearnerLaw" (183 : Nat) ({ cls := "LineLearnerModel", name := "isRising", desc := "(I)Z" } : Jvm.MethodName)) := ⟨List.mem_of_getElem? (i := 978) (by decide +kernel), by decide +kernel⟩
theorem kw939 : zWd (Jvm.Cond.instanceMethod ({ cls := "LineLearnerModel", name := "isRising", desc := "(I)Z" } : Jvm.MethodName)) := ⟨List.mem_of_getElem? (i := 979) (by decide +kernel), by decide +kernel⟩
theorem kw940 : zWd (Jvm.Cond.selects "LineLearnerModel" ({ cls := "LineLearnerModel", name := "isRising", desc := "(I)Z" } : Jvm.MethodName) ({ cls := "LineLearnerModel", name := "isRising", desc := "(I)Z" } : Jvm.MethodName)) := ⟨List.mem_of_getElem? (i := 980) (by decide +kernel), by decide +kernel⟩
theorem kw941 : zWd (Jvm.Cond.code ({ cls := "LineLearnerModel", name := "isRising", desc := "(I)Z" } : Jvm.MethodName) prog_6_method_45_code (5 : Nat) (Option.some Jvm.ClassFile.FieldType.boolean)) := ⟨List.mem_of_getElem? (i := 981) (by decide +kernel), by decide +kernel⟩
theorem kw942 : zWd (Jvm.Cond.methodLink "LineLearnerLaw" (187 : Nat) ({ cls := "LineLearnerModel", name := "bits", desc := "()I" } : Jvm.MethodName)) := ⟨List.mem_of_getElem? (i := 982) (by decide +kernel), by decide +kernel⟩
theorem kw943 : zWd (Jvm.Cond.instanceMethod ({ cls := "LineLearnerModel", name := "bits", desc := "()I" } : Jvm.MethodName)) := ⟨List.mem_of_getElem? (i := 983) (by decide +kernel), by decide +kernel⟩
theorem kw944 : zWd (Jvm.Cond.selects "LineLearnerModel" ({ cls := "LineLearnerModel", name := "bits", desc := "()I" } : Jvm.MethodName) ({ cls := "LineLearnerModel", name := "bits", desc := "()I" } : Jvm.MethodName)) := ⟨List.mem_of_getElem? (i := 984) (by decide +kernel), by decide +kernel⟩
theorem kw945 : zWd (Jvm.Cond.code ({ cls := "LineLearnerModel", name := "bits", desc := "()I" } : Jvm.MethodName) prog_6_method_47_code (1 : Nat) (Option.some Jvm.ClassFile.FieldType.int)) := ⟨List.mem_of_getElem? (i := 985) (by decide +kernel), by decide +kernel⟩
theorem kw946 : zWd (Jvm.Cond.methodLink "LineLearnerModel" (172 : Nat) ({ cls := "LineLearnerModel", name := "allBits", desc := "()I" } : Jvm.MethodName)) := ⟨List.mem_of_getElem? (i := 986) (by decide +kernel), by decide +kernel⟩
theorem kw948 : zWd (Jvm.Cond.instanceMethod ({ cls := "LineLearnerModel", name := "allBits", desc := "()I" } : Jvm.MethodName)) := ⟨List.mem_of_getElem? (i := 988) (by decide +kernel), by decide +kernel⟩
theorem kw949 : zWd (Jvm.Cond.code ({ cls := "LineLearnerModel", name := "allBits", desc := "()I" } : Jvm.MethodName) prog_6_method_46_code (6 : Nat) (Option.some Jvm.ClassFile.FieldType.int)) := ⟨List.mem_of_getElem? (i := 989) (by decide +kernel), by decide +kernel⟩
theorem kw950 : zWd (Jvm.Cond.methodLink "LineLearnerLaw" (192 : Nat) ({ cls := "LineLearnerModel", name := "saving", desc := "()D" } : Jvm.MethodName)) := ⟨List.mem_of_getElem? (i := 990) (by decide +kernel), by decide +kernel⟩
theorem kw951 : zWd (Jvm.Cond.instanceMethod ({ cls := "LineLearnerModel", name := "saving", desc := "()D" } : Jvm.MethodName)) := ⟨List.mem_of_getElem? (i := 991) (by decide +kernel), by decide +kernel⟩
theorem kw952 : zWd (Jvm.Cond.selects "LineLearnerModel" ({ cls := "LineLearnerModel", name := "saving", desc := "()D" } : Jvm.MethodName) ({ cls := "LineLearnerModel", name := "saving", desc := "()D" } : Jvm.MethodName)) := ⟨List.mem_of_getElem? (i := 992) (by decide +kernel), by decide +kernel⟩
theorem kw953 : zWd (Jvm.Cond.code ({ cls := "LineLearnerModel", name := "saving", desc := "()D" } : Jvm.MethodName) prog_6_method_48_code (3 : Nat) (Option.some Jvm.ClassFile.FieldType.double)) := ⟨List.mem_of_getElem? (i := 993) (by decide +kernel), by decide +kernel⟩
theorem kw954 : zWd (Jvm.Cond.methodLink "LineLearnerLaw" (195 : Nat) ({ cls := "LineLearnerModel", name := "group", desc := "(I)I" } : Jvm.MethodName)) := ⟨List.mem_of_getElem? (i := 994) (by decide +kernel), by decide +kernel⟩
theorem kw955 : zWd (Jvm.Cond.instanceMethod ({ cls := "LineLearnerModel", name := "group", desc := "(I)I" } : Jvm.MethodName)) := ⟨List.mem_of_getElem? (i := 995) (by decide +kernel), by decide +kernel⟩
theorem kw956 : zWd (Jvm.Cond.selects "LineLearnerModel" ({ cls := "LineLearnerModel", name := "group", desc := "(I)I" } : Jvm.MethodName) ({ cls := "LineLearnerModel", name := "group", desc := "(I)I" } : Jvm.MethodName)) := ⟨List.mem_of_getElem? (i := 996) (by decide +kernel), by decide +kernel⟩
theorem kw957 : zWd (Jvm.Cond.code ({ cls := "LineLearnerModel", name := "group", desc := "(I)I" } : Jvm.MethodName) prog_6_method_49_code (7 : Nat) (Option.some Jvm.ClassFile.FieldType.int)) := ⟨List.mem_of_getElem? (i := 997) (by decide +kernel), by decide +kernel⟩
theorem kw958 : zWd (Jvm.Cond.methodLink "LineLearnerLaw" (198 : Nat) ({ cls := "LineLearnerModel", name := "groupOf", desc := "(I)I" } : Jvm.MethodName)) := ⟨List.mem_of_getElem? (i := 998) (by decide +kernel), by decide +kernel⟩
theorem kw959 : zWd (Jvm.Cond.instanceMethod ({ cls := "LineLearnerModel", name := "groupOf", desc := "(I)I" } : Jvm.MethodName)) := ⟨List.mem_of_getElem? (i := 999) (by decide +kernel), by decide +kernel⟩
theorem kw960 : zWd (Jvm.Cond.selects "LineLearnerModel" ({ cls := "LineLearnerModel", name := "groupOf", desc := "(I)I" } : Jvm.MethodName) ({ cls := "LineLearnerModel", name := "groupOf", desc := "(I)I" } : Jvm.MethodName)) := ⟨List.mem_of_getElem? (i := 1000) (by decide +kernel), by decide +kernel⟩
theorem kw961 : zWd (Jvm.Cond.code ({ cls := "LineLearnerModel", name := "groupOf", desc := "(I)I" } : Jvm.MethodName) prog_6_method_50_code (2 : Nat) (Option.some Jvm.ClassFile.FieldType.int)) := ⟨List.mem_of_getElem? (i := 1001) (by decide +kernel), by decide +kernel⟩
theorem kw962 : zWd (Jvm.Cond.methodLink "LineLearnerLaw" (201 : Nat) ({ cls := "LineLearnerModel", name := "groupSlots", desc := "(I)I" } : Jvm.MethodName)) := ⟨List.mem_of_getElem? (i := 1002) (by decide +kernel), by decide +kernel⟩
theorem kw963 : zWd (Jvm.Cond.instanceMethod ({ cls := "LineLearnerModel", name := "groupSlots", desc := "(I)I" } : Jvm.MethodName)) := ⟨List.mem_of_getElem? (i := 1003) (by decide +kernel), by decide +kernel⟩
theorem kw964 : zWd (Jvm.Cond.selects "LineLearnerModel" ({ cls := "LineLearnerModel", name := "groupSlots", desc := "(I)I" } : Jvm.MethodName) ({ cls := "LineLearnerModel", name := "groupSlots", desc := "(I)I" } : Jvm.MethodName)) := ⟨List.mem_of_getElem? (i := 1004) (by decide +kernel), by decide +kernel⟩
theorem kw965 : zWd (Jvm.Cond.code ({ cls := "LineLearnerModel", name := "groupSlots", desc := "(I)I" } : Jvm.MethodName) prog_6_method_51_code (2 : Nat) (Option.some Jvm.ClassFile.FieldType.int)) := ⟨List.mem_of_getElem? (i := 1005) (by decide +kernel), by decide +kernel⟩
theorem kw966 : zWd (Jvm.Cond.methodLink "LineLearnerLaw" (206 : Nat) ({ cls := "LineLearnerModel", name := "digest", desc := "()J" } : Jvm.MethodName)) := ⟨List.mem_of_getElem? (i := 1006) (by decide +kernel), by decide +kernel⟩
theorem kw967 : zWd (Jvm.Cond.instanceMethod ({ cls := "LineLearnerModel", name := "digest", desc := "()J" } : Jvm.MethodName)) := ⟨List.mem_of_getElem? (i := 1007) (by decide +kernel), by decide +kernel⟩
theorem kw968 : zWd (Jvm.Cond.selects "LineLearnerModel" ({ cls := "LineLearnerModel", name := "digest", desc := "()J" } : Jvm.MethodName) ({ cls := "LineLearnerModel", name := "digest", desc := "()J" } : Jvm.MethodName)) := ⟨List.mem_of_getElem? (i := 1008) (by decide +kernel), by decide +kernel⟩
theorem kw969 : zWd (Jvm.Cond.code ({ cls := "LineLearnerModel", name := "digest", desc := "()J" } : Jvm.MethodName) prog_6_method_52_code (5 : Nat) (Option.some Jvm.ClassFile.FieldType.long)) := ⟨List.mem_of_getElem? (i := 1009) (by decide +kernel), by decide +kernel⟩
theorem kw970 : zWd (Jvm.Cond.constantLong "LineLearnerModel" (178 : Nat) (4619 : Int64)) := ⟨List.mem_of_getElem? (i := 1010) (by decide +kernel), by decide +kernel⟩
theorem kw971 : zWd (Jvm.Cond.constantLong "LineLearnerModel" (180 : Nat) (31 : Int64)) := ⟨List.mem_of_getElem? (i := 1011) (by decide +kernel), by decide +kernel⟩
theorem kw972 : zWd (Jvm.Cond.constantLong "LineLearnerLaw" (95 : Nat) (4294967295 : Int64)) := ⟨List.mem_of_getElem? (i := 1012) (by decide +kernel), by decide +kernel⟩
theorem kw973 : zWd (Jvm.Cond.arrayClass Jvm.ClassFile.FieldType.long) := ⟨List.mem_of_getElem? (i := 1013) (by decide +kernel), by decide +kernel⟩
theorem kp0 : zWd (Jvm.Cond.selects "LineLearner$Aligner" ({ cls := "LineLearner$Aligner", name := "fillRow", desc := "(LLineLearner$Format;II)V" } : Jvm.MethodName) ({ cls := "LineLearner$Aligner", name := "fillRow", desc := "(LLineLearner$Format;II)V" } : Jvm.MethodName)) := ⟨List.mem_of_getElem? (i := 0) (by decide +kernel), by decide +kernel⟩
theorem kp1 : zWd (Jvm.Cond.selects "LineLearner$Aligner" ({ cls := "LineLearner$Aligner", name := "skipCost", desc := "(LLineLearner$Format;I)I" } : Jvm.MethodName) ({ cls := "LineLearner$Aligner", name := "skipCost", desc := "(LLineLearner$Format;I)I" } : Jvm.MethodName)) := ⟨List.mem_of_getElem? (i := 1) (by decide +kernel), by decide +kernel⟩
theorem kp2 : zWd (Jvm.Cond.selects "LineLearner$Aligner" ({ cls := "LineLearner$Aligner", name := "pairCost", desc := "(LLineLearner$Format;II)I" } : Jvm.MethodName) ({ cls := "LineLearner$Aligner", name := "pairCost", desc := "(LLineLearner$Format;II)I" } : Jvm.MethodName)) := ⟨List.mem_of_getElem? (i := 2) (by decide +kernel), by decide +kernel⟩
theorem kp3 : zWd (Jvm.Cond.selects "LineLearner" ({ cls := "LineLearner", name := "textSize", desc := "(I)I" } : Jvm.MethodName) ({ cls := "LineLearner", name := "textSize", desc := "(I)I" } : Jvm.MethodName)) := ⟨List.mem_of_getElem? (i := 3) (by decide +kernel), by decide +kernel⟩
theorem kp4 : zWd (Jvm.Cond.selects "LineLearner" ({ cls := "LineLearner", name := "bitsOfVarying", desc := "(I)I" } : Jvm.MethodName) ({ cls := "LineLearner", name := "bitsOfVarying", desc := "(I)I" } : Jvm.MethodName)) := ⟨List.mem_of_getElem? (i := 4) (by decide +kernel), by decide +kernel⟩
theorem kp5 : zWd (Jvm.Cond.selects "LineLearner" ({ cls := "LineLearner", name := "addLines", desc := "(J)J" } : Jvm.MethodName) ({ cls := "LineLearner", name := "addLines", desc := "(J)J" } : Jvm.MethodName)) := ⟨List.mem_of_getElem? (i := 5) (by decide +kernel), by decide +kernel⟩
theorem kp6 : zWd (Jvm.Cond.selects "LineLearner" ({ cls := "LineLearner", name := "addSlots", desc := "(J)J" } : Jvm.MethodName) ({ cls := "LineLearner", name := "addSlots", desc := "(J)J" } : Jvm.MethodName)) := ⟨List.mem_of_getElem? (i := 6) (by decide +kernel), by decide +kernel⟩
theorem kp7 : zWd (Jvm.Cond.selects "java/lang/Throwable" ({ cls := "java/lang/Throwable", name := "fillInStackTrace", desc := "(I)Ljava/lang/Throwable;" } : Jvm.MethodName) ({ cls := "java/lang/Throwable", name := "fillInStackTrace", desc := "(I)Ljava/lang/Throwable;" } : Jvm.MethodName)) := ⟨List.mem_of_getElem? (i := 7) (by decide +kernel), by decide +kernel⟩
theorem kp8 : zWd (Jvm.Cond.selects "LineLearner$Lines" ({ cls := "LineLearner$Lines", name := "cut", desc := "(I)V" } : Jvm.MethodName) ({ cls := "LineLearner$Lines", name := "cut", desc := "(I)V" } : Jvm.MethodName)) := ⟨List.mem_of_getElem? (i := 8) (by decide +kernel), by decide +kernel⟩
theorem kp9 : zWd (Jvm.Cond.selects "LineLearner$Lines" ({ cls := "LineLearner$Lines", name := "numberTexts", desc := "(I)V" } : Jvm.MethodName) ({ cls := "LineLearner$Lines", name := "numberTexts", desc := "(I)V" } : Jvm.MethodName)) := ⟨List.mem_of_getElem? (i := 9) (by decide +kernel), by decide +kernel⟩
theorem kp10 : zWd (Jvm.Cond.selects "LineLearner$Lines" ({ cls := "LineLearner$Lines", name := "firstAlike", desc := "(II)I" } : Jvm.MethodName) ({ cls := "LineLearner$Lines", name := "firstAlike", desc := "(II)I" } : Jvm.MethodName)) := ⟨List.mem_of_getElem? (i := 10) (by decide +kernel), by decide +kernel⟩
theorem kp11 : zWd (Jvm.Cond.selects "LineLearner$Lines" ({ cls := "LineLearner$Lines", name := "isSameText", desc := "(II)Z" } : Jvm.MethodName) ({ cls := "LineLearner$Lines", name := "isSameText", desc := "(II)Z" } : Jvm.MethodName)) := ⟨List.mem_of_getElem? (i := 11) (by decide +kernel), by decide +kernel⟩
theorem kp12 : zWd (Jvm.Cond.selects "LineLearner" ({ cls := "LineLearner", name := "needLine", desc := "(I)V" } : Jvm.MethodName) ({ cls := "LineLearner", name := "needLine", desc := "(I)V" } : Jvm.MethodName)) := ⟨List.mem_of_getElem? (i := 12) (by decide +kernel), by decide +kernel⟩
theorem kp13 : zWd (Jvm.Cond.selects "LineLearner" ({ cls := "LineLearner", name := "needToken", desc := "(II)V" } : Jvm.MethodName) ({ cls := "LineLearner", name := "needToken", desc := "(II)V" } : Jvm.MethodName)) := ⟨List.mem_of_getElem? (i := 13) (by decide +kernel), by decide +kernel⟩
theorem kp14 : zWd (Jvm.Cond.selects "LineLearner$Aligner" ({ cls := "LineLearner$Aligner", name := "lastStep", desc := "(LLineLearner$Format;III)I" } : Jvm.MethodName) ({ cls := "LineLearner$Aligner", name := "lastStep", desc := "(LLineLearner$Format;III)I" } : Jvm.MethodName)) := ⟨List.mem_of_getElem? (i := 14) (by decide +kernel), by decide +kernel⟩
theorem kp15 : zWd (Jvm.Cond.selects "LineLearner$Aligner" ({ cls := "LineLearner$Aligner", name := "canTake", desc := "(LLineLearner$Format;II)Z" } : Jvm.MethodName) ({ cls := "LineLearner$Aligner", name := "canTake", desc := "(LLineLearner$Format;II)Z" } : Jvm.MethodName)) := ⟨List.mem_of_getElem? (i := 15) (by decide +kernel), by decide +kernel⟩
theorem kp16 : zWd (Jvm.Cond.selects "LineLearner" ({ cls := "LineLearner", name := "neededSlot", desc := "(I)I" } : Jvm.MethodName) ({ cls := "LineLearner", name := "neededSlot", desc := "(I)I" } : Jvm.MethodName)) := ⟨List.mem_of_getElem? (i := 16) (by decide +kernel), by decide +kernel⟩
theorem kp17 : zWd (Jvm.Cond.selects "LineLearner" ({ cls := "LineLearner", name := "tokenIn", desc := "(II)I" } : Jvm.MethodName) ({ cls := "LineLearner", name := "tokenIn", desc := "(II)I" } : Jvm.MethodName)) := ⟨List.mem_of_getElem? (i := 17) (by decide +kernel), by decide +kernel⟩
theorem kp18 : zWd (Jvm.Cond.selects "LineLearner" ({ cls := "LineLearner", name := "numberIn", desc := "(II)I" } : Jvm.MethodName) ({ cls := "LineLearner", name := "numberIn", desc := "(II)I" } : Jvm.MethodName)) := ⟨List.mem_of_getElem? (i := 18) (by decide +kernel), by decide +kernel⟩
theorem kp19 : zWd (Jvm.Cond.selects "LineLearner" ({ cls := "LineLearner", name := "textIn", desc := "(II)I" } : Jvm.MethodName) ({ cls := "LineLearner", name := "textIn", desc := "(II)I" } : Jvm.MethodName)) := ⟨List.mem_of_getElem? (i := 19) (by decide +kernel), by decide +kernel⟩
theorem kp20 : zWd (Jvm.Cond.selects "LineLearner" ({ cls := "LineLearner", name := "isTextBefore", desc := "(III)Z" } : Jvm.MethodName) ({ cls := "LineLearner", name := "isTextBefore", desc := "(III)Z" } : Jvm.MethodName)) := ⟨List.mem_of_getElem? (i := 20) (by decide +kernel), by decide +kernel⟩
theorem kp21 : zWd (Jvm.Cond.selects "LineLearner" ({ cls := "LineLearner", name := "nearestGroup", desc := "(II)I" } : Jvm.MethodName) ({ cls := "LineLearner", name := "nearestGroup", desc := "(II)I" } : Jvm.MethodName)) := ⟨List.mem_of_getElem? (i := 21) (by decide +kernel), by decide +kernel⟩
theorem kp22 : zWd (Jvm.Cond.selects "LineLearner" ({ cls := "LineLearner", name := "needGrouping", desc := "()V" } : Jvm.MethodName) ({ cls := "LineLearner", name := "needGrouping", desc := "()V" } : Jvm.MethodName)) := ⟨List.mem_of_getElem? (i := 22) (by decide +kernel), by decide +kernel⟩
theorem kp23 : zWd (Jvm.Cond.selects "LineLearnerModel" ({ cls := "LineLearnerModel", name := "fail", desc := "(I)I" } : Jvm.MethodName) ({ cls := "LineLearnerModel", name := "fail", desc := "(I)I" } : Jvm.MethodName)) := ⟨List.mem_of_getElem? (i := 23) (by decide +kernel), by decide +kernel⟩
theorem kp24 : zWd (Jvm.Cond.selects "LineLearnerModel" ({ cls := "LineLearnerModel", name := "isLine", desc := "(I)Z" } : Jvm.MethodName) ({ cls := "LineLearnerModel", name := "isLine", desc := "(I)Z" } : Jvm.MethodName)) := ⟨List.mem_of_getElem? (i := 24) (by decide +kernel), by decide +kernel⟩
theorem kp25 : zWd (Jvm.Cond.selects "LineLearnerModel" ({ cls := "LineLearnerModel", name := "isToken", desc := "(II)Z" } : Jvm.MethodName) ({ cls := "LineLearnerModel", name := "isToken", desc := "(II)Z" } : Jvm.MethodName)) := ⟨List.mem_of_getElem? (i := 25) (by decide +kernel), by decide +kernel⟩
theorem kp26 : zWd (Jvm.Cond.selects "LineLearnerModel" ({ cls := "LineLearnerModel", name := "areSame", desc := "(II)Z" } : Jvm.MethodName) ({ cls := "LineLearnerModel", name := "areSame", desc := "(II)Z" } : Jvm.MethodName)) := ⟨List.mem_of_getElem? (i := 26) (by decide +kernel), by decide +kernel⟩
theorem kp27 : zWd (Jvm.Cond.selects "LineLearnerModel" ({ cls := "LineLearnerModel", name := "align", desc := "(II)I" } : Jvm.MethodName) ({ cls := "LineLearnerModel", name := "align", desc := "(II)I" } : Jvm.MethodName)) := ⟨List.mem_of_getElem? (i := 27) (by decide +kernel), by decide +kernel⟩
theorem kp28 : zWd (Jvm.Cond.selects "LineLearnerModel" ({ cls := "LineLearnerModel", name := "costOf", desc := "(IIIII)I" } : Jvm.MethodName) ({ cls := "LineLearnerModel", name := "costOf", desc := "(IIIII)I" } : Jvm.MethodName)) := ⟨List.mem_of_getElem? (i := 28) (by decide +kernel), by decide +kernel⟩
theorem kp29 : zWd (Jvm.Cond.selects "LineLearnerModel" ({ cls := "LineLearnerModel", name := "isFree", desc := "(II)Z" } : Jvm.MethodName) ({ cls := "LineLearnerModel", name := "isFree", desc := "(II)Z" } : Jvm.MethodName)) := ⟨List.mem_of_getElem? (i := 29) (by decide +kernel), by decide +kernel⟩
theorem kp30 : zWd (Jvm.Cond.selects "LineLearnerModel" ({ cls := "LineLearnerModel", name := "usesOf", desc := "(II)I" } : Jvm.MethodName) ({ cls := "LineLearnerModel", name := "usesOf", desc := "(II)I" } : Jvm.MethodName)) := ⟨List.mem_of_getElem? (i := 30) (by decide +kernel), by decide +kernel⟩
theorem kp31 : zWd (Jvm.Cond.selects "LineLearnerModel" ({ cls := "LineLearnerModel", name := "tokenOf", desc := "(III)I" } : Jvm.MethodName) ({ cls := "LineLearnerModel", name := "tokenOf", desc := "(III)I" } : Jvm.MethodName)) := ⟨List.mem_of_getElem? (i := 31) (by decide +kernel), by decide +kernel⟩
theorem kp32 : zWd (Jvm.Cond.selects "LineLearnerModel" ({ cls := "LineLearnerModel", name := "follow", desc := "(II)V" } : Jvm.MethodName) ({ cls := "LineLearnerModel", name := "follow", desc := "(II)V" } : Jvm.MethodName)) := ⟨List.mem_of_getElem? (i := 32) (by decide +kernel), by decide +kernel⟩
theorem kp33 : zWd (Jvm.Cond.selects "LineLearnerModel" ({ cls := "LineLearnerModel", name := "freshSteps", desc := "()I" } : Jvm.MethodName) ({ cls := "LineLearnerModel", name := "freshSteps", desc := "()I" } : Jvm.MethodName)) := ⟨List.mem_of_getElem? (i := 33) (by decide +kernel), by decide +kernel⟩
theorem kp34 : zWd (Jvm.Cond.selects "LineLearnerModel" ({ cls := "LineLearnerModel", name := "mergeInto", desc := "(II)V" } : Jvm.MethodName) ({ cls := "LineLearnerModel", name := "mergeInto", desc := "(II)V" } : Jvm.MethodName)) := ⟨List.mem_of_getElem? (i := 34) (by decide +kernel), by decide +kernel⟩
theorem kp35 : zWd (Jvm.Cond.selects "LineLearnerModel" ({ cls := "LineLearnerModel", name := "canPair", desc := "(II)Z" } : Jvm.MethodName) ({ cls := "LineLearnerModel", name := "canPair", desc := "(II)Z" } : Jvm.MethodName)) := ⟨List.mem_of_getElem? (i := 35) (by decide +kernel), by decide +kernel⟩
theorem kp36 : zWd (Jvm.Cond.selects "LineLearnerModel" ({ cls := "LineLearnerModel", name := "extreme", desc := "(IZ)I" } : Jvm.MethodName) ({ cls := "LineLearnerModel", name := "extreme", desc := "(IZ)I" } : Jvm.MethodName)) := ⟨List.mem_of_getElem? (i := 36) (by decide +kernel), by decide +kernel⟩
theorem kp37 : zWd (Jvm.Cond.selects "LineLearnerModel" ({ cls := "LineLearnerModel", name := "isSlot", desc := "(I)Z" } : Jvm.MethodName) ({ cls := "LineLearnerModel", name := "isSlot", desc := "(I)Z" } : Jvm.MethodName)) := ⟨List.mem_of_getElem? (i := 37) (by decide +kernel), by decide +kernel⟩
theorem kp38 : zWd (Jvm.Cond.selects "LineLearnerModel" ({ cls := "LineLearnerModel", name := "numberOf", desc := "(II)I" } : Jvm.MethodName) ({ cls := "LineLearnerModel", name := "numberOf", desc := "(II)I" } : Jvm.MethodName)) := ⟨List.mem_of_getElem? (i := 38) (by decide +kernel), by decide +kernel⟩
theorem kp39 : zWd (Jvm.Cond.selects "LineLearnerModel" ({ cls := "LineLearnerModel", name := "allBits", desc := "()I" } : Jvm.MethodName) ({ cls := "LineLearnerModel", name := "allBits", desc := "()I" } : Jvm.MethodName)) := ⟨List.mem_of_getElem? (i := 39) (by decide +kernel), by decide +kernel⟩
end
section
/-! the judgement: from this place of the method, with these locals, this stack and this store, the method comes to its end -/
abbrev zCx : Type := Program × Launch × Env × Room × State × MethodId × Array Value × List Frame × Method × Code × (State → Prop) × (Nat → Prop) × Nat × va_G × (Nat → ClassId)
abbrev zLv : Type := List (Nat × Value)
def zW (G : zCx) (F : zFr) (cells slots : Nat) (I : zStore) (lv : zLv) (st : List Value) (pc : Nat) : Prop := match G with
  | (p, l, e, R, s, m, args, below, meth, c, Q, A, n, D, cs) => cells ≤ R.cells → slots ≤ R.slots → ∀ (H : Heap) (locs : List Loc) (ls : Array Slot), va_P D vwCl (zws cs F I) H → va_D A (zws cs F I) → va_S A s.heap H locs → lv_has ls n lv → W p l e R s m args below meth c H locs cells slots Q (F0 m pc ls st)
def zOK (G : zCx) (own : String) (cc : ByteArray) (nL : Nat) : Prop := match G with
  | (p, l, e, R, s, m, args, below, meth, c, Q, A, n, D, cs) => p.tables.exec = Jvm.exec ∧ c.code = cc ∧ s.vm.findClass own = some m.cls ∧ c.maxLocals = n ∧ n = nL ∧ va_K D vwCl (ztys cs) s ∧ zTb s ∧ zOutH A s s.heap ∧ zOutV s ∧ (∀ q, s.heap.size ≤ q → A q) ∧ l.stackTraces = false
def zRm (G : zCx) (f n : Nat) : Prop := match G with
  | (p, l, e, R, s, m, args, below, meth, c, Q, A, nn, D, cs) => f ≤ R.frames ∧ n ≤ R.locals
section ZR
variable {G : zCx} {F : zFr} {cells slots : Nat} {I : zStore} {lv lv' : zLv} {st : List Value} {pc : Nat} {own : String} {cc : ByteArray} {nL : Nat}
theorem z_perm (ks : List Nat) (h : lv_pick lv ks = lv') (k : zW G F cells slots I lv' st pc) : zW G F cells slots I lv st pc := by
  obtain ⟨p, l, e, R, s, m, args, below, meth, c, Q, A, n, D, cs⟩ := G
  intro hc hs H locs ls hP hD hS hl
  exact k hc hs H locs ls hP hD hS (lv_sub hl ks h)
theorem z_eqst {st' : List Value} (h : st = st') (k : zW G F cells slots I lv st' pc) : zW G F cells slots I lv st pc := h ▸ k
theorem z_iadd {a b : Int} (hG : zOK G own cc nL) (hd : decode cc pc = .ok (.iadd, 1)) (k : zW G F cells slots I lv (.int (zI (a + b)) :: st) (pc + 1)) : zW G F cells slots I lv (.int (zI b) :: .int (zI a) :: st) pc := by
  obtain ⟨p, l, e, R, s, m, args, below, meth, c, Q, A, n, D, cs⟩ := G
  intro hc hs H locs ls hP hD hS hl
  have h := k hc hs H locs ls hP hD hS hl
  rw [← zI_add] at h
  exact lv_iadd hG.1 hG.2.1 hd h
theorem z_isub {a b : Int} (hG : zOK G own cc nL) (hd : decode cc pc = .ok (.isub, 1)) (k : zW G F cells slots I lv (.int (zI (a - b)) :: st) (pc + 1)) : zW G F cells slots I lv (.int (zI b) :: .int (zI a) :: st) pc := by
  obtain ⟨p, l, e, R, s, m, args, below, meth, c, Q, A, n, D, cs⟩ := G
  intro hc hs H locs ls hP hD hS hl
  have h := k hc hs H locs ls hP hD hS hl
  rw [← zI_sub] at h
  exact lv_isub hG.1 hG.2.1 hd h
theorem z_imul {a b : Int} (hG : zOK G own cc nL) (hd : decode cc pc = .ok (.imul, 1)) (k : zW G F cells slots I lv (.int (zI (a * b)) :: st) (pc + 1)) : zW G F cells slots I lv (.int (zI b) :: .int (zI a) :: st) pc := by
  obtain ⟨p, l, e, R, s, m, args, below, meth, c, Q, A, n, D, cs⟩ := G
  intro hc hs H locs ls hP hD hS hl
  have h := k hc hs H locs ls hP hD hS hl
  rw [← zI_mul] at h
  exact lv_imul hG.1 hG.2.1 hd h
theorem z_ladd {a b : Int} (hG : zOK G own cc nL) (hd : decode cc pc = .ok (.ladd, 1)) (k : zW G F cells slots I lv (.long (zJ (a + b)) :: st) (pc + 1)) : zW G F cells slots I lv (.long (zJ b) :: .long (zJ a) :: st) pc := by
  obtain ⟨p, l, e, R, s, m, args, below, meth, c, Q, A, n, D, cs⟩ := G
  intro hc hs H locs ls hP hD hS hl
  have h := k hc hs H locs ls hP hD hS hl
  rw [← zJ_add] at h
  exact lv_ladd hG.1 hG.2.1 hd h
theorem z_lmul {a b : Int} (hG : zOK G own cc nL) (hd : decode cc pc = .ok (.lmul, 1)) (k : zW G F cells slots I lv (.long (zJ (a * b)) :: st) (pc + 1)) : zW G F cells slots I lv (.long (zJ b) :: .long (zJ a) :: st) pc := by
  obtain ⟨p, l, e, R, s, m, args, below, meth, c, Q, A, n, D, cs⟩ := G
  intro hc hs H locs ls hP hD hS hl
  have h := k hc hs H locs ls hP hD hS hl
  rw [← zJ_mul] at h
  exact lv_lmul hG.1 hG.2.1 hd h
theorem z_iconst (n : Int) (hG : zOK G own cc nL) (hd : decode cc pc = .ok (.iconst n, 1)) (k : zW G F cells slots I lv (.int (zI n) :: st) (pc + 1)) : zW G F cells slots I lv st pc := by
  obtain ⟨p, l, e, R, s, m, args, below, meth, c, Q, A, nn, D, cs⟩ := G
  intro hc hs H locs ls hP hD hS hl
  exact lv_iconst hG.1 hG.2.1 hd rfl (k hc hs H locs ls hP hD hS hl)
theorem z_bipush (n : Int) (hG : zOK G own cc nL) (hd : decode cc pc = .ok (.bipush n, 2)) (hv : (Int8.ofInt n).toInt32 = zI n) (k : zW G F cells slots I lv (.int (zI n) :: st) (pc + 2)) : zW G F cells slots I lv st pc := by
  obtain ⟨p, l, e, R, s, m, args, below, meth, c, Q, A, nn, D, cs⟩ := G
  intro hc hs H locs ls hP hD hS hl
  exact lv_bipush hG.1 hG.2.1 hd hv (k hc hs H locs ls hP hD hS hl)
theorem z_sipush (n : Int) (hG : zOK G own cc nL) (hd : decode cc pc = .ok (.sipush n, 3)) (hv : (Int16.ofInt n).toInt32 = zI n) (k : zW G F cells slots I lv (.int (zI n) :: st) (pc + 3)) : zW G F cells slots I lv st pc := by
  obtain ⟨p, l, e, R, s, m, args, below, meth, c, Q, A, nn, D, cs⟩ := G
  intro hc hs H locs ls hP hD hS hl
  exact lv_sipush hG.1 hG.2.1 hd hv (k hc hs H locs ls hP hD hS hl)
theorem z_lconst {f : Fin 2} (n : Int) (hG : zOK G own cc nL) (hd : decode cc pc = .ok (.lconst f, 1)) (hv : Int64.ofNat (f : Nat) = zJ n) (k : zW G F cells slots I lv (.long (zJ n) :: st) (pc + 1)) : zW G F cells slots I lv st pc := by
  obtain ⟨p, l, e, R, s, m, args, below, meth, c, Q, A, nn, D, cs⟩ := G
  intro hc hs H locs ls hP hD hS hl
  exact lv_lconst hG.1 hG.2.1 hd hv (k hc hs H locs ls hP hD hS hl)
theorem z_iload_n {i : Nat} {f : Fin 4} {x : Int32} (j : Nat) (hG : zOK G own cc nL) (hd : decode cc pc = .ok (.iload_n f, 1)) (hi : (f : Nat) = i) (hk : lv[j]? = some (i, .int x)) (k : zW G F cells slots I lv (.int x :: st) (pc + 1)) : zW G F cells slots I lv st pc := by
  obtain ⟨p, l, e, R, s, m, args, below, meth, c, Q, A, nn, D, cs⟩ := G
  intro hc hs H locs ls hP hD hS hl
  exact lv_iload_n hG.1 hG.2.1 hd hi (lv_at hl j hk) (k hc hs H locs ls hP hD hS hl)
theorem z_iload {i : Nat} {x : Int32} (j : Nat) (hG : zOK G own cc nL) (hd : decode cc pc = .ok (.iload i, 2)) (hk : lv[j]? = some (i, .int x)) (k : zW G F cells slots I lv (.int x :: st) (pc + 2)) : zW G F cells slots I lv st pc := by
  obtain ⟨p, l, e, R, s, m, args, below, meth, c, Q, A, nn, D, cs⟩ := G
  intro hc hs H locs ls hP hD hS hl
  exact lv_iload hG.1 hG.2.1 hd (lv_at hl j hk) (k hc hs H locs ls hP hD hS hl)
theorem z_lload_n {i : Nat} {f : Fin 4} {x : Int64} (j : Nat) (hG : zOK G own cc nL) (hd : decode cc pc = .ok (.lload_n f, 1)) (hi : (f : Nat) = i) (hk : lv[j]? = some (i, .long x)) (k : zW G F cells slots I lv (.long x :: st) (pc + 1)) : zW G F cells slots I lv st pc := by
  obtain ⟨p, l, e, R, s, m, args, below, meth, c, Q, A, nn, D, cs⟩ := G
  intro hc hs H locs ls hP hD hS hl
  exact lv_lload_n hG.1 hG.2.1 hd hi (lv_at hl j hk) (k hc hs H locs ls hP hD hS hl)
theorem z_aload_n {i x : Nat} {f : Fin 4} (j : Nat) (hG : zOK G own cc nL) (hd : decode cc pc = .ok (.aload_n f, 1)) (hi : (f : Nat) = i) (hk : lv[j]? = some (i, .ref x)) (k : zW G F cells slots I lv (.ref x :: st) (pc + 1)) : zW G F cells slots I lv st pc := by
  obtain ⟨p, l, e, R, s, m, args, below, meth, c, Q, A, nn, D, cs⟩ := G
  intro hc hs H locs ls hP hD hS hl
  exact lv_aload_n hG.1 hG.2.1 hd hi (lv_at hl j hk) (k hc hs H locs ls hP hD hS hl)
theorem z_aload {i x : Nat} (j : Nat) (hG : zOK G own cc nL) (hd : decode cc pc = .ok (.aload i, 2)) (hk : lv[j]? = some (i, .ref x)) (k : zW G F cells slots I lv (.ref x :: st) (pc + 2)) : zW G F cells slots I lv st pc := by
  obtain ⟨p, l, e, R, s, m, args, below, meth, c, Q, A, nn, D, cs⟩ := G
  intro hc hs H locs ls hP hD hS hl
  exact lv_aload hG.1 hG.2.1 hd (lv_at hl j hk) (k hc hs H locs ls hP hD hS hl)
theorem z_istore_n {i : Nat} {f : Fin 4} {x : Int32} (hG : zOK G own cc nL) (hd : decode cc pc = .ok (.istore_n f, 1)) (hi : (f : Nat) = i) (hn : i < nL) (hl' : (i, Value.int x) :: lv.filter (fun q => !(q.1 == i) && !(q.1 + 1 == i && q.2.category == 2)) = lv') (k : zW G F cells slots I lv' st (pc + 1)) : zW G F cells slots I lv (.int x :: st) pc := by
  obtain ⟨p, l, e, R, s, m, args, below, meth, c, Q, A, nn, D, cs⟩ := G
  intro hc hs H locs ls hP hD hS hl
  have hn2 : i < nn := by have := hG.2.2.2.2.1; omega
  exact lv_istore_n hG.1 hG.2.1 hd hi hl hn2 hl' (fun ls2 hl2 => k hc hs H locs ls2 hP hD hS hl2)
theorem z_istore {i : Nat} {x : Int32} (hG : zOK G own cc nL) (hd : decode cc pc = .ok (.istore i, 2)) (hn : i < nL) (hl' : (i, Value.int x) :: lv.filter (fun q => !(q.1 == i) && !(q.1 + 1 == i && q.2.category == 2)) = lv') (k : zW G F cells slots I lv' st (pc + 2)) : zW G F cells slots I lv (.int x :: st) pc := by
  obtain ⟨p, l, e, R, s, m, args, below, meth, c, Q, A, nn, D, cs⟩ := G
  intro hc hs H locs ls hP hD hS hl
  have hn2 : i < nn := by have := hG.2.2.2.2.1; omega
  exact lv_istore hG.1 hG.2.1 hd hl hn2 hl' (fun ls2 hl2 => k hc hs H locs ls2 hP hD hS hl2)
theorem z_lstore_n {i : Nat} {f : Fin 4} {x : Int64} (hG : zOK G own cc nL) (hd : decode cc pc = .ok (.lstore_n f, 1)) (hi : (f : Nat) = i) (hn : i + 1 < nL) (hl' : (i, Value.long x) :: lv.filter (fun q => !(q.1 == i) && (!(q.1 == i + 1) && !(q.1 + 1 == i && q.2.category == 2))) = lv') (k : zW G F cells slots I lv' st (pc + 1)) : zW G F cells slots I lv (.long x :: st) pc := by
  obtain ⟨p, l, e, R, s, m, args, below, meth, c, Q, A, nn, D, cs⟩ := G
  intro hc hs H locs ls hP hD hS hl
  have hn2 : i + 1 < nn := by have := hG.2.2.2.2.1; omega
  exact lv_lstore_n hG.1 hG.2.1 hd hi hl hn2 hl' (fun ls2 hl2 => k hc hs H locs ls2 hP hD hS hl2)
theorem z_astore_n {i : Nat} {f : Fin 4} {x : Nat} (hG : zOK G own cc nL) (hd : decode cc pc = .ok (.astore_n f, 1)) (hi : (f : Nat) = i) (hn : i < nL) (hl' : (i, Value.ref x) :: lv.filter (fun q => !(q.1 == i) && !(q.1 + 1 == i && q.2.category == 2)) = lv') (k : zW G F cells slots I lv' st (pc + 1)) : zW G F cells slots I lv (.ref x :: st) pc := by
  obtain ⟨p, l, e, R, s, m, args, below, meth, c, Q, A, nn, D, cs⟩ := G
  intro hc hs H locs ls hP hD hS hl
  have hn2 : i < nn := by have := hG.2.2.2.2.1; omega
  exact lv_astore_n hG.1 hG.2.1 hd hi hl hn2 hl' (fun ls2 hl2 => k hc hs H locs ls2 hP hD hS hl2)
theorem z_astore {i : Nat} {x : Nat} (hG : zOK G own cc nL) (hd : decode cc pc = .ok (.astore i, 2)) (hn : i < nL) (hl' : (i, Value.ref x) :: lv.filter (fun q => !(q.1 == i) && !(q.1 + 1 == i && q.2.category == 2)) = lv') (k : zW G F cells slots I lv' st (pc + 2)) : zW G F cells slots I lv (.ref x :: st) pc := by
  obtain ⟨p, l, e, R, s, m, args, below, meth, c, Q, A, nn, D, cs⟩ := G
  intro hc hs H locs ls hP hD hS hl
  have hn2 : i < nn := by have := hG.2.2.2.2.1; omega
  exact lv_astore hG.1 hG.2.1 hd hl hn2 hl' (fun ls2 hl2 => k hc hs H locs ls2 hP hD hS hl2)
theorem z_iinc {i : Nat} {a n : Int} (j : Nat) (hG : zOK G own cc nL) (hd : decode cc pc = .ok (.iinc i n, 3)) (hk : lv[j]? = some (i, .int (zI a))) (hn : i < nL) (hl' : (i, Value.int (zI (a + n))) :: lv.filter (fun q => !(q.1 == i) && !(q.1 + 1 == i && q.2.category == 2)) = lv') (k : zW G F cells slots I lv' st (pc + 3)) : zW G F cells slots I lv st pc := by
  obtain ⟨p, l, e, R, s, m, args, below, meth, c, Q, A, nn, D, cs⟩ := G
  intro hc hs H locs ls hP hD hS hl
  have hn2 : i < nn := by have := hG.2.2.2.2.1; omega
  exact lv_iinc hG.1 hG.2.1 hd hl hk (zI_add a n) hn2 hl' (fun ls2 hl2 => k hc hs H locs ls2 hP hD hS hl2)
theorem z_dup {v : Value} (hG : zOK G own cc nL) (hd : decode cc pc = .ok (.dup, 1)) (hv : v.category = 1) (k : zW G F cells slots I lv (v :: v :: st) (pc + 1)) : zW G F cells slots I lv (v :: st) pc := by
  obtain ⟨p, l, e, R, s, m, args, below, meth, c, Q, A, nn, D, cs⟩ := G
  intro hc hs H locs ls hP hD hS hl
  exact lv_dup hG.1 hG.2.1 hd hv (k hc hs H locs ls hP hD hS hl)
theorem z_dup2 {v w : Value} (hG : zOK G own cc nL) (hd : decode cc pc = .ok (.dup2, 1)) (hv : v.category = 1) (hw : w.category = 1) (k : zW G F cells slots I lv (v :: w :: v :: w :: st) (pc + 1)) : zW G F cells slots I lv (v :: w :: st) pc := by
  obtain ⟨p, l, e, R, s, m, args, below, meth, c, Q, A, nn, D, cs⟩ := G
  intro hc hs H locs ls hP hD hS hl
  exact lv_dup2_11 hG.1 hG.2.1 hd hv hw (k hc hs H locs ls hP hD hS hl)
theorem z_pop {v : Value} (hG : zOK G own cc nL) (hd : decode cc pc = .ok (.pop, 1)) (hv : v.category = 1) (k : zW G F cells slots I lv st (pc + 1)) : zW G F cells slots I lv (v :: st) pc := by
  obtain ⟨p, l, e, R, s, m, args, below, meth, c, Q, A, nn, D, cs⟩ := G
  intro hc hs H locs ls hP hD hS hl
  exact lv_pop hG.1 hG.2.1 hd hv (k hc hs H locs ls hP hD hS hl)
theorem z_goto {off : Int} {tgt : Nat} (hG : zOK G own cc nL) (hd : decode cc pc = .ok (.goto off, 3)) (ht : (pc : Int) + off = (tgt : Int)) (k : zW G F cells slots I lv st tgt) : zW G F cells slots I lv st pc := by
  obtain ⟨p, l, e, R, s, m, args, below, meth, c, Q, A, nn, D, cs⟩ := G
  intro hc hs H locs ls hP hD hS hl
  exact lv_goto hG.1 hG.2.1 hd ht (k hc hs H locs ls hP hD hS hl)
theorem z_i2l {a : Int} (hG : zOK G own cc nL) (hd : decode cc pc = .ok (.i2l, 1)) (ha : -2147483648 ≤ a ∧ a < 2147483648) (k : zW G F cells slots I lv (.long (zJ a) :: st) (pc + 1)) : zW G F cells slots I lv (.int (zI a) :: st) pc := by
  obtain ⟨p, l, e, R, s, m, args, below, meth, c, Q, A, nn, D, cs⟩ := G
  intro hc hs H locs ls hP hD hS hl
  exact lv_i2l hG.1 hG.2.1 hd (zI_wide ha) (k hc hs H locs ls hP hD hS hl)
theorem z_icmp_eq {a b : Int} {off : Int} {tgt : Nat} (hG : zOK G own cc nL) (hd : decode cc pc = .ok (.if_icmp .eq off, 3)) (ht : (pc : Int) + off = (tgt : Int)) (ha : -2147483648 ≤ a ∧ a < 2147483648) (hb : -2147483648 ≤ b ∧ b < 2147483648) (kt : a = b → zW G F cells slots I lv st tgt) (kf : a ≠ b → zW G F cells slots I lv st (pc + 3)) : zW G F cells slots I lv (.int (zI b) :: .int (zI a) :: st) pc := by
  obtain ⟨p, l, e, R, s, m, args, below, meth, c, Q, A, nn, D, cs⟩ := G
  intro hc hs H locs ls hP hD hS hl
  exact lv_icmp_eq hG.1 hG.2.1 hd ht (fun h => kt ((zI_eq ha hb).mp h) hc hs H locs ls hP hD hS hl) (fun h => kf (fun q => h ((zI_eq ha hb).mpr q)) hc hs H locs ls hP hD hS hl)
theorem z_if_eq {a : Int} {off : Int} {tgt : Nat} (hG : zOK G own cc nL) (hd : decode cc pc = .ok (.ifCond .eq off, 3)) (ht : (pc : Int) + off = (tgt : Int)) (ha : -2147483648 ≤ a ∧ a < 2147483648) (kt : a = 0 → zW G F cells slots I lv st tgt) (kf : a ≠ 0 → zW G F cells slots I lv st (pc + 3)) : zW G F cells slots I lv (.int (zI a) :: st) pc := by
  obtain ⟨p, l, e, R, s, m, args, below, meth, c, Q, A, nn, D, cs⟩ := G
  intro hc hs H locs ls hP hD hS hl
  have hb : -2147483648 ≤ (0 : Int) ∧ (0 : Int) < 2147483648 := by omega
  exact lv_if_eq hG.1 hG.2.1 hd ht (fun h => kt ((zI_eq ha hb).mp h) hc hs H locs ls hP hD hS hl) (fun h => kf (fun q => h ((zI_eq ha hb).mpr q)) hc hs H locs ls hP hD hS hl)
theorem z_icmp_ne {a b : Int} {off : Int} {tgt : Nat} (hG : zOK G own cc nL) (hd : decode cc pc = .ok (.if_icmp .ne off, 3)) (ht : (pc : Int) + off = (tgt : Int)) (ha : -2147483648 ≤ a ∧ a < 2147483648) (hb : -2147483648 ≤ b ∧ b < 2147483648) (kt : a ≠ b → zW G F cells slots I lv st tgt) (kf : a = b → zW G F cells slots I lv st (pc + 3)) : zW G F cells slots I lv (.int (zI b) :: .int (zI a) :: st) pc := by
  obtain ⟨p, l, e, R, s, m, args, below, meth, c, Q, A, nn, D, cs⟩ := G
  intro hc hs H locs ls hP hD hS hl
  exact lv_icmp_ne hG.1 hG.2.1 hd ht (fun h => kt (fun q => h ((zI_eq ha hb).mpr q)) hc hs H locs ls hP hD hS hl) (fun h => kf ((zI_eq ha hb).mp h) hc hs H locs ls hP hD hS hl)
theorem z_if_ne {a : Int} {off : Int} {tgt : Nat} (hG : zOK G own cc nL) (hd : decode cc pc = .ok (.ifCond .ne off, 3)) (ht : (pc : Int) + off = (tgt : Int)) (ha : -2147483648 ≤ a ∧ a < 2147483648) (kt : a ≠ 0 → zW G F cells slots I lv st tgt) (kf : a = 0 → zW G F cells slots I lv st (pc + 3)) : zW G F cells slots I lv (.int (zI a) :: st) pc := by
  obtain ⟨p, l, e, R, s, m, args, below, meth, c, Q, A, nn, D, cs⟩ := G
  intro hc hs H locs ls hP hD hS hl
  have hb : -2147483648 ≤ (0 : Int) ∧ (0 : Int) < 2147483648 := by omega
  exact lv_if_ne hG.1 hG.2.1 hd ht (fun h => kt (fun q => h ((zI_eq ha hb).mpr q)) hc hs H locs ls hP hD hS hl) (fun h => kf ((zI_eq ha hb).mp h) hc hs H locs ls hP hD hS hl)
theorem z_icmp_lt {a b : Int} {off : Int} {tgt : Nat} (hG : zOK G own cc nL) (hd : decode cc pc = .ok (.if_icmp .lt off, 3)) (ht : (pc : Int) + off = (tgt : Int)) (ha : -2147483648 ≤ a ∧ a < 2147483648) (hb : -2147483648 ≤ b ∧ b < 2147483648) (kt : a < b → zW G F cells slots I lv st tgt) (kf : b ≤ a → zW G F cells slots I lv st (pc + 3)) : zW G F cells slots I lv (.int (zI b) :: .int (zI a) :: st) pc := by
  obtain ⟨p, l, e, R, s, m, args, below, meth, c, Q, A, nn, D, cs⟩ := G
  intro hc hs H locs ls hP hD hS hl
  exact lv_icmp_lt hG.1 hG.2.1 hd ht (fun h => kt ((zI_lt ha hb).mp h) hc hs H locs ls hP hD hS hl) (fun h => kf (by have h2 := mt (zI_lt ha hb).mpr h; omega) hc hs H locs ls hP hD hS hl)
theorem z_if_lt {a : Int} {off : Int} {tgt : Nat} (hG : zOK G own cc nL) (hd : decode cc pc = .ok (.ifCond .lt off, 3)) (ht : (pc : Int) + off = (tgt : Int)) (ha : -2147483648 ≤ a ∧ a < 2147483648) (kt : a < 0 → zW G F cells slots I lv st tgt) (kf : 0 ≤ a → zW G F cells slots I lv st (pc + 3)) : zW G F cells slots I lv (.int (zI a) :: st) pc := by
  obtain ⟨p, l, e, R, s, m, args, below, meth, c, Q, A, nn, D, cs⟩ := G
  intro hc hs H locs ls hP hD hS hl
  have hb : -2147483648 ≤ (0 : Int) ∧ (0 : Int) < 2147483648 := by omega
  exact lv_if_lt hG.1 hG.2.1 hd ht (fun h => kt ((zI_lt ha hb).mp h) hc hs H locs ls hP hD hS hl) (fun h => kf (by have h2 := mt (zI_lt ha hb).mpr h; omega) hc hs H locs ls hP hD hS hl)
theorem z_icmp_ge {a b : Int} {off : Int} {tgt : Nat} (hG : zOK G own cc nL) (hd : decode cc pc = .ok (.if_icmp .ge off, 3)) (ht : (pc : Int) + off = (tgt : Int)) (ha : -2147483648 ≤ a ∧ a < 2147483648) (hb : -2147483648 ≤ b ∧ b < 2147483648) (kt : b ≤ a → zW G F cells slots I lv st tgt) (kf : a < b → zW G F cells slots I lv st (pc + 3)) : zW G F cells slots I lv (.int (zI b) :: .int (zI a) :: st) pc := by
  obtain ⟨p, l, e, R, s, m, args, below, meth, c, Q, A, nn, D, cs⟩ := G
  intro hc hs H locs ls hP hD hS hl
  exact lv_icmp_ge hG.1 hG.2.1 hd ht (fun h => kt ((zI_le hb ha).mp h) hc hs H locs ls hP hD hS hl) (fun h => kf (by have h2 := mt (zI_le hb ha).mpr h; omega) hc hs H locs ls hP hD hS hl)
theorem z_if_ge {a : Int} {off : Int} {tgt : Nat} (hG : zOK G own cc nL) (hd : decode cc pc = .ok (.ifCond .ge off, 3)) (ht : (pc : Int) + off = (tgt : Int)) (ha : -2147483648 ≤ a ∧ a < 2147483648) (kt : 0 ≤ a → zW G F cells slots I lv st tgt) (kf : a < 0 → zW G F cells slots I lv st (pc + 3)) : zW G F cells slots I lv (.int (zI a) :: st) pc := by
  obtain ⟨p, l, e, R, s, m, args, below, meth, c, Q, A, nn, D, cs⟩ := G
  intro hc hs H locs ls hP hD hS hl
  have hb : -2147483648 ≤ (0 : Int) ∧ (0 : Int) < 2147483648 := by omega
  exact lv_if_ge hG.1 hG.2.1 hd ht (fun h => kt ((zI_le hb ha).mp h) hc hs H locs ls hP hD hS hl) (fun h => kf (by have h2 := mt (zI_le hb ha).mpr h; omega) hc hs H locs ls hP hD hS hl)
theorem z_icmp_gt {a b : Int} {off : Int} {tgt : Nat} (hG : zOK G own cc nL) (hd : decode cc pc = .ok (.if_icmp .gt off, 3)) (ht : (pc : Int) + off = (tgt : Int)) (ha : -2147483648 ≤ a ∧ a < 2147483648) (hb : -2147483648 ≤ b ∧ b < 2147483648) (kt : b < a → zW G F cells slots I lv st tgt) (kf : a ≤ b → zW G F cells slots I lv st (pc + 3)) : zW G F cells slots I lv (.int (zI b) :: .int (zI a) :: st) pc := by
  obtain ⟨p, l, e, R, s, m, args, below, meth, c, Q, A, nn, D, cs⟩ := G
  intro hc hs H locs ls hP hD hS hl
  exact lv_icmp_gt hG.1 hG.2.1 hd ht (fun h => kt ((zI_lt hb ha).mp h) hc hs H locs ls hP hD hS hl) (fun h => kf (by have h2 := mt (zI_lt hb ha).mpr h; omega) hc hs H locs ls hP hD hS hl)
theorem z_if_gt {a : Int} {off : Int} {tgt : Nat} (hG : zOK G own cc nL) (hd : decode cc pc = .ok (.ifCond .gt off, 3)) (ht : (pc : Int) + off = (tgt : Int)) (ha : -2147483648 ≤ a ∧ a < 2147483648) (kt : 0 < a → zW G F cells slots I lv st tgt) (kf : a ≤ 0 → zW G F cells slots I lv st (pc + 3)) : zW G F cells slots I lv (.int (zI a) :: st) pc := by
  obtain ⟨p, l, e, R, s, m, args, below, meth, c, Q, A, nn, D, cs⟩ := G
  intro hc hs H locs ls hP hD hS hl
  have hb : -2147483648 ≤ (0 : Int) ∧ (0 : Int) < 2147483648 := by omega
  exact lv_if_gt hG.1 hG.2.1 hd ht (fun h => kt ((zI_lt hb ha).mp h) hc hs H locs ls hP hD hS hl) (fun h => kf (by have h2 := mt (zI_lt hb ha).mpr h; omega) hc hs H locs ls hP hD hS hl)
theorem z_icmp_le {a b : Int} {off : Int} {tgt : Nat} (hG : zOK G own cc nL) (hd : decode cc pc = .ok (.if_icmp .le off, 3)) (ht : (pc : Int) + off = (tgt : Int)) (ha : -2147483648 ≤ a ∧ a < 2147483648) (hb : -2147483648 ≤ b ∧ b < 2147483648) (kt : a ≤ b → zW G F cells slots I lv st tgt) (kf : b < a → zW G F cells slots I lv st (pc + 3)) : zW G F cells slots I lv (.int (zI b) :: .int (zI a) :: st) pc := by
  obtain ⟨p, l, e, R, s, m, args, below, meth, c, Q, A, nn, D, cs⟩ := G
  intro hc hs H locs ls hP hD hS hl
  exact lv_icmp_le hG.1 hG.2.1 hd ht (fun h => kt ((zI_le ha hb).mp h) hc hs H locs ls hP hD hS hl) (fun h => kf (by have h2 := mt (zI_le ha hb).mpr h; omega) hc hs H locs ls hP hD hS hl)
theorem z_if_le {a : Int} {off : Int} {tgt : Nat} (hG : zOK G own cc nL) (hd : decode cc pc = .ok (.ifCond .le off, 3)) (ht : (pc : Int) + off = (tgt : Int)) (ha : -2147483648 ≤ a ∧ a < 2147483648) (kt : a ≤ 0 → zW G F cells slots I lv st tgt) (kf : 0 < a → zW G F cells slots I lv st (pc + 3)) : zW G F cells slots I lv (.int (zI a) :: st) pc := by
  obtain ⟨p, l, e, R, s, m, args, below, meth, c, Q, A, nn, D, cs⟩ := G
  intro hc hs H locs ls hP hD hS hl
  have hb : -2147483648 ≤ (0 : Int) ∧ (0 : Int) < 2147483648 := by omega
  exact lv_if_le hG.1 hG.2.1 hd ht (fun h => kt ((zI_le ha hb).mp h) hc hs H locs ls hP hD hS hl) (fun h => kf (by have h2 := mt (zI_le ha hb).mpr h; omega) hc hs H locs ls hP hD hS hl)
end ZR
end
section
/-! rows that read and write the store -/
def zCl (ci : Nat) (C : String) (T : u_T) (N : Nat) (ty : Nat → FieldType) : Prop := vwCl[ci]? = some (C, T, N) ∧ (∀ w ∈ u_ws C T N, zWd w) ∧ (∀ k, k < N → parseFieldDescriptor (T k).2.2.1 = some (ty k)) ∧ (∀ a, a < N → ∀ b, b < N → a ≠ b → (T a).2.1 ≠ (T b).2.1)
theorem zPt {cs : Nat → ClassId} {F : zFr} {I : zStore} {k : Nat} {e : va_E} (h : k < F.2.1) (he : zE cs F I k = e) : (zws cs F I)[k]? = some (F.1 k, e) := by rw [zws_get h, he]
section ZH
variable {G : zCx} {F : zFr} {cells slots : Nat} {I : zStore} {lv lv' : zLv} {st : List Value} {pc : Nat} {own : String} {cc : ByteArray} {nL : Nat} {ci N index : Nat} {C : String} {T : u_T} {ty : Nat → FieldType} {fs : List (Option (Option Nat))}
theorem z_getI {ki : Int} (hG : zOK G own cc nL) (hcl : zCl ci C T N ty) {b : Nat} (hb : b < F.2.1) (hlay : F.2.2 b = .inl (ci, fs)) (k : Nat) (hk : k < N) (hki : (k : Int) = ki) (hf : fs[k]? = some none) (hlink : zWd (.fieldLink own index (T k).1 (T k).2.1 (T k).2.2.1)) (hd : decode cc pc = .ok (.getfield index, 3)) (kk : zW G F cells slots I lv (.int (zI (I b ki)) :: st) (pc + 3)) : zW G F cells slots I lv (.ref (F.1 b) :: st) pc := by
  obtain ⟨p, l, e, R, s, m, args, below, meth, c, Q, A, nn, D, cs⟩ := G
  intro hc hs H locs ls hP hD hS hl
  obtain ⟨g1, g2, g3, g4, g5, g6, g7, g8, g9, g10, g11⟩ := hG
  subst hki
  refine va_get (ref := (T k).1) (v := .int (zI (I b (k : Int)))) g1 g2 (Ts := u_ws C T N) (fun w hw => g7.at (hcl.2.1 w hw) _) (fun _ h => h) g3 g6 hP b (zPt hb (zE_obj hlay)) hcl.1 k hk (g7.at hlink _) (fun _ h => h) ?_ hd (kk hc hs H locs ls hP hD hS hl)
  have := zfv_int (ad := F.1) (row := I b) (fs := fs) (j := 0) (k := k) hf
  rwa [Nat.zero_add] at this
theorem z_getR {t : Nat} (hG : zOK G own cc nL) (hcl : zCl ci C T N ty) {b : Nat} (hb : b < F.2.1) (hlay : F.2.2 b = .inl (ci, fs)) (k : Nat) (hk : k < N) (hf : fs[k]? = some (some (some t))) (hlink : zWd (.fieldLink own index (T k).1 (T k).2.1 (T k).2.2.1)) (hd : decode cc pc = .ok (.getfield index, 3)) (kk : zW G F cells slots I lv (.ref (F.1 t) :: st) (pc + 3)) : zW G F cells slots I lv (.ref (F.1 b) :: st) pc := by
  obtain ⟨p, l, e, R, s, m, args, below, meth, c, Q, A, nn, D, cs⟩ := G
  intro hc hs H locs ls hP hD hS hl
  obtain ⟨g1, g2, g3, g4, g5, g6, g7, g8, g9, g10, g11⟩ := hG
  exact va_get (ref := (T k).1) (v := .ref (F.1 t)) g1 g2 (Ts := u_ws C T N) (fun w hw => g7.at (hcl.2.1 w hw) _) (fun _ h => h) g3 g6 hP b (zPt hb (zE_obj hlay)) hcl.1 k hk (g7.at hlink _) (fun _ h => h) (zfv_ref hf) hd (kk hc hs H locs ls hP hD hS hl)
theorem z_getIN {ki : Int} {host : String} (hG : zOK G own cc nL) (hcl : zCl ci C T N ty) {b : Nat} (hb : b < F.2.1) (hlay : F.2.2 b = .inl (ci, fs)) (k : Nat) (hk : k < N) (hki : (k : Int) = ki) (hf : fs[k]? = some none) (hlink : zWd (.fieldLinkNest own index (T k).1 (T k).2.1 (T k).2.2.1 host)) (hd : decode cc pc = .ok (.getfield index, 3)) (kk : zW G F cells slots I lv (.int (zI (I b ki)) :: st) (pc + 3)) : zW G F cells slots I lv (.ref (F.1 b) :: st) pc := by
  obtain ⟨p, l, e, R, s, m, args, below, meth, c, Q, A, nn, D, cs⟩ := G
  intro hc hs H locs ls hP hD hS hl
  obtain ⟨g1, g2, g3, g4, g5, g6, g7, g8, g9, g10, g11⟩ := hG
  subst hki
  refine va_getN (ref := (T k).1) (host := host) (v := .int (zI (I b (k : Int)))) g1 g2 (Ts := u_ws C T N) (fun w hw => g7.at (hcl.2.1 w hw) _) (fun _ h => h) g3 g6 hP b (zPt hb (zE_obj hlay)) hcl.1 k hk (g7.at hlink _) (fun _ h => h) ?_ hd (kk hc hs H locs ls hP hD hS hl)
  have := zfv_int (ad := F.1) (row := I b) (fs := fs) (j := 0) (k := k) hf
  rwa [Nat.zero_add] at this
theorem z_getRN {t : Nat} {host : String} (hG : zOK G own cc nL) (hcl : zCl ci C T N ty) {b : Nat} (hb : b < F.2.1) (hlay : F.2.2 b = .inl (ci, fs)) (k : Nat) (hk : k < N) (hf : fs[k]? = some (some (some t))) (hlink : zWd (.fieldLinkNest own index (T k).1 (T k).2.1 (T k).2.2.1 host)) (hd : decode cc pc = .ok (.getfield index, 3)) (kk : zW G F cells slots I lv (.ref (F.1 t) :: st) (pc + 3)) : zW G F cells slots I lv (.ref (F.1 b) :: st) pc := by
  obtain ⟨p, l, e, R, s, m, args, below, meth, c, Q, A, nn, D, cs⟩ := G
  intro hc hs H locs ls hP hD hS hl
  obtain ⟨g1, g2, g3, g4, g5, g6, g7, g8, g9, g10, g11⟩ := hG
  exact va_getN (ref := (T k).1) (host := host) (v := .ref (F.1 t)) g1 g2 (Ts := u_ws C T N) (fun w hw => g7.at (hcl.2.1 w hw) _) (fun _ h => h) g3 g6 hP b (zPt hb (zE_obj hlay)) hcl.1 k hk (g7.at hlink _) (fun _ h => h) (zfv_ref hf) hd (kk hc hs H locs ls hP hD hS hl)
theorem zObj_up {cs : Nat → ClassId} {b k : Nat} {ki v : Int} (hb : b < F.2.1) (hlay : F.2.2 b = .inl (ci, fs)) (hki : (k : Int) = ki) (hf : fs[k]? = some none) : (zws cs F I).set b (F.1 b, .inr (ci, (zfv F.1 (I b) 0 fs).set k (.int (zI v)))) = zws cs F (zup I b ki v) := by
  refine zws_up hb ?_
  rw [zE_obj hlay, zfv_put (row := I b) (row' := zup I b ki v b) (v := v) hf]
  · rw [Nat.zero_add, hki]; exact zup_at _ _ _ _
  · intro i hi
    refine zup_i ?_
    rw [← hki]; omega
theorem z_putI {ki v : Int} (hG : zOK G own cc nL) (hcl : zCl ci C T N ty) {b : Nat} (hb : b < F.2.1) (hlay : F.2.2 b = .inl (ci, fs)) (k : Nat) (hk : k < N) (hki : (k : Int) = ki) (hf : fs[k]? = some none) (hlink : zWd (.fieldLink own index (T k).1 (T k).2.1 (T k).2.2.1)) (hfin : (T k).2.2.2 = false) (hty : ty k = .int) (hd : decode cc pc = .ok (.putfield index, 3)) (kk : zW G F cells slots (zup I b ki v) lv st (pc + 3)) : zW G F cells slots I lv (.int (zI v) :: .ref (F.1 b) :: st) pc := by
  obtain ⟨p, l, e, R, s, m, args, below, meth, c, Q, A, nn, D, cs⟩ := G
  intro hc hs H locs ls hP hD hS hl
  obtain ⟨g1, g2, g3, g4, g5, g6, g7, g8, g9, g10, g11⟩ := hG
  refine va_put (ref := (T k).1) g1 g2 (Ts := u_ws C T N) (fun w hw => g7.at (hcl.2.1 w hw) _) (fun _ h => h) ty hcl.2.2.1 hcl.2.2.2 g3 g6 hP hD hS b (zPt hb (zE_obj hlay)) hcl.1 k hk (g7.at hlink _) (fun _ h => h) hfin (by rw [hcl.2.2.1 k hk, hty]) rfl rfl (by rw [zfv_len]; exact (List.getElem?_eq_some_iff.mp hf).1) hd (fun H1 locs1 hP1 hD1 hS1 => ?_)
  rw [zObj_up hb hlay hki hf] at hP1 hD1
  exact kk hc hs H1 locs1 ls hP1 hD1 hS1 hl
theorem z_putZ {ki v : Int} (hG : zOK G own cc nL) (hcl : zCl ci C T N ty) {b : Nat} (hb : b < F.2.1) (hlay : F.2.2 b = .inl (ci, fs)) (k : Nat) (hk : k < N) (hki : (k : Int) = ki) (hf : fs[k]? = some none) (hlink : zWd (.fieldLink own index (T k).1 (T k).2.1 (T k).2.2.1)) (hfin : (T k).2.2.2 = false) (hty : ty k = .boolean) (hv : v = 0 ∨ v = 1) (hd : decode cc pc = .ok (.putfield index, 3)) (kk : zW G F cells slots (zup I b ki v) lv st (pc + 3)) : zW G F cells slots I lv (.int (zI v) :: .ref (F.1 b) :: st) pc := by
  obtain ⟨p, l, e, R, s, m, args, below, meth, c, Q, A, nn, D, cs⟩ := G
  intro hc hs H locs ls hP hD hS hl
  obtain ⟨g1, g2, g3, g4, g5, g6, g7, g8, g9, g10, g11⟩ := hG
  refine va_put (ref := (T k).1) g1 g2 (Ts := u_ws C T N) (fun w hw => g7.at (hcl.2.1 w hw) _) (fun _ h => h) ty hcl.2.2.1 hcl.2.2.2 g3 g6 hP hD hS b (zPt hb (zE_obj hlay)) hcl.1 k hk (g7.at hlink _) (fun _ h => h) hfin (by rw [hcl.2.2.1 k hk, hty]) (by rcases hv with rfl | rfl <;> rfl) (by rcases hv with rfl | rfl <;> rfl) (by rw [zfv_len]; exact (List.getElem?_eq_some_iff.mp hf).1) hd (fun H1 locs1 hP1 hD1 hS1 => ?_)
  rw [zObj_up hb hlay hki hf] at hP1 hD1
  exact kk hc hs H1 locs1 ls hP1 hD1 hS1 hl
theorem z_putIN {ki v : Int} {host : String} (hG : zOK G own cc nL) (hcl : zCl ci C T N ty) {b : Nat} (hb : b < F.2.1) (hlay : F.2.2 b = .inl (ci, fs)) (k : Nat) (hk : k < N) (hki : (k : Int) = ki) (hf : fs[k]? = some none) (hlink : zWd (.fieldLinkNest own index (T k).1 (T k).2.1 (T k).2.2.1 host)) (hfin : (T k).2.2.2 = false) (hty : ty k = .int) (hd : decode cc pc = .ok (.putfield index, 3)) (kk : zW G F cells slots (zup I b ki v) lv st (pc + 3)) : zW G F cells slots I lv (.int (zI v) :: .ref (F.1 b) :: st) pc := by
  obtain ⟨p, l, e, R, s, m, args, below, meth, c, Q, A, nn, D, cs⟩ := G
  intro hc hs H locs ls hP hD hS hl
  obtain ⟨g1, g2, g3, g4, g5, g6, g7, g8, g9, g10, g11⟩ := hG
  refine va_putN (ref := (T k).1) (host := host) g1 g2 (Ts := u_ws C T N) (fun w hw => g7.at (hcl.2.1 w hw) _) (fun _ h => h) ty hcl.2.2.1 hcl.2.2.2 g3 g6 hP hD hS b (zPt hb (zE_obj hlay)) hcl.1 k hk (g7.at hlink _) (fun _ h => h) hfin (by rw [hcl.2.2.1 k hk, hty]) rfl rfl (by rw [zfv_len]; exact (List.getElem?_eq_some_iff.mp hf).1) hd (fun H1 locs1 hP1 hD1 hS1 => ?_)
  rw [zObj_up hb hlay hki hf] at hP1 hD1
  exact kk hc hs H1 locs1 ls hP1 hD1 hS1 hl
/-! arrays -/
theorem zar_i {t : Nat} (h : t ≠ 3) (row : Int → Int) : zar t row = .inl (fun j => zI (row (j : Int))) := by unfold zar; rw [if_neg h]
theorem zar_j (row : Int → Int) : zar 3 row = .inr (.inl (fun j => zJ (row (j : Int)))) := by unfold zar; rw [if_pos rfl]
theorem zArr_up {cs : Nat → ClassId} {b t n : Nat} {i v : Int} {x : Int32} (ht : t ≠ 3) (hb : b < F.2.1) (hlay : F.2.2 b = .inr (.inl (t, n))) (h0 : 0 ≤ i) (h1 : i < 2147483648) (hx : x = zI v) : (zws cs F I).set b (F.1 b, .inl (cs t, n, .inl (upd (fun j => zI (I b (j : Int))) (zI i).toNatClampNeg x))) = zws cs F (zup I b i v) := by
  refine zws_up hb ?_
  rw [zE_arr hlay, zar_i ht]
  congr 4
  funext j
  have hc := zI_clamp h0 h1
  by_cases hj : j = (zI i).toNatClampNeg
  · subst hj
    simp only [upd, if_pos]
    rw [hc, zup_at, hx]
  · simp only [upd, if_neg hj]
    rw [zup_i]
    omega
theorem z_iald {i : Int} {n : Nat} (hG : zOK G own cc nL) {b : Nat} (hb : b < F.2.1) (hlay : F.2.2 b = .inr (.inl (0, n))) (hn : n ≤ 2147483647) (hi : 0 ≤ i ∧ i < (n : Int)) (hd : decode cc pc = .ok (.iaload, 1)) (kk : zW G F cells slots I lv (.int (zI (I b i)) :: st) (pc + 1)) : zW G F cells slots I lv (.int (zI i) :: .ref (F.1 b) :: st) pc := by
  obtain ⟨p, l, e, R, s, m, args, below, meth, c, Q, A, nn, D, cs⟩ := G
  intro hc hs H locs ls hP hD hS hl
  obtain ⟨g1, g2, g3, g4, g5, g6, g7, g8, g9, g10, g11⟩ := hG
  have hw := kk hc hs H locs ls hP hD hS hl
  have he : zE cs F I b = .inl (cs 0, n, .inl (fun j => zI (I b (j : Int)))) := by rw [zE_arr hlay, zar_i (by decide)]
  refine va_iald g1 g2 g6 hP b 0 (zPt hb he) rfl (zI_in hi.1 hi.2 hn) hd ?_
  rw [zI_clamp hi.1 (by omega)]
  exact hw
theorem z_bald {i : Int} {n : Nat} (hG : zOK G own cc nL) {b : Nat} (hb : b < F.2.1) (hlay : F.2.2 b = .inr (.inl (1, n))) (hn : n ≤ 2147483647) (hi : 0 ≤ i ∧ i < (n : Int)) (hd : decode cc pc = .ok (.baload, 1)) (kk : zW G F cells slots I lv (.int (zI (I b i)) :: st) (pc + 1)) : zW G F cells slots I lv (.int (zI i) :: .ref (F.1 b) :: st) pc := by
  obtain ⟨p, l, e, R, s, m, args, below, meth, c, Q, A, nn, D, cs⟩ := G
  intro hc hs H locs ls hP hD hS hl
  obtain ⟨g1, g2, g3, g4, g5, g6, g7, g8, g9, g10, g11⟩ := hG
  have hw := kk hc hs H locs ls hP hD hS hl
  have he : zE cs F I b = .inl (cs 1, n, .inl (fun j => zI (I b (j : Int)))) := by rw [zE_arr hlay, zar_i (by decide)]
  refine va_bald g1 g2 g6 hP b 1 (zPt hb he) rfl (zI_in hi.1 hi.2 hn) hd ?_
  rw [zI_clamp hi.1 (by omega)]
  exact hw
theorem z_zald {i : Int} {n : Nat} (hG : zOK G own cc nL) {b : Nat} (hb : b < F.2.1) (hlay : F.2.2 b = .inr (.inl (2, n))) (hn : n ≤ 2147483647) (hi : 0 ≤ i ∧ i < (n : Int)) (hd : decode cc pc = .ok (.baload, 1)) (kk : zW G F cells slots I lv (.int (zI (I b i)) :: st) (pc + 1)) : zW G F cells slots I lv (.int (zI i) :: .ref (F.1 b) :: st) pc := by
  obtain ⟨p, l, e, R, s, m, args, below, meth, c, Q, A, nn, D, cs⟩ := G
  intro hc hs H locs ls hP hD hS hl
  obtain ⟨g1, g2, g3, g4, g5, g6, g7, g8, g9, g10, g11⟩ := hG
  have hw := kk hc hs H locs ls hP hD hS hl
  have he : zE cs F I b = .inl (cs 2, n, .inl (fun j => zI (I b (j : Int)))) := by rw [zE_arr hlay, zar_i (by decide)]
  refine va_zald g1 g2 g6 hP b 2 (zPt hb he) rfl (zI_in hi.1 hi.2 hn) hd ?_
  rw [zI_clamp hi.1 (by omega)]
  exact hw
theorem z_lald {i : Int} {n : Nat} (hG : zOK G own cc nL) {b : Nat} (hb : b < F.2.1) (hlay : F.2.2 b = .inr (.inl (3, n))) (hn : n ≤ 2147483647) (hi : 0 ≤ i ∧ i < (n : Int)) (hd : decode cc pc = .ok (.laload, 1)) (kk : zW G F cells slots I lv (.long (zJ (I b i)) :: st) (pc + 1)) : zW G F cells slots I lv (.int (zI i) :: .ref (F.1 b) :: st) pc := by
  obtain ⟨p, l, e, R, s, m, args, below, meth, c, Q, A, nn, D, cs⟩ := G
  intro hc hs H locs ls hP hD hS hl
  obtain ⟨g1, g2, g3, g4, g5, g6, g7, g8, g9, g10, g11⟩ := hG
  have hw := kk hc hs H locs ls hP hD hS hl
  have he : zE cs F I b = .inl (cs 3, n, .inr (.inl (fun j => zJ (I b (j : Int))))) := by rw [zE_arr hlay, zar_j]
  refine va_lald g1 g2 g6 hP b 3 (zPt hb he) rfl (zI_in hi.1 hi.2 hn) hd ?_
  rw [zI_clamp hi.1 (by omega)]
  exact hw
theorem z_iast {i v : Int} {n : Nat} (hG : zOK G own cc nL) {b : Nat} (hb : b < F.2.1) (hlay : F.2.2 b = .inr (.inl (0, n))) (hn : n ≤ 2147483647) (hi : 0 ≤ i ∧ i < (n : Int)) (hd : decode cc pc = .ok (.iastore, 1)) (kk : zW G F cells slots (zup I b i v) lv st (pc + 1)) : zW G F cells slots I lv (.int (zI v) :: .int (zI i) :: .ref (F.1 b) :: st) pc := by
  obtain ⟨p, l, e, R, s, m, args, below, meth, c, Q, A, nn, D, cs⟩ := G
  intro hc hs H locs ls hP hD hS hl
  obtain ⟨g1, g2, g3, g4, g5, g6, g7, g8, g9, g10, g11⟩ := hG
  have he : zE cs F I b = .inl (cs 0, n, .inl (fun j => zI (I b (j : Int)))) := by rw [zE_arr hlay, zar_i (by decide)]
  refine va_iast g1 g2 g6 hP hD hS b 0 (zPt hb he) rfl (zI_in hi.1 hi.2 hn) hd (fun H1 locs1 hP1 hD1 hS1 => ?_)
  rw [zArr_up (by decide) hb hlay hi.1 (by omega) rfl] at hP1 hD1
  exact kk hc hs H1 locs1 ls hP1 hD1 hS1 hl
theorem z_bast {i v : Int} {n : Nat} (hG : zOK G own cc nL) {b : Nat} (hb : b < F.2.1) (hlay : F.2.2 b = .inr (.inl (1, n))) (hn : n ≤ 2147483647) (hi : 0 ≤ i ∧ i < (n : Int)) (hv : -128 ≤ v ∧ v < 128) (hd : decode cc pc = .ok (.bastore, 1)) (kk : zW G F cells slots (zup I b i v) lv st (pc + 1)) : zW G F cells slots I lv (.int (zI v) :: .int (zI i) :: .ref (F.1 b) :: st) pc := by
  obtain ⟨p, l, e, R, s, m, args, below, meth, c, Q, A, nn, D, cs⟩ := G
  intro hc hs H locs ls hP hD hS hl
  obtain ⟨g1, g2, g3, g4, g5, g6, g7, g8, g9, g10, g11⟩ := hG
  have he : zE cs F I b = .inl (cs 1, n, .inl (fun j => zI (I b (j : Int)))) := by rw [zE_arr hlay, zar_i (by decide)]
  refine va_bast g1 g2 g6 hP hD hS b 1 (zPt hb he) rfl (zI_in hi.1 hi.2 hn) hd (fun H1 locs1 hP1 hD1 hS1 => ?_)
  rw [zArr_up (by decide) hb hlay hi.1 (by omega) (by rw [vp_nar_byte]; exact zI_byte hv.1 hv.2)] at hP1 hD1
  exact kk hc hs H1 locs1 ls hP1 hD1 hS1 hl
theorem z_zast {i v : Int} {n : Nat} (hG : zOK G own cc nL) {b : Nat} (hb : b < F.2.1) (hlay : F.2.2 b = .inr (.inl (2, n))) (hn : n ≤ 2147483647) (hi : 0 ≤ i ∧ i < (n : Int)) (hv : v = 0 ∨ v = 1) (hd : decode cc pc = .ok (.bastore, 1)) (kk : zW G F cells slots (zup I b i v) lv st (pc + 1)) : zW G F cells slots I lv (.int (zI v) :: .int (zI i) :: .ref (F.1 b) :: st) pc := by
  obtain ⟨p, l, e, R, s, m, args, below, meth, c, Q, A, nn, D, cs⟩ := G
  intro hc hs H locs ls hP hD hS hl
  obtain ⟨g1, g2, g3, g4, g5, g6, g7, g8, g9, g10, g11⟩ := hG
  have he : zE cs F I b = .inl (cs 2, n, .inl (fun j => zI (I b (j : Int)))) := by rw [zE_arr hlay, zar_i (by decide)]
  refine va_zast g1 g2 g6 hP hD hS b 2 (zPt hb he) rfl (zI_in hi.1 hi.2 hn) hd (fun H1 locs1 hP1 hD1 hS1 => ?_)
  have hz : vp_nar .boolean (zI v) = zI v := by rcases hv with rfl | rfl <;> decide
  rw [zArr_up (by decide) hb hlay hi.1 (by omega) hz] at hP1 hD1
  exact kk hc hs H1 locs1 ls hP1 hD1 hS1 hl
theorem zArrJ_up {cs : Nat → ClassId} {b n : Nat} {i v : Int} (hb : b < F.2.1) (hlay : F.2.2 b = .inr (.inl (3, n))) (h0 : 0 ≤ i) (h1 : i < 2147483648) : (zws cs F I).set b (F.1 b, .inl (cs 3, n, .inr (.inl (vp_updL (fun j => zJ (I b (j : Int))) (zI i).toNatClampNeg (zJ v))))) = zws cs F (zup I b i v) := by
  refine zws_up hb ?_
  rw [zE_arr hlay, zar_j]
  congr 5
  funext j
  have hc := zI_clamp h0 h1
  by_cases hj : j = (zI i).toNatClampNeg
  · subst hj
    simp only [vp_updL, if_pos]
    rw [hc, zup_at]
  · simp only [vp_updL, if_neg hj]
    rw [zup_i]
    omega
theorem z_last {i v : Int} {n : Nat} (hG : zOK G own cc nL) {b : Nat} (hb : b < F.2.1) (hlay : F.2.2 b = .inr (.inl (3, n))) (hn : n ≤ 2147483647) (hi : 0 ≤ i ∧ i < (n : Int)) (hd : decode cc pc = .ok (.lastore, 1)) (kk : zW G F cells slots (zup I b i v) lv st (pc + 1)) : zW G F cells slots I lv (.long (zJ v) :: .int (zI i) :: .ref (F.1 b) :: st) pc := by
  obtain ⟨p, l, e, R, s, m, args, below, meth, c, Q, A, nn, D, cs⟩ := G
  intro hc hs H locs ls hP hD hS hl
  obtain ⟨g1, g2, g3, g4, g5, g6, g7, g8, g9, g10, g11⟩ := hG
  have he : zE cs F I b = .inl (cs 3, n, .inr (.inl (fun j => zJ (I b (j : Int))))) := by rw [zE_arr hlay, zar_j]
  refine va_last g1 g2 g6 hP hD hS b 3 (zPt hb he) rfl (zI_in hi.1 hi.2 hn) hd (fun H1 locs1 hP1 hD1 hS1 => ?_)
  rw [zArrJ_up hb hlay hi.1 (by omega)] at hP1 hD1
  exact kk hc hs H1 locs1 ls hP1 hD1 hS1 hl
theorem z_aald {i : Int} {r : List (Option Nat)} {t j : Nat} (hG : zOK G own cc nL) {b : Nat} (hb : b < F.2.1) (hlay : F.2.2 b = .inr (.inr r)) (hn : r.length ≤ 2147483647) (hj : (j : Int) = i) (hr : r[j]? = some (some t)) (hd : decode cc pc = .ok (.aaload, 1)) (kk : zW G F cells slots I lv (.ref (F.1 t) :: st) (pc + 1)) : zW G F cells slots I lv (.int (zI i) :: .ref (F.1 b) :: st) pc := by
  obtain ⟨p, l, e, R, s, m, args, below, meth, c, Q, A, nn, D, cs⟩ := G
  intro hc hs H locs ls hP hD hS hl
  obtain ⟨g1, g2, g3, g4, g5, g6, g7, g8, g9, g10, g11⟩ := hG
  have hw := kk hc hs H locs ls hP hD hS hl
  have hlt : j < r.length := (List.getElem?_eq_some_iff.mp hr).1
  refine va_aldq g1 g2 g6 hP b 4 (zPt hb (zE_row hlay)) rfl (zI_in (by omega) (by omega) hn) hd ?_
  have e1 : (zI i).toNatClampNeg = j := by
    have := zI_clamp (z := i) (by omega) (by omega)
    omega
  rw [e1]
  have e2 : r.getD j none = some t := by rw [List.getD_eq_getElem?_getD, hr]; rfl
  rw [e2]
  exact hw
end ZH
theorem va_tabsA {w : Cond} {U : State} {g : JFrame} {mk : MethodId} {a : Array Value} (h : w.before #[] U = true) (hs : zst w = true) : w.before #[] (U.calling g mk a) = true := zst_warm hs (s := U) (U := U.calling g mk a) (State.WarmedH.refl U) h
end
section
/-! contracts over the store, their proofs and their calls -/
def zJn (F : zFr) : Prop := ∀ i j, i < F.2.1 → j < F.2.1 → F.1 i = F.1 j → i = j
def zWo (D : va_G) (cs : Nat → ClassId) (F : zFr) (A : Nat → Prop) (I : zStore) (U : State) : Prop := va_P D vwCl (zws cs F I) U.heap ∧ va_K D vwCl (ztys cs) U ∧ zJn F ∧ zTb U ∧ zOutH A U U.heap ∧ zOutV U
def zPre (D : va_G) (cs : Nat → ClassId) (F : zFr) (I : zStore) (sz : Nat) (av : List Value) : Array Value → State → Prop := va_Pc av (fun U => U.heap.size = sz ∧ zWo D cs F (zAd F sz) I U)
def zQ (D : va_G) (cs : Nat → ClassId) (F : zFr) (sz : Nat) (post : Option Value → zStore → Prop) : Array Value → State → Outcome → State → Prop := fun _ st oc t => (∃ (r : Option Value) (u : zStore), oc = .returned r ∧ post r u ∧ va_P D vwCl (zws cs F u) t.heap) ∧ va_F (zAd F sz) st t
def zXC (D : va_G) (cs : Nat → ClassId) (F : zFr) (sz : Nat) (px : String → zStore → Prop) : String → State → State → Prop := fun E st t => (∃ u : zStore, px E u ∧ va_P D vwCl (zws cs F u) t.heap) ∧ va_F (zAd F sz) st t
/-- a method that returns -/
def zMt (l : Launch) (y : MethodName) (cc : ByteArray) (maxL : Nat) (ret : Option FieldType) (rm : Room) (D : va_G) (cs : Nat → ClassId) (F : zFr) (I : zStore) (av : List Value) (post : Option Value → zStore → Prop) : Prop :=
  ∀ sz, Met l y [Cond.code y cc maxL ret] rm (zPre D cs F I sz av) (zQ D cs F sz post) rm.cells rm.slots (zAd F sz)
/-- a method that returns or throws -/
def zMx (l : Launch) (y : MethodName) (cc : ByteArray) (maxL : Nat) (ret : Option FieldType) (rm : Room) (D : va_G) (cs : Nat → ClassId) (F : zFr) (I : zStore) (av : List Value) (post : Option Value → zStore → Prop) (px : String → zStore → Prop) : Prop :=
  ∀ sz, vx_Met l y [Cond.code y cc maxL ret] rm (zPre D cs F I sz av) (zQ D cs F sz post) (zXC D cs F sz px) rm.cells rm.slots (zAd F sz)
def zRoom (G : zCx) (rm : Room) : Prop := match G with
  | (p, l, e, R, s, m, args, below, meth, c, Q, A, nn, D, cs) => rm.frames ≤ R.frames ∧ rm.locals ≤ R.locals ∧ rm.cells ≤ R.cells ∧ rm.slots ≤ R.slots
def zRetI (G : zCx) (F : zFr) (cc : ByteArray) (mc ms : Nat) (post : Option Value → zStore → Prop) : Prop := ∀ x I lv pc, decode cc pc = .ok (.ireturn, 1) → post (some (.int x)) I → zW G F mc ms I lv [.int x] pc
def zRetZ (G : zCx) (F : zFr) (cc : ByteArray) (mc ms : Nat) (post : Option Value → zStore → Prop) : Prop := ∀ x I lv pc, decode cc pc = .ok (.ireturn, 1) → (x = 0 ∨ x = 1) → post (some (.int (zI x))) I → zW G F mc ms I lv [.int (zI x)] pc
def zRetV (G : zCx) (F : zFr) (cc : ByteArray) (mc ms : Nat) (post : Option Value → zStore → Prop) : Prop := ∀ I lv pc, decode cc pc = .ok (.return_, 1) → post none I → zW G F mc ms I lv [] pc
def zRetL (G : zCx) (F : zFr) (cc : ByteArray) (mc ms : Nat) (post : Option Value → zStore → Prop) : Prop := ∀ x I lv pc, decode cc pc = .ok (.lreturn, 1) → post (some (.long x)) I → zW G F mc ms I lv [.long x] pc
theorem zPre_blind {D : va_G} {cs : Nat → ClassId} {F : zFr} {I : zStore} {sz : Nat} {av : List Value} : FrameBlind (zPre D cs F I sz av) := by
  intro a U g mk ⟨h1, h2, h3, h4, h5, h6, h7, h8⟩
  exact ⟨h1, h2, h3, va_K.moved (u := U) (U := U.calling g mk a) (Vm.Alike.refl U.vm) h4, h5, fun w hw hs => va_tabsA (h6 w hw hs) hs, h7.moved (u := U) (U := U.calling g mk a) (Vm.Alike.refl U.vm), h8.warm (s := U) (U := U.calling g mk a) (State.WarmedH.refl U)⟩
section ZC
variable {G : zCx} {F : zFr} {cells slots : Nat} {I : zStore} {lv lv' : zLv} {st : List Value} {pc : Nat} {own : String} {cc : ByteArray} {nL : Nat}
theorem zBody {p : Program} {l : Launch} {e : Env} {s : State} {m : MethodId} {args : Array Value} {below : List Frame} {meth : Method} {c : Code} {s₁ : State} {y : MethodName} {maxL : Nat} {ret : Option FieldType} {rm : Room} {D : va_G} {cs : Nat → ClassId} {av : List Value} {sz : Nat} {ws : List Cond}
    (hst : l.stackTraces = false) (hlen : (lg_sl av).length ≤ maxL) (Q : State → Prop) (B : BodyLoose p l y (headSpec ws rm) cc maxL ret e s m args below meth c s₁) (hml : c.maxLocals = maxL) (hv : zPre D cs F I sz av args s)
    (k : ∀ G, G = (p, l, e, rm, s, m, args, below, meth, c, Q, zAd F sz, maxL, D, cs) → zOK G y.cls cc maxL → zRoom G rm → zW G F 0 0 I (lv_args 0 av) [] 0) :
    W p l e (headSpec ws rm).room s m args below meth c s.heap [] 0 0 Q (entryFrame m args maxL) := by
  obtain ⟨rfl, hsz, hP, hK, hJ, hT, hO, hV⟩ := hv
  subst hsz
  have hl := lv_entry av (n := maxL) hlen
  rw [lg_entry_eq]
  exact k _ rfl ⟨B.exec, B.bytes, findClass_of_methodNamed B.named, hml, rfl, hK, hT, hO, hV, fun q h => Or.inr h, hst⟩ ⟨Nat.le_refl _, Nat.le_refl _, Nat.le_refl _, Nat.le_refl _⟩ (Nat.zero_le _) (Nat.zero_le _) _ _ _ hP (zD_of hJ (fun k hk => Or.inl ⟨k, hk, rfl⟩)) va_S.rf hl
theorem zMt.ofI {l : Launch} {y : MethodName} {maxL : Nat} {rm : Room} {D : va_G} {cs : Nat → ClassId} {av : List Value} {post : Option Value → zStore → Prop} (hst : l.stackTraces = false) (hy : plainName y.cls = true) (hlen : (lg_sl av).length ≤ maxL)
    (k : ∀ G, zOK G y.cls cc maxL → zRoom G rm → zRetI G F cc rm.cells rm.slots post → zW G F 0 0 I (lv_args 0 av) [] 0) : zMt l y cc maxL (some .int) rm D cs F I av post := by
  intro sz
  refine Met.ofW (cc := cc) (maxL := maxL) (ret := some .int) hy rfl ?_
  intro p e s m args below meth c s₁ B hml hv
  refine zBody hst hlen _ B hml hv (fun G hG hok hrm => k G hok hrm ?_)
  subst hG
  intro x I1 lv1 pc1 hd hp hc hs H locs ls hP hD hS hl
  exact W.iret (v := x) B.exec B.bytes B.returns (fun t ht hW => ⟨⟨_, I1, rfl, hp, by rw [ht]; exact hP⟩, hS.F ht⟩) hS.2.2 hd B.notSynchronized
theorem zMt.ofZ {l : Launch} {y : MethodName} {maxL : Nat} {rm : Room} {D : va_G} {cs : Nat → ClassId} {av : List Value} {post : Option Value → zStore → Prop} (hst : l.stackTraces = false) (hy : plainName y.cls = true) (hlen : (lg_sl av).length ≤ maxL)
    (k : ∀ G, zOK G y.cls cc maxL → zRoom G rm → zRetZ G F cc rm.cells rm.slots post → zW G F 0 0 I (lv_args 0 av) [] 0) : zMt l y cc maxL (some .boolean) rm D cs F I av post := by
  intro sz
  refine Met.ofW (cc := cc) (maxL := maxL) (ret := some .boolean) hy rfl ?_
  intro p e s m args below meth c s₁ B hml hv
  refine zBody hst hlen _ B hml hv (fun G hG hok hrm => k G hok hrm ?_)
  subst hG
  intro x I1 lv1 pc1 hd hx hp hc hs H locs ls hP hD hS hl
  exact W.zret (v := zI x) B.exec B.bytes B.returns (by rcases hx with rfl | rfl <;> rfl) (fun t ht hW => ⟨⟨_, I1, rfl, hp, by rw [ht]; exact hP⟩, hS.F ht⟩) hS.2.2 hd B.notSynchronized
theorem zMt.ofV {l : Launch} {y : MethodName} {maxL : Nat} {rm : Room} {D : va_G} {cs : Nat → ClassId} {av : List Value} {post : Option Value → zStore → Prop} (hst : l.stackTraces = false) (hy : plainName y.cls = true) (hlen : (lg_sl av).length ≤ maxL)
    (k : ∀ G, zOK G y.cls cc maxL → zRoom G rm → zRetV G F cc rm.cells rm.slots post → zW G F 0 0 I (lv_args 0 av) [] 0) : zMt l y cc maxL none rm D cs F I av post := by
  intro sz
  refine Met.ofW (cc := cc) (maxL := maxL) (ret := none) hy rfl ?_
  intro p e s m args below meth c s₁ B hml hv
  refine zBody hst hlen _ B hml hv (fun G hG hok hrm => k G hok hrm ?_)
  subst hG
  intro I1 lv1 pc1 hd hp hc hs H locs ls hP hD hS hl
  exact W.vret B.exec B.bytes B.returns (fun t ht hW => ⟨⟨_, I1, rfl, hp, by rw [ht]; exact hP⟩, hS.F ht⟩) hS.2.2 hd B.notSynchronized
theorem zMt.ofL {l : Launch} {y : MethodName} {maxL : Nat} {rm : Room} {D : va_G} {cs : Nat → ClassId} {av : List Value} {post : Option Value → zStore → Prop} (hst : l.stackTraces = false) (hy : plainName y.cls = true) (hlen : (lg_sl av).length ≤ maxL)
    (k : ∀ G, zOK G y.cls cc maxL → zRoom G rm → zRetL G F cc rm.cells rm.slots post → zW G F 0 0 I (lv_args 0 av) [] 0) : zMt l y cc maxL (some .long) rm D cs F I av post := by
  intro sz
  refine Met.ofW (cc := cc) (maxL := maxL) (ret := some .long) hy rfl ?_
  intro p e s m args below meth c s₁ B hml hv
  refine zBody hst hlen _ B hml hv (fun G hG hok hrm => k G hok hrm ?_)
  subst hG
  intro x I1 lv1 pc1 hd hp hc hs H locs ls hP hD hS hl
  exact W.lret (v := x) B.exec B.bytes B.returns (fun t ht hW => ⟨⟨_, I1, rfl, hp, by rw [ht]; exact hP⟩, hS.F ht⟩) hS.2.2 hd B.notSynchronized
/-- a call that comes back -/
theorem z_back {p : Program} {l : Launch} {e : Env} {R : Room} {s : State} {m : MethodId} {args : Array Value} {below : List Frame} {meth : Method} {c : Code} {H : Heap} {locs : List Loc} {mc ms : Nat} {Q : State → Prop} {D : va_G} {cs : Nat → ClassId} {A0 : Nat → Prop} {H0 : Heap} {ls : Array Slot} {st0 rest : List Value} {post : Option Value → zStore → Prop} {a : Array Value}
    (hr : va_Run p l e R s m args below meth c H locs cells slots mc ms (F0 m pc ls st0) rest (zQ D cs F H.size post a) (zAd F H.size)) (hS : va_S A0 H0 H locs) (hA : ∀ q, zAd F H.size q → A0 q)
    (kk : ∀ (r : Option Value) (u : zStore) (H1 : Heap) (locs1 : List Loc), post r u → va_P D vwCl (zws cs F u) H1 → va_S A0 H0 H1 locs1 → W p l e R s m args below meth c H1 locs1 (cells + mc) (slots + ms) Q (F0 m (pc + 3) ls (r.toList ++ rest))) : W p l e R s m args below meth c H locs cells slots Q (F0 m pc ls st0) := by
  intro T hT X
  obtain ⟨v, st₀, t, T', L, h0, X', hL, e1, e2, ⟨⟨r, u, hv, hp, hb⟩, hF⟩, st⟩ := hr T hT X
  cases hv
  obtain ⟨k1, k2, k3⟩ := vx_keep h0 e1 hS (fun q _ h => hA q h) hA hL hF
  obtain ⟨t2, a1, b1⟩ := kk v u T'.heap (locs ++ L) hp (by rw [e1]; exact hb) k3 T' rfl X'
  exact ⟨t2, st t2 a1, b1⟩
theorem zRecv {s : State} {H : Heap} {D : va_G} {cs : Nat → ClassId} {b ci : Nat} {fs : List (Option (Option Nat))} {C : String} {T : u_T} {N : Nat} (hK : va_K D vwCl (ztys cs) s) (hP : va_P D vwCl (zws cs F I) H) (hc : vwCl[ci]? = some (C, T, N)) (hb : b < F.2.1) (hlay : F.2.2 b = .inl (ci, fs)) : ∃ cell : Cell, H[F.1 b]? = some cell ∧ cell.vm.isStatics = false ∧ s.vm.findClass C = some cell.cls :=
  va_recv hK hP hc (q0 := b) (zPt hb (zE_obj hlay))
theorem zAd_in {G : zCx} {p : Program} {l : Launch} {e : Env} {R : Room} {s : State} {m : MethodId} {args : Array Value} {below : List Frame} {meth : Method} {c : Code} {Q : State → Prop} {A : Nat → Prop} {nn : Nat} {D : va_G} {cs : Nat → ClassId} {H : Heap} {locs : List Loc} (hG : zOK (p, l, e, R, s, m, args, below, meth, c, Q, A, nn, D, cs) own cc nL) (hD : va_D A (zws cs F I)) (hS : va_S A s.heap H locs) : ∀ q, zAd F H.size q → A q := by
  intro q h
  obtain ⟨g1, g2, g3, g4, g5, g6, g7, g8, g9, g10, g11⟩ := hG
  rcases h with ⟨k, hk, rfl⟩ | h
  · exact zD_in hD hk
  · exact g10 q (Nat.le_trans hS.1 h)
theorem zWo_in {p : Program} {l : Launch} {e : Env} {R : Room} {s : State} {m : MethodId} {args : Array Value} {below : List Frame} {meth : Method} {c : Code} {Q : State → Prop} {A : Nat → Prop} {nn : Nat} {D : va_G} {cs : Nat → ClassId} {H : Heap} {locs : List Loc} {U : State} (hG : zOK (p, l, e, R, s, m, args, below, meth, c, Q, A, nn, D, cs) own cc nL) (hP : va_P D vwCl (zws cs F I) H) (hD : va_D A (zws cs F I)) (hS : va_S A s.heap H locs) (hU : U.heap = H) (hW : s.WarmedH U.vm) : U.heap.size = H.size ∧ zWo D cs F (zAd F H.size) I U := by
  have hA := zAd_in (G := (p, l, e, R, s, m, args, below, meth, c, Q, A, nn, D, cs)) hG hD hS
  obtain ⟨g1, g2, g3, g4, g5, g6, g7, g8, g9, g10, g11⟩ := hG
  refine ⟨by rw [hU], by rw [hU]; exact hP, va_K.moved hW.alike g6, zD_inj hD, g7.warm hW, ?_, g9.warm hW⟩
  rw [hU]
  exact ((g8.kept hS.2.1).moved hW.alike).narrow hA
abbrev zHead (y : MethodName) (cc : ByteArray) (maxL n : Nat) (ret : Option FieldType) : Prop := zWd (.code y cc maxL ret) ∧ zWd (.initialized y.cls) ∧ y.cls ≠ "java/lang/invoke/MethodHandle" ∧ y.cls ≠ "java/lang/invoke/VarHandle" ∧ (parseMethodDescriptor y.desc).map (fun d => d.parameters.length) = some n
theorem zCallB {p : Program} {l : Launch} {e : Env} {R : Room} {s : State} {m : MethodId} {args : Array Value} {below : List Frame} {meth : Method} {c : Code} {Q : State → Prop} {A : Nat → Prop} {nn : Nat} {D : va_G} {cs : Nat → ClassId} {index maxL n : Nat} {y : MethodName} {cy : ByteArray} {ret : Option FieldType} {rm : Room} (hG : zOK (p, l, e, R, s, m, args, below, meth, c, Q, A, nn, D, cs) own cc nL) (hy : zHead y cy maxL n ret) (hl : zWd (.methodLink own index y)) (hR : rm.frames + 1 ≤ R.frames ∧ 8 + (maxL + 11) + rm.locals ≤ R.locals) : CallB R s args own index y cy maxL ret [.code y cy maxL ret] rm rm.cells rm.slots n := by
  obtain ⟨g1, g2, g3, g4, g5, g6, g7, g8, g9, g10, g11⟩ := hG
  obtain ⟨y1, y2, y3, y4, y5⟩ := hy
  refine ⟨rfl, rfl, hR.1, hR.2, fun w hw a' U hW => ?_, List.mem_cons_self, g7.at y1 _, g7.at y2 _, ⟨y3, y4⟩, fun sig h => ?_, g7.at hl _⟩
  · cases List.mem_singleton.mp hw
    exact zst_warm y1.2 hW (g7.at y1 #[])
  · rw [h] at y5
    exact (Option.some.inj y5).symm
theorem zRm_of {G : zCx} {rm rm' : Room} {maxL : Nat} (h : zRoom G rm') (hf : rm.frames + 1 ≤ rm'.frames) (hl : 8 + (maxL + 11) + rm.locals ≤ rm'.locals) : match G with
  | (p, l, e, R, s, m, args, below, meth, c, Q, A, nn, D, cs) => rm.frames + 1 ≤ R.frames ∧ 8 + (maxL + 11) + rm.locals ≤ R.locals := by
  obtain ⟨p, l, e, R, s, m, args, below, meth, c, Q, A, nn, D, cs⟩ := G
  exact ⟨Nat.le_trans hf h.1, Nat.le_trans hl h.2.1⟩
end ZC
end
section
/-! the rows of the calls -/
def zX (G : zCx) (F : zFr) (cells slots : Nat) (I : zStore) (lv : zLv) (E : String) (pc : Nat) : Prop := match G with
  | (p, l, e, R, s, m, args, below, meth, c, Q, A, n, D, cs) => cells ≤ R.cells → slots ≤ R.slots → ∀ (H : Heap) (locs : List Loc) (ls : Array Slot) (rest : List Value) (q : Addr) (ce : Cell), va_P D vwCl (zws cs F I) H → va_D A (zws cs F I) → va_S A s.heap H locs → lv_has ls n lv → H[q]? = some ce → ce.vm = .none → s.vm.findClass E = some ce.cls → vx_W p l e R s m args below meth c H locs cells slots Q (F0 m pc ls rest) q
def zSite (cls text : String) (names : List String) (ik is ic : Nat) : Prop := Bundle.fit cls = true ∧ (∀ n ∈ names, Bundle.fit n = true) ∧ zWd (.classLink "LineLearner" ik cls) ∧ zWd (.initialized cls) ∧ (is, text) ∈ zStrs ∧ (∀ w ∈ vx_atS "LineLearner" ic cls names, zWd w) ∧ (∀ w ∈ Cond.classLink "LineLearner" ik cls :: Cond.initialized cls :: vx_atS "LineLearner" ic cls names, vx_ot w = true)
/-- where a method may throw: straight out of it (S: the text by ldc, W: by ldc_w), or out of a callee -/
def zThrS (G : zCx) (F : zFr) (cc : ByteArray) (mc ms : Nat) (px : String → zStore → Prop) : Prop := ∀ (cls text : String) (names : List String) (ik is ic : Nat) (I : zStore) (lv : zLv) (st : List Value) (pc cells slots : Nat) (rm : Room), zSite cls text names ik is ic → decode cc pc = .ok (.new ik, 3) → decode cc (pc + 3) = .ok (.dup, 1) → decode cc (pc + 4) = .ok (.ldc is, 2) → decode cc (pc + 6) = .ok (.invokespecial ic, 3) → decode cc (pc + 9) = .ok (.athrow, 1) → zRoom G rm → names.length + 3 < rm.frames → (st.map fun v => v.category).sum + (13 * (names.length + 1) + 43) ≤ rm.locals → cells + 1 ≤ mc → slots + 6 ≤ ms → mc ≤ rm.cells → ms ≤ rm.slots → px cls I → zW G F cells slots I lv st pc
def zThrW (G : zCx) (F : zFr) (cc : ByteArray) (mc ms : Nat) (px : String → zStore → Prop) : Prop := ∀ (cls text : String) (names : List String) (ik is ic : Nat) (I : zStore) (lv : zLv) (st : List Value) (pc cells slots : Nat) (rm : Room), zSite cls text names ik is ic → decode cc pc = .ok (.new ik, 3) → decode cc (pc + 3) = .ok (.dup, 1) → decode cc (pc + 4) = .ok (.ldc_w is, 3) → decode cc (pc + 7) = .ok (.invokespecial ic, 3) → decode cc (pc + 10) = .ok (.athrow, 1) → zRoom G rm → names.length + 3 < rm.frames → (st.map fun v => v.category).sum + (13 * (names.length + 1) + 43) ≤ rm.locals → cells + 1 ≤ mc → slots + 6 ≤ ms → mc ≤ rm.cells → ms ≤ rm.slots → px cls I → zW G F cells slots I lv st pc
def zThrO (G : zCx) (F : zFr) (mc ms : Nat) (px : String → zStore → Prop) : Prop := ∀ (E : String) (I : zStore) (lv : zLv) (pc cells slots : Nat), cells ≤ mc → slots ≤ ms → px E I → zX G F cells slots I lv E pc
def zThr (G : zCx) (F : zFr) (cc : ByteArray) (mc ms : Nat) (px : String → zStore → Prop) : Prop := zThrS G F cc mc ms px ∧ zThrW G F cc mc ms px ∧ zThrO G F mc ms px
section ZD
variable {G : zCx} {F : zFr} {cells slots : Nat} {I : zStore} {lv lv' : zLv} {st stk : List Value} {pc : Nat} {own : String} {cc : ByteArray} {nL : Nat}
theorem z_widen {k n : Nat} (h1 : cells ≤ k) (h2 : slots ≤ n) {rm : Room} (hR : zRoom G rm) (hk : k ≤ rm.cells) (hn : n ≤ rm.slots) (kk : zW G F k n I lv st pc) : zW G F cells slots I lv st pc := by
  obtain ⟨p, l, e, R, s, m, args, below, meth, c, Q, A, nn, D, cs⟩ := G
  intro hc hs H locs ls hP hD hS hl
  exact W.widen h1 h2 (kk (Nat.le_trans hk hR.2.2.1) (Nat.le_trans hn hR.2.2.2) H locs ls hP hD hS hl)
theorem zThr.of {p : Program} {l : Launch} {e : Env} {R : Room} {s : State} {m : MethodId} {args : Array Value} {below : List Frame} {meth : Method} {c : Code} {Qc : Array Value → State → Outcome → State → Prop} {nn : Nat} {D : va_G} {cs : Nat → ClassId} {mc ms : Nat} {px : String → zStore → Prop} {sz : Nat} (hsz : s.heap.size = sz)
    (hG : zOK (p, l, e, R, s, m, args, below, meth, c, vx_MQ below Qc (zXC D cs F sz px) args s mc ms (zAd F sz), zAd F sz, nn, D, cs) "LineLearner" cc nL) (hlocks : meth.locks = false) (hout : ∀ x ∈ c.exceptionTable.toList, False) :
    zThr (p, l, e, R, s, m, args, below, meth, c, vx_MQ below Qc (zXC D cs F sz px) args s mc ms (zAd F sz), zAd F sz, nn, D, cs) F cc mc ms px := by
  subst hsz
  obtain ⟨g1, g2, g3, g4, g5, g6, g7, g8, g9, g10, g11⟩ := hG
  refine ⟨?_, ?_, ?_⟩
  · intro cls text names ik is ic I lv st pc cells slots rm hsite d0 d3 d4 d6 d9 hR hf hlo hc1 hs1 hmc hms hp hc hs H locs ls hP hD hS hl
    obtain ⟨s1, s2, s3, s4, s5, s6, s7⟩ := hsite
    obtain ⟨sa, hstr⟩ := g9.1 _ s5
    have r3 := hR.2.2.1
    have r4 := hR.2.2.2
    have r1 := hR.1
    have r2 := hR.2.1
    refine vx_throwS g1 g2 g11 g3 s1 s2 (g7.at s3 _) (g7.at s4 _) hstr (fun w hw => g7.at (s6 w hw) _) s7 g8.1 g8.2.1 hS (by rw [hl.1, g4]) d0 d3 d4 d6 d9 (fun x hx => (hout x hx).elim) (by omega) (by omega) (by omega) (by omega) hlocks (fun t hal hz hk => ⟨⟨I, hp, hP.kept fun k q hq => hk _ (hP k q hq).lt⟩, ?_⟩) hS.2.2 hc1 hs1
    exact ⟨Nat.le_trans hS.1 hz, fun q h1 h2 => (hk q (Nat.lt_of_lt_of_le h1 hS.1)).trans (hS.2.1 q h1 h2)⟩
  · intro cls text names ik is ic I lv st pc cells slots rm hsite d0 d3 d4 d6 d9 hR hf hlo hc1 hs1 hmc hms hp hc hs H locs ls hP hD hS hl
    obtain ⟨s1, s2, s3, s4, s5, s6, s7⟩ := hsite
    obtain ⟨sa, hstr⟩ := g9.1 _ s5
    have r3 := hR.2.2.1
    have r4 := hR.2.2.2
    have r1 := hR.1
    have r2 := hR.2.1
    refine vx_throwSW g1 g2 g11 g3 s1 s2 (g7.at s3 _) (g7.at s4 _) hstr (fun w hw => g7.at (s6 w hw) _) s7 g8.1 g8.2.1 hS (by rw [hl.1, g4]) d0 d3 d4 d6 d9 (fun x hx => (hout x hx).elim) (by omega) (by omega) (by omega) (by omega) hlocks (fun t hal hz hk => ⟨⟨I, hp, hP.kept fun k q hq => hk _ (hP k q hq).lt⟩, ?_⟩) hS.2.2 hc1 hs1
    exact ⟨Nat.le_trans hS.1 hz, fun q h1 h2 => (hk q (Nat.lt_of_lt_of_le h1 hS.1)).trans (hS.2.1 q h1 h2)⟩
  · intro E I lv pc cells slots hc1 hs1 hp hc hs H locs ls rest q ce hP hD hS hl hce hcv hcl
    refine vx_out (fun x hx => (hout x hx).elim) hlocks hce hcv hcl (fun t ht hal => ⟨⟨I, hp, by rw [ht]; exact hP⟩, hS.F ht⟩) hS.2.2 hc1 hs1
theorem zMx.ofI {l : Launch} {y : MethodName} {maxL : Nat} {rm : Room} {D : va_G} {cs : Nat → ClassId} {av : List Value} {post : Option Value → zStore → Prop} {px : String → zStore → Prop} (hst : l.stackTraces = false) (hy : plainName y.cls = true) (hyc : y.cls = "LineLearner") (hlen : (lg_sl av).length ≤ maxL)
    (k : ∀ G, zOK G y.cls cc maxL → zRoom G rm → zRetI G F cc rm.cells rm.slots post → zThr G F cc rm.cells rm.slots px → zW G F 0 0 I (lv_args 0 av) [] 0) : zMx l y cc maxL (some .int) rm D cs F I av post px := by
  intro sz
  refine vx_ofW (cc := cc) (maxL := maxL) (ret := some .int) hy rfl ?_
  intro p e s m args below meth c s₁ B hml hex hv
  have hsz := hv.2.1
  refine zBody hst hlen _ B hml hv (fun G hG hok hrm => k G hok hrm ?_ ?_)
  · subst hG
    intro x I1 lv1 pc1 hd hp hc hs H locs ls hP hD hS hl
    exact vx_ret (W.iret (v := x) B.exec B.bytes B.returns (fun t ht hW => ⟨⟨_, I1, rfl, hp, by rw [ht]; exact hP⟩, hS.F ht⟩) hS.2.2 hd B.notSynchronized)
  · subst hG
    rw [hyc] at hok
    exact zThr.of hsz hok B.notSynchronized hex
theorem zMx.ofZ {l : Launch} {y : MethodName} {maxL : Nat} {rm : Room} {D : va_G} {cs : Nat → ClassId} {av : List Value} {post : Option Value → zStore → Prop} {px : String → zStore → Prop} (hst : l.stackTraces = false) (hy : plainName y.cls = true) (hyc : y.cls = "LineLearner") (hlen : (lg_sl av).length ≤ maxL)
    (k : ∀ G, zOK G y.cls cc maxL → zRoom G rm → zRetZ G F cc rm.cells rm.slots post → zThr G F cc rm.cells rm.slots px → zW G F 0 0 I (lv_args 0 av) [] 0) : zMx l y cc maxL (some .boolean) rm D cs F I av post px := by
  intro sz
  refine vx_ofW (cc := cc) (maxL := maxL) (ret := some .boolean) hy rfl ?_
  intro p e s m args below meth c s₁ B hml hex hv
  have hsz := hv.2.1
  refine zBody hst hlen _ B hml hv (fun G hG hok hrm => k G hok hrm ?_ ?_)
  · subst hG
    intro x I1 lv1 pc1 hd hx hp hc hs H locs ls hP hD hS hl
    exact vx_ret (W.zret (v := zI x) B.exec B.bytes B.returns (by rcases hx with rfl | rfl <;> rfl) (fun t ht hW => ⟨⟨_, I1, rfl, hp, by rw [ht]; exact hP⟩, hS.F ht⟩) hS.2.2 hd B.notSynchronized)
  · subst hG
    rw [hyc] at hok
    exact zThr.of hsz hok B.notSynchronized hex
theorem zMx.ofV {l : Launch} {y : MethodName} {maxL : Nat} {rm : Room} {D : va_G} {cs : Nat → ClassId} {av : List Value} {post : Option Value → zStore → Prop} {px : String → zStore → Prop} (hst : l.stackTraces = false) (hy : plainName y.cls = true) (hyc : y.cls = "LineLearner") (hlen : (lg_sl av).length ≤ maxL)
    (k : ∀ G, zOK G y.cls cc maxL → zRoom G rm → zRetV G F cc rm.cells rm.slots post → zThr G F cc rm.cells rm.slots px → zW G F 0 0 I (lv_args 0 av) [] 0) : zMx l y cc maxL none rm D cs F I av post px := by
  intro sz
  refine vx_ofW (cc := cc) (maxL := maxL) (ret := none) hy rfl ?_
  intro p e s m args below meth c s₁ B hml hex hv
  have hsz := hv.2.1
  refine zBody hst hlen _ B hml hv (fun G hG hok hrm => k G hok hrm ?_ ?_)
  · subst hG
    intro I1 lv1 pc1 hd hp hc hs H locs ls hP hD hS hl
    exact vx_ret (W.vret B.exec B.bytes B.returns (fun t ht hW => ⟨⟨_, I1, rfl, hp, by rw [ht]; exact hP⟩, hS.F ht⟩) hS.2.2 hd B.notSynchronized)
  · subst hG
    rw [hyc] at hok
    exact zThr.of hsz hok B.notSynchronized hex
/-- a virtual call (invokevirtual, the class's own word) of a method that returns -/
theorem z_callV {index maxL n ci b N : Nat} {C : String} {T : u_T} {fs : List (Option (Option Nat))} {y : MethodName} {cy : ByteArray} {ret : Option FieldType} {rm rmG : Room} {post : Option Value → zStore → Prop} (As : List Value) (hG : zOK G own cc nL) (hRm : zRoom G rmG)
    (hM : ∀ (l : Launch) (D : va_G) (cs : Nat → ClassId), l.stackTraces = false → zMt l y cy maxL ret rm D cs F I (.ref (F.1 b) :: As) post) (hy : zHead y cy maxL n ret) (hl : zWd (.methodLink own index y)) (hi : zWd (.instanceMethod y)) (hse : zWd (.selects C y y)) (hc0 : vwCl[ci]? = some (C, T, N)) (hb : b < F.2.1) (hlay : F.2.2 b = .inl (ci, fs))
    (hf : rm.frames + 1 ≤ rmG.frames) (hlo : 8 + (maxL + 11) + rm.locals ≤ rmG.locals) (hce : cells + rm.cells ≤ rmG.cells) (hsl : slots + rm.slots ≤ rmG.slots) (hn : As.length = n) (hstk : stk = As.reverse ++ .ref (F.1 b) :: st) (hcat : (st.map fun v => v.category).sum ≤ 8) (hd : decode cc pc = .ok (.invokevirtual index, 3))
    (kk : ∀ (r : Option Value) (I' : zStore), post r I' → zW G F (cells + rm.cells) (slots + rm.slots) I' lv (r.toList ++ st) (pc + 3)) : zW G F cells slots I lv stk pc := by
  obtain ⟨p, l, e, R, s, m, args, below, meth, c, Q, A, nn, D, cs⟩ := G
  intro hc hs H locs ls hP hD hS hl2
  have r1 := hRm.1
  have r2 := hRm.2.1
  have r3 := hRm.2.2.1
  have r4 := hRm.2.2.2
  have hG' := hG
  obtain ⟨g1, g2, g3, g4, g5, g6, g7, g8, g9, g10, g11⟩ := hG
  subst hstk
  refine z_back (D := D) (cs := cs) (F := F) (rest := st) (va_runV (As := As) ⟨g1, g2, g4, g3, fun w (hw : w ∈ []) => (List.not_mem_nil hw).elim⟩ (hM l D cs g11 H.size) ⟨zCallB hG' hy hl ⟨by omega, by omega⟩, g7.at hi _, g7.at hse _⟩ ⟨zPre_blind, zRecv g6 hP hc0 hb hlay, fun U hU hW => ⟨rfl, zWo_in hG' hP hD hS hU hW⟩⟩ rfl hn hl2.1 rfl (lv_room hcat) hd ⟨by omega, by omega⟩) hS (zAd_in (G := (p, l, e, R, s, m, args, below, meth, c, Q, A, nn, D, cs)) hG' hD hS) (fun r u H1 locs1 hp hP1 hS1 => ?_)
  exact kk r u hp (by omega) (by omega) H1 locs1 ls hP1 (zD_of (zD_inj hD) (fun k hk => zD_in hD hk)) hS1 hl2
theorem z_callS {index maxL n : Nat} {y : MethodName} {cy : ByteArray} {ret : Option FieldType} {rm rmG : Room} {post : Option Value → zStore → Prop} (As : List Value) (hG : zOK G own cc nL) (hRm : zRoom G rmG)
    (hM : ∀ (l : Launch) (D : va_G) (cs : Nat → ClassId), l.stackTraces = false → zMt l y cy maxL ret rm D cs F I As post) (hy : zHead y cy maxL n ret) (hl : zWd (.methodLink own index y)) (hi : zWd (.static y))
    (hf : rm.frames + 1 ≤ rmG.frames) (hlo : 8 + (maxL + 11) + rm.locals ≤ rmG.locals) (hce : cells + rm.cells ≤ rmG.cells) (hsl : slots + rm.slots ≤ rmG.slots) (hn : As.length = n) (hstk : stk = As.reverse ++ st) (hcat : (st.map fun v => v.category).sum ≤ 8) (hd : decode cc pc = .ok (.invokestatic index, 3))
    (kk : ∀ (r : Option Value) (I' : zStore), post r I' → zW G F (cells + rm.cells) (slots + rm.slots) I' lv (r.toList ++ st) (pc + 3)) : zW G F cells slots I lv stk pc := by
  obtain ⟨p, l, e, R, s, m, args, below, meth, c, Q, A, nn, D, cs⟩ := G
  intro hc hs H locs ls hP hD hS hl2
  have r1 := hRm.1
  have r2 := hRm.2.1
  have r3 := hRm.2.2.1
  have r4 := hRm.2.2.2
  have hG' := hG
  obtain ⟨g1, g2, g3, g4, g5, g6, g7, g8, g9, g10, g11⟩ := hG
  subst hstk
  refine z_back (D := D) (cs := cs) (F := F) (rest := st) (va_runS (As := As) (Ts := []) ⟨g1, g2, g4, g3, fun w (hw : w ∈ []) => (List.not_mem_nil hw).elim⟩ (hM l D cs g11 H.size) ⟨zCallB hG' hy hl ⟨by omega, by omega⟩, g7.at hi _⟩ ⟨zPre_blind, fun U hU hW => ⟨rfl, zWo_in hG' hP hD hS hU hW⟩⟩ rfl hn hl2.1 rfl (lv_room hcat) hd ⟨by omega, by omega⟩) hS (zAd_in (G := (p, l, e, R, s, m, args, below, meth, c, Q, A, nn, D, cs)) hG' hD hS) (fun r u H1 locs1 hp hP1 hS1 => ?_)
  exact kk r u hp (by omega) (by omega) H1 locs1 ls hP1 (zD_of (zD_inj hD) (fun k hk => zD_in hD hk)) hS1 hl2
theorem zCallN {p : Program} {l : Launch} {e : Env} {R : Room} {s : State} {m : MethodId} {args : Array Value} {below : List Frame} {meth : Method} {c : Code} {Q : State → Prop} {A : Nat → Prop} {nn : Nat} {D : va_G} {cs : Nat → ClassId} {index maxL n : Nat} {y : MethodName} {cy : ByteArray} {ret : Option FieldType} {rm : Room} {host : String} (hG : zOK (p, l, e, R, s, m, args, below, meth, c, Q, A, nn, D, cs) own cc nL) (hy : zHead y cy maxL n ret) (hl : zWd (.methodLinkNest own index y host)) (hR : rm.frames + 1 ≤ R.frames ∧ 8 + (maxL + 11) + rm.locals ≤ R.locals) : va_CN R s args own index y host cy maxL ret [.code y cy maxL ret] rm rm.cells rm.slots n := by
  obtain ⟨g1, g2, g3, g4, g5, g6, g7, g8, g9, g10, g11⟩ := hG
  obtain ⟨y1, y2, y3, y4, y5⟩ := hy
  refine ⟨⟨rfl, rfl, hR.1, hR.2, fun w hw a' U hW => ?_, List.mem_cons_self⟩, g7.at y1 _, g7.at y2 _, ⟨y3, y4⟩, fun sig h => ?_, g7.at hl _⟩
  · cases List.mem_singleton.mp hw
    exact zst_warm y1.2 hW (g7.at y1 #[])
  · rw [h] at y5
    exact (Option.some.inj y5).symm
theorem z_callSN {index maxL n : Nat} {host : String} {y : MethodName} {cy : ByteArray} {ret : Option FieldType} {rm rmG : Room} {post : Option Value → zStore → Prop} (As : List Value) (hG : zOK G own cc nL) (hRm : zRoom G rmG)
    (hM : ∀ (l : Launch) (D : va_G) (cs : Nat → ClassId), l.stackTraces = false → zMt l y cy maxL ret rm D cs F I As post) (hy : zHead y cy maxL n ret) (hl : zWd (.methodLinkNest own index y host)) (hi : zWd (.static y))
    (hf : rm.frames + 1 ≤ rmG.frames) (hlo : 8 + (maxL + 11) + rm.locals ≤ rmG.locals) (hce : cells + rm.cells ≤ rmG.cells) (hsl : slots + rm.slots ≤ rmG.slots) (hn : As.length = n) (hstk : stk = As.reverse ++ st) (hcat : (st.map fun v => v.category).sum ≤ 8) (hd : decode cc pc = .ok (.invokestatic index, 3))
    (kk : ∀ (r : Option Value) (I' : zStore), post r I' → zW G F (cells + rm.cells) (slots + rm.slots) I' lv (r.toList ++ st) (pc + 3)) : zW G F cells slots I lv stk pc := by
  obtain ⟨p, l, e, R, s, m, args, below, meth, c, Q, A, nn, D, cs⟩ := G
  intro hc hs H locs ls hP hD hS hl2
  have r1 := hRm.1
  have r2 := hRm.2.1
  have r3 := hRm.2.2.1
  have r4 := hRm.2.2.2
  have hG' := hG
  obtain ⟨g1, g2, g3, g4, g5, g6, g7, g8, g9, g10, g11⟩ := hG
  subst hstk
  refine z_back (D := D) (cs := cs) (F := F) (rest := st) (va_runSN (As := As) (Ts := []) ⟨g1, g2, g4, g3, fun w (hw : w ∈ []) => (List.not_mem_nil hw).elim⟩ (hM l D cs g11 H.size) ⟨zCallN hG' hy hl ⟨by omega, by omega⟩, g7.at hi _, trivial⟩ ⟨zPre_blind, fun U hU hW => ⟨rfl, zWo_in hG' hP hD hS hU hW⟩⟩ rfl hn hl2.1 rfl (lv_room hcat) hd ⟨by omega, by omega⟩) hS (zAd_in (G := (p, l, e, R, s, m, args, below, meth, c, Q, A, nn, D, cs)) hG' hD hS) (fun r u H1 locs1 hp hP1 hS1 => ?_)
  exact kk r u hp (by omega) (by omega) H1 locs1 ls hP1 (zD_of (zD_inj hD) (fun k hk => zD_in hD hk)) hS1 hl2
/-- a call of a method that returns or throws -/
theorem zx_back {p : Program} {l : Launch} {e : Env} {R : Room} {s : State} {m : MethodId} {args : Array Value} {below : List Frame} {meth : Method} {c : Code} {H : Heap} {locs : List Loc} {mc ms : Nat} {Q : State → Prop} {D : va_G} {cs : Nat → ClassId} {A0 : Nat → Prop} {H0 : Heap} {ls : Array Slot} {st0 rest : List Value} {post : Option Value → zStore → Prop} {px : String → zStore → Prop} {a : Array Value}
    (hr : vx_Run p l e R s m args below meth c H locs cells slots mc ms (F0 m pc ls st0) rest (zQ D cs F H.size post a) (zXC D cs F H.size px) (zAd F H.size)) (hS : va_S A0 H0 H locs) (hA : ∀ q, zAd F H.size q → A0 q)
    (kx : ∀ (E : String) (ce : Cell) (q9 : Addr) (u : zStore) (H1 : Heap) (locs1 : List Loc), px E u → va_P D vwCl (zws cs F u) H1 → va_S A0 H0 H1 locs1 → H1[q9]? = some ce → ce.vm = .none → s.vm.findClass E = some ce.cls → vx_W p l e R s m args below meth c H1 locs1 (cells + mc) (slots + ms) Q (F0 m pc ls rest) q9)
    (kk : ∀ (r : Option Value) (u : zStore) (H1 : Heap) (locs1 : List Loc), post r u → va_P D vwCl (zws cs F u) H1 → va_S A0 H0 H1 locs1 → W p l e R s m args below meth c H1 locs1 (cells + mc) (slots + ms) Q (F0 m (pc + 3) ls (r.toList ++ rest))) : W p l e R s m args below meth c H locs cells slots Q (F0 m pc ls st0) := by
  intro T hT X
  rcases hr T hT X with ⟨v, st₀, t, T', L, h0, X', hL, e1, e2, ⟨⟨r, u, hv, hp, hb⟩, hF⟩, st⟩ | ⟨q, st₀, t, T', L, E, ce, h0, X', hL, e1, e2, ⟨⟨u, hp, hb⟩, hF⟩, hce, hcv, hcl, st⟩
  · cases hv
    obtain ⟨k1, k2, k3⟩ := vx_keep h0 e1 hS (fun q _ h => hA q h) hA hL hF
    obtain ⟨t2, a1, b1⟩ := kk v u T'.heap (locs ++ L) hp (by rw [e1]; exact hb) k3 T' rfl X'
    exact ⟨t2, st t2 a1, b1⟩
  · obtain ⟨k1, k2, k3⟩ := vx_keep h0 e1 hS (fun q _ h => hA q h) hA hL hF
    obtain ⟨t2, a1, b1⟩ := kx E ce q u T'.heap (locs ++ L) hp (by rw [e1]; exact hb) k3 (by rw [e1]; exact hce) hcv hcl T' rfl X'
    exact ⟨t2, st.trans a1, b1⟩
theorem z_callVX {index maxL n ci b N : Nat} {C : String} {T : u_T} {fs : List (Option (Option Nat))} {y : MethodName} {cy : ByteArray} {ret : Option FieldType} {rm rmG : Room} {post : Option Value → zStore → Prop} {px : String → zStore → Prop} (As : List Value) (hG : zOK G own cc nL) (hRm : zRoom G rmG)
    (hM : ∀ (l : Launch) (D : va_G) (cs : Nat → ClassId), l.stackTraces = false → zMx l y cy maxL ret rm D cs F I (.ref (F.1 b) :: As) post px) (hy : zHead y cy maxL n ret) (hl : zWd (.methodLink own index y)) (hi : zWd (.instanceMethod y)) (hse : zWd (.selects C y y)) (hc0 : vwCl[ci]? = some (C, T, N)) (hb : b < F.2.1) (hlay : F.2.2 b = .inl (ci, fs))
    (hf : rm.frames + 1 ≤ rmG.frames) (hlo : 8 + (maxL + 11) + rm.locals ≤ rmG.locals) (hce : cells + rm.cells ≤ rmG.cells) (hsl : slots + rm.slots ≤ rmG.slots) (hn : As.length = n) (hstk : stk = As.reverse ++ .ref (F.1 b) :: st) (hcat : (st.map fun v => v.category).sum ≤ 8) (hd : decode cc pc = .ok (.invokevirtual index, 3))
    (kx : ∀ (E : String) (I' : zStore), px E I' → zX G F (cells + rm.cells) (slots + rm.slots) I' lv E pc)
    (kk : ∀ (r : Option Value) (I' : zStore), post r I' → zW G F (cells + rm.cells) (slots + rm.slots) I' lv (r.toList ++ st) (pc + 3)) : zW G F cells slots I lv stk pc := by
  obtain ⟨p, l, e, R, s, m, args, below, meth, c, Q, A, nn, D, cs⟩ := G
  intro hc hs H locs ls hP hD hS hl2
  have r1 := hRm.1
  have r2 := hRm.2.1
  have r3 := hRm.2.2.1
  have r4 := hRm.2.2.2
  have hG' := hG
  obtain ⟨g1, g2, g3, g4, g5, g6, g7, g8, g9, g10, g11⟩ := hG
  subst hstk
  refine zx_back (D := D) (cs := cs) (F := F) (rest := st) (vx_runV (As := As) ⟨g1, g2, g4, g3, fun w (hw : w ∈ []) => (List.not_mem_nil hw).elim⟩ (hM l D cs g11 H.size) ⟨zCallB hG' hy hl ⟨by omega, by omega⟩, g7.at hi _, g7.at hse _⟩ ⟨zPre_blind, zRecv g6 hP hc0 hb hlay, fun U hU hW => ⟨rfl, zWo_in hG' hP hD hS hU hW⟩⟩ rfl hn hl2.1 rfl (lv_room hcat) hd ⟨by omega, by omega⟩) hS (zAd_in (G := (p, l, e, R, s, m, args, below, meth, c, Q, A, nn, D, cs)) hG' hD hS) (fun E ce q9 u H1 locs1 hp hP1 hS1 h1 h2 h3 => ?_) (fun r u H1 locs1 hp hP1 hS1 => ?_)
  · exact kx E u hp (by omega) (by omega) H1 locs1 ls st q9 ce hP1 (zD_of (zD_inj hD) (fun k hk => zD_in hD hk)) hS1 hl2 h1 h2 h3
  · exact kk r u hp (by omega) (by omega) H1 locs1 ls hP1 (zD_of (zD_inj hD) (fun k hk => zD_in hD hk)) hS1 hl2
theorem zmin {a b : Int} (ha : -2147483648 ≤ a ∧ a < 2147483648) (hb : -2147483648 ≤ b ∧ b < 2147483648) : (if zI b < zI a then zI b else zI a) = zI (min a b) := by
  by_cases h : b < a
  · rw [if_pos ((zI_lt hb ha).mpr h), Int.min_eq_right (by omega)]
  · rw [if_neg (fun q => h ((zI_lt hb ha).mp q)), Int.min_eq_left (by omega)]
theorem zmax {a b : Int} (ha : -2147483648 ≤ a ∧ a < 2147483648) (hb : -2147483648 ≤ b ∧ b < 2147483648) : (if zI a < zI b then zI b else zI a) = zI (max a b) := by
  by_cases h : a < b
  · rw [if_pos ((zI_lt ha hb).mpr h), Int.max_eq_right (by omega)]
  · rw [if_neg (fun q => h ((zI_lt ha hb).mp q)), Int.max_eq_left (by omega)]
abbrev zMath (own : String) (index : Nat) (y : MethodName) (cy : ByteArray) : Prop := zWd (.methodLink own index y) ∧ zWd (.static y) ∧ zWd (.initialized "java/lang/Math") ∧ zWd (.code y cy 2 (some .int))
theorem z_min {index : Nat} {a b : Int} {rmG : Room} (hG : zOK G own cc nL) (hRm : zRoom G rmG) (hm : zMath own index Lib.Math.min.name Lib.Math.min.code) (hf : 1 ≤ rmG.frames) (hlo : (st.map fun v => v.category).sum + 13 ≤ rmG.locals) (ha : -2147483648 ≤ a ∧ a < 2147483648) (hb : -2147483648 ≤ b ∧ b < 2147483648) (hd : decode cc pc = .ok (.invokestatic index, 3)) (kk : zW G F cells slots I lv (.int (zI (min a b)) :: st) (pc + 3)) : zW G F cells slots I lv (.int (zI b) :: .int (zI a) :: st) pc := by
  obtain ⟨p, l, e, R, s, m, args, below, meth, c, Q, A, nn, D, cs⟩ := G
  intro hc hs H locs ls hP hD hS hl2
  have h := kk hc hs H locs ls hP hD hS hl2
  rw [← zmin ha hb] at h
  have r1 := hRm.1
  have r2 := hRm.2.1
  obtain ⟨g1, g2, g3, g4, g5, g6, g7, g8, g9, g10, g11⟩ := hG
  obtain ⟨m1, m2, m3, m4⟩ := hm
  exact va_mmin g1 g2 (g4.trans hl2.1.symm) g3 (g7.at m1 _) (g7.at m2 _) (g7.at m3 _) (g7.at m4 _) (by omega) (by omega) hc hs hd h
theorem z_max {index : Nat} {a b : Int} {rmG : Room} (hG : zOK G own cc nL) (hRm : zRoom G rmG) (hm : zMath own index Lib.Math.max.name Lib.Math.max.code) (hf : 1 ≤ rmG.frames) (hlo : (st.map fun v => v.category).sum + 13 ≤ rmG.locals) (ha : -2147483648 ≤ a ∧ a < 2147483648) (hb : -2147483648 ≤ b ∧ b < 2147483648) (hd : decode cc pc = .ok (.invokestatic index, 3)) (kk : zW G F cells slots I lv (.int (zI (max a b)) :: st) (pc + 3)) : zW G F cells slots I lv (.int (zI b) :: .int (zI a) :: st) pc := by
  obtain ⟨p, l, e, R, s, m, args, below, meth, c, Q, A, nn, D, cs⟩ := G
  intro hc hs H locs ls hP hD hS hl2
  have h := kk hc hs H locs ls hP hD hS hl2
  rw [← zmax ha hb] at h
  have r1 := hRm.1
  have r2 := hRm.2.1
  obtain ⟨g1, g2, g3, g4, g5, g6, g7, g8, g9, g10, g11⟩ := hG
  obtain ⟨m1, m2, m3, m4⟩ := hm
  exact va_mmax g1 g2 (g4.trans hl2.1.symm) g3 (g7.at m1 _) (g7.at m2 _) (g7.at m3 _) (g7.at m4 _) (by omega) (by omega) hc hs hd h
end ZD
end
section
theorem zcl0 : zCl 0 RX0 TX0 10 tyX0 := ⟨rfl, (by intro w hw; exact (show ∀ w ∈ u_ws RX0 TX0 10, w ∈ lw_tbl ∧ zst w = true by decide +kernel) w hw), tyX0_ok, nmX0⟩
theorem zcl1 : zCl 1 RX1 TX1 8 tyX1 := ⟨rfl, (by intro w hw; exact (show ∀ w ∈ u_ws RX1 TX1 8, w ∈ lw_tbl ∧ zst w = true by decide +kernel) w hw), tyX1_ok, nmX1⟩
theorem zcl2 : zCl 2 RX2 TX2 8 tyX2 := ⟨rfl, (by intro w hw; exact (show ∀ w ∈ u_ws RX2 TX2 8, w ∈ lw_tbl ∧ zst w = true by decide +kernel) w hw), tyX2_ok, nmX2⟩
theorem zcl3 : zCl 3 RX3 TX3 11 tyX3 := ⟨rfl, (by intro w hw; exact (show ∀ w ∈ u_ws RX3 TX3 11, w ∈ lw_tbl ∧ zst w = true by decide +kernel) w hw), tyX3_ok, nmX3⟩
theorem zcl4 : zCl 4 RX4 TX4 27 tyX4 := ⟨rfl, (by intro w hw; exact (show ∀ w ∈ u_ws RX4 TX4 27, w ∈ lw_tbl ∧ zst w = true by decide +kernel) w hw), tyX4_ok, nmX4⟩
end
section
theorem zz_last : True := trivial
end
