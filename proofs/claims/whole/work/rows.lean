section
-- ===== PART A: goes FIRST, ahead of the names: the tables' words, and 'selects' of the private methods out of them =====
/-- a private method of a class that the tables say can be made, by its rows of tables_1 -/
def lw_okq (q : MethodName × Nat) : Prop := (q.1.cls ≠ "java/lang/invoke/MethodHandle" ∧ q.1.cls ≠ "java/lang/invoke/VarHandle") ∧ Cond.instantiable q.1.cls q.2 ∈ tables_1 ∧ Cond.privateMethod q.1 ∈ tables_1 ∧ Cond.instanceMethod q.1 ∈ tables_1
theorem lw_p0 : lw_okq (⟨"SplitFabric", "serveTargets", "()V"⟩, 10) := ⟨⟨by decide +kernel, by decide +kernel⟩, List.mem_of_getElem? (i := 22) (by decide +kernel), List.mem_of_getElem? (i := 177) (by decide +kernel), List.mem_of_getElem? (i := 178) (by decide +kernel)⟩
theorem lw_p1 : lw_okq (⟨"SplitFabric", "serve", "(LSplitFabric$Tag;)V"⟩, 10) := ⟨⟨by decide +kernel, by decide +kernel⟩, List.mem_of_getElem? (i := 22) (by decide +kernel), List.mem_of_getElem? (i := 188) (by decide +kernel), List.mem_of_getElem? (i := 189) (by decide +kernel)⟩
theorem lw_p2 : lw_okq (⟨"java/util/ArrayList", "add", "(Ljava/lang/Object;[Ljava/lang/Object;I)V"⟩, 3) := ⟨⟨by decide +kernel, by decide +kernel⟩, List.mem_of_getElem? (i := 36) (by decide +kernel), List.mem_of_getElem? (i := 225) (by decide +kernel), List.mem_of_getElem? (i := 226) (by decide +kernel)⟩
theorem lw_p3 : lw_okq (⟨"java/util/ArrayList", "grow", "()[Ljava/lang/Object;"⟩, 3) := ⟨⟨by decide +kernel, by decide +kernel⟩, List.mem_of_getElem? (i := 36) (by decide +kernel), List.mem_of_getElem? (i := 229) (by decide +kernel), List.mem_of_getElem? (i := 230) (by decide +kernel)⟩
theorem lw_p4 : lw_okq (⟨"java/util/ArrayList", "grow", "(I)[Ljava/lang/Object;"⟩, 3) := ⟨⟨by decide +kernel, by decide +kernel⟩, List.mem_of_getElem? (i := 36) (by decide +kernel), List.mem_of_getElem? (i := 233) (by decide +kernel), List.mem_of_getElem? (i := 234) (by decide +kernel)⟩
theorem lw_p5 : lw_okq (⟨"SplitFabric", "finish", "(LSplitFabric$Tag;)V"⟩, 10) := ⟨⟨by decide +kernel, by decide +kernel⟩, List.mem_of_getElem? (i := 22) (by decide +kernel), List.mem_of_getElem? (i := 285) (by decide +kernel), List.mem_of_getElem? (i := 286) (by decide +kernel)⟩
theorem lw_p6 : lw_okq (⟨"SplitFabric", "targetOf", "(LSplitFabric$Tag;)LSplitFabric$Target;"⟩, 10) := ⟨⟨by decide +kernel, by decide +kernel⟩, List.mem_of_getElem? (i := 22) (by decide +kernel), List.mem_of_getElem? (i := 289) (by decide +kernel), List.mem_of_getElem? (i := 290) (by decide +kernel)⟩
theorem lw_p7 : lw_okq (⟨"SplitFabric", "returnNextWord", "()V"⟩, 10) := ⟨⟨by decide +kernel, by decide +kernel⟩, List.mem_of_getElem? (i := 22) (by decide +kernel), List.mem_of_getElem? (i := 293) (by decide +kernel), List.mem_of_getElem? (i := 294) (by decide +kernel)⟩
theorem lw_p8 : lw_okq (⟨"SplitFabric", "chooseGrant", "()LSplitFabric$Tag;"⟩, 10) := ⟨⟨by decide +kernel, by decide +kernel⟩, List.mem_of_getElem? (i := 22) (by decide +kernel), List.mem_of_getElem? (i := 297) (by decide +kernel), List.mem_of_getElem? (i := 298) (by decide +kernel)⟩
theorem lw_p9 : lw_okq (⟨"SplitFabric", "tagOf", "(II)LSplitFabric$Tag;"⟩, 10) := ⟨⟨by decide +kernel, by decide +kernel⟩, List.mem_of_getElem? (i := 22) (by decide +kernel), List.mem_of_getElem? (i := 301) (by decide +kernel), List.mem_of_getElem? (i := 302) (by decide +kernel)⟩
theorem lw_p10 : lw_okq (⟨"SplitFabric", "isEligible", "(LSplitFabric$Tag;)Z"⟩, 10) := ⟨⟨by decide +kernel, by decide +kernel⟩, List.mem_of_getElem? (i := 22) (by decide +kernel), List.mem_of_getElem? (i := 305) (by decide +kernel), List.mem_of_getElem? (i := 306) (by decide +kernel)⟩
theorem lw_p11 : lw_okq (⟨"SplitFabric", "isAdmitted", "(LSplitFabric$Tag;)Z"⟩, 10) := ⟨⟨by decide +kernel, by decide +kernel⟩, List.mem_of_getElem? (i := 22) (by decide +kernel), List.mem_of_getElem? (i := 328) (by decide +kernel), List.mem_of_getElem? (i := 329) (by decide +kernel)⟩
theorem lw_p12 : lw_okq (⟨"SplitFabric", "goesBefore", "(LSplitFabric$Tag;LSplitFabric$Tag;)Z"⟩, 10) := ⟨⟨by decide +kernel, by decide +kernel⟩, List.mem_of_getElem? (i := 22) (by decide +kernel), List.mem_of_getElem? (i := 332) (by decide +kernel), List.mem_of_getElem? (i := 333) (by decide +kernel)⟩
theorem lw_p13 : lw_okq (⟨"SplitFabric", "classOf", "(LSplitFabric$Tag;)I"⟩, 10) := ⟨⟨by decide +kernel, by decide +kernel⟩, List.mem_of_getElem? (i := 22) (by decide +kernel), List.mem_of_getElem? (i := 336) (by decide +kernel), List.mem_of_getElem? (i := 337) (by decide +kernel)⟩
theorem lw_p14 : lw_okq (⟨"SplitFabric", "grant", "(LSplitFabric$Tag;)V"⟩, 10) := ⟨⟨by decide +kernel, by decide +kernel⟩, List.mem_of_getElem? (i := 22) (by decide +kernel), List.mem_of_getElem? (i := 341) (by decide +kernel), List.mem_of_getElem? (i := 342) (by decide +kernel)⟩
theorem lw_p15 : lw_okq (⟨"SplitFabric", "ageWaiting", "()V"⟩, 10) := ⟨⟨by decide +kernel, by decide +kernel⟩, List.mem_of_getElem? (i := 22) (by decide +kernel), List.mem_of_getElem? (i := 352) (by decide +kernel), List.mem_of_getElem? (i := 353) (by decide +kernel)⟩
def lw_privs_1 : List (MethodName × Nat) := [(⟨"SplitFabric", "serveTargets", "()V"⟩, 10), (⟨"SplitFabric", "serve", "(LSplitFabric$Tag;)V"⟩, 10), (⟨"java/util/ArrayList", "add", "(Ljava/lang/Object;[Ljava/lang/Object;I)V"⟩, 3), (⟨"java/util/ArrayList", "grow", "()[Ljava/lang/Object;"⟩, 3), (⟨"java/util/ArrayList", "grow", "(I)[Ljava/lang/Object;"⟩, 3), (⟨"SplitFabric", "finish", "(LSplitFabric$Tag;)V"⟩, 10), (⟨"SplitFabric", "targetOf", "(LSplitFabric$Tag;)LSplitFabric$Target;"⟩, 10), (⟨"SplitFabric", "returnNextWord", "()V"⟩, 10), (⟨"SplitFabric", "chooseGrant", "()LSplitFabric$Tag;"⟩, 10), (⟨"SplitFabric", "tagOf", "(II)LSplitFabric$Tag;"⟩, 10), (⟨"SplitFabric", "isEligible", "(LSplitFabric$Tag;)Z"⟩, 10), (⟨"SplitFabric", "isAdmitted", "(LSplitFabric$Tag;)Z"⟩, 10), (⟨"SplitFabric", "goesBefore", "(LSplitFabric$Tag;LSplitFabric$Tag;)Z"⟩, 10), (⟨"SplitFabric", "classOf", "(LSplitFabric$Tag;)I"⟩, 10), (⟨"SplitFabric", "grant", "(LSplitFabric$Tag;)V"⟩, 10), (⟨"SplitFabric", "ageWaiting", "()V"⟩, 10)]
theorem lw_r1 : ∀ q ∈ lw_privs_1, lw_okq q := List.forall_mem_cons.mpr ⟨lw_p0, List.forall_mem_cons.mpr ⟨lw_p1, List.forall_mem_cons.mpr ⟨lw_p2, List.forall_mem_cons.mpr ⟨lw_p3, List.forall_mem_cons.mpr ⟨lw_p4, List.forall_mem_cons.mpr ⟨lw_p5, List.forall_mem_cons.mpr ⟨lw_p6, List.forall_mem_cons.mpr ⟨lw_p7, List.forall_mem_cons.mpr ⟨lw_p8, List.forall_mem_cons.mpr ⟨lw_p9, List.forall_mem_cons.mpr ⟨lw_p10, List.forall_mem_cons.mpr ⟨lw_p11, List.forall_mem_cons.mpr ⟨lw_p12, List.forall_mem_cons.mpr ⟨lw_p13, List.forall_mem_cons.mpr ⟨lw_p14, List.forall_mem_cons.mpr ⟨lw_p15, fun _ h => absurd h List.not_mem_nil⟩⟩⟩⟩⟩⟩⟩⟩⟩⟩⟩⟩⟩⟩⟩⟩
theorem lw_p16 : lw_okq (⟨"java/lang/Throwable", "fillInStackTrace", "(I)Ljava/lang/Throwable;"⟩, 6) := ⟨⟨by decide +kernel, by decide +kernel⟩, List.mem_of_getElem? (i := 413) (by decide +kernel), List.mem_of_getElem? (i := 411) (by decide +kernel), List.mem_of_getElem? (i := 412) (by decide +kernel)⟩
theorem lw_p17 : lw_okq (⟨"SplitFabric", "holdsSome", "(I)Z"⟩, 10) := ⟨⟨by decide +kernel, by decide +kernel⟩, List.mem_of_getElem? (i := 22) (by decide +kernel), List.mem_of_getElem? (i := 486) (by decide +kernel), List.mem_of_getElem? (i := 487) (by decide +kernel)⟩
theorem lw_p18 : lw_okq (⟨"SplitFabric", "hasWaiting", "(II)Z"⟩, 10) := ⟨⟨by decide +kernel, by decide +kernel⟩, List.mem_of_getElem? (i := 22) (by decide +kernel), List.mem_of_getElem? (i := 490) (by decide +kernel), List.mem_of_getElem? (i := 491) (by decide +kernel)⟩
theorem lw_p19 : lw_okq (⟨"SplitFabric", "holdsTargetOf", "(II)Z"⟩, 10) := ⟨⟨by decide +kernel, by decide +kernel⟩, List.mem_of_getElem? (i := 22) (by decide +kernel), List.mem_of_getElem? (i := 494) (by decide +kernel), List.mem_of_getElem? (i := 495) (by decide +kernel)⟩
theorem lw_p20 : lw_okq (⟨"SplitFabricModel", "refused", "(I)Z"⟩, 23) := ⟨⟨by decide +kernel, by decide +kernel⟩, List.mem_of_getElem? (i := 605) (by decide +kernel), List.mem_of_getElem? (i := 693) (by decide +kernel), List.mem_of_getElem? (i := 694) (by decide +kernel)⟩
theorem lw_p21 : lw_okq (⟨"SplitFabricModel", "isAllowed", "(IIII)Z"⟩, 23) := ⟨⟨by decide +kernel, by decide +kernel⟩, List.mem_of_getElem? (i := 605) (by decide +kernel), List.mem_of_getElem? (i := 704) (by decide +kernel), List.mem_of_getElem? (i := 705) (by decide +kernel)⟩
theorem lw_p22 : lw_okq (⟨"SplitFabricModel", "hasWaiting", "(II)Z"⟩, 23) := ⟨⟨by decide +kernel, by decide +kernel⟩, List.mem_of_getElem? (i := 605) (by decide +kernel), List.mem_of_getElem? (i := 708) (by decide +kernel), List.mem_of_getElem? (i := 709) (by decide +kernel)⟩
theorem lw_p23 : lw_okq (⟨"SplitFabricModel", "one", "()I"⟩, 23) := ⟨⟨by decide +kernel, by decide +kernel⟩, List.mem_of_getElem? (i := 605) (by decide +kernel), List.mem_of_getElem? (i := 720) (by decide +kernel), List.mem_of_getElem? (i := 721) (by decide +kernel)⟩
theorem lw_p24 : lw_okq (⟨"SplitFabricModel", "firstOf", "(I)I"⟩, 23) := ⟨⟨by decide +kernel, by decide +kernel⟩, List.mem_of_getElem? (i := 605) (by decide +kernel), List.mem_of_getElem? (i := 724) (by decide +kernel), List.mem_of_getElem? (i := 725) (by decide +kernel)⟩
theorem lw_p25 : lw_okq (⟨"SplitFabricModel", "target", "(I)I"⟩, 23) := ⟨⟨by decide +kernel, by decide +kernel⟩, List.mem_of_getElem? (i := 605) (by decide +kernel), List.mem_of_getElem? (i := 728) (by decide +kernel), List.mem_of_getElem? (i := 729) (by decide +kernel)⟩
theorem lw_p26 : lw_okq (⟨"SplitFabricModel", "serve", "(I)V"⟩, 23) := ⟨⟨by decide +kernel, by decide +kernel⟩, List.mem_of_getElem? (i := 605) (by decide +kernel), List.mem_of_getElem? (i := 732) (by decide +kernel), List.mem_of_getElem? (i := 733) (by decide +kernel)⟩
theorem lw_p27 : lw_okq (⟨"SplitFabricModel", "giveBack", "()V"⟩, 23) := ⟨⟨by decide +kernel, by decide +kernel⟩, List.mem_of_getElem? (i := 605) (by decide +kernel), List.mem_of_getElem? (i := 736) (by decide +kernel), List.mem_of_getElem? (i := 737) (by decide +kernel)⟩
theorem lw_p28 : lw_okq (⟨"SplitFabricModel", "grant", "()I"⟩, 23) := ⟨⟨by decide +kernel, by decide +kernel⟩, List.mem_of_getElem? (i := 605) (by decide +kernel), List.mem_of_getElem? (i := 740) (by decide +kernel), List.mem_of_getElem? (i := 741) (by decide +kernel)⟩
theorem lw_p29 : lw_okq (⟨"SplitFabricModel", "isEligible", "(I)Z"⟩, 23) := ⟨⟨by decide +kernel, by decide +kernel⟩, List.mem_of_getElem? (i := 605) (by decide +kernel), List.mem_of_getElem? (i := 744) (by decide +kernel), List.mem_of_getElem? (i := 745) (by decide +kernel)⟩
theorem lw_p30 : lw_okq (⟨"SplitFabricModel", "isOpen", "(I)Z"⟩, 23) := ⟨⟨by decide +kernel, by decide +kernel⟩, List.mem_of_getElem? (i := 605) (by decide +kernel), List.mem_of_getElem? (i := 748) (by decide +kernel), List.mem_of_getElem? (i := 749) (by decide +kernel)⟩
theorem lw_p31 : lw_okq (⟨"SplitFabricModel", "meet", "(II)Z"⟩, 23) := ⟨⟨by decide +kernel, by decide +kernel⟩, List.mem_of_getElem? (i := 605) (by decide +kernel), List.mem_of_getElem? (i := 752) (by decide +kernel), List.mem_of_getElem? (i := 753) (by decide +kernel)⟩
def lw_privs_2 : List (MethodName × Nat) := [(⟨"java/lang/Throwable", "fillInStackTrace", "(I)Ljava/lang/Throwable;"⟩, 6), (⟨"SplitFabric", "holdsSome", "(I)Z"⟩, 10), (⟨"SplitFabric", "hasWaiting", "(II)Z"⟩, 10), (⟨"SplitFabric", "holdsTargetOf", "(II)Z"⟩, 10), (⟨"SplitFabricModel", "refused", "(I)Z"⟩, 23), (⟨"SplitFabricModel", "isAllowed", "(IIII)Z"⟩, 23), (⟨"SplitFabricModel", "hasWaiting", "(II)Z"⟩, 23), (⟨"SplitFabricModel", "one", "()I"⟩, 23), (⟨"SplitFabricModel", "firstOf", "(I)I"⟩, 23), (⟨"SplitFabricModel", "target", "(I)I"⟩, 23), (⟨"SplitFabricModel", "serve", "(I)V"⟩, 23), (⟨"SplitFabricModel", "giveBack", "()V"⟩, 23), (⟨"SplitFabricModel", "grant", "()I"⟩, 23), (⟨"SplitFabricModel", "isEligible", "(I)Z"⟩, 23), (⟨"SplitFabricModel", "isOpen", "(I)Z"⟩, 23), (⟨"SplitFabricModel", "meet", "(II)Z"⟩, 23)]
theorem lw_r2 : ∀ q ∈ lw_privs_2, lw_okq q := List.forall_mem_cons.mpr ⟨lw_p16, List.forall_mem_cons.mpr ⟨lw_p17, List.forall_mem_cons.mpr ⟨lw_p18, List.forall_mem_cons.mpr ⟨lw_p19, List.forall_mem_cons.mpr ⟨lw_p20, List.forall_mem_cons.mpr ⟨lw_p21, List.forall_mem_cons.mpr ⟨lw_p22, List.forall_mem_cons.mpr ⟨lw_p23, List.forall_mem_cons.mpr ⟨lw_p24, List.forall_mem_cons.mpr ⟨lw_p25, List.forall_mem_cons.mpr ⟨lw_p26, List.forall_mem_cons.mpr ⟨lw_p27, List.forall_mem_cons.mpr ⟨lw_p28, List.forall_mem_cons.mpr ⟨lw_p29, List.forall_mem_cons.mpr ⟨lw_p30, List.forall_mem_cons.mpr ⟨lw_p31, fun _ h => absurd h List.not_mem_nil⟩⟩⟩⟩⟩⟩⟩⟩⟩⟩⟩⟩⟩⟩⟩⟩
theorem lw_p32 : lw_okq (⟨"SplitFabricModel", "isMapped", "(I)Z"⟩, 23) := ⟨⟨by decide +kernel, by decide +kernel⟩, List.mem_of_getElem? (i := 605) (by decide +kernel), List.mem_of_getElem? (i := 756) (by decide +kernel), List.mem_of_getElem? (i := 757) (by decide +kernel)⟩
theorem lw_p33 : lw_okq (⟨"SplitFabricModel", "creditsOf", "(I)I"⟩, 23) := ⟨⟨by decide +kernel, by decide +kernel⟩, List.mem_of_getElem? (i := 605) (by decide +kernel), List.mem_of_getElem? (i := 760) (by decide +kernel), List.mem_of_getElem? (i := 761) (by decide +kernel)⟩
theorem lw_p34 : lw_okq (⟨"SplitFabricModel", "isBefore", "(II)Z"⟩, 23) := ⟨⟨by decide +kernel, by decide +kernel⟩, List.mem_of_getElem? (i := 605) (by decide +kernel), List.mem_of_getElem? (i := 764) (by decide +kernel), List.mem_of_getElem? (i := 765) (by decide +kernel)⟩
theorem lw_p35 : lw_okq (⟨"SplitFabricModel", "classOf", "(I)I"⟩, 23) := ⟨⟨by decide +kernel, by decide +kernel⟩, List.mem_of_getElem? (i := 605) (by decide +kernel), List.mem_of_getElem? (i := 768) (by decide +kernel), List.mem_of_getElem? (i := 769) (by decide +kernel)⟩
def lw_privs_3 : List (MethodName × Nat) := [(⟨"SplitFabricModel", "isMapped", "(I)Z"⟩, 23), (⟨"SplitFabricModel", "creditsOf", "(I)I"⟩, 23), (⟨"SplitFabricModel", "isBefore", "(II)Z"⟩, 23), (⟨"SplitFabricModel", "classOf", "(I)I"⟩, 23)]
theorem lw_r3 : ∀ q ∈ lw_privs_3, lw_okq q := List.forall_mem_cons.mpr ⟨lw_p32, List.forall_mem_cons.mpr ⟨lw_p33, List.forall_mem_cons.mpr ⟨lw_p34, List.forall_mem_cons.mpr ⟨lw_p35, fun _ h => absurd h List.not_mem_nil⟩⟩⟩⟩
def lw_privs : List (MethodName × Nat) := lw_privs_1 ++ (lw_privs_2 ++ (lw_privs_3))
def lw_tbl : List Cond := k2_sels lw_privs ++ tables_1
theorem lw_privs_ok : ∀ q ∈ lw_privs, lw_okq q := by
  show ∀ q ∈ lw_privs_1 ++ (lw_privs_2 ++ (lw_privs_3)), lw_okq q
  exact List.forall_mem_append.mpr ⟨lw_r1, List.forall_mem_append.mpr ⟨lw_r2, lw_r3⟩⟩
end
section
/-! Names, code and words of the methods; the words that keep. -/
def xBIG : List Cond := lw_tbl.filter goodWord
theorem xG : ∀ w ∈ xBIG, goodWord w = true := fun w h => (List.mem_filter.mp h).2
theorem xm {w : Cond} (h : w ∈ lw_tbl) (g : goodWord w = true) : w ∈ xBIG := List.mem_filter.mpr ⟨h, g⟩
theorem xmi {w : Cond} (i : Nat) (h : tables_1[i]? = some w) (g : goodWord w = true) : w ∈ xBIG := xm (List.mem_append_right _ (List.mem_of_getElem? h)) g
theorem xmp {q : MethodName × Nat} (h : q ∈ lw_privs) (g : goodWord (Cond.selects q.1.cls q.1 q.1) = true) : Cond.selects q.1.cls q.1 q.1 ∈ xBIG := xm (List.mem_append_left _ (List.mem_map.mpr ⟨q, h, rfl⟩)) g
def ySF_init : MethodName := ⟨"SplitFabric", "<init>", "()V"⟩
abbrev bSF_init : ByteArray := prog_1_method_1_code
def yAL_init : MethodName := ⟨"java/util/ArrayList", "<init>", "()V"⟩
abbrev bAL_init : ByteArray := prog_20_method_2_code
def yAB_init : MethodName := ⟨"java/util/AbstractList", "<init>", "()V"⟩
abbrev bAB_init : ByteArray := prog_19_method_1_code
def yAC_init : MethodName := ⟨"java/util/AbstractCollection", "<init>", "()V"⟩
abbrev bAC_init : ByteArray := prog_18_method_1_code
def yTG_init : MethodName := ⟨"SplitFabric$Tag", "<init>", "(II)V"⟩
abbrev bTG_init : ByteArray := prog_3_method_1_code
def yTA_init : MethodName := ⟨"SplitFabric$Target", "<init>", "()V"⟩
abbrev bTA_init : ByteArray := prog_4_method_1_code
def ySF_cycle : MethodName := ⟨"SplitFabric", "cycle", "()I"⟩
abbrev bSF_cycle : ByteArray := prog_1_method_5_code
def ySF_serveTargets : MethodName := ⟨"SplitFabric", "serveTargets", "()V"⟩
abbrev bSF_serveTargets : ByteArray := prog_1_method_28_code
def yTA_leave : MethodName := ⟨"SplitFabric$Target", "leave", "()I"⟩
abbrev bTA_leave : ByteArray := prog_4_method_3_code
def ySF_serve : MethodName := ⟨"SplitFabric", "serve", "(LSplitFabric$Tag;)V"⟩
abbrev bSF_serve : ByteArray := prog_1_method_29_code
def yAL_size : MethodName := ⟨"java/util/ArrayList", "size", "()I"⟩
abbrev bAL_size : ByteArray := prog_20_method_8_code
def ySV_init : MethodName := ⟨"SplitFabric$Served", "<init>", "(LSplitFabric$Tag;I)V"⟩
abbrev bSV_init : ByteArray := prog_2_method_1_code
def yAL_add1 : MethodName := ⟨"java/util/ArrayList", "add", "(Ljava/lang/Object;)Z"⟩
abbrev bAL_add1 : ByteArray := prog_20_method_25_code
def yAL_add3 : MethodName := ⟨"java/util/ArrayList", "add", "(Ljava/lang/Object;[Ljava/lang/Object;I)V"⟩
abbrev bAL_add3 : ByteArray := prog_20_method_24_code
def yAL_grow0 : MethodName := ⟨"java/util/ArrayList", "grow", "()[Ljava/lang/Object;"⟩
abbrev bAL_grow0 : ByteArray := prog_20_method_7_code
def yAL_grow1 : MethodName := ⟨"java/util/ArrayList", "grow", "(I)[Ljava/lang/Object;"⟩
abbrev bAL_grow1 : ByteArray := prog_20_method_6_code
def yAS_newLength : MethodName := ⟨"jdk/internal/util/ArraysSupport", "newLength", "(III)I"⟩
abbrev bAS_newLength : ByteArray := prog_27_method_27_code
def yMA_max : MethodName := ⟨"java/lang/Math", "max", "(II)I"⟩
abbrev bMA_max : ByteArray := prog_14_method_65_code
def yAS_hugeLength : MethodName := ⟨"jdk/internal/util/ArraysSupport", "hugeLength", "(II)I"⟩
abbrev bAS_hugeLength : ByteArray := prog_27_method_28_code
def yAR_copyOf2 : MethodName := ⟨"java/util/Arrays", "copyOf", "([Ljava/lang/Object;I)[Ljava/lang/Object;"⟩
abbrev bAR_copyOf2 : ByteArray := prog_21_method_119_code
def yAR_copyOf3 : MethodName := ⟨"java/util/Arrays", "copyOf", "([Ljava/lang/Object;ILjava/lang/Class;)[Ljava/lang/Object;"⟩
abbrev bAR_copyOf3 : ByteArray := prog_21_method_120_code
def yMA_min : MethodName := ⟨"java/lang/Math", "min", "(II)I"⟩
abbrev bMA_min : ByteArray := prog_14_method_69_code
def yTG_isReading : MethodName := ⟨"SplitFabric$Tag", "isReading", "()Z"⟩
abbrev bTG_isReading : ByteArray := prog_3_method_5_code
def yTG_keep : MethodName := ⟨"SplitFabric$Tag", "keep", "([II)V"⟩
abbrev bTG_keep : ByteArray := prog_3_method_3_code
def ySF_finish : MethodName := ⟨"SplitFabric", "finish", "(LSplitFabric$Tag;)V"⟩
abbrev bSF_finish : ByteArray := prog_1_method_30_code
def ySF_targetOf : MethodName := ⟨"SplitFabric", "targetOf", "(LSplitFabric$Tag;)LSplitFabric$Target;"⟩
abbrev bSF_targetOf : ByteArray := prog_1_method_24_code
def ySF_returnNextWord : MethodName := ⟨"SplitFabric", "returnNextWord", "()V"⟩
abbrev bSF_returnNextWord : ByteArray := prog_1_method_31_code
def ySF_chooseGrant : MethodName := ⟨"SplitFabric", "chooseGrant", "()LSplitFabric$Tag;"⟩
abbrev bSF_chooseGrant : ByteArray := prog_1_method_32_code
def ySF_tagOf : MethodName := ⟨"SplitFabric", "tagOf", "(II)LSplitFabric$Tag;"⟩
abbrev bSF_tagOf : ByteArray := prog_1_method_23_code
def ySF_isEligible : MethodName := ⟨"SplitFabric", "isEligible", "(LSplitFabric$Tag;)Z"⟩
abbrev bSF_isEligible : ByteArray := prog_1_method_35_code
def yTG_isBefore : MethodName := ⟨"SplitFabric$Tag", "isBefore", "(LSplitFabric$Tag;)Z"⟩
abbrev bTG_isBefore : ByteArray := prog_3_method_7_code
def ySF_holdsBack : MethodName := ⟨"SplitFabric", "holdsBack", "(LSplitFabric$Tag;LSplitFabric$Tag;)Z"⟩
abbrev bSF_holdsBack : ByteArray := prog_1_method_36_code
def yTG_isOpen : MethodName := ⟨"SplitFabric$Tag", "isOpen", "()Z"⟩
abbrev bTG_isOpen : ByteArray := prog_3_method_4_code
def yTG_overlaps : MethodName := ⟨"SplitFabric$Tag", "overlaps", "(LSplitFabric$Tag;)Z"⟩
abbrev bTG_overlaps : ByteArray := prog_3_method_8_code
def yTG_isUnmapped : MethodName := ⟨"SplitFabric$Tag", "isUnmapped", "()Z"⟩
abbrev bTG_isUnmapped : ByteArray := prog_3_method_6_code
def ySF_isAdmitted : MethodName := ⟨"SplitFabric", "isAdmitted", "(LSplitFabric$Tag;)Z"⟩
abbrev bSF_isAdmitted : ByteArray := prog_1_method_37_code
def ySF_goesBefore : MethodName := ⟨"SplitFabric", "goesBefore", "(LSplitFabric$Tag;LSplitFabric$Tag;)Z"⟩
abbrev bSF_goesBefore : ByteArray := prog_1_method_33_code
def ySF_classOf : MethodName := ⟨"SplitFabric", "classOf", "(LSplitFabric$Tag;)I"⟩
abbrev bSF_classOf : ByteArray := prog_1_method_34_code
def ySF_grant : MethodName := ⟨"SplitFabric", "grant", "(LSplitFabric$Tag;)V"⟩
abbrev bSF_grant : ByteArray := prog_1_method_38_code
def ySF_enter : MethodName := ⟨"SplitFabric", "enter", "(LSplitFabric$Tag;LSplitFabric$Target;)V"⟩
abbrev bSF_enter : ByteArray := prog_1_method_39_code
def yTA_join : MethodName := ⟨"SplitFabric$Target", "join", "(I)V"⟩
abbrev bTA_join : ByteArray := prog_4_method_2_code
def ySF_ageWaiting : MethodName := ⟨"SplitFabric", "ageWaiting", "()V"⟩
abbrev bSF_ageWaiting : ByteArray := prog_1_method_40_code
def ySF_time : MethodName := ⟨"SplitFabric", "time", "()I"⟩
abbrev bSF_time : ByteArray := prog_1_method_7_code
def ySF_served : MethodName := ⟨"SplitFabric", "served", "()I"⟩
abbrev bSF_served : ByteArray := prog_1_method_17_code
def yLW_data : MethodName := ⟨"SplitFabricLaw", "data", "(LSplitFabric;III)I"⟩
abbrev bLW_data : ByteArray := method_3_code
def ySF_data : MethodName := ⟨"SplitFabric", "data", "(III)V"⟩
abbrev bSF_data : ByteArray := prog_1_method_2_code
def ySF_checkIndex : MethodName := ⟨"SplitFabric", "checkIndex", "(II)V"⟩
abbrev bSF_checkIndex : ByteArray := prog_1_method_19_code
def yLW_issue : MethodName := ⟨"SplitFabricLaw", "issue", "(LSplitFabric;IIIII)I"⟩
abbrev bLW_issue : ByteArray := method_4_code
def ySF_issue : MethodName := ⟨"SplitFabric", "issue", "(IIIII)V"⟩
abbrev bSF_issue : ByteArray := prog_1_method_3_code
def ySF_checkRequest : MethodName := ⟨"SplitFabric", "checkRequest", "(III)V"⟩
abbrev bSF_checkRequest : ByteArray := prog_1_method_22_code
def ySF_checkArgument : MethodName := ⟨"SplitFabric", "checkArgument", "(Z)V"⟩
abbrev bSF_checkArgument : ByteArray := prog_1_method_20_code
def ySF_checkState : MethodName := ⟨"SplitFabric", "checkState", "(Z)V"⟩
abbrev bSF_checkState : ByteArray := prog_1_method_21_code
def ySF_holdsSome : MethodName := ⟨"SplitFabric", "holdsSome", "(I)Z"⟩
abbrev bSF_holdsSome : ByteArray := prog_1_method_25_code
def ySF_hasWaiting : MethodName := ⟨"SplitFabric", "hasWaiting", "(II)Z"⟩
abbrev bSF_hasWaiting : ByteArray := prog_1_method_27_code
def ySF_holdsTargetOf : MethodName := ⟨"SplitFabric", "holdsTargetOf", "(II)Z"⟩
abbrev bSF_holdsTargetOf : ByteArray := prog_1_method_26_code
def yTG_begin : MethodName := ⟨"SplitFabric$Tag", "begin", "(IIII)V"⟩
abbrev bTG_begin : ByteArray := prog_3_method_2_code
def yLW_ready : MethodName := ⟨"SplitFabricLaw", "ready", "(LSplitFabric;IZ)I"⟩
abbrev bLW_ready : ByteArray := method_5_code
def ySF_ready : MethodName := ⟨"SplitFabric", "ready", "(IZ)V"⟩
abbrev bSF_ready : ByteArray := prog_1_method_4_code
def yLW_cycles : MethodName := ⟨"SplitFabricLaw", "cycles", "(LSplitFabric;I[J)I"⟩
abbrev bLW_cycles : ByteArray := method_6_code
def ySF_cycles : MethodName := ⟨"SplitFabric", "cycles", "(I)I"⟩
abbrev bSF_cycles : ByteArray := prog_1_method_6_code
def yLW_state : MethodName := ⟨"SplitFabricLaw", "state", "(LSplitFabric;II[J)I"⟩
abbrev bLW_state : ByteArray := method_7_code
def ySF_state : MethodName := ⟨"SplitFabric", "state", "(II)I"⟩
abbrev bSF_state : ByteArray := prog_1_method_8_code
def yLW_word : MethodName := ⟨"SplitFabricLaw", "word", "(LSplitFabric;III[J)I"⟩
abbrev bLW_word : ByteArray := method_8_code
def ySF_word : MethodName := ⟨"SplitFabric", "word", "(III)I"⟩
abbrev bSF_word : ByteArray := prog_1_method_9_code
def yLW_take : MethodName := ⟨"SplitFabricLaw", "take", "(LSplitFabric;II[J)I"⟩
abbrev bLW_take : ByteArray := method_9_code
def ySF_take : MethodName := ⟨"SplitFabric", "take", "(II)Z"⟩
abbrev bSF_take : ByteArray := prog_1_method_10_code
def yLW_base : MethodName := ⟨"SplitFabricLaw", "base", "(LSplitFabric;II)I"⟩
abbrev bLW_base : ByteArray := method_10_code
def ySF_base : MethodName := ⟨"SplitFabric", "base", "(II)V"⟩
abbrev bSF_base : ByteArray := prog_1_method_11_code
def yLW_waits : MethodName := ⟨"SplitFabricLaw", "waits", "(LSplitFabric;I[J)I"⟩
abbrev bLW_waits : ByteArray := method_11_code
def ySF_waits : MethodName := ⟨"SplitFabric", "waits", "(I)I"⟩
abbrev bSF_waits : ByteArray := prog_1_method_12_code
def yLW_reset : MethodName := ⟨"SplitFabricLaw", "reset", "(LSplitFabric;I[J)I"⟩
abbrev bLW_reset : ByteArray := method_12_code
def ySF_reset : MethodName := ⟨"SplitFabric", "reset", "(I)I"⟩
abbrev bSF_reset : ByteArray := prog_1_method_13_code
def yLW_credits : MethodName := ⟨"SplitFabricLaw", "credits", "(LSplitFabric;I[J)I"⟩
abbrev bLW_credits : ByteArray := method_13_code
def ySF_credits : MethodName := ⟨"SplitFabric", "credits", "(I)I"⟩
abbrev bSF_credits : ByteArray := prog_1_method_14_code
def yLW_holder : MethodName := ⟨"SplitFabricLaw", "holder", "(LSplitFabric;I[J)I"⟩
abbrev bLW_holder : ByteArray := method_14_code
def ySF_holder : MethodName := ⟨"SplitFabric", "holder", "(I)I"⟩
abbrev bSF_holder : ByteArray := prog_1_method_15_code
def yLW_memory : MethodName := ⟨"SplitFabricLaw", "memory", "(LSplitFabric;I[J)I"⟩
abbrev bLW_memory : ByteArray := method_15_code
def ySF_memory : MethodName := ⟨"SplitFabric", "memory", "(I)I"⟩
abbrev bSF_memory : ByteArray := prog_1_method_16_code
def yLW_service : MethodName := ⟨"SplitFabricLaw", "service", "(LSplitFabric;II[J)I"⟩
abbrev bLW_service : ByteArray := method_16_code
def ySF_service : MethodName := ⟨"SplitFabric", "service", "(II)I"⟩
abbrev bSF_service : ByteArray := prog_1_method_18_code
def yAL_get : MethodName := ⟨"java/util/ArrayList", "get", "(I)Ljava/lang/Object;"⟩
abbrev bAL_get : ByteArray := prog_20_method_20_code
def yOB_checkIndex : MethodName := ⟨"java/util/Objects", "checkIndex", "(II)I"⟩
abbrev bOB_checkIndex : ByteArray := prog_24_method_17_code
def yPC_checkIndex : MethodName := ⟨"jdk/internal/util/Preconditions", "checkIndex", "(IILjava/util/function/BiFunction;)I"⟩
abbrev bPC_checkIndex : ByteArray := prog_28_method_11_code
def yAL_elementData : MethodName := ⟨"java/util/ArrayList", "elementData", "(I)Ljava/lang/Object;"⟩
abbrev bAL_elementData : ByteArray := prog_20_method_18_code
def ySV_fact : MethodName := ⟨"SplitFabric$Served", "fact", "(I)I"⟩
abbrev bSV_fact : ByteArray := prog_2_method_2_code
def yMD_init : MethodName := ⟨"SplitFabricModel", "<init>", "()V"⟩
abbrev bMD_init : ByteArray := prog_6_method_1_code
def yMD_thrown : MethodName := ⟨"SplitFabricModel", "thrown", "()I"⟩
abbrev bMD_thrown : ByteArray := prog_6_method_2_code
def yMD_data : MethodName := ⟨"SplitFabricModel", "data", "(III)V"⟩
abbrev bMD_data : ByteArray := prog_6_method_5_code
def yMD_isIn : MethodName := ⟨"SplitFabricModel", "isIn", "(II)Z"⟩
abbrev bMD_isIn : ByteArray := prog_6_method_4_code
def yMD_refused : MethodName := ⟨"SplitFabricModel", "refused", "(I)Z"⟩
abbrev bMD_refused : ByteArray := prog_6_method_3_code
def yMD_issue : MethodName := ⟨"SplitFabricModel", "issue", "(IIIII)V"⟩
abbrev bMD_issue : ByteArray := prog_6_method_9_code
def yMD_isSound : MethodName := ⟨"SplitFabricModel", "isSound", "(III)Z"⟩
abbrev bMD_isSound : ByteArray := prog_6_method_6_code
def yMD_isAllowed : MethodName := ⟨"SplitFabricModel", "isAllowed", "(IIII)Z"⟩
abbrev bMD_isAllowed : ByteArray := prog_6_method_8_code
def yMD_hasWaiting : MethodName := ⟨"SplitFabricModel", "hasWaiting", "(II)Z"⟩
abbrev bMD_hasWaiting : ByteArray := prog_6_method_7_code
def yMD_ready : MethodName := ⟨"SplitFabricModel", "ready", "(IZ)V"⟩
abbrev bMD_ready : ByteArray := prog_6_method_10_code
def yMD_cycle : MethodName := ⟨"SplitFabricModel", "cycle", "()I"⟩
abbrev bMD_cycle : ByteArray := prog_6_method_24_code
def yMD_one : MethodName := ⟨"SplitFabricModel", "one", "()I"⟩
abbrev bMD_one : ByteArray := prog_6_method_23_code
def yMD_firstOf : MethodName := ⟨"SplitFabricModel", "firstOf", "(I)I"⟩
abbrev bMD_firstOf : ByteArray := prog_6_method_15_code
def yMD_target : MethodName := ⟨"SplitFabricModel", "target", "(I)I"⟩
abbrev bMD_target : ByteArray := prog_6_method_12_code
def yMD_serve : MethodName := ⟨"SplitFabricModel", "serve", "(I)V"⟩
abbrev bMD_serve : ByteArray := prog_6_method_16_code
def yMD_giveBack : MethodName := ⟨"SplitFabricModel", "giveBack", "()V"⟩
abbrev bMD_giveBack : ByteArray := prog_6_method_17_code
def yMD_grant : MethodName := ⟨"SplitFabricModel", "grant", "()I"⟩
abbrev bMD_grant : ByteArray := prog_6_method_22_code
def yMD_isEligible : MethodName := ⟨"SplitFabricModel", "isEligible", "(I)Z"⟩
abbrev bMD_isEligible : ByteArray := prog_6_method_19_code
def yMD_isOpen : MethodName := ⟨"SplitFabricModel", "isOpen", "(I)Z"⟩
abbrev bMD_isOpen : ByteArray := prog_6_method_11_code
def yMD_meet : MethodName := ⟨"SplitFabricModel", "meet", "(II)Z"⟩
abbrev bMD_meet : ByteArray := prog_6_method_18_code
def yMD_isMapped : MethodName := ⟨"SplitFabricModel", "isMapped", "(I)Z"⟩
abbrev bMD_isMapped : ByteArray := prog_6_method_13_code
def yMD_creditsOf : MethodName := ⟨"SplitFabricModel", "creditsOf", "(I)I"⟩
abbrev bMD_creditsOf : ByteArray := prog_6_method_14_code
def yMD_isBefore : MethodName := ⟨"SplitFabricModel", "isBefore", "(II)Z"⟩
abbrev bMD_isBefore : ByteArray := prog_6_method_21_code
def yMD_classOf : MethodName := ⟨"SplitFabricModel", "classOf", "(I)I"⟩
abbrev bMD_classOf : ByteArray := prog_6_method_20_code
def yMD_cycles : MethodName := ⟨"SplitFabricModel", "cycles", "(I)I"⟩
abbrev bMD_cycles : ByteArray := prog_6_method_25_code
def yMD_time : MethodName := ⟨"SplitFabricModel", "time", "()I"⟩
abbrev bMD_time : ByteArray := prog_6_method_26_code
def yMD_state : MethodName := ⟨"SplitFabricModel", "state", "(II)I"⟩
abbrev bMD_state : ByteArray := prog_6_method_27_code
def yMD_word : MethodName := ⟨"SplitFabricModel", "word", "(III)I"⟩
abbrev bMD_word : ByteArray := prog_6_method_28_code
def yMD_take : MethodName := ⟨"SplitFabricModel", "take", "(II)Z"⟩
abbrev bMD_take : ByteArray := prog_6_method_29_code
def yMD_base : MethodName := ⟨"SplitFabricModel", "base", "(II)V"⟩
abbrev bMD_base : ByteArray := prog_6_method_30_code
def yMD_waits : MethodName := ⟨"SplitFabricModel", "waits", "(I)I"⟩
abbrev bMD_waits : ByteArray := prog_6_method_31_code
def yMD_reset : MethodName := ⟨"SplitFabricModel", "reset", "(I)I"⟩
abbrev bMD_reset : ByteArray := prog_6_method_32_code
def yMD_credits : MethodName := ⟨"SplitFabricModel", "credits", "(I)I"⟩
abbrev bMD_credits : ByteArray := prog_6_method_33_code
def yMD_holder : MethodName := ⟨"SplitFabricModel", "holder", "(I)I"⟩
abbrev bMD_holder : ByteArray := prog_6_method_34_code
def yMD_memory : MethodName := ⟨"SplitFabricModel", "memory", "(I)I"⟩
abbrev bMD_memory : ByteArray := prog_6_method_35_code
def yMD_served : MethodName := ⟨"SplitFabricModel", "served", "()I"⟩
abbrev bMD_served : ByteArray := prog_6_method_36_code
def yMD_service : MethodName := ⟨"SplitFabricModel", "service", "(II)I"⟩
abbrev bMD_service : ByteArray := prog_6_method_37_code
end
section
/-! decode rows: Tag, Target, Served -/
theorem dTG_init_0 : decode bTG_init 0 = .ok (.aload_n 0, 1) := by decide +kernel
theorem dTG_init_1 : decode bTG_init 1 = .ok (.invokespecial 3, 3) := by decide +kernel
theorem dTG_init_4 : decode bTG_init 4 = .ok (.aload_n 0, 1) := by decide +kernel
theorem dTG_init_5 : decode bTG_init 5 = .ok (.iconst 4, 1) := by decide +kernel
theorem dTG_init_6 : decode bTG_init 6 = .ok (.newarray .int, 2) := by decide +kernel
theorem dTG_init_8 : decode bTG_init 8 = .ok (.putfield 9, 3) := by decide +kernel
theorem dTG_init_11 : decode bTG_init 11 = .ok (.aload_n 0, 1) := by decide +kernel
theorem dTG_init_12 : decode bTG_init 12 = .ok (.iconst 0, 1) := by decide +kernel
theorem dTG_init_13 : decode bTG_init 13 = .ok (.putfield 15, 3) := by decide +kernel
theorem dTG_init_16 : decode bTG_init 16 = .ok (.aload_n 0, 1) := by decide +kernel
theorem dTG_init_17 : decode bTG_init 17 = .ok (.iconst 0, 1) := by decide +kernel
theorem dTG_init_18 : decode bTG_init 18 = .ok (.putfield 19, 3) := by decide +kernel
theorem dTG_init_21 : decode bTG_init 21 = .ok (.aload_n 0, 1) := by decide +kernel
theorem dTG_init_22 : decode bTG_init 22 = .ok (.iconst 0, 1) := by decide +kernel
theorem dTG_init_23 : decode bTG_init 23 = .ok (.putfield 22, 3) := by decide +kernel
theorem dTG_init_26 : decode bTG_init 26 = .ok (.aload_n 0, 1) := by decide +kernel
theorem dTG_init_27 : decode bTG_init 27 = .ok (.iconst 0, 1) := by decide +kernel
theorem dTG_init_28 : decode bTG_init 28 = .ok (.putfield 25, 3) := by decide +kernel
theorem dTG_init_31 : decode bTG_init 31 = .ok (.aload_n 0, 1) := by decide +kernel
theorem dTG_init_32 : decode bTG_init 32 = .ok (.iconst 0, 1) := by decide +kernel
theorem dTG_init_33 : decode bTG_init 33 = .ok (.putfield 28, 3) := by decide +kernel
theorem dTG_init_36 : decode bTG_init 36 = .ok (.aload_n 0, 1) := by decide +kernel
theorem dTG_init_37 : decode bTG_init 37 = .ok (.iconst 0, 1) := by decide +kernel
theorem dTG_init_38 : decode bTG_init 38 = .ok (.putfield 31, 3) := by decide +kernel
theorem dTG_init_41 : decode bTG_init 41 = .ok (.aload_n 0, 1) := by decide +kernel
theorem dTG_init_42 : decode bTG_init 42 = .ok (.iconst 0, 1) := by decide +kernel
theorem dTG_init_43 : decode bTG_init 43 = .ok (.putfield 34, 3) := by decide +kernel
theorem dTG_init_46 : decode bTG_init 46 = .ok (.aload_n 0, 1) := by decide +kernel
theorem dTG_init_47 : decode bTG_init 47 = .ok (.iconst 0, 1) := by decide +kernel
theorem dTG_init_48 : decode bTG_init 48 = .ok (.putfield 38, 3) := by decide +kernel
theorem dTG_init_51 : decode bTG_init 51 = .ok (.aload_n 0, 1) := by decide +kernel
theorem dTG_init_52 : decode bTG_init 52 = .ok (.iload_n 1, 1) := by decide +kernel
theorem dTG_init_53 : decode bTG_init 53 = .ok (.putfield 41, 3) := by decide +kernel
theorem dTG_init_56 : decode bTG_init 56 = .ok (.aload_n 0, 1) := by decide +kernel
theorem dTG_init_57 : decode bTG_init 57 = .ok (.iload_n 2, 1) := by decide +kernel
theorem dTG_init_58 : decode bTG_init 58 = .ok (.putfield 44, 3) := by decide +kernel
theorem dTG_init_61 : decode bTG_init 61 = .ok (.return_, 1) := by decide +kernel
theorem dTA_init_0 : decode bTA_init 0 = .ok (.aload_n 0, 1) := by decide +kernel
theorem dTA_init_1 : decode bTA_init 1 = .ok (.invokespecial 3, 3) := by decide +kernel
theorem dTA_init_4 : decode bTA_init 4 = .ok (.aload_n 0, 1) := by decide +kernel
theorem dTA_init_5 : decode bTA_init 5 = .ok (.iconst 4, 1) := by decide +kernel
theorem dTA_init_6 : decode bTA_init 6 = .ok (.newarray .int, 2) := by decide +kernel
theorem dTA_init_8 : decode bTA_init 8 = .ok (.putfield 9, 3) := by decide +kernel
theorem dTA_init_11 : decode bTA_init 11 = .ok (.aload_n 0, 1) := by decide +kernel
theorem dTA_init_12 : decode bTA_init 12 = .ok (.iconst 0, 1) := by decide +kernel
theorem dTA_init_13 : decode bTA_init 13 = .ok (.putfield 15, 3) := by decide +kernel
theorem dTA_init_16 : decode bTA_init 16 = .ok (.aload_n 0, 1) := by decide +kernel
theorem dTA_init_17 : decode bTA_init 17 = .ok (.iconst 4, 1) := by decide +kernel
theorem dTA_init_18 : decode bTA_init 18 = .ok (.putfield 19, 3) := by decide +kernel
theorem dTA_init_21 : decode bTA_init 21 = .ok (.aload_n 0, 1) := by decide +kernel
theorem dTA_init_22 : decode bTA_init 22 = .ok (.iconst (-1), 1) := by decide +kernel
theorem dTA_init_23 : decode bTA_init 23 = .ok (.putfield 22, 3) := by decide +kernel
theorem dTA_init_26 : decode bTA_init 26 = .ok (.aload_n 0, 1) := by decide +kernel
theorem dTA_init_27 : decode bTA_init 27 = .ok (.iconst 0, 1) := by decide +kernel
theorem dTA_init_28 : decode bTA_init 28 = .ok (.putfield 25, 3) := by decide +kernel
theorem dTA_init_31 : decode bTA_init 31 = .ok (.return_, 1) := by decide +kernel
theorem dTA_leave_0 : decode bTA_leave 0 = .ok (.aload_n 0, 1) := by decide +kernel
theorem dTA_leave_1 : decode bTA_leave 1 = .ok (.getfield 9, 3) := by decide +kernel
theorem dTA_leave_4 : decode bTA_leave 4 = .ok (.iconst 0, 1) := by decide +kernel
theorem dTA_leave_5 : decode bTA_leave 5 = .ok (.iaload, 1) := by decide +kernel
theorem dTA_leave_6 : decode bTA_leave 6 = .ok (.istore_n 1, 1) := by decide +kernel
theorem dTA_leave_7 : decode bTA_leave 7 = .ok (.aload_n 0, 1) := by decide +kernel
theorem dTA_leave_8 : decode bTA_leave 8 = .ok (.getfield 15, 3) := by decide +kernel
theorem dTA_leave_11 : decode bTA_leave 11 = .ok (.ifCond .le 30, 3) := by decide +kernel
theorem dTA_leave_14 : decode bTA_leave 14 = .ok (.aload_n 0, 1) := by decide +kernel
theorem dTA_leave_15 : decode bTA_leave 15 = .ok (.dup, 1) := by decide +kernel
theorem dTA_leave_16 : decode bTA_leave 16 = .ok (.getfield 15, 3) := by decide +kernel
theorem dTA_leave_19 : decode bTA_leave 19 = .ok (.iconst 1, 1) := by decide +kernel
theorem dTA_leave_20 : decode bTA_leave 20 = .ok (.isub, 1) := by decide +kernel
theorem dTA_leave_21 : decode bTA_leave 21 = .ok (.putfield 15, 3) := by decide +kernel
theorem dTA_leave_24 : decode bTA_leave 24 = .ok (.aload_n 0, 1) := by decide +kernel
theorem dTA_leave_25 : decode bTA_leave 25 = .ok (.getfield 9, 3) := by decide +kernel
theorem dTA_leave_28 : decode bTA_leave 28 = .ok (.iconst 1, 1) := by decide +kernel
theorem dTA_leave_29 : decode bTA_leave 29 = .ok (.aload_n 0, 1) := by decide +kernel
theorem dTA_leave_30 : decode bTA_leave 30 = .ok (.getfield 9, 3) := by decide +kernel
theorem dTA_leave_33 : decode bTA_leave 33 = .ok (.iconst 0, 1) := by decide +kernel
theorem dTA_leave_34 : decode bTA_leave 34 = .ok (.aload_n 0, 1) := by decide +kernel
theorem dTA_leave_35 : decode bTA_leave 35 = .ok (.getfield 15, 3) := by decide +kernel
theorem dTA_leave_38 : decode bTA_leave 38 = .ok (.invokestatic 29, 3) := by decide +kernel
theorem dTA_leave_41 : decode bTA_leave 41 = .ok (.iload_n 1, 1) := by decide +kernel
theorem dTA_leave_42 : decode bTA_leave 42 = .ok (.ireturn, 1) := by decide +kernel
theorem dSV_init_0 : decode bSV_init 0 = .ok (.aload_n 0, 1) := by decide +kernel
theorem dSV_init_1 : decode bSV_init 1 = .ok (.invokespecial 1, 3) := by decide +kernel
theorem dSV_init_4 : decode bSV_init 4 = .ok (.aload_n 0, 1) := by decide +kernel
theorem dSV_init_5 : decode bSV_init 5 = .ok (.aload_n 1, 1) := by decide +kernel
theorem dSV_init_6 : decode bSV_init 6 = .ok (.getfield 7, 3) := by decide +kernel
theorem dSV_init_9 : decode bSV_init 9 = .ok (.putfield 13, 3) := by decide +kernel
theorem dSV_init_12 : decode bSV_init 12 = .ok (.aload_n 0, 1) := by decide +kernel
theorem dSV_init_13 : decode bSV_init 13 = .ok (.aload_n 1, 1) := by decide +kernel
theorem dSV_init_14 : decode bSV_init 14 = .ok (.getfield 16, 3) := by decide +kernel
theorem dSV_init_17 : decode bSV_init 17 = .ok (.putfield 19, 3) := by decide +kernel
theorem dSV_init_20 : decode bSV_init 20 = .ok (.aload_n 0, 1) := by decide +kernel
theorem dSV_init_21 : decode bSV_init 21 = .ok (.aload_n 1, 1) := by decide +kernel
theorem dSV_init_22 : decode bSV_init 22 = .ok (.getfield 22, 3) := by decide +kernel
theorem dSV_init_25 : decode bSV_init 25 = .ok (.putfield 25, 3) := by decide +kernel
theorem dSV_init_28 : decode bSV_init 28 = .ok (.aload_n 0, 1) := by decide +kernel
theorem dSV_init_29 : decode bSV_init 29 = .ok (.aload_n 1, 1) := by decide +kernel
theorem dSV_init_30 : decode bSV_init 30 = .ok (.getfield 26, 3) := by decide +kernel
theorem dSV_init_33 : decode bSV_init 33 = .ok (.putfield 29, 3) := by decide +kernel
theorem dSV_init_36 : decode bSV_init 36 = .ok (.aload_n 0, 1) := by decide +kernel
theorem dSV_init_37 : decode bSV_init 37 = .ok (.aload_n 1, 1) := by decide +kernel
theorem dSV_init_38 : decode bSV_init 38 = .ok (.getfield 30, 3) := by decide +kernel
theorem dSV_init_41 : decode bSV_init 41 = .ok (.putfield 33, 3) := by decide +kernel
theorem dSV_init_44 : decode bSV_init 44 = .ok (.aload_n 0, 1) := by decide +kernel
theorem dSV_init_45 : decode bSV_init 45 = .ok (.iload_n 2, 1) := by decide +kernel
theorem dSV_init_46 : decode bSV_init 46 = .ok (.putfield 34, 3) := by decide +kernel
theorem dSV_init_49 : decode bSV_init 49 = .ok (.return_, 1) := by decide +kernel
theorem dTG_isReading_0 : decode bTG_isReading 0 = .ok (.aload_n 0, 1) := by decide +kernel
theorem dTG_isReading_1 : decode bTG_isReading 1 = .ok (.getfield 19, 3) := by decide +kernel
theorem dTG_isReading_4 : decode bTG_isReading 4 = .ok (.ifCond .eq 11, 3) := by decide +kernel
theorem dTG_isReading_7 : decode bTG_isReading 7 = .ok (.aload_n 0, 1) := by decide +kernel
theorem dTG_isReading_8 : decode bTG_isReading 8 = .ok (.getfield 19, 3) := by decide +kernel
theorem dTG_isReading_11 : decode bTG_isReading 11 = .ok (.iconst 2, 1) := by decide +kernel
theorem dTG_isReading_12 : decode bTG_isReading 12 = .ok (.if_icmp .ne 7, 3) := by decide +kernel
theorem dTG_isReading_15 : decode bTG_isReading 15 = .ok (.iconst 1, 1) := by decide +kernel
theorem dTG_isReading_16 : decode bTG_isReading 16 = .ok (.goto 4, 3) := by decide +kernel
theorem dTG_isReading_19 : decode bTG_isReading 19 = .ok (.iconst 0, 1) := by decide +kernel
theorem dTG_isReading_20 : decode bTG_isReading 20 = .ok (.ireturn, 1) := by decide +kernel
theorem dTG_keep_0 : decode bTG_keep 0 = .ok (.aload_n 1, 1) := by decide +kernel
theorem dTG_keep_1 : decode bTG_keep 1 = .ok (.iload_n 2, 1) := by decide +kernel
theorem dTG_keep_2 : decode bTG_keep 2 = .ok (.aload_n 0, 1) := by decide +kernel
theorem dTG_keep_3 : decode bTG_keep 3 = .ok (.getfield 9, 3) := by decide +kernel
theorem dTG_keep_6 : decode bTG_keep 6 = .ok (.iconst 0, 1) := by decide +kernel
theorem dTG_keep_7 : decode bTG_keep 7 = .ok (.aload_n 0, 1) := by decide +kernel
theorem dTG_keep_8 : decode bTG_keep 8 = .ok (.getfield 25, 3) := by decide +kernel
theorem dTG_keep_11 : decode bTG_keep 11 = .ok (.invokestatic 47, 3) := by decide +kernel
theorem dTG_keep_14 : decode bTG_keep 14 = .ok (.return_, 1) := by decide +kernel
theorem dTG_isBefore_0 : decode bTG_isBefore 0 = .ok (.aload_n 0, 1) := by decide +kernel
theorem dTG_isBefore_1 : decode bTG_isBefore 1 = .ok (.getfield 28, 3) := by decide +kernel
theorem dTG_isBefore_4 : decode bTG_isBefore 4 = .ok (.aload_n 1, 1) := by decide +kernel
theorem dTG_isBefore_5 : decode bTG_isBefore 5 = .ok (.getfield 28, 3) := by decide +kernel
theorem dTG_isBefore_8 : decode bTG_isBefore 8 = .ok (.if_icmp .ge 7, 3) := by decide +kernel
theorem dTG_isBefore_11 : decode bTG_isBefore 11 = .ok (.iconst 1, 1) := by decide +kernel
theorem dTG_isBefore_12 : decode bTG_isBefore 12 = .ok (.goto 4, 3) := by decide +kernel
theorem dTG_isBefore_15 : decode bTG_isBefore 15 = .ok (.iconst 0, 1) := by decide +kernel
theorem dTG_isBefore_16 : decode bTG_isBefore 16 = .ok (.ireturn, 1) := by decide +kernel
theorem dTG_isOpen_0 : decode bTG_isOpen 0 = .ok (.aload_n 0, 1) := by decide +kernel
theorem dTG_isOpen_1 : decode bTG_isOpen 1 = .ok (.getfield 15, 3) := by decide +kernel
theorem dTG_isOpen_4 : decode bTG_isOpen 4 = .ok (.iconst 1, 1) := by decide +kernel
theorem dTG_isOpen_5 : decode bTG_isOpen 5 = .ok (.if_icmp .eq 11, 3) := by decide +kernel
theorem dTG_isOpen_8 : decode bTG_isOpen 8 = .ok (.aload_n 0, 1) := by decide +kernel
theorem dTG_isOpen_9 : decode bTG_isOpen 9 = .ok (.getfield 15, 3) := by decide +kernel
theorem dTG_isOpen_12 : decode bTG_isOpen 12 = .ok (.iconst 2, 1) := by decide +kernel
theorem dTG_isOpen_13 : decode bTG_isOpen 13 = .ok (.if_icmp .ne 7, 3) := by decide +kernel
theorem dTG_isOpen_16 : decode bTG_isOpen 16 = .ok (.iconst 1, 1) := by decide +kernel
theorem dTG_isOpen_17 : decode bTG_isOpen 17 = .ok (.goto 4, 3) := by decide +kernel
theorem dTG_isOpen_20 : decode bTG_isOpen 20 = .ok (.iconst 0, 1) := by decide +kernel
theorem dTG_isOpen_21 : decode bTG_isOpen 21 = .ok (.ireturn, 1) := by decide +kernel
theorem dTG_overlaps_0 : decode bTG_overlaps 0 = .ok (.aload_n 0, 1) := by decide +kernel
theorem dTG_overlaps_1 : decode bTG_overlaps 1 = .ok (.getfield 22, 3) := by decide +kernel
theorem dTG_overlaps_4 : decode bTG_overlaps 4 = .ok (.aload_n 1, 1) := by decide +kernel
theorem dTG_overlaps_5 : decode bTG_overlaps 5 = .ok (.getfield 22, 3) := by decide +kernel
theorem dTG_overlaps_8 : decode bTG_overlaps 8 = .ok (.aload_n 1, 1) := by decide +kernel
theorem dTG_overlaps_9 : decode bTG_overlaps 9 = .ok (.getfield 25, 3) := by decide +kernel
theorem dTG_overlaps_12 : decode bTG_overlaps 12 = .ok (.iadd, 1) := by decide +kernel
theorem dTG_overlaps_13 : decode bTG_overlaps 13 = .ok (.if_icmp .ge 23, 3) := by decide +kernel
theorem dTG_overlaps_16 : decode bTG_overlaps 16 = .ok (.aload_n 1, 1) := by decide +kernel
theorem dTG_overlaps_17 : decode bTG_overlaps 17 = .ok (.getfield 22, 3) := by decide +kernel
theorem dTG_overlaps_20 : decode bTG_overlaps 20 = .ok (.aload_n 0, 1) := by decide +kernel
theorem dTG_overlaps_21 : decode bTG_overlaps 21 = .ok (.getfield 22, 3) := by decide +kernel
theorem dTG_overlaps_24 : decode bTG_overlaps 24 = .ok (.aload_n 0, 1) := by decide +kernel
theorem dTG_overlaps_25 : decode bTG_overlaps 25 = .ok (.getfield 25, 3) := by decide +kernel
theorem dTG_overlaps_28 : decode bTG_overlaps 28 = .ok (.iadd, 1) := by decide +kernel
theorem dTG_overlaps_29 : decode bTG_overlaps 29 = .ok (.if_icmp .ge 7, 3) := by decide +kernel
theorem dTG_overlaps_32 : decode bTG_overlaps 32 = .ok (.iconst 1, 1) := by decide +kernel
theorem dTG_overlaps_33 : decode bTG_overlaps 33 = .ok (.goto 4, 3) := by decide +kernel
theorem dTG_overlaps_36 : decode bTG_overlaps 36 = .ok (.iconst 0, 1) := by decide +kernel
theorem dTG_overlaps_37 : decode bTG_overlaps 37 = .ok (.ireturn, 1) := by decide +kernel
theorem dTG_isUnmapped_0 : decode bTG_isUnmapped 0 = .ok (.aload_n 0, 1) := by decide +kernel
theorem dTG_isUnmapped_1 : decode bTG_isUnmapped 1 = .ok (.getfield 22, 3) := by decide +kernel
theorem dTG_isUnmapped_4 : decode bTG_isUnmapped 4 = .ok (.bipush 48, 2) := by decide +kernel
theorem dTG_isUnmapped_6 : decode bTG_isUnmapped 6 = .ok (.if_icmp .lt 7, 3) := by decide +kernel
theorem dTG_isUnmapped_9 : decode bTG_isUnmapped 9 = .ok (.iconst 1, 1) := by decide +kernel
theorem dTG_isUnmapped_10 : decode bTG_isUnmapped 10 = .ok (.goto 4, 3) := by decide +kernel
theorem dTG_isUnmapped_13 : decode bTG_isUnmapped 13 = .ok (.iconst 0, 1) := by decide +kernel
theorem dTG_isUnmapped_14 : decode bTG_isUnmapped 14 = .ok (.ireturn, 1) := by decide +kernel
theorem dTA_join_0 : decode bTA_join 0 = .ok (.aload_n 0, 1) := by decide +kernel
theorem dTA_join_1 : decode bTA_join 1 = .ok (.getfield 15, 3) := by decide +kernel
theorem dTA_join_4 : decode bTA_join 4 = .ok (.iconst 4, 1) := by decide +kernel
theorem dTA_join_5 : decode bTA_join 5 = .ok (.if_icmp .ge 23, 3) := by decide +kernel
theorem dTA_join_8 : decode bTA_join 8 = .ok (.aload_n 0, 1) := by decide +kernel
theorem dTA_join_9 : decode bTA_join 9 = .ok (.getfield 9, 3) := by decide +kernel
theorem dTA_join_12 : decode bTA_join 12 = .ok (.aload_n 0, 1) := by decide +kernel
theorem dTA_join_13 : decode bTA_join 13 = .ok (.getfield 15, 3) := by decide +kernel
theorem dTA_join_16 : decode bTA_join 16 = .ok (.iload_n 1, 1) := by decide +kernel
theorem dTA_join_17 : decode bTA_join 17 = .ok (.iastore, 1) := by decide +kernel
theorem dTA_join_18 : decode bTA_join 18 = .ok (.aload_n 0, 1) := by decide +kernel
theorem dTA_join_19 : decode bTA_join 19 = .ok (.dup, 1) := by decide +kernel
theorem dTA_join_20 : decode bTA_join 20 = .ok (.getfield 15, 3) := by decide +kernel
theorem dTA_join_23 : decode bTA_join 23 = .ok (.iconst 1, 1) := by decide +kernel
theorem dTA_join_24 : decode bTA_join 24 = .ok (.iadd, 1) := by decide +kernel
theorem dTA_join_25 : decode bTA_join 25 = .ok (.putfield 15, 3) := by decide +kernel
theorem dTA_join_28 : decode bTA_join 28 = .ok (.return_, 1) := by decide +kernel
theorem dTG_begin_0 : decode bTG_begin 0 = .ok (.aload_n 0, 1) := by decide +kernel
theorem dTG_begin_1 : decode bTG_begin 1 = .ok (.iconst 1, 1) := by decide +kernel
theorem dTG_begin_2 : decode bTG_begin 2 = .ok (.putfield 15, 3) := by decide +kernel
theorem dTG_begin_5 : decode bTG_begin 5 = .ok (.aload_n 0, 1) := by decide +kernel
theorem dTG_begin_6 : decode bTG_begin 6 = .ok (.iload_n 1, 1) := by decide +kernel
theorem dTG_begin_7 : decode bTG_begin 7 = .ok (.putfield 19, 3) := by decide +kernel
theorem dTG_begin_10 : decode bTG_begin 10 = .ok (.aload_n 0, 1) := by decide +kernel
theorem dTG_begin_11 : decode bTG_begin 11 = .ok (.iload_n 2, 1) := by decide +kernel
theorem dTG_begin_12 : decode bTG_begin 12 = .ok (.putfield 22, 3) := by decide +kernel
theorem dTG_begin_15 : decode bTG_begin 15 = .ok (.aload_n 0, 1) := by decide +kernel
theorem dTG_begin_16 : decode bTG_begin 16 = .ok (.iload_n 3, 1) := by decide +kernel
theorem dTG_begin_17 : decode bTG_begin 17 = .ok (.putfield 25, 3) := by decide +kernel
theorem dTG_begin_20 : decode bTG_begin 20 = .ok (.aload_n 0, 1) := by decide +kernel
theorem dTG_begin_21 : decode bTG_begin 21 = .ok (.iload 4, 2) := by decide +kernel
theorem dTG_begin_23 : decode bTG_begin 23 = .ok (.putfield 28, 3) := by decide +kernel
theorem dTG_begin_26 : decode bTG_begin 26 = .ok (.aload_n 0, 1) := by decide +kernel
theorem dTG_begin_27 : decode bTG_begin 27 = .ok (.iconst 0, 1) := by decide +kernel
theorem dTG_begin_28 : decode bTG_begin 28 = .ok (.putfield 31, 3) := by decide +kernel
theorem dTG_begin_31 : decode bTG_begin 31 = .ok (.aload_n 0, 1) := by decide +kernel
theorem dTG_begin_32 : decode bTG_begin 32 = .ok (.iconst 0, 1) := by decide +kernel
theorem dTG_begin_33 : decode bTG_begin 33 = .ok (.putfield 34, 3) := by decide +kernel
theorem dTG_begin_36 : decode bTG_begin 36 = .ok (.aload_n 0, 1) := by decide +kernel
theorem dTG_begin_37 : decode bTG_begin 37 = .ok (.iconst 0, 1) := by decide +kernel
theorem dTG_begin_38 : decode bTG_begin 38 = .ok (.putfield 38, 3) := by decide +kernel
theorem dTG_begin_41 : decode bTG_begin 41 = .ok (.return_, 1) := by decide +kernel
theorem dSV_fact_0 : decode bSV_fact 0 = .ok (.iload_n 1, 1) := by decide +kernel
theorem dSV_fact_1 : decode bSV_fact 1 = .ok (.tableswitch 60 0 4 #[35, 40, 45, 50, 55], 35) := by decide +kernel
theorem dSV_fact_36 : decode bSV_fact 36 = .ok (.aload_n 0, 1) := by decide +kernel
theorem dSV_fact_37 : decode bSV_fact 37 = .ok (.getfield 13, 3) := by decide +kernel
theorem dSV_fact_40 : decode bSV_fact 40 = .ok (.ireturn, 1) := by decide +kernel
theorem dSV_fact_41 : decode bSV_fact 41 = .ok (.aload_n 0, 1) := by decide +kernel
theorem dSV_fact_42 : decode bSV_fact 42 = .ok (.getfield 19, 3) := by decide +kernel
theorem dSV_fact_45 : decode bSV_fact 45 = .ok (.ireturn, 1) := by decide +kernel
theorem dSV_fact_46 : decode bSV_fact 46 = .ok (.aload_n 0, 1) := by decide +kernel
theorem dSV_fact_47 : decode bSV_fact 47 = .ok (.getfield 25, 3) := by decide +kernel
theorem dSV_fact_50 : decode bSV_fact 50 = .ok (.ireturn, 1) := by decide +kernel
theorem dSV_fact_51 : decode bSV_fact 51 = .ok (.aload_n 0, 1) := by decide +kernel
theorem dSV_fact_52 : decode bSV_fact 52 = .ok (.getfield 29, 3) := by decide +kernel
theorem dSV_fact_55 : decode bSV_fact 55 = .ok (.ireturn, 1) := by decide +kernel
theorem dSV_fact_56 : decode bSV_fact 56 = .ok (.aload_n 0, 1) := by decide +kernel
theorem dSV_fact_57 : decode bSV_fact 57 = .ok (.getfield 33, 3) := by decide +kernel
theorem dSV_fact_60 : decode bSV_fact 60 = .ok (.ireturn, 1) := by decide +kernel
theorem dSV_fact_61 : decode bSV_fact 61 = .ok (.aload_n 0, 1) := by decide +kernel
theorem dSV_fact_62 : decode bSV_fact 62 = .ok (.getfield 34, 3) := by decide +kernel
theorem dSV_fact_65 : decode bSV_fact 65 = .ok (.ireturn, 1) := by decide +kernel
end
section
/-! decode rows: SplitFabric -/
theorem dSF_init_0 : decode bSF_init 0 = .ok (.aload_n 0, 1) := by decide +kernel
theorem dSF_init_1 : decode bSF_init 1 = .ok (.invokespecial 3, 3) := by decide +kernel
theorem dSF_init_4 : decode bSF_init 4 = .ok (.aload_n 0, 1) := by decide +kernel
theorem dSF_init_5 : decode bSF_init 5 = .ok (.bipush 16, 2) := by decide +kernel
theorem dSF_init_7 : decode bSF_init 7 = .ok (.anewarray 9, 3) := by decide +kernel
theorem dSF_init_10 : decode bSF_init 10 = .ok (.putfield 11, 3) := by decide +kernel
theorem dSF_init_13 : decode bSF_init 13 = .ok (.aload_n 0, 1) := by decide +kernel
theorem dSF_init_14 : decode bSF_init 14 = .ok (.iconst 3, 1) := by decide +kernel
theorem dSF_init_15 : decode bSF_init 15 = .ok (.anewarray 15, 3) := by decide +kernel
theorem dSF_init_18 : decode bSF_init 18 = .ok (.putfield 17, 3) := by decide +kernel
theorem dSF_init_21 : decode bSF_init 21 = .ok (.aload_n 0, 1) := by decide +kernel
theorem dSF_init_22 : decode bSF_init 22 = .ok (.bipush 48, 2) := by decide +kernel
theorem dSF_init_24 : decode bSF_init 24 = .ok (.newarray .int, 2) := by decide +kernel
theorem dSF_init_26 : decode bSF_init 26 = .ok (.putfield 21, 3) := by decide +kernel
theorem dSF_init_29 : decode bSF_init 29 = .ok (.aload_n 0, 1) := by decide +kernel
theorem dSF_init_30 : decode bSF_init 30 = .ok (.iconst 4, 1) := by decide +kernel
theorem dSF_init_31 : decode bSF_init 31 = .ok (.iconst 4, 1) := by decide +kernel
theorem dSF_init_32 : decode bSF_init 32 = .ok (.multianewarray 25 2, 4) := by decide +kernel
theorem dSF_init_36 : decode bSF_init 36 = .ok (.putfield 27, 3) := by decide +kernel
theorem dSF_init_39 : decode bSF_init 39 = .ok (.aload_n 0, 1) := by decide +kernel
theorem dSF_init_40 : decode bSF_init 40 = .ok (.iconst 4, 1) := by decide +kernel
theorem dSF_init_41 : decode bSF_init 41 = .ok (.newarray .int, 2) := by decide +kernel
theorem dSF_init_43 : decode bSF_init 43 = .ok (.putfield 30, 3) := by decide +kernel
theorem dSF_init_46 : decode bSF_init 46 = .ok (.aload_n 0, 1) := by decide +kernel
theorem dSF_init_47 : decode bSF_init 47 = .ok (.new 33, 3) := by decide +kernel
theorem dSF_init_50 : decode bSF_init 50 = .ok (.dup, 1) := by decide +kernel
theorem dSF_init_51 : decode bSF_init 51 = .ok (.invokespecial 35, 3) := by decide +kernel
theorem dSF_init_54 : decode bSF_init 54 = .ok (.putfield 36, 3) := by decide +kernel
theorem dSF_init_57 : decode bSF_init 57 = .ok (.aload_n 0, 1) := by decide +kernel
theorem dSF_init_58 : decode bSF_init 58 = .ok (.iconst 0, 1) := by decide +kernel
theorem dSF_init_59 : decode bSF_init 59 = .ok (.putfield 40, 3) := by decide +kernel
theorem dSF_init_62 : decode bSF_init 62 = .ok (.aload_n 0, 1) := by decide +kernel
theorem dSF_init_63 : decode bSF_init 63 = .ok (.iconst 0, 1) := by decide +kernel
theorem dSF_init_64 : decode bSF_init 64 = .ok (.putfield 44, 3) := by decide +kernel
theorem dSF_init_67 : decode bSF_init 67 = .ok (.aload_n 0, 1) := by decide +kernel
theorem dSF_init_68 : decode bSF_init 68 = .ok (.iconst 3, 1) := by decide +kernel
theorem dSF_init_69 : decode bSF_init 69 = .ok (.putfield 47, 3) := by decide +kernel
theorem dSF_init_72 : decode bSF_init 72 = .ok (.aload_n 0, 1) := by decide +kernel
theorem dSF_init_73 : decode bSF_init 73 = .ok (.bipush 15, 2) := by decide +kernel
theorem dSF_init_75 : decode bSF_init 75 = .ok (.putfield 50, 3) := by decide +kernel
theorem dSF_init_78 : decode bSF_init 78 = .ok (.iconst 0, 1) := by decide +kernel
theorem dSF_init_79 : decode bSF_init 79 = .ok (.istore_n 1, 1) := by decide +kernel
theorem dSF_init_80 : decode bSF_init 80 = .ok (.iload_n 1, 1) := by decide +kernel
theorem dSF_init_81 : decode bSF_init 81 = .ok (.bipush 16, 2) := by decide +kernel
theorem dSF_init_83 : decode bSF_init 83 = .ok (.if_icmp .ge 28, 3) := by decide +kernel
theorem dSF_init_86 : decode bSF_init 86 = .ok (.aload_n 0, 1) := by decide +kernel
theorem dSF_init_87 : decode bSF_init 87 = .ok (.getfield 11, 3) := by decide +kernel
theorem dSF_init_90 : decode bSF_init 90 = .ok (.iload_n 1, 1) := by decide +kernel
theorem dSF_init_91 : decode bSF_init 91 = .ok (.new 9, 3) := by decide +kernel
theorem dSF_init_94 : decode bSF_init 94 = .ok (.dup, 1) := by decide +kernel
theorem dSF_init_95 : decode bSF_init 95 = .ok (.iload_n 1, 1) := by decide +kernel
theorem dSF_init_96 : decode bSF_init 96 = .ok (.iconst 4, 1) := by decide +kernel
theorem dSF_init_97 : decode bSF_init 97 = .ok (.idiv, 1) := by decide +kernel
theorem dSF_init_98 : decode bSF_init 98 = .ok (.iload_n 1, 1) := by decide +kernel
theorem dSF_init_99 : decode bSF_init 99 = .ok (.iconst 4, 1) := by decide +kernel
theorem dSF_init_100 : decode bSF_init 100 = .ok (.irem, 1) := by decide +kernel
theorem dSF_init_101 : decode bSF_init 101 = .ok (.invokespecial 53, 3) := by decide +kernel
theorem dSF_init_104 : decode bSF_init 104 = .ok (.aastore, 1) := by decide +kernel
theorem dSF_init_105 : decode bSF_init 105 = .ok (.iinc 1 1, 3) := by decide +kernel
theorem dSF_init_108 : decode bSF_init 108 = .ok (.goto (-28), 3) := by decide +kernel
theorem dSF_init_111 : decode bSF_init 111 = .ok (.iconst 0, 1) := by decide +kernel
theorem dSF_init_112 : decode bSF_init 112 = .ok (.istore_n 1, 1) := by decide +kernel
theorem dSF_init_113 : decode bSF_init 113 = .ok (.iload_n 1, 1) := by decide +kernel
theorem dSF_init_114 : decode bSF_init 114 = .ok (.iconst 3, 1) := by decide +kernel
theorem dSF_init_115 : decode bSF_init 115 = .ok (.if_icmp .ge 22, 3) := by decide +kernel
theorem dSF_init_118 : decode bSF_init 118 = .ok (.aload_n 0, 1) := by decide +kernel
theorem dSF_init_119 : decode bSF_init 119 = .ok (.getfield 17, 3) := by decide +kernel
theorem dSF_init_122 : decode bSF_init 122 = .ok (.iload_n 1, 1) := by decide +kernel
theorem dSF_init_123 : decode bSF_init 123 = .ok (.new 15, 3) := by decide +kernel
theorem dSF_init_126 : decode bSF_init 126 = .ok (.dup, 1) := by decide +kernel
theorem dSF_init_127 : decode bSF_init 127 = .ok (.invokespecial 56, 3) := by decide +kernel
theorem dSF_init_130 : decode bSF_init 130 = .ok (.aastore, 1) := by decide +kernel
theorem dSF_init_131 : decode bSF_init 131 = .ok (.iinc 1 1, 3) := by decide +kernel
theorem dSF_init_134 : decode bSF_init 134 = .ok (.goto (-21), 3) := by decide +kernel
theorem dSF_init_137 : decode bSF_init 137 = .ok (.return_, 1) := by decide +kernel
theorem dSF_cycle_0 : decode bSF_cycle 0 = .ok (.aload_n 0, 1) := by decide +kernel
theorem dSF_cycle_1 : decode bSF_cycle 1 = .ok (.dup, 1) := by decide +kernel
theorem dSF_cycle_2 : decode bSF_cycle 2 = .ok (.getfield 40, 3) := by decide +kernel
theorem dSF_cycle_5 : decode bSF_cycle 5 = .ok (.iconst 1, 1) := by decide +kernel
theorem dSF_cycle_6 : decode bSF_cycle 6 = .ok (.iadd, 1) := by decide +kernel
theorem dSF_cycle_7 : decode bSF_cycle 7 = .ok (.putfield 40, 3) := by decide +kernel
theorem dSF_cycle_10 : decode bSF_cycle 10 = .ok (.aload_n 0, 1) := by decide +kernel
theorem dSF_cycle_11 : decode bSF_cycle 11 = .ok (.invokevirtual 98, 3) := by decide +kernel
theorem dSF_cycle_14 : decode bSF_cycle 14 = .ok (.aload_n 0, 1) := by decide +kernel
theorem dSF_cycle_15 : decode bSF_cycle 15 = .ok (.invokevirtual 101, 3) := by decide +kernel
theorem dSF_cycle_18 : decode bSF_cycle 18 = .ok (.aload_n 0, 1) := by decide +kernel
theorem dSF_cycle_19 : decode bSF_cycle 19 = .ok (.invokevirtual 104, 3) := by decide +kernel
theorem dSF_cycle_22 : decode bSF_cycle 22 = .ok (.astore_n 1, 1) := by decide +kernel
theorem dSF_cycle_23 : decode bSF_cycle 23 = .ok (.aload_n 1, 1) := by decide +kernel
theorem dSF_cycle_24 : decode bSF_cycle 24 = .ok (.ifnull 8, 3) := by decide +kernel
theorem dSF_cycle_27 : decode bSF_cycle 27 = .ok (.aload_n 0, 1) := by decide +kernel
theorem dSF_cycle_28 : decode bSF_cycle 28 = .ok (.aload_n 1, 1) := by decide +kernel
theorem dSF_cycle_29 : decode bSF_cycle 29 = .ok (.invokevirtual 108, 3) := by decide +kernel
theorem dSF_cycle_32 : decode bSF_cycle 32 = .ok (.aload_n 0, 1) := by decide +kernel
theorem dSF_cycle_33 : decode bSF_cycle 33 = .ok (.invokevirtual 112, 3) := by decide +kernel
theorem dSF_cycle_36 : decode bSF_cycle 36 = .ok (.aload_n 1, 1) := by decide +kernel
theorem dSF_cycle_37 : decode bSF_cycle 37 = .ok (.ifnonnull 7, 3) := by decide +kernel
theorem dSF_cycle_40 : decode bSF_cycle 40 = .ok (.iconst (-1), 1) := by decide +kernel
theorem dSF_cycle_41 : decode bSF_cycle 41 = .ok (.goto 7, 3) := by decide +kernel
theorem dSF_cycle_44 : decode bSF_cycle 44 = .ok (.aload_n 1, 1) := by decide +kernel
theorem dSF_cycle_45 : decode bSF_cycle 45 = .ok (.getfield 115, 3) := by decide +kernel
theorem dSF_cycle_48 : decode bSF_cycle 48 = .ok (.ireturn, 1) := by decide +kernel
theorem dSF_serveTargets_0 : decode bSF_serveTargets 0 = .ok (.iconst 0, 1) := by decide +kernel
theorem dSF_serveTargets_1 : decode bSF_serveTargets 1 = .ok (.istore_n 1, 1) := by decide +kernel
theorem dSF_serveTargets_2 : decode bSF_serveTargets 2 = .ok (.iload_n 1, 1) := by decide +kernel
theorem dSF_serveTargets_3 : decode bSF_serveTargets 3 = .ok (.iconst 3, 1) := by decide +kernel
theorem dSF_serveTargets_4 : decode bSF_serveTargets 4 = .ok (.if_icmp .ge 51, 3) := by decide +kernel
theorem dSF_serveTargets_7 : decode bSF_serveTargets 7 = .ok (.aload_n 0, 1) := by decide +kernel
theorem dSF_serveTargets_8 : decode bSF_serveTargets 8 = .ok (.getfield 17, 3) := by decide +kernel
theorem dSF_serveTargets_11 : decode bSF_serveTargets 11 = .ok (.iload_n 1, 1) := by decide +kernel
theorem dSF_serveTargets_12 : decode bSF_serveTargets 12 = .ok (.aaload, 1) := by decide +kernel
theorem dSF_serveTargets_13 : decode bSF_serveTargets 13 = .ok (.getfield 94, 3) := by decide +kernel
theorem dSF_serveTargets_16 : decode bSF_serveTargets 16 = .ok (.ifCond .eq 33, 3) := by decide +kernel
theorem dSF_serveTargets_19 : decode bSF_serveTargets 19 = .ok (.aload_n 0, 1) := by decide +kernel
theorem dSF_serveTargets_20 : decode bSF_serveTargets 20 = .ok (.getfield 17, 3) := by decide +kernel
theorem dSF_serveTargets_23 : decode bSF_serveTargets 23 = .ok (.iload_n 1, 1) := by decide +kernel
theorem dSF_serveTargets_24 : decode bSF_serveTargets 24 = .ok (.aaload, 1) := by decide +kernel
theorem dSF_serveTargets_25 : decode bSF_serveTargets 25 = .ok (.getfield 176, 3) := by decide +kernel
theorem dSF_serveTargets_28 : decode bSF_serveTargets 28 = .ok (.ifCond .le 21, 3) := by decide +kernel
theorem dSF_serveTargets_31 : decode bSF_serveTargets 31 = .ok (.aload_n 0, 1) := by decide +kernel
theorem dSF_serveTargets_32 : decode bSF_serveTargets 32 = .ok (.aload_n 0, 1) := by decide +kernel
theorem dSF_serveTargets_33 : decode bSF_serveTargets 33 = .ok (.getfield 11, 3) := by decide +kernel
theorem dSF_serveTargets_36 : decode bSF_serveTargets 36 = .ok (.aload_n 0, 1) := by decide +kernel
theorem dSF_serveTargets_37 : decode bSF_serveTargets 37 = .ok (.getfield 17, 3) := by decide +kernel
theorem dSF_serveTargets_40 : decode bSF_serveTargets 40 = .ok (.iload_n 1, 1) := by decide +kernel
theorem dSF_serveTargets_41 : decode bSF_serveTargets 41 = .ok (.aaload, 1) := by decide +kernel
theorem dSF_serveTargets_42 : decode bSF_serveTargets 42 = .ok (.invokevirtual 179, 3) := by decide +kernel
theorem dSF_serveTargets_45 : decode bSF_serveTargets 45 = .ok (.aaload, 1) := by decide +kernel
theorem dSF_serveTargets_46 : decode bSF_serveTargets 46 = .ok (.invokevirtual 182, 3) := by decide +kernel
theorem dSF_serveTargets_49 : decode bSF_serveTargets 49 = .ok (.iinc 1 1, 3) := by decide +kernel
theorem dSF_serveTargets_52 : decode bSF_serveTargets 52 = .ok (.goto (-50), 3) := by decide +kernel
theorem dSF_serveTargets_55 : decode bSF_serveTargets 55 = .ok (.return_, 1) := by decide +kernel
theorem dSF_serve_0 : decode bSF_serve 0 = .ok (.aload_n 0, 1) := by decide +kernel
theorem dSF_serve_1 : decode bSF_serve 1 = .ok (.getfield 36, 3) := by decide +kernel
theorem dSF_serve_4 : decode bSF_serve 4 = .ok (.invokevirtual 148, 3) := by decide +kernel
theorem dSF_serve_7 : decode bSF_serve 7 = .ok (.sipush 512, 3) := by decide +kernel
theorem dSF_serve_10 : decode bSF_serve 10 = .ok (.if_icmp .ge 23, 3) := by decide +kernel
theorem dSF_serve_13 : decode bSF_serve 13 = .ok (.aload_n 0, 1) := by decide +kernel
theorem dSF_serve_14 : decode bSF_serve 14 = .ok (.getfield 36, 3) := by decide +kernel
theorem dSF_serve_17 : decode bSF_serve 17 = .ok (.new 155, 3) := by decide +kernel
theorem dSF_serve_20 : decode bSF_serve 20 = .ok (.dup, 1) := by decide +kernel
theorem dSF_serve_21 : decode bSF_serve 21 = .ok (.aload_n 1, 1) := by decide +kernel
theorem dSF_serve_22 : decode bSF_serve 22 = .ok (.aload_n 0, 1) := by decide +kernel
theorem dSF_serve_23 : decode bSF_serve 23 = .ok (.getfield 40, 3) := by decide +kernel
theorem dSF_serve_26 : decode bSF_serve 26 = .ok (.invokespecial 185, 3) := by decide +kernel
theorem dSF_serve_29 : decode bSF_serve 29 = .ok (.invokevirtual 188, 3) := by decide +kernel
theorem dSF_serve_32 : decode bSF_serve 32 = .ok (.pop, 1) := by decide +kernel
theorem dSF_serve_33 : decode bSF_serve 33 = .ok (.aload_n 1, 1) := by decide +kernel
theorem dSF_serve_34 : decode bSF_serve 34 = .ok (.invokevirtual 125, 3) := by decide +kernel
theorem dSF_serve_37 : decode bSF_serve 37 = .ok (.ifCond .eq 23, 3) := by decide +kernel
theorem dSF_serve_40 : decode bSF_serve 40 = .ok (.aload_n 1, 1) := by decide +kernel
theorem dSF_serve_41 : decode bSF_serve 41 = .ok (.aload_n 0, 1) := by decide +kernel
theorem dSF_serve_42 : decode bSF_serve 42 = .ok (.getfield 21, 3) := by decide +kernel
theorem dSF_serve_45 : decode bSF_serve 45 = .ok (.aload_n 1, 1) := by decide +kernel
theorem dSF_serve_46 : decode bSF_serve 46 = .ok (.getfield 170, 3) := by decide +kernel
theorem dSF_serve_49 : decode bSF_serve 49 = .ok (.invokevirtual 90, 3) := by decide +kernel
theorem dSF_serve_52 : decode bSF_serve 52 = .ok (.aload_n 1, 1) := by decide +kernel
theorem dSF_serve_53 : decode bSF_serve 53 = .ok (.iconst 1, 1) := by decide +kernel
theorem dSF_serve_54 : decode bSF_serve 54 = .ok (.putfield 192, 3) := by decide +kernel
theorem dSF_serve_57 : decode bSF_serve 57 = .ok (.goto 28, 3) := by decide +kernel
theorem dSF_serve_60 : decode bSF_serve 60 = .ok (.aload_n 1, 1) := by decide +kernel
theorem dSF_serve_61 : decode bSF_serve 61 = .ok (.getfield 132, 3) := by decide +kernel
theorem dSF_serve_64 : decode bSF_serve 64 = .ok (.iconst 0, 1) := by decide +kernel
theorem dSF_serve_65 : decode bSF_serve 65 = .ok (.aload_n 0, 1) := by decide +kernel
theorem dSF_serve_66 : decode bSF_serve 66 = .ok (.getfield 21, 3) := by decide +kernel
theorem dSF_serve_69 : decode bSF_serve 69 = .ok (.aload_n 1, 1) := by decide +kernel
theorem dSF_serve_70 : decode bSF_serve 70 = .ok (.getfield 170, 3) := by decide +kernel
theorem dSF_serve_73 : decode bSF_serve 73 = .ok (.aload_n 1, 1) := by decide +kernel
theorem dSF_serve_74 : decode bSF_serve 74 = .ok (.getfield 129, 3) := by decide +kernel
theorem dSF_serve_77 : decode bSF_serve 77 = .ok (.invokestatic 195, 3) := by decide +kernel
theorem dSF_serve_80 : decode bSF_serve 80 = .ok (.aload_n 0, 1) := by decide +kernel
theorem dSF_serve_81 : decode bSF_serve 81 = .ok (.aload_n 1, 1) := by decide +kernel
theorem dSF_serve_82 : decode bSF_serve 82 = .ok (.invokevirtual 201, 3) := by decide +kernel
theorem dSF_serve_85 : decode bSF_serve 85 = .ok (.return_, 1) := by decide +kernel
theorem dSF_finish_0 : decode bSF_finish 0 = .ok (.aload_n 1, 1) := by decide +kernel
theorem dSF_finish_1 : decode bSF_finish 1 = .ok (.iconst 3, 1) := by decide +kernel
theorem dSF_finish_2 : decode bSF_finish 2 = .ok (.putfield 68, 3) := by decide +kernel
theorem dSF_finish_5 : decode bSF_finish 5 = .ok (.aload_n 0, 1) := by decide +kernel
theorem dSF_finish_6 : decode bSF_finish 6 = .ok (.aload_n 1, 1) := by decide +kernel
theorem dSF_finish_7 : decode bSF_finish 7 = .ok (.invokevirtual 204, 3) := by decide +kernel
theorem dSF_finish_10 : decode bSF_finish 10 = .ok (.dup, 1) := by decide +kernel
theorem dSF_finish_11 : decode bSF_finish 11 = .ok (.getfield 145, 3) := by decide +kernel
theorem dSF_finish_14 : decode bSF_finish 14 = .ok (.iconst 1, 1) := by decide +kernel
theorem dSF_finish_15 : decode bSF_finish 15 = .ok (.iadd, 1) := by decide +kernel
theorem dSF_finish_16 : decode bSF_finish 16 = .ok (.putfield 145, 3) := by decide +kernel
theorem dSF_finish_19 : decode bSF_finish 19 = .ok (.return_, 1) := by decide +kernel
theorem dSF_targetOf_0 : decode bSF_targetOf 0 = .ok (.aload_n 0, 1) := by decide +kernel
theorem dSF_targetOf_1 : decode bSF_targetOf 1 = .ok (.getfield 17, 3) := by decide +kernel
theorem dSF_targetOf_4 : decode bSF_targetOf 4 = .ok (.aload_n 1, 1) := by decide +kernel
theorem dSF_targetOf_5 : decode bSF_targetOf 5 = .ok (.getfield 170, 3) := by decide +kernel
theorem dSF_targetOf_8 : decode bSF_targetOf 8 = .ok (.bipush 16, 2) := by decide +kernel
theorem dSF_targetOf_10 : decode bSF_targetOf 10 = .ok (.idiv, 1) := by decide +kernel
theorem dSF_targetOf_11 : decode bSF_targetOf 11 = .ok (.aaload, 1) := by decide +kernel
theorem dSF_targetOf_12 : decode bSF_targetOf 12 = .ok (.areturn, 1) := by decide +kernel
theorem dSF_returnNextWord_0 : decode bSF_returnNextWord 0 = .ok (.iconst 1, 1) := by decide +kernel
theorem dSF_returnNextWord_1 : decode bSF_returnNextWord 1 = .ok (.istore_n 1, 1) := by decide +kernel
theorem dSF_returnNextWord_2 : decode bSF_returnNextWord 2 = .ok (.iload_n 1, 1) := by decide +kernel
theorem dSF_returnNextWord_3 : decode bSF_returnNextWord 3 = .ok (.bipush 16, 2) := by decide +kernel
theorem dSF_returnNextWord_5 : decode bSF_returnNextWord 5 = .ok (.if_icmp .gt 73, 3) := by decide +kernel
theorem dSF_returnNextWord_8 : decode bSF_returnNextWord 8 = .ok (.aload_n 0, 1) := by decide +kernel
theorem dSF_returnNextWord_9 : decode bSF_returnNextWord 9 = .ok (.getfield 50, 3) := by decide +kernel
theorem dSF_returnNextWord_12 : decode bSF_returnNextWord 12 = .ok (.iload_n 1, 1) := by decide +kernel
theorem dSF_returnNextWord_13 : decode bSF_returnNextWord 13 = .ok (.iadd, 1) := by decide +kernel
theorem dSF_returnNextWord_14 : decode bSF_returnNextWord 14 = .ok (.bipush 16, 2) := by decide +kernel
theorem dSF_returnNextWord_16 : decode bSF_returnNextWord 16 = .ok (.irem, 1) := by decide +kernel
theorem dSF_returnNextWord_17 : decode bSF_returnNextWord 17 = .ok (.istore_n 2, 1) := by decide +kernel
theorem dSF_returnNextWord_18 : decode bSF_returnNextWord 18 = .ok (.aload_n 0, 1) := by decide +kernel
theorem dSF_returnNextWord_19 : decode bSF_returnNextWord 19 = .ok (.getfield 11, 3) := by decide +kernel
theorem dSF_returnNextWord_22 : decode bSF_returnNextWord 22 = .ok (.iload_n 2, 1) := by decide +kernel
theorem dSF_returnNextWord_23 : decode bSF_returnNextWord 23 = .ok (.aaload, 1) := by decide +kernel
theorem dSF_returnNextWord_24 : decode bSF_returnNextWord 24 = .ok (.astore_n 3, 1) := by decide +kernel
theorem dSF_returnNextWord_25 : decode bSF_returnNextWord 25 = .ok (.aload_n 3, 1) := by decide +kernel
theorem dSF_returnNextWord_26 : decode bSF_returnNextWord 26 = .ok (.getfield 68, 3) := by decide +kernel
theorem dSF_returnNextWord_29 : decode bSF_returnNextWord 29 = .ok (.iconst 2, 1) := by decide +kernel
theorem dSF_returnNextWord_30 : decode bSF_returnNextWord 30 = .ok (.if_icmp .ne 42, 3) := by decide +kernel
theorem dSF_returnNextWord_33 : decode bSF_returnNextWord 33 = .ok (.aload_n 3, 1) := by decide +kernel
theorem dSF_returnNextWord_34 : decode bSF_returnNextWord 34 = .ok (.getfield 192, 3) := by decide +kernel
theorem dSF_returnNextWord_37 : decode bSF_returnNextWord 37 = .ok (.ifCond .eq 35, 3) := by decide +kernel
theorem dSF_returnNextWord_40 : decode bSF_returnNextWord 40 = .ok (.aload_n 0, 1) := by decide +kernel
theorem dSF_returnNextWord_41 : decode bSF_returnNextWord 41 = .ok (.iload_n 2, 1) := by decide +kernel
theorem dSF_returnNextWord_42 : decode bSF_returnNextWord 42 = .ok (.putfield 50, 3) := by decide +kernel
theorem dSF_returnNextWord_45 : decode bSF_returnNextWord 45 = .ok (.aload_n 3, 1) := by decide +kernel
theorem dSF_returnNextWord_46 : decode bSF_returnNextWord 46 = .ok (.dup, 1) := by decide +kernel
theorem dSF_returnNextWord_47 : decode bSF_returnNextWord 47 = .ok (.getfield 208, 3) := by decide +kernel
theorem dSF_returnNextWord_50 : decode bSF_returnNextWord 50 = .ok (.iconst 1, 1) := by decide +kernel
theorem dSF_returnNextWord_51 : decode bSF_returnNextWord 51 = .ok (.iadd, 1) := by decide +kernel
theorem dSF_returnNextWord_52 : decode bSF_returnNextWord 52 = .ok (.putfield 208, 3) := by decide +kernel
theorem dSF_returnNextWord_55 : decode bSF_returnNextWord 55 = .ok (.aload_n 3, 1) := by decide +kernel
theorem dSF_returnNextWord_56 : decode bSF_returnNextWord 56 = .ok (.getfield 208, 3) := by decide +kernel
theorem dSF_returnNextWord_59 : decode bSF_returnNextWord 59 = .ok (.aload_n 3, 1) := by decide +kernel
theorem dSF_returnNextWord_60 : decode bSF_returnNextWord 60 = .ok (.getfield 129, 3) := by decide +kernel
theorem dSF_returnNextWord_63 : decode bSF_returnNextWord 63 = .ok (.if_icmp .ne 8, 3) := by decide +kernel
theorem dSF_returnNextWord_66 : decode bSF_returnNextWord 66 = .ok (.aload_n 0, 1) := by decide +kernel
theorem dSF_returnNextWord_67 : decode bSF_returnNextWord 67 = .ok (.aload_n 3, 1) := by decide +kernel
theorem dSF_returnNextWord_68 : decode bSF_returnNextWord 68 = .ok (.invokevirtual 201, 3) := by decide +kernel
theorem dSF_returnNextWord_71 : decode bSF_returnNextWord 71 = .ok (.return_, 1) := by decide +kernel
theorem dSF_returnNextWord_72 : decode bSF_returnNextWord 72 = .ok (.iinc 1 1, 3) := by decide +kernel
theorem dSF_returnNextWord_75 : decode bSF_returnNextWord 75 = .ok (.goto (-73), 3) := by decide +kernel
theorem dSF_returnNextWord_78 : decode bSF_returnNextWord 78 = .ok (.return_, 1) := by decide +kernel
theorem dSF_chooseGrant_0 : decode bSF_chooseGrant 0 = .ok (.aconst_null, 1) := by decide +kernel
theorem dSF_chooseGrant_1 : decode bSF_chooseGrant 1 = .ok (.astore_n 1, 1) := by decide +kernel
theorem dSF_chooseGrant_2 : decode bSF_chooseGrant 2 = .ok (.iconst 1, 1) := by decide +kernel
theorem dSF_chooseGrant_3 : decode bSF_chooseGrant 3 = .ok (.istore_n 2, 1) := by decide +kernel
theorem dSF_chooseGrant_4 : decode bSF_chooseGrant 4 = .ok (.iload_n 2, 1) := by decide +kernel
theorem dSF_chooseGrant_5 : decode bSF_chooseGrant 5 = .ok (.iconst 4, 1) := by decide +kernel
theorem dSF_chooseGrant_6 : decode bSF_chooseGrant 6 = .ok (.if_icmp .gt 68, 3) := by decide +kernel
theorem dSF_chooseGrant_9 : decode bSF_chooseGrant 9 = .ok (.aload_n 0, 1) := by decide +kernel
theorem dSF_chooseGrant_10 : decode bSF_chooseGrant 10 = .ok (.getfield 47, 3) := by decide +kernel
theorem dSF_chooseGrant_13 : decode bSF_chooseGrant 13 = .ok (.iload_n 2, 1) := by decide +kernel
theorem dSF_chooseGrant_14 : decode bSF_chooseGrant 14 = .ok (.iadd, 1) := by decide +kernel
theorem dSF_chooseGrant_15 : decode bSF_chooseGrant 15 = .ok (.iconst 4, 1) := by decide +kernel
theorem dSF_chooseGrant_16 : decode bSF_chooseGrant 16 = .ok (.irem, 1) := by decide +kernel
theorem dSF_chooseGrant_17 : decode bSF_chooseGrant 17 = .ok (.istore_n 3, 1) := by decide +kernel
theorem dSF_chooseGrant_18 : decode bSF_chooseGrant 18 = .ok (.iconst 0, 1) := by decide +kernel
theorem dSF_chooseGrant_19 : decode bSF_chooseGrant 19 = .ok (.istore 4, 2) := by decide +kernel
theorem dSF_chooseGrant_21 : decode bSF_chooseGrant 21 = .ok (.iload 4, 2) := by decide +kernel
theorem dSF_chooseGrant_23 : decode bSF_chooseGrant 23 = .ok (.iconst 4, 1) := by decide +kernel
theorem dSF_chooseGrant_24 : decode bSF_chooseGrant 24 = .ok (.if_icmp .ge 44, 3) := by decide +kernel
theorem dSF_chooseGrant_27 : decode bSF_chooseGrant 27 = .ok (.aload_n 0, 1) := by decide +kernel
theorem dSF_chooseGrant_28 : decode bSF_chooseGrant 28 = .ok (.iload_n 3, 1) := by decide +kernel
theorem dSF_chooseGrant_29 : decode bSF_chooseGrant 29 = .ok (.iload 4, 2) := by decide +kernel
theorem dSF_chooseGrant_31 : decode bSF_chooseGrant 31 = .ok (.invokevirtual 64, 3) := by decide +kernel
theorem dSF_chooseGrant_34 : decode bSF_chooseGrant 34 = .ok (.astore 5, 2) := by decide +kernel
theorem dSF_chooseGrant_36 : decode bSF_chooseGrant 36 = .ok (.aload_n 0, 1) := by decide +kernel
theorem dSF_chooseGrant_37 : decode bSF_chooseGrant 37 = .ok (.aload 5, 2) := by decide +kernel
theorem dSF_chooseGrant_39 : decode bSF_chooseGrant 39 = .ok (.invokevirtual 211, 3) := by decide +kernel
theorem dSF_chooseGrant_42 : decode bSF_chooseGrant 42 = .ok (.ifCond .eq 20, 3) := by decide +kernel
theorem dSF_chooseGrant_45 : decode bSF_chooseGrant 45 = .ok (.aload_n 1, 1) := by decide +kernel
theorem dSF_chooseGrant_46 : decode bSF_chooseGrant 46 = .ok (.ifnull 13, 3) := by decide +kernel
theorem dSF_chooseGrant_49 : decode bSF_chooseGrant 49 = .ok (.aload_n 0, 1) := by decide +kernel
theorem dSF_chooseGrant_50 : decode bSF_chooseGrant 50 = .ok (.aload 5, 2) := by decide +kernel
theorem dSF_chooseGrant_52 : decode bSF_chooseGrant 52 = .ok (.aload_n 1, 1) := by decide +kernel
theorem dSF_chooseGrant_53 : decode bSF_chooseGrant 53 = .ok (.invokevirtual 214, 3) := by decide +kernel
theorem dSF_chooseGrant_56 : decode bSF_chooseGrant 56 = .ok (.ifCond .eq 6, 3) := by decide +kernel
theorem dSF_chooseGrant_59 : decode bSF_chooseGrant 59 = .ok (.aload 5, 2) := by decide +kernel
theorem dSF_chooseGrant_61 : decode bSF_chooseGrant 61 = .ok (.astore_n 1, 1) := by decide +kernel
theorem dSF_chooseGrant_62 : decode bSF_chooseGrant 62 = .ok (.iinc 4 1, 3) := by decide +kernel
theorem dSF_chooseGrant_65 : decode bSF_chooseGrant 65 = .ok (.goto (-44), 3) := by decide +kernel
theorem dSF_chooseGrant_68 : decode bSF_chooseGrant 68 = .ok (.iinc 2 1, 3) := by decide +kernel
theorem dSF_chooseGrant_71 : decode bSF_chooseGrant 71 = .ok (.goto (-67), 3) := by decide +kernel
theorem dSF_chooseGrant_74 : decode bSF_chooseGrant 74 = .ok (.aload_n 1, 1) := by decide +kernel
theorem dSF_chooseGrant_75 : decode bSF_chooseGrant 75 = .ok (.areturn, 1) := by decide +kernel
theorem dSF_tagOf_0 : decode bSF_tagOf 0 = .ok (.aload_n 0, 1) := by decide +kernel
theorem dSF_tagOf_1 : decode bSF_tagOf 1 = .ok (.getfield 11, 3) := by decide +kernel
theorem dSF_tagOf_4 : decode bSF_tagOf 4 = .ok (.iconst 4, 1) := by decide +kernel
theorem dSF_tagOf_5 : decode bSF_tagOf 5 = .ok (.iload_n 1, 1) := by decide +kernel
theorem dSF_tagOf_6 : decode bSF_tagOf 6 = .ok (.imul, 1) := by decide +kernel
theorem dSF_tagOf_7 : decode bSF_tagOf 7 = .ok (.iload_n 2, 1) := by decide +kernel
theorem dSF_tagOf_8 : decode bSF_tagOf 8 = .ok (.iadd, 1) := by decide +kernel
theorem dSF_tagOf_9 : decode bSF_tagOf 9 = .ok (.aaload, 1) := by decide +kernel
theorem dSF_tagOf_10 : decode bSF_tagOf 10 = .ok (.areturn, 1) := by decide +kernel
theorem dSF_isEligible_0 : decode bSF_isEligible 0 = .ok (.aload_n 1, 1) := by decide +kernel
theorem dSF_isEligible_1 : decode bSF_isEligible 1 = .ok (.getfield 68, 3) := by decide +kernel
theorem dSF_isEligible_4 : decode bSF_isEligible 4 = .ok (.iconst 1, 1) := by decide +kernel
theorem dSF_isEligible_5 : decode bSF_isEligible 5 = .ok (.if_icmp .eq 5, 3) := by decide +kernel
theorem dSF_isEligible_8 : decode bSF_isEligible 8 = .ok (.iconst 0, 1) := by decide +kernel
theorem dSF_isEligible_9 : decode bSF_isEligible 9 = .ok (.ireturn, 1) := by decide +kernel
theorem dSF_isEligible_10 : decode bSF_isEligible 10 = .ok (.iconst 0, 1) := by decide +kernel
theorem dSF_isEligible_11 : decode bSF_isEligible 11 = .ok (.istore_n 2, 1) := by decide +kernel
theorem dSF_isEligible_12 : decode bSF_isEligible 12 = .ok (.iload_n 2, 1) := by decide +kernel
theorem dSF_isEligible_13 : decode bSF_isEligible 13 = .ok (.iconst 4, 1) := by decide +kernel
theorem dSF_isEligible_14 : decode bSF_isEligible 14 = .ok (.if_icmp .ge 37, 3) := by decide +kernel
theorem dSF_isEligible_17 : decode bSF_isEligible 17 = .ok (.aload_n 0, 1) := by decide +kernel
theorem dSF_isEligible_18 : decode bSF_isEligible 18 = .ok (.aload_n 1, 1) := by decide +kernel
theorem dSF_isEligible_19 : decode bSF_isEligible 19 = .ok (.getfield 115, 3) := by decide +kernel
theorem dSF_isEligible_22 : decode bSF_isEligible 22 = .ok (.iload_n 2, 1) := by decide +kernel
theorem dSF_isEligible_23 : decode bSF_isEligible 23 = .ok (.invokevirtual 64, 3) := by decide +kernel
theorem dSF_isEligible_26 : decode bSF_isEligible 26 = .ok (.astore_n 3, 1) := by decide +kernel
theorem dSF_isEligible_27 : decode bSF_isEligible 27 = .ok (.aload_n 3, 1) := by decide +kernel
theorem dSF_isEligible_28 : decode bSF_isEligible 28 = .ok (.aload_n 1, 1) := by decide +kernel
theorem dSF_isEligible_29 : decode bSF_isEligible 29 = .ok (.invokevirtual 135, 3) := by decide +kernel
theorem dSF_isEligible_32 : decode bSF_isEligible 32 = .ok (.ifCond .eq 13, 3) := by decide +kernel
theorem dSF_isEligible_35 : decode bSF_isEligible 35 = .ok (.aload_n 3, 1) := by decide +kernel
theorem dSF_isEligible_36 : decode bSF_isEligible 36 = .ok (.aload_n 1, 1) := by decide +kernel
theorem dSF_isEligible_37 : decode bSF_isEligible 37 = .ok (.invokestatic 228, 3) := by decide +kernel
theorem dSF_isEligible_40 : decode bSF_isEligible 40 = .ok (.ifCond .eq 5, 3) := by decide +kernel
theorem dSF_isEligible_43 : decode bSF_isEligible 43 = .ok (.iconst 0, 1) := by decide +kernel
theorem dSF_isEligible_44 : decode bSF_isEligible 44 = .ok (.ireturn, 1) := by decide +kernel
theorem dSF_isEligible_45 : decode bSF_isEligible 45 = .ok (.iinc 2 1, 3) := by decide +kernel
theorem dSF_isEligible_48 : decode bSF_isEligible 48 = .ok (.goto (-36), 3) := by decide +kernel
theorem dSF_isEligible_51 : decode bSF_isEligible 51 = .ok (.aload_n 1, 1) := by decide +kernel
theorem dSF_isEligible_52 : decode bSF_isEligible 52 = .ok (.getfield 173, 3) := by decide +kernel
theorem dSF_isEligible_55 : decode bSF_isEligible 55 = .ok (.iconst 4, 1) := by decide +kernel
theorem dSF_isEligible_56 : decode bSF_isEligible 56 = .ok (.if_icmp .eq 18, 3) := by decide +kernel
theorem dSF_isEligible_59 : decode bSF_isEligible 59 = .ok (.aload_n 1, 1) := by decide +kernel
theorem dSF_isEligible_60 : decode bSF_isEligible 60 = .ok (.invokevirtual 231, 3) := by decide +kernel
theorem dSF_isEligible_63 : decode bSF_isEligible 63 = .ok (.ifCond .ne 11, 3) := by decide +kernel
theorem dSF_isEligible_66 : decode bSF_isEligible 66 = .ok (.aload_n 0, 1) := by decide +kernel
theorem dSF_isEligible_67 : decode bSF_isEligible 67 = .ok (.aload_n 1, 1) := by decide +kernel
theorem dSF_isEligible_68 : decode bSF_isEligible 68 = .ok (.invokevirtual 234, 3) := by decide +kernel
theorem dSF_isEligible_71 : decode bSF_isEligible 71 = .ok (.ifCond .eq 7, 3) := by decide +kernel
theorem dSF_isEligible_74 : decode bSF_isEligible 74 = .ok (.iconst 1, 1) := by decide +kernel
theorem dSF_isEligible_75 : decode bSF_isEligible 75 = .ok (.goto 4, 3) := by decide +kernel
theorem dSF_isEligible_78 : decode bSF_isEligible 78 = .ok (.iconst 0, 1) := by decide +kernel
theorem dSF_isEligible_79 : decode bSF_isEligible 79 = .ok (.ireturn, 1) := by decide +kernel
theorem dSF_holdsBack_0 : decode bSF_holdsBack 0 = .ok (.aload_n 0, 1) := by decide +kernel
theorem dSF_holdsBack_1 : decode bSF_holdsBack 1 = .ok (.getfield 173, 3) := by decide +kernel
theorem dSF_holdsBack_4 : decode bSF_holdsBack 4 = .ok (.iconst 4, 1) := by decide +kernel
theorem dSF_holdsBack_5 : decode bSF_holdsBack 5 = .ok (.if_icmp .eq 11, 3) := by decide +kernel
theorem dSF_holdsBack_8 : decode bSF_holdsBack 8 = .ok (.aload_n 1, 1) := by decide +kernel
theorem dSF_holdsBack_9 : decode bSF_holdsBack 9 = .ok (.getfield 173, 3) := by decide +kernel
theorem dSF_holdsBack_12 : decode bSF_holdsBack 12 = .ok (.iconst 4, 1) := by decide +kernel
theorem dSF_holdsBack_13 : decode bSF_holdsBack 13 = .ok (.if_icmp .ne 8, 3) := by decide +kernel
theorem dSF_holdsBack_16 : decode bSF_holdsBack 16 = .ok (.aload_n 0, 1) := by decide +kernel
theorem dSF_holdsBack_17 : decode bSF_holdsBack 17 = .ok (.invokevirtual 237, 3) := by decide +kernel
theorem dSF_holdsBack_20 : decode bSF_holdsBack 20 = .ok (.ireturn, 1) := by decide +kernel
theorem dSF_holdsBack_21 : decode bSF_holdsBack 21 = .ok (.aload_n 0, 1) := by decide +kernel
theorem dSF_holdsBack_22 : decode bSF_holdsBack 22 = .ok (.getfield 68, 3) := by decide +kernel
theorem dSF_holdsBack_25 : decode bSF_holdsBack 25 = .ok (.iconst 1, 1) := by decide +kernel
theorem dSF_holdsBack_26 : decode bSF_holdsBack 26 = .ok (.if_icmp .ne 15, 3) := by decide +kernel
theorem dSF_holdsBack_29 : decode bSF_holdsBack 29 = .ok (.aload_n 0, 1) := by decide +kernel
theorem dSF_holdsBack_30 : decode bSF_holdsBack 30 = .ok (.aload_n 1, 1) := by decide +kernel
theorem dSF_holdsBack_31 : decode bSF_holdsBack 31 = .ok (.invokevirtual 240, 3) := by decide +kernel
theorem dSF_holdsBack_34 : decode bSF_holdsBack 34 = .ok (.ifCond .eq 7, 3) := by decide +kernel
theorem dSF_holdsBack_37 : decode bSF_holdsBack 37 = .ok (.iconst 1, 1) := by decide +kernel
theorem dSF_holdsBack_38 : decode bSF_holdsBack 38 = .ok (.goto 4, 3) := by decide +kernel
theorem dSF_holdsBack_41 : decode bSF_holdsBack 41 = .ok (.iconst 0, 1) := by decide +kernel
theorem dSF_holdsBack_42 : decode bSF_holdsBack 42 = .ok (.ireturn, 1) := by decide +kernel
theorem dSF_isAdmitted_0 : decode bSF_isAdmitted 0 = .ok (.aload_n 0, 1) := by decide +kernel
theorem dSF_isAdmitted_1 : decode bSF_isAdmitted 1 = .ok (.aload_n 1, 1) := by decide +kernel
theorem dSF_isAdmitted_2 : decode bSF_isAdmitted 2 = .ok (.invokevirtual 204, 3) := by decide +kernel
theorem dSF_isAdmitted_5 : decode bSF_isAdmitted 5 = .ok (.astore_n 2, 1) := by decide +kernel
theorem dSF_isAdmitted_6 : decode bSF_isAdmitted 6 = .ok (.aload_n 1, 1) := by decide +kernel
theorem dSF_isAdmitted_7 : decode bSF_isAdmitted 7 = .ok (.getfield 173, 3) := by decide +kernel
theorem dSF_isAdmitted_10 : decode bSF_isAdmitted 10 = .ok (.iconst 3, 1) := by decide +kernel
theorem dSF_isAdmitted_11 : decode bSF_isAdmitted 11 = .ok (.if_icmp .ne 18, 3) := by decide +kernel
theorem dSF_isAdmitted_14 : decode bSF_isAdmitted 14 = .ok (.aload_n 2, 1) := by decide +kernel
theorem dSF_isAdmitted_15 : decode bSF_isAdmitted 15 = .ok (.getfield 142, 3) := by decide +kernel
theorem dSF_isAdmitted_18 : decode bSF_isAdmitted 18 = .ok (.aload_n 1, 1) := by decide +kernel
theorem dSF_isAdmitted_19 : decode bSF_isAdmitted 19 = .ok (.getfield 115, 3) := by decide +kernel
theorem dSF_isAdmitted_22 : decode bSF_isAdmitted 22 = .ok (.if_icmp .ne 7, 3) := by decide +kernel
theorem dSF_isAdmitted_25 : decode bSF_isAdmitted 25 = .ok (.iconst 1, 1) := by decide +kernel
theorem dSF_isAdmitted_26 : decode bSF_isAdmitted 26 = .ok (.goto 4, 3) := by decide +kernel
theorem dSF_isAdmitted_29 : decode bSF_isAdmitted 29 = .ok (.iconst 0, 1) := by decide +kernel
theorem dSF_isAdmitted_30 : decode bSF_isAdmitted 30 = .ok (.istore_n 3, 1) := by decide +kernel
theorem dSF_isAdmitted_31 : decode bSF_isAdmitted 31 = .ok (.aload_n 2, 1) := by decide +kernel
theorem dSF_isAdmitted_32 : decode bSF_isAdmitted 32 = .ok (.getfield 145, 3) := by decide +kernel
theorem dSF_isAdmitted_35 : decode bSF_isAdmitted 35 = .ok (.ifCond .le 19, 3) := by decide +kernel
theorem dSF_isAdmitted_38 : decode bSF_isAdmitted 38 = .ok (.aload_n 2, 1) := by decide +kernel
theorem dSF_isAdmitted_39 : decode bSF_isAdmitted 39 = .ok (.getfield 142, 3) := by decide +kernel
theorem dSF_isAdmitted_42 : decode bSF_isAdmitted 42 = .ok (.iconst (-1), 1) := by decide +kernel
theorem dSF_isAdmitted_43 : decode bSF_isAdmitted 43 = .ok (.if_icmp .eq 7, 3) := by decide +kernel
theorem dSF_isAdmitted_46 : decode bSF_isAdmitted 46 = .ok (.iload_n 3, 1) := by decide +kernel
theorem dSF_isAdmitted_47 : decode bSF_isAdmitted 47 = .ok (.ifCond .eq 7, 3) := by decide +kernel
theorem dSF_isAdmitted_50 : decode bSF_isAdmitted 50 = .ok (.iconst 1, 1) := by decide +kernel
theorem dSF_isAdmitted_51 : decode bSF_isAdmitted 51 = .ok (.goto 4, 3) := by decide +kernel
theorem dSF_isAdmitted_54 : decode bSF_isAdmitted 54 = .ok (.iconst 0, 1) := by decide +kernel
theorem dSF_isAdmitted_55 : decode bSF_isAdmitted 55 = .ok (.ireturn, 1) := by decide +kernel
theorem dSF_goesBefore_0 : decode bSF_goesBefore 0 = .ok (.aload_n 0, 1) := by decide +kernel
theorem dSF_goesBefore_1 : decode bSF_goesBefore 1 = .ok (.aload_n 1, 1) := by decide +kernel
theorem dSF_goesBefore_2 : decode bSF_goesBefore 2 = .ok (.invokevirtual 218, 3) := by decide +kernel
theorem dSF_goesBefore_5 : decode bSF_goesBefore 5 = .ok (.aload_n 0, 1) := by decide +kernel
theorem dSF_goesBefore_6 : decode bSF_goesBefore 6 = .ok (.aload_n 2, 1) := by decide +kernel
theorem dSF_goesBefore_7 : decode bSF_goesBefore 7 = .ok (.invokevirtual 218, 3) := by decide +kernel
theorem dSF_goesBefore_10 : decode bSF_goesBefore 10 = .ok (.isub, 1) := by decide +kernel
theorem dSF_goesBefore_11 : decode bSF_goesBefore 11 = .ok (.istore_n 3, 1) := by decide +kernel
theorem dSF_goesBefore_12 : decode bSF_goesBefore 12 = .ok (.iload_n 3, 1) := by decide +kernel
theorem dSF_goesBefore_13 : decode bSF_goesBefore 13 = .ok (.ifCond .gt 26, 3) := by decide +kernel
theorem dSF_goesBefore_16 : decode bSF_goesBefore 16 = .ok (.iload_n 3, 1) := by decide +kernel
theorem dSF_goesBefore_17 : decode bSF_goesBefore 17 = .ok (.ifCond .ne 26, 3) := by decide +kernel
theorem dSF_goesBefore_20 : decode bSF_goesBefore 20 = .ok (.aload_n 1, 1) := by decide +kernel
theorem dSF_goesBefore_21 : decode bSF_goesBefore 21 = .ok (.getfield 115, 3) := by decide +kernel
theorem dSF_goesBefore_24 : decode bSF_goesBefore 24 = .ok (.aload_n 2, 1) := by decide +kernel
theorem dSF_goesBefore_25 : decode bSF_goesBefore 25 = .ok (.getfield 115, 3) := by decide +kernel
theorem dSF_goesBefore_28 : decode bSF_goesBefore 28 = .ok (.if_icmp .ne 15, 3) := by decide +kernel
theorem dSF_goesBefore_31 : decode bSF_goesBefore 31 = .ok (.aload_n 1, 1) := by decide +kernel
theorem dSF_goesBefore_32 : decode bSF_goesBefore 32 = .ok (.aload_n 2, 1) := by decide +kernel
theorem dSF_goesBefore_33 : decode bSF_goesBefore 33 = .ok (.invokevirtual 135, 3) := by decide +kernel
theorem dSF_goesBefore_36 : decode bSF_goesBefore 36 = .ok (.ifCond .eq 7, 3) := by decide +kernel
theorem dSF_goesBefore_39 : decode bSF_goesBefore 39 = .ok (.iconst 1, 1) := by decide +kernel
theorem dSF_goesBefore_40 : decode bSF_goesBefore 40 = .ok (.goto 4, 3) := by decide +kernel
theorem dSF_goesBefore_43 : decode bSF_goesBefore 43 = .ok (.iconst 0, 1) := by decide +kernel
theorem dSF_goesBefore_44 : decode bSF_goesBefore 44 = .ok (.ireturn, 1) := by decide +kernel
theorem dSF_classOf_0 : decode bSF_classOf 0 = .ok (.aload_n 0, 1) := by decide +kernel
theorem dSF_classOf_1 : decode bSF_classOf 1 = .ok (.getfield 30, 3) := by decide +kernel
theorem dSF_classOf_4 : decode bSF_classOf 4 = .ok (.aload_n 1, 1) := by decide +kernel
theorem dSF_classOf_5 : decode bSF_classOf 5 = .ok (.getfield 115, 3) := by decide +kernel
theorem dSF_classOf_8 : decode bSF_classOf 8 = .ok (.iaload, 1) := by decide +kernel
theorem dSF_classOf_9 : decode bSF_classOf 9 = .ok (.aload_n 1, 1) := by decide +kernel
theorem dSF_classOf_10 : decode bSF_classOf 10 = .ok (.getfield 139, 3) := by decide +kernel
theorem dSF_classOf_13 : decode bSF_classOf 13 = .ok (.bipush 16, 2) := by decide +kernel
theorem dSF_classOf_15 : decode bSF_classOf 15 = .ok (.idiv, 1) := by decide +kernel
theorem dSF_classOf_16 : decode bSF_classOf 16 = .ok (.iadd, 1) := by decide +kernel
theorem dSF_classOf_17 : decode bSF_classOf 17 = .ok (.iconst 2, 1) := by decide +kernel
theorem dSF_classOf_18 : decode bSF_classOf 18 = .ok (.invokestatic 222, 3) := by decide +kernel
theorem dSF_classOf_21 : decode bSF_classOf 21 = .ok (.ireturn, 1) := by decide +kernel
theorem dSF_grant_0 : decode bSF_grant 0 = .ok (.aload_n 0, 1) := by decide +kernel
theorem dSF_grant_1 : decode bSF_grant 1 = .ok (.aload_n 1, 1) := by decide +kernel
theorem dSF_grant_2 : decode bSF_grant 2 = .ok (.getfield 115, 3) := by decide +kernel
theorem dSF_grant_5 : decode bSF_grant 5 = .ok (.putfield 47, 3) := by decide +kernel
theorem dSF_grant_8 : decode bSF_grant 8 = .ok (.aload_n 1, 1) := by decide +kernel
theorem dSF_grant_9 : decode bSF_grant 9 = .ok (.getfield 173, 3) := by decide +kernel
theorem dSF_grant_12 : decode bSF_grant 12 = .ok (.iconst 4, 1) := by decide +kernel
theorem dSF_grant_13 : decode bSF_grant 13 = .ok (.if_icmp .ne 11, 3) := by decide +kernel
theorem dSF_grant_16 : decode bSF_grant 16 = .ok (.aload_n 1, 1) := by decide +kernel
theorem dSF_grant_17 : decode bSF_grant 17 = .ok (.iconst 3, 1) := by decide +kernel
theorem dSF_grant_18 : decode bSF_grant 18 = .ok (.putfield 68, 3) := by decide +kernel
theorem dSF_grant_21 : decode bSF_grant 21 = .ok (.goto 32, 3) := by decide +kernel
theorem dSF_grant_24 : decode bSF_grant 24 = .ok (.aload_n 1, 1) := by decide +kernel
theorem dSF_grant_25 : decode bSF_grant 25 = .ok (.invokevirtual 231, 3) := by decide +kernel
theorem dSF_grant_28 : decode bSF_grant 28 = .ok (.ifCond .eq 11, 3) := by decide +kernel
theorem dSF_grant_31 : decode bSF_grant 31 = .ok (.aload_n 1, 1) := by decide +kernel
theorem dSF_grant_32 : decode bSF_grant 32 = .ok (.iconst 4, 1) := by decide +kernel
theorem dSF_grant_33 : decode bSF_grant 33 = .ok (.putfield 68, 3) := by decide +kernel
theorem dSF_grant_36 : decode bSF_grant 36 = .ok (.goto 17, 3) := by decide +kernel
theorem dSF_grant_39 : decode bSF_grant 39 = .ok (.aload_n 1, 1) := by decide +kernel
theorem dSF_grant_40 : decode bSF_grant 40 = .ok (.iconst 2, 1) := by decide +kernel
theorem dSF_grant_41 : decode bSF_grant 41 = .ok (.putfield 68, 3) := by decide +kernel
theorem dSF_grant_44 : decode bSF_grant 44 = .ok (.aload_n 1, 1) := by decide +kernel
theorem dSF_grant_45 : decode bSF_grant 45 = .ok (.aload_n 0, 1) := by decide +kernel
theorem dSF_grant_46 : decode bSF_grant 46 = .ok (.aload_n 1, 1) := by decide +kernel
theorem dSF_grant_47 : decode bSF_grant 47 = .ok (.invokevirtual 204, 3) := by decide +kernel
theorem dSF_grant_50 : decode bSF_grant 50 = .ok (.invokestatic 243, 3) := by decide +kernel
theorem dSF_grant_53 : decode bSF_grant 53 = .ok (.return_, 1) := by decide +kernel
theorem dSF_enter_0 : decode bSF_enter 0 = .ok (.aload_n 1, 1) := by decide +kernel
theorem dSF_enter_1 : decode bSF_enter 1 = .ok (.dup, 1) := by decide +kernel
theorem dSF_enter_2 : decode bSF_enter 2 = .ok (.getfield 145, 3) := by decide +kernel
theorem dSF_enter_5 : decode bSF_enter 5 = .ok (.iconst 1, 1) := by decide +kernel
theorem dSF_enter_6 : decode bSF_enter 6 = .ok (.isub, 1) := by decide +kernel
theorem dSF_enter_7 : decode bSF_enter 7 = .ok (.putfield 145, 3) := by decide +kernel
theorem dSF_enter_10 : decode bSF_enter 10 = .ok (.aload_n 1, 1) := by decide +kernel
theorem dSF_enter_11 : decode bSF_enter 11 = .ok (.iconst 4, 1) := by decide +kernel
theorem dSF_enter_12 : decode bSF_enter 12 = .ok (.aload_n 0, 1) := by decide +kernel
theorem dSF_enter_13 : decode bSF_enter 13 = .ok (.getfield 115, 3) := by decide +kernel
theorem dSF_enter_16 : decode bSF_enter 16 = .ok (.imul, 1) := by decide +kernel
theorem dSF_enter_17 : decode bSF_enter 17 = .ok (.aload_n 0, 1) := by decide +kernel
theorem dSF_enter_18 : decode bSF_enter 18 = .ok (.getfield 247, 3) := by decide +kernel
theorem dSF_enter_21 : decode bSF_enter 21 = .ok (.iadd, 1) := by decide +kernel
theorem dSF_enter_22 : decode bSF_enter 22 = .ok (.invokevirtual 250, 3) := by decide +kernel
theorem dSF_enter_25 : decode bSF_enter 25 = .ok (.aload_n 0, 1) := by decide +kernel
theorem dSF_enter_26 : decode bSF_enter 26 = .ok (.getfield 173, 3) := by decide +kernel
theorem dSF_enter_29 : decode bSF_enter 29 = .ok (.iconst 2, 1) := by decide +kernel
theorem dSF_enter_30 : decode bSF_enter 30 = .ok (.if_icmp .ne 11, 3) := by decide +kernel
theorem dSF_enter_33 : decode bSF_enter 33 = .ok (.aload_n 1, 1) := by decide +kernel
theorem dSF_enter_34 : decode bSF_enter 34 = .ok (.aload_n 0, 1) := by decide +kernel
theorem dSF_enter_35 : decode bSF_enter 35 = .ok (.getfield 115, 3) := by decide +kernel
theorem dSF_enter_38 : decode bSF_enter 38 = .ok (.putfield 142, 3) := by decide +kernel
theorem dSF_enter_41 : decode bSF_enter 41 = .ok (.aload_n 0, 1) := by decide +kernel
theorem dSF_enter_42 : decode bSF_enter 42 = .ok (.getfield 173, 3) := by decide +kernel
theorem dSF_enter_45 : decode bSF_enter 45 = .ok (.iconst 3, 1) := by decide +kernel
theorem dSF_enter_46 : decode bSF_enter 46 = .ok (.if_icmp .ne 8, 3) := by decide +kernel
theorem dSF_enter_49 : decode bSF_enter 49 = .ok (.aload_n 1, 1) := by decide +kernel
theorem dSF_enter_50 : decode bSF_enter 50 = .ok (.iconst (-1), 1) := by decide +kernel
theorem dSF_enter_51 : decode bSF_enter 51 = .ok (.putfield 142, 3) := by decide +kernel
theorem dSF_enter_54 : decode bSF_enter 54 = .ok (.return_, 1) := by decide +kernel
theorem dSF_ageWaiting_0 : decode bSF_ageWaiting 0 = .ok (.iconst 0, 1) := by decide +kernel
theorem dSF_ageWaiting_1 : decode bSF_ageWaiting 1 = .ok (.istore_n 1, 1) := by decide +kernel
theorem dSF_ageWaiting_2 : decode bSF_ageWaiting 2 = .ok (.iload_n 1, 1) := by decide +kernel
theorem dSF_ageWaiting_3 : decode bSF_ageWaiting 3 = .ok (.bipush 16, 2) := by decide +kernel
theorem dSF_ageWaiting_5 : decode bSF_ageWaiting 5 = .ok (.if_icmp .ge 37, 3) := by decide +kernel
theorem dSF_ageWaiting_8 : decode bSF_ageWaiting 8 = .ok (.aload_n 0, 1) := by decide +kernel
theorem dSF_ageWaiting_9 : decode bSF_ageWaiting 9 = .ok (.getfield 11, 3) := by decide +kernel
theorem dSF_ageWaiting_12 : decode bSF_ageWaiting 12 = .ok (.iload_n 1, 1) := by decide +kernel
theorem dSF_ageWaiting_13 : decode bSF_ageWaiting 13 = .ok (.aaload, 1) := by decide +kernel
theorem dSF_ageWaiting_14 : decode bSF_ageWaiting 14 = .ok (.getfield 68, 3) := by decide +kernel
theorem dSF_ageWaiting_17 : decode bSF_ageWaiting 17 = .ok (.iconst 1, 1) := by decide +kernel
theorem dSF_ageWaiting_18 : decode bSF_ageWaiting 18 = .ok (.if_icmp .ne 18, 3) := by decide +kernel
theorem dSF_ageWaiting_21 : decode bSF_ageWaiting 21 = .ok (.aload_n 0, 1) := by decide +kernel
theorem dSF_ageWaiting_22 : decode bSF_ageWaiting 22 = .ok (.getfield 11, 3) := by decide +kernel
theorem dSF_ageWaiting_25 : decode bSF_ageWaiting 25 = .ok (.iload_n 1, 1) := by decide +kernel
theorem dSF_ageWaiting_26 : decode bSF_ageWaiting 26 = .ok (.aaload, 1) := by decide +kernel
theorem dSF_ageWaiting_27 : decode bSF_ageWaiting 27 = .ok (.dup, 1) := by decide +kernel
theorem dSF_ageWaiting_28 : decode bSF_ageWaiting 28 = .ok (.getfield 139, 3) := by decide +kernel
theorem dSF_ageWaiting_31 : decode bSF_ageWaiting 31 = .ok (.iconst 1, 1) := by decide +kernel
theorem dSF_ageWaiting_32 : decode bSF_ageWaiting 32 = .ok (.iadd, 1) := by decide +kernel
theorem dSF_ageWaiting_33 : decode bSF_ageWaiting 33 = .ok (.putfield 139, 3) := by decide +kernel
theorem dSF_ageWaiting_36 : decode bSF_ageWaiting 36 = .ok (.iinc 1 1, 3) := by decide +kernel
theorem dSF_ageWaiting_39 : decode bSF_ageWaiting 39 = .ok (.goto (-37), 3) := by decide +kernel
theorem dSF_ageWaiting_42 : decode bSF_ageWaiting 42 = .ok (.return_, 1) := by decide +kernel
theorem dSF_time_0 : decode bSF_time 0 = .ok (.aload_n 0, 1) := by decide +kernel
theorem dSF_time_1 : decode bSF_time 1 = .ok (.getfield 40, 3) := by decide +kernel
theorem dSF_time_4 : decode bSF_time 4 = .ok (.ireturn, 1) := by decide +kernel
theorem dSF_served_0 : decode bSF_served 0 = .ok (.aload_n 0, 1) := by decide +kernel
theorem dSF_served_1 : decode bSF_served 1 = .ok (.getfield 36, 3) := by decide +kernel
theorem dSF_served_4 : decode bSF_served 4 = .ok (.invokevirtual 148, 3) := by decide +kernel
theorem dSF_served_7 : decode bSF_served 7 = .ok (.ireturn, 1) := by decide +kernel
theorem dSF_data_0 : decode bSF_data 0 = .ok (.iload_n 1, 1) := by decide +kernel
theorem dSF_data_1 : decode bSF_data 1 = .ok (.iconst 4, 1) := by decide +kernel
theorem dSF_data_2 : decode bSF_data 2 = .ok (.invokestatic 57, 3) := by decide +kernel
theorem dSF_data_5 : decode bSF_data 5 = .ok (.iload_n 2, 1) := by decide +kernel
theorem dSF_data_6 : decode bSF_data 6 = .ok (.iconst 4, 1) := by decide +kernel
theorem dSF_data_7 : decode bSF_data 7 = .ok (.invokestatic 57, 3) := by decide +kernel
theorem dSF_data_10 : decode bSF_data 10 = .ok (.aload_n 0, 1) := by decide +kernel
theorem dSF_data_11 : decode bSF_data 11 = .ok (.getfield 27, 3) := by decide +kernel
theorem dSF_data_14 : decode bSF_data 14 = .ok (.iload_n 1, 1) := by decide +kernel
theorem dSF_data_15 : decode bSF_data 15 = .ok (.aaload, 1) := by decide +kernel
theorem dSF_data_16 : decode bSF_data 16 = .ok (.iload_n 2, 1) := by decide +kernel
theorem dSF_data_17 : decode bSF_data 17 = .ok (.iload_n 3, 1) := by decide +kernel
theorem dSF_data_18 : decode bSF_data 18 = .ok (.iastore, 1) := by decide +kernel
theorem dSF_data_19 : decode bSF_data 19 = .ok (.return_, 1) := by decide +kernel
theorem dSF_checkIndex_0 : decode bSF_checkIndex 0 = .ok (.iload_n 0, 1) := by decide +kernel
theorem dSF_checkIndex_1 : decode bSF_checkIndex 1 = .ok (.ifCond .lt 8, 3) := by decide +kernel
theorem dSF_checkIndex_4 : decode bSF_checkIndex 4 = .ok (.iload_n 0, 1) := by decide +kernel
theorem dSF_checkIndex_5 : decode bSF_checkIndex 5 = .ok (.iload_n 1, 1) := by decide +kernel
theorem dSF_checkIndex_6 : decode bSF_checkIndex 6 = .ok (.if_icmp .lt 11, 3) := by decide +kernel
theorem dSF_checkIndex_9 : decode bSF_checkIndex 9 = .ok (.new 161, 3) := by decide +kernel
theorem dSF_checkIndex_12 : decode bSF_checkIndex 12 = .ok (.dup, 1) := by decide +kernel
theorem dSF_checkIndex_13 : decode bSF_checkIndex 13 = .ok (.invokespecial 163, 3) := by decide +kernel
theorem dSF_checkIndex_16 : decode bSF_checkIndex 16 = .ok (.athrow, 1) := by decide +kernel
theorem dSF_checkIndex_17 : decode bSF_checkIndex 17 = .ok (.return_, 1) := by decide +kernel
theorem dSF_issue_0 : decode bSF_issue 0 = .ok (.iload_n 1, 1) := by decide +kernel
theorem dSF_issue_1 : decode bSF_issue 1 = .ok (.iconst 4, 1) := by decide +kernel
theorem dSF_issue_2 : decode bSF_issue 2 = .ok (.invokestatic 57, 3) := by decide +kernel
theorem dSF_issue_5 : decode bSF_issue 5 = .ok (.iload 5, 2) := by decide +kernel
theorem dSF_issue_7 : decode bSF_issue 7 = .ok (.iconst 4, 1) := by decide +kernel
theorem dSF_issue_8 : decode bSF_issue 8 = .ok (.invokestatic 57, 3) := by decide +kernel
theorem dSF_issue_11 : decode bSF_issue 11 = .ok (.iload_n 2, 1) := by decide +kernel
theorem dSF_issue_12 : decode bSF_issue 12 = .ok (.iload_n 3, 1) := by decide +kernel
theorem dSF_issue_13 : decode bSF_issue 13 = .ok (.iload 4, 2) := by decide +kernel
theorem dSF_issue_15 : decode bSF_issue 15 = .ok (.invokestatic 60, 3) := by decide +kernel
theorem dSF_issue_18 : decode bSF_issue 18 = .ok (.aload_n 0, 1) := by decide +kernel
theorem dSF_issue_19 : decode bSF_issue 19 = .ok (.iload_n 1, 1) := by decide +kernel
theorem dSF_issue_20 : decode bSF_issue 20 = .ok (.iload 5, 2) := by decide +kernel
theorem dSF_issue_22 : decode bSF_issue 22 = .ok (.invokevirtual 64, 3) := by decide +kernel
theorem dSF_issue_25 : decode bSF_issue 25 = .ok (.astore 6, 2) := by decide +kernel
theorem dSF_issue_27 : decode bSF_issue 27 = .ok (.aload 6, 2) := by decide +kernel
theorem dSF_issue_29 : decode bSF_issue 29 = .ok (.getfield 68, 3) := by decide +kernel
theorem dSF_issue_32 : decode bSF_issue 32 = .ok (.ifCond .ne 7, 3) := by decide +kernel
theorem dSF_issue_35 : decode bSF_issue 35 = .ok (.iconst 1, 1) := by decide +kernel
theorem dSF_issue_36 : decode bSF_issue 36 = .ok (.goto 4, 3) := by decide +kernel
theorem dSF_issue_39 : decode bSF_issue 39 = .ok (.iconst 0, 1) := by decide +kernel
theorem dSF_issue_40 : decode bSF_issue 40 = .ok (.invokestatic 71, 3) := by decide +kernel
theorem dSF_issue_43 : decode bSF_issue 43 = .ok (.iload_n 2, 1) := by decide +kernel
theorem dSF_issue_44 : decode bSF_issue 44 = .ok (.iconst 2, 1) := by decide +kernel
theorem dSF_issue_45 : decode bSF_issue 45 = .ok (.if_icmp .ne 28, 3) := by decide +kernel
theorem dSF_issue_48 : decode bSF_issue 48 = .ok (.aload_n 0, 1) := by decide +kernel
theorem dSF_issue_49 : decode bSF_issue 49 = .ok (.iload_n 1, 1) := by decide +kernel
theorem dSF_issue_50 : decode bSF_issue 50 = .ok (.invokevirtual 75, 3) := by decide +kernel
theorem dSF_issue_53 : decode bSF_issue 53 = .ok (.ifCond .ne 16, 3) := by decide +kernel
theorem dSF_issue_56 : decode bSF_issue 56 = .ok (.aload_n 0, 1) := by decide +kernel
theorem dSF_issue_57 : decode bSF_issue 57 = .ok (.iload_n 1, 1) := by decide +kernel
theorem dSF_issue_58 : decode bSF_issue 58 = .ok (.iconst 2, 1) := by decide +kernel
theorem dSF_issue_59 : decode bSF_issue 59 = .ok (.invokevirtual 79, 3) := by decide +kernel
theorem dSF_issue_62 : decode bSF_issue 62 = .ok (.ifCond .ne 7, 3) := by decide +kernel
theorem dSF_issue_65 : decode bSF_issue 65 = .ok (.iconst 1, 1) := by decide +kernel
theorem dSF_issue_66 : decode bSF_issue 66 = .ok (.goto 4, 3) := by decide +kernel
theorem dSF_issue_69 : decode bSF_issue 69 = .ok (.iconst 0, 1) := by decide +kernel
theorem dSF_issue_70 : decode bSF_issue 70 = .ok (.invokestatic 71, 3) := by decide +kernel
theorem dSF_issue_73 : decode bSF_issue 73 = .ok (.iload_n 2, 1) := by decide +kernel
theorem dSF_issue_74 : decode bSF_issue 74 = .ok (.iconst 3, 1) := by decide +kernel
theorem dSF_issue_75 : decode bSF_issue 75 = .ok (.if_icmp .ne 29, 3) := by decide +kernel
theorem dSF_issue_78 : decode bSF_issue 78 = .ok (.aload_n 0, 1) := by decide +kernel
theorem dSF_issue_79 : decode bSF_issue 79 = .ok (.iload_n 1, 1) := by decide +kernel
theorem dSF_issue_80 : decode bSF_issue 80 = .ok (.iload_n 3, 1) := by decide +kernel
theorem dSF_issue_81 : decode bSF_issue 81 = .ok (.invokevirtual 83, 3) := by decide +kernel
theorem dSF_issue_84 : decode bSF_issue 84 = .ok (.ifCond .eq 16, 3) := by decide +kernel
theorem dSF_issue_87 : decode bSF_issue 87 = .ok (.aload_n 0, 1) := by decide +kernel
theorem dSF_issue_88 : decode bSF_issue 88 = .ok (.iload_n 1, 1) := by decide +kernel
theorem dSF_issue_89 : decode bSF_issue 89 = .ok (.iconst 3, 1) := by decide +kernel
theorem dSF_issue_90 : decode bSF_issue 90 = .ok (.invokevirtual 79, 3) := by decide +kernel
theorem dSF_issue_93 : decode bSF_issue 93 = .ok (.ifCond .ne 7, 3) := by decide +kernel
theorem dSF_issue_96 : decode bSF_issue 96 = .ok (.iconst 1, 1) := by decide +kernel
theorem dSF_issue_97 : decode bSF_issue 97 = .ok (.goto 4, 3) := by decide +kernel
theorem dSF_issue_100 : decode bSF_issue 100 = .ok (.iconst 0, 1) := by decide +kernel
theorem dSF_issue_101 : decode bSF_issue 101 = .ok (.invokestatic 71, 3) := by decide +kernel
theorem dSF_issue_104 : decode bSF_issue 104 = .ok (.iload_n 2, 1) := by decide +kernel
theorem dSF_issue_105 : decode bSF_issue 105 = .ok (.iconst 4, 1) := by decide +kernel
theorem dSF_issue_106 : decode bSF_issue 106 = .ok (.if_icmp .ne 18, 3) := by decide +kernel
theorem dSF_issue_109 : decode bSF_issue 109 = .ok (.aload 6, 2) := by decide +kernel
theorem dSF_issue_111 : decode bSF_issue 111 = .ok (.iload_n 2, 1) := by decide +kernel
theorem dSF_issue_112 : decode bSF_issue 112 = .ok (.iconst 0, 1) := by decide +kernel
theorem dSF_issue_113 : decode bSF_issue 113 = .ok (.iconst 0, 1) := by decide +kernel
theorem dSF_issue_114 : decode bSF_issue 114 = .ok (.aload_n 0, 1) := by decide +kernel
theorem dSF_issue_115 : decode bSF_issue 115 = .ok (.getfield 44, 3) := by decide +kernel
theorem dSF_issue_118 : decode bSF_issue 118 = .ok (.invokevirtual 86, 3) := by decide +kernel
theorem dSF_issue_121 : decode bSF_issue 121 = .ok (.goto 28, 3) := by decide +kernel
theorem dSF_issue_124 : decode bSF_issue 124 = .ok (.aload 6, 2) := by decide +kernel
theorem dSF_issue_126 : decode bSF_issue 126 = .ok (.iload_n 2, 1) := by decide +kernel
theorem dSF_issue_127 : decode bSF_issue 127 = .ok (.iload_n 3, 1) := by decide +kernel
theorem dSF_issue_128 : decode bSF_issue 128 = .ok (.iload 4, 2) := by decide +kernel
theorem dSF_issue_130 : decode bSF_issue 130 = .ok (.aload_n 0, 1) := by decide +kernel
theorem dSF_issue_131 : decode bSF_issue 131 = .ok (.getfield 44, 3) := by decide +kernel
theorem dSF_issue_134 : decode bSF_issue 134 = .ok (.invokevirtual 86, 3) := by decide +kernel
theorem dSF_issue_137 : decode bSF_issue 137 = .ok (.aload 6, 2) := by decide +kernel
theorem dSF_issue_139 : decode bSF_issue 139 = .ok (.aload_n 0, 1) := by decide +kernel
theorem dSF_issue_140 : decode bSF_issue 140 = .ok (.getfield 27, 3) := by decide +kernel
theorem dSF_issue_143 : decode bSF_issue 143 = .ok (.iload_n 1, 1) := by decide +kernel
theorem dSF_issue_144 : decode bSF_issue 144 = .ok (.aaload, 1) := by decide +kernel
theorem dSF_issue_145 : decode bSF_issue 145 = .ok (.iconst 0, 1) := by decide +kernel
theorem dSF_issue_146 : decode bSF_issue 146 = .ok (.invokevirtual 90, 3) := by decide +kernel
theorem dSF_issue_149 : decode bSF_issue 149 = .ok (.aload_n 0, 1) := by decide +kernel
theorem dSF_issue_150 : decode bSF_issue 150 = .ok (.dup, 1) := by decide +kernel
theorem dSF_issue_151 : decode bSF_issue 151 = .ok (.getfield 44, 3) := by decide +kernel
theorem dSF_issue_154 : decode bSF_issue 154 = .ok (.iconst 1, 1) := by decide +kernel
theorem dSF_issue_155 : decode bSF_issue 155 = .ok (.iadd, 1) := by decide +kernel
theorem dSF_issue_156 : decode bSF_issue 156 = .ok (.putfield 44, 3) := by decide +kernel
theorem dSF_issue_159 : decode bSF_issue 159 = .ok (.return_, 1) := by decide +kernel
theorem dSF_checkRequest_0 : decode bSF_checkRequest 0 = .ok (.iload_n 0, 1) := by decide +kernel
theorem dSF_checkRequest_1 : decode bSF_checkRequest 1 = .ok (.ifCond .lt 12, 3) := by decide +kernel
theorem dSF_checkRequest_4 : decode bSF_checkRequest 4 = .ok (.iload_n 0, 1) := by decide +kernel
theorem dSF_checkRequest_5 : decode bSF_checkRequest 5 = .ok (.iconst 4, 1) := by decide +kernel
theorem dSF_checkRequest_6 : decode bSF_checkRequest 6 = .ok (.if_icmp .gt 7, 3) := by decide +kernel
theorem dSF_checkRequest_9 : decode bSF_checkRequest 9 = .ok (.iconst 1, 1) := by decide +kernel
theorem dSF_checkRequest_10 : decode bSF_checkRequest 10 = .ok (.goto 4, 3) := by decide +kernel
theorem dSF_checkRequest_13 : decode bSF_checkRequest 13 = .ok (.iconst 0, 1) := by decide +kernel
theorem dSF_checkRequest_14 : decode bSF_checkRequest 14 = .ok (.invokestatic 118, 3) := by decide +kernel
theorem dSF_checkRequest_17 : decode bSF_checkRequest 17 = .ok (.iload_n 0, 1) := by decide +kernel
theorem dSF_checkRequest_18 : decode bSF_checkRequest 18 = .ok (.iconst 4, 1) := by decide +kernel
theorem dSF_checkRequest_19 : decode bSF_checkRequest 19 = .ok (.if_icmp .ne 4, 3) := by decide +kernel
theorem dSF_checkRequest_22 : decode bSF_checkRequest 22 = .ok (.return_, 1) := by decide +kernel
theorem dSF_checkRequest_23 : decode bSF_checkRequest 23 = .ok (.iload_n 0, 1) := by decide +kernel
theorem dSF_checkRequest_24 : decode bSF_checkRequest 24 = .ok (.iconst 2, 1) := by decide +kernel
theorem dSF_checkRequest_25 : decode bSF_checkRequest 25 = .ok (.if_icmp .eq 8, 3) := by decide +kernel
theorem dSF_checkRequest_28 : decode bSF_checkRequest 28 = .ok (.iload_n 0, 1) := by decide +kernel
theorem dSF_checkRequest_29 : decode bSF_checkRequest 29 = .ok (.iconst 3, 1) := by decide +kernel
theorem dSF_checkRequest_30 : decode bSF_checkRequest 30 = .ok (.if_icmp .ne 7, 3) := by decide +kernel
theorem dSF_checkRequest_33 : decode bSF_checkRequest 33 = .ok (.iconst 1, 1) := by decide +kernel
theorem dSF_checkRequest_34 : decode bSF_checkRequest 34 = .ok (.goto 4, 3) := by decide +kernel
theorem dSF_checkRequest_37 : decode bSF_checkRequest 37 = .ok (.iconst 4, 1) := by decide +kernel
theorem dSF_checkRequest_38 : decode bSF_checkRequest 38 = .ok (.istore_n 3, 1) := by decide +kernel
theorem dSF_checkRequest_39 : decode bSF_checkRequest 39 = .ok (.iload_n 1, 1) := by decide +kernel
theorem dSF_checkRequest_40 : decode bSF_checkRequest 40 = .ok (.ifCond .lt 13, 3) := by decide +kernel
theorem dSF_checkRequest_43 : decode bSF_checkRequest 43 = .ok (.iload_n 1, 1) := by decide +kernel
theorem dSF_checkRequest_44 : decode bSF_checkRequest 44 = .ok (.bipush 64, 2) := by decide +kernel
theorem dSF_checkRequest_46 : decode bSF_checkRequest 46 = .ok (.if_icmp .ge 7, 3) := by decide +kernel
theorem dSF_checkRequest_49 : decode bSF_checkRequest 49 = .ok (.iconst 1, 1) := by decide +kernel
theorem dSF_checkRequest_50 : decode bSF_checkRequest 50 = .ok (.goto 4, 3) := by decide +kernel
theorem dSF_checkRequest_53 : decode bSF_checkRequest 53 = .ok (.iconst 0, 1) := by decide +kernel
theorem dSF_checkRequest_54 : decode bSF_checkRequest 54 = .ok (.invokestatic 118, 3) := by decide +kernel
theorem dSF_checkRequest_57 : decode bSF_checkRequest 57 = .ok (.iload_n 2, 1) := by decide +kernel
theorem dSF_checkRequest_58 : decode bSF_checkRequest 58 = .ok (.iconst 1, 1) := by decide +kernel
theorem dSF_checkRequest_59 : decode bSF_checkRequest 59 = .ok (.if_icmp .lt 12, 3) := by decide +kernel
theorem dSF_checkRequest_62 : decode bSF_checkRequest 62 = .ok (.iload_n 2, 1) := by decide +kernel
theorem dSF_checkRequest_63 : decode bSF_checkRequest 63 = .ok (.iload_n 3, 1) := by decide +kernel
theorem dSF_checkRequest_64 : decode bSF_checkRequest 64 = .ok (.if_icmp .gt 7, 3) := by decide +kernel
theorem dSF_checkRequest_67 : decode bSF_checkRequest 67 = .ok (.iconst 1, 1) := by decide +kernel
theorem dSF_checkRequest_68 : decode bSF_checkRequest 68 = .ok (.goto 4, 3) := by decide +kernel
theorem dSF_checkRequest_71 : decode bSF_checkRequest 71 = .ok (.iconst 0, 1) := by decide +kernel
theorem dSF_checkRequest_72 : decode bSF_checkRequest 72 = .ok (.invokestatic 118, 3) := by decide +kernel
theorem dSF_checkRequest_75 : decode bSF_checkRequest 75 = .ok (.iload_n 1, 1) := by decide +kernel
theorem dSF_checkRequest_76 : decode bSF_checkRequest 76 = .ok (.bipush 16, 2) := by decide +kernel
theorem dSF_checkRequest_78 : decode bSF_checkRequest 78 = .ok (.idiv, 1) := by decide +kernel
theorem dSF_checkRequest_79 : decode bSF_checkRequest 79 = .ok (.iload_n 1, 1) := by decide +kernel
theorem dSF_checkRequest_80 : decode bSF_checkRequest 80 = .ok (.iload_n 2, 1) := by decide +kernel
theorem dSF_checkRequest_81 : decode bSF_checkRequest 81 = .ok (.iadd, 1) := by decide +kernel
theorem dSF_checkRequest_82 : decode bSF_checkRequest 82 = .ok (.iconst 1, 1) := by decide +kernel
theorem dSF_checkRequest_83 : decode bSF_checkRequest 83 = .ok (.isub, 1) := by decide +kernel
theorem dSF_checkRequest_84 : decode bSF_checkRequest 84 = .ok (.bipush 16, 2) := by decide +kernel
theorem dSF_checkRequest_86 : decode bSF_checkRequest 86 = .ok (.idiv, 1) := by decide +kernel
theorem dSF_checkRequest_87 : decode bSF_checkRequest 87 = .ok (.if_icmp .ne 7, 3) := by decide +kernel
theorem dSF_checkRequest_90 : decode bSF_checkRequest 90 = .ok (.iconst 1, 1) := by decide +kernel
theorem dSF_checkRequest_91 : decode bSF_checkRequest 91 = .ok (.goto 4, 3) := by decide +kernel
theorem dSF_checkRequest_94 : decode bSF_checkRequest 94 = .ok (.iconst 0, 1) := by decide +kernel
theorem dSF_checkRequest_95 : decode bSF_checkRequest 95 = .ok (.invokestatic 118, 3) := by decide +kernel
theorem dSF_checkRequest_98 : decode bSF_checkRequest 98 = .ok (.return_, 1) := by decide +kernel
theorem dSF_checkArgument_0 : decode bSF_checkArgument 0 = .ok (.iload_n 0, 1) := by decide +kernel
theorem dSF_checkArgument_1 : decode bSF_checkArgument 1 = .ok (.ifCond .ne 11, 3) := by decide +kernel
theorem dSF_checkArgument_4 : decode bSF_checkArgument 4 = .ok (.new 164, 3) := by decide +kernel
theorem dSF_checkArgument_7 : decode bSF_checkArgument 7 = .ok (.dup, 1) := by decide +kernel
theorem dSF_checkArgument_8 : decode bSF_checkArgument 8 = .ok (.invokespecial 166, 3) := by decide +kernel
theorem dSF_checkArgument_11 : decode bSF_checkArgument 11 = .ok (.athrow, 1) := by decide +kernel
theorem dSF_checkArgument_12 : decode bSF_checkArgument 12 = .ok (.return_, 1) := by decide +kernel
theorem dSF_checkState_0 : decode bSF_checkState 0 = .ok (.iload_n 0, 1) := by decide +kernel
theorem dSF_checkState_1 : decode bSF_checkState 1 = .ok (.ifCond .ne 11, 3) := by decide +kernel
theorem dSF_checkState_4 : decode bSF_checkState 4 = .ok (.new 167, 3) := by decide +kernel
theorem dSF_checkState_7 : decode bSF_checkState 7 = .ok (.dup, 1) := by decide +kernel
theorem dSF_checkState_8 : decode bSF_checkState 8 = .ok (.invokespecial 169, 3) := by decide +kernel
theorem dSF_checkState_11 : decode bSF_checkState 11 = .ok (.athrow, 1) := by decide +kernel
theorem dSF_checkState_12 : decode bSF_checkState 12 = .ok (.return_, 1) := by decide +kernel
theorem dSF_holdsSome_0 : decode bSF_holdsSome 0 = .ok (.iconst 0, 1) := by decide +kernel
theorem dSF_holdsSome_1 : decode bSF_holdsSome 1 = .ok (.istore_n 2, 1) := by decide +kernel
theorem dSF_holdsSome_2 : decode bSF_holdsSome 2 = .ok (.iload_n 2, 1) := by decide +kernel
theorem dSF_holdsSome_3 : decode bSF_holdsSome 3 = .ok (.iconst 3, 1) := by decide +kernel
theorem dSF_holdsSome_4 : decode bSF_holdsSome 4 = .ok (.if_icmp .ge 24, 3) := by decide +kernel
theorem dSF_holdsSome_7 : decode bSF_holdsSome 7 = .ok (.aload_n 0, 1) := by decide +kernel
theorem dSF_holdsSome_8 : decode bSF_holdsSome 8 = .ok (.getfield 17, 3) := by decide +kernel
theorem dSF_holdsSome_11 : decode bSF_holdsSome 11 = .ok (.iload_n 2, 1) := by decide +kernel
theorem dSF_holdsSome_12 : decode bSF_holdsSome 12 = .ok (.aaload, 1) := by decide +kernel
theorem dSF_holdsSome_13 : decode bSF_holdsSome 13 = .ok (.getfield 142, 3) := by decide +kernel
theorem dSF_holdsSome_16 : decode bSF_holdsSome 16 = .ok (.iload_n 1, 1) := by decide +kernel
theorem dSF_holdsSome_17 : decode bSF_holdsSome 17 = .ok (.if_icmp .ne 5, 3) := by decide +kernel
theorem dSF_holdsSome_20 : decode bSF_holdsSome 20 = .ok (.iconst 1, 1) := by decide +kernel
theorem dSF_holdsSome_21 : decode bSF_holdsSome 21 = .ok (.ireturn, 1) := by decide +kernel
theorem dSF_holdsSome_22 : decode bSF_holdsSome 22 = .ok (.iinc 2 1, 3) := by decide +kernel
theorem dSF_holdsSome_25 : decode bSF_holdsSome 25 = .ok (.goto (-23), 3) := by decide +kernel
theorem dSF_holdsSome_28 : decode bSF_holdsSome 28 = .ok (.iconst 0, 1) := by decide +kernel
theorem dSF_holdsSome_29 : decode bSF_holdsSome 29 = .ok (.ireturn, 1) := by decide +kernel
theorem dSF_hasWaiting_0 : decode bSF_hasWaiting 0 = .ok (.iconst 0, 1) := by decide +kernel
theorem dSF_hasWaiting_1 : decode bSF_hasWaiting 1 = .ok (.istore_n 3, 1) := by decide +kernel
theorem dSF_hasWaiting_2 : decode bSF_hasWaiting 2 = .ok (.iload_n 3, 1) := by decide +kernel
theorem dSF_hasWaiting_3 : decode bSF_hasWaiting 3 = .ok (.iconst 4, 1) := by decide +kernel
theorem dSF_hasWaiting_4 : decode bSF_hasWaiting 4 = .ok (.if_icmp .ge 37, 3) := by decide +kernel
theorem dSF_hasWaiting_7 : decode bSF_hasWaiting 7 = .ok (.aload_n 0, 1) := by decide +kernel
theorem dSF_hasWaiting_8 : decode bSF_hasWaiting 8 = .ok (.iload_n 1, 1) := by decide +kernel
theorem dSF_hasWaiting_9 : decode bSF_hasWaiting 9 = .ok (.iload_n 3, 1) := by decide +kernel
theorem dSF_hasWaiting_10 : decode bSF_hasWaiting 10 = .ok (.invokevirtual 64, 3) := by decide +kernel
theorem dSF_hasWaiting_13 : decode bSF_hasWaiting 13 = .ok (.astore 4, 2) := by decide +kernel
theorem dSF_hasWaiting_15 : decode bSF_hasWaiting 15 = .ok (.aload 4, 2) := by decide +kernel
theorem dSF_hasWaiting_17 : decode bSF_hasWaiting 17 = .ok (.getfield 68, 3) := by decide +kernel
theorem dSF_hasWaiting_20 : decode bSF_hasWaiting 20 = .ok (.iconst 1, 1) := by decide +kernel
theorem dSF_hasWaiting_21 : decode bSF_hasWaiting 21 = .ok (.if_icmp .ne 14, 3) := by decide +kernel
theorem dSF_hasWaiting_24 : decode bSF_hasWaiting 24 = .ok (.aload 4, 2) := by decide +kernel
theorem dSF_hasWaiting_26 : decode bSF_hasWaiting 26 = .ok (.getfield 173, 3) := by decide +kernel
theorem dSF_hasWaiting_29 : decode bSF_hasWaiting 29 = .ok (.iload_n 2, 1) := by decide +kernel
theorem dSF_hasWaiting_30 : decode bSF_hasWaiting 30 = .ok (.if_icmp .ne 5, 3) := by decide +kernel
theorem dSF_hasWaiting_33 : decode bSF_hasWaiting 33 = .ok (.iconst 1, 1) := by decide +kernel
theorem dSF_hasWaiting_34 : decode bSF_hasWaiting 34 = .ok (.ireturn, 1) := by decide +kernel
theorem dSF_hasWaiting_35 : decode bSF_hasWaiting 35 = .ok (.iinc 3 1, 3) := by decide +kernel
theorem dSF_hasWaiting_38 : decode bSF_hasWaiting 38 = .ok (.goto (-36), 3) := by decide +kernel
theorem dSF_hasWaiting_41 : decode bSF_hasWaiting 41 = .ok (.iconst 0, 1) := by decide +kernel
theorem dSF_hasWaiting_42 : decode bSF_hasWaiting 42 = .ok (.ireturn, 1) := by decide +kernel
theorem dSF_holdsTargetOf_0 : decode bSF_holdsTargetOf 0 = .ok (.iload_n 2, 1) := by decide +kernel
theorem dSF_holdsTargetOf_1 : decode bSF_holdsTargetOf 1 = .ok (.bipush 48, 2) := by decide +kernel
theorem dSF_holdsTargetOf_3 : decode bSF_holdsTargetOf 3 = .ok (.if_icmp .ge 23, 3) := by decide +kernel
theorem dSF_holdsTargetOf_6 : decode bSF_holdsTargetOf 6 = .ok (.aload_n 0, 1) := by decide +kernel
theorem dSF_holdsTargetOf_7 : decode bSF_holdsTargetOf 7 = .ok (.getfield 17, 3) := by decide +kernel
theorem dSF_holdsTargetOf_10 : decode bSF_holdsTargetOf 10 = .ok (.iload_n 2, 1) := by decide +kernel
theorem dSF_holdsTargetOf_11 : decode bSF_holdsTargetOf 11 = .ok (.bipush 16, 2) := by decide +kernel
theorem dSF_holdsTargetOf_13 : decode bSF_holdsTargetOf 13 = .ok (.idiv, 1) := by decide +kernel
theorem dSF_holdsTargetOf_14 : decode bSF_holdsTargetOf 14 = .ok (.aaload, 1) := by decide +kernel
theorem dSF_holdsTargetOf_15 : decode bSF_holdsTargetOf 15 = .ok (.getfield 142, 3) := by decide +kernel
theorem dSF_holdsTargetOf_18 : decode bSF_holdsTargetOf 18 = .ok (.iload_n 1, 1) := by decide +kernel
theorem dSF_holdsTargetOf_19 : decode bSF_holdsTargetOf 19 = .ok (.if_icmp .ne 7, 3) := by decide +kernel
theorem dSF_holdsTargetOf_22 : decode bSF_holdsTargetOf 22 = .ok (.iconst 1, 1) := by decide +kernel
theorem dSF_holdsTargetOf_23 : decode bSF_holdsTargetOf 23 = .ok (.goto 4, 3) := by decide +kernel
theorem dSF_holdsTargetOf_26 : decode bSF_holdsTargetOf 26 = .ok (.iconst 0, 1) := by decide +kernel
theorem dSF_holdsTargetOf_27 : decode bSF_holdsTargetOf 27 = .ok (.ireturn, 1) := by decide +kernel
theorem dSF_ready_0 : decode bSF_ready 0 = .ok (.iload_n 1, 1) := by decide +kernel
theorem dSF_ready_1 : decode bSF_ready 1 = .ok (.iconst 3, 1) := by decide +kernel
theorem dSF_ready_2 : decode bSF_ready 2 = .ok (.invokestatic 57, 3) := by decide +kernel
theorem dSF_ready_5 : decode bSF_ready 5 = .ok (.aload_n 0, 1) := by decide +kernel
theorem dSF_ready_6 : decode bSF_ready 6 = .ok (.getfield 17, 3) := by decide +kernel
theorem dSF_ready_9 : decode bSF_ready 9 = .ok (.iload_n 1, 1) := by decide +kernel
theorem dSF_ready_10 : decode bSF_ready 10 = .ok (.aaload, 1) := by decide +kernel
theorem dSF_ready_11 : decode bSF_ready 11 = .ok (.iload_n 2, 1) := by decide +kernel
theorem dSF_ready_12 : decode bSF_ready 12 = .ok (.putfield 94, 3) := by decide +kernel
theorem dSF_ready_15 : decode bSF_ready 15 = .ok (.return_, 1) := by decide +kernel
theorem dSF_cycles_0 : decode bSF_cycles 0 = .ok (.iload_n 1, 1) := by decide +kernel
theorem dSF_cycles_1 : decode bSF_cycles 1 = .ok (.iconst 1, 1) := by decide +kernel
theorem dSF_cycles_2 : decode bSF_cycles 2 = .ok (.if_icmp .lt 13, 3) := by decide +kernel
theorem dSF_cycles_5 : decode bSF_cycles 5 = .ok (.iload_n 1, 1) := by decide +kernel
theorem dSF_cycles_6 : decode bSF_cycles 6 = .ok (.bipush 100, 2) := by decide +kernel
theorem dSF_cycles_8 : decode bSF_cycles 8 = .ok (.if_icmp .gt 7, 3) := by decide +kernel
theorem dSF_cycles_11 : decode bSF_cycles 11 = .ok (.iconst 1, 1) := by decide +kernel
theorem dSF_cycles_12 : decode bSF_cycles 12 = .ok (.goto 4, 3) := by decide +kernel
theorem dSF_cycles_15 : decode bSF_cycles 15 = .ok (.iconst 0, 1) := by decide +kernel
theorem dSF_cycles_16 : decode bSF_cycles 16 = .ok (.invokestatic 118, 3) := by decide +kernel
theorem dSF_cycles_19 : decode bSF_cycles 19 = .ok (.iconst 0, 1) := by decide +kernel
theorem dSF_cycles_20 : decode bSF_cycles 20 = .ok (.istore_n 2, 1) := by decide +kernel
theorem dSF_cycles_21 : decode bSF_cycles 21 = .ok (.iconst 0, 1) := by decide +kernel
theorem dSF_cycles_22 : decode bSF_cycles 22 = .ok (.istore_n 3, 1) := by decide +kernel
theorem dSF_cycles_23 : decode bSF_cycles 23 = .ok (.iload_n 3, 1) := by decide +kernel
theorem dSF_cycles_24 : decode bSF_cycles 24 = .ok (.iload_n 1, 1) := by decide +kernel
theorem dSF_cycles_25 : decode bSF_cycles 25 = .ok (.if_icmp .ge 20, 3) := by decide +kernel
theorem dSF_cycles_28 : decode bSF_cycles 28 = .ok (.aload_n 0, 1) := by decide +kernel
theorem dSF_cycles_29 : decode bSF_cycles 29 = .ok (.invokevirtual 121, 3) := by decide +kernel
theorem dSF_cycles_32 : decode bSF_cycles 32 = .ok (.iconst (-1), 1) := by decide +kernel
theorem dSF_cycles_33 : decode bSF_cycles 33 = .ok (.if_icmp .eq 6, 3) := by decide +kernel
theorem dSF_cycles_36 : decode bSF_cycles 36 = .ok (.iinc 2 1, 3) := by decide +kernel
theorem dSF_cycles_39 : decode bSF_cycles 39 = .ok (.iinc 3 1, 3) := by decide +kernel
theorem dSF_cycles_42 : decode bSF_cycles 42 = .ok (.goto (-19), 3) := by decide +kernel
theorem dSF_cycles_45 : decode bSF_cycles 45 = .ok (.iload_n 2, 1) := by decide +kernel
theorem dSF_cycles_46 : decode bSF_cycles 46 = .ok (.ireturn, 1) := by decide +kernel
theorem dSF_state_0 : decode bSF_state 0 = .ok (.iload_n 1, 1) := by decide +kernel
theorem dSF_state_1 : decode bSF_state 1 = .ok (.iconst 4, 1) := by decide +kernel
theorem dSF_state_2 : decode bSF_state 2 = .ok (.invokestatic 57, 3) := by decide +kernel
theorem dSF_state_5 : decode bSF_state 5 = .ok (.iload_n 2, 1) := by decide +kernel
theorem dSF_state_6 : decode bSF_state 6 = .ok (.iconst 4, 1) := by decide +kernel
theorem dSF_state_7 : decode bSF_state 7 = .ok (.invokestatic 57, 3) := by decide +kernel
theorem dSF_state_10 : decode bSF_state 10 = .ok (.aload_n 0, 1) := by decide +kernel
theorem dSF_state_11 : decode bSF_state 11 = .ok (.iload_n 1, 1) := by decide +kernel
theorem dSF_state_12 : decode bSF_state 12 = .ok (.iload_n 2, 1) := by decide +kernel
theorem dSF_state_13 : decode bSF_state 13 = .ok (.invokevirtual 64, 3) := by decide +kernel
theorem dSF_state_16 : decode bSF_state 16 = .ok (.getfield 68, 3) := by decide +kernel
theorem dSF_state_19 : decode bSF_state 19 = .ok (.ireturn, 1) := by decide +kernel
theorem dSF_word_0 : decode bSF_word 0 = .ok (.iload_n 1, 1) := by decide +kernel
theorem dSF_word_1 : decode bSF_word 1 = .ok (.iconst 4, 1) := by decide +kernel
theorem dSF_word_2 : decode bSF_word 2 = .ok (.invokestatic 57, 3) := by decide +kernel
theorem dSF_word_5 : decode bSF_word 5 = .ok (.iload_n 2, 1) := by decide +kernel
theorem dSF_word_6 : decode bSF_word 6 = .ok (.iconst 4, 1) := by decide +kernel
theorem dSF_word_7 : decode bSF_word 7 = .ok (.invokestatic 57, 3) := by decide +kernel
theorem dSF_word_10 : decode bSF_word 10 = .ok (.iload_n 3, 1) := by decide +kernel
theorem dSF_word_11 : decode bSF_word 11 = .ok (.iconst 4, 1) := by decide +kernel
theorem dSF_word_12 : decode bSF_word 12 = .ok (.invokestatic 57, 3) := by decide +kernel
theorem dSF_word_15 : decode bSF_word 15 = .ok (.aload_n 0, 1) := by decide +kernel
theorem dSF_word_16 : decode bSF_word 16 = .ok (.iload_n 1, 1) := by decide +kernel
theorem dSF_word_17 : decode bSF_word 17 = .ok (.iload_n 2, 1) := by decide +kernel
theorem dSF_word_18 : decode bSF_word 18 = .ok (.invokevirtual 64, 3) := by decide +kernel
theorem dSF_word_21 : decode bSF_word 21 = .ok (.astore 4, 2) := by decide +kernel
theorem dSF_word_23 : decode bSF_word 23 = .ok (.aload 4, 2) := by decide +kernel
theorem dSF_word_25 : decode bSF_word 25 = .ok (.getfield 68, 3) := by decide +kernel
theorem dSF_word_28 : decode bSF_word 28 = .ok (.iconst 3, 1) := by decide +kernel
theorem dSF_word_29 : decode bSF_word 29 = .ok (.if_icmp .ne 24, 3) := by decide +kernel
theorem dSF_word_32 : decode bSF_word 32 = .ok (.aload 4, 2) := by decide +kernel
theorem dSF_word_34 : decode bSF_word 34 = .ok (.invokevirtual 125, 3) := by decide +kernel
theorem dSF_word_37 : decode bSF_word 37 = .ok (.ifCond .eq 16, 3) := by decide +kernel
theorem dSF_word_40 : decode bSF_word 40 = .ok (.iload_n 3, 1) := by decide +kernel
theorem dSF_word_41 : decode bSF_word 41 = .ok (.aload 4, 2) := by decide +kernel
theorem dSF_word_43 : decode bSF_word 43 = .ok (.getfield 129, 3) := by decide +kernel
theorem dSF_word_46 : decode bSF_word 46 = .ok (.if_icmp .ge 7, 3) := by decide +kernel
theorem dSF_word_49 : decode bSF_word 49 = .ok (.iconst 1, 1) := by decide +kernel
theorem dSF_word_50 : decode bSF_word 50 = .ok (.goto 4, 3) := by decide +kernel
theorem dSF_word_53 : decode bSF_word 53 = .ok (.iconst 0, 1) := by decide +kernel
theorem dSF_word_54 : decode bSF_word 54 = .ok (.invokestatic 71, 3) := by decide +kernel
theorem dSF_word_57 : decode bSF_word 57 = .ok (.aload 4, 2) := by decide +kernel
theorem dSF_word_59 : decode bSF_word 59 = .ok (.getfield 132, 3) := by decide +kernel
theorem dSF_word_62 : decode bSF_word 62 = .ok (.iload_n 3, 1) := by decide +kernel
theorem dSF_word_63 : decode bSF_word 63 = .ok (.iaload, 1) := by decide +kernel
theorem dSF_word_64 : decode bSF_word 64 = .ok (.ireturn, 1) := by decide +kernel
theorem dSF_take_0 : decode bSF_take 0 = .ok (.iload_n 1, 1) := by decide +kernel
theorem dSF_take_1 : decode bSF_take 1 = .ok (.iconst 4, 1) := by decide +kernel
theorem dSF_take_2 : decode bSF_take 2 = .ok (.invokestatic 57, 3) := by decide +kernel
theorem dSF_take_5 : decode bSF_take 5 = .ok (.iload_n 2, 1) := by decide +kernel
theorem dSF_take_6 : decode bSF_take 6 = .ok (.iconst 4, 1) := by decide +kernel
theorem dSF_take_7 : decode bSF_take 7 = .ok (.invokestatic 57, 3) := by decide +kernel
theorem dSF_take_10 : decode bSF_take 10 = .ok (.aload_n 0, 1) := by decide +kernel
theorem dSF_take_11 : decode bSF_take 11 = .ok (.iload_n 1, 1) := by decide +kernel
theorem dSF_take_12 : decode bSF_take 12 = .ok (.iload_n 2, 1) := by decide +kernel
theorem dSF_take_13 : decode bSF_take 13 = .ok (.invokevirtual 64, 3) := by decide +kernel
theorem dSF_take_16 : decode bSF_take 16 = .ok (.astore_n 3, 1) := by decide +kernel
theorem dSF_take_17 : decode bSF_take 17 = .ok (.aload_n 3, 1) := by decide +kernel
theorem dSF_take_18 : decode bSF_take 18 = .ok (.getfield 68, 3) := by decide +kernel
theorem dSF_take_21 : decode bSF_take 21 = .ok (.iconst 3, 1) := by decide +kernel
theorem dSF_take_22 : decode bSF_take 22 = .ok (.if_icmp .eq 11, 3) := by decide +kernel
theorem dSF_take_25 : decode bSF_take 25 = .ok (.aload_n 3, 1) := by decide +kernel
theorem dSF_take_26 : decode bSF_take 26 = .ok (.getfield 68, 3) := by decide +kernel
theorem dSF_take_29 : decode bSF_take 29 = .ok (.iconst 4, 1) := by decide +kernel
theorem dSF_take_30 : decode bSF_take 30 = .ok (.if_icmp .ne 7, 3) := by decide +kernel
theorem dSF_take_33 : decode bSF_take 33 = .ok (.iconst 1, 1) := by decide +kernel
theorem dSF_take_34 : decode bSF_take 34 = .ok (.goto 4, 3) := by decide +kernel
theorem dSF_take_37 : decode bSF_take 37 = .ok (.iconst 0, 1) := by decide +kernel
theorem dSF_take_38 : decode bSF_take 38 = .ok (.invokestatic 71, 3) := by decide +kernel
theorem dSF_take_41 : decode bSF_take 41 = .ok (.aload_n 3, 1) := by decide +kernel
theorem dSF_take_42 : decode bSF_take 42 = .ok (.getfield 68, 3) := by decide +kernel
theorem dSF_take_45 : decode bSF_take 45 = .ok (.iconst 3, 1) := by decide +kernel
theorem dSF_take_46 : decode bSF_take 46 = .ok (.if_icmp .ne 7, 3) := by decide +kernel
theorem dSF_take_49 : decode bSF_take 49 = .ok (.iconst 1, 1) := by decide +kernel
theorem dSF_take_50 : decode bSF_take 50 = .ok (.goto 4, 3) := by decide +kernel
theorem dSF_take_53 : decode bSF_take 53 = .ok (.iconst 0, 1) := by decide +kernel
theorem dSF_take_54 : decode bSF_take 54 = .ok (.istore 4, 2) := by decide +kernel
theorem dSF_take_56 : decode bSF_take 56 = .ok (.aload_n 3, 1) := by decide +kernel
theorem dSF_take_57 : decode bSF_take 57 = .ok (.iconst 0, 1) := by decide +kernel
theorem dSF_take_58 : decode bSF_take 58 = .ok (.putfield 68, 3) := by decide +kernel
theorem dSF_take_61 : decode bSF_take 61 = .ok (.iload 4, 2) := by decide +kernel
theorem dSF_take_63 : decode bSF_take 63 = .ok (.ireturn, 1) := by decide +kernel
theorem dSF_base_0 : decode bSF_base 0 = .ok (.iload_n 1, 1) := by decide +kernel
theorem dSF_base_1 : decode bSF_base 1 = .ok (.iconst 4, 1) := by decide +kernel
theorem dSF_base_2 : decode bSF_base 2 = .ok (.invokestatic 57, 3) := by decide +kernel
theorem dSF_base_5 : decode bSF_base 5 = .ok (.iload_n 2, 1) := by decide +kernel
theorem dSF_base_6 : decode bSF_base 6 = .ok (.ifCond .lt 12, 3) := by decide +kernel
theorem dSF_base_9 : decode bSF_base 9 = .ok (.iload_n 2, 1) := by decide +kernel
theorem dSF_base_10 : decode bSF_base 10 = .ok (.iconst 2, 1) := by decide +kernel
theorem dSF_base_11 : decode bSF_base 11 = .ok (.if_icmp .gt 7, 3) := by decide +kernel
theorem dSF_base_14 : decode bSF_base 14 = .ok (.iconst 1, 1) := by decide +kernel
theorem dSF_base_15 : decode bSF_base 15 = .ok (.goto 4, 3) := by decide +kernel
theorem dSF_base_18 : decode bSF_base 18 = .ok (.iconst 0, 1) := by decide +kernel
theorem dSF_base_19 : decode bSF_base 19 = .ok (.invokestatic 118, 3) := by decide +kernel
theorem dSF_base_22 : decode bSF_base 22 = .ok (.aload_n 0, 1) := by decide +kernel
theorem dSF_base_23 : decode bSF_base 23 = .ok (.getfield 30, 3) := by decide +kernel
theorem dSF_base_26 : decode bSF_base 26 = .ok (.iload_n 1, 1) := by decide +kernel
theorem dSF_base_27 : decode bSF_base 27 = .ok (.iload_n 2, 1) := by decide +kernel
theorem dSF_base_28 : decode bSF_base 28 = .ok (.iastore, 1) := by decide +kernel
theorem dSF_base_29 : decode bSF_base 29 = .ok (.return_, 1) := by decide +kernel
theorem dSF_waits_0 : decode bSF_waits 0 = .ok (.iload_n 1, 1) := by decide +kernel
theorem dSF_waits_1 : decode bSF_waits 1 = .ok (.iconst 4, 1) := by decide +kernel
theorem dSF_waits_2 : decode bSF_waits 2 = .ok (.invokestatic 57, 3) := by decide +kernel
theorem dSF_waits_5 : decode bSF_waits 5 = .ok (.aconst_null, 1) := by decide +kernel
theorem dSF_waits_6 : decode bSF_waits 6 = .ok (.astore_n 2, 1) := by decide +kernel
theorem dSF_waits_7 : decode bSF_waits 7 = .ok (.iconst 0, 1) := by decide +kernel
theorem dSF_waits_8 : decode bSF_waits 8 = .ok (.istore_n 3, 1) := by decide +kernel
theorem dSF_waits_9 : decode bSF_waits 9 = .ok (.iload_n 3, 1) := by decide +kernel
theorem dSF_waits_10 : decode bSF_waits 10 = .ok (.iconst 4, 1) := by decide +kernel
theorem dSF_waits_11 : decode bSF_waits 11 = .ok (.if_icmp .ge 42, 3) := by decide +kernel
theorem dSF_waits_14 : decode bSF_waits 14 = .ok (.aload_n 0, 1) := by decide +kernel
theorem dSF_waits_15 : decode bSF_waits 15 = .ok (.iload_n 1, 1) := by decide +kernel
theorem dSF_waits_16 : decode bSF_waits 16 = .ok (.iload_n 3, 1) := by decide +kernel
theorem dSF_waits_17 : decode bSF_waits 17 = .ok (.invokevirtual 64, 3) := by decide +kernel
theorem dSF_waits_20 : decode bSF_waits 20 = .ok (.astore 4, 2) := by decide +kernel
theorem dSF_waits_22 : decode bSF_waits 22 = .ok (.aload 4, 2) := by decide +kernel
theorem dSF_waits_24 : decode bSF_waits 24 = .ok (.getfield 68, 3) := by decide +kernel
theorem dSF_waits_27 : decode bSF_waits 27 = .ok (.iconst 1, 1) := by decide +kernel
theorem dSF_waits_28 : decode bSF_waits 28 = .ok (.if_icmp .ne 19, 3) := by decide +kernel
theorem dSF_waits_31 : decode bSF_waits 31 = .ok (.aload_n 2, 1) := by decide +kernel
theorem dSF_waits_32 : decode bSF_waits 32 = .ok (.ifnull 12, 3) := by decide +kernel
theorem dSF_waits_35 : decode bSF_waits 35 = .ok (.aload 4, 2) := by decide +kernel
theorem dSF_waits_37 : decode bSF_waits 37 = .ok (.aload_n 2, 1) := by decide +kernel
theorem dSF_waits_38 : decode bSF_waits 38 = .ok (.invokevirtual 135, 3) := by decide +kernel
theorem dSF_waits_41 : decode bSF_waits 41 = .ok (.ifCond .eq 6, 3) := by decide +kernel
theorem dSF_waits_44 : decode bSF_waits 44 = .ok (.aload 4, 2) := by decide +kernel
theorem dSF_waits_46 : decode bSF_waits 46 = .ok (.astore_n 2, 1) := by decide +kernel
theorem dSF_waits_47 : decode bSF_waits 47 = .ok (.iinc 3 1, 3) := by decide +kernel
theorem dSF_waits_50 : decode bSF_waits 50 = .ok (.goto (-41), 3) := by decide +kernel
theorem dSF_waits_53 : decode bSF_waits 53 = .ok (.aload_n 2, 1) := by decide +kernel
theorem dSF_waits_54 : decode bSF_waits 54 = .ok (.ifnonnull 7, 3) := by decide +kernel
theorem dSF_waits_57 : decode bSF_waits 57 = .ok (.iconst (-1), 1) := by decide +kernel
theorem dSF_waits_58 : decode bSF_waits 58 = .ok (.goto 7, 3) := by decide +kernel
theorem dSF_waits_61 : decode bSF_waits 61 = .ok (.aload_n 2, 1) := by decide +kernel
theorem dSF_waits_62 : decode bSF_waits 62 = .ok (.getfield 139, 3) := by decide +kernel
theorem dSF_waits_65 : decode bSF_waits 65 = .ok (.ireturn, 1) := by decide +kernel
theorem dSF_reset_0 : decode bSF_reset 0 = .ok (.iload_n 1, 1) := by decide +kernel
theorem dSF_reset_1 : decode bSF_reset 1 = .ok (.iconst 4, 1) := by decide +kernel
theorem dSF_reset_2 : decode bSF_reset 2 = .ok (.invokestatic 57, 3) := by decide +kernel
theorem dSF_reset_5 : decode bSF_reset 5 = .ok (.iconst 0, 1) := by decide +kernel
theorem dSF_reset_6 : decode bSF_reset 6 = .ok (.istore_n 2, 1) := by decide +kernel
theorem dSF_reset_7 : decode bSF_reset 7 = .ok (.iconst 0, 1) := by decide +kernel
theorem dSF_reset_8 : decode bSF_reset 8 = .ok (.istore_n 3, 1) := by decide +kernel
theorem dSF_reset_9 : decode bSF_reset 9 = .ok (.iload_n 3, 1) := by decide +kernel
theorem dSF_reset_10 : decode bSF_reset 10 = .ok (.iconst 4, 1) := by decide +kernel
theorem dSF_reset_11 : decode bSF_reset 11 = .ok (.if_icmp .ge 35, 3) := by decide +kernel
theorem dSF_reset_14 : decode bSF_reset 14 = .ok (.aload_n 0, 1) := by decide +kernel
theorem dSF_reset_15 : decode bSF_reset 15 = .ok (.iload_n 1, 1) := by decide +kernel
theorem dSF_reset_16 : decode bSF_reset 16 = .ok (.iload_n 3, 1) := by decide +kernel
theorem dSF_reset_17 : decode bSF_reset 17 = .ok (.invokevirtual 64, 3) := by decide +kernel
theorem dSF_reset_20 : decode bSF_reset 20 = .ok (.astore 4, 2) := by decide +kernel
theorem dSF_reset_22 : decode bSF_reset 22 = .ok (.aload 4, 2) := by decide +kernel
theorem dSF_reset_24 : decode bSF_reset 24 = .ok (.getfield 68, 3) := by decide +kernel
theorem dSF_reset_27 : decode bSF_reset 27 = .ok (.iconst 1, 1) := by decide +kernel
theorem dSF_reset_28 : decode bSF_reset 28 = .ok (.if_icmp .ne 12, 3) := by decide +kernel
theorem dSF_reset_31 : decode bSF_reset 31 = .ok (.aload 4, 2) := by decide +kernel
theorem dSF_reset_33 : decode bSF_reset 33 = .ok (.iconst 0, 1) := by decide +kernel
theorem dSF_reset_34 : decode bSF_reset 34 = .ok (.putfield 68, 3) := by decide +kernel
theorem dSF_reset_37 : decode bSF_reset 37 = .ok (.iinc 2 1, 3) := by decide +kernel
theorem dSF_reset_40 : decode bSF_reset 40 = .ok (.iinc 3 1, 3) := by decide +kernel
theorem dSF_reset_43 : decode bSF_reset 43 = .ok (.goto (-34), 3) := by decide +kernel
theorem dSF_reset_46 : decode bSF_reset 46 = .ok (.iconst 0, 1) := by decide +kernel
theorem dSF_reset_47 : decode bSF_reset 47 = .ok (.istore_n 3, 1) := by decide +kernel
theorem dSF_reset_48 : decode bSF_reset 48 = .ok (.iload_n 3, 1) := by decide +kernel
theorem dSF_reset_49 : decode bSF_reset 49 = .ok (.iconst 3, 1) := by decide +kernel
theorem dSF_reset_50 : decode bSF_reset 50 = .ok (.if_icmp .ge 32, 3) := by decide +kernel
theorem dSF_reset_53 : decode bSF_reset 53 = .ok (.aload_n 0, 1) := by decide +kernel
theorem dSF_reset_54 : decode bSF_reset 54 = .ok (.getfield 17, 3) := by decide +kernel
theorem dSF_reset_57 : decode bSF_reset 57 = .ok (.iload_n 3, 1) := by decide +kernel
theorem dSF_reset_58 : decode bSF_reset 58 = .ok (.aaload, 1) := by decide +kernel
theorem dSF_reset_59 : decode bSF_reset 59 = .ok (.getfield 142, 3) := by decide +kernel
theorem dSF_reset_62 : decode bSF_reset 62 = .ok (.iload_n 1, 1) := by decide +kernel
theorem dSF_reset_63 : decode bSF_reset 63 = .ok (.if_icmp .ne 13, 3) := by decide +kernel
theorem dSF_reset_66 : decode bSF_reset 66 = .ok (.aload_n 0, 1) := by decide +kernel
theorem dSF_reset_67 : decode bSF_reset 67 = .ok (.getfield 17, 3) := by decide +kernel
theorem dSF_reset_70 : decode bSF_reset 70 = .ok (.iload_n 3, 1) := by decide +kernel
theorem dSF_reset_71 : decode bSF_reset 71 = .ok (.aaload, 1) := by decide +kernel
theorem dSF_reset_72 : decode bSF_reset 72 = .ok (.iconst (-1), 1) := by decide +kernel
theorem dSF_reset_73 : decode bSF_reset 73 = .ok (.putfield 142, 3) := by decide +kernel
theorem dSF_reset_76 : decode bSF_reset 76 = .ok (.iinc 3 1, 3) := by decide +kernel
theorem dSF_reset_79 : decode bSF_reset 79 = .ok (.goto (-31), 3) := by decide +kernel
theorem dSF_reset_82 : decode bSF_reset 82 = .ok (.iload_n 2, 1) := by decide +kernel
theorem dSF_reset_83 : decode bSF_reset 83 = .ok (.ireturn, 1) := by decide +kernel
theorem dSF_credits_0 : decode bSF_credits 0 = .ok (.iload_n 1, 1) := by decide +kernel
theorem dSF_credits_1 : decode bSF_credits 1 = .ok (.iconst 3, 1) := by decide +kernel
theorem dSF_credits_2 : decode bSF_credits 2 = .ok (.invokestatic 57, 3) := by decide +kernel
theorem dSF_credits_5 : decode bSF_credits 5 = .ok (.aload_n 0, 1) := by decide +kernel
theorem dSF_credits_6 : decode bSF_credits 6 = .ok (.getfield 17, 3) := by decide +kernel
theorem dSF_credits_9 : decode bSF_credits 9 = .ok (.iload_n 1, 1) := by decide +kernel
theorem dSF_credits_10 : decode bSF_credits 10 = .ok (.aaload, 1) := by decide +kernel
theorem dSF_credits_11 : decode bSF_credits 11 = .ok (.getfield 145, 3) := by decide +kernel
theorem dSF_credits_14 : decode bSF_credits 14 = .ok (.ireturn, 1) := by decide +kernel
theorem dSF_holder_0 : decode bSF_holder 0 = .ok (.iload_n 1, 1) := by decide +kernel
theorem dSF_holder_1 : decode bSF_holder 1 = .ok (.iconst 3, 1) := by decide +kernel
theorem dSF_holder_2 : decode bSF_holder 2 = .ok (.invokestatic 57, 3) := by decide +kernel
theorem dSF_holder_5 : decode bSF_holder 5 = .ok (.aload_n 0, 1) := by decide +kernel
theorem dSF_holder_6 : decode bSF_holder 6 = .ok (.getfield 17, 3) := by decide +kernel
theorem dSF_holder_9 : decode bSF_holder 9 = .ok (.iload_n 1, 1) := by decide +kernel
theorem dSF_holder_10 : decode bSF_holder 10 = .ok (.aaload, 1) := by decide +kernel
theorem dSF_holder_11 : decode bSF_holder 11 = .ok (.getfield 142, 3) := by decide +kernel
theorem dSF_holder_14 : decode bSF_holder 14 = .ok (.ireturn, 1) := by decide +kernel
theorem dSF_memory_0 : decode bSF_memory 0 = .ok (.iload_n 1, 1) := by decide +kernel
theorem dSF_memory_1 : decode bSF_memory 1 = .ok (.bipush 48, 2) := by decide +kernel
theorem dSF_memory_3 : decode bSF_memory 3 = .ok (.invokestatic 57, 3) := by decide +kernel
theorem dSF_memory_6 : decode bSF_memory 6 = .ok (.aload_n 0, 1) := by decide +kernel
theorem dSF_memory_7 : decode bSF_memory 7 = .ok (.getfield 21, 3) := by decide +kernel
theorem dSF_memory_10 : decode bSF_memory 10 = .ok (.iload_n 1, 1) := by decide +kernel
theorem dSF_memory_11 : decode bSF_memory 11 = .ok (.iaload, 1) := by decide +kernel
theorem dSF_memory_12 : decode bSF_memory 12 = .ok (.ireturn, 1) := by decide +kernel
theorem dSF_service_0 : decode bSF_service 0 = .ok (.iload_n 1, 1) := by decide +kernel
theorem dSF_service_1 : decode bSF_service 1 = .ok (.aload_n 0, 1) := by decide +kernel
theorem dSF_service_2 : decode bSF_service 2 = .ok (.getfield 36, 3) := by decide +kernel
theorem dSF_service_5 : decode bSF_service 5 = .ok (.invokevirtual 148, 3) := by decide +kernel
theorem dSF_service_8 : decode bSF_service 8 = .ok (.invokestatic 57, 3) := by decide +kernel
theorem dSF_service_11 : decode bSF_service 11 = .ok (.iload_n 2, 1) := by decide +kernel
theorem dSF_service_12 : decode bSF_service 12 = .ok (.ifCond .lt 13, 3) := by decide +kernel
theorem dSF_service_15 : decode bSF_service 15 = .ok (.iload_n 2, 1) := by decide +kernel
theorem dSF_service_16 : decode bSF_service 16 = .ok (.bipush 6, 2) := by decide +kernel
theorem dSF_service_18 : decode bSF_service 18 = .ok (.if_icmp .ge 7, 3) := by decide +kernel
theorem dSF_service_21 : decode bSF_service 21 = .ok (.iconst 1, 1) := by decide +kernel
theorem dSF_service_22 : decode bSF_service 22 = .ok (.goto 4, 3) := by decide +kernel
theorem dSF_service_25 : decode bSF_service 25 = .ok (.iconst 0, 1) := by decide +kernel
theorem dSF_service_26 : decode bSF_service 26 = .ok (.invokestatic 118, 3) := by decide +kernel
theorem dSF_service_29 : decode bSF_service 29 = .ok (.aload_n 0, 1) := by decide +kernel
theorem dSF_service_30 : decode bSF_service 30 = .ok (.getfield 36, 3) := by decide +kernel
theorem dSF_service_33 : decode bSF_service 33 = .ok (.iload_n 1, 1) := by decide +kernel
theorem dSF_service_34 : decode bSF_service 34 = .ok (.invokevirtual 151, 3) := by decide +kernel
theorem dSF_service_37 : decode bSF_service 37 = .ok (.checkcast 155, 3) := by decide +kernel
theorem dSF_service_40 : decode bSF_service 40 = .ok (.iload_n 2, 1) := by decide +kernel
theorem dSF_service_41 : decode bSF_service 41 = .ok (.invokevirtual 157, 3) := by decide +kernel
theorem dSF_service_44 : decode bSF_service 44 = .ok (.ireturn, 1) := by decide +kernel
end
section
/-! Worlds by names: a cell's name is (region, number), its address is ad region number, what it holds is E region number. -/
section
def xw_u2 {α : Type} (f : Nat → Nat → α) (r k : Nat) (v : α) : Nat → Nat → α := va_up f r (va_up (f r) k v)
theorem xw_u2_s {α : Type} (f : Nat → Nat → α) (r k : Nat) (v : α) : xw_u2 f r k v r k = v := by simp [xw_u2, va_up]
theorem xw_u2_n {α : Type} (f : Nat → Nat → α) {r k a b : Nat} (v : α) (h : ¬ (a = r ∧ b = k)) : xw_u2 f r k v a b = f a b := by
  unfold xw_u2 va_up
  by_cases h1 : a = r
  · subst h1
    by_cases h2 : b = k
    · exact absurd ⟨rfl, h2⟩ h
    · simp [h2]
  · simp [h1]
def xw_l (I : List (Nat × Nat)) (ad : Nat → Nat → Nat) (E : Nat → Nat → va_E) : va_W := I.map (fun j => (ad j.1 j.2, E j.1 j.2))
theorem xw_some {I : List (Nat × Nat)} {ad : Nat → Nat → Nat} {E : Nat → Nat → va_E} {i : Nat} {q : Nat × va_E} (h : (xw_l I ad E)[i]? = some q) : ∃ j : Nat × Nat, I[i]? = some j ∧ q = (ad j.1 j.2, E j.1 j.2) := by
  unfold xw_l at h
  rw [List.getElem?_map] at h
  cases hi : I[i]? with
  | none => rw [hi] at h; cases h
  | some j => rw [hi] at h; exact ⟨j, rfl, (Option.some.inj h).symm⟩
theorem xw_of {I : List (Nat × Nat)} {ad : Nat → Nat → Nat} {E : Nat → Nat → va_E} {i : Nat} {j : Nat × Nat} (h : I[i]? = some j) : (xw_l I ad E)[i]? = some (ad j.1 j.2, E j.1 j.2) := by
  unfold xw_l
  rw [List.getElem?_map, h]
  rfl
theorem xw_at {I : List (Nat × Nat)} {r k : Nat} (ad : Nat → Nat → Nat) (E : Nat → Nat → va_E) (h : (r, k) ∈ I) : ∃ q : Nat, (xw_l I ad E)[q]? = some (ad r k, E r k) := by
  obtain ⟨q, hq⟩ := List.getElem?_of_mem h
  exact ⟨q, xw_of hq⟩
theorem xw_D {A : Nat → Prop} {I : List (Nat × Nat)} {ad : Nat → Nat → Nat} {E E' : Nat → Nat → va_E} (h : va_D A (xw_l I ad E)) : va_D A (xw_l I ad E') := by
  refine ⟨fun i j x y hi hj hxy => ?_, fun i x hi => ?_⟩
  · obtain ⟨a, ha, rfl⟩ := xw_some hi
    obtain ⟨b, hb, rfl⟩ := xw_some hj
    exact h.1 i j _ _ (xw_of ha) (xw_of hb) hxy
  · obtain ⟨a, ha, rfl⟩ := xw_some hi
    exact h.2 i (ad a.1 a.2, E a.1 a.2) (xw_of ha)
theorem xw_set {A : Nat → Prop} {I : List (Nat × Nat)} {ad : Nat → Nat → Nat} {E : Nat → Nat → va_E} {r k q : Nat} {x e : va_E} (hD : va_D A (xw_l I ad E)) (h : (r, k) ∈ I) (hq : (xw_l I ad E)[q]? = some (ad r k, x)) : (xw_l I ad E).set q (ad r k, e) = xw_l I ad (xw_u2 E r k e) := by
  obtain ⟨i0, hi0⟩ := List.getElem?_of_mem h
  have h0 := xw_of (ad := ad) (E := E) hi0
  have e0 : i0 = q := hD.1 i0 q _ _ h0 hq rfl
  subst e0
  apply List.ext_getElem?
  intro i
  by_cases hi : i = i0
  · subst hi
    rw [List.getElem?_set_self (List.getElem?_eq_some_iff.mp h0).1, xw_of hi0]
    show some (ad r k, e) = some (ad r k, xw_u2 E r k e r k)
    rw [xw_u2_s]
  · rw [List.getElem?_set_ne (Ne.symm hi)]
    cases hI : I[i]? with
    | none => simp [xw_l, hI]
    | some j =>
      rw [xw_of hI, xw_of hI, xw_u2_n]
      intro hj
      have hjj : j = (r, k) := by
        obtain ⟨a, b⟩ := j
        obtain ⟨h1, h2⟩ := hj
        dsimp only at h1 h2
        subst h1; subst h2; rfl
      subst hjj
      exact hi (hD.1 i i0 _ _ (xw_of hI) h0 rfl)
theorem xw_new {I : List (Nat × Nat)} {ad : Nat → Nat → Nat} {E : Nat → Nat → va_E} {r k q : Nat} {e : va_E} (h : (r, k) ∉ I) : xw_l I ad E ++ [(q, e)] = xw_l (I ++ [(r, k)]) (xw_u2 ad r k q) (xw_u2 E r k e) := by
  unfold xw_l
  rw [List.map_append]
  congr 1
  · apply List.map_congr_left
    intro j hj
    have hn : ¬ (j.1 = r ∧ j.2 = k) := fun z => h (by
      obtain ⟨a, b⟩ := j
      obtain ⟨h1, h2⟩ := z
      dsimp only at h1 h2
      subst h1; subst h2; exact hj)
    rw [xw_u2_n _ _ hn, xw_u2_n _ _ hn]
  · simp [xw_u2_s]
theorem xw_congr {I : List (Nat × Nat)} {ad ad' : Nat → Nat → Nat} {E E' : Nat → Nat → va_E} (h : ∀ j ∈ I, ad j.1 j.2 = ad' j.1 j.2 ∧ E j.1 j.2 = E' j.1 j.2) : xw_l I ad E = xw_l I ad' E' := by
  unfold xw_l
  apply List.map_congr_left
  intro j hj
  rw [(h j hj).1, (h j hj).2]
/-- the cells that a method may change: its world's, and those that it makes -/
def xw_A (I : List (Nat × Nat)) (ad : Nat → Nat → Nat) (sz : Nat) : Nat → Prop := fun q => (∃ j ∈ I, q = ad j.1 j.2) ∨ sz ≤ q
theorem xw_DA {A : Nat → Prop} {I : List (Nat × Nat)} {ad : Nat → Nat → Nat} {E : Nat → Nat → va_E} {sz : Nat} (h : va_D A (xw_l I ad E)) : va_D (xw_A I ad sz) (xw_l I ad E) := by
  refine ⟨h.1, fun i x hi => ?_⟩
  obtain ⟨a, ha, rfl⟩ := xw_some hi
  exact Or.inl ⟨a, List.mem_of_getElem? ha, rfl⟩
theorem xw_free {A : Nat → Prop} {I : List (Nat × Nat)} {ad : Nat → Nat → Nat} {E : Nat → Nat → va_E} {sz : Nat} (h : va_D A (xw_l I ad E)) (hA : ∀ q, sz ≤ q → A q) : ∀ q, xw_A I ad sz q → A q := by
  intro q hq
  rcases hq with ⟨j, hj, rfl⟩ | hq
  · obtain ⟨i, hi⟩ := List.getElem?_of_mem hj
    exact h.2 i _ (xw_of hi)
  · exact hA q hq
end
end
section
/-! Rows over worlds by names: one instruction each. -/
section
variable {p : Program} {l : Launch} {e : Env} {R : Room} {s : State} {m : MethodId} {args : Array Value} {below : List Frame} {meth : Method} {c : Code} {H : Heap} {locs : List Loc} {cells slots : Nat} {Q : State → Prop}
variable {cc : ByteArray} {pc : Nat} {ls : Array Slot} {rest : List Value} {D : va_G} {cl : List vw_C} {tys : List (ClassId × FieldType)} {A : Nat → Prop} {own : String} {Ts : List Cond} {I : List (Nat × Nat)} {ad : Nat → Nat → Nat} {E : Nat → Nat → va_E} {r k : Nat}
/-- a method's own: the machine, its bytes, its class, the words -/
def xr_C (Ts : List Cond) (p : Program) (c : Code) (cc : ByteArray) (own : String) (s : State) (m : MethodId) (args : Array Value) : Prop := p.tables.exec = Jvm.exec ∧ c.code = cc ∧ s.vm.findClass own = some m.cls ∧ ∀ w ∈ Ts, w.before args s = true
/-- the world inside a method that may change the cells A -/
def xr_W (cl : List vw_C) (tys : List (ClassId × FieldType)) (D : va_G) (I : List (Nat × Nat)) (ad : Nat → Nat → Nat) (E : Nat → Nat → va_E) (A : Nat → Prop) (s : State) (H : Heap) (locs : List Loc) : Prop :=
  va_P D cl (xw_l I ad E) H ∧ va_D A (xw_l I ad E) ∧ va_K D cl tys s ∧ va_S A s.heap H locs ∧ ∀ q, s.heap.size ≤ q → A q
theorem xr_get (C : xr_C Ts p c cc own s m args) (w : xr_W cl tys D I ad E A s H locs) (hI : (r, k) ∈ I) {ci : Nat} {fs : List Value} (he : E r k = .inr (ci, fs)) {Cn : String} {T : u_T} {N : Nat} (hc : cl[ci]? = some (Cn, T, N)) (hin : ∀ w ∈ u_ws Cn T N, w ∈ Ts)
    (i : Nat) (hi : i < N) {index : Nat} (hlink : Cond.fieldLink own index Cn (T i).2.1 (T i).2.2.1 ∈ Ts) (hs : (T i).1 = Cn) {v : Value} (hv : fs[i]? = some v) (hdg : decode cc pc = .ok (.getfield index, 3))
    (kk : W p l e R s m args below meth c H locs cells slots Q (F0 m (pc + 3) ls (v :: rest))) : W p l e R s m args below meth c H locs cells slots Q (F0 m pc ls (.ref (ad r k) :: rest)) := by
  obtain ⟨hx, hb, hown, hts⟩ := C
  obtain ⟨hP, hD, hK, hS, hA⟩ := w
  obtain ⟨q, hq⟩ := xw_at ad E hI
  rw [he] at hq
  exact va_get hx hb hts hin hown hK hP q hq hc i hi (hts _ hlink) (fun x h => by rw [hs] at h; exact h) hv hdg kk
theorem xr_put (C : xr_C Ts p c cc own s m args) (w : xr_W cl tys D I ad E A s H locs) (hI : (r, k) ∈ I) {ci : Nat} {fs : List Value} (he : E r k = .inr (ci, fs)) {Cn : String} {T : u_T} {N : Nat} (hc : cl[ci]? = some (Cn, T, N)) (hin : ∀ w ∈ u_ws Cn T N, w ∈ Ts)
    (ty0 : Nat → FieldType) (hty : ∀ k, k < N → parseFieldDescriptor (T k).2.2.1 = some (ty0 k)) (hnm : ∀ a, a < N → ∀ b, b < N → a ≠ b → (T a).2.1 ≠ (T b).2.1)
    (i : Nat) (hi : i < N) {index : Nat} (hlink : Cond.fieldLink own index Cn (T i).2.1 (T i).2.2.1 ∈ Ts) (hs : (T i).1 = Cn) (hfin : (T i).2.2.2 = false) {v : Value} (hn : narrow (ty0 i) v = v) (hfit : fits (ty0 i) v = true) (hl : i < fs.length) (hdg : decode cc pc = .ok (.putfield index, 3))
    (kk : ∀ (H1 : Heap) (locs1 : List Loc), xr_W cl tys D I ad (xw_u2 E r k (.inr (ci, fs.set i v))) A s H1 locs1 → W p l e R s m args below meth c H1 locs1 cells slots Q (F0 m (pc + 3) ls rest)) : W p l e R s m args below meth c H locs cells slots Q (F0 m pc ls (v :: .ref (ad r k) :: rest)) := by
  obtain ⟨hx, hb, hown, hts⟩ := C
  obtain ⟨hP, hD, hK, hS, hA⟩ := w
  obtain ⟨q, hq⟩ := xw_at ad E hI
  rw [he] at hq
  refine va_put hx hb hts hin ty0 hty hnm hown hK hP hD hS q hq hc i hi (hts _ hlink) (fun x h => by rw [hs] at h; exact h) hfin (hty i hi) hn hfit hl hdg (fun H1 locs1 hP1 hD1 hS1 => ?_)
  rw [xw_set hD hI hq] at hP1 hD1
  exact kk H1 locs1 ⟨hP1, hD1, hK, hS1, hA⟩
theorem xr_putF (C : xr_C Ts p c cc own s m args) (w : xr_W cl tys D I ad E A s H locs) (hI : (r, k) ∈ I) {ci : Nat} {fs : List Value} (he : E r k = .inr (ci, fs)) {Cn : String} {T : u_T} {N : Nat} (hc : cl[ci]? = some (Cn, T, N)) (hin : ∀ w ∈ u_ws Cn T N, w ∈ Ts)
    (ty0 : Nat → FieldType) (hty : ∀ k, k < N → parseFieldDescriptor (T k).2.2.1 = some (ty0 k)) (hnm : ∀ a, a < N → ∀ b, b < N → a ≠ b → (T a).2.1 ≠ (T b).2.1) (hinit : meth.name = "<init>")
    (i : Nat) (hi : i < N) {index : Nat} (hlink : Cond.fieldLink own index Cn (T i).2.1 (T i).2.2.1 ∈ Ts) (hs : (T i).1 = Cn) (ho : Cn = own) (hfin : (T i).2.2.2 = true) {v : Value} (hn : narrow (ty0 i) v = v) (hfit : fits (ty0 i) v = true) (hl : i < fs.length) (hdg : decode cc pc = .ok (.putfield index, 3))
    (kk : ∀ (H1 : Heap) (locs1 : List Loc), xr_W cl tys D I ad (xw_u2 E r k (.inr (ci, fs.set i v))) A s H1 locs1 → W p l e R s m args below meth c H1 locs1 cells slots Q (F0 m (pc + 3) ls rest)) : W p l e R s m args below meth c H locs cells slots Q (F0 m pc ls (v :: .ref (ad r k) :: rest)) := by
  obtain ⟨hx, hb, hown, hts⟩ := C
  obtain ⟨hP, hD, hK, hS, hA⟩ := w
  obtain ⟨q, hq⟩ := xw_at ad E hI
  rw [he] at hq
  refine va_putF hx hb hts hin ty0 hty hnm hown hK hP hD hS q hq hc i hi (hts _ hlink) (fun x h => by rw [hs] at h; exact h) hfin hinit (hs.trans ho) (hty i hi) hn hfit hl hdg (fun H1 locs1 hP1 hD1 hS1 => ?_)
  rw [xw_set hD hI hq] at hP1 hD1
  exact kk H1 locs1 ⟨hP1, hD1, hK, hS1, hA⟩
theorem xr_iald (C : xr_C Ts p c cc own s m args) (w : xr_W cl tys D I ad E A s H locs) (hI : (r, k) ∈ I) {cA : ClassId} {n : Nat} {f : Nat → Int32} (he : E r k = .inl (cA, n, .inl f)) (t0 : Nat) (ht : tys[t0]? = some (cA, .int)) {i : Int32} (j : Nat) (hi : i = nI j) (hj : j < n) (hn : n < 2 ^ 31) (hdg : decode cc pc = .ok (.iaload, 1))
    (kk : W p l e R s m args below meth c H locs cells slots Q (F0 m (pc + 1) ls (.int (f j) :: rest))) : W p l e R s m args below meth c H locs cells slots Q (F0 m pc ls (.int i :: .ref (ad r k) :: rest)) := by
  obtain ⟨hx, hb, hown, hts⟩ := C
  obtain ⟨hP, hD, hK, hS, hA⟩ := w
  obtain ⟨q, hq⟩ := xw_at ad E hI
  rw [he] at hq
  subst hi
  refine va_iald hx hb hK hP q t0 hq ht (vp_in_nI hj hn) hdg ?_
  rw [nI_clamp (n := j) (by omega)]
  exact kk
theorem xr_iast (C : xr_C Ts p c cc own s m args) (w : xr_W cl tys D I ad E A s H locs) (hI : (r, k) ∈ I) {cA : ClassId} {n : Nat} {f : Nat → Int32} (he : E r k = .inl (cA, n, .inl f)) (t0 : Nat) (ht : tys[t0]? = some (cA, .int)) {i x : Int32} (j : Nat) (hi : i = nI j) (hj : j < n) (hn : n < 2 ^ 31) (hdg : decode cc pc = .ok (.iastore, 1))
    (kk : ∀ (H1 : Heap) (locs1 : List Loc), xr_W cl tys D I ad (xw_u2 E r k (.inl (cA, n, .inl (va_up f j x)))) A s H1 locs1 → W p l e R s m args below meth c H1 locs1 cells slots Q (F0 m (pc + 1) ls rest)) : W p l e R s m args below meth c H locs cells slots Q (F0 m pc ls (.int x :: .int i :: .ref (ad r k) :: rest)) := by
  obtain ⟨hx, hb, hown, hts⟩ := C
  obtain ⟨hP, hD, hK, hS, hA⟩ := w
  obtain ⟨q, hq⟩ := xw_at ad E hI
  rw [he] at hq
  subst hi
  refine va_iast hx hb hK hP hD hS q t0 hq ht (vp_in_nI hj hn) hdg (fun H1 locs1 hP1 hD1 hS1 => ?_)
  rw [nI_clamp (n := j) (by omega)] at hP1 hD1
  rw [xw_set hD hI hq] at hP1 hD1
  exact kk H1 locs1 ⟨hP1, hD1, hK, hS1, hA⟩
theorem xr_zald (C : xr_C Ts p c cc own s m args) (w : xr_W cl tys D I ad E A s H locs) (hI : (r, k) ∈ I) {cA : ClassId} {n : Nat} {f : Nat → Int32} (he : E r k = .inl (cA, n, .inl f)) (t0 : Nat) (ht : tys[t0]? = some (cA, .boolean)) {i : Int32} (j : Nat) (hi : i = nI j) (hj : j < n) (hn : n < 2 ^ 31) (hdg : decode cc pc = .ok (.baload, 1))
    (kk : W p l e R s m args below meth c H locs cells slots Q (F0 m (pc + 1) ls (.int (f j) :: rest))) : W p l e R s m args below meth c H locs cells slots Q (F0 m pc ls (.int i :: .ref (ad r k) :: rest)) := by
  obtain ⟨hx, hb, hown, hts⟩ := C
  obtain ⟨hP, hD, hK, hS, hA⟩ := w
  obtain ⟨q, hq⟩ := xw_at ad E hI
  rw [he] at hq
  subst hi
  refine va_zald hx hb hK hP q t0 hq ht (vp_in_nI hj hn) hdg ?_
  rw [nI_clamp (n := j) (by omega)]
  exact kk
theorem xr_zast (C : xr_C Ts p c cc own s m args) (w : xr_W cl tys D I ad E A s H locs) (hI : (r, k) ∈ I) {cA : ClassId} {n : Nat} {f : Nat → Int32} (he : E r k = .inl (cA, n, .inl f)) (t0 : Nat) (ht : tys[t0]? = some (cA, .boolean)) {i x : Int32} (hx2 : vp_nar .boolean x = x) (j : Nat) (hi : i = nI j) (hj : j < n) (hn : n < 2 ^ 31) (hdg : decode cc pc = .ok (.bastore, 1))
    (kk : ∀ (H1 : Heap) (locs1 : List Loc), xr_W cl tys D I ad (xw_u2 E r k (.inl (cA, n, .inl (va_up f j x)))) A s H1 locs1 → W p l e R s m args below meth c H1 locs1 cells slots Q (F0 m (pc + 1) ls rest)) : W p l e R s m args below meth c H locs cells slots Q (F0 m pc ls (.int x :: .int i :: .ref (ad r k) :: rest)) := by
  obtain ⟨hx, hb, hown, hts⟩ := C
  obtain ⟨hP, hD, hK, hS, hA⟩ := w
  obtain ⟨q, hq⟩ := xw_at ad E hI
  rw [he] at hq
  subst hi
  refine va_zast hx hb hK hP hD hS q t0 hq ht (vp_in_nI hj hn) hdg (fun H1 locs1 hP1 hD1 hS1 => ?_)
  rw [nI_clamp (n := j) (by omega), hx2] at hP1 hD1
  rw [xw_set hD hI hq] at hP1 hD1
  exact kk H1 locs1 ⟨hP1, hD1, hK, hS1, hA⟩
theorem xr_aald (C : xr_C Ts p c cc own s m args) (w : xr_W cl tys D I ad E A s H locs) (hI : (r, k) ∈ I) {cA : ClassId} {n a : Nat} {f : Nat → Option Nat} (he : E r k = .inl (cA, n, .inr (.inr (.inr (.inr f))))) (t0 : Nat) {ty : FieldType} (ht : tys[t0]? = some (cA, ty)) (hty : ty.isReference = true) {i : Int32} (j : Nat) (hi : i = nI j) (hj : j < n) (hn : n < 2 ^ 31) (hf : f j = some a) (hdg : decode cc pc = .ok (.aaload, 1))
    (kk : W p l e R s m args below meth c H locs cells slots Q (F0 m (pc + 1) ls (.ref a :: rest))) : W p l e R s m args below meth c H locs cells slots Q (F0 m pc ls (.int i :: .ref (ad r k) :: rest)) := by
  obtain ⟨hx, hb, hown, hts⟩ := C
  obtain ⟨hP, hD, hK, hS, hA⟩ := w
  obtain ⟨q, hq⟩ := xw_at ad E hI
  rw [he] at hq
  subst hi
  have hcl : (nI j).toNatClampNeg = j := nI_clamp (by omega)
  refine W.aald (v := .ref a) (ty := ty) hx hb (hP q _ hq) ((hK.2 t0 _ ht).1 n (fun j => va_rf (f j))) hty (fun q => by cases q) (by show ¬ (_ ∨ (arrV _ _ _).slots.size ≤ _); rw [arrV_size]; exact vp_in_nI hj hn) (by show (arrV _ _ _).slots[_]? = _; rw [hcl, arrV_read _ _ hj, hf]; rfl) rfl rfl hdg kk
theorem xr_aast (C : xr_C Ts p c cc own s m args) (w : xr_W cl tys D I ad E A s H locs) (hI : (r, k) ∈ I) {cA : ClassId} {n r2 k2 ci : Nat} {f : Nat → Option Nat} (he : E r k = .inl (cA, n, .inr (.inr (.inr (.inr f))))) (t0 : Nat) {q9 : vw_C} (ht : tys[t0]? = some (cA, .object q9.1)) (hI2 : (r2, k2) ∈ I) {vs : List Value} (he2 : E r2 k2 = .inr (ci, vs)) (hc : cl[ci]? = some q9) {i : Int32} (j : Nat) (hi : i = nI j) (hj : j < n) (hn : n < 2 ^ 31) (hdg : decode cc pc = .ok (.aastore, 1))
    (kk : ∀ (H1 : Heap) (locs1 : List Loc), xr_W cl tys D I ad (xw_u2 E r k (.inl (cA, n, .inr (.inr (.inr (.inr (va_up f j (some (ad r2 k2))))))))) A s H1 locs1 → W p l e R s m args below meth c H1 locs1 cells slots Q (F0 m (pc + 1) ls rest)) : W p l e R s m args below meth c H locs cells slots Q (F0 m pc ls (.ref (ad r2 k2) :: .int i :: .ref (ad r k) :: rest)) := by
  obtain ⟨hx, hb, hown, hts⟩ := C
  obtain ⟨hP, hD, hK, hS, hA⟩ := w
  obtain ⟨q, hq⟩ := xw_at ad E hI
  obtain ⟨q2, hq2⟩ := xw_at ad E hI2
  rw [he] at hq
  rw [he2] at hq2
  subst hi
  refine va_astq hx hb hK hP hD hS q t0 q2 ci hq ht hq2 hc (vp_in_nI hj hn) hdg (fun H1 locs1 hP1 hD1 hS1 => ?_)
  rw [nI_clamp (n := j) (by omega)] at hP1 hD1
  rw [xw_set hD hI hq] at hP1 hD1
  exact kk H1 locs1 ⟨hP1, hD1, hK, hS1, hA⟩
theorem xr_new (C : xr_C Ts p c cc own s m args) (w : xr_W cl tys D I ad E A s H locs) (hI : (r, k) ∉ I) {Cn : String} {T : u_T} {N ci index : Nat} (hin : ∀ w ∈ u_ws Cn T N, w ∈ Ts) (ty0 : Nat → FieldType) (hty : ∀ k, k < N → parseFieldDescriptor (T k).2.2.1 = some (ty0 k)) (hlink : Cond.classLink own index Cn ∈ Ts) (hinst : Cond.instantiable Cn N ∈ Ts) (hini : Cond.initialized Cn ∈ Ts)
    (hc : cl[ci]? = some (Cn, T, N)) {fs : List Value} (hfs : ∀ j, j < N → defaultValue (ty0 j) = vp_V fs j) (hcells : cells + 1 ≤ R.cells) (hslots : slots + N ≤ R.slots) (hdg : decode cc pc = .ok (.new index, 3))
    (kk : ∀ (q : Nat) (H1 : Heap), xr_W cl tys D (I ++ [(r, k)]) (xw_u2 ad r k q) (xw_u2 E r k (.inr (ci, fs))) A s H1 locs → W p l e R s m args below meth c H1 locs (cells + 1) (slots + N) Q (F0 m (pc + 3) ls (.ref q :: rest))) : W p l e R s m args below meth c H locs cells slots Q (F0 m pc ls rest) := by
  obtain ⟨hx, hb, hown, hts⟩ := C
  obtain ⟨hP, hD, hK, hS, hA⟩ := w
  refine va_new (ci := ci) (fs := fs) hx hb hts hin ty0 hty hown (hts _ hlink) (hts _ hinst) (hts _ hini) hK hP hD hS hA hc hfs hcells hslots hdg (fun q H1 hP1 hD1 hS1 => ?_)
  rw [xw_new hI] at hP1 hD1
  exact kk q H1 ⟨hP1, hD1, hK, hS1, hA⟩
/-- System.arraycopy between int arrays -/
theorem xr_copy (C : xr_C Ts p c cc own s m args) (w : xr_W cl tys D I ad E A s H locs) (hml : c.maxLocals = ls.size) {r2 k2 : Nat} (hI : (r, k) ∈ I) (hI2 : (r2, k2) ∈ I) {c1 c2 : ClassId} {n1 n2 : Nat} {f g : Nat → Int32} (he : E r k = .inl (c1, n1, .inl f)) (he2 : E r2 k2 = .inl (c2, n2, .inl g)) (t1 t2 : Nat) (ht1 : tys[t1]? = some (c1, .int)) (ht2 : tys[t2]? = some (c2, .int))
    {index : Nat} (hlink : Cond.methodLink own index arraycopyName ∈ Ts) (hnat : Cond.native arraycopyName ∈ Ts) (hstat : Cond.static arraycopyName ∈ Ts) (hini : Cond.initialized "java/lang/System" ∈ Ts)
    {x y z : Int32} (a b n : Nat) (hx2 : x = nI a) (hy2 : y = nI b) (hz2 : z = nI n) (h1 : a + n ≤ n1) (h2 : b + n ≤ n2) (hb1 : n1 < 2 ^ 31) (hb2 : n2 < 2 ^ 31)
    (hframes : 1 ≤ R.frames) (hlocals : (rest.map fun v => v.category).sum + (nativeFrameWords "java/lang/System" "arraycopy" 5 + 11) ≤ R.locals) (hdg : decode cc pc = .ok (.invokestatic index, 3))
    (kk : ∀ (H1 : Heap) (locs1 : List Loc), xr_W cl tys D I ad (xw_u2 E r2 k2 (.inl (c2, n2, .inl (va_cpy f g a b n)))) A s H1 locs1 → W p l e R s m args below meth c H1 locs1 cells slots Q (F0 m (pc + 3) ls rest)) : W p l e R s m args below meth c H locs cells slots Q (F0 m pc ls (.int z :: .int y :: .ref (ad r2 k2) :: .int x :: .ref (ad r k) :: rest)) := by
  obtain ⟨hx, hb, hown, hts⟩ := C
  obtain ⟨hP, hD, hK, hS, hA⟩ := w
  obtain ⟨q, hq⟩ := xw_at ad E hI
  obtain ⟨q2, hq2⟩ := xw_at ad E hI2
  rw [he] at hq
  rw [he2] at hq2
  subst hx2
  subst hy2
  subst hz2
  have ea : (nI a).toNatClampNeg = a := nI_clamp (by omega)
  have eb : (nI b).toNatClampNeg = b := nI_clamp (by omega)
  have en : (nI n).toNatClampNeg = n := nI_clamp (by omega)
  refine va_copyi hx hb hml hown (hts _ hlink) (hts _ hnat) (hts _ hstat) (hts _ hini) hK hP hD hS q q2 t1 t2 hq hq2 ht1 ht2 rfl (nI_pos (by omega)) (nI_pos (by omega)) (nI_pos (by omega)) (by rw [ea, en]; exact h1) (by rw [eb, en]; exact h2) (fun _ _ => rfl) hframes hlocals hdg (fun H1 locs1 hP1 hD1 hS1 => ?_)
  rw [ea, eb, en] at hP1 hD1
  rw [xw_set hD hI2 hq2] at hP1 hD1
  exact kk H1 locs1 ⟨hP1, hD1, hK, hS1, hA⟩
end
end
section
/-! Contracts over worlds by names, their bodies, their ends, their calls. -/
section
/-- statics that nobody writes: what they say stays -/
def xr_ZL (Z : (Nat → Prop) → State → Heap → Prop) : Prop :=
  (∀ (A : Nat → Prop) (u U : State) (H : Heap), u.vm.Alike U.vm → Z A u H → Z A U H) ∧ (∀ (A : Nat → Prop) (U : State) (H H1 : Heap), (∀ a : Nat, a < H.size → ¬ A a → H1[a]? = H[a]?) → Z A U H → Z A U H1) ∧ ∀ (A B : Nat → Prop) (U : State) (H : Heap), (∀ q, B q → A q) → Z A U H → Z B U H
abbrev xr_B : Type := Option Value → List (Nat × Nat) → (Nat → Nat → Nat) → (Nat → Nat → va_E) → Prop
def xr_Pre (cl : List vw_C) (tys : List (ClassId × FieldType)) (D : va_G) (Z : (Nat → Prop) → State → Heap → Prop) (I : List (Nat × Nat)) (ad : Nat → Nat → Nat) (E : Nat → Nat → va_E) (sz : Nat) : State → Prop := fun U =>
  U.heap.size = sz ∧ va_P D cl (xw_l I ad E) U.heap ∧ va_D (fun _ => True) (xw_l I ad E) ∧ va_K D cl tys U ∧ Z (xw_A I ad sz) U U.heap
def xr_Q (cl : List vw_C) (D : va_G) (A : Nat → Prop) (B : xr_B) : Array Value → State → Outcome → State → Prop := fun _ st oc t =>
  ∃ (o : Option Value) (I' : List (Nat × Nat)) (ad' : Nat → Nat → Nat) (E' : Nat → Nat → va_E), oc = .returned o ∧ B o I' ad' E' ∧ va_P D cl (xw_l I' ad' E') t.heap ∧ va_D A (xw_l I' ad' E') ∧ va_F A st t
def xr_R (d mc ms : Nat) : Room := { frames := d, cells := mc, slots := ms, locals := 40 * d }
/-- a method's contract: at any size of the heap -/
def xr_M (Ts : List Cond) (cl : List vw_C) (tys : List (ClassId × FieldType)) (D : va_G) (Z : (Nat → Prop) → State → Heap → Prop) (l : Launch) (y : MethodName) (bytes : ByteArray) (maxL : Nat) (ret : Option FieldType) (d mc ms : Nat) (av : List Value) (I : List (Nat × Nat)) (ad : Nat → Nat → Nat) (E : Nat → Nat → va_E) (B : xr_B) : Prop :=
  ∀ sz : Nat, Met l y (Cond.code y bytes maxL ret :: Ts) (xr_R d mc ms) (va_Pc av (xr_Pre cl tys D Z I ad E sz)) (xr_Q cl D (xw_A I ad sz) B) mc ms (xw_A I ad sz)
variable {p : Program} {l : Launch} {e : Env} {R : Room} {s : State} {m : MethodId} {args : Array Value} {below : List Frame} {meth : Method} {c : Code} {H : Heap} {locs : List Loc} {cells slots : Nat} {Q : State → Prop}
variable {cc : ByteArray} {pc : Nat} {ls : Array Slot} {rest st0 : List Value} {D : va_G} {cl : List vw_C} {tys : List (ClassId × FieldType)} {A : Nat → Prop} {own : String} {Ts : List Cond} {I : List (Nat × Nat)} {ad : Nat → Nat → Nat} {E : Nat → Nat → va_E} {r k : Nat} {Z : (Nat → Prop) → State → Heap → Prop}
variable {y : MethodName} {bytes : ByteArray} {maxL d mc ms nL n index : Nat} {ret : Option FieldType} {av As : List Value} {B : xr_B}
theorem xr_of (hy : plainName y.cls = true) (hls : (lg_sl av).length ≤ maxL)
    (h : ∀ (p : Program) (e : Env) (s : State) (m : MethodId) (args : Array Value) (below : List Frame) (meth : Method) (c : Code) (A : Nat → Prop) (ls : Array Slot), xr_C Ts p c bytes y.cls s m args → meth.sig.returnType = ret → meth.locks = false → c.maxLocals = maxL → meth.name = y.name → lv_has ls maxL (lv_args 0 av) → xr_W cl tys D I ad E A s s.heap [] → Z A s s.heap →
      W p l e (xr_R d mc ms) s m args below meth c s.heap [] 0 0 (MQ below (xr_Q cl D A B) args s mc ms A) (F0 m 0 ls [])) : xr_M Ts cl tys D Z l y bytes maxL ret d mc ms av I ad E B := by
  intro sz
  refine Met.ofW (cc := bytes) (maxL := maxL) (ret := ret) hy rfl ?_
  intro p e s m args below meth c s₁ B' hml hv
  obtain ⟨rfl, hsz, hP, hD, hK, hZ⟩ := hv
  subst hsz
  have hts := atoms_spec (ws := Cond.code y bytes maxL ret :: Ts) B'.pre
  rw [lg_entry_eq]
  exact h p e s m _ below meth c (xw_A I ad s.heap.size) _ ⟨B'.exec, B'.bytes, findClass_of_methodNamed B'.named, fun w hw => hts w (List.mem_cons_of_mem _ hw)⟩ B'.returns B'.notSynchronized hml (name_of_methodNamed B'.named B'.method).1 (lv_entry av hls) ⟨hP, xw_DA hD, hK, va_S.rf, fun q hq => Or.inr hq⟩ hZ
theorem xr_iret (C : xr_C Ts p c cc own s m args) (w : xr_W cl tys D I ad E A s H locs) {v : Int32} (hr : meth.sig.returnType = some .int) (hlocks : meth.locks = false) (hB : B (some (.int v)) I ad E) (hc : cells ≤ mc) (hs : slots ≤ ms) (hdg : decode cc pc = .ok (.ireturn, 1)) :
    W p l e R s m args below meth c H locs cells slots (MQ below (xr_Q cl D A B) args s mc ms A) (F0 m pc ls [.int v]) := by
  obtain ⟨hP, hD, hK, hS, hA⟩ := w
  refine W.widen hc hs ?_
  exact W.iret C.1 C.2.1 hr (fun t ht hW => ⟨some (.int v), I, ad, E, rfl, hB, by rw [ht]; exact hP, hD, hS.F ht⟩) hS.2.2 hdg hlocks
theorem xr_zret (C : xr_C Ts p c cc own s m args) (w : xr_W cl tys D I ad E A s H locs) {v : Int32} (hr : meth.sig.returnType = some .boolean) (hv : v = nI 0 ∨ v = nI 1) (hlocks : meth.locks = false) (hB : B (some (.int v)) I ad E) (hc : cells ≤ mc) (hs : slots ≤ ms) (hdg : decode cc pc = .ok (.ireturn, 1)) :
    W p l e R s m args below meth c H locs cells slots (MQ below (xr_Q cl D A B) args s mc ms A) (F0 m pc ls [.int v]) := by
  obtain ⟨hP, hD, hK, hS, hA⟩ := w
  refine W.widen hc hs ?_
  exact W.zret C.1 C.2.1 hr (by rcases hv with h | h <;> subst h <;> decide +kernel) (fun t ht hW => ⟨some (.int v), I, ad, E, rfl, hB, by rw [ht]; exact hP, hD, hS.F ht⟩) hS.2.2 hdg hlocks
theorem xr_vret (C : xr_C Ts p c cc own s m args) (w : xr_W cl tys D I ad E A s H locs) (hr : meth.sig.returnType = none) (hlocks : meth.locks = false) (hB : B none I ad E) (hc : cells ≤ mc) (hs : slots ≤ ms) (hdg : decode cc pc = .ok (.return_, 1)) :
    W p l e R s m args below meth c H locs cells slots (MQ below (xr_Q cl D A B) args s mc ms A) (F0 m pc ls []) := by
  obtain ⟨hP, hD, hK, hS, hA⟩ := w
  refine W.widen hc hs ?_
  exact W.vret C.1 C.2.1 hr (fun t ht hW => ⟨none, I, ad, E, rfl, hB, by rw [ht]; exact hP, hD, hS.F ht⟩) hS.2.2 hdg hlocks
theorem xr_blind (hZ : xr_ZL Z) {sz : Nat} : FrameBlind (va_Pc av (xr_Pre cl tys D Z I ad E sz)) := by
  intro a U g mk q
  obtain ⟨q0, q1, qP, qD, qK, qZ⟩ := q
  exact ⟨q0, q1, qP, qD, va_K.moved (u := U) (U := U.calling g mk a) (Vm.Alike.refl U.vm) qK, hZ.1 _ U (U.calling g mk a) _ (Vm.Alike.refl U.vm) qZ⟩
theorem xr_pre (hZ : xr_ZL Z) (w : xr_W cl tys D I ad E A s H locs) (hz : Z A s s.heap) {U : State} (hU : U.heap = H) (hW : s.WarmedH U.vm) : xr_Pre cl tys D Z I ad E H.size U := by
  obtain ⟨hP, hD, hK, hS, hA⟩ := w
  refine ⟨by rw [hU], by rw [hU]; exact hP, hD.weaken (fun _ _ _ _ => trivial), va_K.moved hW.alike hK, ?_⟩
  rw [hU]
  exact hZ.2.2 _ _ _ _ (xw_free (sz := H.size) hD (fun q hq => hA q (Nat.le_trans hS.1 hq))) (hZ.1 _ _ _ _ hW.alike (hZ.2.1 _ _ _ _ hS.2.1 hz))
theorem xr_after (w : xr_W cl tys D I ad E A s H locs) {a : Array Value} (hr : va_Run p l e R s m args below meth c H locs cells slots mc ms (F0 m pc ls st0) rest (xr_Q cl D (xw_A I ad H.size) B a) (xw_A I ad H.size))
    (kk : ∀ (o : Option Value) (I' : List (Nat × Nat)) (ad' : Nat → Nat → Nat) (E' : Nat → Nat → va_E) (H1 : Heap) (locs1 : List Loc), B o I' ad' E' → xr_W cl tys D I' ad' E' A s H1 locs1 → W p l e R s m args below meth c H1 locs1 (cells + mc) (slots + ms) Q (F0 m (pc + 3) ls (o.toList ++ rest))) : W p l e R s m args below meth c H locs cells slots Q (F0 m pc ls st0) := by
  obtain ⟨hP, hD, hK, hS, hA⟩ := w
  have hF := xw_free (sz := H.size) hD (fun q hq => hA q (Nat.le_trans hS.1 hq))
  intro T hT X
  obtain ⟨v, st₀, t, T', L, h0, X', hL, e1, e2, ⟨o, I', ad', E', hv, hB, hP', hD', hz, hk⟩, st⟩ := hr T hT X
  cases hv
  rw [h0] at hz hk
  obtain ⟨t2, a1, b1⟩ := kk v I' ad' E' T'.heap (locs ++ L) hB ⟨by rw [e1]; exact hP', hD'.weaken (fun _ q _ h => hF q.1 h), hK, ⟨Nat.le_trans hS.1 (by rw [e1]; exact hz), fun q h1 h2 => by rw [e1, hk q (Nat.lt_of_lt_of_le h1 hS.1) (fun z => h2 (hF q z))]; exact hS.2.1 q h1 h2, fun q hq => by
      rcases List.mem_append.mp hq with h | h
      · exact hS.2.2 q h
      · exact hF _ (hL q h)⟩, hA⟩ T' rfl X'
  exact ⟨t2, st t2 a1, b1⟩
/-- what a call site needs of the words: of a virtual call, of a static one, of a constructor -/
def xr_KV (Ts : List Cond) (own : String) (index : Nat) (y : MethodName) (bytes : ByteArray) (maxL : Nat) (ret : Option FieldType) (n : Nat) : Prop :=
  Cond.methodLink own index y ∈ Ts ∧ Cond.instanceMethod y ∈ Ts ∧ Cond.selects y.cls y y ∈ Ts ∧ Cond.initialized y.cls ∈ Ts ∧ Cond.code y bytes maxL ret ∈ Ts ∧ (y.cls ≠ "java/lang/invoke/MethodHandle" ∧ y.cls ≠ "java/lang/invoke/VarHandle" ∧ (parseMethodDescriptor y.desc).map (fun d => d.parameters.length) = some n)
def xr_KS (Ts : List Cond) (own : String) (index : Nat) (y : MethodName) (bytes : ByteArray) (maxL : Nat) (ret : Option FieldType) (n : Nat) : Prop :=
  Cond.methodLink own index y ∈ Ts ∧ Cond.static y ∈ Ts ∧ Cond.initialized y.cls ∈ Ts ∧ Cond.code y bytes maxL ret ∈ Ts ∧ (y.cls ≠ "java/lang/invoke/MethodHandle" ∧ y.cls ≠ "java/lang/invoke/VarHandle" ∧ (parseMethodDescriptor y.desc).map (fun d => d.parameters.length) = some n)
def xr_KI (Ts : List Cond) (own : String) (index : Nat) (y : MethodName) (bytes : ByteArray) (maxL : Nat) (n : Nat) : Prop :=
  Cond.methodLink own index y ∈ Ts ∧ Cond.instanceMethod y ∈ Ts ∧ Cond.initialized y.cls ∈ Ts ∧ Cond.code y bytes maxL none ∈ Ts ∧ y.name = "<init>" ∧ (y.cls ≠ "java/lang/invoke/MethodHandle" ∧ y.cls ≠ "java/lang/invoke/VarHandle" ∧ (parseMethodDescriptor y.desc).map (fun d => d.parameters.length) = some n)
theorem xr_good (hG : ∀ w ∈ Ts, goodWord w = true) (hc : Cond.code y bytes maxL ret ∈ Ts) : GoodIn Ts (Cond.code y bytes maxL ret :: Ts) := by
  intro w hw
  rcases List.mem_cons.mp hw with rfl | h
  · exact ⟨hc, good_of_word (hG _ hc)⟩
  · exact ⟨h, good_of_word (hG _ h)⟩
theorem xr_callV (hG : ∀ w ∈ Ts, goodWord w = true) (hZ : xr_ZL Z) (C : xr_C Ts p c cc own s m args) (w : xr_W cl tys D I ad E A s H locs) (hz : Z A s s.heap) (hml : c.maxLocals = nL) (hls : ls.size = nL)
    (hK : xr_KV Ts own index y bytes maxL ret n) (hM : xr_M Ts cl tys D Z l y bytes maxL ret d mc ms (.ref (ad r k) :: As) I ad E B) (hI : (r, k) ∈ I) {ci : Nat} {fs : List Value} (he : E r k = .inr (ci, fs)) {T : u_T} {N : Nat} (hc : cl[ci]? = some (y.cls, T, N))
    (hn : As.length = n) (hst : st0 = As.reverse ++ .ref (ad r k) :: rest) (hrest : (rest.map fun v => v.category).sum ≤ 8) (hR : d + 1 ≤ R.frames ∧ 8 + (maxL + 11) + 40 * d ≤ R.locals) (hf : cells + mc ≤ R.cells ∧ slots + ms ≤ R.slots) (hdg : decode cc pc = .ok (.invokevirtual index, 3))
    (kk : ∀ (o : Option Value) (I' : List (Nat × Nat)) (ad' : Nat → Nat → Nat) (E' : Nat → Nat → va_E) (H1 : Heap) (locs1 : List Loc), B o I' ad' E' → xr_W cl tys D I' ad' E' A s H1 locs1 → W p l e R s m args below meth c H1 locs1 (cells + mc) (slots + ms) Q (F0 m (pc + 3) ls (o.toList ++ rest))) : W p l e R s m args below meth c H locs cells slots Q (F0 m pc ls st0) := by
  obtain ⟨k1, k2, k3, k4, k5, k6⟩ := hK
  obtain ⟨hx, hb, hown, hts⟩ := id C
  obtain ⟨q, hq⟩ := xw_at ad E hI
  rw [he] at hq
  refine xr_after w (a := (Value.ref (ad r k) :: As).toArray) (va_runV (C := y.cls) (Ts := Ts) (As := As) (rest := rest) ⟨hx, hb, hml, hown, hts⟩ (hM H.size) (cwV n hts (fun w' hw' => ?_) rfl rfl rfl ⟨rfl, k6⟩ hR) ⟨xr_blind hZ, va_recv w.2.2.1 w.1 hc hq, fun U hU hW => ⟨rfl, xr_pre hZ w hz hU hW⟩⟩ rfl hn hls hst (lv_room hrest) hdg hf) kk
  have hm : w' ∈ Ts := by
    simp only [wsV, List.cons_append, List.nil_append, List.mem_cons] at hw'
    rcases hw' with rfl | rfl | rfl | rfl | rfl | h
    · exact k1
    · exact k2
    · exact k3
    · exact k4
    · exact k5
    · exact h
  exact ⟨hm, good_of_word (hG _ hm)⟩
theorem xr_callS (hG : ∀ w ∈ Ts, goodWord w = true) (hZ : xr_ZL Z) (C : xr_C Ts p c cc own s m args) (w : xr_W cl tys D I ad E A s H locs) (hz : Z A s s.heap) (hml : c.maxLocals = nL) (hls : ls.size = nL)
    (hK : xr_KS Ts own index y bytes maxL ret n) (hM : xr_M Ts cl tys D Z l y bytes maxL ret d mc ms As I ad E B)
    (hn : As.length = n) (hst : st0 = As.reverse ++ rest) (hrest : (rest.map fun v => v.category).sum ≤ 8) (hR : d + 1 ≤ R.frames ∧ 8 + (maxL + 11) + 40 * d ≤ R.locals) (hf : cells + mc ≤ R.cells ∧ slots + ms ≤ R.slots) (hdg : decode cc pc = .ok (.invokestatic index, 3))
    (kk : ∀ (o : Option Value) (I' : List (Nat × Nat)) (ad' : Nat → Nat → Nat) (E' : Nat → Nat → va_E) (H1 : Heap) (locs1 : List Loc), B o I' ad' E' → xr_W cl tys D I' ad' E' A s H1 locs1 → W p l e R s m args below meth c H1 locs1 (cells + mc) (slots + ms) Q (F0 m (pc + 3) ls (o.toList ++ rest))) : W p l e R s m args below meth c H locs cells slots Q (F0 m pc ls st0) := by
  obtain ⟨k1, k2, k3, k4, k5⟩ := hK
  obtain ⟨hx, hb, hown, hts⟩ := id C
  refine xr_after w (a := As.toArray) (va_runS (Ts := Ts) (As := As) (rest := rest) ⟨hx, hb, hml, hown, hts⟩ (hM H.size) ⟨callB_of n hts (xr_good hG k4) rfl rfl rfl (hts _ k3) (hts _ k1) k5 hR, hts _ k2⟩ ⟨xr_blind hZ, fun U hU hW => ⟨rfl, xr_pre hZ w hz hU hW⟩⟩ rfl hn hls hst (lv_room hrest) hdg hf) kk
theorem xr_callI (hG : ∀ w ∈ Ts, goodWord w = true) (hZ : xr_ZL Z) (C : xr_C Ts p c cc own s m args) (w : xr_W cl tys D I ad E A s H locs) (hz : Z A s s.heap) (hml : c.maxLocals = nL) (hls : ls.size = nL)
    (hK : xr_KI Ts own index y bytes maxL n) {b : Nat} (hM : xr_M Ts cl tys D Z l y bytes maxL none d mc ms (.ref b :: As) I ad E B)
    (hn : As.length = n) (hst : st0 = As.reverse ++ .ref b :: rest) (hrest : (rest.map fun v => v.category).sum ≤ 8) (hR : d + 1 ≤ R.frames ∧ 8 + (maxL + 11) + 40 * d ≤ R.locals) (hf : cells + mc ≤ R.cells ∧ slots + ms ≤ R.slots) (hdg : decode cc pc = .ok (.invokespecial index, 3))
    (kk : ∀ (o : Option Value) (I' : List (Nat × Nat)) (ad' : Nat → Nat → Nat) (E' : Nat → Nat → va_E) (H1 : Heap) (locs1 : List Loc), B o I' ad' E' → xr_W cl tys D I' ad' E' A s H1 locs1 → W p l e R s m args below meth c H1 locs1 (cells + mc) (slots + ms) Q (F0 m (pc + 3) ls (o.toList ++ rest))) : W p l e R s m args below meth c H locs cells slots Q (F0 m pc ls st0) := by
  obtain ⟨k1, k2, k3, k4, k5, k6⟩ := hK
  obtain ⟨hx, hb, hown, hts⟩ := id C
  refine xr_after w (a := (Value.ref b :: As).toArray) (va_runI (Ts := Ts) (As := As) (rest := rest) ⟨hx, hb, hml, hown, hts⟩ (hM H.size) (cwI n hts (xr_good hG k4) rfl rfl rfl (hts _ k3) (hts _ k1) (hts _ k2) k5 k6 hR) ⟨xr_blind hZ, fun U hU hW => ⟨rfl, xr_pre hZ w hz hU hW⟩⟩ rfl hn hls hst (lv_room hrest) hdg hf) kk
end
section
variable {p : Program} {l : Launch} {e : Env} {R : Room} {s : State} {m : MethodId} {args : Array Value} {below : List Frame} {meth : Method} {c : Code} {H : Heap} {locs : List Loc} {cells slots mc ms pc : Nat} {cc : ByteArray} {ls : Array Slot} {D : va_G} {cl : List vw_C} {tys : List (ClassId × FieldType)} {A : Nat → Prop} {own : String} {Ts : List Cond} {I : List (Nat × Nat)} {ad : Nat → Nat → Nat} {E : Nat → Nat → va_E} {B : xr_B}
theorem xr_aret (C : xr_C Ts p c cc own s m args) (w : xr_W cl tys D I ad E A s H locs) {v : Value} {rt : FieldType} (hr : meth.sig.returnType = some rt) (hrt : (∃ n, rt = .object n) ∨ ∃ t, rt = .array t) (hv : v = .null ∨ ∃ a, v = .ref a) (hlocks : meth.locks = false) (hB : B (some v) I ad E) (hc : cells ≤ mc) (hs : slots ≤ ms) (hdg : decode cc pc = .ok (.areturn, 1)) :
    W p l e R s m args below meth c H locs cells slots (MQ below (xr_Q cl D A B) args s mc ms A) (F0 m pc ls [v]) := by
  obtain ⟨hP, hD, hK, hS, hA⟩ := w
  refine W.widen hc hs ?_
  exact W.aret C.1 C.2.1 hr hrt hv (fun t ht hW => ⟨some v, I, ad, E, rfl, hB, by rw [ht]; exact hP, hD, hS.F ht⟩) hS.2.2 hdg hlocks
end
end
section
/-! Choices without a decision procedure; numbers; rows for both. -/
noncomputable def xif {α : Type} (P : Prop) (a b : α) : α := @ite α P (Classical.propDecidable P) a b
theorem xif_t {α : Type} {P : Prop} (h : P) (a b : α) : xif P a b = a := by unfold xif; rw [if_pos h]
theorem xif_f {α : Type} {P : Prop} (h : ¬ P) (a b : α) : xif P a b = b := by unfold xif; rw [if_neg h]
noncomputable def xb (P : Prop) : Int32 := xif P (nI 1) (nI 0)
theorem xb_t {P : Prop} (h : P) : xb P = nI 1 := xif_t h _ _
theorem xb_f {P : Prop} (h : ¬ P) : xb P = nI 0 := xif_f h _ _
theorem xb_or (P : Prop) : xb P = nI 0 ∨ xb P = nI 1 := by
  by_cases h : P
  · exact Or.inr (xb_t h)
  · exact Or.inl (xb_f h)
theorem xb_eq0 {P : Prop} : xb P = 0 ↔ ¬ P := by
  constructor
  · intro h hp
    rw [xb_t hp] at h
    exact absurd h (by decide)
  · intro h
    rw [xb_f h]
    decide
theorem xb_congr {P P' : Prop} (h : P ↔ P') : xb P = xb P' := by
  by_cases hp : P
  · rw [xb_t hp, xb_t (h.mp hp)]
  · rw [xb_f hp, xb_f (fun z => hp (h.mpr z))]
section
variable {p : Program} {l : Launch} {e : Env} {R : Room} {s : State} {m : MethodId} {args : Array Value} {below : List Frame} {meth : Method} {c : Code} {H : Heap} {locs : List Loc} {cells slots : Nat} {Q : State → Prop}
variable {cc : ByteArray} {pc : Nat} {ls : Array Slot} {rest : List Value}
theorem xn_eq {x y : Int32} (h : x = y) (k : W p l e R s m args below meth c H locs cells slots Q (F0 m pc ls (.int y :: rest))) : W p l e R s m args below meth c H locs cells slots Q (F0 m pc ls (.int x :: rest)) := h ▸ k
theorem xn_add (hx : p.tables.exec = Jvm.exec) (hb : c.code = cc) {a b : Nat} (hdg : decode cc pc = .ok (.iadd, 1)) (k : W p l e R s m args below meth c H locs cells slots Q (F0 m (pc + 1) ls (.int (nI (a + b)) :: rest))) : W p l e R s m args below meth c H locs cells slots Q (F0 m pc ls (.int (nI b) :: .int (nI a) :: rest)) := lv_iadd hx hb hdg (xn_eq (nI_add a b) k)
theorem xn_mul (hx : p.tables.exec = Jvm.exec) (hb : c.code = cc) {a b : Nat} (hdg : decode cc pc = .ok (.imul, 1)) (k : W p l e R s m args below meth c H locs cells slots Q (F0 m (pc + 1) ls (.int (nI (a * b)) :: rest))) : W p l e R s m args below meth c H locs cells slots Q (F0 m pc ls (.int (nI b) :: .int (nI a) :: rest)) := lv_imul hx hb hdg (xn_eq (pk_mul a b) k)
theorem xn_sub (hx : p.tables.exec = Jvm.exec) (hb : c.code = cc) {a b : Nat} (hdg : decode cc pc = .ok (.isub, 1)) (h : b ≤ a) (k : W p l e R s m args below meth c H locs cells slots Q (F0 m (pc + 1) ls (.int (nI (a - b)) :: rest))) : W p l e R s m args below meth c H locs cells slots Q (F0 m pc ls (.int (nI b) :: .int (nI a) :: rest)) := lv_isub hx hb hdg (xn_eq (pk_sub h) k)
theorem xn_div (hx : p.tables.exec = Jvm.exec) (hb : c.code = cc) {a b : Nat} (hdg : decode cc pc = .ok (.idiv, 1)) (ha : a < 2 ^ 31) (h0 : 0 < b) (h : b < 2 ^ 31) (k : W p l e R s m args below meth c H locs cells slots Q (F0 m (pc + 1) ls (.int (nI (a / b)) :: rest))) : W p l e R s m args below meth c H locs cells slots Q (F0 m pc ls (.int (nI b) :: .int (nI a) :: rest)) := lv_idiv hx hb hdg (nI_ne0 h0 h) (xn_eq (pk_div ha h0 h) k)
theorem xn_rem (hx : p.tables.exec = Jvm.exec) (hb : c.code = cc) {a b : Nat} (hdg : decode cc pc = .ok (.irem, 1)) (ha : a < 2 ^ 31) (h0 : 0 < b) (h : b < 2 ^ 31) (k : W p l e R s m args below meth c H locs cells slots Q (F0 m (pc + 1) ls (.int (nI (a % b)) :: rest))) : W p l e R s m args below meth c H locs cells slots Q (F0 m pc ls (.int (nI b) :: .int (nI a) :: rest)) := lv_irem hx hb hdg (nI_ne0 h0 h) (xn_eq (pk_rem ha h0 h) k)
theorem xn_inc (i : Nat) : nI i + Int32.ofInt 1 = nI (i + 1) := by
  rw [show Int32.ofInt 1 = (1 : Int32) by decide]
  exact nI_1 i
theorem xn_dec (i : Nat) : nI (i + 1) + Int32.ofInt (-1) = nI i := by
  rw [show Int32.ofInt (-1) = (-1 : Int32) by decide]
  exact pk_m1 i
theorem xz_ifeq (hx : p.tables.exec = Jvm.exec) (hb : c.code = cc) {P : Prop} {off : Int} {tgt : Nat} (hdg : decode cc pc = .ok (.ifCond .eq off, 3)) (ht : (pc : Int) + off = (tgt : Int)) (kt : ¬ P → W p l e R s m args below meth c H locs cells slots Q (F0 m tgt ls rest)) (kf : P → W p l e R s m args below meth c H locs cells slots Q (F0 m (pc + 3) ls rest)) :
    W p l e R s m args below meth c H locs cells slots Q (F0 m pc ls (.int (xb P) :: rest)) := lv_if_eq hx hb hdg ht (fun h => kt (xb_eq0.mp h)) (fun h => kf (Classical.byContradiction fun z => h (xb_eq0.mpr z)))
theorem xz_ifne (hx : p.tables.exec = Jvm.exec) (hb : c.code = cc) {P : Prop} {off : Int} {tgt : Nat} (hdg : decode cc pc = .ok (.ifCond .ne off, 3)) (ht : (pc : Int) + off = (tgt : Int)) (kt : P → W p l e R s m args below meth c H locs cells slots Q (F0 m tgt ls rest)) (kf : ¬ P → W p l e R s m args below meth c H locs cells slots Q (F0 m (pc + 3) ls rest)) :
    W p l e R s m args below meth c H locs cells slots Q (F0 m pc ls (.int (xb P) :: rest)) := lv_if_ne hx hb hdg ht (fun h => kt (Classical.byContradiction fun z => h (xb_eq0.mpr z))) (fun h => kf (xb_eq0.mp h))
end
/-! one pass that keeps the best -/
noncomputable def xf_step (el : Nat → Prop) (bt : Nat → Nat → Prop) (b : Option Nat) (k : Nat) : Option Nat := xif (el k ∧ ∀ x, b = some x → bt k x) (some k) b
noncomputable def xf_it (el : Nat → Prop) (bt : Nat → Nat → Prop) (cand : Nat → Nat) : Nat → Option Nat
  | 0 => none
  | i + 1 => xf_step el bt (xf_it el bt cand i) (cand i)
theorem xf_it_min {el : Nat → Prop} {bt lt : Nat → Nat → Prop} {cand : Nat → Nat} {n : Nat} (hbt : ∀ i j, i < n → j < i → el (cand i) → el (cand j) → (bt (cand i) (cand j) ↔ lt (cand i) (cand j)))
    (tr : ∀ a b c, el a → el b → el c → lt a b → lt b c → lt a c) (tot : ∀ a b, el a → el b → a = b ∨ lt a b ∨ lt b a) :
    ∀ i, i ≤ n → (xf_it el bt cand i = none → ∀ j, j < i → ¬ el (cand j)) ∧ ∀ m, xf_it el bt cand i = some m → (∃ j, j < i ∧ cand j = m) ∧ el m ∧ ∀ j, j < i → el (cand j) → cand j = m ∨ lt m (cand j) := by
  intro i
  induction i with
  | zero =>
    intro _
    exact ⟨fun _ j h => absurd h (Nat.not_lt_zero j), fun m h => by simp [xf_it] at h⟩
  | succ i ih =>
    intro hi
    obtain ⟨ih1, ih2⟩ := ih (by omega)
    have hs : xf_it el bt cand (i + 1) = xf_step el bt (xf_it el bt cand i) (cand i) := rfl
    rw [hs]
    unfold xf_step
    by_cases hc : el (cand i) ∧ ∀ x, xf_it el bt cand i = some x → bt (cand i) x
    · rw [xif_t hc]
      refine ⟨fun h => (by cases h), fun m hm => ?_⟩
      cases hm
      refine ⟨⟨i, by omega, rfl⟩, hc.1, fun j hj hej => ?_⟩
      by_cases hji : j = i
      · subst hji; exact Or.inl rfl
      · have hj' : j < i := by omega
        cases hb : xf_it el bt cand i with
        | none => exact absurd hej (ih1 hb j hj')
        | some b =>
          obtain ⟨⟨jb, hjb, hjb2⟩, heb, hmin⟩ := ih2 b hb
          have h1 : lt (cand i) b := by
            have := hc.2 b hb
            rw [← hjb2] at this heb ⊢
            exact (hbt i jb (by omega) hjb hc.1 heb).mp this
          rcases hmin j hj' hej with h2 | h2
          · rw [h2]; exact Or.inr h1
          · exact Or.inr (tr _ _ _ hc.1 heb hej h1 h2)
    · rw [xif_f hc]
      refine ⟨fun h j hj => ?_, fun m hm => ?_⟩
      · by_cases hji : j = i
        · subst hji
          intro hel
          exact hc ⟨hel, fun x hx => by rw [h] at hx; cases hx⟩
        · exact ih1 h j (by omega)
      · obtain ⟨⟨jb, hjb, hjb2⟩, heb, hmin⟩ := ih2 m hm
        refine ⟨⟨jb, by omega, hjb2⟩, heb, fun j hj hej => ?_⟩
        by_cases hji : j = i
        · subst hji
          rcases tot (cand j) m hej heb with h2 | h2 | h2
          · exact Or.inl h2
          · exfalso
            apply hc
            refine ⟨hej, fun x hx => ?_⟩
            rw [hm] at hx
            cases hx
            rw [← hjb2] at h2 heb ⊢
            exact (hbt j jb (by omega) hjb hej heb).mpr h2
          · exact Or.inr h2
        · exact hmin j (by omega) hej
end
section
/-! The classes, their fields, and what the cells of each region hold. -/
def xF_TG : u_T := fun k => match k with
  | 0 => ("SplitFabric$Tag", "master", "I", true)
  | 1 => ("SplitFabric$Tag", "number", "I", true)
  | 2 => ("SplitFabric$Tag", "kept", "[I", true)
  | 3 => ("SplitFabric$Tag", "state", "I", false)
  | 4 => ("SplitFabric$Tag", "kind", "I", false)
  | 5 => ("SplitFabric$Tag", "address", "I", false)
  | 6 => ("SplitFabric$Tag", "length", "I", false)
  | 7 => ("SplitFabric$Tag", "order", "I", false)
  | 8 => ("SplitFabric$Tag", "waited", "I", false)
  | 9 => ("SplitFabric$Tag", "isAnswered", "Z", false)
  | _ => ("SplitFabric$Tag", "returned", "I", false)
def xY_TG : Nat → FieldType := fun k => match k with
  | 0 => .int
  | 1 => .int
  | 2 => .array .int
  | 3 => .int
  | 4 => .int
  | 5 => .int
  | 6 => .int
  | 7 => .int
  | 8 => .int
  | 9 => .boolean
  | _ => .int
theorem xY_TG_ok : ∀ k, k < 11 → parseFieldDescriptor (xF_TG k).2.2.1 = some (xY_TG k) := by decide +kernel
theorem xF_TG_nm : ∀ a, a < 11 → ∀ b, b < 11 → a ≠ b → (xF_TG a).2.1 ≠ (xF_TG b).2.1 := by decide +kernel
def xF_TA : u_T := fun k => match k with
  | 0 => ("SplitFabric$Target", "queue", "[I", true)
  | 1 => ("SplitFabric$Target", "queued", "I", false)
  | 2 => ("SplitFabric$Target", "creditsLeft", "I", false)
  | 3 => ("SplitFabric$Target", "heldBy", "I", false)
  | _ => ("SplitFabric$Target", "isReady", "Z", false)
def xY_TA : Nat → FieldType := fun k => match k with
  | 0 => .array .int
  | 1 => .int
  | 2 => .int
  | 3 => .int
  | _ => .boolean
theorem xY_TA_ok : ∀ k, k < 5 → parseFieldDescriptor (xF_TA k).2.2.1 = some (xY_TA k) := by decide +kernel
theorem xF_TA_nm : ∀ a, a < 5 → ∀ b, b < 5 → a ≠ b → (xF_TA a).2.1 ≠ (xF_TA b).2.1 := by decide +kernel
def xF_SF : u_T := fun k => match k with
  | 0 => ("SplitFabric", "tags", "[LSplitFabric$Tag;", true)
  | 1 => ("SplitFabric", "targets", "[LSplitFabric$Target;", true)
  | 2 => ("SplitFabric", "words", "[I", true)
  | 3 => ("SplitFabric", "dataOfMaster", "[[I", true)
  | 4 => ("SplitFabric", "baseOfMaster", "[I", true)
  | 5 => ("SplitFabric", "log", "Ljava/util/ArrayList;", true)
  | 6 => ("SplitFabric", "cyclesDone", "I", false)
  | 7 => ("SplitFabric", "issued", "I", false)
  | 8 => ("SplitFabric", "lastGranted", "I", false)
  | _ => ("SplitFabric", "lastReturned", "I", false)
def xY_SF : Nat → FieldType := fun k => match k with
  | 0 => .array (.object "SplitFabric$Tag")
  | 1 => .array (.object "SplitFabric$Target")
  | 2 => .array .int
  | 3 => .array (.array .int)
  | 4 => .array .int
  | 5 => .object "java/util/ArrayList"
  | 6 => .int
  | 7 => .int
  | 8 => .int
  | _ => .int
theorem xY_SF_ok : ∀ k, k < 10 → parseFieldDescriptor (xF_SF k).2.2.1 = some (xY_SF k) := by decide +kernel
theorem xF_SF_nm : ∀ a, a < 10 → ∀ b, b < 10 → a ≠ b → (xF_SF a).2.1 ≠ (xF_SF b).2.1 := by decide +kernel
def xF_SV : u_T := fun k => match k with
  | 0 => ("SplitFabric$Served", "master", "I", true)
  | 1 => ("SplitFabric$Served", "tag", "I", true)
  | 2 => ("SplitFabric$Served", "kind", "I", true)
  | 3 => ("SplitFabric$Served", "address", "I", true)
  | 4 => ("SplitFabric$Served", "length", "I", true)
  | _ => ("SplitFabric$Served", "inCycle", "I", true)
def xY_SV : Nat → FieldType := fun k => match k with
  | 0 => .int
  | 1 => .int
  | 2 => .int
  | 3 => .int
  | 4 => .int
  | _ => .int
theorem xY_SV_ok : ∀ k, k < 6 → parseFieldDescriptor (xF_SV k).2.2.1 = some (xY_SV k) := by decide +kernel
theorem xF_SV_nm : ∀ a, a < 6 → ∀ b, b < 6 → a ≠ b → (xF_SV a).2.1 ≠ (xF_SV b).2.1 := by decide +kernel
def xF_AL : u_T := fun k => match k with
  | 0 => ("java/util/AbstractList", "modCount", "I", false)
  | 1 => ("java/util/ArrayList", "elementData", "[Ljava/lang/Object;", false)
  | _ => ("java/util/ArrayList", "size", "I", false)
def xY_AL : Nat → FieldType := fun k => match k with
  | 0 => .int
  | 1 => .array (.object "java/lang/Object")
  | _ => .int
theorem xY_AL_ok : ∀ k, k < 3 → parseFieldDescriptor (xF_AL k).2.2.1 = some (xY_AL k) := by decide +kernel
theorem xF_AL_nm : ∀ a, a < 3 → ∀ b, b < 3 → a ≠ b → (xF_AL a).2.1 ≠ (xF_AL b).2.1 := by decide +kernel
def xF_MD : u_T := fun k => match k with
  | 0 => ("SplitFabricModel", "fault", "I", false)
  | 1 => ("SplitFabricModel", "memory", "[I", true)
  | 2 => ("SplitFabricModel", "data", "[I", true)
  | 3 => ("SplitFabricModel", "base", "[I", true)
  | 4 => ("SplitFabricModel", "ready", "[Z", true)
  | 5 => ("SplitFabricModel", "holder", "[I", true)
  | 6 => ("SplitFabricModel", "state", "[I", true)
  | 7 => ("SplitFabricModel", "kind", "[I", true)
  | 8 => ("SplitFabricModel", "address", "[I", true)
  | 9 => ("SplitFabricModel", "length", "[I", true)
  | 10 => ("SplitFabricModel", "waited", "[I", true)
  | 11 => ("SplitFabricModel", "issued", "[I", true)
  | 12 => ("SplitFabricModel", "queued", "[I", true)
  | 13 => ("SplitFabricModel", "kept", "[I", true)
  | 14 => ("SplitFabricModel", "read", "[I", true)
  | 15 => ("SplitFabricModel", "left", "[I", true)
  | 16 => ("SplitFabricModel", "issues", "I", false)
  | 17 => ("SplitFabricModel", "grants", "I", false)
  | 18 => ("SplitFabricModel", "lastReturned", "I", false)
  | 19 => ("SplitFabricModel", "lastMaster", "I", false)
  | 20 => ("SplitFabricModel", "time", "I", false)
  | 21 => ("SplitFabricModel", "served", "I", false)
  | _ => ("SplitFabricModel", "services", "[I", true)
def xY_MD : Nat → FieldType := fun k => match k with
  | 0 => .int
  | 1 => .array .int
  | 2 => .array .int
  | 3 => .array .int
  | 4 => .array .boolean
  | 5 => .array .int
  | 6 => .array .int
  | 7 => .array .int
  | 8 => .array .int
  | 9 => .array .int
  | 10 => .array .int
  | 11 => .array .int
  | 12 => .array .int
  | 13 => .array .int
  | 14 => .array .int
  | 15 => .array .int
  | 16 => .int
  | 17 => .int
  | 18 => .int
  | 19 => .int
  | 20 => .int
  | 21 => .int
  | _ => .array .int
theorem xY_MD_ok : ∀ k, k < 23 → parseFieldDescriptor (xF_MD k).2.2.1 = some (xY_MD k) := by decide +kernel
theorem xF_MD_nm : ∀ a, a < 23 → ∀ b, b < 23 → a ≠ b → (xF_MD a).2.1 ≠ (xF_MD b).2.1 := by decide +kernel
abbrev xCl : List vw_C := [("SplitFabric$Tag", xF_TG, 11), ("SplitFabric$Target", xF_TA, 5), ("SplitFabric", xF_SF, 10), ("SplitFabric$Served", xF_SV, 6), ("java/util/ArrayList", xF_AL, 3), ("SplitFabricModel", xF_MD, 23)]
abbrev xMem : Type := Nat → Nat → Nat → Int32
def xT (cA : Nat → ClassId) : List (ClassId × FieldType) := [(cA 0, .int), (cA 1, .object "SplitFabric$Tag"), (cA 2, .object "SplitFabric$Target"), (cA 3, .array .int), (cA 4, .object "java/lang/Object"), (cA 5, .boolean), (cA 6, .long)]
/-- an array of references whose first n places are filled -/
def xv_fill (n : Nat) (g : Nat → Nat) : Nat → Option Nat := fun i => if i < n then some (g i) else none
/-- what a cell of region r, number k holds, by its ints f -/
def xcell (cA : Nat → ClassId) (tz : Nat) (ad : Nat → Nat → Nat) (r k : Nat) (f : Nat → Int32) : va_E := match r with
  | 0 => .inr (0, [.int (f 0), .int (f 1), .ref (ad 1 k), .int (f 3), .int (f 4), .int (f 5), .int (f 6), .int (f 7), .int (f 8), .int (f 9), .int (f 10)])
  | 1 => .inl (cA 0, 4, .inl f)
  | 2 => .inr (1, [.ref (ad 3 k), .int (f 1), .int (f 2), .int (f 3), .int (f 4)])
  | 3 => .inl (cA 0, 4, .inl f)
  | 4 => .inl (cA 0, 4, .inl f)
  | 5 => .inr (2, [.ref (ad 6 0), .ref (ad 7 0), .ref (ad 8 0), .ref (ad 9 0), .ref (ad 10 0), .ref (ad 11 0), .int (f 6), .int (f 7), .int (f 8), .int (f 9)])
  | 6 => .inl (cA 1, 16, .inr (.inr (.inr (.inr (xv_fill (f 0).toNatClampNeg (ad 0))))))
  | 7 => .inl (cA 2, 3, .inr (.inr (.inr (.inr (xv_fill (f 0).toNatClampNeg (ad 2))))))
  | 8 => .inl (cA 0, 48, .inl f)
  | 9 => .inl (cA 3, 4, .inr (.inr (.inr (.inr (fun i => some (ad 4 i))))))
  | 10 => .inl (cA 0, 4, .inl f)
  | 11 => .inr (4, [.int (f 0), .ref (if f 9 = 0 then tz else ad 12 (f 9).toNatClampNeg), .int (f 2)])
  | 12 => .inl (cA 4, (f 1).toNatClampNeg, .inr (.inr (.inr (.inr (xv_fill (f 0).toNatClampNeg (ad 13))))))
  | 13 => .inr (3, [.int (f 0), .int (f 1), .int (f 2), .int (f 3), .int (f 4), .int (f 5)])
  | 20 => .inr (5, [.int (f 0), .ref (ad 21 0), .ref (ad 22 0), .ref (ad 23 0), .ref (ad 24 0), .ref (ad 25 0), .ref (ad 26 0), .ref (ad 27 0), .ref (ad 28 0), .ref (ad 29 0), .ref (ad 30 0), .ref (ad 31 0), .ref (ad 32 0), .ref (ad 33 0), .ref (ad 34 0), .ref (ad 35 0), .int (f 16), .int (f 17), .int (f 18), .int (f 19), .int (f 20), .int (f 21), .ref (ad 36 0)])
  | 21 => .inl (cA 0, 48, .inl f)
  | 22 => .inl (cA 0, 16, .inl f)
  | 23 => .inl (cA 0, 4, .inl f)
  | 24 => .inl (cA 5, 3, .inl f)
  | 25 => .inl (cA 0, 3, .inl f)
  | 26 => .inl (cA 0, 16, .inl f)
  | 27 => .inl (cA 0, 16, .inl f)
  | 28 => .inl (cA 0, 16, .inl f)
  | 29 => .inl (cA 0, 16, .inl f)
  | 30 => .inl (cA 0, 16, .inl f)
  | 31 => .inl (cA 0, 16, .inl f)
  | 32 => .inl (cA 0, 16, .inl f)
  | 33 => .inl (cA 0, 64, .inl f)
  | 34 => .inl (cA 0, 64, .inl f)
  | 35 => .inl (cA 0, 16, .inl f)
  | 36 => .inl (cA 0, 3600, .inl f)
  | _ => .inl (cA 6, 1, .inr (.inl (fun i => (f i).toInt64)))
def xc (cA : Nat → ClassId) (tz : Nat) (ad : Nat → Nat → Nat) (σ : xMem) : Nat → Nat → va_E := fun r k => xcell cA tz ad r k (σ r k)
def xu3 (σ : xMem) (r k i : Nat) (v : Int32) : xMem := xw_u2 σ r k (va_up (σ r k) i v)
theorem xc_up (cA : Nat → ClassId) (tz : Nat) (ad : Nat → Nat → Nat) (σ : xMem) (r k : Nat) (f : Nat → Int32) : xw_u2 (xc cA tz ad σ) r k (xcell cA tz ad r k f) = xc cA tz ad (xw_u2 σ r k f) := by
  funext a b
  by_cases h : a = r ∧ b = k
  · obtain ⟨rfl, rfl⟩ := h
    rw [xw_u2_s]
    show _ = xcell cA tz ad a b (xw_u2 σ a b f a b)
    rw [xw_u2_s]
  · rw [xw_u2_n _ _ h]
    show xcell cA tz ad a b (σ a b) = xcell cA tz ad a b (xw_u2 σ r k f a b)
    rw [xw_u2_n _ _ h]
end
section
/-! What holds of the tables and of statics that nobody writes, all the way. -/
/-- a static field, where it lies, what it holds -/
def xs_S (C n d : String) (P : Value → Prop) (A : Nat → Prop) (U : State) (H : Heap) : Prop := ∃ (c : ClassId) (k : Class) (i : Nat) (f : Field) (a : Nat) (cell : Cell) (v : Value), (U.vm.findClass C = some c ∧ U.fieldFound? C n d = some (c, k, i, f) ∧ f.isStatic = true ∧ k.init = .initialized ∧ k.statics = some a ∧ k.staticTypes[f.slot]? = some f.type) ∧ (H[a]? = some cell ∧ cell.vm.isStatics = true ∧ cell.cls = c ∧ f.slot < cell.slots.size ∧ cell.slots[f.slot]? = some v ∧ P v) ∧ ¬ A a
theorem xs_S.moved {C n d : String} {P : Value → Prop} {A : Nat → Prop} {u U : State} {H : Heap} (hvm : u.vm.Alike U.vm) (h : xs_S C n d P A u H) : xs_S C n d P A U H := by
  obtain ⟨c, k, i, f, a, cell, v, ⟨h1, h2, h3, h4, h5, h6⟩, h7, h8⟩ := h
  obtain ⟨k', hi', he⟩ := State.fieldFound?_setVm hvm h2
  exact ⟨c, k', i, f, a, cell, v, ⟨by rw [hvm.findClass]; exact h1, hi', h3, by rw [he]; exact h4, by rw [he]; exact h5, by rw [he]; exact h6⟩, h7, h8⟩
theorem xs_S.kept {C n d : String} {P : Value → Prop} {A : Nat → Prop} {U : State} {H H1 : Heap} (hq : ∀ a : Nat, a < H.size → ¬ A a → H1[a]? = H[a]?) (h : xs_S C n d P A U H) : xs_S C n d P A U H1 := by
  obtain ⟨c, k, i, f, a, cell, v, h1, ⟨g1, g2⟩, h8⟩ := h
  exact ⟨c, k, i, f, a, cell, v, h1, ⟨by rw [hq a (Array.getElem?_eq_some_iff.mp g1).1 h8]; exact g1, g2⟩, h8⟩
theorem xs_S.narrow {C n d : String} {P : Value → Prop} {A B : Nat → Prop} {U : State} {H : Heap} (hAB : ∀ q, B q → A q) (h : xs_S C n d P A U H) : xs_S C n d P B U H := by
  obtain ⟨c, k, i, f, a, cell, v, h1, h2, h8⟩ := h
  exact ⟨c, k, i, f, a, cell, v, h1, h2, fun z => h8 (hAB _ z)⟩
theorem xs_S.lays {C n d : String} {P : Value → Prop} {A : Nat → Prop} {s : State} {args : Array Value} (h : xs_S C n d P A s s.heap) : (Cond.laysStatic C n d).before args s = true := by
  obtain ⟨c, k, i, f, a, cell, v, ⟨h1, h2, h3, h4, h5, h6⟩, ⟨g1, g2, g3, g4, g5, g6⟩, h8⟩ := h
  exact Cond.laysStatic_of h1 h2 h3 h5 g1 g2 g3 g4 h6
theorem xs_S.isRef {C n d : String} {A : Nat → Prop} {s : State} {args : Array Value} (h : xs_S C n d (fun v => v.isRef = true) A s s.heap) : (Cond.isRef (.static C n d)).before args s = true := by
  obtain ⟨c, k, i, f, a, cell, v, ⟨h1, h2, h3, h4, h5, h6⟩, ⟨g1, g2, g3, g4, g5, g6⟩, h8⟩ := h
  have he : (Term.static C n d).eval args s none [] s = some v := by simp [Term.eval, State.fieldNamed?, h2, h3, h5, g1, g2, g5]
  simp only [Cond.before, Cond.holds, Cond.value, he]
  cases v <;> simp_all [Value.isRef]
theorem xs_S.va {C n d : String} {A : Nat → Prop} {U : State} {H : Heap} {w : Value} (h : xs_S C n d (fun v => v = w) A U H) : va_Z C n d w A U H := by
  obtain ⟨c, k, i, f, a, cell, v, ⟨h1, h2, h3, h4, h5, h6⟩, ⟨g1, g2, g3, g4, g5, g6⟩, h8⟩ := h
  subst g6
  exact ⟨c, k, i, f, a, cell, h2, h3, h4, h5, g1, g2, g5, h8⟩
theorem xs_S.of {args : Array Value} {s : State} {C n d : String} {v : Value} {P : Value → Prop} {A : Nat → Prop} (hl : (Cond.laysStatic C n d).before args s = true) (hini : (Cond.initialized C).before args s = true) (hv : (Term.static C n d).eval args s none [] s = some v) (hp : P v) (hA : ∀ a : Nat, a < s.heap.size → ¬ A a) : xs_S C n d P A s s.heap := by
  obtain ⟨c, k, i, f, a, cell, h1, h2, h3, h4, h5, h6, h7, h8, h9⟩ := Cond.laysStatic_spec hl
  obtain ⟨-, a', cell', ha', hcell', -, hslot⟩ := Term.static_spec h2 hv
  cases h4.symm.trans ha'
  cases h5.symm.trans hcell'
  exact ⟨c, k, i, f, a, cell, v, ⟨h1, h2, h3, Cond.initialized_spec h1 (State.fieldFound?_spec h2).1 hini, h4, h9⟩, ⟨h5, h6, h7, h8, hslot, hp⟩, hA a (Array.getElem?_eq_some_iff.mp h5).1⟩
def xs_Ca (C T : String) (U : State) : Prop := ∃ c t : ClassId, U.vm.findClass C = some c ∧ U.vm.findClass T = some t ∧ U.vm.assignable c t = true
theorem xs_Ca.moved {C T : String} {u U : State} (hvm : u.vm.Alike U.vm) (h : xs_Ca C T u) : xs_Ca C T U := by
  obtain ⟨c, t, h1, h2, h3⟩ := h
  exact ⟨c, t, by rw [hvm.findClass]; exact h1, by rw [hvm.findClass]; exact h2, by rw [hvm.assignable]; exact h3⟩
theorem xs_Ca.use {C T : String} {U : State} {A : Array Value} (h : xs_Ca C T U) : (Cond.castable C T).before A U = true := by
  obtain ⟨c, t, h1, h2, h3⟩ := h
  simp [Cond.before, Cond.holds, Cond.value, h1, h2, h3]
theorem xs_Ca.of {C T : String} {U : State} {A : Array Value} (h : (Cond.castable C T).before A U = true) : xs_Ca C T U := by
  obtain ⟨c, t, h1, h2, h3⟩ := Cond.castable_spec h
  exact ⟨c, t, h1, h2, h3⟩
theorem xs_De {x : MethodName} {u U : State} (hvm : u.vm.Alike U.vm) (h : va_Nw (.declares x) u) : va_Nw (.declares x) U := va_tabs rfl (rfl : (u.setVm U.vm).vm = U.vm) (by rw [Cond.declares_setVm hvm]; exact h)
/-- of the tables alone -/
def xV (U : State) : Prop := (va_Nc "java/lang/IllegalArgumentException" "java/lang/IndexOutOfBoundsException" U ∧ va_Nc "java/lang/IllegalStateException" "java/lang/IndexOutOfBoundsException" U ∧ va_Nc "java/lang/IllegalStateException" "java/lang/IllegalArgumentException" U) ∧
  (xs_Ca "java/lang/IndexOutOfBoundsException" "java/lang/IndexOutOfBoundsException" U ∧ xs_Ca "java/lang/IllegalArgumentException" "java/lang/IllegalArgumentException" U ∧ xs_Ca "java/lang/IllegalStateException" "java/lang/IllegalStateException" U ∧ xs_Ca "SplitFabric$Served" "java/lang/Object" U ∧ xs_Ca "SplitFabric$Served" "SplitFabric$Served" U) ∧
  (∃ mi, va_Mi "[Ljava/lang/Object;" mi U) ∧ va_Dc U ∧ va_AO "java/lang/Object" U ∧
  va_Nw (.declares (Bundle.init0 "java/lang/RuntimeException")) U ∧ va_Nw (.declares (Bundle.init0 "java/lang/Exception")) U ∧ va_Nw (.declares (Bundle.init0 Bundle.tN)) U
theorem xV.moved {u U : State} (hvm : u.vm.Alike U.vm) (h : xV u) : xV U := by
  obtain ⟨⟨a1, a2, a3⟩, ⟨b1, b2, b3, b4, b5⟩, ⟨mi, c1⟩, c2, c3, e1, e2, e3⟩ := h
  exact ⟨⟨a1.moved hvm, a2.moved hvm, a3.moved hvm⟩, ⟨b1.moved hvm, b2.moved hvm, b3.moved hvm, b4.moved hvm, b5.moved hvm⟩, ⟨mi, c1.moved hvm⟩, c2.moved hvm, c3.moved hvm, xs_De hvm e1, xs_De hvm e2, xs_De hvm e3⟩
def xZ (tz : Nat) (A : Nat → Prop) (U : State) (H : Heap) : Prop := xV U ∧ xs_S Bundle.tN "UNASSIGNED_STACK" Bundle.steD (fun v => v.isRef = true) A U H ∧ xs_S Bundle.tN "SUPPRESSED_SENTINEL" Bundle.listD (fun v => v.isRef = true) A U H ∧
  xs_S "java/util/ArrayList" "DEFAULTCAPACITY_EMPTY_ELEMENTDATA" "[Ljava/lang/Object;" (fun v => v = .ref tz) A U H ∧ va_T (.object "java/lang/Object") tz 0 (fun _ => .null) A U H
theorem xZL (tz : Nat) : xr_ZL (xZ tz) := by
  refine ⟨fun A u U H hvm h => ?_, fun A U H H1 hq h => ?_, fun A B U H hAB h => ?_⟩
  · obtain ⟨h1, h2, h3, h4, h5⟩ := h
    exact ⟨h1.moved hvm, h2.moved hvm, h3.moved hvm, h4.moved hvm, va_T.moved hvm h5⟩
  · obtain ⟨h1, h2, h3, h4, h5⟩ := h
    exact ⟨h1, h2.kept hq, h3.kept hq, h4.kept hq, va_T.kept h5 hq⟩
  · obtain ⟨h1, h2, h3, h4, h5⟩ := h
    exact ⟨h1, h2.narrow hAB, h3.narrow hAB, h4.narrow hAB, va_T.narrow h5 hAB⟩
end
section
/-! A row for each field that a class links: reading, writing. -/
section
variable {p : Program} {l : Launch} {e : Env} {R : Room} {s : State} {m : MethodId} {args : Array Value} {below : List Frame} {meth : Method} {c : Code} {H : Heap} {locs : List Loc} {cells slots : Nat} {Q : State → Prop} {cc : ByteArray} {pc : Nat} {ls : Array Slot} {rest : List Value} {D : va_G} {cA : Nat → ClassId} {tz : Nat} {A : Nat → Prop} {I : List (Nat × Nat)} {ad : Nat → Nat → Nat} {σ : xMem}
theorem xin_TG : ∀ w ∈ u_ws "SplitFabric$Tag" xF_TG 11, w ∈ xBIG := by decide +kernel
theorem xin_TA : ∀ w ∈ u_ws "SplitFabric$Target" xF_TA 5, w ∈ xBIG := by decide +kernel
theorem xin_SF : ∀ w ∈ u_ws "SplitFabric" xF_SF 10, w ∈ xBIG := by decide +kernel
theorem xin_SV : ∀ w ∈ u_ws "SplitFabric$Served" xF_SV 6, w ∈ xBIG := by decide +kernel
theorem xin_MD : ∀ w ∈ u_ws "SplitFabricModel" xF_MD 23, w ∈ xBIG := by decide +kernel
theorem xg_SV_7 (C : xr_C xBIG p c cc "SplitFabric$Served" s m args) (w : xr_W xCl (xT cA) D I ad (xc cA tz ad σ) A s H locs) {k : Nat} (hI : (0, k) ∈ I) (hdg : decode cc pc = .ok (.getfield 7, 3)) (kk : W p l e R s m args below meth c H locs cells slots Q (F0 m (pc + 3) ls (.int (σ 0 k 0) :: rest))) : W p l e R s m args below meth c H locs cells slots Q (F0 m pc ls (.ref (ad 0 k) :: rest)) :=
  xr_get C w hI rfl rfl xin_TG 0 (by decide) (xmi 67 (by decide +kernel) rfl) rfl rfl hdg kk
theorem xg_TG_41 (C : xr_C xBIG p c cc "SplitFabric$Tag" s m args) (w : xr_W xCl (xT cA) D I ad (xc cA tz ad σ) A s H locs) {k : Nat} (hI : (0, k) ∈ I) (hdg : decode cc pc = .ok (.getfield 41, 3)) (kk : W p l e R s m args below meth c H locs cells slots Q (F0 m (pc + 3) ls (.int (σ 0 k 0) :: rest))) : W p l e R s m args below meth c H locs cells slots Q (F0 m pc ls (.ref (ad 0 k) :: rest)) :=
  xr_get C w hI rfl rfl xin_TG 0 (by decide) (xmi 68 (by decide +kernel) rfl) rfl rfl hdg kk
theorem xg_SF_115 (C : xr_C xBIG p c cc "SplitFabric" s m args) (w : xr_W xCl (xT cA) D I ad (xc cA tz ad σ) A s H locs) {k : Nat} (hI : (0, k) ∈ I) (hdg : decode cc pc = .ok (.getfield 115, 3)) (kk : W p l e R s m args below meth c H locs cells slots Q (F0 m (pc + 3) ls (.int (σ 0 k 0) :: rest))) : W p l e R s m args below meth c H locs cells slots Q (F0 m pc ls (.ref (ad 0 k) :: rest)) :=
  xr_get C w hI rfl rfl xin_TG 0 (by decide) (xmi 69 (by decide +kernel) rfl) rfl rfl hdg kk
theorem xg_SV_16 (C : xr_C xBIG p c cc "SplitFabric$Served" s m args) (w : xr_W xCl (xT cA) D I ad (xc cA tz ad σ) A s H locs) {k : Nat} (hI : (0, k) ∈ I) (hdg : decode cc pc = .ok (.getfield 16, 3)) (kk : W p l e R s m args below meth c H locs cells slots Q (F0 m (pc + 3) ls (.int (σ 0 k 1) :: rest))) : W p l e R s m args below meth c H locs cells slots Q (F0 m pc ls (.ref (ad 0 k) :: rest)) :=
  xr_get C w hI rfl rfl xin_TG 1 (by decide) (xmi 70 (by decide +kernel) rfl) rfl rfl hdg kk
theorem xg_TG_44 (C : xr_C xBIG p c cc "SplitFabric$Tag" s m args) (w : xr_W xCl (xT cA) D I ad (xc cA tz ad σ) A s H locs) {k : Nat} (hI : (0, k) ∈ I) (hdg : decode cc pc = .ok (.getfield 44, 3)) (kk : W p l e R s m args below meth c H locs cells slots Q (F0 m (pc + 3) ls (.int (σ 0 k 1) :: rest))) : W p l e R s m args below meth c H locs cells slots Q (F0 m pc ls (.ref (ad 0 k) :: rest)) :=
  xr_get C w hI rfl rfl xin_TG 1 (by decide) (xmi 71 (by decide +kernel) rfl) rfl rfl hdg kk
theorem xg_SF_247 (C : xr_C xBIG p c cc "SplitFabric" s m args) (w : xr_W xCl (xT cA) D I ad (xc cA tz ad σ) A s H locs) {k : Nat} (hI : (0, k) ∈ I) (hdg : decode cc pc = .ok (.getfield 247, 3)) (kk : W p l e R s m args below meth c H locs cells slots Q (F0 m (pc + 3) ls (.int (σ 0 k 1) :: rest))) : W p l e R s m args below meth c H locs cells slots Q (F0 m pc ls (.ref (ad 0 k) :: rest)) :=
  xr_get C w hI rfl rfl xin_TG 1 (by decide) (xmi 72 (by decide +kernel) rfl) rfl rfl hdg kk
theorem xg_TG_9 (C : xr_C xBIG p c cc "SplitFabric$Tag" s m args) (w : xr_W xCl (xT cA) D I ad (xc cA tz ad σ) A s H locs) {k : Nat} (hI : (0, k) ∈ I) (hdg : decode cc pc = .ok (.getfield 9, 3)) (kk : W p l e R s m args below meth c H locs cells slots Q (F0 m (pc + 3) ls (.ref (ad 1 k) :: rest))) : W p l e R s m args below meth c H locs cells slots Q (F0 m pc ls (.ref (ad 0 k) :: rest)) :=
  xr_get C w hI rfl rfl xin_TG 2 (by decide) (xmi 73 (by decide +kernel) rfl) rfl rfl hdg kk
theorem xg_SF_132 (C : xr_C xBIG p c cc "SplitFabric" s m args) (w : xr_W xCl (xT cA) D I ad (xc cA tz ad σ) A s H locs) {k : Nat} (hI : (0, k) ∈ I) (hdg : decode cc pc = .ok (.getfield 132, 3)) (kk : W p l e R s m args below meth c H locs cells slots Q (F0 m (pc + 3) ls (.ref (ad 1 k) :: rest))) : W p l e R s m args below meth c H locs cells slots Q (F0 m pc ls (.ref (ad 0 k) :: rest)) :=
  xr_get C w hI rfl rfl xin_TG 2 (by decide) (xmi 74 (by decide +kernel) rfl) rfl rfl hdg kk
theorem xg_TG_15 (C : xr_C xBIG p c cc "SplitFabric$Tag" s m args) (w : xr_W xCl (xT cA) D I ad (xc cA tz ad σ) A s H locs) {k : Nat} (hI : (0, k) ∈ I) (hdg : decode cc pc = .ok (.getfield 15, 3)) (kk : W p l e R s m args below meth c H locs cells slots Q (F0 m (pc + 3) ls (.int (σ 0 k 3) :: rest))) : W p l e R s m args below meth c H locs cells slots Q (F0 m pc ls (.ref (ad 0 k) :: rest)) :=
  xr_get C w hI rfl rfl xin_TG 3 (by decide) (xmi 75 (by decide +kernel) rfl) rfl rfl hdg kk
theorem xp_TG_15 (C : xr_C xBIG p c cc "SplitFabric$Tag" s m args) (w : xr_W xCl (xT cA) D I ad (xc cA tz ad σ) A s H locs) {k : Nat} {x : Int32} (hI : (0, k) ∈ I) (hdg : decode cc pc = .ok (.putfield 15, 3)) (kk : ∀ (H1 : Heap) (locs1 : List Loc), xr_W xCl (xT cA) D I ad (xc cA tz ad (xu3 σ 0 k 3 x)) A s H1 locs1 → W p l e R s m args below meth c H1 locs1 cells slots Q (F0 m (pc + 3) ls (rest))) : W p l e R s m args below meth c H locs cells slots Q (F0 m pc ls (.int x :: .ref (ad 0 k) :: rest)) :=
  xr_put C w hI rfl rfl xin_TG xY_TG xY_TG_ok xF_TG_nm 3 (by decide) (xmi 75 (by decide +kernel) rfl) rfl rfl rfl rfl (Nat.le_of_ble_eq_true rfl) hdg (fun H1 locs1 w1 => kk H1 locs1 (Eq.mp (congrArg (fun E => xr_W xCl (xT cA) D I ad E A s H1 locs1) (xc_up cA tz ad σ 0 k (va_up (σ 0 k) 3 x))) w1))
theorem xg_SF_68 (C : xr_C xBIG p c cc "SplitFabric" s m args) (w : xr_W xCl (xT cA) D I ad (xc cA tz ad σ) A s H locs) {k : Nat} (hI : (0, k) ∈ I) (hdg : decode cc pc = .ok (.getfield 68, 3)) (kk : W p l e R s m args below meth c H locs cells slots Q (F0 m (pc + 3) ls (.int (σ 0 k 3) :: rest))) : W p l e R s m args below meth c H locs cells slots Q (F0 m pc ls (.ref (ad 0 k) :: rest)) :=
  xr_get C w hI rfl rfl xin_TG 3 (by decide) (xmi 76 (by decide +kernel) rfl) rfl rfl hdg kk
theorem xp_SF_68 (C : xr_C xBIG p c cc "SplitFabric" s m args) (w : xr_W xCl (xT cA) D I ad (xc cA tz ad σ) A s H locs) {k : Nat} {x : Int32} (hI : (0, k) ∈ I) (hdg : decode cc pc = .ok (.putfield 68, 3)) (kk : ∀ (H1 : Heap) (locs1 : List Loc), xr_W xCl (xT cA) D I ad (xc cA tz ad (xu3 σ 0 k 3 x)) A s H1 locs1 → W p l e R s m args below meth c H1 locs1 cells slots Q (F0 m (pc + 3) ls (rest))) : W p l e R s m args below meth c H locs cells slots Q (F0 m pc ls (.int x :: .ref (ad 0 k) :: rest)) :=
  xr_put C w hI rfl rfl xin_TG xY_TG xY_TG_ok xF_TG_nm 3 (by decide) (xmi 76 (by decide +kernel) rfl) rfl rfl rfl rfl (Nat.le_of_ble_eq_true rfl) hdg (fun H1 locs1 w1 => kk H1 locs1 (Eq.mp (congrArg (fun E => xr_W xCl (xT cA) D I ad E A s H1 locs1) (xc_up cA tz ad σ 0 k (va_up (σ 0 k) 3 x))) w1))
theorem xg_TG_19 (C : xr_C xBIG p c cc "SplitFabric$Tag" s m args) (w : xr_W xCl (xT cA) D I ad (xc cA tz ad σ) A s H locs) {k : Nat} (hI : (0, k) ∈ I) (hdg : decode cc pc = .ok (.getfield 19, 3)) (kk : W p l e R s m args below meth c H locs cells slots Q (F0 m (pc + 3) ls (.int (σ 0 k 4) :: rest))) : W p l e R s m args below meth c H locs cells slots Q (F0 m pc ls (.ref (ad 0 k) :: rest)) :=
  xr_get C w hI rfl rfl xin_TG 4 (by decide) (xmi 77 (by decide +kernel) rfl) rfl rfl hdg kk
theorem xp_TG_19 (C : xr_C xBIG p c cc "SplitFabric$Tag" s m args) (w : xr_W xCl (xT cA) D I ad (xc cA tz ad σ) A s H locs) {k : Nat} {x : Int32} (hI : (0, k) ∈ I) (hdg : decode cc pc = .ok (.putfield 19, 3)) (kk : ∀ (H1 : Heap) (locs1 : List Loc), xr_W xCl (xT cA) D I ad (xc cA tz ad (xu3 σ 0 k 4 x)) A s H1 locs1 → W p l e R s m args below meth c H1 locs1 cells slots Q (F0 m (pc + 3) ls (rest))) : W p l e R s m args below meth c H locs cells slots Q (F0 m pc ls (.int x :: .ref (ad 0 k) :: rest)) :=
  xr_put C w hI rfl rfl xin_TG xY_TG xY_TG_ok xF_TG_nm 4 (by decide) (xmi 77 (by decide +kernel) rfl) rfl rfl rfl rfl (Nat.le_of_ble_eq_true rfl) hdg (fun H1 locs1 w1 => kk H1 locs1 (Eq.mp (congrArg (fun E => xr_W xCl (xT cA) D I ad E A s H1 locs1) (xc_up cA tz ad σ 0 k (va_up (σ 0 k) 4 x))) w1))
theorem xg_SV_22 (C : xr_C xBIG p c cc "SplitFabric$Served" s m args) (w : xr_W xCl (xT cA) D I ad (xc cA tz ad σ) A s H locs) {k : Nat} (hI : (0, k) ∈ I) (hdg : decode cc pc = .ok (.getfield 22, 3)) (kk : W p l e R s m args below meth c H locs cells slots Q (F0 m (pc + 3) ls (.int (σ 0 k 4) :: rest))) : W p l e R s m args below meth c H locs cells slots Q (F0 m pc ls (.ref (ad 0 k) :: rest)) :=
  xr_get C w hI rfl rfl xin_TG 4 (by decide) (xmi 78 (by decide +kernel) rfl) rfl rfl hdg kk
theorem xp_SV_22 (C : xr_C xBIG p c cc "SplitFabric$Served" s m args) (w : xr_W xCl (xT cA) D I ad (xc cA tz ad σ) A s H locs) {k : Nat} {x : Int32} (hI : (0, k) ∈ I) (hdg : decode cc pc = .ok (.putfield 22, 3)) (kk : ∀ (H1 : Heap) (locs1 : List Loc), xr_W xCl (xT cA) D I ad (xc cA tz ad (xu3 σ 0 k 4 x)) A s H1 locs1 → W p l e R s m args below meth c H1 locs1 cells slots Q (F0 m (pc + 3) ls (rest))) : W p l e R s m args below meth c H locs cells slots Q (F0 m pc ls (.int x :: .ref (ad 0 k) :: rest)) :=
  xr_put C w hI rfl rfl xin_TG xY_TG xY_TG_ok xF_TG_nm 4 (by decide) (xmi 78 (by decide +kernel) rfl) rfl rfl rfl rfl (Nat.le_of_ble_eq_true rfl) hdg (fun H1 locs1 w1 => kk H1 locs1 (Eq.mp (congrArg (fun E => xr_W xCl (xT cA) D I ad E A s H1 locs1) (xc_up cA tz ad σ 0 k (va_up (σ 0 k) 4 x))) w1))
theorem xg_SF_173 (C : xr_C xBIG p c cc "SplitFabric" s m args) (w : xr_W xCl (xT cA) D I ad (xc cA tz ad σ) A s H locs) {k : Nat} (hI : (0, k) ∈ I) (hdg : decode cc pc = .ok (.getfield 173, 3)) (kk : W p l e R s m args below meth c H locs cells slots Q (F0 m (pc + 3) ls (.int (σ 0 k 4) :: rest))) : W p l e R s m args below meth c H locs cells slots Q (F0 m pc ls (.ref (ad 0 k) :: rest)) :=
  xr_get C w hI rfl rfl xin_TG 4 (by decide) (xmi 79 (by decide +kernel) rfl) rfl rfl hdg kk
theorem xp_SF_173 (C : xr_C xBIG p c cc "SplitFabric" s m args) (w : xr_W xCl (xT cA) D I ad (xc cA tz ad σ) A s H locs) {k : Nat} {x : Int32} (hI : (0, k) ∈ I) (hdg : decode cc pc = .ok (.putfield 173, 3)) (kk : ∀ (H1 : Heap) (locs1 : List Loc), xr_W xCl (xT cA) D I ad (xc cA tz ad (xu3 σ 0 k 4 x)) A s H1 locs1 → W p l e R s m args below meth c H1 locs1 cells slots Q (F0 m (pc + 3) ls (rest))) : W p l e R s m args below meth c H locs cells slots Q (F0 m pc ls (.int x :: .ref (ad 0 k) :: rest)) :=
  xr_put C w hI rfl rfl xin_TG xY_TG xY_TG_ok xF_TG_nm 4 (by decide) (xmi 79 (by decide +kernel) rfl) rfl rfl rfl rfl (Nat.le_of_ble_eq_true rfl) hdg (fun H1 locs1 w1 => kk H1 locs1 (Eq.mp (congrArg (fun E => xr_W xCl (xT cA) D I ad E A s H1 locs1) (xc_up cA tz ad σ 0 k (va_up (σ 0 k) 4 x))) w1))
theorem xg_TG_22 (C : xr_C xBIG p c cc "SplitFabric$Tag" s m args) (w : xr_W xCl (xT cA) D I ad (xc cA tz ad σ) A s H locs) {k : Nat} (hI : (0, k) ∈ I) (hdg : decode cc pc = .ok (.getfield 22, 3)) (kk : W p l e R s m args below meth c H locs cells slots Q (F0 m (pc + 3) ls (.int (σ 0 k 5) :: rest))) : W p l e R s m args below meth c H locs cells slots Q (F0 m pc ls (.ref (ad 0 k) :: rest)) :=
  xr_get C w hI rfl rfl xin_TG 5 (by decide) (xmi 80 (by decide +kernel) rfl) rfl rfl hdg kk
theorem xp_TG_22 (C : xr_C xBIG p c cc "SplitFabric$Tag" s m args) (w : xr_W xCl (xT cA) D I ad (xc cA tz ad σ) A s H locs) {k : Nat} {x : Int32} (hI : (0, k) ∈ I) (hdg : decode cc pc = .ok (.putfield 22, 3)) (kk : ∀ (H1 : Heap) (locs1 : List Loc), xr_W xCl (xT cA) D I ad (xc cA tz ad (xu3 σ 0 k 5 x)) A s H1 locs1 → W p l e R s m args below meth c H1 locs1 cells slots Q (F0 m (pc + 3) ls (rest))) : W p l e R s m args below meth c H locs cells slots Q (F0 m pc ls (.int x :: .ref (ad 0 k) :: rest)) :=
  xr_put C w hI rfl rfl xin_TG xY_TG xY_TG_ok xF_TG_nm 5 (by decide) (xmi 80 (by decide +kernel) rfl) rfl rfl rfl rfl (Nat.le_of_ble_eq_true rfl) hdg (fun H1 locs1 w1 => kk H1 locs1 (Eq.mp (congrArg (fun E => xr_W xCl (xT cA) D I ad E A s H1 locs1) (xc_up cA tz ad σ 0 k (va_up (σ 0 k) 5 x))) w1))
theorem xg_SV_26 (C : xr_C xBIG p c cc "SplitFabric$Served" s m args) (w : xr_W xCl (xT cA) D I ad (xc cA tz ad σ) A s H locs) {k : Nat} (hI : (0, k) ∈ I) (hdg : decode cc pc = .ok (.getfield 26, 3)) (kk : W p l e R s m args below meth c H locs cells slots Q (F0 m (pc + 3) ls (.int (σ 0 k 5) :: rest))) : W p l e R s m args below meth c H locs cells slots Q (F0 m pc ls (.ref (ad 0 k) :: rest)) :=
  xr_get C w hI rfl rfl xin_TG 5 (by decide) (xmi 81 (by decide +kernel) rfl) rfl rfl hdg kk
theorem xp_SV_26 (C : xr_C xBIG p c cc "SplitFabric$Served" s m args) (w : xr_W xCl (xT cA) D I ad (xc cA tz ad σ) A s H locs) {k : Nat} {x : Int32} (hI : (0, k) ∈ I) (hdg : decode cc pc = .ok (.putfield 26, 3)) (kk : ∀ (H1 : Heap) (locs1 : List Loc), xr_W xCl (xT cA) D I ad (xc cA tz ad (xu3 σ 0 k 5 x)) A s H1 locs1 → W p l e R s m args below meth c H1 locs1 cells slots Q (F0 m (pc + 3) ls (rest))) : W p l e R s m args below meth c H locs cells slots Q (F0 m pc ls (.int x :: .ref (ad 0 k) :: rest)) :=
  xr_put C w hI rfl rfl xin_TG xY_TG xY_TG_ok xF_TG_nm 5 (by decide) (xmi 81 (by decide +kernel) rfl) rfl rfl rfl rfl (Nat.le_of_ble_eq_true rfl) hdg (fun H1 locs1 w1 => kk H1 locs1 (Eq.mp (congrArg (fun E => xr_W xCl (xT cA) D I ad E A s H1 locs1) (xc_up cA tz ad σ 0 k (va_up (σ 0 k) 5 x))) w1))
theorem xg_SF_170 (C : xr_C xBIG p c cc "SplitFabric" s m args) (w : xr_W xCl (xT cA) D I ad (xc cA tz ad σ) A s H locs) {k : Nat} (hI : (0, k) ∈ I) (hdg : decode cc pc = .ok (.getfield 170, 3)) (kk : W p l e R s m args below meth c H locs cells slots Q (F0 m (pc + 3) ls (.int (σ 0 k 5) :: rest))) : W p l e R s m args below meth c H locs cells slots Q (F0 m pc ls (.ref (ad 0 k) :: rest)) :=
  xr_get C w hI rfl rfl xin_TG 5 (by decide) (xmi 82 (by decide +kernel) rfl) rfl rfl hdg kk
theorem xp_SF_170 (C : xr_C xBIG p c cc "SplitFabric" s m args) (w : xr_W xCl (xT cA) D I ad (xc cA tz ad σ) A s H locs) {k : Nat} {x : Int32} (hI : (0, k) ∈ I) (hdg : decode cc pc = .ok (.putfield 170, 3)) (kk : ∀ (H1 : Heap) (locs1 : List Loc), xr_W xCl (xT cA) D I ad (xc cA tz ad (xu3 σ 0 k 5 x)) A s H1 locs1 → W p l e R s m args below meth c H1 locs1 cells slots Q (F0 m (pc + 3) ls (rest))) : W p l e R s m args below meth c H locs cells slots Q (F0 m pc ls (.int x :: .ref (ad 0 k) :: rest)) :=
  xr_put C w hI rfl rfl xin_TG xY_TG xY_TG_ok xF_TG_nm 5 (by decide) (xmi 82 (by decide +kernel) rfl) rfl rfl rfl rfl (Nat.le_of_ble_eq_true rfl) hdg (fun H1 locs1 w1 => kk H1 locs1 (Eq.mp (congrArg (fun E => xr_W xCl (xT cA) D I ad E A s H1 locs1) (xc_up cA tz ad σ 0 k (va_up (σ 0 k) 5 x))) w1))
theorem xg_TG_25 (C : xr_C xBIG p c cc "SplitFabric$Tag" s m args) (w : xr_W xCl (xT cA) D I ad (xc cA tz ad σ) A s H locs) {k : Nat} (hI : (0, k) ∈ I) (hdg : decode cc pc = .ok (.getfield 25, 3)) (kk : W p l e R s m args below meth c H locs cells slots Q (F0 m (pc + 3) ls (.int (σ 0 k 6) :: rest))) : W p l e R s m args below meth c H locs cells slots Q (F0 m pc ls (.ref (ad 0 k) :: rest)) :=
  xr_get C w hI rfl rfl xin_TG 6 (by decide) (xmi 83 (by decide +kernel) rfl) rfl rfl hdg kk
theorem xp_TG_25 (C : xr_C xBIG p c cc "SplitFabric$Tag" s m args) (w : xr_W xCl (xT cA) D I ad (xc cA tz ad σ) A s H locs) {k : Nat} {x : Int32} (hI : (0, k) ∈ I) (hdg : decode cc pc = .ok (.putfield 25, 3)) (kk : ∀ (H1 : Heap) (locs1 : List Loc), xr_W xCl (xT cA) D I ad (xc cA tz ad (xu3 σ 0 k 6 x)) A s H1 locs1 → W p l e R s m args below meth c H1 locs1 cells slots Q (F0 m (pc + 3) ls (rest))) : W p l e R s m args below meth c H locs cells slots Q (F0 m pc ls (.int x :: .ref (ad 0 k) :: rest)) :=
  xr_put C w hI rfl rfl xin_TG xY_TG xY_TG_ok xF_TG_nm 6 (by decide) (xmi 83 (by decide +kernel) rfl) rfl rfl rfl rfl (Nat.le_of_ble_eq_true rfl) hdg (fun H1 locs1 w1 => kk H1 locs1 (Eq.mp (congrArg (fun E => xr_W xCl (xT cA) D I ad E A s H1 locs1) (xc_up cA tz ad σ 0 k (va_up (σ 0 k) 6 x))) w1))
theorem xg_SV_30 (C : xr_C xBIG p c cc "SplitFabric$Served" s m args) (w : xr_W xCl (xT cA) D I ad (xc cA tz ad σ) A s H locs) {k : Nat} (hI : (0, k) ∈ I) (hdg : decode cc pc = .ok (.getfield 30, 3)) (kk : W p l e R s m args below meth c H locs cells slots Q (F0 m (pc + 3) ls (.int (σ 0 k 6) :: rest))) : W p l e R s m args below meth c H locs cells slots Q (F0 m pc ls (.ref (ad 0 k) :: rest)) :=
  xr_get C w hI rfl rfl xin_TG 6 (by decide) (xmi 84 (by decide +kernel) rfl) rfl rfl hdg kk
theorem xp_SV_30 (C : xr_C xBIG p c cc "SplitFabric$Served" s m args) (w : xr_W xCl (xT cA) D I ad (xc cA tz ad σ) A s H locs) {k : Nat} {x : Int32} (hI : (0, k) ∈ I) (hdg : decode cc pc = .ok (.putfield 30, 3)) (kk : ∀ (H1 : Heap) (locs1 : List Loc), xr_W xCl (xT cA) D I ad (xc cA tz ad (xu3 σ 0 k 6 x)) A s H1 locs1 → W p l e R s m args below meth c H1 locs1 cells slots Q (F0 m (pc + 3) ls (rest))) : W p l e R s m args below meth c H locs cells slots Q (F0 m pc ls (.int x :: .ref (ad 0 k) :: rest)) :=
  xr_put C w hI rfl rfl xin_TG xY_TG xY_TG_ok xF_TG_nm 6 (by decide) (xmi 84 (by decide +kernel) rfl) rfl rfl rfl rfl (Nat.le_of_ble_eq_true rfl) hdg (fun H1 locs1 w1 => kk H1 locs1 (Eq.mp (congrArg (fun E => xr_W xCl (xT cA) D I ad E A s H1 locs1) (xc_up cA tz ad σ 0 k (va_up (σ 0 k) 6 x))) w1))
theorem xg_SF_129 (C : xr_C xBIG p c cc "SplitFabric" s m args) (w : xr_W xCl (xT cA) D I ad (xc cA tz ad σ) A s H locs) {k : Nat} (hI : (0, k) ∈ I) (hdg : decode cc pc = .ok (.getfield 129, 3)) (kk : W p l e R s m args below meth c H locs cells slots Q (F0 m (pc + 3) ls (.int (σ 0 k 6) :: rest))) : W p l e R s m args below meth c H locs cells slots Q (F0 m pc ls (.ref (ad 0 k) :: rest)) :=
  xr_get C w hI rfl rfl xin_TG 6 (by decide) (xmi 85 (by decide +kernel) rfl) rfl rfl hdg kk
theorem xp_SF_129 (C : xr_C xBIG p c cc "SplitFabric" s m args) (w : xr_W xCl (xT cA) D I ad (xc cA tz ad σ) A s H locs) {k : Nat} {x : Int32} (hI : (0, k) ∈ I) (hdg : decode cc pc = .ok (.putfield 129, 3)) (kk : ∀ (H1 : Heap) (locs1 : List Loc), xr_W xCl (xT cA) D I ad (xc cA tz ad (xu3 σ 0 k 6 x)) A s H1 locs1 → W p l e R s m args below meth c H1 locs1 cells slots Q (F0 m (pc + 3) ls (rest))) : W p l e R s m args below meth c H locs cells slots Q (F0 m pc ls (.int x :: .ref (ad 0 k) :: rest)) :=
  xr_put C w hI rfl rfl xin_TG xY_TG xY_TG_ok xF_TG_nm 6 (by decide) (xmi 85 (by decide +kernel) rfl) rfl rfl rfl rfl (Nat.le_of_ble_eq_true rfl) hdg (fun H1 locs1 w1 => kk H1 locs1 (Eq.mp (congrArg (fun E => xr_W xCl (xT cA) D I ad E A s H1 locs1) (xc_up cA tz ad σ 0 k (va_up (σ 0 k) 6 x))) w1))
theorem xg_TG_28 (C : xr_C xBIG p c cc "SplitFabric$Tag" s m args) (w : xr_W xCl (xT cA) D I ad (xc cA tz ad σ) A s H locs) {k : Nat} (hI : (0, k) ∈ I) (hdg : decode cc pc = .ok (.getfield 28, 3)) (kk : W p l e R s m args below meth c H locs cells slots Q (F0 m (pc + 3) ls (.int (σ 0 k 7) :: rest))) : W p l e R s m args below meth c H locs cells slots Q (F0 m pc ls (.ref (ad 0 k) :: rest)) :=
  xr_get C w hI rfl rfl xin_TG 7 (by decide) (xmi 86 (by decide +kernel) rfl) rfl rfl hdg kk
theorem xp_TG_28 (C : xr_C xBIG p c cc "SplitFabric$Tag" s m args) (w : xr_W xCl (xT cA) D I ad (xc cA tz ad σ) A s H locs) {k : Nat} {x : Int32} (hI : (0, k) ∈ I) (hdg : decode cc pc = .ok (.putfield 28, 3)) (kk : ∀ (H1 : Heap) (locs1 : List Loc), xr_W xCl (xT cA) D I ad (xc cA tz ad (xu3 σ 0 k 7 x)) A s H1 locs1 → W p l e R s m args below meth c H1 locs1 cells slots Q (F0 m (pc + 3) ls (rest))) : W p l e R s m args below meth c H locs cells slots Q (F0 m pc ls (.int x :: .ref (ad 0 k) :: rest)) :=
  xr_put C w hI rfl rfl xin_TG xY_TG xY_TG_ok xF_TG_nm 7 (by decide) (xmi 86 (by decide +kernel) rfl) rfl rfl rfl rfl (Nat.le_of_ble_eq_true rfl) hdg (fun H1 locs1 w1 => kk H1 locs1 (Eq.mp (congrArg (fun E => xr_W xCl (xT cA) D I ad E A s H1 locs1) (xc_up cA tz ad σ 0 k (va_up (σ 0 k) 7 x))) w1))
theorem xg_TG_31 (C : xr_C xBIG p c cc "SplitFabric$Tag" s m args) (w : xr_W xCl (xT cA) D I ad (xc cA tz ad σ) A s H locs) {k : Nat} (hI : (0, k) ∈ I) (hdg : decode cc pc = .ok (.getfield 31, 3)) (kk : W p l e R s m args below meth c H locs cells slots Q (F0 m (pc + 3) ls (.int (σ 0 k 8) :: rest))) : W p l e R s m args below meth c H locs cells slots Q (F0 m pc ls (.ref (ad 0 k) :: rest)) :=
  xr_get C w hI rfl rfl xin_TG 8 (by decide) (xmi 87 (by decide +kernel) rfl) rfl rfl hdg kk
theorem xp_TG_31 (C : xr_C xBIG p c cc "SplitFabric$Tag" s m args) (w : xr_W xCl (xT cA) D I ad (xc cA tz ad σ) A s H locs) {k : Nat} {x : Int32} (hI : (0, k) ∈ I) (hdg : decode cc pc = .ok (.putfield 31, 3)) (kk : ∀ (H1 : Heap) (locs1 : List Loc), xr_W xCl (xT cA) D I ad (xc cA tz ad (xu3 σ 0 k 8 x)) A s H1 locs1 → W p l e R s m args below meth c H1 locs1 cells slots Q (F0 m (pc + 3) ls (rest))) : W p l e R s m args below meth c H locs cells slots Q (F0 m pc ls (.int x :: .ref (ad 0 k) :: rest)) :=
  xr_put C w hI rfl rfl xin_TG xY_TG xY_TG_ok xF_TG_nm 8 (by decide) (xmi 87 (by decide +kernel) rfl) rfl rfl rfl rfl (Nat.le_of_ble_eq_true rfl) hdg (fun H1 locs1 w1 => kk H1 locs1 (Eq.mp (congrArg (fun E => xr_W xCl (xT cA) D I ad E A s H1 locs1) (xc_up cA tz ad σ 0 k (va_up (σ 0 k) 8 x))) w1))
theorem xg_SF_139 (C : xr_C xBIG p c cc "SplitFabric" s m args) (w : xr_W xCl (xT cA) D I ad (xc cA tz ad σ) A s H locs) {k : Nat} (hI : (0, k) ∈ I) (hdg : decode cc pc = .ok (.getfield 139, 3)) (kk : W p l e R s m args below meth c H locs cells slots Q (F0 m (pc + 3) ls (.int (σ 0 k 8) :: rest))) : W p l e R s m args below meth c H locs cells slots Q (F0 m pc ls (.ref (ad 0 k) :: rest)) :=
  xr_get C w hI rfl rfl xin_TG 8 (by decide) (xmi 88 (by decide +kernel) rfl) rfl rfl hdg kk
theorem xp_SF_139 (C : xr_C xBIG p c cc "SplitFabric" s m args) (w : xr_W xCl (xT cA) D I ad (xc cA tz ad σ) A s H locs) {k : Nat} {x : Int32} (hI : (0, k) ∈ I) (hdg : decode cc pc = .ok (.putfield 139, 3)) (kk : ∀ (H1 : Heap) (locs1 : List Loc), xr_W xCl (xT cA) D I ad (xc cA tz ad (xu3 σ 0 k 8 x)) A s H1 locs1 → W p l e R s m args below meth c H1 locs1 cells slots Q (F0 m (pc + 3) ls (rest))) : W p l e R s m args below meth c H locs cells slots Q (F0 m pc ls (.int x :: .ref (ad 0 k) :: rest)) :=
  xr_put C w hI rfl rfl xin_TG xY_TG xY_TG_ok xF_TG_nm 8 (by decide) (xmi 88 (by decide +kernel) rfl) rfl rfl rfl rfl (Nat.le_of_ble_eq_true rfl) hdg (fun H1 locs1 w1 => kk H1 locs1 (Eq.mp (congrArg (fun E => xr_W xCl (xT cA) D I ad E A s H1 locs1) (xc_up cA tz ad σ 0 k (va_up (σ 0 k) 8 x))) w1))
theorem xg_TG_34 (C : xr_C xBIG p c cc "SplitFabric$Tag" s m args) (w : xr_W xCl (xT cA) D I ad (xc cA tz ad σ) A s H locs) {k : Nat} (hI : (0, k) ∈ I) (hdg : decode cc pc = .ok (.getfield 34, 3)) (kk : W p l e R s m args below meth c H locs cells slots Q (F0 m (pc + 3) ls (.int (σ 0 k 9) :: rest))) : W p l e R s m args below meth c H locs cells slots Q (F0 m pc ls (.ref (ad 0 k) :: rest)) :=
  xr_get C w hI rfl rfl xin_TG 9 (by decide) (xmi 89 (by decide +kernel) rfl) rfl rfl hdg kk
theorem xp_TG_34 (C : xr_C xBIG p c cc "SplitFabric$Tag" s m args) (w : xr_W xCl (xT cA) D I ad (xc cA tz ad σ) A s H locs) {k : Nat} {x : Int32} (hI : (0, k) ∈ I) (hx : x = nI 0 ∨ x = nI 1) (hdg : decode cc pc = .ok (.putfield 34, 3)) (kk : ∀ (H1 : Heap) (locs1 : List Loc), xr_W xCl (xT cA) D I ad (xc cA tz ad (xu3 σ 0 k 9 x)) A s H1 locs1 → W p l e R s m args below meth c H1 locs1 cells slots Q (F0 m (pc + 3) ls (rest))) : W p l e R s m args below meth c H locs cells slots Q (F0 m pc ls (.int x :: .ref (ad 0 k) :: rest)) :=
  xr_put C w hI rfl rfl xin_TG xY_TG xY_TG_ok xF_TG_nm 9 (by decide) (xmi 89 (by decide +kernel) rfl) rfl rfl (by rcases hx with h | h <;> subst h <;> decide +kernel) (by rcases hx with h | h <;> subst h <;> decide +kernel) (Nat.le_of_ble_eq_true rfl) hdg (fun H1 locs1 w1 => kk H1 locs1 (Eq.mp (congrArg (fun E => xr_W xCl (xT cA) D I ad E A s H1 locs1) (xc_up cA tz ad σ 0 k (va_up (σ 0 k) 9 x))) w1))
theorem xg_SF_192 (C : xr_C xBIG p c cc "SplitFabric" s m args) (w : xr_W xCl (xT cA) D I ad (xc cA tz ad σ) A s H locs) {k : Nat} (hI : (0, k) ∈ I) (hdg : decode cc pc = .ok (.getfield 192, 3)) (kk : W p l e R s m args below meth c H locs cells slots Q (F0 m (pc + 3) ls (.int (σ 0 k 9) :: rest))) : W p l e R s m args below meth c H locs cells slots Q (F0 m pc ls (.ref (ad 0 k) :: rest)) :=
  xr_get C w hI rfl rfl xin_TG 9 (by decide) (xmi 90 (by decide +kernel) rfl) rfl rfl hdg kk
theorem xp_SF_192 (C : xr_C xBIG p c cc "SplitFabric" s m args) (w : xr_W xCl (xT cA) D I ad (xc cA tz ad σ) A s H locs) {k : Nat} {x : Int32} (hI : (0, k) ∈ I) (hx : x = nI 0 ∨ x = nI 1) (hdg : decode cc pc = .ok (.putfield 192, 3)) (kk : ∀ (H1 : Heap) (locs1 : List Loc), xr_W xCl (xT cA) D I ad (xc cA tz ad (xu3 σ 0 k 9 x)) A s H1 locs1 → W p l e R s m args below meth c H1 locs1 cells slots Q (F0 m (pc + 3) ls (rest))) : W p l e R s m args below meth c H locs cells slots Q (F0 m pc ls (.int x :: .ref (ad 0 k) :: rest)) :=
  xr_put C w hI rfl rfl xin_TG xY_TG xY_TG_ok xF_TG_nm 9 (by decide) (xmi 90 (by decide +kernel) rfl) rfl rfl (by rcases hx with h | h <;> subst h <;> decide +kernel) (by rcases hx with h | h <;> subst h <;> decide +kernel) (Nat.le_of_ble_eq_true rfl) hdg (fun H1 locs1 w1 => kk H1 locs1 (Eq.mp (congrArg (fun E => xr_W xCl (xT cA) D I ad E A s H1 locs1) (xc_up cA tz ad σ 0 k (va_up (σ 0 k) 9 x))) w1))
theorem xg_TG_38 (C : xr_C xBIG p c cc "SplitFabric$Tag" s m args) (w : xr_W xCl (xT cA) D I ad (xc cA tz ad σ) A s H locs) {k : Nat} (hI : (0, k) ∈ I) (hdg : decode cc pc = .ok (.getfield 38, 3)) (kk : W p l e R s m args below meth c H locs cells slots Q (F0 m (pc + 3) ls (.int (σ 0 k 10) :: rest))) : W p l e R s m args below meth c H locs cells slots Q (F0 m pc ls (.ref (ad 0 k) :: rest)) :=
  xr_get C w hI rfl rfl xin_TG 10 (by decide) (xmi 91 (by decide +kernel) rfl) rfl rfl hdg kk
theorem xp_TG_38 (C : xr_C xBIG p c cc "SplitFabric$Tag" s m args) (w : xr_W xCl (xT cA) D I ad (xc cA tz ad σ) A s H locs) {k : Nat} {x : Int32} (hI : (0, k) ∈ I) (hdg : decode cc pc = .ok (.putfield 38, 3)) (kk : ∀ (H1 : Heap) (locs1 : List Loc), xr_W xCl (xT cA) D I ad (xc cA tz ad (xu3 σ 0 k 10 x)) A s H1 locs1 → W p l e R s m args below meth c H1 locs1 cells slots Q (F0 m (pc + 3) ls (rest))) : W p l e R s m args below meth c H locs cells slots Q (F0 m pc ls (.int x :: .ref (ad 0 k) :: rest)) :=
  xr_put C w hI rfl rfl xin_TG xY_TG xY_TG_ok xF_TG_nm 10 (by decide) (xmi 91 (by decide +kernel) rfl) rfl rfl rfl rfl (Nat.le_of_ble_eq_true rfl) hdg (fun H1 locs1 w1 => kk H1 locs1 (Eq.mp (congrArg (fun E => xr_W xCl (xT cA) D I ad E A s H1 locs1) (xc_up cA tz ad σ 0 k (va_up (σ 0 k) 10 x))) w1))
theorem xg_SF_208 (C : xr_C xBIG p c cc "SplitFabric" s m args) (w : xr_W xCl (xT cA) D I ad (xc cA tz ad σ) A s H locs) {k : Nat} (hI : (0, k) ∈ I) (hdg : decode cc pc = .ok (.getfield 208, 3)) (kk : W p l e R s m args below meth c H locs cells slots Q (F0 m (pc + 3) ls (.int (σ 0 k 10) :: rest))) : W p l e R s m args below meth c H locs cells slots Q (F0 m pc ls (.ref (ad 0 k) :: rest)) :=
  xr_get C w hI rfl rfl xin_TG 10 (by decide) (xmi 92 (by decide +kernel) rfl) rfl rfl hdg kk
theorem xp_SF_208 (C : xr_C xBIG p c cc "SplitFabric" s m args) (w : xr_W xCl (xT cA) D I ad (xc cA tz ad σ) A s H locs) {k : Nat} {x : Int32} (hI : (0, k) ∈ I) (hdg : decode cc pc = .ok (.putfield 208, 3)) (kk : ∀ (H1 : Heap) (locs1 : List Loc), xr_W xCl (xT cA) D I ad (xc cA tz ad (xu3 σ 0 k 10 x)) A s H1 locs1 → W p l e R s m args below meth c H1 locs1 cells slots Q (F0 m (pc + 3) ls (rest))) : W p l e R s m args below meth c H locs cells slots Q (F0 m pc ls (.int x :: .ref (ad 0 k) :: rest)) :=
  xr_put C w hI rfl rfl xin_TG xY_TG xY_TG_ok xF_TG_nm 10 (by decide) (xmi 92 (by decide +kernel) rfl) rfl rfl rfl rfl (Nat.le_of_ble_eq_true rfl) hdg (fun H1 locs1 w1 => kk H1 locs1 (Eq.mp (congrArg (fun E => xr_W xCl (xT cA) D I ad E A s H1 locs1) (xc_up cA tz ad σ 0 k (va_up (σ 0 k) 10 x))) w1))
theorem xg_TA_9 (C : xr_C xBIG p c cc "SplitFabric$Target" s m args) (w : xr_W xCl (xT cA) D I ad (xc cA tz ad σ) A s H locs) {k : Nat} (hI : (2, k) ∈ I) (hdg : decode cc pc = .ok (.getfield 9, 3)) (kk : W p l e R s m args below meth c H locs cells slots Q (F0 m (pc + 3) ls (.ref (ad 3 k) :: rest))) : W p l e R s m args below meth c H locs cells slots Q (F0 m pc ls (.ref (ad 2 k) :: rest)) :=
  xr_get C w hI rfl rfl xin_TA 0 (by decide) (xmi 121 (by decide +kernel) rfl) rfl rfl hdg kk
theorem xg_TA_15 (C : xr_C xBIG p c cc "SplitFabric$Target" s m args) (w : xr_W xCl (xT cA) D I ad (xc cA tz ad σ) A s H locs) {k : Nat} (hI : (2, k) ∈ I) (hdg : decode cc pc = .ok (.getfield 15, 3)) (kk : W p l e R s m args below meth c H locs cells slots Q (F0 m (pc + 3) ls (.int (σ 2 k 1) :: rest))) : W p l e R s m args below meth c H locs cells slots Q (F0 m pc ls (.ref (ad 2 k) :: rest)) :=
  xr_get C w hI rfl rfl xin_TA 1 (by decide) (xmi 122 (by decide +kernel) rfl) rfl rfl hdg kk
theorem xp_TA_15 (C : xr_C xBIG p c cc "SplitFabric$Target" s m args) (w : xr_W xCl (xT cA) D I ad (xc cA tz ad σ) A s H locs) {k : Nat} {x : Int32} (hI : (2, k) ∈ I) (hdg : decode cc pc = .ok (.putfield 15, 3)) (kk : ∀ (H1 : Heap) (locs1 : List Loc), xr_W xCl (xT cA) D I ad (xc cA tz ad (xu3 σ 2 k 1 x)) A s H1 locs1 → W p l e R s m args below meth c H1 locs1 cells slots Q (F0 m (pc + 3) ls (rest))) : W p l e R s m args below meth c H locs cells slots Q (F0 m pc ls (.int x :: .ref (ad 2 k) :: rest)) :=
  xr_put C w hI rfl rfl xin_TA xY_TA xY_TA_ok xF_TA_nm 1 (by decide) (xmi 122 (by decide +kernel) rfl) rfl rfl rfl rfl (Nat.le_of_ble_eq_true rfl) hdg (fun H1 locs1 w1 => kk H1 locs1 (Eq.mp (congrArg (fun E => xr_W xCl (xT cA) D I ad E A s H1 locs1) (xc_up cA tz ad σ 2 k (va_up (σ 2 k) 1 x))) w1))
theorem xg_SF_176 (C : xr_C xBIG p c cc "SplitFabric" s m args) (w : xr_W xCl (xT cA) D I ad (xc cA tz ad σ) A s H locs) {k : Nat} (hI : (2, k) ∈ I) (hdg : decode cc pc = .ok (.getfield 176, 3)) (kk : W p l e R s m args below meth c H locs cells slots Q (F0 m (pc + 3) ls (.int (σ 2 k 1) :: rest))) : W p l e R s m args below meth c H locs cells slots Q (F0 m pc ls (.ref (ad 2 k) :: rest)) :=
  xr_get C w hI rfl rfl xin_TA 1 (by decide) (xmi 123 (by decide +kernel) rfl) rfl rfl hdg kk
theorem xp_SF_176 (C : xr_C xBIG p c cc "SplitFabric" s m args) (w : xr_W xCl (xT cA) D I ad (xc cA tz ad σ) A s H locs) {k : Nat} {x : Int32} (hI : (2, k) ∈ I) (hdg : decode cc pc = .ok (.putfield 176, 3)) (kk : ∀ (H1 : Heap) (locs1 : List Loc), xr_W xCl (xT cA) D I ad (xc cA tz ad (xu3 σ 2 k 1 x)) A s H1 locs1 → W p l e R s m args below meth c H1 locs1 cells slots Q (F0 m (pc + 3) ls (rest))) : W p l e R s m args below meth c H locs cells slots Q (F0 m pc ls (.int x :: .ref (ad 2 k) :: rest)) :=
  xr_put C w hI rfl rfl xin_TA xY_TA xY_TA_ok xF_TA_nm 1 (by decide) (xmi 123 (by decide +kernel) rfl) rfl rfl rfl rfl (Nat.le_of_ble_eq_true rfl) hdg (fun H1 locs1 w1 => kk H1 locs1 (Eq.mp (congrArg (fun E => xr_W xCl (xT cA) D I ad E A s H1 locs1) (xc_up cA tz ad σ 2 k (va_up (σ 2 k) 1 x))) w1))
theorem xg_TA_19 (C : xr_C xBIG p c cc "SplitFabric$Target" s m args) (w : xr_W xCl (xT cA) D I ad (xc cA tz ad σ) A s H locs) {k : Nat} (hI : (2, k) ∈ I) (hdg : decode cc pc = .ok (.getfield 19, 3)) (kk : W p l e R s m args below meth c H locs cells slots Q (F0 m (pc + 3) ls (.int (σ 2 k 2) :: rest))) : W p l e R s m args below meth c H locs cells slots Q (F0 m pc ls (.ref (ad 2 k) :: rest)) :=
  xr_get C w hI rfl rfl xin_TA 2 (by decide) (xmi 124 (by decide +kernel) rfl) rfl rfl hdg kk
theorem xp_TA_19 (C : xr_C xBIG p c cc "SplitFabric$Target" s m args) (w : xr_W xCl (xT cA) D I ad (xc cA tz ad σ) A s H locs) {k : Nat} {x : Int32} (hI : (2, k) ∈ I) (hdg : decode cc pc = .ok (.putfield 19, 3)) (kk : ∀ (H1 : Heap) (locs1 : List Loc), xr_W xCl (xT cA) D I ad (xc cA tz ad (xu3 σ 2 k 2 x)) A s H1 locs1 → W p l e R s m args below meth c H1 locs1 cells slots Q (F0 m (pc + 3) ls (rest))) : W p l e R s m args below meth c H locs cells slots Q (F0 m pc ls (.int x :: .ref (ad 2 k) :: rest)) :=
  xr_put C w hI rfl rfl xin_TA xY_TA xY_TA_ok xF_TA_nm 2 (by decide) (xmi 124 (by decide +kernel) rfl) rfl rfl rfl rfl (Nat.le_of_ble_eq_true rfl) hdg (fun H1 locs1 w1 => kk H1 locs1 (Eq.mp (congrArg (fun E => xr_W xCl (xT cA) D I ad E A s H1 locs1) (xc_up cA tz ad σ 2 k (va_up (σ 2 k) 2 x))) w1))
theorem xg_SF_145 (C : xr_C xBIG p c cc "SplitFabric" s m args) (w : xr_W xCl (xT cA) D I ad (xc cA tz ad σ) A s H locs) {k : Nat} (hI : (2, k) ∈ I) (hdg : decode cc pc = .ok (.getfield 145, 3)) (kk : W p l e R s m args below meth c H locs cells slots Q (F0 m (pc + 3) ls (.int (σ 2 k 2) :: rest))) : W p l e R s m args below meth c H locs cells slots Q (F0 m pc ls (.ref (ad 2 k) :: rest)) :=
  xr_get C w hI rfl rfl xin_TA 2 (by decide) (xmi 125 (by decide +kernel) rfl) rfl rfl hdg kk
theorem xp_SF_145 (C : xr_C xBIG p c cc "SplitFabric" s m args) (w : xr_W xCl (xT cA) D I ad (xc cA tz ad σ) A s H locs) {k : Nat} {x : Int32} (hI : (2, k) ∈ I) (hdg : decode cc pc = .ok (.putfield 145, 3)) (kk : ∀ (H1 : Heap) (locs1 : List Loc), xr_W xCl (xT cA) D I ad (xc cA tz ad (xu3 σ 2 k 2 x)) A s H1 locs1 → W p l e R s m args below meth c H1 locs1 cells slots Q (F0 m (pc + 3) ls (rest))) : W p l e R s m args below meth c H locs cells slots Q (F0 m pc ls (.int x :: .ref (ad 2 k) :: rest)) :=
  xr_put C w hI rfl rfl xin_TA xY_TA xY_TA_ok xF_TA_nm 2 (by decide) (xmi 125 (by decide +kernel) rfl) rfl rfl rfl rfl (Nat.le_of_ble_eq_true rfl) hdg (fun H1 locs1 w1 => kk H1 locs1 (Eq.mp (congrArg (fun E => xr_W xCl (xT cA) D I ad E A s H1 locs1) (xc_up cA tz ad σ 2 k (va_up (σ 2 k) 2 x))) w1))
theorem xg_TA_22 (C : xr_C xBIG p c cc "SplitFabric$Target" s m args) (w : xr_W xCl (xT cA) D I ad (xc cA tz ad σ) A s H locs) {k : Nat} (hI : (2, k) ∈ I) (hdg : decode cc pc = .ok (.getfield 22, 3)) (kk : W p l e R s m args below meth c H locs cells slots Q (F0 m (pc + 3) ls (.int (σ 2 k 3) :: rest))) : W p l e R s m args below meth c H locs cells slots Q (F0 m pc ls (.ref (ad 2 k) :: rest)) :=
  xr_get C w hI rfl rfl xin_TA 3 (by decide) (xmi 126 (by decide +kernel) rfl) rfl rfl hdg kk
theorem xp_TA_22 (C : xr_C xBIG p c cc "SplitFabric$Target" s m args) (w : xr_W xCl (xT cA) D I ad (xc cA tz ad σ) A s H locs) {k : Nat} {x : Int32} (hI : (2, k) ∈ I) (hdg : decode cc pc = .ok (.putfield 22, 3)) (kk : ∀ (H1 : Heap) (locs1 : List Loc), xr_W xCl (xT cA) D I ad (xc cA tz ad (xu3 σ 2 k 3 x)) A s H1 locs1 → W p l e R s m args below meth c H1 locs1 cells slots Q (F0 m (pc + 3) ls (rest))) : W p l e R s m args below meth c H locs cells slots Q (F0 m pc ls (.int x :: .ref (ad 2 k) :: rest)) :=
  xr_put C w hI rfl rfl xin_TA xY_TA xY_TA_ok xF_TA_nm 3 (by decide) (xmi 126 (by decide +kernel) rfl) rfl rfl rfl rfl (Nat.le_of_ble_eq_true rfl) hdg (fun H1 locs1 w1 => kk H1 locs1 (Eq.mp (congrArg (fun E => xr_W xCl (xT cA) D I ad E A s H1 locs1) (xc_up cA tz ad σ 2 k (va_up (σ 2 k) 3 x))) w1))
theorem xg_SF_142 (C : xr_C xBIG p c cc "SplitFabric" s m args) (w : xr_W xCl (xT cA) D I ad (xc cA tz ad σ) A s H locs) {k : Nat} (hI : (2, k) ∈ I) (hdg : decode cc pc = .ok (.getfield 142, 3)) (kk : W p l e R s m args below meth c H locs cells slots Q (F0 m (pc + 3) ls (.int (σ 2 k 3) :: rest))) : W p l e R s m args below meth c H locs cells slots Q (F0 m pc ls (.ref (ad 2 k) :: rest)) :=
  xr_get C w hI rfl rfl xin_TA 3 (by decide) (xmi 127 (by decide +kernel) rfl) rfl rfl hdg kk
theorem xp_SF_142 (C : xr_C xBIG p c cc "SplitFabric" s m args) (w : xr_W xCl (xT cA) D I ad (xc cA tz ad σ) A s H locs) {k : Nat} {x : Int32} (hI : (2, k) ∈ I) (hdg : decode cc pc = .ok (.putfield 142, 3)) (kk : ∀ (H1 : Heap) (locs1 : List Loc), xr_W xCl (xT cA) D I ad (xc cA tz ad (xu3 σ 2 k 3 x)) A s H1 locs1 → W p l e R s m args below meth c H1 locs1 cells slots Q (F0 m (pc + 3) ls (rest))) : W p l e R s m args below meth c H locs cells slots Q (F0 m pc ls (.int x :: .ref (ad 2 k) :: rest)) :=
  xr_put C w hI rfl rfl xin_TA xY_TA xY_TA_ok xF_TA_nm 3 (by decide) (xmi 127 (by decide +kernel) rfl) rfl rfl rfl rfl (Nat.le_of_ble_eq_true rfl) hdg (fun H1 locs1 w1 => kk H1 locs1 (Eq.mp (congrArg (fun E => xr_W xCl (xT cA) D I ad E A s H1 locs1) (xc_up cA tz ad σ 2 k (va_up (σ 2 k) 3 x))) w1))
theorem xg_TA_25 (C : xr_C xBIG p c cc "SplitFabric$Target" s m args) (w : xr_W xCl (xT cA) D I ad (xc cA tz ad σ) A s H locs) {k : Nat} (hI : (2, k) ∈ I) (hdg : decode cc pc = .ok (.getfield 25, 3)) (kk : W p l e R s m args below meth c H locs cells slots Q (F0 m (pc + 3) ls (.int (σ 2 k 4) :: rest))) : W p l e R s m args below meth c H locs cells slots Q (F0 m pc ls (.ref (ad 2 k) :: rest)) :=
  xr_get C w hI rfl rfl xin_TA 4 (by decide) (xmi 128 (by decide +kernel) rfl) rfl rfl hdg kk
theorem xp_TA_25 (C : xr_C xBIG p c cc "SplitFabric$Target" s m args) (w : xr_W xCl (xT cA) D I ad (xc cA tz ad σ) A s H locs) {k : Nat} {x : Int32} (hI : (2, k) ∈ I) (hx : x = nI 0 ∨ x = nI 1) (hdg : decode cc pc = .ok (.putfield 25, 3)) (kk : ∀ (H1 : Heap) (locs1 : List Loc), xr_W xCl (xT cA) D I ad (xc cA tz ad (xu3 σ 2 k 4 x)) A s H1 locs1 → W p l e R s m args below meth c H1 locs1 cells slots Q (F0 m (pc + 3) ls (rest))) : W p l e R s m args below meth c H locs cells slots Q (F0 m pc ls (.int x :: .ref (ad 2 k) :: rest)) :=
  xr_put C w hI rfl rfl xin_TA xY_TA xY_TA_ok xF_TA_nm 4 (by decide) (xmi 128 (by decide +kernel) rfl) rfl rfl (by rcases hx with h | h <;> subst h <;> decide +kernel) (by rcases hx with h | h <;> subst h <;> decide +kernel) (Nat.le_of_ble_eq_true rfl) hdg (fun H1 locs1 w1 => kk H1 locs1 (Eq.mp (congrArg (fun E => xr_W xCl (xT cA) D I ad E A s H1 locs1) (xc_up cA tz ad σ 2 k (va_up (σ 2 k) 4 x))) w1))
theorem xg_SF_94 (C : xr_C xBIG p c cc "SplitFabric" s m args) (w : xr_W xCl (xT cA) D I ad (xc cA tz ad σ) A s H locs) {k : Nat} (hI : (2, k) ∈ I) (hdg : decode cc pc = .ok (.getfield 94, 3)) (kk : W p l e R s m args below meth c H locs cells slots Q (F0 m (pc + 3) ls (.int (σ 2 k 4) :: rest))) : W p l e R s m args below meth c H locs cells slots Q (F0 m pc ls (.ref (ad 2 k) :: rest)) :=
  xr_get C w hI rfl rfl xin_TA 4 (by decide) (xmi 129 (by decide +kernel) rfl) rfl rfl hdg kk
theorem xp_SF_94 (C : xr_C xBIG p c cc "SplitFabric" s m args) (w : xr_W xCl (xT cA) D I ad (xc cA tz ad σ) A s H locs) {k : Nat} {x : Int32} (hI : (2, k) ∈ I) (hx : x = nI 0 ∨ x = nI 1) (hdg : decode cc pc = .ok (.putfield 94, 3)) (kk : ∀ (H1 : Heap) (locs1 : List Loc), xr_W xCl (xT cA) D I ad (xc cA tz ad (xu3 σ 2 k 4 x)) A s H1 locs1 → W p l e R s m args below meth c H1 locs1 cells slots Q (F0 m (pc + 3) ls (rest))) : W p l e R s m args below meth c H locs cells slots Q (F0 m pc ls (.int x :: .ref (ad 2 k) :: rest)) :=
  xr_put C w hI rfl rfl xin_TA xY_TA xY_TA_ok xF_TA_nm 4 (by decide) (xmi 129 (by decide +kernel) rfl) rfl rfl (by rcases hx with h | h <;> subst h <;> decide +kernel) (by rcases hx with h | h <;> subst h <;> decide +kernel) (Nat.le_of_ble_eq_true rfl) hdg (fun H1 locs1 w1 => kk H1 locs1 (Eq.mp (congrArg (fun E => xr_W xCl (xT cA) D I ad E A s H1 locs1) (xc_up cA tz ad σ 2 k (va_up (σ 2 k) 4 x))) w1))
theorem xg_SF_11 (C : xr_C xBIG p c cc "SplitFabric" s m args) (w : xr_W xCl (xT cA) D I ad (xc cA tz ad σ) A s H locs) (hI : (5, 0) ∈ I) (hdg : decode cc pc = .ok (.getfield 11, 3)) (kk : W p l e R s m args below meth c H locs cells slots Q (F0 m (pc + 3) ls (.ref (ad 6 0) :: rest))) : W p l e R s m args below meth c H locs cells slots Q (F0 m pc ls (.ref (ad 5 0) :: rest)) :=
  xr_get C w hI rfl rfl xin_SF 0 (by decide) (xmi 141 (by decide +kernel) rfl) rfl rfl hdg kk
theorem xg_SF_17 (C : xr_C xBIG p c cc "SplitFabric" s m args) (w : xr_W xCl (xT cA) D I ad (xc cA tz ad σ) A s H locs) (hI : (5, 0) ∈ I) (hdg : decode cc pc = .ok (.getfield 17, 3)) (kk : W p l e R s m args below meth c H locs cells slots Q (F0 m (pc + 3) ls (.ref (ad 7 0) :: rest))) : W p l e R s m args below meth c H locs cells slots Q (F0 m pc ls (.ref (ad 5 0) :: rest)) :=
  xr_get C w hI rfl rfl xin_SF 1 (by decide) (xmi 142 (by decide +kernel) rfl) rfl rfl hdg kk
theorem xg_SF_21 (C : xr_C xBIG p c cc "SplitFabric" s m args) (w : xr_W xCl (xT cA) D I ad (xc cA tz ad σ) A s H locs) (hI : (5, 0) ∈ I) (hdg : decode cc pc = .ok (.getfield 21, 3)) (kk : W p l e R s m args below meth c H locs cells slots Q (F0 m (pc + 3) ls (.ref (ad 8 0) :: rest))) : W p l e R s m args below meth c H locs cells slots Q (F0 m pc ls (.ref (ad 5 0) :: rest)) :=
  xr_get C w hI rfl rfl xin_SF 2 (by decide) (xmi 143 (by decide +kernel) rfl) rfl rfl hdg kk
theorem xg_SF_27 (C : xr_C xBIG p c cc "SplitFabric" s m args) (w : xr_W xCl (xT cA) D I ad (xc cA tz ad σ) A s H locs) (hI : (5, 0) ∈ I) (hdg : decode cc pc = .ok (.getfield 27, 3)) (kk : W p l e R s m args below meth c H locs cells slots Q (F0 m (pc + 3) ls (.ref (ad 9 0) :: rest))) : W p l e R s m args below meth c H locs cells slots Q (F0 m pc ls (.ref (ad 5 0) :: rest)) :=
  xr_get C w hI rfl rfl xin_SF 3 (by decide) (xmi 144 (by decide +kernel) rfl) rfl rfl hdg kk
theorem xg_SF_30 (C : xr_C xBIG p c cc "SplitFabric" s m args) (w : xr_W xCl (xT cA) D I ad (xc cA tz ad σ) A s H locs) (hI : (5, 0) ∈ I) (hdg : decode cc pc = .ok (.getfield 30, 3)) (kk : W p l e R s m args below meth c H locs cells slots Q (F0 m (pc + 3) ls (.ref (ad 10 0) :: rest))) : W p l e R s m args below meth c H locs cells slots Q (F0 m pc ls (.ref (ad 5 0) :: rest)) :=
  xr_get C w hI rfl rfl xin_SF 4 (by decide) (xmi 145 (by decide +kernel) rfl) rfl rfl hdg kk
theorem xg_SF_36 (C : xr_C xBIG p c cc "SplitFabric" s m args) (w : xr_W xCl (xT cA) D I ad (xc cA tz ad σ) A s H locs) (hI : (5, 0) ∈ I) (hdg : decode cc pc = .ok (.getfield 36, 3)) (kk : W p l e R s m args below meth c H locs cells slots Q (F0 m (pc + 3) ls (.ref (ad 11 0) :: rest))) : W p l e R s m args below meth c H locs cells slots Q (F0 m pc ls (.ref (ad 5 0) :: rest)) :=
  xr_get C w hI rfl rfl xin_SF 5 (by decide) (xmi 146 (by decide +kernel) rfl) rfl rfl hdg kk
theorem xg_SF_40 (C : xr_C xBIG p c cc "SplitFabric" s m args) (w : xr_W xCl (xT cA) D I ad (xc cA tz ad σ) A s H locs) (hI : (5, 0) ∈ I) (hdg : decode cc pc = .ok (.getfield 40, 3)) (kk : W p l e R s m args below meth c H locs cells slots Q (F0 m (pc + 3) ls (.int (σ 5 0 6) :: rest))) : W p l e R s m args below meth c H locs cells slots Q (F0 m pc ls (.ref (ad 5 0) :: rest)) :=
  xr_get C w hI rfl rfl xin_SF 6 (by decide) (xmi 147 (by decide +kernel) rfl) rfl rfl hdg kk
theorem xp_SF_40 (C : xr_C xBIG p c cc "SplitFabric" s m args) (w : xr_W xCl (xT cA) D I ad (xc cA tz ad σ) A s H locs) {x : Int32} (hI : (5, 0) ∈ I) (hdg : decode cc pc = .ok (.putfield 40, 3)) (kk : ∀ (H1 : Heap) (locs1 : List Loc), xr_W xCl (xT cA) D I ad (xc cA tz ad (xu3 σ 5 0 6 x)) A s H1 locs1 → W p l e R s m args below meth c H1 locs1 cells slots Q (F0 m (pc + 3) ls (rest))) : W p l e R s m args below meth c H locs cells slots Q (F0 m pc ls (.int x :: .ref (ad 5 0) :: rest)) :=
  xr_put C w hI rfl rfl xin_SF xY_SF xY_SF_ok xF_SF_nm 6 (by decide) (xmi 147 (by decide +kernel) rfl) rfl rfl rfl rfl (Nat.le_of_ble_eq_true rfl) hdg (fun H1 locs1 w1 => kk H1 locs1 (Eq.mp (congrArg (fun E => xr_W xCl (xT cA) D I ad E A s H1 locs1) (xc_up cA tz ad σ 5 0 (va_up (σ 5 0) 6 x))) w1))
theorem xg_SF_44 (C : xr_C xBIG p c cc "SplitFabric" s m args) (w : xr_W xCl (xT cA) D I ad (xc cA tz ad σ) A s H locs) (hI : (5, 0) ∈ I) (hdg : decode cc pc = .ok (.getfield 44, 3)) (kk : W p l e R s m args below meth c H locs cells slots Q (F0 m (pc + 3) ls (.int (σ 5 0 7) :: rest))) : W p l e R s m args below meth c H locs cells slots Q (F0 m pc ls (.ref (ad 5 0) :: rest)) :=
  xr_get C w hI rfl rfl xin_SF 7 (by decide) (xmi 148 (by decide +kernel) rfl) rfl rfl hdg kk
theorem xp_SF_44 (C : xr_C xBIG p c cc "SplitFabric" s m args) (w : xr_W xCl (xT cA) D I ad (xc cA tz ad σ) A s H locs) {x : Int32} (hI : (5, 0) ∈ I) (hdg : decode cc pc = .ok (.putfield 44, 3)) (kk : ∀ (H1 : Heap) (locs1 : List Loc), xr_W xCl (xT cA) D I ad (xc cA tz ad (xu3 σ 5 0 7 x)) A s H1 locs1 → W p l e R s m args below meth c H1 locs1 cells slots Q (F0 m (pc + 3) ls (rest))) : W p l e R s m args below meth c H locs cells slots Q (F0 m pc ls (.int x :: .ref (ad 5 0) :: rest)) :=
  xr_put C w hI rfl rfl xin_SF xY_SF xY_SF_ok xF_SF_nm 7 (by decide) (xmi 148 (by decide +kernel) rfl) rfl rfl rfl rfl (Nat.le_of_ble_eq_true rfl) hdg (fun H1 locs1 w1 => kk H1 locs1 (Eq.mp (congrArg (fun E => xr_W xCl (xT cA) D I ad E A s H1 locs1) (xc_up cA tz ad σ 5 0 (va_up (σ 5 0) 7 x))) w1))
theorem xg_SF_47 (C : xr_C xBIG p c cc "SplitFabric" s m args) (w : xr_W xCl (xT cA) D I ad (xc cA tz ad σ) A s H locs) (hI : (5, 0) ∈ I) (hdg : decode cc pc = .ok (.getfield 47, 3)) (kk : W p l e R s m args below meth c H locs cells slots Q (F0 m (pc + 3) ls (.int (σ 5 0 8) :: rest))) : W p l e R s m args below meth c H locs cells slots Q (F0 m pc ls (.ref (ad 5 0) :: rest)) :=
  xr_get C w hI rfl rfl xin_SF 8 (by decide) (xmi 149 (by decide +kernel) rfl) rfl rfl hdg kk
theorem xp_SF_47 (C : xr_C xBIG p c cc "SplitFabric" s m args) (w : xr_W xCl (xT cA) D I ad (xc cA tz ad σ) A s H locs) {x : Int32} (hI : (5, 0) ∈ I) (hdg : decode cc pc = .ok (.putfield 47, 3)) (kk : ∀ (H1 : Heap) (locs1 : List Loc), xr_W xCl (xT cA) D I ad (xc cA tz ad (xu3 σ 5 0 8 x)) A s H1 locs1 → W p l e R s m args below meth c H1 locs1 cells slots Q (F0 m (pc + 3) ls (rest))) : W p l e R s m args below meth c H locs cells slots Q (F0 m pc ls (.int x :: .ref (ad 5 0) :: rest)) :=
  xr_put C w hI rfl rfl xin_SF xY_SF xY_SF_ok xF_SF_nm 8 (by decide) (xmi 149 (by decide +kernel) rfl) rfl rfl rfl rfl (Nat.le_of_ble_eq_true rfl) hdg (fun H1 locs1 w1 => kk H1 locs1 (Eq.mp (congrArg (fun E => xr_W xCl (xT cA) D I ad E A s H1 locs1) (xc_up cA tz ad σ 5 0 (va_up (σ 5 0) 8 x))) w1))
theorem xg_SF_50 (C : xr_C xBIG p c cc "SplitFabric" s m args) (w : xr_W xCl (xT cA) D I ad (xc cA tz ad σ) A s H locs) (hI : (5, 0) ∈ I) (hdg : decode cc pc = .ok (.getfield 50, 3)) (kk : W p l e R s m args below meth c H locs cells slots Q (F0 m (pc + 3) ls (.int (σ 5 0 9) :: rest))) : W p l e R s m args below meth c H locs cells slots Q (F0 m pc ls (.ref (ad 5 0) :: rest)) :=
  xr_get C w hI rfl rfl xin_SF 9 (by decide) (xmi 150 (by decide +kernel) rfl) rfl rfl hdg kk
theorem xp_SF_50 (C : xr_C xBIG p c cc "SplitFabric" s m args) (w : xr_W xCl (xT cA) D I ad (xc cA tz ad σ) A s H locs) {x : Int32} (hI : (5, 0) ∈ I) (hdg : decode cc pc = .ok (.putfield 50, 3)) (kk : ∀ (H1 : Heap) (locs1 : List Loc), xr_W xCl (xT cA) D I ad (xc cA tz ad (xu3 σ 5 0 9 x)) A s H1 locs1 → W p l e R s m args below meth c H1 locs1 cells slots Q (F0 m (pc + 3) ls (rest))) : W p l e R s m args below meth c H locs cells slots Q (F0 m pc ls (.int x :: .ref (ad 5 0) :: rest)) :=
  xr_put C w hI rfl rfl xin_SF xY_SF xY_SF_ok xF_SF_nm 9 (by decide) (xmi 150 (by decide +kernel) rfl) rfl rfl rfl rfl (Nat.le_of_ble_eq_true rfl) hdg (fun H1 locs1 w1 => kk H1 locs1 (Eq.mp (congrArg (fun E => xr_W xCl (xT cA) D I ad E A s H1 locs1) (xc_up cA tz ad σ 5 0 (va_up (σ 5 0) 9 x))) w1))
theorem xg_SV_13 (C : xr_C xBIG p c cc "SplitFabric$Served" s m args) (w : xr_W xCl (xT cA) D I ad (xc cA tz ad σ) A s H locs) {k : Nat} (hI : (13, k) ∈ I) (hdg : decode cc pc = .ok (.getfield 13, 3)) (kk : W p l e R s m args below meth c H locs cells slots Q (F0 m (pc + 3) ls (.int (σ 13 k 0) :: rest))) : W p l e R s m args below meth c H locs cells slots Q (F0 m pc ls (.ref (ad 13 k) :: rest)) :=
  xr_get C w hI rfl rfl xin_SV 0 (by decide) (xmi 201 (by decide +kernel) rfl) rfl rfl hdg kk
theorem xg_SV_19 (C : xr_C xBIG p c cc "SplitFabric$Served" s m args) (w : xr_W xCl (xT cA) D I ad (xc cA tz ad σ) A s H locs) {k : Nat} (hI : (13, k) ∈ I) (hdg : decode cc pc = .ok (.getfield 19, 3)) (kk : W p l e R s m args below meth c H locs cells slots Q (F0 m (pc + 3) ls (.int (σ 13 k 1) :: rest))) : W p l e R s m args below meth c H locs cells slots Q (F0 m pc ls (.ref (ad 13 k) :: rest)) :=
  xr_get C w hI rfl rfl xin_SV 1 (by decide) (xmi 202 (by decide +kernel) rfl) rfl rfl hdg kk
theorem xg_SV_25 (C : xr_C xBIG p c cc "SplitFabric$Served" s m args) (w : xr_W xCl (xT cA) D I ad (xc cA tz ad σ) A s H locs) {k : Nat} (hI : (13, k) ∈ I) (hdg : decode cc pc = .ok (.getfield 25, 3)) (kk : W p l e R s m args below meth c H locs cells slots Q (F0 m (pc + 3) ls (.int (σ 13 k 2) :: rest))) : W p l e R s m args below meth c H locs cells slots Q (F0 m pc ls (.ref (ad 13 k) :: rest)) :=
  xr_get C w hI rfl rfl xin_SV 2 (by decide) (xmi 203 (by decide +kernel) rfl) rfl rfl hdg kk
theorem xg_SV_29 (C : xr_C xBIG p c cc "SplitFabric$Served" s m args) (w : xr_W xCl (xT cA) D I ad (xc cA tz ad σ) A s H locs) {k : Nat} (hI : (13, k) ∈ I) (hdg : decode cc pc = .ok (.getfield 29, 3)) (kk : W p l e R s m args below meth c H locs cells slots Q (F0 m (pc + 3) ls (.int (σ 13 k 3) :: rest))) : W p l e R s m args below meth c H locs cells slots Q (F0 m pc ls (.ref (ad 13 k) :: rest)) :=
  xr_get C w hI rfl rfl xin_SV 3 (by decide) (xmi 204 (by decide +kernel) rfl) rfl rfl hdg kk
theorem xg_SV_33 (C : xr_C xBIG p c cc "SplitFabric$Served" s m args) (w : xr_W xCl (xT cA) D I ad (xc cA tz ad σ) A s H locs) {k : Nat} (hI : (13, k) ∈ I) (hdg : decode cc pc = .ok (.getfield 33, 3)) (kk : W p l e R s m args below meth c H locs cells slots Q (F0 m (pc + 3) ls (.int (σ 13 k 4) :: rest))) : W p l e R s m args below meth c H locs cells slots Q (F0 m pc ls (.ref (ad 13 k) :: rest)) :=
  xr_get C w hI rfl rfl xin_SV 4 (by decide) (xmi 205 (by decide +kernel) rfl) rfl rfl hdg kk
theorem xg_SV_34 (C : xr_C xBIG p c cc "SplitFabric$Served" s m args) (w : xr_W xCl (xT cA) D I ad (xc cA tz ad σ) A s H locs) {k : Nat} (hI : (13, k) ∈ I) (hdg : decode cc pc = .ok (.getfield 34, 3)) (kk : W p l e R s m args below meth c H locs cells slots Q (F0 m (pc + 3) ls (.int (σ 13 k 5) :: rest))) : W p l e R s m args below meth c H locs cells slots Q (F0 m pc ls (.ref (ad 13 k) :: rest)) :=
  xr_get C w hI rfl rfl xin_SV 5 (by decide) (xmi 206 (by decide +kernel) rfl) rfl rfl hdg kk
theorem xg_MD_66 (C : xr_C xBIG p c cc "SplitFabricModel" s m args) (w : xr_W xCl (xT cA) D I ad (xc cA tz ad σ) A s H locs) (hI : (20, 0) ∈ I) (hdg : decode cc pc = .ok (.getfield 66, 3)) (kk : W p l e R s m args below meth c H locs cells slots Q (F0 m (pc + 3) ls (.int (σ 20 0 0) :: rest))) : W p l e R s m args below meth c H locs cells slots Q (F0 m pc ls (.ref (ad 20 0) :: rest)) :=
  xr_get C w hI rfl rfl xin_MD 0 (by decide) (xmi 610 (by decide +kernel) rfl) rfl rfl hdg kk
theorem xp_MD_66 (C : xr_C xBIG p c cc "SplitFabricModel" s m args) (w : xr_W xCl (xT cA) D I ad (xc cA tz ad σ) A s H locs) {x : Int32} (hI : (20, 0) ∈ I) (hdg : decode cc pc = .ok (.putfield 66, 3)) (kk : ∀ (H1 : Heap) (locs1 : List Loc), xr_W xCl (xT cA) D I ad (xc cA tz ad (xu3 σ 20 0 0 x)) A s H1 locs1 → W p l e R s m args below meth c H1 locs1 cells slots Q (F0 m (pc + 3) ls (rest))) : W p l e R s m args below meth c H locs cells slots Q (F0 m pc ls (.int x :: .ref (ad 20 0) :: rest)) :=
  xr_put C w hI rfl rfl xin_MD xY_MD xY_MD_ok xF_MD_nm 0 (by decide) (xmi 610 (by decide +kernel) rfl) rfl rfl rfl rfl (Nat.le_of_ble_eq_true rfl) hdg (fun H1 locs1 w1 => kk H1 locs1 (Eq.mp (congrArg (fun E => xr_W xCl (xT cA) D I ad E A s H1 locs1) (xc_up cA tz ad σ 20 0 (va_up (σ 20 0) 0 x))) w1))
theorem xg_MD_7 (C : xr_C xBIG p c cc "SplitFabricModel" s m args) (w : xr_W xCl (xT cA) D I ad (xc cA tz ad σ) A s H locs) (hI : (20, 0) ∈ I) (hdg : decode cc pc = .ok (.getfield 7, 3)) (kk : W p l e R s m args below meth c H locs cells slots Q (F0 m (pc + 3) ls (.ref (ad 21 0) :: rest))) : W p l e R s m args below meth c H locs cells slots Q (F0 m pc ls (.ref (ad 20 0) :: rest)) :=
  xr_get C w hI rfl rfl xin_MD 1 (by decide) (xmi 611 (by decide +kernel) rfl) rfl rfl hdg kk
theorem xg_MD_13 (C : xr_C xBIG p c cc "SplitFabricModel" s m args) (w : xr_W xCl (xT cA) D I ad (xc cA tz ad σ) A s H locs) (hI : (20, 0) ∈ I) (hdg : decode cc pc = .ok (.getfield 13, 3)) (kk : W p l e R s m args below meth c H locs cells slots Q (F0 m (pc + 3) ls (.ref (ad 22 0) :: rest))) : W p l e R s m args below meth c H locs cells slots Q (F0 m pc ls (.ref (ad 20 0) :: rest)) :=
  xr_get C w hI rfl rfl xin_MD 2 (by decide) (xmi 612 (by decide +kernel) rfl) rfl rfl hdg kk
theorem xg_MD_16 (C : xr_C xBIG p c cc "SplitFabricModel" s m args) (w : xr_W xCl (xT cA) D I ad (xc cA tz ad σ) A s H locs) (hI : (20, 0) ∈ I) (hdg : decode cc pc = .ok (.getfield 16, 3)) (kk : W p l e R s m args below meth c H locs cells slots Q (F0 m (pc + 3) ls (.ref (ad 23 0) :: rest))) : W p l e R s m args below meth c H locs cells slots Q (F0 m pc ls (.ref (ad 20 0) :: rest)) :=
  xr_get C w hI rfl rfl xin_MD 3 (by decide) (xmi 613 (by decide +kernel) rfl) rfl rfl hdg kk
theorem xg_MD_19 (C : xr_C xBIG p c cc "SplitFabricModel" s m args) (w : xr_W xCl (xT cA) D I ad (xc cA tz ad σ) A s H locs) (hI : (20, 0) ∈ I) (hdg : decode cc pc = .ok (.getfield 19, 3)) (kk : W p l e R s m args below meth c H locs cells slots Q (F0 m (pc + 3) ls (.ref (ad 24 0) :: rest))) : W p l e R s m args below meth c H locs cells slots Q (F0 m pc ls (.ref (ad 20 0) :: rest)) :=
  xr_get C w hI rfl rfl xin_MD 4 (by decide) (xmi 614 (by decide +kernel) rfl) rfl rfl hdg kk
theorem xg_MD_23 (C : xr_C xBIG p c cc "SplitFabricModel" s m args) (w : xr_W xCl (xT cA) D I ad (xc cA tz ad σ) A s H locs) (hI : (20, 0) ∈ I) (hdg : decode cc pc = .ok (.getfield 23, 3)) (kk : W p l e R s m args below meth c H locs cells slots Q (F0 m (pc + 3) ls (.ref (ad 25 0) :: rest))) : W p l e R s m args below meth c H locs cells slots Q (F0 m pc ls (.ref (ad 20 0) :: rest)) :=
  xr_get C w hI rfl rfl xin_MD 5 (by decide) (xmi 615 (by decide +kernel) rfl) rfl rfl hdg kk
theorem xg_MD_26 (C : xr_C xBIG p c cc "SplitFabricModel" s m args) (w : xr_W xCl (xT cA) D I ad (xc cA tz ad σ) A s H locs) (hI : (20, 0) ∈ I) (hdg : decode cc pc = .ok (.getfield 26, 3)) (kk : W p l e R s m args below meth c H locs cells slots Q (F0 m (pc + 3) ls (.ref (ad 26 0) :: rest))) : W p l e R s m args below meth c H locs cells slots Q (F0 m pc ls (.ref (ad 20 0) :: rest)) :=
  xr_get C w hI rfl rfl xin_MD 6 (by decide) (xmi 616 (by decide +kernel) rfl) rfl rfl hdg kk
theorem xg_MD_29 (C : xr_C xBIG p c cc "SplitFabricModel" s m args) (w : xr_W xCl (xT cA) D I ad (xc cA tz ad σ) A s H locs) (hI : (20, 0) ∈ I) (hdg : decode cc pc = .ok (.getfield 29, 3)) (kk : W p l e R s m args below meth c H locs cells slots Q (F0 m (pc + 3) ls (.ref (ad 27 0) :: rest))) : W p l e R s m args below meth c H locs cells slots Q (F0 m pc ls (.ref (ad 20 0) :: rest)) :=
  xr_get C w hI rfl rfl xin_MD 7 (by decide) (xmi 617 (by decide +kernel) rfl) rfl rfl hdg kk
theorem xg_MD_32 (C : xr_C xBIG p c cc "SplitFabricModel" s m args) (w : xr_W xCl (xT cA) D I ad (xc cA tz ad σ) A s H locs) (hI : (20, 0) ∈ I) (hdg : decode cc pc = .ok (.getfield 32, 3)) (kk : W p l e R s m args below meth c H locs cells slots Q (F0 m (pc + 3) ls (.ref (ad 28 0) :: rest))) : W p l e R s m args below meth c H locs cells slots Q (F0 m pc ls (.ref (ad 20 0) :: rest)) :=
  xr_get C w hI rfl rfl xin_MD 8 (by decide) (xmi 618 (by decide +kernel) rfl) rfl rfl hdg kk
theorem xg_MD_35 (C : xr_C xBIG p c cc "SplitFabricModel" s m args) (w : xr_W xCl (xT cA) D I ad (xc cA tz ad σ) A s H locs) (hI : (20, 0) ∈ I) (hdg : decode cc pc = .ok (.getfield 35, 3)) (kk : W p l e R s m args below meth c H locs cells slots Q (F0 m (pc + 3) ls (.ref (ad 29 0) :: rest))) : W p l e R s m args below meth c H locs cells slots Q (F0 m pc ls (.ref (ad 20 0) :: rest)) :=
  xr_get C w hI rfl rfl xin_MD 9 (by decide) (xmi 619 (by decide +kernel) rfl) rfl rfl hdg kk
theorem xg_MD_38 (C : xr_C xBIG p c cc "SplitFabricModel" s m args) (w : xr_W xCl (xT cA) D I ad (xc cA tz ad σ) A s H locs) (hI : (20, 0) ∈ I) (hdg : decode cc pc = .ok (.getfield 38, 3)) (kk : W p l e R s m args below meth c H locs cells slots Q (F0 m (pc + 3) ls (.ref (ad 30 0) :: rest))) : W p l e R s m args below meth c H locs cells slots Q (F0 m pc ls (.ref (ad 20 0) :: rest)) :=
  xr_get C w hI rfl rfl xin_MD 10 (by decide) (xmi 620 (by decide +kernel) rfl) rfl rfl hdg kk
theorem xg_MD_41 (C : xr_C xBIG p c cc "SplitFabricModel" s m args) (w : xr_W xCl (xT cA) D I ad (xc cA tz ad σ) A s H locs) (hI : (20, 0) ∈ I) (hdg : decode cc pc = .ok (.getfield 41, 3)) (kk : W p l e R s m args below meth c H locs cells slots Q (F0 m (pc + 3) ls (.ref (ad 31 0) :: rest))) : W p l e R s m args below meth c H locs cells slots Q (F0 m pc ls (.ref (ad 20 0) :: rest)) :=
  xr_get C w hI rfl rfl xin_MD 11 (by decide) (xmi 621 (by decide +kernel) rfl) rfl rfl hdg kk
theorem xg_MD_44 (C : xr_C xBIG p c cc "SplitFabricModel" s m args) (w : xr_W xCl (xT cA) D I ad (xc cA tz ad σ) A s H locs) (hI : (20, 0) ∈ I) (hdg : decode cc pc = .ok (.getfield 44, 3)) (kk : W p l e R s m args below meth c H locs cells slots Q (F0 m (pc + 3) ls (.ref (ad 32 0) :: rest))) : W p l e R s m args below meth c H locs cells slots Q (F0 m pc ls (.ref (ad 20 0) :: rest)) :=
  xr_get C w hI rfl rfl xin_MD 12 (by decide) (xmi 622 (by decide +kernel) rfl) rfl rfl hdg kk
theorem xg_MD_47 (C : xr_C xBIG p c cc "SplitFabricModel" s m args) (w : xr_W xCl (xT cA) D I ad (xc cA tz ad σ) A s H locs) (hI : (20, 0) ∈ I) (hdg : decode cc pc = .ok (.getfield 47, 3)) (kk : W p l e R s m args below meth c H locs cells slots Q (F0 m (pc + 3) ls (.ref (ad 33 0) :: rest))) : W p l e R s m args below meth c H locs cells slots Q (F0 m pc ls (.ref (ad 20 0) :: rest)) :=
  xr_get C w hI rfl rfl xin_MD 13 (by decide) (xmi 623 (by decide +kernel) rfl) rfl rfl hdg kk
theorem xg_MD_50 (C : xr_C xBIG p c cc "SplitFabricModel" s m args) (w : xr_W xCl (xT cA) D I ad (xc cA tz ad σ) A s H locs) (hI : (20, 0) ∈ I) (hdg : decode cc pc = .ok (.getfield 50, 3)) (kk : W p l e R s m args below meth c H locs cells slots Q (F0 m (pc + 3) ls (.ref (ad 34 0) :: rest))) : W p l e R s m args below meth c H locs cells slots Q (F0 m pc ls (.ref (ad 20 0) :: rest)) :=
  xr_get C w hI rfl rfl xin_MD 14 (by decide) (xmi 624 (by decide +kernel) rfl) rfl rfl hdg kk
theorem xg_MD_53 (C : xr_C xBIG p c cc "SplitFabricModel" s m args) (w : xr_W xCl (xT cA) D I ad (xc cA tz ad σ) A s H locs) (hI : (20, 0) ∈ I) (hdg : decode cc pc = .ok (.getfield 53, 3)) (kk : W p l e R s m args below meth c H locs cells slots Q (F0 m (pc + 3) ls (.ref (ad 35 0) :: rest))) : W p l e R s m args below meth c H locs cells slots Q (F0 m pc ls (.ref (ad 20 0) :: rest)) :=
  xr_get C w hI rfl rfl xin_MD 15 (by decide) (xmi 625 (by decide +kernel) rfl) rfl rfl hdg kk
theorem xg_MD_88 (C : xr_C xBIG p c cc "SplitFabricModel" s m args) (w : xr_W xCl (xT cA) D I ad (xc cA tz ad σ) A s H locs) (hI : (20, 0) ∈ I) (hdg : decode cc pc = .ok (.getfield 88, 3)) (kk : W p l e R s m args below meth c H locs cells slots Q (F0 m (pc + 3) ls (.int (σ 20 0 16) :: rest))) : W p l e R s m args below meth c H locs cells slots Q (F0 m pc ls (.ref (ad 20 0) :: rest)) :=
  xr_get C w hI rfl rfl xin_MD 16 (by decide) (xmi 626 (by decide +kernel) rfl) rfl rfl hdg kk
theorem xp_MD_88 (C : xr_C xBIG p c cc "SplitFabricModel" s m args) (w : xr_W xCl (xT cA) D I ad (xc cA tz ad σ) A s H locs) {x : Int32} (hI : (20, 0) ∈ I) (hdg : decode cc pc = .ok (.putfield 88, 3)) (kk : ∀ (H1 : Heap) (locs1 : List Loc), xr_W xCl (xT cA) D I ad (xc cA tz ad (xu3 σ 20 0 16 x)) A s H1 locs1 → W p l e R s m args below meth c H1 locs1 cells slots Q (F0 m (pc + 3) ls (rest))) : W p l e R s m args below meth c H locs cells slots Q (F0 m pc ls (.int x :: .ref (ad 20 0) :: rest)) :=
  xr_put C w hI rfl rfl xin_MD xY_MD xY_MD_ok xF_MD_nm 16 (by decide) (xmi 626 (by decide +kernel) rfl) rfl rfl rfl rfl (Nat.le_of_ble_eq_true rfl) hdg (fun H1 locs1 w1 => kk H1 locs1 (Eq.mp (congrArg (fun E => xr_W xCl (xT cA) D I ad E A s H1 locs1) (xc_up cA tz ad σ 20 0 (va_up (σ 20 0) 16 x))) w1))
theorem xg_MD_122 (C : xr_C xBIG p c cc "SplitFabricModel" s m args) (w : xr_W xCl (xT cA) D I ad (xc cA tz ad σ) A s H locs) (hI : (20, 0) ∈ I) (hdg : decode cc pc = .ok (.getfield 122, 3)) (kk : W p l e R s m args below meth c H locs cells slots Q (F0 m (pc + 3) ls (.int (σ 20 0 17) :: rest))) : W p l e R s m args below meth c H locs cells slots Q (F0 m pc ls (.ref (ad 20 0) :: rest)) :=
  xr_get C w hI rfl rfl xin_MD 17 (by decide) (xmi 627 (by decide +kernel) rfl) rfl rfl hdg kk
theorem xp_MD_122 (C : xr_C xBIG p c cc "SplitFabricModel" s m args) (w : xr_W xCl (xT cA) D I ad (xc cA tz ad σ) A s H locs) {x : Int32} (hI : (20, 0) ∈ I) (hdg : decode cc pc = .ok (.putfield 122, 3)) (kk : ∀ (H1 : Heap) (locs1 : List Loc), xr_W xCl (xT cA) D I ad (xc cA tz ad (xu3 σ 20 0 17 x)) A s H1 locs1 → W p l e R s m args below meth c H1 locs1 cells slots Q (F0 m (pc + 3) ls (rest))) : W p l e R s m args below meth c H locs cells slots Q (F0 m pc ls (.int x :: .ref (ad 20 0) :: rest)) :=
  xr_put C w hI rfl rfl xin_MD xY_MD xY_MD_ok xF_MD_nm 17 (by decide) (xmi 627 (by decide +kernel) rfl) rfl rfl rfl rfl (Nat.le_of_ble_eq_true rfl) hdg (fun H1 locs1 w1 => kk H1 locs1 (Eq.mp (congrArg (fun E => xr_W xCl (xT cA) D I ad E A s H1 locs1) (xc_up cA tz ad σ 20 0 (va_up (σ 20 0) 17 x))) w1))
theorem xg_MD_56 (C : xr_C xBIG p c cc "SplitFabricModel" s m args) (w : xr_W xCl (xT cA) D I ad (xc cA tz ad σ) A s H locs) (hI : (20, 0) ∈ I) (hdg : decode cc pc = .ok (.getfield 56, 3)) (kk : W p l e R s m args below meth c H locs cells slots Q (F0 m (pc + 3) ls (.int (σ 20 0 18) :: rest))) : W p l e R s m args below meth c H locs cells slots Q (F0 m pc ls (.ref (ad 20 0) :: rest)) :=
  xr_get C w hI rfl rfl xin_MD 18 (by decide) (xmi 628 (by decide +kernel) rfl) rfl rfl hdg kk
theorem xp_MD_56 (C : xr_C xBIG p c cc "SplitFabricModel" s m args) (w : xr_W xCl (xT cA) D I ad (xc cA tz ad σ) A s H locs) {x : Int32} (hI : (20, 0) ∈ I) (hdg : decode cc pc = .ok (.putfield 56, 3)) (kk : ∀ (H1 : Heap) (locs1 : List Loc), xr_W xCl (xT cA) D I ad (xc cA tz ad (xu3 σ 20 0 18 x)) A s H1 locs1 → W p l e R s m args below meth c H1 locs1 cells slots Q (F0 m (pc + 3) ls (rest))) : W p l e R s m args below meth c H locs cells slots Q (F0 m pc ls (.int x :: .ref (ad 20 0) :: rest)) :=
  xr_put C w hI rfl rfl xin_MD xY_MD xY_MD_ok xF_MD_nm 18 (by decide) (xmi 628 (by decide +kernel) rfl) rfl rfl rfl rfl (Nat.le_of_ble_eq_true rfl) hdg (fun H1 locs1 w1 => kk H1 locs1 (Eq.mp (congrArg (fun E => xr_W xCl (xT cA) D I ad E A s H1 locs1) (xc_up cA tz ad σ 20 0 (va_up (σ 20 0) 18 x))) w1))
theorem xg_MD_60 (C : xr_C xBIG p c cc "SplitFabricModel" s m args) (w : xr_W xCl (xT cA) D I ad (xc cA tz ad σ) A s H locs) (hI : (20, 0) ∈ I) (hdg : decode cc pc = .ok (.getfield 60, 3)) (kk : W p l e R s m args below meth c H locs cells slots Q (F0 m (pc + 3) ls (.int (σ 20 0 19) :: rest))) : W p l e R s m args below meth c H locs cells slots Q (F0 m pc ls (.ref (ad 20 0) :: rest)) :=
  xr_get C w hI rfl rfl xin_MD 19 (by decide) (xmi 629 (by decide +kernel) rfl) rfl rfl hdg kk
theorem xp_MD_60 (C : xr_C xBIG p c cc "SplitFabricModel" s m args) (w : xr_W xCl (xT cA) D I ad (xc cA tz ad σ) A s H locs) {x : Int32} (hI : (20, 0) ∈ I) (hdg : decode cc pc = .ok (.putfield 60, 3)) (kk : ∀ (H1 : Heap) (locs1 : List Loc), xr_W xCl (xT cA) D I ad (xc cA tz ad (xu3 σ 20 0 19 x)) A s H1 locs1 → W p l e R s m args below meth c H1 locs1 cells slots Q (F0 m (pc + 3) ls (rest))) : W p l e R s m args below meth c H locs cells slots Q (F0 m pc ls (.int x :: .ref (ad 20 0) :: rest)) :=
  xr_put C w hI rfl rfl xin_MD xY_MD xY_MD_ok xF_MD_nm 19 (by decide) (xmi 629 (by decide +kernel) rfl) rfl rfl rfl rfl (Nat.le_of_ble_eq_true rfl) hdg (fun H1 locs1 w1 => kk H1 locs1 (Eq.mp (congrArg (fun E => xr_W xCl (xT cA) D I ad E A s H1 locs1) (xc_up cA tz ad σ 20 0 (va_up (σ 20 0) 19 x))) w1))
theorem xg_MD_98 (C : xr_C xBIG p c cc "SplitFabricModel" s m args) (w : xr_W xCl (xT cA) D I ad (xc cA tz ad σ) A s H locs) (hI : (20, 0) ∈ I) (hdg : decode cc pc = .ok (.getfield 98, 3)) (kk : W p l e R s m args below meth c H locs cells slots Q (F0 m (pc + 3) ls (.int (σ 20 0 20) :: rest))) : W p l e R s m args below meth c H locs cells slots Q (F0 m pc ls (.ref (ad 20 0) :: rest)) :=
  xr_get C w hI rfl rfl xin_MD 20 (by decide) (xmi 630 (by decide +kernel) rfl) rfl rfl hdg kk
theorem xp_MD_98 (C : xr_C xBIG p c cc "SplitFabricModel" s m args) (w : xr_W xCl (xT cA) D I ad (xc cA tz ad σ) A s H locs) {x : Int32} (hI : (20, 0) ∈ I) (hdg : decode cc pc = .ok (.putfield 98, 3)) (kk : ∀ (H1 : Heap) (locs1 : List Loc), xr_W xCl (xT cA) D I ad (xc cA tz ad (xu3 σ 20 0 20 x)) A s H1 locs1 → W p l e R s m args below meth c H1 locs1 cells slots Q (F0 m (pc + 3) ls (rest))) : W p l e R s m args below meth c H locs cells slots Q (F0 m pc ls (.int x :: .ref (ad 20 0) :: rest)) :=
  xr_put C w hI rfl rfl xin_MD xY_MD xY_MD_ok xF_MD_nm 20 (by decide) (xmi 630 (by decide +kernel) rfl) rfl rfl rfl rfl (Nat.le_of_ble_eq_true rfl) hdg (fun H1 locs1 w1 => kk H1 locs1 (Eq.mp (congrArg (fun E => xr_W xCl (xT cA) D I ad E A s H1 locs1) (xc_up cA tz ad σ 20 0 (va_up (σ 20 0) 20 x))) w1))
theorem xg_MD_95 (C : xr_C xBIG p c cc "SplitFabricModel" s m args) (w : xr_W xCl (xT cA) D I ad (xc cA tz ad σ) A s H locs) (hI : (20, 0) ∈ I) (hdg : decode cc pc = .ok (.getfield 95, 3)) (kk : W p l e R s m args below meth c H locs cells slots Q (F0 m (pc + 3) ls (.int (σ 20 0 21) :: rest))) : W p l e R s m args below meth c H locs cells slots Q (F0 m pc ls (.ref (ad 20 0) :: rest)) :=
  xr_get C w hI rfl rfl xin_MD 21 (by decide) (xmi 631 (by decide +kernel) rfl) rfl rfl hdg kk
theorem xp_MD_95 (C : xr_C xBIG p c cc "SplitFabricModel" s m args) (w : xr_W xCl (xT cA) D I ad (xc cA tz ad σ) A s H locs) {x : Int32} (hI : (20, 0) ∈ I) (hdg : decode cc pc = .ok (.putfield 95, 3)) (kk : ∀ (H1 : Heap) (locs1 : List Loc), xr_W xCl (xT cA) D I ad (xc cA tz ad (xu3 σ 20 0 21 x)) A s H1 locs1 → W p l e R s m args below meth c H1 locs1 cells slots Q (F0 m (pc + 3) ls (rest))) : W p l e R s m args below meth c H locs cells slots Q (F0 m pc ls (.int x :: .ref (ad 20 0) :: rest)) :=
  xr_put C w hI rfl rfl xin_MD xY_MD xY_MD_ok xF_MD_nm 21 (by decide) (xmi 631 (by decide +kernel) rfl) rfl rfl rfl rfl (Nat.le_of_ble_eq_true rfl) hdg (fun H1 locs1 w1 => kk H1 locs1 (Eq.mp (congrArg (fun E => xr_W xCl (xT cA) D I ad E A s H1 locs1) (xc_up cA tz ad σ 20 0 (va_up (σ 20 0) 21 x))) w1))
theorem xg_MD_63 (C : xr_C xBIG p c cc "SplitFabricModel" s m args) (w : xr_W xCl (xT cA) D I ad (xc cA tz ad σ) A s H locs) (hI : (20, 0) ∈ I) (hdg : decode cc pc = .ok (.getfield 63, 3)) (kk : W p l e R s m args below meth c H locs cells slots Q (F0 m (pc + 3) ls (.ref (ad 36 0) :: rest))) : W p l e R s m args below meth c H locs cells slots Q (F0 m pc ls (.ref (ad 20 0) :: rest)) :=
  xr_get C w hI rfl rfl xin_MD 22 (by decide) (xmi 632 (by decide +kernel) rfl) rfl rfl hdg kk
end
end
section
/-! A row for each call site of a method of ours (or of the lists): its words. -/
theorem xk_LW_65 : xr_KI xBIG "SplitFabricLaw" 65 ySF_init bSF_init 2 0 := ⟨xmi 23 (by decide +kernel) rfl, xmi 24 (by decide +kernel) rfl, xmi 1 (by decide +kernel) rfl, xmi 25 (by decide +kernel) rfl, rfl, ⟨by decide, by decide, by decide +kernel⟩⟩
theorem xk_SF_35 : xr_KI xBIG "SplitFabric" 35 yAL_init bAL_init 1 0 := ⟨xmi 37 (by decide +kernel) rfl, xmi 38 (by decide +kernel) rfl, xmi 4 (by decide +kernel) rfl, xmi 39 (by decide +kernel) rfl, rfl, ⟨by decide, by decide, by decide +kernel⟩⟩
theorem xk_SF_53 : xr_KI xBIG "SplitFabric" 53 yTG_init bTG_init 3 2 := ⟨xmi 63 (by decide +kernel) rfl, xmi 64 (by decide +kernel) rfl, xmi 5 (by decide +kernel) rfl, xmi 65 (by decide +kernel) rfl, rfl, ⟨by decide, by decide, by decide +kernel⟩⟩
theorem xk_LW_87 : xr_KV xBIG "SplitFabricLaw" 87 ySF_cycle bSF_cycle 2 (some .int) 0 := ⟨xmi 172 (by decide +kernel) rfl, xmi 173 (by decide +kernel) rfl, xmi 174 (by decide +kernel) rfl, xmi 1 (by decide +kernel) rfl, xmi 175 (by decide +kernel) rfl, ⟨by decide, by decide, by decide +kernel⟩⟩
theorem xk_SF_98 : xr_KV xBIG "SplitFabric" 98 ySF_serveTargets bSF_serveTargets 2 none 0 := ⟨xmi 176 (by decide +kernel) rfl, xmi 178 (by decide +kernel) rfl, xmp (q := (ySF_serveTargets, 10)) (by decide +kernel) rfl, xmi 1 (by decide +kernel) rfl, xmi 179 (by decide +kernel) rfl, ⟨by decide, by decide, by decide +kernel⟩⟩
theorem xk_SF_179 : xr_KV xBIG "SplitFabric" 179 yTA_leave bTA_leave 2 (some .int) 0 := ⟨xmi 180 (by decide +kernel) rfl, xmi 181 (by decide +kernel) rfl, xmi 182 (by decide +kernel) rfl, xmi 6 (by decide +kernel) rfl, xmi 183 (by decide +kernel) rfl, ⟨by decide, by decide, by decide +kernel⟩⟩
theorem xk_SF_182 : xr_KV xBIG "SplitFabric" 182 ySF_serve bSF_serve 2 none 1 := ⟨xmi 187 (by decide +kernel) rfl, xmi 189 (by decide +kernel) rfl, xmp (q := (ySF_serve, 10)) (by decide +kernel) rfl, xmi 1 (by decide +kernel) rfl, xmi 190 (by decide +kernel) rfl, ⟨by decide, by decide, by decide +kernel⟩⟩
theorem xk_SF_148 : xr_KV xBIG "SplitFabric" 148 yAL_size bAL_size 1 (some .int) 0 := ⟨xmi 191 (by decide +kernel) rfl, xmi 192 (by decide +kernel) rfl, xmi 193 (by decide +kernel) rfl, xmi 4 (by decide +kernel) rfl, xmi 194 (by decide +kernel) rfl, ⟨by decide, by decide, by decide +kernel⟩⟩
theorem xk_SF_185 : xr_KI xBIG "SplitFabric" 185 ySV_init bSV_init 3 2 := ⟨xmi 197 (by decide +kernel) rfl, xmi 198 (by decide +kernel) rfl, xmi 15 (by decide +kernel) rfl, xmi 199 (by decide +kernel) rfl, rfl, ⟨by decide, by decide, by decide +kernel⟩⟩
theorem xk_SF_188 : xr_KV xBIG "SplitFabric" 188 yAL_add1 bAL_add1 2 (some .boolean) 1 := ⟨xmi 220 (by decide +kernel) rfl, xmi 221 (by decide +kernel) rfl, xmi 222 (by decide +kernel) rfl, xmi 4 (by decide +kernel) rfl, xmi 223 (by decide +kernel) rfl, ⟨by decide, by decide, by decide +kernel⟩⟩
theorem xk_AL_69 : xr_KV xBIG "java/util/ArrayList" 69 yAL_grow1 bAL_grow1 4 (some (.array (.object "java/lang/Object"))) 1 := ⟨xmi 232 (by decide +kernel) rfl, xmi 234 (by decide +kernel) rfl, xmp (q := (yAL_grow1, 3)) (by decide +kernel) rfl, xmi 4 (by decide +kernel) rfl, xmi 235 (by decide +kernel) rfl, ⟨by decide, by decide, by decide +kernel⟩⟩
theorem xk_AL_73 : xr_KS xBIG "java/util/ArrayList" 73 yAS_newLength bAS_newLength 4 (some .int) 3 := ⟨xmi 236 (by decide +kernel) rfl, xmi 237 (by decide +kernel) rfl, xmi 16 (by decide +kernel) rfl, xmi 238 (by decide +kernel) rfl, ⟨by decide, by decide, by decide +kernel⟩⟩
theorem xk_AL_66 : xr_KS xBIG "java/util/ArrayList" 66 yAR_copyOf2 bAR_copyOf2 2 (some (.array (.object "java/lang/Object"))) 2 := ⟨xmi 246 (by decide +kernel) rfl, xmi 247 (by decide +kernel) rfl, xmi 18 (by decide +kernel) rfl, xmi 248 (by decide +kernel) rfl, ⟨by decide, by decide, by decide +kernel⟩⟩
theorem xk_AR_300 : xr_KS xBIG "java/util/Arrays" 300 yAR_copyOf3 bAR_copyOf3 4 (some (.array (.object "java/lang/Object"))) 3 := ⟨xmi 262 (by decide +kernel) rfl, xmi 263 (by decide +kernel) rfl, xmi 18 (by decide +kernel) rfl, xmi 264 (by decide +kernel) rfl, ⟨by decide, by decide, by decide +kernel⟩⟩
theorem xk_AR_304 : xr_KS xBIG "java/util/Arrays" 304 yMA_min bMA_min 2 (some .int) 2 := ⟨xmi 268 (by decide +kernel) rfl, xmi 269 (by decide +kernel) rfl, xmi 17 (by decide +kernel) rfl, xmi 270 (by decide +kernel) rfl, ⟨by decide, by decide, by decide +kernel⟩⟩
theorem xk_AL_79 : xr_KS xBIG "java/util/ArrayList" 79 yMA_max bMA_max 2 (some .int) 2 := ⟨xmi 272 (by decide +kernel) rfl, xmi 240 (by decide +kernel) rfl, xmi 17 (by decide +kernel) rfl, xmi 241 (by decide +kernel) rfl, ⟨by decide, by decide, by decide +kernel⟩⟩
theorem xk_SF_125 : xr_KV xBIG "SplitFabric" 125 yTG_isReading bTG_isReading 1 (some .boolean) 0 := ⟨xmi 274 (by decide +kernel) rfl, xmi 275 (by decide +kernel) rfl, xmi 276 (by decide +kernel) rfl, xmi 5 (by decide +kernel) rfl, xmi 277 (by decide +kernel) rfl, ⟨by decide, by decide, by decide +kernel⟩⟩
theorem xk_SF_90 : xr_KV xBIG "SplitFabric" 90 yTG_keep bTG_keep 3 none 2 := ⟨xmi 278 (by decide +kernel) rfl, xmi 279 (by decide +kernel) rfl, xmi 280 (by decide +kernel) rfl, xmi 5 (by decide +kernel) rfl, xmi 281 (by decide +kernel) rfl, ⟨by decide, by decide, by decide +kernel⟩⟩
theorem xk_SF_201 : xr_KV xBIG "SplitFabric" 201 ySF_finish bSF_finish 2 none 1 := ⟨xmi 284 (by decide +kernel) rfl, xmi 286 (by decide +kernel) rfl, xmp (q := (ySF_finish, 10)) (by decide +kernel) rfl, xmi 1 (by decide +kernel) rfl, xmi 287 (by decide +kernel) rfl, ⟨by decide, by decide, by decide +kernel⟩⟩
theorem xk_SF_204 : xr_KV xBIG "SplitFabric" 204 ySF_targetOf bSF_targetOf 2 (some (.object "SplitFabric$Target")) 1 := ⟨xmi 288 (by decide +kernel) rfl, xmi 290 (by decide +kernel) rfl, xmp (q := (ySF_targetOf, 10)) (by decide +kernel) rfl, xmi 1 (by decide +kernel) rfl, xmi 291 (by decide +kernel) rfl, ⟨by decide, by decide, by decide +kernel⟩⟩
theorem xk_SF_101 : xr_KV xBIG "SplitFabric" 101 ySF_returnNextWord bSF_returnNextWord 4 none 0 := ⟨xmi 292 (by decide +kernel) rfl, xmi 294 (by decide +kernel) rfl, xmp (q := (ySF_returnNextWord, 10)) (by decide +kernel) rfl, xmi 1 (by decide +kernel) rfl, xmi 295 (by decide +kernel) rfl, ⟨by decide, by decide, by decide +kernel⟩⟩
theorem xk_SF_104 : xr_KV xBIG "SplitFabric" 104 ySF_chooseGrant bSF_chooseGrant 6 (some (.object "SplitFabric$Tag")) 0 := ⟨xmi 296 (by decide +kernel) rfl, xmi 298 (by decide +kernel) rfl, xmp (q := (ySF_chooseGrant, 10)) (by decide +kernel) rfl, xmi 1 (by decide +kernel) rfl, xmi 299 (by decide +kernel) rfl, ⟨by decide, by decide, by decide +kernel⟩⟩
theorem xk_SF_64 : xr_KV xBIG "SplitFabric" 64 ySF_tagOf bSF_tagOf 3 (some (.object "SplitFabric$Tag")) 2 := ⟨xmi 300 (by decide +kernel) rfl, xmi 302 (by decide +kernel) rfl, xmp (q := (ySF_tagOf, 10)) (by decide +kernel) rfl, xmi 1 (by decide +kernel) rfl, xmi 303 (by decide +kernel) rfl, ⟨by decide, by decide, by decide +kernel⟩⟩
theorem xk_SF_211 : xr_KV xBIG "SplitFabric" 211 ySF_isEligible bSF_isEligible 4 (some .boolean) 1 := ⟨xmi 304 (by decide +kernel) rfl, xmi 306 (by decide +kernel) rfl, xmp (q := (ySF_isEligible, 10)) (by decide +kernel) rfl, xmi 1 (by decide +kernel) rfl, xmi 307 (by decide +kernel) rfl, ⟨by decide, by decide, by decide +kernel⟩⟩
theorem xk_SF_135 : xr_KV xBIG "SplitFabric" 135 yTG_isBefore bTG_isBefore 2 (some .boolean) 1 := ⟨xmi 308 (by decide +kernel) rfl, xmi 309 (by decide +kernel) rfl, xmi 310 (by decide +kernel) rfl, xmi 5 (by decide +kernel) rfl, xmi 311 (by decide +kernel) rfl, ⟨by decide, by decide, by decide +kernel⟩⟩
theorem xk_SF_228 : xr_KS xBIG "SplitFabric" 228 ySF_holdsBack bSF_holdsBack 2 (some .boolean) 2 := ⟨xmi 312 (by decide +kernel) rfl, xmi 313 (by decide +kernel) rfl, xmi 1 (by decide +kernel) rfl, xmi 314 (by decide +kernel) rfl, ⟨by decide, by decide, by decide +kernel⟩⟩
theorem xk_SF_237 : xr_KV xBIG "SplitFabric" 237 yTG_isOpen bTG_isOpen 1 (some .boolean) 0 := ⟨xmi 315 (by decide +kernel) rfl, xmi 316 (by decide +kernel) rfl, xmi 317 (by decide +kernel) rfl, xmi 5 (by decide +kernel) rfl, xmi 318 (by decide +kernel) rfl, ⟨by decide, by decide, by decide +kernel⟩⟩
theorem xk_SF_240 : xr_KV xBIG "SplitFabric" 240 yTG_overlaps bTG_overlaps 2 (some .boolean) 1 := ⟨xmi 319 (by decide +kernel) rfl, xmi 320 (by decide +kernel) rfl, xmi 321 (by decide +kernel) rfl, xmi 5 (by decide +kernel) rfl, xmi 322 (by decide +kernel) rfl, ⟨by decide, by decide, by decide +kernel⟩⟩
theorem xk_SF_231 : xr_KV xBIG "SplitFabric" 231 yTG_isUnmapped bTG_isUnmapped 1 (some .boolean) 0 := ⟨xmi 323 (by decide +kernel) rfl, xmi 324 (by decide +kernel) rfl, xmi 325 (by decide +kernel) rfl, xmi 5 (by decide +kernel) rfl, xmi 326 (by decide +kernel) rfl, ⟨by decide, by decide, by decide +kernel⟩⟩
theorem xk_SF_234 : xr_KV xBIG "SplitFabric" 234 ySF_isAdmitted bSF_isAdmitted 4 (some .boolean) 1 := ⟨xmi 327 (by decide +kernel) rfl, xmi 329 (by decide +kernel) rfl, xmp (q := (ySF_isAdmitted, 10)) (by decide +kernel) rfl, xmi 1 (by decide +kernel) rfl, xmi 330 (by decide +kernel) rfl, ⟨by decide, by decide, by decide +kernel⟩⟩
theorem xk_SF_214 : xr_KV xBIG "SplitFabric" 214 ySF_goesBefore bSF_goesBefore 4 (some .boolean) 2 := ⟨xmi 331 (by decide +kernel) rfl, xmi 333 (by decide +kernel) rfl, xmp (q := (ySF_goesBefore, 10)) (by decide +kernel) rfl, xmi 1 (by decide +kernel) rfl, xmi 334 (by decide +kernel) rfl, ⟨by decide, by decide, by decide +kernel⟩⟩
theorem xk_SF_218 : xr_KV xBIG "SplitFabric" 218 ySF_classOf bSF_classOf 2 (some .int) 1 := ⟨xmi 335 (by decide +kernel) rfl, xmi 337 (by decide +kernel) rfl, xmp (q := (ySF_classOf, 10)) (by decide +kernel) rfl, xmi 1 (by decide +kernel) rfl, xmi 338 (by decide +kernel) rfl, ⟨by decide, by decide, by decide +kernel⟩⟩
theorem xk_SF_222 : xr_KS xBIG "SplitFabric" 222 yMA_min bMA_min 2 (some .int) 2 := ⟨xmi 339 (by decide +kernel) rfl, xmi 269 (by decide +kernel) rfl, xmi 17 (by decide +kernel) rfl, xmi 270 (by decide +kernel) rfl, ⟨by decide, by decide, by decide +kernel⟩⟩
theorem xk_SF_108 : xr_KV xBIG "SplitFabric" 108 ySF_grant bSF_grant 2 none 1 := ⟨xmi 340 (by decide +kernel) rfl, xmi 342 (by decide +kernel) rfl, xmp (q := (ySF_grant, 10)) (by decide +kernel) rfl, xmi 1 (by decide +kernel) rfl, xmi 343 (by decide +kernel) rfl, ⟨by decide, by decide, by decide +kernel⟩⟩
theorem xk_SF_243 : xr_KS xBIG "SplitFabric" 243 ySF_enter bSF_enter 2 none 2 := ⟨xmi 344 (by decide +kernel) rfl, xmi 345 (by decide +kernel) rfl, xmi 1 (by decide +kernel) rfl, xmi 346 (by decide +kernel) rfl, ⟨by decide, by decide, by decide +kernel⟩⟩
theorem xk_SF_250 : xr_KV xBIG "SplitFabric" 250 yTA_join bTA_join 2 none 1 := ⟨xmi 347 (by decide +kernel) rfl, xmi 348 (by decide +kernel) rfl, xmi 349 (by decide +kernel) rfl, xmi 6 (by decide +kernel) rfl, xmi 350 (by decide +kernel) rfl, ⟨by decide, by decide, by decide +kernel⟩⟩
theorem xk_SF_112 : xr_KV xBIG "SplitFabric" 112 ySF_ageWaiting bSF_ageWaiting 2 none 0 := ⟨xmi 351 (by decide +kernel) rfl, xmi 353 (by decide +kernel) rfl, xmp (q := (ySF_ageWaiting, 10)) (by decide +kernel) rfl, xmi 1 (by decide +kernel) rfl, xmi 354 (by decide +kernel) rfl, ⟨by decide, by decide, by decide +kernel⟩⟩
theorem xk_LW_95 : xr_KV xBIG "SplitFabricLaw" 95 ySF_time bSF_time 1 (some .int) 0 := ⟨xmi 355 (by decide +kernel) rfl, xmi 356 (by decide +kernel) rfl, xmi 357 (by decide +kernel) rfl, xmi 1 (by decide +kernel) rfl, xmi 358 (by decide +kernel) rfl, ⟨by decide, by decide, by decide +kernel⟩⟩
theorem xk_LW_129 : xr_KV xBIG "SplitFabricLaw" 129 ySF_served bSF_served 1 (some .int) 0 := ⟨xmi 359 (by decide +kernel) rfl, xmi 360 (by decide +kernel) rfl, xmi 361 (by decide +kernel) rfl, xmi 1 (by decide +kernel) rfl, xmi 362 (by decide +kernel) rfl, ⟨by decide, by decide, by decide +kernel⟩⟩
theorem xk_LW_7 : xr_KV xBIG "SplitFabricLaw" 7 ySF_data bSF_data 4 none 3 := ⟨xmi 367 (by decide +kernel) rfl, xmi 368 (by decide +kernel) rfl, xmi 369 (by decide +kernel) rfl, xmi 1 (by decide +kernel) rfl, xmi 370 (by decide +kernel) rfl, ⟨by decide, by decide, by decide +kernel⟩⟩
theorem xk_SF_57 : xr_KS xBIG "SplitFabric" 57 ySF_checkIndex bSF_checkIndex 2 none 2 := ⟨xmi 371 (by decide +kernel) rfl, xmi 372 (by decide +kernel) rfl, xmi 1 (by decide +kernel) rfl, xmi 373 (by decide +kernel) rfl, ⟨by decide, by decide, by decide +kernel⟩⟩
theorem xk_LW_15 : xr_KV xBIG "SplitFabricLaw" 15 ySF_issue bSF_issue 7 none 5 := ⟨xmi 442 (by decide +kernel) rfl, xmi 443 (by decide +kernel) rfl, xmi 444 (by decide +kernel) rfl, xmi 1 (by decide +kernel) rfl, xmi 445 (by decide +kernel) rfl, ⟨by decide, by decide, by decide +kernel⟩⟩
theorem xk_SF_60 : xr_KS xBIG "SplitFabric" 60 ySF_checkRequest bSF_checkRequest 4 none 3 := ⟨xmi 446 (by decide +kernel) rfl, xmi 447 (by decide +kernel) rfl, xmi 1 (by decide +kernel) rfl, xmi 448 (by decide +kernel) rfl, ⟨by decide, by decide, by decide +kernel⟩⟩
theorem xk_SF_118 : xr_KS xBIG "SplitFabric" 118 ySF_checkArgument bSF_checkArgument 1 none 1 := ⟨xmi 449 (by decide +kernel) rfl, xmi 450 (by decide +kernel) rfl, xmi 1 (by decide +kernel) rfl, xmi 451 (by decide +kernel) rfl, ⟨by decide, by decide, by decide +kernel⟩⟩
theorem xk_SF_71 : xr_KS xBIG "SplitFabric" 71 ySF_checkState bSF_checkState 1 none 1 := ⟨xmi 467 (by decide +kernel) rfl, xmi 468 (by decide +kernel) rfl, xmi 1 (by decide +kernel) rfl, xmi 469 (by decide +kernel) rfl, ⟨by decide, by decide, by decide +kernel⟩⟩
theorem xk_SF_75 : xr_KV xBIG "SplitFabric" 75 ySF_holdsSome bSF_holdsSome 3 (some .boolean) 1 := ⟨xmi 485 (by decide +kernel) rfl, xmi 487 (by decide +kernel) rfl, xmp (q := (ySF_holdsSome, 10)) (by decide +kernel) rfl, xmi 1 (by decide +kernel) rfl, xmi 488 (by decide +kernel) rfl, ⟨by decide, by decide, by decide +kernel⟩⟩
theorem xk_SF_79 : xr_KV xBIG "SplitFabric" 79 ySF_hasWaiting bSF_hasWaiting 5 (some .boolean) 2 := ⟨xmi 489 (by decide +kernel) rfl, xmi 491 (by decide +kernel) rfl, xmp (q := (ySF_hasWaiting, 10)) (by decide +kernel) rfl, xmi 1 (by decide +kernel) rfl, xmi 492 (by decide +kernel) rfl, ⟨by decide, by decide, by decide +kernel⟩⟩
theorem xk_SF_83 : xr_KV xBIG "SplitFabric" 83 ySF_holdsTargetOf bSF_holdsTargetOf 3 (some .boolean) 2 := ⟨xmi 493 (by decide +kernel) rfl, xmi 495 (by decide +kernel) rfl, xmp (q := (ySF_holdsTargetOf, 10)) (by decide +kernel) rfl, xmi 1 (by decide +kernel) rfl, xmi 496 (by decide +kernel) rfl, ⟨by decide, by decide, by decide +kernel⟩⟩
theorem xk_SF_86 : xr_KV xBIG "SplitFabric" 86 yTG_begin bTG_begin 5 none 4 := ⟨xmi 497 (by decide +kernel) rfl, xmi 498 (by decide +kernel) rfl, xmi 499 (by decide +kernel) rfl, xmi 5 (by decide +kernel) rfl, xmi 500 (by decide +kernel) rfl, ⟨by decide, by decide, by decide +kernel⟩⟩
theorem xk_LW_23 : xr_KV xBIG "SplitFabricLaw" 23 ySF_ready bSF_ready 3 none 2 := ⟨xmi 504 (by decide +kernel) rfl, xmi 505 (by decide +kernel) rfl, xmi 506 (by decide +kernel) rfl, xmi 1 (by decide +kernel) rfl, xmi 507 (by decide +kernel) rfl, ⟨by decide, by decide, by decide +kernel⟩⟩
theorem xk_LW_27 : xr_KV xBIG "SplitFabricLaw" 27 ySF_cycles bSF_cycles 4 (some .int) 1 := ⟨xmi 511 (by decide +kernel) rfl, xmi 512 (by decide +kernel) rfl, xmi 513 (by decide +kernel) rfl, xmi 1 (by decide +kernel) rfl, xmi 514 (by decide +kernel) rfl, ⟨by decide, by decide, by decide +kernel⟩⟩
theorem xk_SF_121 : xr_KV xBIG "SplitFabric" 121 ySF_cycle bSF_cycle 2 (some .int) 0 := ⟨xmi 515 (by decide +kernel) rfl, xmi 173 (by decide +kernel) rfl, xmi 174 (by decide +kernel) rfl, xmi 1 (by decide +kernel) rfl, xmi 175 (by decide +kernel) rfl, ⟨by decide, by decide, by decide +kernel⟩⟩
theorem xk_LW_31 : xr_KV xBIG "SplitFabricLaw" 31 ySF_state bSF_state 3 (some .int) 2 := ⟨xmi 519 (by decide +kernel) rfl, xmi 520 (by decide +kernel) rfl, xmi 521 (by decide +kernel) rfl, xmi 1 (by decide +kernel) rfl, xmi 522 (by decide +kernel) rfl, ⟨by decide, by decide, by decide +kernel⟩⟩
theorem xk_LW_35 : xr_KV xBIG "SplitFabricLaw" 35 ySF_word bSF_word 5 (some .int) 3 := ⟨xmi 526 (by decide +kernel) rfl, xmi 527 (by decide +kernel) rfl, xmi 528 (by decide +kernel) rfl, xmi 1 (by decide +kernel) rfl, xmi 529 (by decide +kernel) rfl, ⟨by decide, by decide, by decide +kernel⟩⟩
theorem xk_LW_39 : xr_KV xBIG "SplitFabricLaw" 39 ySF_take bSF_take 5 (some .boolean) 2 := ⟨xmi 533 (by decide +kernel) rfl, xmi 534 (by decide +kernel) rfl, xmi 535 (by decide +kernel) rfl, xmi 1 (by decide +kernel) rfl, xmi 536 (by decide +kernel) rfl, ⟨by decide, by decide, by decide +kernel⟩⟩
theorem xk_LW_43 : xr_KV xBIG "SplitFabricLaw" 43 ySF_base bSF_base 3 none 2 := ⟨xmi 540 (by decide +kernel) rfl, xmi 541 (by decide +kernel) rfl, xmi 542 (by decide +kernel) rfl, xmi 1 (by decide +kernel) rfl, xmi 543 (by decide +kernel) rfl, ⟨by decide, by decide, by decide +kernel⟩⟩
theorem xk_LW_47 : xr_KV xBIG "SplitFabricLaw" 47 ySF_waits bSF_waits 5 (some .int) 1 := ⟨xmi 547 (by decide +kernel) rfl, xmi 548 (by decide +kernel) rfl, xmi 549 (by decide +kernel) rfl, xmi 1 (by decide +kernel) rfl, xmi 550 (by decide +kernel) rfl, ⟨by decide, by decide, by decide +kernel⟩⟩
theorem xk_LW_50 : xr_KV xBIG "SplitFabricLaw" 50 ySF_reset bSF_reset 5 (some .int) 1 := ⟨xmi 554 (by decide +kernel) rfl, xmi 555 (by decide +kernel) rfl, xmi 556 (by decide +kernel) rfl, xmi 1 (by decide +kernel) rfl, xmi 557 (by decide +kernel) rfl, ⟨by decide, by decide, by decide +kernel⟩⟩
theorem xk_LW_53 : xr_KV xBIG "SplitFabricLaw" 53 ySF_credits bSF_credits 2 (some .int) 1 := ⟨xmi 561 (by decide +kernel) rfl, xmi 562 (by decide +kernel) rfl, xmi 563 (by decide +kernel) rfl, xmi 1 (by decide +kernel) rfl, xmi 564 (by decide +kernel) rfl, ⟨by decide, by decide, by decide +kernel⟩⟩
theorem xk_LW_56 : xr_KV xBIG "SplitFabricLaw" 56 ySF_holder bSF_holder 2 (some .int) 1 := ⟨xmi 568 (by decide +kernel) rfl, xmi 569 (by decide +kernel) rfl, xmi 570 (by decide +kernel) rfl, xmi 1 (by decide +kernel) rfl, xmi 571 (by decide +kernel) rfl, ⟨by decide, by decide, by decide +kernel⟩⟩
theorem xk_LW_59 : xr_KV xBIG "SplitFabricLaw" 59 ySF_memory bSF_memory 2 (some .int) 1 := ⟨xmi 575 (by decide +kernel) rfl, xmi 576 (by decide +kernel) rfl, xmi 577 (by decide +kernel) rfl, xmi 1 (by decide +kernel) rfl, xmi 578 (by decide +kernel) rfl, ⟨by decide, by decide, by decide +kernel⟩⟩
theorem xk_LW_62 : xr_KV xBIG "SplitFabricLaw" 62 ySF_service bSF_service 3 (some .int) 2 := ⟨xmi 582 (by decide +kernel) rfl, xmi 583 (by decide +kernel) rfl, xmi 584 (by decide +kernel) rfl, xmi 1 (by decide +kernel) rfl, xmi 585 (by decide +kernel) rfl, ⟨by decide, by decide, by decide +kernel⟩⟩
theorem xk_SF_151 : xr_KV xBIG "SplitFabric" 151 yAL_get bAL_get 2 (some (.object "java/lang/Object")) 1 := ⟨xmi 586 (by decide +kernel) rfl, xmi 587 (by decide +kernel) rfl, xmi 588 (by decide +kernel) rfl, xmi 4 (by decide +kernel) rfl, xmi 589 (by decide +kernel) rfl, ⟨by decide, by decide, by decide +kernel⟩⟩
theorem xk_SF_157 : xr_KV xBIG "SplitFabric" 157 ySV_fact bSV_fact 2 (some .int) 1 := ⟨xmi 600 (by decide +kernel) rfl, xmi 601 (by decide +kernel) rfl, xmi 602 (by decide +kernel) rfl, xmi 15 (by decide +kernel) rfl, xmi 603 (by decide +kernel) rfl, ⟨by decide, by decide, by decide +kernel⟩⟩
theorem xk_LW_68 : xr_KI xBIG "SplitFabricLaw" 68 yMD_init bMD_init 2 0 := ⟨xmi 606 (by decide +kernel) rfl, xmi 607 (by decide +kernel) rfl, xmi 7 (by decide +kernel) rfl, xmi 608 (by decide +kernel) rfl, rfl, ⟨by decide, by decide, by decide +kernel⟩⟩
theorem xk_LW_75 : xr_KV xBIG "SplitFabricLaw" 75 yMD_thrown bMD_thrown 1 (some .int) 0 := ⟨xmi 681 (by decide +kernel) rfl, xmi 682 (by decide +kernel) rfl, xmi 683 (by decide +kernel) rfl, xmi 7 (by decide +kernel) rfl, xmi 684 (by decide +kernel) rfl, ⟨by decide, by decide, by decide +kernel⟩⟩
theorem xk_LW_74 : xr_KV xBIG "SplitFabricLaw" 74 yMD_data bMD_data 4 none 3 := ⟨xmi 685 (by decide +kernel) rfl, xmi 686 (by decide +kernel) rfl, xmi 687 (by decide +kernel) rfl, xmi 7 (by decide +kernel) rfl, xmi 688 (by decide +kernel) rfl, ⟨by decide, by decide, by decide +kernel⟩⟩
theorem xk_MD_69 : xr_KS xBIG "SplitFabricModel" 69 yMD_isIn bMD_isIn 2 (some .boolean) 2 := ⟨xmi 689 (by decide +kernel) rfl, xmi 690 (by decide +kernel) rfl, xmi 7 (by decide +kernel) rfl, xmi 691 (by decide +kernel) rfl, ⟨by decide, by decide, by decide +kernel⟩⟩
theorem xk_MD_73 : xr_KV xBIG "SplitFabricModel" 73 yMD_refused bMD_refused 2 (some .boolean) 1 := ⟨xmi 692 (by decide +kernel) rfl, xmi 694 (by decide +kernel) rfl, xmp (q := (yMD_refused, 23)) (by decide +kernel) rfl, xmi 7 (by decide +kernel) rfl, xmi 695 (by decide +kernel) rfl, ⟨by decide, by decide, by decide +kernel⟩⟩
theorem xk_LW_82 : xr_KV xBIG "SplitFabricLaw" 82 yMD_issue bMD_issue 10 none 5 := ⟨xmi 696 (by decide +kernel) rfl, xmi 697 (by decide +kernel) rfl, xmi 698 (by decide +kernel) rfl, xmi 7 (by decide +kernel) rfl, xmi 699 (by decide +kernel) rfl, ⟨by decide, by decide, by decide +kernel⟩⟩
theorem xk_MD_80 : xr_KS xBIG "SplitFabricModel" 80 yMD_isSound bMD_isSound 4 (some .boolean) 3 := ⟨xmi 700 (by decide +kernel) rfl, xmi 701 (by decide +kernel) rfl, xmi 7 (by decide +kernel) rfl, xmi 702 (by decide +kernel) rfl, ⟨by decide, by decide, by decide +kernel⟩⟩
theorem xk_MD_84 : xr_KV xBIG "SplitFabricModel" 84 yMD_isAllowed bMD_isAllowed 5 (some .boolean) 4 := ⟨xmi 703 (by decide +kernel) rfl, xmi 705 (by decide +kernel) rfl, xmp (q := (yMD_isAllowed, 23)) (by decide +kernel) rfl, xmi 7 (by decide +kernel) rfl, xmi 706 (by decide +kernel) rfl, ⟨by decide, by decide, by decide +kernel⟩⟩
theorem xk_MD_77 : xr_KV xBIG "SplitFabricModel" 77 yMD_hasWaiting bMD_hasWaiting 6 (some .boolean) 2 := ⟨xmi 707 (by decide +kernel) rfl, xmi 709 (by decide +kernel) rfl, xmp (q := (yMD_hasWaiting, 23)) (by decide +kernel) rfl, xmi 7 (by decide +kernel) rfl, xmi 710 (by decide +kernel) rfl, ⟨by decide, by decide, by decide +kernel⟩⟩
theorem xk_LW_86 : xr_KV xBIG "SplitFabricLaw" 86 yMD_ready bMD_ready 3 none 2 := ⟨xmi 711 (by decide +kernel) rfl, xmi 712 (by decide +kernel) rfl, xmi 713 (by decide +kernel) rfl, xmi 7 (by decide +kernel) rfl, xmi 714 (by decide +kernel) rfl, ⟨by decide, by decide, by decide +kernel⟩⟩
theorem xk_LW_90 : xr_KV xBIG "SplitFabricLaw" 90 yMD_cycle bMD_cycle 1 (some .int) 0 := ⟨xmi 715 (by decide +kernel) rfl, xmi 716 (by decide +kernel) rfl, xmi 717 (by decide +kernel) rfl, xmi 7 (by decide +kernel) rfl, xmi 718 (by decide +kernel) rfl, ⟨by decide, by decide, by decide +kernel⟩⟩
theorem xk_MD_139 : xr_KV xBIG "SplitFabricModel" 139 yMD_one bMD_one 3 (some .int) 0 := ⟨xmi 719 (by decide +kernel) rfl, xmi 721 (by decide +kernel) rfl, xmp (q := (yMD_one, 23)) (by decide +kernel) rfl, xmi 7 (by decide +kernel) rfl, xmi 722 (by decide +kernel) rfl, ⟨by decide, by decide, by decide +kernel⟩⟩
theorem xk_MD_125 : xr_KV xBIG "SplitFabricModel" 125 yMD_firstOf bMD_firstOf 5 (some .int) 1 := ⟨xmi 723 (by decide +kernel) rfl, xmi 725 (by decide +kernel) rfl, xmp (q := (yMD_firstOf, 23)) (by decide +kernel) rfl, xmi 7 (by decide +kernel) rfl, xmi 726 (by decide +kernel) rfl, ⟨by decide, by decide, by decide +kernel⟩⟩
theorem xk_MD_91 : xr_KV xBIG "SplitFabricModel" 91 yMD_target bMD_target 2 (some .int) 1 := ⟨xmi 727 (by decide +kernel) rfl, xmi 729 (by decide +kernel) rfl, xmp (q := (yMD_target, 23)) (by decide +kernel) rfl, xmi 7 (by decide +kernel) rfl, xmi 730 (by decide +kernel) rfl, ⟨by decide, by decide, by decide +kernel⟩⟩
theorem xk_MD_128 : xr_KV xBIG "SplitFabricModel" 128 yMD_serve bMD_serve 4 none 1 := ⟨xmi 731 (by decide +kernel) rfl, xmi 733 (by decide +kernel) rfl, xmp (q := (yMD_serve, 23)) (by decide +kernel) rfl, xmi 7 (by decide +kernel) rfl, xmi 734 (by decide +kernel) rfl, ⟨by decide, by decide, by decide +kernel⟩⟩
theorem xk_MD_132 : xr_KV xBIG "SplitFabricModel" 132 yMD_giveBack bMD_giveBack 4 none 0 := ⟨xmi 735 (by decide +kernel) rfl, xmi 737 (by decide +kernel) rfl, xmp (q := (yMD_giveBack, 23)) (by decide +kernel) rfl, xmi 7 (by decide +kernel) rfl, xmi 738 (by decide +kernel) rfl, ⟨by decide, by decide, by decide +kernel⟩⟩
theorem xk_MD_135 : xr_KV xBIG "SplitFabricModel" 135 yMD_grant bMD_grant 3 (some .int) 0 := ⟨xmi 739 (by decide +kernel) rfl, xmi 741 (by decide +kernel) rfl, xmp (q := (yMD_grant, 23)) (by decide +kernel) rfl, xmi 7 (by decide +kernel) rfl, xmi 742 (by decide +kernel) rfl, ⟨by decide, by decide, by decide +kernel⟩⟩
theorem xk_MD_116 : xr_KV xBIG "SplitFabricModel" 116 yMD_isEligible bMD_isEligible 5 (some .boolean) 1 := ⟨xmi 743 (by decide +kernel) rfl, xmi 745 (by decide +kernel) rfl, xmp (q := (yMD_isEligible, 23)) (by decide +kernel) rfl, xmi 7 (by decide +kernel) rfl, xmi 746 (by decide +kernel) rfl, ⟨by decide, by decide, by decide +kernel⟩⟩
theorem xk_MD_101 : xr_KV xBIG "SplitFabricModel" 101 yMD_isOpen bMD_isOpen 2 (some .boolean) 1 := ⟨xmi 747 (by decide +kernel) rfl, xmi 749 (by decide +kernel) rfl, xmp (q := (yMD_isOpen, 23)) (by decide +kernel) rfl, xmi 7 (by decide +kernel) rfl, xmi 750 (by decide +kernel) rfl, ⟨by decide, by decide, by decide +kernel⟩⟩
theorem xk_MD_104 : xr_KV xBIG "SplitFabricModel" 104 yMD_meet bMD_meet 3 (some .boolean) 2 := ⟨xmi 751 (by decide +kernel) rfl, xmi 753 (by decide +kernel) rfl, xmp (q := (yMD_meet, 23)) (by decide +kernel) rfl, xmi 7 (by decide +kernel) rfl, xmi 754 (by decide +kernel) rfl, ⟨by decide, by decide, by decide +kernel⟩⟩
theorem xk_MD_107 : xr_KV xBIG "SplitFabricModel" 107 yMD_isMapped bMD_isMapped 2 (some .boolean) 1 := ⟨xmi 755 (by decide +kernel) rfl, xmi 757 (by decide +kernel) rfl, xmp (q := (yMD_isMapped, 23)) (by decide +kernel) rfl, xmi 7 (by decide +kernel) rfl, xmi 758 (by decide +kernel) rfl, ⟨by decide, by decide, by decide +kernel⟩⟩
theorem xk_MD_110 : xr_KV xBIG "SplitFabricModel" 110 yMD_creditsOf bMD_creditsOf 4 (some .int) 1 := ⟨xmi 759 (by decide +kernel) rfl, xmi 761 (by decide +kernel) rfl, xmp (q := (yMD_creditsOf, 23)) (by decide +kernel) rfl, xmi 7 (by decide +kernel) rfl, xmi 762 (by decide +kernel) rfl, ⟨by decide, by decide, by decide +kernel⟩⟩
theorem xk_MD_119 : xr_KV xBIG "SplitFabricModel" 119 yMD_isBefore bMD_isBefore 5 (some .boolean) 2 := ⟨xmi 763 (by decide +kernel) rfl, xmi 765 (by decide +kernel) rfl, xmp (q := (yMD_isBefore, 23)) (by decide +kernel) rfl, xmi 7 (by decide +kernel) rfl, xmi 766 (by decide +kernel) rfl, ⟨by decide, by decide, by decide +kernel⟩⟩
theorem xk_MD_113 : xr_KV xBIG "SplitFabricModel" 113 yMD_classOf bMD_classOf 3 (some .int) 1 := ⟨xmi 767 (by decide +kernel) rfl, xmi 769 (by decide +kernel) rfl, xmp (q := (yMD_classOf, 23)) (by decide +kernel) rfl, xmi 7 (by decide +kernel) rfl, xmi 770 (by decide +kernel) rfl, ⟨by decide, by decide, by decide +kernel⟩⟩
theorem xk_LW_94 : xr_KV xBIG "SplitFabricLaw" 94 yMD_cycles bMD_cycles 4 (some .int) 1 := ⟨xmi 771 (by decide +kernel) rfl, xmi 772 (by decide +kernel) rfl, xmi 773 (by decide +kernel) rfl, xmi 7 (by decide +kernel) rfl, xmi 774 (by decide +kernel) rfl, ⟨by decide, by decide, by decide +kernel⟩⟩
theorem xk_LW_98 : xr_KV xBIG "SplitFabricLaw" 98 yMD_time bMD_time 1 (some .int) 0 := ⟨xmi 775 (by decide +kernel) rfl, xmi 776 (by decide +kernel) rfl, xmi 777 (by decide +kernel) rfl, xmi 7 (by decide +kernel) rfl, xmi 778 (by decide +kernel) rfl, ⟨by decide, by decide, by decide +kernel⟩⟩
theorem xk_LW_102 : xr_KV xBIG "SplitFabricLaw" 102 yMD_state bMD_state 3 (some .int) 2 := ⟨xmi 779 (by decide +kernel) rfl, xmi 780 (by decide +kernel) rfl, xmi 781 (by decide +kernel) rfl, xmi 7 (by decide +kernel) rfl, xmi 782 (by decide +kernel) rfl, ⟨by decide, by decide, by decide +kernel⟩⟩
theorem xk_LW_106 : xr_KV xBIG "SplitFabricLaw" 106 yMD_word bMD_word 7 (some .int) 3 := ⟨xmi 783 (by decide +kernel) rfl, xmi 784 (by decide +kernel) rfl, xmi 785 (by decide +kernel) rfl, xmi 7 (by decide +kernel) rfl, xmi 786 (by decide +kernel) rfl, ⟨by decide, by decide, by decide +kernel⟩⟩
theorem xk_LW_109 : xr_KV xBIG "SplitFabricLaw" 109 yMD_take bMD_take 6 (some .boolean) 2 := ⟨xmi 787 (by decide +kernel) rfl, xmi 788 (by decide +kernel) rfl, xmi 789 (by decide +kernel) rfl, xmi 7 (by decide +kernel) rfl, xmi 790 (by decide +kernel) rfl, ⟨by decide, by decide, by decide +kernel⟩⟩
theorem xk_LW_113 : xr_KV xBIG "SplitFabricLaw" 113 yMD_base bMD_base 3 none 2 := ⟨xmi 791 (by decide +kernel) rfl, xmi 792 (by decide +kernel) rfl, xmi 793 (by decide +kernel) rfl, xmi 7 (by decide +kernel) rfl, xmi 794 (by decide +kernel) rfl, ⟨by decide, by decide, by decide +kernel⟩⟩
theorem xk_LW_116 : xr_KV xBIG "SplitFabricLaw" 116 yMD_waits bMD_waits 5 (some .int) 1 := ⟨xmi 795 (by decide +kernel) rfl, xmi 796 (by decide +kernel) rfl, xmi 797 (by decide +kernel) rfl, xmi 7 (by decide +kernel) rfl, xmi 798 (by decide +kernel) rfl, ⟨by decide, by decide, by decide +kernel⟩⟩
theorem xk_LW_119 : xr_KV xBIG "SplitFabricLaw" 119 yMD_reset bMD_reset 5 (some .int) 1 := ⟨xmi 799 (by decide +kernel) rfl, xmi 800 (by decide +kernel) rfl, xmi 801 (by decide +kernel) rfl, xmi 7 (by decide +kernel) rfl, xmi 802 (by decide +kernel) rfl, ⟨by decide, by decide, by decide +kernel⟩⟩
theorem xk_LW_122 : xr_KV xBIG "SplitFabricLaw" 122 yMD_credits bMD_credits 2 (some .int) 1 := ⟨xmi 803 (by decide +kernel) rfl, xmi 804 (by decide +kernel) rfl, xmi 805 (by decide +kernel) rfl, xmi 7 (by decide +kernel) rfl, xmi 806 (by decide +kernel) rfl, ⟨by decide, by decide, by decide +kernel⟩⟩
theorem xk_LW_125 : xr_KV xBIG "SplitFabricLaw" 125 yMD_holder bMD_holder 2 (some .int) 1 := ⟨xmi 807 (by decide +kernel) rfl, xmi 808 (by decide +kernel) rfl, xmi 809 (by decide +kernel) rfl, xmi 7 (by decide +kernel) rfl, xmi 810 (by decide +kernel) rfl, ⟨by decide, by decide, by decide +kernel⟩⟩
theorem xk_LW_128 : xr_KV xBIG "SplitFabricLaw" 128 yMD_memory bMD_memory 2 (some .int) 1 := ⟨xmi 811 (by decide +kernel) rfl, xmi 812 (by decide +kernel) rfl, xmi 813 (by decide +kernel) rfl, xmi 7 (by decide +kernel) rfl, xmi 814 (by decide +kernel) rfl, ⟨by decide, by decide, by decide +kernel⟩⟩
theorem xk_LW_132 : xr_KV xBIG "SplitFabricLaw" 132 yMD_served bMD_served 1 (some .int) 0 := ⟨xmi 815 (by decide +kernel) rfl, xmi 816 (by decide +kernel) rfl, xmi 817 (by decide +kernel) rfl, xmi 7 (by decide +kernel) rfl, xmi 818 (by decide +kernel) rfl, ⟨by decide, by decide, by decide +kernel⟩⟩
theorem xk_LW_135 : xr_KV xBIG "SplitFabricLaw" 135 yMD_service bMD_service 3 (some .int) 2 := ⟨xmi 819 (by decide +kernel) rfl, xmi 820 (by decide +kernel) rfl, xmi 821 (by decide +kernel) rfl, xmi 7 (by decide +kernel) rfl, xmi 822 (by decide +kernel) rfl, ⟨by decide, by decide, by decide +kernel⟩⟩
/-! constants as the machine pushes them -/
theorem xk_im1 : Int32.ofInt (-1) = -1 := by decide
theorem xk_i0 : Int32.ofInt 0 = nI 0 := by decide
theorem xk_i1 : Int32.ofInt 1 = nI 1 := by decide
theorem xk_i2 : Int32.ofInt 2 = nI 2 := by decide
theorem xk_i3 : Int32.ofInt 3 = nI 3 := by decide
theorem xk_i4 : Int32.ofInt 4 = nI 4 := by decide
theorem xk_i5 : Int32.ofInt 5 = nI 5 := by decide
theorem xk_b6 : (Int8.ofInt 6).toInt32 = nI 6 := by decide
theorem xk_b10 : (Int8.ofInt 10).toInt32 = nI 10 := by decide
theorem xk_b15 : (Int8.ofInt 15).toInt32 = nI 15 := by decide
theorem xk_b16 : (Int8.ofInt 16).toInt32 = nI 16 := by decide
theorem xk_b31 : (Int8.ofInt 31).toInt32 = nI 31 := by decide
theorem xk_b48 : (Int8.ofInt 48).toInt32 = nI 48 := by decide
theorem xk_b63 : (Int8.ofInt 63).toInt32 = nI 63 := by decide
theorem xk_b64 : (Int8.ofInt 64).toInt32 = nI 64 := by decide
theorem xk_b100 : (Int8.ofInt 100).toInt32 = nI 100 := by decide
theorem xk_s512 : (Int16.ofInt 512).toInt32 = nI 512 := by decide
theorem xk_s3600 : (Int16.ofInt 3600).toInt32 = nI 3600 := by decide
end
section
/-! Contracts of methods that make no cell: from memory σ to memory σ', with the answer o. -/
def xB (o : Option Value) (I : List (Nat × Nat)) (ad : Nat → Nat → Nat) (E : Nat → Nat → va_E) : xr_B := fun o' I' ad' E' => o' = o ∧ I' = I ∧ ad' = ad ∧ E' = E
def xD (l : Launch) (y : MethodName) (bytes : ByteArray) (maxL : Nat) (ret : Option FieldType) (d : Nat) (av : List Value) (D : va_G) (cA : Nat → ClassId) (tz : Nat) (I : List (Nat × Nat)) (ad : Nat → Nat → Nat) (σ : xMem) (o : Option Value) (σ' : xMem) : Prop :=
  xr_M xBIG xCl (xT cA) D (xZ tz) l y bytes maxL ret d 0 0 av I ad (xc cA tz ad σ) (xB o I ad (xc cA tz ad σ'))
section
variable {p : Program} {l : Launch} {e : Env} {R : Room} {s : State} {m : MethodId} {args : Array Value} {below : List Frame} {meth : Method} {c : Code} {H : Heap} {locs : List Loc} {cells slots : Nat} {Q : State → Prop}
variable {cc : ByteArray} {pc : Nat} {ls : Array Slot} {rest st0 : List Value} {D : va_G} {cA : Nat → ClassId} {tz : Nat} {A : Nat → Prop} {own : String} {I : List (Nat × Nat)} {ad : Nat → Nat → Nat} {σ σ' σ'' : xMem} {r k : Nat}
variable {y : MethodName} {bytes : ByteArray} {maxL d nL n index : Nat} {ret : Option FieldType} {av As : List Value} {o : Option Value}
theorem xd_of (hy : plainName y.cls = true) (hls : (lg_sl av).length ≤ maxL)
    (h : ∀ (p : Program) (e : Env) (s : State) (m : MethodId) (args : Array Value) (below : List Frame) (meth : Method) (c : Code) (A : Nat → Prop) (ls : Array Slot), xr_C xBIG p c bytes y.cls s m args → meth.sig.returnType = ret → meth.locks = false → c.maxLocals = maxL → lv_has ls maxL (lv_args 0 av) → xr_W xCl (xT cA) D I ad (xc cA tz ad σ) A s s.heap [] → xZ tz A s s.heap →
      W p l e (xr_R d 0 0) s m args below meth c s.heap [] 0 0 (MQ below (xr_Q xCl D A (xB o I ad (xc cA tz ad σ'))) args s 0 0 A) (F0 m 0 ls [])) : xD l y bytes maxL ret d av D cA tz I ad σ o σ' :=
  xr_of hy hls (fun p e s m args below meth c A ls C hr hlk hml _ hl w hz => h p e s m args below meth c A ls C hr hlk hml hl w hz)
theorem xd_iret (C : xr_C xBIG p c cc own s m args) (w : xr_W xCl (xT cA) D I ad (xc cA tz ad σ') A s H locs) (hr : meth.sig.returnType = some .int) (hlk : meth.locks = false) (hdg : decode cc pc = .ok (.ireturn, 1)) {v v' : Int32} (hv : v = v') (hσ : σ' = σ'') :
    W p l e R s m args below meth c H locs 0 0 (MQ below (xr_Q xCl D A (xB (some (.int v')) I ad (xc cA tz ad σ''))) args s 0 0 A) (F0 m pc ls [.int v]) :=
  xr_iret C w hr hlk ⟨by rw [hv], rfl, rfl, by rw [hσ]⟩ (Nat.le_refl _) (Nat.le_refl _) hdg
theorem xd_zret (C : xr_C xBIG p c cc own s m args) (w : xr_W xCl (xT cA) D I ad (xc cA tz ad σ') A s H locs) (hr : meth.sig.returnType = some .boolean) (hlk : meth.locks = false) (hdg : decode cc pc = .ok (.ireturn, 1)) {v : Int32} {P : Prop} (hv : v = xb P) (hσ : σ' = σ'') :
    W p l e R s m args below meth c H locs 0 0 (MQ below (xr_Q xCl D A (xB (some (.int (xb P))) I ad (xc cA tz ad σ''))) args s 0 0 A) (F0 m pc ls [.int v]) :=
  xr_zret C w hr (by rw [hv]; exact xb_or P) hlk ⟨by rw [hv], rfl, rfl, by rw [hσ]⟩ (Nat.le_refl _) (Nat.le_refl _) hdg
theorem xd_zt (C : xr_C xBIG p c cc own s m args) (w : xr_W xCl (xT cA) D I ad (xc cA tz ad σ') A s H locs) (hr : meth.sig.returnType = some .boolean) (hlk : meth.locks = false) (hdg : decode cc pc = .ok (.ireturn, 1)) {P : Prop} (hP : P) (hσ : σ' = σ'') :
    W p l e R s m args below meth c H locs 0 0 (MQ below (xr_Q xCl D A (xB (some (.int (xb P))) I ad (xc cA tz ad σ''))) args s 0 0 A) (F0 m pc ls [.int (nI 1)]) := xd_zret C w hr hlk hdg (xb_t hP).symm hσ
theorem xd_zf (C : xr_C xBIG p c cc own s m args) (w : xr_W xCl (xT cA) D I ad (xc cA tz ad σ') A s H locs) (hr : meth.sig.returnType = some .boolean) (hlk : meth.locks = false) (hdg : decode cc pc = .ok (.ireturn, 1)) {P : Prop} (hP : ¬ P) (hσ : σ' = σ'') :
    W p l e R s m args below meth c H locs 0 0 (MQ below (xr_Q xCl D A (xB (some (.int (xb P))) I ad (xc cA tz ad σ''))) args s 0 0 A) (F0 m pc ls [.int (nI 0)]) := xd_zret C w hr hlk hdg (xb_f hP).symm hσ
theorem xd_vret (C : xr_C xBIG p c cc own s m args) (w : xr_W xCl (xT cA) D I ad (xc cA tz ad σ') A s H locs) (hr : meth.sig.returnType = none) (hlk : meth.locks = false) (hdg : decode cc pc = .ok (.return_, 1)) (hσ : σ' = σ'') :
    W p l e R s m args below meth c H locs 0 0 (MQ below (xr_Q xCl D A (xB none I ad (xc cA tz ad σ''))) args s 0 0 A) (F0 m pc ls []) :=
  xr_vret C w hr hlk ⟨rfl, rfl, rfl, by rw [hσ]⟩ (Nat.le_refl _) (Nat.le_refl _) hdg
theorem xd_aret (C : xr_C xBIG p c cc own s m args) (w : xr_W xCl (xT cA) D I ad (xc cA tz ad σ') A s H locs) {nm : String} (hr : meth.sig.returnType = some (.object nm)) (hlk : meth.locks = false) (hdg : decode cc pc = .ok (.areturn, 1)) {v v' : Value} (h : v = .null ∨ ∃ a, v = .ref a) (hv : v = v') (hσ : σ' = σ'') :
    W p l e R s m args below meth c H locs 0 0 (MQ below (xr_Q xCl D A (xB (some v') I ad (xc cA tz ad σ''))) args s 0 0 A) (F0 m pc ls [v]) :=
  xr_aret C w hr (Or.inl ⟨nm, rfl⟩) h hlk ⟨by rw [hv], rfl, rfl, by rw [hσ]⟩ (Nat.le_refl _) (Nat.le_refl _) hdg
theorem xd_callV (C : xr_C xBIG p c cc own s m args) (w : xr_W xCl (xT cA) D I ad (xc cA tz ad σ) A s H locs) (hz : xZ tz A s s.heap) (hml : c.maxLocals = nL) (hls : ls.size = nL)
    (hK : xr_KV xBIG own index y bytes maxL ret n) (hM : xD l y bytes maxL ret d (.ref (ad r k) :: As) D cA tz I ad σ o σ') (hI : (r, k) ∈ I) {ci : Nat} {fs : List Value} (he : xc cA tz ad σ r k = .inr (ci, fs)) {T : u_T} {N : Nat} (hc : xCl[ci]? = some (y.cls, T, N))
    (hn : As.length = n) (hst : st0 = As.reverse ++ .ref (ad r k) :: rest) (hrest : (rest.map fun v => v.category).sum ≤ 8) (hR : d + 1 ≤ R.frames ∧ 8 + (maxL + 11) + 40 * d ≤ R.locals) (hf : cells ≤ R.cells ∧ slots ≤ R.slots) (hdg : decode cc pc = .ok (.invokevirtual index, 3))
    (kk : ∀ (H1 : Heap) (locs1 : List Loc), xr_W xCl (xT cA) D I ad (xc cA tz ad σ') A s H1 locs1 → W p l e R s m args below meth c H1 locs1 cells slots Q (F0 m (pc + 3) ls (o.toList ++ rest))) : W p l e R s m args below meth c H locs cells slots Q (F0 m pc ls st0) := by
  refine xr_callV xG (xZL tz) C w hz hml hls hK hM hI he hc hn hst hrest hR hf hdg (fun o' I' ad' E' H1 locs1 hB w1 => ?_)
  obtain ⟨rfl, rfl, rfl, rfl⟩ := hB
  exact kk H1 locs1 w1
theorem xd_callS (C : xr_C xBIG p c cc own s m args) (w : xr_W xCl (xT cA) D I ad (xc cA tz ad σ) A s H locs) (hz : xZ tz A s s.heap) (hml : c.maxLocals = nL) (hls : ls.size = nL)
    (hK : xr_KS xBIG own index y bytes maxL ret n) (hM : xD l y bytes maxL ret d As D cA tz I ad σ o σ')
    (hn : As.length = n) (hst : st0 = As.reverse ++ rest) (hrest : (rest.map fun v => v.category).sum ≤ 8) (hR : d + 1 ≤ R.frames ∧ 8 + (maxL + 11) + 40 * d ≤ R.locals) (hf : cells ≤ R.cells ∧ slots ≤ R.slots) (hdg : decode cc pc = .ok (.invokestatic index, 3))
    (kk : ∀ (H1 : Heap) (locs1 : List Loc), xr_W xCl (xT cA) D I ad (xc cA tz ad σ') A s H1 locs1 → W p l e R s m args below meth c H1 locs1 cells slots Q (F0 m (pc + 3) ls (o.toList ++ rest))) : W p l e R s m args below meth c H locs cells slots Q (F0 m pc ls st0) := by
  refine xr_callS xG (xZL tz) C w hz hml hls hK hM hn hst hrest hR hf hdg (fun o' I' ad' E' H1 locs1 hB w1 => ?_)
  obtain ⟨rfl, rfl, rfl, rfl⟩ := hB
  exact kk H1 locs1 w1
end
end
section
/-! Which cells there are; stores and loads over the memory. -/
def xI (I : List (Nat × Nat)) : Prop := (∀ k, k < 16 → (0, k) ∈ I) ∧ (∀ k, k < 16 → (1, k) ∈ I) ∧ (∀ k, k < 3 → (2, k) ∈ I) ∧ (∀ k, k < 3 → (3, k) ∈ I) ∧ (∀ k, k < 4 → (4, k) ∈ I) ∧ ∀ k, 5 ≤ k → k < 12 → (k, 0) ∈ I
def xJ (I : List (Nat × Nat)) : Prop := ∀ k, 20 ≤ k → k < 37 → (k, 0) ∈ I
theorem xI0 {I : List (Nat × Nat)} (h : xI I) {k : Nat} (hk : k < 16) : (0, k) ∈ I := h.1 k hk
theorem xI1 {I : List (Nat × Nat)} (h : xI I) {k : Nat} (hk : k < 16) : (1, k) ∈ I := h.2.1 k hk
theorem xI2 {I : List (Nat × Nat)} (h : xI I) {k : Nat} (hk : k < 3) : (2, k) ∈ I := h.2.2.1 k hk
theorem xI3 {I : List (Nat × Nat)} (h : xI I) {k : Nat} (hk : k < 3) : (3, k) ∈ I := h.2.2.2.1 k hk
theorem xI4 {I : List (Nat × Nat)} (h : xI I) {k : Nat} (hk : k < 4) : (4, k) ∈ I := h.2.2.2.2.1 k hk
theorem xI5 {I : List (Nat × Nat)} (h : xI I) : (5, 0) ∈ I := h.2.2.2.2.2 5 (by decide) (by decide)
theorem xI6 {I : List (Nat × Nat)} (h : xI I) : (6, 0) ∈ I := h.2.2.2.2.2 6 (by decide) (by decide)
theorem xI7 {I : List (Nat × Nat)} (h : xI I) : (7, 0) ∈ I := h.2.2.2.2.2 7 (by decide) (by decide)
theorem xI8 {I : List (Nat × Nat)} (h : xI I) : (8, 0) ∈ I := h.2.2.2.2.2 8 (by decide) (by decide)
theorem xI9 {I : List (Nat × Nat)} (h : xI I) : (9, 0) ∈ I := h.2.2.2.2.2 9 (by decide) (by decide)
theorem xI10 {I : List (Nat × Nat)} (h : xI I) : (10, 0) ∈ I := h.2.2.2.2.2 10 (by decide) (by decide)
theorem xI11 {I : List (Nat × Nat)} (h : xI I) : (11, 0) ∈ I := h.2.2.2.2.2 11 (by decide) (by decide)
theorem xJ20 {I : List (Nat × Nat)} (h : xJ I) : (20, 0) ∈ I := h 20 (by decide) (by decide)
theorem xJ21 {I : List (Nat × Nat)} (h : xJ I) : (21, 0) ∈ I := h 21 (by decide) (by decide)
theorem xJ22 {I : List (Nat × Nat)} (h : xJ I) : (22, 0) ∈ I := h 22 (by decide) (by decide)
theorem xJ23 {I : List (Nat × Nat)} (h : xJ I) : (23, 0) ∈ I := h 23 (by decide) (by decide)
theorem xJ24 {I : List (Nat × Nat)} (h : xJ I) : (24, 0) ∈ I := h 24 (by decide) (by decide)
theorem xJ25 {I : List (Nat × Nat)} (h : xJ I) : (25, 0) ∈ I := h 25 (by decide) (by decide)
theorem xJ26 {I : List (Nat × Nat)} (h : xJ I) : (26, 0) ∈ I := h 26 (by decide) (by decide)
theorem xJ27 {I : List (Nat × Nat)} (h : xJ I) : (27, 0) ∈ I := h 27 (by decide) (by decide)
theorem xJ28 {I : List (Nat × Nat)} (h : xJ I) : (28, 0) ∈ I := h 28 (by decide) (by decide)
theorem xJ29 {I : List (Nat × Nat)} (h : xJ I) : (29, 0) ∈ I := h 29 (by decide) (by decide)
theorem xJ30 {I : List (Nat × Nat)} (h : xJ I) : (30, 0) ∈ I := h 30 (by decide) (by decide)
theorem xJ31 {I : List (Nat × Nat)} (h : xJ I) : (31, 0) ∈ I := h 31 (by decide) (by decide)
theorem xJ32 {I : List (Nat × Nat)} (h : xJ I) : (32, 0) ∈ I := h 32 (by decide) (by decide)
theorem xJ33 {I : List (Nat × Nat)} (h : xJ I) : (33, 0) ∈ I := h 33 (by decide) (by decide)
theorem xJ34 {I : List (Nat × Nat)} (h : xJ I) : (34, 0) ∈ I := h 34 (by decide) (by decide)
theorem xJ35 {I : List (Nat × Nat)} (h : xJ I) : (35, 0) ∈ I := h 35 (by decide) (by decide)
theorem xJ36 {I : List (Nat × Nat)} (h : xJ I) : (36, 0) ∈ I := h 36 (by decide) (by decide)
section
variable {p : Program} {l : Launch} {e : Env} {R : Room} {s : State} {m : MethodId} {args : Array Value} {below : List Frame} {meth : Method} {c : Code} {H : Heap} {locs : List Loc} {cells slots : Nat} {Q : State → Prop} {cc : ByteArray} {pc : Nat} {ls : Array Slot} {rest : List Value} {D : va_G} {cA : Nat → ClassId} {tz : Nat} {A : Nat → Prop} {I : List (Nat × Nat)} {ad : Nat → Nat → Nat} {σ : xMem} {own : String} {r k : Nat}
theorem xs_iast (C : xr_C xBIG p c cc own s m args) (w : xr_W xCl (xT cA) D I ad (xc cA tz ad σ) A s H locs) (hI : (r, k) ∈ I) {n : Nat} (hf : ∀ f, xcell cA tz ad r k f = .inl (cA 0, n, .inl f)) {i x : Int32} (j : Nat) (hi : i = nI j) (hj : j < n) (hn : n < 2 ^ 31) (hdg : decode cc pc = .ok (.iastore, 1))
    (kk : ∀ (H1 : Heap) (locs1 : List Loc), xr_W xCl (xT cA) D I ad (xc cA tz ad (xu3 σ r k j x)) A s H1 locs1 → W p l e R s m args below meth c H1 locs1 cells slots Q (F0 m (pc + 1) ls rest)) : W p l e R s m args below meth c H locs cells slots Q (F0 m pc ls (.int x :: .int i :: .ref (ad r k) :: rest)) := by
  refine xr_iast C w hI (hf (σ r k)) 0 rfl j hi hj hn hdg (fun H1 locs1 w1 => kk H1 locs1 ?_)
  rw [← hf, xc_up] at w1
  exact w1
theorem xs_zast (C : xr_C xBIG p c cc own s m args) (w : xr_W xCl (xT cA) D I ad (xc cA tz ad σ) A s H locs) (hI : (r, k) ∈ I) {n : Nat} (hf : ∀ f, xcell cA tz ad r k f = .inl (cA 5, n, .inl f)) {i x : Int32} (hx : x = nI 0 ∨ x = nI 1) (j : Nat) (hi : i = nI j) (hj : j < n) (hn : n < 2 ^ 31) (hdg : decode cc pc = .ok (.bastore, 1))
    (kk : ∀ (H1 : Heap) (locs1 : List Loc), xr_W xCl (xT cA) D I ad (xc cA tz ad (xu3 σ r k j x)) A s H1 locs1 → W p l e R s m args below meth c H1 locs1 cells slots Q (F0 m (pc + 1) ls rest)) : W p l e R s m args below meth c H locs cells slots Q (F0 m pc ls (.int x :: .int i :: .ref (ad r k) :: rest)) := by
  refine xr_zast C w hI (hf (σ r k)) 5 rfl (by rcases hx with h | h <;> subst h <;> decide +kernel) j hi hj hn hdg (fun H1 locs1 w1 => kk H1 locs1 ?_)
  rw [← hf, xc_up] at w1
  exact w1
theorem xs_copy (C : xr_C xBIG p c cc own s m args) (w : xr_W xCl (xT cA) D I ad (xc cA tz ad σ) A s H locs) (hml : c.maxLocals = ls.size) {r2 k2 : Nat} (hI : (r, k) ∈ I) (hI2 : (r2, k2) ∈ I) {n1 n2 : Nat} (hf : ∀ f, xcell cA tz ad r k f = .inl (cA 0, n1, .inl f)) (hf2 : ∀ f, xcell cA tz ad r2 k2 f = .inl (cA 0, n2, .inl f))
    {index : Nat} (hlink : Cond.methodLink own index arraycopyName ∈ xBIG) (hnat : Cond.native arraycopyName ∈ xBIG) (hstat : Cond.static arraycopyName ∈ xBIG) (hini : Cond.initialized "java/lang/System" ∈ xBIG)
    {x y z : Int32} (a b n : Nat) (hx2 : x = nI a) (hy2 : y = nI b) (hz2 : z = nI n) (h1 : a + n ≤ n1) (h2 : b + n ≤ n2) (hb1 : n1 < 2 ^ 31) (hb2 : n2 < 2 ^ 31)
    (hframes : 1 ≤ R.frames) (hlocals : (rest.map fun v => v.category).sum + (nativeFrameWords "java/lang/System" "arraycopy" 5 + 11) ≤ R.locals) (hdg : decode cc pc = .ok (.invokestatic index, 3))
    (kk : ∀ (H1 : Heap) (locs1 : List Loc), xr_W xCl (xT cA) D I ad (xc cA tz ad (xw_u2 σ r2 k2 (va_cpy (σ r k) (σ r2 k2) a b n))) A s H1 locs1 → W p l e R s m args below meth c H1 locs1 cells slots Q (F0 m (pc + 3) ls rest)) : W p l e R s m args below meth c H locs cells slots Q (F0 m pc ls (.int z :: .int y :: .ref (ad r2 k2) :: .int x :: .ref (ad r k) :: rest)) := by
  refine xr_copy C w hml hI hI2 (hf (σ r k)) (hf2 (σ r2 k2)) 0 0 rfl rfl hlink hnat hstat hini a b n hx2 hy2 hz2 h1 h2 hb1 hb2 hframes hlocals hdg (fun H1 locs1 w1 => kk H1 locs1 ?_)
  rw [← hf2, xc_up] at w1
  exact w1
theorem xv_fill_at {n : Nat} {x : Int32} {g : Nat → Nat} {j : Nat} (hx : x = nI n) (hn : n < 2 ^ 31) (hj : j < n) : xv_fill x.toNatClampNeg g j = some (g j) := by
  subst hx
  rw [nI_clamp hn]
  exact if_pos hj
theorem xa_6 (C : xr_C xBIG p c cc own s m args) (w : xr_W xCl (xT cA) D I ad (xc cA tz ad σ) A s H locs) (hI : (6, 0) ∈ I) (h6 : σ 6 0 0 = nI 16) {i : Int32} (j : Nat) (hi : i = nI j) (hj : j < 16) (hdg : decode cc pc = .ok (.aaload, 1))
    (kk : W p l e R s m args below meth c H locs cells slots Q (F0 m (pc + 1) ls (.ref (ad 0 j) :: rest))) : W p l e R s m args below meth c H locs cells slots Q (F0 m pc ls (.int i :: .ref (ad 6 0) :: rest)) :=
  xr_aald C w hI rfl 1 rfl rfl j hi hj (by decide) (xv_fill_at h6 (by decide) hj) hdg kk
theorem xa_7 (C : xr_C xBIG p c cc own s m args) (w : xr_W xCl (xT cA) D I ad (xc cA tz ad σ) A s H locs) (hI : (7, 0) ∈ I) (h7 : σ 7 0 0 = nI 3) {i : Int32} (j : Nat) (hi : i = nI j) (hj : j < 3) (hdg : decode cc pc = .ok (.aaload, 1))
    (kk : W p l e R s m args below meth c H locs cells slots Q (F0 m (pc + 1) ls (.ref (ad 2 j) :: rest))) : W p l e R s m args below meth c H locs cells slots Q (F0 m pc ls (.int i :: .ref (ad 7 0) :: rest)) :=
  xr_aald C w hI rfl 2 rfl rfl j hi hj (by decide) (xv_fill_at h7 (by decide) hj) hdg kk
theorem xa_9 (C : xr_C xBIG p c cc own s m args) (w : xr_W xCl (xT cA) D I ad (xc cA tz ad σ) A s H locs) (hI : (9, 0) ∈ I) {i : Int32} (j : Nat) (hi : i = nI j) (hj : j < 4) (hdg : decode cc pc = .ok (.aaload, 1))
    (kk : W p l e R s m args below meth c H locs cells slots Q (F0 m (pc + 1) ls (.ref (ad 4 j) :: rest))) : W p l e R s m args below meth c H locs cells slots Q (F0 m pc ls (.int i :: .ref (ad 9 0) :: rest)) :=
  xr_aald C w hI rfl 3 rfl rfl j hi hj (by decide) rfl hdg kk
end
/-- a loop that counts up -/
theorem xl_up {Wg : Heap → List Loc → Array Slot → Prop} {K : Nat → Heap → List Loc → Array Slot → Prop} (e : Nat) (hx : ∀ H locs ls, K e H locs ls → Wg H locs ls) (hs : ∀ i H locs ls, i < e → K i H locs ls → (∀ H locs ls, K (i + 1) H locs ls → Wg H locs ls) → Wg H locs ls) :
    ∀ i H locs ls, i ≤ e → K i H locs ls → Wg H locs ls := by
  have key : ∀ n i H locs ls, i + n = e → K i H locs ls → Wg H locs ls := by
    intro n
    induction n with
    | zero =>
      intro i H locs ls hi hk
      have : i = e := by omega
      subst this
      exact hx H locs ls hk
    | succ n ih =>
      intro i H locs ls hi hk
      exact hs i H locs ls (by omega) hk (fun H locs ls hk => ih (i + 1) H locs ls (by omega) hk)
  intro i H locs ls hi hk
  exact key (e - i) i H locs ls (by omega) hk
theorem xl_s {i : Nat} {p : Nat → Prop} (h : ∀ a, a < i → p a) (hi : p i) : ∀ a, a < i + 1 → p a := by
  intro a ha
  by_cases e : a = i
  · rw [e]; exact hi
  · exact h a (by omega)
theorem xl_0 {p : Nat → Prop} : ∀ a, a < 0 → p a := fun a h => absurd h (Nat.not_lt_zero a)
/-- a reference to a tag, or none -/
def xo (ad : Nat → Nat → Nat) (o : Option Nat) : Value := match o with
  | none => .null
  | some k => .ref (ad 0 k)
theorem xk_cpS : Cond.static arraycopyName ∈ xBIG := xmi 185 (by decide +kernel) rfl
theorem xk_cpN : Cond.native arraycopyName ∈ xBIG := xmi 186 (by decide +kernel) rfl
theorem xk_cpI : Cond.initialized "java/lang/System" ∈ xBIG := xmi 14 (by decide +kernel) rfl
theorem xk_cp_TA : Cond.methodLink "SplitFabric$Target" 29 arraycopyName ∈ xBIG := xmi 184 (by decide +kernel) rfl
theorem xk_cp_TG : Cond.methodLink "SplitFabric$Tag" 47 arraycopyName ∈ xBIG := xmi 282 (by decide +kernel) rfl
theorem xk_cp_SF : Cond.methodLink "SplitFabric" 195 arraycopyName ∈ xBIG := xmi 283 (by decide +kernel) rfl
theorem xk_mnL : Cond.methodLink "SplitFabric" 222 Lib.Math.min.name ∈ xBIG := xmi 339 (by decide +kernel) rfl
theorem xk_mnS : Cond.static Lib.Math.min.name ∈ xBIG := xmi 269 (by decide +kernel) rfl
theorem xk_mnI : Cond.initialized "java/lang/Math" ∈ xBIG := xmi 17 (by decide +kernel) rfl
theorem xk_mnC : Cond.code Lib.Math.min.name Lib.Math.min.code 2 (some .int) ∈ xBIG := xmi 270 (by decide +kernel) rfl
end
section
/-! What the class's methods ask of the memory. -/
def xp_open (σ : xMem) (k : Nat) : Prop := σ 0 k 3 = nI 1 ∨ σ 0 k 3 = nI 2
def xp_read (σ : xMem) (k : Nat) : Prop := σ 0 k 4 = nI 0 ∨ σ 0 k 4 = nI 2
def xp_unm (σ : xMem) (k : Nat) : Prop := nI 48 ≤ σ 0 k 5
def xp_ord (σ : xMem) (j k : Nat) : Prop := σ 0 j 7 < σ 0 k 7
def xp_over (σ : xMem) (j k : Nat) : Prop := σ 0 j 5 < σ 0 k 5 + σ 0 k 6 ∧ σ 0 k 5 < σ 0 j 5 + σ 0 j 6
def xp_back (σ : xMem) (j k : Nat) : Prop := ((σ 0 j 4 = nI 4 ∨ σ 0 k 4 = nI 4) ∧ xp_open σ j) ∨ (¬ (σ 0 j 4 = nI 4 ∨ σ 0 k 4 = nI 4) ∧ σ 0 j 3 = nI 1 ∧ xp_over σ j k)
noncomputable def xf_class (σ : xMem) (k : Nat) : Int32 := if nI 2 < σ 10 0 (k / 4) + σ 0 k 8 / nI 16 then nI 2 else σ 10 0 (k / 4) + σ 0 k 8 / nI 16
def xp_goes (σ : xMem) (k b : Nat) : Prop := 0 < xf_class σ k - xf_class σ b ∨ (xf_class σ k - xf_class σ b = 0 ∧ σ 0 k 0 = σ 0 b 0 ∧ xp_ord σ k b)
def xp_adm (σ : xMem) (k t : Nat) : Prop := 0 < σ 2 t 2 ∧ (σ 2 t 3 = -1 ∨ (σ 0 k 4 = nI 3 ∧ σ 2 t 3 = σ 0 k 0))
/-- the target of a tag, by its address -/
def xf_tgt (σ : xMem) (k : Nat) : Nat := (σ 0 k 5).toNatClampNeg / 16
def xp_elig (σ : xMem) (k : Nat) : Prop := σ 0 k 3 = nI 1 ∧ (∀ j, j < 4 → ¬ (xp_ord σ (4 * (k / 4) + j) k ∧ xp_back σ (4 * (k / 4) + j) k)) ∧ (σ 0 k 4 = nI 4 ∨ xp_unm σ k ∨ xp_adm σ k (xf_tgt σ k))
def xp_some (σ : xMem) (x : Int32) : Prop := ∃ t, t < 3 ∧ σ 2 t 3 = x
def xp_wait (σ : xMem) (a : Nat) (x : Int32) : Prop := ∃ j, j < 4 ∧ σ 0 (4 * a + j) 3 = nI 1 ∧ σ 0 (4 * a + j) 4 = x
/-- what all tags keep: whose they are, an address and a length in range -/
def xv_tags (σ : xMem) : Prop := σ 6 0 0 = nI 16 ∧ σ 7 0 0 = nI 3 ∧ ∀ k, k < 16 → σ 0 k 0 = nI (k / 4) ∧ σ 0 k 1 = nI (k % 4) ∧ (∃ q, q < 64 ∧ σ 0 k 5 = nI q) ∧ ∃ n, n ≤ 4 ∧ σ 0 k 6 = nI n
theorem xf_tgt_of {σ : xMem} {k q : Nat} (h : σ 0 k 5 = nI q) (hq : q < 64) : xf_tgt σ k = q / 16 := by
  unfold xf_tgt
  rw [h, nI_clamp (by omega)]
noncomputable def xf_cand (g : Nat) (i : Nat) : Nat := 4 * ((g + (i / 4 + 1)) % 4) + i % 4
noncomputable def xf_best (σ : xMem) (g : Nat) : Nat → Option Nat := xf_it (xp_elig σ) (xp_goes σ) (xf_cand g)
theorem xf_it_in {el : Nat → Prop} {bt : Nat → Nat → Prop} {cand : Nat → Nat} : ∀ i b, xf_it el bt cand i = some b → ∃ j, j < i ∧ cand j = b := by
  intro i
  induction i with
  | zero => intro b h; simp [xf_it] at h
  | succ i ih =>
    intro b h
    have hs : xf_it el bt cand (i + 1) = xf_step el bt (xf_it el bt cand i) (cand i) := rfl
    rw [hs] at h
    unfold xf_step at h
    by_cases hc : el (cand i) ∧ ∀ x, xf_it el bt cand i = some x → bt (cand i) x
    · rw [xif_t hc] at h
      cases h
      exact ⟨i, by omega, rfl⟩
    · rw [xif_f hc] at h
      obtain ⟨j, hj, e⟩ := ih b h
      exact ⟨j, by omega, e⟩
theorem xf_cand_lt (g i : Nat) : xf_cand g i < 16 := by
  unfold xf_cand
  omega
theorem xf_best_lt {σ : xMem} {g i b : Nat} (h : xf_best σ g i = some b) : b < 16 := by
  obtain ⟨j, -, e⟩ := xf_it_in i b h
  rw [← e]
  exact xf_cand_lt g j
end
section
/-! Tag. -/
set_option maxRecDepth 100000 in
set_option maxHeartbeats 4000000 in
theorem cTG_isOpen (l : Launch) (D : va_G) (cA : Nat → ClassId) (tz : Nat) (I : List (Nat × Nat)) (ad : Nat → Nat → Nat) (σ : xMem) (k : Nat) (hI : xI I) (hk : k < 16) : xD l yTG_isOpen bTG_isOpen 1 (some .boolean) 1 [.ref (ad 0 k)] D cA tz I ad σ (some (.int (xb (xp_open σ k)))) σ := by
  refine xd_of (by decide) (by simp [lg_sl, Value.category]) ?_
  intro p e s m args below meth c A ls C hr hlk hml hl w hz
  obtain ⟨hx, hb, hown, hts⟩ := id C
  have hl : lv_has ls 1 [(0, .ref (ad 0 k))] := hl
  refine lv_aload_n hx hb dTG_isOpen_0 rfl (lv_at hl 0 rfl) ?_
  refine xg_TG_15 C w (xI0 hI (by omega)) dTG_isOpen_1 ?_
  refine lv_iconst (v := nI 1) hx hb dTG_isOpen_4 xk_i1 ?_
  refine lv_icmp_eq hx hb dTG_isOpen_5 rfl (fun hh1 => ?_) (fun hh1 => ?_)
  · skip
    refine lv_iconst (v := nI 1) hx hb dTG_isOpen_16 xk_i1 ?_
    refine lv_goto hx hb dTG_isOpen_17 rfl ?_
    exact xd_zt C w hr hlk dTG_isOpen_21 (by unfold xp_open; grind [nI_0]) rfl
  · skip
    refine lv_aload_n hx hb dTG_isOpen_8 rfl (lv_at hl 0 rfl) ?_
    refine xg_TG_15 C w (xI0 hI (by omega)) dTG_isOpen_9 ?_
    refine lv_iconst (v := nI 2) hx hb dTG_isOpen_12 xk_i2 ?_
    refine lv_icmp_ne hx hb dTG_isOpen_13 rfl (fun hh2 => ?_) (fun hh2 => ?_)
    · skip
      refine lv_iconst (v := nI 0) hx hb dTG_isOpen_20 xk_i0 ?_
      exact xd_zf C w hr hlk dTG_isOpen_21 (by unfold xp_open; grind [nI_0]) rfl
    · skip
      refine lv_iconst (v := nI 1) hx hb dTG_isOpen_16 xk_i1 ?_
      refine lv_goto hx hb dTG_isOpen_17 rfl ?_
      exact xd_zt C w hr hlk dTG_isOpen_21 (by unfold xp_open; grind [nI_0]) rfl
set_option maxRecDepth 100000 in
set_option maxHeartbeats 4000000 in
theorem cTG_isReading (l : Launch) (D : va_G) (cA : Nat → ClassId) (tz : Nat) (I : List (Nat × Nat)) (ad : Nat → Nat → Nat) (σ : xMem) (k : Nat) (hI : xI I) (hk : k < 16) : xD l yTG_isReading bTG_isReading 1 (some .boolean) 1 [.ref (ad 0 k)] D cA tz I ad σ (some (.int (xb (xp_read σ k)))) σ := by
  refine xd_of (by decide) (by simp [lg_sl, Value.category]) ?_
  intro p e s m args below meth c A ls C hr hlk hml hl w hz
  obtain ⟨hx, hb, hown, hts⟩ := id C
  have hl : lv_has ls 1 [(0, .ref (ad 0 k))] := hl
  refine lv_aload_n hx hb dTG_isReading_0 rfl (lv_at hl 0 rfl) ?_
  refine xg_TG_19 C w (xI0 hI (by omega)) dTG_isReading_1 ?_
  refine lv_if_eq hx hb dTG_isReading_4 rfl (fun hh1 => ?_) (fun hh1 => ?_)
  · skip
    refine lv_iconst (v := nI 1) hx hb dTG_isReading_15 xk_i1 ?_
    refine lv_goto hx hb dTG_isReading_16 rfl ?_
    exact xd_zt C w hr hlk dTG_isReading_20 (by unfold xp_read; grind [nI_0]) rfl
  · skip
    refine lv_aload_n hx hb dTG_isReading_7 rfl (lv_at hl 0 rfl) ?_
    refine xg_TG_19 C w (xI0 hI (by omega)) dTG_isReading_8 ?_
    refine lv_iconst (v := nI 2) hx hb dTG_isReading_11 xk_i2 ?_
    refine lv_icmp_ne hx hb dTG_isReading_12 rfl (fun hh2 => ?_) (fun hh2 => ?_)
    · skip
      refine lv_iconst (v := nI 0) hx hb dTG_isReading_19 xk_i0 ?_
      exact xd_zf C w hr hlk dTG_isReading_20 (by unfold xp_read; grind [nI_0]) rfl
    · skip
      refine lv_iconst (v := nI 1) hx hb dTG_isReading_15 xk_i1 ?_
      refine lv_goto hx hb dTG_isReading_16 rfl ?_
      exact xd_zt C w hr hlk dTG_isReading_20 (by unfold xp_read; grind [nI_0]) rfl
set_option maxRecDepth 100000 in
set_option maxHeartbeats 4000000 in
theorem cTG_isUnmapped (l : Launch) (D : va_G) (cA : Nat → ClassId) (tz : Nat) (I : List (Nat × Nat)) (ad : Nat → Nat → Nat) (σ : xMem) (k : Nat) (hI : xI I) (hk : k < 16) : xD l yTG_isUnmapped bTG_isUnmapped 1 (some .boolean) 1 [.ref (ad 0 k)] D cA tz I ad σ (some (.int (xb (xp_unm σ k)))) σ := by
  refine xd_of (by decide) (by simp [lg_sl, Value.category]) ?_
  intro p e s m args below meth c A ls C hr hlk hml hl w hz
  obtain ⟨hx, hb, hown, hts⟩ := id C
  have hl : lv_has ls 1 [(0, .ref (ad 0 k))] := hl
  refine lv_aload_n hx hb dTG_isUnmapped_0 rfl (lv_at hl 0 rfl) ?_
  refine xg_TG_22 C w (xI0 hI (by omega)) dTG_isUnmapped_1 ?_
  refine lv_bipush (v := nI 48) hx hb dTG_isUnmapped_4 xk_b48 ?_
  refine lv_icmp_lt hx hb dTG_isUnmapped_6 rfl (fun hh1 => ?_) (fun hh1 => ?_)
  · skip
    refine lv_iconst (v := nI 0) hx hb dTG_isUnmapped_13 xk_i0 ?_
    exact xd_zf C w hr hlk dTG_isUnmapped_14 (by unfold xp_unm; grind [nI_0]) rfl
  · skip
    refine lv_iconst (v := nI 1) hx hb dTG_isUnmapped_9 xk_i1 ?_
    refine lv_goto hx hb dTG_isUnmapped_10 rfl ?_
    exact xd_zt C w hr hlk dTG_isUnmapped_14 (by unfold xp_unm; grind [nI_0]) rfl
set_option maxRecDepth 100000 in
set_option maxHeartbeats 4000000 in
theorem cTG_isBefore (l : Launch) (D : va_G) (cA : Nat → ClassId) (tz : Nat) (I : List (Nat × Nat)) (ad : Nat → Nat → Nat) (σ : xMem) (j k : Nat) (hI : xI I) (hj : j < 16) (hk : k < 16) : xD l yTG_isBefore bTG_isBefore 2 (some .boolean) 1 [.ref (ad 0 j), .ref (ad 0 k)] D cA tz I ad σ (some (.int (xb (xp_ord σ j k)))) σ := by
  refine xd_of (by decide) (by simp [lg_sl, Value.category]) ?_
  intro p e s m args below meth c A ls C hr hlk hml hl w hz
  obtain ⟨hx, hb, hown, hts⟩ := id C
  have hl : lv_has ls 2 [(0, .ref (ad 0 j)), (1, .ref (ad 0 k))] := hl
  refine lv_aload_n hx hb dTG_isBefore_0 rfl (lv_at hl 0 rfl) ?_
  refine xg_TG_28 C w (xI0 hI (by omega)) dTG_isBefore_1 ?_
  refine lv_aload_n hx hb dTG_isBefore_4 rfl (lv_at hl 1 rfl) ?_
  refine xg_TG_28 C w (xI0 hI (by omega)) dTG_isBefore_5 ?_
  refine lv_icmp_ge hx hb dTG_isBefore_8 rfl (fun hh1 => ?_) (fun hh1 => ?_)
  · skip
    refine lv_iconst (v := nI 0) hx hb dTG_isBefore_15 xk_i0 ?_
    exact xd_zf C w hr hlk dTG_isBefore_16 (by unfold xp_ord; grind [nI_0]) rfl
  · skip
    refine lv_iconst (v := nI 1) hx hb dTG_isBefore_11 xk_i1 ?_
    refine lv_goto hx hb dTG_isBefore_12 rfl ?_
    exact xd_zt C w hr hlk dTG_isBefore_16 (by unfold xp_ord; grind [nI_0]) rfl
set_option maxRecDepth 100000 in
set_option maxHeartbeats 4000000 in
theorem cTG_overlaps (l : Launch) (D : va_G) (cA : Nat → ClassId) (tz : Nat) (I : List (Nat × Nat)) (ad : Nat → Nat → Nat) (σ : xMem) (j k : Nat) (hI : xI I) (hj : j < 16) (hk : k < 16) : xD l yTG_overlaps bTG_overlaps 2 (some .boolean) 1 [.ref (ad 0 j), .ref (ad 0 k)] D cA tz I ad σ (some (.int (xb (xp_over σ j k)))) σ := by
  refine xd_of (by decide) (by simp [lg_sl, Value.category]) ?_
  intro p e s m args below meth c A ls C hr hlk hml hl w hz
  obtain ⟨hx, hb, hown, hts⟩ := id C
  have hl : lv_has ls 2 [(0, .ref (ad 0 j)), (1, .ref (ad 0 k))] := hl
  refine lv_aload_n hx hb dTG_overlaps_0 rfl (lv_at hl 0 rfl) ?_
  refine xg_TG_22 C w (xI0 hI (by omega)) dTG_overlaps_1 ?_
  refine lv_aload_n hx hb dTG_overlaps_4 rfl (lv_at hl 1 rfl) ?_
  refine xg_TG_22 C w (xI0 hI (by omega)) dTG_overlaps_5 ?_
  refine lv_aload_n hx hb dTG_overlaps_8 rfl (lv_at hl 1 rfl) ?_
  refine xg_TG_25 C w (xI0 hI (by omega)) dTG_overlaps_9 ?_
  refine lv_iadd hx hb dTG_overlaps_12 ?_
  refine lv_icmp_ge hx hb dTG_overlaps_13 rfl (fun hh1 => ?_) (fun hh1 => ?_)
  · skip
    refine lv_iconst (v := nI 0) hx hb dTG_overlaps_36 xk_i0 ?_
    exact xd_zf C w hr hlk dTG_overlaps_37 (by unfold xp_over; grind [nI_0]) rfl
  · skip
    refine lv_aload_n hx hb dTG_overlaps_16 rfl (lv_at hl 1 rfl) ?_
    refine xg_TG_22 C w (xI0 hI (by omega)) dTG_overlaps_17 ?_
    refine lv_aload_n hx hb dTG_overlaps_20 rfl (lv_at hl 0 rfl) ?_
    refine xg_TG_22 C w (xI0 hI (by omega)) dTG_overlaps_21 ?_
    refine lv_aload_n hx hb dTG_overlaps_24 rfl (lv_at hl 0 rfl) ?_
    refine xg_TG_25 C w (xI0 hI (by omega)) dTG_overlaps_25 ?_
    refine lv_iadd hx hb dTG_overlaps_28 ?_
    refine lv_icmp_ge hx hb dTG_overlaps_29 rfl (fun hh2 => ?_) (fun hh2 => ?_)
    · skip
      refine lv_iconst (v := nI 0) hx hb dTG_overlaps_36 xk_i0 ?_
      exact xd_zf C w hr hlk dTG_overlaps_37 (by unfold xp_over; grind [nI_0]) rfl
    · skip
      refine lv_iconst (v := nI 1) hx hb dTG_overlaps_32 xk_i1 ?_
      refine lv_goto hx hb dTG_overlaps_33 rfl ?_
      exact xd_zt C w hr hlk dTG_overlaps_37 (by unfold xp_over; grind [nI_0]) rfl
set_option maxRecDepth 100000 in
set_option maxHeartbeats 4000000 in
theorem cTG_begin (l : Launch) (D : va_G) (cA : Nat → ClassId) (tz : Nat) (I : List (Nat × Nat)) (ad : Nat → Nat → Nat) (σ : xMem) (k : Nat) (a1 a2 a3 a4 : Int32) (hI : xI I) (hk : k < 16) : xD l yTG_begin bTG_begin 5 none 1 [.ref (ad 0 k), .int a1, .int a2, .int a3, .int a4] D cA tz I ad σ none (xu3 (xu3 (xu3 (xu3 (xu3 (xu3 (xu3 (xu3 σ 0 k 3 (nI 1)) 0 k 4 a1) 0 k 5 a2) 0 k 6 a3) 0 k 7 a4) 0 k 8 (nI 0)) 0 k 9 (nI 0)) 0 k 10 (nI 0)) := by
  refine xd_of (by decide) (by simp [lg_sl, Value.category]) ?_
  intro p e s m args below meth c A ls C hr hlk hml hl w hz
  obtain ⟨hx, hb, hown, hts⟩ := id C
  have hl : lv_has ls 5 [(0, .ref (ad 0 k)), (1, .int a1), (2, .int a2), (3, .int a3), (4, .int a4)] := hl
  refine lv_aload_n hx hb dTG_begin_0 rfl (lv_at hl 0 rfl) ?_
  refine lv_iconst (v := nI 1) hx hb dTG_begin_1 xk_i1 ?_
  refine xp_TG_15 C w (xI0 hI (by omega)) dTG_begin_2 (fun H locs w => ?_)
  refine lv_aload_n hx hb dTG_begin_5 rfl (lv_at hl 0 rfl) ?_
  refine lv_iload_n hx hb dTG_begin_6 rfl (lv_at hl 1 rfl) ?_
  refine xp_TG_19 C w (xI0 hI (by omega)) dTG_begin_7 (fun H locs w => ?_)
  refine lv_aload_n hx hb dTG_begin_10 rfl (lv_at hl 0 rfl) ?_
  refine lv_iload_n hx hb dTG_begin_11 rfl (lv_at hl 2 rfl) ?_
  refine xp_TG_22 C w (xI0 hI (by omega)) dTG_begin_12 (fun H locs w => ?_)
  refine lv_aload_n hx hb dTG_begin_15 rfl (lv_at hl 0 rfl) ?_
  refine lv_iload_n hx hb dTG_begin_16 rfl (lv_at hl 3 rfl) ?_
  refine xp_TG_25 C w (xI0 hI (by omega)) dTG_begin_17 (fun H locs w => ?_)
  refine lv_aload_n hx hb dTG_begin_20 rfl (lv_at hl 0 rfl) ?_
  refine lv_iload hx hb dTG_begin_21 (lv_at hl 4 rfl) ?_
  refine xp_TG_28 C w (xI0 hI (by omega)) dTG_begin_23 (fun H locs w => ?_)
  refine lv_aload_n hx hb dTG_begin_26 rfl (lv_at hl 0 rfl) ?_
  refine lv_iconst (v := nI 0) hx hb dTG_begin_27 xk_i0 ?_
  refine xp_TG_31 C w (xI0 hI (by omega)) dTG_begin_28 (fun H locs w => ?_)
  refine lv_aload_n hx hb dTG_begin_31 rfl (lv_at hl 0 rfl) ?_
  refine lv_iconst (v := nI 0) hx hb dTG_begin_32 xk_i0 ?_
  refine xp_TG_34 C w (xI0 hI (by omega)) (by first | exact Or.inl rfl | exact Or.inr rfl) dTG_begin_33 (fun H locs w => ?_)
  refine lv_aload_n hx hb dTG_begin_36 rfl (lv_at hl 0 rfl) ?_
  refine lv_iconst (v := nI 0) hx hb dTG_begin_37 xk_i0 ?_
  refine xp_TG_38 C w (xI0 hI (by omega)) dTG_begin_38 (fun H locs w => ?_)
  exact xd_vret C w hr hlk dTG_begin_41 rfl
end
section
/-! Tag.keep, Target, and what SplitFabric asks. -/
set_option maxRecDepth 100000 in
set_option maxHeartbeats 4000000 in
theorem cTG_keep (l : Launch) (D : va_G) (cA : Nat → ClassId) (tz : Nat) (I : List (Nat × Nat)) (ad : Nat → Nat → Nat) (σ : xMem) (k r2 k2 n1 a n : Nat) (hI : xI I) (hk : k < 16) (hI2 : (r2, k2) ∈ I) (hf : ∀ f, xcell cA tz ad r2 k2 f = .inl (cA 0, n1, .inl f)) (hn : σ 0 k 6 = nI n) (h4 : n ≤ 4) (ha : a + n ≤ n1) (h1 : n1 < 2 ^ 31) : xD l yTG_keep bTG_keep 3 none 1 [.ref (ad 0 k), .ref (ad r2 k2), .int (nI a)] D cA tz I ad σ none (xw_u2 σ 1 k (va_cpy (σ r2 k2) (σ 1 k) a 0 n)) := by
  refine xd_of (by decide) (by simp [lg_sl, Value.category]) ?_
  intro p e s m args below meth c A ls C hr hlk hml hl w hz
  obtain ⟨hx, hb, hown, hts⟩ := id C
  have hl : lv_has ls 3 [(0, .ref (ad 0 k)), (1, .ref (ad r2 k2)), (2, .int (nI a))] := hl
  refine lv_aload_n hx hb dTG_keep_0 rfl (lv_at hl 1 rfl) ?_
  refine lv_iload_n hx hb dTG_keep_1 rfl (lv_at hl 2 rfl) ?_
  refine lv_aload_n hx hb dTG_keep_2 rfl (lv_at hl 0 rfl) ?_
  refine xg_TG_9 C w (xI0 hI (by omega)) dTG_keep_3 ?_
  refine lv_iconst (v := nI 0) hx hb dTG_keep_6 xk_i0 ?_
  refine lv_aload_n hx hb dTG_keep_7 rfl (lv_at hl 0 rfl) ?_
  refine xg_TG_25 C w (xI0 hI (by omega)) dTG_keep_8 ?_
  refine xs_copy C w (hml.trans hl.1.symm) hI2 (xI1 hI hk) hf (fun _ => rfl) xk_cp_TG xk_cpN xk_cpS xk_cpI a 0 n rfl rfl hn (by omega) (by omega) (by omega) (by decide) (by decide) (by decide) dTG_keep_11 (fun H locs w => ?_)
  exact xd_vret C w hr hlk dTG_keep_14 rfl
set_option maxRecDepth 100000 in
set_option maxHeartbeats 4000000 in
theorem cTA_join (l : Launch) (D : va_G) (cA : Nat → ClassId) (tz : Nat) (I : List (Nat × Nat)) (ad : Nat → Nat → Nat) (σ : xMem) (t n : Nat) (x : Int32) (hI : xI I) (ht : t < 3) (hn : σ 2 t 1 = nI n) (h4 : n < 4) : xD l yTA_join bTA_join 2 none 1 [.ref (ad 2 t), .int x] D cA tz I ad σ none (xu3 (xu3 σ 3 t n x) 2 t 1 (nI (n + 1))) := by
  refine xd_of (by decide) (by simp [lg_sl, Value.category]) ?_
  intro p e s m args below meth c A ls C hr hlk hml hl w hz
  obtain ⟨hx, hb, hown, hts⟩ := id C
  have hl : lv_has ls 2 [(0, .ref (ad 2 t)), (1, .int x)] := hl
  refine lv_aload_n hx hb dTA_join_0 rfl (lv_at hl 0 rfl) ?_
  refine xg_TA_15 C w (xI2 hI (by omega)) dTA_join_1 ?_
  refine xn_eq (y := nI n) hn ?_
  refine lv_iconst (v := nI 4) hx hb dTA_join_4 xk_i4 ?_
  refine lv_icmp_ge hx hb dTA_join_5 rfl (fun hh1 => absurd hh1 (nI_ge (by omega) (by omega))) (fun hh1 => ?_)
  refine lv_aload_n hx hb dTA_join_8 rfl (lv_at hl 0 rfl) ?_
  refine xg_TA_9 C w (xI2 hI (by omega)) dTA_join_9 ?_
  refine lv_aload_n hx hb dTA_join_12 rfl (lv_at hl 0 rfl) ?_
  refine xg_TA_15 C w (xI2 hI (by omega)) dTA_join_13 ?_
  refine xn_eq (y := nI n) hn ?_
  refine lv_iload_n hx hb dTA_join_16 rfl (lv_at hl 1 rfl) ?_
  refine xs_iast C w (xI3 hI (by omega)) (fun _ => rfl) n rfl (by omega) (by decide) dTA_join_17 (fun H locs w => ?_)
  refine lv_aload_n hx hb dTA_join_18 rfl (lv_at hl 0 rfl) ?_
  refine lv_dup hx hb dTA_join_19 rfl ?_
  refine xg_TA_15 C w (xI2 hI (by omega)) dTA_join_20 ?_
  refine xn_eq (y := σ 2 t 1) (by simp [xu3, xw_u2, va_up]) ?_
  refine xn_eq (y := nI n) hn ?_
  refine lv_iconst (v := nI 1) hx hb dTA_join_23 xk_i1 ?_
  refine xn_add hx hb dTA_join_24 ?_
  refine xp_TA_15 C w (xI2 hI (by omega)) dTA_join_25 (fun H locs w => ?_)
  exact xd_vret C w hr hlk dTA_join_28 rfl
set_option maxRecDepth 100000 in
set_option maxHeartbeats 4000000 in
theorem cTA_leave (l : Launch) (D : va_G) (cA : Nat → ClassId) (tz : Nat) (I : List (Nat × Nat)) (ad : Nat → Nat → Nat) (σ : xMem) (t n : Nat) (hI : xI I) (ht : t < 3) (hn : σ 2 t 1 = nI (n + 1)) (h4 : n < 4) : xD l yTA_leave bTA_leave 2 (some .int) 1 [.ref (ad 2 t)] D cA tz I ad σ (some (.int (σ 3 t 0))) (xw_u2 (xu3 σ 2 t 1 (nI n)) 3 t (va_cpy (σ 3 t) (σ 3 t) 1 0 n)) := by
  refine xd_of (by decide) (by simp [lg_sl, Value.category]) ?_
  intro p e s m args below meth c A ls C hr hlk hml hl w hz
  obtain ⟨hx, hb, hown, hts⟩ := id C
  have hl : lv_has ls 2 [(0, .ref (ad 2 t))] := hl
  refine lv_aload_n hx hb dTA_leave_0 rfl (lv_at hl 0 rfl) ?_
  refine xg_TA_9 C w (xI2 hI (by omega)) dTA_leave_1 ?_
  refine lv_iconst (v := nI 0) hx hb dTA_leave_4 xk_i0 ?_
  refine xr_iald C w (xI3 hI (by omega)) rfl 0 rfl 0 rfl (by omega) (by decide) dTA_leave_5 ?_
  refine lv_istore_n (lv' := [(1, .int (σ 3 t 0)), (0, .ref (ad 2 t))]) hx hb dTA_leave_6 rfl hl (by decide) rfl (fun ls hl => ?_)
  refine lv_aload_n hx hb dTA_leave_7 rfl (lv_at hl 1 rfl) ?_
  refine xg_TA_15 C w (xI2 hI (by omega)) dTA_leave_8 ?_
  refine xn_eq (y := nI (n + 1)) hn ?_
  refine lv_if_le hx hb dTA_leave_11 rfl (fun hh1 => absurd hh1 (nI_nle (by omega) (by omega))) (fun hh1 => ?_)
  refine lv_aload_n hx hb dTA_leave_14 rfl (lv_at hl 1 rfl) ?_
  refine lv_dup hx hb dTA_leave_15 rfl ?_
  refine xg_TA_15 C w (xI2 hI (by omega)) dTA_leave_16 ?_
  refine xn_eq (y := nI (n + 1)) hn ?_
  refine lv_iconst (v := nI 1) hx hb dTA_leave_19 xk_i1 ?_
  refine xn_sub hx hb dTA_leave_20 (by omega) ?_
  refine xp_TA_15 C w (xI2 hI (by omega)) dTA_leave_21 (fun H locs w => ?_)
  refine lv_aload_n hx hb dTA_leave_24 rfl (lv_at hl 1 rfl) ?_
  refine xg_TA_9 C w (xI2 hI (by omega)) dTA_leave_25 ?_
  refine lv_iconst (v := nI 1) hx hb dTA_leave_28 xk_i1 ?_
  refine lv_aload_n hx hb dTA_leave_29 rfl (lv_at hl 1 rfl) ?_
  refine xg_TA_9 C w (xI2 hI (by omega)) dTA_leave_30 ?_
  refine lv_iconst (v := nI 0) hx hb dTA_leave_33 xk_i0 ?_
  refine lv_aload_n hx hb dTA_leave_34 rfl (lv_at hl 1 rfl) ?_
  refine xg_TA_15 C w (xI2 hI (by omega)) dTA_leave_35 ?_
  refine xn_eq (y := nI ((n + 1) - 1)) (by simp [xu3, xw_u2, va_up]) ?_
  refine xs_copy C w (hml.trans hl.1.symm) (xI3 hI ht) (xI3 hI ht) (fun _ => rfl) (fun _ => rfl) xk_cp_TA xk_cpN xk_cpS xk_cpI 1 0 n rfl rfl (by simp [xu3, xw_u2, va_up]) (by omega) (by omega) (by decide) (by decide) (by decide) (by decide) dTA_leave_38 (fun H locs w => ?_)
  refine lv_iload_n hx hb dTA_leave_41 rfl (lv_at hl 0 rfl) ?_
  exact xd_iret C w hr hlk dTA_leave_42 (rfl) rfl
set_option maxRecDepth 100000 in
set_option maxHeartbeats 4000000 in
theorem cSF_tagOf (l : Launch) (D : va_G) (cA : Nat → ClassId) (tz : Nat) (I : List (Nat × Nat)) (ad : Nat → Nat → Nat) (σ : xMem) (a b : Nat) (hI : xI I) (h6 : σ 6 0 0 = nI 16) (hab : 4 * a + b < 16) : xD l ySF_tagOf bSF_tagOf 3 (some (.object "SplitFabric$Tag")) 1 [.ref (ad 5 0), .int (nI a), .int (nI b)] D cA tz I ad σ (some (.ref (ad 0 (4 * a + b)))) σ := by
  refine xd_of (by decide) (by simp [lg_sl, Value.category]) ?_
  intro p e s m args below meth c A ls C hr hlk hml hl w hz
  obtain ⟨hx, hb, hown, hts⟩ := id C
  have hl : lv_has ls 3 [(0, .ref (ad 5 0)), (1, .int (nI a)), (2, .int (nI b))] := hl
  refine lv_aload_n hx hb dSF_tagOf_0 rfl (lv_at hl 0 rfl) ?_
  refine xg_SF_11 C w (xI5 hI) dSF_tagOf_1 ?_
  refine lv_iconst (v := nI 4) hx hb dSF_tagOf_4 xk_i4 ?_
  refine lv_iload_n hx hb dSF_tagOf_5 rfl (lv_at hl 1 rfl) ?_
  refine xn_mul hx hb dSF_tagOf_6 ?_
  refine lv_iload_n hx hb dSF_tagOf_7 rfl (lv_at hl 2 rfl) ?_
  refine xn_add hx hb dSF_tagOf_8 ?_
  refine xa_6 C w (xI6 hI) h6 ((4 * a) + b) rfl (by omega) dSF_tagOf_9 ?_
  exact xd_aret C w hr hlk dSF_tagOf_10 (Or.inr ⟨_, rfl⟩) (rfl) rfl
set_option maxRecDepth 100000 in
set_option maxHeartbeats 4000000 in
theorem cSF_targetOf (l : Launch) (D : va_G) (cA : Nat → ClassId) (tz : Nat) (I : List (Nat × Nat)) (ad : Nat → Nat → Nat) (σ : xMem) (k q : Nat) (hI : xI I) (h7 : σ 7 0 0 = nI 3) (hk : k < 16) (hq : σ 0 k 5 = nI q) (h48 : q < 48) : xD l ySF_targetOf bSF_targetOf 2 (some (.object "SplitFabric$Target")) 1 [.ref (ad 5 0), .ref (ad 0 k)] D cA tz I ad σ (some (.ref (ad 2 (q / 16)))) σ := by
  refine xd_of (by decide) (by simp [lg_sl, Value.category]) ?_
  intro p e s m args below meth c A ls C hr hlk hml hl w hz
  obtain ⟨hx, hb, hown, hts⟩ := id C
  have hl : lv_has ls 2 [(0, .ref (ad 5 0)), (1, .ref (ad 0 k))] := hl
  refine lv_aload_n hx hb dSF_targetOf_0 rfl (lv_at hl 0 rfl) ?_
  refine xg_SF_17 C w (xI5 hI) dSF_targetOf_1 ?_
  refine lv_aload_n hx hb dSF_targetOf_4 rfl (lv_at hl 1 rfl) ?_
  refine xg_SF_170 C w (xI0 hI (by omega)) dSF_targetOf_5 ?_
  refine xn_eq (y := nI q) hq ?_
  refine lv_bipush (v := nI 16) hx hb dSF_targetOf_8 xk_b16 ?_
  refine xn_div hx hb dSF_targetOf_10 (by omega) (by decide) (by decide) ?_
  refine xa_7 C w (xI7 hI) h7 (q / 16) rfl (by omega) dSF_targetOf_11 ?_
  exact xd_aret C w hr hlk dSF_targetOf_12 (Or.inr ⟨_, rfl⟩) (rfl) rfl
set_option maxRecDepth 100000 in
set_option maxHeartbeats 4000000 in
theorem cSF_classOf (l : Launch) (D : va_G) (cA : Nat → ClassId) (tz : Nat) (I : List (Nat × Nat)) (ad : Nat → Nat → Nat) (σ : xMem) (k : Nat) (hI : xI I) (hk : k < 16) (h0 : σ 0 k 0 = nI (k / 4)) : xD l ySF_classOf bSF_classOf 2 (some .int) 1 [.ref (ad 5 0), .ref (ad 0 k)] D cA tz I ad σ (some (.int (xf_class σ k))) σ := by
  refine xd_of (by decide) (by simp [lg_sl, Value.category]) ?_
  intro p e s m args below meth c A ls C hr hlk hml hl w hz
  obtain ⟨hx, hb, hown, hts⟩ := id C
  have hl : lv_has ls 2 [(0, .ref (ad 5 0)), (1, .ref (ad 0 k))] := hl
  refine lv_aload_n hx hb dSF_classOf_0 rfl (lv_at hl 0 rfl) ?_
  refine xg_SF_30 C w (xI5 hI) dSF_classOf_1 ?_
  refine lv_aload_n hx hb dSF_classOf_4 rfl (lv_at hl 1 rfl) ?_
  refine xg_SF_115 C w (xI0 hI (by omega)) dSF_classOf_5 ?_
  refine xn_eq (y := nI (k / 4)) h0 ?_
  refine xr_iald C w (xI10 hI) rfl 0 rfl (k / 4) rfl (by omega) (by decide) dSF_classOf_8 ?_
  refine lv_aload_n hx hb dSF_classOf_9 rfl (lv_at hl 1 rfl) ?_
  refine xg_SF_139 C w (xI0 hI (by omega)) dSF_classOf_10 ?_
  refine lv_bipush (v := nI 16) hx hb dSF_classOf_13 xk_b16 ?_
  refine lv_idiv hx hb dSF_classOf_15 (by decide) ?_
  refine lv_iadd hx hb dSF_classOf_16 ?_
  refine lv_iconst (v := nI 2) hx hb dSF_classOf_17 xk_i2 ?_
  refine va_mmin hx hb (hml.trans hl.1.symm) hown (hts _ xk_mnL) (hts _ xk_mnS) (hts _ xk_mnI) (hts _ xk_mnC) (by decide) (by decide) (by decide) (by decide) dSF_classOf_18 ?_
  exact xd_iret C w hr hlk dSF_classOf_21 (rfl) rfl
set_option maxRecDepth 100000 in
set_option maxHeartbeats 4000000 in
theorem cSF_holdsBack (l : Launch) (D : va_G) (cA : Nat → ClassId) (tz : Nat) (I : List (Nat × Nat)) (ad : Nat → Nat → Nat) (σ : xMem) (j k : Nat) (hI : xI I) (hj : j < 16) (hk : k < 16) : xD l ySF_holdsBack bSF_holdsBack 2 (some .boolean) 2 [.ref (ad 0 j), .ref (ad 0 k)] D cA tz I ad σ (some (.int (xb (xp_back σ j k)))) σ := by
  refine xd_of (by decide) (by simp [lg_sl, Value.category]) ?_
  intro p e s m args below meth c A ls C hr hlk hml hl w hz
  obtain ⟨hx, hb, hown, hts⟩ := id C
  have hl : lv_has ls 2 [(0, .ref (ad 0 j)), (1, .ref (ad 0 k))] := hl
  refine lv_aload_n hx hb dSF_holdsBack_0 rfl (lv_at hl 0 rfl) ?_
  refine xg_SF_173 C w (xI0 hI (by omega)) dSF_holdsBack_1 ?_
  refine lv_iconst (v := nI 4) hx hb dSF_holdsBack_4 xk_i4 ?_
  refine lv_icmp_eq hx hb dSF_holdsBack_5 rfl (fun hh1 => ?_) (fun hh1 => ?_)
  · skip
    refine lv_aload_n hx hb dSF_holdsBack_16 rfl (lv_at hl 0 rfl) ?_
    refine xd_callV C w hz hml hl.1 xk_SF_237 (cTG_isOpen l D cA tz I ad σ j hI hj) (xI0 hI (by omega)) rfl rfl rfl rfl (Nat.le_of_ble_eq_true rfl) (by decide) (by decide) dSF_holdsBack_17 (fun H locs w => ?_)
    refine W.eq (g2 := F0 m 20 ls [.int (xb (xp_open σ j))]) rfl ?_
    exact xd_zret C w hr hlk dSF_holdsBack_20 (xb_congr (by unfold xp_back; grind [nI_0])) rfl
  · skip
    refine lv_aload_n hx hb dSF_holdsBack_8 rfl (lv_at hl 1 rfl) ?_
    refine xg_SF_173 C w (xI0 hI (by omega)) dSF_holdsBack_9 ?_
    refine lv_iconst (v := nI 4) hx hb dSF_holdsBack_12 xk_i4 ?_
    refine lv_icmp_ne hx hb dSF_holdsBack_13 rfl (fun hh2 => ?_) (fun hh2 => ?_)
    · skip
      refine lv_aload_n hx hb dSF_holdsBack_21 rfl (lv_at hl 0 rfl) ?_
      refine xg_SF_68 C w (xI0 hI (by omega)) dSF_holdsBack_22 ?_
      refine lv_iconst (v := nI 1) hx hb dSF_holdsBack_25 xk_i1 ?_
      refine lv_icmp_ne hx hb dSF_holdsBack_26 rfl (fun hh3 => ?_) (fun hh3 => ?_)
      · skip
        refine lv_iconst (v := nI 0) hx hb dSF_holdsBack_41 xk_i0 ?_
        exact xd_zf C w hr hlk dSF_holdsBack_42 (by unfold xp_back; grind [nI_0]) rfl
      · skip
        refine lv_aload_n hx hb dSF_holdsBack_29 rfl (lv_at hl 0 rfl) ?_
        refine lv_aload_n hx hb dSF_holdsBack_30 rfl (lv_at hl 1 rfl) ?_
        refine xd_callV C w hz hml hl.1 xk_SF_240 (cTG_overlaps l D cA tz I ad σ j k hI hj hk) (xI0 hI (by omega)) rfl rfl rfl rfl (Nat.le_of_ble_eq_true rfl) (by decide) (by decide) dSF_holdsBack_31 (fun H locs w => ?_)
        refine W.eq (g2 := F0 m 34 ls [.int (xb (xp_over σ j k))]) rfl ?_
        refine xz_ifeq hx hb dSF_holdsBack_34 rfl (fun hh4 => ?_) (fun hh4 => ?_)
        · skip
          refine lv_iconst (v := nI 0) hx hb dSF_holdsBack_41 xk_i0 ?_
          exact xd_zf C w hr hlk dSF_holdsBack_42 (by unfold xp_back; grind [nI_0]) rfl
        · skip
          refine lv_iconst (v := nI 1) hx hb dSF_holdsBack_37 xk_i1 ?_
          refine lv_goto hx hb dSF_holdsBack_38 rfl ?_
          exact xd_zt C w hr hlk dSF_holdsBack_42 (by unfold xp_back; grind [nI_0]) rfl
    · skip
      refine lv_aload_n hx hb dSF_holdsBack_16 rfl (lv_at hl 0 rfl) ?_
      refine xd_callV C w hz hml hl.1 xk_SF_237 (cTG_isOpen l D cA tz I ad σ j hI hj) (xI0 hI (by omega)) rfl rfl rfl rfl (Nat.le_of_ble_eq_true rfl) (by decide) (by decide) dSF_holdsBack_17 (fun H locs w => ?_)
      refine W.eq (g2 := F0 m 20 ls [.int (xb (xp_open σ j))]) rfl ?_
      exact xd_zret C w hr hlk dSF_holdsBack_20 (xb_congr (by unfold xp_back; grind [nI_0])) rfl
set_option maxRecDepth 100000 in
set_option maxHeartbeats 4000000 in
theorem cSF_isAdmitted (l : Launch) (D : va_G) (cA : Nat → ClassId) (tz : Nat) (I : List (Nat × Nat)) (ad : Nat → Nat → Nat) (σ : xMem) (k q : Nat) (hI : xI I) (h7 : σ 7 0 0 = nI 3) (hk : k < 16) (hq : σ 0 k 5 = nI q) (h48 : q < 48) : xD l ySF_isAdmitted bSF_isAdmitted 4 (some .boolean) 2 [.ref (ad 5 0), .ref (ad 0 k)] D cA tz I ad σ (some (.int (xb (xp_adm σ k (q / 16))))) σ := by
  refine xd_of (by decide) (by simp [lg_sl, Value.category]) ?_
  intro p e s m args below meth c A ls C hr hlk hml hl w hz
  obtain ⟨hx, hb, hown, hts⟩ := id C
  have hl : lv_has ls 4 [(0, .ref (ad 5 0)), (1, .ref (ad 0 k))] := hl
  refine lv_aload_n hx hb dSF_isAdmitted_0 rfl (lv_at hl 0 rfl) ?_
  refine lv_aload_n hx hb dSF_isAdmitted_1 rfl (lv_at hl 1 rfl) ?_
  refine xd_callV C w hz hml hl.1 xk_SF_204 (cSF_targetOf l D cA tz I ad σ k q hI h7 hk hq h48) (xI5 hI) rfl rfl rfl rfl (Nat.le_of_ble_eq_true rfl) (by decide) (by decide) dSF_isAdmitted_2 (fun H locs w => ?_)
  refine W.eq (g2 := F0 m 5 ls [.ref (ad 2 (q / 16))]) rfl ?_
  refine lv_astore_n (lv' := [(2, .ref (ad 2 (q / 16))), (0, .ref (ad 5 0)), (1, .ref (ad 0 k))]) hx hb dSF_isAdmitted_5 rfl hl (by decide) rfl (fun ls hl => ?_)
  refine lv_aload_n hx hb dSF_isAdmitted_6 rfl (lv_at hl 2 rfl) ?_
  refine xg_SF_173 C w (xI0 hI (by omega)) dSF_isAdmitted_7 ?_
  refine lv_iconst (v := nI 3) hx hb dSF_isAdmitted_10 xk_i3 ?_
  refine lv_icmp_ne hx hb dSF_isAdmitted_11 rfl (fun hh1 => ?_) (fun hh1 => ?_)
  · skip
    refine lv_iconst (v := nI 0) hx hb dSF_isAdmitted_29 xk_i0 ?_
    refine lv_istore_n (lv' := [(3, .int (nI 0)), (2, .ref (ad 2 (q / 16))), (0, .ref (ad 5 0)), (1, .ref (ad 0 k))]) hx hb dSF_isAdmitted_30 rfl hl (by decide) rfl (fun ls hl => ?_)
    refine lv_aload_n hx hb dSF_isAdmitted_31 rfl (lv_at hl 1 rfl) ?_
    refine xg_SF_145 C w (xI2 hI (by omega)) dSF_isAdmitted_32 ?_
    refine lv_if_le hx hb dSF_isAdmitted_35 rfl (fun hh2 => ?_) (fun hh2 => ?_)
    · skip
      refine lv_iconst (v := nI 0) hx hb dSF_isAdmitted_54 xk_i0 ?_
      exact xd_zf C w hr hlk dSF_isAdmitted_55 (by unfold xp_adm; grind [nI_0]) rfl
    · skip
      refine lv_aload_n hx hb dSF_isAdmitted_38 rfl (lv_at hl 1 rfl) ?_
      refine xg_SF_142 C w (xI2 hI (by omega)) dSF_isAdmitted_39 ?_
      refine lv_iconst (v := -1) hx hb dSF_isAdmitted_42 xk_im1 ?_
      refine lv_icmp_eq hx hb dSF_isAdmitted_43 rfl (fun hh3 => ?_) (fun hh3 => ?_)
      · skip
        refine lv_iconst (v := nI 1) hx hb dSF_isAdmitted_50 xk_i1 ?_
        refine lv_goto hx hb dSF_isAdmitted_51 rfl ?_
        exact xd_zt C w hr hlk dSF_isAdmitted_55 (by unfold xp_adm; grind [nI_0]) rfl
      · skip
        refine lv_iload_n hx hb dSF_isAdmitted_46 rfl (lv_at hl 0 rfl) ?_
        refine lv_if_eq hx hb dSF_isAdmitted_47 rfl (fun _ => ?_) (fun hq => absurd nI_0 hq)
        refine lv_iconst (v := nI 0) hx hb dSF_isAdmitted_54 xk_i0 ?_
        exact xd_zf C w hr hlk dSF_isAdmitted_55 (by unfold xp_adm; grind [nI_0]) rfl
  · skip
    refine lv_aload_n hx hb dSF_isAdmitted_14 rfl (lv_at hl 0 rfl) ?_
    refine xg_SF_142 C w (xI2 hI (by omega)) dSF_isAdmitted_15 ?_
    refine lv_aload_n hx hb dSF_isAdmitted_18 rfl (lv_at hl 2 rfl) ?_
    refine xg_SF_115 C w (xI0 hI (by omega)) dSF_isAdmitted_19 ?_
    refine lv_icmp_ne hx hb dSF_isAdmitted_22 rfl (fun hh4 => ?_) (fun hh4 => ?_)
    · skip
      refine lv_iconst (v := nI 0) hx hb dSF_isAdmitted_29 xk_i0 ?_
      refine lv_istore_n (lv' := [(3, .int (nI 0)), (2, .ref (ad 2 (q / 16))), (0, .ref (ad 5 0)), (1, .ref (ad 0 k))]) hx hb dSF_isAdmitted_30 rfl hl (by decide) rfl (fun ls hl => ?_)
      refine lv_aload_n hx hb dSF_isAdmitted_31 rfl (lv_at hl 1 rfl) ?_
      refine xg_SF_145 C w (xI2 hI (by omega)) dSF_isAdmitted_32 ?_
      refine lv_if_le hx hb dSF_isAdmitted_35 rfl (fun hh5 => ?_) (fun hh5 => ?_)
      · skip
        refine lv_iconst (v := nI 0) hx hb dSF_isAdmitted_54 xk_i0 ?_
        exact xd_zf C w hr hlk dSF_isAdmitted_55 (by unfold xp_adm; grind [nI_0]) rfl
      · skip
        refine lv_aload_n hx hb dSF_isAdmitted_38 rfl (lv_at hl 1 rfl) ?_
        refine xg_SF_142 C w (xI2 hI (by omega)) dSF_isAdmitted_39 ?_
        refine lv_iconst (v := -1) hx hb dSF_isAdmitted_42 xk_im1 ?_
        refine lv_icmp_eq hx hb dSF_isAdmitted_43 rfl (fun hh6 => ?_) (fun hh6 => ?_)
        · skip
          refine lv_iconst (v := nI 1) hx hb dSF_isAdmitted_50 xk_i1 ?_
          refine lv_goto hx hb dSF_isAdmitted_51 rfl ?_
          exact xd_zt C w hr hlk dSF_isAdmitted_55 (by unfold xp_adm; grind [nI_0]) rfl
        · skip
          refine lv_iload_n hx hb dSF_isAdmitted_46 rfl (lv_at hl 0 rfl) ?_
          refine lv_if_eq hx hb dSF_isAdmitted_47 rfl (fun _ => ?_) (fun hq => absurd nI_0 hq)
          refine lv_iconst (v := nI 0) hx hb dSF_isAdmitted_54 xk_i0 ?_
          exact xd_zf C w hr hlk dSF_isAdmitted_55 (by unfold xp_adm; grind [nI_0]) rfl
    · skip
      refine lv_iconst (v := nI 1) hx hb dSF_isAdmitted_25 xk_i1 ?_
      refine lv_goto hx hb dSF_isAdmitted_26 rfl ?_
      refine lv_istore_n (lv' := [(3, .int (nI 1)), (2, .ref (ad 2 (q / 16))), (0, .ref (ad 5 0)), (1, .ref (ad 0 k))]) hx hb dSF_isAdmitted_30 rfl hl (by decide) rfl (fun ls hl => ?_)
      refine lv_aload_n hx hb dSF_isAdmitted_31 rfl (lv_at hl 1 rfl) ?_
      refine xg_SF_145 C w (xI2 hI (by omega)) dSF_isAdmitted_32 ?_
      refine lv_if_le hx hb dSF_isAdmitted_35 rfl (fun hh7 => ?_) (fun hh7 => ?_)
      · skip
        refine lv_iconst (v := nI 0) hx hb dSF_isAdmitted_54 xk_i0 ?_
        exact xd_zf C w hr hlk dSF_isAdmitted_55 (by unfold xp_adm; grind [nI_0]) rfl
      · skip
        refine lv_aload_n hx hb dSF_isAdmitted_38 rfl (lv_at hl 1 rfl) ?_
        refine xg_SF_142 C w (xI2 hI (by omega)) dSF_isAdmitted_39 ?_
        refine lv_iconst (v := -1) hx hb dSF_isAdmitted_42 xk_im1 ?_
        refine lv_icmp_eq hx hb dSF_isAdmitted_43 rfl (fun hh8 => ?_) (fun hh8 => ?_)
        · skip
          refine lv_iconst (v := nI 1) hx hb dSF_isAdmitted_50 xk_i1 ?_
          refine lv_goto hx hb dSF_isAdmitted_51 rfl ?_
          exact xd_zt C w hr hlk dSF_isAdmitted_55 (by unfold xp_adm; grind [nI_0]) rfl
        · skip
          refine lv_iload_n hx hb dSF_isAdmitted_46 rfl (lv_at hl 0 rfl) ?_
          refine lv_if_eq hx hb dSF_isAdmitted_47 rfl (fun hq => absurd hq (by decide)) (fun _ => ?_)
          refine lv_iconst (v := nI 1) hx hb dSF_isAdmitted_50 xk_i1 ?_
          refine lv_goto hx hb dSF_isAdmitted_51 rfl ?_
          exact xd_zt C w hr hlk dSF_isAdmitted_55 (by unfold xp_adm; grind [nI_0]) rfl
set_option maxRecDepth 100000 in
set_option maxHeartbeats 4000000 in
theorem cSF_goesBefore (l : Launch) (D : va_G) (cA : Nat → ClassId) (tz : Nat) (I : List (Nat × Nat)) (ad : Nat → Nat → Nat) (σ : xMem) (k b : Nat) (hI : xI I) (hk : k < 16) (hb16 : b < 16) (h0 : σ 0 k 0 = nI (k / 4)) (h0b : σ 0 b 0 = nI (b / 4)) : xD l ySF_goesBefore bSF_goesBefore 4 (some .boolean) 2 [.ref (ad 5 0), .ref (ad 0 k), .ref (ad 0 b)] D cA tz I ad σ (some (.int (xb (xp_goes σ k b)))) σ := by
  refine xd_of (by decide) (by simp [lg_sl, Value.category]) ?_
  intro p e s m args below meth c A ls C hr hlk hml hl w hz
  obtain ⟨hx, hb, hown, hts⟩ := id C
  have hl : lv_has ls 4 [(0, .ref (ad 5 0)), (1, .ref (ad 0 k)), (2, .ref (ad 0 b))] := hl
  refine lv_aload_n hx hb dSF_goesBefore_0 rfl (lv_at hl 0 rfl) ?_
  refine lv_aload_n hx hb dSF_goesBefore_1 rfl (lv_at hl 1 rfl) ?_
  refine xd_callV C w hz hml hl.1 xk_SF_218 (cSF_classOf l D cA tz I ad σ k hI hk h0) (xI5 hI) rfl rfl rfl rfl (Nat.le_of_ble_eq_true rfl) (by decide) (by decide) dSF_goesBefore_2 (fun H locs w => ?_)
  refine W.eq (g2 := F0 m 5 ls [.int (xf_class σ k)]) rfl ?_
  refine lv_aload_n hx hb dSF_goesBefore_5 rfl (lv_at hl 0 rfl) ?_
  refine lv_aload_n hx hb dSF_goesBefore_6 rfl (lv_at hl 2 rfl) ?_
  refine xd_callV C w hz hml hl.1 xk_SF_218 (cSF_classOf l D cA tz I ad σ b hI hb16 h0b) (xI5 hI) rfl rfl rfl rfl (Nat.le_of_ble_eq_true rfl) (by decide) (by decide) dSF_goesBefore_7 (fun H locs w => ?_)
  refine W.eq (g2 := F0 m 10 ls [.int (xf_class σ b), .int (xf_class σ k)]) rfl ?_
  refine lv_isub hx hb dSF_goesBefore_10 ?_
  refine lv_istore_n (lv' := [(3, .int ((xf_class σ k) - (xf_class σ b))), (0, .ref (ad 5 0)), (1, .ref (ad 0 k)), (2, .ref (ad 0 b))]) hx hb dSF_goesBefore_11 rfl hl (by decide) rfl (fun ls hl => ?_)
  refine lv_iload_n hx hb dSF_goesBefore_12 rfl (lv_at hl 0 rfl) ?_
  refine lv_if_gt hx hb dSF_goesBefore_13 rfl (fun hh1 => ?_) (fun hh1 => ?_)
  · skip
    refine lv_iconst (v := nI 1) hx hb dSF_goesBefore_39 xk_i1 ?_
    refine lv_goto hx hb dSF_goesBefore_40 rfl ?_
    exact xd_zt C w hr hlk dSF_goesBefore_44 (by unfold xp_goes; grind [nI_0]) rfl
  · skip
    refine lv_iload_n hx hb dSF_goesBefore_16 rfl (lv_at hl 0 rfl) ?_
    refine lv_if_ne hx hb dSF_goesBefore_17 rfl (fun hh2 => ?_) (fun hh2 => ?_)
    · skip
      refine lv_iconst (v := nI 0) hx hb dSF_goesBefore_43 xk_i0 ?_
      exact xd_zf C w hr hlk dSF_goesBefore_44 (by unfold xp_goes; grind [nI_0]) rfl
    · skip
      refine lv_aload_n hx hb dSF_goesBefore_20 rfl (lv_at hl 2 rfl) ?_
      refine xg_SF_115 C w (xI0 hI (by omega)) dSF_goesBefore_21 ?_
      refine lv_aload_n hx hb dSF_goesBefore_24 rfl (lv_at hl 3 rfl) ?_
      refine xg_SF_115 C w (xI0 hI (by omega)) dSF_goesBefore_25 ?_
      refine lv_icmp_ne hx hb dSF_goesBefore_28 rfl (fun hh3 => ?_) (fun hh3 => ?_)
      · skip
        refine lv_iconst (v := nI 0) hx hb dSF_goesBefore_43 xk_i0 ?_
        exact xd_zf C w hr hlk dSF_goesBefore_44 (by unfold xp_goes; grind [nI_0]) rfl
      · skip
        refine lv_aload_n hx hb dSF_goesBefore_31 rfl (lv_at hl 2 rfl) ?_
        refine lv_aload_n hx hb dSF_goesBefore_32 rfl (lv_at hl 3 rfl) ?_
        refine xd_callV C w hz hml hl.1 xk_SF_135 (cTG_isBefore l D cA tz I ad σ k b hI hk hb16) (xI0 hI (by omega)) rfl rfl rfl rfl (Nat.le_of_ble_eq_true rfl) (by decide) (by decide) dSF_goesBefore_33 (fun H locs w => ?_)
        refine W.eq (g2 := F0 m 36 ls [.int (xb (xp_ord σ k b))]) rfl ?_
        refine xz_ifeq hx hb dSF_goesBefore_36 rfl (fun hh4 => ?_) (fun hh4 => ?_)
        · skip
          refine lv_iconst (v := nI 0) hx hb dSF_goesBefore_43 xk_i0 ?_
          exact xd_zf C w hr hlk dSF_goesBefore_44 (by unfold xp_goes; grind [nI_0]) rfl
        · skip
          refine lv_iconst (v := nI 1) hx hb dSF_goesBefore_39 xk_i1 ?_
          refine lv_goto hx hb dSF_goesBefore_40 rfl ?_
          exact xd_zt C w hr hlk dSF_goesBefore_44 (by unfold xp_goes; grind [nI_0]) rfl
set_option maxRecDepth 100000 in
set_option maxHeartbeats 4000000 in
theorem cSF_holdsSome (l : Launch) (D : va_G) (cA : Nat → ClassId) (tz : Nat) (I : List (Nat × Nat)) (ad : Nat → Nat → Nat) (σ : xMem) (x : Int32) (hI : xI I) (h7 : σ 7 0 0 = nI 3) : xD l ySF_holdsSome bSF_holdsSome 3 (some .boolean) 1 [.ref (ad 5 0), .int x] D cA tz I ad σ (some (.int (xb (xp_some σ x)))) σ := by
  refine xd_of (by decide) (by simp [lg_sl, Value.category]) ?_
  intro p e s m args below meth c A ls C hr hlk hml hl w hz
  obtain ⟨hx, hb, hown, hts⟩ := id C
  have hl : lv_has ls 3 [(0, .ref (ad 5 0)), (1, .int x)] := hl
  refine lv_iconst (v := nI 0) hx hb dSF_holdsSome_0 xk_i0 ?_
  refine lv_istore_n (lv' := [(2, .int (nI 0)), (0, .ref (ad 5 0)), (1, .int x)]) hx hb dSF_holdsSome_1 rfl hl (by decide) rfl (fun ls hl => ?_)
  refine xl_up (Wg := fun H locs ls => W p l e _ s m args below meth c H locs _ _ _ (F0 m 2 ls [])) (K := fun i H locs ls => xr_W xCl (xT cA) D I ad (xc cA tz ad σ) A s H locs ∧ lv_has ls 3 [(0, .ref (ad 5 0)), (1, .int x), (2, .int (nI i))] ∧ (∀ j, j < i → ¬ σ 2 j 3 = x)) 3 ?_ ?_ 0 _ _ _ (by omega) ⟨w, lv_sub hl [1, 2, 0] rfl, xl_0⟩
  · skip
    intro H locs ls ⟨w, hl, hn⟩
    refine lv_iload_n hx hb dSF_holdsSome_2 rfl (lv_at hl 2 rfl) ?_
    refine lv_iconst (v := nI 3) hx hb dSF_holdsSome_3 xk_i3 ?_
    refine lv_icmp_ge hx hb dSF_holdsSome_4 rfl (fun _ => ?_) (fun hq => absurd (nI_le (by omega) (by omega)) hq)
    refine lv_iconst (v := nI 0) hx hb dSF_holdsSome_28 xk_i0 ?_
    exact xd_zf C w hr hlk dSF_holdsSome_29 (by rintro ⟨t, ht, h⟩; exact hn t ht h) rfl
  · skip
    intro i H locs ls hii ⟨w, hl, hn⟩ ihi
    refine lv_iload_n hx hb dSF_holdsSome_2 rfl (lv_at hl 2 rfl) ?_
    refine lv_iconst (v := nI 3) hx hb dSF_holdsSome_3 xk_i3 ?_
    refine lv_icmp_ge hx hb dSF_holdsSome_4 rfl (fun hq => absurd hq (nI_ge (by omega) (by omega))) (fun _ => ?_)
    refine lv_aload_n hx hb dSF_holdsSome_7 rfl (lv_at hl 0 rfl) ?_
    refine xg_SF_17 C w (xI5 hI) dSF_holdsSome_8 ?_
    refine lv_iload_n hx hb dSF_holdsSome_11 rfl (lv_at hl 2 rfl) ?_
    refine xa_7 C w (xI7 hI) h7 i rfl (by omega) dSF_holdsSome_12 ?_
    refine xg_SF_142 C w (xI2 hI (by omega)) dSF_holdsSome_13 ?_
    refine lv_iload_n hx hb dSF_holdsSome_16 rfl (lv_at hl 1 rfl) ?_
    refine lv_icmp_ne hx hb dSF_holdsSome_17 rfl (fun hh1 => ?_) (fun hh1 => ?_)
    · skip
      refine lv_iinc (lv' := [(2, .int (nI (i + 1))), (0, .ref (ad 5 0)), (1, .int x)]) hx hb dSF_holdsSome_22 hl (k := 2) rfl (xn_inc _) (by decide) rfl (fun ls hl => ?_)
      refine lv_goto hx hb dSF_holdsSome_25 rfl ?_
      exact ihi _ _ _ ⟨w, lv_sub hl [1, 2, 0] rfl, xl_s hn (by grind)⟩
    · skip
      refine lv_iconst (v := nI 1) hx hb dSF_holdsSome_20 xk_i1 ?_
      exact xd_zt C w hr hlk dSF_holdsSome_21 (⟨i, by omega, by grind⟩) rfl
set_option maxRecDepth 100000 in
set_option maxHeartbeats 4000000 in
theorem cSF_holdsTargetOf (l : Launch) (D : va_G) (cA : Nat → ClassId) (tz : Nat) (I : List (Nat × Nat)) (ad : Nat → Nat → Nat) (σ : xMem) (x : Int32) (q : Nat) (hI : xI I) (h7 : σ 7 0 0 = nI 3) (h64 : q < 64) : xD l ySF_holdsTargetOf bSF_holdsTargetOf 3 (some .boolean) 1 [.ref (ad 5 0), .int x, .int (nI q)] D cA tz I ad σ (some (.int (xb (q < 48 ∧ σ 2 (q / 16) 3 = x)))) σ := by
  refine xd_of (by decide) (by simp [lg_sl, Value.category]) ?_
  intro p e s m args below meth c A ls C hr hlk hml hl w hz
  obtain ⟨hx, hb, hown, hts⟩ := id C
  have hl : lv_has ls 3 [(0, .ref (ad 5 0)), (1, .int x), (2, .int (nI q))] := hl
  refine lv_iload_n hx hb dSF_holdsTargetOf_0 rfl (lv_at hl 2 rfl) ?_
  refine lv_bipush (v := nI 48) hx hb dSF_holdsTargetOf_1 xk_b48 ?_
  refine lv_icmp_ge hx hb dSF_holdsTargetOf_3 rfl (fun hh1 => ?_) (fun hh1 => ?_)
  · skip
    refine lv_iconst (v := nI 0) hx hb dSF_holdsTargetOf_26 xk_i0 ?_
    exact xd_zf C w hr hlk dSF_holdsTargetOf_27 (by grind [nI_leI]) rfl
  · skip
    have h48 : q < 48 := Nat.not_le.mp (fun z => hh1 (nI_le z (by omega)))
    refine lv_aload_n hx hb dSF_holdsTargetOf_6 rfl (lv_at hl 0 rfl) ?_
    refine xg_SF_17 C w (xI5 hI) dSF_holdsTargetOf_7 ?_
    refine lv_iload_n hx hb dSF_holdsTargetOf_10 rfl (lv_at hl 2 rfl) ?_
    refine lv_bipush (v := nI 16) hx hb dSF_holdsTargetOf_11 xk_b16 ?_
    refine xn_div hx hb dSF_holdsTargetOf_13 (by omega) (by decide) (by decide) ?_
    refine xa_7 C w (xI7 hI) h7 (q / 16) rfl (by omega) dSF_holdsTargetOf_14 ?_
    refine xg_SF_142 C w (xI2 hI (by omega)) dSF_holdsTargetOf_15 ?_
    refine lv_iload_n hx hb dSF_holdsTargetOf_18 rfl (lv_at hl 1 rfl) ?_
    refine lv_icmp_ne hx hb dSF_holdsTargetOf_19 rfl (fun hh2 => ?_) (fun hh2 => ?_)
    · skip
      refine lv_iconst (v := nI 0) hx hb dSF_holdsTargetOf_26 xk_i0 ?_
      exact xd_zf C w hr hlk dSF_holdsTargetOf_27 (by grind [nI_leI]) rfl
    · skip
      refine lv_iconst (v := nI 1) hx hb dSF_holdsTargetOf_22 xk_i1 ?_
      refine lv_goto hx hb dSF_holdsTargetOf_23 rfl ?_
      exact xd_zt C w hr hlk dSF_holdsTargetOf_27 (by grind [nI_leI]) rfl
set_option maxRecDepth 100000 in
set_option maxHeartbeats 4000000 in
theorem cSF_hasWaiting (l : Launch) (D : va_G) (cA : Nat → ClassId) (tz : Nat) (I : List (Nat × Nat)) (ad : Nat → Nat → Nat) (σ : xMem) (a : Nat) (x : Int32) (hI : xI I) (h6 : σ 6 0 0 = nI 16) (ha : a < 4) : xD l ySF_hasWaiting bSF_hasWaiting 5 (some .boolean) 2 [.ref (ad 5 0), .int (nI a), .int x] D cA tz I ad σ (some (.int (xb (xp_wait σ a x)))) σ := by
  refine xd_of (by decide) (by simp [lg_sl, Value.category]) ?_
  intro p e s m args below meth c A ls C hr hlk hml hl w hz
  obtain ⟨hx, hb, hown, hts⟩ := id C
  have hl : lv_has ls 5 [(0, .ref (ad 5 0)), (1, .int (nI a)), (2, .int x)] := hl
  refine lv_iconst (v := nI 0) hx hb dSF_hasWaiting_0 xk_i0 ?_
  refine lv_istore_n (lv' := [(3, .int (nI 0)), (0, .ref (ad 5 0)), (1, .int (nI a)), (2, .int x)]) hx hb dSF_hasWaiting_1 rfl hl (by decide) rfl (fun ls hl => ?_)
  refine xl_up (Wg := fun H locs ls => W p l e _ s m args below meth c H locs _ _ _ (F0 m 2 ls [])) (K := fun i H locs ls => xr_W xCl (xT cA) D I ad (xc cA tz ad σ) A s H locs ∧ lv_has ls 5 [(0, .ref (ad 5 0)), (1, .int (nI a)), (2, .int x), (3, .int (nI i))] ∧ (∀ j, j < i → ¬ (σ 0 (4 * a + j) 3 = nI 1 ∧ σ 0 (4 * a + j) 4 = x))) 4 ?_ ?_ 0 _ _ _ (by omega) ⟨w, lv_sub hl [1, 2, 3, 0] rfl, xl_0⟩
  · skip
    intro H locs ls ⟨w, hl, hn⟩
    refine lv_iload_n hx hb dSF_hasWaiting_2 rfl (lv_at hl 3 rfl) ?_
    refine lv_iconst (v := nI 4) hx hb dSF_hasWaiting_3 xk_i4 ?_
    refine lv_icmp_ge hx hb dSF_hasWaiting_4 rfl (fun _ => ?_) (fun hq => absurd (nI_le (by omega) (by omega)) hq)
    refine lv_iconst (v := nI 0) hx hb dSF_hasWaiting_41 xk_i0 ?_
    exact xd_zf C w hr hlk dSF_hasWaiting_42 (by rintro ⟨t, ht, h⟩; exact hn t ht h) rfl
  · skip
    intro i H locs ls hii ⟨w, hl, hn⟩ ihi
    refine lv_iload_n hx hb dSF_hasWaiting_2 rfl (lv_at hl 3 rfl) ?_
    refine lv_iconst (v := nI 4) hx hb dSF_hasWaiting_3 xk_i4 ?_
    refine lv_icmp_ge hx hb dSF_hasWaiting_4 rfl (fun hq => absurd hq (nI_ge (by omega) (by omega))) (fun _ => ?_)
    refine lv_aload_n hx hb dSF_hasWaiting_7 rfl (lv_at hl 0 rfl) ?_
    refine lv_iload_n hx hb dSF_hasWaiting_8 rfl (lv_at hl 1 rfl) ?_
    refine lv_iload_n hx hb dSF_hasWaiting_9 rfl (lv_at hl 3 rfl) ?_
    refine xd_callV C w hz hml hl.1 xk_SF_64 (cSF_tagOf l D cA tz I ad σ a i hI h6 (by omega)) (xI5 hI) rfl rfl rfl rfl (Nat.le_of_ble_eq_true rfl) (by decide) (by decide) dSF_hasWaiting_10 (fun H locs w => ?_)
    refine W.eq (g2 := F0 m 13 ls [.ref (ad 0 (4 * a + i))]) rfl ?_
    refine lv_astore (lv' := [(4, .ref (ad 0 (4 * a + i))), (0, .ref (ad 5 0)), (1, .int (nI a)), (2, .int x), (3, .int (nI i))]) hx hb dSF_hasWaiting_13 hl (by decide) rfl (fun ls hl => ?_)
    refine lv_aload hx hb dSF_hasWaiting_15 (lv_at hl 0 rfl) ?_
    refine xg_SF_68 C w (xI0 hI (by omega)) dSF_hasWaiting_17 ?_
    refine lv_iconst (v := nI 1) hx hb dSF_hasWaiting_20 xk_i1 ?_
    refine lv_icmp_ne hx hb dSF_hasWaiting_21 rfl (fun hh1 => ?_) (fun hh1 => ?_)
    · skip
      refine lv_iinc (lv' := [(3, .int (nI (i + 1))), (4, .ref (ad 0 (4 * a + i))), (0, .ref (ad 5 0)), (1, .int (nI a)), (2, .int x)]) hx hb dSF_hasWaiting_35 hl (k := 4) rfl (xn_inc _) (by decide) rfl (fun ls hl => ?_)
      refine lv_goto hx hb dSF_hasWaiting_38 rfl ?_
      exact ihi _ _ _ ⟨w, lv_sub hl [2, 3, 4, 0] rfl, xl_s hn (by grind)⟩
    · skip
      refine lv_aload hx hb dSF_hasWaiting_24 (lv_at hl 0 rfl) ?_
      refine xg_SF_173 C w (xI0 hI (by omega)) dSF_hasWaiting_26 ?_
      refine lv_iload_n hx hb dSF_hasWaiting_29 rfl (lv_at hl 3 rfl) ?_
      refine lv_icmp_ne hx hb dSF_hasWaiting_30 rfl (fun hh2 => ?_) (fun hh2 => ?_)
      · skip
        refine lv_iinc (lv' := [(3, .int (nI (i + 1))), (4, .ref (ad 0 (4 * a + i))), (0, .ref (ad 5 0)), (1, .int (nI a)), (2, .int x)]) hx hb dSF_hasWaiting_35 hl (k := 4) rfl (xn_inc _) (by decide) rfl (fun ls hl => ?_)
        refine lv_goto hx hb dSF_hasWaiting_38 rfl ?_
        exact ihi _ _ _ ⟨w, lv_sub hl [2, 3, 4, 0] rfl, xl_s hn (by grind)⟩
      · skip
        refine lv_iconst (v := nI 1) hx hb dSF_hasWaiting_33 xk_i1 ?_
        exact xd_zt C w hr hlk dSF_hasWaiting_34 (⟨i, by omega, by grind⟩) rfl
set_option maxRecDepth 100000 in
set_option maxHeartbeats 4000000 in
theorem cSF_isEligible (l : Launch) (D : va_G) (cA : Nat → ClassId) (tz : Nat) (I : List (Nat × Nat)) (ad : Nat → Nat → Nat) (σ : xMem) (k q : Nat) (hI : xI I) (h6 : σ 6 0 0 = nI 16) (h7 : σ 7 0 0 = nI 3) (hk : k < 16) (h0 : σ 0 k 0 = nI (k / 4)) (hq : σ 0 k 5 = nI q) (h64 : q < 64) : xD l ySF_isEligible bSF_isEligible 4 (some .boolean) 3 [.ref (ad 5 0), .ref (ad 0 k)] D cA tz I ad σ (some (.int (xb (xp_elig σ k)))) σ := by
  refine xd_of (by decide) (by simp [lg_sl, Value.category]) ?_
  intro p e s m args below meth c A ls C hr hlk hml hl w hz
  obtain ⟨hx, hb, hown, hts⟩ := id C
  have hl : lv_has ls 4 [(0, .ref (ad 5 0)), (1, .ref (ad 0 k))] := hl
  refine lv_aload_n hx hb dSF_isEligible_0 rfl (lv_at hl 1 rfl) ?_
  refine xg_SF_68 C w (xI0 hI (by omega)) dSF_isEligible_1 ?_
  refine lv_iconst (v := nI 1) hx hb dSF_isEligible_4 xk_i1 ?_
  refine lv_icmp_eq hx hb dSF_isEligible_5 rfl (fun hh1 => ?_) (fun hh1 => ?_)
  · skip
    refine lv_iconst (v := nI 0) hx hb dSF_isEligible_10 xk_i0 ?_
    refine lv_istore_n (lv' := [(2, .int (nI 0)), (0, .ref (ad 5 0)), (1, .ref (ad 0 k))]) hx hb dSF_isEligible_11 rfl hl (by decide) rfl (fun ls hl => ?_)
    refine xl_up (Wg := fun H locs ls => W p l e _ s m args below meth c H locs _ _ _ (F0 m 12 ls [])) (K := fun i H locs ls => xr_W xCl (xT cA) D I ad (xc cA tz ad σ) A s H locs ∧ lv_has ls 4 [(0, .ref (ad 5 0)), (1, .ref (ad 0 k)), (2, .int (nI i))] ∧ (∀ j, j < i → ¬ (xp_ord σ (4 * (k / 4) + j) k ∧ xp_back σ (4 * (k / 4) + j) k))) 4 ?_ ?_ 0 _ _ _ (by omega) ⟨w, lv_sub hl [1, 2, 0] rfl, xl_0⟩
    · skip
      intro H locs ls ⟨w, hl, hn⟩
      refine lv_iload_n hx hb dSF_isEligible_12 rfl (lv_at hl 2 rfl) ?_
      refine lv_iconst (v := nI 4) hx hb dSF_isEligible_13 xk_i4 ?_
      refine lv_icmp_ge hx hb dSF_isEligible_14 rfl (fun _ => ?_) (fun hq => absurd (nI_le (by omega) (by omega)) hq)
      refine lv_aload_n hx hb dSF_isEligible_51 rfl (lv_at hl 1 rfl) ?_
      refine xg_SF_173 C w (xI0 hI (by omega)) dSF_isEligible_52 ?_
      refine lv_iconst (v := nI 4) hx hb dSF_isEligible_55 xk_i4 ?_
      refine lv_icmp_eq hx hb dSF_isEligible_56 rfl (fun hh2 => ?_) (fun hh2 => ?_)
      · skip
        refine lv_iconst (v := nI 1) hx hb dSF_isEligible_74 xk_i1 ?_
        refine lv_goto hx hb dSF_isEligible_75 rfl ?_
        exact xd_zt C w hr hlk dSF_isEligible_79 (by have ht := xf_tgt_of hq h64; unfold xp_elig; grind [nI_0]) rfl
      · skip
        refine lv_aload_n hx hb dSF_isEligible_59 rfl (lv_at hl 1 rfl) ?_
        refine xd_callV C w hz hml hl.1 xk_SF_231 (cTG_isUnmapped l D cA tz I ad σ k hI hk) (xI0 hI (by omega)) rfl rfl rfl rfl (Nat.le_of_ble_eq_true rfl) (by decide) (by decide) dSF_isEligible_60 (fun H locs w => ?_)
        refine W.eq (g2 := F0 m 63 ls [.int (xb (xp_unm σ k))]) rfl ?_
        refine xz_ifne hx hb dSF_isEligible_63 rfl (fun hh3 => ?_) (fun hh3 => ?_)
        · skip
          refine lv_iconst (v := nI 1) hx hb dSF_isEligible_74 xk_i1 ?_
          refine lv_goto hx hb dSF_isEligible_75 rfl ?_
          exact xd_zt C w hr hlk dSF_isEligible_79 (by have ht := xf_tgt_of hq h64; unfold xp_elig; grind [nI_0]) rfl
        · skip
          have h48 : q < 48 := by
            by_cases h : q < 48
            · exact h
            · exact absurd (show xp_unm σ k by unfold xp_unm; rw [hq]; exact nI_le (by omega) (by omega)) hh3
          refine lv_aload_n hx hb dSF_isEligible_66 rfl (lv_at hl 0 rfl) ?_
          refine lv_aload_n hx hb dSF_isEligible_67 rfl (lv_at hl 1 rfl) ?_
          refine xd_callV C w hz hml hl.1 xk_SF_234 (cSF_isAdmitted l D cA tz I ad σ k q hI h7 hk hq h48) (xI5 hI) rfl rfl rfl rfl (Nat.le_of_ble_eq_true rfl) (by decide) (by decide) dSF_isEligible_68 (fun H locs w => ?_)
          refine W.eq (g2 := F0 m 71 ls [.int (xb (xp_adm σ k (q / 16)))]) rfl ?_
          refine xz_ifeq hx hb dSF_isEligible_71 rfl (fun hh4 => ?_) (fun hh4 => ?_)
          · skip
            refine lv_iconst (v := nI 0) hx hb dSF_isEligible_78 xk_i0 ?_
            exact xd_zf C w hr hlk dSF_isEligible_79 (by have ht := xf_tgt_of hq h64; unfold xp_elig; grind [nI_0]) rfl
          · skip
            refine lv_iconst (v := nI 1) hx hb dSF_isEligible_74 xk_i1 ?_
            refine lv_goto hx hb dSF_isEligible_75 rfl ?_
            exact xd_zt C w hr hlk dSF_isEligible_79 (by have ht := xf_tgt_of hq h64; unfold xp_elig; grind [nI_0]) rfl
    · skip
      intro i H locs ls hii ⟨w, hl, hn⟩ ihi
      refine lv_iload_n hx hb dSF_isEligible_12 rfl (lv_at hl 2 rfl) ?_
      refine lv_iconst (v := nI 4) hx hb dSF_isEligible_13 xk_i4 ?_
      refine lv_icmp_ge hx hb dSF_isEligible_14 rfl (fun hq => absurd hq (nI_ge (by omega) (by omega))) (fun _ => ?_)
      refine lv_aload_n hx hb dSF_isEligible_17 rfl (lv_at hl 0 rfl) ?_
      refine lv_aload_n hx hb dSF_isEligible_18 rfl (lv_at hl 1 rfl) ?_
      refine xg_SF_115 C w (xI0 hI (by omega)) dSF_isEligible_19 ?_
      refine xn_eq (y := nI (k / 4)) h0 ?_
      refine lv_iload_n hx hb dSF_isEligible_22 rfl (lv_at hl 2 rfl) ?_
      refine xd_callV C w hz hml hl.1 xk_SF_64 (cSF_tagOf l D cA tz I ad σ (k / 4) i hI h6 (by omega)) (xI5 hI) rfl rfl rfl rfl (Nat.le_of_ble_eq_true rfl) (by decide) (by decide) dSF_isEligible_23 (fun H locs w => ?_)
      refine W.eq (g2 := F0 m 26 ls [.ref (ad 0 (4 * (k / 4) + i))]) rfl ?_
      refine lv_astore_n (lv' := [(3, .ref (ad 0 (4 * (k / 4) + i))), (0, .ref (ad 5 0)), (1, .ref (ad 0 k)), (2, .int (nI i))]) hx hb dSF_isEligible_26 rfl hl (by decide) rfl (fun ls hl => ?_)
      refine lv_aload_n hx hb dSF_isEligible_27 rfl (lv_at hl 0 rfl) ?_
      refine lv_aload_n hx hb dSF_isEligible_28 rfl (lv_at hl 2 rfl) ?_
      refine xd_callV C w hz hml hl.1 xk_SF_135 (cTG_isBefore l D cA tz I ad σ (4 * (k / 4) + i) k hI (by omega) hk) (xI0 hI (by omega)) rfl rfl rfl rfl (Nat.le_of_ble_eq_true rfl) (by decide) (by decide) dSF_isEligible_29 (fun H locs w => ?_)
      refine W.eq (g2 := F0 m 32 ls [.int (xb (xp_ord σ (4 * (k / 4) + i) k))]) rfl ?_
      refine xz_ifeq hx hb dSF_isEligible_32 rfl (fun hh5 => ?_) (fun hh5 => ?_)
      · skip
        refine lv_iinc (lv' := [(2, .int (nI (i + 1))), (3, .ref (ad 0 (4 * (k / 4) + i))), (0, .ref (ad 5 0)), (1, .ref (ad 0 k))]) hx hb dSF_isEligible_45 hl (k := 3) rfl (xn_inc _) (by decide) rfl (fun ls hl => ?_)
        refine lv_goto hx hb dSF_isEligible_48 rfl ?_
        exact ihi _ _ _ ⟨w, lv_sub hl [2, 3, 0] rfl, xl_s hn (by grind)⟩
      · skip
        refine lv_aload_n hx hb dSF_isEligible_35 rfl (lv_at hl 0 rfl) ?_
        refine lv_aload_n hx hb dSF_isEligible_36 rfl (lv_at hl 2 rfl) ?_
        refine xd_callS C w hz hml hl.1 xk_SF_228 (cSF_holdsBack l D cA tz I ad σ (4 * (k / 4) + i) k hI (by omega) hk) rfl rfl (Nat.le_of_ble_eq_true rfl) (by decide) (by decide) dSF_isEligible_37 (fun H locs w => ?_)
        refine W.eq (g2 := F0 m 40 ls [.int (xb (xp_back σ (4 * (k / 4) + i) k))]) rfl ?_
        refine xz_ifeq hx hb dSF_isEligible_40 rfl (fun hh6 => ?_) (fun hh6 => ?_)
        · skip
          refine lv_iinc (lv' := [(2, .int (nI (i + 1))), (3, .ref (ad 0 (4 * (k / 4) + i))), (0, .ref (ad 5 0)), (1, .ref (ad 0 k))]) hx hb dSF_isEligible_45 hl (k := 3) rfl (xn_inc _) (by decide) rfl (fun ls hl => ?_)
          refine lv_goto hx hb dSF_isEligible_48 rfl ?_
          exact ihi _ _ _ ⟨w, lv_sub hl [2, 3, 0] rfl, xl_s hn (by grind)⟩
        · skip
          refine lv_iconst (v := nI 0) hx hb dSF_isEligible_43 xk_i0 ?_
          exact xd_zf C w hr hlk dSF_isEligible_44 (by have ht := xf_tgt_of hq h64; unfold xp_elig; grind [nI_0]) rfl
  · skip
    refine lv_iconst (v := nI 0) hx hb dSF_isEligible_8 xk_i0 ?_
    exact xd_zf C w hr hlk dSF_isEligible_9 (by have ht := xf_tgt_of hq h64; unfold xp_elig; grind [nI_0]) rfl
end
section
/-! What the class's methods do to the memory. -/
noncomputable def xf_enter (σ : xMem) (k t n : Nat) : xMem :=
  xif (σ 0 k 4 = nI 3) (xu3 (xif (σ 0 k 4 = nI 2) (xu3 (xu3 (xu3 (xu3 σ 2 t 2 (σ 2 t 2 - nI 1)) 3 t n (nI k)) 2 t 1 (nI (n + 1))) 2 t 3 (nI (k / 4))) (xu3 (xu3 (xu3 σ 2 t 2 (σ 2 t 2 - nI 1)) 3 t n (nI k)) 2 t 1 (nI (n + 1)))) 2 t 3 (-1))
    (xif (σ 0 k 4 = nI 2) (xu3 (xu3 (xu3 (xu3 σ 2 t 2 (σ 2 t 2 - nI 1)) 3 t n (nI k)) 2 t 1 (nI (n + 1))) 2 t 3 (nI (k / 4))) (xu3 (xu3 (xu3 σ 2 t 2 (σ 2 t 2 - nI 1)) 3 t n (nI k)) 2 t 1 (nI (n + 1))))
noncomputable def xf_grant (σ : xMem) (k t n : Nat) : xMem :=
  xif (σ 0 k 4 = nI 4) (xu3 (xu3 σ 5 0 8 (nI (k / 4))) 0 k 3 (nI 3)) (xif (xp_unm σ k) (xu3 (xu3 σ 5 0 8 (nI (k / 4))) 0 k 3 (nI 4)) (xf_enter (xu3 (xu3 σ 5 0 8 (nI (k / 4))) 0 k 3 (nI 2)) k t n))
def xf_finish (σ : xMem) (k t : Nat) : xMem := xu3 (xu3 σ 0 k 3 (nI 3)) 2 t 2 (σ 2 t 2 + nI 1)
def xf_age (σ : xMem) (i : Nat) : xMem := fun r k j => if r = 0 ∧ k < i ∧ j = 8 ∧ σ 0 k 3 = nI 1 then σ 0 k 8 + nI 1 else σ r k j
theorem xu3_at (σ : xMem) (r k i : Nat) (v : Int32) (a b j : Nat) : xu3 σ r k i v a b j = if a = r ∧ b = k ∧ j = i then v else σ a b j := by
  unfold xu3 xw_u2 va_up
  by_cases h1 : a = r
  · subst h1
    by_cases h2 : b = k
    · subst h2
      by_cases h3 : j = i
      · simp [h3]
      · simp [h3]
    · simp [h2]
  · simp [h1]
theorem xf_age_st (σ : xMem) (i k j : Nat) (h : j ≠ 8) : xf_age σ i 0 k j = σ 0 k j := by
  unfold xf_age
  rw [if_neg]
  rintro ⟨-, -, h2, -⟩
  exact h h2
theorem xf_age_t {σ : xMem} {i : Nat} (h : xf_age σ i 0 i 3 = nI 1) : xu3 (xf_age σ i) 0 i 8 (xf_age σ i 0 i 8 + nI 1) = xf_age σ (i + 1) := by
  rw [xf_age_st _ _ _ _ (by decide)] at h
  funext a b j
  rw [xu3_at]
  unfold xf_age
  grind
theorem xf_age_f {σ : xMem} {i : Nat} (h : ¬ xf_age σ i 0 i 3 = nI 1) : xf_age σ i = xf_age σ (i + 1) := by
  rw [xf_age_st _ _ _ _ (by decide)] at h
  funext a b j
  unfold xf_age
  grind
theorem xf_age_0 (σ : xMem) : xf_age σ 0 = σ := by
  funext a b j
  unfold xf_age
  grind
noncomputable def xf_fst (P : Nat → Prop) : Nat → Nat → Option Nat
  | _, 0 => none
  | i, n + 1 => xif (P i) (some i) (xf_fst P (i + 1) n)
theorem xf_fst_t {P : Nat → Prop} {i n : Nat} (h : P i) : xf_fst P i (n + 1) = some i := xif_t h _ _
theorem xf_fst_f {P : Nat → Prop} {i n : Nat} (h : ¬ P i) : xf_fst P i (n + 1) = xf_fst P (i + 1) n := xif_f h _ _
theorem xf_fst_none {P : Nat → Prop} : ∀ n i, xf_fst P i n = none → ∀ j, i ≤ j → j < i + n → ¬ P j := by
  intro n
  induction n with
  | zero => intro i _ j h1 h2; omega
  | succ n ih =>
    intro i h j h1 h2
    by_cases hp : P i
    · rw [xf_fst_t hp] at h; cases h
    · rw [xf_fst_f hp] at h
      by_cases e : j = i
      · subst e; exact hp
      · exact ih (i + 1) h j (by omega) (by omega)
theorem xf_fst_some {P : Nat → Prop} : ∀ n i m, xf_fst P i n = some m → i ≤ m ∧ m < i + n ∧ P m ∧ ∀ j, i ≤ j → j < m → ¬ P j := by
  intro n
  induction n with
  | zero => intro i m h; simp [xf_fst] at h
  | succ n ih =>
    intro i m h
    by_cases hp : P i
    · rw [xf_fst_t hp] at h
      cases h
      exact ⟨Nat.le_refl _, by omega, hp, fun j h1 h2 => by omega⟩
    · rw [xf_fst_f hp] at h
      obtain ⟨h1, h2, h3, h4⟩ := ih (i + 1) m h
      refine ⟨by omega, by omega, h3, fun j h5 h6 => ?_⟩
      by_cases e : j = i
      · subst e; exact hp
      · exact h4 j (by omega) h6
def xp_ret (σ : xMem) (g i : Nat) : Prop := σ 0 ((g + i) % 16) 3 = nI 2 ∧ ¬ σ 0 ((g + i) % 16) 9 = 0
/-- one word of tag k comes back -/
noncomputable def xf_back (σ : xMem) (k : Nat) : xMem :=
  xif (σ 0 k 10 + nI 1 = σ 0 k 6) (xf_finish (xu3 (xu3 σ 5 0 9 (nI k)) 0 k 10 (σ 0 k 10 + nI 1)) k (xf_tgt σ k)) (xu3 (xu3 σ 5 0 9 (nI k)) 0 k 10 (σ 0 k 10 + nI 1))
noncomputable def xf_ret (σ : xMem) (g : Nat) (o : Option Nat) : xMem := match o with
  | none => σ
  | some i => xf_back σ ((g + i) % 16)
noncomputable def xf_wts (σ : xMem) (a : Nat) : Nat → Option Nat := xf_it (fun k => σ 0 k 3 = nI 1) (xp_ord σ) (fun i => 4 * a + i)
noncomputable def xf_wait (σ : xMem) (o : Option Nat) : Int32 := match o with
  | none => -1
  | some k => σ 0 k 8
def xf_rst (σ : xMem) (a i : Nat) : xMem := fun r k j => if r = 0 ∧ 4 * a ≤ k ∧ k < 4 * a + i ∧ j = 3 ∧ σ 0 k 3 = nI 1 then nI 0 else σ r k j
def xf_cnt (σ : xMem) (a : Nat) : Nat → Nat
  | 0 => 0
  | i + 1 => if σ 0 (4 * a + i) 3 = nI 1 then xf_cnt σ a i + 1 else xf_cnt σ a i
def xf_rel (σ : xMem) (x : Int32) (i : Nat) : xMem := fun r k j => if r = 2 ∧ k < i ∧ j = 3 ∧ σ 2 k 3 = x then -1 else σ r k j
theorem xf_rst_at (σ : xMem) (a i k : Nat) (h : 4 * a + i ≤ k) (j : Nat) : xf_rst σ a i 0 k j = σ 0 k j := by
  unfold xf_rst
  rw [if_neg]
  omega
theorem xf_rst_0 (σ : xMem) (a : Nat) : xf_rst σ a 0 = σ := by
  funext r b j
  unfold xf_rst
  rw [if_neg]
  omega
theorem xf_rst_t {σ : xMem} {a i : Nat} (h : xf_rst σ a i 0 (4 * a + i) 3 = nI 1) : xu3 (xf_rst σ a i) 0 (4 * a + i) 3 (nI 0) = xf_rst σ a (i + 1) := by
  rw [xf_rst_at _ _ _ _ (by omega)] at h
  funext r b j
  rw [xu3_at]
  unfold xf_rst
  grind
theorem xf_rst_f {σ : xMem} {a i : Nat} (h : ¬ xf_rst σ a i 0 (4 * a + i) 3 = nI 1) : xf_rst σ a i = xf_rst σ a (i + 1) := by
  rw [xf_rst_at _ _ _ _ (by omega)] at h
  funext r b j
  unfold xf_rst
  grind
theorem xf_cnt_t {σ : xMem} {a i : Nat} (h : xf_rst σ a i 0 (4 * a + i) 3 = nI 1) : xf_cnt σ a i + 1 = xf_cnt σ a (i + 1) := by
  rw [xf_rst_at _ _ _ _ (by omega)] at h
  show _ = if _ then _ else _
  rw [if_pos h]
theorem xf_cnt_f {σ : xMem} {a i : Nat} (h : ¬ xf_rst σ a i 0 (4 * a + i) 3 = nI 1) : xf_cnt σ a i = xf_cnt σ a (i + 1) := by
  rw [xf_rst_at _ _ _ _ (by omega)] at h
  show _ = if _ then _ else _
  rw [if_neg h]
theorem xf_rel_0 (σ : xMem) (x : Int32) : xf_rel σ x 0 = σ := by
  funext r b j
  unfold xf_rel
  rw [if_neg]
  omega
theorem xf_rel_at (σ : xMem) (x : Int32) (i j : Nat) : xf_rel σ x i 2 i j = σ 2 i j := by
  unfold xf_rel
  rw [if_neg]
  omega
theorem xf_rel_t {σ : xMem} {x : Int32} {i : Nat} (h : xf_rel σ x i 2 i 3 = x) : xu3 (xf_rel σ x i) 2 i 3 (-1) = xf_rel σ x (i + 1) := by
  rw [xf_rel_at] at h
  funext r b j
  rw [xu3_at]
  unfold xf_rel
  grind
theorem xf_rel_f {σ : xMem} {x : Int32} {i : Nat} (h : ¬ xf_rel σ x i 2 i 3 = x) : xf_rel σ x i = xf_rel σ x (i + 1) := by
  rw [xf_rel_at] at h
  funext r b j
  unfold xf_rel
  grind
end
section
/-! What SplitFabric does. -/
set_option maxRecDepth 100000 in
set_option maxHeartbeats 4000000 in
theorem cSF_enter (l : Launch) (D : va_G) (cA : Nat → ClassId) (tz : Nat) (I : List (Nat × Nat)) (ad : Nat → Nat → Nat) (σ : xMem) (k t n : Nat) (hI : xI I) (hk : k < 16) (ht : t < 3) (h0 : σ 0 k 0 = nI (k / 4)) (h1n : σ 0 k 1 = nI (k % 4)) (hn : σ 2 t 1 = nI n) (h4 : n < 4) : xD l ySF_enter bSF_enter 2 none 2 [.ref (ad 0 k), .ref (ad 2 t)] D cA tz I ad σ none (xf_enter σ k t n) := by
  refine xd_of (by decide) (by simp [lg_sl, Value.category]) ?_
  intro p e s m args below meth c A ls C hr hlk hml hl w hz
  obtain ⟨hx, hb, hown, hts⟩ := id C
  have hl : lv_has ls 2 [(0, .ref (ad 0 k)), (1, .ref (ad 2 t))] := hl
  refine lv_aload_n hx hb dSF_enter_0 rfl (lv_at hl 1 rfl) ?_
  refine lv_dup hx hb dSF_enter_1 rfl ?_
  refine xg_SF_145 C w (xI2 hI (by omega)) dSF_enter_2 ?_
  refine lv_iconst (v := nI 1) hx hb dSF_enter_5 xk_i1 ?_
  refine lv_isub hx hb dSF_enter_6 ?_
  refine xp_SF_145 C w (xI2 hI (by omega)) dSF_enter_7 (fun H locs w => ?_)
  refine lv_aload_n hx hb dSF_enter_10 rfl (lv_at hl 1 rfl) ?_
  refine lv_iconst (v := nI 4) hx hb dSF_enter_11 xk_i4 ?_
  refine lv_aload_n hx hb dSF_enter_12 rfl (lv_at hl 0 rfl) ?_
  refine xg_SF_115 C w (xI0 hI (by omega)) dSF_enter_13 ?_
  refine xn_eq (y := σ 0 k 0) (by simp [xu3, xw_u2, va_up]) ?_
  refine xn_eq (y := nI (k / 4)) h0 ?_
  refine xn_mul hx hb dSF_enter_16 ?_
  refine lv_aload_n hx hb dSF_enter_17 rfl (lv_at hl 0 rfl) ?_
  refine xg_SF_247 C w (xI0 hI (by omega)) dSF_enter_18 ?_
  refine xn_eq (y := σ 0 k 1) (by simp [xu3, xw_u2, va_up]) ?_
  refine xn_eq (y := nI (k % 4)) h1n ?_
  refine xn_add hx hb dSF_enter_21 ?_
  refine xn_eq (y := nI k) (congrArg nI (by omega)) ?_
  refine xd_callV C w hz hml hl.1 xk_SF_250 (cTA_join l D cA tz I ad (xu3 σ 2 t 2 (σ 2 t 2 - nI 1)) t n (nI k) hI ht (by simp [xu3, xw_u2, va_up, hn]) h4) (xI2 hI (by omega)) rfl rfl rfl rfl (Nat.le_of_ble_eq_true rfl) (by decide) (by decide) dSF_enter_22 (fun H locs w => ?_)
  refine W.eq (g2 := F0 m 25 ls []) rfl ?_
  refine lv_aload_n hx hb dSF_enter_25 rfl (lv_at hl 0 rfl) ?_
  refine xg_SF_173 C w (xI0 hI (by omega)) dSF_enter_26 ?_
  refine xn_eq (y := σ 0 k 4) (by simp [xu3, xw_u2, va_up]) ?_
  refine lv_iconst (v := nI 2) hx hb dSF_enter_29 xk_i2 ?_
  refine lv_icmp_ne hx hb dSF_enter_30 rfl (fun hh1 => ?_) (fun hh1 => ?_)
  · skip
    refine lv_aload_n hx hb dSF_enter_41 rfl (lv_at hl 0 rfl) ?_
    refine xg_SF_173 C w (xI0 hI (by omega)) dSF_enter_42 ?_
    refine xn_eq (y := σ 0 k 4) (by simp [xu3, xw_u2, va_up]) ?_
    refine lv_iconst (v := nI 3) hx hb dSF_enter_45 xk_i3 ?_
    refine lv_icmp_ne hx hb dSF_enter_46 rfl (fun hh2 => ?_) (fun hh2 => ?_)
    · skip
      exact xd_vret C w hr hlk dSF_enter_54 (by simp only [xf_enter, xif_f hh1, xif_f hh2])
    · skip
      refine lv_aload_n hx hb dSF_enter_49 rfl (lv_at hl 1 rfl) ?_
      refine lv_iconst (v := -1) hx hb dSF_enter_50 xk_im1 ?_
      refine xp_SF_142 C w (xI2 hI (by omega)) dSF_enter_51 (fun H locs w => ?_)
      exact xd_vret C w hr hlk dSF_enter_54 (by simp only [xf_enter, xif_f hh1, xif_t hh2])
  · skip
    refine lv_aload_n hx hb dSF_enter_33 rfl (lv_at hl 1 rfl) ?_
    refine lv_aload_n hx hb dSF_enter_34 rfl (lv_at hl 0 rfl) ?_
    refine xg_SF_115 C w (xI0 hI (by omega)) dSF_enter_35 ?_
    refine xn_eq (y := σ 0 k 0) (by simp [xu3, xw_u2, va_up]) ?_
    refine xn_eq (y := nI (k / 4)) h0 ?_
    refine xp_SF_142 C w (xI2 hI (by omega)) dSF_enter_38 (fun H locs w => ?_)
    refine lv_aload_n hx hb dSF_enter_41 rfl (lv_at hl 0 rfl) ?_
    refine xg_SF_173 C w (xI0 hI (by omega)) dSF_enter_42 ?_
    refine xn_eq (y := σ 0 k 4) (by simp [xu3, xw_u2, va_up]) ?_
    refine lv_iconst (v := nI 3) hx hb dSF_enter_45 xk_i3 ?_
    refine lv_icmp_ne hx hb dSF_enter_46 rfl (fun hh3 => ?_) (fun hh3 => ?_)
    · skip
      exact xd_vret C w hr hlk dSF_enter_54 (by simp only [xf_enter, xif_t hh1, xif_f hh3])
    · skip
      refine lv_aload_n hx hb dSF_enter_49 rfl (lv_at hl 1 rfl) ?_
      refine lv_iconst (v := -1) hx hb dSF_enter_50 xk_im1 ?_
      refine xp_SF_142 C w (xI2 hI (by omega)) dSF_enter_51 (fun H locs w => ?_)
      exact xd_vret C w hr hlk dSF_enter_54 (by simp only [xf_enter, xif_t hh1, xif_t hh3])
set_option maxRecDepth 100000 in
set_option maxHeartbeats 4000000 in
theorem cSF_grant (l : Launch) (D : va_G) (cA : Nat → ClassId) (tz : Nat) (I : List (Nat × Nat)) (ad : Nat → Nat → Nat) (σ : xMem) (k q n : Nat) (hI : xI I) (h7 : σ 7 0 0 = nI 3) (hk : k < 16) (h0 : σ 0 k 0 = nI (k / 4)) (h1n : σ 0 k 1 = nI (k % 4)) (hq : σ 0 k 5 = nI q) (h64 : q < 64) (hn : ¬ σ 0 k 4 = nI 4 → q < 48 → σ 2 (q / 16) 1 = nI n ∧ n < 4) : xD l ySF_grant bSF_grant 2 none 3 [.ref (ad 5 0), .ref (ad 0 k)] D cA tz I ad σ none (xf_grant σ k (q / 16) n) := by
  refine xd_of (by decide) (by simp [lg_sl, Value.category]) ?_
  intro p e s m args below meth c A ls C hr hlk hml hl w hz
  obtain ⟨hx, hb, hown, hts⟩ := id C
  have hl : lv_has ls 2 [(0, .ref (ad 5 0)), (1, .ref (ad 0 k))] := hl
  refine lv_aload_n hx hb dSF_grant_0 rfl (lv_at hl 0 rfl) ?_
  refine lv_aload_n hx hb dSF_grant_1 rfl (lv_at hl 1 rfl) ?_
  refine xg_SF_115 C w (xI0 hI (by omega)) dSF_grant_2 ?_
  refine xn_eq (y := nI (k / 4)) h0 ?_
  refine xp_SF_47 C w (xI5 hI) dSF_grant_5 (fun H locs w => ?_)
  refine lv_aload_n hx hb dSF_grant_8 rfl (lv_at hl 1 rfl) ?_
  refine xg_SF_173 C w (xI0 hI (by omega)) dSF_grant_9 ?_
  refine xn_eq (y := σ 0 k 4) (by simp [xu3, xw_u2, va_up]) ?_
  refine lv_iconst (v := nI 4) hx hb dSF_grant_12 xk_i4 ?_
  refine lv_icmp_ne hx hb dSF_grant_13 rfl (fun hh1 => ?_) (fun hh1 => ?_)
  · skip
    refine lv_aload_n hx hb dSF_grant_24 rfl (lv_at hl 1 rfl) ?_
    refine xd_callV C w hz hml hl.1 xk_SF_231 (cTG_isUnmapped l D cA tz I ad (xu3 σ 5 0 8 (nI (k / 4))) k hI hk) (xI0 hI (by omega)) rfl rfl rfl rfl (Nat.le_of_ble_eq_true rfl) (by decide) (by decide) dSF_grant_25 (fun H locs w => ?_)
    refine W.eq (g2 := F0 m 28 ls [.int (xb (xp_unm σ k))]) rfl ?_
    refine xz_ifeq hx hb dSF_grant_28 rfl (fun hh2 => ?_) (fun hh2 => ?_)
    · skip
      have h48 : q < 48 := Nat.not_le.mp (fun z => hh2 (show nI 48 ≤ σ 0 k 5 by rw [hq]; exact nI_le z (by omega)))
      obtain ⟨hn, h4⟩ := hn hh1 h48
      refine lv_aload_n hx hb dSF_grant_39 rfl (lv_at hl 1 rfl) ?_
      refine lv_iconst (v := nI 2) hx hb dSF_grant_40 xk_i2 ?_
      refine xp_SF_68 C w (xI0 hI (by omega)) dSF_grant_41 (fun H locs w => ?_)
      refine lv_aload_n hx hb dSF_grant_44 rfl (lv_at hl 1 rfl) ?_
      refine lv_aload_n hx hb dSF_grant_45 rfl (lv_at hl 0 rfl) ?_
      refine lv_aload_n hx hb dSF_grant_46 rfl (lv_at hl 1 rfl) ?_
      refine xd_callV C w hz hml hl.1 xk_SF_204 (cSF_targetOf l D cA tz I ad (xu3 (xu3 σ 5 0 8 (nI (k / 4))) 0 k 3 (nI 2)) k q hI h7 hk (by simp [xu3, xw_u2, va_up, hq]) h48) (xI5 hI) rfl rfl rfl rfl (Nat.le_of_ble_eq_true rfl) (by decide) (by decide) dSF_grant_47 (fun H locs w => ?_)
      refine W.eq (g2 := F0 m 50 ls [.ref (ad 2 (q / 16)), .ref (ad 0 k)]) rfl ?_
      refine xd_callS C w hz hml hl.1 xk_SF_243 (cSF_enter l D cA tz I ad (xu3 (xu3 σ 5 0 8 (nI (k / 4))) 0 k 3 (nI 2)) k (q / 16) n hI hk (by omega) (by simp [xu3, xw_u2, va_up, h0]) (by simp [xu3, xw_u2, va_up, h1n]) hn h4) rfl rfl (Nat.le_of_ble_eq_true rfl) (by decide) (by decide) dSF_grant_50 (fun H locs w => ?_)
      refine W.eq (g2 := F0 m 53 ls []) rfl ?_
      exact xd_vret C w hr hlk dSF_grant_53 (by simp only [xf_grant, xif_f hh1, xif_f hh2])
    · skip
      refine lv_aload_n hx hb dSF_grant_31 rfl (lv_at hl 1 rfl) ?_
      refine lv_iconst (v := nI 4) hx hb dSF_grant_32 xk_i4 ?_
      refine xp_SF_68 C w (xI0 hI (by omega)) dSF_grant_33 (fun H locs w => ?_)
      refine lv_goto hx hb dSF_grant_36 rfl ?_
      exact xd_vret C w hr hlk dSF_grant_53 (by simp only [xf_grant, xif_f hh1, xif_t hh2])
  · skip
    refine lv_aload_n hx hb dSF_grant_16 rfl (lv_at hl 1 rfl) ?_
    refine lv_iconst (v := nI 3) hx hb dSF_grant_17 xk_i3 ?_
    refine xp_SF_68 C w (xI0 hI (by omega)) dSF_grant_18 (fun H locs w => ?_)
    refine lv_goto hx hb dSF_grant_21 rfl ?_
    exact xd_vret C w hr hlk dSF_grant_53 (by simp only [xf_grant, xif_t hh1])
set_option maxRecDepth 100000 in
set_option maxHeartbeats 4000000 in
theorem cSF_finish (l : Launch) (D : va_G) (cA : Nat → ClassId) (tz : Nat) (I : List (Nat × Nat)) (ad : Nat → Nat → Nat) (σ : xMem) (k q : Nat) (hI : xI I) (h7 : σ 7 0 0 = nI 3) (hk : k < 16) (hq : σ 0 k 5 = nI q) (h48 : q < 48) : xD l ySF_finish bSF_finish 2 none 2 [.ref (ad 5 0), .ref (ad 0 k)] D cA tz I ad σ none (xf_finish σ k (q / 16)) := by
  refine xd_of (by decide) (by simp [lg_sl, Value.category]) ?_
  intro p e s m args below meth c A ls C hr hlk hml hl w hz
  obtain ⟨hx, hb, hown, hts⟩ := id C
  have hl : lv_has ls 2 [(0, .ref (ad 5 0)), (1, .ref (ad 0 k))] := hl
  refine lv_aload_n hx hb dSF_finish_0 rfl (lv_at hl 1 rfl) ?_
  refine lv_iconst (v := nI 3) hx hb dSF_finish_1 xk_i3 ?_
  refine xp_SF_68 C w (xI0 hI (by omega)) dSF_finish_2 (fun H locs w => ?_)
  refine lv_aload_n hx hb dSF_finish_5 rfl (lv_at hl 0 rfl) ?_
  refine lv_aload_n hx hb dSF_finish_6 rfl (lv_at hl 1 rfl) ?_
  refine xd_callV C w hz hml hl.1 xk_SF_204 (cSF_targetOf l D cA tz I ad (xu3 σ 0 k 3 (nI 3)) k q hI h7 hk (by simp [xu3, xw_u2, va_up, hq]) h48) (xI5 hI) rfl rfl rfl rfl (Nat.le_of_ble_eq_true rfl) (by decide) (by decide) dSF_finish_7 (fun H locs w => ?_)
  refine W.eq (g2 := F0 m 10 ls [.ref (ad 2 (q / 16))]) rfl ?_
  refine lv_dup hx hb dSF_finish_10 rfl ?_
  refine xg_SF_145 C w (xI2 hI (by omega)) dSF_finish_11 ?_
  refine xn_eq (y := σ 2 (q / 16) 2) (by simp [xu3, xw_u2, va_up]) ?_
  refine lv_iconst (v := nI 1) hx hb dSF_finish_14 xk_i1 ?_
  refine lv_iadd hx hb dSF_finish_15 ?_
  refine xp_SF_145 C w (xI2 hI (by omega)) dSF_finish_16 (fun H locs w => ?_)
  exact xd_vret C w hr hlk dSF_finish_19 rfl
set_option maxRecDepth 100000 in
set_option maxHeartbeats 4000000 in
theorem cSF_ageWaiting (l : Launch) (D : va_G) (cA : Nat → ClassId) (tz : Nat) (I : List (Nat × Nat)) (ad : Nat → Nat → Nat) (σ : xMem) (hI : xI I) (h6 : σ 6 0 0 = nI 16) : xD l ySF_ageWaiting bSF_ageWaiting 2 none 1 [.ref (ad 5 0)] D cA tz I ad σ none (xf_age σ 16) := by
  refine xd_of (by decide) (by simp [lg_sl, Value.category]) ?_
  intro p e s m args below meth c A ls C hr hlk hml hl w hz
  obtain ⟨hx, hb, hown, hts⟩ := id C
  have hl : lv_has ls 2 [(0, .ref (ad 5 0))] := hl
  refine lv_iconst (v := nI 0) hx hb dSF_ageWaiting_0 xk_i0 ?_
  refine lv_istore_n (lv' := [(1, .int (nI 0)), (0, .ref (ad 5 0))]) hx hb dSF_ageWaiting_1 rfl hl (by decide) rfl (fun ls hl => ?_)
  refine xl_up (Wg := fun H locs ls => W p l e _ s m args below meth c H locs _ _ _ (F0 m 2 ls [])) (K := fun i H locs ls => xr_W xCl (xT cA) D I ad (xc cA tz ad (xf_age σ i)) A s H locs ∧ lv_has ls 2 [(0, .ref (ad 5 0)), (1, .int (nI i))]) 16 ?_ ?_ 0 _ _ _ (by omega) ⟨by rw [xf_age_0]; exact w, lv_sub hl [1, 0] rfl⟩
  · skip
    intro H locs ls ⟨w, hl⟩
    refine lv_iload_n hx hb dSF_ageWaiting_2 rfl (lv_at hl 1 rfl) ?_
    refine lv_bipush (v := nI 16) hx hb dSF_ageWaiting_3 xk_b16 ?_
    refine lv_icmp_ge hx hb dSF_ageWaiting_5 rfl (fun _ => ?_) (fun hq => absurd (nI_le (by omega) (by omega)) hq)
    exact xd_vret C w hr hlk dSF_ageWaiting_42 rfl
  · skip
    intro i H locs ls hii ⟨w, hl⟩ ihi
    refine lv_iload_n hx hb dSF_ageWaiting_2 rfl (lv_at hl 1 rfl) ?_
    refine lv_bipush (v := nI 16) hx hb dSF_ageWaiting_3 xk_b16 ?_
    refine lv_icmp_ge hx hb dSF_ageWaiting_5 rfl (fun hq => absurd hq (nI_ge (by omega) (by omega))) (fun _ => ?_)
    refine lv_aload_n hx hb dSF_ageWaiting_8 rfl (lv_at hl 0 rfl) ?_
    refine xg_SF_11 C w (xI5 hI) dSF_ageWaiting_9 ?_
    refine lv_iload_n hx hb dSF_ageWaiting_12 rfl (lv_at hl 1 rfl) ?_
    refine xa_6 C w (xI6 hI) h6 i rfl (by omega) dSF_ageWaiting_13 ?_
    refine xg_SF_68 C w (xI0 hI (by omega)) dSF_ageWaiting_14 ?_
    refine lv_iconst (v := nI 1) hx hb dSF_ageWaiting_17 xk_i1 ?_
    refine lv_icmp_ne hx hb dSF_ageWaiting_18 rfl (fun hh1 => ?_) (fun hh1 => ?_)
    · skip
      refine lv_iinc (lv' := [(1, .int (nI (i + 1))), (0, .ref (ad 5 0))]) hx hb dSF_ageWaiting_36 hl (k := 1) rfl (xn_inc _) (by decide) rfl (fun ls hl => ?_)
      refine lv_goto hx hb dSF_ageWaiting_39 rfl ?_
      exact ihi _ _ _ ⟨xf_age_f hh1 ▸ w, lv_sub hl [1, 0] rfl⟩
    · skip
      refine lv_aload_n hx hb dSF_ageWaiting_21 rfl (lv_at hl 0 rfl) ?_
      refine xg_SF_11 C w (xI5 hI) dSF_ageWaiting_22 ?_
      refine lv_iload_n hx hb dSF_ageWaiting_25 rfl (lv_at hl 1 rfl) ?_
      refine xa_6 C w (xI6 hI) h6 i rfl (by omega) dSF_ageWaiting_26 ?_
      refine lv_dup hx hb dSF_ageWaiting_27 rfl ?_
      refine xg_SF_139 C w (xI0 hI (by omega)) dSF_ageWaiting_28 ?_
      refine lv_iconst (v := nI 1) hx hb dSF_ageWaiting_31 xk_i1 ?_
      refine lv_iadd hx hb dSF_ageWaiting_32 ?_
      refine xp_SF_139 C w (xI0 hI (by omega)) dSF_ageWaiting_33 (fun H locs w => ?_)
      refine lv_iinc (lv' := [(1, .int (nI (i + 1))), (0, .ref (ad 5 0))]) hx hb dSF_ageWaiting_36 hl (k := 1) rfl (xn_inc _) (by decide) rfl (fun ls hl => ?_)
      refine lv_goto hx hb dSF_ageWaiting_39 rfl ?_
      exact ihi _ _ _ ⟨xf_age_t hh1 ▸ w, lv_sub hl [1, 0] rfl⟩
set_option maxRecDepth 100000 in
set_option maxHeartbeats 4000000 in
theorem cSF_returnNextWord (l : Launch) (D : va_G) (cA : Nat → ClassId) (tz : Nat) (I : List (Nat × Nat)) (ad : Nat → Nat → Nat) (σ : xMem) (g : Nat) (hI : xI I) (h6 : σ 6 0 0 = nI 16) (h7 : σ 7 0 0 = nI 3) (hg : σ 5 0 9 = nI g) (hg16 : g < 16) (hgr : ∀ k, k < 16 → σ 0 k 3 = nI 2 → ∃ q, q < 48 ∧ σ 0 k 5 = nI q) : xD l ySF_returnNextWord bSF_returnNextWord 4 none 3 [.ref (ad 5 0)] D cA tz I ad σ none (xf_ret σ g (xf_fst (xp_ret σ g) 1 16)) := by
  refine xd_of (by decide) (by simp [lg_sl, Value.category]) ?_
  intro p e s m args below meth c A ls C hr hlk hml hl w hz
  obtain ⟨hx, hb, hown, hts⟩ := id C
  have hl : lv_has ls 4 [(0, .ref (ad 5 0))] := hl
  refine lv_iconst (v := nI 1) hx hb dSF_returnNextWord_0 xk_i1 ?_
  refine lv_istore_n (lv' := [(1, .int (nI 1)), (0, .ref (ad 5 0))]) hx hb dSF_returnNextWord_1 rfl hl (by decide) rfl (fun ls hl => ?_)
  refine xl_up (Wg := fun H locs ls => W p l e _ s m args below meth c H locs _ _ _ (F0 m 2 ls [])) (K := fun i H locs ls => xr_W xCl (xT cA) D I ad (xc cA tz ad σ) A s H locs ∧ lv_has ls 4 [(0, .ref (ad 5 0)), (1, .int (nI i))] ∧ (xf_fst (xp_ret σ g) 1 16 = xf_fst (xp_ret σ g) i (17 - i))) 17 ?_ ?_ 1 _ _ _ (by omega) ⟨w, lv_sub hl [1, 0] rfl, rfl⟩
  · skip
    intro H locs ls ⟨w, hl, he⟩
    refine lv_iload_n hx hb dSF_returnNextWord_2 rfl (lv_at hl 1 rfl) ?_
    refine lv_bipush (v := nI 16) hx hb dSF_returnNextWord_3 xk_b16 ?_
    refine lv_icmp_gt hx hb dSF_returnNextWord_5 rfl (fun _ => ?_) (fun hq => absurd (nI_lt (by omega) (by omega)) hq)
    exact xd_vret C w hr hlk dSF_returnNextWord_78 (by rw [he]; rfl)
  · skip
    intro i H locs ls hii ⟨w, hl, he⟩ ihi
    refine lv_iload_n hx hb dSF_returnNextWord_2 rfl (lv_at hl 1 rfl) ?_
    refine lv_bipush (v := nI 16) hx hb dSF_returnNextWord_3 xk_b16 ?_
    refine lv_icmp_gt hx hb dSF_returnNextWord_5 rfl (fun hq => absurd hq (nI_nlt (by omega) (by omega))) (fun _ => ?_)
    refine lv_aload_n hx hb dSF_returnNextWord_8 rfl (lv_at hl 0 rfl) ?_
    refine xg_SF_50 C w (xI5 hI) dSF_returnNextWord_9 ?_
    refine xn_eq (y := nI g) hg ?_
    refine lv_iload_n hx hb dSF_returnNextWord_12 rfl (lv_at hl 1 rfl) ?_
    refine xn_add hx hb dSF_returnNextWord_13 ?_
    refine lv_bipush (v := nI 16) hx hb dSF_returnNextWord_14 xk_b16 ?_
    refine xn_rem hx hb dSF_returnNextWord_16 (by omega) (by decide) (by decide) ?_
    refine lv_istore_n (lv' := [(2, .int (nI ((g + i) % 16))), (0, .ref (ad 5 0)), (1, .int (nI i))]) hx hb dSF_returnNextWord_17 rfl hl (by decide) rfl (fun ls hl => ?_)
    refine lv_aload_n hx hb dSF_returnNextWord_18 rfl (lv_at hl 1 rfl) ?_
    refine xg_SF_11 C w (xI5 hI) dSF_returnNextWord_19 ?_
    refine lv_iload_n hx hb dSF_returnNextWord_22 rfl (lv_at hl 0 rfl) ?_
    refine xa_6 C w (xI6 hI) h6 ((g + i) % 16) rfl (by omega) dSF_returnNextWord_23 ?_
    refine lv_astore_n (lv' := [(3, .ref (ad 0 ((g + i) % 16))), (2, .int (nI ((g + i) % 16))), (0, .ref (ad 5 0)), (1, .int (nI i))]) hx hb dSF_returnNextWord_24 rfl hl (by decide) rfl (fun ls hl => ?_)
    refine lv_aload_n hx hb dSF_returnNextWord_25 rfl (lv_at hl 0 rfl) ?_
    refine xg_SF_68 C w (xI0 hI (by omega)) dSF_returnNextWord_26 ?_
    refine lv_iconst (v := nI 2) hx hb dSF_returnNextWord_29 xk_i2 ?_
    refine lv_icmp_ne hx hb dSF_returnNextWord_30 rfl (fun hh1 => ?_) (fun hh1 => ?_)
    · skip
      refine lv_iinc (lv' := [(1, .int (nI (i + 1))), (3, .ref (ad 0 ((g + i) % 16))), (2, .int (nI ((g + i) % 16))), (0, .ref (ad 5 0))]) hx hb dSF_returnNextWord_72 hl (k := 3) rfl (xn_inc _) (by decide) rfl (fun ls hl => ?_)
      refine lv_goto hx hb dSF_returnNextWord_75 rfl ?_
      exact ihi _ _ _ ⟨w, lv_sub hl [3, 0] rfl, by rw [he, show 17 - i = (17 - (i + 1)) + 1 by omega, xf_fst_f (by unfold xp_ret; grind)]⟩
    · skip
      refine lv_aload_n hx hb dSF_returnNextWord_33 rfl (lv_at hl 0 rfl) ?_
      refine xg_SF_192 C w (xI0 hI (by omega)) dSF_returnNextWord_34 ?_
      refine lv_if_eq hx hb dSF_returnNextWord_37 rfl (fun hh2 => ?_) (fun hh2 => ?_)
      · skip
        refine lv_iinc (lv' := [(1, .int (nI (i + 1))), (3, .ref (ad 0 ((g + i) % 16))), (2, .int (nI ((g + i) % 16))), (0, .ref (ad 5 0))]) hx hb dSF_returnNextWord_72 hl (k := 3) rfl (xn_inc _) (by decide) rfl (fun ls hl => ?_)
        refine lv_goto hx hb dSF_returnNextWord_75 rfl ?_
        exact ihi _ _ _ ⟨w, lv_sub hl [3, 0] rfl, by rw [he, show 17 - i = (17 - (i + 1)) + 1 by omega, xf_fst_f (by unfold xp_ret; grind)]⟩
      · skip
        have hs : xf_fst (xp_ret σ g) 1 16 = some i := by rw [he, show 17 - i = (16 - i) + 1 by omega, xf_fst_t (show xp_ret σ g i by unfold xp_ret; grind)]
        obtain ⟨q, h48, hq⟩ := hgr ((g + i) % 16) (by omega) hh1
        have hk : (g + i) % 16 < 16 := by omega
        generalize hke : (g + i) % 16 = k at *
        refine lv_aload_n hx hb dSF_returnNextWord_40 rfl (lv_at hl 2 rfl) ?_
        refine lv_iload_n hx hb dSF_returnNextWord_41 rfl (lv_at hl 1 rfl) ?_
        refine xp_SF_50 C w (xI5 hI) dSF_returnNextWord_42 (fun H locs w => ?_)
        refine lv_aload_n hx hb dSF_returnNextWord_45 rfl (lv_at hl 0 rfl) ?_
        refine lv_dup hx hb dSF_returnNextWord_46 rfl ?_
        refine xg_SF_208 C w (xI0 hI (by omega)) dSF_returnNextWord_47 ?_
        refine xn_eq (y := σ 0 k 10) (by simp [xu3, xw_u2, va_up]) ?_
        refine lv_iconst (v := nI 1) hx hb dSF_returnNextWord_50 xk_i1 ?_
        refine lv_iadd hx hb dSF_returnNextWord_51 ?_
        refine xp_SF_208 C w (xI0 hI (by omega)) dSF_returnNextWord_52 (fun H locs w => ?_)
        refine lv_aload_n hx hb dSF_returnNextWord_55 rfl (lv_at hl 0 rfl) ?_
        refine xg_SF_208 C w (xI0 hI (by omega)) dSF_returnNextWord_56 ?_
        refine xn_eq (y := (σ 0 k 10) + (nI 1)) (by simp [xu3, xw_u2, va_up]) ?_
        refine lv_aload_n hx hb dSF_returnNextWord_59 rfl (lv_at hl 0 rfl) ?_
        refine xg_SF_129 C w (xI0 hI (by omega)) dSF_returnNextWord_60 ?_
        refine xn_eq (y := σ 0 k 6) (by simp [xu3, xw_u2, va_up]) ?_
        refine lv_icmp_ne hx hb dSF_returnNextWord_63 rfl (fun hh3 => ?_) (fun hh3 => ?_)
        · skip
          exact xd_vret C w hr hlk dSF_returnNextWord_71 (by rw [hs]; show _ = xf_back σ ((g + i) % 16); rw [hke]; unfold xf_back; rw [xf_tgt_of hq (by omega)]; simp only [xif_t hh1, xif_f hh2, xif_f hh3])
        · skip
          refine lv_aload_n hx hb dSF_returnNextWord_66 rfl (lv_at hl 2 rfl) ?_
          refine lv_aload_n hx hb dSF_returnNextWord_67 rfl (lv_at hl 0 rfl) ?_
          refine xd_callV C w hz hml hl.1 xk_SF_201 (cSF_finish l D cA tz I ad (xu3 (xu3 σ 5 0 9 (nI k)) 0 k 10 ((σ 0 k 10) + (nI 1))) k q hI h7 hk (by simp [xu3, xw_u2, va_up, hq]) h48) (xI5 hI) rfl rfl rfl rfl (Nat.le_of_ble_eq_true rfl) (by decide) (by decide) dSF_returnNextWord_68 (fun H locs w => ?_)
          refine W.eq (g2 := F0 m 71 ls []) rfl ?_
          exact xd_vret C w hr hlk dSF_returnNextWord_71 (by rw [hs]; show _ = xf_back σ ((g + i) % 16); rw [hke]; unfold xf_back; rw [xf_tgt_of hq (by omega)]; simp only [xif_t hh1, xif_f hh2, xif_t hh3])
end
section
theorem xf_best_s (σ : xMem) (g m : Nat) : xf_best σ g (m + 1) = xf_step (xp_elig σ) (xp_goes σ) (xf_best σ g m) (xf_cand g m) := rfl
theorem xf_cand_at {g i j : Nat} (h1 : 1 ≤ i) (hj : j < 4) : xf_cand g (4 * (i - 1) + j) = 4 * ((g + i) % 4) + j := by
  unfold xf_cand
  omega
theorem xf_wts_s (σ : xMem) (a m : Nat) : xf_wts σ a (m + 1) = xf_step (fun k => σ 0 k 3 = nI 1) (xp_ord σ) (xf_wts σ a m) (4 * a + m) := rfl
theorem xf_wts_lt {σ : xMem} {a i b : Nat} (ha : a < 4) (hi : i ≤ 4) (h : xf_wts σ a i = some b) : b < 16 := by
  obtain ⟨j, hj, e⟩ := xf_it_in i b h
  omega
theorem xo_cat (ad : Nat → Nat → Nat) (o : Option Nat) : (xo ad o).category = 1 := by cases o <;> rfl
end
section
/-! Whom the grant goes to. -/
set_option maxRecDepth 100000 in
set_option maxHeartbeats 4000000 in
theorem cSF_chooseGrant (l : Launch) (D : va_G) (cA : Nat → ClassId) (tz : Nat) (I : List (Nat × Nat)) (ad : Nat → Nat → Nat) (σ : xMem) (g : Nat) (hI : xI I) (hv : xv_tags σ) (hg : σ 5 0 8 = nI g) (hg4 : g < 4) : xD l ySF_chooseGrant bSF_chooseGrant 6 (some (.object "SplitFabric$Tag")) 4 [.ref (ad 5 0)] D cA tz I ad σ (some (xo ad (xf_best σ g 16))) σ := by
  refine xd_of (by decide) (by simp [lg_sl, Value.category]) ?_
  intro p e s m args below meth c A ls C hr hlk hml hl w hz
  obtain ⟨hx, hb, hown, hts⟩ := id C
  have hl : lv_has ls 6 [(0, .ref (ad 5 0))] := hl
  have h6 := hv.1
  have h7 := hv.2.1
  refine lv_null hx hb dSF_chooseGrant_0 ?_
  refine lv_astore_nN (lv' := [(1, .null), (0, .ref (ad 5 0))]) hx hb dSF_chooseGrant_1 rfl hl (by decide) rfl (fun ls hl => ?_)
  refine lv_iconst (v := nI 1) hx hb dSF_chooseGrant_2 xk_i1 ?_
  refine lv_istore_n (lv' := [(2, .int (nI 1)), (1, .null), (0, .ref (ad 5 0))]) hx hb dSF_chooseGrant_3 rfl hl (by decide) rfl (fun ls hl => ?_)
  refine xl_up (Wg := fun H locs ls => W p l e _ s m args below meth c H locs _ _ _ (F0 m 4 ls [])) (K := fun i H locs ls => xr_W xCl (xT cA) D I ad (xc cA tz ad σ) A s H locs ∧ lv_has ls 6 [(0, .ref (ad 5 0)), (1, xo ad (xf_best σ g (4 * (i - 1)))), (2, .int (nI i))] ∧ (1 ≤ i)) 5 ?_ ?_ 1 _ _ _ (by omega) ⟨w, lv_sub hl [2, 1, 0] rfl, by decide⟩
  · skip
    intro H locs ls ⟨w, hl, h1i⟩
    refine lv_iload_n hx hb dSF_chooseGrant_4 rfl (lv_at hl 2 rfl) ?_
    refine lv_iconst (v := nI 4) hx hb dSF_chooseGrant_5 xk_i4 ?_
    refine lv_icmp_gt hx hb dSF_chooseGrant_6 rfl (fun _ => ?_) (fun hq => absurd (nI_lt (by omega) (by omega)) hq)
    rcases hbe : xf_best σ g (4 * (5 - 1)) with _ | b
    · skip
      have hl : lv_has ls 6 [(0, .ref (ad 5 0)), (1, .null), (2, .int (nI 5))] := by rw [hbe] at hl; exact hl
      refine lv_aload_nN hx hb dSF_chooseGrant_74 rfl (lv_at hl 1 rfl) ?_
      exact xd_aret C w hr hlk dSF_chooseGrant_75 (Or.inl rfl) (rfl) rfl
    · skip
      have hl : lv_has ls 6 [(0, .ref (ad 5 0)), (1, .ref (ad 0 b)), (2, .int (nI 5))] := by rw [hbe] at hl; exact hl
      refine lv_aload_n hx hb dSF_chooseGrant_74 rfl (lv_at hl 1 rfl) ?_
      exact xd_aret C w hr hlk dSF_chooseGrant_75 (Or.inr ⟨_, rfl⟩) (rfl) rfl
  · skip
    intro i H locs ls hii ⟨w, hl, h1i⟩ ihi
    refine lv_iload_n hx hb dSF_chooseGrant_4 rfl (lv_at hl 2 rfl) ?_
    refine lv_iconst (v := nI 4) hx hb dSF_chooseGrant_5 xk_i4 ?_
    refine lv_icmp_gt hx hb dSF_chooseGrant_6 rfl (fun hq => absurd hq (nI_nlt (by omega) (by omega))) (fun _ => ?_)
    refine lv_aload_n hx hb dSF_chooseGrant_9 rfl (lv_at hl 0 rfl) ?_
    refine xg_SF_47 C w (xI5 hI) dSF_chooseGrant_10 ?_
    refine xn_eq (y := nI g) hg ?_
    refine lv_iload_n hx hb dSF_chooseGrant_13 rfl (lv_at hl 2 rfl) ?_
    refine xn_add hx hb dSF_chooseGrant_14 ?_
    refine lv_iconst (v := nI 4) hx hb dSF_chooseGrant_15 xk_i4 ?_
    refine xn_rem hx hb dSF_chooseGrant_16 (by omega) (by decide) (by decide) ?_
    refine lv_istore_n (lv' := [(3, .int (nI ((g + i) % 4))), (0, .ref (ad 5 0)), (1, xo ad (xf_best σ g (4 * (i - 1)))), (2, .int (nI i))]) hx hb dSF_chooseGrant_17 rfl hl (by decide) rfl (fun ls hl => ?_)
    refine lv_iconst (v := nI 0) hx hb dSF_chooseGrant_18 xk_i0 ?_
    refine lv_istore (lv' := [(4, .int (nI 0)), (3, .int (nI ((g + i) % 4))), (0, .ref (ad 5 0)), (1, xo ad (xf_best σ g (4 * (i - 1)))), (2, .int (nI i))]) hx hb dSF_chooseGrant_19 hl (by decide) rfl (fun ls hl => ?_)
    refine xl_up (Wg := fun H locs ls => W p l e _ s m args below meth c H locs _ _ _ (F0 m 21 ls [])) (K := fun j H locs ls => xr_W xCl (xT cA) D I ad (xc cA tz ad σ) A s H locs ∧ lv_has ls 6 [(0, .ref (ad 5 0)), (1, xo ad (xf_best σ g (4 * (i - 1) + j))), (2, .int (nI i)), (3, .int (nI ((g + i) % 4))), (4, .int (nI j))]) 4 ?_ ?_ 0 _ _ _ (by omega) ⟨w, lv_sub hl [2, 3, 4, 1, 0] rfl⟩
    · skip
      intro H locs ls ⟨w, hl⟩
      refine lv_iload hx hb dSF_chooseGrant_21 (lv_at hl 4 rfl) ?_
      refine lv_iconst (v := nI 4) hx hb dSF_chooseGrant_23 xk_i4 ?_
      refine lv_icmp_ge hx hb dSF_chooseGrant_24 rfl (fun _ => ?_) (fun hq => absurd (nI_le (by omega) (by omega)) hq)
      have hl : lv_has ls 6 [(0, .ref (ad 5 0)), (1, xo ad (xf_best σ g (4 * (i + 1 - 1)))), (2, .int (nI i)), (3, .int (nI ((g + i) % 4))), (4, .int (nI 4))] := by rw [show 4 * (i + 1 - 1) = 4 * (i - 1) + 4 by omega]; exact hl
      refine lv_iinc (lv' := [(2, .int (nI (i + 1))), (0, .ref (ad 5 0)), (1, xo ad (xf_best σ g (4 * (i + 1 - 1)))), (3, .int (nI ((g + i) % 4))), (4, .int (nI 4))]) hx hb dSF_chooseGrant_68 hl (k := 2) rfl (xn_inc _) (by decide) (by simp [xo_cat]) (fun ls hl => ?_)
      refine lv_goto hx hb dSF_chooseGrant_71 rfl ?_
      exact ihi _ _ _ ⟨w, lv_sub hl [1, 2, 0] rfl, by omega⟩
    · skip
      intro j H locs ls hij ⟨w, hl⟩ ihj
      have hc := xf_cand_at (g := g) h1i hij
      obtain ⟨h0, h1k, ⟨q, h64, hq⟩, nn, hn4, hnn⟩ := hv.2.2 (4 * ((g + i) % 4) + j) (by omega)
      have hkk : 4 * ((g + i) % 4) + j < 16 := by omega
      refine lv_iload hx hb dSF_chooseGrant_21 (lv_at hl 4 rfl) ?_
      refine lv_iconst (v := nI 4) hx hb dSF_chooseGrant_23 xk_i4 ?_
      refine lv_icmp_ge hx hb dSF_chooseGrant_24 rfl (fun hq => absurd hq (nI_ge (by omega) (by omega))) (fun _ => ?_)
      refine lv_aload_n hx hb dSF_chooseGrant_27 rfl (lv_at hl 0 rfl) ?_
      refine lv_iload_n hx hb dSF_chooseGrant_28 rfl (lv_at hl 3 rfl) ?_
      refine lv_iload hx hb dSF_chooseGrant_29 (lv_at hl 4 rfl) ?_
      refine xd_callV C w hz hml hl.1 xk_SF_64 (cSF_tagOf l D cA tz I ad σ ((g + i) % 4) j hI h6 (by omega)) (xI5 hI) rfl rfl rfl rfl (Nat.le_of_ble_eq_true rfl) (by decide) (by decide) dSF_chooseGrant_31 (fun H locs w => ?_)
      refine W.eq (g2 := F0 m 34 ls [.ref (ad 0 (4 * ((g + i) % 4) + j))]) rfl ?_
      refine lv_astore (lv' := [(5, .ref (ad 0 (4 * ((g + i) % 4) + j))), (0, .ref (ad 5 0)), (1, xo ad (xf_best σ g (4 * (i - 1) + j))), (2, .int (nI i)), (3, .int (nI ((g + i) % 4))), (4, .int (nI j))]) hx hb dSF_chooseGrant_34 hl (by decide) rfl (fun ls hl => ?_)
      refine lv_aload_n hx hb dSF_chooseGrant_36 rfl (lv_at hl 1 rfl) ?_
      refine lv_aload hx hb dSF_chooseGrant_37 (lv_at hl 0 rfl) ?_
      refine xd_callV C w hz hml hl.1 xk_SF_211 (cSF_isEligible l D cA tz I ad σ (4 * ((g + i) % 4) + j) q hI h6 h7 hkk h0 hq h64) (xI5 hI) rfl rfl rfl rfl (Nat.le_of_ble_eq_true rfl) (by decide) (by decide) dSF_chooseGrant_39 (fun H locs w => ?_)
      refine W.eq (g2 := F0 m 42 ls [.int (xb (xp_elig σ (4 * ((g + i) % 4) + j)))]) rfl ?_
      refine xz_ifeq hx hb dSF_chooseGrant_42 rfl (fun hh1 => ?_) (fun hh1 => ?_)
      · skip
        have hbn : xf_best σ g (4 * (i - 1) + (j + 1)) = xf_best σ g (4 * (i - 1) + j) := by
          rw [show 4 * (i - 1) + (j + 1) = (4 * (i - 1) + j) + 1 by omega, xf_best_s, hc]; unfold xf_step; rw [xif_f (fun z => hh1 z.1)]
        have hl : lv_has ls 6 [(5, .ref (ad 0 (4 * ((g + i) % 4) + j))), (0, .ref (ad 5 0)), (1, xo ad (xf_best σ g (4 * (i - 1) + (j + 1)))), (2, .int (nI i)), (3, .int (nI ((g + i) % 4))), (4, .int (nI j))] := by rw [hbn]; exact hl
        refine lv_iinc (lv' := [(4, .int (nI (j + 1))), (5, .ref (ad 0 (4 * ((g + i) % 4) + j))), (0, .ref (ad 5 0)), (1, xo ad (xf_best σ g (4 * (i - 1) + (j + 1)))), (2, .int (nI i)), (3, .int (nI ((g + i) % 4)))]) hx hb dSF_chooseGrant_62 hl (k := 5) rfl (xn_inc _) (by decide) rfl (fun ls hl => ?_)
        refine lv_goto hx hb dSF_chooseGrant_65 rfl ?_
        exact ihj _ _ _ ⟨w, lv_sub hl [2, 3, 4, 5, 0] rfl⟩
      · skip
        rcases hbe : xf_best σ g (4 * (i - 1) + j) with _ | b
        · skip
          have hl : lv_has ls 6 [(5, .ref (ad 0 (4 * ((g + i) % 4) + j))), (0, .ref (ad 5 0)), (1, .null), (2, .int (nI i)), (3, .int (nI ((g + i) % 4))), (4, .int (nI j))] := by rw [hbe] at hl; exact hl
          refine lv_aload_nN hx hb dSF_chooseGrant_45 rfl (lv_at hl 2 rfl) ?_
          refine lv_ifnullN hx hb dSF_chooseGrant_46 rfl ?_
          refine lv_aload hx hb dSF_chooseGrant_59 (lv_at hl 0 rfl) ?_
          refine lv_astore_n (lv' := [(1, .ref (ad 0 (4 * ((g + i) % 4) + j))), (5, .ref (ad 0 (4 * ((g + i) % 4) + j))), (0, .ref (ad 5 0)), (2, .int (nI i)), (3, .int (nI ((g + i) % 4))), (4, .int (nI j))]) hx hb dSF_chooseGrant_61 rfl hl (by decide) rfl (fun ls hl => ?_)
          have hbn : xf_best σ g (4 * (i - 1) + (j + 1)) = some (4 * ((g + i) % 4) + j) := by
            rw [show 4 * (i - 1) + (j + 1) = (4 * (i - 1) + j) + 1 by omega, xf_best_s, hc]; unfold xf_step; rw [xif_t ⟨hh1, fun x hx => (by rw [hbe] at hx; cases hx)⟩]
          have hl : lv_has ls 6 [(1, xo ad (xf_best σ g (4 * (i - 1) + (j + 1)))), (5, .ref (ad 0 (4 * ((g + i) % 4) + j))), (0, .ref (ad 5 0)), (2, .int (nI i)), (3, .int (nI ((g + i) % 4))), (4, .int (nI j))] := by rw [hbn]; exact hl
          refine lv_iinc (lv' := [(4, .int (nI (j + 1))), (1, xo ad (xf_best σ g (4 * (i - 1) + (j + 1)))), (5, .ref (ad 0 (4 * ((g + i) % 4) + j))), (0, .ref (ad 5 0)), (2, .int (nI i)), (3, .int (nI ((g + i) % 4)))]) hx hb dSF_chooseGrant_62 hl (k := 5) rfl (xn_inc _) (by decide) rfl (fun ls hl => ?_)
          refine lv_goto hx hb dSF_chooseGrant_65 rfl ?_
          exact ihj _ _ _ ⟨w, lv_sub hl [3, 1, 4, 5, 0] rfl⟩
        · skip
          have hl : lv_has ls 6 [(5, .ref (ad 0 (4 * ((g + i) % 4) + j))), (0, .ref (ad 5 0)), (1, .ref (ad 0 b)), (2, .int (nI i)), (3, .int (nI ((g + i) % 4))), (4, .int (nI j))] := by rw [hbe] at hl; exact hl
          have hb16 := xf_best_lt hbe
          have h0b := (hv.2.2 b hb16).1
          refine lv_aload_n hx hb dSF_chooseGrant_45 rfl (lv_at hl 2 rfl) ?_
          refine lv_ifnull hx hb dSF_chooseGrant_46 ?_
          refine lv_aload_n hx hb dSF_chooseGrant_49 rfl (lv_at hl 1 rfl) ?_
          refine lv_aload hx hb dSF_chooseGrant_50 (lv_at hl 0 rfl) ?_
          refine lv_aload_n hx hb dSF_chooseGrant_52 rfl (lv_at hl 2 rfl) ?_
          refine xd_callV C w hz hml hl.1 xk_SF_214 (cSF_goesBefore l D cA tz I ad σ (4 * ((g + i) % 4) + j) b hI hkk hb16 h0 h0b) (xI5 hI) rfl rfl rfl rfl (Nat.le_of_ble_eq_true rfl) (by decide) (by decide) dSF_chooseGrant_53 (fun H locs w => ?_)
          refine W.eq (g2 := F0 m 56 ls [.int (xb (xp_goes σ (4 * ((g + i) % 4) + j) b))]) rfl ?_
          refine xz_ifeq hx hb dSF_chooseGrant_56 rfl (fun hh2 => ?_) (fun hh2 => ?_)
          · skip
            have hbn : xf_best σ g (4 * (i - 1) + (j + 1)) = some b := by
              rw [show 4 * (i - 1) + (j + 1) = (4 * (i - 1) + j) + 1 by omega, xf_best_s, hc]; unfold xf_step; rw [xif_f (fun z => hh2 (z.2 b hbe)), hbe]
            have hl : lv_has ls 6 [(5, .ref (ad 0 (4 * ((g + i) % 4) + j))), (0, .ref (ad 5 0)), (1, xo ad (xf_best σ g (4 * (i - 1) + (j + 1)))), (2, .int (nI i)), (3, .int (nI ((g + i) % 4))), (4, .int (nI j))] := by rw [hbn]; exact hl
            refine lv_iinc (lv' := [(4, .int (nI (j + 1))), (5, .ref (ad 0 (4 * ((g + i) % 4) + j))), (0, .ref (ad 5 0)), (1, xo ad (xf_best σ g (4 * (i - 1) + (j + 1)))), (2, .int (nI i)), (3, .int (nI ((g + i) % 4)))]) hx hb dSF_chooseGrant_62 hl (k := 5) rfl (xn_inc _) (by decide) rfl (fun ls hl => ?_)
            refine lv_goto hx hb dSF_chooseGrant_65 rfl ?_
            exact ihj _ _ _ ⟨w, lv_sub hl [2, 3, 4, 5, 0] rfl⟩
          · skip
            refine lv_aload hx hb dSF_chooseGrant_59 (lv_at hl 0 rfl) ?_
            refine lv_astore_n (lv' := [(1, .ref (ad 0 (4 * ((g + i) % 4) + j))), (5, .ref (ad 0 (4 * ((g + i) % 4) + j))), (0, .ref (ad 5 0)), (2, .int (nI i)), (3, .int (nI ((g + i) % 4))), (4, .int (nI j))]) hx hb dSF_chooseGrant_61 rfl hl (by decide) rfl (fun ls hl => ?_)
            have hbn : xf_best σ g (4 * (i - 1) + (j + 1)) = some (4 * ((g + i) % 4) + j) := by
              rw [show 4 * (i - 1) + (j + 1) = (4 * (i - 1) + j) + 1 by omega, xf_best_s, hc]; unfold xf_step; rw [xif_t ⟨hh1, fun x hx => (by rw [hbe] at hx; cases hx; exact hh2)⟩]
            have hl : lv_has ls 6 [(1, xo ad (xf_best σ g (4 * (i - 1) + (j + 1)))), (5, .ref (ad 0 (4 * ((g + i) % 4) + j))), (0, .ref (ad 5 0)), (2, .int (nI i)), (3, .int (nI ((g + i) % 4))), (4, .int (nI j))] := by rw [hbn]; exact hl
            refine lv_iinc (lv' := [(4, .int (nI (j + 1))), (1, xo ad (xf_best σ g (4 * (i - 1) + (j + 1)))), (5, .ref (ad 0 (4 * ((g + i) % 4) + j))), (0, .ref (ad 5 0)), (2, .int (nI i)), (3, .int (nI ((g + i) % 4)))]) hx hb dSF_chooseGrant_62 hl (k := 5) rfl (xn_inc _) (by decide) rfl (fun ls hl => ?_)
            refine lv_goto hx hb dSF_chooseGrant_65 rfl ?_
            exact ihj _ _ _ ⟨w, lv_sub hl [3, 1, 4, 5, 0] rfl⟩
end
section
/-! Public methods, where they do not throw. -/
set_option maxRecDepth 100000 in
set_option maxHeartbeats 4000000 in
theorem cSF_checkIndex_ok (l : Launch) (D : va_G) (cA : Nat → ClassId) (tz : Nat) (I : List (Nat × Nat)) (ad : Nat → Nat → Nat) (σ : xMem) (a n : Nat) (han : a < n) (hn : n < 2 ^ 31) : xD l ySF_checkIndex bSF_checkIndex 2 none 1 [.int (nI a), .int (nI n)] D cA tz I ad σ none σ := by
  refine xd_of (by decide) (by simp [lg_sl, Value.category]) ?_
  intro p e s m args below meth c A ls C hr hlk hml hl w hz
  obtain ⟨hx, hb, hown, hts⟩ := id C
  have hl : lv_has ls 2 [(0, .int (nI a)), (1, .int (nI n))] := hl
  refine lv_iload_n hx hb dSF_checkIndex_0 rfl (lv_at hl 0 rfl) ?_
  refine lv_if_lt hx hb dSF_checkIndex_1 rfl (fun hh1 => absurd hh1 (nI_pos (by omega))) (fun hh1 => ?_)
  refine lv_iload_n hx hb dSF_checkIndex_4 rfl (lv_at hl 0 rfl) ?_
  refine lv_iload_n hx hb dSF_checkIndex_5 rfl (lv_at hl 1 rfl) ?_
  refine lv_icmp_lt hx hb dSF_checkIndex_6 rfl (fun hh2 => ?_) (fun hh2 => absurd (nI_lt han hn) hh2)
  exact xd_vret C w hr hlk dSF_checkIndex_17 rfl
set_option maxRecDepth 100000 in
set_option maxHeartbeats 4000000 in
theorem cSF_checkArgument_ok (l : Launch) (D : va_G) (cA : Nat → ClassId) (tz : Nat) (I : List (Nat × Nat)) (ad : Nat → Nat → Nat) (σ : xMem) : xD l ySF_checkArgument bSF_checkArgument 1 none 1 [.int (nI 1)] D cA tz I ad σ none σ := by
  refine xd_of (by decide) (by simp [lg_sl, Value.category]) ?_
  intro p e s m args below meth c A ls C hr hlk hml hl w hz
  obtain ⟨hx, hb, hown, hts⟩ := id C
  have hl : lv_has ls 1 [(0, .int (nI 1))] := hl
  refine lv_iload_n hx hb dSF_checkArgument_0 rfl (lv_at hl 0 rfl) ?_
  refine lv_if_ne hx hb dSF_checkArgument_1 rfl (fun _ => ?_) (fun hq => absurd hq (by decide))
  exact xd_vret C w hr hlk dSF_checkArgument_12 rfl
set_option maxRecDepth 100000 in
set_option maxHeartbeats 4000000 in
theorem cSF_checkState_ok (l : Launch) (D : va_G) (cA : Nat → ClassId) (tz : Nat) (I : List (Nat × Nat)) (ad : Nat → Nat → Nat) (σ : xMem) : xD l ySF_checkState bSF_checkState 1 none 1 [.int (nI 1)] D cA tz I ad σ none σ := by
  refine xd_of (by decide) (by simp [lg_sl, Value.category]) ?_
  intro p e s m args below meth c A ls C hr hlk hml hl w hz
  obtain ⟨hx, hb, hown, hts⟩ := id C
  have hl : lv_has ls 1 [(0, .int (nI 1))] := hl
  refine lv_iload_n hx hb dSF_checkState_0 rfl (lv_at hl 0 rfl) ?_
  refine lv_if_ne hx hb dSF_checkState_1 rfl (fun _ => ?_) (fun hq => absurd hq (by decide))
  exact xd_vret C w hr hlk dSF_checkState_12 rfl
set_option maxRecDepth 100000 in
set_option maxHeartbeats 4000000 in
theorem cSF_data_ok (l : Launch) (D : va_G) (cA : Nat → ClassId) (tz : Nat) (I : List (Nat × Nat)) (ad : Nat → Nat → Nat) (σ : xMem) (a b : Nat) (x : Int32) (hI : xI I) (ha : a < 4) (hb4 : b < 4) : xD l ySF_data bSF_data 4 none 2 [.ref (ad 5 0), .int (nI a), .int (nI b), .int x] D cA tz I ad σ none (xu3 σ 4 a b x) := by
  refine xd_of (by decide) (by simp [lg_sl, Value.category]) ?_
  intro p e s m args below meth c A ls C hr hlk hml hl w hz
  obtain ⟨hx, hb, hown, hts⟩ := id C
  have hl : lv_has ls 4 [(0, .ref (ad 5 0)), (1, .int (nI a)), (2, .int (nI b)), (3, .int x)] := hl
  refine lv_iload_n hx hb dSF_data_0 rfl (lv_at hl 1 rfl) ?_
  refine lv_iconst (v := nI 4) hx hb dSF_data_1 xk_i4 ?_
  refine xd_callS C w hz hml hl.1 xk_SF_57 (cSF_checkIndex_ok l D cA tz I ad σ a 4 (by omega) (by decide)) rfl rfl (Nat.le_of_ble_eq_true rfl) (by decide) (by decide) dSF_data_2 (fun H locs w => ?_)
  refine W.eq (g2 := F0 m 5 ls []) rfl ?_
  refine lv_iload_n hx hb dSF_data_5 rfl (lv_at hl 2 rfl) ?_
  refine lv_iconst (v := nI 4) hx hb dSF_data_6 xk_i4 ?_
  refine xd_callS C w hz hml hl.1 xk_SF_57 (cSF_checkIndex_ok l D cA tz I ad σ b 4 (by omega) (by decide)) rfl rfl (Nat.le_of_ble_eq_true rfl) (by decide) (by decide) dSF_data_7 (fun H locs w => ?_)
  refine W.eq (g2 := F0 m 10 ls []) rfl ?_
  refine lv_aload_n hx hb dSF_data_10 rfl (lv_at hl 0 rfl) ?_
  refine xg_SF_27 C w (xI5 hI) dSF_data_11 ?_
  refine lv_iload_n hx hb dSF_data_14 rfl (lv_at hl 1 rfl) ?_
  refine xa_9 C w (xI9 hI) a rfl (by omega) dSF_data_15 ?_
  refine lv_iload_n hx hb dSF_data_16 rfl (lv_at hl 2 rfl) ?_
  refine lv_iload_n hx hb dSF_data_17 rfl (lv_at hl 3 rfl) ?_
  refine xs_iast C w (xI4 hI (by omega)) (fun _ => rfl) b rfl (by omega) (by decide) dSF_data_18 (fun H locs w => ?_)
  exact xd_vret C w hr hlk dSF_data_19 rfl
set_option maxRecDepth 100000 in
set_option maxHeartbeats 4000000 in
theorem cSF_ready_ok (l : Launch) (D : va_G) (cA : Nat → ClassId) (tz : Nat) (I : List (Nat × Nat)) (ad : Nat → Nat → Nat) (σ : xMem) (t : Nat) (x : Int32) (hI : xI I) (h7 : σ 7 0 0 = nI 3) (ht : t < 3) (hx2 : x = nI 0 ∨ x = nI 1) : xD l ySF_ready bSF_ready 3 none 2 [.ref (ad 5 0), .int (nI t), .int x] D cA tz I ad σ none (xu3 σ 2 t 4 x) := by
  refine xd_of (by decide) (by simp [lg_sl, Value.category]) ?_
  intro p e s m args below meth c A ls C hr hlk hml hl w hz
  obtain ⟨hx, hb, hown, hts⟩ := id C
  have hl : lv_has ls 3 [(0, .ref (ad 5 0)), (1, .int (nI t)), (2, .int x)] := hl
  refine lv_iload_n hx hb dSF_ready_0 rfl (lv_at hl 1 rfl) ?_
  refine lv_iconst (v := nI 3) hx hb dSF_ready_1 xk_i3 ?_
  refine xd_callS C w hz hml hl.1 xk_SF_57 (cSF_checkIndex_ok l D cA tz I ad σ t 3 (by omega) (by decide)) rfl rfl (Nat.le_of_ble_eq_true rfl) (by decide) (by decide) dSF_ready_2 (fun H locs w => ?_)
  refine W.eq (g2 := F0 m 5 ls []) rfl ?_
  refine lv_aload_n hx hb dSF_ready_5 rfl (lv_at hl 0 rfl) ?_
  refine xg_SF_17 C w (xI5 hI) dSF_ready_6 ?_
  refine lv_iload_n hx hb dSF_ready_9 rfl (lv_at hl 1 rfl) ?_
  refine xa_7 C w (xI7 hI) h7 t rfl (by omega) dSF_ready_10 ?_
  refine lv_iload_n hx hb dSF_ready_11 rfl (lv_at hl 2 rfl) ?_
  refine xp_SF_94 C w (xI2 hI (by omega)) hx2 dSF_ready_12 (fun H locs w => ?_)
  exact xd_vret C w hr hlk dSF_ready_15 rfl
set_option maxRecDepth 100000 in
set_option maxHeartbeats 4000000 in
theorem cSF_time (l : Launch) (D : va_G) (cA : Nat → ClassId) (tz : Nat) (I : List (Nat × Nat)) (ad : Nat → Nat → Nat) (σ : xMem) (hI : xI I) : xD l ySF_time bSF_time 1 (some .int) 1 [.ref (ad 5 0)] D cA tz I ad σ (some (.int (σ 5 0 6))) σ := by
  refine xd_of (by decide) (by simp [lg_sl, Value.category]) ?_
  intro p e s m args below meth c A ls C hr hlk hml hl w hz
  obtain ⟨hx, hb, hown, hts⟩ := id C
  have hl : lv_has ls 1 [(0, .ref (ad 5 0))] := hl
  refine lv_aload_n hx hb dSF_time_0 rfl (lv_at hl 0 rfl) ?_
  refine xg_SF_40 C w (xI5 hI) dSF_time_1 ?_
  exact xd_iret C w hr hlk dSF_time_4 (rfl) rfl
set_option maxRecDepth 100000 in
set_option maxHeartbeats 4000000 in
theorem cSF_state_ok (l : Launch) (D : va_G) (cA : Nat → ClassId) (tz : Nat) (I : List (Nat × Nat)) (ad : Nat → Nat → Nat) (σ : xMem) (a b : Nat) (hI : xI I) (h6 : σ 6 0 0 = nI 16) (ha : a < 4) (hb4 : b < 4) : xD l ySF_state bSF_state 3 (some .int) 2 [.ref (ad 5 0), .int (nI a), .int (nI b)] D cA tz I ad σ (some (.int (σ 0 (4 * a + b) 3))) σ := by
  refine xd_of (by decide) (by simp [lg_sl, Value.category]) ?_
  intro p e s m args below meth c A ls C hr hlk hml hl w hz
  obtain ⟨hx, hb, hown, hts⟩ := id C
  have hl : lv_has ls 3 [(0, .ref (ad 5 0)), (1, .int (nI a)), (2, .int (nI b))] := hl
  refine lv_iload_n hx hb dSF_state_0 rfl (lv_at hl 1 rfl) ?_
  refine lv_iconst (v := nI 4) hx hb dSF_state_1 xk_i4 ?_
  refine xd_callS C w hz hml hl.1 xk_SF_57 (cSF_checkIndex_ok l D cA tz I ad σ a 4 (by omega) (by decide)) rfl rfl (Nat.le_of_ble_eq_true rfl) (by decide) (by decide) dSF_state_2 (fun H locs w => ?_)
  refine W.eq (g2 := F0 m 5 ls []) rfl ?_
  refine lv_iload_n hx hb dSF_state_5 rfl (lv_at hl 2 rfl) ?_
  refine lv_iconst (v := nI 4) hx hb dSF_state_6 xk_i4 ?_
  refine xd_callS C w hz hml hl.1 xk_SF_57 (cSF_checkIndex_ok l D cA tz I ad σ b 4 (by omega) (by decide)) rfl rfl (Nat.le_of_ble_eq_true rfl) (by decide) (by decide) dSF_state_7 (fun H locs w => ?_)
  refine W.eq (g2 := F0 m 10 ls []) rfl ?_
  refine lv_aload_n hx hb dSF_state_10 rfl (lv_at hl 0 rfl) ?_
  refine lv_iload_n hx hb dSF_state_11 rfl (lv_at hl 1 rfl) ?_
  refine lv_iload_n hx hb dSF_state_12 rfl (lv_at hl 2 rfl) ?_
  refine xd_callV C w hz hml hl.1 xk_SF_64 (cSF_tagOf l D cA tz I ad σ a b hI h6 (by omega)) (xI5 hI) rfl rfl rfl rfl (Nat.le_of_ble_eq_true rfl) (by decide) (by decide) dSF_state_13 (fun H locs w => ?_)
  refine W.eq (g2 := F0 m 16 ls [.ref (ad 0 (4 * a + b))]) rfl ?_
  refine xg_SF_68 C w (xI0 hI (by omega)) dSF_state_16 ?_
  exact xd_iret C w hr hlk dSF_state_19 (rfl) rfl
set_option maxRecDepth 100000 in
set_option maxHeartbeats 4000000 in
theorem cSF_word_ok (l : Launch) (D : va_G) (cA : Nat → ClassId) (tz : Nat) (I : List (Nat × Nat)) (ad : Nat → Nat → Nat) (σ : xMem) (a b i : Nat) (hI : xI I) (h6 : σ 6 0 0 = nI 16) (ha : a < 4) (hb4 : b < 4) (hi4 : i < 4) (hst : σ 0 (4 * a + b) 3 = nI 3) (hrd : xp_read σ (4 * a + b)) (hln : nI i < σ 0 (4 * a + b) 6) : xD l ySF_word bSF_word 5 (some .int) 2 [.ref (ad 5 0), .int (nI a), .int (nI b), .int (nI i)] D cA tz I ad σ (some (.int (σ 1 (4 * a + b) i))) σ := by
  refine xd_of (by decide) (by simp [lg_sl, Value.category]) ?_
  intro p e s m args below meth c A ls C hr hlk hml hl w hz
  obtain ⟨hx, hb, hown, hts⟩ := id C
  have hl : lv_has ls 5 [(0, .ref (ad 5 0)), (1, .int (nI a)), (2, .int (nI b)), (3, .int (nI i))] := hl
  refine lv_iload_n hx hb dSF_word_0 rfl (lv_at hl 1 rfl) ?_
  refine lv_iconst (v := nI 4) hx hb dSF_word_1 xk_i4 ?_
  refine xd_callS C w hz hml hl.1 xk_SF_57 (cSF_checkIndex_ok l D cA tz I ad σ a 4 (by omega) (by decide)) rfl rfl (Nat.le_of_ble_eq_true rfl) (by decide) (by decide) dSF_word_2 (fun H locs w => ?_)
  refine W.eq (g2 := F0 m 5 ls []) rfl ?_
  refine lv_iload_n hx hb dSF_word_5 rfl (lv_at hl 2 rfl) ?_
  refine lv_iconst (v := nI 4) hx hb dSF_word_6 xk_i4 ?_
  refine xd_callS C w hz hml hl.1 xk_SF_57 (cSF_checkIndex_ok l D cA tz I ad σ b 4 (by omega) (by decide)) rfl rfl (Nat.le_of_ble_eq_true rfl) (by decide) (by decide) dSF_word_7 (fun H locs w => ?_)
  refine W.eq (g2 := F0 m 10 ls []) rfl ?_
  refine lv_iload_n hx hb dSF_word_10 rfl (lv_at hl 3 rfl) ?_
  refine lv_iconst (v := nI 4) hx hb dSF_word_11 xk_i4 ?_
  refine xd_callS C w hz hml hl.1 xk_SF_57 (cSF_checkIndex_ok l D cA tz I ad σ i 4 (by omega) (by decide)) rfl rfl (Nat.le_of_ble_eq_true rfl) (by decide) (by decide) dSF_word_12 (fun H locs w => ?_)
  refine W.eq (g2 := F0 m 15 ls []) rfl ?_
  refine lv_aload_n hx hb dSF_word_15 rfl (lv_at hl 0 rfl) ?_
  refine lv_iload_n hx hb dSF_word_16 rfl (lv_at hl 1 rfl) ?_
  refine lv_iload_n hx hb dSF_word_17 rfl (lv_at hl 2 rfl) ?_
  refine xd_callV C w hz hml hl.1 xk_SF_64 (cSF_tagOf l D cA tz I ad σ a b hI h6 (by omega)) (xI5 hI) rfl rfl rfl rfl (Nat.le_of_ble_eq_true rfl) (by decide) (by decide) dSF_word_18 (fun H locs w => ?_)
  refine W.eq (g2 := F0 m 21 ls [.ref (ad 0 (4 * a + b))]) rfl ?_
  refine lv_astore (lv' := [(4, .ref (ad 0 (4 * a + b))), (0, .ref (ad 5 0)), (1, .int (nI a)), (2, .int (nI b)), (3, .int (nI i))]) hx hb dSF_word_21 hl (by decide) rfl (fun ls hl => ?_)
  refine lv_aload hx hb dSF_word_23 (lv_at hl 0 rfl) ?_
  refine xg_SF_68 C w (xI0 hI (by omega)) dSF_word_25 ?_
  refine lv_iconst (v := nI 3) hx hb dSF_word_28 xk_i3 ?_
  refine lv_icmp_ne hx hb dSF_word_29 rfl (fun hh1 => absurd hst hh1) (fun hh1 => ?_)
  refine lv_aload hx hb dSF_word_32 (lv_at hl 0 rfl) ?_
  refine xd_callV C w hz hml hl.1 xk_SF_125 (cTG_isReading l D cA tz I ad σ (4 * a + b) hI (by omega)) (xI0 hI (by omega)) rfl rfl rfl rfl (Nat.le_of_ble_eq_true rfl) (by decide) (by decide) dSF_word_34 (fun H locs w => ?_)
  refine W.eq (g2 := F0 m 37 ls [.int (xb (xp_read σ (4 * a + b)))]) rfl ?_
  refine xz_ifeq hx hb dSF_word_37 rfl (fun hh2 => absurd hrd hh2) (fun hh2 => ?_)
  refine lv_iload_n hx hb dSF_word_40 rfl (lv_at hl 4 rfl) ?_
  refine lv_aload hx hb dSF_word_41 (lv_at hl 0 rfl) ?_
  refine xg_SF_129 C w (xI0 hI (by omega)) dSF_word_43 ?_
  refine lv_icmp_ge hx hb dSF_word_46 rfl (fun hh3 => absurd hln (Int32.not_lt.mpr hh3)) (fun hh3 => ?_)
  refine lv_iconst (v := nI 1) hx hb dSF_word_49 xk_i1 ?_
  refine lv_goto hx hb dSF_word_50 rfl ?_
  refine xd_callS C w hz hml hl.1 xk_SF_71 (cSF_checkState_ok l D cA tz I ad (σ)) rfl rfl (Nat.le_of_ble_eq_true rfl) (by decide) (by decide) dSF_word_54 (fun H locs w => ?_)
  refine W.eq (g2 := F0 m 57 ls []) rfl ?_
  refine lv_aload hx hb dSF_word_57 (lv_at hl 0 rfl) ?_
  refine xg_SF_132 C w (xI0 hI (by omega)) dSF_word_59 ?_
  refine lv_iload_n hx hb dSF_word_62 rfl (lv_at hl 4 rfl) ?_
  refine xr_iald C w (xI1 hI (by omega)) rfl 0 rfl i rfl (by omega) (by decide) dSF_word_63 ?_
  exact xd_iret C w hr hlk dSF_word_64 (rfl) rfl
set_option maxRecDepth 100000 in
set_option maxHeartbeats 4000000 in
theorem cSF_take_ok (l : Launch) (D : va_G) (cA : Nat → ClassId) (tz : Nat) (I : List (Nat × Nat)) (ad : Nat → Nat → Nat) (σ : xMem) (a b : Nat) (hI : xI I) (h6 : σ 6 0 0 = nI 16) (ha : a < 4) (hb4 : b < 4) (hst : σ 0 (4 * a + b) 3 = nI 3 ∨ σ 0 (4 * a + b) 3 = nI 4) : xD l ySF_take bSF_take 5 (some .boolean) 2 [.ref (ad 5 0), .int (nI a), .int (nI b)] D cA tz I ad σ (some (.int (xb (σ 0 (4 * a + b) 3 = nI 3)))) (xu3 σ 0 (4 * a + b) 3 (nI 0)) := by
  refine xd_of (by decide) (by simp [lg_sl, Value.category]) ?_
  intro p e s m args below meth c A ls C hr hlk hml hl w hz
  obtain ⟨hx, hb, hown, hts⟩ := id C
  have hl : lv_has ls 5 [(0, .ref (ad 5 0)), (1, .int (nI a)), (2, .int (nI b))] := hl
  refine lv_iload_n hx hb dSF_take_0 rfl (lv_at hl 1 rfl) ?_
  refine lv_iconst (v := nI 4) hx hb dSF_take_1 xk_i4 ?_
  refine xd_callS C w hz hml hl.1 xk_SF_57 (cSF_checkIndex_ok l D cA tz I ad σ a 4 (by omega) (by decide)) rfl rfl (Nat.le_of_ble_eq_true rfl) (by decide) (by decide) dSF_take_2 (fun H locs w => ?_)
  refine W.eq (g2 := F0 m 5 ls []) rfl ?_
  refine lv_iload_n hx hb dSF_take_5 rfl (lv_at hl 2 rfl) ?_
  refine lv_iconst (v := nI 4) hx hb dSF_take_6 xk_i4 ?_
  refine xd_callS C w hz hml hl.1 xk_SF_57 (cSF_checkIndex_ok l D cA tz I ad σ b 4 (by omega) (by decide)) rfl rfl (Nat.le_of_ble_eq_true rfl) (by decide) (by decide) dSF_take_7 (fun H locs w => ?_)
  refine W.eq (g2 := F0 m 10 ls []) rfl ?_
  refine lv_aload_n hx hb dSF_take_10 rfl (lv_at hl 0 rfl) ?_
  refine lv_iload_n hx hb dSF_take_11 rfl (lv_at hl 1 rfl) ?_
  refine lv_iload_n hx hb dSF_take_12 rfl (lv_at hl 2 rfl) ?_
  refine xd_callV C w hz hml hl.1 xk_SF_64 (cSF_tagOf l D cA tz I ad σ a b hI h6 (by omega)) (xI5 hI) rfl rfl rfl rfl (Nat.le_of_ble_eq_true rfl) (by decide) (by decide) dSF_take_13 (fun H locs w => ?_)
  refine W.eq (g2 := F0 m 16 ls [.ref (ad 0 (4 * a + b))]) rfl ?_
  refine lv_astore_n (lv' := [(3, .ref (ad 0 (4 * a + b))), (0, .ref (ad 5 0)), (1, .int (nI a)), (2, .int (nI b))]) hx hb dSF_take_16 rfl hl (by decide) rfl (fun ls hl => ?_)
  refine lv_aload_n hx hb dSF_take_17 rfl (lv_at hl 0 rfl) ?_
  refine xg_SF_68 C w (xI0 hI (by omega)) dSF_take_18 ?_
  refine lv_iconst (v := nI 3) hx hb dSF_take_21 xk_i3 ?_
  refine lv_icmp_eq hx hb dSF_take_22 rfl (fun hh1 => ?_) (fun hh1 => ?_)
  · skip
    refine lv_iconst (v := nI 1) hx hb dSF_take_33 xk_i1 ?_
    refine lv_goto hx hb dSF_take_34 rfl ?_
    refine xd_callS C w hz hml hl.1 xk_SF_71 (cSF_checkState_ok l D cA tz I ad (σ)) rfl rfl (Nat.le_of_ble_eq_true rfl) (by decide) (by decide) dSF_take_38 (fun H locs w => ?_)
    refine W.eq (g2 := F0 m 41 ls []) rfl ?_
    refine lv_aload_n hx hb dSF_take_41 rfl (lv_at hl 0 rfl) ?_
    refine xg_SF_68 C w (xI0 hI (by omega)) dSF_take_42 ?_
    refine lv_iconst (v := nI 3) hx hb dSF_take_45 xk_i3 ?_
    refine lv_icmp_ne hx hb dSF_take_46 rfl (fun hh2 => ?_) (fun hh2 => ?_)
    · skip
      refine lv_iconst (v := nI 0) hx hb dSF_take_53 xk_i0 ?_
      refine lv_istore (lv' := [(4, .int (nI 0)), (3, .ref (ad 0 (4 * a + b))), (0, .ref (ad 5 0)), (1, .int (nI a)), (2, .int (nI b))]) hx hb dSF_take_54 hl (by decide) rfl (fun ls hl => ?_)
      refine lv_aload_n hx hb dSF_take_56 rfl (lv_at hl 1 rfl) ?_
      refine lv_iconst (v := nI 0) hx hb dSF_take_57 xk_i0 ?_
      refine xp_SF_68 C w (xI0 hI (by omega)) dSF_take_58 (fun H locs w => ?_)
      refine lv_iload hx hb dSF_take_61 (lv_at hl 0 rfl) ?_
      exact xd_zf C w hr hlk dSF_take_63 (by grind) rfl
    · skip
      refine lv_iconst (v := nI 1) hx hb dSF_take_49 xk_i1 ?_
      refine lv_goto hx hb dSF_take_50 rfl ?_
      refine lv_istore (lv' := [(4, .int (nI 1)), (3, .ref (ad 0 (4 * a + b))), (0, .ref (ad 5 0)), (1, .int (nI a)), (2, .int (nI b))]) hx hb dSF_take_54 hl (by decide) rfl (fun ls hl => ?_)
      refine lv_aload_n hx hb dSF_take_56 rfl (lv_at hl 1 rfl) ?_
      refine lv_iconst (v := nI 0) hx hb dSF_take_57 xk_i0 ?_
      refine xp_SF_68 C w (xI0 hI (by omega)) dSF_take_58 (fun H locs w => ?_)
      refine lv_iload hx hb dSF_take_61 (lv_at hl 0 rfl) ?_
      exact xd_zt C w hr hlk dSF_take_63 (by grind) rfl
  · skip
    refine lv_aload_n hx hb dSF_take_25 rfl (lv_at hl 0 rfl) ?_
    refine xg_SF_68 C w (xI0 hI (by omega)) dSF_take_26 ?_
    refine lv_iconst (v := nI 4) hx hb dSF_take_29 xk_i4 ?_
    refine lv_icmp_ne hx hb dSF_take_30 rfl (fun hh3 => absurd (hst.resolve_left (by assumption)) hh3) (fun hh3 => ?_)
    refine lv_iconst (v := nI 1) hx hb dSF_take_33 xk_i1 ?_
    refine lv_goto hx hb dSF_take_34 rfl ?_
    refine xd_callS C w hz hml hl.1 xk_SF_71 (cSF_checkState_ok l D cA tz I ad (σ)) rfl rfl (Nat.le_of_ble_eq_true rfl) (by decide) (by decide) dSF_take_38 (fun H locs w => ?_)
    refine W.eq (g2 := F0 m 41 ls []) rfl ?_
    refine lv_aload_n hx hb dSF_take_41 rfl (lv_at hl 0 rfl) ?_
    refine xg_SF_68 C w (xI0 hI (by omega)) dSF_take_42 ?_
    refine lv_iconst (v := nI 3) hx hb dSF_take_45 xk_i3 ?_
    refine lv_icmp_ne hx hb dSF_take_46 rfl (fun hh4 => ?_) (fun hh4 => ?_)
    · skip
      refine lv_iconst (v := nI 0) hx hb dSF_take_53 xk_i0 ?_
      refine lv_istore (lv' := [(4, .int (nI 0)), (3, .ref (ad 0 (4 * a + b))), (0, .ref (ad 5 0)), (1, .int (nI a)), (2, .int (nI b))]) hx hb dSF_take_54 hl (by decide) rfl (fun ls hl => ?_)
      refine lv_aload_n hx hb dSF_take_56 rfl (lv_at hl 1 rfl) ?_
      refine lv_iconst (v := nI 0) hx hb dSF_take_57 xk_i0 ?_
      refine xp_SF_68 C w (xI0 hI (by omega)) dSF_take_58 (fun H locs w => ?_)
      refine lv_iload hx hb dSF_take_61 (lv_at hl 0 rfl) ?_
      exact xd_zf C w hr hlk dSF_take_63 (by grind) rfl
    · skip
      refine lv_iconst (v := nI 1) hx hb dSF_take_49 xk_i1 ?_
      refine lv_goto hx hb dSF_take_50 rfl ?_
      refine lv_istore (lv' := [(4, .int (nI 1)), (3, .ref (ad 0 (4 * a + b))), (0, .ref (ad 5 0)), (1, .int (nI a)), (2, .int (nI b))]) hx hb dSF_take_54 hl (by decide) rfl (fun ls hl => ?_)
      refine lv_aload_n hx hb dSF_take_56 rfl (lv_at hl 1 rfl) ?_
      refine lv_iconst (v := nI 0) hx hb dSF_take_57 xk_i0 ?_
      refine xp_SF_68 C w (xI0 hI (by omega)) dSF_take_58 (fun H locs w => ?_)
      refine lv_iload hx hb dSF_take_61 (lv_at hl 0 rfl) ?_
      exact xd_zt C w hr hlk dSF_take_63 (by grind) rfl
set_option maxRecDepth 100000 in
set_option maxHeartbeats 4000000 in
theorem cSF_base_ok (l : Launch) (D : va_G) (cA : Nat → ClassId) (tz : Nat) (I : List (Nat × Nat)) (ad : Nat → Nat → Nat) (σ : xMem) (a b : Nat) (hI : xI I) (ha : a < 4) (hb2 : b ≤ 2) : xD l ySF_base bSF_base 3 none 2 [.ref (ad 5 0), .int (nI a), .int (nI b)] D cA tz I ad σ none (xu3 σ 10 0 a (nI b)) := by
  refine xd_of (by decide) (by simp [lg_sl, Value.category]) ?_
  intro p e s m args below meth c A ls C hr hlk hml hl w hz
  obtain ⟨hx, hb, hown, hts⟩ := id C
  have hl : lv_has ls 3 [(0, .ref (ad 5 0)), (1, .int (nI a)), (2, .int (nI b))] := hl
  refine lv_iload_n hx hb dSF_base_0 rfl (lv_at hl 1 rfl) ?_
  refine lv_iconst (v := nI 4) hx hb dSF_base_1 xk_i4 ?_
  refine xd_callS C w hz hml hl.1 xk_SF_57 (cSF_checkIndex_ok l D cA tz I ad σ a 4 (by omega) (by decide)) rfl rfl (Nat.le_of_ble_eq_true rfl) (by decide) (by decide) dSF_base_2 (fun H locs w => ?_)
  refine W.eq (g2 := F0 m 5 ls []) rfl ?_
  refine lv_iload_n hx hb dSF_base_5 rfl (lv_at hl 2 rfl) ?_
  refine lv_if_lt hx hb dSF_base_6 rfl (fun hh1 => absurd hh1 (nI_pos (by omega))) (fun hh1 => ?_)
  refine lv_iload_n hx hb dSF_base_9 rfl (lv_at hl 2 rfl) ?_
  refine lv_iconst (v := nI 2) hx hb dSF_base_10 xk_i2 ?_
  refine lv_icmp_gt hx hb dSF_base_11 rfl (fun hh2 => absurd hh2 (nI_nlt (by omega) (by omega))) (fun hh2 => ?_)
  refine lv_iconst (v := nI 1) hx hb dSF_base_14 xk_i1 ?_
  refine lv_goto hx hb dSF_base_15 rfl ?_
  refine xd_callS C w hz hml hl.1 xk_SF_118 (cSF_checkArgument_ok l D cA tz I ad σ) rfl rfl (Nat.le_of_ble_eq_true rfl) (by decide) (by decide) dSF_base_19 (fun H locs w => ?_)
  refine W.eq (g2 := F0 m 22 ls []) rfl ?_
  refine lv_aload_n hx hb dSF_base_22 rfl (lv_at hl 0 rfl) ?_
  refine xg_SF_30 C w (xI5 hI) dSF_base_23 ?_
  refine lv_iload_n hx hb dSF_base_26 rfl (lv_at hl 1 rfl) ?_
  refine lv_iload_n hx hb dSF_base_27 rfl (lv_at hl 2 rfl) ?_
  refine xs_iast C w (xI10 hI) (fun _ => rfl) a rfl (by omega) (by decide) dSF_base_28 (fun H locs w => ?_)
  exact xd_vret C w hr hlk dSF_base_29 rfl
set_option maxRecDepth 100000 in
set_option maxHeartbeats 4000000 in
theorem cSF_credits_ok (l : Launch) (D : va_G) (cA : Nat → ClassId) (tz : Nat) (I : List (Nat × Nat)) (ad : Nat → Nat → Nat) (σ : xMem) (t : Nat) (hI : xI I) (h7 : σ 7 0 0 = nI 3) (ht : t < 3) : xD l ySF_credits bSF_credits 2 (some .int) 2 [.ref (ad 5 0), .int (nI t)] D cA tz I ad σ (some (.int (σ 2 t 2))) σ := by
  refine xd_of (by decide) (by simp [lg_sl, Value.category]) ?_
  intro p e s m args below meth c A ls C hr hlk hml hl w hz
  obtain ⟨hx, hb, hown, hts⟩ := id C
  have hl : lv_has ls 2 [(0, .ref (ad 5 0)), (1, .int (nI t))] := hl
  refine lv_iload_n hx hb dSF_credits_0 rfl (lv_at hl 1 rfl) ?_
  refine lv_iconst (v := nI 3) hx hb dSF_credits_1 xk_i3 ?_
  refine xd_callS C w hz hml hl.1 xk_SF_57 (cSF_checkIndex_ok l D cA tz I ad σ t 3 (by omega) (by decide)) rfl rfl (Nat.le_of_ble_eq_true rfl) (by decide) (by decide) dSF_credits_2 (fun H locs w => ?_)
  refine W.eq (g2 := F0 m 5 ls []) rfl ?_
  refine lv_aload_n hx hb dSF_credits_5 rfl (lv_at hl 0 rfl) ?_
  refine xg_SF_17 C w (xI5 hI) dSF_credits_6 ?_
  refine lv_iload_n hx hb dSF_credits_9 rfl (lv_at hl 1 rfl) ?_
  refine xa_7 C w (xI7 hI) h7 t rfl (by omega) dSF_credits_10 ?_
  refine xg_SF_145 C w (xI2 hI (by omega)) dSF_credits_11 ?_
  exact xd_iret C w hr hlk dSF_credits_14 (rfl) rfl
set_option maxRecDepth 100000 in
set_option maxHeartbeats 4000000 in
theorem cSF_holder_ok (l : Launch) (D : va_G) (cA : Nat → ClassId) (tz : Nat) (I : List (Nat × Nat)) (ad : Nat → Nat → Nat) (σ : xMem) (t : Nat) (hI : xI I) (h7 : σ 7 0 0 = nI 3) (ht : t < 3) : xD l ySF_holder bSF_holder 2 (some .int) 2 [.ref (ad 5 0), .int (nI t)] D cA tz I ad σ (some (.int (σ 2 t 3))) σ := by
  refine xd_of (by decide) (by simp [lg_sl, Value.category]) ?_
  intro p e s m args below meth c A ls C hr hlk hml hl w hz
  obtain ⟨hx, hb, hown, hts⟩ := id C
  have hl : lv_has ls 2 [(0, .ref (ad 5 0)), (1, .int (nI t))] := hl
  refine lv_iload_n hx hb dSF_holder_0 rfl (lv_at hl 1 rfl) ?_
  refine lv_iconst (v := nI 3) hx hb dSF_holder_1 xk_i3 ?_
  refine xd_callS C w hz hml hl.1 xk_SF_57 (cSF_checkIndex_ok l D cA tz I ad σ t 3 (by omega) (by decide)) rfl rfl (Nat.le_of_ble_eq_true rfl) (by decide) (by decide) dSF_holder_2 (fun H locs w => ?_)
  refine W.eq (g2 := F0 m 5 ls []) rfl ?_
  refine lv_aload_n hx hb dSF_holder_5 rfl (lv_at hl 0 rfl) ?_
  refine xg_SF_17 C w (xI5 hI) dSF_holder_6 ?_
  refine lv_iload_n hx hb dSF_holder_9 rfl (lv_at hl 1 rfl) ?_
  refine xa_7 C w (xI7 hI) h7 t rfl (by omega) dSF_holder_10 ?_
  refine xg_SF_142 C w (xI2 hI (by omega)) dSF_holder_11 ?_
  exact xd_iret C w hr hlk dSF_holder_14 (rfl) rfl
set_option maxRecDepth 100000 in
set_option maxHeartbeats 4000000 in
theorem cSF_memory_ok (l : Launch) (D : va_G) (cA : Nat → ClassId) (tz : Nat) (I : List (Nat × Nat)) (ad : Nat → Nat → Nat) (σ : xMem) (a : Nat) (hI : xI I) (ha : a < 48) : xD l ySF_memory bSF_memory 2 (some .int) 2 [.ref (ad 5 0), .int (nI a)] D cA tz I ad σ (some (.int (σ 8 0 a))) σ := by
  refine xd_of (by decide) (by simp [lg_sl, Value.category]) ?_
  intro p e s m args below meth c A ls C hr hlk hml hl w hz
  obtain ⟨hx, hb, hown, hts⟩ := id C
  have hl : lv_has ls 2 [(0, .ref (ad 5 0)), (1, .int (nI a))] := hl
  refine lv_iload_n hx hb dSF_memory_0 rfl (lv_at hl 1 rfl) ?_
  refine lv_bipush (v := nI 48) hx hb dSF_memory_1 xk_b48 ?_
  refine xd_callS C w hz hml hl.1 xk_SF_57 (cSF_checkIndex_ok l D cA tz I ad σ a 48 (by omega) (by decide)) rfl rfl (Nat.le_of_ble_eq_true rfl) (by decide) (by decide) dSF_memory_3 (fun H locs w => ?_)
  refine W.eq (g2 := F0 m 6 ls []) rfl ?_
  refine lv_aload_n hx hb dSF_memory_6 rfl (lv_at hl 0 rfl) ?_
  refine xg_SF_21 C w (xI5 hI) dSF_memory_7 ?_
  refine lv_iload_n hx hb dSF_memory_10 rfl (lv_at hl 1 rfl) ?_
  refine xr_iald C w (xI8 hI) rfl 0 rfl a rfl (by omega) (by decide) dSF_memory_11 ?_
  exact xd_iret C w hr hlk dSF_memory_12 (rfl) rfl
set_option maxRecDepth 100000 in
set_option maxHeartbeats 4000000 in
theorem cSF_waits_ok (l : Launch) (D : va_G) (cA : Nat → ClassId) (tz : Nat) (I : List (Nat × Nat)) (ad : Nat → Nat → Nat) (σ : xMem) (a : Nat) (hI : xI I) (h6 : σ 6 0 0 = nI 16) (ha : a < 4) : xD l ySF_waits bSF_waits 5 (some .int) 2 [.ref (ad 5 0), .int (nI a)] D cA tz I ad σ (some (.int (xf_wait σ (xf_wts σ a 4)))) σ := by
  refine xd_of (by decide) (by simp [lg_sl, Value.category]) ?_
  intro p e s m args below meth c A ls C hr hlk hml hl w hz
  obtain ⟨hx, hb, hown, hts⟩ := id C
  have hl : lv_has ls 5 [(0, .ref (ad 5 0)), (1, .int (nI a))] := hl
  refine lv_iload_n hx hb dSF_waits_0 rfl (lv_at hl 1 rfl) ?_
  refine lv_iconst (v := nI 4) hx hb dSF_waits_1 xk_i4 ?_
  refine xd_callS C w hz hml hl.1 xk_SF_57 (cSF_checkIndex_ok l D cA tz I ad σ a 4 (by omega) (by decide)) rfl rfl (Nat.le_of_ble_eq_true rfl) (by decide) (by decide) dSF_waits_2 (fun H locs w => ?_)
  refine W.eq (g2 := F0 m 5 ls []) rfl ?_
  refine lv_null hx hb dSF_waits_5 ?_
  refine lv_astore_nN (lv' := [(2, .null), (0, .ref (ad 5 0)), (1, .int (nI a))]) hx hb dSF_waits_6 rfl hl (by decide) rfl (fun ls hl => ?_)
  refine lv_iconst (v := nI 0) hx hb dSF_waits_7 xk_i0 ?_
  refine lv_istore_n (lv' := [(3, .int (nI 0)), (2, .null), (0, .ref (ad 5 0)), (1, .int (nI a))]) hx hb dSF_waits_8 rfl hl (by decide) rfl (fun ls hl => ?_)
  refine xl_up (Wg := fun H locs ls => W p l e _ s m args below meth c H locs _ _ _ (F0 m 9 ls [])) (K := fun i H locs ls => xr_W xCl (xT cA) D I ad (xc cA tz ad σ) A s H locs ∧ lv_has ls 5 [(0, .ref (ad 5 0)), (1, .int (nI a)), (2, xo ad (xf_wts σ a i)), (3, .int (nI i))]) 4 ?_ ?_ 0 _ _ _ (by omega) ⟨w, lv_sub hl [2, 3, 1, 0] rfl⟩
  · skip
    intro H locs ls ⟨w, hl⟩
    refine lv_iload_n hx hb dSF_waits_9 rfl (lv_at hl 3 rfl) ?_
    refine lv_iconst (v := nI 4) hx hb dSF_waits_10 xk_i4 ?_
    refine lv_icmp_ge hx hb dSF_waits_11 rfl (fun _ => ?_) (fun hq => absurd (nI_le (by omega) (by omega)) hq)
    rcases hbe : xf_wts σ a 4 with _ | b
    · skip
      have hl : lv_has ls 5 [(0, .ref (ad 5 0)), (1, .int (nI a)), (2, .null), (3, .int (nI 4))] := by rw [hbe] at hl; exact hl
      refine lv_aload_nN hx hb dSF_waits_53 rfl (lv_at hl 2 rfl) ?_
      refine lv_ifnonnullN hx hb dSF_waits_54 ?_
      refine lv_iconst (v := -1) hx hb dSF_waits_57 xk_im1 ?_
      refine lv_goto hx hb dSF_waits_58 rfl ?_
      exact xd_iret C w hr hlk dSF_waits_65 (rfl) rfl
    · skip
      have hl : lv_has ls 5 [(0, .ref (ad 5 0)), (1, .int (nI a)), (2, .ref (ad 0 b)), (3, .int (nI 4))] := by rw [hbe] at hl; exact hl
      have hb16 := xf_wts_lt ha (by omega) hbe
      refine lv_aload_n hx hb dSF_waits_53 rfl (lv_at hl 2 rfl) ?_
      refine lv_ifnonnull hx hb dSF_waits_54 rfl ?_
      refine lv_aload_n hx hb dSF_waits_61 rfl (lv_at hl 2 rfl) ?_
      refine xg_SF_139 C w (xI0 hI (by omega)) dSF_waits_62 ?_
      exact xd_iret C w hr hlk dSF_waits_65 (rfl) rfl
  · skip
    intro i H locs ls hii ⟨w, hl⟩ ihi
    refine lv_iload_n hx hb dSF_waits_9 rfl (lv_at hl 3 rfl) ?_
    refine lv_iconst (v := nI 4) hx hb dSF_waits_10 xk_i4 ?_
    refine lv_icmp_ge hx hb dSF_waits_11 rfl (fun hq => absurd hq (nI_ge (by omega) (by omega))) (fun _ => ?_)
    refine lv_aload_n hx hb dSF_waits_14 rfl (lv_at hl 0 rfl) ?_
    refine lv_iload_n hx hb dSF_waits_15 rfl (lv_at hl 1 rfl) ?_
    refine lv_iload_n hx hb dSF_waits_16 rfl (lv_at hl 3 rfl) ?_
    refine xd_callV C w hz hml hl.1 xk_SF_64 (cSF_tagOf l D cA tz I ad σ a i hI h6 (by omega)) (xI5 hI) rfl rfl rfl rfl (Nat.le_of_ble_eq_true rfl) (by decide) (by decide) dSF_waits_17 (fun H locs w => ?_)
    refine W.eq (g2 := F0 m 20 ls [.ref (ad 0 (4 * a + i))]) rfl ?_
    refine lv_astore (lv' := [(4, .ref (ad 0 (4 * a + i))), (0, .ref (ad 5 0)), (1, .int (nI a)), (2, xo ad (xf_wts σ a i)), (3, .int (nI i))]) hx hb dSF_waits_20 hl (by decide) rfl (fun ls hl => ?_)
    refine lv_aload hx hb dSF_waits_22 (lv_at hl 0 rfl) ?_
    refine xg_SF_68 C w (xI0 hI (by omega)) dSF_waits_24 ?_
    refine lv_iconst (v := nI 1) hx hb dSF_waits_27 xk_i1 ?_
    refine lv_icmp_ne hx hb dSF_waits_28 rfl (fun hh1 => ?_) (fun hh1 => ?_)
    · skip
      have hbn : xf_wts σ a (i + 1) = xf_wts σ a i := by rw [xf_wts_s]; unfold xf_step; rw [xif_f (fun z => hh1 z.1)]
      have hl : lv_has ls 5 [(4, .ref (ad 0 (4 * a + i))), (0, .ref (ad 5 0)), (1, .int (nI a)), (2, xo ad (xf_wts σ a (i + 1))), (3, .int (nI i))] := by rw [hbn]; exact hl
      refine lv_iinc (lv' := [(3, .int (nI (i + 1))), (4, .ref (ad 0 (4 * a + i))), (0, .ref (ad 5 0)), (1, .int (nI a)), (2, xo ad (xf_wts σ a (i + 1)))]) hx hb dSF_waits_47 hl (k := 4) rfl (xn_inc _) (by decide) (by simp [xo_cat]) (fun ls hl => ?_)
      refine lv_goto hx hb dSF_waits_50 rfl ?_
      exact ihi _ _ _ ⟨w, lv_sub hl [2, 3, 4, 0] rfl⟩
    · skip
      rcases hbe : xf_wts σ a i with _ | b
      · skip
        have hl : lv_has ls 5 [(4, .ref (ad 0 (4 * a + i))), (0, .ref (ad 5 0)), (1, .int (nI a)), (2, .null), (3, .int (nI i))] := by rw [hbe] at hl; exact hl
        refine lv_aload_nN hx hb dSF_waits_31 rfl (lv_at hl 3 rfl) ?_
        refine lv_ifnullN hx hb dSF_waits_32 rfl ?_
        refine lv_aload hx hb dSF_waits_44 (lv_at hl 0 rfl) ?_
        refine lv_astore_n (lv' := [(2, .ref (ad 0 (4 * a + i))), (4, .ref (ad 0 (4 * a + i))), (0, .ref (ad 5 0)), (1, .int (nI a)), (3, .int (nI i))]) hx hb dSF_waits_46 rfl hl (by decide) rfl (fun ls hl => ?_)
        have hbn : xf_wts σ a (i + 1) = some (4 * a + i) := by rw [xf_wts_s]; unfold xf_step; rw [xif_t ⟨hh1, fun x hx => (by rw [hbe] at hx; cases hx)⟩]
        have hl : lv_has ls 5 [(2, xo ad (xf_wts σ a (i + 1))), (4, .ref (ad 0 (4 * a + i))), (0, .ref (ad 5 0)), (1, .int (nI a)), (3, .int (nI i))] := by rw [hbn]; exact hl
        refine lv_iinc (lv' := [(3, .int (nI (i + 1))), (2, xo ad (xf_wts σ a (i + 1))), (4, .ref (ad 0 (4 * a + i))), (0, .ref (ad 5 0)), (1, .int (nI a))]) hx hb dSF_waits_47 hl (k := 4) rfl (xn_inc _) (by decide) (by simp [xo_cat]) (fun ls hl => ?_)
        refine lv_goto hx hb dSF_waits_50 rfl ?_
        exact ihi _ _ _ ⟨w, lv_sub hl [3, 4, 1, 0] rfl⟩
      · skip
        have hl : lv_has ls 5 [(4, .ref (ad 0 (4 * a + i))), (0, .ref (ad 5 0)), (1, .int (nI a)), (2, .ref (ad 0 b)), (3, .int (nI i))] := by rw [hbe] at hl; exact hl
        have hb16 := xf_wts_lt ha (by omega) hbe
        refine lv_aload_n hx hb dSF_waits_31 rfl (lv_at hl 3 rfl) ?_
        refine lv_ifnull hx hb dSF_waits_32 ?_
        refine lv_aload hx hb dSF_waits_35 (lv_at hl 0 rfl) ?_
        refine lv_aload_n hx hb dSF_waits_37 rfl (lv_at hl 3 rfl) ?_
        refine xd_callV C w hz hml hl.1 xk_SF_135 (cTG_isBefore l D cA tz I ad σ (4 * a + i) b hI (by omega) hb16) (xI0 hI (by omega)) rfl rfl rfl rfl (Nat.le_of_ble_eq_true rfl) (by decide) (by decide) dSF_waits_38 (fun H locs w => ?_)
        refine W.eq (g2 := F0 m 41 ls [.int (xb (xp_ord σ (4 * a + i) b))]) rfl ?_
        refine xz_ifeq hx hb dSF_waits_41 rfl (fun hh2 => ?_) (fun hh2 => ?_)
        · skip
          have hbn : xf_wts σ a (i + 1) = some b := by rw [xf_wts_s]; unfold xf_step; rw [xif_f (fun z => hh2 (z.2 b hbe)), hbe]
          have hl : lv_has ls 5 [(4, .ref (ad 0 (4 * a + i))), (0, .ref (ad 5 0)), (1, .int (nI a)), (2, xo ad (xf_wts σ a (i + 1))), (3, .int (nI i))] := by rw [hbn]; exact hl
          refine lv_iinc (lv' := [(3, .int (nI (i + 1))), (4, .ref (ad 0 (4 * a + i))), (0, .ref (ad 5 0)), (1, .int (nI a)), (2, xo ad (xf_wts σ a (i + 1)))]) hx hb dSF_waits_47 hl (k := 4) rfl (xn_inc _) (by decide) (by simp [xo_cat]) (fun ls hl => ?_)
          refine lv_goto hx hb dSF_waits_50 rfl ?_
          exact ihi _ _ _ ⟨w, lv_sub hl [2, 3, 4, 0] rfl⟩
        · skip
          refine lv_aload hx hb dSF_waits_44 (lv_at hl 0 rfl) ?_
          refine lv_astore_n (lv' := [(2, .ref (ad 0 (4 * a + i))), (4, .ref (ad 0 (4 * a + i))), (0, .ref (ad 5 0)), (1, .int (nI a)), (3, .int (nI i))]) hx hb dSF_waits_46 rfl hl (by decide) rfl (fun ls hl => ?_)
          have hbn : xf_wts σ a (i + 1) = some (4 * a + i) := by rw [xf_wts_s]; unfold xf_step; rw [xif_t ⟨hh1, fun x hx => (by rw [hbe] at hx; cases hx; exact hh2)⟩]
          have hl : lv_has ls 5 [(2, xo ad (xf_wts σ a (i + 1))), (4, .ref (ad 0 (4 * a + i))), (0, .ref (ad 5 0)), (1, .int (nI a)), (3, .int (nI i))] := by rw [hbn]; exact hl
          refine lv_iinc (lv' := [(3, .int (nI (i + 1))), (2, xo ad (xf_wts σ a (i + 1))), (4, .ref (ad 0 (4 * a + i))), (0, .ref (ad 5 0)), (1, .int (nI a))]) hx hb dSF_waits_47 hl (k := 4) rfl (xn_inc _) (by decide) (by simp [xo_cat]) (fun ls hl => ?_)
          refine lv_goto hx hb dSF_waits_50 rfl ?_
          exact ihi _ _ _ ⟨w, lv_sub hl [3, 4, 1, 0] rfl⟩
set_option maxRecDepth 100000 in
set_option maxHeartbeats 4000000 in
theorem cSF_reset_ok (l : Launch) (D : va_G) (cA : Nat → ClassId) (tz : Nat) (I : List (Nat × Nat)) (ad : Nat → Nat → Nat) (σ : xMem) (a : Nat) (hI : xI I) (h6 : σ 6 0 0 = nI 16) (h7 : σ 7 0 0 = nI 3) (ha : a < 4) : xD l ySF_reset bSF_reset 5 (some .int) 2 [.ref (ad 5 0), .int (nI a)] D cA tz I ad σ (some (.int (nI (xf_cnt σ a 4)))) (xf_rel (xf_rst σ a 4) (nI a) 3) := by
  refine xd_of (by decide) (by simp [lg_sl, Value.category]) ?_
  intro p e s m args below meth c A ls C hr hlk hml hl w hz
  obtain ⟨hx, hb, hown, hts⟩ := id C
  have hl : lv_has ls 5 [(0, .ref (ad 5 0)), (1, .int (nI a))] := hl
  refine lv_iload_n hx hb dSF_reset_0 rfl (lv_at hl 1 rfl) ?_
  refine lv_iconst (v := nI 4) hx hb dSF_reset_1 xk_i4 ?_
  refine xd_callS C w hz hml hl.1 xk_SF_57 (cSF_checkIndex_ok l D cA tz I ad σ a 4 (by omega) (by decide)) rfl rfl (Nat.le_of_ble_eq_true rfl) (by decide) (by decide) dSF_reset_2 (fun H locs w => ?_)
  refine W.eq (g2 := F0 m 5 ls []) rfl ?_
  refine lv_iconst (v := nI 0) hx hb dSF_reset_5 xk_i0 ?_
  refine lv_istore_n (lv' := [(2, .int (nI 0)), (0, .ref (ad 5 0)), (1, .int (nI a))]) hx hb dSF_reset_6 rfl hl (by decide) rfl (fun ls hl => ?_)
  refine lv_iconst (v := nI 0) hx hb dSF_reset_7 xk_i0 ?_
  refine lv_istore_n (lv' := [(3, .int (nI 0)), (2, .int (nI 0)), (0, .ref (ad 5 0)), (1, .int (nI a))]) hx hb dSF_reset_8 rfl hl (by decide) rfl (fun ls hl => ?_)
  refine xl_up (Wg := fun H locs ls => W p l e _ s m args below meth c H locs _ _ _ (F0 m 9 ls [])) (K := fun i H locs ls => xr_W xCl (xT cA) D I ad (xc cA tz ad (xf_rst σ a i)) A s H locs ∧ lv_has ls 5 [(0, .ref (ad 5 0)), (1, .int (nI a)), (2, .int (nI (xf_cnt σ a i))), (3, .int (nI i))]) 4 ?_ ?_ 0 _ _ _ (by omega) ⟨by rw [xf_rst_0]; exact w, lv_sub hl [2, 3, 1, 0] rfl⟩
  · skip
    intro H locs ls ⟨w, hl⟩
    refine lv_iload_n hx hb dSF_reset_9 rfl (lv_at hl 3 rfl) ?_
    refine lv_iconst (v := nI 4) hx hb dSF_reset_10 xk_i4 ?_
    refine lv_icmp_ge hx hb dSF_reset_11 rfl (fun _ => ?_) (fun hq => absurd (nI_le (by omega) (by omega)) hq)
    refine lv_iconst (v := nI 0) hx hb dSF_reset_46 xk_i0 ?_
    refine lv_istore_n (lv' := [(3, .int (nI 0)), (0, .ref (ad 5 0)), (1, .int (nI a)), (2, .int (nI (xf_cnt σ a 4)))]) hx hb dSF_reset_47 rfl hl (by decide) rfl (fun ls hl => ?_)
    refine xl_up (Wg := fun H locs ls => W p l e _ s m args below meth c H locs _ _ _ (F0 m 48 ls [])) (K := fun i H locs ls => xr_W xCl (xT cA) D I ad (xc cA tz ad (xf_rel (xf_rst σ a 4) (nI a) i)) A s H locs ∧ lv_has ls 5 [(0, .ref (ad 5 0)), (1, .int (nI a)), (2, .int (nI (xf_cnt σ a 4))), (3, .int (nI i))]) 3 ?_ ?_ 0 _ _ _ (by omega) ⟨by rw [xf_rel_0]; exact w, lv_sub hl [1, 2, 3, 0] rfl⟩
    · skip
      intro H locs ls ⟨w, hl⟩
      refine lv_iload_n hx hb dSF_reset_48 rfl (lv_at hl 3 rfl) ?_
      refine lv_iconst (v := nI 3) hx hb dSF_reset_49 xk_i3 ?_
      refine lv_icmp_ge hx hb dSF_reset_50 rfl (fun _ => ?_) (fun hq => absurd (nI_le (by omega) (by omega)) hq)
      refine lv_iload_n hx hb dSF_reset_82 rfl (lv_at hl 2 rfl) ?_
      exact xd_iret C w hr hlk dSF_reset_83 (rfl) rfl
    · skip
      intro i H locs ls hii ⟨w, hl⟩ ihi
      refine lv_iload_n hx hb dSF_reset_48 rfl (lv_at hl 3 rfl) ?_
      refine lv_iconst (v := nI 3) hx hb dSF_reset_49 xk_i3 ?_
      refine lv_icmp_ge hx hb dSF_reset_50 rfl (fun hq => absurd hq (nI_ge (by omega) (by omega))) (fun _ => ?_)
      refine lv_aload_n hx hb dSF_reset_53 rfl (lv_at hl 0 rfl) ?_
      refine xg_SF_17 C w (xI5 hI) dSF_reset_54 ?_
      refine lv_iload_n hx hb dSF_reset_57 rfl (lv_at hl 3 rfl) ?_
      refine xa_7 C w (xI7 hI) h7 i rfl (by omega) dSF_reset_58 ?_
      refine xg_SF_142 C w (xI2 hI (by omega)) dSF_reset_59 ?_
      refine lv_iload_n hx hb dSF_reset_62 rfl (lv_at hl 1 rfl) ?_
      refine lv_icmp_ne hx hb dSF_reset_63 rfl (fun hh1 => ?_) (fun hh1 => ?_)
      · skip
        refine lv_iinc (lv' := [(3, .int (nI (i + 1))), (0, .ref (ad 5 0)), (1, .int (nI a)), (2, .int (nI (xf_cnt σ a 4)))]) hx hb dSF_reset_76 hl (k := 3) rfl (xn_inc _) (by decide) rfl (fun ls hl => ?_)
        refine lv_goto hx hb dSF_reset_79 rfl ?_
        exact ihi _ _ _ ⟨xf_rel_f hh1 ▸ w, lv_sub hl [1, 2, 3, 0] rfl⟩
      · skip
        refine lv_aload_n hx hb dSF_reset_66 rfl (lv_at hl 0 rfl) ?_
        refine xg_SF_17 C w (xI5 hI) dSF_reset_67 ?_
        refine lv_iload_n hx hb dSF_reset_70 rfl (lv_at hl 3 rfl) ?_
        refine xa_7 C w (xI7 hI) h7 i rfl (by omega) dSF_reset_71 ?_
        refine lv_iconst (v := -1) hx hb dSF_reset_72 xk_im1 ?_
        refine xp_SF_142 C w (xI2 hI (by omega)) dSF_reset_73 (fun H locs w => ?_)
        refine lv_iinc (lv' := [(3, .int (nI (i + 1))), (0, .ref (ad 5 0)), (1, .int (nI a)), (2, .int (nI (xf_cnt σ a 4)))]) hx hb dSF_reset_76 hl (k := 3) rfl (xn_inc _) (by decide) rfl (fun ls hl => ?_)
        refine lv_goto hx hb dSF_reset_79 rfl ?_
        exact ihi _ _ _ ⟨xf_rel_t hh1 ▸ w, lv_sub hl [1, 2, 3, 0] rfl⟩
  · skip
    intro i H locs ls hii ⟨w, hl⟩ ihi
    refine lv_iload_n hx hb dSF_reset_9 rfl (lv_at hl 3 rfl) ?_
    refine lv_iconst (v := nI 4) hx hb dSF_reset_10 xk_i4 ?_
    refine lv_icmp_ge hx hb dSF_reset_11 rfl (fun hq => absurd hq (nI_ge (by omega) (by omega))) (fun _ => ?_)
    refine lv_aload_n hx hb dSF_reset_14 rfl (lv_at hl 0 rfl) ?_
    refine lv_iload_n hx hb dSF_reset_15 rfl (lv_at hl 1 rfl) ?_
    refine lv_iload_n hx hb dSF_reset_16 rfl (lv_at hl 3 rfl) ?_
    refine xd_callV C w hz hml hl.1 xk_SF_64 (cSF_tagOf l D cA tz I ad (xf_rst σ a i) a i hI h6 (by omega)) (xI5 hI) rfl rfl rfl rfl (Nat.le_of_ble_eq_true rfl) (by decide) (by decide) dSF_reset_17 (fun H locs w => ?_)
    refine W.eq (g2 := F0 m 20 ls [.ref (ad 0 (4 * a + i))]) rfl ?_
    refine lv_astore (lv' := [(4, .ref (ad 0 (4 * a + i))), (0, .ref (ad 5 0)), (1, .int (nI a)), (2, .int (nI (xf_cnt σ a i))), (3, .int (nI i))]) hx hb dSF_reset_20 hl (by decide) rfl (fun ls hl => ?_)
    refine lv_aload hx hb dSF_reset_22 (lv_at hl 0 rfl) ?_
    refine xg_SF_68 C w (xI0 hI (by omega)) dSF_reset_24 ?_
    refine lv_iconst (v := nI 1) hx hb dSF_reset_27 xk_i1 ?_
    refine lv_icmp_ne hx hb dSF_reset_28 rfl (fun hh2 => ?_) (fun hh2 => ?_)
    · skip
      have hl : lv_has ls 5 [(4, .ref (ad 0 (4 * a + i))), (0, .ref (ad 5 0)), (1, .int (nI a)), (2, .int (nI (xf_cnt σ a (i + 1)))), (3, .int (nI i))] := by rw [← xf_cnt_f hh2]; exact hl
      refine lv_iinc (lv' := [(3, .int (nI (i + 1))), (4, .ref (ad 0 (4 * a + i))), (0, .ref (ad 5 0)), (1, .int (nI a)), (2, .int (nI (xf_cnt σ a (i + 1))))]) hx hb dSF_reset_40 hl (k := 4) rfl (xn_inc _) (by decide) rfl (fun ls hl => ?_)
      refine lv_goto hx hb dSF_reset_43 rfl ?_
      exact ihi _ _ _ ⟨xf_rst_f hh2 ▸ w, lv_sub hl [2, 3, 4, 0] rfl⟩
    · skip
      refine lv_aload hx hb dSF_reset_31 (lv_at hl 0 rfl) ?_
      refine lv_iconst (v := nI 0) hx hb dSF_reset_33 xk_i0 ?_
      refine xp_SF_68 C w (xI0 hI (by omega)) dSF_reset_34 (fun H locs w => ?_)
      refine lv_iinc (lv' := [(2, .int (nI (xf_cnt σ a i + 1))), (4, .ref (ad 0 (4 * a + i))), (0, .ref (ad 5 0)), (1, .int (nI a)), (3, .int (nI i))]) hx hb dSF_reset_37 hl (k := 3) rfl (xn_inc _) (by decide) rfl (fun ls hl => ?_)
      have hl : lv_has ls 5 [(2, .int (nI (xf_cnt σ a (i + 1)))), (4, .ref (ad 0 (4 * a + i))), (0, .ref (ad 5 0)), (1, .int (nI a)), (3, .int (nI i))] := by rw [← xf_cnt_t hh2]; exact hl
      refine lv_iinc (lv' := [(3, .int (nI (i + 1))), (2, .int (nI (xf_cnt σ a (i + 1)))), (4, .ref (ad 0 (4 * a + i))), (0, .ref (ad 5 0)), (1, .int (nI a))]) hx hb dSF_reset_40 hl (k := 4) rfl (xn_inc _) (by decide) rfl (fun ls hl => ?_)
      refine lv_goto hx hb dSF_reset_43 rfl ?_
      exact ihi _ _ _ ⟨xf_rst_t hh2 ▸ w, lv_sub hl [3, 4, 1, 0] rfl⟩
set_option maxRecDepth 100000 in
set_option maxHeartbeats 4000000 in
theorem cSF_checkRequest_bar (l : Launch) (D : va_G) (cA : Nat → ClassId) (tz : Nat) (I : List (Nat × Nat)) (ad : Nat → Nat → Nat) (σ : xMem) (x y : Int32) : xD l ySF_checkRequest bSF_checkRequest 4 none 2 [.int (nI 4), .int x, .int y] D cA tz I ad σ none σ := by
  refine xd_of (by decide) (by simp [lg_sl, Value.category]) ?_
  intro p e s m args below meth c A ls C hr hlk hml hl w hz
  obtain ⟨hx, hb, hown, hts⟩ := id C
  have hl : lv_has ls 4 [(0, .int (nI 4)), (1, .int x), (2, .int y)] := hl
  refine lv_iload_n hx hb dSF_checkRequest_0 rfl (lv_at hl 0 rfl) ?_
  refine lv_if_lt hx hb dSF_checkRequest_1 rfl (fun hh1 => absurd hh1 (by decide)) (fun hh1 => ?_)
  refine lv_iload_n hx hb dSF_checkRequest_4 rfl (lv_at hl 0 rfl) ?_
  refine lv_iconst (v := nI 4) hx hb dSF_checkRequest_5 xk_i4 ?_
  refine lv_icmp_gt hx hb dSF_checkRequest_6 rfl (fun hh2 => absurd hh2 (by decide)) (fun hh2 => ?_)
  refine lv_iconst (v := nI 1) hx hb dSF_checkRequest_9 xk_i1 ?_
  refine lv_goto hx hb dSF_checkRequest_10 rfl ?_
  refine xd_callS C w hz hml hl.1 xk_SF_118 (cSF_checkArgument_ok l D cA tz I ad σ) rfl rfl (Nat.le_of_ble_eq_true rfl) (by decide) (by decide) dSF_checkRequest_14 (fun H locs w => ?_)
  refine W.eq (g2 := F0 m 17 ls []) rfl ?_
  refine lv_iload_n hx hb dSF_checkRequest_17 rfl (lv_at hl 0 rfl) ?_
  refine lv_iconst (v := nI 4) hx hb dSF_checkRequest_18 xk_i4 ?_
  refine lv_icmp_ne hx hb dSF_checkRequest_19 rfl (fun hh3 => absurd rfl hh3) (fun hh3 => ?_)
  exact xd_vret C w hr hlk dSF_checkRequest_22 rfl
set_option maxRecDepth 100000 in
set_option maxHeartbeats 4000000 in
theorem cSF_checkRequest_ok (l : Launch) (D : va_G) (cA : Nat → ClassId) (tz : Nat) (I : List (Nat × Nat)) (ad : Nat → Nat → Nat) (σ : xMem) (k a n : Nat) (hk4 : k < 4) (ha : a < 64) (h1n : 1 ≤ n) (hn4 : n ≤ 4) (hn1 : k = 2 ∨ k = 3 → n ≤ 1) (h16 : a / 16 = (a + n - 1) / 16) : xD l ySF_checkRequest bSF_checkRequest 4 none 2 [.int (nI k), .int (nI a), .int (nI n)] D cA tz I ad σ none σ := by
  refine xd_of (by decide) (by simp [lg_sl, Value.category]) ?_
  intro p e s m args below meth c A ls C hr hlk hml hl w hz
  obtain ⟨hx, hb, hown, hts⟩ := id C
  have hl : lv_has ls 4 [(0, .int (nI k)), (1, .int (nI a)), (2, .int (nI n))] := hl
  refine lv_iload_n hx hb dSF_checkRequest_0 rfl (lv_at hl 0 rfl) ?_
  refine lv_if_lt hx hb dSF_checkRequest_1 rfl (fun hh1 => absurd hh1 (nI_pos (by omega))) (fun hh1 => ?_)
  refine lv_iload_n hx hb dSF_checkRequest_4 rfl (lv_at hl 0 rfl) ?_
  refine lv_iconst (v := nI 4) hx hb dSF_checkRequest_5 xk_i4 ?_
  refine lv_icmp_gt hx hb dSF_checkRequest_6 rfl (fun hh2 => absurd hh2 (nI_nlt (by omega) (by omega))) (fun hh2 => ?_)
  refine lv_iconst (v := nI 1) hx hb dSF_checkRequest_9 xk_i1 ?_
  refine lv_goto hx hb dSF_checkRequest_10 rfl ?_
  refine xd_callS C w hz hml hl.1 xk_SF_118 (cSF_checkArgument_ok l D cA tz I ad σ) rfl rfl (Nat.le_of_ble_eq_true rfl) (by decide) (by decide) dSF_checkRequest_14 (fun H locs w => ?_)
  refine W.eq (g2 := F0 m 17 ls []) rfl ?_
  refine lv_iload_n hx hb dSF_checkRequest_17 rfl (lv_at hl 0 rfl) ?_
  refine lv_iconst (v := nI 4) hx hb dSF_checkRequest_18 xk_i4 ?_
  refine lv_icmp_ne hx hb dSF_checkRequest_19 rfl (fun hh3 => ?_) (fun hh3 => absurd ((nI_eq (by omega) (by omega)).mp hh3) (by omega))
  refine lv_iload_n hx hb dSF_checkRequest_23 rfl (lv_at hl 0 rfl) ?_
  refine lv_iconst (v := nI 2) hx hb dSF_checkRequest_24 xk_i2 ?_
  refine lv_icmp_eq hx hb dSF_checkRequest_25 rfl (fun hh4 => ?_) (fun hh4 => ?_)
  · skip
    refine lv_iconst (v := nI 1) hx hb dSF_checkRequest_33 xk_i1 ?_
    refine lv_goto hx hb dSF_checkRequest_34 rfl ?_
    refine lv_istore_n (lv' := [(3, .int (nI 1)), (0, .int (nI k)), (1, .int (nI a)), (2, .int (nI n))]) hx hb dSF_checkRequest_38 rfl hl (by decide) rfl (fun ls hl => ?_)
    refine lv_iload_n hx hb dSF_checkRequest_39 rfl (lv_at hl 2 rfl) ?_
    refine lv_if_lt hx hb dSF_checkRequest_40 rfl (fun hh5 => absurd hh5 (nI_pos (by omega))) (fun hh5 => ?_)
    refine lv_iload_n hx hb dSF_checkRequest_43 rfl (lv_at hl 2 rfl) ?_
    refine lv_bipush (v := nI 64) hx hb dSF_checkRequest_44 xk_b64 ?_
    refine lv_icmp_ge hx hb dSF_checkRequest_46 rfl (fun hh6 => absurd hh6 (nI_ge (by omega) (by omega))) (fun hh6 => ?_)
    refine lv_iconst (v := nI 1) hx hb dSF_checkRequest_49 xk_i1 ?_
    refine lv_goto hx hb dSF_checkRequest_50 rfl ?_
    refine xd_callS C w hz hml hl.1 xk_SF_118 (cSF_checkArgument_ok l D cA tz I ad σ) rfl rfl (Nat.le_of_ble_eq_true rfl) (by decide) (by decide) dSF_checkRequest_54 (fun H locs w => ?_)
    refine W.eq (g2 := F0 m 57 ls []) rfl ?_
    refine lv_iload_n hx hb dSF_checkRequest_57 rfl (lv_at hl 3 rfl) ?_
    refine lv_iconst (v := nI 1) hx hb dSF_checkRequest_58 xk_i1 ?_
    refine lv_icmp_lt hx hb dSF_checkRequest_59 rfl (fun hh7 => absurd hh7 (nI_nlt (by omega) (by omega))) (fun hh7 => ?_)
    refine lv_iload_n hx hb dSF_checkRequest_62 rfl (lv_at hl 3 rfl) ?_
    refine lv_iload_n hx hb dSF_checkRequest_63 rfl (lv_at hl 0 rfl) ?_
    refine lv_icmp_gt hx hb dSF_checkRequest_64 rfl (fun hh8 => absurd hh8 (nI_nlt (by have hq := hn1 (by grind [nI_eq]); omega) (by omega))) (fun hh8 => ?_)
    refine lv_iconst (v := nI 1) hx hb dSF_checkRequest_67 xk_i1 ?_
    refine lv_goto hx hb dSF_checkRequest_68 rfl ?_
    refine xd_callS C w hz hml hl.1 xk_SF_118 (cSF_checkArgument_ok l D cA tz I ad σ) rfl rfl (Nat.le_of_ble_eq_true rfl) (by decide) (by decide) dSF_checkRequest_72 (fun H locs w => ?_)
    refine W.eq (g2 := F0 m 75 ls []) rfl ?_
    refine lv_iload_n hx hb dSF_checkRequest_75 rfl (lv_at hl 2 rfl) ?_
    refine lv_bipush (v := nI 16) hx hb dSF_checkRequest_76 xk_b16 ?_
    refine xn_div hx hb dSF_checkRequest_78 (by omega) (by decide) (by decide) ?_
    refine lv_iload_n hx hb dSF_checkRequest_79 rfl (lv_at hl 2 rfl) ?_
    refine lv_iload_n hx hb dSF_checkRequest_80 rfl (lv_at hl 3 rfl) ?_
    refine xn_add hx hb dSF_checkRequest_81 ?_
    refine lv_iconst (v := nI 1) hx hb dSF_checkRequest_82 xk_i1 ?_
    refine xn_sub hx hb dSF_checkRequest_83 (by omega) ?_
    refine lv_bipush (v := nI 16) hx hb dSF_checkRequest_84 xk_b16 ?_
    refine xn_div hx hb dSF_checkRequest_86 (by omega) (by decide) (by decide) ?_
    refine lv_icmp_ne hx hb dSF_checkRequest_87 rfl (fun hh9 => absurd (congrArg nI h16) hh9) (fun hh9 => ?_)
    refine lv_iconst (v := nI 1) hx hb dSF_checkRequest_90 xk_i1 ?_
    refine lv_goto hx hb dSF_checkRequest_91 rfl ?_
    refine xd_callS C w hz hml hl.1 xk_SF_118 (cSF_checkArgument_ok l D cA tz I ad σ) rfl rfl (Nat.le_of_ble_eq_true rfl) (by decide) (by decide) dSF_checkRequest_95 (fun H locs w => ?_)
    refine W.eq (g2 := F0 m 98 ls []) rfl ?_
    exact xd_vret C w hr hlk dSF_checkRequest_98 rfl
  · skip
    refine lv_iload_n hx hb dSF_checkRequest_28 rfl (lv_at hl 0 rfl) ?_
    refine lv_iconst (v := nI 3) hx hb dSF_checkRequest_29 xk_i3 ?_
    refine lv_icmp_ne hx hb dSF_checkRequest_30 rfl (fun hh10 => ?_) (fun hh10 => ?_)
    · skip
      refine lv_iconst (v := nI 4) hx hb dSF_checkRequest_37 xk_i4 ?_
      refine lv_istore_n (lv' := [(3, .int (nI 4)), (0, .int (nI k)), (1, .int (nI a)), (2, .int (nI n))]) hx hb dSF_checkRequest_38 rfl hl (by decide) rfl (fun ls hl => ?_)
      refine lv_iload_n hx hb dSF_checkRequest_39 rfl (lv_at hl 2 rfl) ?_
      refine lv_if_lt hx hb dSF_checkRequest_40 rfl (fun hh11 => absurd hh11 (nI_pos (by omega))) (fun hh11 => ?_)
      refine lv_iload_n hx hb dSF_checkRequest_43 rfl (lv_at hl 2 rfl) ?_
      refine lv_bipush (v := nI 64) hx hb dSF_checkRequest_44 xk_b64 ?_
      refine lv_icmp_ge hx hb dSF_checkRequest_46 rfl (fun hh12 => absurd hh12 (nI_ge (by omega) (by omega))) (fun hh12 => ?_)
      refine lv_iconst (v := nI 1) hx hb dSF_checkRequest_49 xk_i1 ?_
      refine lv_goto hx hb dSF_checkRequest_50 rfl ?_
      refine xd_callS C w hz hml hl.1 xk_SF_118 (cSF_checkArgument_ok l D cA tz I ad σ) rfl rfl (Nat.le_of_ble_eq_true rfl) (by decide) (by decide) dSF_checkRequest_54 (fun H locs w => ?_)
      refine W.eq (g2 := F0 m 57 ls []) rfl ?_
      refine lv_iload_n hx hb dSF_checkRequest_57 rfl (lv_at hl 3 rfl) ?_
      refine lv_iconst (v := nI 1) hx hb dSF_checkRequest_58 xk_i1 ?_
      refine lv_icmp_lt hx hb dSF_checkRequest_59 rfl (fun hh13 => absurd hh13 (nI_nlt (by omega) (by omega))) (fun hh13 => ?_)
      refine lv_iload_n hx hb dSF_checkRequest_62 rfl (lv_at hl 3 rfl) ?_
      refine lv_iload_n hx hb dSF_checkRequest_63 rfl (lv_at hl 0 rfl) ?_
      refine lv_icmp_gt hx hb dSF_checkRequest_64 rfl (fun hh14 => absurd hh14 (nI_nlt (by omega) (by omega))) (fun hh14 => ?_)
      refine lv_iconst (v := nI 1) hx hb dSF_checkRequest_67 xk_i1 ?_
      refine lv_goto hx hb dSF_checkRequest_68 rfl ?_
      refine xd_callS C w hz hml hl.1 xk_SF_118 (cSF_checkArgument_ok l D cA tz I ad σ) rfl rfl (Nat.le_of_ble_eq_true rfl) (by decide) (by decide) dSF_checkRequest_72 (fun H locs w => ?_)
      refine W.eq (g2 := F0 m 75 ls []) rfl ?_
      refine lv_iload_n hx hb dSF_checkRequest_75 rfl (lv_at hl 2 rfl) ?_
      refine lv_bipush (v := nI 16) hx hb dSF_checkRequest_76 xk_b16 ?_
      refine xn_div hx hb dSF_checkRequest_78 (by omega) (by decide) (by decide) ?_
      refine lv_iload_n hx hb dSF_checkRequest_79 rfl (lv_at hl 2 rfl) ?_
      refine lv_iload_n hx hb dSF_checkRequest_80 rfl (lv_at hl 3 rfl) ?_
      refine xn_add hx hb dSF_checkRequest_81 ?_
      refine lv_iconst (v := nI 1) hx hb dSF_checkRequest_82 xk_i1 ?_
      refine xn_sub hx hb dSF_checkRequest_83 (by omega) ?_
      refine lv_bipush (v := nI 16) hx hb dSF_checkRequest_84 xk_b16 ?_
      refine xn_div hx hb dSF_checkRequest_86 (by omega) (by decide) (by decide) ?_
      refine lv_icmp_ne hx hb dSF_checkRequest_87 rfl (fun hh15 => absurd (congrArg nI h16) hh15) (fun hh15 => ?_)
      refine lv_iconst (v := nI 1) hx hb dSF_checkRequest_90 xk_i1 ?_
      refine lv_goto hx hb dSF_checkRequest_91 rfl ?_
      refine xd_callS C w hz hml hl.1 xk_SF_118 (cSF_checkArgument_ok l D cA tz I ad σ) rfl rfl (Nat.le_of_ble_eq_true rfl) (by decide) (by decide) dSF_checkRequest_95 (fun H locs w => ?_)
      refine W.eq (g2 := F0 m 98 ls []) rfl ?_
      exact xd_vret C w hr hlk dSF_checkRequest_98 rfl
    · skip
      refine lv_iconst (v := nI 1) hx hb dSF_checkRequest_33 xk_i1 ?_
      refine lv_goto hx hb dSF_checkRequest_34 rfl ?_
      refine lv_istore_n (lv' := [(3, .int (nI 1)), (0, .int (nI k)), (1, .int (nI a)), (2, .int (nI n))]) hx hb dSF_checkRequest_38 rfl hl (by decide) rfl (fun ls hl => ?_)
      refine lv_iload_n hx hb dSF_checkRequest_39 rfl (lv_at hl 2 rfl) ?_
      refine lv_if_lt hx hb dSF_checkRequest_40 rfl (fun hh16 => absurd hh16 (nI_pos (by omega))) (fun hh16 => ?_)
      refine lv_iload_n hx hb dSF_checkRequest_43 rfl (lv_at hl 2 rfl) ?_
      refine lv_bipush (v := nI 64) hx hb dSF_checkRequest_44 xk_b64 ?_
      refine lv_icmp_ge hx hb dSF_checkRequest_46 rfl (fun hh17 => absurd hh17 (nI_ge (by omega) (by omega))) (fun hh17 => ?_)
      refine lv_iconst (v := nI 1) hx hb dSF_checkRequest_49 xk_i1 ?_
      refine lv_goto hx hb dSF_checkRequest_50 rfl ?_
      refine xd_callS C w hz hml hl.1 xk_SF_118 (cSF_checkArgument_ok l D cA tz I ad σ) rfl rfl (Nat.le_of_ble_eq_true rfl) (by decide) (by decide) dSF_checkRequest_54 (fun H locs w => ?_)
      refine W.eq (g2 := F0 m 57 ls []) rfl ?_
      refine lv_iload_n hx hb dSF_checkRequest_57 rfl (lv_at hl 3 rfl) ?_
      refine lv_iconst (v := nI 1) hx hb dSF_checkRequest_58 xk_i1 ?_
      refine lv_icmp_lt hx hb dSF_checkRequest_59 rfl (fun hh18 => absurd hh18 (nI_nlt (by omega) (by omega))) (fun hh18 => ?_)
      refine lv_iload_n hx hb dSF_checkRequest_62 rfl (lv_at hl 3 rfl) ?_
      refine lv_iload_n hx hb dSF_checkRequest_63 rfl (lv_at hl 0 rfl) ?_
      refine lv_icmp_gt hx hb dSF_checkRequest_64 rfl (fun hh19 => absurd hh19 (nI_nlt (by have hq := hn1 (by grind [nI_eq]); omega) (by omega))) (fun hh19 => ?_)
      refine lv_iconst (v := nI 1) hx hb dSF_checkRequest_67 xk_i1 ?_
      refine lv_goto hx hb dSF_checkRequest_68 rfl ?_
      refine xd_callS C w hz hml hl.1 xk_SF_118 (cSF_checkArgument_ok l D cA tz I ad σ) rfl rfl (Nat.le_of_ble_eq_true rfl) (by decide) (by decide) dSF_checkRequest_72 (fun H locs w => ?_)
      refine W.eq (g2 := F0 m 75 ls []) rfl ?_
      refine lv_iload_n hx hb dSF_checkRequest_75 rfl (lv_at hl 2 rfl) ?_
      refine lv_bipush (v := nI 16) hx hb dSF_checkRequest_76 xk_b16 ?_
      refine xn_div hx hb dSF_checkRequest_78 (by omega) (by decide) (by decide) ?_
      refine lv_iload_n hx hb dSF_checkRequest_79 rfl (lv_at hl 2 rfl) ?_
      refine lv_iload_n hx hb dSF_checkRequest_80 rfl (lv_at hl 3 rfl) ?_
      refine xn_add hx hb dSF_checkRequest_81 ?_
      refine lv_iconst (v := nI 1) hx hb dSF_checkRequest_82 xk_i1 ?_
      refine xn_sub hx hb dSF_checkRequest_83 (by omega) ?_
      refine lv_bipush (v := nI 16) hx hb dSF_checkRequest_84 xk_b16 ?_
      refine xn_div hx hb dSF_checkRequest_86 (by omega) (by decide) (by decide) ?_
      refine lv_icmp_ne hx hb dSF_checkRequest_87 rfl (fun hh20 => absurd (congrArg nI h16) hh20) (fun hh20 => ?_)
      refine lv_iconst (v := nI 1) hx hb dSF_checkRequest_90 xk_i1 ?_
      refine lv_goto hx hb dSF_checkRequest_91 rfl ?_
      refine xd_callS C w hz hml hl.1 xk_SF_118 (cSF_checkArgument_ok l D cA tz I ad σ) rfl rfl (Nat.le_of_ble_eq_true rfl) (by decide) (by decide) dSF_checkRequest_95 (fun H locs w => ?_)
      refine W.eq (g2 := F0 m 98 ls []) rfl ?_
      exact xd_vret C w hr hlk dSF_checkRequest_98 rfl
end
section
/-! Methods that throw: nothing old changes, one object is new; the caller passes it on, or catches it. -/
section
def xt_Q (Qx : State → State → Prop) (free : Addr → Prop) (E : String) (mc ms : Nat) : Array Value → State → Outcome → State → Prop := fun _ st o t =>
  ∃ (q : Addr) (ce : Cell) (L : List Loc), o = .threw q ∧ t.heap[q]? = some ce ∧ ce.vm = .none ∧ st.vm.findClass E = some ce.cls ∧ st.WarmedH t.vm ∧ st.sameButNew ({ t with vm := st.vm } : State) L mc ms ∧ (∀ z ∈ L, free z.base) ∧ Qx st t
def xt_M (l : Launch) (y : MethodName) (ws : List Cond) (rm : Room) (Pc : Array Value → State → Prop) (Qx : State → State → Prop) (free : Addr → Prop) (E : String) (mc ms : Nat) : Prop :=
  MetFree l y (headSpec ws rm) Pc (fun _ _ _ _ _ => True) (xt_Q Qx free E mc ms)
def xt_MQ (below : List Frame) (Qx : State → State → Prop) (free : Addr → Prop) (E : String) (a : Array Value) (s : State) (mc ms : Nat) : State → Prop := fun t => ∃ o, t.status = .running ∧ Ended t below o ∧ xt_Q Qx free E mc ms a s o t
/-- q is thrown over the frame g -/
def xt_W (p : Program) (l : Launch) (e : Env) (R : Room) (s : State) (m : MethodId) (args : Array Value) (below : List Frame) (meth : Method) (c : Code) (H : Heap) (locs : List Loc) (cells slots : Nat) (Q : State → Prop) (g : JFrame) (q : Addr) : Prop :=
  ∀ T : State, T.heap = H → Stand p l e R s m args below meth c T locs cells slots → ∃ t, Steps p.tables e below ((T.setTop g).pushFrame (.throwing q)) t ∧ Q t
theorem xt_kept {s U : State} {k n : Nat} (h : s.sameButNew U [] k n) : s.heap.size ≤ U.heap.size ∧ ∀ q : Nat, q < s.heap.size → U.heap[q]? = s.heap[q]? := by
  obtain ⟨-, h2, -, -, -, h6⟩ := h
  refine ⟨h2, fun q hq => ?_⟩
  obtain ⟨c9, e1, e2, e3, e4⟩ := h6 q _ (Array.getElem?_eq_getElem hq)
  have hs : c9.slots = (s.heap[q]).slots := Array.ext_getElem? fun i => e4 i (by simp)
  rw [hs] at e2
  rw [e1, show c9 = s.heap[q] from e2, Array.getElem?_eq_getElem hq]
section
variable {p : Program} {l : Launch} {e : Env} {R : Room} {s : State} {m : MethodId} {args : Array Value} {below : List Frame} {meth : Method} {c : Code} {H : Heap} {locs : List Loc} {cells slots : Nat} {Q : State → Prop}
variable {y : MethodName} {bytes cc : ByteArray} {maxL nL mc ms n index pc : Nat} {ret : Option FieldType} {ws : List Cond} {rm : Room} {Pc : Array Value → State → Prop} {Ts : List Cond} {Qx Qy : State → State → Prop} {free free2 : Addr → Prop} {own C En : String} {b : Addr} {As rest st0 : List Value} {ls : Array Slot}
/-- behind the call's own step: the callee has thrown, the caller's frame stands below -/
theorem xt_back {U : State} (hM : xt_M l y ws rm Pc Qx free En mc ms) (hbl : FrameBlind Pc) (hrc : rm.cells = mc) (hrs : rm.slots = ms) (hfr : rm.frames + 1 ≤ R.frames) (hlo : 8 + (maxL + 11) + rm.locals ≤ R.locals)
    (hws : ∀ w ∈ ws, ∀ (a' : Array Value) (U : State), s.WarmedH U.vm → w.before a' U = true) (hcode : Cond.code y bytes maxL ret ∈ ws) (hini : (Cond.initialized y.cls).before args s = true)
    (X : Stand p l e R s m args below meth c U locs cells slots) {g : JFrame} (hg : g.method = m) (hsize : g.locals.size = c.maxLocals) {ig : Instr} (hdg : decode c.code g.pc = .ok (ig, 3)) (hW : 2 * g.monitorRoom + (g.stack.map fun v => v.category).sum ≤ 8)
    {mk : MethodId} {a : Array Value} (hn : U.methodNamed? y = some mk) (hf : cells + mc ≤ R.cells ∧ slots + ms ≤ R.slots) (hP : Pc a U) :
    ∃ (q : Addr) (ce : Cell) (st₀ t T' : State) (L : List Loc), Stand p l e R s m args below meth c T' (locs ++ L) (cells + mc) (slots + ms) ∧ T'.heap[q]? = some ce ∧ ce.vm = .none ∧ s.vm.findClass En = some ce.cls ∧ (∀ z ∈ L, free z.base) ∧ st₀.heap = U.heap ∧ T'.heap = t.heap ∧ s.vm.Alike t.vm ∧ Qx st₀ t ∧
      Steps p.tables e below (doInvoke e (U.setTop g) [] mk a).1 ((T'.setTop g).pushFrame (.throwing q)) := by
  have h1 : (headSpec ws rm).pre.before a U = true := atoms_intro fun w hw => hws w hw _ _ X.warmed
  have h2 : (Cond.code y bytes maxL ret).before a U = true := hws _ hcode _ _ X.warmed
  have h3 : (Cond.initialized y.cls).before a U = true := word_at X.warmed (Or.inl (by first | rfl | simp [Cond.onTables, Cond.keeps, Cond.steady])) hini
  obtain ⟨methY, cY, hmY, hcY, -, hlY, -, -, -, -⟩ := Cond.code_spec hn h2
  obtain ⟨kY, hkY, -⟩ := className_of_methodNamed hn
  have hinitY : kY.init = .initialized := Cond.initialized_spec (findClass_of_methodNamed hn) hkY h3
  have h : At U g.method c below := by rw [hg]; exact X.here
  have happ : (headSpec ws rm).appliesLoose y e.platform (U.calling g mk a) = true :=
    Spec.appliesLoose_calling (g := g) h hdg hn hkY hinitY
      (X.room_calling (g := g) (R' := (headSpec ws rm).room) hsize hmY hcY hfr (by rw [hlY]; show _ + rm.locals ≤ _; omega) (by show _ + rm.cells ≤ _; rw [hrc]; exact hf.1) (by show _ + rm.slots ≤ _; rw [hrs]; exact hf.2)) h1
  obtain ⟨mid, hmid⟩ := h.above
  have hfr2 : (U.setTop g).frames = (.java g :: mid) ++ below := by rw [State.frames_setTop' g h.top, hmid]; rfl
  obtain ⟨o, t, hsteps, -, hend, hq⟩ := Steps.callFree hM p X.admits X.cas X.clock (acts := []) hfr2 happ (hbl _ _ g mk hP) trivial
  rw [State.frames_setTop' g h.top, X.tail] at hend
  obtain ⟨q, ce, L, rfl, hce, hcv, hcl, hW2, hsm, hL, hqx⟩ := hq
  obtain ⟨T', X', hw', hsm', ht⟩ := X.outOfThrown hg (mk := mk) (a := a) (t := t) (x := q) (L := L) (k := mc) (n := ms) hend hW2 hsm
  have hh : t.heap = T'.heap := by rw [ht]; exact Stand.throwing_heap T' g q
  have hcl' : s.vm.findClass En = some ce.cls := by
    have h9 : U.vm.findClass En = some ce.cls := hcl
    rw [X.warmed.alike.findClass] at h9
    exact h9
  have hal : s.vm.Alike t.vm := by
    have h8 : U.WarmedH t.vm := hW2
    exact (State.WarmedH.trans X.warmed h8).alike
  exact ⟨q, ce, U.calling g mk a, t, T', L, X', by rw [← hh]; exact hce, hcv, hcl', hL, rfl, hh.symm, hal, hqx, by rw [← ht]; exact hsteps⟩
theorem xt_callS (S : CallFix p m c cc nL s args Ts own) (hM : xt_M l y ws rm Pc Qx free En mc ms) (cw : CallB R s args own index y bytes maxL ret ws rm mc ms n ∧ (Cond.static y).before args s = true) (hp : PreS s H Pc As)
    (hn : As.length = n) (hsize : ls.size = nL) (hst : st0 = As.reverse ++ rest) (hrest : (rest.map fun v => v.category).sum ≤ 8) (hdg : decode cc pc = .ok (.invokestatic index, 3)) (hf : cells + mc ≤ R.cells ∧ slots + ms ≤ R.slots)
    (kk : ∀ (q : Addr) (ce : Cell) (st₀ t : State) (L : List Loc), t.heap[q]? = some ce → ce.vm = .none → s.vm.findClass En = some ce.cls → (∀ z ∈ L, free z.base) → st₀.heap = H → s.vm.Alike t.vm → Qx st₀ t → xt_W p l e R s m args below meth c t.heap (locs ++ L) (cells + mc) (slots + ms) Q (F0 m pc ls rest) q) :
    W p l e R s m args below meth c H locs cells slots Q (F0 m pc ls st0) := by
  obtain ⟨⟨hrc, hrs, hfr, hlo, hws, hcw, hcode, hini, hy, hlen, hl⟩, hstat⟩ := cw
  obtain ⟨hx, hb, hml, ho, -⟩ := S
  intro T hT X
  obtain ⟨mk, hnamed⟩ := Cond.code_named hcode
  obtain ⟨methM, cM, hmethM, -, -, -, -, -, -, hsigM⟩ := Cond.code_spec hnamed hcode
  have hstatic : methM.isStatic = true := Cond.static_spec hnamed hmethM hstat
  obtain ⟨kP, hkP, -⟩ := className_of_methodNamed hnamed
  have hinitP : kP.init = .initialized := Cond.initialized_spec (findClass_of_methodNamed hnamed) hkP hini
  obtain ⟨vm₁, X₁, hstep₁⟩ := X.invokestatic hx ho hl hnamed hmethM hstatic hkP hinitP hy (g := F0 m pc ls st0) rfl (argsL := As) (rest := rest) (hn.trans (hlen _ hsigM)) hst (by rw [hb]; exact hdg)
  obtain ⟨q, ce, st₀, t0, T', L, X', hce, hcv, hcl, hL, e0, e1, hal, hqx, hsteps⟩ := xt_back hM hp.1 hrc hrs hfr hlo hws hcw hini X₁ (g := F0 m pc ls rest) rfl (hsize.trans hml.symm) (by rw [hb]; exact hdg) (lv_room hrest) (X₁.named hnamed) hf (hp.2 (T.setVm vm₁) hT X₁.warmed)
  obtain ⟨t, a1, b1⟩ := kk q ce st₀ t0 L (by rw [← e1]; exact hce) hcv hcl hL (e0.trans hT) hal hqx T' e1 X'
  exact ⟨t, hstep₁ _ (fun acts => by rw [doInvoke_state]; exact hsteps.trans a1), b1⟩
theorem xt_callV (S : CallFix p m c cc nL s args Ts own) (hM : xt_M l y ws rm Pc Qx free En mc ms) (cw : CallW R s args own C index y bytes maxL ret ws rm mc ms n) (hp : PreV s H C b Pc As)
    (hn : As.length = n) (hsize : ls.size = nL) (hst : st0 = As.reverse ++ .ref b :: rest) (hrest : (rest.map fun v => v.category).sum ≤ 8) (hdg : decode cc pc = .ok (.invokevirtual index, 3)) (hf : cells + mc ≤ R.cells ∧ slots + ms ≤ R.slots)
    (kk : ∀ (q : Addr) (ce : Cell) (st₀ t : State) (L : List Loc), t.heap[q]? = some ce → ce.vm = .none → s.vm.findClass En = some ce.cls → (∀ z ∈ L, free z.base) → st₀.heap = H → s.vm.Alike t.vm → Qx st₀ t → xt_W p l e R s m args below meth c t.heap (locs ++ L) (cells + mc) (slots + ms) Q (F0 m pc ls rest) q) :
    W p l e R s m args below meth c H locs cells slots Q (F0 m pc ls st0) := by
  obtain ⟨⟨hrc, hrs, hfr, hlo, hws, hcw, hcode, hini, hy, hlen, hl⟩, hin, hse⟩ := cw
  obtain ⟨hx, hb, hml, ho, -⟩ := S
  obtain ⟨hbl, ⟨cellB, hcB, hoB, hclB⟩, hPc⟩ := hp
  intro T hT X
  obtain ⟨mk, methM, hnamed, hmethM, hstM, habM⟩ := Cond.instanceMethod_spec hin
  obtain ⟨methM', cM, hmethM', -, -, -, -, -, -, hsigM⟩ := Cond.code_spec hnamed hcode
  cases hmethM.symm.trans hmethM'
  obtain ⟨c2, r2, m2, q1, q2, q3, q4, kP, hkP, hkPi⟩ := Cond.selects_spec hse
  cases hclB.symm.trans q1
  cases (State.methodFound?_of_named hnamed hy).symm.trans q2
  cases hnamed.symm.trans q3
  have hselP : selectMethod e.platform s.vm cellB.cls mk = .method mk := by rw [Launch.admits_selectMethod X.admits]; exact q4
  obtain ⟨vm₁, X₁, hstep₁⟩ := X.invokevirtual hx ho hl hnamed hmethM hstM hkP hkPi hy (a := b) (cell := cellB) (by rw [hT]; exact hcB)
    (fun z h => by rw [h] at hoB; cases hoB) hselP hmethM habM hkP hkPi (g := F0 m pc ls st0) rfl (argsL := As) (rest := rest) (hn.trans (hlen _ hsigM)) hst (by rw [hb]; exact hdg)
  obtain ⟨q, ce, st₀, t0, T', L, X', hce, hcv, hcl, hL, e0, e1, hal, hqx, hsteps⟩ := xt_back hM hbl hrc hrs hfr hlo hws hcw hini X₁ (g := F0 m pc ls rest) rfl (hsize.trans hml.symm) (by rw [hb]; exact hdg) (lv_room hrest) (X₁.named hnamed) hf (hPc (T.setVm vm₁) hT X₁.warmed)
  obtain ⟨t, a1, b1⟩ := kk q ce st₀ t0 L (by rw [← e1]; exact hce) hcv hcl hL (e0.trans hT) hal hqx T' e1 X'
  exact ⟨t, hstep₁ _ (fun acts => by rw [doInvoke_state]; exact hsteps.trans a1), b1⟩
/-- a method without handlers: the exception goes on to its caller -/
theorem xt_out {ce : Cell} {q : Addr} (hout : ∀ x ∈ c.exceptionTable.toList, covers x pc = false) (hlocks : meth.locks = false) (hce : H[q]? = some ce) (hv : ce.vm = .none) (hcl : s.vm.findClass En = some ce.cls) (hL : ∀ z ∈ locs, free z.base) (hx : ∀ t : State, t.heap = H → s.vm.Alike t.vm → Qx s t) (hc : cells ≤ mc) (hs : slots ≤ ms) :
    xt_W p l e R s m args below meth c H locs cells slots (xt_MQ below Qx free En args s mc ms) (F0 m pc ls rest) q := by
  intro T hT X
  obtain ⟨st1, hrun, hend, hW, hsm⟩ := X.leaveThrown q (g := F0 m pc ls rest) rfl rfl rfl hout hlocks
  exact ⟨_, st1, .threw q, hrun, hend, q, ce, locs, rfl, by show T.heap[q]? = some ce; rw [hT]; exact hce, hv, hcl, hW, hsm.mono hc hs, hL, hx _ hT hW.alike⟩
/-- a body that throws -/
theorem xt_of {ws' : List Cond} (hy : plainName y.cls = true) (hw : ws = Cond.code y cc maxL ret :: ws')
    (body : ∀ p e s m args below meth c s₁, BodyLoose p l y (headSpec ws rm) cc maxL ret e s m args below meth c s₁ → c.maxLocals = maxL → (∀ (x : ExceptionTableEntry) (pc : Nat), x ∈ c.exceptionTable.toList → covers x pc = false) → Pc args s →
      W p l e (headSpec ws rm).room s m args below meth c s.heap [] 0 0 (xt_MQ below Qx free En args s mc ms) (entryFrame m args maxL)) : xt_M l y ws rm Pc Qx free En mc ms := by
  refine MetFree.of_bodyS (code := cc) (maxLocals := maxL) (ret := ret) hy ?_ ?_
  · intro args s m h hn
    obtain ⟨meth, c, h1, h2, h3, h4, h5, h6, -, -⟩ := Cond.code_spec hn (atoms_spec (ws := ws) h _ (by rw [hw]; exact List.mem_cons_self))
    exact ⟨meth, c, h1, h2, h3, h4, h5, h6⟩
  · intro p e s m args below meth c s₁ B hml hP _
    have hh0 : s₁.heap = s.heap := by rw [B.state]; rfl
    have ht : ∀ (x : ExceptionTableEntry) (pc : Nat), x ∈ c.exceptionTable.toList → covers x pc = false := by
      have h7 := B.noHandlers (atoms_spec (ws := ws) B.pre _ (by rw [hw]; exact List.mem_cons_self))
      intro x pc hx
      rw [Array.isEmpty_iff.mp h7] at hx
      cases hx
    obtain ⟨t, a1, o, b1, b2, b3⟩ := body p e s m args below meth c s₁ B hml ht hP s₁ hh0 (Stand.of_body B)
    exact ⟨t, o, a1, b1, b2, b3⟩
/-- throw new En(), where nothing has changed yet: new; dup; invokespecial; athrow -/
theorem xt_new (hexec : p.tables.exec = Jvm.exec) (hb : c.code = cc) (hl : l.stackTraces = false) {names : List String} {ik ic : Nat} (hown : s.vm.findClass own = some m.cls) (hcls : Bundle.fit En = true) (hnames : ∀ n ∈ names, Bundle.fit n = true)
    (hk : (Cond.classLink own ik En).before args s = true) (hini : (Cond.initialized En).before args s = true) (h : ∀ w ∈ Bundle.ownAtoms0 own ic En names, w.before args s = true) (hsize : ls.size = c.maxLocals)
    (d0 : decode cc pc = .ok (.new ik, 3)) (d3 : decode cc (pc + 3) = .ok (.dup, 1)) (d4 : decode cc (pc + 4) = .ok (.invokespecial ic, 3)) (d7 : decode cc (pc + 7) = .ok (.athrow, 1)) (hout : ∀ x ∈ c.exceptionTable.toList, covers x (pc + 7) = false)
    (hRframes : names.length + 3 < R.frames) (hRlocals : (rest.map fun v => v.category).sum + (13 * (names.length + 1) + 42) ≤ R.locals) (hRcells : 1 ≤ R.cells) (hRslots : 6 ≤ R.slots) (hlocks : meth.locks = false) (hx : ∀ t : State, s.vm.Alike t.vm → s.heap.size ≤ t.heap.size → (∀ z : Nat, z < s.heap.size → t.heap[z]? = s.heap[z]?) → Qx s t) :
    W p l e R s m args below meth c s.heap [] 0 0 (xt_MQ below Qx free En args s 1 6) (F0 m pc ls rest) := by
  intro T hT X
  have htr : e.platform.stackTraces = false := (show e.platform.stackTraces = l.stackTraces by rw [X.admits.platform]).trans hl
  have hins : (Cond.instantiable En 6).before args s = true := h _ (by simp [Bundle.ownAtoms0])
  obtain ⟨vm₁, cX, kX, hfX, hkX, -, -, X₁, st1⟩ := X.newCold hexec (own := own) (C := En) (index := ik) (n := 6) hown hk hins hini (g := F0 m pc ls rest) rfl (by rw [hb]; exact d0) (by omega) (by omega)
  generalize hT1 : (T.setVm vm₁).pushCell { cls := cX, slots := kX.instanceTypes.map defaultValue, vm := .none } = T1 at X₁ st1
  have hcat : (Value.ref T.heap.size).category = 1 := rfl
  have hcellA : T1.heap[T.heap.size]? = some (freshCell cX kX) := by rw [← hT1]; exact State.heap_pushCell_size _ _
  have d3' : decode c.code (pc + 3) = .ok (.dup, 1) := by rw [hb]; exact d3
  obtain ⟨U, hsteps, hrun, hend, hW, hsame, ce, hce, hO⟩ := X₁.ctorThrow0 hexec htr (own := own) (cls := En) (names := names) (ic := ic) hown hcls hnames h (fun x hx => nomatch hx) hfX hkX hcellA (by rw [hT]; exact Nat.le_refl _)
    (g := { method := m, pc := pc + 4, locals := ls, stack := .ref T.heap.size :: .ref T.heap.size :: rest, locked := none }) rfl hsize rfl rfl (rest := rest) rfl
    (by rw [hb]; exact d4) (by rw [hb]; exact d7) hout hRframes (by simp only [List.map_cons, List.sum_cons, hcat]; omega) hlocks
  have hkp := xt_kept hsame
  refine ⟨U, ?_, .threw T.heap.size, hrun, hend, T.heap.size, ce, [], rfl, hce, hO.vm, hO.cls, hW, hsame.mono (by omega) (by omega), (fun z hz => (nomatch hz)), hx U hW.alike hkp.1 hkp.2⟩
  refine st1 _ ?_
  show Steps p.tables e below (T1.setTop { method := m, pc := pc + 3, locals := ls, stack := .ref T.heap.size :: rest, locked := none }) _
  jvm_step X₁.here [X₁.here.top, hexec, d3', Value.category]
  exact hsteps
end
/-! the search through a table of handlers, by the classes' links -/
section
variable {e : Env} {f : JFrame} {a : Addr}
def xt_Pass (pl : Platform) (s0 : State) (d pc : Nat) (thrown : ClassId) (z : ExceptionTableEntry) : Prop := covers z pc = false ∨ (covers z pc = true ∧ z.catchType ≠ 0 ∧ ∃ c, s0.vm.ClassLinks pl d z.catchType c ∧ s0.vm.assignable thrown c = false)
theorem xt_go {s0 : State} {cell : Cell} (hobj : ∀ k, cell.vm ≠ .statics k) (hk0 : ∃ k, s0.vm.classes[cell.cls]? = some k) (x : ExceptionTableEntry) (suf : List ExceptionTableEntry) (hx : covers x f.pc = true) (h0 : x.catchType ≠ 0) {cT : ClassId} (hlx : s0.vm.ClassLinks e.platform f.method.cls x.catchType cT) (hfit : s0.vm.assignable cell.cls cT = true) :
    ∀ (pre : List ExceptionTableEntry) (S : State), s0.WarmedH S.vm → S.heap[a]? = some cell → (∀ z ∈ pre, xt_Pass e.platform s0 f.method.cls f.pc cell.cls z) →
      ∃ vm', s0.WarmedH vm' ∧ ∀ (Q : Handler → Pre) (E : CtlPost) (d : Bool) (acts : List Action), wp (findHandler.go f a (pre ++ x :: suf)) Q E e d acts S ↔ Q (.found x.handlerPc) d acts (S.setVm vm') := by
  obtain ⟨k0, hk0⟩ := hk0
  intro pre
  induction pre with
  | nil =>
    intro S hW hcell _
    obtain ⟨dk, _, _, kt, hd, _, _, _, _, hkt, _, hopen⟩ := hlx.here
    obtain ⟨k0', hk0', -⟩ := hW.alike.2.2 _ _ hk0
    obtain ⟨kt', hkt', -⟩ := hW.alike.2.2 _ _ hkt
    have hl := hW.classLinks hlx
    refine ⟨S.vm.noted f.method.cls x.catchType (.cls cT), hW.noted hd hopen (State.rightAt_cls hlx), fun Q E d acts => ?_⟩
    obtain ⟨ha, ht⟩ := (resolveClass_links e.toSetting hl).op (op := VmOp.resolveClass f.method.cls x.catchType) rfl
    have hal : S.vm.Alike (S.vm.noted f.method.cls x.catchType (.cls cT)) := (Vm.Alike.refl S.vm).noted _ _ _
    obtain ⟨k1, hk1, -⟩ := hal.2.2 _ _ hk0'
    obtain ⟨k2, hk2, -⟩ := hal.2.2 _ _ hkt'
    have hfit' : (S.vm.noted f.method.cls x.catchType (.cls cT)).assignable cell.cls cT = true := by rw [hal.assignable, hW.alike.assignable]; exact hfit
    simp only [covers] at hx
    simp [findHandler.go, hx, h0, ha, ht, hcell, hobj, hk1, hk2, hfit', VmOp.dirties, VmOp.acts]
  | cons z zs ih =>
    intro S hW hcell hpass
    have hzs : ∀ y ∈ zs, xt_Pass e.platform s0 f.method.cls f.pc cell.cls y := fun y hy => hpass y (List.mem_cons_of_mem _ hy)
    rcases hpass z List.mem_cons_self with hz | ⟨hz, hz0, c9, hl9, hno⟩
    · obtain ⟨vm', hW', hq⟩ := ih S hW hcell hzs
      exact ⟨vm', hW', fun Q E d acts => by rw [List.cons_append, W.findHandler_go_skip hz]; exact hq Q E d acts⟩
    · obtain ⟨dk, _, _, kt, hd, _, _, _, _, hkt, _, hopen⟩ := hl9.here
      obtain ⟨k0', hk0', -⟩ := hW.alike.2.2 _ _ hk0
      obtain ⟨kt', hkt', -⟩ := hW.alike.2.2 _ _ hkt
      have hl := hW.classLinks hl9
      obtain ⟨vm', hW', hq⟩ := ih (S.setVm (S.vm.noted f.method.cls z.catchType (.cls c9))) (hW.noted hd hopen (State.rightAt_cls hl9)) hcell hzs
      refine ⟨vm', hW', fun Q E d acts => ?_⟩
      obtain ⟨ha, ht⟩ := (resolveClass_links e.toSetting hl).op (op := VmOp.resolveClass f.method.cls z.catchType) rfl
      have hal : S.vm.Alike (S.vm.noted f.method.cls z.catchType (.cls c9)) := (Vm.Alike.refl S.vm).noted _ _ _
      obtain ⟨k1, hk1, -⟩ := hal.2.2 _ _ hk0'
      obtain ⟨k2, hk2, -⟩ := hal.2.2 _ _ hkt'
      have hno' : (S.vm.noted f.method.cls z.catchType (.cls c9)).assignable cell.cls c9 = false := by rw [hal.assignable, hW.alike.assignable]; exact hno
      simp only [covers] at hz
      have hq2 := hq Q E d acts
      rw [← show ((S.setVm (S.vm.noted f.method.cls z.catchType (.cls c9))).setVm vm') = S.setVm vm' from rfl]
      rw [← hq2]
      simp [findHandler.go, hz, hz0, ha, ht, hcell, hobj, hk1, hk2, hno', VmOp.dirties, VmOp.acts]
end
section
variable {p : Program} {l : Launch} {e : Env} {R : Room} {s : State} {m : MethodId} {args : Array Value} {below : List Frame} {meth : Method} {c : Code} {H : Heap} {locs : List Loc} {cells slots : Nat} {Q : State → Prop}
variable {pc : Nat} {own En : String} {rest : List Value} {ls : Array Slot}
/-- caught in the method's own frame -/
theorem xt_catch {name : String} {ce : Cell} {q : Addr} (hown : s.vm.findClass own = some m.cls) (pre : List ExceptionTableEntry) (x : ExceptionTableEntry) (suf : List ExceptionTableEntry) (hsplit : c.exceptionTable.toList = pre ++ x :: suf)
    (hpass : ∀ z ∈ pre, covers z pc = false ∨ (covers z pc = true ∧ z.catchType ≠ 0 ∧ ∃ nm : String, (Cond.classLink own z.catchType nm).before args s = true ∧ va_Nc En nm s)) (hx : covers x pc = true) (h0 : x.catchType ≠ 0)
    (hlink : (Cond.classLink own x.catchType name).before args s = true) (hcast : (Cond.castable En name).before args s = true) (hcell : H[q]? = some ce) (hv : ce.vm = .none) (hcl : s.vm.findClass En = some ce.cls)
    (kk : W p l e R s m args below meth c H locs cells slots Q (F0 m x.handlerPc ls [.ref q])) : xt_W p l e R s m args below meth c H locs cells slots Q (F0 m pc ls rest) q := by
  intro T hT X
  have hpl : e.platform.magicAccessors = ({} : Platform).magicAccessors := by rw [X.admits.platform]
  obtain ⟨c3, c4, hc3, hc4, hasg⟩ := Cond.castable_spec hcast
  cases Option.some.inj (hc3.symm.trans hcl)
  obtain ⟨c5, hc5, hcl5⟩ := Cond.classLink_spec hown hlink e.platform hpl
  cases Option.some.inj (hc4.symm.trans hc5)
  obtain ⟨k9, h9, -⟩ := Vm.findClass_spec hcl
  obtain ⟨vm', hW', hq⟩ := xt_go (e := e) (f := F0 m pc ls rest) (a := q) (s0 := s) (cell := ce) (by rw [hv]; exact fun k h => by cases h) ⟨k9, h9⟩ x suf hx h0 hcl5 hasg pre ((T.setTop (F0 m pc ls rest)).pushFrame (.throwing q)) X.warmed (by rw [Stand.throwing_heap, hT]; exact hcell)
    (fun z hz => by
      rcases hpass z hz with h | ⟨h1, h2, nm, hl1, a8, b8, hn1, hn2, hn3⟩
      · exact Or.inl h
      · obtain ⟨c6, hc6, hcl6⟩ := Cond.classLink_spec hown hl1 e.platform hpl
        cases Option.some.inj (hn1.symm.trans hcl)
        cases Option.some.inj (hn2.symm.trans hc6)
        exact Or.inr ⟨h1, h2, _, hcl6, hn3⟩)
  obtain ⟨t, a1, b1⟩ := kk (T.setVm vm') hT (X.noted hW')
  refine ⟨t, ?_, b1⟩
  have hh : At T (F0 m pc ls rest).method c below := X.here
  obtain ⟨hgo, hw⟩ := hh.throwing q
  refine Steps.head hgo hw ?_
  have hst : (stepThrowing e ((T.setTop (F0 m pc ls rest)).pushFrame (.throwing q)) q (.java (F0 m pc ls rest) :: T.frames.tail)).Is ((((T.setTop (F0 m pc ls rest)).pushFrame (.throwing q)).setVm vm').setFrames (.java (F0 m x.handlerPc ls [.ref q]) :: T.frames.tail)) [] := by
    simp only [stepThrowing, searchFrame, vmDo]
    generalize hr : Sem.go _ e false [] ((T.setTop (F0 m pc ls rest)).pushFrame (.throwing q)) = res
    obtain ⟨as, rfl, ha⟩ := Sem.eq_ok_of hr (a := Handler.found x.handlerPc) (s' := ((T.setTop (F0 m pc ls rest)).pushFrame (.throwing q)).setVm vm') (acts' := []) (by
      have hm : ((T.setTop (F0 m pc ls rest)).pushFrame (.throwing q)).vm.method? (F0 m pc ls rest).method = some meth := X.method'
      have hq1 : ∀ (Q : Handler → Pre) (E : CtlPost) (d : Bool) (acts : List Action), wp (findHandler (F0 m pc ls rest) q) Q E e d acts ((T.setTop (F0 m pc ls rest)).pushFrame (.throwing q)) ↔ Q (.found x.handlerPc) d acts (((T.setTop (F0 m pc ls rest)).pushFrame (.throwing q)).setVm vm') := fun Q E d acts => by
        rw [W.findHandler_eq hm X.code, hsplit]
        exact hq Q E d acts
      simp [hq1 _ _ _ _])
    exact ⟨rfl, ha⟩
  rw [stepThread_throwing (frames_entered hh.top _), hst.1]
  obtain ⟨g₀, hg⟩ := Option.isSome_iff_exists.mp hh.top
  obtain ⟨r9, hr9⟩ := State.topJava?_eq_some.mp hg
  have hr' : (T.setVm vm').frames = .java g₀ :: r9 := hr9
  rw [State.setTop_of_frames _ hr'] at a1
  have e1 : (((T.setTop (F0 m pc ls rest)).pushFrame (.throwing q)).setVm vm').setFrames (.java (F0 m x.handlerPc ls [.ref q]) :: T.frames.tail) = (T.setVm vm').setFrames (.java (F0 m x.handlerPc ls [.ref q]) :: r9) := by
    rw [hr9, List.tail_cons, State.pushFrame, State.setTop_of_frames _ hr9]
    rw [State.setFrames_setFrames]
    show ((T.setVm vm').setFrames _).setFrames _ = _
    rw [State.setFrames_setFrames]
  rw [e1]
  exact a1
end
end
end
section
/-! Contracts of methods that throw, over the memory: the memory stays. -/
def xQx (D : va_G) (cA : Nat → ClassId) (tz : Nat) (I : List (Nat × Nat)) (ad : Nat → Nat → Nat) (σ : xMem) (A : Nat → Prop) (st t : State) : Prop := va_P D xCl (xw_l I ad (xc cA tz ad σ)) t.heap ∧ va_F A st t
def xTh (l : Launch) (y : MethodName) (bytes : ByteArray) (maxL : Nat) (ret : Option FieldType) (d : Nat) (av : List Value) (D : va_G) (cA : Nat → ClassId) (tz : Nat) (I : List (Nat × Nat)) (ad : Nat → Nat → Nat) (σ : xMem) (En : String) : Prop :=
  ∀ sz : Nat, xt_M l y (Cond.code y bytes maxL ret :: xBIG) (xr_R d 1 6) (va_Pc av (xr_Pre xCl (xT cA) D (xZ tz) I ad (xc cA tz ad σ) sz)) (xQx D cA tz I ad σ (xw_A I ad sz)) (xw_A I ad sz) En 1 6
section
variable {p : Program} {l : Launch} {e : Env} {R : Room} {s : State} {m : MethodId} {args : Array Value} {below : List Frame} {meth : Method} {c : Code} {H : Heap} {locs : List Loc} {cells slots : Nat} {Q : State → Prop}
variable {cc : ByteArray} {pc : Nat} {ls : Array Slot} {rest st0 : List Value} {D : va_G} {cA : Nat → ClassId} {tz : Nat} {A : Nat → Prop} {own En : String} {I : List (Nat × Nat)} {ad : Nat → Nat → Nat} {σ : xMem} {r k : Nat}
variable {y : MethodName} {bytes : ByteArray} {maxL d nL n index : Nat} {ret : Option FieldType} {av As : List Value}
theorem xth_of (hy : plainName y.cls = true) (hls : (lg_sl av).length ≤ maxL)
    (h : ∀ (p : Program) (e : Env) (s : State) (m : MethodId) (args : Array Value) (below : List Frame) (meth : Method) (c : Code) (A : Nat → Prop) (ls : Array Slot), xr_C xBIG p c bytes y.cls s m args → meth.locks = false → c.maxLocals = maxL → (∀ (x : ExceptionTableEntry) (pc : Nat), x ∈ c.exceptionTable.toList → covers x pc = false) → lv_has ls maxL (lv_args 0 av) → xr_W xCl (xT cA) D I ad (xc cA tz ad σ) A s s.heap [] → xZ tz A s s.heap →
      W p l e (xr_R d 1 6) s m args below meth c s.heap [] 0 0 (xt_MQ below (xQx D cA tz I ad σ A) A En args s 1 6) (F0 m 0 ls [])) : xTh l y bytes maxL ret d av D cA tz I ad σ En := by
  intro sz
  refine xt_of (cc := bytes) (maxL := maxL) (ret := ret) hy rfl ?_
  intro p e s m args below meth c s₁ B' hml hout hv
  obtain ⟨rfl, hsz, hP, hD, hK, hZ⟩ := hv
  subst hsz
  have hts := atoms_spec (ws := Cond.code y bytes maxL ret :: xBIG) B'.pre
  rw [lg_entry_eq]
  exact h p e s m _ below meth c (xw_A I ad s.heap.size) _ ⟨B'.exec, B'.bytes, findClass_of_methodNamed B'.named, fun w hw => hts w (List.mem_cons_of_mem _ hw)⟩ B'.notSynchronized hml hout (lv_entry av hls) ⟨hP, xw_DA hD, hK, va_S.rf, fun q hq => Or.inr hq⟩ hZ
/-- a call that throws, in a method without handlers -/
theorem xth_pass (w : xr_W xCl (xT cA) D I ad (xc cA tz ad σ) A s H locs) (hlk : meth.locks = false) (hout : ∀ (x : ExceptionTableEntry) (pc : Nat), x ∈ c.exceptionTable.toList → covers x pc = false) {q : Addr} {ce : Cell} {st₀ t : State} {L : List Loc} (hce : t.heap[q]? = some ce) (hv : ce.vm = .none) (hcl : s.vm.findClass En = some ce.cls) (hL : ∀ z ∈ L, xw_A I ad H.size z.base) (h0 : st₀.heap = H) (hal : s.vm.Alike t.vm) (hq : xQx D cA tz I ad σ (xw_A I ad H.size) st₀ t) (hc : cells = 0) (hs : slots = 0) :
    xt_W p l e R s m args below meth c t.heap (locs ++ L) (cells + 1) (slots + 6) (xt_MQ below (xQx D cA tz I ad σ A) A En args s 1 6) (F0 m pc ls rest) q := by
  obtain ⟨hP, hD, hK, hS, hA⟩ := w
  obtain ⟨hP1, hz, hk⟩ := hq
  rw [h0] at hz hk
  have hF := xw_free (sz := H.size) hD (fun q hq => hA q (Nat.le_trans hS.1 hq))
  refine xt_out (fun x hx => hout x pc hx) hlk hce hv hcl (fun z hz => ?_) (fun t' ht' hal' => ⟨by rw [ht']; exact hP1, by rw [ht']; exact Nat.le_trans hS.1 hz, fun q h1 h2 => ?_⟩) (by omega) (by omega)
  · rcases List.mem_append.mp hz with h | h
    · exact hS.2.2 z h
    · exact hF _ (hL z h)
  · rw [ht', hk q (Nat.lt_of_lt_of_le h1 hS.1) (fun z => h2 (hF q z))]
    exact hS.2.1 q h1 h2
theorem xth_callS (C : xr_C xBIG p c cc own s m args) (w : xr_W xCl (xT cA) D I ad (xc cA tz ad σ) A s H locs) (hz : xZ tz A s s.heap) (hml : c.maxLocals = nL) (hls : ls.size = nL) (hlk : meth.locks = false) (hout : ∀ (x : ExceptionTableEntry) (pc : Nat), x ∈ c.exceptionTable.toList → covers x pc = false)
    (hK : xr_KS xBIG own index y bytes maxL ret n) (hM : xTh l y bytes maxL ret d As D cA tz I ad σ En)
    (hn : As.length = n) (hst : st0 = As.reverse ++ rest) (hrest : (rest.map fun v => v.category).sum ≤ 8) (hR : d + 1 ≤ R.frames ∧ 8 + (maxL + 11) + 40 * d ≤ R.locals) (hf : 1 ≤ R.cells ∧ 6 ≤ R.slots) (hdg : decode cc pc = .ok (.invokestatic index, 3)) :
    W p l e R s m args below meth c H locs 0 0 (xt_MQ below (xQx D cA tz I ad σ A) A En args s 1 6) (F0 m pc ls st0) := by
  obtain ⟨k1, k2, k3, k4, k5⟩ := hK
  obtain ⟨hx, hb, hown, hts⟩ := id C
  exact xt_callS (Ts := xBIG) (As := As) (rest := rest) ⟨hx, hb, hml, hown, hts⟩ (hM H.size) ⟨callB_of n hts (xr_good xG k4) rfl rfl rfl (hts _ k3) (hts _ k1) k5 hR, hts _ k2⟩ ⟨xr_blind (xZL tz), fun U hU hW => ⟨rfl, xr_pre (xZL tz) w hz hU hW⟩⟩ hn hls hst hrest hdg ⟨by omega, by omega⟩
    (fun q ce st₀ t L h1 h2 h3 h4 h5 h6 h7 => xth_pass w hlk hout h1 h2 h3 h4 h5 h6 h7 rfl rfl)
/-- the words of a throw: those of the tables, and the five that aren't among them -/
theorem xth_words {L : List Cond} (h : ∀ w ∈ L, w ∈ xBIG ∨ w = .isRef (.static Bundle.tN "UNASSIGNED_STACK" Bundle.steD) ∨ w = .isRef (.static Bundle.tN "SUPPRESSED_SENTINEL" Bundle.listD) ∨ w = .laysStatic Bundle.tN "UNASSIGNED_STACK" Bundle.steD ∨ w = .laysStatic Bundle.tN "SUPPRESSED_SENTINEL" Bundle.listD ∨ w = .castable En En ∨ w = .declares (Bundle.init0 "java/lang/RuntimeException") ∨ w = .declares (Bundle.init0 "java/lang/Exception") ∨ w = .declares (Bundle.init0 Bundle.tN))
    (hts : ∀ w ∈ xBIG, w.before args s = true) (hz : xZ tz A s s.heap) (hca : xs_Ca En En s) : ∀ w ∈ L, w.before args s = true := by
  intro w hw
  rcases h w hw with h | rfl | rfl | rfl | rfl | rfl | rfl | rfl | rfl
  · exact hts w h
  · exact hz.2.1.isRef
  · exact hz.2.2.1.isRef
  · exact hz.2.1.lays
  · exact hz.2.2.1.lays
  · exact hca.use
  · exact va_Nw.use rfl hz.1.2.2.2.2.2.1
  · exact va_Nw.use rfl hz.1.2.2.2.2.2.2.1
  · exact va_Nw.use rfl hz.1.2.2.2.2.2.2.2
theorem xth_new (C : xr_C xBIG p c cc own s m args) (w : xr_W xCl (xT cA) D I ad (xc cA tz ad σ) A s s.heap []) (hz : xZ tz A s s.heap) (hml : c.maxLocals = nL) (hls : ls.size = nL) (hlk : meth.locks = false) (hout : ∀ (x : ExceptionTableEntry) (pc : Nat), x ∈ c.exceptionTable.toList → covers x pc = false) (hl : l.stackTraces = false)
    {ik ic : Nat} (hcls : Bundle.fit En = true) (hk : Cond.classLink own ik En ∈ xBIG) (hini : Cond.initialized En ∈ xBIG)
    (ha : ∀ w ∈ Bundle.ownAtoms0 own ic En ["java/lang/RuntimeException", "java/lang/Exception"], w ∈ xBIG ∨ w = .isRef (.static Bundle.tN "UNASSIGNED_STACK" Bundle.steD) ∨ w = .isRef (.static Bundle.tN "SUPPRESSED_SENTINEL" Bundle.listD) ∨ w = .laysStatic Bundle.tN "UNASSIGNED_STACK" Bundle.steD ∨ w = .laysStatic Bundle.tN "SUPPRESSED_SENTINEL" Bundle.listD ∨ w = .castable En En ∨ w = .declares (Bundle.init0 "java/lang/RuntimeException") ∨ w = .declares (Bundle.init0 "java/lang/Exception") ∨ w = .declares (Bundle.init0 Bundle.tN)) (hca : xs_Ca En En s)
    (d0 : decode cc pc = .ok (.new ik, 3)) (d3 : decode cc (pc + 3) = .ok (.dup, 1)) (d4 : decode cc (pc + 4) = .ok (.invokespecial ic, 3)) (d7 : decode cc (pc + 7) = .ok (.athrow, 1)) (hR : 6 ≤ R.frames ∧ 81 ≤ R.locals ∧ 1 ≤ R.cells ∧ 6 ≤ R.slots) :
    W p l e R s m args below meth c s.heap [] 0 0 (xt_MQ below (xQx D cA tz I ad σ A) A En args s 1 6) (F0 m pc ls []) := by
  obtain ⟨hx, hb, hown, hts⟩ := id C
  obtain ⟨hP, hD, hK, hS, hA⟩ := w
  refine xt_new (names := ["java/lang/RuntimeException", "java/lang/Exception"]) hx hb hl hown hcls (by decide +kernel) (hts _ hk) (hts _ hini) (xth_words ha hts hz hca) (hls.trans hml.symm) d0 d3 d4 d7 (fun x hx => hout x _ hx) (by show 2 + 3 < _; omega) (by show 0 + (13 * (2 + 1) + 42) ≤ _; omega) hR.2.2.1 hR.2.2.2 hlk (fun t hal h1 h2 => ⟨hP.kept (fun k q hq => h2 q.1 ((hP k q hq).lt)), h1, fun q h3 _ => h2 q h3⟩)
end
theorem xat_1 : ∀ w ∈ Bundle.ownAtoms0 "SplitFabric" 163 "java/lang/IndexOutOfBoundsException" ["java/lang/RuntimeException", "java/lang/Exception"], w ∈ xBIG ∨ w = .isRef (.static Bundle.tN "UNASSIGNED_STACK" Bundle.steD) ∨ w = .isRef (.static Bundle.tN "SUPPRESSED_SENTINEL" Bundle.listD) ∨ w = .laysStatic Bundle.tN "UNASSIGNED_STACK" Bundle.steD ∨ w = .laysStatic Bundle.tN "SUPPRESSED_SENTINEL" Bundle.listD ∨ w = .castable "java/lang/IndexOutOfBoundsException" "java/lang/IndexOutOfBoundsException" ∨ w = .declares (Bundle.init0 "java/lang/RuntimeException") ∨ w = .declares (Bundle.init0 "java/lang/Exception") ∨ w = .declares (Bundle.init0 Bundle.tN) := by decide +kernel
theorem xat_2 : ∀ w ∈ Bundle.ownAtoms0 "SplitFabric" 166 "java/lang/IllegalArgumentException" ["java/lang/RuntimeException", "java/lang/Exception"], w ∈ xBIG ∨ w = .isRef (.static Bundle.tN "UNASSIGNED_STACK" Bundle.steD) ∨ w = .isRef (.static Bundle.tN "SUPPRESSED_SENTINEL" Bundle.listD) ∨ w = .laysStatic Bundle.tN "UNASSIGNED_STACK" Bundle.steD ∨ w = .laysStatic Bundle.tN "SUPPRESSED_SENTINEL" Bundle.listD ∨ w = .castable "java/lang/IllegalArgumentException" "java/lang/IllegalArgumentException" ∨ w = .declares (Bundle.init0 "java/lang/RuntimeException") ∨ w = .declares (Bundle.init0 "java/lang/Exception") ∨ w = .declares (Bundle.init0 Bundle.tN) := by decide +kernel
theorem xat_3 : ∀ w ∈ Bundle.ownAtoms0 "SplitFabric" 169 "java/lang/IllegalStateException" ["java/lang/RuntimeException", "java/lang/Exception"], w ∈ xBIG ∨ w = .isRef (.static Bundle.tN "UNASSIGNED_STACK" Bundle.steD) ∨ w = .isRef (.static Bundle.tN "SUPPRESSED_SENTINEL" Bundle.listD) ∨ w = .laysStatic Bundle.tN "UNASSIGNED_STACK" Bundle.steD ∨ w = .laysStatic Bundle.tN "SUPPRESSED_SENTINEL" Bundle.listD ∨ w = .castable "java/lang/IllegalStateException" "java/lang/IllegalStateException" ∨ w = .declares (Bundle.init0 "java/lang/RuntimeException") ∨ w = .declares (Bundle.init0 "java/lang/Exception") ∨ w = .declares (Bundle.init0 Bundle.tN) := by decide +kernel
end
section
/-! The checks, where they throw. -/
set_option maxRecDepth 100000 in
set_option maxHeartbeats 4000000 in
theorem tSF_checkIndex (l : Launch) (htr : l.stackTraces = false) (D : va_G) (cA : Nat → ClassId) (tz : Nat) (I : List (Nat × Nat)) (ad : Nat → Nat → Nat) (σ : xMem) (i b : Int32) (h : i < 0 ∨ b ≤ i) : xTh l ySF_checkIndex bSF_checkIndex 2 none 6 [.int i, .int b] D cA tz I ad σ "java/lang/IndexOutOfBoundsException" := by
  refine xth_of (by decide) (by simp [lg_sl, Value.category]) ?_
  intro p e s m args below meth c A ls C hlk hml hout hl w hz
  obtain ⟨hx, hb, hown, hts⟩ := id C
  have hl : lv_has ls 2 [(0, .int i), (1, .int b)] := hl
  refine lv_iload_n hx hb dSF_checkIndex_0 rfl (lv_at hl 0 rfl) ?_
  refine lv_if_lt hx hb dSF_checkIndex_1 rfl (fun hh1 => ?_) (fun hh1 => ?_)
  · skip
    exact xth_new C w hz hml hl.1 hlk hout htr (by decide +kernel) (xmi 374 (by decide +kernel) rfl) (xmi 11 (by decide +kernel) rfl) xat_1 hz.1.2.1.1 dSF_checkIndex_9 dSF_checkIndex_12 dSF_checkIndex_13 dSF_checkIndex_16 (by decide)
  · skip
    refine lv_iload_n hx hb dSF_checkIndex_4 rfl (lv_at hl 0 rfl) ?_
    refine lv_iload_n hx hb dSF_checkIndex_5 rfl (lv_at hl 1 rfl) ?_
    refine lv_icmp_lt hx hb dSF_checkIndex_6 rfl (fun hh2 => ?_) (fun hh2 => ?_)
    · skip
      exact absurd h (by grind)
    · skip
      exact xth_new C w hz hml hl.1 hlk hout htr (by decide +kernel) (xmi 374 (by decide +kernel) rfl) (xmi 11 (by decide +kernel) rfl) xat_1 hz.1.2.1.1 dSF_checkIndex_9 dSF_checkIndex_12 dSF_checkIndex_13 dSF_checkIndex_16 (by decide)
set_option maxRecDepth 100000 in
set_option maxHeartbeats 4000000 in
theorem tSF_checkArgument (l : Launch) (htr : l.stackTraces = false) (D : va_G) (cA : Nat → ClassId) (tz : Nat) (I : List (Nat × Nat)) (ad : Nat → Nat → Nat) (σ : xMem) : xTh l ySF_checkArgument bSF_checkArgument 1 none 6 [.int (nI 0)] D cA tz I ad σ "java/lang/IllegalArgumentException" := by
  refine xth_of (by decide) (by simp [lg_sl, Value.category]) ?_
  intro p e s m args below meth c A ls C hlk hml hout hl w hz
  obtain ⟨hx, hb, hown, hts⟩ := id C
  have hl : lv_has ls 1 [(0, .int (nI 0))] := hl
  refine lv_iload_n hx hb dSF_checkArgument_0 rfl (lv_at hl 0 rfl) ?_
  refine lv_if_ne hx hb dSF_checkArgument_1 rfl (fun hq => absurd nI_0 hq) (fun _ => ?_)
  exact xth_new C w hz hml hl.1 hlk hout htr (by decide +kernel) (xmi 452 (by decide +kernel) rfl) (xmi 12 (by decide +kernel) rfl) xat_2 hz.1.2.1.2.1 dSF_checkArgument_4 dSF_checkArgument_7 dSF_checkArgument_8 dSF_checkArgument_11 (by decide)
set_option maxRecDepth 100000 in
set_option maxHeartbeats 4000000 in
theorem tSF_checkState (l : Launch) (htr : l.stackTraces = false) (D : va_G) (cA : Nat → ClassId) (tz : Nat) (I : List (Nat × Nat)) (ad : Nat → Nat → Nat) (σ : xMem) : xTh l ySF_checkState bSF_checkState 1 none 6 [.int (nI 0)] D cA tz I ad σ "java/lang/IllegalStateException" := by
  refine xth_of (by decide) (by simp [lg_sl, Value.category]) ?_
  intro p e s m args below meth c A ls C hlk hml hout hl w hz
  obtain ⟨hx, hb, hown, hts⟩ := id C
  have hl : lv_has ls 1 [(0, .int (nI 0))] := hl
  refine lv_iload_n hx hb dSF_checkState_0 rfl (lv_at hl 0 rfl) ?_
  refine lv_if_ne hx hb dSF_checkState_1 rfl (fun hq => absurd nI_0 hq) (fun _ => ?_)
  exact xth_new C w hz hml hl.1 hlk hout htr (by decide +kernel) (xmi 470 (by decide +kernel) rfl) (xmi 13 (by decide +kernel) rfl) xat_3 hz.1.2.1.2.2.1 dSF_checkState_4 dSF_checkState_7 dSF_checkState_8 dSF_checkState_11 (by decide)
end
section
/-! Public methods, where they throw. -/
theorem xck (x : Int32) {n : Nat} (hn : n < 2 ^ 31) : (x < 0 ∨ nI n ≤ x) ∨ ∃ a, a < n ∧ x = nI a := by
  rcases pk_ix x hn with h | h | h
  · exact Or.inl (Or.inl h)
  · exact Or.inl (Or.inr h)
  · exact Or.inr h
/-- a request that is well formed -/
def xp_sound (k a n : Int32) : Prop := (¬ k < 0 ∧ ¬ nI 4 < k) ∧ (k = nI 4 ∨ ((¬ a < 0 ∧ ¬ nI 64 ≤ a) ∧ (¬ n < nI 1 ∧ ¬ (if k = nI 2 ∨ k = nI 3 then nI 1 else nI 4) < n) ∧ a / nI 16 = (a + n - nI 1) / nI 16))
set_option maxRecDepth 100000 in
set_option maxHeartbeats 4000000 in
theorem t1SF_data (l : Launch) (htr : l.stackTraces = false) (D : va_G) (cA : Nat → ClassId) (tz : Nat) (I : List (Nat × Nat)) (ad : Nat → Nat → Nat) (σ : xMem) (x y z : Int32) (hbd : (x < 0 ∨ nI 4 ≤ x) ∨ (y < 0 ∨ nI 4 ≤ y)) : xTh l ySF_data bSF_data 4 none 7 [.ref (ad 5 0), .int x, .int y, .int z] D cA tz I ad σ "java/lang/IndexOutOfBoundsException" := by
  refine xth_of (by decide) (by simp [lg_sl, Value.category]) ?_
  intro p e s m args below meth c A ls C hlk hml hout hl w hz
  obtain ⟨hx, hb, hown, hts⟩ := id C
  have hl : lv_has ls 4 [(0, .ref (ad 5 0)), (1, .int x), (2, .int y), (3, .int z)] := hl
  refine lv_iload_n hx hb dSF_data_0 rfl (lv_at hl 1 rfl) ?_
  refine lv_iconst (v := nI 4) hx hb dSF_data_1 xk_i4 ?_
  rcases xck x (n := 4) (by decide) with hbad | ⟨a, hn_a, rfl⟩
  · exact xth_callS C w hz hml hl.1 hlk hout xk_SF_57 (tSF_checkIndex l htr D cA tz I ad σ x (nI 4) hbad) rfl rfl (Nat.le_of_ble_eq_true rfl) (by decide) (by decide) dSF_data_2
  refine xd_callS C w hz hml hl.1 xk_SF_57 (cSF_checkIndex_ok l D cA tz I ad σ a 4 hn_a (by decide)) rfl rfl (Nat.le_of_ble_eq_true rfl) (by decide) (by decide) dSF_data_2 (fun H locs w => ?_)
  refine W.eq (g2 := F0 m 5 ls []) rfl ?_
  refine lv_iload_n hx hb dSF_data_5 rfl (lv_at hl 2 rfl) ?_
  refine lv_iconst (v := nI 4) hx hb dSF_data_6 xk_i4 ?_
  rcases xck y (n := 4) (by decide) with hbad | ⟨b, hn_b, rfl⟩
  · exact xth_callS C w hz hml hl.1 hlk hout xk_SF_57 (tSF_checkIndex l htr D cA tz I ad σ y (nI 4) hbad) rfl rfl (Nat.le_of_ble_eq_true rfl) (by decide) (by decide) dSF_data_7
  refine xd_callS C w hz hml hl.1 xk_SF_57 (cSF_checkIndex_ok l D cA tz I ad σ b 4 hn_b (by decide)) rfl rfl (Nat.le_of_ble_eq_true rfl) (by decide) (by decide) dSF_data_7 (fun H locs w => ?_)
  refine W.eq (g2 := F0 m 10 ls []) rfl ?_
  exfalso
  rcases hbd with (hq | hq) | (hq | hq)
  · exact absurd hq (nI_pos (by omega))
  · exact absurd hq (nI_ge hn_a (by decide))
  · exact absurd hq (nI_pos (by omega))
  · exact absurd hq (nI_ge hn_b (by decide))
set_option maxRecDepth 100000 in
set_option maxHeartbeats 4000000 in
theorem t1SF_ready (l : Launch) (htr : l.stackTraces = false) (D : va_G) (cA : Nat → ClassId) (tz : Nat) (I : List (Nat × Nat)) (ad : Nat → Nat → Nat) (σ : xMem) (x z : Int32) (hbd : (x < 0 ∨ nI 3 ≤ x)) : xTh l ySF_ready bSF_ready 3 none 7 [.ref (ad 5 0), .int x, .int z] D cA tz I ad σ "java/lang/IndexOutOfBoundsException" := by
  refine xth_of (by decide) (by simp [lg_sl, Value.category]) ?_
  intro p e s m args below meth c A ls C hlk hml hout hl w hz
  obtain ⟨hx, hb, hown, hts⟩ := id C
  have hl : lv_has ls 3 [(0, .ref (ad 5 0)), (1, .int x), (2, .int z)] := hl
  refine lv_iload_n hx hb dSF_ready_0 rfl (lv_at hl 1 rfl) ?_
  refine lv_iconst (v := nI 3) hx hb dSF_ready_1 xk_i3 ?_
  rcases xck x (n := 3) (by decide) with hbad | ⟨a, hn_a, rfl⟩
  · exact xth_callS C w hz hml hl.1 hlk hout xk_SF_57 (tSF_checkIndex l htr D cA tz I ad σ x (nI 3) hbad) rfl rfl (Nat.le_of_ble_eq_true rfl) (by decide) (by decide) dSF_ready_2
  refine xd_callS C w hz hml hl.1 xk_SF_57 (cSF_checkIndex_ok l D cA tz I ad σ a 3 hn_a (by decide)) rfl rfl (Nat.le_of_ble_eq_true rfl) (by decide) (by decide) dSF_ready_2 (fun H locs w => ?_)
  refine W.eq (g2 := F0 m 5 ls []) rfl ?_
  exfalso
  rcases hbd with (hq | hq)
  · exact absurd hq (nI_pos (by omega))
  · exact absurd hq (nI_ge hn_a (by decide))
set_option maxRecDepth 100000 in
set_option maxHeartbeats 4000000 in
theorem t1SF_state (l : Launch) (htr : l.stackTraces = false) (D : va_G) (cA : Nat → ClassId) (tz : Nat) (I : List (Nat × Nat)) (ad : Nat → Nat → Nat) (σ : xMem) (x y : Int32) (hbd : (x < 0 ∨ nI 4 ≤ x) ∨ (y < 0 ∨ nI 4 ≤ y)) : xTh l ySF_state bSF_state 3 (some .int) 7 [.ref (ad 5 0), .int x, .int y] D cA tz I ad σ "java/lang/IndexOutOfBoundsException" := by
  refine xth_of (by decide) (by simp [lg_sl, Value.category]) ?_
  intro p e s m args below meth c A ls C hlk hml hout hl w hz
  obtain ⟨hx, hb, hown, hts⟩ := id C
  have hl : lv_has ls 3 [(0, .ref (ad 5 0)), (1, .int x), (2, .int y)] := hl
  refine lv_iload_n hx hb dSF_state_0 rfl (lv_at hl 1 rfl) ?_
  refine lv_iconst (v := nI 4) hx hb dSF_state_1 xk_i4 ?_
  rcases xck x (n := 4) (by decide) with hbad | ⟨a, hn_a, rfl⟩
  · exact xth_callS C w hz hml hl.1 hlk hout xk_SF_57 (tSF_checkIndex l htr D cA tz I ad σ x (nI 4) hbad) rfl rfl (Nat.le_of_ble_eq_true rfl) (by decide) (by decide) dSF_state_2
  refine xd_callS C w hz hml hl.1 xk_SF_57 (cSF_checkIndex_ok l D cA tz I ad σ a 4 hn_a (by decide)) rfl rfl (Nat.le_of_ble_eq_true rfl) (by decide) (by decide) dSF_state_2 (fun H locs w => ?_)
  refine W.eq (g2 := F0 m 5 ls []) rfl ?_
  refine lv_iload_n hx hb dSF_state_5 rfl (lv_at hl 2 rfl) ?_
  refine lv_iconst (v := nI 4) hx hb dSF_state_6 xk_i4 ?_
  rcases xck y (n := 4) (by decide) with hbad | ⟨b, hn_b, rfl⟩
  · exact xth_callS C w hz hml hl.1 hlk hout xk_SF_57 (tSF_checkIndex l htr D cA tz I ad σ y (nI 4) hbad) rfl rfl (Nat.le_of_ble_eq_true rfl) (by decide) (by decide) dSF_state_7
  refine xd_callS C w hz hml hl.1 xk_SF_57 (cSF_checkIndex_ok l D cA tz I ad σ b 4 hn_b (by decide)) rfl rfl (Nat.le_of_ble_eq_true rfl) (by decide) (by decide) dSF_state_7 (fun H locs w => ?_)
  refine W.eq (g2 := F0 m 10 ls []) rfl ?_
  exfalso
  rcases hbd with (hq | hq) | (hq | hq)
  · exact absurd hq (nI_pos (by omega))
  · exact absurd hq (nI_ge hn_a (by decide))
  · exact absurd hq (nI_pos (by omega))
  · exact absurd hq (nI_ge hn_b (by decide))
set_option maxRecDepth 100000 in
set_option maxHeartbeats 4000000 in
theorem t1SF_word (l : Launch) (htr : l.stackTraces = false) (D : va_G) (cA : Nat → ClassId) (tz : Nat) (I : List (Nat × Nat)) (ad : Nat → Nat → Nat) (σ : xMem) (x y z : Int32) (hbd : (x < 0 ∨ nI 4 ≤ x) ∨ (y < 0 ∨ nI 4 ≤ y) ∨ (z < 0 ∨ nI 4 ≤ z)) : xTh l ySF_word bSF_word 5 (some .int) 7 [.ref (ad 5 0), .int x, .int y, .int z] D cA tz I ad σ "java/lang/IndexOutOfBoundsException" := by
  refine xth_of (by decide) (by simp [lg_sl, Value.category]) ?_
  intro p e s m args below meth c A ls C hlk hml hout hl w hz
  obtain ⟨hx, hb, hown, hts⟩ := id C
  have hl : lv_has ls 5 [(0, .ref (ad 5 0)), (1, .int x), (2, .int y), (3, .int z)] := hl
  refine lv_iload_n hx hb dSF_word_0 rfl (lv_at hl 1 rfl) ?_
  refine lv_iconst (v := nI 4) hx hb dSF_word_1 xk_i4 ?_
  rcases xck x (n := 4) (by decide) with hbad | ⟨a, hn_a, rfl⟩
  · exact xth_callS C w hz hml hl.1 hlk hout xk_SF_57 (tSF_checkIndex l htr D cA tz I ad σ x (nI 4) hbad) rfl rfl (Nat.le_of_ble_eq_true rfl) (by decide) (by decide) dSF_word_2
  refine xd_callS C w hz hml hl.1 xk_SF_57 (cSF_checkIndex_ok l D cA tz I ad σ a 4 hn_a (by decide)) rfl rfl (Nat.le_of_ble_eq_true rfl) (by decide) (by decide) dSF_word_2 (fun H locs w => ?_)
  refine W.eq (g2 := F0 m 5 ls []) rfl ?_
  refine lv_iload_n hx hb dSF_word_5 rfl (lv_at hl 2 rfl) ?_
  refine lv_iconst (v := nI 4) hx hb dSF_word_6 xk_i4 ?_
  rcases xck y (n := 4) (by decide) with hbad | ⟨b, hn_b, rfl⟩
  · exact xth_callS C w hz hml hl.1 hlk hout xk_SF_57 (tSF_checkIndex l htr D cA tz I ad σ y (nI 4) hbad) rfl rfl (Nat.le_of_ble_eq_true rfl) (by decide) (by decide) dSF_word_7
  refine xd_callS C w hz hml hl.1 xk_SF_57 (cSF_checkIndex_ok l D cA tz I ad σ b 4 hn_b (by decide)) rfl rfl (Nat.le_of_ble_eq_true rfl) (by decide) (by decide) dSF_word_7 (fun H locs w => ?_)
  refine W.eq (g2 := F0 m 10 ls []) rfl ?_
  refine lv_iload_n hx hb dSF_word_10 rfl (lv_at hl 3 rfl) ?_
  refine lv_iconst (v := nI 4) hx hb dSF_word_11 xk_i4 ?_
  rcases xck z (n := 4) (by decide) with hbad | ⟨i, hn_i, rfl⟩
  · exact xth_callS C w hz hml hl.1 hlk hout xk_SF_57 (tSF_checkIndex l htr D cA tz I ad σ z (nI 4) hbad) rfl rfl (Nat.le_of_ble_eq_true rfl) (by decide) (by decide) dSF_word_12
  refine xd_callS C w hz hml hl.1 xk_SF_57 (cSF_checkIndex_ok l D cA tz I ad σ i 4 hn_i (by decide)) rfl rfl (Nat.le_of_ble_eq_true rfl) (by decide) (by decide) dSF_word_12 (fun H locs w => ?_)
  refine W.eq (g2 := F0 m 15 ls []) rfl ?_
  exfalso
  rcases hbd with (hq | hq) | (hq | hq) | (hq | hq)
  · exact absurd hq (nI_pos (by omega))
  · exact absurd hq (nI_ge hn_a (by decide))
  · exact absurd hq (nI_pos (by omega))
  · exact absurd hq (nI_ge hn_b (by decide))
  · exact absurd hq (nI_pos (by omega))
  · exact absurd hq (nI_ge hn_i (by decide))
set_option maxRecDepth 100000 in
set_option maxHeartbeats 4000000 in
theorem t1SF_take (l : Launch) (htr : l.stackTraces = false) (D : va_G) (cA : Nat → ClassId) (tz : Nat) (I : List (Nat × Nat)) (ad : Nat → Nat → Nat) (σ : xMem) (x y : Int32) (hbd : (x < 0 ∨ nI 4 ≤ x) ∨ (y < 0 ∨ nI 4 ≤ y)) : xTh l ySF_take bSF_take 5 (some .boolean) 7 [.ref (ad 5 0), .int x, .int y] D cA tz I ad σ "java/lang/IndexOutOfBoundsException" := by
  refine xth_of (by decide) (by simp [lg_sl, Value.category]) ?_
  intro p e s m args below meth c A ls C hlk hml hout hl w hz
  obtain ⟨hx, hb, hown, hts⟩ := id C
  have hl : lv_has ls 5 [(0, .ref (ad 5 0)), (1, .int x), (2, .int y)] := hl
  refine lv_iload_n hx hb dSF_take_0 rfl (lv_at hl 1 rfl) ?_
  refine lv_iconst (v := nI 4) hx hb dSF_take_1 xk_i4 ?_
  rcases xck x (n := 4) (by decide) with hbad | ⟨a, hn_a, rfl⟩
  · exact xth_callS C w hz hml hl.1 hlk hout xk_SF_57 (tSF_checkIndex l htr D cA tz I ad σ x (nI 4) hbad) rfl rfl (Nat.le_of_ble_eq_true rfl) (by decide) (by decide) dSF_take_2
  refine xd_callS C w hz hml hl.1 xk_SF_57 (cSF_checkIndex_ok l D cA tz I ad σ a 4 hn_a (by decide)) rfl rfl (Nat.le_of_ble_eq_true rfl) (by decide) (by decide) dSF_take_2 (fun H locs w => ?_)
  refine W.eq (g2 := F0 m 5 ls []) rfl ?_
  refine lv_iload_n hx hb dSF_take_5 rfl (lv_at hl 2 rfl) ?_
  refine lv_iconst (v := nI 4) hx hb dSF_take_6 xk_i4 ?_
  rcases xck y (n := 4) (by decide) with hbad | ⟨b, hn_b, rfl⟩
  · exact xth_callS C w hz hml hl.1 hlk hout xk_SF_57 (tSF_checkIndex l htr D cA tz I ad σ y (nI 4) hbad) rfl rfl (Nat.le_of_ble_eq_true rfl) (by decide) (by decide) dSF_take_7
  refine xd_callS C w hz hml hl.1 xk_SF_57 (cSF_checkIndex_ok l D cA tz I ad σ b 4 hn_b (by decide)) rfl rfl (Nat.le_of_ble_eq_true rfl) (by decide) (by decide) dSF_take_7 (fun H locs w => ?_)
  refine W.eq (g2 := F0 m 10 ls []) rfl ?_
  exfalso
  rcases hbd with (hq | hq) | (hq | hq)
  · exact absurd hq (nI_pos (by omega))
  · exact absurd hq (nI_ge hn_a (by decide))
  · exact absurd hq (nI_pos (by omega))
  · exact absurd hq (nI_ge hn_b (by decide))
set_option maxRecDepth 100000 in
set_option maxHeartbeats 4000000 in
theorem t1SF_base (l : Launch) (htr : l.stackTraces = false) (D : va_G) (cA : Nat → ClassId) (tz : Nat) (I : List (Nat × Nat)) (ad : Nat → Nat → Nat) (σ : xMem) (x y : Int32) (hbd : (x < 0 ∨ nI 4 ≤ x)) : xTh l ySF_base bSF_base 3 none 7 [.ref (ad 5 0), .int x, .int y] D cA tz I ad σ "java/lang/IndexOutOfBoundsException" := by
  refine xth_of (by decide) (by simp [lg_sl, Value.category]) ?_
  intro p e s m args below meth c A ls C hlk hml hout hl w hz
  obtain ⟨hx, hb, hown, hts⟩ := id C
  have hl : lv_has ls 3 [(0, .ref (ad 5 0)), (1, .int x), (2, .int y)] := hl
  refine lv_iload_n hx hb dSF_base_0 rfl (lv_at hl 1 rfl) ?_
  refine lv_iconst (v := nI 4) hx hb dSF_base_1 xk_i4 ?_
  rcases xck x (n := 4) (by decide) with hbad | ⟨a, hn_a, rfl⟩
  · exact xth_callS C w hz hml hl.1 hlk hout xk_SF_57 (tSF_checkIndex l htr D cA tz I ad σ x (nI 4) hbad) rfl rfl (Nat.le_of_ble_eq_true rfl) (by decide) (by decide) dSF_base_2
  refine xd_callS C w hz hml hl.1 xk_SF_57 (cSF_checkIndex_ok l D cA tz I ad σ a 4 hn_a (by decide)) rfl rfl (Nat.le_of_ble_eq_true rfl) (by decide) (by decide) dSF_base_2 (fun H locs w => ?_)
  refine W.eq (g2 := F0 m 5 ls []) rfl ?_
  exfalso
  rcases hbd with (hq | hq)
  · exact absurd hq (nI_pos (by omega))
  · exact absurd hq (nI_ge hn_a (by decide))
set_option maxRecDepth 100000 in
set_option maxHeartbeats 4000000 in
theorem t1SF_waits (l : Launch) (htr : l.stackTraces = false) (D : va_G) (cA : Nat → ClassId) (tz : Nat) (I : List (Nat × Nat)) (ad : Nat → Nat → Nat) (σ : xMem) (x : Int32) (hbd : (x < 0 ∨ nI 4 ≤ x)) : xTh l ySF_waits bSF_waits 5 (some .int) 7 [.ref (ad 5 0), .int x] D cA tz I ad σ "java/lang/IndexOutOfBoundsException" := by
  refine xth_of (by decide) (by simp [lg_sl, Value.category]) ?_
  intro p e s m args below meth c A ls C hlk hml hout hl w hz
  obtain ⟨hx, hb, hown, hts⟩ := id C
  have hl : lv_has ls 5 [(0, .ref (ad 5 0)), (1, .int x)] := hl
  refine lv_iload_n hx hb dSF_waits_0 rfl (lv_at hl 1 rfl) ?_
  refine lv_iconst (v := nI 4) hx hb dSF_waits_1 xk_i4 ?_
  rcases xck x (n := 4) (by decide) with hbad | ⟨a, hn_a, rfl⟩
  · exact xth_callS C w hz hml hl.1 hlk hout xk_SF_57 (tSF_checkIndex l htr D cA tz I ad σ x (nI 4) hbad) rfl rfl (Nat.le_of_ble_eq_true rfl) (by decide) (by decide) dSF_waits_2
  refine xd_callS C w hz hml hl.1 xk_SF_57 (cSF_checkIndex_ok l D cA tz I ad σ a 4 hn_a (by decide)) rfl rfl (Nat.le_of_ble_eq_true rfl) (by decide) (by decide) dSF_waits_2 (fun H locs w => ?_)
  refine W.eq (g2 := F0 m 5 ls []) rfl ?_
  exfalso
  rcases hbd with (hq | hq)
  · exact absurd hq (nI_pos (by omega))
  · exact absurd hq (nI_ge hn_a (by decide))
set_option maxRecDepth 100000 in
set_option maxHeartbeats 4000000 in
theorem t1SF_reset (l : Launch) (htr : l.stackTraces = false) (D : va_G) (cA : Nat → ClassId) (tz : Nat) (I : List (Nat × Nat)) (ad : Nat → Nat → Nat) (σ : xMem) (x : Int32) (hbd : (x < 0 ∨ nI 4 ≤ x)) : xTh l ySF_reset bSF_reset 5 (some .int) 7 [.ref (ad 5 0), .int x] D cA tz I ad σ "java/lang/IndexOutOfBoundsException" := by
  refine xth_of (by decide) (by simp [lg_sl, Value.category]) ?_
  intro p e s m args below meth c A ls C hlk hml hout hl w hz
  obtain ⟨hx, hb, hown, hts⟩ := id C
  have hl : lv_has ls 5 [(0, .ref (ad 5 0)), (1, .int x)] := hl
  refine lv_iload_n hx hb dSF_reset_0 rfl (lv_at hl 1 rfl) ?_
  refine lv_iconst (v := nI 4) hx hb dSF_reset_1 xk_i4 ?_
  rcases xck x (n := 4) (by decide) with hbad | ⟨a, hn_a, rfl⟩
  · exact xth_callS C w hz hml hl.1 hlk hout xk_SF_57 (tSF_checkIndex l htr D cA tz I ad σ x (nI 4) hbad) rfl rfl (Nat.le_of_ble_eq_true rfl) (by decide) (by decide) dSF_reset_2
  refine xd_callS C w hz hml hl.1 xk_SF_57 (cSF_checkIndex_ok l D cA tz I ad σ a 4 hn_a (by decide)) rfl rfl (Nat.le_of_ble_eq_true rfl) (by decide) (by decide) dSF_reset_2 (fun H locs w => ?_)
  refine W.eq (g2 := F0 m 5 ls []) rfl ?_
  exfalso
  rcases hbd with (hq | hq)
  · exact absurd hq (nI_pos (by omega))
  · exact absurd hq (nI_ge hn_a (by decide))
set_option maxRecDepth 100000 in
set_option maxHeartbeats 4000000 in
theorem t1SF_credits (l : Launch) (htr : l.stackTraces = false) (D : va_G) (cA : Nat → ClassId) (tz : Nat) (I : List (Nat × Nat)) (ad : Nat → Nat → Nat) (σ : xMem) (x : Int32) (hbd : (x < 0 ∨ nI 3 ≤ x)) : xTh l ySF_credits bSF_credits 2 (some .int) 7 [.ref (ad 5 0), .int x] D cA tz I ad σ "java/lang/IndexOutOfBoundsException" := by
  refine xth_of (by decide) (by simp [lg_sl, Value.category]) ?_
  intro p e s m args below meth c A ls C hlk hml hout hl w hz
  obtain ⟨hx, hb, hown, hts⟩ := id C
  have hl : lv_has ls 2 [(0, .ref (ad 5 0)), (1, .int x)] := hl
  refine lv_iload_n hx hb dSF_credits_0 rfl (lv_at hl 1 rfl) ?_
  refine lv_iconst (v := nI 3) hx hb dSF_credits_1 xk_i3 ?_
  rcases xck x (n := 3) (by decide) with hbad | ⟨a, hn_a, rfl⟩
  · exact xth_callS C w hz hml hl.1 hlk hout xk_SF_57 (tSF_checkIndex l htr D cA tz I ad σ x (nI 3) hbad) rfl rfl (Nat.le_of_ble_eq_true rfl) (by decide) (by decide) dSF_credits_2
  refine xd_callS C w hz hml hl.1 xk_SF_57 (cSF_checkIndex_ok l D cA tz I ad σ a 3 hn_a (by decide)) rfl rfl (Nat.le_of_ble_eq_true rfl) (by decide) (by decide) dSF_credits_2 (fun H locs w => ?_)
  refine W.eq (g2 := F0 m 5 ls []) rfl ?_
  exfalso
  rcases hbd with (hq | hq)
  · exact absurd hq (nI_pos (by omega))
  · exact absurd hq (nI_ge hn_a (by decide))
set_option maxRecDepth 100000 in
set_option maxHeartbeats 4000000 in
theorem t1SF_holder (l : Launch) (htr : l.stackTraces = false) (D : va_G) (cA : Nat → ClassId) (tz : Nat) (I : List (Nat × Nat)) (ad : Nat → Nat → Nat) (σ : xMem) (x : Int32) (hbd : (x < 0 ∨ nI 3 ≤ x)) : xTh l ySF_holder bSF_holder 2 (some .int) 7 [.ref (ad 5 0), .int x] D cA tz I ad σ "java/lang/IndexOutOfBoundsException" := by
  refine xth_of (by decide) (by simp [lg_sl, Value.category]) ?_
  intro p e s m args below meth c A ls C hlk hml hout hl w hz
  obtain ⟨hx, hb, hown, hts⟩ := id C
  have hl : lv_has ls 2 [(0, .ref (ad 5 0)), (1, .int x)] := hl
  refine lv_iload_n hx hb dSF_holder_0 rfl (lv_at hl 1 rfl) ?_
  refine lv_iconst (v := nI 3) hx hb dSF_holder_1 xk_i3 ?_
  rcases xck x (n := 3) (by decide) with hbad | ⟨a, hn_a, rfl⟩
  · exact xth_callS C w hz hml hl.1 hlk hout xk_SF_57 (tSF_checkIndex l htr D cA tz I ad σ x (nI 3) hbad) rfl rfl (Nat.le_of_ble_eq_true rfl) (by decide) (by decide) dSF_holder_2
  refine xd_callS C w hz hml hl.1 xk_SF_57 (cSF_checkIndex_ok l D cA tz I ad σ a 3 hn_a (by decide)) rfl rfl (Nat.le_of_ble_eq_true rfl) (by decide) (by decide) dSF_holder_2 (fun H locs w => ?_)
  refine W.eq (g2 := F0 m 5 ls []) rfl ?_
  exfalso
  rcases hbd with (hq | hq)
  · exact absurd hq (nI_pos (by omega))
  · exact absurd hq (nI_ge hn_a (by decide))
set_option maxRecDepth 100000 in
set_option maxHeartbeats 4000000 in
theorem t1SF_memory (l : Launch) (htr : l.stackTraces = false) (D : va_G) (cA : Nat → ClassId) (tz : Nat) (I : List (Nat × Nat)) (ad : Nat → Nat → Nat) (σ : xMem) (x : Int32) (hbd : (x < 0 ∨ nI 48 ≤ x)) : xTh l ySF_memory bSF_memory 2 (some .int) 7 [.ref (ad 5 0), .int x] D cA tz I ad σ "java/lang/IndexOutOfBoundsException" := by
  refine xth_of (by decide) (by simp [lg_sl, Value.category]) ?_
  intro p e s m args below meth c A ls C hlk hml hout hl w hz
  obtain ⟨hx, hb, hown, hts⟩ := id C
  have hl : lv_has ls 2 [(0, .ref (ad 5 0)), (1, .int x)] := hl
  refine lv_iload_n hx hb dSF_memory_0 rfl (lv_at hl 1 rfl) ?_
  refine lv_bipush (v := nI 48) hx hb dSF_memory_1 xk_b48 ?_
  rcases xck x (n := 48) (by decide) with hbad | ⟨a, hn_a, rfl⟩
  · exact xth_callS C w hz hml hl.1 hlk hout xk_SF_57 (tSF_checkIndex l htr D cA tz I ad σ x (nI 48) hbad) rfl rfl (Nat.le_of_ble_eq_true rfl) (by decide) (by decide) dSF_memory_3
  refine xd_callS C w hz hml hl.1 xk_SF_57 (cSF_checkIndex_ok l D cA tz I ad σ a 48 hn_a (by decide)) rfl rfl (Nat.le_of_ble_eq_true rfl) (by decide) (by decide) dSF_memory_3 (fun H locs w => ?_)
  refine W.eq (g2 := F0 m 6 ls []) rfl ?_
  exfalso
  rcases hbd with (hq | hq)
  · exact absurd hq (nI_pos (by omega))
  · exact absurd hq (nI_ge hn_a (by decide))
set_option maxRecDepth 100000 in
set_option maxHeartbeats 4000000 in
theorem t1SF_issue (l : Launch) (htr : l.stackTraces = false) (D : va_G) (cA : Nat → ClassId) (tz : Nat) (I : List (Nat × Nat)) (ad : Nat → Nat → Nat) (σ : xMem) (x u v w1 y : Int32) (hbd : (x < 0 ∨ nI 4 ≤ x) ∨ (y < 0 ∨ nI 4 ≤ y)) : xTh l ySF_issue bSF_issue 7 none 7 [.ref (ad 5 0), .int x, .int u, .int v, .int w1, .int y] D cA tz I ad σ "java/lang/IndexOutOfBoundsException" := by
  refine xth_of (by decide) (by simp [lg_sl, Value.category]) ?_
  intro p e s m args below meth c A ls C hlk hml hout hl w hz
  obtain ⟨hx, hb, hown, hts⟩ := id C
  have hl : lv_has ls 7 [(0, .ref (ad 5 0)), (1, .int x), (2, .int u), (3, .int v), (4, .int w1), (5, .int y)] := hl
  refine lv_iload_n hx hb dSF_issue_0 rfl (lv_at hl 1 rfl) ?_
  refine lv_iconst (v := nI 4) hx hb dSF_issue_1 xk_i4 ?_
  rcases xck x (n := 4) (by decide) with hbad | ⟨a, hn_a, rfl⟩
  · exact xth_callS C w hz hml hl.1 hlk hout xk_SF_57 (tSF_checkIndex l htr D cA tz I ad σ x (nI 4) hbad) rfl rfl (Nat.le_of_ble_eq_true rfl) (by decide) (by decide) dSF_issue_2
  refine xd_callS C w hz hml hl.1 xk_SF_57 (cSF_checkIndex_ok l D cA tz I ad σ a 4 hn_a (by decide)) rfl rfl (Nat.le_of_ble_eq_true rfl) (by decide) (by decide) dSF_issue_2 (fun H locs w => ?_)
  refine W.eq (g2 := F0 m 5 ls []) rfl ?_
  refine lv_iload hx hb dSF_issue_5 (lv_at hl 5 rfl) ?_
  refine lv_iconst (v := nI 4) hx hb dSF_issue_7 xk_i4 ?_
  rcases xck y (n := 4) (by decide) with hbad | ⟨b, hn_b, rfl⟩
  · exact xth_callS C w hz hml hl.1 hlk hout xk_SF_57 (tSF_checkIndex l htr D cA tz I ad σ y (nI 4) hbad) rfl rfl (Nat.le_of_ble_eq_true rfl) (by decide) (by decide) dSF_issue_8
  refine xd_callS C w hz hml hl.1 xk_SF_57 (cSF_checkIndex_ok l D cA tz I ad σ b 4 hn_b (by decide)) rfl rfl (Nat.le_of_ble_eq_true rfl) (by decide) (by decide) dSF_issue_8 (fun H locs w => ?_)
  refine W.eq (g2 := F0 m 11 ls []) rfl ?_
  exfalso
  rcases hbd with (hq | hq) | (hq | hq)
  · exact absurd hq (nI_pos (by omega))
  · exact absurd hq (nI_ge hn_a (by decide))
  · exact absurd hq (nI_pos (by omega))
  · exact absurd hq (nI_ge hn_b (by decide))
set_option maxRecDepth 100000 in
set_option maxHeartbeats 4000000 in
theorem tSF_checkRequest (l : Launch) (htr : l.stackTraces = false) (D : va_G) (cA : Nat → ClassId) (tz : Nat) (I : List (Nat × Nat)) (ad : Nat → Nat → Nat) (σ : xMem) (x y z : Int32) (hbd : ¬ xp_sound x y z) : xTh l ySF_checkRequest bSF_checkRequest 4 none 7 [.int x, .int y, .int z] D cA tz I ad σ "java/lang/IllegalArgumentException" := by
  refine xth_of (by decide) (by simp [lg_sl, Value.category]) ?_
  intro p e s m args below meth c A ls C hlk hml hout hl w hz
  obtain ⟨hx, hb, hown, hts⟩ := id C
  have hl : lv_has ls 4 [(0, .int x), (1, .int y), (2, .int z)] := hl
  refine lv_iload_n hx hb dSF_checkRequest_0 rfl (lv_at hl 0 rfl) ?_
  refine lv_if_lt hx hb dSF_checkRequest_1 rfl (fun hh1 => ?_) (fun hh1 => ?_)
  · skip
    refine lv_iconst (v := nI 0) hx hb dSF_checkRequest_13 xk_i0 ?_
    exact xth_callS C w hz hml hl.1 hlk hout xk_SF_118 (tSF_checkArgument l htr D cA tz I ad (σ)) rfl rfl (Nat.le_of_ble_eq_true rfl) (by decide) (by decide) dSF_checkRequest_14
  · skip
    refine lv_iload_n hx hb dSF_checkRequest_4 rfl (lv_at hl 0 rfl) ?_
    refine lv_iconst (v := nI 4) hx hb dSF_checkRequest_5 xk_i4 ?_
    refine lv_icmp_gt hx hb dSF_checkRequest_6 rfl (fun hh2 => ?_) (fun hh2 => ?_)
    · skip
      refine lv_iconst (v := nI 0) hx hb dSF_checkRequest_13 xk_i0 ?_
      exact xth_callS C w hz hml hl.1 hlk hout xk_SF_118 (tSF_checkArgument l htr D cA tz I ad (σ)) rfl rfl (Nat.le_of_ble_eq_true rfl) (by decide) (by decide) dSF_checkRequest_14
    · skip
      refine lv_iconst (v := nI 1) hx hb dSF_checkRequest_9 xk_i1 ?_
      refine lv_goto hx hb dSF_checkRequest_10 rfl ?_
      refine xd_callS C w hz hml hl.1 xk_SF_118 (cSF_checkArgument_ok l D cA tz I ad (σ)) rfl rfl (Nat.le_of_ble_eq_true rfl) (by decide) (by decide) dSF_checkRequest_14 (fun H locs w => ?_)
      refine W.eq (g2 := F0 m 17 ls []) rfl ?_
      refine lv_iload_n hx hb dSF_checkRequest_17 rfl (lv_at hl 0 rfl) ?_
      refine lv_iconst (v := nI 4) hx hb dSF_checkRequest_18 xk_i4 ?_
      refine lv_icmp_ne hx hb dSF_checkRequest_19 rfl (fun hh3 => ?_) (fun hh3 => ?_)
      · skip
        refine lv_iload_n hx hb dSF_checkRequest_23 rfl (lv_at hl 0 rfl) ?_
        refine lv_iconst (v := nI 2) hx hb dSF_checkRequest_24 xk_i2 ?_
        refine lv_icmp_eq hx hb dSF_checkRequest_25 rfl (fun hh4 => ?_) (fun hh4 => ?_)
        · skip
          refine lv_iconst (v := nI 1) hx hb dSF_checkRequest_33 xk_i1 ?_
          refine lv_goto hx hb dSF_checkRequest_34 rfl ?_
          refine lv_istore_n (lv' := [(3, .int (nI 1)), (0, .int x), (1, .int y), (2, .int z)]) hx hb dSF_checkRequest_38 rfl hl (by decide) rfl (fun ls hl => ?_)
          refine lv_iload_n hx hb dSF_checkRequest_39 rfl (lv_at hl 2 rfl) ?_
          refine lv_if_lt hx hb dSF_checkRequest_40 rfl (fun hh5 => ?_) (fun hh5 => ?_)
          · skip
            refine lv_iconst (v := nI 0) hx hb dSF_checkRequest_53 xk_i0 ?_
            exact xth_callS C w hz hml hl.1 hlk hout xk_SF_118 (tSF_checkArgument l htr D cA tz I ad (σ)) rfl rfl (Nat.le_of_ble_eq_true rfl) (by decide) (by decide) dSF_checkRequest_54
          · skip
            refine lv_iload_n hx hb dSF_checkRequest_43 rfl (lv_at hl 2 rfl) ?_
            refine lv_bipush (v := nI 64) hx hb dSF_checkRequest_44 xk_b64 ?_
            refine lv_icmp_ge hx hb dSF_checkRequest_46 rfl (fun hh6 => ?_) (fun hh6 => ?_)
            · skip
              refine lv_iconst (v := nI 0) hx hb dSF_checkRequest_53 xk_i0 ?_
              exact xth_callS C w hz hml hl.1 hlk hout xk_SF_118 (tSF_checkArgument l htr D cA tz I ad (σ)) rfl rfl (Nat.le_of_ble_eq_true rfl) (by decide) (by decide) dSF_checkRequest_54
            · skip
              refine lv_iconst (v := nI 1) hx hb dSF_checkRequest_49 xk_i1 ?_
              refine lv_goto hx hb dSF_checkRequest_50 rfl ?_
              refine xd_callS C w hz hml hl.1 xk_SF_118 (cSF_checkArgument_ok l D cA tz I ad (σ)) rfl rfl (Nat.le_of_ble_eq_true rfl) (by decide) (by decide) dSF_checkRequest_54 (fun H locs w => ?_)
              refine W.eq (g2 := F0 m 57 ls []) rfl ?_
              refine lv_iload_n hx hb dSF_checkRequest_57 rfl (lv_at hl 3 rfl) ?_
              refine lv_iconst (v := nI 1) hx hb dSF_checkRequest_58 xk_i1 ?_
              refine lv_icmp_lt hx hb dSF_checkRequest_59 rfl (fun hh7 => ?_) (fun hh7 => ?_)
              · skip
                refine lv_iconst (v := nI 0) hx hb dSF_checkRequest_71 xk_i0 ?_
                exact xth_callS C w hz hml hl.1 hlk hout xk_SF_118 (tSF_checkArgument l htr D cA tz I ad (σ)) rfl rfl (Nat.le_of_ble_eq_true rfl) (by decide) (by decide) dSF_checkRequest_72
              · skip
                refine lv_iload_n hx hb dSF_checkRequest_62 rfl (lv_at hl 3 rfl) ?_
                refine lv_iload_n hx hb dSF_checkRequest_63 rfl (lv_at hl 0 rfl) ?_
                refine lv_icmp_gt hx hb dSF_checkRequest_64 rfl (fun hh8 => ?_) (fun hh8 => ?_)
                · skip
                  refine lv_iconst (v := nI 0) hx hb dSF_checkRequest_71 xk_i0 ?_
                  exact xth_callS C w hz hml hl.1 hlk hout xk_SF_118 (tSF_checkArgument l htr D cA tz I ad (σ)) rfl rfl (Nat.le_of_ble_eq_true rfl) (by decide) (by decide) dSF_checkRequest_72
                · skip
                  refine lv_iconst (v := nI 1) hx hb dSF_checkRequest_67 xk_i1 ?_
                  refine lv_goto hx hb dSF_checkRequest_68 rfl ?_
                  refine xd_callS C w hz hml hl.1 xk_SF_118 (cSF_checkArgument_ok l D cA tz I ad (σ)) rfl rfl (Nat.le_of_ble_eq_true rfl) (by decide) (by decide) dSF_checkRequest_72 (fun H locs w => ?_)
                  refine W.eq (g2 := F0 m 75 ls []) rfl ?_
                  refine lv_iload_n hx hb dSF_checkRequest_75 rfl (lv_at hl 2 rfl) ?_
                  refine lv_bipush (v := nI 16) hx hb dSF_checkRequest_76 xk_b16 ?_
                  refine lv_idiv hx hb dSF_checkRequest_78 (by decide) ?_
                  refine lv_iload_n hx hb dSF_checkRequest_79 rfl (lv_at hl 2 rfl) ?_
                  refine lv_iload_n hx hb dSF_checkRequest_80 rfl (lv_at hl 3 rfl) ?_
                  refine lv_iadd hx hb dSF_checkRequest_81 ?_
                  refine lv_iconst (v := nI 1) hx hb dSF_checkRequest_82 xk_i1 ?_
                  refine lv_isub hx hb dSF_checkRequest_83 ?_
                  refine lv_bipush (v := nI 16) hx hb dSF_checkRequest_84 xk_b16 ?_
                  refine lv_idiv hx hb dSF_checkRequest_86 (by decide) ?_
                  refine lv_icmp_ne hx hb dSF_checkRequest_87 rfl (fun hh9 => ?_) (fun hh9 => ?_)
                  · skip
                    refine lv_iconst (v := nI 0) hx hb dSF_checkRequest_94 xk_i0 ?_
                    exact xth_callS C w hz hml hl.1 hlk hout xk_SF_118 (tSF_checkArgument l htr D cA tz I ad (σ)) rfl rfl (Nat.le_of_ble_eq_true rfl) (by decide) (by decide) dSF_checkRequest_95
                  · skip
                    refine lv_iconst (v := nI 1) hx hb dSF_checkRequest_90 xk_i1 ?_
                    refine lv_goto hx hb dSF_checkRequest_91 rfl ?_
                    refine xd_callS C w hz hml hl.1 xk_SF_118 (cSF_checkArgument_ok l D cA tz I ad (σ)) rfl rfl (Nat.le_of_ble_eq_true rfl) (by decide) (by decide) dSF_checkRequest_95 (fun H locs w => ?_)
                    refine W.eq (g2 := F0 m 98 ls []) rfl ?_
                    exact absurd (by unfold xp_sound; grind) hbd
        · skip
          refine lv_iload_n hx hb dSF_checkRequest_28 rfl (lv_at hl 0 rfl) ?_
          refine lv_iconst (v := nI 3) hx hb dSF_checkRequest_29 xk_i3 ?_
          refine lv_icmp_ne hx hb dSF_checkRequest_30 rfl (fun hh10 => ?_) (fun hh10 => ?_)
          · skip
            refine lv_iconst (v := nI 4) hx hb dSF_checkRequest_37 xk_i4 ?_
            refine lv_istore_n (lv' := [(3, .int (nI 4)), (0, .int x), (1, .int y), (2, .int z)]) hx hb dSF_checkRequest_38 rfl hl (by decide) rfl (fun ls hl => ?_)
            refine lv_iload_n hx hb dSF_checkRequest_39 rfl (lv_at hl 2 rfl) ?_
            refine lv_if_lt hx hb dSF_checkRequest_40 rfl (fun hh11 => ?_) (fun hh11 => ?_)
            · skip
              refine lv_iconst (v := nI 0) hx hb dSF_checkRequest_53 xk_i0 ?_
              exact xth_callS C w hz hml hl.1 hlk hout xk_SF_118 (tSF_checkArgument l htr D cA tz I ad (σ)) rfl rfl (Nat.le_of_ble_eq_true rfl) (by decide) (by decide) dSF_checkRequest_54
            · skip
              refine lv_iload_n hx hb dSF_checkRequest_43 rfl (lv_at hl 2 rfl) ?_
              refine lv_bipush (v := nI 64) hx hb dSF_checkRequest_44 xk_b64 ?_
              refine lv_icmp_ge hx hb dSF_checkRequest_46 rfl (fun hh12 => ?_) (fun hh12 => ?_)
              · skip
                refine lv_iconst (v := nI 0) hx hb dSF_checkRequest_53 xk_i0 ?_
                exact xth_callS C w hz hml hl.1 hlk hout xk_SF_118 (tSF_checkArgument l htr D cA tz I ad (σ)) rfl rfl (Nat.le_of_ble_eq_true rfl) (by decide) (by decide) dSF_checkRequest_54
              · skip
                refine lv_iconst (v := nI 1) hx hb dSF_checkRequest_49 xk_i1 ?_
                refine lv_goto hx hb dSF_checkRequest_50 rfl ?_
                refine xd_callS C w hz hml hl.1 xk_SF_118 (cSF_checkArgument_ok l D cA tz I ad (σ)) rfl rfl (Nat.le_of_ble_eq_true rfl) (by decide) (by decide) dSF_checkRequest_54 (fun H locs w => ?_)
                refine W.eq (g2 := F0 m 57 ls []) rfl ?_
                refine lv_iload_n hx hb dSF_checkRequest_57 rfl (lv_at hl 3 rfl) ?_
                refine lv_iconst (v := nI 1) hx hb dSF_checkRequest_58 xk_i1 ?_
                refine lv_icmp_lt hx hb dSF_checkRequest_59 rfl (fun hh13 => ?_) (fun hh13 => ?_)
                · skip
                  refine lv_iconst (v := nI 0) hx hb dSF_checkRequest_71 xk_i0 ?_
                  exact xth_callS C w hz hml hl.1 hlk hout xk_SF_118 (tSF_checkArgument l htr D cA tz I ad (σ)) rfl rfl (Nat.le_of_ble_eq_true rfl) (by decide) (by decide) dSF_checkRequest_72
                · skip
                  refine lv_iload_n hx hb dSF_checkRequest_62 rfl (lv_at hl 3 rfl) ?_
                  refine lv_iload_n hx hb dSF_checkRequest_63 rfl (lv_at hl 0 rfl) ?_
                  refine lv_icmp_gt hx hb dSF_checkRequest_64 rfl (fun hh14 => ?_) (fun hh14 => ?_)
                  · skip
                    refine lv_iconst (v := nI 0) hx hb dSF_checkRequest_71 xk_i0 ?_
                    exact xth_callS C w hz hml hl.1 hlk hout xk_SF_118 (tSF_checkArgument l htr D cA tz I ad (σ)) rfl rfl (Nat.le_of_ble_eq_true rfl) (by decide) (by decide) dSF_checkRequest_72
                  · skip
                    refine lv_iconst (v := nI 1) hx hb dSF_checkRequest_67 xk_i1 ?_
                    refine lv_goto hx hb dSF_checkRequest_68 rfl ?_
                    refine xd_callS C w hz hml hl.1 xk_SF_118 (cSF_checkArgument_ok l D cA tz I ad (σ)) rfl rfl (Nat.le_of_ble_eq_true rfl) (by decide) (by decide) dSF_checkRequest_72 (fun H locs w => ?_)
                    refine W.eq (g2 := F0 m 75 ls []) rfl ?_
                    refine lv_iload_n hx hb dSF_checkRequest_75 rfl (lv_at hl 2 rfl) ?_
                    refine lv_bipush (v := nI 16) hx hb dSF_checkRequest_76 xk_b16 ?_
                    refine lv_idiv hx hb dSF_checkRequest_78 (by decide) ?_
                    refine lv_iload_n hx hb dSF_checkRequest_79 rfl (lv_at hl 2 rfl) ?_
                    refine lv_iload_n hx hb dSF_checkRequest_80 rfl (lv_at hl 3 rfl) ?_
                    refine lv_iadd hx hb dSF_checkRequest_81 ?_
                    refine lv_iconst (v := nI 1) hx hb dSF_checkRequest_82 xk_i1 ?_
                    refine lv_isub hx hb dSF_checkRequest_83 ?_
                    refine lv_bipush (v := nI 16) hx hb dSF_checkRequest_84 xk_b16 ?_
                    refine lv_idiv hx hb dSF_checkRequest_86 (by decide) ?_
                    refine lv_icmp_ne hx hb dSF_checkRequest_87 rfl (fun hh15 => ?_) (fun hh15 => ?_)
                    · skip
                      refine lv_iconst (v := nI 0) hx hb dSF_checkRequest_94 xk_i0 ?_
                      exact xth_callS C w hz hml hl.1 hlk hout xk_SF_118 (tSF_checkArgument l htr D cA tz I ad (σ)) rfl rfl (Nat.le_of_ble_eq_true rfl) (by decide) (by decide) dSF_checkRequest_95
                    · skip
                      refine lv_iconst (v := nI 1) hx hb dSF_checkRequest_90 xk_i1 ?_
                      refine lv_goto hx hb dSF_checkRequest_91 rfl ?_
                      refine xd_callS C w hz hml hl.1 xk_SF_118 (cSF_checkArgument_ok l D cA tz I ad (σ)) rfl rfl (Nat.le_of_ble_eq_true rfl) (by decide) (by decide) dSF_checkRequest_95 (fun H locs w => ?_)
                      refine W.eq (g2 := F0 m 98 ls []) rfl ?_
                      exact absurd (by unfold xp_sound; grind) hbd
          · skip
            refine lv_iconst (v := nI 1) hx hb dSF_checkRequest_33 xk_i1 ?_
            refine lv_goto hx hb dSF_checkRequest_34 rfl ?_
            refine lv_istore_n (lv' := [(3, .int (nI 1)), (0, .int x), (1, .int y), (2, .int z)]) hx hb dSF_checkRequest_38 rfl hl (by decide) rfl (fun ls hl => ?_)
            refine lv_iload_n hx hb dSF_checkRequest_39 rfl (lv_at hl 2 rfl) ?_
            refine lv_if_lt hx hb dSF_checkRequest_40 rfl (fun hh16 => ?_) (fun hh16 => ?_)
            · skip
              refine lv_iconst (v := nI 0) hx hb dSF_checkRequest_53 xk_i0 ?_
              exact xth_callS C w hz hml hl.1 hlk hout xk_SF_118 (tSF_checkArgument l htr D cA tz I ad (σ)) rfl rfl (Nat.le_of_ble_eq_true rfl) (by decide) (by decide) dSF_checkRequest_54
            · skip
              refine lv_iload_n hx hb dSF_checkRequest_43 rfl (lv_at hl 2 rfl) ?_
              refine lv_bipush (v := nI 64) hx hb dSF_checkRequest_44 xk_b64 ?_
              refine lv_icmp_ge hx hb dSF_checkRequest_46 rfl (fun hh17 => ?_) (fun hh17 => ?_)
              · skip
                refine lv_iconst (v := nI 0) hx hb dSF_checkRequest_53 xk_i0 ?_
                exact xth_callS C w hz hml hl.1 hlk hout xk_SF_118 (tSF_checkArgument l htr D cA tz I ad (σ)) rfl rfl (Nat.le_of_ble_eq_true rfl) (by decide) (by decide) dSF_checkRequest_54
              · skip
                refine lv_iconst (v := nI 1) hx hb dSF_checkRequest_49 xk_i1 ?_
                refine lv_goto hx hb dSF_checkRequest_50 rfl ?_
                refine xd_callS C w hz hml hl.1 xk_SF_118 (cSF_checkArgument_ok l D cA tz I ad (σ)) rfl rfl (Nat.le_of_ble_eq_true rfl) (by decide) (by decide) dSF_checkRequest_54 (fun H locs w => ?_)
                refine W.eq (g2 := F0 m 57 ls []) rfl ?_
                refine lv_iload_n hx hb dSF_checkRequest_57 rfl (lv_at hl 3 rfl) ?_
                refine lv_iconst (v := nI 1) hx hb dSF_checkRequest_58 xk_i1 ?_
                refine lv_icmp_lt hx hb dSF_checkRequest_59 rfl (fun hh18 => ?_) (fun hh18 => ?_)
                · skip
                  refine lv_iconst (v := nI 0) hx hb dSF_checkRequest_71 xk_i0 ?_
                  exact xth_callS C w hz hml hl.1 hlk hout xk_SF_118 (tSF_checkArgument l htr D cA tz I ad (σ)) rfl rfl (Nat.le_of_ble_eq_true rfl) (by decide) (by decide) dSF_checkRequest_72
                · skip
                  refine lv_iload_n hx hb dSF_checkRequest_62 rfl (lv_at hl 3 rfl) ?_
                  refine lv_iload_n hx hb dSF_checkRequest_63 rfl (lv_at hl 0 rfl) ?_
                  refine lv_icmp_gt hx hb dSF_checkRequest_64 rfl (fun hh19 => ?_) (fun hh19 => ?_)
                  · skip
                    refine lv_iconst (v := nI 0) hx hb dSF_checkRequest_71 xk_i0 ?_
                    exact xth_callS C w hz hml hl.1 hlk hout xk_SF_118 (tSF_checkArgument l htr D cA tz I ad (σ)) rfl rfl (Nat.le_of_ble_eq_true rfl) (by decide) (by decide) dSF_checkRequest_72
                  · skip
                    refine lv_iconst (v := nI 1) hx hb dSF_checkRequest_67 xk_i1 ?_
                    refine lv_goto hx hb dSF_checkRequest_68 rfl ?_
                    refine xd_callS C w hz hml hl.1 xk_SF_118 (cSF_checkArgument_ok l D cA tz I ad (σ)) rfl rfl (Nat.le_of_ble_eq_true rfl) (by decide) (by decide) dSF_checkRequest_72 (fun H locs w => ?_)
                    refine W.eq (g2 := F0 m 75 ls []) rfl ?_
                    refine lv_iload_n hx hb dSF_checkRequest_75 rfl (lv_at hl 2 rfl) ?_
                    refine lv_bipush (v := nI 16) hx hb dSF_checkRequest_76 xk_b16 ?_
                    refine lv_idiv hx hb dSF_checkRequest_78 (by decide) ?_
                    refine lv_iload_n hx hb dSF_checkRequest_79 rfl (lv_at hl 2 rfl) ?_
                    refine lv_iload_n hx hb dSF_checkRequest_80 rfl (lv_at hl 3 rfl) ?_
                    refine lv_iadd hx hb dSF_checkRequest_81 ?_
                    refine lv_iconst (v := nI 1) hx hb dSF_checkRequest_82 xk_i1 ?_
                    refine lv_isub hx hb dSF_checkRequest_83 ?_
                    refine lv_bipush (v := nI 16) hx hb dSF_checkRequest_84 xk_b16 ?_
                    refine lv_idiv hx hb dSF_checkRequest_86 (by decide) ?_
                    refine lv_icmp_ne hx hb dSF_checkRequest_87 rfl (fun hh20 => ?_) (fun hh20 => ?_)
                    · skip
                      refine lv_iconst (v := nI 0) hx hb dSF_checkRequest_94 xk_i0 ?_
                      exact xth_callS C w hz hml hl.1 hlk hout xk_SF_118 (tSF_checkArgument l htr D cA tz I ad (σ)) rfl rfl (Nat.le_of_ble_eq_true rfl) (by decide) (by decide) dSF_checkRequest_95
                    · skip
                      refine lv_iconst (v := nI 1) hx hb dSF_checkRequest_90 xk_i1 ?_
                      refine lv_goto hx hb dSF_checkRequest_91 rfl ?_
                      refine xd_callS C w hz hml hl.1 xk_SF_118 (cSF_checkArgument_ok l D cA tz I ad (σ)) rfl rfl (Nat.le_of_ble_eq_true rfl) (by decide) (by decide) dSF_checkRequest_95 (fun H locs w => ?_)
                      refine W.eq (g2 := F0 m 98 ls []) rfl ?_
                      exact absurd (by unfold xp_sound; grind) hbd
      · skip
        exact absurd (by unfold xp_sound; grind) hbd
set_option maxRecDepth 100000 in
set_option maxHeartbeats 4000000 in
theorem t2SF_issue (l : Launch) (htr : l.stackTraces = false) (D : va_G) (cA : Nat → ClassId) (tz : Nat) (I : List (Nat × Nat)) (ad : Nat → Nat → Nat) (σ : xMem) (a b : Nat) (x y z : Int32) (ha : a < 4) (hb4 : b < 4) (hbd : ¬ xp_sound x y z) : xTh l ySF_issue bSF_issue 7 none 8 [.ref (ad 5 0), .int (nI a), .int x, .int y, .int z, .int (nI b)] D cA tz I ad σ "java/lang/IllegalArgumentException" := by
  refine xth_of (by decide) (by simp [lg_sl, Value.category]) ?_
  intro p e s m args below meth c A ls C hlk hml hout hl w hz
  obtain ⟨hx, hb, hown, hts⟩ := id C
  have hl : lv_has ls 7 [(0, .ref (ad 5 0)), (1, .int (nI a)), (2, .int x), (3, .int y), (4, .int z), (5, .int (nI b))] := hl
  refine lv_iload_n hx hb dSF_issue_0 rfl (lv_at hl 1 rfl) ?_
  refine lv_iconst (v := nI 4) hx hb dSF_issue_1 xk_i4 ?_
  refine xd_callS C w hz hml hl.1 xk_SF_57 (cSF_checkIndex_ok l D cA tz I ad σ a 4 (by omega) (by decide)) rfl rfl (Nat.le_of_ble_eq_true rfl) (by decide) (by decide) dSF_issue_2 (fun H locs w => ?_)
  refine W.eq (g2 := F0 m 5 ls []) rfl ?_
  refine lv_iload hx hb dSF_issue_5 (lv_at hl 5 rfl) ?_
  refine lv_iconst (v := nI 4) hx hb dSF_issue_7 xk_i4 ?_
  refine xd_callS C w hz hml hl.1 xk_SF_57 (cSF_checkIndex_ok l D cA tz I ad σ b 4 (by omega) (by decide)) rfl rfl (Nat.le_of_ble_eq_true rfl) (by decide) (by decide) dSF_issue_8 (fun H locs w => ?_)
  refine W.eq (g2 := F0 m 11 ls []) rfl ?_
  refine lv_iload_n hx hb dSF_issue_11 rfl (lv_at hl 2 rfl) ?_
  refine lv_iload_n hx hb dSF_issue_12 rfl (lv_at hl 3 rfl) ?_
  refine lv_iload hx hb dSF_issue_13 (lv_at hl 4 rfl) ?_
  exact xth_callS C w hz hml hl.1 hlk hout xk_SF_60 (tSF_checkRequest l htr D cA tz I ad σ x y z hbd) rfl rfl (Nat.le_of_ble_eq_true rfl) (by decide) (by decide) dSF_issue_15
set_option maxRecDepth 100000 in
set_option maxHeartbeats 4000000 in
theorem t3SF_issue_bar (l : Launch) (htr : l.stackTraces = false) (D : va_G) (cA : Nat → ClassId) (tz : Nat) (I : List (Nat × Nat)) (ad : Nat → Nat → Nat) (σ : xMem) (a b : Nat) (y z : Int32) (hI : xI I) (h6 : σ 6 0 0 = nI 16) (ha : a < 4) (hb4 : b < 4) (hbd : ¬ σ 0 (4 * a + b) 3 = 0) : xTh l ySF_issue bSF_issue 7 none 7 [.ref (ad 5 0), .int (nI a), .int (nI 4), .int y, .int z, .int (nI b)] D cA tz I ad σ "java/lang/IllegalStateException" := by
  refine xth_of (by decide) (by simp [lg_sl, Value.category]) ?_
  intro p e s m args below meth c A ls C hlk hml hout hl w hz
  obtain ⟨hx, hb, hown, hts⟩ := id C
  have hl : lv_has ls 7 [(0, .ref (ad 5 0)), (1, .int (nI a)), (2, .int (nI 4)), (3, .int y), (4, .int z), (5, .int (nI b))] := hl
  refine lv_iload_n hx hb dSF_issue_0 rfl (lv_at hl 1 rfl) ?_
  refine lv_iconst (v := nI 4) hx hb dSF_issue_1 xk_i4 ?_
  refine xd_callS C w hz hml hl.1 xk_SF_57 (cSF_checkIndex_ok l D cA tz I ad σ a 4 (by omega) (by decide)) rfl rfl (Nat.le_of_ble_eq_true rfl) (by decide) (by decide) dSF_issue_2 (fun H locs w => ?_)
  refine W.eq (g2 := F0 m 5 ls []) rfl ?_
  refine lv_iload hx hb dSF_issue_5 (lv_at hl 5 rfl) ?_
  refine lv_iconst (v := nI 4) hx hb dSF_issue_7 xk_i4 ?_
  refine xd_callS C w hz hml hl.1 xk_SF_57 (cSF_checkIndex_ok l D cA tz I ad σ b 4 (by omega) (by decide)) rfl rfl (Nat.le_of_ble_eq_true rfl) (by decide) (by decide) dSF_issue_8 (fun H locs w => ?_)
  refine W.eq (g2 := F0 m 11 ls []) rfl ?_
  refine lv_iload_n hx hb dSF_issue_11 rfl (lv_at hl 2 rfl) ?_
  refine lv_iload_n hx hb dSF_issue_12 rfl (lv_at hl 3 rfl) ?_
  refine lv_iload hx hb dSF_issue_13 (lv_at hl 4 rfl) ?_
  refine xd_callS C w hz hml hl.1 xk_SF_60 (cSF_checkRequest_bar l D cA tz I ad σ y z) rfl rfl (Nat.le_of_ble_eq_true rfl) (by decide) (by decide) dSF_issue_15 (fun H locs w => ?_)
  refine W.eq (g2 := F0 m 18 ls []) rfl ?_
  refine lv_aload_n hx hb dSF_issue_18 rfl (lv_at hl 0 rfl) ?_
  refine lv_iload_n hx hb dSF_issue_19 rfl (lv_at hl 1 rfl) ?_
  refine lv_iload hx hb dSF_issue_20 (lv_at hl 5 rfl) ?_
  refine xd_callV C w hz hml hl.1 xk_SF_64 (cSF_tagOf l D cA tz I ad σ a b hI h6 (by omega)) (xI5 hI) rfl rfl rfl rfl (Nat.le_of_ble_eq_true rfl) (by decide) (by decide) dSF_issue_22 (fun H locs w => ?_)
  refine W.eq (g2 := F0 m 25 ls [.ref (ad 0 (4 * a + b))]) rfl ?_
  refine lv_astore (lv' := [(6, .ref (ad 0 (4 * a + b))), (0, .ref (ad 5 0)), (1, .int (nI a)), (2, .int (nI 4)), (3, .int y), (4, .int z), (5, .int (nI b))]) hx hb dSF_issue_25 hl (by decide) rfl (fun ls hl => ?_)
  refine lv_aload hx hb dSF_issue_27 (lv_at hl 0 rfl) ?_
  refine xg_SF_68 C w (xI0 hI (by omega)) dSF_issue_29 ?_
  refine lv_if_ne hx hb dSF_issue_32 rfl (fun hh1 => ?_) (fun hh1 => absurd hh1 hbd)
  refine lv_iconst (v := nI 0) hx hb dSF_issue_39 xk_i0 ?_
  exact xth_callS C w hz hml hl.1 hlk hout xk_SF_71 (tSF_checkState l htr D cA tz I ad (σ)) rfl rfl (Nat.le_of_ble_eq_true rfl) (by decide) (by decide) dSF_issue_40
set_option maxRecDepth 100000 in
set_option maxHeartbeats 4000000 in
theorem t3SF_issue (l : Launch) (htr : l.stackTraces = false) (D : va_G) (cA : Nat → ClassId) (tz : Nat) (I : List (Nat × Nat)) (ad : Nat → Nat → Nat) (σ : xMem) (a b k q n : Nat) (hI : xI I) (h6 : σ 6 0 0 = nI 16) (h7 : σ 7 0 0 = nI 3) (ha : a < 4) (hb4 : b < 4) (hk4 : k < 4) (h64 : q < 64) (h1n : 1 ≤ n) (hn4 : n ≤ 4) (hn1 : k = 2 ∨ k = 3 → n ≤ 1) (hdv : q / 16 = (q + n - 1) / 16) (hbd : ¬ (σ 0 (4 * a + b) 3 = 0 ∧ (k = 2 → ¬ xp_some σ (nI a) ∧ ¬ xp_wait σ a (nI 2)) ∧ (k = 3 → (q < 48 ∧ σ 2 (q / 16) 3 = nI a) ∧ ¬ xp_wait σ a (nI 3)))) : xTh l ySF_issue bSF_issue 7 none 7 [.ref (ad 5 0), .int (nI a), .int (nI k), .int (nI q), .int (nI n), .int (nI b)] D cA tz I ad σ "java/lang/IllegalStateException" := by
  refine xth_of (by decide) (by simp [lg_sl, Value.category]) ?_
  intro p e s m args below meth c A ls C hlk hml hout hl w hz
  obtain ⟨hx, hb, hown, hts⟩ := id C
  have hl : lv_has ls 7 [(0, .ref (ad 5 0)), (1, .int (nI a)), (2, .int (nI k)), (3, .int (nI q)), (4, .int (nI n)), (5, .int (nI b))] := hl
  refine lv_iload_n hx hb dSF_issue_0 rfl (lv_at hl 1 rfl) ?_
  refine lv_iconst (v := nI 4) hx hb dSF_issue_1 xk_i4 ?_
  refine xd_callS C w hz hml hl.1 xk_SF_57 (cSF_checkIndex_ok l D cA tz I ad σ a 4 (by omega) (by decide)) rfl rfl (Nat.le_of_ble_eq_true rfl) (by decide) (by decide) dSF_issue_2 (fun H locs w => ?_)
  refine W.eq (g2 := F0 m 5 ls []) rfl ?_
  refine lv_iload hx hb dSF_issue_5 (lv_at hl 5 rfl) ?_
  refine lv_iconst (v := nI 4) hx hb dSF_issue_7 xk_i4 ?_
  refine xd_callS C w hz hml hl.1 xk_SF_57 (cSF_checkIndex_ok l D cA tz I ad σ b 4 (by omega) (by decide)) rfl rfl (Nat.le_of_ble_eq_true rfl) (by decide) (by decide) dSF_issue_8 (fun H locs w => ?_)
  refine W.eq (g2 := F0 m 11 ls []) rfl ?_
  refine lv_iload_n hx hb dSF_issue_11 rfl (lv_at hl 2 rfl) ?_
  refine lv_iload_n hx hb dSF_issue_12 rfl (lv_at hl 3 rfl) ?_
  refine lv_iload hx hb dSF_issue_13 (lv_at hl 4 rfl) ?_
  refine xd_callS C w hz hml hl.1 xk_SF_60 (cSF_checkRequest_ok l D cA tz I ad σ k q n hk4 h64 h1n hn4 hn1 hdv) rfl rfl (Nat.le_of_ble_eq_true rfl) (by decide) (by decide) dSF_issue_15 (fun H locs w => ?_)
  refine W.eq (g2 := F0 m 18 ls []) rfl ?_
  refine lv_aload_n hx hb dSF_issue_18 rfl (lv_at hl 0 rfl) ?_
  refine lv_iload_n hx hb dSF_issue_19 rfl (lv_at hl 1 rfl) ?_
  refine lv_iload hx hb dSF_issue_20 (lv_at hl 5 rfl) ?_
  refine xd_callV C w hz hml hl.1 xk_SF_64 (cSF_tagOf l D cA tz I ad σ a b hI h6 (by omega)) (xI5 hI) rfl rfl rfl rfl (Nat.le_of_ble_eq_true rfl) (by decide) (by decide) dSF_issue_22 (fun H locs w => ?_)
  refine W.eq (g2 := F0 m 25 ls [.ref (ad 0 (4 * a + b))]) rfl ?_
  refine lv_astore (lv' := [(6, .ref (ad 0 (4 * a + b))), (0, .ref (ad 5 0)), (1, .int (nI a)), (2, .int (nI k)), (3, .int (nI q)), (4, .int (nI n)), (5, .int (nI b))]) hx hb dSF_issue_25 hl (by decide) rfl (fun ls hl => ?_)
  refine lv_aload hx hb dSF_issue_27 (lv_at hl 0 rfl) ?_
  refine xg_SF_68 C w (xI0 hI (by omega)) dSF_issue_29 ?_
  refine lv_if_ne hx hb dSF_issue_32 rfl (fun hh1 => ?_) (fun hh1 => ?_)
  · skip
    refine lv_iconst (v := nI 0) hx hb dSF_issue_39 xk_i0 ?_
    exact xth_callS C w hz hml hl.1 hlk hout xk_SF_71 (tSF_checkState l htr D cA tz I ad (σ)) rfl rfl (Nat.le_of_ble_eq_true rfl) (by decide) (by decide) dSF_issue_40
  · skip
    refine lv_iconst (v := nI 1) hx hb dSF_issue_35 xk_i1 ?_
    refine lv_goto hx hb dSF_issue_36 rfl ?_
    refine xd_callS C w hz hml hl.1 xk_SF_71 (cSF_checkState_ok l D cA tz I ad (σ)) rfl rfl (Nat.le_of_ble_eq_true rfl) (by decide) (by decide) dSF_issue_40 (fun H locs w => ?_)
    refine W.eq (g2 := F0 m 43 ls []) rfl ?_
    refine lv_iload_n hx hb dSF_issue_43 rfl (lv_at hl 3 rfl) ?_
    refine lv_iconst (v := nI 2) hx hb dSF_issue_44 xk_i2 ?_
    refine lv_icmp_ne hx hb dSF_issue_45 rfl (fun hh2 => ?_) (fun hh2 => ?_)
    · skip
      refine lv_iload_n hx hb dSF_issue_73 rfl (lv_at hl 3 rfl) ?_
      refine lv_iconst (v := nI 3) hx hb dSF_issue_74 xk_i3 ?_
      refine lv_icmp_ne hx hb dSF_issue_75 rfl (fun hh3 => ?_) (fun hh3 => ?_)
      · skip
        exact absurd (by have q2 := nI_eq (a := k) (b := 2) (by omega) (by decide); have q3 := nI_eq (a := k) (b := 3) (by omega) (by decide); grind) hbd
      · skip
        refine lv_aload_n hx hb dSF_issue_78 rfl (lv_at hl 1 rfl) ?_
        refine lv_iload_n hx hb dSF_issue_79 rfl (lv_at hl 2 rfl) ?_
        refine lv_iload_n hx hb dSF_issue_80 rfl (lv_at hl 4 rfl) ?_
        refine xd_callV C w hz hml hl.1 xk_SF_83 (cSF_holdsTargetOf l D cA tz I ad σ (nI a) q hI h7 h64) (xI5 hI) rfl rfl rfl rfl (Nat.le_of_ble_eq_true rfl) (by decide) (by decide) dSF_issue_81 (fun H locs w => ?_)
        refine W.eq (g2 := F0 m 84 ls [.int (xb (q < 48 ∧ σ 2 (q / 16) 3 = nI a))]) rfl ?_
        refine xz_ifeq hx hb dSF_issue_84 rfl (fun hh4 => ?_) (fun hh4 => ?_)
        · skip
          refine lv_iconst (v := nI 0) hx hb dSF_issue_100 xk_i0 ?_
          exact xth_callS C w hz hml hl.1 hlk hout xk_SF_71 (tSF_checkState l htr D cA tz I ad (σ)) rfl rfl (Nat.le_of_ble_eq_true rfl) (by decide) (by decide) dSF_issue_101
        · skip
          refine lv_aload_n hx hb dSF_issue_87 rfl (lv_at hl 1 rfl) ?_
          refine lv_iload_n hx hb dSF_issue_88 rfl (lv_at hl 2 rfl) ?_
          refine lv_iconst (v := nI 3) hx hb dSF_issue_89 xk_i3 ?_
          refine xd_callV C w hz hml hl.1 xk_SF_79 (cSF_hasWaiting l D cA tz I ad σ a (nI 3) hI h6 ha) (xI5 hI) rfl rfl rfl rfl (Nat.le_of_ble_eq_true rfl) (by decide) (by decide) dSF_issue_90 (fun H locs w => ?_)
          refine W.eq (g2 := F0 m 93 ls [.int (xb (xp_wait σ a (nI 3)))]) rfl ?_
          refine xz_ifne hx hb dSF_issue_93 rfl (fun hh5 => ?_) (fun hh5 => ?_)
          · skip
            refine lv_iconst (v := nI 0) hx hb dSF_issue_100 xk_i0 ?_
            exact xth_callS C w hz hml hl.1 hlk hout xk_SF_71 (tSF_checkState l htr D cA tz I ad (σ)) rfl rfl (Nat.le_of_ble_eq_true rfl) (by decide) (by decide) dSF_issue_101
          · skip
            refine lv_iconst (v := nI 1) hx hb dSF_issue_96 xk_i1 ?_
            refine lv_goto hx hb dSF_issue_97 rfl ?_
            refine xd_callS C w hz hml hl.1 xk_SF_71 (cSF_checkState_ok l D cA tz I ad (σ)) rfl rfl (Nat.le_of_ble_eq_true rfl) (by decide) (by decide) dSF_issue_101 (fun H locs w => ?_)
            refine W.eq (g2 := F0 m 104 ls []) rfl ?_
            exact absurd (by have q2 := nI_eq (a := k) (b := 2) (by omega) (by decide); have q3 := nI_eq (a := k) (b := 3) (by omega) (by decide); grind) hbd
    · skip
      refine lv_aload_n hx hb dSF_issue_48 rfl (lv_at hl 1 rfl) ?_
      refine lv_iload_n hx hb dSF_issue_49 rfl (lv_at hl 2 rfl) ?_
      refine xd_callV C w hz hml hl.1 xk_SF_75 (cSF_holdsSome l D cA tz I ad σ (nI a) hI h7) (xI5 hI) rfl rfl rfl rfl (Nat.le_of_ble_eq_true rfl) (by decide) (by decide) dSF_issue_50 (fun H locs w => ?_)
      refine W.eq (g2 := F0 m 53 ls [.int (xb (xp_some σ (nI a)))]) rfl ?_
      refine xz_ifne hx hb dSF_issue_53 rfl (fun hh6 => ?_) (fun hh6 => ?_)
      · skip
        refine lv_iconst (v := nI 0) hx hb dSF_issue_69 xk_i0 ?_
        exact xth_callS C w hz hml hl.1 hlk hout xk_SF_71 (tSF_checkState l htr D cA tz I ad (σ)) rfl rfl (Nat.le_of_ble_eq_true rfl) (by decide) (by decide) dSF_issue_70
      · skip
        refine lv_aload_n hx hb dSF_issue_56 rfl (lv_at hl 1 rfl) ?_
        refine lv_iload_n hx hb dSF_issue_57 rfl (lv_at hl 2 rfl) ?_
        refine lv_iconst (v := nI 2) hx hb dSF_issue_58 xk_i2 ?_
        refine xd_callV C w hz hml hl.1 xk_SF_79 (cSF_hasWaiting l D cA tz I ad σ a (nI 2) hI h6 ha) (xI5 hI) rfl rfl rfl rfl (Nat.le_of_ble_eq_true rfl) (by decide) (by decide) dSF_issue_59 (fun H locs w => ?_)
        refine W.eq (g2 := F0 m 62 ls [.int (xb (xp_wait σ a (nI 2)))]) rfl ?_
        refine xz_ifne hx hb dSF_issue_62 rfl (fun hh7 => ?_) (fun hh7 => ?_)
        · skip
          refine lv_iconst (v := nI 0) hx hb dSF_issue_69 xk_i0 ?_
          exact xth_callS C w hz hml hl.1 hlk hout xk_SF_71 (tSF_checkState l htr D cA tz I ad (σ)) rfl rfl (Nat.le_of_ble_eq_true rfl) (by decide) (by decide) dSF_issue_70
        · skip
          refine lv_iconst (v := nI 1) hx hb dSF_issue_65 xk_i1 ?_
          refine lv_goto hx hb dSF_issue_66 rfl ?_
          refine xd_callS C w hz hml hl.1 xk_SF_71 (cSF_checkState_ok l D cA tz I ad (σ)) rfl rfl (Nat.le_of_ble_eq_true rfl) (by decide) (by decide) dSF_issue_70 (fun H locs w => ?_)
          refine W.eq (g2 := F0 m 73 ls []) rfl ?_
          refine lv_iload_n hx hb dSF_issue_73 rfl (lv_at hl 3 rfl) ?_
          refine lv_iconst (v := nI 3) hx hb dSF_issue_74 xk_i3 ?_
          refine lv_icmp_ne hx hb dSF_issue_75 rfl (fun hh8 => ?_) (fun hh8 => ?_)
          · skip
            exact absurd (by have q2 := nI_eq (a := k) (b := 2) (by omega) (by decide); have q3 := nI_eq (a := k) (b := 3) (by omega) (by decide); grind) hbd
          · skip
            refine lv_aload_n hx hb dSF_issue_78 rfl (lv_at hl 1 rfl) ?_
            refine lv_iload_n hx hb dSF_issue_79 rfl (lv_at hl 2 rfl) ?_
            refine lv_iload_n hx hb dSF_issue_80 rfl (lv_at hl 4 rfl) ?_
            refine xd_callV C w hz hml hl.1 xk_SF_83 (cSF_holdsTargetOf l D cA tz I ad σ (nI a) q hI h7 h64) (xI5 hI) rfl rfl rfl rfl (Nat.le_of_ble_eq_true rfl) (by decide) (by decide) dSF_issue_81 (fun H locs w => ?_)
            refine W.eq (g2 := F0 m 84 ls [.int (xb (q < 48 ∧ σ 2 (q / 16) 3 = nI a))]) rfl ?_
            refine xz_ifeq hx hb dSF_issue_84 rfl (fun hh9 => ?_) (fun hh9 => ?_)
            · skip
              refine lv_iconst (v := nI 0) hx hb dSF_issue_100 xk_i0 ?_
              exact xth_callS C w hz hml hl.1 hlk hout xk_SF_71 (tSF_checkState l htr D cA tz I ad (σ)) rfl rfl (Nat.le_of_ble_eq_true rfl) (by decide) (by decide) dSF_issue_101
            · skip
              refine lv_aload_n hx hb dSF_issue_87 rfl (lv_at hl 1 rfl) ?_
              refine lv_iload_n hx hb dSF_issue_88 rfl (lv_at hl 2 rfl) ?_
              refine lv_iconst (v := nI 3) hx hb dSF_issue_89 xk_i3 ?_
              refine xd_callV C w hz hml hl.1 xk_SF_79 (cSF_hasWaiting l D cA tz I ad σ a (nI 3) hI h6 ha) (xI5 hI) rfl rfl rfl rfl (Nat.le_of_ble_eq_true rfl) (by decide) (by decide) dSF_issue_90 (fun H locs w => ?_)
              refine W.eq (g2 := F0 m 93 ls [.int (xb (xp_wait σ a (nI 3)))]) rfl ?_
              refine xz_ifne hx hb dSF_issue_93 rfl (fun hh10 => ?_) (fun hh10 => ?_)
              · skip
                refine lv_iconst (v := nI 0) hx hb dSF_issue_100 xk_i0 ?_
                exact xth_callS C w hz hml hl.1 hlk hout xk_SF_71 (tSF_checkState l htr D cA tz I ad (σ)) rfl rfl (Nat.le_of_ble_eq_true rfl) (by decide) (by decide) dSF_issue_101
              · skip
                refine lv_iconst (v := nI 1) hx hb dSF_issue_96 xk_i1 ?_
                refine lv_goto hx hb dSF_issue_97 rfl ?_
                refine xd_callS C w hz hml hl.1 xk_SF_71 (cSF_checkState_ok l D cA tz I ad (σ)) rfl rfl (Nat.le_of_ble_eq_true rfl) (by decide) (by decide) dSF_issue_101 (fun H locs w => ?_)
                refine W.eq (g2 := F0 m 104 ls []) rfl ?_
                exact absurd (by have q2 := nI_eq (a := k) (b := 2) (by omega) (by decide); have q3 := nI_eq (a := k) (b := 3) (by omega) (by decide); grind) hbd
set_option maxRecDepth 100000 in
set_option maxHeartbeats 4000000 in
theorem t2SF_word (l : Launch) (htr : l.stackTraces = false) (D : va_G) (cA : Nat → ClassId) (tz : Nat) (I : List (Nat × Nat)) (ad : Nat → Nat → Nat) (σ : xMem) (a b i : Nat) (hI : xI I) (h6 : σ 6 0 0 = nI 16) (ha : a < 4) (hb4 : b < 4) (hi4 : i < 4) (hbd : ¬ (σ 0 (4 * a + b) 3 = nI 3 ∧ xp_read σ (4 * a + b) ∧ nI i < σ 0 (4 * a + b) 6)) : xTh l ySF_word bSF_word 5 (some .int) 7 [.ref (ad 5 0), .int (nI a), .int (nI b), .int (nI i)] D cA tz I ad σ "java/lang/IllegalStateException" := by
  refine xth_of (by decide) (by simp [lg_sl, Value.category]) ?_
  intro p e s m args below meth c A ls C hlk hml hout hl w hz
  obtain ⟨hx, hb, hown, hts⟩ := id C
  have hl : lv_has ls 5 [(0, .ref (ad 5 0)), (1, .int (nI a)), (2, .int (nI b)), (3, .int (nI i))] := hl
  refine lv_iload_n hx hb dSF_word_0 rfl (lv_at hl 1 rfl) ?_
  refine lv_iconst (v := nI 4) hx hb dSF_word_1 xk_i4 ?_
  refine xd_callS C w hz hml hl.1 xk_SF_57 (cSF_checkIndex_ok l D cA tz I ad σ a 4 (by omega) (by decide)) rfl rfl (Nat.le_of_ble_eq_true rfl) (by decide) (by decide) dSF_word_2 (fun H locs w => ?_)
  refine W.eq (g2 := F0 m 5 ls []) rfl ?_
  refine lv_iload_n hx hb dSF_word_5 rfl (lv_at hl 2 rfl) ?_
  refine lv_iconst (v := nI 4) hx hb dSF_word_6 xk_i4 ?_
  refine xd_callS C w hz hml hl.1 xk_SF_57 (cSF_checkIndex_ok l D cA tz I ad σ b 4 (by omega) (by decide)) rfl rfl (Nat.le_of_ble_eq_true rfl) (by decide) (by decide) dSF_word_7 (fun H locs w => ?_)
  refine W.eq (g2 := F0 m 10 ls []) rfl ?_
  refine lv_iload_n hx hb dSF_word_10 rfl (lv_at hl 3 rfl) ?_
  refine lv_iconst (v := nI 4) hx hb dSF_word_11 xk_i4 ?_
  refine xd_callS C w hz hml hl.1 xk_SF_57 (cSF_checkIndex_ok l D cA tz I ad σ i 4 (by omega) (by decide)) rfl rfl (Nat.le_of_ble_eq_true rfl) (by decide) (by decide) dSF_word_12 (fun H locs w => ?_)
  refine W.eq (g2 := F0 m 15 ls []) rfl ?_
  refine lv_aload_n hx hb dSF_word_15 rfl (lv_at hl 0 rfl) ?_
  refine lv_iload_n hx hb dSF_word_16 rfl (lv_at hl 1 rfl) ?_
  refine lv_iload_n hx hb dSF_word_17 rfl (lv_at hl 2 rfl) ?_
  refine xd_callV C w hz hml hl.1 xk_SF_64 (cSF_tagOf l D cA tz I ad σ a b hI h6 (by omega)) (xI5 hI) rfl rfl rfl rfl (Nat.le_of_ble_eq_true rfl) (by decide) (by decide) dSF_word_18 (fun H locs w => ?_)
  refine W.eq (g2 := F0 m 21 ls [.ref (ad 0 (4 * a + b))]) rfl ?_
  refine lv_astore (lv' := [(4, .ref (ad 0 (4 * a + b))), (0, .ref (ad 5 0)), (1, .int (nI a)), (2, .int (nI b)), (3, .int (nI i))]) hx hb dSF_word_21 hl (by decide) rfl (fun ls hl => ?_)
  refine lv_aload hx hb dSF_word_23 (lv_at hl 0 rfl) ?_
  refine xg_SF_68 C w (xI0 hI (by omega)) dSF_word_25 ?_
  refine lv_iconst (v := nI 3) hx hb dSF_word_28 xk_i3 ?_
  refine lv_icmp_ne hx hb dSF_word_29 rfl (fun hh1 => ?_) (fun hh1 => ?_)
  · skip
    refine lv_iconst (v := nI 0) hx hb dSF_word_53 xk_i0 ?_
    exact xth_callS C w hz hml hl.1 hlk hout xk_SF_71 (tSF_checkState l htr D cA tz I ad (σ)) rfl rfl (Nat.le_of_ble_eq_true rfl) (by decide) (by decide) dSF_word_54
  · skip
    refine lv_aload hx hb dSF_word_32 (lv_at hl 0 rfl) ?_
    refine xd_callV C w hz hml hl.1 xk_SF_125 (cTG_isReading l D cA tz I ad σ (4 * a + b) hI (by omega)) (xI0 hI (by omega)) rfl rfl rfl rfl (Nat.le_of_ble_eq_true rfl) (by decide) (by decide) dSF_word_34 (fun H locs w => ?_)
    refine W.eq (g2 := F0 m 37 ls [.int (xb (xp_read σ (4 * a + b)))]) rfl ?_
    refine xz_ifeq hx hb dSF_word_37 rfl (fun hh2 => ?_) (fun hh2 => ?_)
    · skip
      refine lv_iconst (v := nI 0) hx hb dSF_word_53 xk_i0 ?_
      exact xth_callS C w hz hml hl.1 hlk hout xk_SF_71 (tSF_checkState l htr D cA tz I ad (σ)) rfl rfl (Nat.le_of_ble_eq_true rfl) (by decide) (by decide) dSF_word_54
    · skip
      refine lv_iload_n hx hb dSF_word_40 rfl (lv_at hl 4 rfl) ?_
      refine lv_aload hx hb dSF_word_41 (lv_at hl 0 rfl) ?_
      refine xg_SF_129 C w (xI0 hI (by omega)) dSF_word_43 ?_
      refine lv_icmp_ge hx hb dSF_word_46 rfl (fun hh3 => ?_) (fun hh3 => ?_)
      · skip
        refine lv_iconst (v := nI 0) hx hb dSF_word_53 xk_i0 ?_
        exact xth_callS C w hz hml hl.1 hlk hout xk_SF_71 (tSF_checkState l htr D cA tz I ad (σ)) rfl rfl (Nat.le_of_ble_eq_true rfl) (by decide) (by decide) dSF_word_54
      · skip
        refine lv_iconst (v := nI 1) hx hb dSF_word_49 xk_i1 ?_
        refine lv_goto hx hb dSF_word_50 rfl ?_
        refine xd_callS C w hz hml hl.1 xk_SF_71 (cSF_checkState_ok l D cA tz I ad (σ)) rfl rfl (Nat.le_of_ble_eq_true rfl) (by decide) (by decide) dSF_word_54 (fun H locs w => ?_)
        refine W.eq (g2 := F0 m 57 ls []) rfl ?_
        exact absurd (by have q := @Int32.not_le; grind) hbd
set_option maxRecDepth 100000 in
set_option maxHeartbeats 4000000 in
theorem t2SF_take (l : Launch) (htr : l.stackTraces = false) (D : va_G) (cA : Nat → ClassId) (tz : Nat) (I : List (Nat × Nat)) (ad : Nat → Nat → Nat) (σ : xMem) (a b : Nat) (hI : xI I) (h6 : σ 6 0 0 = nI 16) (ha : a < 4) (hb4 : b < 4) (hbd : ¬ (σ 0 (4 * a + b) 3 = nI 3 ∨ σ 0 (4 * a + b) 3 = nI 4)) : xTh l ySF_take bSF_take 5 (some .boolean) 7 [.ref (ad 5 0), .int (nI a), .int (nI b)] D cA tz I ad σ "java/lang/IllegalStateException" := by
  refine xth_of (by decide) (by simp [lg_sl, Value.category]) ?_
  intro p e s m args below meth c A ls C hlk hml hout hl w hz
  obtain ⟨hx, hb, hown, hts⟩ := id C
  have hl : lv_has ls 5 [(0, .ref (ad 5 0)), (1, .int (nI a)), (2, .int (nI b))] := hl
  refine lv_iload_n hx hb dSF_take_0 rfl (lv_at hl 1 rfl) ?_
  refine lv_iconst (v := nI 4) hx hb dSF_take_1 xk_i4 ?_
  refine xd_callS C w hz hml hl.1 xk_SF_57 (cSF_checkIndex_ok l D cA tz I ad σ a 4 (by omega) (by decide)) rfl rfl (Nat.le_of_ble_eq_true rfl) (by decide) (by decide) dSF_take_2 (fun H locs w => ?_)
  refine W.eq (g2 := F0 m 5 ls []) rfl ?_
  refine lv_iload_n hx hb dSF_take_5 rfl (lv_at hl 2 rfl) ?_
  refine lv_iconst (v := nI 4) hx hb dSF_take_6 xk_i4 ?_
  refine xd_callS C w hz hml hl.1 xk_SF_57 (cSF_checkIndex_ok l D cA tz I ad σ b 4 (by omega) (by decide)) rfl rfl (Nat.le_of_ble_eq_true rfl) (by decide) (by decide) dSF_take_7 (fun H locs w => ?_)
  refine W.eq (g2 := F0 m 10 ls []) rfl ?_
  refine lv_aload_n hx hb dSF_take_10 rfl (lv_at hl 0 rfl) ?_
  refine lv_iload_n hx hb dSF_take_11 rfl (lv_at hl 1 rfl) ?_
  refine lv_iload_n hx hb dSF_take_12 rfl (lv_at hl 2 rfl) ?_
  refine xd_callV C w hz hml hl.1 xk_SF_64 (cSF_tagOf l D cA tz I ad σ a b hI h6 (by omega)) (xI5 hI) rfl rfl rfl rfl (Nat.le_of_ble_eq_true rfl) (by decide) (by decide) dSF_take_13 (fun H locs w => ?_)
  refine W.eq (g2 := F0 m 16 ls [.ref (ad 0 (4 * a + b))]) rfl ?_
  refine lv_astore_n (lv' := [(3, .ref (ad 0 (4 * a + b))), (0, .ref (ad 5 0)), (1, .int (nI a)), (2, .int (nI b))]) hx hb dSF_take_16 rfl hl (by decide) rfl (fun ls hl => ?_)
  refine lv_aload_n hx hb dSF_take_17 rfl (lv_at hl 0 rfl) ?_
  refine xg_SF_68 C w (xI0 hI (by omega)) dSF_take_18 ?_
  refine lv_iconst (v := nI 3) hx hb dSF_take_21 xk_i3 ?_
  refine lv_icmp_eq hx hb dSF_take_22 rfl (fun hh1 => ?_) (fun hh1 => ?_)
  · skip
    refine lv_iconst (v := nI 1) hx hb dSF_take_33 xk_i1 ?_
    refine lv_goto hx hb dSF_take_34 rfl ?_
    refine xd_callS C w hz hml hl.1 xk_SF_71 (cSF_checkState_ok l D cA tz I ad (σ)) rfl rfl (Nat.le_of_ble_eq_true rfl) (by decide) (by decide) dSF_take_38 (fun H locs w => ?_)
    refine W.eq (g2 := F0 m 41 ls []) rfl ?_
    exact absurd (by grind) hbd
  · skip
    refine lv_aload_n hx hb dSF_take_25 rfl (lv_at hl 0 rfl) ?_
    refine xg_SF_68 C w (xI0 hI (by omega)) dSF_take_26 ?_
    refine lv_iconst (v := nI 4) hx hb dSF_take_29 xk_i4 ?_
    refine lv_icmp_ne hx hb dSF_take_30 rfl (fun hh2 => ?_) (fun hh2 => ?_)
    · skip
      refine lv_iconst (v := nI 0) hx hb dSF_take_37 xk_i0 ?_
      exact xth_callS C w hz hml hl.1 hlk hout xk_SF_71 (tSF_checkState l htr D cA tz I ad (σ)) rfl rfl (Nat.le_of_ble_eq_true rfl) (by decide) (by decide) dSF_take_38
    · skip
      refine lv_iconst (v := nI 1) hx hb dSF_take_33 xk_i1 ?_
      refine lv_goto hx hb dSF_take_34 rfl ?_
      refine xd_callS C w hz hml hl.1 xk_SF_71 (cSF_checkState_ok l D cA tz I ad (σ)) rfl rfl (Nat.le_of_ble_eq_true rfl) (by decide) (by decide) dSF_take_38 (fun H locs w => ?_)
      refine W.eq (g2 := F0 m 41 ls []) rfl ?_
      exact absurd (by grind) hbd
set_option maxRecDepth 100000 in
set_option maxHeartbeats 4000000 in
theorem t2SF_base (l : Launch) (htr : l.stackTraces = false) (D : va_G) (cA : Nat → ClassId) (tz : Nat) (I : List (Nat × Nat)) (ad : Nat → Nat → Nat) (σ : xMem) (a : Nat) (y : Int32) (ha : a < 4) (hbd : ¬ (¬ y < 0 ∧ ¬ nI 2 < y)) : xTh l ySF_base bSF_base 3 none 7 [.ref (ad 5 0), .int (nI a), .int y] D cA tz I ad σ "java/lang/IllegalArgumentException" := by
  refine xth_of (by decide) (by simp [lg_sl, Value.category]) ?_
  intro p e s m args below meth c A ls C hlk hml hout hl w hz
  obtain ⟨hx, hb, hown, hts⟩ := id C
  have hl : lv_has ls 3 [(0, .ref (ad 5 0)), (1, .int (nI a)), (2, .int y)] := hl
  refine lv_iload_n hx hb dSF_base_0 rfl (lv_at hl 1 rfl) ?_
  refine lv_iconst (v := nI 4) hx hb dSF_base_1 xk_i4 ?_
  refine xd_callS C w hz hml hl.1 xk_SF_57 (cSF_checkIndex_ok l D cA tz I ad σ a 4 (by omega) (by decide)) rfl rfl (Nat.le_of_ble_eq_true rfl) (by decide) (by decide) dSF_base_2 (fun H locs w => ?_)
  refine W.eq (g2 := F0 m 5 ls []) rfl ?_
  refine lv_iload_n hx hb dSF_base_5 rfl (lv_at hl 2 rfl) ?_
  refine lv_if_lt hx hb dSF_base_6 rfl (fun hh1 => ?_) (fun hh1 => ?_)
  · skip
    refine lv_iconst (v := nI 0) hx hb dSF_base_18 xk_i0 ?_
    exact xth_callS C w hz hml hl.1 hlk hout xk_SF_118 (tSF_checkArgument l htr D cA tz I ad (σ)) rfl rfl (Nat.le_of_ble_eq_true rfl) (by decide) (by decide) dSF_base_19
  · skip
    refine lv_iload_n hx hb dSF_base_9 rfl (lv_at hl 2 rfl) ?_
    refine lv_iconst (v := nI 2) hx hb dSF_base_10 xk_i2 ?_
    refine lv_icmp_gt hx hb dSF_base_11 rfl (fun hh2 => ?_) (fun hh2 => ?_)
    · skip
      refine lv_iconst (v := nI 0) hx hb dSF_base_18 xk_i0 ?_
      exact xth_callS C w hz hml hl.1 hlk hout xk_SF_118 (tSF_checkArgument l htr D cA tz I ad (σ)) rfl rfl (Nat.le_of_ble_eq_true rfl) (by decide) (by decide) dSF_base_19
    · skip
      refine lv_iconst (v := nI 1) hx hb dSF_base_14 xk_i1 ?_
      refine lv_goto hx hb dSF_base_15 rfl ?_
      refine xd_callS C w hz hml hl.1 xk_SF_118 (cSF_checkArgument_ok l D cA tz I ad (σ)) rfl rfl (Nat.le_of_ble_eq_true rfl) (by decide) (by decide) dSF_base_19 (fun H locs w => ?_)
      refine W.eq (g2 := F0 m 22 ls []) rfl ?_
      exact absurd (by grind) hbd
set_option maxRecDepth 100000 in
set_option maxHeartbeats 4000000 in
theorem t1SF_cycles (l : Launch) (htr : l.stackTraces = false) (D : va_G) (cA : Nat → ClassId) (tz : Nat) (I : List (Nat × Nat)) (ad : Nat → Nat → Nat) (σ : xMem) (x : Int32) (hbd : ¬ (¬ x < nI 1 ∧ ¬ nI 100 < x)) : xTh l ySF_cycles bSF_cycles 4 (some .int) 7 [.ref (ad 5 0), .int x] D cA tz I ad σ "java/lang/IllegalArgumentException" := by
  refine xth_of (by decide) (by simp [lg_sl, Value.category]) ?_
  intro p e s m args below meth c A ls C hlk hml hout hl w hz
  obtain ⟨hx, hb, hown, hts⟩ := id C
  have hl : lv_has ls 4 [(0, .ref (ad 5 0)), (1, .int x)] := hl
  refine lv_iload_n hx hb dSF_cycles_0 rfl (lv_at hl 1 rfl) ?_
  refine lv_iconst (v := nI 1) hx hb dSF_cycles_1 xk_i1 ?_
  refine lv_icmp_lt hx hb dSF_cycles_2 rfl (fun hh1 => ?_) (fun hh1 => ?_)
  · skip
    refine lv_iconst (v := nI 0) hx hb dSF_cycles_15 xk_i0 ?_
    exact xth_callS C w hz hml hl.1 hlk hout xk_SF_118 (tSF_checkArgument l htr D cA tz I ad (σ)) rfl rfl (Nat.le_of_ble_eq_true rfl) (by decide) (by decide) dSF_cycles_16
  · skip
    refine lv_iload_n hx hb dSF_cycles_5 rfl (lv_at hl 1 rfl) ?_
    refine lv_bipush (v := nI 100) hx hb dSF_cycles_6 xk_b100 ?_
    refine lv_icmp_gt hx hb dSF_cycles_8 rfl (fun hh2 => ?_) (fun hh2 => ?_)
    · skip
      refine lv_iconst (v := nI 0) hx hb dSF_cycles_15 xk_i0 ?_
      exact xth_callS C w hz hml hl.1 hlk hout xk_SF_118 (tSF_checkArgument l htr D cA tz I ad (σ)) rfl rfl (Nat.le_of_ble_eq_true rfl) (by decide) (by decide) dSF_cycles_16
    · skip
      refine lv_iconst (v := nI 1) hx hb dSF_cycles_11 xk_i1 ?_
      refine lv_goto hx hb dSF_cycles_12 rfl ?_
      refine xd_callS C w hz hml hl.1 xk_SF_118 (cSF_checkArgument_ok l D cA tz I ad (σ)) rfl rfl (Nat.le_of_ble_eq_true rfl) (by decide) (by decide) dSF_cycles_16 (fun H locs w => ?_)
      refine W.eq (g2 := F0 m 19 ls []) rfl ?_
      exact absurd (by grind) hbd
end
section
/-! issue, where it does not throw. -/
def xf_begin (σ : xMem) (k : Nat) (a1 a2 a3 a4 : Int32) : xMem := xu3 (xu3 (xu3 (xu3 (xu3 (xu3 (xu3 (xu3 σ 0 k 3 (nI 1)) 0 k 4 a1) 0 k 5 a2) 0 k 6 a3) 0 k 7 a4) 0 k 8 (nI 0)) 0 k 9 (nI 0)) 0 k 10 (nI 0)
def xf_issue (σ : xMem) (a b k q n : Nat) : xMem := xu3 (xw_u2 (xf_begin σ (4 * a + b) (nI k) (nI q) (nI n) (σ 5 0 7)) 1 (4 * a + b) (va_cpy ((xf_begin σ (4 * a + b) (nI k) (nI q) (nI n) (σ 5 0 7)) 4 a) ((xf_begin σ (4 * a + b) (nI k) (nI q) (nI n) (σ 5 0 7)) 1 (4 * a + b)) 0 0 n)) 5 0 7 (σ 5 0 7 + nI 1)
set_option maxRecDepth 100000 in
set_option maxHeartbeats 4000000 in
theorem cSF_issue_bar (l : Launch) (D : va_G) (cA : Nat → ClassId) (tz : Nat) (I : List (Nat × Nat)) (ad : Nat → Nat → Nat) (σ : xMem) (a b : Nat) (y z : Int32) (hI : xI I) (h6 : σ 6 0 0 = nI 16) (ha : a < 4) (hb4 : b < 4) (hst : σ 0 (4 * a + b) 3 = 0) : xD l ySF_issue bSF_issue 7 none 3 [.ref (ad 5 0), .int (nI a), .int (nI 4), .int y, .int z, .int (nI b)] D cA tz I ad σ none (xu3 (xf_begin σ (4 * a + b) (nI 4) (nI 0) (nI 0) (σ 5 0 7)) 5 0 7 (σ 5 0 7 + nI 1)) := by
  refine xd_of (by decide) (by simp [lg_sl, Value.category]) ?_
  intro p e s m args below meth c A ls C hr hlk hml hl w hz
  obtain ⟨hx, hb, hown, hts⟩ := id C
  have hl : lv_has ls 7 [(0, .ref (ad 5 0)), (1, .int (nI a)), (2, .int (nI 4)), (3, .int y), (4, .int z), (5, .int (nI b))] := hl
  refine lv_iload_n hx hb dSF_issue_0 rfl (lv_at hl 1 rfl) ?_
  refine lv_iconst (v := nI 4) hx hb dSF_issue_1 xk_i4 ?_
  refine xd_callS C w hz hml hl.1 xk_SF_57 (cSF_checkIndex_ok l D cA tz I ad σ a 4 (by omega) (by decide)) rfl rfl (Nat.le_of_ble_eq_true rfl) (by decide) (by decide) dSF_issue_2 (fun H locs w => ?_)
  refine W.eq (g2 := F0 m 5 ls []) rfl ?_
  refine lv_iload hx hb dSF_issue_5 (lv_at hl 5 rfl) ?_
  refine lv_iconst (v := nI 4) hx hb dSF_issue_7 xk_i4 ?_
  refine xd_callS C w hz hml hl.1 xk_SF_57 (cSF_checkIndex_ok l D cA tz I ad σ b 4 (by omega) (by decide)) rfl rfl (Nat.le_of_ble_eq_true rfl) (by decide) (by decide) dSF_issue_8 (fun H locs w => ?_)
  refine W.eq (g2 := F0 m 11 ls []) rfl ?_
  refine lv_iload_n hx hb dSF_issue_11 rfl (lv_at hl 2 rfl) ?_
  refine lv_iload_n hx hb dSF_issue_12 rfl (lv_at hl 3 rfl) ?_
  refine lv_iload hx hb dSF_issue_13 (lv_at hl 4 rfl) ?_
  refine xd_callS C w hz hml hl.1 xk_SF_60 (cSF_checkRequest_bar l D cA tz I ad σ y z) rfl rfl (Nat.le_of_ble_eq_true rfl) (by decide) (by decide) dSF_issue_15 (fun H locs w => ?_)
  refine W.eq (g2 := F0 m 18 ls []) rfl ?_
  refine lv_aload_n hx hb dSF_issue_18 rfl (lv_at hl 0 rfl) ?_
  refine lv_iload_n hx hb dSF_issue_19 rfl (lv_at hl 1 rfl) ?_
  refine lv_iload hx hb dSF_issue_20 (lv_at hl 5 rfl) ?_
  refine xd_callV C w hz hml hl.1 xk_SF_64 (cSF_tagOf l D cA tz I ad σ a b hI h6 (by omega)) (xI5 hI) rfl rfl rfl rfl (Nat.le_of_ble_eq_true rfl) (by decide) (by decide) dSF_issue_22 (fun H locs w => ?_)
  refine W.eq (g2 := F0 m 25 ls [.ref (ad 0 (4 * a + b))]) rfl ?_
  refine lv_astore (lv' := [(6, .ref (ad 0 (4 * a + b))), (0, .ref (ad 5 0)), (1, .int (nI a)), (2, .int (nI 4)), (3, .int y), (4, .int z), (5, .int (nI b))]) hx hb dSF_issue_25 hl (by decide) rfl (fun ls hl => ?_)
  refine lv_aload hx hb dSF_issue_27 (lv_at hl 0 rfl) ?_
  refine xg_SF_68 C w (xI0 hI (by omega)) dSF_issue_29 ?_
  refine lv_if_ne hx hb dSF_issue_32 rfl (fun hh1 => absurd hst hh1) (fun hh1 => ?_)
  refine lv_iconst (v := nI 1) hx hb dSF_issue_35 xk_i1 ?_
  refine lv_goto hx hb dSF_issue_36 rfl ?_
  refine xd_callS C w hz hml hl.1 xk_SF_71 (cSF_checkState_ok l D cA tz I ad (σ)) rfl rfl (Nat.le_of_ble_eq_true rfl) (by decide) (by decide) dSF_issue_40 (fun H locs w => ?_)
  refine W.eq (g2 := F0 m 43 ls []) rfl ?_
  refine lv_iload_n hx hb dSF_issue_43 rfl (lv_at hl 3 rfl) ?_
  refine lv_iconst (v := nI 2) hx hb dSF_issue_44 xk_i2 ?_
  refine lv_icmp_ne hx hb dSF_issue_45 rfl (fun _ => ?_) (fun hq => absurd hq (by decide))
  refine lv_iload_n hx hb dSF_issue_73 rfl (lv_at hl 3 rfl) ?_
  refine lv_iconst (v := nI 3) hx hb dSF_issue_74 xk_i3 ?_
  refine lv_icmp_ne hx hb dSF_issue_75 rfl (fun _ => ?_) (fun hq => absurd hq (by decide))
  refine lv_iload_n hx hb dSF_issue_104 rfl (lv_at hl 3 rfl) ?_
  refine lv_iconst (v := nI 4) hx hb dSF_issue_105 xk_i4 ?_
  refine lv_icmp_ne hx hb dSF_issue_106 rfl (fun hq => absurd rfl hq) (fun _ => ?_)
  refine lv_aload hx hb dSF_issue_109 (lv_at hl 0 rfl) ?_
  refine lv_iload_n hx hb dSF_issue_111 rfl (lv_at hl 3 rfl) ?_
  refine lv_iconst (v := nI 0) hx hb dSF_issue_112 xk_i0 ?_
  refine lv_iconst (v := nI 0) hx hb dSF_issue_113 xk_i0 ?_
  refine lv_aload_n hx hb dSF_issue_114 rfl (lv_at hl 1 rfl) ?_
  refine xg_SF_44 C w (xI5 hI) dSF_issue_115 ?_
  refine xd_callV C w hz hml hl.1 xk_SF_86 (cTG_begin l D cA tz I ad σ (4 * a + b) (nI 4) (nI 0) (nI 0) (σ 5 0 7) hI (by omega)) (xI0 hI (by omega)) rfl rfl rfl rfl (Nat.le_of_ble_eq_true rfl) (by decide) (by decide) dSF_issue_118 (fun H locs w => ?_)
  refine W.eq (g2 := F0 m 121 ls []) rfl ?_
  have w : xr_W xCl (xT cA) D I ad (xc cA tz ad (xf_begin σ (4 * a + b) (nI 4) (nI 0) (nI 0) (σ 5 0 7))) A s H locs := w
  refine lv_goto hx hb dSF_issue_121 rfl ?_
  refine lv_aload_n hx hb dSF_issue_149 rfl (lv_at hl 1 rfl) ?_
  refine lv_dup hx hb dSF_issue_150 rfl ?_
  refine xg_SF_44 C w (xI5 hI) dSF_issue_151 ?_
  refine lv_iconst (v := nI 1) hx hb dSF_issue_154 xk_i1 ?_
  refine lv_iadd hx hb dSF_issue_155 ?_
  refine xp_SF_44 C w (xI5 hI) dSF_issue_156 (fun H locs w => ?_)
  exact xd_vret C w hr hlk dSF_issue_159 rfl
set_option maxRecDepth 100000 in
set_option maxHeartbeats 4000000 in
theorem cSF_issue_ok (l : Launch) (D : va_G) (cA : Nat → ClassId) (tz : Nat) (I : List (Nat × Nat)) (ad : Nat → Nat → Nat) (σ : xMem) (a b k q n : Nat) (hI : xI I) (h6 : σ 6 0 0 = nI 16) (h7 : σ 7 0 0 = nI 3) (ha : a < 4) (hb4 : b < 4) (hk4 : k < 4) (h64 : q < 64) (h1n : 1 ≤ n) (hn4 : n ≤ 4) (hn1 : k = 2 ∨ k = 3 → n ≤ 1) (hdv : q / 16 = (q + n - 1) / 16) (hst : σ 0 (4 * a + b) 3 = 0) (hlo : k = 2 → ¬ xp_some σ (nI a) ∧ ¬ xp_wait σ a (nI 2)) (hun : k = 3 → (q < 48 ∧ σ 2 (q / 16) 3 = nI a) ∧ ¬ xp_wait σ a (nI 3)) : xD l ySF_issue bSF_issue 7 none 3 [.ref (ad 5 0), .int (nI a), .int (nI k), .int (nI q), .int (nI n), .int (nI b)] D cA tz I ad σ none (xf_issue σ a b k q n) := by
  refine xd_of (by decide) (by simp [lg_sl, Value.category]) ?_
  intro p e s m args below meth c A ls C hr hlk hml hl w hz
  obtain ⟨hx, hb, hown, hts⟩ := id C
  have hl : lv_has ls 7 [(0, .ref (ad 5 0)), (1, .int (nI a)), (2, .int (nI k)), (3, .int (nI q)), (4, .int (nI n)), (5, .int (nI b))] := hl
  refine lv_iload_n hx hb dSF_issue_0 rfl (lv_at hl 1 rfl) ?_
  refine lv_iconst (v := nI 4) hx hb dSF_issue_1 xk_i4 ?_
  refine xd_callS C w hz hml hl.1 xk_SF_57 (cSF_checkIndex_ok l D cA tz I ad σ a 4 (by omega) (by decide)) rfl rfl (Nat.le_of_ble_eq_true rfl) (by decide) (by decide) dSF_issue_2 (fun H locs w => ?_)
  refine W.eq (g2 := F0 m 5 ls []) rfl ?_
  refine lv_iload hx hb dSF_issue_5 (lv_at hl 5 rfl) ?_
  refine lv_iconst (v := nI 4) hx hb dSF_issue_7 xk_i4 ?_
  refine xd_callS C w hz hml hl.1 xk_SF_57 (cSF_checkIndex_ok l D cA tz I ad σ b 4 (by omega) (by decide)) rfl rfl (Nat.le_of_ble_eq_true rfl) (by decide) (by decide) dSF_issue_8 (fun H locs w => ?_)
  refine W.eq (g2 := F0 m 11 ls []) rfl ?_
  refine lv_iload_n hx hb dSF_issue_11 rfl (lv_at hl 2 rfl) ?_
  refine lv_iload_n hx hb dSF_issue_12 rfl (lv_at hl 3 rfl) ?_
  refine lv_iload hx hb dSF_issue_13 (lv_at hl 4 rfl) ?_
  refine xd_callS C w hz hml hl.1 xk_SF_60 (cSF_checkRequest_ok l D cA tz I ad σ k q n hk4 h64 h1n hn4 hn1 hdv) rfl rfl (Nat.le_of_ble_eq_true rfl) (by decide) (by decide) dSF_issue_15 (fun H locs w => ?_)
  refine W.eq (g2 := F0 m 18 ls []) rfl ?_
  refine lv_aload_n hx hb dSF_issue_18 rfl (lv_at hl 0 rfl) ?_
  refine lv_iload_n hx hb dSF_issue_19 rfl (lv_at hl 1 rfl) ?_
  refine lv_iload hx hb dSF_issue_20 (lv_at hl 5 rfl) ?_
  refine xd_callV C w hz hml hl.1 xk_SF_64 (cSF_tagOf l D cA tz I ad σ a b hI h6 (by omega)) (xI5 hI) rfl rfl rfl rfl (Nat.le_of_ble_eq_true rfl) (by decide) (by decide) dSF_issue_22 (fun H locs w => ?_)
  refine W.eq (g2 := F0 m 25 ls [.ref (ad 0 (4 * a + b))]) rfl ?_
  refine lv_astore (lv' := [(6, .ref (ad 0 (4 * a + b))), (0, .ref (ad 5 0)), (1, .int (nI a)), (2, .int (nI k)), (3, .int (nI q)), (4, .int (nI n)), (5, .int (nI b))]) hx hb dSF_issue_25 hl (by decide) rfl (fun ls hl => ?_)
  refine lv_aload hx hb dSF_issue_27 (lv_at hl 0 rfl) ?_
  refine xg_SF_68 C w (xI0 hI (by omega)) dSF_issue_29 ?_
  refine lv_if_ne hx hb dSF_issue_32 rfl (fun hh1 => absurd hst hh1) (fun hh1 => ?_)
  refine lv_iconst (v := nI 1) hx hb dSF_issue_35 xk_i1 ?_
  refine lv_goto hx hb dSF_issue_36 rfl ?_
  refine xd_callS C w hz hml hl.1 xk_SF_71 (cSF_checkState_ok l D cA tz I ad (σ)) rfl rfl (Nat.le_of_ble_eq_true rfl) (by decide) (by decide) dSF_issue_40 (fun H locs w => ?_)
  refine W.eq (g2 := F0 m 43 ls []) rfl ?_
  refine lv_iload_n hx hb dSF_issue_43 rfl (lv_at hl 3 rfl) ?_
  refine lv_iconst (v := nI 2) hx hb dSF_issue_44 xk_i2 ?_
  refine lv_icmp_ne hx hb dSF_issue_45 rfl (fun hh2 => ?_) (fun hh2 => ?_)
  · skip
    refine lv_iload_n hx hb dSF_issue_73 rfl (lv_at hl 3 rfl) ?_
    refine lv_iconst (v := nI 3) hx hb dSF_issue_74 xk_i3 ?_
    refine lv_icmp_ne hx hb dSF_issue_75 rfl (fun hh3 => ?_) (fun hh3 => ?_)
    · skip
      refine lv_iload_n hx hb dSF_issue_104 rfl (lv_at hl 3 rfl) ?_
      refine lv_iconst (v := nI 4) hx hb dSF_issue_105 xk_i4 ?_
      refine lv_icmp_ne hx hb dSF_issue_106 rfl (fun hh4 => ?_) (fun hh4 => absurd ((nI_eq (by omega) (by decide)).mp hh4) (by omega))
      refine lv_aload hx hb dSF_issue_124 (lv_at hl 0 rfl) ?_
      refine lv_iload_n hx hb dSF_issue_126 rfl (lv_at hl 3 rfl) ?_
      refine lv_iload_n hx hb dSF_issue_127 rfl (lv_at hl 4 rfl) ?_
      refine lv_iload hx hb dSF_issue_128 (lv_at hl 5 rfl) ?_
      refine lv_aload_n hx hb dSF_issue_130 rfl (lv_at hl 1 rfl) ?_
      refine xg_SF_44 C w (xI5 hI) dSF_issue_131 ?_
      refine xd_callV C w hz hml hl.1 xk_SF_86 (cTG_begin l D cA tz I ad σ (4 * a + b) (nI k) (nI q) (nI n) (σ 5 0 7) hI (by omega)) (xI0 hI (by omega)) rfl rfl rfl rfl (Nat.le_of_ble_eq_true rfl) (by decide) (by decide) dSF_issue_134 (fun H locs w => ?_)
      refine W.eq (g2 := F0 m 137 ls []) rfl ?_
      have w : xr_W xCl (xT cA) D I ad (xc cA tz ad (xf_begin σ (4 * a + b) (nI k) (nI q) (nI n) (σ 5 0 7))) A s H locs := w
      refine lv_aload hx hb dSF_issue_137 (lv_at hl 0 rfl) ?_
      refine lv_aload_n hx hb dSF_issue_139 rfl (lv_at hl 1 rfl) ?_
      refine xg_SF_27 C w (xI5 hI) dSF_issue_140 ?_
      refine lv_iload_n hx hb dSF_issue_143 rfl (lv_at hl 2 rfl) ?_
      refine xa_9 C w (xI9 hI) a rfl (by omega) dSF_issue_144 ?_
      refine lv_iconst (v := nI 0) hx hb dSF_issue_145 xk_i0 ?_
      refine xd_callV C w hz hml hl.1 xk_SF_90 (cTG_keep l D cA tz I ad (xf_begin σ (4 * a + b) (nI k) (nI q) (nI n) (σ 5 0 7)) (4 * a + b) 4 a 4 0 n hI (by omega) (xI4 hI ha) (fun _ => rfl) (by simp [xf_begin, xu3, xw_u2, va_up]) hn4 (by omega) (by decide)) (xI0 hI (by omega)) rfl rfl rfl rfl (Nat.le_of_ble_eq_true rfl) (by decide) (by decide) dSF_issue_146 (fun H locs w => ?_)
      refine W.eq (g2 := F0 m 149 ls []) rfl ?_
      have w : xr_W xCl (xT cA) D I ad (xc cA tz ad (xw_u2 (xf_begin σ (4 * a + b) (nI k) (nI q) (nI n) (σ 5 0 7)) 1 (4 * a + b) (va_cpy ((xf_begin σ (4 * a + b) (nI k) (nI q) (nI n) (σ 5 0 7)) 4 a) ((xf_begin σ (4 * a + b) (nI k) (nI q) (nI n) (σ 5 0 7)) 1 (4 * a + b)) 0 0 n))) A s H locs := w
      refine lv_aload_n hx hb dSF_issue_149 rfl (lv_at hl 1 rfl) ?_
      refine lv_dup hx hb dSF_issue_150 rfl ?_
      refine xg_SF_44 C w (xI5 hI) dSF_issue_151 ?_
      refine lv_iconst (v := nI 1) hx hb dSF_issue_154 xk_i1 ?_
      refine lv_iadd hx hb dSF_issue_155 ?_
      refine xp_SF_44 C w (xI5 hI) dSF_issue_156 (fun H locs w => ?_)
      exact xd_vret C w hr hlk dSF_issue_159 rfl
    · skip
      refine lv_aload_n hx hb dSF_issue_78 rfl (lv_at hl 1 rfl) ?_
      refine lv_iload_n hx hb dSF_issue_79 rfl (lv_at hl 2 rfl) ?_
      refine lv_iload_n hx hb dSF_issue_80 rfl (lv_at hl 4 rfl) ?_
      refine xd_callV C w hz hml hl.1 xk_SF_83 (cSF_holdsTargetOf l D cA tz I ad σ (nI a) q hI h7 h64) (xI5 hI) rfl rfl rfl rfl (Nat.le_of_ble_eq_true rfl) (by decide) (by decide) dSF_issue_81 (fun H locs w => ?_)
      refine W.eq (g2 := F0 m 84 ls [.int (xb (q < 48 ∧ σ 2 (q / 16) 3 = nI a))]) rfl ?_
      refine xz_ifeq hx hb dSF_issue_84 rfl (fun hh5 => absurd (hun ((nI_eq (by omega) (by decide)).mp (by assumption))).1 hh5) (fun hh5 => ?_)
      refine lv_aload_n hx hb dSF_issue_87 rfl (lv_at hl 1 rfl) ?_
      refine lv_iload_n hx hb dSF_issue_88 rfl (lv_at hl 2 rfl) ?_
      refine lv_iconst (v := nI 3) hx hb dSF_issue_89 xk_i3 ?_
      refine xd_callV C w hz hml hl.1 xk_SF_79 (cSF_hasWaiting l D cA tz I ad σ a (nI 3) hI h6 ha) (xI5 hI) rfl rfl rfl rfl (Nat.le_of_ble_eq_true rfl) (by decide) (by decide) dSF_issue_90 (fun H locs w => ?_)
      refine W.eq (g2 := F0 m 93 ls [.int (xb (xp_wait σ a (nI 3)))]) rfl ?_
      refine xz_ifne hx hb dSF_issue_93 rfl (fun hh6 => absurd hh6 (hun ((nI_eq (by omega) (by decide)).mp (by assumption))).2) (fun hh6 => ?_)
      refine lv_iconst (v := nI 1) hx hb dSF_issue_96 xk_i1 ?_
      refine lv_goto hx hb dSF_issue_97 rfl ?_
      refine xd_callS C w hz hml hl.1 xk_SF_71 (cSF_checkState_ok l D cA tz I ad (σ)) rfl rfl (Nat.le_of_ble_eq_true rfl) (by decide) (by decide) dSF_issue_101 (fun H locs w => ?_)
      refine W.eq (g2 := F0 m 104 ls []) rfl ?_
      refine lv_iload_n hx hb dSF_issue_104 rfl (lv_at hl 3 rfl) ?_
      refine lv_iconst (v := nI 4) hx hb dSF_issue_105 xk_i4 ?_
      refine lv_icmp_ne hx hb dSF_issue_106 rfl (fun hh7 => ?_) (fun hh7 => absurd ((nI_eq (by omega) (by decide)).mp hh7) (by omega))
      refine lv_aload hx hb dSF_issue_124 (lv_at hl 0 rfl) ?_
      refine lv_iload_n hx hb dSF_issue_126 rfl (lv_at hl 3 rfl) ?_
      refine lv_iload_n hx hb dSF_issue_127 rfl (lv_at hl 4 rfl) ?_
      refine lv_iload hx hb dSF_issue_128 (lv_at hl 5 rfl) ?_
      refine lv_aload_n hx hb dSF_issue_130 rfl (lv_at hl 1 rfl) ?_
      refine xg_SF_44 C w (xI5 hI) dSF_issue_131 ?_
      refine xd_callV C w hz hml hl.1 xk_SF_86 (cTG_begin l D cA tz I ad σ (4 * a + b) (nI k) (nI q) (nI n) (σ 5 0 7) hI (by omega)) (xI0 hI (by omega)) rfl rfl rfl rfl (Nat.le_of_ble_eq_true rfl) (by decide) (by decide) dSF_issue_134 (fun H locs w => ?_)
      refine W.eq (g2 := F0 m 137 ls []) rfl ?_
      have w : xr_W xCl (xT cA) D I ad (xc cA tz ad (xf_begin σ (4 * a + b) (nI k) (nI q) (nI n) (σ 5 0 7))) A s H locs := w
      refine lv_aload hx hb dSF_issue_137 (lv_at hl 0 rfl) ?_
      refine lv_aload_n hx hb dSF_issue_139 rfl (lv_at hl 1 rfl) ?_
      refine xg_SF_27 C w (xI5 hI) dSF_issue_140 ?_
      refine lv_iload_n hx hb dSF_issue_143 rfl (lv_at hl 2 rfl) ?_
      refine xa_9 C w (xI9 hI) a rfl (by omega) dSF_issue_144 ?_
      refine lv_iconst (v := nI 0) hx hb dSF_issue_145 xk_i0 ?_
      refine xd_callV C w hz hml hl.1 xk_SF_90 (cTG_keep l D cA tz I ad (xf_begin σ (4 * a + b) (nI k) (nI q) (nI n) (σ 5 0 7)) (4 * a + b) 4 a 4 0 n hI (by omega) (xI4 hI ha) (fun _ => rfl) (by simp [xf_begin, xu3, xw_u2, va_up]) hn4 (by omega) (by decide)) (xI0 hI (by omega)) rfl rfl rfl rfl (Nat.le_of_ble_eq_true rfl) (by decide) (by decide) dSF_issue_146 (fun H locs w => ?_)
      refine W.eq (g2 := F0 m 149 ls []) rfl ?_
      have w : xr_W xCl (xT cA) D I ad (xc cA tz ad (xw_u2 (xf_begin σ (4 * a + b) (nI k) (nI q) (nI n) (σ 5 0 7)) 1 (4 * a + b) (va_cpy ((xf_begin σ (4 * a + b) (nI k) (nI q) (nI n) (σ 5 0 7)) 4 a) ((xf_begin σ (4 * a + b) (nI k) (nI q) (nI n) (σ 5 0 7)) 1 (4 * a + b)) 0 0 n))) A s H locs := w
      refine lv_aload_n hx hb dSF_issue_149 rfl (lv_at hl 1 rfl) ?_
      refine lv_dup hx hb dSF_issue_150 rfl ?_
      refine xg_SF_44 C w (xI5 hI) dSF_issue_151 ?_
      refine lv_iconst (v := nI 1) hx hb dSF_issue_154 xk_i1 ?_
      refine lv_iadd hx hb dSF_issue_155 ?_
      refine xp_SF_44 C w (xI5 hI) dSF_issue_156 (fun H locs w => ?_)
      exact xd_vret C w hr hlk dSF_issue_159 rfl
  · skip
    refine lv_aload_n hx hb dSF_issue_48 rfl (lv_at hl 1 rfl) ?_
    refine lv_iload_n hx hb dSF_issue_49 rfl (lv_at hl 2 rfl) ?_
    refine xd_callV C w hz hml hl.1 xk_SF_75 (cSF_holdsSome l D cA tz I ad σ (nI a) hI h7) (xI5 hI) rfl rfl rfl rfl (Nat.le_of_ble_eq_true rfl) (by decide) (by decide) dSF_issue_50 (fun H locs w => ?_)
    refine W.eq (g2 := F0 m 53 ls [.int (xb (xp_some σ (nI a)))]) rfl ?_
    refine xz_ifne hx hb dSF_issue_53 rfl (fun hh8 => absurd hh8 (hlo ((nI_eq (by omega) (by decide)).mp (by assumption))).1) (fun hh8 => ?_)
    refine lv_aload_n hx hb dSF_issue_56 rfl (lv_at hl 1 rfl) ?_
    refine lv_iload_n hx hb dSF_issue_57 rfl (lv_at hl 2 rfl) ?_
    refine lv_iconst (v := nI 2) hx hb dSF_issue_58 xk_i2 ?_
    refine xd_callV C w hz hml hl.1 xk_SF_79 (cSF_hasWaiting l D cA tz I ad σ a (nI 2) hI h6 ha) (xI5 hI) rfl rfl rfl rfl (Nat.le_of_ble_eq_true rfl) (by decide) (by decide) dSF_issue_59 (fun H locs w => ?_)
    refine W.eq (g2 := F0 m 62 ls [.int (xb (xp_wait σ a (nI 2)))]) rfl ?_
    refine xz_ifne hx hb dSF_issue_62 rfl (fun hh9 => absurd hh9 (hlo ((nI_eq (by omega) (by decide)).mp (by assumption))).2) (fun hh9 => ?_)
    refine lv_iconst (v := nI 1) hx hb dSF_issue_65 xk_i1 ?_
    refine lv_goto hx hb dSF_issue_66 rfl ?_
    refine xd_callS C w hz hml hl.1 xk_SF_71 (cSF_checkState_ok l D cA tz I ad (σ)) rfl rfl (Nat.le_of_ble_eq_true rfl) (by decide) (by decide) dSF_issue_70 (fun H locs w => ?_)
    refine W.eq (g2 := F0 m 73 ls []) rfl ?_
    refine lv_iload_n hx hb dSF_issue_73 rfl (lv_at hl 3 rfl) ?_
    refine lv_iconst (v := nI 3) hx hb dSF_issue_74 xk_i3 ?_
    refine lv_icmp_ne hx hb dSF_issue_75 rfl (fun hh10 => ?_) (fun hh10 => ?_)
    · skip
      refine lv_iload_n hx hb dSF_issue_104 rfl (lv_at hl 3 rfl) ?_
      refine lv_iconst (v := nI 4) hx hb dSF_issue_105 xk_i4 ?_
      refine lv_icmp_ne hx hb dSF_issue_106 rfl (fun hh11 => ?_) (fun hh11 => absurd ((nI_eq (by omega) (by decide)).mp hh11) (by omega))
      refine lv_aload hx hb dSF_issue_124 (lv_at hl 0 rfl) ?_
      refine lv_iload_n hx hb dSF_issue_126 rfl (lv_at hl 3 rfl) ?_
      refine lv_iload_n hx hb dSF_issue_127 rfl (lv_at hl 4 rfl) ?_
      refine lv_iload hx hb dSF_issue_128 (lv_at hl 5 rfl) ?_
      refine lv_aload_n hx hb dSF_issue_130 rfl (lv_at hl 1 rfl) ?_
      refine xg_SF_44 C w (xI5 hI) dSF_issue_131 ?_
      refine xd_callV C w hz hml hl.1 xk_SF_86 (cTG_begin l D cA tz I ad σ (4 * a + b) (nI k) (nI q) (nI n) (σ 5 0 7) hI (by omega)) (xI0 hI (by omega)) rfl rfl rfl rfl (Nat.le_of_ble_eq_true rfl) (by decide) (by decide) dSF_issue_134 (fun H locs w => ?_)
      refine W.eq (g2 := F0 m 137 ls []) rfl ?_
      have w : xr_W xCl (xT cA) D I ad (xc cA tz ad (xf_begin σ (4 * a + b) (nI k) (nI q) (nI n) (σ 5 0 7))) A s H locs := w
      refine lv_aload hx hb dSF_issue_137 (lv_at hl 0 rfl) ?_
      refine lv_aload_n hx hb dSF_issue_139 rfl (lv_at hl 1 rfl) ?_
      refine xg_SF_27 C w (xI5 hI) dSF_issue_140 ?_
      refine lv_iload_n hx hb dSF_issue_143 rfl (lv_at hl 2 rfl) ?_
      refine xa_9 C w (xI9 hI) a rfl (by omega) dSF_issue_144 ?_
      refine lv_iconst (v := nI 0) hx hb dSF_issue_145 xk_i0 ?_
      refine xd_callV C w hz hml hl.1 xk_SF_90 (cTG_keep l D cA tz I ad (xf_begin σ (4 * a + b) (nI k) (nI q) (nI n) (σ 5 0 7)) (4 * a + b) 4 a 4 0 n hI (by omega) (xI4 hI ha) (fun _ => rfl) (by simp [xf_begin, xu3, xw_u2, va_up]) hn4 (by omega) (by decide)) (xI0 hI (by omega)) rfl rfl rfl rfl (Nat.le_of_ble_eq_true rfl) (by decide) (by decide) dSF_issue_146 (fun H locs w => ?_)
      refine W.eq (g2 := F0 m 149 ls []) rfl ?_
      have w : xr_W xCl (xT cA) D I ad (xc cA tz ad (xw_u2 (xf_begin σ (4 * a + b) (nI k) (nI q) (nI n) (σ 5 0 7)) 1 (4 * a + b) (va_cpy ((xf_begin σ (4 * a + b) (nI k) (nI q) (nI n) (σ 5 0 7)) 4 a) ((xf_begin σ (4 * a + b) (nI k) (nI q) (nI n) (σ 5 0 7)) 1 (4 * a + b)) 0 0 n))) A s H locs := w
      refine lv_aload_n hx hb dSF_issue_149 rfl (lv_at hl 1 rfl) ?_
      refine lv_dup hx hb dSF_issue_150 rfl ?_
      refine xg_SF_44 C w (xI5 hI) dSF_issue_151 ?_
      refine lv_iconst (v := nI 1) hx hb dSF_issue_154 xk_i1 ?_
      refine lv_iadd hx hb dSF_issue_155 ?_
      refine xp_SF_44 C w (xI5 hI) dSF_issue_156 (fun H locs w => ?_)
      exact xd_vret C w hr hlk dSF_issue_159 rfl
    · skip
      refine lv_aload_n hx hb dSF_issue_78 rfl (lv_at hl 1 rfl) ?_
      refine lv_iload_n hx hb dSF_issue_79 rfl (lv_at hl 2 rfl) ?_
      refine lv_iload_n hx hb dSF_issue_80 rfl (lv_at hl 4 rfl) ?_
      refine xd_callV C w hz hml hl.1 xk_SF_83 (cSF_holdsTargetOf l D cA tz I ad σ (nI a) q hI h7 h64) (xI5 hI) rfl rfl rfl rfl (Nat.le_of_ble_eq_true rfl) (by decide) (by decide) dSF_issue_81 (fun H locs w => ?_)
      refine W.eq (g2 := F0 m 84 ls [.int (xb (q < 48 ∧ σ 2 (q / 16) 3 = nI a))]) rfl ?_
      refine xz_ifeq hx hb dSF_issue_84 rfl (fun hh12 => absurd (hun ((nI_eq (by omega) (by decide)).mp (by assumption))).1 hh12) (fun hh12 => ?_)
      refine lv_aload_n hx hb dSF_issue_87 rfl (lv_at hl 1 rfl) ?_
      refine lv_iload_n hx hb dSF_issue_88 rfl (lv_at hl 2 rfl) ?_
      refine lv_iconst (v := nI 3) hx hb dSF_issue_89 xk_i3 ?_
      refine xd_callV C w hz hml hl.1 xk_SF_79 (cSF_hasWaiting l D cA tz I ad σ a (nI 3) hI h6 ha) (xI5 hI) rfl rfl rfl rfl (Nat.le_of_ble_eq_true rfl) (by decide) (by decide) dSF_issue_90 (fun H locs w => ?_)
      refine W.eq (g2 := F0 m 93 ls [.int (xb (xp_wait σ a (nI 3)))]) rfl ?_
      refine xz_ifne hx hb dSF_issue_93 rfl (fun hh13 => absurd hh13 (hun ((nI_eq (by omega) (by decide)).mp (by assumption))).2) (fun hh13 => ?_)
      refine lv_iconst (v := nI 1) hx hb dSF_issue_96 xk_i1 ?_
      refine lv_goto hx hb dSF_issue_97 rfl ?_
      refine xd_callS C w hz hml hl.1 xk_SF_71 (cSF_checkState_ok l D cA tz I ad (σ)) rfl rfl (Nat.le_of_ble_eq_true rfl) (by decide) (by decide) dSF_issue_101 (fun H locs w => ?_)
      refine W.eq (g2 := F0 m 104 ls []) rfl ?_
      refine lv_iload_n hx hb dSF_issue_104 rfl (lv_at hl 3 rfl) ?_
      refine lv_iconst (v := nI 4) hx hb dSF_issue_105 xk_i4 ?_
      refine lv_icmp_ne hx hb dSF_issue_106 rfl (fun hh14 => ?_) (fun hh14 => absurd ((nI_eq (by omega) (by decide)).mp hh14) (by omega))
      refine lv_aload hx hb dSF_issue_124 (lv_at hl 0 rfl) ?_
      refine lv_iload_n hx hb dSF_issue_126 rfl (lv_at hl 3 rfl) ?_
      refine lv_iload_n hx hb dSF_issue_127 rfl (lv_at hl 4 rfl) ?_
      refine lv_iload hx hb dSF_issue_128 (lv_at hl 5 rfl) ?_
      refine lv_aload_n hx hb dSF_issue_130 rfl (lv_at hl 1 rfl) ?_
      refine xg_SF_44 C w (xI5 hI) dSF_issue_131 ?_
      refine xd_callV C w hz hml hl.1 xk_SF_86 (cTG_begin l D cA tz I ad σ (4 * a + b) (nI k) (nI q) (nI n) (σ 5 0 7) hI (by omega)) (xI0 hI (by omega)) rfl rfl rfl rfl (Nat.le_of_ble_eq_true rfl) (by decide) (by decide) dSF_issue_134 (fun H locs w => ?_)
      refine W.eq (g2 := F0 m 137 ls []) rfl ?_
      have w : xr_W xCl (xT cA) D I ad (xc cA tz ad (xf_begin σ (4 * a + b) (nI k) (nI q) (nI n) (σ 5 0 7))) A s H locs := w
      refine lv_aload hx hb dSF_issue_137 (lv_at hl 0 rfl) ?_
      refine lv_aload_n hx hb dSF_issue_139 rfl (lv_at hl 1 rfl) ?_
      refine xg_SF_27 C w (xI5 hI) dSF_issue_140 ?_
      refine lv_iload_n hx hb dSF_issue_143 rfl (lv_at hl 2 rfl) ?_
      refine xa_9 C w (xI9 hI) a rfl (by omega) dSF_issue_144 ?_
      refine lv_iconst (v := nI 0) hx hb dSF_issue_145 xk_i0 ?_
      refine xd_callV C w hz hml hl.1 xk_SF_90 (cTG_keep l D cA tz I ad (xf_begin σ (4 * a + b) (nI k) (nI q) (nI n) (σ 5 0 7)) (4 * a + b) 4 a 4 0 n hI (by omega) (xI4 hI ha) (fun _ => rfl) (by simp [xf_begin, xu3, xw_u2, va_up]) hn4 (by omega) (by decide)) (xI0 hI (by omega)) rfl rfl rfl rfl (Nat.le_of_ble_eq_true rfl) (by decide) (by decide) dSF_issue_146 (fun H locs w => ?_)
      refine W.eq (g2 := F0 m 149 ls []) rfl ?_
      have w : xr_W xCl (xT cA) D I ad (xc cA tz ad (xw_u2 (xf_begin σ (4 * a + b) (nI k) (nI q) (nI n) (σ 5 0 7)) 1 (4 * a + b) (va_cpy ((xf_begin σ (4 * a + b) (nI k) (nI q) (nI n) (σ 5 0 7)) 4 a) ((xf_begin σ (4 * a + b) (nI k) (nI q) (nI n) (σ 5 0 7)) 1 (4 * a + b)) 0 0 n))) A s H locs := w
      refine lv_aload_n hx hb dSF_issue_149 rfl (lv_at hl 1 rfl) ?_
      refine lv_dup hx hb dSF_issue_150 rfl ?_
      refine xg_SF_44 C w (xI5 hI) dSF_issue_151 ?_
      refine lv_iconst (v := nI 1) hx hb dSF_issue_154 xk_i1 ?_
      refine lv_iadd hx hb dSF_issue_155 ?_
      refine xp_SF_44 C w (xI5 hI) dSF_issue_156 (fun H locs w => ?_)
      exact xd_vret C w hr hlk dSF_issue_159 rfl
end
section
/-! decode rows: SplitFabricModel -/
theorem dMD_init_0 : decode bMD_init 0 = .ok (.aload_n 0, 1) := by decide +kernel
theorem dMD_init_1 : decode bMD_init 1 = .ok (.invokespecial 1, 3) := by decide +kernel
theorem dMD_init_4 : decode bMD_init 4 = .ok (.aload_n 0, 1) := by decide +kernel
theorem dMD_init_5 : decode bMD_init 5 = .ok (.bipush 48, 2) := by decide +kernel
theorem dMD_init_7 : decode bMD_init 7 = .ok (.newarray .int, 2) := by decide +kernel
theorem dMD_init_9 : decode bMD_init 9 = .ok (.putfield 7, 3) := by decide +kernel
theorem dMD_init_12 : decode bMD_init 12 = .ok (.aload_n 0, 1) := by decide +kernel
theorem dMD_init_13 : decode bMD_init 13 = .ok (.bipush 16, 2) := by decide +kernel
theorem dMD_init_15 : decode bMD_init 15 = .ok (.newarray .int, 2) := by decide +kernel
theorem dMD_init_17 : decode bMD_init 17 = .ok (.putfield 13, 3) := by decide +kernel
theorem dMD_init_20 : decode bMD_init 20 = .ok (.aload_n 0, 1) := by decide +kernel
theorem dMD_init_21 : decode bMD_init 21 = .ok (.iconst 4, 1) := by decide +kernel
theorem dMD_init_22 : decode bMD_init 22 = .ok (.newarray .int, 2) := by decide +kernel
theorem dMD_init_24 : decode bMD_init 24 = .ok (.putfield 16, 3) := by decide +kernel
theorem dMD_init_27 : decode bMD_init 27 = .ok (.aload_n 0, 1) := by decide +kernel
theorem dMD_init_28 : decode bMD_init 28 = .ok (.iconst 3, 1) := by decide +kernel
theorem dMD_init_29 : decode bMD_init 29 = .ok (.newarray .boolean, 2) := by decide +kernel
theorem dMD_init_31 : decode bMD_init 31 = .ok (.putfield 19, 3) := by decide +kernel
theorem dMD_init_34 : decode bMD_init 34 = .ok (.aload_n 0, 1) := by decide +kernel
theorem dMD_init_35 : decode bMD_init 35 = .ok (.iconst 3, 1) := by decide +kernel
theorem dMD_init_36 : decode bMD_init 36 = .ok (.newarray .int, 2) := by decide +kernel
theorem dMD_init_38 : decode bMD_init 38 = .ok (.putfield 23, 3) := by decide +kernel
theorem dMD_init_41 : decode bMD_init 41 = .ok (.aload_n 0, 1) := by decide +kernel
theorem dMD_init_42 : decode bMD_init 42 = .ok (.bipush 16, 2) := by decide +kernel
theorem dMD_init_44 : decode bMD_init 44 = .ok (.newarray .int, 2) := by decide +kernel
theorem dMD_init_46 : decode bMD_init 46 = .ok (.putfield 26, 3) := by decide +kernel
theorem dMD_init_49 : decode bMD_init 49 = .ok (.aload_n 0, 1) := by decide +kernel
theorem dMD_init_50 : decode bMD_init 50 = .ok (.bipush 16, 2) := by decide +kernel
theorem dMD_init_52 : decode bMD_init 52 = .ok (.newarray .int, 2) := by decide +kernel
theorem dMD_init_54 : decode bMD_init 54 = .ok (.putfield 29, 3) := by decide +kernel
theorem dMD_init_57 : decode bMD_init 57 = .ok (.aload_n 0, 1) := by decide +kernel
theorem dMD_init_58 : decode bMD_init 58 = .ok (.bipush 16, 2) := by decide +kernel
theorem dMD_init_60 : decode bMD_init 60 = .ok (.newarray .int, 2) := by decide +kernel
theorem dMD_init_62 : decode bMD_init 62 = .ok (.putfield 32, 3) := by decide +kernel
theorem dMD_init_65 : decode bMD_init 65 = .ok (.aload_n 0, 1) := by decide +kernel
theorem dMD_init_66 : decode bMD_init 66 = .ok (.bipush 16, 2) := by decide +kernel
theorem dMD_init_68 : decode bMD_init 68 = .ok (.newarray .int, 2) := by decide +kernel
theorem dMD_init_70 : decode bMD_init 70 = .ok (.putfield 35, 3) := by decide +kernel
theorem dMD_init_73 : decode bMD_init 73 = .ok (.aload_n 0, 1) := by decide +kernel
theorem dMD_init_74 : decode bMD_init 74 = .ok (.bipush 16, 2) := by decide +kernel
theorem dMD_init_76 : decode bMD_init 76 = .ok (.newarray .int, 2) := by decide +kernel
theorem dMD_init_78 : decode bMD_init 78 = .ok (.putfield 38, 3) := by decide +kernel
theorem dMD_init_81 : decode bMD_init 81 = .ok (.aload_n 0, 1) := by decide +kernel
theorem dMD_init_82 : decode bMD_init 82 = .ok (.bipush 16, 2) := by decide +kernel
theorem dMD_init_84 : decode bMD_init 84 = .ok (.newarray .int, 2) := by decide +kernel
theorem dMD_init_86 : decode bMD_init 86 = .ok (.putfield 41, 3) := by decide +kernel
theorem dMD_init_89 : decode bMD_init 89 = .ok (.aload_n 0, 1) := by decide +kernel
theorem dMD_init_90 : decode bMD_init 90 = .ok (.bipush 16, 2) := by decide +kernel
theorem dMD_init_92 : decode bMD_init 92 = .ok (.newarray .int, 2) := by decide +kernel
theorem dMD_init_94 : decode bMD_init 94 = .ok (.putfield 44, 3) := by decide +kernel
theorem dMD_init_97 : decode bMD_init 97 = .ok (.aload_n 0, 1) := by decide +kernel
theorem dMD_init_98 : decode bMD_init 98 = .ok (.bipush 64, 2) := by decide +kernel
theorem dMD_init_100 : decode bMD_init 100 = .ok (.newarray .int, 2) := by decide +kernel
theorem dMD_init_102 : decode bMD_init 102 = .ok (.putfield 47, 3) := by decide +kernel
theorem dMD_init_105 : decode bMD_init 105 = .ok (.aload_n 0, 1) := by decide +kernel
theorem dMD_init_106 : decode bMD_init 106 = .ok (.bipush 64, 2) := by decide +kernel
theorem dMD_init_108 : decode bMD_init 108 = .ok (.newarray .int, 2) := by decide +kernel
theorem dMD_init_110 : decode bMD_init 110 = .ok (.putfield 50, 3) := by decide +kernel
theorem dMD_init_113 : decode bMD_init 113 = .ok (.aload_n 0, 1) := by decide +kernel
theorem dMD_init_114 : decode bMD_init 114 = .ok (.bipush 16, 2) := by decide +kernel
theorem dMD_init_116 : decode bMD_init 116 = .ok (.newarray .int, 2) := by decide +kernel
theorem dMD_init_118 : decode bMD_init 118 = .ok (.putfield 53, 3) := by decide +kernel
theorem dMD_init_121 : decode bMD_init 121 = .ok (.aload_n 0, 1) := by decide +kernel
theorem dMD_init_122 : decode bMD_init 122 = .ok (.bipush 15, 2) := by decide +kernel
theorem dMD_init_124 : decode bMD_init 124 = .ok (.putfield 56, 3) := by decide +kernel
theorem dMD_init_127 : decode bMD_init 127 = .ok (.aload_n 0, 1) := by decide +kernel
theorem dMD_init_128 : decode bMD_init 128 = .ok (.iconst 3, 1) := by decide +kernel
theorem dMD_init_129 : decode bMD_init 129 = .ok (.putfield 60, 3) := by decide +kernel
theorem dMD_init_132 : decode bMD_init 132 = .ok (.aload_n 0, 1) := by decide +kernel
theorem dMD_init_133 : decode bMD_init 133 = .ok (.sipush 3600, 3) := by decide +kernel
theorem dMD_init_136 : decode bMD_init 136 = .ok (.newarray .int, 2) := by decide +kernel
theorem dMD_init_138 : decode bMD_init 138 = .ok (.putfield 63, 3) := by decide +kernel
theorem dMD_init_141 : decode bMD_init 141 = .ok (.iconst 0, 1) := by decide +kernel
theorem dMD_init_142 : decode bMD_init 142 = .ok (.istore_n 1, 1) := by decide +kernel
theorem dMD_init_143 : decode bMD_init 143 = .ok (.iload_n 1, 1) := by decide +kernel
theorem dMD_init_144 : decode bMD_init 144 = .ok (.iconst 3, 1) := by decide +kernel
theorem dMD_init_145 : decode bMD_init 145 = .ok (.if_icmp .ge 16, 3) := by decide +kernel
theorem dMD_init_148 : decode bMD_init 148 = .ok (.aload_n 0, 1) := by decide +kernel
theorem dMD_init_149 : decode bMD_init 149 = .ok (.getfield 23, 3) := by decide +kernel
theorem dMD_init_152 : decode bMD_init 152 = .ok (.iload_n 1, 1) := by decide +kernel
theorem dMD_init_153 : decode bMD_init 153 = .ok (.iconst (-1), 1) := by decide +kernel
theorem dMD_init_154 : decode bMD_init 154 = .ok (.iastore, 1) := by decide +kernel
theorem dMD_init_155 : decode bMD_init 155 = .ok (.iinc 1 1, 3) := by decide +kernel
theorem dMD_init_158 : decode bMD_init 158 = .ok (.goto (-15), 3) := by decide +kernel
theorem dMD_init_161 : decode bMD_init 161 = .ok (.return_, 1) := by decide +kernel
theorem dMD_thrown_0 : decode bMD_thrown 0 = .ok (.aload_n 0, 1) := by decide +kernel
theorem dMD_thrown_1 : decode bMD_thrown 1 = .ok (.getfield 66, 3) := by decide +kernel
theorem dMD_thrown_4 : decode bMD_thrown 4 = .ok (.ireturn, 1) := by decide +kernel
theorem dMD_data_0 : decode bMD_data 0 = .ok (.aload_n 0, 1) := by decide +kernel
theorem dMD_data_1 : decode bMD_data 1 = .ok (.iload_n 1, 1) := by decide +kernel
theorem dMD_data_2 : decode bMD_data 2 = .ok (.iconst 4, 1) := by decide +kernel
theorem dMD_data_3 : decode bMD_data 3 = .ok (.invokestatic 69, 3) := by decide +kernel
theorem dMD_data_6 : decode bMD_data 6 = .ok (.ifCond .eq 15, 3) := by decide +kernel
theorem dMD_data_9 : decode bMD_data 9 = .ok (.iload_n 2, 1) := by decide +kernel
theorem dMD_data_10 : decode bMD_data 10 = .ok (.iconst 4, 1) := by decide +kernel
theorem dMD_data_11 : decode bMD_data 11 = .ok (.invokestatic 69, 3) := by decide +kernel
theorem dMD_data_14 : decode bMD_data 14 = .ok (.ifCond .eq 7, 3) := by decide +kernel
theorem dMD_data_17 : decode bMD_data 17 = .ok (.iconst 0, 1) := by decide +kernel
theorem dMD_data_18 : decode bMD_data 18 = .ok (.goto 4, 3) := by decide +kernel
theorem dMD_data_21 : decode bMD_data 21 = .ok (.iconst 1, 1) := by decide +kernel
theorem dMD_data_22 : decode bMD_data 22 = .ok (.invokevirtual 73, 3) := by decide +kernel
theorem dMD_data_25 : decode bMD_data 25 = .ok (.ifCond .ne 14, 3) := by decide +kernel
theorem dMD_data_28 : decode bMD_data 28 = .ok (.aload_n 0, 1) := by decide +kernel
theorem dMD_data_29 : decode bMD_data 29 = .ok (.getfield 13, 3) := by decide +kernel
theorem dMD_data_32 : decode bMD_data 32 = .ok (.iconst 4, 1) := by decide +kernel
theorem dMD_data_33 : decode bMD_data 33 = .ok (.iload_n 1, 1) := by decide +kernel
theorem dMD_data_34 : decode bMD_data 34 = .ok (.imul, 1) := by decide +kernel
theorem dMD_data_35 : decode bMD_data 35 = .ok (.iload_n 2, 1) := by decide +kernel
theorem dMD_data_36 : decode bMD_data 36 = .ok (.iadd, 1) := by decide +kernel
theorem dMD_data_37 : decode bMD_data 37 = .ok (.iload_n 3, 1) := by decide +kernel
theorem dMD_data_38 : decode bMD_data 38 = .ok (.iastore, 1) := by decide +kernel
theorem dMD_data_39 : decode bMD_data 39 = .ok (.return_, 1) := by decide +kernel
theorem dMD_isIn_0 : decode bMD_isIn 0 = .ok (.iload_n 0, 1) := by decide +kernel
theorem dMD_isIn_1 : decode bMD_isIn 1 = .ok (.ifCond .lt 12, 3) := by decide +kernel
theorem dMD_isIn_4 : decode bMD_isIn 4 = .ok (.iload_n 0, 1) := by decide +kernel
theorem dMD_isIn_5 : decode bMD_isIn 5 = .ok (.iload_n 1, 1) := by decide +kernel
theorem dMD_isIn_6 : decode bMD_isIn 6 = .ok (.if_icmp .ge 7, 3) := by decide +kernel
theorem dMD_isIn_9 : decode bMD_isIn 9 = .ok (.iconst 1, 1) := by decide +kernel
theorem dMD_isIn_10 : decode bMD_isIn 10 = .ok (.goto 4, 3) := by decide +kernel
theorem dMD_isIn_13 : decode bMD_isIn 13 = .ok (.iconst 0, 1) := by decide +kernel
theorem dMD_isIn_14 : decode bMD_isIn 14 = .ok (.ireturn, 1) := by decide +kernel
theorem dMD_refused_0 : decode bMD_refused 0 = .ok (.aload_n 0, 1) := by decide +kernel
theorem dMD_refused_1 : decode bMD_refused 1 = .ok (.iload_n 1, 1) := by decide +kernel
theorem dMD_refused_2 : decode bMD_refused 2 = .ok (.putfield 66, 3) := by decide +kernel
theorem dMD_refused_5 : decode bMD_refused 5 = .ok (.iload_n 1, 1) := by decide +kernel
theorem dMD_refused_6 : decode bMD_refused 6 = .ok (.ifCond .le 7, 3) := by decide +kernel
theorem dMD_refused_9 : decode bMD_refused 9 = .ok (.iconst 1, 1) := by decide +kernel
theorem dMD_refused_10 : decode bMD_refused 10 = .ok (.goto 4, 3) := by decide +kernel
theorem dMD_refused_13 : decode bMD_refused 13 = .ok (.iconst 0, 1) := by decide +kernel
theorem dMD_refused_14 : decode bMD_refused 14 = .ok (.ireturn, 1) := by decide +kernel
theorem dMD_issue_0 : decode bMD_issue 0 = .ok (.iload_n 1, 1) := by decide +kernel
theorem dMD_issue_1 : decode bMD_issue 1 = .ok (.iconst 4, 1) := by decide +kernel
theorem dMD_issue_2 : decode bMD_issue 2 = .ok (.invokestatic 69, 3) := by decide +kernel
theorem dMD_issue_5 : decode bMD_issue 5 = .ok (.ifCond .eq 16, 3) := by decide +kernel
theorem dMD_issue_8 : decode bMD_issue 8 = .ok (.iload 5, 2) := by decide +kernel
theorem dMD_issue_10 : decode bMD_issue 10 = .ok (.iconst 4, 1) := by decide +kernel
theorem dMD_issue_11 : decode bMD_issue 11 = .ok (.invokestatic 69, 3) := by decide +kernel
theorem dMD_issue_14 : decode bMD_issue 14 = .ok (.ifCond .eq 7, 3) := by decide +kernel
theorem dMD_issue_17 : decode bMD_issue 17 = .ok (.iconst 1, 1) := by decide +kernel
theorem dMD_issue_18 : decode bMD_issue 18 = .ok (.goto 4, 3) := by decide +kernel
theorem dMD_issue_21 : decode bMD_issue 21 = .ok (.iconst 0, 1) := by decide +kernel
theorem dMD_issue_22 : decode bMD_issue 22 = .ok (.istore 6, 2) := by decide +kernel
theorem dMD_issue_24 : decode bMD_issue 24 = .ok (.iload_n 2, 1) := by decide +kernel
theorem dMD_issue_25 : decode bMD_issue 25 = .ok (.iload_n 3, 1) := by decide +kernel
theorem dMD_issue_26 : decode bMD_issue 26 = .ok (.iload 4, 2) := by decide +kernel
theorem dMD_issue_28 : decode bMD_issue 28 = .ok (.invokestatic 80, 3) := by decide +kernel
theorem dMD_issue_31 : decode bMD_issue 31 = .ok (.istore 7, 2) := by decide +kernel
theorem dMD_issue_33 : decode bMD_issue 33 = .ok (.aload_n 0, 1) := by decide +kernel
theorem dMD_issue_34 : decode bMD_issue 34 = .ok (.iload 6, 2) := by decide +kernel
theorem dMD_issue_36 : decode bMD_issue 36 = .ok (.ifCond .ne 7, 3) := by decide +kernel
theorem dMD_issue_39 : decode bMD_issue 39 = .ok (.iconst 1, 1) := by decide +kernel
theorem dMD_issue_40 : decode bMD_issue 40 = .ok (.goto 29, 3) := by decide +kernel
theorem dMD_issue_43 : decode bMD_issue 43 = .ok (.iload 7, 2) := by decide +kernel
theorem dMD_issue_45 : decode bMD_issue 45 = .ok (.ifCond .ne 7, 3) := by decide +kernel
theorem dMD_issue_48 : decode bMD_issue 48 = .ok (.iconst 2, 1) := by decide +kernel
theorem dMD_issue_49 : decode bMD_issue 49 = .ok (.goto 20, 3) := by decide +kernel
theorem dMD_issue_52 : decode bMD_issue 52 = .ok (.aload_n 0, 1) := by decide +kernel
theorem dMD_issue_53 : decode bMD_issue 53 = .ok (.iload_n 1, 1) := by decide +kernel
theorem dMD_issue_54 : decode bMD_issue 54 = .ok (.iload_n 2, 1) := by decide +kernel
theorem dMD_issue_55 : decode bMD_issue 55 = .ok (.iload_n 3, 1) := by decide +kernel
theorem dMD_issue_56 : decode bMD_issue 56 = .ok (.iload 5, 2) := by decide +kernel
theorem dMD_issue_58 : decode bMD_issue 58 = .ok (.invokevirtual 84, 3) := by decide +kernel
theorem dMD_issue_61 : decode bMD_issue 61 = .ok (.ifCond .ne 7, 3) := by decide +kernel
theorem dMD_issue_64 : decode bMD_issue 64 = .ok (.iconst 3, 1) := by decide +kernel
theorem dMD_issue_65 : decode bMD_issue 65 = .ok (.goto 4, 3) := by decide +kernel
theorem dMD_issue_68 : decode bMD_issue 68 = .ok (.iconst 0, 1) := by decide +kernel
theorem dMD_issue_69 : decode bMD_issue 69 = .ok (.invokevirtual 73, 3) := by decide +kernel
theorem dMD_issue_72 : decode bMD_issue 72 = .ok (.ifCond .eq 4, 3) := by decide +kernel
theorem dMD_issue_75 : decode bMD_issue 75 = .ok (.return_, 1) := by decide +kernel
theorem dMD_issue_76 : decode bMD_issue 76 = .ok (.iconst 4, 1) := by decide +kernel
theorem dMD_issue_77 : decode bMD_issue 77 = .ok (.iload_n 1, 1) := by decide +kernel
theorem dMD_issue_78 : decode bMD_issue 78 = .ok (.imul, 1) := by decide +kernel
theorem dMD_issue_79 : decode bMD_issue 79 = .ok (.iload 5, 2) := by decide +kernel
theorem dMD_issue_81 : decode bMD_issue 81 = .ok (.iadd, 1) := by decide +kernel
theorem dMD_issue_82 : decode bMD_issue 82 = .ok (.istore 8, 2) := by decide +kernel
theorem dMD_issue_84 : decode bMD_issue 84 = .ok (.aload_n 0, 1) := by decide +kernel
theorem dMD_issue_85 : decode bMD_issue 85 = .ok (.dup, 1) := by decide +kernel
theorem dMD_issue_86 : decode bMD_issue 86 = .ok (.getfield 88, 3) := by decide +kernel
theorem dMD_issue_89 : decode bMD_issue 89 = .ok (.iconst 1, 1) := by decide +kernel
theorem dMD_issue_90 : decode bMD_issue 90 = .ok (.iadd, 1) := by decide +kernel
theorem dMD_issue_91 : decode bMD_issue 91 = .ok (.putfield 88, 3) := by decide +kernel
theorem dMD_issue_94 : decode bMD_issue 94 = .ok (.aload_n 0, 1) := by decide +kernel
theorem dMD_issue_95 : decode bMD_issue 95 = .ok (.getfield 26, 3) := by decide +kernel
theorem dMD_issue_98 : decode bMD_issue 98 = .ok (.iload 8, 2) := by decide +kernel
theorem dMD_issue_100 : decode bMD_issue 100 = .ok (.iconst 1, 1) := by decide +kernel
theorem dMD_issue_101 : decode bMD_issue 101 = .ok (.iastore, 1) := by decide +kernel
theorem dMD_issue_102 : decode bMD_issue 102 = .ok (.aload_n 0, 1) := by decide +kernel
theorem dMD_issue_103 : decode bMD_issue 103 = .ok (.getfield 29, 3) := by decide +kernel
theorem dMD_issue_106 : decode bMD_issue 106 = .ok (.iload 8, 2) := by decide +kernel
theorem dMD_issue_108 : decode bMD_issue 108 = .ok (.iload_n 2, 1) := by decide +kernel
theorem dMD_issue_109 : decode bMD_issue 109 = .ok (.iastore, 1) := by decide +kernel
theorem dMD_issue_110 : decode bMD_issue 110 = .ok (.aload_n 0, 1) := by decide +kernel
theorem dMD_issue_111 : decode bMD_issue 111 = .ok (.getfield 32, 3) := by decide +kernel
theorem dMD_issue_114 : decode bMD_issue 114 = .ok (.iload 8, 2) := by decide +kernel
theorem dMD_issue_116 : decode bMD_issue 116 = .ok (.iload_n 3, 1) := by decide +kernel
theorem dMD_issue_117 : decode bMD_issue 117 = .ok (.iastore, 1) := by decide +kernel
theorem dMD_issue_118 : decode bMD_issue 118 = .ok (.aload_n 0, 1) := by decide +kernel
theorem dMD_issue_119 : decode bMD_issue 119 = .ok (.getfield 35, 3) := by decide +kernel
theorem dMD_issue_122 : decode bMD_issue 122 = .ok (.iload 8, 2) := by decide +kernel
theorem dMD_issue_124 : decode bMD_issue 124 = .ok (.iload_n 2, 1) := by decide +kernel
theorem dMD_issue_125 : decode bMD_issue 125 = .ok (.iconst 4, 1) := by decide +kernel
theorem dMD_issue_126 : decode bMD_issue 126 = .ok (.if_icmp .ne 7, 3) := by decide +kernel
theorem dMD_issue_129 : decode bMD_issue 129 = .ok (.iconst 0, 1) := by decide +kernel
theorem dMD_issue_130 : decode bMD_issue 130 = .ok (.goto 5, 3) := by decide +kernel
theorem dMD_issue_133 : decode bMD_issue 133 = .ok (.iload 4, 2) := by decide +kernel
theorem dMD_issue_135 : decode bMD_issue 135 = .ok (.iastore, 1) := by decide +kernel
theorem dMD_issue_136 : decode bMD_issue 136 = .ok (.aload_n 0, 1) := by decide +kernel
theorem dMD_issue_137 : decode bMD_issue 137 = .ok (.getfield 38, 3) := by decide +kernel
theorem dMD_issue_140 : decode bMD_issue 140 = .ok (.iload 8, 2) := by decide +kernel
theorem dMD_issue_142 : decode bMD_issue 142 = .ok (.iconst 0, 1) := by decide +kernel
theorem dMD_issue_143 : decode bMD_issue 143 = .ok (.iastore, 1) := by decide +kernel
theorem dMD_issue_144 : decode bMD_issue 144 = .ok (.aload_n 0, 1) := by decide +kernel
theorem dMD_issue_145 : decode bMD_issue 145 = .ok (.getfield 41, 3) := by decide +kernel
theorem dMD_issue_148 : decode bMD_issue 148 = .ok (.iload 8, 2) := by decide +kernel
theorem dMD_issue_150 : decode bMD_issue 150 = .ok (.aload_n 0, 1) := by decide +kernel
theorem dMD_issue_151 : decode bMD_issue 151 = .ok (.getfield 88, 3) := by decide +kernel
theorem dMD_issue_154 : decode bMD_issue 154 = .ok (.iastore, 1) := by decide +kernel
theorem dMD_issue_155 : decode bMD_issue 155 = .ok (.aload_n 0, 1) := by decide +kernel
theorem dMD_issue_156 : decode bMD_issue 156 = .ok (.getfield 44, 3) := by decide +kernel
theorem dMD_issue_159 : decode bMD_issue 159 = .ok (.iload 8, 2) := by decide +kernel
theorem dMD_issue_161 : decode bMD_issue 161 = .ok (.iconst 0, 1) := by decide +kernel
theorem dMD_issue_162 : decode bMD_issue 162 = .ok (.iastore, 1) := by decide +kernel
theorem dMD_issue_163 : decode bMD_issue 163 = .ok (.aload_n 0, 1) := by decide +kernel
theorem dMD_issue_164 : decode bMD_issue 164 = .ok (.getfield 53, 3) := by decide +kernel
theorem dMD_issue_167 : decode bMD_issue 167 = .ok (.iload 8, 2) := by decide +kernel
theorem dMD_issue_169 : decode bMD_issue 169 = .ok (.iconst 0, 1) := by decide +kernel
theorem dMD_issue_170 : decode bMD_issue 170 = .ok (.iastore, 1) := by decide +kernel
theorem dMD_issue_171 : decode bMD_issue 171 = .ok (.iconst 0, 1) := by decide +kernel
theorem dMD_issue_172 : decode bMD_issue 172 = .ok (.istore 9, 2) := by decide +kernel
theorem dMD_issue_174 : decode bMD_issue 174 = .ok (.iload 9, 2) := by decide +kernel
theorem dMD_issue_176 : decode bMD_issue 176 = .ok (.iconst 4, 1) := by decide +kernel
theorem dMD_issue_177 : decode bMD_issue 177 = .ok (.if_icmp .ge 32, 3) := by decide +kernel
theorem dMD_issue_180 : decode bMD_issue 180 = .ok (.aload_n 0, 1) := by decide +kernel
theorem dMD_issue_181 : decode bMD_issue 181 = .ok (.getfield 47, 3) := by decide +kernel
theorem dMD_issue_184 : decode bMD_issue 184 = .ok (.iconst 4, 1) := by decide +kernel
theorem dMD_issue_185 : decode bMD_issue 185 = .ok (.iload 8, 2) := by decide +kernel
theorem dMD_issue_187 : decode bMD_issue 187 = .ok (.imul, 1) := by decide +kernel
theorem dMD_issue_188 : decode bMD_issue 188 = .ok (.iload 9, 2) := by decide +kernel
theorem dMD_issue_190 : decode bMD_issue 190 = .ok (.iadd, 1) := by decide +kernel
theorem dMD_issue_191 : decode bMD_issue 191 = .ok (.aload_n 0, 1) := by decide +kernel
theorem dMD_issue_192 : decode bMD_issue 192 = .ok (.getfield 13, 3) := by decide +kernel
theorem dMD_issue_195 : decode bMD_issue 195 = .ok (.iconst 4, 1) := by decide +kernel
theorem dMD_issue_196 : decode bMD_issue 196 = .ok (.iload_n 1, 1) := by decide +kernel
theorem dMD_issue_197 : decode bMD_issue 197 = .ok (.imul, 1) := by decide +kernel
theorem dMD_issue_198 : decode bMD_issue 198 = .ok (.iload 9, 2) := by decide +kernel
theorem dMD_issue_200 : decode bMD_issue 200 = .ok (.iadd, 1) := by decide +kernel
theorem dMD_issue_201 : decode bMD_issue 201 = .ok (.iaload, 1) := by decide +kernel
theorem dMD_issue_202 : decode bMD_issue 202 = .ok (.iastore, 1) := by decide +kernel
theorem dMD_issue_203 : decode bMD_issue 203 = .ok (.iinc 9 1, 3) := by decide +kernel
theorem dMD_issue_206 : decode bMD_issue 206 = .ok (.goto (-32), 3) := by decide +kernel
theorem dMD_issue_209 : decode bMD_issue 209 = .ok (.return_, 1) := by decide +kernel
theorem dMD_isSound_0 : decode bMD_isSound 0 = .ok (.iload_n 0, 1) := by decide +kernel
theorem dMD_isSound_1 : decode bMD_isSound 1 = .ok (.ifCond .lt 8, 3) := by decide +kernel
theorem dMD_isSound_4 : decode bMD_isSound 4 = .ok (.iload_n 0, 1) := by decide +kernel
theorem dMD_isSound_5 : decode bMD_isSound 5 = .ok (.iconst 4, 1) := by decide +kernel
theorem dMD_isSound_6 : decode bMD_isSound 6 = .ok (.if_icmp .le 5, 3) := by decide +kernel
theorem dMD_isSound_9 : decode bMD_isSound 9 = .ok (.iconst 0, 1) := by decide +kernel
theorem dMD_isSound_10 : decode bMD_isSound 10 = .ok (.ireturn, 1) := by decide +kernel
theorem dMD_isSound_11 : decode bMD_isSound 11 = .ok (.iload_n 0, 1) := by decide +kernel
theorem dMD_isSound_12 : decode bMD_isSound 12 = .ok (.iconst 2, 1) := by decide +kernel
theorem dMD_isSound_13 : decode bMD_isSound 13 = .ok (.if_icmp .eq 8, 3) := by decide +kernel
theorem dMD_isSound_16 : decode bMD_isSound 16 = .ok (.iload_n 0, 1) := by decide +kernel
theorem dMD_isSound_17 : decode bMD_isSound 17 = .ok (.iconst 3, 1) := by decide +kernel
theorem dMD_isSound_18 : decode bMD_isSound 18 = .ok (.if_icmp .ne 7, 3) := by decide +kernel
theorem dMD_isSound_21 : decode bMD_isSound 21 = .ok (.iconst 1, 1) := by decide +kernel
theorem dMD_isSound_22 : decode bMD_isSound 22 = .ok (.goto 4, 3) := by decide +kernel
theorem dMD_isSound_25 : decode bMD_isSound 25 = .ok (.iconst 0, 1) := by decide +kernel
theorem dMD_isSound_26 : decode bMD_isSound 26 = .ok (.istore_n 3, 1) := by decide +kernel
theorem dMD_isSound_27 : decode bMD_isSound 27 = .ok (.iload_n 0, 1) := by decide +kernel
theorem dMD_isSound_28 : decode bMD_isSound 28 = .ok (.iconst 4, 1) := by decide +kernel
theorem dMD_isSound_29 : decode bMD_isSound 29 = .ok (.if_icmp .eq 46, 3) := by decide +kernel
theorem dMD_isSound_32 : decode bMD_isSound 32 = .ok (.iload_n 1, 1) := by decide +kernel
theorem dMD_isSound_33 : decode bMD_isSound 33 = .ok (.ifCond .lt 46, 3) := by decide +kernel
theorem dMD_isSound_36 : decode bMD_isSound 36 = .ok (.iload_n 1, 1) := by decide +kernel
theorem dMD_isSound_37 : decode bMD_isSound 37 = .ok (.bipush 63, 2) := by decide +kernel
theorem dMD_isSound_39 : decode bMD_isSound 39 = .ok (.if_icmp .gt 40, 3) := by decide +kernel
theorem dMD_isSound_42 : decode bMD_isSound 42 = .ok (.iload_n 2, 1) := by decide +kernel
theorem dMD_isSound_43 : decode bMD_isSound 43 = .ok (.iconst 1, 1) := by decide +kernel
theorem dMD_isSound_44 : decode bMD_isSound 44 = .ok (.if_icmp .lt 35, 3) := by decide +kernel
theorem dMD_isSound_47 : decode bMD_isSound 47 = .ok (.iload_n 2, 1) := by decide +kernel
theorem dMD_isSound_48 : decode bMD_isSound 48 = .ok (.iload_n 3, 1) := by decide +kernel
theorem dMD_isSound_49 : decode bMD_isSound 49 = .ok (.ifCond .eq 7, 3) := by decide +kernel
theorem dMD_isSound_52 : decode bMD_isSound 52 = .ok (.iconst 1, 1) := by decide +kernel
theorem dMD_isSound_53 : decode bMD_isSound 53 = .ok (.goto 4, 3) := by decide +kernel
theorem dMD_isSound_56 : decode bMD_isSound 56 = .ok (.iconst 4, 1) := by decide +kernel
theorem dMD_isSound_57 : decode bMD_isSound 57 = .ok (.if_icmp .gt 22, 3) := by decide +kernel
theorem dMD_isSound_60 : decode bMD_isSound 60 = .ok (.iload_n 1, 1) := by decide +kernel
theorem dMD_isSound_61 : decode bMD_isSound 61 = .ok (.bipush 16, 2) := by decide +kernel
theorem dMD_isSound_63 : decode bMD_isSound 63 = .ok (.idiv, 1) := by decide +kernel
theorem dMD_isSound_64 : decode bMD_isSound 64 = .ok (.iload_n 1, 1) := by decide +kernel
theorem dMD_isSound_65 : decode bMD_isSound 65 = .ok (.iload_n 2, 1) := by decide +kernel
theorem dMD_isSound_66 : decode bMD_isSound 66 = .ok (.iadd, 1) := by decide +kernel
theorem dMD_isSound_67 : decode bMD_isSound 67 = .ok (.iconst 1, 1) := by decide +kernel
theorem dMD_isSound_68 : decode bMD_isSound 68 = .ok (.isub, 1) := by decide +kernel
theorem dMD_isSound_69 : decode bMD_isSound 69 = .ok (.bipush 16, 2) := by decide +kernel
theorem dMD_isSound_71 : decode bMD_isSound 71 = .ok (.idiv, 1) := by decide +kernel
theorem dMD_isSound_72 : decode bMD_isSound 72 = .ok (.if_icmp .ne 7, 3) := by decide +kernel
theorem dMD_isSound_75 : decode bMD_isSound 75 = .ok (.iconst 1, 1) := by decide +kernel
theorem dMD_isSound_76 : decode bMD_isSound 76 = .ok (.goto 4, 3) := by decide +kernel
theorem dMD_isSound_79 : decode bMD_isSound 79 = .ok (.iconst 0, 1) := by decide +kernel
theorem dMD_isSound_80 : decode bMD_isSound 80 = .ok (.ireturn, 1) := by decide +kernel
theorem dMD_isAllowed_0 : decode bMD_isAllowed 0 = .ok (.aload_n 0, 1) := by decide +kernel
theorem dMD_isAllowed_1 : decode bMD_isAllowed 1 = .ok (.getfield 26, 3) := by decide +kernel
theorem dMD_isAllowed_4 : decode bMD_isAllowed 4 = .ok (.iconst 4, 1) := by decide +kernel
theorem dMD_isAllowed_5 : decode bMD_isAllowed 5 = .ok (.iload_n 1, 1) := by decide +kernel
theorem dMD_isAllowed_6 : decode bMD_isAllowed 6 = .ok (.imul, 1) := by decide +kernel
theorem dMD_isAllowed_7 : decode bMD_isAllowed 7 = .ok (.iload 4, 2) := by decide +kernel
theorem dMD_isAllowed_9 : decode bMD_isAllowed 9 = .ok (.iadd, 1) := by decide +kernel
theorem dMD_isAllowed_10 : decode bMD_isAllowed 10 = .ok (.iaload, 1) := by decide +kernel
theorem dMD_isAllowed_11 : decode bMD_isAllowed 11 = .ok (.ifCond .eq 5, 3) := by decide +kernel
theorem dMD_isAllowed_14 : decode bMD_isAllowed 14 = .ok (.iconst 0, 1) := by decide +kernel
theorem dMD_isAllowed_15 : decode bMD_isAllowed 15 = .ok (.ireturn, 1) := by decide +kernel
theorem dMD_isAllowed_16 : decode bMD_isAllowed 16 = .ok (.iload_n 2, 1) := by decide +kernel
theorem dMD_isAllowed_17 : decode bMD_isAllowed 17 = .ok (.iconst 2, 1) := by decide +kernel
theorem dMD_isAllowed_18 : decode bMD_isAllowed 18 = .ok (.if_icmp .ne 48, 3) := by decide +kernel
theorem dMD_isAllowed_21 : decode bMD_isAllowed 21 = .ok (.aload_n 0, 1) := by decide +kernel
theorem dMD_isAllowed_22 : decode bMD_isAllowed 22 = .ok (.getfield 23, 3) := by decide +kernel
theorem dMD_isAllowed_25 : decode bMD_isAllowed 25 = .ok (.iconst 0, 1) := by decide +kernel
theorem dMD_isAllowed_26 : decode bMD_isAllowed 26 = .ok (.iaload, 1) := by decide +kernel
theorem dMD_isAllowed_27 : decode bMD_isAllowed 27 = .ok (.iload_n 1, 1) := by decide +kernel
theorem dMD_isAllowed_28 : decode bMD_isAllowed 28 = .ok (.if_icmp .eq 36, 3) := by decide +kernel
theorem dMD_isAllowed_31 : decode bMD_isAllowed 31 = .ok (.aload_n 0, 1) := by decide +kernel
theorem dMD_isAllowed_32 : decode bMD_isAllowed 32 = .ok (.getfield 23, 3) := by decide +kernel
theorem dMD_isAllowed_35 : decode bMD_isAllowed 35 = .ok (.iconst 1, 1) := by decide +kernel
theorem dMD_isAllowed_36 : decode bMD_isAllowed 36 = .ok (.iaload, 1) := by decide +kernel
theorem dMD_isAllowed_37 : decode bMD_isAllowed 37 = .ok (.iload_n 1, 1) := by decide +kernel
theorem dMD_isAllowed_38 : decode bMD_isAllowed 38 = .ok (.if_icmp .eq 26, 3) := by decide +kernel
theorem dMD_isAllowed_41 : decode bMD_isAllowed 41 = .ok (.aload_n 0, 1) := by decide +kernel
theorem dMD_isAllowed_42 : decode bMD_isAllowed 42 = .ok (.getfield 23, 3) := by decide +kernel
theorem dMD_isAllowed_45 : decode bMD_isAllowed 45 = .ok (.iconst 2, 1) := by decide +kernel
theorem dMD_isAllowed_46 : decode bMD_isAllowed 46 = .ok (.iaload, 1) := by decide +kernel
theorem dMD_isAllowed_47 : decode bMD_isAllowed 47 = .ok (.iload_n 1, 1) := by decide +kernel
theorem dMD_isAllowed_48 : decode bMD_isAllowed 48 = .ok (.if_icmp .eq 16, 3) := by decide +kernel
theorem dMD_isAllowed_51 : decode bMD_isAllowed 51 = .ok (.aload_n 0, 1) := by decide +kernel
theorem dMD_isAllowed_52 : decode bMD_isAllowed 52 = .ok (.iload_n 1, 1) := by decide +kernel
theorem dMD_isAllowed_53 : decode bMD_isAllowed 53 = .ok (.iconst 2, 1) := by decide +kernel
theorem dMD_isAllowed_54 : decode bMD_isAllowed 54 = .ok (.invokevirtual 77, 3) := by decide +kernel
theorem dMD_isAllowed_57 : decode bMD_isAllowed 57 = .ok (.ifCond .ne 7, 3) := by decide +kernel
theorem dMD_isAllowed_60 : decode bMD_isAllowed 60 = .ok (.iconst 1, 1) := by decide +kernel
theorem dMD_isAllowed_61 : decode bMD_isAllowed 61 = .ok (.goto 4, 3) := by decide +kernel
theorem dMD_isAllowed_64 : decode bMD_isAllowed 64 = .ok (.iconst 0, 1) := by decide +kernel
theorem dMD_isAllowed_65 : decode bMD_isAllowed 65 = .ok (.ireturn, 1) := by decide +kernel
theorem dMD_isAllowed_66 : decode bMD_isAllowed 66 = .ok (.iload_n 2, 1) := by decide +kernel
theorem dMD_isAllowed_67 : decode bMD_isAllowed 67 = .ok (.iconst 3, 1) := by decide +kernel
theorem dMD_isAllowed_68 : decode bMD_isAllowed 68 = .ok (.if_icmp .ne 31, 3) := by decide +kernel
theorem dMD_isAllowed_71 : decode bMD_isAllowed 71 = .ok (.iload_n 3, 1) := by decide +kernel
theorem dMD_isAllowed_72 : decode bMD_isAllowed 72 = .ok (.bipush 48, 2) := by decide +kernel
theorem dMD_isAllowed_74 : decode bMD_isAllowed 74 = .ok (.if_icmp .ge 29, 3) := by decide +kernel
theorem dMD_isAllowed_77 : decode bMD_isAllowed 77 = .ok (.aload_n 0, 1) := by decide +kernel
theorem dMD_isAllowed_78 : decode bMD_isAllowed 78 = .ok (.getfield 23, 3) := by decide +kernel
theorem dMD_isAllowed_81 : decode bMD_isAllowed 81 = .ok (.iload_n 3, 1) := by decide +kernel
theorem dMD_isAllowed_82 : decode bMD_isAllowed 82 = .ok (.bipush 16, 2) := by decide +kernel
theorem dMD_isAllowed_84 : decode bMD_isAllowed 84 = .ok (.idiv, 1) := by decide +kernel
theorem dMD_isAllowed_85 : decode bMD_isAllowed 85 = .ok (.iaload, 1) := by decide +kernel
theorem dMD_isAllowed_86 : decode bMD_isAllowed 86 = .ok (.iload_n 1, 1) := by decide +kernel
theorem dMD_isAllowed_87 : decode bMD_isAllowed 87 = .ok (.if_icmp .ne 16, 3) := by decide +kernel
theorem dMD_isAllowed_90 : decode bMD_isAllowed 90 = .ok (.aload_n 0, 1) := by decide +kernel
theorem dMD_isAllowed_91 : decode bMD_isAllowed 91 = .ok (.iload_n 1, 1) := by decide +kernel
theorem dMD_isAllowed_92 : decode bMD_isAllowed 92 = .ok (.iconst 3, 1) := by decide +kernel
theorem dMD_isAllowed_93 : decode bMD_isAllowed 93 = .ok (.invokevirtual 77, 3) := by decide +kernel
theorem dMD_isAllowed_96 : decode bMD_isAllowed 96 = .ok (.ifCond .ne 7, 3) := by decide +kernel
theorem dMD_isAllowed_99 : decode bMD_isAllowed 99 = .ok (.iconst 1, 1) := by decide +kernel
theorem dMD_isAllowed_100 : decode bMD_isAllowed 100 = .ok (.goto 4, 3) := by decide +kernel
theorem dMD_isAllowed_103 : decode bMD_isAllowed 103 = .ok (.iconst 0, 1) := by decide +kernel
theorem dMD_isAllowed_104 : decode bMD_isAllowed 104 = .ok (.ireturn, 1) := by decide +kernel
theorem dMD_hasWaiting_0 : decode bMD_hasWaiting 0 = .ok (.iconst 0, 1) := by decide +kernel
theorem dMD_hasWaiting_1 : decode bMD_hasWaiting 1 = .ok (.istore_n 3, 1) := by decide +kernel
theorem dMD_hasWaiting_2 : decode bMD_hasWaiting 2 = .ok (.iconst 0, 1) := by decide +kernel
theorem dMD_hasWaiting_3 : decode bMD_hasWaiting 3 = .ok (.istore 4, 2) := by decide +kernel
theorem dMD_hasWaiting_5 : decode bMD_hasWaiting 5 = .ok (.iload 4, 2) := by decide +kernel
theorem dMD_hasWaiting_7 : decode bMD_hasWaiting 7 = .ok (.iconst 4, 1) := by decide +kernel
theorem dMD_hasWaiting_8 : decode bMD_hasWaiting 8 = .ok (.if_icmp .ge 49, 3) := by decide +kernel
theorem dMD_hasWaiting_11 : decode bMD_hasWaiting 11 = .ok (.iconst 4, 1) := by decide +kernel
theorem dMD_hasWaiting_12 : decode bMD_hasWaiting 12 = .ok (.iload_n 1, 1) := by decide +kernel
theorem dMD_hasWaiting_13 : decode bMD_hasWaiting 13 = .ok (.imul, 1) := by decide +kernel
theorem dMD_hasWaiting_14 : decode bMD_hasWaiting 14 = .ok (.iload 4, 2) := by decide +kernel
theorem dMD_hasWaiting_16 : decode bMD_hasWaiting 16 = .ok (.iadd, 1) := by decide +kernel
theorem dMD_hasWaiting_17 : decode bMD_hasWaiting 17 = .ok (.istore 5, 2) := by decide +kernel
theorem dMD_hasWaiting_19 : decode bMD_hasWaiting 19 = .ok (.iload_n 3, 1) := by decide +kernel
theorem dMD_hasWaiting_20 : decode bMD_hasWaiting 20 = .ok (.ifCond .ne 25, 3) := by decide +kernel
theorem dMD_hasWaiting_23 : decode bMD_hasWaiting 23 = .ok (.aload_n 0, 1) := by decide +kernel
theorem dMD_hasWaiting_24 : decode bMD_hasWaiting 24 = .ok (.getfield 26, 3) := by decide +kernel
theorem dMD_hasWaiting_27 : decode bMD_hasWaiting 27 = .ok (.iload 5, 2) := by decide +kernel
theorem dMD_hasWaiting_29 : decode bMD_hasWaiting 29 = .ok (.iaload, 1) := by decide +kernel
theorem dMD_hasWaiting_30 : decode bMD_hasWaiting 30 = .ok (.iconst 1, 1) := by decide +kernel
theorem dMD_hasWaiting_31 : decode bMD_hasWaiting 31 = .ok (.if_icmp .ne 18, 3) := by decide +kernel
theorem dMD_hasWaiting_34 : decode bMD_hasWaiting 34 = .ok (.aload_n 0, 1) := by decide +kernel
theorem dMD_hasWaiting_35 : decode bMD_hasWaiting 35 = .ok (.getfield 29, 3) := by decide +kernel
theorem dMD_hasWaiting_38 : decode bMD_hasWaiting 38 = .ok (.iload 5, 2) := by decide +kernel
theorem dMD_hasWaiting_40 : decode bMD_hasWaiting 40 = .ok (.iaload, 1) := by decide +kernel
theorem dMD_hasWaiting_41 : decode bMD_hasWaiting 41 = .ok (.iload_n 2, 1) := by decide +kernel
theorem dMD_hasWaiting_42 : decode bMD_hasWaiting 42 = .ok (.if_icmp .ne 7, 3) := by decide +kernel
theorem dMD_hasWaiting_45 : decode bMD_hasWaiting 45 = .ok (.iconst 1, 1) := by decide +kernel
theorem dMD_hasWaiting_46 : decode bMD_hasWaiting 46 = .ok (.goto 4, 3) := by decide +kernel
theorem dMD_hasWaiting_49 : decode bMD_hasWaiting 49 = .ok (.iconst 0, 1) := by decide +kernel
theorem dMD_hasWaiting_50 : decode bMD_hasWaiting 50 = .ok (.istore_n 3, 1) := by decide +kernel
theorem dMD_hasWaiting_51 : decode bMD_hasWaiting 51 = .ok (.iinc 4 1, 3) := by decide +kernel
theorem dMD_hasWaiting_54 : decode bMD_hasWaiting 54 = .ok (.goto (-49), 3) := by decide +kernel
theorem dMD_hasWaiting_57 : decode bMD_hasWaiting 57 = .ok (.iload_n 3, 1) := by decide +kernel
theorem dMD_hasWaiting_58 : decode bMD_hasWaiting 58 = .ok (.ireturn, 1) := by decide +kernel
theorem dMD_ready_0 : decode bMD_ready 0 = .ok (.aload_n 0, 1) := by decide +kernel
theorem dMD_ready_1 : decode bMD_ready 1 = .ok (.iload_n 1, 1) := by decide +kernel
theorem dMD_ready_2 : decode bMD_ready 2 = .ok (.iconst 3, 1) := by decide +kernel
theorem dMD_ready_3 : decode bMD_ready 3 = .ok (.invokestatic 69, 3) := by decide +kernel
theorem dMD_ready_6 : decode bMD_ready 6 = .ok (.ifCond .eq 7, 3) := by decide +kernel
theorem dMD_ready_9 : decode bMD_ready 9 = .ok (.iconst 0, 1) := by decide +kernel
theorem dMD_ready_10 : decode bMD_ready 10 = .ok (.goto 4, 3) := by decide +kernel
theorem dMD_ready_13 : decode bMD_ready 13 = .ok (.iconst 1, 1) := by decide +kernel
theorem dMD_ready_14 : decode bMD_ready 14 = .ok (.invokevirtual 73, 3) := by decide +kernel
theorem dMD_ready_17 : decode bMD_ready 17 = .ok (.ifCond .ne 10, 3) := by decide +kernel
theorem dMD_ready_20 : decode bMD_ready 20 = .ok (.aload_n 0, 1) := by decide +kernel
theorem dMD_ready_21 : decode bMD_ready 21 = .ok (.getfield 19, 3) := by decide +kernel
theorem dMD_ready_24 : decode bMD_ready 24 = .ok (.iload_n 1, 1) := by decide +kernel
theorem dMD_ready_25 : decode bMD_ready 25 = .ok (.iload_n 2, 1) := by decide +kernel
theorem dMD_ready_26 : decode bMD_ready 26 = .ok (.bastore, 1) := by decide +kernel
theorem dMD_ready_27 : decode bMD_ready 27 = .ok (.return_, 1) := by decide +kernel
theorem dMD_cycle_0 : decode bMD_cycle 0 = .ok (.aload_n 0, 1) := by decide +kernel
theorem dMD_cycle_1 : decode bMD_cycle 1 = .ok (.iconst 0, 1) := by decide +kernel
theorem dMD_cycle_2 : decode bMD_cycle 2 = .ok (.putfield 66, 3) := by decide +kernel
theorem dMD_cycle_5 : decode bMD_cycle 5 = .ok (.aload_n 0, 1) := by decide +kernel
theorem dMD_cycle_6 : decode bMD_cycle 6 = .ok (.invokevirtual 139, 3) := by decide +kernel
theorem dMD_cycle_9 : decode bMD_cycle 9 = .ok (.ireturn, 1) := by decide +kernel
theorem dMD_one_0 : decode bMD_one 0 = .ok (.iconst 0, 1) := by decide +kernel
theorem dMD_one_1 : decode bMD_one 1 = .ok (.istore_n 1, 1) := by decide +kernel
theorem dMD_one_2 : decode bMD_one 2 = .ok (.iload_n 1, 1) := by decide +kernel
theorem dMD_one_3 : decode bMD_one 3 = .ok (.iconst 3, 1) := by decide +kernel
theorem dMD_one_4 : decode bMD_one 4 = .ok (.if_icmp .ge 33, 3) := by decide +kernel
theorem dMD_one_7 : decode bMD_one 7 = .ok (.aload_n 0, 1) := by decide +kernel
theorem dMD_one_8 : decode bMD_one 8 = .ok (.iload_n 1, 1) := by decide +kernel
theorem dMD_one_9 : decode bMD_one 9 = .ok (.invokevirtual 125, 3) := by decide +kernel
theorem dMD_one_12 : decode bMD_one 12 = .ok (.istore_n 2, 1) := by decide +kernel
theorem dMD_one_13 : decode bMD_one 13 = .ok (.aload_n 0, 1) := by decide +kernel
theorem dMD_one_14 : decode bMD_one 14 = .ok (.getfield 19, 3) := by decide +kernel
theorem dMD_one_17 : decode bMD_one 17 = .ok (.iload_n 1, 1) := by decide +kernel
theorem dMD_one_18 : decode bMD_one 18 = .ok (.baload, 1) := by decide +kernel
theorem dMD_one_19 : decode bMD_one 19 = .ok (.ifCond .eq 12, 3) := by decide +kernel
theorem dMD_one_22 : decode bMD_one 22 = .ok (.iload_n 2, 1) := by decide +kernel
theorem dMD_one_23 : decode bMD_one 23 = .ok (.ifCond .lt 8, 3) := by decide +kernel
theorem dMD_one_26 : decode bMD_one 26 = .ok (.aload_n 0, 1) := by decide +kernel
theorem dMD_one_27 : decode bMD_one 27 = .ok (.iload_n 2, 1) := by decide +kernel
theorem dMD_one_28 : decode bMD_one 28 = .ok (.invokevirtual 128, 3) := by decide +kernel
theorem dMD_one_31 : decode bMD_one 31 = .ok (.iinc 1 1, 3) := by decide +kernel
theorem dMD_one_34 : decode bMD_one 34 = .ok (.goto (-32), 3) := by decide +kernel
theorem dMD_one_37 : decode bMD_one 37 = .ok (.aload_n 0, 1) := by decide +kernel
theorem dMD_one_38 : decode bMD_one 38 = .ok (.invokevirtual 132, 3) := by decide +kernel
theorem dMD_one_41 : decode bMD_one 41 = .ok (.aload_n 0, 1) := by decide +kernel
theorem dMD_one_42 : decode bMD_one 42 = .ok (.invokevirtual 135, 3) := by decide +kernel
theorem dMD_one_45 : decode bMD_one 45 = .ok (.istore_n 1, 1) := by decide +kernel
theorem dMD_one_46 : decode bMD_one 46 = .ok (.iconst 0, 1) := by decide +kernel
theorem dMD_one_47 : decode bMD_one 47 = .ok (.istore_n 2, 1) := by decide +kernel
theorem dMD_one_48 : decode bMD_one 48 = .ok (.iload_n 2, 1) := by decide +kernel
theorem dMD_one_49 : decode bMD_one 49 = .ok (.bipush 16, 2) := by decide +kernel
theorem dMD_one_51 : decode bMD_one 51 = .ok (.if_icmp .ge 42, 3) := by decide +kernel
theorem dMD_one_54 : decode bMD_one 54 = .ok (.aload_n 0, 1) := by decide +kernel
theorem dMD_one_55 : decode bMD_one 55 = .ok (.getfield 38, 3) := by decide +kernel
theorem dMD_one_58 : decode bMD_one 58 = .ok (.iload_n 2, 1) := by decide +kernel
theorem dMD_one_59 : decode bMD_one 59 = .ok (.aload_n 0, 1) := by decide +kernel
theorem dMD_one_60 : decode bMD_one 60 = .ok (.getfield 26, 3) := by decide +kernel
theorem dMD_one_63 : decode bMD_one 63 = .ok (.iload_n 2, 1) := by decide +kernel
theorem dMD_one_64 : decode bMD_one 64 = .ok (.iaload, 1) := by decide +kernel
theorem dMD_one_65 : decode bMD_one 65 = .ok (.iconst 1, 1) := by decide +kernel
theorem dMD_one_66 : decode bMD_one 66 = .ok (.if_icmp .ne 14, 3) := by decide +kernel
theorem dMD_one_69 : decode bMD_one 69 = .ok (.aload_n 0, 1) := by decide +kernel
theorem dMD_one_70 : decode bMD_one 70 = .ok (.getfield 38, 3) := by decide +kernel
theorem dMD_one_73 : decode bMD_one 73 = .ok (.iload_n 2, 1) := by decide +kernel
theorem dMD_one_74 : decode bMD_one 74 = .ok (.iaload, 1) := by decide +kernel
theorem dMD_one_75 : decode bMD_one 75 = .ok (.iconst 1, 1) := by decide +kernel
theorem dMD_one_76 : decode bMD_one 76 = .ok (.iadd, 1) := by decide +kernel
theorem dMD_one_77 : decode bMD_one 77 = .ok (.goto 9, 3) := by decide +kernel
theorem dMD_one_80 : decode bMD_one 80 = .ok (.aload_n 0, 1) := by decide +kernel
theorem dMD_one_81 : decode bMD_one 81 = .ok (.getfield 38, 3) := by decide +kernel
theorem dMD_one_84 : decode bMD_one 84 = .ok (.iload_n 2, 1) := by decide +kernel
theorem dMD_one_85 : decode bMD_one 85 = .ok (.iaload, 1) := by decide +kernel
theorem dMD_one_86 : decode bMD_one 86 = .ok (.iastore, 1) := by decide +kernel
theorem dMD_one_87 : decode bMD_one 87 = .ok (.iinc 2 1, 3) := by decide +kernel
theorem dMD_one_90 : decode bMD_one 90 = .ok (.goto (-42), 3) := by decide +kernel
theorem dMD_one_93 : decode bMD_one 93 = .ok (.aload_n 0, 1) := by decide +kernel
theorem dMD_one_94 : decode bMD_one 94 = .ok (.dup, 1) := by decide +kernel
theorem dMD_one_95 : decode bMD_one 95 = .ok (.getfield 98, 3) := by decide +kernel
theorem dMD_one_98 : decode bMD_one 98 = .ok (.iconst 1, 1) := by decide +kernel
theorem dMD_one_99 : decode bMD_one 99 = .ok (.iadd, 1) := by decide +kernel
theorem dMD_one_100 : decode bMD_one 100 = .ok (.putfield 98, 3) := by decide +kernel
theorem dMD_one_103 : decode bMD_one 103 = .ok (.iload_n 1, 1) := by decide +kernel
theorem dMD_one_104 : decode bMD_one 104 = .ok (.ifCond .ge 7, 3) := by decide +kernel
theorem dMD_one_107 : decode bMD_one 107 = .ok (.iconst (-1), 1) := by decide +kernel
theorem dMD_one_108 : decode bMD_one 108 = .ok (.goto 6, 3) := by decide +kernel
theorem dMD_one_111 : decode bMD_one 111 = .ok (.iload_n 1, 1) := by decide +kernel
theorem dMD_one_112 : decode bMD_one 112 = .ok (.iconst 4, 1) := by decide +kernel
theorem dMD_one_113 : decode bMD_one 113 = .ok (.idiv, 1) := by decide +kernel
theorem dMD_one_114 : decode bMD_one 114 = .ok (.ireturn, 1) := by decide +kernel
theorem dMD_firstOf_0 : decode bMD_firstOf 0 = .ok (.iconst (-1), 1) := by decide +kernel
theorem dMD_firstOf_1 : decode bMD_firstOf 1 = .ok (.istore_n 2, 1) := by decide +kernel
theorem dMD_firstOf_2 : decode bMD_firstOf 2 = .ok (.iconst 0, 1) := by decide +kernel
theorem dMD_firstOf_3 : decode bMD_firstOf 3 = .ok (.istore_n 3, 1) := by decide +kernel
theorem dMD_firstOf_4 : decode bMD_firstOf 4 = .ok (.iload_n 3, 1) := by decide +kernel
theorem dMD_firstOf_5 : decode bMD_firstOf 5 = .ok (.bipush 16, 2) := by decide +kernel
theorem dMD_firstOf_7 : decode bMD_firstOf 7 = .ok (.if_icmp .ge 74, 3) := by decide +kernel
theorem dMD_firstOf_10 : decode bMD_firstOf 10 = .ok (.aload_n 0, 1) := by decide +kernel
theorem dMD_firstOf_11 : decode bMD_firstOf 11 = .ok (.getfield 26, 3) := by decide +kernel
theorem dMD_firstOf_14 : decode bMD_firstOf 14 = .ok (.iload_n 3, 1) := by decide +kernel
theorem dMD_firstOf_15 : decode bMD_firstOf 15 = .ok (.iaload, 1) := by decide +kernel
theorem dMD_firstOf_16 : decode bMD_firstOf 16 = .ok (.iconst 2, 1) := by decide +kernel
theorem dMD_firstOf_17 : decode bMD_firstOf 17 = .ok (.if_icmp .ne 25, 3) := by decide +kernel
theorem dMD_firstOf_20 : decode bMD_firstOf 20 = .ok (.aload_n 0, 1) := by decide +kernel
theorem dMD_firstOf_21 : decode bMD_firstOf 21 = .ok (.getfield 44, 3) := by decide +kernel
theorem dMD_firstOf_24 : decode bMD_firstOf 24 = .ok (.iload_n 3, 1) := by decide +kernel
theorem dMD_firstOf_25 : decode bMD_firstOf 25 = .ok (.iaload, 1) := by decide +kernel
theorem dMD_firstOf_26 : decode bMD_firstOf 26 = .ok (.ifCond .le 16, 3) := by decide +kernel
theorem dMD_firstOf_29 : decode bMD_firstOf 29 = .ok (.aload_n 0, 1) := by decide +kernel
theorem dMD_firstOf_30 : decode bMD_firstOf 30 = .ok (.iload_n 3, 1) := by decide +kernel
theorem dMD_firstOf_31 : decode bMD_firstOf 31 = .ok (.invokevirtual 91, 3) := by decide +kernel
theorem dMD_firstOf_34 : decode bMD_firstOf 34 = .ok (.iload_n 1, 1) := by decide +kernel
theorem dMD_firstOf_35 : decode bMD_firstOf 35 = .ok (.if_icmp .ne 7, 3) := by decide +kernel
theorem dMD_firstOf_38 : decode bMD_firstOf 38 = .ok (.iconst 1, 1) := by decide +kernel
theorem dMD_firstOf_39 : decode bMD_firstOf 39 = .ok (.goto 4, 3) := by decide +kernel
theorem dMD_firstOf_42 : decode bMD_firstOf 42 = .ok (.iconst 0, 1) := by decide +kernel
theorem dMD_firstOf_43 : decode bMD_firstOf 43 = .ok (.istore 4, 2) := by decide +kernel
theorem dMD_firstOf_45 : decode bMD_firstOf 45 = .ok (.iload 4, 2) := by decide +kernel
theorem dMD_firstOf_47 : decode bMD_firstOf 47 = .ok (.ifCond .eq 26, 3) := by decide +kernel
theorem dMD_firstOf_50 : decode bMD_firstOf 50 = .ok (.iload_n 2, 1) := by decide +kernel
theorem dMD_firstOf_51 : decode bMD_firstOf 51 = .ok (.ifCond .lt 18, 3) := by decide +kernel
theorem dMD_firstOf_54 : decode bMD_firstOf 54 = .ok (.aload_n 0, 1) := by decide +kernel
theorem dMD_firstOf_55 : decode bMD_firstOf 55 = .ok (.getfield 44, 3) := by decide +kernel
theorem dMD_firstOf_58 : decode bMD_firstOf 58 = .ok (.iload_n 3, 1) := by decide +kernel
theorem dMD_firstOf_59 : decode bMD_firstOf 59 = .ok (.iaload, 1) := by decide +kernel
theorem dMD_firstOf_60 : decode bMD_firstOf 60 = .ok (.aload_n 0, 1) := by decide +kernel
theorem dMD_firstOf_61 : decode bMD_firstOf 61 = .ok (.getfield 44, 3) := by decide +kernel
theorem dMD_firstOf_64 : decode bMD_firstOf 64 = .ok (.iload_n 2, 1) := by decide +kernel
theorem dMD_firstOf_65 : decode bMD_firstOf 65 = .ok (.iaload, 1) := by decide +kernel
theorem dMD_firstOf_66 : decode bMD_firstOf 66 = .ok (.if_icmp .ge 7, 3) := by decide +kernel
theorem dMD_firstOf_69 : decode bMD_firstOf 69 = .ok (.iload_n 3, 1) := by decide +kernel
theorem dMD_firstOf_70 : decode bMD_firstOf 70 = .ok (.goto 4, 3) := by decide +kernel
theorem dMD_firstOf_73 : decode bMD_firstOf 73 = .ok (.iload_n 2, 1) := by decide +kernel
theorem dMD_firstOf_74 : decode bMD_firstOf 74 = .ok (.istore_n 2, 1) := by decide +kernel
theorem dMD_firstOf_75 : decode bMD_firstOf 75 = .ok (.iinc 3 1, 3) := by decide +kernel
theorem dMD_firstOf_78 : decode bMD_firstOf 78 = .ok (.goto (-74), 3) := by decide +kernel
theorem dMD_firstOf_81 : decode bMD_firstOf 81 = .ok (.iload_n 2, 1) := by decide +kernel
theorem dMD_firstOf_82 : decode bMD_firstOf 82 = .ok (.ireturn, 1) := by decide +kernel
theorem dMD_target_0 : decode bMD_target 0 = .ok (.aload_n 0, 1) := by decide +kernel
theorem dMD_target_1 : decode bMD_target 1 = .ok (.getfield 32, 3) := by decide +kernel
theorem dMD_target_4 : decode bMD_target 4 = .ok (.iload_n 1, 1) := by decide +kernel
theorem dMD_target_5 : decode bMD_target 5 = .ok (.iaload, 1) := by decide +kernel
theorem dMD_target_6 : decode bMD_target 6 = .ok (.bipush 16, 2) := by decide +kernel
theorem dMD_target_8 : decode bMD_target 8 = .ok (.idiv, 1) := by decide +kernel
theorem dMD_target_9 : decode bMD_target 9 = .ok (.ireturn, 1) := by decide +kernel
theorem dMD_serve_0 : decode bMD_serve 0 = .ok (.aload_n 0, 1) := by decide +kernel
theorem dMD_serve_1 : decode bMD_serve 1 = .ok (.getfield 44, 3) := by decide +kernel
theorem dMD_serve_4 : decode bMD_serve 4 = .ok (.iload_n 1, 1) := by decide +kernel
theorem dMD_serve_5 : decode bMD_serve 5 = .ok (.iconst 0, 1) := by decide +kernel
theorem dMD_serve_6 : decode bMD_serve 6 = .ok (.iastore, 1) := by decide +kernel
theorem dMD_serve_7 : decode bMD_serve 7 = .ok (.aload_n 0, 1) := by decide +kernel
theorem dMD_serve_8 : decode bMD_serve 8 = .ok (.getfield 29, 3) := by decide +kernel
theorem dMD_serve_11 : decode bMD_serve 11 = .ok (.iload_n 1, 1) := by decide +kernel
theorem dMD_serve_12 : decode bMD_serve 12 = .ok (.iaload, 1) := by decide +kernel
theorem dMD_serve_13 : decode bMD_serve 13 = .ok (.iconst 1, 1) := by decide +kernel
theorem dMD_serve_14 : decode bMD_serve 14 = .ok (.if_icmp .eq 13, 3) := by decide +kernel
theorem dMD_serve_17 : decode bMD_serve 17 = .ok (.aload_n 0, 1) := by decide +kernel
theorem dMD_serve_18 : decode bMD_serve 18 = .ok (.getfield 29, 3) := by decide +kernel
theorem dMD_serve_21 : decode bMD_serve 21 = .ok (.iload_n 1, 1) := by decide +kernel
theorem dMD_serve_22 : decode bMD_serve 22 = .ok (.iaload, 1) := by decide +kernel
theorem dMD_serve_23 : decode bMD_serve 23 = .ok (.iconst 3, 1) := by decide +kernel
theorem dMD_serve_24 : decode bMD_serve 24 = .ok (.if_icmp .ne 7, 3) := by decide +kernel
theorem dMD_serve_27 : decode bMD_serve 27 = .ok (.iconst 1, 1) := by decide +kernel
theorem dMD_serve_28 : decode bMD_serve 28 = .ok (.goto 4, 3) := by decide +kernel
theorem dMD_serve_31 : decode bMD_serve 31 = .ok (.iconst 0, 1) := by decide +kernel
theorem dMD_serve_32 : decode bMD_serve 32 = .ok (.istore_n 2, 1) := by decide +kernel
theorem dMD_serve_33 : decode bMD_serve 33 = .ok (.iconst 0, 1) := by decide +kernel
theorem dMD_serve_34 : decode bMD_serve 34 = .ok (.istore_n 3, 1) := by decide +kernel
theorem dMD_serve_35 : decode bMD_serve 35 = .ok (.iload_n 3, 1) := by decide +kernel
theorem dMD_serve_36 : decode bMD_serve 36 = .ok (.aload_n 0, 1) := by decide +kernel
theorem dMD_serve_37 : decode bMD_serve 37 = .ok (.getfield 35, 3) := by decide +kernel
theorem dMD_serve_40 : decode bMD_serve 40 = .ok (.iload_n 1, 1) := by decide +kernel
theorem dMD_serve_41 : decode bMD_serve 41 = .ok (.iaload, 1) := by decide +kernel
theorem dMD_serve_42 : decode bMD_serve 42 = .ok (.if_icmp .ge 62, 3) := by decide +kernel
theorem dMD_serve_45 : decode bMD_serve 45 = .ok (.iload_n 2, 1) := by decide +kernel
theorem dMD_serve_46 : decode bMD_serve 46 = .ok (.ifCond .eq 29, 3) := by decide +kernel
theorem dMD_serve_49 : decode bMD_serve 49 = .ok (.aload_n 0, 1) := by decide +kernel
theorem dMD_serve_50 : decode bMD_serve 50 = .ok (.getfield 7, 3) := by decide +kernel
theorem dMD_serve_53 : decode bMD_serve 53 = .ok (.aload_n 0, 1) := by decide +kernel
theorem dMD_serve_54 : decode bMD_serve 54 = .ok (.getfield 32, 3) := by decide +kernel
theorem dMD_serve_57 : decode bMD_serve 57 = .ok (.iload_n 1, 1) := by decide +kernel
theorem dMD_serve_58 : decode bMD_serve 58 = .ok (.iaload, 1) := by decide +kernel
theorem dMD_serve_59 : decode bMD_serve 59 = .ok (.iload_n 3, 1) := by decide +kernel
theorem dMD_serve_60 : decode bMD_serve 60 = .ok (.iadd, 1) := by decide +kernel
theorem dMD_serve_61 : decode bMD_serve 61 = .ok (.aload_n 0, 1) := by decide +kernel
theorem dMD_serve_62 : decode bMD_serve 62 = .ok (.getfield 47, 3) := by decide +kernel
theorem dMD_serve_65 : decode bMD_serve 65 = .ok (.iconst 4, 1) := by decide +kernel
theorem dMD_serve_66 : decode bMD_serve 66 = .ok (.iload_n 1, 1) := by decide +kernel
theorem dMD_serve_67 : decode bMD_serve 67 = .ok (.imul, 1) := by decide +kernel
theorem dMD_serve_68 : decode bMD_serve 68 = .ok (.iload_n 3, 1) := by decide +kernel
theorem dMD_serve_69 : decode bMD_serve 69 = .ok (.iadd, 1) := by decide +kernel
theorem dMD_serve_70 : decode bMD_serve 70 = .ok (.iaload, 1) := by decide +kernel
theorem dMD_serve_71 : decode bMD_serve 71 = .ok (.iastore, 1) := by decide +kernel
theorem dMD_serve_72 : decode bMD_serve 72 = .ok (.goto 26, 3) := by decide +kernel
theorem dMD_serve_75 : decode bMD_serve 75 = .ok (.aload_n 0, 1) := by decide +kernel
theorem dMD_serve_76 : decode bMD_serve 76 = .ok (.getfield 50, 3) := by decide +kernel
theorem dMD_serve_79 : decode bMD_serve 79 = .ok (.iconst 4, 1) := by decide +kernel
theorem dMD_serve_80 : decode bMD_serve 80 = .ok (.iload_n 1, 1) := by decide +kernel
theorem dMD_serve_81 : decode bMD_serve 81 = .ok (.imul, 1) := by decide +kernel
theorem dMD_serve_82 : decode bMD_serve 82 = .ok (.iload_n 3, 1) := by decide +kernel
theorem dMD_serve_83 : decode bMD_serve 83 = .ok (.iadd, 1) := by decide +kernel
theorem dMD_serve_84 : decode bMD_serve 84 = .ok (.aload_n 0, 1) := by decide +kernel
theorem dMD_serve_85 : decode bMD_serve 85 = .ok (.getfield 7, 3) := by decide +kernel
theorem dMD_serve_88 : decode bMD_serve 88 = .ok (.aload_n 0, 1) := by decide +kernel
theorem dMD_serve_89 : decode bMD_serve 89 = .ok (.getfield 32, 3) := by decide +kernel
theorem dMD_serve_92 : decode bMD_serve 92 = .ok (.iload_n 1, 1) := by decide +kernel
theorem dMD_serve_93 : decode bMD_serve 93 = .ok (.iaload, 1) := by decide +kernel
theorem dMD_serve_94 : decode bMD_serve 94 = .ok (.iload_n 3, 1) := by decide +kernel
theorem dMD_serve_95 : decode bMD_serve 95 = .ok (.iadd, 1) := by decide +kernel
theorem dMD_serve_96 : decode bMD_serve 96 = .ok (.iaload, 1) := by decide +kernel
theorem dMD_serve_97 : decode bMD_serve 97 = .ok (.iastore, 1) := by decide +kernel
theorem dMD_serve_98 : decode bMD_serve 98 = .ok (.iinc 3 1, 3) := by decide +kernel
theorem dMD_serve_101 : decode bMD_serve 101 = .ok (.goto (-66), 3) := by decide +kernel
theorem dMD_serve_104 : decode bMD_serve 104 = .ok (.iload_n 2, 1) := by decide +kernel
theorem dMD_serve_105 : decode bMD_serve 105 = .ok (.ifCond .eq 13, 3) := by decide +kernel
theorem dMD_serve_108 : decode bMD_serve 108 = .ok (.aload_n 0, 1) := by decide +kernel
theorem dMD_serve_109 : decode bMD_serve 109 = .ok (.getfield 26, 3) := by decide +kernel
theorem dMD_serve_112 : decode bMD_serve 112 = .ok (.iload_n 1, 1) := by decide +kernel
theorem dMD_serve_113 : decode bMD_serve 113 = .ok (.iconst 3, 1) := by decide +kernel
theorem dMD_serve_114 : decode bMD_serve 114 = .ok (.iastore, 1) := by decide +kernel
theorem dMD_serve_115 : decode bMD_serve 115 = .ok (.goto 15, 3) := by decide +kernel
theorem dMD_serve_118 : decode bMD_serve 118 = .ok (.aload_n 0, 1) := by decide +kernel
theorem dMD_serve_119 : decode bMD_serve 119 = .ok (.getfield 53, 3) := by decide +kernel
theorem dMD_serve_122 : decode bMD_serve 122 = .ok (.iload_n 1, 1) := by decide +kernel
theorem dMD_serve_123 : decode bMD_serve 123 = .ok (.aload_n 0, 1) := by decide +kernel
theorem dMD_serve_124 : decode bMD_serve 124 = .ok (.getfield 35, 3) := by decide +kernel
theorem dMD_serve_127 : decode bMD_serve 127 = .ok (.iload_n 1, 1) := by decide +kernel
theorem dMD_serve_128 : decode bMD_serve 128 = .ok (.iaload, 1) := by decide +kernel
theorem dMD_serve_129 : decode bMD_serve 129 = .ok (.iastore, 1) := by decide +kernel
theorem dMD_serve_130 : decode bMD_serve 130 = .ok (.bipush 6, 2) := by decide +kernel
theorem dMD_serve_132 : decode bMD_serve 132 = .ok (.aload_n 0, 1) := by decide +kernel
theorem dMD_serve_133 : decode bMD_serve 133 = .ok (.getfield 95, 3) := by decide +kernel
theorem dMD_serve_136 : decode bMD_serve 136 = .ok (.imul, 1) := by decide +kernel
theorem dMD_serve_137 : decode bMD_serve 137 = .ok (.istore_n 3, 1) := by decide +kernel
theorem dMD_serve_138 : decode bMD_serve 138 = .ok (.aload_n 0, 1) := by decide +kernel
theorem dMD_serve_139 : decode bMD_serve 139 = .ok (.getfield 63, 3) := by decide +kernel
theorem dMD_serve_142 : decode bMD_serve 142 = .ok (.iload_n 3, 1) := by decide +kernel
theorem dMD_serve_143 : decode bMD_serve 143 = .ok (.iload_n 1, 1) := by decide +kernel
theorem dMD_serve_144 : decode bMD_serve 144 = .ok (.iconst 4, 1) := by decide +kernel
theorem dMD_serve_145 : decode bMD_serve 145 = .ok (.idiv, 1) := by decide +kernel
theorem dMD_serve_146 : decode bMD_serve 146 = .ok (.iastore, 1) := by decide +kernel
theorem dMD_serve_147 : decode bMD_serve 147 = .ok (.aload_n 0, 1) := by decide +kernel
theorem dMD_serve_148 : decode bMD_serve 148 = .ok (.getfield 63, 3) := by decide +kernel
theorem dMD_serve_151 : decode bMD_serve 151 = .ok (.iload_n 3, 1) := by decide +kernel
theorem dMD_serve_152 : decode bMD_serve 152 = .ok (.iconst 1, 1) := by decide +kernel
theorem dMD_serve_153 : decode bMD_serve 153 = .ok (.iadd, 1) := by decide +kernel
theorem dMD_serve_154 : decode bMD_serve 154 = .ok (.iload_n 1, 1) := by decide +kernel
theorem dMD_serve_155 : decode bMD_serve 155 = .ok (.iconst 4, 1) := by decide +kernel
theorem dMD_serve_156 : decode bMD_serve 156 = .ok (.irem, 1) := by decide +kernel
theorem dMD_serve_157 : decode bMD_serve 157 = .ok (.iastore, 1) := by decide +kernel
theorem dMD_serve_158 : decode bMD_serve 158 = .ok (.aload_n 0, 1) := by decide +kernel
theorem dMD_serve_159 : decode bMD_serve 159 = .ok (.getfield 63, 3) := by decide +kernel
theorem dMD_serve_162 : decode bMD_serve 162 = .ok (.iload_n 3, 1) := by decide +kernel
theorem dMD_serve_163 : decode bMD_serve 163 = .ok (.iconst 2, 1) := by decide +kernel
theorem dMD_serve_164 : decode bMD_serve 164 = .ok (.iadd, 1) := by decide +kernel
theorem dMD_serve_165 : decode bMD_serve 165 = .ok (.aload_n 0, 1) := by decide +kernel
theorem dMD_serve_166 : decode bMD_serve 166 = .ok (.getfield 29, 3) := by decide +kernel
theorem dMD_serve_169 : decode bMD_serve 169 = .ok (.iload_n 1, 1) := by decide +kernel
theorem dMD_serve_170 : decode bMD_serve 170 = .ok (.iaload, 1) := by decide +kernel
theorem dMD_serve_171 : decode bMD_serve 171 = .ok (.iastore, 1) := by decide +kernel
theorem dMD_serve_172 : decode bMD_serve 172 = .ok (.aload_n 0, 1) := by decide +kernel
theorem dMD_serve_173 : decode bMD_serve 173 = .ok (.getfield 63, 3) := by decide +kernel
theorem dMD_serve_176 : decode bMD_serve 176 = .ok (.iload_n 3, 1) := by decide +kernel
theorem dMD_serve_177 : decode bMD_serve 177 = .ok (.iconst 3, 1) := by decide +kernel
theorem dMD_serve_178 : decode bMD_serve 178 = .ok (.iadd, 1) := by decide +kernel
theorem dMD_serve_179 : decode bMD_serve 179 = .ok (.aload_n 0, 1) := by decide +kernel
theorem dMD_serve_180 : decode bMD_serve 180 = .ok (.getfield 32, 3) := by decide +kernel
theorem dMD_serve_183 : decode bMD_serve 183 = .ok (.iload_n 1, 1) := by decide +kernel
theorem dMD_serve_184 : decode bMD_serve 184 = .ok (.iaload, 1) := by decide +kernel
theorem dMD_serve_185 : decode bMD_serve 185 = .ok (.iastore, 1) := by decide +kernel
theorem dMD_serve_186 : decode bMD_serve 186 = .ok (.aload_n 0, 1) := by decide +kernel
theorem dMD_serve_187 : decode bMD_serve 187 = .ok (.getfield 63, 3) := by decide +kernel
theorem dMD_serve_190 : decode bMD_serve 190 = .ok (.iload_n 3, 1) := by decide +kernel
theorem dMD_serve_191 : decode bMD_serve 191 = .ok (.iconst 4, 1) := by decide +kernel
theorem dMD_serve_192 : decode bMD_serve 192 = .ok (.iadd, 1) := by decide +kernel
theorem dMD_serve_193 : decode bMD_serve 193 = .ok (.aload_n 0, 1) := by decide +kernel
theorem dMD_serve_194 : decode bMD_serve 194 = .ok (.getfield 35, 3) := by decide +kernel
theorem dMD_serve_197 : decode bMD_serve 197 = .ok (.iload_n 1, 1) := by decide +kernel
theorem dMD_serve_198 : decode bMD_serve 198 = .ok (.iaload, 1) := by decide +kernel
theorem dMD_serve_199 : decode bMD_serve 199 = .ok (.iastore, 1) := by decide +kernel
theorem dMD_serve_200 : decode bMD_serve 200 = .ok (.aload_n 0, 1) := by decide +kernel
theorem dMD_serve_201 : decode bMD_serve 201 = .ok (.getfield 63, 3) := by decide +kernel
theorem dMD_serve_204 : decode bMD_serve 204 = .ok (.iload_n 3, 1) := by decide +kernel
theorem dMD_serve_205 : decode bMD_serve 205 = .ok (.iconst 5, 1) := by decide +kernel
theorem dMD_serve_206 : decode bMD_serve 206 = .ok (.iadd, 1) := by decide +kernel
theorem dMD_serve_207 : decode bMD_serve 207 = .ok (.aload_n 0, 1) := by decide +kernel
theorem dMD_serve_208 : decode bMD_serve 208 = .ok (.getfield 98, 3) := by decide +kernel
theorem dMD_serve_211 : decode bMD_serve 211 = .ok (.iconst 1, 1) := by decide +kernel
theorem dMD_serve_212 : decode bMD_serve 212 = .ok (.iadd, 1) := by decide +kernel
theorem dMD_serve_213 : decode bMD_serve 213 = .ok (.iastore, 1) := by decide +kernel
theorem dMD_serve_214 : decode bMD_serve 214 = .ok (.aload_n 0, 1) := by decide +kernel
theorem dMD_serve_215 : decode bMD_serve 215 = .ok (.dup, 1) := by decide +kernel
theorem dMD_serve_216 : decode bMD_serve 216 = .ok (.getfield 95, 3) := by decide +kernel
theorem dMD_serve_219 : decode bMD_serve 219 = .ok (.iconst 1, 1) := by decide +kernel
theorem dMD_serve_220 : decode bMD_serve 220 = .ok (.iadd, 1) := by decide +kernel
theorem dMD_serve_221 : decode bMD_serve 221 = .ok (.putfield 95, 3) := by decide +kernel
theorem dMD_serve_224 : decode bMD_serve 224 = .ok (.return_, 1) := by decide +kernel
theorem dMD_giveBack_0 : decode bMD_giveBack 0 = .ok (.iconst (-1), 1) := by decide +kernel
theorem dMD_giveBack_1 : decode bMD_giveBack 1 = .ok (.istore_n 1, 1) := by decide +kernel
theorem dMD_giveBack_2 : decode bMD_giveBack 2 = .ok (.bipush 16, 2) := by decide +kernel
theorem dMD_giveBack_4 : decode bMD_giveBack 4 = .ok (.istore_n 2, 1) := by decide +kernel
theorem dMD_giveBack_5 : decode bMD_giveBack 5 = .ok (.iload_n 2, 1) := by decide +kernel
theorem dMD_giveBack_6 : decode bMD_giveBack 6 = .ok (.ifCond .le 34, 3) := by decide +kernel
theorem dMD_giveBack_9 : decode bMD_giveBack 9 = .ok (.aload_n 0, 1) := by decide +kernel
theorem dMD_giveBack_10 : decode bMD_giveBack 10 = .ok (.getfield 56, 3) := by decide +kernel
theorem dMD_giveBack_13 : decode bMD_giveBack 13 = .ok (.iload_n 2, 1) := by decide +kernel
theorem dMD_giveBack_14 : decode bMD_giveBack 14 = .ok (.iadd, 1) := by decide +kernel
theorem dMD_giveBack_15 : decode bMD_giveBack 15 = .ok (.bipush 16, 2) := by decide +kernel
theorem dMD_giveBack_17 : decode bMD_giveBack 17 = .ok (.irem, 1) := by decide +kernel
theorem dMD_giveBack_18 : decode bMD_giveBack 18 = .ok (.istore_n 3, 1) := by decide +kernel
theorem dMD_giveBack_19 : decode bMD_giveBack 19 = .ok (.aload_n 0, 1) := by decide +kernel
theorem dMD_giveBack_20 : decode bMD_giveBack 20 = .ok (.getfield 53, 3) := by decide +kernel
theorem dMD_giveBack_23 : decode bMD_giveBack 23 = .ok (.iload_n 3, 1) := by decide +kernel
theorem dMD_giveBack_24 : decode bMD_giveBack 24 = .ok (.iaload, 1) := by decide +kernel
theorem dMD_giveBack_25 : decode bMD_giveBack 25 = .ok (.ifCond .le 7, 3) := by decide +kernel
theorem dMD_giveBack_28 : decode bMD_giveBack 28 = .ok (.iload_n 3, 1) := by decide +kernel
theorem dMD_giveBack_29 : decode bMD_giveBack 29 = .ok (.goto 4, 3) := by decide +kernel
theorem dMD_giveBack_32 : decode bMD_giveBack 32 = .ok (.iload_n 1, 1) := by decide +kernel
theorem dMD_giveBack_33 : decode bMD_giveBack 33 = .ok (.istore_n 1, 1) := by decide +kernel
theorem dMD_giveBack_34 : decode bMD_giveBack 34 = .ok (.iinc 2 (-1), 3) := by decide +kernel
theorem dMD_giveBack_37 : decode bMD_giveBack 37 = .ok (.goto (-32), 3) := by decide +kernel
theorem dMD_giveBack_40 : decode bMD_giveBack 40 = .ok (.iload_n 1, 1) := by decide +kernel
theorem dMD_giveBack_41 : decode bMD_giveBack 41 = .ok (.ifCond .lt 43, 3) := by decide +kernel
theorem dMD_giveBack_44 : decode bMD_giveBack 44 = .ok (.aload_n 0, 1) := by decide +kernel
theorem dMD_giveBack_45 : decode bMD_giveBack 45 = .ok (.iload_n 1, 1) := by decide +kernel
theorem dMD_giveBack_46 : decode bMD_giveBack 46 = .ok (.putfield 56, 3) := by decide +kernel
theorem dMD_giveBack_49 : decode bMD_giveBack 49 = .ok (.aload_n 0, 1) := by decide +kernel
theorem dMD_giveBack_50 : decode bMD_giveBack 50 = .ok (.getfield 53, 3) := by decide +kernel
theorem dMD_giveBack_53 : decode bMD_giveBack 53 = .ok (.iload_n 1, 1) := by decide +kernel
theorem dMD_giveBack_54 : decode bMD_giveBack 54 = .ok (.dup2, 1) := by decide +kernel
theorem dMD_giveBack_55 : decode bMD_giveBack 55 = .ok (.iaload, 1) := by decide +kernel
theorem dMD_giveBack_56 : decode bMD_giveBack 56 = .ok (.iconst 1, 1) := by decide +kernel
theorem dMD_giveBack_57 : decode bMD_giveBack 57 = .ok (.isub, 1) := by decide +kernel
theorem dMD_giveBack_58 : decode bMD_giveBack 58 = .ok (.iastore, 1) := by decide +kernel
theorem dMD_giveBack_59 : decode bMD_giveBack 59 = .ok (.aload_n 0, 1) := by decide +kernel
theorem dMD_giveBack_60 : decode bMD_giveBack 60 = .ok (.getfield 26, 3) := by decide +kernel
theorem dMD_giveBack_63 : decode bMD_giveBack 63 = .ok (.iload_n 1, 1) := by decide +kernel
theorem dMD_giveBack_64 : decode bMD_giveBack 64 = .ok (.aload_n 0, 1) := by decide +kernel
theorem dMD_giveBack_65 : decode bMD_giveBack 65 = .ok (.getfield 53, 3) := by decide +kernel
theorem dMD_giveBack_68 : decode bMD_giveBack 68 = .ok (.iload_n 1, 1) := by decide +kernel
theorem dMD_giveBack_69 : decode bMD_giveBack 69 = .ok (.iaload, 1) := by decide +kernel
theorem dMD_giveBack_70 : decode bMD_giveBack 70 = .ok (.ifCond .ne 7, 3) := by decide +kernel
theorem dMD_giveBack_73 : decode bMD_giveBack 73 = .ok (.iconst 3, 1) := by decide +kernel
theorem dMD_giveBack_74 : decode bMD_giveBack 74 = .ok (.goto 9, 3) := by decide +kernel
theorem dMD_giveBack_77 : decode bMD_giveBack 77 = .ok (.aload_n 0, 1) := by decide +kernel
theorem dMD_giveBack_78 : decode bMD_giveBack 78 = .ok (.getfield 26, 3) := by decide +kernel
theorem dMD_giveBack_81 : decode bMD_giveBack 81 = .ok (.iload_n 1, 1) := by decide +kernel
theorem dMD_giveBack_82 : decode bMD_giveBack 82 = .ok (.iaload, 1) := by decide +kernel
theorem dMD_giveBack_83 : decode bMD_giveBack 83 = .ok (.iastore, 1) := by decide +kernel
theorem dMD_giveBack_84 : decode bMD_giveBack 84 = .ok (.return_, 1) := by decide +kernel
theorem dMD_grant_0 : decode bMD_grant 0 = .ok (.iconst (-1), 1) := by decide +kernel
theorem dMD_grant_1 : decode bMD_grant 1 = .ok (.istore_n 1, 1) := by decide +kernel
theorem dMD_grant_2 : decode bMD_grant 2 = .ok (.iconst 0, 1) := by decide +kernel
theorem dMD_grant_3 : decode bMD_grant 3 = .ok (.istore_n 2, 1) := by decide +kernel
theorem dMD_grant_4 : decode bMD_grant 4 = .ok (.iload_n 2, 1) := by decide +kernel
theorem dMD_grant_5 : decode bMD_grant 5 = .ok (.bipush 16, 2) := by decide +kernel
theorem dMD_grant_7 : decode bMD_grant 7 = .ok (.if_icmp .ge 36, 3) := by decide +kernel
theorem dMD_grant_10 : decode bMD_grant 10 = .ok (.aload_n 0, 1) := by decide +kernel
theorem dMD_grant_11 : decode bMD_grant 11 = .ok (.iload_n 2, 1) := by decide +kernel
theorem dMD_grant_12 : decode bMD_grant 12 = .ok (.invokevirtual 116, 3) := by decide +kernel
theorem dMD_grant_15 : decode bMD_grant 15 = .ok (.ifCond .eq 20, 3) := by decide +kernel
theorem dMD_grant_18 : decode bMD_grant 18 = .ok (.iload_n 1, 1) := by decide +kernel
theorem dMD_grant_19 : decode bMD_grant 19 = .ok (.ifCond .lt 12, 3) := by decide +kernel
theorem dMD_grant_22 : decode bMD_grant 22 = .ok (.aload_n 0, 1) := by decide +kernel
theorem dMD_grant_23 : decode bMD_grant 23 = .ok (.iload_n 2, 1) := by decide +kernel
theorem dMD_grant_24 : decode bMD_grant 24 = .ok (.iload_n 1, 1) := by decide +kernel
theorem dMD_grant_25 : decode bMD_grant 25 = .ok (.invokevirtual 119, 3) := by decide +kernel
theorem dMD_grant_28 : decode bMD_grant 28 = .ok (.ifCond .eq 7, 3) := by decide +kernel
theorem dMD_grant_31 : decode bMD_grant 31 = .ok (.iload_n 2, 1) := by decide +kernel
theorem dMD_grant_32 : decode bMD_grant 32 = .ok (.goto 4, 3) := by decide +kernel
theorem dMD_grant_35 : decode bMD_grant 35 = .ok (.iload_n 1, 1) := by decide +kernel
theorem dMD_grant_36 : decode bMD_grant 36 = .ok (.istore_n 1, 1) := by decide +kernel
theorem dMD_grant_37 : decode bMD_grant 37 = .ok (.iinc 2 1, 3) := by decide +kernel
theorem dMD_grant_40 : decode bMD_grant 40 = .ok (.goto (-36), 3) := by decide +kernel
theorem dMD_grant_43 : decode bMD_grant 43 = .ok (.iload_n 1, 1) := by decide +kernel
theorem dMD_grant_44 : decode bMD_grant 44 = .ok (.ifCond .ge 5, 3) := by decide +kernel
theorem dMD_grant_47 : decode bMD_grant 47 = .ok (.iconst (-1), 1) := by decide +kernel
theorem dMD_grant_48 : decode bMD_grant 48 = .ok (.ireturn, 1) := by decide +kernel
theorem dMD_grant_49 : decode bMD_grant 49 = .ok (.aload_n 0, 1) := by decide +kernel
theorem dMD_grant_50 : decode bMD_grant 50 = .ok (.dup, 1) := by decide +kernel
theorem dMD_grant_51 : decode bMD_grant 51 = .ok (.getfield 122, 3) := by decide +kernel
theorem dMD_grant_54 : decode bMD_grant 54 = .ok (.iconst 1, 1) := by decide +kernel
theorem dMD_grant_55 : decode bMD_grant 55 = .ok (.iadd, 1) := by decide +kernel
theorem dMD_grant_56 : decode bMD_grant 56 = .ok (.putfield 122, 3) := by decide +kernel
theorem dMD_grant_59 : decode bMD_grant 59 = .ok (.aload_n 0, 1) := by decide +kernel
theorem dMD_grant_60 : decode bMD_grant 60 = .ok (.iload_n 1, 1) := by decide +kernel
theorem dMD_grant_61 : decode bMD_grant 61 = .ok (.iconst 4, 1) := by decide +kernel
theorem dMD_grant_62 : decode bMD_grant 62 = .ok (.idiv, 1) := by decide +kernel
theorem dMD_grant_63 : decode bMD_grant 63 = .ok (.putfield 60, 3) := by decide +kernel
theorem dMD_grant_66 : decode bMD_grant 66 = .ok (.aload_n 0, 1) := by decide +kernel
theorem dMD_grant_67 : decode bMD_grant 67 = .ok (.iload_n 1, 1) := by decide +kernel
theorem dMD_grant_68 : decode bMD_grant 68 = .ok (.invokevirtual 107, 3) := by decide +kernel
theorem dMD_grant_71 : decode bMD_grant 71 = .ok (.ifCond .ne 26, 3) := by decide +kernel
theorem dMD_grant_74 : decode bMD_grant 74 = .ok (.aload_n 0, 1) := by decide +kernel
theorem dMD_grant_75 : decode bMD_grant 75 = .ok (.getfield 26, 3) := by decide +kernel
theorem dMD_grant_78 : decode bMD_grant 78 = .ok (.iload_n 1, 1) := by decide +kernel
theorem dMD_grant_79 : decode bMD_grant 79 = .ok (.aload_n 0, 1) := by decide +kernel
theorem dMD_grant_80 : decode bMD_grant 80 = .ok (.getfield 29, 3) := by decide +kernel
theorem dMD_grant_83 : decode bMD_grant 83 = .ok (.iload_n 1, 1) := by decide +kernel
theorem dMD_grant_84 : decode bMD_grant 84 = .ok (.iaload, 1) := by decide +kernel
theorem dMD_grant_85 : decode bMD_grant 85 = .ok (.iconst 4, 1) := by decide +kernel
theorem dMD_grant_86 : decode bMD_grant 86 = .ok (.if_icmp .ne 7, 3) := by decide +kernel
theorem dMD_grant_89 : decode bMD_grant 89 = .ok (.iconst 3, 1) := by decide +kernel
theorem dMD_grant_90 : decode bMD_grant 90 = .ok (.goto 4, 3) := by decide +kernel
theorem dMD_grant_93 : decode bMD_grant 93 = .ok (.iconst 4, 1) := by decide +kernel
theorem dMD_grant_94 : decode bMD_grant 94 = .ok (.iastore, 1) := by decide +kernel
theorem dMD_grant_95 : decode bMD_grant 95 = .ok (.iload_n 1, 1) := by decide +kernel
theorem dMD_grant_96 : decode bMD_grant 96 = .ok (.ireturn, 1) := by decide +kernel
theorem dMD_grant_97 : decode bMD_grant 97 = .ok (.aload_n 0, 1) := by decide +kernel
theorem dMD_grant_98 : decode bMD_grant 98 = .ok (.getfield 26, 3) := by decide +kernel
theorem dMD_grant_101 : decode bMD_grant 101 = .ok (.iload_n 1, 1) := by decide +kernel
theorem dMD_grant_102 : decode bMD_grant 102 = .ok (.iconst 2, 1) := by decide +kernel
theorem dMD_grant_103 : decode bMD_grant 103 = .ok (.iastore, 1) := by decide +kernel
theorem dMD_grant_104 : decode bMD_grant 104 = .ok (.aload_n 0, 1) := by decide +kernel
theorem dMD_grant_105 : decode bMD_grant 105 = .ok (.getfield 44, 3) := by decide +kernel
theorem dMD_grant_108 : decode bMD_grant 108 = .ok (.iload_n 1, 1) := by decide +kernel
theorem dMD_grant_109 : decode bMD_grant 109 = .ok (.aload_n 0, 1) := by decide +kernel
theorem dMD_grant_110 : decode bMD_grant 110 = .ok (.getfield 122, 3) := by decide +kernel
theorem dMD_grant_113 : decode bMD_grant 113 = .ok (.iastore, 1) := by decide +kernel
theorem dMD_grant_114 : decode bMD_grant 114 = .ok (.aload_n 0, 1) := by decide +kernel
theorem dMD_grant_115 : decode bMD_grant 115 = .ok (.getfield 29, 3) := by decide +kernel
theorem dMD_grant_118 : decode bMD_grant 118 = .ok (.iload_n 1, 1) := by decide +kernel
theorem dMD_grant_119 : decode bMD_grant 119 = .ok (.iaload, 1) := by decide +kernel
theorem dMD_grant_120 : decode bMD_grant 120 = .ok (.iconst 2, 1) := by decide +kernel
theorem dMD_grant_121 : decode bMD_grant 121 = .ok (.if_icmp .ne 16, 3) := by decide +kernel
theorem dMD_grant_124 : decode bMD_grant 124 = .ok (.aload_n 0, 1) := by decide +kernel
theorem dMD_grant_125 : decode bMD_grant 125 = .ok (.getfield 23, 3) := by decide +kernel
theorem dMD_grant_128 : decode bMD_grant 128 = .ok (.aload_n 0, 1) := by decide +kernel
theorem dMD_grant_129 : decode bMD_grant 129 = .ok (.iload_n 1, 1) := by decide +kernel
theorem dMD_grant_130 : decode bMD_grant 130 = .ok (.invokevirtual 91, 3) := by decide +kernel
theorem dMD_grant_133 : decode bMD_grant 133 = .ok (.iload_n 1, 1) := by decide +kernel
theorem dMD_grant_134 : decode bMD_grant 134 = .ok (.iconst 4, 1) := by decide +kernel
theorem dMD_grant_135 : decode bMD_grant 135 = .ok (.idiv, 1) := by decide +kernel
theorem dMD_grant_136 : decode bMD_grant 136 = .ok (.iastore, 1) := by decide +kernel
theorem dMD_grant_137 : decode bMD_grant 137 = .ok (.aload_n 0, 1) := by decide +kernel
theorem dMD_grant_138 : decode bMD_grant 138 = .ok (.getfield 29, 3) := by decide +kernel
theorem dMD_grant_141 : decode bMD_grant 141 = .ok (.iload_n 1, 1) := by decide +kernel
theorem dMD_grant_142 : decode bMD_grant 142 = .ok (.iaload, 1) := by decide +kernel
theorem dMD_grant_143 : decode bMD_grant 143 = .ok (.iconst 3, 1) := by decide +kernel
theorem dMD_grant_144 : decode bMD_grant 144 = .ok (.if_icmp .ne 14, 3) := by decide +kernel
theorem dMD_grant_147 : decode bMD_grant 147 = .ok (.aload_n 0, 1) := by decide +kernel
theorem dMD_grant_148 : decode bMD_grant 148 = .ok (.getfield 23, 3) := by decide +kernel
theorem dMD_grant_151 : decode bMD_grant 151 = .ok (.aload_n 0, 1) := by decide +kernel
theorem dMD_grant_152 : decode bMD_grant 152 = .ok (.iload_n 1, 1) := by decide +kernel
theorem dMD_grant_153 : decode bMD_grant 153 = .ok (.invokevirtual 91, 3) := by decide +kernel
theorem dMD_grant_156 : decode bMD_grant 156 = .ok (.iconst (-1), 1) := by decide +kernel
theorem dMD_grant_157 : decode bMD_grant 157 = .ok (.iastore, 1) := by decide +kernel
theorem dMD_grant_158 : decode bMD_grant 158 = .ok (.iload_n 1, 1) := by decide +kernel
theorem dMD_grant_159 : decode bMD_grant 159 = .ok (.ireturn, 1) := by decide +kernel
theorem dMD_isEligible_0 : decode bMD_isEligible 0 = .ok (.aload_n 0, 1) := by decide +kernel
theorem dMD_isEligible_1 : decode bMD_isEligible 1 = .ok (.getfield 26, 3) := by decide +kernel
theorem dMD_isEligible_4 : decode bMD_isEligible 4 = .ok (.iload_n 1, 1) := by decide +kernel
theorem dMD_isEligible_5 : decode bMD_isEligible 5 = .ok (.iaload, 1) := by decide +kernel
theorem dMD_isEligible_6 : decode bMD_isEligible 6 = .ok (.iconst 1, 1) := by decide +kernel
theorem dMD_isEligible_7 : decode bMD_isEligible 7 = .ok (.if_icmp .eq 5, 3) := by decide +kernel
theorem dMD_isEligible_10 : decode bMD_isEligible 10 = .ok (.iconst 0, 1) := by decide +kernel
theorem dMD_isEligible_11 : decode bMD_isEligible 11 = .ok (.ireturn, 1) := by decide +kernel
theorem dMD_isEligible_12 : decode bMD_isEligible 12 = .ok (.iconst 0, 1) := by decide +kernel
theorem dMD_isEligible_13 : decode bMD_isEligible 13 = .ok (.istore_n 2, 1) := by decide +kernel
theorem dMD_isEligible_14 : decode bMD_isEligible 14 = .ok (.iload_n 2, 1) := by decide +kernel
theorem dMD_isEligible_15 : decode bMD_isEligible 15 = .ok (.iconst 4, 1) := by decide +kernel
theorem dMD_isEligible_16 : decode bMD_isEligible 16 = .ok (.if_icmp .ge 93, 3) := by decide +kernel
theorem dMD_isEligible_19 : decode bMD_isEligible 19 = .ok (.iconst 4, 1) := by decide +kernel
theorem dMD_isEligible_20 : decode bMD_isEligible 20 = .ok (.iload_n 1, 1) := by decide +kernel
theorem dMD_isEligible_21 : decode bMD_isEligible 21 = .ok (.iconst 4, 1) := by decide +kernel
theorem dMD_isEligible_22 : decode bMD_isEligible 22 = .ok (.idiv, 1) := by decide +kernel
theorem dMD_isEligible_23 : decode bMD_isEligible 23 = .ok (.imul, 1) := by decide +kernel
theorem dMD_isEligible_24 : decode bMD_isEligible 24 = .ok (.iload_n 2, 1) := by decide +kernel
theorem dMD_isEligible_25 : decode bMD_isEligible 25 = .ok (.iadd, 1) := by decide +kernel
theorem dMD_isEligible_26 : decode bMD_isEligible 26 = .ok (.istore_n 3, 1) := by decide +kernel
theorem dMD_isEligible_27 : decode bMD_isEligible 27 = .ok (.aload_n 0, 1) := by decide +kernel
theorem dMD_isEligible_28 : decode bMD_isEligible 28 = .ok (.iload_n 3, 1) := by decide +kernel
theorem dMD_isEligible_29 : decode bMD_isEligible 29 = .ok (.invokevirtual 101, 3) := by decide +kernel
theorem dMD_isEligible_32 : decode bMD_isEligible 32 = .ok (.ifCond .eq 71, 3) := by decide +kernel
theorem dMD_isEligible_35 : decode bMD_isEligible 35 = .ok (.aload_n 0, 1) := by decide +kernel
theorem dMD_isEligible_36 : decode bMD_isEligible 36 = .ok (.getfield 41, 3) := by decide +kernel
theorem dMD_isEligible_39 : decode bMD_isEligible 39 = .ok (.iload_n 3, 1) := by decide +kernel
theorem dMD_isEligible_40 : decode bMD_isEligible 40 = .ok (.iaload, 1) := by decide +kernel
theorem dMD_isEligible_41 : decode bMD_isEligible 41 = .ok (.aload_n 0, 1) := by decide +kernel
theorem dMD_isEligible_42 : decode bMD_isEligible 42 = .ok (.getfield 41, 3) := by decide +kernel
theorem dMD_isEligible_45 : decode bMD_isEligible 45 = .ok (.iload_n 1, 1) := by decide +kernel
theorem dMD_isEligible_46 : decode bMD_isEligible 46 = .ok (.iaload, 1) := by decide +kernel
theorem dMD_isEligible_47 : decode bMD_isEligible 47 = .ok (.if_icmp .ge 56, 3) := by decide +kernel
theorem dMD_isEligible_50 : decode bMD_isEligible 50 = .ok (.aload_n 0, 1) := by decide +kernel
theorem dMD_isEligible_51 : decode bMD_isEligible 51 = .ok (.getfield 29, 3) := by decide +kernel
theorem dMD_isEligible_54 : decode bMD_isEligible 54 = .ok (.iload_n 3, 1) := by decide +kernel
theorem dMD_isEligible_55 : decode bMD_isEligible 55 = .ok (.iaload, 1) := by decide +kernel
theorem dMD_isEligible_56 : decode bMD_isEligible 56 = .ok (.iconst 4, 1) := by decide +kernel
theorem dMD_isEligible_57 : decode bMD_isEligible 57 = .ok (.if_icmp .eq 32, 3) := by decide +kernel
theorem dMD_isEligible_60 : decode bMD_isEligible 60 = .ok (.aload_n 0, 1) := by decide +kernel
theorem dMD_isEligible_61 : decode bMD_isEligible 61 = .ok (.getfield 29, 3) := by decide +kernel
theorem dMD_isEligible_64 : decode bMD_isEligible 64 = .ok (.iload_n 1, 1) := by decide +kernel
theorem dMD_isEligible_65 : decode bMD_isEligible 65 = .ok (.iaload, 1) := by decide +kernel
theorem dMD_isEligible_66 : decode bMD_isEligible 66 = .ok (.iconst 4, 1) := by decide +kernel
theorem dMD_isEligible_67 : decode bMD_isEligible 67 = .ok (.if_icmp .eq 22, 3) := by decide +kernel
theorem dMD_isEligible_70 : decode bMD_isEligible 70 = .ok (.aload_n 0, 1) := by decide +kernel
theorem dMD_isEligible_71 : decode bMD_isEligible 71 = .ok (.getfield 26, 3) := by decide +kernel
theorem dMD_isEligible_74 : decode bMD_isEligible 74 = .ok (.iload_n 3, 1) := by decide +kernel
theorem dMD_isEligible_75 : decode bMD_isEligible 75 = .ok (.iaload, 1) := by decide +kernel
theorem dMD_isEligible_76 : decode bMD_isEligible 76 = .ok (.iconst 1, 1) := by decide +kernel
theorem dMD_isEligible_77 : decode bMD_isEligible 77 = .ok (.if_icmp .ne 16, 3) := by decide +kernel
theorem dMD_isEligible_80 : decode bMD_isEligible 80 = .ok (.aload_n 0, 1) := by decide +kernel
theorem dMD_isEligible_81 : decode bMD_isEligible 81 = .ok (.iload_n 1, 1) := by decide +kernel
theorem dMD_isEligible_82 : decode bMD_isEligible 82 = .ok (.iload_n 3, 1) := by decide +kernel
theorem dMD_isEligible_83 : decode bMD_isEligible 83 = .ok (.invokevirtual 104, 3) := by decide +kernel
theorem dMD_isEligible_86 : decode bMD_isEligible 86 = .ok (.ifCond .eq 7, 3) := by decide +kernel
theorem dMD_isEligible_89 : decode bMD_isEligible 89 = .ok (.iconst 1, 1) := by decide +kernel
theorem dMD_isEligible_90 : decode bMD_isEligible 90 = .ok (.goto 4, 3) := by decide +kernel
theorem dMD_isEligible_93 : decode bMD_isEligible 93 = .ok (.iconst 0, 1) := by decide +kernel
theorem dMD_isEligible_94 : decode bMD_isEligible 94 = .ok (.istore 4, 2) := by decide +kernel
theorem dMD_isEligible_96 : decode bMD_isEligible 96 = .ok (.iload 4, 2) := by decide +kernel
theorem dMD_isEligible_98 : decode bMD_isEligible 98 = .ok (.ifCond .eq 5, 3) := by decide +kernel
theorem dMD_isEligible_101 : decode bMD_isEligible 101 = .ok (.iconst 0, 1) := by decide +kernel
theorem dMD_isEligible_102 : decode bMD_isEligible 102 = .ok (.ireturn, 1) := by decide +kernel
theorem dMD_isEligible_103 : decode bMD_isEligible 103 = .ok (.iinc 2 1, 3) := by decide +kernel
theorem dMD_isEligible_106 : decode bMD_isEligible 106 = .ok (.goto (-92), 3) := by decide +kernel
theorem dMD_isEligible_109 : decode bMD_isEligible 109 = .ok (.aload_n 0, 1) := by decide +kernel
theorem dMD_isEligible_110 : decode bMD_isEligible 110 = .ok (.iload_n 1, 1) := by decide +kernel
theorem dMD_isEligible_111 : decode bMD_isEligible 111 = .ok (.invokevirtual 107, 3) := by decide +kernel
theorem dMD_isEligible_114 : decode bMD_isEligible 114 = .ok (.ifCond .ne 5, 3) := by decide +kernel
theorem dMD_isEligible_117 : decode bMD_isEligible 117 = .ok (.iconst 1, 1) := by decide +kernel
theorem dMD_isEligible_118 : decode bMD_isEligible 118 = .ok (.ireturn, 1) := by decide +kernel
theorem dMD_isEligible_119 : decode bMD_isEligible 119 = .ok (.aload_n 0, 1) := by decide +kernel
theorem dMD_isEligible_120 : decode bMD_isEligible 120 = .ok (.getfield 23, 3) := by decide +kernel
theorem dMD_isEligible_123 : decode bMD_isEligible 123 = .ok (.aload_n 0, 1) := by decide +kernel
theorem dMD_isEligible_124 : decode bMD_isEligible 124 = .ok (.iload_n 1, 1) := by decide +kernel
theorem dMD_isEligible_125 : decode bMD_isEligible 125 = .ok (.invokevirtual 91, 3) := by decide +kernel
theorem dMD_isEligible_128 : decode bMD_isEligible 128 = .ok (.iaload, 1) := by decide +kernel
theorem dMD_isEligible_129 : decode bMD_isEligible 129 = .ok (.istore_n 2, 1) := by decide +kernel
theorem dMD_isEligible_130 : decode bMD_isEligible 130 = .ok (.aload_n 0, 1) := by decide +kernel
theorem dMD_isEligible_131 : decode bMD_isEligible 131 = .ok (.aload_n 0, 1) := by decide +kernel
theorem dMD_isEligible_132 : decode bMD_isEligible 132 = .ok (.iload_n 1, 1) := by decide +kernel
theorem dMD_isEligible_133 : decode bMD_isEligible 133 = .ok (.invokevirtual 91, 3) := by decide +kernel
theorem dMD_isEligible_136 : decode bMD_isEligible 136 = .ok (.invokevirtual 110, 3) := by decide +kernel
theorem dMD_isEligible_139 : decode bMD_isEligible 139 = .ok (.ifCond .le 29, 3) := by decide +kernel
theorem dMD_isEligible_142 : decode bMD_isEligible 142 = .ok (.iload_n 2, 1) := by decide +kernel
theorem dMD_isEligible_143 : decode bMD_isEligible 143 = .ok (.iconst (-1), 1) := by decide +kernel
theorem dMD_isEligible_144 : decode bMD_isEligible 144 = .ok (.if_icmp .eq 20, 3) := by decide +kernel
theorem dMD_isEligible_147 : decode bMD_isEligible 147 = .ok (.aload_n 0, 1) := by decide +kernel
theorem dMD_isEligible_148 : decode bMD_isEligible 148 = .ok (.getfield 29, 3) := by decide +kernel
theorem dMD_isEligible_151 : decode bMD_isEligible 151 = .ok (.iload_n 1, 1) := by decide +kernel
theorem dMD_isEligible_152 : decode bMD_isEligible 152 = .ok (.iaload, 1) := by decide +kernel
theorem dMD_isEligible_153 : decode bMD_isEligible 153 = .ok (.iconst 3, 1) := by decide +kernel
theorem dMD_isEligible_154 : decode bMD_isEligible 154 = .ok (.if_icmp .ne 14, 3) := by decide +kernel
theorem dMD_isEligible_157 : decode bMD_isEligible 157 = .ok (.iload_n 2, 1) := by decide +kernel
theorem dMD_isEligible_158 : decode bMD_isEligible 158 = .ok (.iload_n 1, 1) := by decide +kernel
theorem dMD_isEligible_159 : decode bMD_isEligible 159 = .ok (.iconst 4, 1) := by decide +kernel
theorem dMD_isEligible_160 : decode bMD_isEligible 160 = .ok (.idiv, 1) := by decide +kernel
theorem dMD_isEligible_161 : decode bMD_isEligible 161 = .ok (.if_icmp .ne 7, 3) := by decide +kernel
theorem dMD_isEligible_164 : decode bMD_isEligible 164 = .ok (.iconst 1, 1) := by decide +kernel
theorem dMD_isEligible_165 : decode bMD_isEligible 165 = .ok (.goto 4, 3) := by decide +kernel
theorem dMD_isEligible_168 : decode bMD_isEligible 168 = .ok (.iconst 0, 1) := by decide +kernel
theorem dMD_isEligible_169 : decode bMD_isEligible 169 = .ok (.ireturn, 1) := by decide +kernel
theorem dMD_isOpen_0 : decode bMD_isOpen 0 = .ok (.aload_n 0, 1) := by decide +kernel
theorem dMD_isOpen_1 : decode bMD_isOpen 1 = .ok (.getfield 26, 3) := by decide +kernel
theorem dMD_isOpen_4 : decode bMD_isOpen 4 = .ok (.iload_n 1, 1) := by decide +kernel
theorem dMD_isOpen_5 : decode bMD_isOpen 5 = .ok (.iaload, 1) := by decide +kernel
theorem dMD_isOpen_6 : decode bMD_isOpen 6 = .ok (.iconst 1, 1) := by decide +kernel
theorem dMD_isOpen_7 : decode bMD_isOpen 7 = .ok (.if_icmp .eq 13, 3) := by decide +kernel
theorem dMD_isOpen_10 : decode bMD_isOpen 10 = .ok (.aload_n 0, 1) := by decide +kernel
theorem dMD_isOpen_11 : decode bMD_isOpen 11 = .ok (.getfield 26, 3) := by decide +kernel
theorem dMD_isOpen_14 : decode bMD_isOpen 14 = .ok (.iload_n 1, 1) := by decide +kernel
theorem dMD_isOpen_15 : decode bMD_isOpen 15 = .ok (.iaload, 1) := by decide +kernel
theorem dMD_isOpen_16 : decode bMD_isOpen 16 = .ok (.iconst 2, 1) := by decide +kernel
theorem dMD_isOpen_17 : decode bMD_isOpen 17 = .ok (.if_icmp .ne 7, 3) := by decide +kernel
theorem dMD_isOpen_20 : decode bMD_isOpen 20 = .ok (.iconst 1, 1) := by decide +kernel
theorem dMD_isOpen_21 : decode bMD_isOpen 21 = .ok (.goto 4, 3) := by decide +kernel
theorem dMD_isOpen_24 : decode bMD_isOpen 24 = .ok (.iconst 0, 1) := by decide +kernel
theorem dMD_isOpen_25 : decode bMD_isOpen 25 = .ok (.ireturn, 1) := by decide +kernel
theorem dMD_meet_0 : decode bMD_meet 0 = .ok (.aload_n 0, 1) := by decide +kernel
theorem dMD_meet_1 : decode bMD_meet 1 = .ok (.getfield 29, 3) := by decide +kernel
theorem dMD_meet_4 : decode bMD_meet 4 = .ok (.iload_n 1, 1) := by decide +kernel
theorem dMD_meet_5 : decode bMD_meet 5 = .ok (.iaload, 1) := by decide +kernel
theorem dMD_meet_6 : decode bMD_meet 6 = .ok (.iconst 4, 1) := by decide +kernel
theorem dMD_meet_7 : decode bMD_meet 7 = .ok (.if_icmp .eq 61, 3) := by decide +kernel
theorem dMD_meet_10 : decode bMD_meet 10 = .ok (.aload_n 0, 1) := by decide +kernel
theorem dMD_meet_11 : decode bMD_meet 11 = .ok (.getfield 29, 3) := by decide +kernel
theorem dMD_meet_14 : decode bMD_meet 14 = .ok (.iload_n 2, 1) := by decide +kernel
theorem dMD_meet_15 : decode bMD_meet 15 = .ok (.iaload, 1) := by decide +kernel
theorem dMD_meet_16 : decode bMD_meet 16 = .ok (.iconst 4, 1) := by decide +kernel
theorem dMD_meet_17 : decode bMD_meet 17 = .ok (.if_icmp .eq 51, 3) := by decide +kernel
theorem dMD_meet_20 : decode bMD_meet 20 = .ok (.aload_n 0, 1) := by decide +kernel
theorem dMD_meet_21 : decode bMD_meet 21 = .ok (.getfield 32, 3) := by decide +kernel
theorem dMD_meet_24 : decode bMD_meet 24 = .ok (.iload_n 1, 1) := by decide +kernel
theorem dMD_meet_25 : decode bMD_meet 25 = .ok (.iaload, 1) := by decide +kernel
theorem dMD_meet_26 : decode bMD_meet 26 = .ok (.aload_n 0, 1) := by decide +kernel
theorem dMD_meet_27 : decode bMD_meet 27 = .ok (.getfield 32, 3) := by decide +kernel
theorem dMD_meet_30 : decode bMD_meet 30 = .ok (.iload_n 2, 1) := by decide +kernel
theorem dMD_meet_31 : decode bMD_meet 31 = .ok (.iaload, 1) := by decide +kernel
theorem dMD_meet_32 : decode bMD_meet 32 = .ok (.aload_n 0, 1) := by decide +kernel
theorem dMD_meet_33 : decode bMD_meet 33 = .ok (.getfield 35, 3) := by decide +kernel
theorem dMD_meet_36 : decode bMD_meet 36 = .ok (.iload_n 2, 1) := by decide +kernel
theorem dMD_meet_37 : decode bMD_meet 37 = .ok (.iaload, 1) := by decide +kernel
theorem dMD_meet_38 : decode bMD_meet 38 = .ok (.iadd, 1) := by decide +kernel
theorem dMD_meet_39 : decode bMD_meet 39 = .ok (.if_icmp .ge 29, 3) := by decide +kernel
theorem dMD_meet_42 : decode bMD_meet 42 = .ok (.aload_n 0, 1) := by decide +kernel
theorem dMD_meet_43 : decode bMD_meet 43 = .ok (.getfield 32, 3) := by decide +kernel
theorem dMD_meet_46 : decode bMD_meet 46 = .ok (.iload_n 2, 1) := by decide +kernel
theorem dMD_meet_47 : decode bMD_meet 47 = .ok (.iaload, 1) := by decide +kernel
theorem dMD_meet_48 : decode bMD_meet 48 = .ok (.aload_n 0, 1) := by decide +kernel
theorem dMD_meet_49 : decode bMD_meet 49 = .ok (.getfield 32, 3) := by decide +kernel
theorem dMD_meet_52 : decode bMD_meet 52 = .ok (.iload_n 1, 1) := by decide +kernel
theorem dMD_meet_53 : decode bMD_meet 53 = .ok (.iaload, 1) := by decide +kernel
theorem dMD_meet_54 : decode bMD_meet 54 = .ok (.aload_n 0, 1) := by decide +kernel
theorem dMD_meet_55 : decode bMD_meet 55 = .ok (.getfield 35, 3) := by decide +kernel
theorem dMD_meet_58 : decode bMD_meet 58 = .ok (.iload_n 1, 1) := by decide +kernel
theorem dMD_meet_59 : decode bMD_meet 59 = .ok (.iaload, 1) := by decide +kernel
theorem dMD_meet_60 : decode bMD_meet 60 = .ok (.iadd, 1) := by decide +kernel
theorem dMD_meet_61 : decode bMD_meet 61 = .ok (.if_icmp .ge 7, 3) := by decide +kernel
theorem dMD_meet_64 : decode bMD_meet 64 = .ok (.iconst 1, 1) := by decide +kernel
theorem dMD_meet_65 : decode bMD_meet 65 = .ok (.goto 4, 3) := by decide +kernel
theorem dMD_meet_68 : decode bMD_meet 68 = .ok (.iconst 0, 1) := by decide +kernel
theorem dMD_meet_69 : decode bMD_meet 69 = .ok (.ireturn, 1) := by decide +kernel
theorem dMD_isMapped_0 : decode bMD_isMapped 0 = .ok (.aload_n 0, 1) := by decide +kernel
theorem dMD_isMapped_1 : decode bMD_isMapped 1 = .ok (.getfield 29, 3) := by decide +kernel
theorem dMD_isMapped_4 : decode bMD_isMapped 4 = .ok (.iload_n 1, 1) := by decide +kernel
theorem dMD_isMapped_5 : decode bMD_isMapped 5 = .ok (.iaload, 1) := by decide +kernel
theorem dMD_isMapped_6 : decode bMD_isMapped 6 = .ok (.iconst 4, 1) := by decide +kernel
theorem dMD_isMapped_7 : decode bMD_isMapped 7 = .ok (.if_icmp .eq 18, 3) := by decide +kernel
theorem dMD_isMapped_10 : decode bMD_isMapped 10 = .ok (.aload_n 0, 1) := by decide +kernel
theorem dMD_isMapped_11 : decode bMD_isMapped 11 = .ok (.getfield 32, 3) := by decide +kernel
theorem dMD_isMapped_14 : decode bMD_isMapped 14 = .ok (.iload_n 1, 1) := by decide +kernel
theorem dMD_isMapped_15 : decode bMD_isMapped 15 = .ok (.iaload, 1) := by decide +kernel
theorem dMD_isMapped_16 : decode bMD_isMapped 16 = .ok (.bipush 48, 2) := by decide +kernel
theorem dMD_isMapped_18 : decode bMD_isMapped 18 = .ok (.if_icmp .ge 7, 3) := by decide +kernel
theorem dMD_isMapped_21 : decode bMD_isMapped 21 = .ok (.iconst 1, 1) := by decide +kernel
theorem dMD_isMapped_22 : decode bMD_isMapped 22 = .ok (.goto 4, 3) := by decide +kernel
theorem dMD_isMapped_25 : decode bMD_isMapped 25 = .ok (.iconst 0, 1) := by decide +kernel
theorem dMD_isMapped_26 : decode bMD_isMapped 26 = .ok (.ireturn, 1) := by decide +kernel
theorem dMD_creditsOf_0 : decode bMD_creditsOf 0 = .ok (.iconst 4, 1) := by decide +kernel
theorem dMD_creditsOf_1 : decode bMD_creditsOf 1 = .ok (.istore_n 2, 1) := by decide +kernel
theorem dMD_creditsOf_2 : decode bMD_creditsOf 2 = .ok (.iconst 0, 1) := by decide +kernel
theorem dMD_creditsOf_3 : decode bMD_creditsOf 3 = .ok (.istore_n 3, 1) := by decide +kernel
theorem dMD_creditsOf_4 : decode bMD_creditsOf 4 = .ok (.iload_n 3, 1) := by decide +kernel
theorem dMD_creditsOf_5 : decode bMD_creditsOf 5 = .ok (.bipush 16, 2) := by decide +kernel
theorem dMD_creditsOf_7 : decode bMD_creditsOf 7 = .ok (.if_icmp .ge 36, 3) := by decide +kernel
theorem dMD_creditsOf_10 : decode bMD_creditsOf 10 = .ok (.aload_n 0, 1) := by decide +kernel
theorem dMD_creditsOf_11 : decode bMD_creditsOf 11 = .ok (.getfield 26, 3) := by decide +kernel
theorem dMD_creditsOf_14 : decode bMD_creditsOf 14 = .ok (.iload_n 3, 1) := by decide +kernel
theorem dMD_creditsOf_15 : decode bMD_creditsOf 15 = .ok (.iaload, 1) := by decide +kernel
theorem dMD_creditsOf_16 : decode bMD_creditsOf 16 = .ok (.iconst 2, 1) := by decide +kernel
theorem dMD_creditsOf_17 : decode bMD_creditsOf 17 = .ok (.if_icmp .ne 18, 3) := by decide +kernel
theorem dMD_creditsOf_20 : decode bMD_creditsOf 20 = .ok (.aload_n 0, 1) := by decide +kernel
theorem dMD_creditsOf_21 : decode bMD_creditsOf 21 = .ok (.iload_n 3, 1) := by decide +kernel
theorem dMD_creditsOf_22 : decode bMD_creditsOf 22 = .ok (.invokevirtual 91, 3) := by decide +kernel
theorem dMD_creditsOf_25 : decode bMD_creditsOf 25 = .ok (.iload_n 1, 1) := by decide +kernel
theorem dMD_creditsOf_26 : decode bMD_creditsOf 26 = .ok (.if_icmp .ne 9, 3) := by decide +kernel
theorem dMD_creditsOf_29 : decode bMD_creditsOf 29 = .ok (.iload_n 2, 1) := by decide +kernel
theorem dMD_creditsOf_30 : decode bMD_creditsOf 30 = .ok (.iconst 1, 1) := by decide +kernel
theorem dMD_creditsOf_31 : decode bMD_creditsOf 31 = .ok (.isub, 1) := by decide +kernel
theorem dMD_creditsOf_32 : decode bMD_creditsOf 32 = .ok (.goto 4, 3) := by decide +kernel
theorem dMD_creditsOf_35 : decode bMD_creditsOf 35 = .ok (.iload_n 2, 1) := by decide +kernel
theorem dMD_creditsOf_36 : decode bMD_creditsOf 36 = .ok (.istore_n 2, 1) := by decide +kernel
theorem dMD_creditsOf_37 : decode bMD_creditsOf 37 = .ok (.iinc 3 1, 3) := by decide +kernel
theorem dMD_creditsOf_40 : decode bMD_creditsOf 40 = .ok (.goto (-36), 3) := by decide +kernel
theorem dMD_creditsOf_43 : decode bMD_creditsOf 43 = .ok (.iload_n 2, 1) := by decide +kernel
theorem dMD_creditsOf_44 : decode bMD_creditsOf 44 = .ok (.ireturn, 1) := by decide +kernel
theorem dMD_isBefore_0 : decode bMD_isBefore 0 = .ok (.aload_n 0, 1) := by decide +kernel
theorem dMD_isBefore_1 : decode bMD_isBefore 1 = .ok (.iload_n 1, 1) := by decide +kernel
theorem dMD_isBefore_2 : decode bMD_isBefore 2 = .ok (.invokevirtual 113, 3) := by decide +kernel
theorem dMD_isBefore_5 : decode bMD_isBefore 5 = .ok (.aload_n 0, 1) := by decide +kernel
theorem dMD_isBefore_6 : decode bMD_isBefore 6 = .ok (.iload_n 2, 1) := by decide +kernel
theorem dMD_isBefore_7 : decode bMD_isBefore 7 = .ok (.invokevirtual 113, 3) := by decide +kernel
theorem dMD_isBefore_10 : decode bMD_isBefore 10 = .ok (.if_icmp .eq 22, 3) := by decide +kernel
theorem dMD_isBefore_13 : decode bMD_isBefore 13 = .ok (.aload_n 0, 1) := by decide +kernel
theorem dMD_isBefore_14 : decode bMD_isBefore 14 = .ok (.iload_n 1, 1) := by decide +kernel
theorem dMD_isBefore_15 : decode bMD_isBefore 15 = .ok (.invokevirtual 113, 3) := by decide +kernel
theorem dMD_isBefore_18 : decode bMD_isBefore 18 = .ok (.aload_n 0, 1) := by decide +kernel
theorem dMD_isBefore_19 : decode bMD_isBefore 19 = .ok (.iload_n 2, 1) := by decide +kernel
theorem dMD_isBefore_20 : decode bMD_isBefore 20 = .ok (.invokevirtual 113, 3) := by decide +kernel
theorem dMD_isBefore_23 : decode bMD_isBefore 23 = .ok (.if_icmp .le 7, 3) := by decide +kernel
theorem dMD_isBefore_26 : decode bMD_isBefore 26 = .ok (.iconst 1, 1) := by decide +kernel
theorem dMD_isBefore_27 : decode bMD_isBefore 27 = .ok (.goto 4, 3) := by decide +kernel
theorem dMD_isBefore_30 : decode bMD_isBefore 30 = .ok (.iconst 0, 1) := by decide +kernel
theorem dMD_isBefore_31 : decode bMD_isBefore 31 = .ok (.ireturn, 1) := by decide +kernel
theorem dMD_isBefore_32 : decode bMD_isBefore 32 = .ok (.iload_n 1, 1) := by decide +kernel
theorem dMD_isBefore_33 : decode bMD_isBefore 33 = .ok (.iconst 4, 1) := by decide +kernel
theorem dMD_isBefore_34 : decode bMD_isBefore 34 = .ok (.idiv, 1) := by decide +kernel
theorem dMD_isBefore_35 : decode bMD_isBefore 35 = .ok (.iconst 3, 1) := by decide +kernel
theorem dMD_isBefore_36 : decode bMD_isBefore 36 = .ok (.iadd, 1) := by decide +kernel
theorem dMD_isBefore_37 : decode bMD_isBefore 37 = .ok (.aload_n 0, 1) := by decide +kernel
theorem dMD_isBefore_38 : decode bMD_isBefore 38 = .ok (.getfield 60, 3) := by decide +kernel
theorem dMD_isBefore_41 : decode bMD_isBefore 41 = .ok (.isub, 1) := by decide +kernel
theorem dMD_isBefore_42 : decode bMD_isBefore 42 = .ok (.iconst 4, 1) := by decide +kernel
theorem dMD_isBefore_43 : decode bMD_isBefore 43 = .ok (.irem, 1) := by decide +kernel
theorem dMD_isBefore_44 : decode bMD_isBefore 44 = .ok (.istore_n 3, 1) := by decide +kernel
theorem dMD_isBefore_45 : decode bMD_isBefore 45 = .ok (.iload_n 2, 1) := by decide +kernel
theorem dMD_isBefore_46 : decode bMD_isBefore 46 = .ok (.iconst 4, 1) := by decide +kernel
theorem dMD_isBefore_47 : decode bMD_isBefore 47 = .ok (.idiv, 1) := by decide +kernel
theorem dMD_isBefore_48 : decode bMD_isBefore 48 = .ok (.iconst 3, 1) := by decide +kernel
theorem dMD_isBefore_49 : decode bMD_isBefore 49 = .ok (.iadd, 1) := by decide +kernel
theorem dMD_isBefore_50 : decode bMD_isBefore 50 = .ok (.aload_n 0, 1) := by decide +kernel
theorem dMD_isBefore_51 : decode bMD_isBefore 51 = .ok (.getfield 60, 3) := by decide +kernel
theorem dMD_isBefore_54 : decode bMD_isBefore 54 = .ok (.isub, 1) := by decide +kernel
theorem dMD_isBefore_55 : decode bMD_isBefore 55 = .ok (.iconst 4, 1) := by decide +kernel
theorem dMD_isBefore_56 : decode bMD_isBefore 56 = .ok (.irem, 1) := by decide +kernel
theorem dMD_isBefore_57 : decode bMD_isBefore 57 = .ok (.istore 4, 2) := by decide +kernel
theorem dMD_isBefore_59 : decode bMD_isBefore 59 = .ok (.iload_n 3, 1) := by decide +kernel
theorem dMD_isBefore_60 : decode bMD_isBefore 60 = .ok (.iload 4, 2) := by decide +kernel
theorem dMD_isBefore_62 : decode bMD_isBefore 62 = .ok (.if_icmp .eq 17, 3) := by decide +kernel
theorem dMD_isBefore_65 : decode bMD_isBefore 65 = .ok (.iload_n 3, 1) := by decide +kernel
theorem dMD_isBefore_66 : decode bMD_isBefore 66 = .ok (.iload 4, 2) := by decide +kernel
theorem dMD_isBefore_68 : decode bMD_isBefore 68 = .ok (.if_icmp .ge 7, 3) := by decide +kernel
theorem dMD_isBefore_71 : decode bMD_isBefore 71 = .ok (.iconst 1, 1) := by decide +kernel
theorem dMD_isBefore_72 : decode bMD_isBefore 72 = .ok (.goto 27, 3) := by decide +kernel
theorem dMD_isBefore_75 : decode bMD_isBefore 75 = .ok (.iconst 0, 1) := by decide +kernel
theorem dMD_isBefore_76 : decode bMD_isBefore 76 = .ok (.goto 23, 3) := by decide +kernel
theorem dMD_isBefore_79 : decode bMD_isBefore 79 = .ok (.aload_n 0, 1) := by decide +kernel
theorem dMD_isBefore_80 : decode bMD_isBefore 80 = .ok (.getfield 41, 3) := by decide +kernel
theorem dMD_isBefore_83 : decode bMD_isBefore 83 = .ok (.iload_n 1, 1) := by decide +kernel
theorem dMD_isBefore_84 : decode bMD_isBefore 84 = .ok (.iaload, 1) := by decide +kernel
theorem dMD_isBefore_85 : decode bMD_isBefore 85 = .ok (.aload_n 0, 1) := by decide +kernel
theorem dMD_isBefore_86 : decode bMD_isBefore 86 = .ok (.getfield 41, 3) := by decide +kernel
theorem dMD_isBefore_89 : decode bMD_isBefore 89 = .ok (.iload_n 2, 1) := by decide +kernel
theorem dMD_isBefore_90 : decode bMD_isBefore 90 = .ok (.iaload, 1) := by decide +kernel
theorem dMD_isBefore_91 : decode bMD_isBefore 91 = .ok (.if_icmp .ge 7, 3) := by decide +kernel
theorem dMD_isBefore_94 : decode bMD_isBefore 94 = .ok (.iconst 1, 1) := by decide +kernel
theorem dMD_isBefore_95 : decode bMD_isBefore 95 = .ok (.goto 4, 3) := by decide +kernel
theorem dMD_isBefore_98 : decode bMD_isBefore 98 = .ok (.iconst 0, 1) := by decide +kernel
theorem dMD_isBefore_99 : decode bMD_isBefore 99 = .ok (.ireturn, 1) := by decide +kernel
theorem dMD_classOf_0 : decode bMD_classOf 0 = .ok (.aload_n 0, 1) := by decide +kernel
theorem dMD_classOf_1 : decode bMD_classOf 1 = .ok (.getfield 16, 3) := by decide +kernel
theorem dMD_classOf_4 : decode bMD_classOf 4 = .ok (.iload_n 1, 1) := by decide +kernel
theorem dMD_classOf_5 : decode bMD_classOf 5 = .ok (.iconst 4, 1) := by decide +kernel
theorem dMD_classOf_6 : decode bMD_classOf 6 = .ok (.idiv, 1) := by decide +kernel
theorem dMD_classOf_7 : decode bMD_classOf 7 = .ok (.iaload, 1) := by decide +kernel
theorem dMD_classOf_8 : decode bMD_classOf 8 = .ok (.aload_n 0, 1) := by decide +kernel
theorem dMD_classOf_9 : decode bMD_classOf 9 = .ok (.getfield 38, 3) := by decide +kernel
theorem dMD_classOf_12 : decode bMD_classOf 12 = .ok (.iload_n 1, 1) := by decide +kernel
theorem dMD_classOf_13 : decode bMD_classOf 13 = .ok (.iaload, 1) := by decide +kernel
theorem dMD_classOf_14 : decode bMD_classOf 14 = .ok (.bipush 16, 2) := by decide +kernel
theorem dMD_classOf_16 : decode bMD_classOf 16 = .ok (.idiv, 1) := by decide +kernel
theorem dMD_classOf_17 : decode bMD_classOf 17 = .ok (.iadd, 1) := by decide +kernel
theorem dMD_classOf_18 : decode bMD_classOf 18 = .ok (.istore_n 2, 1) := by decide +kernel
theorem dMD_classOf_19 : decode bMD_classOf 19 = .ok (.iload_n 2, 1) := by decide +kernel
theorem dMD_classOf_20 : decode bMD_classOf 20 = .ok (.iconst 2, 1) := by decide +kernel
theorem dMD_classOf_21 : decode bMD_classOf 21 = .ok (.if_icmp .le 7, 3) := by decide +kernel
theorem dMD_classOf_24 : decode bMD_classOf 24 = .ok (.iconst 2, 1) := by decide +kernel
theorem dMD_classOf_25 : decode bMD_classOf 25 = .ok (.goto 4, 3) := by decide +kernel
theorem dMD_classOf_28 : decode bMD_classOf 28 = .ok (.iload_n 2, 1) := by decide +kernel
theorem dMD_classOf_29 : decode bMD_classOf 29 = .ok (.ireturn, 1) := by decide +kernel
theorem dMD_cycles_0 : decode bMD_cycles 0 = .ok (.aload_n 0, 1) := by decide +kernel
theorem dMD_cycles_1 : decode bMD_cycles 1 = .ok (.iload_n 1, 1) := by decide +kernel
theorem dMD_cycles_2 : decode bMD_cycles 2 = .ok (.iconst 1, 1) := by decide +kernel
theorem dMD_cycles_3 : decode bMD_cycles 3 = .ok (.if_icmp .lt 9, 3) := by decide +kernel
theorem dMD_cycles_6 : decode bMD_cycles 6 = .ok (.iload_n 1, 1) := by decide +kernel
theorem dMD_cycles_7 : decode bMD_cycles 7 = .ok (.bipush 100, 2) := by decide +kernel
theorem dMD_cycles_9 : decode bMD_cycles 9 = .ok (.if_icmp .le 7, 3) := by decide +kernel
theorem dMD_cycles_12 : decode bMD_cycles 12 = .ok (.iconst 1, 1) := by decide +kernel
theorem dMD_cycles_13 : decode bMD_cycles 13 = .ok (.goto 4, 3) := by decide +kernel
theorem dMD_cycles_16 : decode bMD_cycles 16 = .ok (.iconst 0, 1) := by decide +kernel
theorem dMD_cycles_17 : decode bMD_cycles 17 = .ok (.invokevirtual 73, 3) := by decide +kernel
theorem dMD_cycles_20 : decode bMD_cycles 20 = .ok (.ifCond .eq 5, 3) := by decide +kernel
theorem dMD_cycles_23 : decode bMD_cycles 23 = .ok (.iconst 0, 1) := by decide +kernel
theorem dMD_cycles_24 : decode bMD_cycles 24 = .ok (.ireturn, 1) := by decide +kernel
theorem dMD_cycles_25 : decode bMD_cycles 25 = .ok (.iconst 0, 1) := by decide +kernel
theorem dMD_cycles_26 : decode bMD_cycles 26 = .ok (.istore_n 2, 1) := by decide +kernel
theorem dMD_cycles_27 : decode bMD_cycles 27 = .ok (.iconst 0, 1) := by decide +kernel
theorem dMD_cycles_28 : decode bMD_cycles 28 = .ok (.istore_n 3, 1) := by decide +kernel
theorem dMD_cycles_29 : decode bMD_cycles 29 = .ok (.iload_n 3, 1) := by decide +kernel
theorem dMD_cycles_30 : decode bMD_cycles 30 = .ok (.iload_n 1, 1) := by decide +kernel
theorem dMD_cycles_31 : decode bMD_cycles 31 = .ok (.if_icmp .ge 24, 3) := by decide +kernel
theorem dMD_cycles_34 : decode bMD_cycles 34 = .ok (.aload_n 0, 1) := by decide +kernel
theorem dMD_cycles_35 : decode bMD_cycles 35 = .ok (.invokevirtual 139, 3) := by decide +kernel
theorem dMD_cycles_38 : decode bMD_cycles 38 = .ok (.ifCond .lt 9, 3) := by decide +kernel
theorem dMD_cycles_41 : decode bMD_cycles 41 = .ok (.iload_n 2, 1) := by decide +kernel
theorem dMD_cycles_42 : decode bMD_cycles 42 = .ok (.iconst 1, 1) := by decide +kernel
theorem dMD_cycles_43 : decode bMD_cycles 43 = .ok (.iadd, 1) := by decide +kernel
theorem dMD_cycles_44 : decode bMD_cycles 44 = .ok (.goto 4, 3) := by decide +kernel
theorem dMD_cycles_47 : decode bMD_cycles 47 = .ok (.iload_n 2, 1) := by decide +kernel
theorem dMD_cycles_48 : decode bMD_cycles 48 = .ok (.istore_n 2, 1) := by decide +kernel
theorem dMD_cycles_49 : decode bMD_cycles 49 = .ok (.iinc 3 1, 3) := by decide +kernel
theorem dMD_cycles_52 : decode bMD_cycles 52 = .ok (.goto (-23), 3) := by decide +kernel
theorem dMD_cycles_55 : decode bMD_cycles 55 = .ok (.iload_n 2, 1) := by decide +kernel
theorem dMD_cycles_56 : decode bMD_cycles 56 = .ok (.ireturn, 1) := by decide +kernel
theorem dMD_time_0 : decode bMD_time 0 = .ok (.aload_n 0, 1) := by decide +kernel
theorem dMD_time_1 : decode bMD_time 1 = .ok (.iconst 0, 1) := by decide +kernel
theorem dMD_time_2 : decode bMD_time 2 = .ok (.putfield 66, 3) := by decide +kernel
theorem dMD_time_5 : decode bMD_time 5 = .ok (.aload_n 0, 1) := by decide +kernel
theorem dMD_time_6 : decode bMD_time 6 = .ok (.getfield 98, 3) := by decide +kernel
theorem dMD_time_9 : decode bMD_time 9 = .ok (.ireturn, 1) := by decide +kernel
theorem dMD_state_0 : decode bMD_state 0 = .ok (.aload_n 0, 1) := by decide +kernel
theorem dMD_state_1 : decode bMD_state 1 = .ok (.iload_n 1, 1) := by decide +kernel
theorem dMD_state_2 : decode bMD_state 2 = .ok (.iconst 4, 1) := by decide +kernel
theorem dMD_state_3 : decode bMD_state 3 = .ok (.invokestatic 69, 3) := by decide +kernel
theorem dMD_state_6 : decode bMD_state 6 = .ok (.ifCond .eq 15, 3) := by decide +kernel
theorem dMD_state_9 : decode bMD_state 9 = .ok (.iload_n 2, 1) := by decide +kernel
theorem dMD_state_10 : decode bMD_state 10 = .ok (.iconst 4, 1) := by decide +kernel
theorem dMD_state_11 : decode bMD_state 11 = .ok (.invokestatic 69, 3) := by decide +kernel
theorem dMD_state_14 : decode bMD_state 14 = .ok (.ifCond .eq 7, 3) := by decide +kernel
theorem dMD_state_17 : decode bMD_state 17 = .ok (.iconst 0, 1) := by decide +kernel
theorem dMD_state_18 : decode bMD_state 18 = .ok (.goto 4, 3) := by decide +kernel
theorem dMD_state_21 : decode bMD_state 21 = .ok (.iconst 1, 1) := by decide +kernel
theorem dMD_state_22 : decode bMD_state 22 = .ok (.invokevirtual 73, 3) := by decide +kernel
theorem dMD_state_25 : decode bMD_state 25 = .ok (.ifCond .eq 7, 3) := by decide +kernel
theorem dMD_state_28 : decode bMD_state 28 = .ok (.iconst 0, 1) := by decide +kernel
theorem dMD_state_29 : decode bMD_state 29 = .ok (.goto 13, 3) := by decide +kernel
theorem dMD_state_32 : decode bMD_state 32 = .ok (.aload_n 0, 1) := by decide +kernel
theorem dMD_state_33 : decode bMD_state 33 = .ok (.getfield 26, 3) := by decide +kernel
theorem dMD_state_36 : decode bMD_state 36 = .ok (.iconst 4, 1) := by decide +kernel
theorem dMD_state_37 : decode bMD_state 37 = .ok (.iload_n 1, 1) := by decide +kernel
theorem dMD_state_38 : decode bMD_state 38 = .ok (.imul, 1) := by decide +kernel
theorem dMD_state_39 : decode bMD_state 39 = .ok (.iload_n 2, 1) := by decide +kernel
theorem dMD_state_40 : decode bMD_state 40 = .ok (.iadd, 1) := by decide +kernel
theorem dMD_state_41 : decode bMD_state 41 = .ok (.iaload, 1) := by decide +kernel
theorem dMD_state_42 : decode bMD_state 42 = .ok (.ireturn, 1) := by decide +kernel
theorem dMD_word_0 : decode bMD_word 0 = .ok (.iload_n 1, 1) := by decide +kernel
theorem dMD_word_1 : decode bMD_word 1 = .ok (.iconst 4, 1) := by decide +kernel
theorem dMD_word_2 : decode bMD_word 2 = .ok (.invokestatic 69, 3) := by decide +kernel
theorem dMD_word_5 : decode bMD_word 5 = .ok (.ifCond .eq 23, 3) := by decide +kernel
theorem dMD_word_8 : decode bMD_word 8 = .ok (.iload_n 2, 1) := by decide +kernel
theorem dMD_word_9 : decode bMD_word 9 = .ok (.iconst 4, 1) := by decide +kernel
theorem dMD_word_10 : decode bMD_word 10 = .ok (.invokestatic 69, 3) := by decide +kernel
theorem dMD_word_13 : decode bMD_word 13 = .ok (.ifCond .eq 15, 3) := by decide +kernel
theorem dMD_word_16 : decode bMD_word 16 = .ok (.iload_n 3, 1) := by decide +kernel
theorem dMD_word_17 : decode bMD_word 17 = .ok (.iconst 4, 1) := by decide +kernel
theorem dMD_word_18 : decode bMD_word 18 = .ok (.invokestatic 69, 3) := by decide +kernel
theorem dMD_word_21 : decode bMD_word 21 = .ok (.ifCond .eq 7, 3) := by decide +kernel
theorem dMD_word_24 : decode bMD_word 24 = .ok (.iconst 1, 1) := by decide +kernel
theorem dMD_word_25 : decode bMD_word 25 = .ok (.goto 4, 3) := by decide +kernel
theorem dMD_word_28 : decode bMD_word 28 = .ok (.iconst 0, 1) := by decide +kernel
theorem dMD_word_29 : decode bMD_word 29 = .ok (.istore 4, 2) := by decide +kernel
theorem dMD_word_31 : decode bMD_word 31 = .ok (.iload 4, 2) := by decide +kernel
theorem dMD_word_33 : decode bMD_word 33 = .ok (.ifCond .eq 11, 3) := by decide +kernel
theorem dMD_word_36 : decode bMD_word 36 = .ok (.iconst 4, 1) := by decide +kernel
theorem dMD_word_37 : decode bMD_word 37 = .ok (.iload_n 1, 1) := by decide +kernel
theorem dMD_word_38 : decode bMD_word 38 = .ok (.imul, 1) := by decide +kernel
theorem dMD_word_39 : decode bMD_word 39 = .ok (.iload_n 2, 1) := by decide +kernel
theorem dMD_word_40 : decode bMD_word 40 = .ok (.iadd, 1) := by decide +kernel
theorem dMD_word_41 : decode bMD_word 41 = .ok (.goto 4, 3) := by decide +kernel
theorem dMD_word_44 : decode bMD_word 44 = .ok (.iconst 0, 1) := by decide +kernel
theorem dMD_word_45 : decode bMD_word 45 = .ok (.istore 5, 2) := by decide +kernel
theorem dMD_word_47 : decode bMD_word 47 = .ok (.aload_n 0, 1) := by decide +kernel
theorem dMD_word_48 : decode bMD_word 48 = .ok (.getfield 26, 3) := by decide +kernel
theorem dMD_word_51 : decode bMD_word 51 = .ok (.iload 5, 2) := by decide +kernel
theorem dMD_word_53 : decode bMD_word 53 = .ok (.iaload, 1) := by decide +kernel
theorem dMD_word_54 : decode bMD_word 54 = .ok (.iconst 3, 1) := by decide +kernel
theorem dMD_word_55 : decode bMD_word 55 = .ok (.if_icmp .ne 39, 3) := by decide +kernel
theorem dMD_word_58 : decode bMD_word 58 = .ok (.aload_n 0, 1) := by decide +kernel
theorem dMD_word_59 : decode bMD_word 59 = .ok (.getfield 29, 3) := by decide +kernel
theorem dMD_word_62 : decode bMD_word 62 = .ok (.iload 5, 2) := by decide +kernel
theorem dMD_word_64 : decode bMD_word 64 = .ok (.iaload, 1) := by decide +kernel
theorem dMD_word_65 : decode bMD_word 65 = .ok (.ifCond .eq 14, 3) := by decide +kernel
theorem dMD_word_68 : decode bMD_word 68 = .ok (.aload_n 0, 1) := by decide +kernel
theorem dMD_word_69 : decode bMD_word 69 = .ok (.getfield 29, 3) := by decide +kernel
theorem dMD_word_72 : decode bMD_word 72 = .ok (.iload 5, 2) := by decide +kernel
theorem dMD_word_74 : decode bMD_word 74 = .ok (.iaload, 1) := by decide +kernel
theorem dMD_word_75 : decode bMD_word 75 = .ok (.iconst 2, 1) := by decide +kernel
theorem dMD_word_76 : decode bMD_word 76 = .ok (.if_icmp .ne 18, 3) := by decide +kernel
theorem dMD_word_79 : decode bMD_word 79 = .ok (.iload_n 3, 1) := by decide +kernel
theorem dMD_word_80 : decode bMD_word 80 = .ok (.aload_n 0, 1) := by decide +kernel
theorem dMD_word_81 : decode bMD_word 81 = .ok (.getfield 35, 3) := by decide +kernel
theorem dMD_word_84 : decode bMD_word 84 = .ok (.iload 5, 2) := by decide +kernel
theorem dMD_word_86 : decode bMD_word 86 = .ok (.iaload, 1) := by decide +kernel
theorem dMD_word_87 : decode bMD_word 87 = .ok (.if_icmp .ge 7, 3) := by decide +kernel
theorem dMD_word_90 : decode bMD_word 90 = .ok (.iconst 1, 1) := by decide +kernel
theorem dMD_word_91 : decode bMD_word 91 = .ok (.goto 4, 3) := by decide +kernel
theorem dMD_word_94 : decode bMD_word 94 = .ok (.iconst 0, 1) := by decide +kernel
theorem dMD_word_95 : decode bMD_word 95 = .ok (.istore 6, 2) := by decide +kernel
theorem dMD_word_97 : decode bMD_word 97 = .ok (.aload_n 0, 1) := by decide +kernel
theorem dMD_word_98 : decode bMD_word 98 = .ok (.iload 4, 2) := by decide +kernel
theorem dMD_word_100 : decode bMD_word 100 = .ok (.ifCond .ne 7, 3) := by decide +kernel
theorem dMD_word_103 : decode bMD_word 103 = .ok (.iconst 1, 1) := by decide +kernel
theorem dMD_word_104 : decode bMD_word 104 = .ok (.goto 13, 3) := by decide +kernel
theorem dMD_word_107 : decode bMD_word 107 = .ok (.iload 6, 2) := by decide +kernel
theorem dMD_word_109 : decode bMD_word 109 = .ok (.ifCond .ne 7, 3) := by decide +kernel
theorem dMD_word_112 : decode bMD_word 112 = .ok (.iconst 2, 1) := by decide +kernel
theorem dMD_word_113 : decode bMD_word 113 = .ok (.goto 4, 3) := by decide +kernel
theorem dMD_word_116 : decode bMD_word 116 = .ok (.iconst 0, 1) := by decide +kernel
theorem dMD_word_117 : decode bMD_word 117 = .ok (.invokevirtual 73, 3) := by decide +kernel
theorem dMD_word_120 : decode bMD_word 120 = .ok (.ifCond .eq 7, 3) := by decide +kernel
theorem dMD_word_123 : decode bMD_word 123 = .ok (.iconst 0, 1) := by decide +kernel
theorem dMD_word_124 : decode bMD_word 124 = .ok (.goto 14, 3) := by decide +kernel
theorem dMD_word_127 : decode bMD_word 127 = .ok (.aload_n 0, 1) := by decide +kernel
theorem dMD_word_128 : decode bMD_word 128 = .ok (.getfield 50, 3) := by decide +kernel
theorem dMD_word_131 : decode bMD_word 131 = .ok (.iconst 4, 1) := by decide +kernel
theorem dMD_word_132 : decode bMD_word 132 = .ok (.iload 5, 2) := by decide +kernel
theorem dMD_word_134 : decode bMD_word 134 = .ok (.imul, 1) := by decide +kernel
theorem dMD_word_135 : decode bMD_word 135 = .ok (.iload_n 3, 1) := by decide +kernel
theorem dMD_word_136 : decode bMD_word 136 = .ok (.iadd, 1) := by decide +kernel
theorem dMD_word_137 : decode bMD_word 137 = .ok (.iaload, 1) := by decide +kernel
theorem dMD_word_138 : decode bMD_word 138 = .ok (.ireturn, 1) := by decide +kernel
theorem dMD_take_0 : decode bMD_take 0 = .ok (.iload_n 1, 1) := by decide +kernel
theorem dMD_take_1 : decode bMD_take 1 = .ok (.iconst 4, 1) := by decide +kernel
theorem dMD_take_2 : decode bMD_take 2 = .ok (.invokestatic 69, 3) := by decide +kernel
theorem dMD_take_5 : decode bMD_take 5 = .ok (.ifCond .eq 15, 3) := by decide +kernel
theorem dMD_take_8 : decode bMD_take 8 = .ok (.iload_n 2, 1) := by decide +kernel
theorem dMD_take_9 : decode bMD_take 9 = .ok (.iconst 4, 1) := by decide +kernel
theorem dMD_take_10 : decode bMD_take 10 = .ok (.invokestatic 69, 3) := by decide +kernel
theorem dMD_take_13 : decode bMD_take 13 = .ok (.ifCond .eq 7, 3) := by decide +kernel
theorem dMD_take_16 : decode bMD_take 16 = .ok (.iconst 1, 1) := by decide +kernel
theorem dMD_take_17 : decode bMD_take 17 = .ok (.goto 4, 3) := by decide +kernel
theorem dMD_take_20 : decode bMD_take 20 = .ok (.iconst 0, 1) := by decide +kernel
theorem dMD_take_21 : decode bMD_take 21 = .ok (.istore_n 3, 1) := by decide +kernel
theorem dMD_take_22 : decode bMD_take 22 = .ok (.iload_n 3, 1) := by decide +kernel
theorem dMD_take_23 : decode bMD_take 23 = .ok (.ifCond .eq 11, 3) := by decide +kernel
theorem dMD_take_26 : decode bMD_take 26 = .ok (.iconst 4, 1) := by decide +kernel
theorem dMD_take_27 : decode bMD_take 27 = .ok (.iload_n 1, 1) := by decide +kernel
theorem dMD_take_28 : decode bMD_take 28 = .ok (.imul, 1) := by decide +kernel
theorem dMD_take_29 : decode bMD_take 29 = .ok (.iload_n 2, 1) := by decide +kernel
theorem dMD_take_30 : decode bMD_take 30 = .ok (.iadd, 1) := by decide +kernel
theorem dMD_take_31 : decode bMD_take 31 = .ok (.goto 4, 3) := by decide +kernel
theorem dMD_take_34 : decode bMD_take 34 = .ok (.iconst 0, 1) := by decide +kernel
theorem dMD_take_35 : decode bMD_take 35 = .ok (.istore 4, 2) := by decide +kernel
theorem dMD_take_37 : decode bMD_take 37 = .ok (.aload_n 0, 1) := by decide +kernel
theorem dMD_take_38 : decode bMD_take 38 = .ok (.iload_n 3, 1) := by decide +kernel
theorem dMD_take_39 : decode bMD_take 39 = .ok (.ifCond .ne 7, 3) := by decide +kernel
theorem dMD_take_42 : decode bMD_take 42 = .ok (.iconst 1, 1) := by decide +kernel
theorem dMD_take_43 : decode bMD_take 43 = .ok (.goto 30, 3) := by decide +kernel
theorem dMD_take_46 : decode bMD_take 46 = .ok (.aload_n 0, 1) := by decide +kernel
theorem dMD_take_47 : decode bMD_take 47 = .ok (.getfield 26, 3) := by decide +kernel
theorem dMD_take_50 : decode bMD_take 50 = .ok (.iload 4, 2) := by decide +kernel
theorem dMD_take_52 : decode bMD_take 52 = .ok (.iaload, 1) := by decide +kernel
theorem dMD_take_53 : decode bMD_take 53 = .ok (.iconst 3, 1) := by decide +kernel
theorem dMD_take_54 : decode bMD_take 54 = .ok (.if_icmp .eq 18, 3) := by decide +kernel
theorem dMD_take_57 : decode bMD_take 57 = .ok (.aload_n 0, 1) := by decide +kernel
theorem dMD_take_58 : decode bMD_take 58 = .ok (.getfield 26, 3) := by decide +kernel
theorem dMD_take_61 : decode bMD_take 61 = .ok (.iload 4, 2) := by decide +kernel
theorem dMD_take_63 : decode bMD_take 63 = .ok (.iaload, 1) := by decide +kernel
theorem dMD_take_64 : decode bMD_take 64 = .ok (.iconst 4, 1) := by decide +kernel
theorem dMD_take_65 : decode bMD_take 65 = .ok (.if_icmp .eq 7, 3) := by decide +kernel
theorem dMD_take_68 : decode bMD_take 68 = .ok (.iconst 2, 1) := by decide +kernel
theorem dMD_take_69 : decode bMD_take 69 = .ok (.goto 4, 3) := by decide +kernel
theorem dMD_take_72 : decode bMD_take 72 = .ok (.iconst 0, 1) := by decide +kernel
theorem dMD_take_73 : decode bMD_take 73 = .ok (.invokevirtual 73, 3) := by decide +kernel
theorem dMD_take_76 : decode bMD_take 76 = .ok (.ifCond .eq 5, 3) := by decide +kernel
theorem dMD_take_79 : decode bMD_take 79 = .ok (.iconst 0, 1) := by decide +kernel
theorem dMD_take_80 : decode bMD_take 80 = .ok (.ireturn, 1) := by decide +kernel
theorem dMD_take_81 : decode bMD_take 81 = .ok (.aload_n 0, 1) := by decide +kernel
theorem dMD_take_82 : decode bMD_take 82 = .ok (.getfield 26, 3) := by decide +kernel
theorem dMD_take_85 : decode bMD_take 85 = .ok (.iload 4, 2) := by decide +kernel
theorem dMD_take_87 : decode bMD_take 87 = .ok (.iaload, 1) := by decide +kernel
theorem dMD_take_88 : decode bMD_take 88 = .ok (.iconst 3, 1) := by decide +kernel
theorem dMD_take_89 : decode bMD_take 89 = .ok (.if_icmp .ne 7, 3) := by decide +kernel
theorem dMD_take_92 : decode bMD_take 92 = .ok (.iconst 1, 1) := by decide +kernel
theorem dMD_take_93 : decode bMD_take 93 = .ok (.goto 4, 3) := by decide +kernel
theorem dMD_take_96 : decode bMD_take 96 = .ok (.iconst 0, 1) := by decide +kernel
theorem dMD_take_97 : decode bMD_take 97 = .ok (.istore 5, 2) := by decide +kernel
theorem dMD_take_99 : decode bMD_take 99 = .ok (.aload_n 0, 1) := by decide +kernel
theorem dMD_take_100 : decode bMD_take 100 = .ok (.getfield 26, 3) := by decide +kernel
theorem dMD_take_103 : decode bMD_take 103 = .ok (.iload 4, 2) := by decide +kernel
theorem dMD_take_105 : decode bMD_take 105 = .ok (.iconst 0, 1) := by decide +kernel
theorem dMD_take_106 : decode bMD_take 106 = .ok (.iastore, 1) := by decide +kernel
theorem dMD_take_107 : decode bMD_take 107 = .ok (.iload 5, 2) := by decide +kernel
theorem dMD_take_109 : decode bMD_take 109 = .ok (.ireturn, 1) := by decide +kernel
theorem dMD_base_0 : decode bMD_base 0 = .ok (.aload_n 0, 1) := by decide +kernel
theorem dMD_base_1 : decode bMD_base 1 = .ok (.iload_n 1, 1) := by decide +kernel
theorem dMD_base_2 : decode bMD_base 2 = .ok (.iconst 4, 1) := by decide +kernel
theorem dMD_base_3 : decode bMD_base 3 = .ok (.invokestatic 69, 3) := by decide +kernel
theorem dMD_base_6 : decode bMD_base 6 = .ok (.ifCond .ne 7, 3) := by decide +kernel
theorem dMD_base_9 : decode bMD_base 9 = .ok (.iconst 1, 1) := by decide +kernel
theorem dMD_base_10 : decode bMD_base 10 = .ok (.goto 16, 3) := by decide +kernel
theorem dMD_base_13 : decode bMD_base 13 = .ok (.iload_n 2, 1) := by decide +kernel
theorem dMD_base_14 : decode bMD_base 14 = .ok (.iconst 3, 1) := by decide +kernel
theorem dMD_base_15 : decode bMD_base 15 = .ok (.invokestatic 69, 3) := by decide +kernel
theorem dMD_base_18 : decode bMD_base 18 = .ok (.ifCond .ne 7, 3) := by decide +kernel
theorem dMD_base_21 : decode bMD_base 21 = .ok (.iconst 2, 1) := by decide +kernel
theorem dMD_base_22 : decode bMD_base 22 = .ok (.goto 4, 3) := by decide +kernel
theorem dMD_base_25 : decode bMD_base 25 = .ok (.iconst 0, 1) := by decide +kernel
theorem dMD_base_26 : decode bMD_base 26 = .ok (.invokevirtual 73, 3) := by decide +kernel
theorem dMD_base_29 : decode bMD_base 29 = .ok (.ifCond .ne 10, 3) := by decide +kernel
theorem dMD_base_32 : decode bMD_base 32 = .ok (.aload_n 0, 1) := by decide +kernel
theorem dMD_base_33 : decode bMD_base 33 = .ok (.getfield 16, 3) := by decide +kernel
theorem dMD_base_36 : decode bMD_base 36 = .ok (.iload_n 1, 1) := by decide +kernel
theorem dMD_base_37 : decode bMD_base 37 = .ok (.iload_n 2, 1) := by decide +kernel
theorem dMD_base_38 : decode bMD_base 38 = .ok (.iastore, 1) := by decide +kernel
theorem dMD_base_39 : decode bMD_base 39 = .ok (.return_, 1) := by decide +kernel
theorem dMD_waits_0 : decode bMD_waits 0 = .ok (.aload_n 0, 1) := by decide +kernel
theorem dMD_waits_1 : decode bMD_waits 1 = .ok (.iload_n 1, 1) := by decide +kernel
theorem dMD_waits_2 : decode bMD_waits 2 = .ok (.iconst 4, 1) := by decide +kernel
theorem dMD_waits_3 : decode bMD_waits 3 = .ok (.invokestatic 69, 3) := by decide +kernel
theorem dMD_waits_6 : decode bMD_waits 6 = .ok (.ifCond .eq 7, 3) := by decide +kernel
theorem dMD_waits_9 : decode bMD_waits 9 = .ok (.iconst 0, 1) := by decide +kernel
theorem dMD_waits_10 : decode bMD_waits 10 = .ok (.goto 4, 3) := by decide +kernel
theorem dMD_waits_13 : decode bMD_waits 13 = .ok (.iconst 1, 1) := by decide +kernel
theorem dMD_waits_14 : decode bMD_waits 14 = .ok (.invokevirtual 73, 3) := by decide +kernel
theorem dMD_waits_17 : decode bMD_waits 17 = .ok (.ifCond .eq 5, 3) := by decide +kernel
theorem dMD_waits_20 : decode bMD_waits 20 = .ok (.iconst 0, 1) := by decide +kernel
theorem dMD_waits_21 : decode bMD_waits 21 = .ok (.ireturn, 1) := by decide +kernel
theorem dMD_waits_22 : decode bMD_waits 22 = .ok (.iconst (-1), 1) := by decide +kernel
theorem dMD_waits_23 : decode bMD_waits 23 = .ok (.istore_n 2, 1) := by decide +kernel
theorem dMD_waits_24 : decode bMD_waits 24 = .ok (.iconst 0, 1) := by decide +kernel
theorem dMD_waits_25 : decode bMD_waits 25 = .ok (.istore_n 3, 1) := by decide +kernel
theorem dMD_waits_26 : decode bMD_waits 26 = .ok (.iload_n 3, 1) := by decide +kernel
theorem dMD_waits_27 : decode bMD_waits 27 = .ok (.iconst 4, 1) := by decide +kernel
theorem dMD_waits_28 : decode bMD_waits 28 = .ok (.if_icmp .ge 54, 3) := by decide +kernel
theorem dMD_waits_31 : decode bMD_waits 31 = .ok (.iconst 4, 1) := by decide +kernel
theorem dMD_waits_32 : decode bMD_waits 32 = .ok (.iload_n 1, 1) := by decide +kernel
theorem dMD_waits_33 : decode bMD_waits 33 = .ok (.imul, 1) := by decide +kernel
theorem dMD_waits_34 : decode bMD_waits 34 = .ok (.iload_n 3, 1) := by decide +kernel
theorem dMD_waits_35 : decode bMD_waits 35 = .ok (.iadd, 1) := by decide +kernel
theorem dMD_waits_36 : decode bMD_waits 36 = .ok (.istore 4, 2) := by decide +kernel
theorem dMD_waits_38 : decode bMD_waits 38 = .ok (.aload_n 0, 1) := by decide +kernel
theorem dMD_waits_39 : decode bMD_waits 39 = .ok (.getfield 26, 3) := by decide +kernel
theorem dMD_waits_42 : decode bMD_waits 42 = .ok (.iload 4, 2) := by decide +kernel
theorem dMD_waits_44 : decode bMD_waits 44 = .ok (.iaload, 1) := by decide +kernel
theorem dMD_waits_45 : decode bMD_waits 45 = .ok (.iconst 1, 1) := by decide +kernel
theorem dMD_waits_46 : decode bMD_waits 46 = .ok (.if_icmp .ne 28, 3) := by decide +kernel
theorem dMD_waits_49 : decode bMD_waits 49 = .ok (.iload_n 2, 1) := by decide +kernel
theorem dMD_waits_50 : decode bMD_waits 50 = .ok (.ifCond .lt 19, 3) := by decide +kernel
theorem dMD_waits_53 : decode bMD_waits 53 = .ok (.aload_n 0, 1) := by decide +kernel
theorem dMD_waits_54 : decode bMD_waits 54 = .ok (.getfield 41, 3) := by decide +kernel
theorem dMD_waits_57 : decode bMD_waits 57 = .ok (.iload 4, 2) := by decide +kernel
theorem dMD_waits_59 : decode bMD_waits 59 = .ok (.iaload, 1) := by decide +kernel
theorem dMD_waits_60 : decode bMD_waits 60 = .ok (.aload_n 0, 1) := by decide +kernel
theorem dMD_waits_61 : decode bMD_waits 61 = .ok (.getfield 41, 3) := by decide +kernel
theorem dMD_waits_64 : decode bMD_waits 64 = .ok (.iload_n 2, 1) := by decide +kernel
theorem dMD_waits_65 : decode bMD_waits 65 = .ok (.iaload, 1) := by decide +kernel
theorem dMD_waits_66 : decode bMD_waits 66 = .ok (.if_icmp .ge 8, 3) := by decide +kernel
theorem dMD_waits_69 : decode bMD_waits 69 = .ok (.iload 4, 2) := by decide +kernel
theorem dMD_waits_71 : decode bMD_waits 71 = .ok (.goto 4, 3) := by decide +kernel
theorem dMD_waits_74 : decode bMD_waits 74 = .ok (.iload_n 2, 1) := by decide +kernel
theorem dMD_waits_75 : decode bMD_waits 75 = .ok (.istore_n 2, 1) := by decide +kernel
theorem dMD_waits_76 : decode bMD_waits 76 = .ok (.iinc 3 1, 3) := by decide +kernel
theorem dMD_waits_79 : decode bMD_waits 79 = .ok (.goto (-53), 3) := by decide +kernel
theorem dMD_waits_82 : decode bMD_waits 82 = .ok (.iload_n 2, 1) := by decide +kernel
theorem dMD_waits_83 : decode bMD_waits 83 = .ok (.ifCond .ge 7, 3) := by decide +kernel
theorem dMD_waits_86 : decode bMD_waits 86 = .ok (.iconst (-1), 1) := by decide +kernel
theorem dMD_waits_87 : decode bMD_waits 87 = .ok (.goto 9, 3) := by decide +kernel
theorem dMD_waits_90 : decode bMD_waits 90 = .ok (.aload_n 0, 1) := by decide +kernel
theorem dMD_waits_91 : decode bMD_waits 91 = .ok (.getfield 38, 3) := by decide +kernel
theorem dMD_waits_94 : decode bMD_waits 94 = .ok (.iload_n 2, 1) := by decide +kernel
theorem dMD_waits_95 : decode bMD_waits 95 = .ok (.iaload, 1) := by decide +kernel
theorem dMD_waits_96 : decode bMD_waits 96 = .ok (.ireturn, 1) := by decide +kernel
theorem dMD_reset_0 : decode bMD_reset 0 = .ok (.aload_n 0, 1) := by decide +kernel
theorem dMD_reset_1 : decode bMD_reset 1 = .ok (.iload_n 1, 1) := by decide +kernel
theorem dMD_reset_2 : decode bMD_reset 2 = .ok (.iconst 4, 1) := by decide +kernel
theorem dMD_reset_3 : decode bMD_reset 3 = .ok (.invokestatic 69, 3) := by decide +kernel
theorem dMD_reset_6 : decode bMD_reset 6 = .ok (.ifCond .eq 7, 3) := by decide +kernel
theorem dMD_reset_9 : decode bMD_reset 9 = .ok (.iconst 0, 1) := by decide +kernel
theorem dMD_reset_10 : decode bMD_reset 10 = .ok (.goto 4, 3) := by decide +kernel
theorem dMD_reset_13 : decode bMD_reset 13 = .ok (.iconst 1, 1) := by decide +kernel
theorem dMD_reset_14 : decode bMD_reset 14 = .ok (.invokevirtual 73, 3) := by decide +kernel
theorem dMD_reset_17 : decode bMD_reset 17 = .ok (.ifCond .eq 5, 3) := by decide +kernel
theorem dMD_reset_20 : decode bMD_reset 20 = .ok (.iconst 0, 1) := by decide +kernel
theorem dMD_reset_21 : decode bMD_reset 21 = .ok (.ireturn, 1) := by decide +kernel
theorem dMD_reset_22 : decode bMD_reset 22 = .ok (.iconst 0, 1) := by decide +kernel
theorem dMD_reset_23 : decode bMD_reset 23 = .ok (.istore_n 2, 1) := by decide +kernel
theorem dMD_reset_24 : decode bMD_reset 24 = .ok (.iconst 0, 1) := by decide +kernel
theorem dMD_reset_25 : decode bMD_reset 25 = .ok (.istore_n 3, 1) := by decide +kernel
theorem dMD_reset_26 : decode bMD_reset 26 = .ok (.iload_n 3, 1) := by decide +kernel
theorem dMD_reset_27 : decode bMD_reset 27 = .ok (.iconst 4, 1) := by decide +kernel
theorem dMD_reset_28 : decode bMD_reset 28 = .ok (.if_icmp .ge 38, 3) := by decide +kernel
theorem dMD_reset_31 : decode bMD_reset 31 = .ok (.iconst 4, 1) := by decide +kernel
theorem dMD_reset_32 : decode bMD_reset 32 = .ok (.iload_n 1, 1) := by decide +kernel
theorem dMD_reset_33 : decode bMD_reset 33 = .ok (.imul, 1) := by decide +kernel
theorem dMD_reset_34 : decode bMD_reset 34 = .ok (.iload_n 3, 1) := by decide +kernel
theorem dMD_reset_35 : decode bMD_reset 35 = .ok (.iadd, 1) := by decide +kernel
theorem dMD_reset_36 : decode bMD_reset 36 = .ok (.istore 4, 2) := by decide +kernel
theorem dMD_reset_38 : decode bMD_reset 38 = .ok (.aload_n 0, 1) := by decide +kernel
theorem dMD_reset_39 : decode bMD_reset 39 = .ok (.getfield 26, 3) := by decide +kernel
theorem dMD_reset_42 : decode bMD_reset 42 = .ok (.iload 4, 2) := by decide +kernel
theorem dMD_reset_44 : decode bMD_reset 44 = .ok (.iaload, 1) := by decide +kernel
theorem dMD_reset_45 : decode bMD_reset 45 = .ok (.iconst 1, 1) := by decide +kernel
theorem dMD_reset_46 : decode bMD_reset 46 = .ok (.if_icmp .ne 14, 3) := by decide +kernel
theorem dMD_reset_49 : decode bMD_reset 49 = .ok (.aload_n 0, 1) := by decide +kernel
theorem dMD_reset_50 : decode bMD_reset 50 = .ok (.getfield 26, 3) := by decide +kernel
theorem dMD_reset_53 : decode bMD_reset 53 = .ok (.iload 4, 2) := by decide +kernel
theorem dMD_reset_55 : decode bMD_reset 55 = .ok (.iconst 0, 1) := by decide +kernel
theorem dMD_reset_56 : decode bMD_reset 56 = .ok (.iastore, 1) := by decide +kernel
theorem dMD_reset_57 : decode bMD_reset 57 = .ok (.iinc 2 1, 3) := by decide +kernel
theorem dMD_reset_60 : decode bMD_reset 60 = .ok (.iinc 3 1, 3) := by decide +kernel
theorem dMD_reset_63 : decode bMD_reset 63 = .ok (.goto (-37), 3) := by decide +kernel
theorem dMD_reset_66 : decode bMD_reset 66 = .ok (.iconst 0, 1) := by decide +kernel
theorem dMD_reset_67 : decode bMD_reset 67 = .ok (.istore_n 3, 1) := by decide +kernel
theorem dMD_reset_68 : decode bMD_reset 68 = .ok (.iload_n 3, 1) := by decide +kernel
theorem dMD_reset_69 : decode bMD_reset 69 = .ok (.iconst 3, 1) := by decide +kernel
theorem dMD_reset_70 : decode bMD_reset 70 = .ok (.if_icmp .ge 35, 3) := by decide +kernel
theorem dMD_reset_73 : decode bMD_reset 73 = .ok (.aload_n 0, 1) := by decide +kernel
theorem dMD_reset_74 : decode bMD_reset 74 = .ok (.getfield 23, 3) := by decide +kernel
theorem dMD_reset_77 : decode bMD_reset 77 = .ok (.iload_n 3, 1) := by decide +kernel
theorem dMD_reset_78 : decode bMD_reset 78 = .ok (.aload_n 0, 1) := by decide +kernel
theorem dMD_reset_79 : decode bMD_reset 79 = .ok (.getfield 23, 3) := by decide +kernel
theorem dMD_reset_82 : decode bMD_reset 82 = .ok (.iload_n 3, 1) := by decide +kernel
theorem dMD_reset_83 : decode bMD_reset 83 = .ok (.iaload, 1) := by decide +kernel
theorem dMD_reset_84 : decode bMD_reset 84 = .ok (.iload_n 1, 1) := by decide +kernel
theorem dMD_reset_85 : decode bMD_reset 85 = .ok (.if_icmp .ne 7, 3) := by decide +kernel
theorem dMD_reset_88 : decode bMD_reset 88 = .ok (.iconst (-1), 1) := by decide +kernel
theorem dMD_reset_89 : decode bMD_reset 89 = .ok (.goto 9, 3) := by decide +kernel
theorem dMD_reset_92 : decode bMD_reset 92 = .ok (.aload_n 0, 1) := by decide +kernel
theorem dMD_reset_93 : decode bMD_reset 93 = .ok (.getfield 23, 3) := by decide +kernel
theorem dMD_reset_96 : decode bMD_reset 96 = .ok (.iload_n 3, 1) := by decide +kernel
theorem dMD_reset_97 : decode bMD_reset 97 = .ok (.iaload, 1) := by decide +kernel
theorem dMD_reset_98 : decode bMD_reset 98 = .ok (.iastore, 1) := by decide +kernel
theorem dMD_reset_99 : decode bMD_reset 99 = .ok (.iinc 3 1, 3) := by decide +kernel
theorem dMD_reset_102 : decode bMD_reset 102 = .ok (.goto (-34), 3) := by decide +kernel
theorem dMD_reset_105 : decode bMD_reset 105 = .ok (.iload_n 2, 1) := by decide +kernel
theorem dMD_reset_106 : decode bMD_reset 106 = .ok (.ireturn, 1) := by decide +kernel
theorem dMD_credits_0 : decode bMD_credits 0 = .ok (.aload_n 0, 1) := by decide +kernel
theorem dMD_credits_1 : decode bMD_credits 1 = .ok (.iload_n 1, 1) := by decide +kernel
theorem dMD_credits_2 : decode bMD_credits 2 = .ok (.iconst 3, 1) := by decide +kernel
theorem dMD_credits_3 : decode bMD_credits 3 = .ok (.invokestatic 69, 3) := by decide +kernel
theorem dMD_credits_6 : decode bMD_credits 6 = .ok (.ifCond .eq 7, 3) := by decide +kernel
theorem dMD_credits_9 : decode bMD_credits 9 = .ok (.iconst 0, 1) := by decide +kernel
theorem dMD_credits_10 : decode bMD_credits 10 = .ok (.goto 4, 3) := by decide +kernel
theorem dMD_credits_13 : decode bMD_credits 13 = .ok (.iconst 1, 1) := by decide +kernel
theorem dMD_credits_14 : decode bMD_credits 14 = .ok (.invokevirtual 73, 3) := by decide +kernel
theorem dMD_credits_17 : decode bMD_credits 17 = .ok (.ifCond .eq 7, 3) := by decide +kernel
theorem dMD_credits_20 : decode bMD_credits 20 = .ok (.iconst 0, 1) := by decide +kernel
theorem dMD_credits_21 : decode bMD_credits 21 = .ok (.goto 8, 3) := by decide +kernel
theorem dMD_credits_24 : decode bMD_credits 24 = .ok (.aload_n 0, 1) := by decide +kernel
theorem dMD_credits_25 : decode bMD_credits 25 = .ok (.iload_n 1, 1) := by decide +kernel
theorem dMD_credits_26 : decode bMD_credits 26 = .ok (.invokevirtual 110, 3) := by decide +kernel
theorem dMD_credits_29 : decode bMD_credits 29 = .ok (.ireturn, 1) := by decide +kernel
theorem dMD_holder_0 : decode bMD_holder 0 = .ok (.aload_n 0, 1) := by decide +kernel
theorem dMD_holder_1 : decode bMD_holder 1 = .ok (.iload_n 1, 1) := by decide +kernel
theorem dMD_holder_2 : decode bMD_holder 2 = .ok (.iconst 3, 1) := by decide +kernel
theorem dMD_holder_3 : decode bMD_holder 3 = .ok (.invokestatic 69, 3) := by decide +kernel
theorem dMD_holder_6 : decode bMD_holder 6 = .ok (.ifCond .eq 7, 3) := by decide +kernel
theorem dMD_holder_9 : decode bMD_holder 9 = .ok (.iconst 0, 1) := by decide +kernel
theorem dMD_holder_10 : decode bMD_holder 10 = .ok (.goto 4, 3) := by decide +kernel
theorem dMD_holder_13 : decode bMD_holder 13 = .ok (.iconst 1, 1) := by decide +kernel
theorem dMD_holder_14 : decode bMD_holder 14 = .ok (.invokevirtual 73, 3) := by decide +kernel
theorem dMD_holder_17 : decode bMD_holder 17 = .ok (.ifCond .eq 7, 3) := by decide +kernel
theorem dMD_holder_20 : decode bMD_holder 20 = .ok (.iconst 0, 1) := by decide +kernel
theorem dMD_holder_21 : decode bMD_holder 21 = .ok (.goto 9, 3) := by decide +kernel
theorem dMD_holder_24 : decode bMD_holder 24 = .ok (.aload_n 0, 1) := by decide +kernel
theorem dMD_holder_25 : decode bMD_holder 25 = .ok (.getfield 23, 3) := by decide +kernel
theorem dMD_holder_28 : decode bMD_holder 28 = .ok (.iload_n 1, 1) := by decide +kernel
theorem dMD_holder_29 : decode bMD_holder 29 = .ok (.iaload, 1) := by decide +kernel
theorem dMD_holder_30 : decode bMD_holder 30 = .ok (.ireturn, 1) := by decide +kernel
theorem dMD_memory_0 : decode bMD_memory 0 = .ok (.aload_n 0, 1) := by decide +kernel
theorem dMD_memory_1 : decode bMD_memory 1 = .ok (.iload_n 1, 1) := by decide +kernel
theorem dMD_memory_2 : decode bMD_memory 2 = .ok (.bipush 48, 2) := by decide +kernel
theorem dMD_memory_4 : decode bMD_memory 4 = .ok (.invokestatic 69, 3) := by decide +kernel
theorem dMD_memory_7 : decode bMD_memory 7 = .ok (.ifCond .eq 7, 3) := by decide +kernel
theorem dMD_memory_10 : decode bMD_memory 10 = .ok (.iconst 0, 1) := by decide +kernel
theorem dMD_memory_11 : decode bMD_memory 11 = .ok (.goto 4, 3) := by decide +kernel
theorem dMD_memory_14 : decode bMD_memory 14 = .ok (.iconst 1, 1) := by decide +kernel
theorem dMD_memory_15 : decode bMD_memory 15 = .ok (.invokevirtual 73, 3) := by decide +kernel
theorem dMD_memory_18 : decode bMD_memory 18 = .ok (.ifCond .eq 7, 3) := by decide +kernel
theorem dMD_memory_21 : decode bMD_memory 21 = .ok (.iconst 0, 1) := by decide +kernel
theorem dMD_memory_22 : decode bMD_memory 22 = .ok (.goto 9, 3) := by decide +kernel
theorem dMD_memory_25 : decode bMD_memory 25 = .ok (.aload_n 0, 1) := by decide +kernel
theorem dMD_memory_26 : decode bMD_memory 26 = .ok (.getfield 7, 3) := by decide +kernel
theorem dMD_memory_29 : decode bMD_memory 29 = .ok (.iload_n 1, 1) := by decide +kernel
theorem dMD_memory_30 : decode bMD_memory 30 = .ok (.iaload, 1) := by decide +kernel
theorem dMD_memory_31 : decode bMD_memory 31 = .ok (.ireturn, 1) := by decide +kernel
theorem dMD_served_0 : decode bMD_served 0 = .ok (.aload_n 0, 1) := by decide +kernel
theorem dMD_served_1 : decode bMD_served 1 = .ok (.iconst 0, 1) := by decide +kernel
theorem dMD_served_2 : decode bMD_served 2 = .ok (.putfield 66, 3) := by decide +kernel
theorem dMD_served_5 : decode bMD_served 5 = .ok (.aload_n 0, 1) := by decide +kernel
theorem dMD_served_6 : decode bMD_served 6 = .ok (.getfield 95, 3) := by decide +kernel
theorem dMD_served_9 : decode bMD_served 9 = .ok (.ireturn, 1) := by decide +kernel
theorem dMD_service_0 : decode bMD_service 0 = .ok (.aload_n 0, 1) := by decide +kernel
theorem dMD_service_1 : decode bMD_service 1 = .ok (.iload_n 1, 1) := by decide +kernel
theorem dMD_service_2 : decode bMD_service 2 = .ok (.aload_n 0, 1) := by decide +kernel
theorem dMD_service_3 : decode bMD_service 3 = .ok (.getfield 95, 3) := by decide +kernel
theorem dMD_service_6 : decode bMD_service 6 = .ok (.invokestatic 69, 3) := by decide +kernel
theorem dMD_service_9 : decode bMD_service 9 = .ok (.ifCond .ne 7, 3) := by decide +kernel
theorem dMD_service_12 : decode bMD_service 12 = .ok (.iconst 1, 1) := by decide +kernel
theorem dMD_service_13 : decode bMD_service 13 = .ok (.goto 17, 3) := by decide +kernel
theorem dMD_service_16 : decode bMD_service 16 = .ok (.iload_n 2, 1) := by decide +kernel
theorem dMD_service_17 : decode bMD_service 17 = .ok (.bipush 6, 2) := by decide +kernel
theorem dMD_service_19 : decode bMD_service 19 = .ok (.invokestatic 69, 3) := by decide +kernel
theorem dMD_service_22 : decode bMD_service 22 = .ok (.ifCond .ne 7, 3) := by decide +kernel
theorem dMD_service_25 : decode bMD_service 25 = .ok (.iconst 2, 1) := by decide +kernel
theorem dMD_service_26 : decode bMD_service 26 = .ok (.goto 4, 3) := by decide +kernel
theorem dMD_service_29 : decode bMD_service 29 = .ok (.iconst 0, 1) := by decide +kernel
theorem dMD_service_30 : decode bMD_service 30 = .ok (.invokevirtual 73, 3) := by decide +kernel
theorem dMD_service_33 : decode bMD_service 33 = .ok (.ifCond .eq 7, 3) := by decide +kernel
theorem dMD_service_36 : decode bMD_service 36 = .ok (.iconst 0, 1) := by decide +kernel
theorem dMD_service_37 : decode bMD_service 37 = .ok (.goto 14, 3) := by decide +kernel
theorem dMD_service_40 : decode bMD_service 40 = .ok (.aload_n 0, 1) := by decide +kernel
theorem dMD_service_41 : decode bMD_service 41 = .ok (.getfield 63, 3) := by decide +kernel
theorem dMD_service_44 : decode bMD_service 44 = .ok (.bipush 6, 2) := by decide +kernel
theorem dMD_service_46 : decode bMD_service 46 = .ok (.iload_n 1, 1) := by decide +kernel
theorem dMD_service_47 : decode bMD_service 47 = .ok (.imul, 1) := by decide +kernel
theorem dMD_service_48 : decode bMD_service 48 = .ok (.iload_n 2, 1) := by decide +kernel
theorem dMD_service_49 : decode bMD_service 49 = .ok (.iadd, 1) := by decide +kernel
theorem dMD_service_50 : decode bMD_service 50 = .ok (.iaload, 1) := by decide +kernel
theorem dMD_service_51 : decode bMD_service 51 = .ok (.ireturn, 1) := by decide +kernel
end
section
/-! What the reference's methods ask of the memory, and do to it. -/
def xp_in (x n : Int32) : Prop := ¬ x < 0 ∧ ¬ n ≤ x
def xoi (o : Option Nat) : Int32 := match o with
  | none => -1
  | some r => nI r
theorem x63 (x : Int32) : nI 63 < x ↔ nI 64 ≤ x := by
  rw [Int32.lt_iff_toInt_lt, Int32.le_iff_toInt_le, show (nI 63).toInt = 63 by decide, show (nI 64).toInt = 64 by decide]
  omega
def mp_open (σ : xMem) (r : Nat) : Prop := σ 26 0 r = nI 1 ∨ σ 26 0 r = nI 2
def mp_map (σ : xMem) (r : Nat) : Prop := ¬ σ 27 0 r = nI 4 ∧ ¬ nI 48 ≤ σ 28 0 r
def mp_wait (σ : xMem) (a i : Nat) (x : Int32) : Prop := ∃ j, j < i ∧ σ 26 0 (4 * a + j) = nI 1 ∧ σ 27 0 (4 * a + j) = x
def mp_meet (σ : xMem) (r q : Nat) : Prop := ¬ σ 27 0 r = nI 4 ∧ ¬ σ 27 0 q = nI 4 ∧ σ 28 0 r < σ 28 0 q + σ 29 0 q ∧ σ 28 0 q < σ 28 0 r + σ 29 0 r
def mp_bars (σ : xMem) (r q : Nat) : Prop := mp_open σ q ∧ σ 31 0 q < σ 31 0 r ∧ (σ 27 0 q = nI 4 ∨ σ 27 0 r = nI 4 ∨ (σ 26 0 q = nI 1 ∧ mp_meet σ r q))
def mf_cr (σ : xMem) (x : Int32) : Nat → Int32
  | 0 => nI 4
  | i + 1 => if σ 26 0 i = nI 2 ∧ σ 28 0 i / nI 16 = x then mf_cr σ x i - nI 1 else mf_cr σ x i
theorem mf_cr_t {σ : xMem} {x : Int32} {i : Nat} (h : σ 26 0 i = nI 2) (h2 : σ 28 0 i / nI 16 = x) : mf_cr σ x i - nI 1 = mf_cr σ x (i + 1) := by
  show _ = if _ then _ else _
  rw [if_pos ⟨h, h2⟩]
theorem mf_cr_f {σ : xMem} {x : Int32} {i : Nat} (h : ¬ (σ 26 0 i = nI 2 ∧ σ 28 0 i / nI 16 = x)) : mf_cr σ x i = mf_cr σ x (i + 1) := by
  show _ = if _ then _ else _
  rw [if_neg h]
def mp_inq (σ : xMem) (x : Int32) (r : Nat) : Prop := σ 26 0 r = nI 2 ∧ 0 < σ 32 0 r ∧ σ 28 0 r / nI 16 = x
noncomputable def mf_fst (σ : xMem) (x : Int32) : Nat → Option Nat := xf_it (mp_inq σ x) (fun r b => σ 32 0 r < σ 32 0 b) (fun i => i)
theorem mf_fst_s (σ : xMem) (x : Int32) (i : Nat) : mf_fst σ x (i + 1) = xf_step (mp_inq σ x) (fun r b => σ 32 0 r < σ 32 0 b) (mf_fst σ x i) i := rfl
theorem mf_fst_lt {σ : xMem} {x : Int32} {i b : Nat} (h : mf_fst σ x i = some b) : b < i := by
  obtain ⟨j, hj, e⟩ := xf_it_in i b h
  omega
noncomputable def mf_class (σ : xMem) (r : Nat) : Int32 := if σ 23 0 (r / 4) + σ 30 0 r / nI 16 ≤ nI 2 then σ 23 0 (r / 4) + σ 30 0 r / nI 16 else nI 2
def mp_before (σ : xMem) (g r q : Nat) : Prop := (¬ mf_class σ r = mf_class σ q ∧ mf_class σ q < mf_class σ r) ∨ (mf_class σ r = mf_class σ q ∧ ((¬ (r / 4 + 3 - g) % 4 = (q / 4 + 3 - g) % 4 ∧ (r / 4 + 3 - g) % 4 < (q / 4 + 3 - g) % 4) ∨ ((r / 4 + 3 - g) % 4 = (q / 4 + 3 - g) % 4 ∧ σ 31 0 r < σ 31 0 q)))
def mp_elig (σ : xMem) (r : Nat) : Prop := σ 26 0 r = nI 1 ∧ (∀ t, t < 4 → ¬ mp_bars σ r (4 * (r / 4) + t)) ∧ (¬ mp_map σ r ∨ (0 < mf_cr σ (σ 28 0 r / nI 16) 16 ∧ (σ 25 0 ((σ 28 0 r).toNatClampNeg / 16) = -1 ∨ (σ 27 0 r = nI 3 ∧ σ 25 0 ((σ 28 0 r).toNatClampNeg / 16) = nI (r / 4)))))
noncomputable def mf_best (σ : xMem) (g : Nat) : Nat → Option Nat := xf_it (mp_elig σ) (mp_before σ g) (fun i => i)
theorem mf_best_s (σ : xMem) (g i : Nat) : mf_best σ g (i + 1) = xf_step (mp_elig σ) (mp_before σ g) (mf_best σ g i) i := rfl
theorem mf_best_lt {σ : xMem} {g i b : Nat} (h : mf_best σ g i = some b) : b < i := by
  obtain ⟨j, hj, e⟩ := xf_it_in i b h
  omega
theorem mp_wait_0 (σ : xMem) (a : Nat) (x : Int32) : xb (mp_wait σ a 0 x) = nI 0 := xb_f (by rintro ⟨j, hj, -⟩; omega)
theorem mp_wait_s (σ : xMem) (a i : Nat) (x : Int32) : mp_wait σ a (i + 1) x ↔ mp_wait σ a i x ∨ (σ 26 0 (4 * a + i) = nI 1 ∧ σ 27 0 (4 * a + i) = x) := by
  constructor
  · rintro ⟨j, hj, h⟩
    by_cases e : j = i
    · subst e; exact Or.inr h
    · exact Or.inl ⟨j, by omega, h⟩
  · rintro (⟨j, hj, h⟩ | h)
    · exact ⟨j, by omega, h⟩
    · exact ⟨i, by omega, h⟩
end
section
/-! The reference: what it asks. -/
set_option maxRecDepth 100000 in
set_option maxHeartbeats 4000000 in
theorem cMD_isIn (l : Launch) (D : va_G) (cA : Nat → ClassId) (tz : Nat) (I : List (Nat × Nat)) (ad : Nat → Nat → Nat) (σ : xMem) (x y : Int32) : xD l yMD_isIn bMD_isIn 2 (some .boolean) 1 [.int x, .int y] D cA tz I ad σ (some (.int (xb (xp_in x y)))) σ := by
  refine xd_of (by decide) (by simp [lg_sl, Value.category]) ?_
  intro p e s m args below meth c A ls C hr hlk hml hl w hz
  obtain ⟨hx, hb, hown, hts⟩ := id C
  have hl : lv_has ls 2 [(0, .int x), (1, .int y)] := hl
  refine lv_iload_n hx hb dMD_isIn_0 rfl (lv_at hl 0 rfl) ?_
  refine lv_if_lt hx hb dMD_isIn_1 rfl (fun hh1 => ?_) (fun hh1 => ?_)
  · skip
    refine lv_iconst (v := nI 0) hx hb dMD_isIn_13 xk_i0 ?_
    exact xd_zf C w hr hlk dMD_isIn_14 (by unfold xp_in; grind [nI_0]) rfl
  · skip
    refine lv_iload_n hx hb dMD_isIn_4 rfl (lv_at hl 0 rfl) ?_
    refine lv_iload_n hx hb dMD_isIn_5 rfl (lv_at hl 1 rfl) ?_
    refine lv_icmp_ge hx hb dMD_isIn_6 rfl (fun hh2 => ?_) (fun hh2 => ?_)
    · skip
      refine lv_iconst (v := nI 0) hx hb dMD_isIn_13 xk_i0 ?_
      exact xd_zf C w hr hlk dMD_isIn_14 (by unfold xp_in; grind [nI_0]) rfl
    · skip
      refine lv_iconst (v := nI 1) hx hb dMD_isIn_9 xk_i1 ?_
      refine lv_goto hx hb dMD_isIn_10 rfl ?_
      exact xd_zt C w hr hlk dMD_isIn_14 (by unfold xp_in; grind [nI_0]) rfl
set_option maxRecDepth 100000 in
set_option maxHeartbeats 4000000 in
theorem cMD_refused (l : Launch) (D : va_G) (cA : Nat → ClassId) (tz : Nat) (I : List (Nat × Nat)) (ad : Nat → Nat → Nat) (σ : xMem) (x : Int32) (hJ : xJ I) : xD l yMD_refused bMD_refused 2 (some .boolean) 1 [.ref (ad 20 0), .int x] D cA tz I ad σ (some (.int (xb (¬ x ≤ 0)))) (xu3 σ 20 0 0 x) := by
  refine xd_of (by decide) (by simp [lg_sl, Value.category]) ?_
  intro p e s m args below meth c A ls C hr hlk hml hl w hz
  obtain ⟨hx, hb, hown, hts⟩ := id C
  have hl : lv_has ls 2 [(0, .ref (ad 20 0)), (1, .int x)] := hl
  refine lv_aload_n hx hb dMD_refused_0 rfl (lv_at hl 0 rfl) ?_
  refine lv_iload_n hx hb dMD_refused_1 rfl (lv_at hl 1 rfl) ?_
  refine xp_MD_66 C w (xJ20 hJ) dMD_refused_2 (fun H locs w => ?_)
  refine lv_iload_n hx hb dMD_refused_5 rfl (lv_at hl 1 rfl) ?_
  refine lv_if_le hx hb dMD_refused_6 rfl (fun hh1 => ?_) (fun hh1 => ?_)
  · skip
    refine lv_iconst (v := nI 0) hx hb dMD_refused_13 xk_i0 ?_
    exact xd_zf C w hr hlk dMD_refused_14 (by grind) rfl
  · skip
    refine lv_iconst (v := nI 1) hx hb dMD_refused_9 xk_i1 ?_
    refine lv_goto hx hb dMD_refused_10 rfl ?_
    exact xd_zt C w hr hlk dMD_refused_14 (by grind) rfl
set_option maxRecDepth 100000 in
set_option maxHeartbeats 4000000 in
theorem cMD_isSound (l : Launch) (D : va_G) (cA : Nat → ClassId) (tz : Nat) (I : List (Nat × Nat)) (ad : Nat → Nat → Nat) (σ : xMem) (x y z : Int32) : xD l yMD_isSound bMD_isSound 4 (some .boolean) 1 [.int x, .int y, .int z] D cA tz I ad σ (some (.int (xb (xp_sound x y z)))) σ := by
  refine xd_of (by decide) (by simp [lg_sl, Value.category]) ?_
  intro p e s m args below meth c A ls C hr hlk hml hl w hz
  obtain ⟨hx, hb, hown, hts⟩ := id C
  have hl : lv_has ls 4 [(0, .int x), (1, .int y), (2, .int z)] := hl
  refine lv_iload_n hx hb dMD_isSound_0 rfl (lv_at hl 0 rfl) ?_
  refine lv_if_lt hx hb dMD_isSound_1 rfl (fun hh1 => ?_) (fun hh1 => ?_)
  · skip
    refine lv_iconst (v := nI 0) hx hb dMD_isSound_9 xk_i0 ?_
    exact xd_zf C w hr hlk dMD_isSound_10 (by have q := x63 y; unfold xp_sound; grind) rfl
  · skip
    refine lv_iload_n hx hb dMD_isSound_4 rfl (lv_at hl 0 rfl) ?_
    refine lv_iconst (v := nI 4) hx hb dMD_isSound_5 xk_i4 ?_
    refine lv_icmp_le hx hb dMD_isSound_6 rfl (fun hh2 => ?_) (fun hh2 => ?_)
    · skip
      refine lv_iload_n hx hb dMD_isSound_11 rfl (lv_at hl 0 rfl) ?_
      refine lv_iconst (v := nI 2) hx hb dMD_isSound_12 xk_i2 ?_
      refine lv_icmp_eq hx hb dMD_isSound_13 rfl (fun hh3 => ?_) (fun hh3 => ?_)
      · skip
        refine lv_iconst (v := nI 1) hx hb dMD_isSound_21 xk_i1 ?_
        refine lv_goto hx hb dMD_isSound_22 rfl ?_
        refine lv_istore_n (lv' := [(3, .int (nI 1)), (0, .int x), (1, .int y), (2, .int z)]) hx hb dMD_isSound_26 rfl hl (by decide) rfl (fun ls hl => ?_)
        refine lv_iload_n hx hb dMD_isSound_27 rfl (lv_at hl 1 rfl) ?_
        refine lv_iconst (v := nI 4) hx hb dMD_isSound_28 xk_i4 ?_
        refine lv_icmp_eq hx hb dMD_isSound_29 rfl (fun hh4 => ?_) (fun hh4 => ?_)
        · skip
          refine lv_iconst (v := nI 1) hx hb dMD_isSound_75 xk_i1 ?_
          refine lv_goto hx hb dMD_isSound_76 rfl ?_
          exact xd_zt C w hr hlk dMD_isSound_80 (by have q := x63 y; unfold xp_sound; grind) rfl
        · skip
          refine lv_iload_n hx hb dMD_isSound_32 rfl (lv_at hl 2 rfl) ?_
          refine lv_if_lt hx hb dMD_isSound_33 rfl (fun hh5 => ?_) (fun hh5 => ?_)
          · skip
            refine lv_iconst (v := nI 0) hx hb dMD_isSound_79 xk_i0 ?_
            exact xd_zf C w hr hlk dMD_isSound_80 (by have q := x63 y; unfold xp_sound; grind) rfl
          · skip
            refine lv_iload_n hx hb dMD_isSound_36 rfl (lv_at hl 2 rfl) ?_
            refine lv_bipush (v := nI 63) hx hb dMD_isSound_37 xk_b63 ?_
            refine lv_icmp_gt hx hb dMD_isSound_39 rfl (fun hh6 => ?_) (fun hh6 => ?_)
            · skip
              refine lv_iconst (v := nI 0) hx hb dMD_isSound_79 xk_i0 ?_
              exact xd_zf C w hr hlk dMD_isSound_80 (by have q := x63 y; unfold xp_sound; grind) rfl
            · skip
              refine lv_iload_n hx hb dMD_isSound_42 rfl (lv_at hl 3 rfl) ?_
              refine lv_iconst (v := nI 1) hx hb dMD_isSound_43 xk_i1 ?_
              refine lv_icmp_lt hx hb dMD_isSound_44 rfl (fun hh7 => ?_) (fun hh7 => ?_)
              · skip
                refine lv_iconst (v := nI 0) hx hb dMD_isSound_79 xk_i0 ?_
                exact xd_zf C w hr hlk dMD_isSound_80 (by have q := x63 y; unfold xp_sound; grind) rfl
              · skip
                refine lv_iload_n hx hb dMD_isSound_47 rfl (lv_at hl 3 rfl) ?_
                refine lv_iload_n hx hb dMD_isSound_48 rfl (lv_at hl 0 rfl) ?_
                refine lv_if_eq hx hb dMD_isSound_49 rfl (fun hq => absurd hq (by decide)) (fun _ => ?_)
                refine lv_iconst (v := nI 1) hx hb dMD_isSound_52 xk_i1 ?_
                refine lv_goto hx hb dMD_isSound_53 rfl ?_
                refine lv_icmp_gt hx hb dMD_isSound_57 rfl (fun hh8 => ?_) (fun hh8 => ?_)
                · skip
                  refine lv_iconst (v := nI 0) hx hb dMD_isSound_79 xk_i0 ?_
                  exact xd_zf C w hr hlk dMD_isSound_80 (by have q := x63 y; unfold xp_sound; grind) rfl
                · skip
                  refine lv_iload_n hx hb dMD_isSound_60 rfl (lv_at hl 2 rfl) ?_
                  refine lv_bipush (v := nI 16) hx hb dMD_isSound_61 xk_b16 ?_
                  refine lv_idiv hx hb dMD_isSound_63 (by decide) ?_
                  refine lv_iload_n hx hb dMD_isSound_64 rfl (lv_at hl 2 rfl) ?_
                  refine lv_iload_n hx hb dMD_isSound_65 rfl (lv_at hl 3 rfl) ?_
                  refine lv_iadd hx hb dMD_isSound_66 ?_
                  refine lv_iconst (v := nI 1) hx hb dMD_isSound_67 xk_i1 ?_
                  refine lv_isub hx hb dMD_isSound_68 ?_
                  refine lv_bipush (v := nI 16) hx hb dMD_isSound_69 xk_b16 ?_
                  refine lv_idiv hx hb dMD_isSound_71 (by decide) ?_
                  refine lv_icmp_ne hx hb dMD_isSound_72 rfl (fun hh9 => ?_) (fun hh9 => ?_)
                  · skip
                    refine lv_iconst (v := nI 0) hx hb dMD_isSound_79 xk_i0 ?_
                    exact xd_zf C w hr hlk dMD_isSound_80 (by have q := x63 y; unfold xp_sound; grind) rfl
                  · skip
                    refine lv_iconst (v := nI 1) hx hb dMD_isSound_75 xk_i1 ?_
                    refine lv_goto hx hb dMD_isSound_76 rfl ?_
                    exact xd_zt C w hr hlk dMD_isSound_80 (by have q := x63 y; unfold xp_sound; grind) rfl
      · skip
        refine lv_iload_n hx hb dMD_isSound_16 rfl (lv_at hl 0 rfl) ?_
        refine lv_iconst (v := nI 3) hx hb dMD_isSound_17 xk_i3 ?_
        refine lv_icmp_ne hx hb dMD_isSound_18 rfl (fun hh10 => ?_) (fun hh10 => ?_)
        · skip
          refine lv_iconst (v := nI 0) hx hb dMD_isSound_25 xk_i0 ?_
          refine lv_istore_n (lv' := [(3, .int (nI 0)), (0, .int x), (1, .int y), (2, .int z)]) hx hb dMD_isSound_26 rfl hl (by decide) rfl (fun ls hl => ?_)
          refine lv_iload_n hx hb dMD_isSound_27 rfl (lv_at hl 1 rfl) ?_
          refine lv_iconst (v := nI 4) hx hb dMD_isSound_28 xk_i4 ?_
          refine lv_icmp_eq hx hb dMD_isSound_29 rfl (fun hh11 => ?_) (fun hh11 => ?_)
          · skip
            refine lv_iconst (v := nI 1) hx hb dMD_isSound_75 xk_i1 ?_
            refine lv_goto hx hb dMD_isSound_76 rfl ?_
            exact xd_zt C w hr hlk dMD_isSound_80 (by have q := x63 y; unfold xp_sound; grind) rfl
          · skip
            refine lv_iload_n hx hb dMD_isSound_32 rfl (lv_at hl 2 rfl) ?_
            refine lv_if_lt hx hb dMD_isSound_33 rfl (fun hh12 => ?_) (fun hh12 => ?_)
            · skip
              refine lv_iconst (v := nI 0) hx hb dMD_isSound_79 xk_i0 ?_
              exact xd_zf C w hr hlk dMD_isSound_80 (by have q := x63 y; unfold xp_sound; grind) rfl
            · skip
              refine lv_iload_n hx hb dMD_isSound_36 rfl (lv_at hl 2 rfl) ?_
              refine lv_bipush (v := nI 63) hx hb dMD_isSound_37 xk_b63 ?_
              refine lv_icmp_gt hx hb dMD_isSound_39 rfl (fun hh13 => ?_) (fun hh13 => ?_)
              · skip
                refine lv_iconst (v := nI 0) hx hb dMD_isSound_79 xk_i0 ?_
                exact xd_zf C w hr hlk dMD_isSound_80 (by have q := x63 y; unfold xp_sound; grind) rfl
              · skip
                refine lv_iload_n hx hb dMD_isSound_42 rfl (lv_at hl 3 rfl) ?_
                refine lv_iconst (v := nI 1) hx hb dMD_isSound_43 xk_i1 ?_
                refine lv_icmp_lt hx hb dMD_isSound_44 rfl (fun hh14 => ?_) (fun hh14 => ?_)
                · skip
                  refine lv_iconst (v := nI 0) hx hb dMD_isSound_79 xk_i0 ?_
                  exact xd_zf C w hr hlk dMD_isSound_80 (by have q := x63 y; unfold xp_sound; grind) rfl
                · skip
                  refine lv_iload_n hx hb dMD_isSound_47 rfl (lv_at hl 3 rfl) ?_
                  refine lv_iload_n hx hb dMD_isSound_48 rfl (lv_at hl 0 rfl) ?_
                  refine lv_if_eq hx hb dMD_isSound_49 rfl (fun _ => ?_) (fun hq => absurd nI_0 hq)
                  refine lv_iconst (v := nI 4) hx hb dMD_isSound_56 xk_i4 ?_
                  refine lv_icmp_gt hx hb dMD_isSound_57 rfl (fun hh15 => ?_) (fun hh15 => ?_)
                  · skip
                    refine lv_iconst (v := nI 0) hx hb dMD_isSound_79 xk_i0 ?_
                    exact xd_zf C w hr hlk dMD_isSound_80 (by have q := x63 y; unfold xp_sound; grind) rfl
                  · skip
                    refine lv_iload_n hx hb dMD_isSound_60 rfl (lv_at hl 2 rfl) ?_
                    refine lv_bipush (v := nI 16) hx hb dMD_isSound_61 xk_b16 ?_
                    refine lv_idiv hx hb dMD_isSound_63 (by decide) ?_
                    refine lv_iload_n hx hb dMD_isSound_64 rfl (lv_at hl 2 rfl) ?_
                    refine lv_iload_n hx hb dMD_isSound_65 rfl (lv_at hl 3 rfl) ?_
                    refine lv_iadd hx hb dMD_isSound_66 ?_
                    refine lv_iconst (v := nI 1) hx hb dMD_isSound_67 xk_i1 ?_
                    refine lv_isub hx hb dMD_isSound_68 ?_
                    refine lv_bipush (v := nI 16) hx hb dMD_isSound_69 xk_b16 ?_
                    refine lv_idiv hx hb dMD_isSound_71 (by decide) ?_
                    refine lv_icmp_ne hx hb dMD_isSound_72 rfl (fun hh16 => ?_) (fun hh16 => ?_)
                    · skip
                      refine lv_iconst (v := nI 0) hx hb dMD_isSound_79 xk_i0 ?_
                      exact xd_zf C w hr hlk dMD_isSound_80 (by have q := x63 y; unfold xp_sound; grind) rfl
                    · skip
                      refine lv_iconst (v := nI 1) hx hb dMD_isSound_75 xk_i1 ?_
                      refine lv_goto hx hb dMD_isSound_76 rfl ?_
                      exact xd_zt C w hr hlk dMD_isSound_80 (by have q := x63 y; unfold xp_sound; grind) rfl
        · skip
          refine lv_iconst (v := nI 1) hx hb dMD_isSound_21 xk_i1 ?_
          refine lv_goto hx hb dMD_isSound_22 rfl ?_
          refine lv_istore_n (lv' := [(3, .int (nI 1)), (0, .int x), (1, .int y), (2, .int z)]) hx hb dMD_isSound_26 rfl hl (by decide) rfl (fun ls hl => ?_)
          refine lv_iload_n hx hb dMD_isSound_27 rfl (lv_at hl 1 rfl) ?_
          refine lv_iconst (v := nI 4) hx hb dMD_isSound_28 xk_i4 ?_
          refine lv_icmp_eq hx hb dMD_isSound_29 rfl (fun hh17 => ?_) (fun hh17 => ?_)
          · skip
            refine lv_iconst (v := nI 1) hx hb dMD_isSound_75 xk_i1 ?_
            refine lv_goto hx hb dMD_isSound_76 rfl ?_
            exact xd_zt C w hr hlk dMD_isSound_80 (by have q := x63 y; unfold xp_sound; grind) rfl
          · skip
            refine lv_iload_n hx hb dMD_isSound_32 rfl (lv_at hl 2 rfl) ?_
            refine lv_if_lt hx hb dMD_isSound_33 rfl (fun hh18 => ?_) (fun hh18 => ?_)
            · skip
              refine lv_iconst (v := nI 0) hx hb dMD_isSound_79 xk_i0 ?_
              exact xd_zf C w hr hlk dMD_isSound_80 (by have q := x63 y; unfold xp_sound; grind) rfl
            · skip
              refine lv_iload_n hx hb dMD_isSound_36 rfl (lv_at hl 2 rfl) ?_
              refine lv_bipush (v := nI 63) hx hb dMD_isSound_37 xk_b63 ?_
              refine lv_icmp_gt hx hb dMD_isSound_39 rfl (fun hh19 => ?_) (fun hh19 => ?_)
              · skip
                refine lv_iconst (v := nI 0) hx hb dMD_isSound_79 xk_i0 ?_
                exact xd_zf C w hr hlk dMD_isSound_80 (by have q := x63 y; unfold xp_sound; grind) rfl
              · skip
                refine lv_iload_n hx hb dMD_isSound_42 rfl (lv_at hl 3 rfl) ?_
                refine lv_iconst (v := nI 1) hx hb dMD_isSound_43 xk_i1 ?_
                refine lv_icmp_lt hx hb dMD_isSound_44 rfl (fun hh20 => ?_) (fun hh20 => ?_)
                · skip
                  refine lv_iconst (v := nI 0) hx hb dMD_isSound_79 xk_i0 ?_
                  exact xd_zf C w hr hlk dMD_isSound_80 (by have q := x63 y; unfold xp_sound; grind) rfl
                · skip
                  refine lv_iload_n hx hb dMD_isSound_47 rfl (lv_at hl 3 rfl) ?_
                  refine lv_iload_n hx hb dMD_isSound_48 rfl (lv_at hl 0 rfl) ?_
                  refine lv_if_eq hx hb dMD_isSound_49 rfl (fun hq => absurd hq (by decide)) (fun _ => ?_)
                  refine lv_iconst (v := nI 1) hx hb dMD_isSound_52 xk_i1 ?_
                  refine lv_goto hx hb dMD_isSound_53 rfl ?_
                  refine lv_icmp_gt hx hb dMD_isSound_57 rfl (fun hh21 => ?_) (fun hh21 => ?_)
                  · skip
                    refine lv_iconst (v := nI 0) hx hb dMD_isSound_79 xk_i0 ?_
                    exact xd_zf C w hr hlk dMD_isSound_80 (by have q := x63 y; unfold xp_sound; grind) rfl
                  · skip
                    refine lv_iload_n hx hb dMD_isSound_60 rfl (lv_at hl 2 rfl) ?_
                    refine lv_bipush (v := nI 16) hx hb dMD_isSound_61 xk_b16 ?_
                    refine lv_idiv hx hb dMD_isSound_63 (by decide) ?_
                    refine lv_iload_n hx hb dMD_isSound_64 rfl (lv_at hl 2 rfl) ?_
                    refine lv_iload_n hx hb dMD_isSound_65 rfl (lv_at hl 3 rfl) ?_
                    refine lv_iadd hx hb dMD_isSound_66 ?_
                    refine lv_iconst (v := nI 1) hx hb dMD_isSound_67 xk_i1 ?_
                    refine lv_isub hx hb dMD_isSound_68 ?_
                    refine lv_bipush (v := nI 16) hx hb dMD_isSound_69 xk_b16 ?_
                    refine lv_idiv hx hb dMD_isSound_71 (by decide) ?_
                    refine lv_icmp_ne hx hb dMD_isSound_72 rfl (fun hh22 => ?_) (fun hh22 => ?_)
                    · skip
                      refine lv_iconst (v := nI 0) hx hb dMD_isSound_79 xk_i0 ?_
                      exact xd_zf C w hr hlk dMD_isSound_80 (by have q := x63 y; unfold xp_sound; grind) rfl
                    · skip
                      refine lv_iconst (v := nI 1) hx hb dMD_isSound_75 xk_i1 ?_
                      refine lv_goto hx hb dMD_isSound_76 rfl ?_
                      exact xd_zt C w hr hlk dMD_isSound_80 (by have q := x63 y; unfold xp_sound; grind) rfl
    · skip
      refine lv_iconst (v := nI 0) hx hb dMD_isSound_9 xk_i0 ?_
      exact xd_zf C w hr hlk dMD_isSound_10 (by have q := x63 y; unfold xp_sound; grind) rfl
set_option maxRecDepth 100000 in
set_option maxHeartbeats 4000000 in
theorem cMD_hasWaiting (l : Launch) (D : va_G) (cA : Nat → ClassId) (tz : Nat) (I : List (Nat × Nat)) (ad : Nat → Nat → Nat) (σ : xMem) (a : Nat) (x : Int32) (hJ : xJ I) (ha : a < 4) : xD l yMD_hasWaiting bMD_hasWaiting 6 (some .boolean) 1 [.ref (ad 20 0), .int (nI a), .int x] D cA tz I ad σ (some (.int (xb (mp_wait σ a 4 x)))) σ := by
  refine xd_of (by decide) (by simp [lg_sl, Value.category]) ?_
  intro p e s m args below meth c A ls C hr hlk hml hl w hz
  obtain ⟨hx, hb, hown, hts⟩ := id C
  have hl : lv_has ls 6 [(0, .ref (ad 20 0)), (1, .int (nI a)), (2, .int x)] := hl
  refine lv_iconst (v := nI 0) hx hb dMD_hasWaiting_0 xk_i0 ?_
  refine lv_istore_n (lv' := [(3, .int (nI 0)), (0, .ref (ad 20 0)), (1, .int (nI a)), (2, .int x)]) hx hb dMD_hasWaiting_1 rfl hl (by decide) rfl (fun ls hl => ?_)
  have hl : lv_has ls 6 [(3, .int (xb (mp_wait σ a 0 x))), (0, .ref (ad 20 0)), (1, .int (nI a)), (2, .int x)] := by rw [mp_wait_0]; exact hl
  refine lv_iconst (v := nI 0) hx hb dMD_hasWaiting_2 xk_i0 ?_
  refine lv_istore (lv' := [(4, .int (nI 0)), (3, .int (xb (mp_wait σ a 0 x))), (0, .ref (ad 20 0)), (1, .int (nI a)), (2, .int x)]) hx hb dMD_hasWaiting_3 hl (by decide) rfl (fun ls hl => ?_)
  refine xl_up (Wg := fun H locs ls => W p l e _ s m args below meth c H locs _ _ _ (F0 m 5 ls [])) (K := fun i H locs ls => xr_W xCl (xT cA) D I ad (xc cA tz ad σ) A s H locs ∧ lv_has ls 6 [(0, .ref (ad 20 0)), (1, .int (nI a)), (2, .int x), (3, .int (xb (mp_wait σ a i x))), (4, .int (nI i))]) 4 ?_ ?_ 0 _ _ _ (by omega) ⟨w, lv_sub hl [2, 3, 4, 1, 0] rfl⟩
  · skip
    intro H locs ls ⟨w, hl⟩
    refine lv_iload hx hb dMD_hasWaiting_5 (lv_at hl 4 rfl) ?_
    refine lv_iconst (v := nI 4) hx hb dMD_hasWaiting_7 xk_i4 ?_
    refine lv_icmp_ge hx hb dMD_hasWaiting_8 rfl (fun _ => ?_) (fun hq => absurd (nI_le (by omega) (by omega)) hq)
    refine lv_iload_n hx hb dMD_hasWaiting_57 rfl (lv_at hl 3 rfl) ?_
    exact xd_zret C w hr hlk dMD_hasWaiting_58 (rfl) rfl
  · skip
    intro i H locs ls hii ⟨w, hl⟩ ihi
    refine lv_iload hx hb dMD_hasWaiting_5 (lv_at hl 4 rfl) ?_
    refine lv_iconst (v := nI 4) hx hb dMD_hasWaiting_7 xk_i4 ?_
    refine lv_icmp_ge hx hb dMD_hasWaiting_8 rfl (fun hq => absurd hq (nI_ge (by omega) (by omega))) (fun _ => ?_)
    refine lv_iconst (v := nI 4) hx hb dMD_hasWaiting_11 xk_i4 ?_
    refine lv_iload_n hx hb dMD_hasWaiting_12 rfl (lv_at hl 1 rfl) ?_
    refine xn_mul hx hb dMD_hasWaiting_13 ?_
    refine lv_iload hx hb dMD_hasWaiting_14 (lv_at hl 4 rfl) ?_
    refine xn_add hx hb dMD_hasWaiting_16 ?_
    refine lv_istore (lv' := [(5, .int (nI ((4 * a) + i))), (0, .ref (ad 20 0)), (1, .int (nI a)), (2, .int x), (3, .int (xb (mp_wait σ a i x))), (4, .int (nI i))]) hx hb dMD_hasWaiting_17 hl (by decide) rfl (fun ls hl => ?_)
    refine lv_iload_n hx hb dMD_hasWaiting_19 rfl (lv_at hl 4 rfl) ?_
    refine xz_ifne hx hb dMD_hasWaiting_20 rfl (fun hh1 => ?_) (fun hh1 => ?_)
    · skip
      refine lv_iconst (v := nI 1) hx hb dMD_hasWaiting_45 xk_i1 ?_
      refine lv_goto hx hb dMD_hasWaiting_46 rfl ?_
      refine xn_eq (y := xb (mp_wait σ a (i + 1) x)) (xb_t ((mp_wait_s σ a i x).mpr (by grind))).symm ?_
      refine lv_istore_n (lv' := [(3, .int (xb (mp_wait σ a (i + 1) x))), (5, .int (nI ((4 * a) + i))), (0, .ref (ad 20 0)), (1, .int (nI a)), (2, .int x), (4, .int (nI i))]) hx hb dMD_hasWaiting_50 rfl hl (by decide) rfl (fun ls hl => ?_)
      refine lv_iinc (lv' := [(4, .int (nI (i + 1))), (3, .int (xb (mp_wait σ a (i + 1) x))), (5, .int (nI ((4 * a) + i))), (0, .ref (ad 20 0)), (1, .int (nI a)), (2, .int x)]) hx hb dMD_hasWaiting_51 hl (k := 5) rfl (xn_inc _) (by decide) rfl (fun ls hl => ?_)
      refine lv_goto hx hb dMD_hasWaiting_54 rfl ?_
      exact ihi _ _ _ ⟨w, lv_sub hl [3, 4, 5, 1, 0] rfl⟩
    · skip
      refine lv_aload_n hx hb dMD_hasWaiting_23 rfl (lv_at hl 1 rfl) ?_
      refine xg_MD_26 C w (xJ20 hJ) dMD_hasWaiting_24 ?_
      refine lv_iload hx hb dMD_hasWaiting_27 (lv_at hl 0 rfl) ?_
      refine xr_iald C w (xJ26 hJ) rfl 0 rfl ((4 * a) + i) rfl (by omega) (by decide) dMD_hasWaiting_29 ?_
      refine lv_iconst (v := nI 1) hx hb dMD_hasWaiting_30 xk_i1 ?_
      refine lv_icmp_ne hx hb dMD_hasWaiting_31 rfl (fun hh2 => ?_) (fun hh2 => ?_)
      · skip
        refine lv_iconst (v := nI 0) hx hb dMD_hasWaiting_49 xk_i0 ?_
        refine xn_eq (y := xb (mp_wait σ a (i + 1) x)) (xb_f (fun z => by have q := (mp_wait_s σ a i x).mp z; grind)).symm ?_
        refine lv_istore_n (lv' := [(3, .int (xb (mp_wait σ a (i + 1) x))), (5, .int (nI ((4 * a) + i))), (0, .ref (ad 20 0)), (1, .int (nI a)), (2, .int x), (4, .int (nI i))]) hx hb dMD_hasWaiting_50 rfl hl (by decide) rfl (fun ls hl => ?_)
        refine lv_iinc (lv' := [(4, .int (nI (i + 1))), (3, .int (xb (mp_wait σ a (i + 1) x))), (5, .int (nI ((4 * a) + i))), (0, .ref (ad 20 0)), (1, .int (nI a)), (2, .int x)]) hx hb dMD_hasWaiting_51 hl (k := 5) rfl (xn_inc _) (by decide) rfl (fun ls hl => ?_)
        refine lv_goto hx hb dMD_hasWaiting_54 rfl ?_
        exact ihi _ _ _ ⟨w, lv_sub hl [3, 4, 5, 1, 0] rfl⟩
      · skip
        refine lv_aload_n hx hb dMD_hasWaiting_34 rfl (lv_at hl 1 rfl) ?_
        refine xg_MD_29 C w (xJ20 hJ) dMD_hasWaiting_35 ?_
        refine lv_iload hx hb dMD_hasWaiting_38 (lv_at hl 0 rfl) ?_
        refine xr_iald C w (xJ27 hJ) rfl 0 rfl ((4 * a) + i) rfl (by omega) (by decide) dMD_hasWaiting_40 ?_
        refine lv_iload_n hx hb dMD_hasWaiting_41 rfl (lv_at hl 3 rfl) ?_
        refine lv_icmp_ne hx hb dMD_hasWaiting_42 rfl (fun hh3 => ?_) (fun hh3 => ?_)
        · skip
          refine lv_iconst (v := nI 0) hx hb dMD_hasWaiting_49 xk_i0 ?_
          refine xn_eq (y := xb (mp_wait σ a (i + 1) x)) (xb_f (fun z => by have q := (mp_wait_s σ a i x).mp z; grind)).symm ?_
          refine lv_istore_n (lv' := [(3, .int (xb (mp_wait σ a (i + 1) x))), (5, .int (nI ((4 * a) + i))), (0, .ref (ad 20 0)), (1, .int (nI a)), (2, .int x), (4, .int (nI i))]) hx hb dMD_hasWaiting_50 rfl hl (by decide) rfl (fun ls hl => ?_)
          refine lv_iinc (lv' := [(4, .int (nI (i + 1))), (3, .int (xb (mp_wait σ a (i + 1) x))), (5, .int (nI ((4 * a) + i))), (0, .ref (ad 20 0)), (1, .int (nI a)), (2, .int x)]) hx hb dMD_hasWaiting_51 hl (k := 5) rfl (xn_inc _) (by decide) rfl (fun ls hl => ?_)
          refine lv_goto hx hb dMD_hasWaiting_54 rfl ?_
          exact ihi _ _ _ ⟨w, lv_sub hl [3, 4, 5, 1, 0] rfl⟩
        · skip
          refine lv_iconst (v := nI 1) hx hb dMD_hasWaiting_45 xk_i1 ?_
          refine lv_goto hx hb dMD_hasWaiting_46 rfl ?_
          refine xn_eq (y := xb (mp_wait σ a (i + 1) x)) (xb_t ((mp_wait_s σ a i x).mpr (by grind))).symm ?_
          refine lv_istore_n (lv' := [(3, .int (xb (mp_wait σ a (i + 1) x))), (5, .int (nI ((4 * a) + i))), (0, .ref (ad 20 0)), (1, .int (nI a)), (2, .int x), (4, .int (nI i))]) hx hb dMD_hasWaiting_50 rfl hl (by decide) rfl (fun ls hl => ?_)
          refine lv_iinc (lv' := [(4, .int (nI (i + 1))), (3, .int (xb (mp_wait σ a (i + 1) x))), (5, .int (nI ((4 * a) + i))), (0, .ref (ad 20 0)), (1, .int (nI a)), (2, .int x)]) hx hb dMD_hasWaiting_51 hl (k := 5) rfl (xn_inc _) (by decide) rfl (fun ls hl => ?_)
          refine lv_goto hx hb dMD_hasWaiting_54 rfl ?_
          exact ihi _ _ _ ⟨w, lv_sub hl [3, 4, 5, 1, 0] rfl⟩
set_option maxRecDepth 100000 in
set_option maxHeartbeats 4000000 in
theorem cMD_isOpen (l : Launch) (D : va_G) (cA : Nat → ClassId) (tz : Nat) (I : List (Nat × Nat)) (ad : Nat → Nat → Nat) (σ : xMem) (r : Nat) (hJ : xJ I) (hr16 : r < 16) : xD l yMD_isOpen bMD_isOpen 2 (some .boolean) 1 [.ref (ad 20 0), .int (nI r)] D cA tz I ad σ (some (.int (xb (mp_open σ r)))) σ := by
  refine xd_of (by decide) (by simp [lg_sl, Value.category]) ?_
  intro p e s m args below meth c A ls C hr hlk hml hl w hz
  obtain ⟨hx, hb, hown, hts⟩ := id C
  have hl : lv_has ls 2 [(0, .ref (ad 20 0)), (1, .int (nI r))] := hl
  refine lv_aload_n hx hb dMD_isOpen_0 rfl (lv_at hl 0 rfl) ?_
  refine xg_MD_26 C w (xJ20 hJ) dMD_isOpen_1 ?_
  refine lv_iload_n hx hb dMD_isOpen_4 rfl (lv_at hl 1 rfl) ?_
  refine xr_iald C w (xJ26 hJ) rfl 0 rfl r rfl (by omega) (by decide) dMD_isOpen_5 ?_
  refine lv_iconst (v := nI 1) hx hb dMD_isOpen_6 xk_i1 ?_
  refine lv_icmp_eq hx hb dMD_isOpen_7 rfl (fun hh1 => ?_) (fun hh1 => ?_)
  · skip
    refine lv_iconst (v := nI 1) hx hb dMD_isOpen_20 xk_i1 ?_
    refine lv_goto hx hb dMD_isOpen_21 rfl ?_
    exact xd_zt C w hr hlk dMD_isOpen_25 (by unfold mp_open; grind [nI_0]) rfl
  · skip
    refine lv_aload_n hx hb dMD_isOpen_10 rfl (lv_at hl 0 rfl) ?_
    refine xg_MD_26 C w (xJ20 hJ) dMD_isOpen_11 ?_
    refine lv_iload_n hx hb dMD_isOpen_14 rfl (lv_at hl 1 rfl) ?_
    refine xr_iald C w (xJ26 hJ) rfl 0 rfl r rfl (by omega) (by decide) dMD_isOpen_15 ?_
    refine lv_iconst (v := nI 2) hx hb dMD_isOpen_16 xk_i2 ?_
    refine lv_icmp_ne hx hb dMD_isOpen_17 rfl (fun hh2 => ?_) (fun hh2 => ?_)
    · skip
      refine lv_iconst (v := nI 0) hx hb dMD_isOpen_24 xk_i0 ?_
      exact xd_zf C w hr hlk dMD_isOpen_25 (by unfold mp_open; grind [nI_0]) rfl
    · skip
      refine lv_iconst (v := nI 1) hx hb dMD_isOpen_20 xk_i1 ?_
      refine lv_goto hx hb dMD_isOpen_21 rfl ?_
      exact xd_zt C w hr hlk dMD_isOpen_25 (by unfold mp_open; grind [nI_0]) rfl
set_option maxRecDepth 100000 in
set_option maxHeartbeats 4000000 in
theorem cMD_target (l : Launch) (D : va_G) (cA : Nat → ClassId) (tz : Nat) (I : List (Nat × Nat)) (ad : Nat → Nat → Nat) (σ : xMem) (r : Nat) (hJ : xJ I) (hr16 : r < 16) : xD l yMD_target bMD_target 2 (some .int) 1 [.ref (ad 20 0), .int (nI r)] D cA tz I ad σ (some (.int (σ 28 0 r / nI 16))) σ := by
  refine xd_of (by decide) (by simp [lg_sl, Value.category]) ?_
  intro p e s m args below meth c A ls C hr hlk hml hl w hz
  obtain ⟨hx, hb, hown, hts⟩ := id C
  have hl : lv_has ls 2 [(0, .ref (ad 20 0)), (1, .int (nI r))] := hl
  refine lv_aload_n hx hb dMD_target_0 rfl (lv_at hl 0 rfl) ?_
  refine xg_MD_32 C w (xJ20 hJ) dMD_target_1 ?_
  refine lv_iload_n hx hb dMD_target_4 rfl (lv_at hl 1 rfl) ?_
  refine xr_iald C w (xJ28 hJ) rfl 0 rfl r rfl (by omega) (by decide) dMD_target_5 ?_
  refine lv_bipush (v := nI 16) hx hb dMD_target_6 xk_b16 ?_
  refine lv_idiv hx hb dMD_target_8 (by decide) ?_
  exact xd_iret C w hr hlk dMD_target_9 (rfl) rfl
set_option maxRecDepth 100000 in
set_option maxHeartbeats 4000000 in
theorem cMD_isMapped (l : Launch) (D : va_G) (cA : Nat → ClassId) (tz : Nat) (I : List (Nat × Nat)) (ad : Nat → Nat → Nat) (σ : xMem) (r : Nat) (hJ : xJ I) (hr16 : r < 16) : xD l yMD_isMapped bMD_isMapped 2 (some .boolean) 1 [.ref (ad 20 0), .int (nI r)] D cA tz I ad σ (some (.int (xb (mp_map σ r)))) σ := by
  refine xd_of (by decide) (by simp [lg_sl, Value.category]) ?_
  intro p e s m args below meth c A ls C hr hlk hml hl w hz
  obtain ⟨hx, hb, hown, hts⟩ := id C
  have hl : lv_has ls 2 [(0, .ref (ad 20 0)), (1, .int (nI r))] := hl
  refine lv_aload_n hx hb dMD_isMapped_0 rfl (lv_at hl 0 rfl) ?_
  refine xg_MD_29 C w (xJ20 hJ) dMD_isMapped_1 ?_
  refine lv_iload_n hx hb dMD_isMapped_4 rfl (lv_at hl 1 rfl) ?_
  refine xr_iald C w (xJ27 hJ) rfl 0 rfl r rfl (by omega) (by decide) dMD_isMapped_5 ?_
  refine lv_iconst (v := nI 4) hx hb dMD_isMapped_6 xk_i4 ?_
  refine lv_icmp_eq hx hb dMD_isMapped_7 rfl (fun hh1 => ?_) (fun hh1 => ?_)
  · skip
    refine lv_iconst (v := nI 0) hx hb dMD_isMapped_25 xk_i0 ?_
    exact xd_zf C w hr hlk dMD_isMapped_26 (by unfold mp_map; grind [nI_0]) rfl
  · skip
    refine lv_aload_n hx hb dMD_isMapped_10 rfl (lv_at hl 0 rfl) ?_
    refine xg_MD_32 C w (xJ20 hJ) dMD_isMapped_11 ?_
    refine lv_iload_n hx hb dMD_isMapped_14 rfl (lv_at hl 1 rfl) ?_
    refine xr_iald C w (xJ28 hJ) rfl 0 rfl r rfl (by omega) (by decide) dMD_isMapped_15 ?_
    refine lv_bipush (v := nI 48) hx hb dMD_isMapped_16 xk_b48 ?_
    refine lv_icmp_ge hx hb dMD_isMapped_18 rfl (fun hh2 => ?_) (fun hh2 => ?_)
    · skip
      refine lv_iconst (v := nI 0) hx hb dMD_isMapped_25 xk_i0 ?_
      exact xd_zf C w hr hlk dMD_isMapped_26 (by unfold mp_map; grind [nI_0]) rfl
    · skip
      refine lv_iconst (v := nI 1) hx hb dMD_isMapped_21 xk_i1 ?_
      refine lv_goto hx hb dMD_isMapped_22 rfl ?_
      exact xd_zt C w hr hlk dMD_isMapped_26 (by unfold mp_map; grind [nI_0]) rfl
set_option maxRecDepth 100000 in
set_option maxHeartbeats 4000000 in
theorem cMD_meet (l : Launch) (D : va_G) (cA : Nat → ClassId) (tz : Nat) (I : List (Nat × Nat)) (ad : Nat → Nat → Nat) (σ : xMem) (r q : Nat) (hJ : xJ I) (hr16 : r < 16) (hq16 : q < 16) : xD l yMD_meet bMD_meet 3 (some .boolean) 1 [.ref (ad 20 0), .int (nI r), .int (nI q)] D cA tz I ad σ (some (.int (xb (mp_meet σ r q)))) σ := by
  refine xd_of (by decide) (by simp [lg_sl, Value.category]) ?_
  intro p e s m args below meth c A ls C hr hlk hml hl w hz
  obtain ⟨hx, hb, hown, hts⟩ := id C
  have hl : lv_has ls 3 [(0, .ref (ad 20 0)), (1, .int (nI r)), (2, .int (nI q))] := hl
  refine lv_aload_n hx hb dMD_meet_0 rfl (lv_at hl 0 rfl) ?_
  refine xg_MD_29 C w (xJ20 hJ) dMD_meet_1 ?_
  refine lv_iload_n hx hb dMD_meet_4 rfl (lv_at hl 1 rfl) ?_
  refine xr_iald C w (xJ27 hJ) rfl 0 rfl r rfl (by omega) (by decide) dMD_meet_5 ?_
  refine lv_iconst (v := nI 4) hx hb dMD_meet_6 xk_i4 ?_
  refine lv_icmp_eq hx hb dMD_meet_7 rfl (fun hh1 => ?_) (fun hh1 => ?_)
  · skip
    refine lv_iconst (v := nI 0) hx hb dMD_meet_68 xk_i0 ?_
    exact xd_zf C w hr hlk dMD_meet_69 (by unfold mp_meet; grind [nI_0]) rfl
  · skip
    refine lv_aload_n hx hb dMD_meet_10 rfl (lv_at hl 0 rfl) ?_
    refine xg_MD_29 C w (xJ20 hJ) dMD_meet_11 ?_
    refine lv_iload_n hx hb dMD_meet_14 rfl (lv_at hl 2 rfl) ?_
    refine xr_iald C w (xJ27 hJ) rfl 0 rfl q rfl (by omega) (by decide) dMD_meet_15 ?_
    refine lv_iconst (v := nI 4) hx hb dMD_meet_16 xk_i4 ?_
    refine lv_icmp_eq hx hb dMD_meet_17 rfl (fun hh2 => ?_) (fun hh2 => ?_)
    · skip
      refine lv_iconst (v := nI 0) hx hb dMD_meet_68 xk_i0 ?_
      exact xd_zf C w hr hlk dMD_meet_69 (by unfold mp_meet; grind [nI_0]) rfl
    · skip
      refine lv_aload_n hx hb dMD_meet_20 rfl (lv_at hl 0 rfl) ?_
      refine xg_MD_32 C w (xJ20 hJ) dMD_meet_21 ?_
      refine lv_iload_n hx hb dMD_meet_24 rfl (lv_at hl 1 rfl) ?_
      refine xr_iald C w (xJ28 hJ) rfl 0 rfl r rfl (by omega) (by decide) dMD_meet_25 ?_
      refine lv_aload_n hx hb dMD_meet_26 rfl (lv_at hl 0 rfl) ?_
      refine xg_MD_32 C w (xJ20 hJ) dMD_meet_27 ?_
      refine lv_iload_n hx hb dMD_meet_30 rfl (lv_at hl 2 rfl) ?_
      refine xr_iald C w (xJ28 hJ) rfl 0 rfl q rfl (by omega) (by decide) dMD_meet_31 ?_
      refine lv_aload_n hx hb dMD_meet_32 rfl (lv_at hl 0 rfl) ?_
      refine xg_MD_35 C w (xJ20 hJ) dMD_meet_33 ?_
      refine lv_iload_n hx hb dMD_meet_36 rfl (lv_at hl 2 rfl) ?_
      refine xr_iald C w (xJ29 hJ) rfl 0 rfl q rfl (by omega) (by decide) dMD_meet_37 ?_
      refine lv_iadd hx hb dMD_meet_38 ?_
      refine lv_icmp_ge hx hb dMD_meet_39 rfl (fun hh3 => ?_) (fun hh3 => ?_)
      · skip
        refine lv_iconst (v := nI 0) hx hb dMD_meet_68 xk_i0 ?_
        exact xd_zf C w hr hlk dMD_meet_69 (by unfold mp_meet; grind [nI_0]) rfl
      · skip
        refine lv_aload_n hx hb dMD_meet_42 rfl (lv_at hl 0 rfl) ?_
        refine xg_MD_32 C w (xJ20 hJ) dMD_meet_43 ?_
        refine lv_iload_n hx hb dMD_meet_46 rfl (lv_at hl 2 rfl) ?_
        refine xr_iald C w (xJ28 hJ) rfl 0 rfl q rfl (by omega) (by decide) dMD_meet_47 ?_
        refine lv_aload_n hx hb dMD_meet_48 rfl (lv_at hl 0 rfl) ?_
        refine xg_MD_32 C w (xJ20 hJ) dMD_meet_49 ?_
        refine lv_iload_n hx hb dMD_meet_52 rfl (lv_at hl 1 rfl) ?_
        refine xr_iald C w (xJ28 hJ) rfl 0 rfl r rfl (by omega) (by decide) dMD_meet_53 ?_
        refine lv_aload_n hx hb dMD_meet_54 rfl (lv_at hl 0 rfl) ?_
        refine xg_MD_35 C w (xJ20 hJ) dMD_meet_55 ?_
        refine lv_iload_n hx hb dMD_meet_58 rfl (lv_at hl 1 rfl) ?_
        refine xr_iald C w (xJ29 hJ) rfl 0 rfl r rfl (by omega) (by decide) dMD_meet_59 ?_
        refine lv_iadd hx hb dMD_meet_60 ?_
        refine lv_icmp_ge hx hb dMD_meet_61 rfl (fun hh4 => ?_) (fun hh4 => ?_)
        · skip
          refine lv_iconst (v := nI 0) hx hb dMD_meet_68 xk_i0 ?_
          exact xd_zf C w hr hlk dMD_meet_69 (by unfold mp_meet; grind [nI_0]) rfl
        · skip
          refine lv_iconst (v := nI 1) hx hb dMD_meet_64 xk_i1 ?_
          refine lv_goto hx hb dMD_meet_65 rfl ?_
          exact xd_zt C w hr hlk dMD_meet_69 (by unfold mp_meet; grind [nI_0]) rfl
set_option maxRecDepth 100000 in
set_option maxHeartbeats 4000000 in
theorem cMD_creditsOf (l : Launch) (D : va_G) (cA : Nat → ClassId) (tz : Nat) (I : List (Nat × Nat)) (ad : Nat → Nat → Nat) (σ : xMem) (x : Int32) (hJ : xJ I) : xD l yMD_creditsOf bMD_creditsOf 4 (some .int) 2 [.ref (ad 20 0), .int x] D cA tz I ad σ (some (.int (mf_cr σ x 16))) σ := by
  refine xd_of (by decide) (by simp [lg_sl, Value.category]) ?_
  intro p e s m args below meth c A ls C hr hlk hml hl w hz
  obtain ⟨hx, hb, hown, hts⟩ := id C
  have hl : lv_has ls 4 [(0, .ref (ad 20 0)), (1, .int x)] := hl
  refine lv_iconst (v := nI 4) hx hb dMD_creditsOf_0 xk_i4 ?_
  refine lv_istore_n (lv' := [(2, .int (nI 4)), (0, .ref (ad 20 0)), (1, .int x)]) hx hb dMD_creditsOf_1 rfl hl (by decide) rfl (fun ls hl => ?_)
  have hl : lv_has ls 4 [(2, .int (mf_cr σ x 0)), (0, .ref (ad 20 0)), (1, .int x)] := hl
  refine lv_iconst (v := nI 0) hx hb dMD_creditsOf_2 xk_i0 ?_
  refine lv_istore_n (lv' := [(3, .int (nI 0)), (2, .int (mf_cr σ x 0)), (0, .ref (ad 20 0)), (1, .int x)]) hx hb dMD_creditsOf_3 rfl hl (by decide) rfl (fun ls hl => ?_)
  refine xl_up (Wg := fun H locs ls => W p l e _ s m args below meth c H locs _ _ _ (F0 m 4 ls [])) (K := fun i H locs ls => xr_W xCl (xT cA) D I ad (xc cA tz ad σ) A s H locs ∧ lv_has ls 4 [(0, .ref (ad 20 0)), (1, .int x), (2, .int (mf_cr σ x i)), (3, .int (nI i))]) 16 ?_ ?_ 0 _ _ _ (by omega) ⟨w, lv_sub hl [2, 3, 1, 0] rfl⟩
  · skip
    intro H locs ls ⟨w, hl⟩
    refine lv_iload_n hx hb dMD_creditsOf_4 rfl (lv_at hl 3 rfl) ?_
    refine lv_bipush (v := nI 16) hx hb dMD_creditsOf_5 xk_b16 ?_
    refine lv_icmp_ge hx hb dMD_creditsOf_7 rfl (fun _ => ?_) (fun hq => absurd (nI_le (by omega) (by omega)) hq)
    refine lv_iload_n hx hb dMD_creditsOf_43 rfl (lv_at hl 2 rfl) ?_
    exact xd_iret C w hr hlk dMD_creditsOf_44 (rfl) rfl
  · skip
    intro i H locs ls hii ⟨w, hl⟩ ihi
    refine lv_iload_n hx hb dMD_creditsOf_4 rfl (lv_at hl 3 rfl) ?_
    refine lv_bipush (v := nI 16) hx hb dMD_creditsOf_5 xk_b16 ?_
    refine lv_icmp_ge hx hb dMD_creditsOf_7 rfl (fun hq => absurd hq (nI_ge (by omega) (by omega))) (fun _ => ?_)
    refine lv_aload_n hx hb dMD_creditsOf_10 rfl (lv_at hl 0 rfl) ?_
    refine xg_MD_26 C w (xJ20 hJ) dMD_creditsOf_11 ?_
    refine lv_iload_n hx hb dMD_creditsOf_14 rfl (lv_at hl 3 rfl) ?_
    refine xr_iald C w (xJ26 hJ) rfl 0 rfl i rfl (by omega) (by decide) dMD_creditsOf_15 ?_
    refine lv_iconst (v := nI 2) hx hb dMD_creditsOf_16 xk_i2 ?_
    refine lv_icmp_ne hx hb dMD_creditsOf_17 rfl (fun hh1 => ?_) (fun hh1 => ?_)
    · skip
      refine lv_iload_n hx hb dMD_creditsOf_35 rfl (lv_at hl 2 rfl) ?_
      refine xn_eq (y := mf_cr σ x (i + 1)) (mf_cr_f (by grind)) ?_
      refine lv_istore_n (lv' := [(2, .int (mf_cr σ x (i + 1))), (0, .ref (ad 20 0)), (1, .int x), (3, .int (nI i))]) hx hb dMD_creditsOf_36 rfl hl (by decide) rfl (fun ls hl => ?_)
      refine lv_iinc (lv' := [(3, .int (nI (i + 1))), (2, .int (mf_cr σ x (i + 1))), (0, .ref (ad 20 0)), (1, .int x)]) hx hb dMD_creditsOf_37 hl (k := 3) rfl (xn_inc _) (by decide) rfl (fun ls hl => ?_)
      refine lv_goto hx hb dMD_creditsOf_40 rfl ?_
      exact ihi _ _ _ ⟨w, lv_sub hl [2, 3, 1, 0] rfl⟩
    · skip
      refine lv_aload_n hx hb dMD_creditsOf_20 rfl (lv_at hl 0 rfl) ?_
      refine lv_iload_n hx hb dMD_creditsOf_21 rfl (lv_at hl 3 rfl) ?_
      refine xd_callV C w hz hml hl.1 xk_MD_91 (cMD_target l D cA tz I ad σ i hJ (by omega)) (xJ20 hJ) rfl rfl rfl rfl (Nat.le_of_ble_eq_true rfl) (by decide) (by decide) dMD_creditsOf_22 (fun H locs w => ?_)
      refine W.eq (g2 := F0 m 25 ls [.int (σ 28 0 i / nI 16)]) rfl ?_
      refine lv_iload_n hx hb dMD_creditsOf_25 rfl (lv_at hl 1 rfl) ?_
      refine lv_icmp_ne hx hb dMD_creditsOf_26 rfl (fun hh2 => ?_) (fun hh2 => ?_)
      · skip
        refine lv_iload_n hx hb dMD_creditsOf_35 rfl (lv_at hl 2 rfl) ?_
        refine xn_eq (y := mf_cr σ x (i + 1)) (mf_cr_f (by grind)) ?_
        refine lv_istore_n (lv' := [(2, .int (mf_cr σ x (i + 1))), (0, .ref (ad 20 0)), (1, .int x), (3, .int (nI i))]) hx hb dMD_creditsOf_36 rfl hl (by decide) rfl (fun ls hl => ?_)
        refine lv_iinc (lv' := [(3, .int (nI (i + 1))), (2, .int (mf_cr σ x (i + 1))), (0, .ref (ad 20 0)), (1, .int x)]) hx hb dMD_creditsOf_37 hl (k := 3) rfl (xn_inc _) (by decide) rfl (fun ls hl => ?_)
        refine lv_goto hx hb dMD_creditsOf_40 rfl ?_
        exact ihi _ _ _ ⟨w, lv_sub hl [2, 3, 1, 0] rfl⟩
      · skip
        refine lv_iload_n hx hb dMD_creditsOf_29 rfl (lv_at hl 2 rfl) ?_
        refine lv_iconst (v := nI 1) hx hb dMD_creditsOf_30 xk_i1 ?_
        refine lv_isub hx hb dMD_creditsOf_31 ?_
        refine lv_goto hx hb dMD_creditsOf_32 rfl ?_
        refine xn_eq (y := mf_cr σ x (i + 1)) (mf_cr_t (by assumption) (by assumption)) ?_
        refine lv_istore_n (lv' := [(2, .int (mf_cr σ x (i + 1))), (0, .ref (ad 20 0)), (1, .int x), (3, .int (nI i))]) hx hb dMD_creditsOf_36 rfl hl (by decide) rfl (fun ls hl => ?_)
        refine lv_iinc (lv' := [(3, .int (nI (i + 1))), (2, .int (mf_cr σ x (i + 1))), (0, .ref (ad 20 0)), (1, .int x)]) hx hb dMD_creditsOf_37 hl (k := 3) rfl (xn_inc _) (by decide) rfl (fun ls hl => ?_)
        refine lv_goto hx hb dMD_creditsOf_40 rfl ?_
        exact ihi _ _ _ ⟨w, lv_sub hl [2, 3, 1, 0] rfl⟩
set_option maxRecDepth 100000 in
set_option maxHeartbeats 4000000 in
theorem cMD_firstOf (l : Launch) (D : va_G) (cA : Nat → ClassId) (tz : Nat) (I : List (Nat × Nat)) (ad : Nat → Nat → Nat) (σ : xMem) (x : Int32) (hJ : xJ I) : xD l yMD_firstOf bMD_firstOf 5 (some .int) 2 [.ref (ad 20 0), .int x] D cA tz I ad σ (some (.int (xoi (mf_fst σ x 16)))) σ := by
  refine xd_of (by decide) (by simp [lg_sl, Value.category]) ?_
  intro p e s m args below meth c A ls C hr hlk hml hl w hz
  obtain ⟨hx, hb, hown, hts⟩ := id C
  have hl : lv_has ls 5 [(0, .ref (ad 20 0)), (1, .int x)] := hl
  refine lv_iconst (v := -1) hx hb dMD_firstOf_0 xk_im1 ?_
  refine lv_istore_n (lv' := [(2, .int (-1)), (0, .ref (ad 20 0)), (1, .int x)]) hx hb dMD_firstOf_1 rfl hl (by decide) rfl (fun ls hl => ?_)
  have hl : lv_has ls 5 [(2, .int (xoi (mf_fst σ x 0))), (0, .ref (ad 20 0)), (1, .int x)] := hl
  refine lv_iconst (v := nI 0) hx hb dMD_firstOf_2 xk_i0 ?_
  refine lv_istore_n (lv' := [(3, .int (nI 0)), (2, .int (xoi (mf_fst σ x 0))), (0, .ref (ad 20 0)), (1, .int x)]) hx hb dMD_firstOf_3 rfl hl (by decide) rfl (fun ls hl => ?_)
  refine xl_up (Wg := fun H locs ls => W p l e _ s m args below meth c H locs _ _ _ (F0 m 4 ls [])) (K := fun i H locs ls => xr_W xCl (xT cA) D I ad (xc cA tz ad σ) A s H locs ∧ lv_has ls 5 [(0, .ref (ad 20 0)), (1, .int x), (2, .int (xoi (mf_fst σ x i))), (3, .int (nI i))]) 16 ?_ ?_ 0 _ _ _ (by omega) ⟨w, lv_sub hl [2, 3, 1, 0] rfl⟩
  · skip
    intro H locs ls ⟨w, hl⟩
    refine lv_iload_n hx hb dMD_firstOf_4 rfl (lv_at hl 3 rfl) ?_
    refine lv_bipush (v := nI 16) hx hb dMD_firstOf_5 xk_b16 ?_
    refine lv_icmp_ge hx hb dMD_firstOf_7 rfl (fun _ => ?_) (fun hq => absurd (nI_le (by omega) (by omega)) hq)
    refine lv_iload_n hx hb dMD_firstOf_81 rfl (lv_at hl 2 rfl) ?_
    exact xd_iret C w hr hlk dMD_firstOf_82 (rfl) rfl
  · skip
    intro i H locs ls hii ⟨w, hl⟩ ihi
    refine lv_iload_n hx hb dMD_firstOf_4 rfl (lv_at hl 3 rfl) ?_
    refine lv_bipush (v := nI 16) hx hb dMD_firstOf_5 xk_b16 ?_
    refine lv_icmp_ge hx hb dMD_firstOf_7 rfl (fun hq => absurd hq (nI_ge (by omega) (by omega))) (fun _ => ?_)
    refine lv_aload_n hx hb dMD_firstOf_10 rfl (lv_at hl 0 rfl) ?_
    refine xg_MD_26 C w (xJ20 hJ) dMD_firstOf_11 ?_
    refine lv_iload_n hx hb dMD_firstOf_14 rfl (lv_at hl 3 rfl) ?_
    refine xr_iald C w (xJ26 hJ) rfl 0 rfl i rfl (by omega) (by decide) dMD_firstOf_15 ?_
    refine lv_iconst (v := nI 2) hx hb dMD_firstOf_16 xk_i2 ?_
    refine lv_icmp_ne hx hb dMD_firstOf_17 rfl (fun hh1 => ?_) (fun hh1 => ?_)
    · skip
      refine lv_iconst (v := nI 0) hx hb dMD_firstOf_42 xk_i0 ?_
      refine lv_istore (lv' := [(4, .int (nI 0)), (0, .ref (ad 20 0)), (1, .int x), (2, .int (xoi (mf_fst σ x i))), (3, .int (nI i))]) hx hb dMD_firstOf_43 hl (by decide) rfl (fun ls hl => ?_)
      refine lv_iload hx hb dMD_firstOf_45 (lv_at hl 0 rfl) ?_
      refine lv_if_eq hx hb dMD_firstOf_47 rfl (fun _ => ?_) (fun hq => absurd nI_0 hq)
      refine lv_iload_n hx hb dMD_firstOf_73 rfl (lv_at hl 3 rfl) ?_
      refine xn_eq (y := xoi (mf_fst σ x (i + 1))) (congrArg xoi (show mf_fst σ x i = mf_fst σ x (i + 1) by rw [mf_fst_s]; unfold xf_step; rw [xif_f (fun z => absurd z.1 (by unfold mp_inq; grind))])) ?_
      refine lv_istore_n (lv' := [(2, .int (xoi (mf_fst σ x (i + 1)))), (4, .int (nI 0)), (0, .ref (ad 20 0)), (1, .int x), (3, .int (nI i))]) hx hb dMD_firstOf_74 rfl hl (by decide) rfl (fun ls hl => ?_)
      refine lv_iinc (lv' := [(3, .int (nI (i + 1))), (2, .int (xoi (mf_fst σ x (i + 1)))), (4, .int (nI 0)), (0, .ref (ad 20 0)), (1, .int x)]) hx hb dMD_firstOf_75 hl (k := 4) rfl (xn_inc _) (by decide) rfl (fun ls hl => ?_)
      refine lv_goto hx hb dMD_firstOf_78 rfl ?_
      exact ihi _ _ _ ⟨w, lv_sub hl [3, 4, 1, 0] rfl⟩
    · skip
      refine lv_aload_n hx hb dMD_firstOf_20 rfl (lv_at hl 0 rfl) ?_
      refine xg_MD_44 C w (xJ20 hJ) dMD_firstOf_21 ?_
      refine lv_iload_n hx hb dMD_firstOf_24 rfl (lv_at hl 3 rfl) ?_
      refine xr_iald C w (xJ32 hJ) rfl 0 rfl i rfl (by omega) (by decide) dMD_firstOf_25 ?_
      refine lv_if_le hx hb dMD_firstOf_26 rfl (fun hh2 => ?_) (fun hh2 => ?_)
      · skip
        refine lv_iconst (v := nI 0) hx hb dMD_firstOf_42 xk_i0 ?_
        refine lv_istore (lv' := [(4, .int (nI 0)), (0, .ref (ad 20 0)), (1, .int x), (2, .int (xoi (mf_fst σ x i))), (3, .int (nI i))]) hx hb dMD_firstOf_43 hl (by decide) rfl (fun ls hl => ?_)
        refine lv_iload hx hb dMD_firstOf_45 (lv_at hl 0 rfl) ?_
        refine lv_if_eq hx hb dMD_firstOf_47 rfl (fun _ => ?_) (fun hq => absurd nI_0 hq)
        refine lv_iload_n hx hb dMD_firstOf_73 rfl (lv_at hl 3 rfl) ?_
        refine xn_eq (y := xoi (mf_fst σ x (i + 1))) (congrArg xoi (show mf_fst σ x i = mf_fst σ x (i + 1) by rw [mf_fst_s]; unfold xf_step; rw [xif_f (fun z => absurd z.1 (by unfold mp_inq; grind))])) ?_
        refine lv_istore_n (lv' := [(2, .int (xoi (mf_fst σ x (i + 1)))), (4, .int (nI 0)), (0, .ref (ad 20 0)), (1, .int x), (3, .int (nI i))]) hx hb dMD_firstOf_74 rfl hl (by decide) rfl (fun ls hl => ?_)
        refine lv_iinc (lv' := [(3, .int (nI (i + 1))), (2, .int (xoi (mf_fst σ x (i + 1)))), (4, .int (nI 0)), (0, .ref (ad 20 0)), (1, .int x)]) hx hb dMD_firstOf_75 hl (k := 4) rfl (xn_inc _) (by decide) rfl (fun ls hl => ?_)
        refine lv_goto hx hb dMD_firstOf_78 rfl ?_
        exact ihi _ _ _ ⟨w, lv_sub hl [3, 4, 1, 0] rfl⟩
      · skip
        refine lv_aload_n hx hb dMD_firstOf_29 rfl (lv_at hl 0 rfl) ?_
        refine lv_iload_n hx hb dMD_firstOf_30 rfl (lv_at hl 3 rfl) ?_
        refine xd_callV C w hz hml hl.1 xk_MD_91 (cMD_target l D cA tz I ad σ i hJ (by omega)) (xJ20 hJ) rfl rfl rfl rfl (Nat.le_of_ble_eq_true rfl) (by decide) (by decide) dMD_firstOf_31 (fun H locs w => ?_)
        refine W.eq (g2 := F0 m 34 ls [.int (σ 28 0 i / nI 16)]) rfl ?_
        refine lv_iload_n hx hb dMD_firstOf_34 rfl (lv_at hl 1 rfl) ?_
        refine lv_icmp_ne hx hb dMD_firstOf_35 rfl (fun hh3 => ?_) (fun hh3 => ?_)
        · skip
          refine lv_iconst (v := nI 0) hx hb dMD_firstOf_42 xk_i0 ?_
          refine lv_istore (lv' := [(4, .int (nI 0)), (0, .ref (ad 20 0)), (1, .int x), (2, .int (xoi (mf_fst σ x i))), (3, .int (nI i))]) hx hb dMD_firstOf_43 hl (by decide) rfl (fun ls hl => ?_)
          refine lv_iload hx hb dMD_firstOf_45 (lv_at hl 0 rfl) ?_
          refine lv_if_eq hx hb dMD_firstOf_47 rfl (fun _ => ?_) (fun hq => absurd nI_0 hq)
          refine lv_iload_n hx hb dMD_firstOf_73 rfl (lv_at hl 3 rfl) ?_
          refine xn_eq (y := xoi (mf_fst σ x (i + 1))) (congrArg xoi (show mf_fst σ x i = mf_fst σ x (i + 1) by rw [mf_fst_s]; unfold xf_step; rw [xif_f (fun z => absurd z.1 (by unfold mp_inq; grind))])) ?_
          refine lv_istore_n (lv' := [(2, .int (xoi (mf_fst σ x (i + 1)))), (4, .int (nI 0)), (0, .ref (ad 20 0)), (1, .int x), (3, .int (nI i))]) hx hb dMD_firstOf_74 rfl hl (by decide) rfl (fun ls hl => ?_)
          refine lv_iinc (lv' := [(3, .int (nI (i + 1))), (2, .int (xoi (mf_fst σ x (i + 1)))), (4, .int (nI 0)), (0, .ref (ad 20 0)), (1, .int x)]) hx hb dMD_firstOf_75 hl (k := 4) rfl (xn_inc _) (by decide) rfl (fun ls hl => ?_)
          refine lv_goto hx hb dMD_firstOf_78 rfl ?_
          exact ihi _ _ _ ⟨w, lv_sub hl [3, 4, 1, 0] rfl⟩
        · skip
          refine lv_iconst (v := nI 1) hx hb dMD_firstOf_38 xk_i1 ?_
          refine lv_goto hx hb dMD_firstOf_39 rfl ?_
          refine lv_istore (lv' := [(4, .int (nI 1)), (0, .ref (ad 20 0)), (1, .int x), (2, .int (xoi (mf_fst σ x i))), (3, .int (nI i))]) hx hb dMD_firstOf_43 hl (by decide) rfl (fun ls hl => ?_)
          refine lv_iload hx hb dMD_firstOf_45 (lv_at hl 0 rfl) ?_
          refine lv_if_eq hx hb dMD_firstOf_47 rfl (fun hq => absurd hq (by decide)) (fun _ => ?_)
          rcases hbe : mf_fst σ x i with _ | b
          · skip
            have hl : lv_has ls 5 [(4, .int (nI 1)), (0, .ref (ad 20 0)), (1, .int x), (2, .int (-1)), (3, .int (nI i))] := by rw [hbe] at hl; exact hl
            refine lv_iload_n hx hb dMD_firstOf_50 rfl (lv_at hl 3 rfl) ?_
            refine lv_if_lt hx hb dMD_firstOf_51 rfl (fun _ => ?_) (fun hq => absurd (by decide) hq)
            refine lv_iload_n hx hb dMD_firstOf_69 rfl (lv_at hl 4 rfl) ?_
            refine lv_goto hx hb dMD_firstOf_70 rfl ?_
            refine xn_eq (y := xoi (mf_fst σ x (i + 1))) (show nI i = xoi (mf_fst σ x (i + 1)) by rw [mf_fst_s]; unfold xf_step; rw [xif_t ⟨(by unfold mp_inq; grind), fun x hx => (by rw [hbe] at hx; cases hx)⟩]; rfl) ?_
            refine lv_istore_n (lv' := [(2, .int (xoi (mf_fst σ x (i + 1)))), (4, .int (nI 1)), (0, .ref (ad 20 0)), (1, .int x), (3, .int (nI i))]) hx hb dMD_firstOf_74 rfl hl (by decide) rfl (fun ls hl => ?_)
            refine lv_iinc (lv' := [(3, .int (nI (i + 1))), (2, .int (xoi (mf_fst σ x (i + 1)))), (4, .int (nI 1)), (0, .ref (ad 20 0)), (1, .int x)]) hx hb dMD_firstOf_75 hl (k := 4) rfl (xn_inc _) (by decide) rfl (fun ls hl => ?_)
            refine lv_goto hx hb dMD_firstOf_78 rfl ?_
            exact ihi _ _ _ ⟨w, lv_sub hl [3, 4, 1, 0] rfl⟩
          · skip
            have hl : lv_has ls 5 [(4, .int (nI 1)), (0, .ref (ad 20 0)), (1, .int x), (2, .int (nI b)), (3, .int (nI i))] := by rw [hbe] at hl; exact hl
            have hb16 := mf_fst_lt hbe
            refine lv_iload_n hx hb dMD_firstOf_50 rfl (lv_at hl 3 rfl) ?_
            refine lv_if_lt hx hb dMD_firstOf_51 rfl (fun hq => absurd hq (nI_pos (by omega))) (fun _ => ?_)
            refine lv_aload_n hx hb dMD_firstOf_54 rfl (lv_at hl 1 rfl) ?_
            refine xg_MD_44 C w (xJ20 hJ) dMD_firstOf_55 ?_
            refine lv_iload_n hx hb dMD_firstOf_58 rfl (lv_at hl 4 rfl) ?_
            refine xr_iald C w (xJ32 hJ) rfl 0 rfl i rfl (by omega) (by decide) dMD_firstOf_59 ?_
            refine lv_aload_n hx hb dMD_firstOf_60 rfl (lv_at hl 1 rfl) ?_
            refine xg_MD_44 C w (xJ20 hJ) dMD_firstOf_61 ?_
            refine lv_iload_n hx hb dMD_firstOf_64 rfl (lv_at hl 3 rfl) ?_
            refine xr_iald C w (xJ32 hJ) rfl 0 rfl b rfl (by omega) (by decide) dMD_firstOf_65 ?_
            refine lv_icmp_ge hx hb dMD_firstOf_66 rfl (fun hh4 => ?_) (fun hh4 => ?_)
            · skip
              refine lv_iload_n hx hb dMD_firstOf_73 rfl (lv_at hl 3 rfl) ?_
              refine xn_eq (y := xoi (mf_fst σ x (i + 1))) (show nI b = xoi (mf_fst σ x (i + 1)) by rw [mf_fst_s]; unfold xf_step; rw [xif_f (fun z => absurd (z.2 b hbe) (by have q := @Int32.not_lt; grind)), hbe]; rfl) ?_
              refine lv_istore_n (lv' := [(2, .int (xoi (mf_fst σ x (i + 1)))), (4, .int (nI 1)), (0, .ref (ad 20 0)), (1, .int x), (3, .int (nI i))]) hx hb dMD_firstOf_74 rfl hl (by decide) rfl (fun ls hl => ?_)
              refine lv_iinc (lv' := [(3, .int (nI (i + 1))), (2, .int (xoi (mf_fst σ x (i + 1)))), (4, .int (nI 1)), (0, .ref (ad 20 0)), (1, .int x)]) hx hb dMD_firstOf_75 hl (k := 4) rfl (xn_inc _) (by decide) rfl (fun ls hl => ?_)
              refine lv_goto hx hb dMD_firstOf_78 rfl ?_
              exact ihi _ _ _ ⟨w, lv_sub hl [3, 4, 1, 0] rfl⟩
            · skip
              refine lv_iload_n hx hb dMD_firstOf_69 rfl (lv_at hl 4 rfl) ?_
              refine lv_goto hx hb dMD_firstOf_70 rfl ?_
              refine xn_eq (y := xoi (mf_fst σ x (i + 1))) (show nI i = xoi (mf_fst σ x (i + 1)) by rw [mf_fst_s]; unfold xf_step; rw [xif_t ⟨(by unfold mp_inq; grind), fun x hx => (by rw [hbe] at hx; cases hx; exact Int32.not_le.mp (by assumption))⟩]; rfl) ?_
              refine lv_istore_n (lv' := [(2, .int (xoi (mf_fst σ x (i + 1)))), (4, .int (nI 1)), (0, .ref (ad 20 0)), (1, .int x), (3, .int (nI i))]) hx hb dMD_firstOf_74 rfl hl (by decide) rfl (fun ls hl => ?_)
              refine lv_iinc (lv' := [(3, .int (nI (i + 1))), (2, .int (xoi (mf_fst σ x (i + 1)))), (4, .int (nI 1)), (0, .ref (ad 20 0)), (1, .int x)]) hx hb dMD_firstOf_75 hl (k := 4) rfl (xn_inc _) (by decide) rfl (fun ls hl => ?_)
              refine lv_goto hx hb dMD_firstOf_78 rfl ?_
              exact ihi _ _ _ ⟨w, lv_sub hl [3, 4, 1, 0] rfl⟩
set_option maxRecDepth 100000 in
set_option maxHeartbeats 4000000 in
theorem cMD_classOf (l : Launch) (D : va_G) (cA : Nat → ClassId) (tz : Nat) (I : List (Nat × Nat)) (ad : Nat → Nat → Nat) (σ : xMem) (r : Nat) (hJ : xJ I) (hr16 : r < 16) : xD l yMD_classOf bMD_classOf 3 (some .int) 1 [.ref (ad 20 0), .int (nI r)] D cA tz I ad σ (some (.int (mf_class σ r))) σ := by
  refine xd_of (by decide) (by simp [lg_sl, Value.category]) ?_
  intro p e s m args below meth c A ls C hr hlk hml hl w hz
  obtain ⟨hx, hb, hown, hts⟩ := id C
  have hl : lv_has ls 3 [(0, .ref (ad 20 0)), (1, .int (nI r))] := hl
  refine lv_aload_n hx hb dMD_classOf_0 rfl (lv_at hl 0 rfl) ?_
  refine xg_MD_16 C w (xJ20 hJ) dMD_classOf_1 ?_
  refine lv_iload_n hx hb dMD_classOf_4 rfl (lv_at hl 1 rfl) ?_
  refine lv_iconst (v := nI 4) hx hb dMD_classOf_5 xk_i4 ?_
  refine xn_div hx hb dMD_classOf_6 (by omega) (by decide) (by decide) ?_
  refine xr_iald C w (xJ23 hJ) rfl 0 rfl (r / 4) rfl (by omega) (by decide) dMD_classOf_7 ?_
  refine lv_aload_n hx hb dMD_classOf_8 rfl (lv_at hl 0 rfl) ?_
  refine xg_MD_38 C w (xJ20 hJ) dMD_classOf_9 ?_
  refine lv_iload_n hx hb dMD_classOf_12 rfl (lv_at hl 1 rfl) ?_
  refine xr_iald C w (xJ30 hJ) rfl 0 rfl r rfl (by omega) (by decide) dMD_classOf_13 ?_
  refine lv_bipush (v := nI 16) hx hb dMD_classOf_14 xk_b16 ?_
  refine lv_idiv hx hb dMD_classOf_16 (by decide) ?_
  refine lv_iadd hx hb dMD_classOf_17 ?_
  refine lv_istore_n (lv' := [(2, .int ((σ 23 0 (r / 4)) + ((σ 30 0 r) / (nI 16)))), (0, .ref (ad 20 0)), (1, .int (nI r))]) hx hb dMD_classOf_18 rfl hl (by decide) rfl (fun ls hl => ?_)
  refine lv_iload_n hx hb dMD_classOf_19 rfl (lv_at hl 0 rfl) ?_
  refine lv_iconst (v := nI 2) hx hb dMD_classOf_20 xk_i2 ?_
  refine lv_icmp_le hx hb dMD_classOf_21 rfl (fun hh1 => ?_) (fun hh1 => ?_)
  · skip
    refine lv_iload_n hx hb dMD_classOf_28 rfl (lv_at hl 0 rfl) ?_
    exact xd_iret C w hr hlk dMD_classOf_29 (by unfold mf_class; rw [if_pos hh1]) rfl
  · skip
    refine lv_iconst (v := nI 2) hx hb dMD_classOf_24 xk_i2 ?_
    refine lv_goto hx hb dMD_classOf_25 rfl ?_
    exact xd_iret C w hr hlk dMD_classOf_29 (by unfold mf_class; rw [if_neg hh1]) rfl
set_option maxRecDepth 100000 in
set_option maxHeartbeats 4000000 in
theorem cMD_isBefore (l : Launch) (D : va_G) (cA : Nat → ClassId) (tz : Nat) (I : List (Nat × Nat)) (ad : Nat → Nat → Nat) (σ : xMem) (r q gg : Nat) (hJ : xJ I) (hr16 : r < 16) (hq16 : q < 16) (hg : σ 20 0 19 = nI gg) (hg4 : gg < 4) : xD l yMD_isBefore bMD_isBefore 5 (some .boolean) 2 [.ref (ad 20 0), .int (nI r), .int (nI q)] D cA tz I ad σ (some (.int (xb (mp_before σ gg r q)))) σ := by
  refine xd_of (by decide) (by simp [lg_sl, Value.category]) ?_
  intro p e s m args below meth c A ls C hr hlk hml hl w hz
  obtain ⟨hx, hb, hown, hts⟩ := id C
  have hl : lv_has ls 5 [(0, .ref (ad 20 0)), (1, .int (nI r)), (2, .int (nI q))] := hl
  refine lv_aload_n hx hb dMD_isBefore_0 rfl (lv_at hl 0 rfl) ?_
  refine lv_iload_n hx hb dMD_isBefore_1 rfl (lv_at hl 1 rfl) ?_
  refine xd_callV C w hz hml hl.1 xk_MD_113 (cMD_classOf l D cA tz I ad σ r hJ (by omega)) (xJ20 hJ) rfl rfl rfl rfl (Nat.le_of_ble_eq_true rfl) (by decide) (by decide) dMD_isBefore_2 (fun H locs w => ?_)
  refine W.eq (g2 := F0 m 5 ls [.int (mf_class σ r)]) rfl ?_
  refine lv_aload_n hx hb dMD_isBefore_5 rfl (lv_at hl 0 rfl) ?_
  refine lv_iload_n hx hb dMD_isBefore_6 rfl (lv_at hl 2 rfl) ?_
  refine xd_callV C w hz hml hl.1 xk_MD_113 (cMD_classOf l D cA tz I ad σ q hJ (by omega)) (xJ20 hJ) rfl rfl rfl rfl (Nat.le_of_ble_eq_true rfl) (by decide) (by decide) dMD_isBefore_7 (fun H locs w => ?_)
  refine W.eq (g2 := F0 m 10 ls [.int (mf_class σ q), .int (mf_class σ r)]) rfl ?_
  refine lv_icmp_eq hx hb dMD_isBefore_10 rfl (fun hh1 => ?_) (fun hh1 => ?_)
  · skip
    refine lv_iload_n hx hb dMD_isBefore_32 rfl (lv_at hl 1 rfl) ?_
    refine lv_iconst (v := nI 4) hx hb dMD_isBefore_33 xk_i4 ?_
    refine xn_div hx hb dMD_isBefore_34 (by omega) (by decide) (by decide) ?_
    refine lv_iconst (v := nI 3) hx hb dMD_isBefore_35 xk_i3 ?_
    refine xn_add hx hb dMD_isBefore_36 ?_
    refine lv_aload_n hx hb dMD_isBefore_37 rfl (lv_at hl 0 rfl) ?_
    refine xg_MD_60 C w (xJ20 hJ) dMD_isBefore_38 ?_
    refine xn_eq (y := nI gg) hg ?_
    refine xn_sub hx hb dMD_isBefore_41 (by omega) ?_
    refine lv_iconst (v := nI 4) hx hb dMD_isBefore_42 xk_i4 ?_
    refine xn_rem hx hb dMD_isBefore_43 (by omega) (by decide) (by decide) ?_
    refine lv_istore_n (lv' := [(3, .int (nI ((((r / 4) + 3) - gg) % 4))), (0, .ref (ad 20 0)), (1, .int (nI r)), (2, .int (nI q))]) hx hb dMD_isBefore_44 rfl hl (by decide) rfl (fun ls hl => ?_)
    refine lv_iload_n hx hb dMD_isBefore_45 rfl (lv_at hl 3 rfl) ?_
    refine lv_iconst (v := nI 4) hx hb dMD_isBefore_46 xk_i4 ?_
    refine xn_div hx hb dMD_isBefore_47 (by omega) (by decide) (by decide) ?_
    refine lv_iconst (v := nI 3) hx hb dMD_isBefore_48 xk_i3 ?_
    refine xn_add hx hb dMD_isBefore_49 ?_
    refine lv_aload_n hx hb dMD_isBefore_50 rfl (lv_at hl 1 rfl) ?_
    refine xg_MD_60 C w (xJ20 hJ) dMD_isBefore_51 ?_
    refine xn_eq (y := nI gg) hg ?_
    refine xn_sub hx hb dMD_isBefore_54 (by omega) ?_
    refine lv_iconst (v := nI 4) hx hb dMD_isBefore_55 xk_i4 ?_
    refine xn_rem hx hb dMD_isBefore_56 (by omega) (by decide) (by decide) ?_
    refine lv_istore (lv' := [(4, .int (nI ((((q / 4) + 3) - gg) % 4))), (3, .int (nI ((((r / 4) + 3) - gg) % 4))), (0, .ref (ad 20 0)), (1, .int (nI r)), (2, .int (nI q))]) hx hb dMD_isBefore_57 hl (by decide) rfl (fun ls hl => ?_)
    refine lv_iload_n hx hb dMD_isBefore_59 rfl (lv_at hl 1 rfl) ?_
    refine lv_iload hx hb dMD_isBefore_60 (lv_at hl 0 rfl) ?_
    refine lv_icmp_eq hx hb dMD_isBefore_62 rfl (fun hh2 => ?_) (fun hh2 => ?_)
    · skip
      refine lv_aload_n hx hb dMD_isBefore_79 rfl (lv_at hl 2 rfl) ?_
      refine xg_MD_41 C w (xJ20 hJ) dMD_isBefore_80 ?_
      refine lv_iload_n hx hb dMD_isBefore_83 rfl (lv_at hl 3 rfl) ?_
      refine xr_iald C w (xJ31 hJ) rfl 0 rfl r rfl (by omega) (by decide) dMD_isBefore_84 ?_
      refine lv_aload_n hx hb dMD_isBefore_85 rfl (lv_at hl 2 rfl) ?_
      refine xg_MD_41 C w (xJ20 hJ) dMD_isBefore_86 ?_
      refine lv_iload_n hx hb dMD_isBefore_89 rfl (lv_at hl 4 rfl) ?_
      refine xr_iald C w (xJ31 hJ) rfl 0 rfl q rfl (by omega) (by decide) dMD_isBefore_90 ?_
      refine lv_icmp_ge hx hb dMD_isBefore_91 rfl (fun hh3 => ?_) (fun hh3 => ?_)
      · skip
        refine lv_iconst (v := nI 0) hx hb dMD_isBefore_98 xk_i0 ?_
        exact xd_zf C w hr hlk dMD_isBefore_99 (by have q1 := nI_eq (a := (r / 4 + 3 - gg) % 4) (b := (q / 4 + 3 - gg) % 4) (by omega) (by omega); have q2 := nI_leI (a := (q / 4 + 3 - gg) % 4) (b := (r / 4 + 3 - gg) % 4) (by omega) (by omega); have q3 := @Int32.not_lt; have q4 := @Int32.not_le; unfold mp_before; grind) rfl
      · skip
        refine lv_iconst (v := nI 1) hx hb dMD_isBefore_94 xk_i1 ?_
        refine lv_goto hx hb dMD_isBefore_95 rfl ?_
        exact xd_zt C w hr hlk dMD_isBefore_99 (by have q1 := nI_eq (a := (r / 4 + 3 - gg) % 4) (b := (q / 4 + 3 - gg) % 4) (by omega) (by omega); have q2 := nI_leI (a := (q / 4 + 3 - gg) % 4) (b := (r / 4 + 3 - gg) % 4) (by omega) (by omega); have q3 := @Int32.not_lt; have q4 := @Int32.not_le; unfold mp_before; grind) rfl
    · skip
      refine lv_iload_n hx hb dMD_isBefore_65 rfl (lv_at hl 1 rfl) ?_
      refine lv_iload hx hb dMD_isBefore_66 (lv_at hl 0 rfl) ?_
      refine lv_icmp_ge hx hb dMD_isBefore_68 rfl (fun hh4 => ?_) (fun hh4 => ?_)
      · skip
        refine lv_iconst (v := nI 0) hx hb dMD_isBefore_75 xk_i0 ?_
        refine lv_goto hx hb dMD_isBefore_76 rfl ?_
        exact xd_zf C w hr hlk dMD_isBefore_99 (by have q1 := nI_eq (a := (r / 4 + 3 - gg) % 4) (b := (q / 4 + 3 - gg) % 4) (by omega) (by omega); have q2 := nI_leI (a := (q / 4 + 3 - gg) % 4) (b := (r / 4 + 3 - gg) % 4) (by omega) (by omega); have q3 := @Int32.not_lt; have q4 := @Int32.not_le; unfold mp_before; grind) rfl
      · skip
        refine lv_iconst (v := nI 1) hx hb dMD_isBefore_71 xk_i1 ?_
        refine lv_goto hx hb dMD_isBefore_72 rfl ?_
        exact xd_zt C w hr hlk dMD_isBefore_99 (by have q1 := nI_eq (a := (r / 4 + 3 - gg) % 4) (b := (q / 4 + 3 - gg) % 4) (by omega) (by omega); have q2 := nI_leI (a := (q / 4 + 3 - gg) % 4) (b := (r / 4 + 3 - gg) % 4) (by omega) (by omega); have q3 := @Int32.not_lt; have q4 := @Int32.not_le; unfold mp_before; grind) rfl
  · skip
    refine lv_aload_n hx hb dMD_isBefore_13 rfl (lv_at hl 0 rfl) ?_
    refine lv_iload_n hx hb dMD_isBefore_14 rfl (lv_at hl 1 rfl) ?_
    refine xd_callV C w hz hml hl.1 xk_MD_113 (cMD_classOf l D cA tz I ad σ r hJ (by omega)) (xJ20 hJ) rfl rfl rfl rfl (Nat.le_of_ble_eq_true rfl) (by decide) (by decide) dMD_isBefore_15 (fun H locs w => ?_)
    refine W.eq (g2 := F0 m 18 ls [.int (mf_class σ r)]) rfl ?_
    refine lv_aload_n hx hb dMD_isBefore_18 rfl (lv_at hl 0 rfl) ?_
    refine lv_iload_n hx hb dMD_isBefore_19 rfl (lv_at hl 2 rfl) ?_
    refine xd_callV C w hz hml hl.1 xk_MD_113 (cMD_classOf l D cA tz I ad σ q hJ (by omega)) (xJ20 hJ) rfl rfl rfl rfl (Nat.le_of_ble_eq_true rfl) (by decide) (by decide) dMD_isBefore_20 (fun H locs w => ?_)
    refine W.eq (g2 := F0 m 23 ls [.int (mf_class σ q), .int (mf_class σ r)]) rfl ?_
    refine lv_icmp_le hx hb dMD_isBefore_23 rfl (fun hh5 => ?_) (fun hh5 => ?_)
    · skip
      refine lv_iconst (v := nI 0) hx hb dMD_isBefore_30 xk_i0 ?_
      exact xd_zf C w hr hlk dMD_isBefore_31 (by have q1 := nI_eq (a := (r / 4 + 3 - gg) % 4) (b := (q / 4 + 3 - gg) % 4) (by omega) (by omega); have q2 := nI_leI (a := (q / 4 + 3 - gg) % 4) (b := (r / 4 + 3 - gg) % 4) (by omega) (by omega); have q3 := @Int32.not_lt; have q4 := @Int32.not_le; unfold mp_before; grind) rfl
    · skip
      refine lv_iconst (v := nI 1) hx hb dMD_isBefore_26 xk_i1 ?_
      refine lv_goto hx hb dMD_isBefore_27 rfl ?_
      exact xd_zt C w hr hlk dMD_isBefore_31 (by have q1 := nI_eq (a := (r / 4 + 3 - gg) % 4) (b := (q / 4 + 3 - gg) % 4) (by omega) (by omega); have q2 := nI_leI (a := (q / 4 + 3 - gg) % 4) (b := (r / 4 + 3 - gg) % 4) (by omega) (by omega); have q3 := @Int32.not_lt; have q4 := @Int32.not_le; unfold mp_before; grind) rfl
set_option maxRecDepth 100000 in
set_option maxHeartbeats 4000000 in
theorem cMD_isEligible (l : Launch) (D : va_G) (cA : Nat → ClassId) (tz : Nat) (I : List (Nat × Nat)) (ad : Nat → Nat → Nat) (σ : xMem) (r : Nat) (hJ : xJ I) (hr16 : r < 16) (hqs : ¬ σ 27 0 r = nI 4 → ∃ q, q < 64 ∧ σ 28 0 r = nI q) : xD l yMD_isEligible bMD_isEligible 5 (some .boolean) 3 [.ref (ad 20 0), .int (nI r)] D cA tz I ad σ (some (.int (xb (mp_elig σ r)))) σ := by
  refine xd_of (by decide) (by simp [lg_sl, Value.category]) ?_
  intro p e s m args below meth c A ls C hr hlk hml hl w hz
  obtain ⟨hx, hb, hown, hts⟩ := id C
  have hl : lv_has ls 5 [(0, .ref (ad 20 0)), (1, .int (nI r))] := hl
  refine lv_aload_n hx hb dMD_isEligible_0 rfl (lv_at hl 0 rfl) ?_
  refine xg_MD_26 C w (xJ20 hJ) dMD_isEligible_1 ?_
  refine lv_iload_n hx hb dMD_isEligible_4 rfl (lv_at hl 1 rfl) ?_
  refine xr_iald C w (xJ26 hJ) rfl 0 rfl r rfl (by omega) (by decide) dMD_isEligible_5 ?_
  refine lv_iconst (v := nI 1) hx hb dMD_isEligible_6 xk_i1 ?_
  refine lv_icmp_eq hx hb dMD_isEligible_7 rfl (fun hh1 => ?_) (fun hh1 => ?_)
  · skip
    refine lv_iconst (v := nI 0) hx hb dMD_isEligible_12 xk_i0 ?_
    refine lv_istore_n (lv' := [(2, .int (nI 0)), (0, .ref (ad 20 0)), (1, .int (nI r))]) hx hb dMD_isEligible_13 rfl hl (by decide) rfl (fun ls hl => ?_)
    refine xl_up (Wg := fun H locs ls => W p l e _ s m args below meth c H locs _ _ _ (F0 m 14 ls [])) (K := fun i H locs ls => xr_W xCl (xT cA) D I ad (xc cA tz ad σ) A s H locs ∧ lv_has ls 5 [(0, .ref (ad 20 0)), (1, .int (nI r)), (2, .int (nI i))] ∧ (∀ t, t < i → ¬ mp_bars σ r (4 * (r / 4) + t))) 4 ?_ ?_ 0 _ _ _ (by omega) ⟨w, lv_sub hl [1, 2, 0] rfl, xl_0⟩
    · skip
      intro H locs ls ⟨w, hl, hn⟩
      refine lv_iload_n hx hb dMD_isEligible_14 rfl (lv_at hl 2 rfl) ?_
      refine lv_iconst (v := nI 4) hx hb dMD_isEligible_15 xk_i4 ?_
      refine lv_icmp_ge hx hb dMD_isEligible_16 rfl (fun _ => ?_) (fun hq => absurd (nI_le (by omega) (by omega)) hq)
      refine lv_aload_n hx hb dMD_isEligible_109 rfl (lv_at hl 0 rfl) ?_
      refine lv_iload_n hx hb dMD_isEligible_110 rfl (lv_at hl 1 rfl) ?_
      refine xd_callV C w hz hml hl.1 xk_MD_107 (cMD_isMapped l D cA tz I ad σ r hJ hr16) (xJ20 hJ) rfl rfl rfl rfl (Nat.le_of_ble_eq_true rfl) (by decide) (by decide) dMD_isEligible_111 (fun H locs w => ?_)
      refine W.eq (g2 := F0 m 114 ls [.int (xb (mp_map σ r))]) rfl ?_
      refine xz_ifne hx hb dMD_isEligible_114 rfl (fun hh2 => ?_) (fun hh2 => ?_)
      · skip
        have hmp : mp_map σ r := by grind
        obtain ⟨q, h64, hq⟩ := hqs hmp.1
        have h48 : q < 48 := Nat.not_le.mp (fun z => hmp.2 (by rw [hq]; exact nI_le z (by omega)))
        have hdq : σ 28 0 r / nI 16 = nI (q / 16) := by rw [hq]; exact pk_div (by omega) (by decide) (by decide)
        have hcl : (σ 28 0 r).toNatClampNeg = q := by rw [hq]; exact nI_clamp (by omega)
        refine lv_aload_n hx hb dMD_isEligible_119 rfl (lv_at hl 0 rfl) ?_
        refine xg_MD_23 C w (xJ20 hJ) dMD_isEligible_120 ?_
        refine lv_aload_n hx hb dMD_isEligible_123 rfl (lv_at hl 0 rfl) ?_
        refine lv_iload_n hx hb dMD_isEligible_124 rfl (lv_at hl 1 rfl) ?_
        refine xd_callV C w hz hml hl.1 xk_MD_91 (cMD_target l D cA tz I ad σ r hJ hr16) (xJ20 hJ) rfl rfl rfl rfl (Nat.le_of_ble_eq_true rfl) (by decide) (by decide) dMD_isEligible_125 (fun H locs w => ?_)
        refine W.eq (g2 := F0 m 128 ls [.int (σ 28 0 r / nI 16), .ref (ad 25 0)]) rfl ?_
        refine xn_eq (y := nI (q / 16)) hdq ?_
        refine xr_iald C w (xJ25 hJ) rfl 0 rfl (q / 16) rfl (by omega) (by decide) dMD_isEligible_128 ?_
        refine lv_istore_n (lv' := [(2, .int (σ 25 0 (q / 16))), (0, .ref (ad 20 0)), (1, .int (nI r))]) hx hb dMD_isEligible_129 rfl hl (by decide) rfl (fun ls hl => ?_)
        refine lv_aload_n hx hb dMD_isEligible_130 rfl (lv_at hl 1 rfl) ?_
        refine lv_aload_n hx hb dMD_isEligible_131 rfl (lv_at hl 1 rfl) ?_
        refine lv_iload_n hx hb dMD_isEligible_132 rfl (lv_at hl 2 rfl) ?_
        refine xd_callV C w hz hml hl.1 xk_MD_91 (cMD_target l D cA tz I ad σ r hJ hr16) (xJ20 hJ) rfl rfl rfl rfl (Nat.le_of_ble_eq_true rfl) (by decide) (by decide) dMD_isEligible_133 (fun H locs w => ?_)
        refine W.eq (g2 := F0 m 136 ls [.int (σ 28 0 r / nI 16), .ref (ad 20 0)]) rfl ?_
        refine xd_callV C w hz hml hl.1 xk_MD_110 (cMD_creditsOf l D cA tz I ad σ (σ 28 0 r / nI 16) hJ) (xJ20 hJ) rfl rfl rfl rfl (Nat.le_of_ble_eq_true rfl) (by decide) (by decide) dMD_isEligible_136 (fun H locs w => ?_)
        refine W.eq (g2 := F0 m 139 ls [.int (mf_cr σ (σ 28 0 r / nI 16) 16)]) rfl ?_
        refine lv_if_le hx hb dMD_isEligible_139 rfl (fun hh3 => ?_) (fun hh3 => ?_)
        · skip
          refine lv_iconst (v := nI 0) hx hb dMD_isEligible_168 xk_i0 ?_
          exact xd_zf C w hr hlk dMD_isEligible_169 (by unfold mp_elig; rw [hcl]; have q3 := @Int32.not_lt; have q4 := @Int32.not_le; grind) rfl
        · skip
          refine lv_iload_n hx hb dMD_isEligible_142 rfl (lv_at hl 0 rfl) ?_
          refine lv_iconst (v := -1) hx hb dMD_isEligible_143 xk_im1 ?_
          refine lv_icmp_eq hx hb dMD_isEligible_144 rfl (fun hh4 => ?_) (fun hh4 => ?_)
          · skip
            refine lv_iconst (v := nI 1) hx hb dMD_isEligible_164 xk_i1 ?_
            refine lv_goto hx hb dMD_isEligible_165 rfl ?_
            exact xd_zt C w hr hlk dMD_isEligible_169 (by unfold mp_elig; rw [hcl]; have q3 := @Int32.not_lt; have q4 := @Int32.not_le; grind) rfl
          · skip
            refine lv_aload_n hx hb dMD_isEligible_147 rfl (lv_at hl 1 rfl) ?_
            refine xg_MD_29 C w (xJ20 hJ) dMD_isEligible_148 ?_
            refine lv_iload_n hx hb dMD_isEligible_151 rfl (lv_at hl 2 rfl) ?_
            refine xr_iald C w (xJ27 hJ) rfl 0 rfl r rfl (by omega) (by decide) dMD_isEligible_152 ?_
            refine lv_iconst (v := nI 3) hx hb dMD_isEligible_153 xk_i3 ?_
            refine lv_icmp_ne hx hb dMD_isEligible_154 rfl (fun hh5 => ?_) (fun hh5 => ?_)
            · skip
              refine lv_iconst (v := nI 0) hx hb dMD_isEligible_168 xk_i0 ?_
              exact xd_zf C w hr hlk dMD_isEligible_169 (by unfold mp_elig; rw [hcl]; have q3 := @Int32.not_lt; have q4 := @Int32.not_le; grind) rfl
            · skip
              refine lv_iload_n hx hb dMD_isEligible_157 rfl (lv_at hl 0 rfl) ?_
              refine lv_iload_n hx hb dMD_isEligible_158 rfl (lv_at hl 2 rfl) ?_
              refine lv_iconst (v := nI 4) hx hb dMD_isEligible_159 xk_i4 ?_
              refine xn_div hx hb dMD_isEligible_160 (by omega) (by decide) (by decide) ?_
              refine lv_icmp_ne hx hb dMD_isEligible_161 rfl (fun hh6 => ?_) (fun hh6 => ?_)
              · skip
                refine lv_iconst (v := nI 0) hx hb dMD_isEligible_168 xk_i0 ?_
                exact xd_zf C w hr hlk dMD_isEligible_169 (by unfold mp_elig; rw [hcl]; have q3 := @Int32.not_lt; have q4 := @Int32.not_le; grind) rfl
              · skip
                refine lv_iconst (v := nI 1) hx hb dMD_isEligible_164 xk_i1 ?_
                refine lv_goto hx hb dMD_isEligible_165 rfl ?_
                exact xd_zt C w hr hlk dMD_isEligible_169 (by unfold mp_elig; rw [hcl]; have q3 := @Int32.not_lt; have q4 := @Int32.not_le; grind) rfl
      · skip
        refine lv_iconst (v := nI 1) hx hb dMD_isEligible_117 xk_i1 ?_
        exact xd_zt C w hr hlk dMD_isEligible_118 (by unfold mp_elig; have q3 := @Int32.not_lt; have q4 := @Int32.not_le; grind) rfl
    · skip
      intro i H locs ls hii ⟨w, hl, hn⟩ ihi
      refine lv_iload_n hx hb dMD_isEligible_14 rfl (lv_at hl 2 rfl) ?_
      refine lv_iconst (v := nI 4) hx hb dMD_isEligible_15 xk_i4 ?_
      refine lv_icmp_ge hx hb dMD_isEligible_16 rfl (fun hq => absurd hq (nI_ge (by omega) (by omega))) (fun _ => ?_)
      refine lv_iconst (v := nI 4) hx hb dMD_isEligible_19 xk_i4 ?_
      refine lv_iload_n hx hb dMD_isEligible_20 rfl (lv_at hl 1 rfl) ?_
      refine lv_iconst (v := nI 4) hx hb dMD_isEligible_21 xk_i4 ?_
      refine xn_div hx hb dMD_isEligible_22 (by omega) (by decide) (by decide) ?_
      refine xn_mul hx hb dMD_isEligible_23 ?_
      refine lv_iload_n hx hb dMD_isEligible_24 rfl (lv_at hl 2 rfl) ?_
      refine xn_add hx hb dMD_isEligible_25 ?_
      refine lv_istore_n (lv' := [(3, .int (nI ((4 * (r / 4)) + i))), (0, .ref (ad 20 0)), (1, .int (nI r)), (2, .int (nI i))]) hx hb dMD_isEligible_26 rfl hl (by decide) rfl (fun ls hl => ?_)
      refine lv_aload_n hx hb dMD_isEligible_27 rfl (lv_at hl 1 rfl) ?_
      refine lv_iload_n hx hb dMD_isEligible_28 rfl (lv_at hl 0 rfl) ?_
      refine xd_callV C w hz hml hl.1 xk_MD_101 (cMD_isOpen l D cA tz I ad σ (4 * (r / 4) + i) hJ (by omega)) (xJ20 hJ) rfl rfl rfl rfl (Nat.le_of_ble_eq_true rfl) (by decide) (by decide) dMD_isEligible_29 (fun H locs w => ?_)
      refine W.eq (g2 := F0 m 32 ls [.int (xb (mp_open σ (4 * (r / 4) + i)))]) rfl ?_
      refine xz_ifeq hx hb dMD_isEligible_32 rfl (fun hh7 => ?_) (fun hh7 => ?_)
      · skip
        refine lv_iinc (lv' := [(2, .int (nI (i + 1))), (3, .int (nI ((4 * (r / 4)) + i))), (0, .ref (ad 20 0)), (1, .int (nI r))]) hx hb dMD_isEligible_103 hl (k := 3) rfl (xn_inc _) (by decide) rfl (fun ls hl => ?_)
        refine lv_goto hx hb dMD_isEligible_106 rfl ?_
        exact ihi _ _ _ ⟨w, lv_sub hl [2, 3, 0] rfl, xl_s hn (by unfold mp_bars; have q3 := @Int32.not_lt; grind)⟩
      · skip
        refine lv_aload_n hx hb dMD_isEligible_35 rfl (lv_at hl 1 rfl) ?_
        refine xg_MD_41 C w (xJ20 hJ) dMD_isEligible_36 ?_
        refine lv_iload_n hx hb dMD_isEligible_39 rfl (lv_at hl 0 rfl) ?_
        refine xr_iald C w (xJ31 hJ) rfl 0 rfl ((4 * (r / 4)) + i) rfl (by omega) (by decide) dMD_isEligible_40 ?_
        refine lv_aload_n hx hb dMD_isEligible_41 rfl (lv_at hl 1 rfl) ?_
        refine xg_MD_41 C w (xJ20 hJ) dMD_isEligible_42 ?_
        refine lv_iload_n hx hb dMD_isEligible_45 rfl (lv_at hl 2 rfl) ?_
        refine xr_iald C w (xJ31 hJ) rfl 0 rfl r rfl (by omega) (by decide) dMD_isEligible_46 ?_
        refine lv_icmp_ge hx hb dMD_isEligible_47 rfl (fun hh8 => ?_) (fun hh8 => ?_)
        · skip
          refine lv_iinc (lv' := [(2, .int (nI (i + 1))), (3, .int (nI ((4 * (r / 4)) + i))), (0, .ref (ad 20 0)), (1, .int (nI r))]) hx hb dMD_isEligible_103 hl (k := 3) rfl (xn_inc _) (by decide) rfl (fun ls hl => ?_)
          refine lv_goto hx hb dMD_isEligible_106 rfl ?_
          exact ihi _ _ _ ⟨w, lv_sub hl [2, 3, 0] rfl, xl_s hn (by unfold mp_bars; have q3 := @Int32.not_lt; grind)⟩
        · skip
          refine lv_aload_n hx hb dMD_isEligible_50 rfl (lv_at hl 1 rfl) ?_
          refine xg_MD_29 C w (xJ20 hJ) dMD_isEligible_51 ?_
          refine lv_iload_n hx hb dMD_isEligible_54 rfl (lv_at hl 0 rfl) ?_
          refine xr_iald C w (xJ27 hJ) rfl 0 rfl ((4 * (r / 4)) + i) rfl (by omega) (by decide) dMD_isEligible_55 ?_
          refine lv_iconst (v := nI 4) hx hb dMD_isEligible_56 xk_i4 ?_
          refine lv_icmp_eq hx hb dMD_isEligible_57 rfl (fun hh9 => ?_) (fun hh9 => ?_)
          · skip
            refine lv_iconst (v := nI 1) hx hb dMD_isEligible_89 xk_i1 ?_
            refine lv_goto hx hb dMD_isEligible_90 rfl ?_
            refine lv_istore (lv' := [(4, .int (nI 1)), (3, .int (nI ((4 * (r / 4)) + i))), (0, .ref (ad 20 0)), (1, .int (nI r)), (2, .int (nI i))]) hx hb dMD_isEligible_94 hl (by decide) rfl (fun ls hl => ?_)
            refine lv_iload hx hb dMD_isEligible_96 (lv_at hl 0 rfl) ?_
            refine lv_if_eq hx hb dMD_isEligible_98 rfl (fun hq => absurd hq (by decide)) (fun _ => ?_)
            refine lv_iconst (v := nI 0) hx hb dMD_isEligible_101 xk_i0 ?_
            exact xd_zf C w hr hlk dMD_isEligible_102 (by rintro ⟨-, hz, -⟩; exact hz i (by omega) (by unfold mp_bars; have q3 := @Int32.not_lt; grind)) rfl
          · skip
            refine lv_aload_n hx hb dMD_isEligible_60 rfl (lv_at hl 1 rfl) ?_
            refine xg_MD_29 C w (xJ20 hJ) dMD_isEligible_61 ?_
            refine lv_iload_n hx hb dMD_isEligible_64 rfl (lv_at hl 2 rfl) ?_
            refine xr_iald C w (xJ27 hJ) rfl 0 rfl r rfl (by omega) (by decide) dMD_isEligible_65 ?_
            refine lv_iconst (v := nI 4) hx hb dMD_isEligible_66 xk_i4 ?_
            refine lv_icmp_eq hx hb dMD_isEligible_67 rfl (fun hh10 => ?_) (fun hh10 => ?_)
            · skip
              refine lv_iconst (v := nI 1) hx hb dMD_isEligible_89 xk_i1 ?_
              refine lv_goto hx hb dMD_isEligible_90 rfl ?_
              refine lv_istore (lv' := [(4, .int (nI 1)), (3, .int (nI ((4 * (r / 4)) + i))), (0, .ref (ad 20 0)), (1, .int (nI r)), (2, .int (nI i))]) hx hb dMD_isEligible_94 hl (by decide) rfl (fun ls hl => ?_)
              refine lv_iload hx hb dMD_isEligible_96 (lv_at hl 0 rfl) ?_
              refine lv_if_eq hx hb dMD_isEligible_98 rfl (fun hq => absurd hq (by decide)) (fun _ => ?_)
              refine lv_iconst (v := nI 0) hx hb dMD_isEligible_101 xk_i0 ?_
              exact xd_zf C w hr hlk dMD_isEligible_102 (by rintro ⟨-, hz, -⟩; exact hz i (by omega) (by unfold mp_bars; have q3 := @Int32.not_lt; grind)) rfl
            · skip
              refine lv_aload_n hx hb dMD_isEligible_70 rfl (lv_at hl 1 rfl) ?_
              refine xg_MD_26 C w (xJ20 hJ) dMD_isEligible_71 ?_
              refine lv_iload_n hx hb dMD_isEligible_74 rfl (lv_at hl 0 rfl) ?_
              refine xr_iald C w (xJ26 hJ) rfl 0 rfl ((4 * (r / 4)) + i) rfl (by omega) (by decide) dMD_isEligible_75 ?_
              refine lv_iconst (v := nI 1) hx hb dMD_isEligible_76 xk_i1 ?_
              refine lv_icmp_ne hx hb dMD_isEligible_77 rfl (fun hh11 => ?_) (fun hh11 => ?_)
              · skip
                refine lv_iconst (v := nI 0) hx hb dMD_isEligible_93 xk_i0 ?_
                refine lv_istore (lv' := [(4, .int (nI 0)), (3, .int (nI ((4 * (r / 4)) + i))), (0, .ref (ad 20 0)), (1, .int (nI r)), (2, .int (nI i))]) hx hb dMD_isEligible_94 hl (by decide) rfl (fun ls hl => ?_)
                refine lv_iload hx hb dMD_isEligible_96 (lv_at hl 0 rfl) ?_
                refine lv_if_eq hx hb dMD_isEligible_98 rfl (fun _ => ?_) (fun hq => absurd nI_0 hq)
                refine lv_iinc (lv' := [(2, .int (nI (i + 1))), (4, .int (nI 0)), (3, .int (nI ((4 * (r / 4)) + i))), (0, .ref (ad 20 0)), (1, .int (nI r))]) hx hb dMD_isEligible_103 hl (k := 4) rfl (xn_inc _) (by decide) rfl (fun ls hl => ?_)
                refine lv_goto hx hb dMD_isEligible_106 rfl ?_
                exact ihi _ _ _ ⟨w, lv_sub hl [3, 4, 0] rfl, xl_s hn (by unfold mp_bars; have q3 := @Int32.not_lt; grind)⟩
              · skip
                refine lv_aload_n hx hb dMD_isEligible_80 rfl (lv_at hl 1 rfl) ?_
                refine lv_iload_n hx hb dMD_isEligible_81 rfl (lv_at hl 2 rfl) ?_
                refine lv_iload_n hx hb dMD_isEligible_82 rfl (lv_at hl 0 rfl) ?_
                refine xd_callV C w hz hml hl.1 xk_MD_104 (cMD_meet l D cA tz I ad σ r (4 * (r / 4) + i) hJ hr16 (by omega)) (xJ20 hJ) rfl rfl rfl rfl (Nat.le_of_ble_eq_true rfl) (by decide) (by decide) dMD_isEligible_83 (fun H locs w => ?_)
                refine W.eq (g2 := F0 m 86 ls [.int (xb (mp_meet σ r (4 * (r / 4) + i)))]) rfl ?_
                refine xz_ifeq hx hb dMD_isEligible_86 rfl (fun hh12 => ?_) (fun hh12 => ?_)
                · skip
                  refine lv_iconst (v := nI 0) hx hb dMD_isEligible_93 xk_i0 ?_
                  refine lv_istore (lv' := [(4, .int (nI 0)), (3, .int (nI ((4 * (r / 4)) + i))), (0, .ref (ad 20 0)), (1, .int (nI r)), (2, .int (nI i))]) hx hb dMD_isEligible_94 hl (by decide) rfl (fun ls hl => ?_)
                  refine lv_iload hx hb dMD_isEligible_96 (lv_at hl 0 rfl) ?_
                  refine lv_if_eq hx hb dMD_isEligible_98 rfl (fun _ => ?_) (fun hq => absurd nI_0 hq)
                  refine lv_iinc (lv' := [(2, .int (nI (i + 1))), (4, .int (nI 0)), (3, .int (nI ((4 * (r / 4)) + i))), (0, .ref (ad 20 0)), (1, .int (nI r))]) hx hb dMD_isEligible_103 hl (k := 4) rfl (xn_inc _) (by decide) rfl (fun ls hl => ?_)
                  refine lv_goto hx hb dMD_isEligible_106 rfl ?_
                  exact ihi _ _ _ ⟨w, lv_sub hl [3, 4, 0] rfl, xl_s hn (by unfold mp_bars; have q3 := @Int32.not_lt; grind)⟩
                · skip
                  refine lv_iconst (v := nI 1) hx hb dMD_isEligible_89 xk_i1 ?_
                  refine lv_goto hx hb dMD_isEligible_90 rfl ?_
                  refine lv_istore (lv' := [(4, .int (nI 1)), (3, .int (nI ((4 * (r / 4)) + i))), (0, .ref (ad 20 0)), (1, .int (nI r)), (2, .int (nI i))]) hx hb dMD_isEligible_94 hl (by decide) rfl (fun ls hl => ?_)
                  refine lv_iload hx hb dMD_isEligible_96 (lv_at hl 0 rfl) ?_
                  refine lv_if_eq hx hb dMD_isEligible_98 rfl (fun hq => absurd hq (by decide)) (fun _ => ?_)
                  refine lv_iconst (v := nI 0) hx hb dMD_isEligible_101 xk_i0 ?_
                  exact xd_zf C w hr hlk dMD_isEligible_102 (by rintro ⟨-, hz, -⟩; exact hz i (by omega) (by unfold mp_bars; have q3 := @Int32.not_lt; grind)) rfl
  · skip
    refine lv_iconst (v := nI 0) hx hb dMD_isEligible_10 xk_i0 ?_
    exact xd_zf C w hr hlk dMD_isEligible_11 (by unfold mp_elig; have q3 := @Int32.not_lt; have q4 := @Int32.not_le; grind) rfl
end
section
/-! What the reference's methods do to the memory. -/
theorem xp_in_n {a n : Nat} (h : a < n) (hn : n < 2 ^ 31) : xp_in (nI a) (nI n) := ⟨nI_pos (by omega), nI_ge h hn⟩
theorem xp_in_of {x : Int32} {n : Nat} (hn : n < 2 ^ 31) (h : xp_in x (nI n)) : ∃ a, a < n ∧ x = nI a := by
  rcases pk_ix x hn with h1 | h1 | h1
  · exact absurd h1 h.1
  · exact absurd h1 h.2
  · exact h1
theorem xn_dec16 {i : Nat} (h : i < 16) : nI (16 - i) + Int32.ofInt (-1) = nI (16 - (i + 1)) := by
  rw [show 16 - i = (16 - (i + 1)) + 1 by omega]
  exact xn_dec _
def xN (x : Int32) : Nat := x.toNatClampNeg
theorem xN_of {x : Int32} {n : Nat} (h : x = nI n) (hn : n < 2 ^ 31) : xN x = n := by
  rw [h]
  exact nI_clamp hn
theorem xu2_at (σ : xMem) (r k : Nat) (f : Nat → Int32) (a b j : Nat) : xw_u2 σ r k f a b j = if a = r ∧ b = k then f j else σ a b j := by
  by_cases h : a = r ∧ b = k
  · rw [if_pos h, h.1, h.2, xw_u2_s]
  · rw [if_neg h, xw_u2_n _ _ h]
theorem xcpy_s (τ : xMem) (r k : Nat) (f : Nat → Int32) (g : Nat → Int32) (a b i : Nat) : xu3 (xw_u2 τ r k (va_cpy f g a b i)) r k (b + i) (f (a + i)) = xw_u2 τ r k (va_cpy f g a b (i + 1)) := by
  funext x y j
  rw [xu3_at, xu2_at, xu2_at]
  unfold va_cpy
  grind
theorem xcpy_0 (τ : xMem) (r k : Nat) (f : Nat → Int32) (a b : Nat) : xw_u2 τ r k (va_cpy f (τ r k) a b 0) = τ := by
  funext x y j
  rw [xu2_at]
  unfold va_cpy
  grind
def mp_free (σ : xMem) (a : Nat) : Prop := ¬ σ 25 0 0 = nI a ∧ ¬ σ 25 0 1 = nI a ∧ ¬ σ 25 0 2 = nI a
def mp_allow (σ : xMem) (a : Nat) (x : Int32) (q b : Nat) : Prop := σ 26 0 (4 * a + b) = 0 ∧ ((x = nI 2 ∧ mp_free σ a ∧ ¬ mp_wait σ a 4 (nI 2)) ∨ (¬ x = nI 2 ∧ (¬ x = nI 3 ∨ (q < 48 ∧ σ 25 0 (q / 16) = nI a ∧ ¬ mp_wait σ a 4 (nI 3)))))
noncomputable def mf_begin (σ : xMem) (r : Nat) (x y z : Int32) : xMem :=
  xu3 (xu3 (xu3 (xu3 (xu3 (xu3 (xu3 (xu3 (xu3 σ 20 0 16 (σ 20 0 16 + nI 1)) 26 0 r (nI 1)) 27 0 r x) 28 0 r y) 29 0 r z) 30 0 r (nI 0)) 31 0 r (σ 20 0 16 + nI 1)) 32 0 r (nI 0)) 35 0 r (nI 0)
noncomputable def mf_issue (σ : xMem) (a b : Nat) (x y z : Int32) : xMem :=
  xw_u2 (mf_begin (xu3 σ 20 0 0 (nI 0)) (4 * a + b) x y z) 33 0 (va_cpy (σ 22 0) (σ 33 0) (4 * a) (4 * (4 * a + b)) 4)
/-- one request is served -/
noncomputable def mf_move (σ : xMem) (r q n : Nat) : xMem :=
  xif (σ 27 0 r = nI 1 ∨ σ 27 0 r = nI 3) (xu3 (xw_u2 (xu3 σ 32 0 r (nI 0)) 21 0 (va_cpy (σ 33 0) (σ 21 0) (4 * r) q n)) 26 0 r (nI 3))
    (xu3 (xw_u2 (xu3 σ 32 0 r (nI 0)) 34 0 (va_cpy (σ 21 0) (σ 34 0) q (4 * r) n)) 35 0 r (nI n))
noncomputable def mf_log (σ : xMem) (r q n ns : Nat) : xMem :=
  xu3 (xu3 (xu3 (xu3 (xu3 (xu3 (xu3 σ 36 0 (6 * ns) (nI (r / 4))) 36 0 (6 * ns + 1) (nI (r % 4))) 36 0 (6 * ns + 2) (σ 27 0 r)) 36 0 (6 * ns + 3) (nI q)) 36 0 (6 * ns + 4) (nI n)) 36 0 (6 * ns + 5) (σ 20 0 20 + nI 1)) 20 0 21 (nI (ns + 1))
noncomputable def mf_serve (σ : xMem) (r : Nat) : xMem := mf_log (mf_move σ r (xN (σ 28 0 r)) (xN (σ 29 0 r))) r (xN (σ 28 0 r)) (xN (σ 29 0 r)) (xN (σ 20 0 21))
noncomputable def mf_fb (σ : xMem) (g : Nat) : Nat → Option Nat
  | 0 => none
  | i + 1 => xif (0 < σ 35 0 ((g + (16 - i)) % 16)) (some ((g + (16 - i)) % 16)) (mf_fb σ g i)
theorem mf_fb_lt {σ : xMem} {g : Nat} : ∀ {i b : Nat}, mf_fb σ g i = some b → b < 16 := by
  intro i
  induction i with
  | zero => intro b h; cases h
  | succ i ih =>
    intro b h
    have h : xif (0 < σ 35 0 ((g + (16 - i)) % 16)) (some ((g + (16 - i)) % 16)) (mf_fb σ g i) = some b := h
    by_cases hc : 0 < σ 35 0 ((g + (16 - i)) % 16)
    · rw [xif_t hc] at h
      cases h
      omega
    · rw [xif_f hc] at h
      exact ih h
noncomputable def mf_back (σ : xMem) (b : Nat) : xMem := xu3 (xu3 (xu3 σ 20 0 18 (nI b)) 35 0 b (σ 35 0 b - nI 1)) 26 0 b (xif (σ 35 0 b - nI 1 = 0) (nI 3) (σ 26 0 b))
noncomputable def mf_give (σ : xMem) : xMem := match mf_fb σ (xN (σ 20 0 18)) 16 with
  | none => σ
  | some b => mf_back σ b
noncomputable def mf_gr1 (σ : xMem) (b : Nat) : xMem := xu3 (xu3 σ 20 0 17 (σ 20 0 17 + nI 1)) 20 0 19 (nI (b / 4))
noncomputable def mf_gr2 (σ : xMem) (b : Nat) : xMem := xu3 (xu3 (mf_gr1 σ b) 26 0 b (nI 2)) 32 0 b (σ 20 0 17 + nI 1)
noncomputable def mf_gr3 (σ : xMem) (b : Nat) : xMem := xif (σ 27 0 b = nI 2) (xu3 (mf_gr2 σ b) 25 0 (xN (σ 28 0 b) / 16) (nI (b / 4))) (mf_gr2 σ b)
noncomputable def mf_grant (σ : xMem) (o : Option Nat) : xMem := match o with
  | none => σ
  | some b => xif (mp_map σ b) (xif (σ 27 0 b = nI 3) (xu3 (mf_gr3 σ b) 25 0 (xN (σ 28 0 b) / 16) (-1)) (mf_gr3 σ b))
      (xu3 (mf_gr1 σ b) 26 0 b (xif (σ 27 0 b = nI 4) (nI 3) (nI 4)))
def mf_age (σ : xMem) (i : Nat) : xMem := fun r k j => if r = 30 ∧ k = 0 ∧ j < i ∧ σ 26 0 j = nI 1 then σ 30 0 j + nI 1 else σ r k j
theorem mf_age_0 (σ : xMem) : mf_age σ 0 = σ := by
  funext a b j
  unfold mf_age
  grind
theorem mf_age_st (σ : xMem) (i j : Nat) : mf_age σ i 26 0 j = σ 26 0 j := by
  unfold mf_age
  grind
theorem mf_age_t {σ : xMem} {i : Nat} (h : mf_age σ i 26 0 i = nI 1) : xu3 (mf_age σ i) 30 0 i (mf_age σ i 30 0 i + nI 1) = mf_age σ (i + 1) := by
  rw [mf_age_st] at h
  funext a b j
  rw [xu3_at]
  unfold mf_age
  grind
theorem mf_age_f {σ : xMem} {i : Nat} (h : ¬ mf_age σ i 26 0 i = nI 1) : xu3 (mf_age σ i) 30 0 i (mf_age σ i 30 0 i) = mf_age σ (i + 1) := by
  rw [mf_age_st] at h
  funext a b j
  rw [xu3_at]
  unfold mf_age
  grind
noncomputable def mf_srv1 (σ : xMem) (t : Nat) (o : Option Nat) : xMem := match o with
  | none => σ
  | some r => xif (σ 24 0 t = 0) σ (mf_serve σ r)
noncomputable def mf_srv (σ : xMem) : Nat → xMem
  | 0 => σ
  | i + 1 => mf_srv1 (mf_srv σ i) i (mf_fst (mf_srv σ i) (nI i) 16)
noncomputable def mf_gv (σ : xMem) : xMem := mf_give (mf_srv σ 3)
noncomputable def mf_bst (σ : xMem) : Option Nat := mf_best (mf_gv σ) (xN (mf_gv σ 20 0 19)) 16
noncomputable def mf_one (σ : xMem) : xMem := xu3 (mf_age (mf_grant (mf_gv σ) (mf_bst σ)) 16) 20 0 20 (mf_grant (mf_gv σ) (mf_bst σ) 20 0 20 + nI 1)
/-- what the reference's memory keeps -/
def mv (σ : xMem) : Prop := (∃ g, g < 4 ∧ σ 20 0 19 = nI g) ∧ (∃ g, g < 16 ∧ σ 20 0 18 = nI g) ∧ (∃ n, n < 600 ∧ σ 20 0 21 = nI n) ∧ ∀ r, r < 16 → (¬ σ 27 0 r = nI 4 → ∃ q, q < 64 ∧ σ 28 0 r = nI q) ∧ (σ 26 0 r = nI 2 → ∃ q n, q + n ≤ 48 ∧ n ≤ 4 ∧ σ 28 0 r = nI q ∧ σ 29 0 r = nI n)
def mv1 (σ : xMem) : Prop := (∀ i, i ≤ 3 → mv (mf_srv σ i)) ∧ mv (mf_gv σ)
noncomputable def mf_run (σ : xMem) : Nat → xMem
  | 0 => σ
  | i + 1 => mf_one (mf_run σ i)
noncomputable def mf_many (σ : xMem) : Nat → Nat
  | 0 => 0
  | i + 1 => match mf_bst (mf_run σ i) with
    | none => mf_many σ i
    | some _ => mf_many σ i + 1
def xoi4 (o : Option Nat) : Int32 := match o with
  | none => -1
  | some r => nI (r / 4)
noncomputable def mf_wts (σ : xMem) (a : Nat) : Nat → Option Nat := xf_it (fun r => σ 26 0 r = nI 1) (fun r b => σ 31 0 r < σ 31 0 b) (fun i => 4 * a + i)
theorem mf_wts_s (σ : xMem) (a i : Nat) : mf_wts σ a (i + 1) = xf_step (fun r => σ 26 0 r = nI 1) (fun r b => σ 31 0 r < σ 31 0 b) (mf_wts σ a i) (4 * a + i) := rfl
theorem mf_wts_lt {σ : xMem} {a i b : Nat} (ha : a < 4) (hi : i ≤ 4) (h : mf_wts σ a i = some b) : b < 16 := by
  obtain ⟨j, hj, e⟩ := xf_it_in i b h
  omega
def mf_wait (σ : xMem) (o : Option Nat) : Int32 := match o with
  | none => -1
  | some k => σ 30 0 k
def mf_rst (σ : xMem) (a i : Nat) : xMem := fun r k j => if r = 26 ∧ k = 0 ∧ 4 * a ≤ j ∧ j < 4 * a + i ∧ σ 26 0 j = nI 1 then nI 0 else σ r k j
def mf_cnt (σ : xMem) (a : Nat) : Nat → Nat
  | 0 => 0
  | i + 1 => if σ 26 0 (4 * a + i) = nI 1 then mf_cnt σ a i + 1 else mf_cnt σ a i
def mf_rel (σ : xMem) (x : Int32) (i : Nat) : xMem := fun r k j => if r = 25 ∧ k = 0 ∧ j < i ∧ σ 25 0 j = x then -1 else σ r k j
theorem mf_rst_at (σ : xMem) (a i : Nat) : mf_rst σ a i 26 0 (4 * a + i) = σ 26 0 (4 * a + i) := by
  unfold mf_rst
  rw [if_neg]
  omega
theorem mf_rst_0 (σ : xMem) (a : Nat) : mf_rst σ a 0 = σ := by
  funext r b j
  unfold mf_rst
  rw [if_neg]
  omega
theorem mf_rst_t {σ : xMem} {a i : Nat} (h : mf_rst σ a i 26 0 (4 * a + i) = nI 1) : xu3 (mf_rst σ a i) 26 0 (4 * a + i) (nI 0) = mf_rst σ a (i + 1) := by
  rw [mf_rst_at] at h
  funext r b j
  rw [xu3_at]
  unfold mf_rst
  grind
theorem mf_rst_f {σ : xMem} {a i : Nat} (h : ¬ mf_rst σ a i 26 0 (4 * a + i) = nI 1) : mf_rst σ a i = mf_rst σ a (i + 1) := by
  rw [mf_rst_at] at h
  funext r b j
  unfold mf_rst
  grind
theorem mf_cnt_t {σ : xMem} {a i : Nat} (h : mf_rst σ a i 26 0 (4 * a + i) = nI 1) : mf_cnt σ a i + 1 = mf_cnt σ a (i + 1) := by
  rw [mf_rst_at] at h
  show _ = if _ then _ else _
  rw [if_pos h]
theorem mf_cnt_f {σ : xMem} {a i : Nat} (h : ¬ mf_rst σ a i 26 0 (4 * a + i) = nI 1) : mf_cnt σ a i = mf_cnt σ a (i + 1) := by
  rw [mf_rst_at] at h
  show _ = if _ then _ else _
  rw [if_neg h]
theorem mf_rel_0 (σ : xMem) (x : Int32) : mf_rel σ x 0 = σ := by
  funext r b j
  unfold mf_rel
  rw [if_neg]
  omega
theorem mf_rel_at (σ : xMem) (x : Int32) (i : Nat) : mf_rel σ x i 25 0 i = σ 25 0 i := by
  unfold mf_rel
  rw [if_neg]
  omega
theorem mf_rel_t {σ : xMem} {x : Int32} {i : Nat} (h : mf_rel σ x i 25 0 i = x) : xu3 (mf_rel σ x i) 25 0 i (-1) = mf_rel σ x (i + 1) := by
  rw [mf_rel_at] at h
  funext r b j
  rw [xu3_at]
  unfold mf_rel
  grind
theorem mf_rel_f {σ : xMem} {x : Int32} {i : Nat} (h : ¬ mf_rel σ x i 25 0 i = x) : xu3 (mf_rel σ x i) 25 0 i (mf_rel σ x i 25 0 i) = mf_rel σ x (i + 1) := by
  rw [mf_rel_at] at h ⊢
  funext r b j
  rw [xu3_at]
  unfold mf_rel
  grind
end
section
/-! The reference's public methods. -/
theorem cMD_refused0 (l : Launch) (D : va_G) (cA : Nat → ClassId) (tz : Nat) (I : List (Nat × Nat)) (ad : Nat → Nat → Nat) (σ : xMem) (hJ : xJ I) : xD l yMD_refused bMD_refused 2 (some .boolean) 1 [.ref (ad 20 0), .int (nI 0)] D cA tz I ad σ (some (.int (nI 0))) (xu3 σ 20 0 0 (nI 0)) := by
  have h := cMD_refused l D cA tz I ad σ (nI 0) hJ
  rw [xb_f (by decide)] at h
  exact h
theorem cMD_refused1 (l : Launch) (D : va_G) (cA : Nat → ClassId) (tz : Nat) (I : List (Nat × Nat)) (ad : Nat → Nat → Nat) (σ : xMem) (hJ : xJ I) : xD l yMD_refused bMD_refused 2 (some .boolean) 1 [.ref (ad 20 0), .int (nI 1)] D cA tz I ad σ (some (.int (nI 1))) (xu3 σ 20 0 0 (nI 1)) := by
  have h := cMD_refused l D cA tz I ad σ (nI 1) hJ
  rw [xb_t (by decide)] at h
  exact h
theorem cMD_refused2 (l : Launch) (D : va_G) (cA : Nat → ClassId) (tz : Nat) (I : List (Nat × Nat)) (ad : Nat → Nat → Nat) (σ : xMem) (hJ : xJ I) : xD l yMD_refused bMD_refused 2 (some .boolean) 1 [.ref (ad 20 0), .int (nI 2)] D cA tz I ad σ (some (.int (nI 1))) (xu3 σ 20 0 0 (nI 2)) := by
  have h := cMD_refused l D cA tz I ad σ (nI 2) hJ
  rw [xb_t (by decide)] at h
  exact h
theorem cMD_refused3 (l : Launch) (D : va_G) (cA : Nat → ClassId) (tz : Nat) (I : List (Nat × Nat)) (ad : Nat → Nat → Nat) (σ : xMem) (hJ : xJ I) : xD l yMD_refused bMD_refused 2 (some .boolean) 1 [.ref (ad 20 0), .int (nI 3)] D cA tz I ad σ (some (.int (nI 1))) (xu3 σ 20 0 0 (nI 3)) := by
  have h := cMD_refused l D cA tz I ad σ (nI 3) hJ
  rw [xb_t (by decide)] at h
  exact h
theorem mf_cr_f0 (σ : xMem) (x : Int32) : mf_cr (xu3 σ 20 0 0 (nI 0)) x 16 = mf_cr σ x 16 := by
  have h : ∀ i, mf_cr (xu3 σ 20 0 0 (nI 0)) x i = mf_cr σ x i := by
    intro i
    induction i with
    | zero => rfl
    | succ i ih =>
      show (if _ then _ else _) = if _ then _ else _
      rw [ih]
      rfl
  exact h 16
set_option maxRecDepth 100000 in
set_option maxHeartbeats 4000000 in
theorem cMD_data_ok (l : Launch) (D : va_G) (cA : Nat → ClassId) (tz : Nat) (I : List (Nat × Nat)) (ad : Nat → Nat → Nat) (σ : xMem) (a b : Nat) (x : Int32) (hJ : xJ I) (ha : a < 4) (hb4 : b < 4) : xD l yMD_data bMD_data 4 none 2 [.ref (ad 20 0), .int (nI a), .int (nI b), .int x] D cA tz I ad σ none (xu3 (xu3 σ 20 0 0 (nI 0)) 22 0 (4 * a + b) x) := by
  refine xd_of (by decide) (by simp [lg_sl, Value.category]) ?_
  intro p e s m args below meth c A ls C hr hlk hml hl w hz
  obtain ⟨hx, hb, hown, hts⟩ := id C
  have hl : lv_has ls 4 [(0, .ref (ad 20 0)), (1, .int (nI a)), (2, .int (nI b)), (3, .int x)] := hl
  have hina : xp_in (nI a) (nI 4) := xp_in_n (by omega) (by decide)
  have hinb : xp_in (nI b) (nI 4) := xp_in_n (by omega) (by decide)
  refine lv_aload_n hx hb dMD_data_0 rfl (lv_at hl 0 rfl) ?_
  refine lv_iload_n hx hb dMD_data_1 rfl (lv_at hl 1 rfl) ?_
  refine lv_iconst (v := nI 4) hx hb dMD_data_2 xk_i4 ?_
  refine xd_callS C w hz hml hl.1 xk_MD_69 (cMD_isIn l D cA tz I ad (σ) (nI a) (nI 4)) rfl rfl (Nat.le_of_ble_eq_true rfl) (by decide) (by decide) dMD_data_3 (fun H locs w => ?_)
  refine W.eq (g2 := F0 m 6 ls [.int (xb (xp_in (nI a) (nI 4))), .ref (ad 20 0)]) rfl ?_
  refine xz_ifeq hx hb dMD_data_6 rfl (fun hh1 => ?_) (fun hh1 => ?_)
  · skip
    refine lv_iconst (v := nI 1) hx hb dMD_data_21 xk_i1 ?_
    exfalso
    first | contradiction | grind
  · skip
    refine lv_iload_n hx hb dMD_data_9 rfl (lv_at hl 2 rfl) ?_
    refine lv_iconst (v := nI 4) hx hb dMD_data_10 xk_i4 ?_
    refine xd_callS C w hz hml hl.1 xk_MD_69 (cMD_isIn l D cA tz I ad (σ) (nI b) (nI 4)) rfl rfl (Nat.le_of_ble_eq_true rfl) (by decide) (by decide) dMD_data_11 (fun H locs w => ?_)
    refine W.eq (g2 := F0 m 14 ls [.int (xb (xp_in (nI b) (nI 4))), .ref (ad 20 0)]) rfl ?_
    refine xz_ifeq hx hb dMD_data_14 rfl (fun hh2 => ?_) (fun hh2 => ?_)
    · skip
      refine lv_iconst (v := nI 1) hx hb dMD_data_21 xk_i1 ?_
      exfalso
      first | contradiction | grind
    · skip
      refine lv_iconst (v := nI 0) hx hb dMD_data_17 xk_i0 ?_
      refine lv_goto hx hb dMD_data_18 rfl ?_
      refine xd_callV C w hz hml hl.1 xk_MD_73 (cMD_refused0 l D cA tz I ad (σ) hJ) (xJ20 hJ) rfl rfl rfl rfl (Nat.le_of_ble_eq_true rfl) (by decide) (by decide) dMD_data_22 (fun H locs w => ?_)
      refine W.eq (g2 := F0 m 25 ls [.int (nI 0)]) rfl ?_
      refine lv_if_ne hx hb dMD_data_25 rfl (fun hq => absurd nI_0 hq) (fun _ => ?_)
      refine lv_aload_n hx hb dMD_data_28 rfl (lv_at hl 0 rfl) ?_
      refine xg_MD_13 C w (xJ20 hJ) dMD_data_29 ?_
      refine lv_iconst (v := nI 4) hx hb dMD_data_32 xk_i4 ?_
      refine lv_iload_n hx hb dMD_data_33 rfl (lv_at hl 1 rfl) ?_
      refine xn_mul hx hb dMD_data_34 ?_
      refine lv_iload_n hx hb dMD_data_35 rfl (lv_at hl 2 rfl) ?_
      refine xn_add hx hb dMD_data_36 ?_
      refine lv_iload_n hx hb dMD_data_37 rfl (lv_at hl 3 rfl) ?_
      refine xs_iast C w (xJ22 hJ) (fun _ => rfl) ((4 * a) + b) rfl (by omega) (by decide) dMD_data_38 (fun H locs w => ?_)
      exact xd_vret C w hr hlk dMD_data_39 rfl
set_option maxRecDepth 100000 in
set_option maxHeartbeats 4000000 in
theorem cMD_data_no (l : Launch) (D : va_G) (cA : Nat → ClassId) (tz : Nat) (I : List (Nat × Nat)) (ad : Nat → Nat → Nat) (σ : xMem) (x y z : Int32) (hJ : xJ I) (hn : ¬ (xp_in x (nI 4) ∧ xp_in y (nI 4))) : xD l yMD_data bMD_data 4 none 2 [.ref (ad 20 0), .int x, .int y, .int z] D cA tz I ad σ none (xu3 σ 20 0 0 (nI 1)) := by
  refine xd_of (by decide) (by simp [lg_sl, Value.category]) ?_
  intro p e s m args below meth c A ls C hr hlk hml hl w hz
  obtain ⟨hx, hb, hown, hts⟩ := id C
  have hl : lv_has ls 4 [(0, .ref (ad 20 0)), (1, .int x), (2, .int y), (3, .int z)] := hl
  refine lv_aload_n hx hb dMD_data_0 rfl (lv_at hl 0 rfl) ?_
  refine lv_iload_n hx hb dMD_data_1 rfl (lv_at hl 1 rfl) ?_
  refine lv_iconst (v := nI 4) hx hb dMD_data_2 xk_i4 ?_
  refine xd_callS C w hz hml hl.1 xk_MD_69 (cMD_isIn l D cA tz I ad (σ) x (nI 4)) rfl rfl (Nat.le_of_ble_eq_true rfl) (by decide) (by decide) dMD_data_3 (fun H locs w => ?_)
  refine W.eq (g2 := F0 m 6 ls [.int (xb (xp_in x (nI 4))), .ref (ad 20 0)]) rfl ?_
  refine xz_ifeq hx hb dMD_data_6 rfl (fun hh1 => ?_) (fun hh1 => ?_)
  · skip
    refine lv_iconst (v := nI 1) hx hb dMD_data_21 xk_i1 ?_
    refine xd_callV C w hz hml hl.1 xk_MD_73 (cMD_refused1 l D cA tz I ad (σ) hJ) (xJ20 hJ) rfl rfl rfl rfl (Nat.le_of_ble_eq_true rfl) (by decide) (by decide) dMD_data_22 (fun H locs w => ?_)
    refine W.eq (g2 := F0 m 25 ls [.int (nI 1)]) rfl ?_
    refine lv_if_ne hx hb dMD_data_25 rfl (fun _ => ?_) (fun hq => absurd hq (by decide))
    exact xd_vret C w hr hlk dMD_data_39 rfl
  · skip
    refine lv_iload_n hx hb dMD_data_9 rfl (lv_at hl 2 rfl) ?_
    refine lv_iconst (v := nI 4) hx hb dMD_data_10 xk_i4 ?_
    refine xd_callS C w hz hml hl.1 xk_MD_69 (cMD_isIn l D cA tz I ad (σ) y (nI 4)) rfl rfl (Nat.le_of_ble_eq_true rfl) (by decide) (by decide) dMD_data_11 (fun H locs w => ?_)
    refine W.eq (g2 := F0 m 14 ls [.int (xb (xp_in y (nI 4))), .ref (ad 20 0)]) rfl ?_
    refine xz_ifeq hx hb dMD_data_14 rfl (fun hh2 => ?_) (fun hh2 => ?_)
    · skip
      refine lv_iconst (v := nI 1) hx hb dMD_data_21 xk_i1 ?_
      refine xd_callV C w hz hml hl.1 xk_MD_73 (cMD_refused1 l D cA tz I ad (σ) hJ) (xJ20 hJ) rfl rfl rfl rfl (Nat.le_of_ble_eq_true rfl) (by decide) (by decide) dMD_data_22 (fun H locs w => ?_)
      refine W.eq (g2 := F0 m 25 ls [.int (nI 1)]) rfl ?_
      refine lv_if_ne hx hb dMD_data_25 rfl (fun _ => ?_) (fun hq => absurd hq (by decide))
      exact xd_vret C w hr hlk dMD_data_39 rfl
    · skip
      refine lv_iconst (v := nI 0) hx hb dMD_data_17 xk_i0 ?_
      refine lv_goto hx hb dMD_data_18 rfl ?_
      exfalso
      first | contradiction | grind
set_option maxRecDepth 100000 in
set_option maxHeartbeats 4000000 in
theorem cMD_ready_ok (l : Launch) (D : va_G) (cA : Nat → ClassId) (tz : Nat) (I : List (Nat × Nat)) (ad : Nat → Nat → Nat) (σ : xMem) (a : Nat) (x : Int32) (hJ : xJ I) (ha : a < 3) (hx2 : x = nI 0 ∨ x = nI 1) : xD l yMD_ready bMD_ready 3 none 2 [.ref (ad 20 0), .int (nI a), .int x] D cA tz I ad σ none (xu3 (xu3 σ 20 0 0 (nI 0)) 24 0 a x) := by
  refine xd_of (by decide) (by simp [lg_sl, Value.category]) ?_
  intro p e s m args below meth c A ls C hr hlk hml hl w hz
  obtain ⟨hx, hb, hown, hts⟩ := id C
  have hl : lv_has ls 3 [(0, .ref (ad 20 0)), (1, .int (nI a)), (2, .int x)] := hl
  have hina : xp_in (nI a) (nI 3) := xp_in_n (by omega) (by decide)
  refine lv_aload_n hx hb dMD_ready_0 rfl (lv_at hl 0 rfl) ?_
  refine lv_iload_n hx hb dMD_ready_1 rfl (lv_at hl 1 rfl) ?_
  refine lv_iconst (v := nI 3) hx hb dMD_ready_2 xk_i3 ?_
  refine xd_callS C w hz hml hl.1 xk_MD_69 (cMD_isIn l D cA tz I ad (σ) (nI a) (nI 3)) rfl rfl (Nat.le_of_ble_eq_true rfl) (by decide) (by decide) dMD_ready_3 (fun H locs w => ?_)
  refine W.eq (g2 := F0 m 6 ls [.int (xb (xp_in (nI a) (nI 3))), .ref (ad 20 0)]) rfl ?_
  refine xz_ifeq hx hb dMD_ready_6 rfl (fun hh1 => ?_) (fun hh1 => ?_)
  · skip
    refine lv_iconst (v := nI 1) hx hb dMD_ready_13 xk_i1 ?_
    exfalso
    first | contradiction | grind
  · skip
    refine lv_iconst (v := nI 0) hx hb dMD_ready_9 xk_i0 ?_
    refine lv_goto hx hb dMD_ready_10 rfl ?_
    refine xd_callV C w hz hml hl.1 xk_MD_73 (cMD_refused0 l D cA tz I ad (σ) hJ) (xJ20 hJ) rfl rfl rfl rfl (Nat.le_of_ble_eq_true rfl) (by decide) (by decide) dMD_ready_14 (fun H locs w => ?_)
    refine W.eq (g2 := F0 m 17 ls [.int (nI 0)]) rfl ?_
    refine lv_if_ne hx hb dMD_ready_17 rfl (fun hq => absurd nI_0 hq) (fun _ => ?_)
    refine lv_aload_n hx hb dMD_ready_20 rfl (lv_at hl 0 rfl) ?_
    refine xg_MD_19 C w (xJ20 hJ) dMD_ready_21 ?_
    refine lv_iload_n hx hb dMD_ready_24 rfl (lv_at hl 1 rfl) ?_
    refine lv_iload_n hx hb dMD_ready_25 rfl (lv_at hl 2 rfl) ?_
    refine xs_zast C w (xJ24 hJ) (fun _ => rfl) hx2 a rfl (by omega) (by decide) dMD_ready_26 (fun H locs w => ?_)
    exact xd_vret C w hr hlk dMD_ready_27 rfl
set_option maxRecDepth 100000 in
set_option maxHeartbeats 4000000 in
theorem cMD_ready_no (l : Launch) (D : va_G) (cA : Nat → ClassId) (tz : Nat) (I : List (Nat × Nat)) (ad : Nat → Nat → Nat) (σ : xMem) (x y : Int32) (hJ : xJ I) (hn : ¬ xp_in x (nI 3)) : xD l yMD_ready bMD_ready 3 none 2 [.ref (ad 20 0), .int x, .int y] D cA tz I ad σ none (xu3 σ 20 0 0 (nI 1)) := by
  refine xd_of (by decide) (by simp [lg_sl, Value.category]) ?_
  intro p e s m args below meth c A ls C hr hlk hml hl w hz
  obtain ⟨hx, hb, hown, hts⟩ := id C
  have hl : lv_has ls 3 [(0, .ref (ad 20 0)), (1, .int x), (2, .int y)] := hl
  refine lv_aload_n hx hb dMD_ready_0 rfl (lv_at hl 0 rfl) ?_
  refine lv_iload_n hx hb dMD_ready_1 rfl (lv_at hl 1 rfl) ?_
  refine lv_iconst (v := nI 3) hx hb dMD_ready_2 xk_i3 ?_
  refine xd_callS C w hz hml hl.1 xk_MD_69 (cMD_isIn l D cA tz I ad (σ) x (nI 3)) rfl rfl (Nat.le_of_ble_eq_true rfl) (by decide) (by decide) dMD_ready_3 (fun H locs w => ?_)
  refine W.eq (g2 := F0 m 6 ls [.int (xb (xp_in x (nI 3))), .ref (ad 20 0)]) rfl ?_
  refine xz_ifeq hx hb dMD_ready_6 rfl (fun hh1 => ?_) (fun hh1 => ?_)
  · skip
    refine lv_iconst (v := nI 1) hx hb dMD_ready_13 xk_i1 ?_
    refine xd_callV C w hz hml hl.1 xk_MD_73 (cMD_refused1 l D cA tz I ad (σ) hJ) (xJ20 hJ) rfl rfl rfl rfl (Nat.le_of_ble_eq_true rfl) (by decide) (by decide) dMD_ready_14 (fun H locs w => ?_)
    refine W.eq (g2 := F0 m 17 ls [.int (nI 1)]) rfl ?_
    refine lv_if_ne hx hb dMD_ready_17 rfl (fun _ => ?_) (fun hq => absurd hq (by decide))
    exact xd_vret C w hr hlk dMD_ready_27 rfl
  · skip
    refine lv_iconst (v := nI 0) hx hb dMD_ready_9 xk_i0 ?_
    refine lv_goto hx hb dMD_ready_10 rfl ?_
    exfalso
    first | contradiction | grind
set_option maxRecDepth 100000 in
set_option maxHeartbeats 4000000 in
theorem cMD_time (l : Launch) (D : va_G) (cA : Nat → ClassId) (tz : Nat) (I : List (Nat × Nat)) (ad : Nat → Nat → Nat) (σ : xMem) (hJ : xJ I) : xD l yMD_time bMD_time 1 (some .int) 1 [.ref (ad 20 0)] D cA tz I ad σ (some (.int (σ 20 0 20))) (xu3 σ 20 0 0 (nI 0)) := by
  refine xd_of (by decide) (by simp [lg_sl, Value.category]) ?_
  intro p e s m args below meth c A ls C hr hlk hml hl w hz
  obtain ⟨hx, hb, hown, hts⟩ := id C
  have hl : lv_has ls 1 [(0, .ref (ad 20 0))] := hl
  refine lv_aload_n hx hb dMD_time_0 rfl (lv_at hl 0 rfl) ?_
  refine lv_iconst (v := nI 0) hx hb dMD_time_1 xk_i0 ?_
  refine xp_MD_66 C w (xJ20 hJ) dMD_time_2 (fun H locs w => ?_)
  refine lv_aload_n hx hb dMD_time_5 rfl (lv_at hl 0 rfl) ?_
  refine xg_MD_98 C w (xJ20 hJ) dMD_time_6 ?_
  refine xn_eq (y := σ 20 0 20) (by simp [xu3, xw_u2, va_up]) ?_
  exact xd_iret C w hr hlk dMD_time_9 (rfl) rfl
set_option maxRecDepth 100000 in
set_option maxHeartbeats 4000000 in
theorem cMD_served (l : Launch) (D : va_G) (cA : Nat → ClassId) (tz : Nat) (I : List (Nat × Nat)) (ad : Nat → Nat → Nat) (σ : xMem) (hJ : xJ I) : xD l yMD_served bMD_served 1 (some .int) 1 [.ref (ad 20 0)] D cA tz I ad σ (some (.int (σ 20 0 21))) (xu3 σ 20 0 0 (nI 0)) := by
  refine xd_of (by decide) (by simp [lg_sl, Value.category]) ?_
  intro p e s m args below meth c A ls C hr hlk hml hl w hz
  obtain ⟨hx, hb, hown, hts⟩ := id C
  have hl : lv_has ls 1 [(0, .ref (ad 20 0))] := hl
  refine lv_aload_n hx hb dMD_served_0 rfl (lv_at hl 0 rfl) ?_
  refine lv_iconst (v := nI 0) hx hb dMD_served_1 xk_i0 ?_
  refine xp_MD_66 C w (xJ20 hJ) dMD_served_2 (fun H locs w => ?_)
  refine lv_aload_n hx hb dMD_served_5 rfl (lv_at hl 0 rfl) ?_
  refine xg_MD_95 C w (xJ20 hJ) dMD_served_6 ?_
  refine xn_eq (y := σ 20 0 21) (by simp [xu3, xw_u2, va_up]) ?_
  exact xd_iret C w hr hlk dMD_served_9 (rfl) rfl
set_option maxRecDepth 100000 in
set_option maxHeartbeats 4000000 in
theorem cMD_thrown (l : Launch) (D : va_G) (cA : Nat → ClassId) (tz : Nat) (I : List (Nat × Nat)) (ad : Nat → Nat → Nat) (σ : xMem) (hJ : xJ I) : xD l yMD_thrown bMD_thrown 1 (some .int) 1 [.ref (ad 20 0)] D cA tz I ad σ (some (.int (σ 20 0 0))) σ := by
  refine xd_of (by decide) (by simp [lg_sl, Value.category]) ?_
  intro p e s m args below meth c A ls C hr hlk hml hl w hz
  obtain ⟨hx, hb, hown, hts⟩ := id C
  have hl : lv_has ls 1 [(0, .ref (ad 20 0))] := hl
  refine lv_aload_n hx hb dMD_thrown_0 rfl (lv_at hl 0 rfl) ?_
  refine xg_MD_66 C w (xJ20 hJ) dMD_thrown_1 ?_
  exact xd_iret C w hr hlk dMD_thrown_4 (rfl) rfl
set_option maxRecDepth 100000 in
set_option maxHeartbeats 4000000 in
theorem cMD_state_ok (l : Launch) (D : va_G) (cA : Nat → ClassId) (tz : Nat) (I : List (Nat × Nat)) (ad : Nat → Nat → Nat) (σ : xMem) (a b : Nat) (hJ : xJ I) (ha : a < 4) (hb4 : b < 4) : xD l yMD_state bMD_state 3 (some .int) 2 [.ref (ad 20 0), .int (nI a), .int (nI b)] D cA tz I ad σ (some (.int (σ 26 0 (4 * a + b)))) (xu3 σ 20 0 0 (nI 0)) := by
  refine xd_of (by decide) (by simp [lg_sl, Value.category]) ?_
  intro p e s m args below meth c A ls C hr hlk hml hl w hz
  obtain ⟨hx, hb, hown, hts⟩ := id C
  have hl : lv_has ls 3 [(0, .ref (ad 20 0)), (1, .int (nI a)), (2, .int (nI b))] := hl
  have hina : xp_in (nI a) (nI 4) := xp_in_n (by omega) (by decide)
  have hinb : xp_in (nI b) (nI 4) := xp_in_n (by omega) (by decide)
  refine lv_aload_n hx hb dMD_state_0 rfl (lv_at hl 0 rfl) ?_
  refine lv_iload_n hx hb dMD_state_1 rfl (lv_at hl 1 rfl) ?_
  refine lv_iconst (v := nI 4) hx hb dMD_state_2 xk_i4 ?_
  refine xd_callS C w hz hml hl.1 xk_MD_69 (cMD_isIn l D cA tz I ad (σ) (nI a) (nI 4)) rfl rfl (Nat.le_of_ble_eq_true rfl) (by decide) (by decide) dMD_state_3 (fun H locs w => ?_)
  refine W.eq (g2 := F0 m 6 ls [.int (xb (xp_in (nI a) (nI 4))), .ref (ad 20 0)]) rfl ?_
  refine xz_ifeq hx hb dMD_state_6 rfl (fun hh1 => ?_) (fun hh1 => ?_)
  · skip
    refine lv_iconst (v := nI 1) hx hb dMD_state_21 xk_i1 ?_
    exfalso
    first | contradiction | grind
  · skip
    refine lv_iload_n hx hb dMD_state_9 rfl (lv_at hl 2 rfl) ?_
    refine lv_iconst (v := nI 4) hx hb dMD_state_10 xk_i4 ?_
    refine xd_callS C w hz hml hl.1 xk_MD_69 (cMD_isIn l D cA tz I ad (σ) (nI b) (nI 4)) rfl rfl (Nat.le_of_ble_eq_true rfl) (by decide) (by decide) dMD_state_11 (fun H locs w => ?_)
    refine W.eq (g2 := F0 m 14 ls [.int (xb (xp_in (nI b) (nI 4))), .ref (ad 20 0)]) rfl ?_
    refine xz_ifeq hx hb dMD_state_14 rfl (fun hh2 => ?_) (fun hh2 => ?_)
    · skip
      refine lv_iconst (v := nI 1) hx hb dMD_state_21 xk_i1 ?_
      exfalso
      first | contradiction | grind
    · skip
      refine lv_iconst (v := nI 0) hx hb dMD_state_17 xk_i0 ?_
      refine lv_goto hx hb dMD_state_18 rfl ?_
      refine xd_callV C w hz hml hl.1 xk_MD_73 (cMD_refused0 l D cA tz I ad (σ) hJ) (xJ20 hJ) rfl rfl rfl rfl (Nat.le_of_ble_eq_true rfl) (by decide) (by decide) dMD_state_22 (fun H locs w => ?_)
      refine W.eq (g2 := F0 m 25 ls [.int (nI 0)]) rfl ?_
      refine lv_if_eq hx hb dMD_state_25 rfl (fun _ => ?_) (fun hq => absurd nI_0 hq)
      refine lv_aload_n hx hb dMD_state_32 rfl (lv_at hl 0 rfl) ?_
      refine xg_MD_26 C w (xJ20 hJ) dMD_state_33 ?_
      refine lv_iconst (v := nI 4) hx hb dMD_state_36 xk_i4 ?_
      refine lv_iload_n hx hb dMD_state_37 rfl (lv_at hl 1 rfl) ?_
      refine xn_mul hx hb dMD_state_38 ?_
      refine lv_iload_n hx hb dMD_state_39 rfl (lv_at hl 2 rfl) ?_
      refine xn_add hx hb dMD_state_40 ?_
      refine xr_iald C w (xJ26 hJ) rfl 0 rfl ((4 * a) + b) rfl (by omega) (by decide) dMD_state_41 ?_
      refine xn_eq (y := σ 26 0 ((4 * a) + b)) (by simp [xu3, xw_u2, va_up]) ?_
      exact xd_iret C w hr hlk dMD_state_42 (rfl) rfl
set_option maxRecDepth 100000 in
set_option maxHeartbeats 4000000 in
theorem cMD_state_no (l : Launch) (D : va_G) (cA : Nat → ClassId) (tz : Nat) (I : List (Nat × Nat)) (ad : Nat → Nat → Nat) (σ : xMem) (x y : Int32) (hJ : xJ I) (hn : ¬ (xp_in x (nI 4) ∧ xp_in y (nI 4))) : xD l yMD_state bMD_state 3 (some .int) 2 [.ref (ad 20 0), .int x, .int y] D cA tz I ad σ (some (.int (nI 0))) (xu3 σ 20 0 0 (nI 1)) := by
  refine xd_of (by decide) (by simp [lg_sl, Value.category]) ?_
  intro p e s m args below meth c A ls C hr hlk hml hl w hz
  obtain ⟨hx, hb, hown, hts⟩ := id C
  have hl : lv_has ls 3 [(0, .ref (ad 20 0)), (1, .int x), (2, .int y)] := hl
  refine lv_aload_n hx hb dMD_state_0 rfl (lv_at hl 0 rfl) ?_
  refine lv_iload_n hx hb dMD_state_1 rfl (lv_at hl 1 rfl) ?_
  refine lv_iconst (v := nI 4) hx hb dMD_state_2 xk_i4 ?_
  refine xd_callS C w hz hml hl.1 xk_MD_69 (cMD_isIn l D cA tz I ad (σ) x (nI 4)) rfl rfl (Nat.le_of_ble_eq_true rfl) (by decide) (by decide) dMD_state_3 (fun H locs w => ?_)
  refine W.eq (g2 := F0 m 6 ls [.int (xb (xp_in x (nI 4))), .ref (ad 20 0)]) rfl ?_
  refine xz_ifeq hx hb dMD_state_6 rfl (fun hh1 => ?_) (fun hh1 => ?_)
  · skip
    refine lv_iconst (v := nI 1) hx hb dMD_state_21 xk_i1 ?_
    refine xd_callV C w hz hml hl.1 xk_MD_73 (cMD_refused1 l D cA tz I ad (σ) hJ) (xJ20 hJ) rfl rfl rfl rfl (Nat.le_of_ble_eq_true rfl) (by decide) (by decide) dMD_state_22 (fun H locs w => ?_)
    refine W.eq (g2 := F0 m 25 ls [.int (nI 1)]) rfl ?_
    refine lv_if_eq hx hb dMD_state_25 rfl (fun hq => absurd hq (by decide)) (fun _ => ?_)
    refine lv_iconst (v := nI 0) hx hb dMD_state_28 xk_i0 ?_
    refine lv_goto hx hb dMD_state_29 rfl ?_
    exact xd_iret C w hr hlk dMD_state_42 (rfl) rfl
  · skip
    refine lv_iload_n hx hb dMD_state_9 rfl (lv_at hl 2 rfl) ?_
    refine lv_iconst (v := nI 4) hx hb dMD_state_10 xk_i4 ?_
    refine xd_callS C w hz hml hl.1 xk_MD_69 (cMD_isIn l D cA tz I ad (σ) y (nI 4)) rfl rfl (Nat.le_of_ble_eq_true rfl) (by decide) (by decide) dMD_state_11 (fun H locs w => ?_)
    refine W.eq (g2 := F0 m 14 ls [.int (xb (xp_in y (nI 4))), .ref (ad 20 0)]) rfl ?_
    refine xz_ifeq hx hb dMD_state_14 rfl (fun hh2 => ?_) (fun hh2 => ?_)
    · skip
      refine lv_iconst (v := nI 1) hx hb dMD_state_21 xk_i1 ?_
      refine xd_callV C w hz hml hl.1 xk_MD_73 (cMD_refused1 l D cA tz I ad (σ) hJ) (xJ20 hJ) rfl rfl rfl rfl (Nat.le_of_ble_eq_true rfl) (by decide) (by decide) dMD_state_22 (fun H locs w => ?_)
      refine W.eq (g2 := F0 m 25 ls [.int (nI 1)]) rfl ?_
      refine lv_if_eq hx hb dMD_state_25 rfl (fun hq => absurd hq (by decide)) (fun _ => ?_)
      refine lv_iconst (v := nI 0) hx hb dMD_state_28 xk_i0 ?_
      refine lv_goto hx hb dMD_state_29 rfl ?_
      exact xd_iret C w hr hlk dMD_state_42 (rfl) rfl
    · skip
      refine lv_iconst (v := nI 0) hx hb dMD_state_17 xk_i0 ?_
      refine lv_goto hx hb dMD_state_18 rfl ?_
      exfalso
      first | contradiction | grind
set_option maxRecDepth 100000 in
set_option maxHeartbeats 4000000 in
theorem cMD_word_ok (l : Launch) (D : va_G) (cA : Nat → ClassId) (tz : Nat) (I : List (Nat × Nat)) (ad : Nat → Nat → Nat) (σ : xMem) (a b i : Nat) (hJ : xJ I) (ha : a < 4) (hb4 : b < 4) (hi4 : i < 4) (hs : σ 26 0 (4 * a + b) = nI 3 ∧ (σ 27 0 (4 * a + b) = 0 ∨ σ 27 0 (4 * a + b) = nI 2) ∧ nI i < σ 29 0 (4 * a + b)) : xD l yMD_word bMD_word 7 (some .int) 2 [.ref (ad 20 0), .int (nI a), .int (nI b), .int (nI i)] D cA tz I ad σ (some (.int (σ 34 0 (4 * (4 * a + b) + i)))) (xu3 σ 20 0 0 (nI 0)) := by
  refine xd_of (by decide) (by simp [lg_sl, Value.category]) ?_
  intro p e s m args below meth c A ls C hr hlk hml hl w hz
  obtain ⟨hx, hb, hown, hts⟩ := id C
  have hl : lv_has ls 7 [(0, .ref (ad 20 0)), (1, .int (nI a)), (2, .int (nI b)), (3, .int (nI i))] := hl
  have hina : xp_in (nI a) (nI 4) := xp_in_n (by omega) (by decide)
  have hinb : xp_in (nI b) (nI 4) := xp_in_n (by omega) (by decide)
  have hini : xp_in (nI i) (nI 4) := xp_in_n (by omega) (by decide)
  have q3 := @Int32.not_lt
  have q4 := @Int32.not_le
  refine lv_iload_n hx hb dMD_word_0 rfl (lv_at hl 1 rfl) ?_
  refine lv_iconst (v := nI 4) hx hb dMD_word_1 xk_i4 ?_
  refine xd_callS C w hz hml hl.1 xk_MD_69 (cMD_isIn l D cA tz I ad (σ) (nI a) (nI 4)) rfl rfl (Nat.le_of_ble_eq_true rfl) (by decide) (by decide) dMD_word_2 (fun H locs w => ?_)
  refine W.eq (g2 := F0 m 5 ls [.int (xb (xp_in (nI a) (nI 4)))]) rfl ?_
  refine xz_ifeq hx hb dMD_word_5 rfl (fun hh1 => ?_) (fun hh1 => ?_)
  · skip
    exfalso
    first | contradiction | grind
  · skip
    refine lv_iload_n hx hb dMD_word_8 rfl (lv_at hl 2 rfl) ?_
    refine lv_iconst (v := nI 4) hx hb dMD_word_9 xk_i4 ?_
    refine xd_callS C w hz hml hl.1 xk_MD_69 (cMD_isIn l D cA tz I ad (σ) (nI b) (nI 4)) rfl rfl (Nat.le_of_ble_eq_true rfl) (by decide) (by decide) dMD_word_10 (fun H locs w => ?_)
    refine W.eq (g2 := F0 m 13 ls [.int (xb (xp_in (nI b) (nI 4)))]) rfl ?_
    refine xz_ifeq hx hb dMD_word_13 rfl (fun hh2 => ?_) (fun hh2 => ?_)
    · skip
      exfalso
      first | contradiction | grind
    · skip
      refine lv_iload_n hx hb dMD_word_16 rfl (lv_at hl 3 rfl) ?_
      refine lv_iconst (v := nI 4) hx hb dMD_word_17 xk_i4 ?_
      refine xd_callS C w hz hml hl.1 xk_MD_69 (cMD_isIn l D cA tz I ad (σ) (nI i) (nI 4)) rfl rfl (Nat.le_of_ble_eq_true rfl) (by decide) (by decide) dMD_word_18 (fun H locs w => ?_)
      refine W.eq (g2 := F0 m 21 ls [.int (xb (xp_in (nI i) (nI 4)))]) rfl ?_
      refine xz_ifeq hx hb dMD_word_21 rfl (fun hh3 => ?_) (fun hh3 => ?_)
      · skip
        exfalso
        first | contradiction | grind
      · skip
        refine lv_iconst (v := nI 1) hx hb dMD_word_24 xk_i1 ?_
        refine lv_goto hx hb dMD_word_25 rfl ?_
        refine lv_istore (lv' := [(4, .int (nI 1)), (0, .ref (ad 20 0)), (1, .int (nI a)), (2, .int (nI b)), (3, .int (nI i))]) hx hb dMD_word_29 hl (by decide) rfl (fun ls hl => ?_)
        refine lv_iload hx hb dMD_word_31 (lv_at hl 0 rfl) ?_
        refine lv_if_eq hx hb dMD_word_33 rfl (fun hq => absurd hq (by decide)) (fun _ => ?_)
        refine lv_iconst (v := nI 4) hx hb dMD_word_36 xk_i4 ?_
        refine lv_iload_n hx hb dMD_word_37 rfl (lv_at hl 2 rfl) ?_
        refine xn_mul hx hb dMD_word_38 ?_
        refine lv_iload_n hx hb dMD_word_39 rfl (lv_at hl 3 rfl) ?_
        refine xn_add hx hb dMD_word_40 ?_
        refine lv_goto hx hb dMD_word_41 rfl ?_
        refine lv_istore (lv' := [(5, .int (nI ((4 * a) + b))), (4, .int (nI 1)), (0, .ref (ad 20 0)), (1, .int (nI a)), (2, .int (nI b)), (3, .int (nI i))]) hx hb dMD_word_45 hl (by decide) rfl (fun ls hl => ?_)
        refine lv_aload_n hx hb dMD_word_47 rfl (lv_at hl 2 rfl) ?_
        refine xg_MD_26 C w (xJ20 hJ) dMD_word_48 ?_
        refine lv_iload hx hb dMD_word_51 (lv_at hl 0 rfl) ?_
        refine xr_iald C w (xJ26 hJ) rfl 0 rfl ((4 * a) + b) rfl (by omega) (by decide) dMD_word_53 ?_
        refine lv_iconst (v := nI 3) hx hb dMD_word_54 xk_i3 ?_
        refine lv_icmp_ne hx hb dMD_word_55 rfl (fun hh4 => ?_) (fun hh4 => ?_)
        · skip
          refine lv_iconst (v := nI 0) hx hb dMD_word_94 xk_i0 ?_
          refine lv_istore (lv' := [(6, .int (nI 0)), (5, .int (nI ((4 * a) + b))), (4, .int (nI 1)), (0, .ref (ad 20 0)), (1, .int (nI a)), (2, .int (nI b)), (3, .int (nI i))]) hx hb dMD_word_95 hl (by decide) rfl (fun ls hl => ?_)
          refine lv_aload_n hx hb dMD_word_97 rfl (lv_at hl 3 rfl) ?_
          refine lv_iload hx hb dMD_word_98 (lv_at hl 2 rfl) ?_
          refine lv_if_ne hx hb dMD_word_100 rfl (fun _ => ?_) (fun hq => absurd hq (by decide))
          refine lv_iload hx hb dMD_word_107 (lv_at hl 0 rfl) ?_
          refine lv_if_ne hx hb dMD_word_109 rfl (fun hq => absurd nI_0 hq) (fun _ => ?_)
          refine lv_iconst (v := nI 2) hx hb dMD_word_112 xk_i2 ?_
          refine lv_goto hx hb dMD_word_113 rfl ?_
          exfalso
          first | contradiction | grind
        · skip
          refine lv_aload_n hx hb dMD_word_58 rfl (lv_at hl 2 rfl) ?_
          refine xg_MD_29 C w (xJ20 hJ) dMD_word_59 ?_
          refine lv_iload hx hb dMD_word_62 (lv_at hl 0 rfl) ?_
          refine xr_iald C w (xJ27 hJ) rfl 0 rfl ((4 * a) + b) rfl (by omega) (by decide) dMD_word_64 ?_
          refine lv_if_eq hx hb dMD_word_65 rfl (fun hh5 => ?_) (fun hh5 => ?_)
          · skip
            refine lv_iload_n hx hb dMD_word_79 rfl (lv_at hl 5 rfl) ?_
            refine lv_aload_n hx hb dMD_word_80 rfl (lv_at hl 2 rfl) ?_
            refine xg_MD_35 C w (xJ20 hJ) dMD_word_81 ?_
            refine lv_iload hx hb dMD_word_84 (lv_at hl 0 rfl) ?_
            refine xr_iald C w (xJ29 hJ) rfl 0 rfl ((4 * a) + b) rfl (by omega) (by decide) dMD_word_86 ?_
            refine lv_icmp_ge hx hb dMD_word_87 rfl (fun hh6 => ?_) (fun hh6 => ?_)
            · skip
              refine lv_iconst (v := nI 0) hx hb dMD_word_94 xk_i0 ?_
              refine lv_istore (lv' := [(6, .int (nI 0)), (5, .int (nI ((4 * a) + b))), (4, .int (nI 1)), (0, .ref (ad 20 0)), (1, .int (nI a)), (2, .int (nI b)), (3, .int (nI i))]) hx hb dMD_word_95 hl (by decide) rfl (fun ls hl => ?_)
              refine lv_aload_n hx hb dMD_word_97 rfl (lv_at hl 3 rfl) ?_
              refine lv_iload hx hb dMD_word_98 (lv_at hl 2 rfl) ?_
              refine lv_if_ne hx hb dMD_word_100 rfl (fun _ => ?_) (fun hq => absurd hq (by decide))
              refine lv_iload hx hb dMD_word_107 (lv_at hl 0 rfl) ?_
              refine lv_if_ne hx hb dMD_word_109 rfl (fun hq => absurd nI_0 hq) (fun _ => ?_)
              refine lv_iconst (v := nI 2) hx hb dMD_word_112 xk_i2 ?_
              refine lv_goto hx hb dMD_word_113 rfl ?_
              exfalso
              first | contradiction | grind
            · skip
              refine lv_iconst (v := nI 1) hx hb dMD_word_90 xk_i1 ?_
              refine lv_goto hx hb dMD_word_91 rfl ?_
              refine lv_istore (lv' := [(6, .int (nI 1)), (5, .int (nI ((4 * a) + b))), (4, .int (nI 1)), (0, .ref (ad 20 0)), (1, .int (nI a)), (2, .int (nI b)), (3, .int (nI i))]) hx hb dMD_word_95 hl (by decide) rfl (fun ls hl => ?_)
              refine lv_aload_n hx hb dMD_word_97 rfl (lv_at hl 3 rfl) ?_
              refine lv_iload hx hb dMD_word_98 (lv_at hl 2 rfl) ?_
              refine lv_if_ne hx hb dMD_word_100 rfl (fun _ => ?_) (fun hq => absurd hq (by decide))
              refine lv_iload hx hb dMD_word_107 (lv_at hl 0 rfl) ?_
              refine lv_if_ne hx hb dMD_word_109 rfl (fun _ => ?_) (fun hq => absurd hq (by decide))
              refine lv_iconst (v := nI 0) hx hb dMD_word_116 xk_i0 ?_
              refine xd_callV C w hz hml hl.1 xk_MD_73 (cMD_refused0 l D cA tz I ad (σ) hJ) (xJ20 hJ) rfl rfl rfl rfl (Nat.le_of_ble_eq_true rfl) (by decide) (by decide) dMD_word_117 (fun H locs w => ?_)
              refine W.eq (g2 := F0 m 120 ls [.int (nI 0)]) rfl ?_
              refine lv_if_eq hx hb dMD_word_120 rfl (fun _ => ?_) (fun hq => absurd nI_0 hq)
              refine lv_aload_n hx hb dMD_word_127 rfl (lv_at hl 3 rfl) ?_
              refine xg_MD_50 C w (xJ20 hJ) dMD_word_128 ?_
              refine lv_iconst (v := nI 4) hx hb dMD_word_131 xk_i4 ?_
              refine lv_iload hx hb dMD_word_132 (lv_at hl 1 rfl) ?_
              refine xn_mul hx hb dMD_word_134 ?_
              refine lv_iload_n hx hb dMD_word_135 rfl (lv_at hl 6 rfl) ?_
              refine xn_add hx hb dMD_word_136 ?_
              refine xr_iald C w (xJ34 hJ) rfl 0 rfl ((4 * ((4 * a) + b)) + i) rfl (by omega) (by decide) dMD_word_137 ?_
              refine xn_eq (y := σ 34 0 ((4 * ((4 * a) + b)) + i)) (by simp [xu3, xw_u2, va_up]) ?_
              exact xd_iret C w hr hlk dMD_word_138 (rfl) rfl
          · skip
            refine lv_aload_n hx hb dMD_word_68 rfl (lv_at hl 2 rfl) ?_
            refine xg_MD_29 C w (xJ20 hJ) dMD_word_69 ?_
            refine lv_iload hx hb dMD_word_72 (lv_at hl 0 rfl) ?_
            refine xr_iald C w (xJ27 hJ) rfl 0 rfl ((4 * a) + b) rfl (by omega) (by decide) dMD_word_74 ?_
            refine lv_iconst (v := nI 2) hx hb dMD_word_75 xk_i2 ?_
            refine lv_icmp_ne hx hb dMD_word_76 rfl (fun hh7 => ?_) (fun hh7 => ?_)
            · skip
              refine lv_iconst (v := nI 0) hx hb dMD_word_94 xk_i0 ?_
              refine lv_istore (lv' := [(6, .int (nI 0)), (5, .int (nI ((4 * a) + b))), (4, .int (nI 1)), (0, .ref (ad 20 0)), (1, .int (nI a)), (2, .int (nI b)), (3, .int (nI i))]) hx hb dMD_word_95 hl (by decide) rfl (fun ls hl => ?_)
              refine lv_aload_n hx hb dMD_word_97 rfl (lv_at hl 3 rfl) ?_
              refine lv_iload hx hb dMD_word_98 (lv_at hl 2 rfl) ?_
              refine lv_if_ne hx hb dMD_word_100 rfl (fun _ => ?_) (fun hq => absurd hq (by decide))
              refine lv_iload hx hb dMD_word_107 (lv_at hl 0 rfl) ?_
              refine lv_if_ne hx hb dMD_word_109 rfl (fun hq => absurd nI_0 hq) (fun _ => ?_)
              refine lv_iconst (v := nI 2) hx hb dMD_word_112 xk_i2 ?_
              refine lv_goto hx hb dMD_word_113 rfl ?_
              exfalso
              first | contradiction | grind
            · skip
              refine lv_iload_n hx hb dMD_word_79 rfl (lv_at hl 5 rfl) ?_
              refine lv_aload_n hx hb dMD_word_80 rfl (lv_at hl 2 rfl) ?_
              refine xg_MD_35 C w (xJ20 hJ) dMD_word_81 ?_
              refine lv_iload hx hb dMD_word_84 (lv_at hl 0 rfl) ?_
              refine xr_iald C w (xJ29 hJ) rfl 0 rfl ((4 * a) + b) rfl (by omega) (by decide) dMD_word_86 ?_
              refine lv_icmp_ge hx hb dMD_word_87 rfl (fun hh8 => ?_) (fun hh8 => ?_)
              · skip
                refine lv_iconst (v := nI 0) hx hb dMD_word_94 xk_i0 ?_
                refine lv_istore (lv' := [(6, .int (nI 0)), (5, .int (nI ((4 * a) + b))), (4, .int (nI 1)), (0, .ref (ad 20 0)), (1, .int (nI a)), (2, .int (nI b)), (3, .int (nI i))]) hx hb dMD_word_95 hl (by decide) rfl (fun ls hl => ?_)
                refine lv_aload_n hx hb dMD_word_97 rfl (lv_at hl 3 rfl) ?_
                refine lv_iload hx hb dMD_word_98 (lv_at hl 2 rfl) ?_
                refine lv_if_ne hx hb dMD_word_100 rfl (fun _ => ?_) (fun hq => absurd hq (by decide))
                refine lv_iload hx hb dMD_word_107 (lv_at hl 0 rfl) ?_
                refine lv_if_ne hx hb dMD_word_109 rfl (fun hq => absurd nI_0 hq) (fun _ => ?_)
                refine lv_iconst (v := nI 2) hx hb dMD_word_112 xk_i2 ?_
                refine lv_goto hx hb dMD_word_113 rfl ?_
                exfalso
                first | contradiction | grind
              · skip
                refine lv_iconst (v := nI 1) hx hb dMD_word_90 xk_i1 ?_
                refine lv_goto hx hb dMD_word_91 rfl ?_
                refine lv_istore (lv' := [(6, .int (nI 1)), (5, .int (nI ((4 * a) + b))), (4, .int (nI 1)), (0, .ref (ad 20 0)), (1, .int (nI a)), (2, .int (nI b)), (3, .int (nI i))]) hx hb dMD_word_95 hl (by decide) rfl (fun ls hl => ?_)
                refine lv_aload_n hx hb dMD_word_97 rfl (lv_at hl 3 rfl) ?_
                refine lv_iload hx hb dMD_word_98 (lv_at hl 2 rfl) ?_
                refine lv_if_ne hx hb dMD_word_100 rfl (fun _ => ?_) (fun hq => absurd hq (by decide))
                refine lv_iload hx hb dMD_word_107 (lv_at hl 0 rfl) ?_
                refine lv_if_ne hx hb dMD_word_109 rfl (fun _ => ?_) (fun hq => absurd hq (by decide))
                refine lv_iconst (v := nI 0) hx hb dMD_word_116 xk_i0 ?_
                refine xd_callV C w hz hml hl.1 xk_MD_73 (cMD_refused0 l D cA tz I ad (σ) hJ) (xJ20 hJ) rfl rfl rfl rfl (Nat.le_of_ble_eq_true rfl) (by decide) (by decide) dMD_word_117 (fun H locs w => ?_)
                refine W.eq (g2 := F0 m 120 ls [.int (nI 0)]) rfl ?_
                refine lv_if_eq hx hb dMD_word_120 rfl (fun _ => ?_) (fun hq => absurd nI_0 hq)
                refine lv_aload_n hx hb dMD_word_127 rfl (lv_at hl 3 rfl) ?_
                refine xg_MD_50 C w (xJ20 hJ) dMD_word_128 ?_
                refine lv_iconst (v := nI 4) hx hb dMD_word_131 xk_i4 ?_
                refine lv_iload hx hb dMD_word_132 (lv_at hl 1 rfl) ?_
                refine xn_mul hx hb dMD_word_134 ?_
                refine lv_iload_n hx hb dMD_word_135 rfl (lv_at hl 6 rfl) ?_
                refine xn_add hx hb dMD_word_136 ?_
                refine xr_iald C w (xJ34 hJ) rfl 0 rfl ((4 * ((4 * a) + b)) + i) rfl (by omega) (by decide) dMD_word_137 ?_
                refine xn_eq (y := σ 34 0 ((4 * ((4 * a) + b)) + i)) (by simp [xu3, xw_u2, va_up]) ?_
                exact xd_iret C w hr hlk dMD_word_138 (rfl) rfl
set_option maxRecDepth 100000 in
set_option maxHeartbeats 4000000 in
theorem cMD_word_no2 (l : Launch) (D : va_G) (cA : Nat → ClassId) (tz : Nat) (I : List (Nat × Nat)) (ad : Nat → Nat → Nat) (σ : xMem) (a b i : Nat) (hJ : xJ I) (ha : a < 4) (hb4 : b < 4) (hi4 : i < 4) (hs : ¬ (σ 26 0 (4 * a + b) = nI 3 ∧ (σ 27 0 (4 * a + b) = 0 ∨ σ 27 0 (4 * a + b) = nI 2) ∧ nI i < σ 29 0 (4 * a + b))) : xD l yMD_word bMD_word 7 (some .int) 2 [.ref (ad 20 0), .int (nI a), .int (nI b), .int (nI i)] D cA tz I ad σ (some (.int (nI 0))) (xu3 σ 20 0 0 (nI 2)) := by
  refine xd_of (by decide) (by simp [lg_sl, Value.category]) ?_
  intro p e s m args below meth c A ls C hr hlk hml hl w hz
  obtain ⟨hx, hb, hown, hts⟩ := id C
  have hl : lv_has ls 7 [(0, .ref (ad 20 0)), (1, .int (nI a)), (2, .int (nI b)), (3, .int (nI i))] := hl
  have hina : xp_in (nI a) (nI 4) := xp_in_n (by omega) (by decide)
  have hinb : xp_in (nI b) (nI 4) := xp_in_n (by omega) (by decide)
  have hini : xp_in (nI i) (nI 4) := xp_in_n (by omega) (by decide)
  have q3 := @Int32.not_lt
  have q4 := @Int32.not_le
  refine lv_iload_n hx hb dMD_word_0 rfl (lv_at hl 1 rfl) ?_
  refine lv_iconst (v := nI 4) hx hb dMD_word_1 xk_i4 ?_
  refine xd_callS C w hz hml hl.1 xk_MD_69 (cMD_isIn l D cA tz I ad (σ) (nI a) (nI 4)) rfl rfl (Nat.le_of_ble_eq_true rfl) (by decide) (by decide) dMD_word_2 (fun H locs w => ?_)
  refine W.eq (g2 := F0 m 5 ls [.int (xb (xp_in (nI a) (nI 4)))]) rfl ?_
  refine xz_ifeq hx hb dMD_word_5 rfl (fun hh1 => ?_) (fun hh1 => ?_)
  · skip
    exfalso
    first | contradiction | grind
  · skip
    refine lv_iload_n hx hb dMD_word_8 rfl (lv_at hl 2 rfl) ?_
    refine lv_iconst (v := nI 4) hx hb dMD_word_9 xk_i4 ?_
    refine xd_callS C w hz hml hl.1 xk_MD_69 (cMD_isIn l D cA tz I ad (σ) (nI b) (nI 4)) rfl rfl (Nat.le_of_ble_eq_true rfl) (by decide) (by decide) dMD_word_10 (fun H locs w => ?_)
    refine W.eq (g2 := F0 m 13 ls [.int (xb (xp_in (nI b) (nI 4)))]) rfl ?_
    refine xz_ifeq hx hb dMD_word_13 rfl (fun hh2 => ?_) (fun hh2 => ?_)
    · skip
      exfalso
      first | contradiction | grind
    · skip
      refine lv_iload_n hx hb dMD_word_16 rfl (lv_at hl 3 rfl) ?_
      refine lv_iconst (v := nI 4) hx hb dMD_word_17 xk_i4 ?_
      refine xd_callS C w hz hml hl.1 xk_MD_69 (cMD_isIn l D cA tz I ad (σ) (nI i) (nI 4)) rfl rfl (Nat.le_of_ble_eq_true rfl) (by decide) (by decide) dMD_word_18 (fun H locs w => ?_)
      refine W.eq (g2 := F0 m 21 ls [.int (xb (xp_in (nI i) (nI 4)))]) rfl ?_
      refine xz_ifeq hx hb dMD_word_21 rfl (fun hh3 => ?_) (fun hh3 => ?_)
      · skip
        exfalso
        first | contradiction | grind
      · skip
        refine lv_iconst (v := nI 1) hx hb dMD_word_24 xk_i1 ?_
        refine lv_goto hx hb dMD_word_25 rfl ?_
        refine lv_istore (lv' := [(4, .int (nI 1)), (0, .ref (ad 20 0)), (1, .int (nI a)), (2, .int (nI b)), (3, .int (nI i))]) hx hb dMD_word_29 hl (by decide) rfl (fun ls hl => ?_)
        refine lv_iload hx hb dMD_word_31 (lv_at hl 0 rfl) ?_
        refine lv_if_eq hx hb dMD_word_33 rfl (fun hq => absurd hq (by decide)) (fun _ => ?_)
        refine lv_iconst (v := nI 4) hx hb dMD_word_36 xk_i4 ?_
        refine lv_iload_n hx hb dMD_word_37 rfl (lv_at hl 2 rfl) ?_
        refine xn_mul hx hb dMD_word_38 ?_
        refine lv_iload_n hx hb dMD_word_39 rfl (lv_at hl 3 rfl) ?_
        refine xn_add hx hb dMD_word_40 ?_
        refine lv_goto hx hb dMD_word_41 rfl ?_
        refine lv_istore (lv' := [(5, .int (nI ((4 * a) + b))), (4, .int (nI 1)), (0, .ref (ad 20 0)), (1, .int (nI a)), (2, .int (nI b)), (3, .int (nI i))]) hx hb dMD_word_45 hl (by decide) rfl (fun ls hl => ?_)
        refine lv_aload_n hx hb dMD_word_47 rfl (lv_at hl 2 rfl) ?_
        refine xg_MD_26 C w (xJ20 hJ) dMD_word_48 ?_
        refine lv_iload hx hb dMD_word_51 (lv_at hl 0 rfl) ?_
        refine xr_iald C w (xJ26 hJ) rfl 0 rfl ((4 * a) + b) rfl (by omega) (by decide) dMD_word_53 ?_
        refine lv_iconst (v := nI 3) hx hb dMD_word_54 xk_i3 ?_
        refine lv_icmp_ne hx hb dMD_word_55 rfl (fun hh4 => ?_) (fun hh4 => ?_)
        · skip
          refine lv_iconst (v := nI 0) hx hb dMD_word_94 xk_i0 ?_
          refine lv_istore (lv' := [(6, .int (nI 0)), (5, .int (nI ((4 * a) + b))), (4, .int (nI 1)), (0, .ref (ad 20 0)), (1, .int (nI a)), (2, .int (nI b)), (3, .int (nI i))]) hx hb dMD_word_95 hl (by decide) rfl (fun ls hl => ?_)
          refine lv_aload_n hx hb dMD_word_97 rfl (lv_at hl 3 rfl) ?_
          refine lv_iload hx hb dMD_word_98 (lv_at hl 2 rfl) ?_
          refine lv_if_ne hx hb dMD_word_100 rfl (fun _ => ?_) (fun hq => absurd hq (by decide))
          refine lv_iload hx hb dMD_word_107 (lv_at hl 0 rfl) ?_
          refine lv_if_ne hx hb dMD_word_109 rfl (fun hq => absurd nI_0 hq) (fun _ => ?_)
          refine lv_iconst (v := nI 2) hx hb dMD_word_112 xk_i2 ?_
          refine lv_goto hx hb dMD_word_113 rfl ?_
          refine xd_callV C w hz hml hl.1 xk_MD_73 (cMD_refused2 l D cA tz I ad (σ) hJ) (xJ20 hJ) rfl rfl rfl rfl (Nat.le_of_ble_eq_true rfl) (by decide) (by decide) dMD_word_117 (fun H locs w => ?_)
          refine W.eq (g2 := F0 m 120 ls [.int (nI 1)]) rfl ?_
          refine lv_if_eq hx hb dMD_word_120 rfl (fun hq => absurd hq (by decide)) (fun _ => ?_)
          refine lv_iconst (v := nI 0) hx hb dMD_word_123 xk_i0 ?_
          refine lv_goto hx hb dMD_word_124 rfl ?_
          exact xd_iret C w hr hlk dMD_word_138 (rfl) rfl
        · skip
          refine lv_aload_n hx hb dMD_word_58 rfl (lv_at hl 2 rfl) ?_
          refine xg_MD_29 C w (xJ20 hJ) dMD_word_59 ?_
          refine lv_iload hx hb dMD_word_62 (lv_at hl 0 rfl) ?_
          refine xr_iald C w (xJ27 hJ) rfl 0 rfl ((4 * a) + b) rfl (by omega) (by decide) dMD_word_64 ?_
          refine lv_if_eq hx hb dMD_word_65 rfl (fun hh5 => ?_) (fun hh5 => ?_)
          · skip
            refine lv_iload_n hx hb dMD_word_79 rfl (lv_at hl 5 rfl) ?_
            refine lv_aload_n hx hb dMD_word_80 rfl (lv_at hl 2 rfl) ?_
            refine xg_MD_35 C w (xJ20 hJ) dMD_word_81 ?_
            refine lv_iload hx hb dMD_word_84 (lv_at hl 0 rfl) ?_
            refine xr_iald C w (xJ29 hJ) rfl 0 rfl ((4 * a) + b) rfl (by omega) (by decide) dMD_word_86 ?_
            refine lv_icmp_ge hx hb dMD_word_87 rfl (fun hh6 => ?_) (fun hh6 => ?_)
            · skip
              refine lv_iconst (v := nI 0) hx hb dMD_word_94 xk_i0 ?_
              refine lv_istore (lv' := [(6, .int (nI 0)), (5, .int (nI ((4 * a) + b))), (4, .int (nI 1)), (0, .ref (ad 20 0)), (1, .int (nI a)), (2, .int (nI b)), (3, .int (nI i))]) hx hb dMD_word_95 hl (by decide) rfl (fun ls hl => ?_)
              refine lv_aload_n hx hb dMD_word_97 rfl (lv_at hl 3 rfl) ?_
              refine lv_iload hx hb dMD_word_98 (lv_at hl 2 rfl) ?_
              refine lv_if_ne hx hb dMD_word_100 rfl (fun _ => ?_) (fun hq => absurd hq (by decide))
              refine lv_iload hx hb dMD_word_107 (lv_at hl 0 rfl) ?_
              refine lv_if_ne hx hb dMD_word_109 rfl (fun hq => absurd nI_0 hq) (fun _ => ?_)
              refine lv_iconst (v := nI 2) hx hb dMD_word_112 xk_i2 ?_
              refine lv_goto hx hb dMD_word_113 rfl ?_
              refine xd_callV C w hz hml hl.1 xk_MD_73 (cMD_refused2 l D cA tz I ad (σ) hJ) (xJ20 hJ) rfl rfl rfl rfl (Nat.le_of_ble_eq_true rfl) (by decide) (by decide) dMD_word_117 (fun H locs w => ?_)
              refine W.eq (g2 := F0 m 120 ls [.int (nI 1)]) rfl ?_
              refine lv_if_eq hx hb dMD_word_120 rfl (fun hq => absurd hq (by decide)) (fun _ => ?_)
              refine lv_iconst (v := nI 0) hx hb dMD_word_123 xk_i0 ?_
              refine lv_goto hx hb dMD_word_124 rfl ?_
              exact xd_iret C w hr hlk dMD_word_138 (rfl) rfl
            · skip
              refine lv_iconst (v := nI 1) hx hb dMD_word_90 xk_i1 ?_
              refine lv_goto hx hb dMD_word_91 rfl ?_
              refine lv_istore (lv' := [(6, .int (nI 1)), (5, .int (nI ((4 * a) + b))), (4, .int (nI 1)), (0, .ref (ad 20 0)), (1, .int (nI a)), (2, .int (nI b)), (3, .int (nI i))]) hx hb dMD_word_95 hl (by decide) rfl (fun ls hl => ?_)
              refine lv_aload_n hx hb dMD_word_97 rfl (lv_at hl 3 rfl) ?_
              refine lv_iload hx hb dMD_word_98 (lv_at hl 2 rfl) ?_
              refine lv_if_ne hx hb dMD_word_100 rfl (fun _ => ?_) (fun hq => absurd hq (by decide))
              refine lv_iload hx hb dMD_word_107 (lv_at hl 0 rfl) ?_
              refine lv_if_ne hx hb dMD_word_109 rfl (fun _ => ?_) (fun hq => absurd hq (by decide))
              refine lv_iconst (v := nI 0) hx hb dMD_word_116 xk_i0 ?_
              exfalso
              first | contradiction | grind
          · skip
            refine lv_aload_n hx hb dMD_word_68 rfl (lv_at hl 2 rfl) ?_
            refine xg_MD_29 C w (xJ20 hJ) dMD_word_69 ?_
            refine lv_iload hx hb dMD_word_72 (lv_at hl 0 rfl) ?_
            refine xr_iald C w (xJ27 hJ) rfl 0 rfl ((4 * a) + b) rfl (by omega) (by decide) dMD_word_74 ?_
            refine lv_iconst (v := nI 2) hx hb dMD_word_75 xk_i2 ?_
            refine lv_icmp_ne hx hb dMD_word_76 rfl (fun hh7 => ?_) (fun hh7 => ?_)
            · skip
              refine lv_iconst (v := nI 0) hx hb dMD_word_94 xk_i0 ?_
              refine lv_istore (lv' := [(6, .int (nI 0)), (5, .int (nI ((4 * a) + b))), (4, .int (nI 1)), (0, .ref (ad 20 0)), (1, .int (nI a)), (2, .int (nI b)), (3, .int (nI i))]) hx hb dMD_word_95 hl (by decide) rfl (fun ls hl => ?_)
              refine lv_aload_n hx hb dMD_word_97 rfl (lv_at hl 3 rfl) ?_
              refine lv_iload hx hb dMD_word_98 (lv_at hl 2 rfl) ?_
              refine lv_if_ne hx hb dMD_word_100 rfl (fun _ => ?_) (fun hq => absurd hq (by decide))
              refine lv_iload hx hb dMD_word_107 (lv_at hl 0 rfl) ?_
              refine lv_if_ne hx hb dMD_word_109 rfl (fun hq => absurd nI_0 hq) (fun _ => ?_)
              refine lv_iconst (v := nI 2) hx hb dMD_word_112 xk_i2 ?_
              refine lv_goto hx hb dMD_word_113 rfl ?_
              refine xd_callV C w hz hml hl.1 xk_MD_73 (cMD_refused2 l D cA tz I ad (σ) hJ) (xJ20 hJ) rfl rfl rfl rfl (Nat.le_of_ble_eq_true rfl) (by decide) (by decide) dMD_word_117 (fun H locs w => ?_)
              refine W.eq (g2 := F0 m 120 ls [.int (nI 1)]) rfl ?_
              refine lv_if_eq hx hb dMD_word_120 rfl (fun hq => absurd hq (by decide)) (fun _ => ?_)
              refine lv_iconst (v := nI 0) hx hb dMD_word_123 xk_i0 ?_
              refine lv_goto hx hb dMD_word_124 rfl ?_
              exact xd_iret C w hr hlk dMD_word_138 (rfl) rfl
            · skip
              refine lv_iload_n hx hb dMD_word_79 rfl (lv_at hl 5 rfl) ?_
              refine lv_aload_n hx hb dMD_word_80 rfl (lv_at hl 2 rfl) ?_
              refine xg_MD_35 C w (xJ20 hJ) dMD_word_81 ?_
              refine lv_iload hx hb dMD_word_84 (lv_at hl 0 rfl) ?_
              refine xr_iald C w (xJ29 hJ) rfl 0 rfl ((4 * a) + b) rfl (by omega) (by decide) dMD_word_86 ?_
              refine lv_icmp_ge hx hb dMD_word_87 rfl (fun hh8 => ?_) (fun hh8 => ?_)
              · skip
                refine lv_iconst (v := nI 0) hx hb dMD_word_94 xk_i0 ?_
                refine lv_istore (lv' := [(6, .int (nI 0)), (5, .int (nI ((4 * a) + b))), (4, .int (nI 1)), (0, .ref (ad 20 0)), (1, .int (nI a)), (2, .int (nI b)), (3, .int (nI i))]) hx hb dMD_word_95 hl (by decide) rfl (fun ls hl => ?_)
                refine lv_aload_n hx hb dMD_word_97 rfl (lv_at hl 3 rfl) ?_
                refine lv_iload hx hb dMD_word_98 (lv_at hl 2 rfl) ?_
                refine lv_if_ne hx hb dMD_word_100 rfl (fun _ => ?_) (fun hq => absurd hq (by decide))
                refine lv_iload hx hb dMD_word_107 (lv_at hl 0 rfl) ?_
                refine lv_if_ne hx hb dMD_word_109 rfl (fun hq => absurd nI_0 hq) (fun _ => ?_)
                refine lv_iconst (v := nI 2) hx hb dMD_word_112 xk_i2 ?_
                refine lv_goto hx hb dMD_word_113 rfl ?_
                refine xd_callV C w hz hml hl.1 xk_MD_73 (cMD_refused2 l D cA tz I ad (σ) hJ) (xJ20 hJ) rfl rfl rfl rfl (Nat.le_of_ble_eq_true rfl) (by decide) (by decide) dMD_word_117 (fun H locs w => ?_)
                refine W.eq (g2 := F0 m 120 ls [.int (nI 1)]) rfl ?_
                refine lv_if_eq hx hb dMD_word_120 rfl (fun hq => absurd hq (by decide)) (fun _ => ?_)
                refine lv_iconst (v := nI 0) hx hb dMD_word_123 xk_i0 ?_
                refine lv_goto hx hb dMD_word_124 rfl ?_
                exact xd_iret C w hr hlk dMD_word_138 (rfl) rfl
              · skip
                refine lv_iconst (v := nI 1) hx hb dMD_word_90 xk_i1 ?_
                refine lv_goto hx hb dMD_word_91 rfl ?_
                refine lv_istore (lv' := [(6, .int (nI 1)), (5, .int (nI ((4 * a) + b))), (4, .int (nI 1)), (0, .ref (ad 20 0)), (1, .int (nI a)), (2, .int (nI b)), (3, .int (nI i))]) hx hb dMD_word_95 hl (by decide) rfl (fun ls hl => ?_)
                refine lv_aload_n hx hb dMD_word_97 rfl (lv_at hl 3 rfl) ?_
                refine lv_iload hx hb dMD_word_98 (lv_at hl 2 rfl) ?_
                refine lv_if_ne hx hb dMD_word_100 rfl (fun _ => ?_) (fun hq => absurd hq (by decide))
                refine lv_iload hx hb dMD_word_107 (lv_at hl 0 rfl) ?_
                refine lv_if_ne hx hb dMD_word_109 rfl (fun _ => ?_) (fun hq => absurd hq (by decide))
                refine lv_iconst (v := nI 0) hx hb dMD_word_116 xk_i0 ?_
                exfalso
                first | contradiction | grind
set_option maxRecDepth 100000 in
set_option maxHeartbeats 4000000 in
theorem cMD_word_no (l : Launch) (D : va_G) (cA : Nat → ClassId) (tz : Nat) (I : List (Nat × Nat)) (ad : Nat → Nat → Nat) (σ : xMem) (x y z : Int32) (hJ : xJ I) (hn : ¬ (xp_in x (nI 4) ∧ xp_in y (nI 4) ∧ xp_in z (nI 4))) : xD l yMD_word bMD_word 7 (some .int) 2 [.ref (ad 20 0), .int x, .int y, .int z] D cA tz I ad σ (some (.int (nI 0))) (xu3 σ 20 0 0 (nI 1)) := by
  refine xd_of (by decide) (by simp [lg_sl, Value.category]) ?_
  intro p e s m args below meth c A ls C hr hlk hml hl w hz
  obtain ⟨hx, hb, hown, hts⟩ := id C
  have hl : lv_has ls 7 [(0, .ref (ad 20 0)), (1, .int x), (2, .int y), (3, .int z)] := hl
  refine lv_iload_n hx hb dMD_word_0 rfl (lv_at hl 1 rfl) ?_
  refine lv_iconst (v := nI 4) hx hb dMD_word_1 xk_i4 ?_
  refine xd_callS C w hz hml hl.1 xk_MD_69 (cMD_isIn l D cA tz I ad (σ) x (nI 4)) rfl rfl (Nat.le_of_ble_eq_true rfl) (by decide) (by decide) dMD_word_2 (fun H locs w => ?_)
  refine W.eq (g2 := F0 m 5 ls [.int (xb (xp_in x (nI 4)))]) rfl ?_
  refine xz_ifeq hx hb dMD_word_5 rfl (fun hh1 => ?_) (fun hh1 => ?_)
  · skip
    refine lv_iconst (v := nI 0) hx hb dMD_word_28 xk_i0 ?_
    refine lv_istore (lv' := [(4, .int (nI 0)), (0, .ref (ad 20 0)), (1, .int x), (2, .int y), (3, .int z)]) hx hb dMD_word_29 hl (by decide) rfl (fun ls hl => ?_)
    refine lv_iload hx hb dMD_word_31 (lv_at hl 0 rfl) ?_
    refine lv_if_eq hx hb dMD_word_33 rfl (fun _ => ?_) (fun hq => absurd nI_0 hq)
    refine lv_iconst (v := nI 0) hx hb dMD_word_44 xk_i0 ?_
    refine lv_istore (lv' := [(5, .int (nI 0)), (4, .int (nI 0)), (0, .ref (ad 20 0)), (1, .int x), (2, .int y), (3, .int z)]) hx hb dMD_word_45 hl (by decide) rfl (fun ls hl => ?_)
    refine lv_aload_n hx hb dMD_word_47 rfl (lv_at hl 2 rfl) ?_
    refine xg_MD_26 C w (xJ20 hJ) dMD_word_48 ?_
    refine lv_iload hx hb dMD_word_51 (lv_at hl 0 rfl) ?_
    refine xr_iald C w (xJ26 hJ) rfl 0 rfl 0 rfl (by omega) (by decide) dMD_word_53 ?_
    refine lv_iconst (v := nI 3) hx hb dMD_word_54 xk_i3 ?_
    refine lv_icmp_ne hx hb dMD_word_55 rfl (fun hh2 => ?_) (fun hh2 => ?_)
    · skip
      refine lv_iconst (v := nI 0) hx hb dMD_word_94 xk_i0 ?_
      refine lv_istore (lv' := [(6, .int (nI 0)), (5, .int (nI 0)), (4, .int (nI 0)), (0, .ref (ad 20 0)), (1, .int x), (2, .int y), (3, .int z)]) hx hb dMD_word_95 hl (by decide) rfl (fun ls hl => ?_)
      refine lv_aload_n hx hb dMD_word_97 rfl (lv_at hl 3 rfl) ?_
      refine lv_iload hx hb dMD_word_98 (lv_at hl 2 rfl) ?_
      refine lv_if_ne hx hb dMD_word_100 rfl (fun hq => absurd nI_0 hq) (fun _ => ?_)
      refine lv_iconst (v := nI 1) hx hb dMD_word_103 xk_i1 ?_
      refine lv_goto hx hb dMD_word_104 rfl ?_
      refine xd_callV C w hz hml hl.1 xk_MD_73 (cMD_refused1 l D cA tz I ad (σ) hJ) (xJ20 hJ) rfl rfl rfl rfl (Nat.le_of_ble_eq_true rfl) (by decide) (by decide) dMD_word_117 (fun H locs w => ?_)
      refine W.eq (g2 := F0 m 120 ls [.int (nI 1)]) rfl ?_
      refine lv_if_eq hx hb dMD_word_120 rfl (fun hq => absurd hq (by decide)) (fun _ => ?_)
      refine lv_iconst (v := nI 0) hx hb dMD_word_123 xk_i0 ?_
      refine lv_goto hx hb dMD_word_124 rfl ?_
      exact xd_iret C w hr hlk dMD_word_138 (rfl) rfl
    · skip
      refine lv_aload_n hx hb dMD_word_58 rfl (lv_at hl 2 rfl) ?_
      refine xg_MD_29 C w (xJ20 hJ) dMD_word_59 ?_
      refine lv_iload hx hb dMD_word_62 (lv_at hl 0 rfl) ?_
      refine xr_iald C w (xJ27 hJ) rfl 0 rfl 0 rfl (by omega) (by decide) dMD_word_64 ?_
      refine lv_if_eq hx hb dMD_word_65 rfl (fun hh3 => ?_) (fun hh3 => ?_)
      · skip
        refine lv_iload_n hx hb dMD_word_79 rfl (lv_at hl 5 rfl) ?_
        refine lv_aload_n hx hb dMD_word_80 rfl (lv_at hl 2 rfl) ?_
        refine xg_MD_35 C w (xJ20 hJ) dMD_word_81 ?_
        refine lv_iload hx hb dMD_word_84 (lv_at hl 0 rfl) ?_
        refine xr_iald C w (xJ29 hJ) rfl 0 rfl 0 rfl (by omega) (by decide) dMD_word_86 ?_
        refine lv_icmp_ge hx hb dMD_word_87 rfl (fun hh4 => ?_) (fun hh4 => ?_)
        · skip
          refine lv_iconst (v := nI 0) hx hb dMD_word_94 xk_i0 ?_
          refine lv_istore (lv' := [(6, .int (nI 0)), (5, .int (nI 0)), (4, .int (nI 0)), (0, .ref (ad 20 0)), (1, .int x), (2, .int y), (3, .int z)]) hx hb dMD_word_95 hl (by decide) rfl (fun ls hl => ?_)
          refine lv_aload_n hx hb dMD_word_97 rfl (lv_at hl 3 rfl) ?_
          refine lv_iload hx hb dMD_word_98 (lv_at hl 2 rfl) ?_
          refine lv_if_ne hx hb dMD_word_100 rfl (fun hq => absurd nI_0 hq) (fun _ => ?_)
          refine lv_iconst (v := nI 1) hx hb dMD_word_103 xk_i1 ?_
          refine lv_goto hx hb dMD_word_104 rfl ?_
          refine xd_callV C w hz hml hl.1 xk_MD_73 (cMD_refused1 l D cA tz I ad (σ) hJ) (xJ20 hJ) rfl rfl rfl rfl (Nat.le_of_ble_eq_true rfl) (by decide) (by decide) dMD_word_117 (fun H locs w => ?_)
          refine W.eq (g2 := F0 m 120 ls [.int (nI 1)]) rfl ?_
          refine lv_if_eq hx hb dMD_word_120 rfl (fun hq => absurd hq (by decide)) (fun _ => ?_)
          refine lv_iconst (v := nI 0) hx hb dMD_word_123 xk_i0 ?_
          refine lv_goto hx hb dMD_word_124 rfl ?_
          exact xd_iret C w hr hlk dMD_word_138 (rfl) rfl
        · skip
          refine lv_iconst (v := nI 1) hx hb dMD_word_90 xk_i1 ?_
          refine lv_goto hx hb dMD_word_91 rfl ?_
          refine lv_istore (lv' := [(6, .int (nI 1)), (5, .int (nI 0)), (4, .int (nI 0)), (0, .ref (ad 20 0)), (1, .int x), (2, .int y), (3, .int z)]) hx hb dMD_word_95 hl (by decide) rfl (fun ls hl => ?_)
          refine lv_aload_n hx hb dMD_word_97 rfl (lv_at hl 3 rfl) ?_
          refine lv_iload hx hb dMD_word_98 (lv_at hl 2 rfl) ?_
          refine lv_if_ne hx hb dMD_word_100 rfl (fun hq => absurd nI_0 hq) (fun _ => ?_)
          refine lv_iconst (v := nI 1) hx hb dMD_word_103 xk_i1 ?_
          refine lv_goto hx hb dMD_word_104 rfl ?_
          refine xd_callV C w hz hml hl.1 xk_MD_73 (cMD_refused1 l D cA tz I ad (σ) hJ) (xJ20 hJ) rfl rfl rfl rfl (Nat.le_of_ble_eq_true rfl) (by decide) (by decide) dMD_word_117 (fun H locs w => ?_)
          refine W.eq (g2 := F0 m 120 ls [.int (nI 1)]) rfl ?_
          refine lv_if_eq hx hb dMD_word_120 rfl (fun hq => absurd hq (by decide)) (fun _ => ?_)
          refine lv_iconst (v := nI 0) hx hb dMD_word_123 xk_i0 ?_
          refine lv_goto hx hb dMD_word_124 rfl ?_
          exact xd_iret C w hr hlk dMD_word_138 (rfl) rfl
      · skip
        refine lv_aload_n hx hb dMD_word_68 rfl (lv_at hl 2 rfl) ?_
        refine xg_MD_29 C w (xJ20 hJ) dMD_word_69 ?_
        refine lv_iload hx hb dMD_word_72 (lv_at hl 0 rfl) ?_
        refine xr_iald C w (xJ27 hJ) rfl 0 rfl 0 rfl (by omega) (by decide) dMD_word_74 ?_
        refine lv_iconst (v := nI 2) hx hb dMD_word_75 xk_i2 ?_
        refine lv_icmp_ne hx hb dMD_word_76 rfl (fun hh5 => ?_) (fun hh5 => ?_)
        · skip
          refine lv_iconst (v := nI 0) hx hb dMD_word_94 xk_i0 ?_
          refine lv_istore (lv' := [(6, .int (nI 0)), (5, .int (nI 0)), (4, .int (nI 0)), (0, .ref (ad 20 0)), (1, .int x), (2, .int y), (3, .int z)]) hx hb dMD_word_95 hl (by decide) rfl (fun ls hl => ?_)
          refine lv_aload_n hx hb dMD_word_97 rfl (lv_at hl 3 rfl) ?_
          refine lv_iload hx hb dMD_word_98 (lv_at hl 2 rfl) ?_
          refine lv_if_ne hx hb dMD_word_100 rfl (fun hq => absurd nI_0 hq) (fun _ => ?_)
          refine lv_iconst (v := nI 1) hx hb dMD_word_103 xk_i1 ?_
          refine lv_goto hx hb dMD_word_104 rfl ?_
          refine xd_callV C w hz hml hl.1 xk_MD_73 (cMD_refused1 l D cA tz I ad (σ) hJ) (xJ20 hJ) rfl rfl rfl rfl (Nat.le_of_ble_eq_true rfl) (by decide) (by decide) dMD_word_117 (fun H locs w => ?_)
          refine W.eq (g2 := F0 m 120 ls [.int (nI 1)]) rfl ?_
          refine lv_if_eq hx hb dMD_word_120 rfl (fun hq => absurd hq (by decide)) (fun _ => ?_)
          refine lv_iconst (v := nI 0) hx hb dMD_word_123 xk_i0 ?_
          refine lv_goto hx hb dMD_word_124 rfl ?_
          exact xd_iret C w hr hlk dMD_word_138 (rfl) rfl
        · skip
          refine lv_iload_n hx hb dMD_word_79 rfl (lv_at hl 5 rfl) ?_
          refine lv_aload_n hx hb dMD_word_80 rfl (lv_at hl 2 rfl) ?_
          refine xg_MD_35 C w (xJ20 hJ) dMD_word_81 ?_
          refine lv_iload hx hb dMD_word_84 (lv_at hl 0 rfl) ?_
          refine xr_iald C w (xJ29 hJ) rfl 0 rfl 0 rfl (by omega) (by decide) dMD_word_86 ?_
          refine lv_icmp_ge hx hb dMD_word_87 rfl (fun hh6 => ?_) (fun hh6 => ?_)
          · skip
            refine lv_iconst (v := nI 0) hx hb dMD_word_94 xk_i0 ?_
            refine lv_istore (lv' := [(6, .int (nI 0)), (5, .int (nI 0)), (4, .int (nI 0)), (0, .ref (ad 20 0)), (1, .int x), (2, .int y), (3, .int z)]) hx hb dMD_word_95 hl (by decide) rfl (fun ls hl => ?_)
            refine lv_aload_n hx hb dMD_word_97 rfl (lv_at hl 3 rfl) ?_
            refine lv_iload hx hb dMD_word_98 (lv_at hl 2 rfl) ?_
            refine lv_if_ne hx hb dMD_word_100 rfl (fun hq => absurd nI_0 hq) (fun _ => ?_)
            refine lv_iconst (v := nI 1) hx hb dMD_word_103 xk_i1 ?_
            refine lv_goto hx hb dMD_word_104 rfl ?_
            refine xd_callV C w hz hml hl.1 xk_MD_73 (cMD_refused1 l D cA tz I ad (σ) hJ) (xJ20 hJ) rfl rfl rfl rfl (Nat.le_of_ble_eq_true rfl) (by decide) (by decide) dMD_word_117 (fun H locs w => ?_)
            refine W.eq (g2 := F0 m 120 ls [.int (nI 1)]) rfl ?_
            refine lv_if_eq hx hb dMD_word_120 rfl (fun hq => absurd hq (by decide)) (fun _ => ?_)
            refine lv_iconst (v := nI 0) hx hb dMD_word_123 xk_i0 ?_
            refine lv_goto hx hb dMD_word_124 rfl ?_
            exact xd_iret C w hr hlk dMD_word_138 (rfl) rfl
          · skip
            refine lv_iconst (v := nI 1) hx hb dMD_word_90 xk_i1 ?_
            refine lv_goto hx hb dMD_word_91 rfl ?_
            refine lv_istore (lv' := [(6, .int (nI 1)), (5, .int (nI 0)), (4, .int (nI 0)), (0, .ref (ad 20 0)), (1, .int x), (2, .int y), (3, .int z)]) hx hb dMD_word_95 hl (by decide) rfl (fun ls hl => ?_)
            refine lv_aload_n hx hb dMD_word_97 rfl (lv_at hl 3 rfl) ?_
            refine lv_iload hx hb dMD_word_98 (lv_at hl 2 rfl) ?_
            refine lv_if_ne hx hb dMD_word_100 rfl (fun hq => absurd nI_0 hq) (fun _ => ?_)
            refine lv_iconst (v := nI 1) hx hb dMD_word_103 xk_i1 ?_
            refine lv_goto hx hb dMD_word_104 rfl ?_
            refine xd_callV C w hz hml hl.1 xk_MD_73 (cMD_refused1 l D cA tz I ad (σ) hJ) (xJ20 hJ) rfl rfl rfl rfl (Nat.le_of_ble_eq_true rfl) (by decide) (by decide) dMD_word_117 (fun H locs w => ?_)
            refine W.eq (g2 := F0 m 120 ls [.int (nI 1)]) rfl ?_
            refine lv_if_eq hx hb dMD_word_120 rfl (fun hq => absurd hq (by decide)) (fun _ => ?_)
            refine lv_iconst (v := nI 0) hx hb dMD_word_123 xk_i0 ?_
            refine lv_goto hx hb dMD_word_124 rfl ?_
            exact xd_iret C w hr hlk dMD_word_138 (rfl) rfl
  · skip
    refine lv_iload_n hx hb dMD_word_8 rfl (lv_at hl 2 rfl) ?_
    refine lv_iconst (v := nI 4) hx hb dMD_word_9 xk_i4 ?_
    refine xd_callS C w hz hml hl.1 xk_MD_69 (cMD_isIn l D cA tz I ad (σ) y (nI 4)) rfl rfl (Nat.le_of_ble_eq_true rfl) (by decide) (by decide) dMD_word_10 (fun H locs w => ?_)
    refine W.eq (g2 := F0 m 13 ls [.int (xb (xp_in y (nI 4)))]) rfl ?_
    refine xz_ifeq hx hb dMD_word_13 rfl (fun hh7 => ?_) (fun hh7 => ?_)
    · skip
      refine lv_iconst (v := nI 0) hx hb dMD_word_28 xk_i0 ?_
      refine lv_istore (lv' := [(4, .int (nI 0)), (0, .ref (ad 20 0)), (1, .int x), (2, .int y), (3, .int z)]) hx hb dMD_word_29 hl (by decide) rfl (fun ls hl => ?_)
      refine lv_iload hx hb dMD_word_31 (lv_at hl 0 rfl) ?_
      refine lv_if_eq hx hb dMD_word_33 rfl (fun _ => ?_) (fun hq => absurd nI_0 hq)
      refine lv_iconst (v := nI 0) hx hb dMD_word_44 xk_i0 ?_
      refine lv_istore (lv' := [(5, .int (nI 0)), (4, .int (nI 0)), (0, .ref (ad 20 0)), (1, .int x), (2, .int y), (3, .int z)]) hx hb dMD_word_45 hl (by decide) rfl (fun ls hl => ?_)
      refine lv_aload_n hx hb dMD_word_47 rfl (lv_at hl 2 rfl) ?_
      refine xg_MD_26 C w (xJ20 hJ) dMD_word_48 ?_
      refine lv_iload hx hb dMD_word_51 (lv_at hl 0 rfl) ?_
      refine xr_iald C w (xJ26 hJ) rfl 0 rfl 0 rfl (by omega) (by decide) dMD_word_53 ?_
      refine lv_iconst (v := nI 3) hx hb dMD_word_54 xk_i3 ?_
      refine lv_icmp_ne hx hb dMD_word_55 rfl (fun hh8 => ?_) (fun hh8 => ?_)
      · skip
        refine lv_iconst (v := nI 0) hx hb dMD_word_94 xk_i0 ?_
        refine lv_istore (lv' := [(6, .int (nI 0)), (5, .int (nI 0)), (4, .int (nI 0)), (0, .ref (ad 20 0)), (1, .int x), (2, .int y), (3, .int z)]) hx hb dMD_word_95 hl (by decide) rfl (fun ls hl => ?_)
        refine lv_aload_n hx hb dMD_word_97 rfl (lv_at hl 3 rfl) ?_
        refine lv_iload hx hb dMD_word_98 (lv_at hl 2 rfl) ?_
        refine lv_if_ne hx hb dMD_word_100 rfl (fun hq => absurd nI_0 hq) (fun _ => ?_)
        refine lv_iconst (v := nI 1) hx hb dMD_word_103 xk_i1 ?_
        refine lv_goto hx hb dMD_word_104 rfl ?_
        refine xd_callV C w hz hml hl.1 xk_MD_73 (cMD_refused1 l D cA tz I ad (σ) hJ) (xJ20 hJ) rfl rfl rfl rfl (Nat.le_of_ble_eq_true rfl) (by decide) (by decide) dMD_word_117 (fun H locs w => ?_)
        refine W.eq (g2 := F0 m 120 ls [.int (nI 1)]) rfl ?_
        refine lv_if_eq hx hb dMD_word_120 rfl (fun hq => absurd hq (by decide)) (fun _ => ?_)
        refine lv_iconst (v := nI 0) hx hb dMD_word_123 xk_i0 ?_
        refine lv_goto hx hb dMD_word_124 rfl ?_
        exact xd_iret C w hr hlk dMD_word_138 (rfl) rfl
      · skip
        refine lv_aload_n hx hb dMD_word_58 rfl (lv_at hl 2 rfl) ?_
        refine xg_MD_29 C w (xJ20 hJ) dMD_word_59 ?_
        refine lv_iload hx hb dMD_word_62 (lv_at hl 0 rfl) ?_
        refine xr_iald C w (xJ27 hJ) rfl 0 rfl 0 rfl (by omega) (by decide) dMD_word_64 ?_
        refine lv_if_eq hx hb dMD_word_65 rfl (fun hh9 => ?_) (fun hh9 => ?_)
        · skip
          refine lv_iload_n hx hb dMD_word_79 rfl (lv_at hl 5 rfl) ?_
          refine lv_aload_n hx hb dMD_word_80 rfl (lv_at hl 2 rfl) ?_
          refine xg_MD_35 C w (xJ20 hJ) dMD_word_81 ?_
          refine lv_iload hx hb dMD_word_84 (lv_at hl 0 rfl) ?_
          refine xr_iald C w (xJ29 hJ) rfl 0 rfl 0 rfl (by omega) (by decide) dMD_word_86 ?_
          refine lv_icmp_ge hx hb dMD_word_87 rfl (fun hh10 => ?_) (fun hh10 => ?_)
          · skip
            refine lv_iconst (v := nI 0) hx hb dMD_word_94 xk_i0 ?_
            refine lv_istore (lv' := [(6, .int (nI 0)), (5, .int (nI 0)), (4, .int (nI 0)), (0, .ref (ad 20 0)), (1, .int x), (2, .int y), (3, .int z)]) hx hb dMD_word_95 hl (by decide) rfl (fun ls hl => ?_)
            refine lv_aload_n hx hb dMD_word_97 rfl (lv_at hl 3 rfl) ?_
            refine lv_iload hx hb dMD_word_98 (lv_at hl 2 rfl) ?_
            refine lv_if_ne hx hb dMD_word_100 rfl (fun hq => absurd nI_0 hq) (fun _ => ?_)
            refine lv_iconst (v := nI 1) hx hb dMD_word_103 xk_i1 ?_
            refine lv_goto hx hb dMD_word_104 rfl ?_
            refine xd_callV C w hz hml hl.1 xk_MD_73 (cMD_refused1 l D cA tz I ad (σ) hJ) (xJ20 hJ) rfl rfl rfl rfl (Nat.le_of_ble_eq_true rfl) (by decide) (by decide) dMD_word_117 (fun H locs w => ?_)
            refine W.eq (g2 := F0 m 120 ls [.int (nI 1)]) rfl ?_
            refine lv_if_eq hx hb dMD_word_120 rfl (fun hq => absurd hq (by decide)) (fun _ => ?_)
            refine lv_iconst (v := nI 0) hx hb dMD_word_123 xk_i0 ?_
            refine lv_goto hx hb dMD_word_124 rfl ?_
            exact xd_iret C w hr hlk dMD_word_138 (rfl) rfl
          · skip
            refine lv_iconst (v := nI 1) hx hb dMD_word_90 xk_i1 ?_
            refine lv_goto hx hb dMD_word_91 rfl ?_
            refine lv_istore (lv' := [(6, .int (nI 1)), (5, .int (nI 0)), (4, .int (nI 0)), (0, .ref (ad 20 0)), (1, .int x), (2, .int y), (3, .int z)]) hx hb dMD_word_95 hl (by decide) rfl (fun ls hl => ?_)
            refine lv_aload_n hx hb dMD_word_97 rfl (lv_at hl 3 rfl) ?_
            refine lv_iload hx hb dMD_word_98 (lv_at hl 2 rfl) ?_
            refine lv_if_ne hx hb dMD_word_100 rfl (fun hq => absurd nI_0 hq) (fun _ => ?_)
            refine lv_iconst (v := nI 1) hx hb dMD_word_103 xk_i1 ?_
            refine lv_goto hx hb dMD_word_104 rfl ?_
            refine xd_callV C w hz hml hl.1 xk_MD_73 (cMD_refused1 l D cA tz I ad (σ) hJ) (xJ20 hJ) rfl rfl rfl rfl (Nat.le_of_ble_eq_true rfl) (by decide) (by decide) dMD_word_117 (fun H locs w => ?_)
            refine W.eq (g2 := F0 m 120 ls [.int (nI 1)]) rfl ?_
            refine lv_if_eq hx hb dMD_word_120 rfl (fun hq => absurd hq (by decide)) (fun _ => ?_)
            refine lv_iconst (v := nI 0) hx hb dMD_word_123 xk_i0 ?_
            refine lv_goto hx hb dMD_word_124 rfl ?_
            exact xd_iret C w hr hlk dMD_word_138 (rfl) rfl
        · skip
          refine lv_aload_n hx hb dMD_word_68 rfl (lv_at hl 2 rfl) ?_
          refine xg_MD_29 C w (xJ20 hJ) dMD_word_69 ?_
          refine lv_iload hx hb dMD_word_72 (lv_at hl 0 rfl) ?_
          refine xr_iald C w (xJ27 hJ) rfl 0 rfl 0 rfl (by omega) (by decide) dMD_word_74 ?_
          refine lv_iconst (v := nI 2) hx hb dMD_word_75 xk_i2 ?_
          refine lv_icmp_ne hx hb dMD_word_76 rfl (fun hh11 => ?_) (fun hh11 => ?_)
          · skip
            refine lv_iconst (v := nI 0) hx hb dMD_word_94 xk_i0 ?_
            refine lv_istore (lv' := [(6, .int (nI 0)), (5, .int (nI 0)), (4, .int (nI 0)), (0, .ref (ad 20 0)), (1, .int x), (2, .int y), (3, .int z)]) hx hb dMD_word_95 hl (by decide) rfl (fun ls hl => ?_)
            refine lv_aload_n hx hb dMD_word_97 rfl (lv_at hl 3 rfl) ?_
            refine lv_iload hx hb dMD_word_98 (lv_at hl 2 rfl) ?_
            refine lv_if_ne hx hb dMD_word_100 rfl (fun hq => absurd nI_0 hq) (fun _ => ?_)
            refine lv_iconst (v := nI 1) hx hb dMD_word_103 xk_i1 ?_
            refine lv_goto hx hb dMD_word_104 rfl ?_
            refine xd_callV C w hz hml hl.1 xk_MD_73 (cMD_refused1 l D cA tz I ad (σ) hJ) (xJ20 hJ) rfl rfl rfl rfl (Nat.le_of_ble_eq_true rfl) (by decide) (by decide) dMD_word_117 (fun H locs w => ?_)
            refine W.eq (g2 := F0 m 120 ls [.int (nI 1)]) rfl ?_
            refine lv_if_eq hx hb dMD_word_120 rfl (fun hq => absurd hq (by decide)) (fun _ => ?_)
            refine lv_iconst (v := nI 0) hx hb dMD_word_123 xk_i0 ?_
            refine lv_goto hx hb dMD_word_124 rfl ?_
            exact xd_iret C w hr hlk dMD_word_138 (rfl) rfl
          · skip
            refine lv_iload_n hx hb dMD_word_79 rfl (lv_at hl 5 rfl) ?_
            refine lv_aload_n hx hb dMD_word_80 rfl (lv_at hl 2 rfl) ?_
            refine xg_MD_35 C w (xJ20 hJ) dMD_word_81 ?_
            refine lv_iload hx hb dMD_word_84 (lv_at hl 0 rfl) ?_
            refine xr_iald C w (xJ29 hJ) rfl 0 rfl 0 rfl (by omega) (by decide) dMD_word_86 ?_
            refine lv_icmp_ge hx hb dMD_word_87 rfl (fun hh12 => ?_) (fun hh12 => ?_)
            · skip
              refine lv_iconst (v := nI 0) hx hb dMD_word_94 xk_i0 ?_
              refine lv_istore (lv' := [(6, .int (nI 0)), (5, .int (nI 0)), (4, .int (nI 0)), (0, .ref (ad 20 0)), (1, .int x), (2, .int y), (3, .int z)]) hx hb dMD_word_95 hl (by decide) rfl (fun ls hl => ?_)
              refine lv_aload_n hx hb dMD_word_97 rfl (lv_at hl 3 rfl) ?_
              refine lv_iload hx hb dMD_word_98 (lv_at hl 2 rfl) ?_
              refine lv_if_ne hx hb dMD_word_100 rfl (fun hq => absurd nI_0 hq) (fun _ => ?_)
              refine lv_iconst (v := nI 1) hx hb dMD_word_103 xk_i1 ?_
              refine lv_goto hx hb dMD_word_104 rfl ?_
              refine xd_callV C w hz hml hl.1 xk_MD_73 (cMD_refused1 l D cA tz I ad (σ) hJ) (xJ20 hJ) rfl rfl rfl rfl (Nat.le_of_ble_eq_true rfl) (by decide) (by decide) dMD_word_117 (fun H locs w => ?_)
              refine W.eq (g2 := F0 m 120 ls [.int (nI 1)]) rfl ?_
              refine lv_if_eq hx hb dMD_word_120 rfl (fun hq => absurd hq (by decide)) (fun _ => ?_)
              refine lv_iconst (v := nI 0) hx hb dMD_word_123 xk_i0 ?_
              refine lv_goto hx hb dMD_word_124 rfl ?_
              exact xd_iret C w hr hlk dMD_word_138 (rfl) rfl
            · skip
              refine lv_iconst (v := nI 1) hx hb dMD_word_90 xk_i1 ?_
              refine lv_goto hx hb dMD_word_91 rfl ?_
              refine lv_istore (lv' := [(6, .int (nI 1)), (5, .int (nI 0)), (4, .int (nI 0)), (0, .ref (ad 20 0)), (1, .int x), (2, .int y), (3, .int z)]) hx hb dMD_word_95 hl (by decide) rfl (fun ls hl => ?_)
              refine lv_aload_n hx hb dMD_word_97 rfl (lv_at hl 3 rfl) ?_
              refine lv_iload hx hb dMD_word_98 (lv_at hl 2 rfl) ?_
              refine lv_if_ne hx hb dMD_word_100 rfl (fun hq => absurd nI_0 hq) (fun _ => ?_)
              refine lv_iconst (v := nI 1) hx hb dMD_word_103 xk_i1 ?_
              refine lv_goto hx hb dMD_word_104 rfl ?_
              refine xd_callV C w hz hml hl.1 xk_MD_73 (cMD_refused1 l D cA tz I ad (σ) hJ) (xJ20 hJ) rfl rfl rfl rfl (Nat.le_of_ble_eq_true rfl) (by decide) (by decide) dMD_word_117 (fun H locs w => ?_)
              refine W.eq (g2 := F0 m 120 ls [.int (nI 1)]) rfl ?_
              refine lv_if_eq hx hb dMD_word_120 rfl (fun hq => absurd hq (by decide)) (fun _ => ?_)
              refine lv_iconst (v := nI 0) hx hb dMD_word_123 xk_i0 ?_
              refine lv_goto hx hb dMD_word_124 rfl ?_
              exact xd_iret C w hr hlk dMD_word_138 (rfl) rfl
    · skip
      refine lv_iload_n hx hb dMD_word_16 rfl (lv_at hl 3 rfl) ?_
      refine lv_iconst (v := nI 4) hx hb dMD_word_17 xk_i4 ?_
      refine xd_callS C w hz hml hl.1 xk_MD_69 (cMD_isIn l D cA tz I ad (σ) z (nI 4)) rfl rfl (Nat.le_of_ble_eq_true rfl) (by decide) (by decide) dMD_word_18 (fun H locs w => ?_)
      refine W.eq (g2 := F0 m 21 ls [.int (xb (xp_in z (nI 4)))]) rfl ?_
      refine xz_ifeq hx hb dMD_word_21 rfl (fun hh13 => ?_) (fun hh13 => ?_)
      · skip
        refine lv_iconst (v := nI 0) hx hb dMD_word_28 xk_i0 ?_
        refine lv_istore (lv' := [(4, .int (nI 0)), (0, .ref (ad 20 0)), (1, .int x), (2, .int y), (3, .int z)]) hx hb dMD_word_29 hl (by decide) rfl (fun ls hl => ?_)
        refine lv_iload hx hb dMD_word_31 (lv_at hl 0 rfl) ?_
        refine lv_if_eq hx hb dMD_word_33 rfl (fun _ => ?_) (fun hq => absurd nI_0 hq)
        refine lv_iconst (v := nI 0) hx hb dMD_word_44 xk_i0 ?_
        refine lv_istore (lv' := [(5, .int (nI 0)), (4, .int (nI 0)), (0, .ref (ad 20 0)), (1, .int x), (2, .int y), (3, .int z)]) hx hb dMD_word_45 hl (by decide) rfl (fun ls hl => ?_)
        refine lv_aload_n hx hb dMD_word_47 rfl (lv_at hl 2 rfl) ?_
        refine xg_MD_26 C w (xJ20 hJ) dMD_word_48 ?_
        refine lv_iload hx hb dMD_word_51 (lv_at hl 0 rfl) ?_
        refine xr_iald C w (xJ26 hJ) rfl 0 rfl 0 rfl (by omega) (by decide) dMD_word_53 ?_
        refine lv_iconst (v := nI 3) hx hb dMD_word_54 xk_i3 ?_
        refine lv_icmp_ne hx hb dMD_word_55 rfl (fun hh14 => ?_) (fun hh14 => ?_)
        · skip
          refine lv_iconst (v := nI 0) hx hb dMD_word_94 xk_i0 ?_
          refine lv_istore (lv' := [(6, .int (nI 0)), (5, .int (nI 0)), (4, .int (nI 0)), (0, .ref (ad 20 0)), (1, .int x), (2, .int y), (3, .int z)]) hx hb dMD_word_95 hl (by decide) rfl (fun ls hl => ?_)
          refine lv_aload_n hx hb dMD_word_97 rfl (lv_at hl 3 rfl) ?_
          refine lv_iload hx hb dMD_word_98 (lv_at hl 2 rfl) ?_
          refine lv_if_ne hx hb dMD_word_100 rfl (fun hq => absurd nI_0 hq) (fun _ => ?_)
          refine lv_iconst (v := nI 1) hx hb dMD_word_103 xk_i1 ?_
          refine lv_goto hx hb dMD_word_104 rfl ?_
          refine xd_callV C w hz hml hl.1 xk_MD_73 (cMD_refused1 l D cA tz I ad (σ) hJ) (xJ20 hJ) rfl rfl rfl rfl (Nat.le_of_ble_eq_true rfl) (by decide) (by decide) dMD_word_117 (fun H locs w => ?_)
          refine W.eq (g2 := F0 m 120 ls [.int (nI 1)]) rfl ?_
          refine lv_if_eq hx hb dMD_word_120 rfl (fun hq => absurd hq (by decide)) (fun _ => ?_)
          refine lv_iconst (v := nI 0) hx hb dMD_word_123 xk_i0 ?_
          refine lv_goto hx hb dMD_word_124 rfl ?_
          exact xd_iret C w hr hlk dMD_word_138 (rfl) rfl
        · skip
          refine lv_aload_n hx hb dMD_word_58 rfl (lv_at hl 2 rfl) ?_
          refine xg_MD_29 C w (xJ20 hJ) dMD_word_59 ?_
          refine lv_iload hx hb dMD_word_62 (lv_at hl 0 rfl) ?_
          refine xr_iald C w (xJ27 hJ) rfl 0 rfl 0 rfl (by omega) (by decide) dMD_word_64 ?_
          refine lv_if_eq hx hb dMD_word_65 rfl (fun hh15 => ?_) (fun hh15 => ?_)
          · skip
            refine lv_iload_n hx hb dMD_word_79 rfl (lv_at hl 5 rfl) ?_
            refine lv_aload_n hx hb dMD_word_80 rfl (lv_at hl 2 rfl) ?_
            refine xg_MD_35 C w (xJ20 hJ) dMD_word_81 ?_
            refine lv_iload hx hb dMD_word_84 (lv_at hl 0 rfl) ?_
            refine xr_iald C w (xJ29 hJ) rfl 0 rfl 0 rfl (by omega) (by decide) dMD_word_86 ?_
            refine lv_icmp_ge hx hb dMD_word_87 rfl (fun hh16 => ?_) (fun hh16 => ?_)
            · skip
              refine lv_iconst (v := nI 0) hx hb dMD_word_94 xk_i0 ?_
              refine lv_istore (lv' := [(6, .int (nI 0)), (5, .int (nI 0)), (4, .int (nI 0)), (0, .ref (ad 20 0)), (1, .int x), (2, .int y), (3, .int z)]) hx hb dMD_word_95 hl (by decide) rfl (fun ls hl => ?_)
              refine lv_aload_n hx hb dMD_word_97 rfl (lv_at hl 3 rfl) ?_
              refine lv_iload hx hb dMD_word_98 (lv_at hl 2 rfl) ?_
              refine lv_if_ne hx hb dMD_word_100 rfl (fun hq => absurd nI_0 hq) (fun _ => ?_)
              refine lv_iconst (v := nI 1) hx hb dMD_word_103 xk_i1 ?_
              refine lv_goto hx hb dMD_word_104 rfl ?_
              refine xd_callV C w hz hml hl.1 xk_MD_73 (cMD_refused1 l D cA tz I ad (σ) hJ) (xJ20 hJ) rfl rfl rfl rfl (Nat.le_of_ble_eq_true rfl) (by decide) (by decide) dMD_word_117 (fun H locs w => ?_)
              refine W.eq (g2 := F0 m 120 ls [.int (nI 1)]) rfl ?_
              refine lv_if_eq hx hb dMD_word_120 rfl (fun hq => absurd hq (by decide)) (fun _ => ?_)
              refine lv_iconst (v := nI 0) hx hb dMD_word_123 xk_i0 ?_
              refine lv_goto hx hb dMD_word_124 rfl ?_
              exact xd_iret C w hr hlk dMD_word_138 (rfl) rfl
            · skip
              refine lv_iconst (v := nI 1) hx hb dMD_word_90 xk_i1 ?_
              refine lv_goto hx hb dMD_word_91 rfl ?_
              refine lv_istore (lv' := [(6, .int (nI 1)), (5, .int (nI 0)), (4, .int (nI 0)), (0, .ref (ad 20 0)), (1, .int x), (2, .int y), (3, .int z)]) hx hb dMD_word_95 hl (by decide) rfl (fun ls hl => ?_)
              refine lv_aload_n hx hb dMD_word_97 rfl (lv_at hl 3 rfl) ?_
              refine lv_iload hx hb dMD_word_98 (lv_at hl 2 rfl) ?_
              refine lv_if_ne hx hb dMD_word_100 rfl (fun hq => absurd nI_0 hq) (fun _ => ?_)
              refine lv_iconst (v := nI 1) hx hb dMD_word_103 xk_i1 ?_
              refine lv_goto hx hb dMD_word_104 rfl ?_
              refine xd_callV C w hz hml hl.1 xk_MD_73 (cMD_refused1 l D cA tz I ad (σ) hJ) (xJ20 hJ) rfl rfl rfl rfl (Nat.le_of_ble_eq_true rfl) (by decide) (by decide) dMD_word_117 (fun H locs w => ?_)
              refine W.eq (g2 := F0 m 120 ls [.int (nI 1)]) rfl ?_
              refine lv_if_eq hx hb dMD_word_120 rfl (fun hq => absurd hq (by decide)) (fun _ => ?_)
              refine lv_iconst (v := nI 0) hx hb dMD_word_123 xk_i0 ?_
              refine lv_goto hx hb dMD_word_124 rfl ?_
              exact xd_iret C w hr hlk dMD_word_138 (rfl) rfl
          · skip
            refine lv_aload_n hx hb dMD_word_68 rfl (lv_at hl 2 rfl) ?_
            refine xg_MD_29 C w (xJ20 hJ) dMD_word_69 ?_
            refine lv_iload hx hb dMD_word_72 (lv_at hl 0 rfl) ?_
            refine xr_iald C w (xJ27 hJ) rfl 0 rfl 0 rfl (by omega) (by decide) dMD_word_74 ?_
            refine lv_iconst (v := nI 2) hx hb dMD_word_75 xk_i2 ?_
            refine lv_icmp_ne hx hb dMD_word_76 rfl (fun hh17 => ?_) (fun hh17 => ?_)
            · skip
              refine lv_iconst (v := nI 0) hx hb dMD_word_94 xk_i0 ?_
              refine lv_istore (lv' := [(6, .int (nI 0)), (5, .int (nI 0)), (4, .int (nI 0)), (0, .ref (ad 20 0)), (1, .int x), (2, .int y), (3, .int z)]) hx hb dMD_word_95 hl (by decide) rfl (fun ls hl => ?_)
              refine lv_aload_n hx hb dMD_word_97 rfl (lv_at hl 3 rfl) ?_
              refine lv_iload hx hb dMD_word_98 (lv_at hl 2 rfl) ?_
              refine lv_if_ne hx hb dMD_word_100 rfl (fun hq => absurd nI_0 hq) (fun _ => ?_)
              refine lv_iconst (v := nI 1) hx hb dMD_word_103 xk_i1 ?_
              refine lv_goto hx hb dMD_word_104 rfl ?_
              refine xd_callV C w hz hml hl.1 xk_MD_73 (cMD_refused1 l D cA tz I ad (σ) hJ) (xJ20 hJ) rfl rfl rfl rfl (Nat.le_of_ble_eq_true rfl) (by decide) (by decide) dMD_word_117 (fun H locs w => ?_)
              refine W.eq (g2 := F0 m 120 ls [.int (nI 1)]) rfl ?_
              refine lv_if_eq hx hb dMD_word_120 rfl (fun hq => absurd hq (by decide)) (fun _ => ?_)
              refine lv_iconst (v := nI 0) hx hb dMD_word_123 xk_i0 ?_
              refine lv_goto hx hb dMD_word_124 rfl ?_
              exact xd_iret C w hr hlk dMD_word_138 (rfl) rfl
            · skip
              refine lv_iload_n hx hb dMD_word_79 rfl (lv_at hl 5 rfl) ?_
              refine lv_aload_n hx hb dMD_word_80 rfl (lv_at hl 2 rfl) ?_
              refine xg_MD_35 C w (xJ20 hJ) dMD_word_81 ?_
              refine lv_iload hx hb dMD_word_84 (lv_at hl 0 rfl) ?_
              refine xr_iald C w (xJ29 hJ) rfl 0 rfl 0 rfl (by omega) (by decide) dMD_word_86 ?_
              refine lv_icmp_ge hx hb dMD_word_87 rfl (fun hh18 => ?_) (fun hh18 => ?_)
              · skip
                refine lv_iconst (v := nI 0) hx hb dMD_word_94 xk_i0 ?_
                refine lv_istore (lv' := [(6, .int (nI 0)), (5, .int (nI 0)), (4, .int (nI 0)), (0, .ref (ad 20 0)), (1, .int x), (2, .int y), (3, .int z)]) hx hb dMD_word_95 hl (by decide) rfl (fun ls hl => ?_)
                refine lv_aload_n hx hb dMD_word_97 rfl (lv_at hl 3 rfl) ?_
                refine lv_iload hx hb dMD_word_98 (lv_at hl 2 rfl) ?_
                refine lv_if_ne hx hb dMD_word_100 rfl (fun hq => absurd nI_0 hq) (fun _ => ?_)
                refine lv_iconst (v := nI 1) hx hb dMD_word_103 xk_i1 ?_
                refine lv_goto hx hb dMD_word_104 rfl ?_
                refine xd_callV C w hz hml hl.1 xk_MD_73 (cMD_refused1 l D cA tz I ad (σ) hJ) (xJ20 hJ) rfl rfl rfl rfl (Nat.le_of_ble_eq_true rfl) (by decide) (by decide) dMD_word_117 (fun H locs w => ?_)
                refine W.eq (g2 := F0 m 120 ls [.int (nI 1)]) rfl ?_
                refine lv_if_eq hx hb dMD_word_120 rfl (fun hq => absurd hq (by decide)) (fun _ => ?_)
                refine lv_iconst (v := nI 0) hx hb dMD_word_123 xk_i0 ?_
                refine lv_goto hx hb dMD_word_124 rfl ?_
                exact xd_iret C w hr hlk dMD_word_138 (rfl) rfl
              · skip
                refine lv_iconst (v := nI 1) hx hb dMD_word_90 xk_i1 ?_
                refine lv_goto hx hb dMD_word_91 rfl ?_
                refine lv_istore (lv' := [(6, .int (nI 1)), (5, .int (nI 0)), (4, .int (nI 0)), (0, .ref (ad 20 0)), (1, .int x), (2, .int y), (3, .int z)]) hx hb dMD_word_95 hl (by decide) rfl (fun ls hl => ?_)
                refine lv_aload_n hx hb dMD_word_97 rfl (lv_at hl 3 rfl) ?_
                refine lv_iload hx hb dMD_word_98 (lv_at hl 2 rfl) ?_
                refine lv_if_ne hx hb dMD_word_100 rfl (fun hq => absurd nI_0 hq) (fun _ => ?_)
                refine lv_iconst (v := nI 1) hx hb dMD_word_103 xk_i1 ?_
                refine lv_goto hx hb dMD_word_104 rfl ?_
                refine xd_callV C w hz hml hl.1 xk_MD_73 (cMD_refused1 l D cA tz I ad (σ) hJ) (xJ20 hJ) rfl rfl rfl rfl (Nat.le_of_ble_eq_true rfl) (by decide) (by decide) dMD_word_117 (fun H locs w => ?_)
                refine W.eq (g2 := F0 m 120 ls [.int (nI 1)]) rfl ?_
                refine lv_if_eq hx hb dMD_word_120 rfl (fun hq => absurd hq (by decide)) (fun _ => ?_)
                refine lv_iconst (v := nI 0) hx hb dMD_word_123 xk_i0 ?_
                refine lv_goto hx hb dMD_word_124 rfl ?_
                exact xd_iret C w hr hlk dMD_word_138 (rfl) rfl
      · skip
        exfalso
        first | contradiction | grind
set_option maxRecDepth 100000 in
set_option maxHeartbeats 4000000 in
theorem cMD_take_ok (l : Launch) (D : va_G) (cA : Nat → ClassId) (tz : Nat) (I : List (Nat × Nat)) (ad : Nat → Nat → Nat) (σ : xMem) (a b : Nat) (hJ : xJ I) (ha : a < 4) (hb4 : b < 4) (hs : σ 26 0 (4 * a + b) = nI 3 ∨ σ 26 0 (4 * a + b) = nI 4) : xD l yMD_take bMD_take 6 (some .boolean) 2 [.ref (ad 20 0), .int (nI a), .int (nI b)] D cA tz I ad σ (some (.int (xb (σ 26 0 (4 * a + b) = nI 3)))) (xu3 (xu3 σ 20 0 0 (nI 0)) 26 0 (4 * a + b) (nI 0)) := by
  refine xd_of (by decide) (by simp [lg_sl, Value.category]) ?_
  intro p e s m args below meth c A ls C hr hlk hml hl w hz
  obtain ⟨hx, hb, hown, hts⟩ := id C
  have hl : lv_has ls 6 [(0, .ref (ad 20 0)), (1, .int (nI a)), (2, .int (nI b))] := hl
  have hina : xp_in (nI a) (nI 4) := xp_in_n (by omega) (by decide)
  have hinb : xp_in (nI b) (nI 4) := xp_in_n (by omega) (by decide)
  refine lv_iload_n hx hb dMD_take_0 rfl (lv_at hl 1 rfl) ?_
  refine lv_iconst (v := nI 4) hx hb dMD_take_1 xk_i4 ?_
  refine xd_callS C w hz hml hl.1 xk_MD_69 (cMD_isIn l D cA tz I ad (σ) (nI a) (nI 4)) rfl rfl (Nat.le_of_ble_eq_true rfl) (by decide) (by decide) dMD_take_2 (fun H locs w => ?_)
  refine W.eq (g2 := F0 m 5 ls [.int (xb (xp_in (nI a) (nI 4)))]) rfl ?_
  refine xz_ifeq hx hb dMD_take_5 rfl (fun hh1 => ?_) (fun hh1 => ?_)
  · skip
    exfalso
    first | contradiction | grind
  · skip
    refine lv_iload_n hx hb dMD_take_8 rfl (lv_at hl 2 rfl) ?_
    refine lv_iconst (v := nI 4) hx hb dMD_take_9 xk_i4 ?_
    refine xd_callS C w hz hml hl.1 xk_MD_69 (cMD_isIn l D cA tz I ad (σ) (nI b) (nI 4)) rfl rfl (Nat.le_of_ble_eq_true rfl) (by decide) (by decide) dMD_take_10 (fun H locs w => ?_)
    refine W.eq (g2 := F0 m 13 ls [.int (xb (xp_in (nI b) (nI 4)))]) rfl ?_
    refine xz_ifeq hx hb dMD_take_13 rfl (fun hh2 => ?_) (fun hh2 => ?_)
    · skip
      exfalso
      first | contradiction | grind
    · skip
      refine lv_iconst (v := nI 1) hx hb dMD_take_16 xk_i1 ?_
      refine lv_goto hx hb dMD_take_17 rfl ?_
      refine lv_istore_n (lv' := [(3, .int (nI 1)), (0, .ref (ad 20 0)), (1, .int (nI a)), (2, .int (nI b))]) hx hb dMD_take_21 rfl hl (by decide) rfl (fun ls hl => ?_)
      refine lv_iload_n hx hb dMD_take_22 rfl (lv_at hl 0 rfl) ?_
      refine lv_if_eq hx hb dMD_take_23 rfl (fun hq => absurd hq (by decide)) (fun _ => ?_)
      refine lv_iconst (v := nI 4) hx hb dMD_take_26 xk_i4 ?_
      refine lv_iload_n hx hb dMD_take_27 rfl (lv_at hl 2 rfl) ?_
      refine xn_mul hx hb dMD_take_28 ?_
      refine lv_iload_n hx hb dMD_take_29 rfl (lv_at hl 3 rfl) ?_
      refine xn_add hx hb dMD_take_30 ?_
      refine lv_goto hx hb dMD_take_31 rfl ?_
      refine lv_istore (lv' := [(4, .int (nI ((4 * a) + b))), (3, .int (nI 1)), (0, .ref (ad 20 0)), (1, .int (nI a)), (2, .int (nI b))]) hx hb dMD_take_35 hl (by decide) rfl (fun ls hl => ?_)
      refine lv_aload_n hx hb dMD_take_37 rfl (lv_at hl 2 rfl) ?_
      refine lv_iload_n hx hb dMD_take_38 rfl (lv_at hl 1 rfl) ?_
      refine lv_if_ne hx hb dMD_take_39 rfl (fun _ => ?_) (fun hq => absurd hq (by decide))
      refine lv_aload_n hx hb dMD_take_46 rfl (lv_at hl 2 rfl) ?_
      refine xg_MD_26 C w (xJ20 hJ) dMD_take_47 ?_
      refine lv_iload hx hb dMD_take_50 (lv_at hl 0 rfl) ?_
      refine xr_iald C w (xJ26 hJ) rfl 0 rfl ((4 * a) + b) rfl (by omega) (by decide) dMD_take_52 ?_
      refine lv_iconst (v := nI 3) hx hb dMD_take_53 xk_i3 ?_
      refine lv_icmp_eq hx hb dMD_take_54 rfl (fun hh3 => ?_) (fun hh3 => ?_)
      · skip
        refine lv_iconst (v := nI 0) hx hb dMD_take_72 xk_i0 ?_
        refine xd_callV C w hz hml hl.1 xk_MD_73 (cMD_refused0 l D cA tz I ad (σ) hJ) (xJ20 hJ) rfl rfl rfl rfl (Nat.le_of_ble_eq_true rfl) (by decide) (by decide) dMD_take_73 (fun H locs w => ?_)
        refine W.eq (g2 := F0 m 76 ls [.int (nI 0)]) rfl ?_
        refine lv_if_eq hx hb dMD_take_76 rfl (fun _ => ?_) (fun hq => absurd nI_0 hq)
        refine lv_aload_n hx hb dMD_take_81 rfl (lv_at hl 2 rfl) ?_
        refine xg_MD_26 C w (xJ20 hJ) dMD_take_82 ?_
        refine lv_iload hx hb dMD_take_85 (lv_at hl 0 rfl) ?_
        refine xr_iald C w (xJ26 hJ) rfl 0 rfl ((4 * a) + b) rfl (by omega) (by decide) dMD_take_87 ?_
        refine xn_eq (y := σ 26 0 ((4 * a) + b)) (by simp [xu3, xw_u2, va_up]) ?_
        refine lv_iconst (v := nI 3) hx hb dMD_take_88 xk_i3 ?_
        refine lv_icmp_ne hx hb dMD_take_89 rfl (fun hh4 => ?_) (fun hh4 => ?_)
        · skip
          refine lv_iconst (v := nI 0) hx hb dMD_take_96 xk_i0 ?_
          refine lv_istore (lv' := [(5, .int (nI 0)), (4, .int (nI ((4 * a) + b))), (3, .int (nI 1)), (0, .ref (ad 20 0)), (1, .int (nI a)), (2, .int (nI b))]) hx hb dMD_take_97 hl (by decide) rfl (fun ls hl => ?_)
          refine lv_aload_n hx hb dMD_take_99 rfl (lv_at hl 3 rfl) ?_
          refine xg_MD_26 C w (xJ20 hJ) dMD_take_100 ?_
          refine lv_iload hx hb dMD_take_103 (lv_at hl 1 rfl) ?_
          refine lv_iconst (v := nI 0) hx hb dMD_take_105 xk_i0 ?_
          refine xs_iast C w (xJ26 hJ) (fun _ => rfl) ((4 * a) + b) rfl (by omega) (by decide) dMD_take_106 (fun H locs w => ?_)
          refine lv_iload hx hb dMD_take_107 (lv_at hl 0 rfl) ?_
          exact xd_zf C w hr hlk dMD_take_109 (by grind) rfl
        · skip
          refine lv_iconst (v := nI 1) hx hb dMD_take_92 xk_i1 ?_
          refine lv_goto hx hb dMD_take_93 rfl ?_
          refine lv_istore (lv' := [(5, .int (nI 1)), (4, .int (nI ((4 * a) + b))), (3, .int (nI 1)), (0, .ref (ad 20 0)), (1, .int (nI a)), (2, .int (nI b))]) hx hb dMD_take_97 hl (by decide) rfl (fun ls hl => ?_)
          refine lv_aload_n hx hb dMD_take_99 rfl (lv_at hl 3 rfl) ?_
          refine xg_MD_26 C w (xJ20 hJ) dMD_take_100 ?_
          refine lv_iload hx hb dMD_take_103 (lv_at hl 1 rfl) ?_
          refine lv_iconst (v := nI 0) hx hb dMD_take_105 xk_i0 ?_
          refine xs_iast C w (xJ26 hJ) (fun _ => rfl) ((4 * a) + b) rfl (by omega) (by decide) dMD_take_106 (fun H locs w => ?_)
          refine lv_iload hx hb dMD_take_107 (lv_at hl 0 rfl) ?_
          exact xd_zt C w hr hlk dMD_take_109 (by grind) rfl
      · skip
        refine lv_aload_n hx hb dMD_take_57 rfl (lv_at hl 2 rfl) ?_
        refine xg_MD_26 C w (xJ20 hJ) dMD_take_58 ?_
        refine lv_iload hx hb dMD_take_61 (lv_at hl 0 rfl) ?_
        refine xr_iald C w (xJ26 hJ) rfl 0 rfl ((4 * a) + b) rfl (by omega) (by decide) dMD_take_63 ?_
        refine lv_iconst (v := nI 4) hx hb dMD_take_64 xk_i4 ?_
        refine lv_icmp_eq hx hb dMD_take_65 rfl (fun hh5 => ?_) (fun hh5 => ?_)
        · skip
          refine lv_iconst (v := nI 0) hx hb dMD_take_72 xk_i0 ?_
          refine xd_callV C w hz hml hl.1 xk_MD_73 (cMD_refused0 l D cA tz I ad (σ) hJ) (xJ20 hJ) rfl rfl rfl rfl (Nat.le_of_ble_eq_true rfl) (by decide) (by decide) dMD_take_73 (fun H locs w => ?_)
          refine W.eq (g2 := F0 m 76 ls [.int (nI 0)]) rfl ?_
          refine lv_if_eq hx hb dMD_take_76 rfl (fun _ => ?_) (fun hq => absurd nI_0 hq)
          refine lv_aload_n hx hb dMD_take_81 rfl (lv_at hl 2 rfl) ?_
          refine xg_MD_26 C w (xJ20 hJ) dMD_take_82 ?_
          refine lv_iload hx hb dMD_take_85 (lv_at hl 0 rfl) ?_
          refine xr_iald C w (xJ26 hJ) rfl 0 rfl ((4 * a) + b) rfl (by omega) (by decide) dMD_take_87 ?_
          refine xn_eq (y := σ 26 0 ((4 * a) + b)) (by simp [xu3, xw_u2, va_up]) ?_
          refine lv_iconst (v := nI 3) hx hb dMD_take_88 xk_i3 ?_
          refine lv_icmp_ne hx hb dMD_take_89 rfl (fun hh6 => ?_) (fun hh6 => ?_)
          · skip
            refine lv_iconst (v := nI 0) hx hb dMD_take_96 xk_i0 ?_
            refine lv_istore (lv' := [(5, .int (nI 0)), (4, .int (nI ((4 * a) + b))), (3, .int (nI 1)), (0, .ref (ad 20 0)), (1, .int (nI a)), (2, .int (nI b))]) hx hb dMD_take_97 hl (by decide) rfl (fun ls hl => ?_)
            refine lv_aload_n hx hb dMD_take_99 rfl (lv_at hl 3 rfl) ?_
            refine xg_MD_26 C w (xJ20 hJ) dMD_take_100 ?_
            refine lv_iload hx hb dMD_take_103 (lv_at hl 1 rfl) ?_
            refine lv_iconst (v := nI 0) hx hb dMD_take_105 xk_i0 ?_
            refine xs_iast C w (xJ26 hJ) (fun _ => rfl) ((4 * a) + b) rfl (by omega) (by decide) dMD_take_106 (fun H locs w => ?_)
            refine lv_iload hx hb dMD_take_107 (lv_at hl 0 rfl) ?_
            exact xd_zf C w hr hlk dMD_take_109 (by grind) rfl
          · skip
            refine lv_iconst (v := nI 1) hx hb dMD_take_92 xk_i1 ?_
            refine lv_goto hx hb dMD_take_93 rfl ?_
            refine lv_istore (lv' := [(5, .int (nI 1)), (4, .int (nI ((4 * a) + b))), (3, .int (nI 1)), (0, .ref (ad 20 0)), (1, .int (nI a)), (2, .int (nI b))]) hx hb dMD_take_97 hl (by decide) rfl (fun ls hl => ?_)
            refine lv_aload_n hx hb dMD_take_99 rfl (lv_at hl 3 rfl) ?_
            refine xg_MD_26 C w (xJ20 hJ) dMD_take_100 ?_
            refine lv_iload hx hb dMD_take_103 (lv_at hl 1 rfl) ?_
            refine lv_iconst (v := nI 0) hx hb dMD_take_105 xk_i0 ?_
            refine xs_iast C w (xJ26 hJ) (fun _ => rfl) ((4 * a) + b) rfl (by omega) (by decide) dMD_take_106 (fun H locs w => ?_)
            refine lv_iload hx hb dMD_take_107 (lv_at hl 0 rfl) ?_
            exact xd_zt C w hr hlk dMD_take_109 (by grind) rfl
        · skip
          refine lv_iconst (v := nI 2) hx hb dMD_take_68 xk_i2 ?_
          refine lv_goto hx hb dMD_take_69 rfl ?_
          exfalso
          first | contradiction | grind
set_option maxRecDepth 100000 in
set_option maxHeartbeats 4000000 in
theorem cMD_take_no2 (l : Launch) (D : va_G) (cA : Nat → ClassId) (tz : Nat) (I : List (Nat × Nat)) (ad : Nat → Nat → Nat) (σ : xMem) (a b : Nat) (hJ : xJ I) (ha : a < 4) (hb4 : b < 4) (hs : ¬ (σ 26 0 (4 * a + b) = nI 3 ∨ σ 26 0 (4 * a + b) = nI 4)) : xD l yMD_take bMD_take 6 (some .boolean) 2 [.ref (ad 20 0), .int (nI a), .int (nI b)] D cA tz I ad σ (some (.int (xb False))) (xu3 σ 20 0 0 (nI 2)) := by
  refine xd_of (by decide) (by simp [lg_sl, Value.category]) ?_
  intro p e s m args below meth c A ls C hr hlk hml hl w hz
  obtain ⟨hx, hb, hown, hts⟩ := id C
  have hl : lv_has ls 6 [(0, .ref (ad 20 0)), (1, .int (nI a)), (2, .int (nI b))] := hl
  have hina : xp_in (nI a) (nI 4) := xp_in_n (by omega) (by decide)
  have hinb : xp_in (nI b) (nI 4) := xp_in_n (by omega) (by decide)
  refine lv_iload_n hx hb dMD_take_0 rfl (lv_at hl 1 rfl) ?_
  refine lv_iconst (v := nI 4) hx hb dMD_take_1 xk_i4 ?_
  refine xd_callS C w hz hml hl.1 xk_MD_69 (cMD_isIn l D cA tz I ad (σ) (nI a) (nI 4)) rfl rfl (Nat.le_of_ble_eq_true rfl) (by decide) (by decide) dMD_take_2 (fun H locs w => ?_)
  refine W.eq (g2 := F0 m 5 ls [.int (xb (xp_in (nI a) (nI 4)))]) rfl ?_
  refine xz_ifeq hx hb dMD_take_5 rfl (fun hh1 => ?_) (fun hh1 => ?_)
  · skip
    exfalso
    first | contradiction | grind
  · skip
    refine lv_iload_n hx hb dMD_take_8 rfl (lv_at hl 2 rfl) ?_
    refine lv_iconst (v := nI 4) hx hb dMD_take_9 xk_i4 ?_
    refine xd_callS C w hz hml hl.1 xk_MD_69 (cMD_isIn l D cA tz I ad (σ) (nI b) (nI 4)) rfl rfl (Nat.le_of_ble_eq_true rfl) (by decide) (by decide) dMD_take_10 (fun H locs w => ?_)
    refine W.eq (g2 := F0 m 13 ls [.int (xb (xp_in (nI b) (nI 4)))]) rfl ?_
    refine xz_ifeq hx hb dMD_take_13 rfl (fun hh2 => ?_) (fun hh2 => ?_)
    · skip
      exfalso
      first | contradiction | grind
    · skip
      refine lv_iconst (v := nI 1) hx hb dMD_take_16 xk_i1 ?_
      refine lv_goto hx hb dMD_take_17 rfl ?_
      refine lv_istore_n (lv' := [(3, .int (nI 1)), (0, .ref (ad 20 0)), (1, .int (nI a)), (2, .int (nI b))]) hx hb dMD_take_21 rfl hl (by decide) rfl (fun ls hl => ?_)
      refine lv_iload_n hx hb dMD_take_22 rfl (lv_at hl 0 rfl) ?_
      refine lv_if_eq hx hb dMD_take_23 rfl (fun hq => absurd hq (by decide)) (fun _ => ?_)
      refine lv_iconst (v := nI 4) hx hb dMD_take_26 xk_i4 ?_
      refine lv_iload_n hx hb dMD_take_27 rfl (lv_at hl 2 rfl) ?_
      refine xn_mul hx hb dMD_take_28 ?_
      refine lv_iload_n hx hb dMD_take_29 rfl (lv_at hl 3 rfl) ?_
      refine xn_add hx hb dMD_take_30 ?_
      refine lv_goto hx hb dMD_take_31 rfl ?_
      refine lv_istore (lv' := [(4, .int (nI ((4 * a) + b))), (3, .int (nI 1)), (0, .ref (ad 20 0)), (1, .int (nI a)), (2, .int (nI b))]) hx hb dMD_take_35 hl (by decide) rfl (fun ls hl => ?_)
      refine lv_aload_n hx hb dMD_take_37 rfl (lv_at hl 2 rfl) ?_
      refine lv_iload_n hx hb dMD_take_38 rfl (lv_at hl 1 rfl) ?_
      refine lv_if_ne hx hb dMD_take_39 rfl (fun _ => ?_) (fun hq => absurd hq (by decide))
      refine lv_aload_n hx hb dMD_take_46 rfl (lv_at hl 2 rfl) ?_
      refine xg_MD_26 C w (xJ20 hJ) dMD_take_47 ?_
      refine lv_iload hx hb dMD_take_50 (lv_at hl 0 rfl) ?_
      refine xr_iald C w (xJ26 hJ) rfl 0 rfl ((4 * a) + b) rfl (by omega) (by decide) dMD_take_52 ?_
      refine lv_iconst (v := nI 3) hx hb dMD_take_53 xk_i3 ?_
      refine lv_icmp_eq hx hb dMD_take_54 rfl (fun hh3 => ?_) (fun hh3 => ?_)
      · skip
        refine lv_iconst (v := nI 0) hx hb dMD_take_72 xk_i0 ?_
        exfalso
        first | contradiction | grind
      · skip
        refine lv_aload_n hx hb dMD_take_57 rfl (lv_at hl 2 rfl) ?_
        refine xg_MD_26 C w (xJ20 hJ) dMD_take_58 ?_
        refine lv_iload hx hb dMD_take_61 (lv_at hl 0 rfl) ?_
        refine xr_iald C w (xJ26 hJ) rfl 0 rfl ((4 * a) + b) rfl (by omega) (by decide) dMD_take_63 ?_
        refine lv_iconst (v := nI 4) hx hb dMD_take_64 xk_i4 ?_
        refine lv_icmp_eq hx hb dMD_take_65 rfl (fun hh4 => ?_) (fun hh4 => ?_)
        · skip
          refine lv_iconst (v := nI 0) hx hb dMD_take_72 xk_i0 ?_
          exfalso
          first | contradiction | grind
        · skip
          refine lv_iconst (v := nI 2) hx hb dMD_take_68 xk_i2 ?_
          refine lv_goto hx hb dMD_take_69 rfl ?_
          refine xd_callV C w hz hml hl.1 xk_MD_73 (cMD_refused2 l D cA tz I ad (σ) hJ) (xJ20 hJ) rfl rfl rfl rfl (Nat.le_of_ble_eq_true rfl) (by decide) (by decide) dMD_take_73 (fun H locs w => ?_)
          refine W.eq (g2 := F0 m 76 ls [.int (nI 1)]) rfl ?_
          refine lv_if_eq hx hb dMD_take_76 rfl (fun hq => absurd hq (by decide)) (fun _ => ?_)
          refine lv_iconst (v := nI 0) hx hb dMD_take_79 xk_i0 ?_
          exact xd_zf C w hr hlk dMD_take_80 (id) rfl
set_option maxRecDepth 100000 in
set_option maxHeartbeats 4000000 in
theorem cMD_take_no (l : Launch) (D : va_G) (cA : Nat → ClassId) (tz : Nat) (I : List (Nat × Nat)) (ad : Nat → Nat → Nat) (σ : xMem) (x y : Int32) (hJ : xJ I) (hn : ¬ (xp_in x (nI 4) ∧ xp_in y (nI 4))) : xD l yMD_take bMD_take 6 (some .boolean) 2 [.ref (ad 20 0), .int x, .int y] D cA tz I ad σ (some (.int (xb False))) (xu3 σ 20 0 0 (nI 1)) := by
  refine xd_of (by decide) (by simp [lg_sl, Value.category]) ?_
  intro p e s m args below meth c A ls C hr hlk hml hl w hz
  obtain ⟨hx, hb, hown, hts⟩ := id C
  have hl : lv_has ls 6 [(0, .ref (ad 20 0)), (1, .int x), (2, .int y)] := hl
  refine lv_iload_n hx hb dMD_take_0 rfl (lv_at hl 1 rfl) ?_
  refine lv_iconst (v := nI 4) hx hb dMD_take_1 xk_i4 ?_
  refine xd_callS C w hz hml hl.1 xk_MD_69 (cMD_isIn l D cA tz I ad (σ) x (nI 4)) rfl rfl (Nat.le_of_ble_eq_true rfl) (by decide) (by decide) dMD_take_2 (fun H locs w => ?_)
  refine W.eq (g2 := F0 m 5 ls [.int (xb (xp_in x (nI 4)))]) rfl ?_
  refine xz_ifeq hx hb dMD_take_5 rfl (fun hh1 => ?_) (fun hh1 => ?_)
  · skip
    refine lv_iconst (v := nI 0) hx hb dMD_take_20 xk_i0 ?_
    refine lv_istore_n (lv' := [(3, .int (nI 0)), (0, .ref (ad 20 0)), (1, .int x), (2, .int y)]) hx hb dMD_take_21 rfl hl (by decide) rfl (fun ls hl => ?_)
    refine lv_iload_n hx hb dMD_take_22 rfl (lv_at hl 0 rfl) ?_
    refine lv_if_eq hx hb dMD_take_23 rfl (fun _ => ?_) (fun hq => absurd nI_0 hq)
    refine lv_iconst (v := nI 0) hx hb dMD_take_34 xk_i0 ?_
    refine lv_istore (lv' := [(4, .int (nI 0)), (3, .int (nI 0)), (0, .ref (ad 20 0)), (1, .int x), (2, .int y)]) hx hb dMD_take_35 hl (by decide) rfl (fun ls hl => ?_)
    refine lv_aload_n hx hb dMD_take_37 rfl (lv_at hl 2 rfl) ?_
    refine lv_iload_n hx hb dMD_take_38 rfl (lv_at hl 1 rfl) ?_
    refine lv_if_ne hx hb dMD_take_39 rfl (fun hq => absurd nI_0 hq) (fun _ => ?_)
    refine lv_iconst (v := nI 1) hx hb dMD_take_42 xk_i1 ?_
    refine lv_goto hx hb dMD_take_43 rfl ?_
    refine xd_callV C w hz hml hl.1 xk_MD_73 (cMD_refused1 l D cA tz I ad (σ) hJ) (xJ20 hJ) rfl rfl rfl rfl (Nat.le_of_ble_eq_true rfl) (by decide) (by decide) dMD_take_73 (fun H locs w => ?_)
    refine W.eq (g2 := F0 m 76 ls [.int (nI 1)]) rfl ?_
    refine lv_if_eq hx hb dMD_take_76 rfl (fun hq => absurd hq (by decide)) (fun _ => ?_)
    refine lv_iconst (v := nI 0) hx hb dMD_take_79 xk_i0 ?_
    exact xd_zf C w hr hlk dMD_take_80 (id) rfl
  · skip
    refine lv_iload_n hx hb dMD_take_8 rfl (lv_at hl 2 rfl) ?_
    refine lv_iconst (v := nI 4) hx hb dMD_take_9 xk_i4 ?_
    refine xd_callS C w hz hml hl.1 xk_MD_69 (cMD_isIn l D cA tz I ad (σ) y (nI 4)) rfl rfl (Nat.le_of_ble_eq_true rfl) (by decide) (by decide) dMD_take_10 (fun H locs w => ?_)
    refine W.eq (g2 := F0 m 13 ls [.int (xb (xp_in y (nI 4)))]) rfl ?_
    refine xz_ifeq hx hb dMD_take_13 rfl (fun hh2 => ?_) (fun hh2 => ?_)
    · skip
      refine lv_iconst (v := nI 0) hx hb dMD_take_20 xk_i0 ?_
      refine lv_istore_n (lv' := [(3, .int (nI 0)), (0, .ref (ad 20 0)), (1, .int x), (2, .int y)]) hx hb dMD_take_21 rfl hl (by decide) rfl (fun ls hl => ?_)
      refine lv_iload_n hx hb dMD_take_22 rfl (lv_at hl 0 rfl) ?_
      refine lv_if_eq hx hb dMD_take_23 rfl (fun _ => ?_) (fun hq => absurd nI_0 hq)
      refine lv_iconst (v := nI 0) hx hb dMD_take_34 xk_i0 ?_
      refine lv_istore (lv' := [(4, .int (nI 0)), (3, .int (nI 0)), (0, .ref (ad 20 0)), (1, .int x), (2, .int y)]) hx hb dMD_take_35 hl (by decide) rfl (fun ls hl => ?_)
      refine lv_aload_n hx hb dMD_take_37 rfl (lv_at hl 2 rfl) ?_
      refine lv_iload_n hx hb dMD_take_38 rfl (lv_at hl 1 rfl) ?_
      refine lv_if_ne hx hb dMD_take_39 rfl (fun hq => absurd nI_0 hq) (fun _ => ?_)
      refine lv_iconst (v := nI 1) hx hb dMD_take_42 xk_i1 ?_
      refine lv_goto hx hb dMD_take_43 rfl ?_
      refine xd_callV C w hz hml hl.1 xk_MD_73 (cMD_refused1 l D cA tz I ad (σ) hJ) (xJ20 hJ) rfl rfl rfl rfl (Nat.le_of_ble_eq_true rfl) (by decide) (by decide) dMD_take_73 (fun H locs w => ?_)
      refine W.eq (g2 := F0 m 76 ls [.int (nI 1)]) rfl ?_
      refine lv_if_eq hx hb dMD_take_76 rfl (fun hq => absurd hq (by decide)) (fun _ => ?_)
      refine lv_iconst (v := nI 0) hx hb dMD_take_79 xk_i0 ?_
      exact xd_zf C w hr hlk dMD_take_80 (id) rfl
    · skip
      exfalso
      first | contradiction | grind
set_option maxRecDepth 100000 in
set_option maxHeartbeats 4000000 in
theorem cMD_base_ok (l : Launch) (D : va_G) (cA : Nat → ClassId) (tz : Nat) (I : List (Nat × Nat)) (ad : Nat → Nat → Nat) (σ : xMem) (a b : Nat) (hJ : xJ I) (ha : a < 4) (hb3 : b < 3) : xD l yMD_base bMD_base 3 none 2 [.ref (ad 20 0), .int (nI a), .int (nI b)] D cA tz I ad σ none (xu3 (xu3 σ 20 0 0 (nI 0)) 23 0 a (nI b)) := by
  refine xd_of (by decide) (by simp [lg_sl, Value.category]) ?_
  intro p e s m args below meth c A ls C hr hlk hml hl w hz
  obtain ⟨hx, hb, hown, hts⟩ := id C
  have hl : lv_has ls 3 [(0, .ref (ad 20 0)), (1, .int (nI a)), (2, .int (nI b))] := hl
  have hina : xp_in (nI a) (nI 4) := xp_in_n (by omega) (by decide)
  have hinb : xp_in (nI b) (nI 3) := xp_in_n (by omega) (by decide)
  refine lv_aload_n hx hb dMD_base_0 rfl (lv_at hl 0 rfl) ?_
  refine lv_iload_n hx hb dMD_base_1 rfl (lv_at hl 1 rfl) ?_
  refine lv_iconst (v := nI 4) hx hb dMD_base_2 xk_i4 ?_
  refine xd_callS C w hz hml hl.1 xk_MD_69 (cMD_isIn l D cA tz I ad (σ) (nI a) (nI 4)) rfl rfl (Nat.le_of_ble_eq_true rfl) (by decide) (by decide) dMD_base_3 (fun H locs w => ?_)
  refine W.eq (g2 := F0 m 6 ls [.int (xb (xp_in (nI a) (nI 4))), .ref (ad 20 0)]) rfl ?_
  refine xz_ifne hx hb dMD_base_6 rfl (fun hh1 => ?_) (fun hh1 => ?_)
  · skip
    refine lv_iload_n hx hb dMD_base_13 rfl (lv_at hl 2 rfl) ?_
    refine lv_iconst (v := nI 3) hx hb dMD_base_14 xk_i3 ?_
    refine xd_callS C w hz hml hl.1 xk_MD_69 (cMD_isIn l D cA tz I ad (σ) (nI b) (nI 3)) rfl rfl (Nat.le_of_ble_eq_true rfl) (by decide) (by decide) dMD_base_15 (fun H locs w => ?_)
    refine W.eq (g2 := F0 m 18 ls [.int (xb (xp_in (nI b) (nI 3))), .ref (ad 20 0)]) rfl ?_
    refine xz_ifne hx hb dMD_base_18 rfl (fun hh2 => ?_) (fun hh2 => ?_)
    · skip
      refine lv_iconst (v := nI 0) hx hb dMD_base_25 xk_i0 ?_
      refine xd_callV C w hz hml hl.1 xk_MD_73 (cMD_refused0 l D cA tz I ad (σ) hJ) (xJ20 hJ) rfl rfl rfl rfl (Nat.le_of_ble_eq_true rfl) (by decide) (by decide) dMD_base_26 (fun H locs w => ?_)
      refine W.eq (g2 := F0 m 29 ls [.int (nI 0)]) rfl ?_
      refine lv_if_ne hx hb dMD_base_29 rfl (fun hq => absurd nI_0 hq) (fun _ => ?_)
      refine lv_aload_n hx hb dMD_base_32 rfl (lv_at hl 0 rfl) ?_
      refine xg_MD_16 C w (xJ20 hJ) dMD_base_33 ?_
      refine lv_iload_n hx hb dMD_base_36 rfl (lv_at hl 1 rfl) ?_
      refine lv_iload_n hx hb dMD_base_37 rfl (lv_at hl 2 rfl) ?_
      refine xs_iast C w (xJ23 hJ) (fun _ => rfl) a rfl (by omega) (by decide) dMD_base_38 (fun H locs w => ?_)
      exact xd_vret C w hr hlk dMD_base_39 rfl
    · skip
      refine lv_iconst (v := nI 2) hx hb dMD_base_21 xk_i2 ?_
      refine lv_goto hx hb dMD_base_22 rfl ?_
      exfalso
      first | contradiction | grind
  · skip
    refine lv_iconst (v := nI 1) hx hb dMD_base_9 xk_i1 ?_
    refine lv_goto hx hb dMD_base_10 rfl ?_
    exfalso
    first | contradiction | grind
set_option maxRecDepth 100000 in
set_option maxHeartbeats 4000000 in
theorem cMD_base_no2 (l : Launch) (D : va_G) (cA : Nat → ClassId) (tz : Nat) (I : List (Nat × Nat)) (ad : Nat → Nat → Nat) (σ : xMem) (a : Nat) (x : Int32) (hJ : xJ I) (ha : a < 4) (hn : ¬ xp_in x (nI 3)) : xD l yMD_base bMD_base 3 none 2 [.ref (ad 20 0), .int (nI a), .int x] D cA tz I ad σ none (xu3 σ 20 0 0 (nI 2)) := by
  refine xd_of (by decide) (by simp [lg_sl, Value.category]) ?_
  intro p e s m args below meth c A ls C hr hlk hml hl w hz
  obtain ⟨hx, hb, hown, hts⟩ := id C
  have hl : lv_has ls 3 [(0, .ref (ad 20 0)), (1, .int (nI a)), (2, .int x)] := hl
  have hina : xp_in (nI a) (nI 4) := xp_in_n (by omega) (by decide)
  refine lv_aload_n hx hb dMD_base_0 rfl (lv_at hl 0 rfl) ?_
  refine lv_iload_n hx hb dMD_base_1 rfl (lv_at hl 1 rfl) ?_
  refine lv_iconst (v := nI 4) hx hb dMD_base_2 xk_i4 ?_
  refine xd_callS C w hz hml hl.1 xk_MD_69 (cMD_isIn l D cA tz I ad (σ) (nI a) (nI 4)) rfl rfl (Nat.le_of_ble_eq_true rfl) (by decide) (by decide) dMD_base_3 (fun H locs w => ?_)
  refine W.eq (g2 := F0 m 6 ls [.int (xb (xp_in (nI a) (nI 4))), .ref (ad 20 0)]) rfl ?_
  refine xz_ifne hx hb dMD_base_6 rfl (fun hh1 => ?_) (fun hh1 => ?_)
  · skip
    refine lv_iload_n hx hb dMD_base_13 rfl (lv_at hl 2 rfl) ?_
    refine lv_iconst (v := nI 3) hx hb dMD_base_14 xk_i3 ?_
    refine xd_callS C w hz hml hl.1 xk_MD_69 (cMD_isIn l D cA tz I ad (σ) x (nI 3)) rfl rfl (Nat.le_of_ble_eq_true rfl) (by decide) (by decide) dMD_base_15 (fun H locs w => ?_)
    refine W.eq (g2 := F0 m 18 ls [.int (xb (xp_in x (nI 3))), .ref (ad 20 0)]) rfl ?_
    refine xz_ifne hx hb dMD_base_18 rfl (fun hh2 => ?_) (fun hh2 => ?_)
    · skip
      refine lv_iconst (v := nI 0) hx hb dMD_base_25 xk_i0 ?_
      exfalso
      first | contradiction | grind
    · skip
      refine lv_iconst (v := nI 2) hx hb dMD_base_21 xk_i2 ?_
      refine lv_goto hx hb dMD_base_22 rfl ?_
      refine xd_callV C w hz hml hl.1 xk_MD_73 (cMD_refused2 l D cA tz I ad (σ) hJ) (xJ20 hJ) rfl rfl rfl rfl (Nat.le_of_ble_eq_true rfl) (by decide) (by decide) dMD_base_26 (fun H locs w => ?_)
      refine W.eq (g2 := F0 m 29 ls [.int (nI 1)]) rfl ?_
      refine lv_if_ne hx hb dMD_base_29 rfl (fun _ => ?_) (fun hq => absurd hq (by decide))
      exact xd_vret C w hr hlk dMD_base_39 rfl
  · skip
    refine lv_iconst (v := nI 1) hx hb dMD_base_9 xk_i1 ?_
    refine lv_goto hx hb dMD_base_10 rfl ?_
    exfalso
    first | contradiction | grind
set_option maxRecDepth 100000 in
set_option maxHeartbeats 4000000 in
theorem cMD_base_no (l : Launch) (D : va_G) (cA : Nat → ClassId) (tz : Nat) (I : List (Nat × Nat)) (ad : Nat → Nat → Nat) (σ : xMem) (x y : Int32) (hJ : xJ I) (hn : ¬ xp_in x (nI 4)) : xD l yMD_base bMD_base 3 none 2 [.ref (ad 20 0), .int x, .int y] D cA tz I ad σ none (xu3 σ 20 0 0 (nI 1)) := by
  refine xd_of (by decide) (by simp [lg_sl, Value.category]) ?_
  intro p e s m args below meth c A ls C hr hlk hml hl w hz
  obtain ⟨hx, hb, hown, hts⟩ := id C
  have hl : lv_has ls 3 [(0, .ref (ad 20 0)), (1, .int x), (2, .int y)] := hl
  refine lv_aload_n hx hb dMD_base_0 rfl (lv_at hl 0 rfl) ?_
  refine lv_iload_n hx hb dMD_base_1 rfl (lv_at hl 1 rfl) ?_
  refine lv_iconst (v := nI 4) hx hb dMD_base_2 xk_i4 ?_
  refine xd_callS C w hz hml hl.1 xk_MD_69 (cMD_isIn l D cA tz I ad (σ) x (nI 4)) rfl rfl (Nat.le_of_ble_eq_true rfl) (by decide) (by decide) dMD_base_3 (fun H locs w => ?_)
  refine W.eq (g2 := F0 m 6 ls [.int (xb (xp_in x (nI 4))), .ref (ad 20 0)]) rfl ?_
  refine xz_ifne hx hb dMD_base_6 rfl (fun hh1 => ?_) (fun hh1 => ?_)
  · skip
    refine lv_iload_n hx hb dMD_base_13 rfl (lv_at hl 2 rfl) ?_
    refine lv_iconst (v := nI 3) hx hb dMD_base_14 xk_i3 ?_
    refine xd_callS C w hz hml hl.1 xk_MD_69 (cMD_isIn l D cA tz I ad (σ) y (nI 3)) rfl rfl (Nat.le_of_ble_eq_true rfl) (by decide) (by decide) dMD_base_15 (fun H locs w => ?_)
    refine W.eq (g2 := F0 m 18 ls [.int (xb (xp_in y (nI 3))), .ref (ad 20 0)]) rfl ?_
    refine xz_ifne hx hb dMD_base_18 rfl (fun hh2 => ?_) (fun hh2 => ?_)
    · skip
      refine lv_iconst (v := nI 0) hx hb dMD_base_25 xk_i0 ?_
      exfalso
      first | contradiction | grind
    · skip
      refine lv_iconst (v := nI 2) hx hb dMD_base_21 xk_i2 ?_
      refine lv_goto hx hb dMD_base_22 rfl ?_
      exfalso
      first | contradiction | grind
  · skip
    refine lv_iconst (v := nI 1) hx hb dMD_base_9 xk_i1 ?_
    refine lv_goto hx hb dMD_base_10 rfl ?_
    refine xd_callV C w hz hml hl.1 xk_MD_73 (cMD_refused1 l D cA tz I ad (σ) hJ) (xJ20 hJ) rfl rfl rfl rfl (Nat.le_of_ble_eq_true rfl) (by decide) (by decide) dMD_base_26 (fun H locs w => ?_)
    refine W.eq (g2 := F0 m 29 ls [.int (nI 1)]) rfl ?_
    refine lv_if_ne hx hb dMD_base_29 rfl (fun _ => ?_) (fun hq => absurd hq (by decide))
    exact xd_vret C w hr hlk dMD_base_39 rfl
set_option maxRecDepth 100000 in
set_option maxHeartbeats 4000000 in
theorem cMD_credits_ok (l : Launch) (D : va_G) (cA : Nat → ClassId) (tz : Nat) (I : List (Nat × Nat)) (ad : Nat → Nat → Nat) (σ : xMem) (a : Nat) (hJ : xJ I) (ha : a < 3) : xD l yMD_credits bMD_credits 2 (some .int) 3 [.ref (ad 20 0), .int (nI a)] D cA tz I ad σ (some (.int (mf_cr σ (nI a) 16))) (xu3 σ 20 0 0 (nI 0)) := by
  refine xd_of (by decide) (by simp [lg_sl, Value.category]) ?_
  intro p e s m args below meth c A ls C hr hlk hml hl w hz
  obtain ⟨hx, hb, hown, hts⟩ := id C
  have hl : lv_has ls 2 [(0, .ref (ad 20 0)), (1, .int (nI a))] := hl
  have hina : xp_in (nI a) (nI 3) := xp_in_n (by omega) (by decide)
  refine lv_aload_n hx hb dMD_credits_0 rfl (lv_at hl 0 rfl) ?_
  refine lv_iload_n hx hb dMD_credits_1 rfl (lv_at hl 1 rfl) ?_
  refine lv_iconst (v := nI 3) hx hb dMD_credits_2 xk_i3 ?_
  refine xd_callS C w hz hml hl.1 xk_MD_69 (cMD_isIn l D cA tz I ad (σ) (nI a) (nI 3)) rfl rfl (Nat.le_of_ble_eq_true rfl) (by decide) (by decide) dMD_credits_3 (fun H locs w => ?_)
  refine W.eq (g2 := F0 m 6 ls [.int (xb (xp_in (nI a) (nI 3))), .ref (ad 20 0)]) rfl ?_
  refine xz_ifeq hx hb dMD_credits_6 rfl (fun hh1 => ?_) (fun hh1 => ?_)
  · skip
    refine lv_iconst (v := nI 1) hx hb dMD_credits_13 xk_i1 ?_
    exfalso
    first | contradiction | grind
  · skip
    refine lv_iconst (v := nI 0) hx hb dMD_credits_9 xk_i0 ?_
    refine lv_goto hx hb dMD_credits_10 rfl ?_
    refine xd_callV C w hz hml hl.1 xk_MD_73 (cMD_refused0 l D cA tz I ad (σ) hJ) (xJ20 hJ) rfl rfl rfl rfl (Nat.le_of_ble_eq_true rfl) (by decide) (by decide) dMD_credits_14 (fun H locs w => ?_)
    refine W.eq (g2 := F0 m 17 ls [.int (nI 0)]) rfl ?_
    refine lv_if_eq hx hb dMD_credits_17 rfl (fun _ => ?_) (fun hq => absurd nI_0 hq)
    refine lv_aload_n hx hb dMD_credits_24 rfl (lv_at hl 0 rfl) ?_
    refine lv_iload_n hx hb dMD_credits_25 rfl (lv_at hl 1 rfl) ?_
    refine xd_callV C w hz hml hl.1 xk_MD_110 (cMD_creditsOf l D cA tz I ad (xu3 σ 20 0 0 (nI 0)) (nI a) hJ) (xJ20 hJ) rfl rfl rfl rfl (Nat.le_of_ble_eq_true rfl) (by decide) (by decide) dMD_credits_26 (fun H locs w => ?_)
    refine W.eq (g2 := F0 m 29 ls [.int (mf_cr (xu3 σ 20 0 0 (nI 0)) (nI a) 16)]) rfl ?_
    exact xd_iret C w hr hlk dMD_credits_29 (mf_cr_f0 σ (nI a)) rfl
set_option maxRecDepth 100000 in
set_option maxHeartbeats 4000000 in
theorem cMD_credits_no (l : Launch) (D : va_G) (cA : Nat → ClassId) (tz : Nat) (I : List (Nat × Nat)) (ad : Nat → Nat → Nat) (σ : xMem) (x : Int32) (hJ : xJ I) (hn : ¬ xp_in x (nI 3)) : xD l yMD_credits bMD_credits 2 (some .int) 3 [.ref (ad 20 0), .int x] D cA tz I ad σ (some (.int (nI 0))) (xu3 σ 20 0 0 (nI 1)) := by
  refine xd_of (by decide) (by simp [lg_sl, Value.category]) ?_
  intro p e s m args below meth c A ls C hr hlk hml hl w hz
  obtain ⟨hx, hb, hown, hts⟩ := id C
  have hl : lv_has ls 2 [(0, .ref (ad 20 0)), (1, .int x)] := hl
  refine lv_aload_n hx hb dMD_credits_0 rfl (lv_at hl 0 rfl) ?_
  refine lv_iload_n hx hb dMD_credits_1 rfl (lv_at hl 1 rfl) ?_
  refine lv_iconst (v := nI 3) hx hb dMD_credits_2 xk_i3 ?_
  refine xd_callS C w hz hml hl.1 xk_MD_69 (cMD_isIn l D cA tz I ad (σ) x (nI 3)) rfl rfl (Nat.le_of_ble_eq_true rfl) (by decide) (by decide) dMD_credits_3 (fun H locs w => ?_)
  refine W.eq (g2 := F0 m 6 ls [.int (xb (xp_in x (nI 3))), .ref (ad 20 0)]) rfl ?_
  refine xz_ifeq hx hb dMD_credits_6 rfl (fun hh1 => ?_) (fun hh1 => ?_)
  · skip
    refine lv_iconst (v := nI 1) hx hb dMD_credits_13 xk_i1 ?_
    refine xd_callV C w hz hml hl.1 xk_MD_73 (cMD_refused1 l D cA tz I ad (σ) hJ) (xJ20 hJ) rfl rfl rfl rfl (Nat.le_of_ble_eq_true rfl) (by decide) (by decide) dMD_credits_14 (fun H locs w => ?_)
    refine W.eq (g2 := F0 m 17 ls [.int (nI 1)]) rfl ?_
    refine lv_if_eq hx hb dMD_credits_17 rfl (fun hq => absurd hq (by decide)) (fun _ => ?_)
    refine lv_iconst (v := nI 0) hx hb dMD_credits_20 xk_i0 ?_
    refine lv_goto hx hb dMD_credits_21 rfl ?_
    exact xd_iret C w hr hlk dMD_credits_29 (rfl) rfl
  · skip
    refine lv_iconst (v := nI 0) hx hb dMD_credits_9 xk_i0 ?_
    refine lv_goto hx hb dMD_credits_10 rfl ?_
    exfalso
    first | contradiction | grind
set_option maxRecDepth 100000 in
set_option maxHeartbeats 4000000 in
theorem cMD_holder_ok (l : Launch) (D : va_G) (cA : Nat → ClassId) (tz : Nat) (I : List (Nat × Nat)) (ad : Nat → Nat → Nat) (σ : xMem) (a : Nat) (hJ : xJ I) (ha : a < 3) : xD l yMD_holder bMD_holder 2 (some .int) 3 [.ref (ad 20 0), .int (nI a)] D cA tz I ad σ (some (.int (σ 25 0 a))) (xu3 σ 20 0 0 (nI 0)) := by
  refine xd_of (by decide) (by simp [lg_sl, Value.category]) ?_
  intro p e s m args below meth c A ls C hr hlk hml hl w hz
  obtain ⟨hx, hb, hown, hts⟩ := id C
  have hl : lv_has ls 2 [(0, .ref (ad 20 0)), (1, .int (nI a))] := hl
  have hina : xp_in (nI a) (nI 3) := xp_in_n (by omega) (by decide)
  refine lv_aload_n hx hb dMD_holder_0 rfl (lv_at hl 0 rfl) ?_
  refine lv_iload_n hx hb dMD_holder_1 rfl (lv_at hl 1 rfl) ?_
  refine lv_iconst (v := nI 3) hx hb dMD_holder_2 xk_i3 ?_
  refine xd_callS C w hz hml hl.1 xk_MD_69 (cMD_isIn l D cA tz I ad (σ) (nI a) (nI 3)) rfl rfl (Nat.le_of_ble_eq_true rfl) (by decide) (by decide) dMD_holder_3 (fun H locs w => ?_)
  refine W.eq (g2 := F0 m 6 ls [.int (xb (xp_in (nI a) (nI 3))), .ref (ad 20 0)]) rfl ?_
  refine xz_ifeq hx hb dMD_holder_6 rfl (fun hh1 => ?_) (fun hh1 => ?_)
  · skip
    refine lv_iconst (v := nI 1) hx hb dMD_holder_13 xk_i1 ?_
    exfalso
    first | contradiction | grind
  · skip
    refine lv_iconst (v := nI 0) hx hb dMD_holder_9 xk_i0 ?_
    refine lv_goto hx hb dMD_holder_10 rfl ?_
    refine xd_callV C w hz hml hl.1 xk_MD_73 (cMD_refused0 l D cA tz I ad (σ) hJ) (xJ20 hJ) rfl rfl rfl rfl (Nat.le_of_ble_eq_true rfl) (by decide) (by decide) dMD_holder_14 (fun H locs w => ?_)
    refine W.eq (g2 := F0 m 17 ls [.int (nI 0)]) rfl ?_
    refine lv_if_eq hx hb dMD_holder_17 rfl (fun _ => ?_) (fun hq => absurd nI_0 hq)
    refine lv_aload_n hx hb dMD_holder_24 rfl (lv_at hl 0 rfl) ?_
    refine xg_MD_23 C w (xJ20 hJ) dMD_holder_25 ?_
    refine lv_iload_n hx hb dMD_holder_28 rfl (lv_at hl 1 rfl) ?_
    refine xr_iald C w (xJ25 hJ) rfl 0 rfl a rfl (by omega) (by decide) dMD_holder_29 ?_
    refine xn_eq (y := σ 25 0 a) (by simp [xu3, xw_u2, va_up]) ?_
    exact xd_iret C w hr hlk dMD_holder_30 (rfl) rfl
set_option maxRecDepth 100000 in
set_option maxHeartbeats 4000000 in
theorem cMD_holder_no (l : Launch) (D : va_G) (cA : Nat → ClassId) (tz : Nat) (I : List (Nat × Nat)) (ad : Nat → Nat → Nat) (σ : xMem) (x : Int32) (hJ : xJ I) (hn : ¬ xp_in x (nI 3)) : xD l yMD_holder bMD_holder 2 (some .int) 3 [.ref (ad 20 0), .int x] D cA tz I ad σ (some (.int (nI 0))) (xu3 σ 20 0 0 (nI 1)) := by
  refine xd_of (by decide) (by simp [lg_sl, Value.category]) ?_
  intro p e s m args below meth c A ls C hr hlk hml hl w hz
  obtain ⟨hx, hb, hown, hts⟩ := id C
  have hl : lv_has ls 2 [(0, .ref (ad 20 0)), (1, .int x)] := hl
  refine lv_aload_n hx hb dMD_holder_0 rfl (lv_at hl 0 rfl) ?_
  refine lv_iload_n hx hb dMD_holder_1 rfl (lv_at hl 1 rfl) ?_
  refine lv_iconst (v := nI 3) hx hb dMD_holder_2 xk_i3 ?_
  refine xd_callS C w hz hml hl.1 xk_MD_69 (cMD_isIn l D cA tz I ad (σ) x (nI 3)) rfl rfl (Nat.le_of_ble_eq_true rfl) (by decide) (by decide) dMD_holder_3 (fun H locs w => ?_)
  refine W.eq (g2 := F0 m 6 ls [.int (xb (xp_in x (nI 3))), .ref (ad 20 0)]) rfl ?_
  refine xz_ifeq hx hb dMD_holder_6 rfl (fun hh1 => ?_) (fun hh1 => ?_)
  · skip
    refine lv_iconst (v := nI 1) hx hb dMD_holder_13 xk_i1 ?_
    refine xd_callV C w hz hml hl.1 xk_MD_73 (cMD_refused1 l D cA tz I ad (σ) hJ) (xJ20 hJ) rfl rfl rfl rfl (Nat.le_of_ble_eq_true rfl) (by decide) (by decide) dMD_holder_14 (fun H locs w => ?_)
    refine W.eq (g2 := F0 m 17 ls [.int (nI 1)]) rfl ?_
    refine lv_if_eq hx hb dMD_holder_17 rfl (fun hq => absurd hq (by decide)) (fun _ => ?_)
    refine lv_iconst (v := nI 0) hx hb dMD_holder_20 xk_i0 ?_
    refine lv_goto hx hb dMD_holder_21 rfl ?_
    exact xd_iret C w hr hlk dMD_holder_30 (rfl) rfl
  · skip
    refine lv_iconst (v := nI 0) hx hb dMD_holder_9 xk_i0 ?_
    refine lv_goto hx hb dMD_holder_10 rfl ?_
    exfalso
    first | contradiction | grind
set_option maxRecDepth 100000 in
set_option maxHeartbeats 4000000 in
theorem cMD_memory_ok (l : Launch) (D : va_G) (cA : Nat → ClassId) (tz : Nat) (I : List (Nat × Nat)) (ad : Nat → Nat → Nat) (σ : xMem) (a : Nat) (hJ : xJ I) (ha : a < 48) : xD l yMD_memory bMD_memory 2 (some .int) 3 [.ref (ad 20 0), .int (nI a)] D cA tz I ad σ (some (.int (σ 21 0 a))) (xu3 σ 20 0 0 (nI 0)) := by
  refine xd_of (by decide) (by simp [lg_sl, Value.category]) ?_
  intro p e s m args below meth c A ls C hr hlk hml hl w hz
  obtain ⟨hx, hb, hown, hts⟩ := id C
  have hl : lv_has ls 2 [(0, .ref (ad 20 0)), (1, .int (nI a))] := hl
  have hina : xp_in (nI a) (nI 48) := xp_in_n (by omega) (by decide)
  refine lv_aload_n hx hb dMD_memory_0 rfl (lv_at hl 0 rfl) ?_
  refine lv_iload_n hx hb dMD_memory_1 rfl (lv_at hl 1 rfl) ?_
  refine lv_bipush (v := nI 48) hx hb dMD_memory_2 xk_b48 ?_
  refine xd_callS C w hz hml hl.1 xk_MD_69 (cMD_isIn l D cA tz I ad (σ) (nI a) (nI 48)) rfl rfl (Nat.le_of_ble_eq_true rfl) (by decide) (by decide) dMD_memory_4 (fun H locs w => ?_)
  refine W.eq (g2 := F0 m 7 ls [.int (xb (xp_in (nI a) (nI 48))), .ref (ad 20 0)]) rfl ?_
  refine xz_ifeq hx hb dMD_memory_7 rfl (fun hh1 => ?_) (fun hh1 => ?_)
  · skip
    refine lv_iconst (v := nI 1) hx hb dMD_memory_14 xk_i1 ?_
    exfalso
    first | contradiction | grind
  · skip
    refine lv_iconst (v := nI 0) hx hb dMD_memory_10 xk_i0 ?_
    refine lv_goto hx hb dMD_memory_11 rfl ?_
    refine xd_callV C w hz hml hl.1 xk_MD_73 (cMD_refused0 l D cA tz I ad (σ) hJ) (xJ20 hJ) rfl rfl rfl rfl (Nat.le_of_ble_eq_true rfl) (by decide) (by decide) dMD_memory_15 (fun H locs w => ?_)
    refine W.eq (g2 := F0 m 18 ls [.int (nI 0)]) rfl ?_
    refine lv_if_eq hx hb dMD_memory_18 rfl (fun _ => ?_) (fun hq => absurd nI_0 hq)
    refine lv_aload_n hx hb dMD_memory_25 rfl (lv_at hl 0 rfl) ?_
    refine xg_MD_7 C w (xJ20 hJ) dMD_memory_26 ?_
    refine lv_iload_n hx hb dMD_memory_29 rfl (lv_at hl 1 rfl) ?_
    refine xr_iald C w (xJ21 hJ) rfl 0 rfl a rfl (by omega) (by decide) dMD_memory_30 ?_
    refine xn_eq (y := σ 21 0 a) (by simp [xu3, xw_u2, va_up]) ?_
    exact xd_iret C w hr hlk dMD_memory_31 (rfl) rfl
set_option maxRecDepth 100000 in
set_option maxHeartbeats 4000000 in
theorem cMD_memory_no (l : Launch) (D : va_G) (cA : Nat → ClassId) (tz : Nat) (I : List (Nat × Nat)) (ad : Nat → Nat → Nat) (σ : xMem) (x : Int32) (hJ : xJ I) (hn : ¬ xp_in x (nI 48)) : xD l yMD_memory bMD_memory 2 (some .int) 3 [.ref (ad 20 0), .int x] D cA tz I ad σ (some (.int (nI 0))) (xu3 σ 20 0 0 (nI 1)) := by
  refine xd_of (by decide) (by simp [lg_sl, Value.category]) ?_
  intro p e s m args below meth c A ls C hr hlk hml hl w hz
  obtain ⟨hx, hb, hown, hts⟩ := id C
  have hl : lv_has ls 2 [(0, .ref (ad 20 0)), (1, .int x)] := hl
  refine lv_aload_n hx hb dMD_memory_0 rfl (lv_at hl 0 rfl) ?_
  refine lv_iload_n hx hb dMD_memory_1 rfl (lv_at hl 1 rfl) ?_
  refine lv_bipush (v := nI 48) hx hb dMD_memory_2 xk_b48 ?_
  refine xd_callS C w hz hml hl.1 xk_MD_69 (cMD_isIn l D cA tz I ad (σ) x (nI 48)) rfl rfl (Nat.le_of_ble_eq_true rfl) (by decide) (by decide) dMD_memory_4 (fun H locs w => ?_)
  refine W.eq (g2 := F0 m 7 ls [.int (xb (xp_in x (nI 48))), .ref (ad 20 0)]) rfl ?_
  refine xz_ifeq hx hb dMD_memory_7 rfl (fun hh1 => ?_) (fun hh1 => ?_)
  · skip
    refine lv_iconst (v := nI 1) hx hb dMD_memory_14 xk_i1 ?_
    refine xd_callV C w hz hml hl.1 xk_MD_73 (cMD_refused1 l D cA tz I ad (σ) hJ) (xJ20 hJ) rfl rfl rfl rfl (Nat.le_of_ble_eq_true rfl) (by decide) (by decide) dMD_memory_15 (fun H locs w => ?_)
    refine W.eq (g2 := F0 m 18 ls [.int (nI 1)]) rfl ?_
    refine lv_if_eq hx hb dMD_memory_18 rfl (fun hq => absurd hq (by decide)) (fun _ => ?_)
    refine lv_iconst (v := nI 0) hx hb dMD_memory_21 xk_i0 ?_
    refine lv_goto hx hb dMD_memory_22 rfl ?_
    exact xd_iret C w hr hlk dMD_memory_31 (rfl) rfl
  · skip
    refine lv_iconst (v := nI 0) hx hb dMD_memory_10 xk_i0 ?_
    refine lv_goto hx hb dMD_memory_11 rfl ?_
    exfalso
    first | contradiction | grind
set_option maxRecDepth 100000 in
set_option maxHeartbeats 4000000 in
theorem cMD_service_ok (l : Launch) (D : va_G) (cA : Nat → ClassId) (tz : Nat) (I : List (Nat × Nat)) (ad : Nat → Nat → Nat) (σ : xMem) (ns a b : Nat) (hJ : xJ I) (hns : σ 20 0 21 = nI ns) (hn6 : ns < 600) (ha : a < ns) (hb6 : b < 6) : xD l yMD_service bMD_service 3 (some .int) 2 [.ref (ad 20 0), .int (nI a), .int (nI b)] D cA tz I ad σ (some (.int (σ 36 0 (6 * a + b)))) (xu3 σ 20 0 0 (nI 0)) := by
  refine xd_of (by decide) (by simp [lg_sl, Value.category]) ?_
  intro p e s m args below meth c A ls C hr hlk hml hl w hz
  obtain ⟨hx, hb, hown, hts⟩ := id C
  have hl : lv_has ls 3 [(0, .ref (ad 20 0)), (1, .int (nI a)), (2, .int (nI b))] := hl
  have hina : xp_in (nI a) (nI ns) := xp_in_n (by omega) (by omega)
  have hinb : xp_in (nI b) (nI 6) := xp_in_n (by omega) (by decide)
  refine lv_aload_n hx hb dMD_service_0 rfl (lv_at hl 0 rfl) ?_
  refine lv_iload_n hx hb dMD_service_1 rfl (lv_at hl 1 rfl) ?_
  refine lv_aload_n hx hb dMD_service_2 rfl (lv_at hl 0 rfl) ?_
  refine xg_MD_95 C w (xJ20 hJ) dMD_service_3 ?_
  refine xn_eq (y := nI ns) hns ?_
  refine xd_callS C w hz hml hl.1 xk_MD_69 (cMD_isIn l D cA tz I ad (σ) (nI a) (nI ns)) rfl rfl (Nat.le_of_ble_eq_true rfl) (by decide) (by decide) dMD_service_6 (fun H locs w => ?_)
  refine W.eq (g2 := F0 m 9 ls [.int (xb (xp_in (nI a) (nI ns))), .ref (ad 20 0)]) rfl ?_
  refine xz_ifne hx hb dMD_service_9 rfl (fun hh1 => ?_) (fun hh1 => ?_)
  · skip
    refine lv_iload_n hx hb dMD_service_16 rfl (lv_at hl 2 rfl) ?_
    refine lv_bipush (v := nI 6) hx hb dMD_service_17 xk_b6 ?_
    refine xd_callS C w hz hml hl.1 xk_MD_69 (cMD_isIn l D cA tz I ad (σ) (nI b) (nI 6)) rfl rfl (Nat.le_of_ble_eq_true rfl) (by decide) (by decide) dMD_service_19 (fun H locs w => ?_)
    refine W.eq (g2 := F0 m 22 ls [.int (xb (xp_in (nI b) (nI 6))), .ref (ad 20 0)]) rfl ?_
    refine xz_ifne hx hb dMD_service_22 rfl (fun hh2 => ?_) (fun hh2 => ?_)
    · skip
      refine lv_iconst (v := nI 0) hx hb dMD_service_29 xk_i0 ?_
      refine xd_callV C w hz hml hl.1 xk_MD_73 (cMD_refused0 l D cA tz I ad (σ) hJ) (xJ20 hJ) rfl rfl rfl rfl (Nat.le_of_ble_eq_true rfl) (by decide) (by decide) dMD_service_30 (fun H locs w => ?_)
      refine W.eq (g2 := F0 m 33 ls [.int (nI 0)]) rfl ?_
      refine lv_if_eq hx hb dMD_service_33 rfl (fun _ => ?_) (fun hq => absurd nI_0 hq)
      refine lv_aload_n hx hb dMD_service_40 rfl (lv_at hl 0 rfl) ?_
      refine xg_MD_63 C w (xJ20 hJ) dMD_service_41 ?_
      refine lv_bipush (v := nI 6) hx hb dMD_service_44 xk_b6 ?_
      refine lv_iload_n hx hb dMD_service_46 rfl (lv_at hl 1 rfl) ?_
      refine xn_mul hx hb dMD_service_47 ?_
      refine lv_iload_n hx hb dMD_service_48 rfl (lv_at hl 2 rfl) ?_
      refine xn_add hx hb dMD_service_49 ?_
      refine xr_iald C w (xJ36 hJ) rfl 0 rfl ((6 * a) + b) rfl (by omega) (by decide) dMD_service_50 ?_
      refine xn_eq (y := σ 36 0 ((6 * a) + b)) (by simp [xu3, xw_u2, va_up]) ?_
      exact xd_iret C w hr hlk dMD_service_51 (rfl) rfl
    · skip
      refine lv_iconst (v := nI 2) hx hb dMD_service_25 xk_i2 ?_
      refine lv_goto hx hb dMD_service_26 rfl ?_
      exfalso
      first | contradiction | grind
  · skip
    refine lv_iconst (v := nI 1) hx hb dMD_service_12 xk_i1 ?_
    refine lv_goto hx hb dMD_service_13 rfl ?_
    exfalso
    first | contradiction | grind
set_option maxRecDepth 100000 in
set_option maxHeartbeats 4000000 in
theorem cMD_service_no2 (l : Launch) (D : va_G) (cA : Nat → ClassId) (tz : Nat) (I : List (Nat × Nat)) (ad : Nat → Nat → Nat) (σ : xMem) (ns a : Nat) (x : Int32) (hJ : xJ I) (hns : σ 20 0 21 = nI ns) (hn6 : ns < 600) (ha : a < ns) (hn : ¬ xp_in x (nI 6)) : xD l yMD_service bMD_service 3 (some .int) 2 [.ref (ad 20 0), .int (nI a), .int x] D cA tz I ad σ (some (.int (nI 0))) (xu3 σ 20 0 0 (nI 2)) := by
  refine xd_of (by decide) (by simp [lg_sl, Value.category]) ?_
  intro p e s m args below meth c A ls C hr hlk hml hl w hz
  obtain ⟨hx, hb, hown, hts⟩ := id C
  have hl : lv_has ls 3 [(0, .ref (ad 20 0)), (1, .int (nI a)), (2, .int x)] := hl
  have hina : xp_in (nI a) (nI ns) := xp_in_n (by omega) (by omega)
  refine lv_aload_n hx hb dMD_service_0 rfl (lv_at hl 0 rfl) ?_
  refine lv_iload_n hx hb dMD_service_1 rfl (lv_at hl 1 rfl) ?_
  refine lv_aload_n hx hb dMD_service_2 rfl (lv_at hl 0 rfl) ?_
  refine xg_MD_95 C w (xJ20 hJ) dMD_service_3 ?_
  refine xn_eq (y := nI ns) hns ?_
  refine xd_callS C w hz hml hl.1 xk_MD_69 (cMD_isIn l D cA tz I ad (σ) (nI a) (nI ns)) rfl rfl (Nat.le_of_ble_eq_true rfl) (by decide) (by decide) dMD_service_6 (fun H locs w => ?_)
  refine W.eq (g2 := F0 m 9 ls [.int (xb (xp_in (nI a) (nI ns))), .ref (ad 20 0)]) rfl ?_
  refine xz_ifne hx hb dMD_service_9 rfl (fun hh1 => ?_) (fun hh1 => ?_)
  · skip
    refine lv_iload_n hx hb dMD_service_16 rfl (lv_at hl 2 rfl) ?_
    refine lv_bipush (v := nI 6) hx hb dMD_service_17 xk_b6 ?_
    refine xd_callS C w hz hml hl.1 xk_MD_69 (cMD_isIn l D cA tz I ad (σ) x (nI 6)) rfl rfl (Nat.le_of_ble_eq_true rfl) (by decide) (by decide) dMD_service_19 (fun H locs w => ?_)
    refine W.eq (g2 := F0 m 22 ls [.int (xb (xp_in x (nI 6))), .ref (ad 20 0)]) rfl ?_
    refine xz_ifne hx hb dMD_service_22 rfl (fun hh2 => ?_) (fun hh2 => ?_)
    · skip
      refine lv_iconst (v := nI 0) hx hb dMD_service_29 xk_i0 ?_
      exfalso
      first | contradiction | grind
    · skip
      refine lv_iconst (v := nI 2) hx hb dMD_service_25 xk_i2 ?_
      refine lv_goto hx hb dMD_service_26 rfl ?_
      refine xd_callV C w hz hml hl.1 xk_MD_73 (cMD_refused2 l D cA tz I ad (σ) hJ) (xJ20 hJ) rfl rfl rfl rfl (Nat.le_of_ble_eq_true rfl) (by decide) (by decide) dMD_service_30 (fun H locs w => ?_)
      refine W.eq (g2 := F0 m 33 ls [.int (nI 1)]) rfl ?_
      refine lv_if_eq hx hb dMD_service_33 rfl (fun hq => absurd hq (by decide)) (fun _ => ?_)
      refine lv_iconst (v := nI 0) hx hb dMD_service_36 xk_i0 ?_
      refine lv_goto hx hb dMD_service_37 rfl ?_
      exact xd_iret C w hr hlk dMD_service_51 (rfl) rfl
  · skip
    refine lv_iconst (v := nI 1) hx hb dMD_service_12 xk_i1 ?_
    refine lv_goto hx hb dMD_service_13 rfl ?_
    exfalso
    first | contradiction | grind
set_option maxRecDepth 100000 in
set_option maxHeartbeats 4000000 in
theorem cMD_service_no (l : Launch) (D : va_G) (cA : Nat → ClassId) (tz : Nat) (I : List (Nat × Nat)) (ad : Nat → Nat → Nat) (σ : xMem) (ns : Nat) (x y : Int32) (hJ : xJ I) (hns : σ 20 0 21 = nI ns) (hn6 : ns < 600) (hn : ¬ xp_in x (nI ns)) : xD l yMD_service bMD_service 3 (some .int) 2 [.ref (ad 20 0), .int x, .int y] D cA tz I ad σ (some (.int (nI 0))) (xu3 σ 20 0 0 (nI 1)) := by
  refine xd_of (by decide) (by simp [lg_sl, Value.category]) ?_
  intro p e s m args below meth c A ls C hr hlk hml hl w hz
  obtain ⟨hx, hb, hown, hts⟩ := id C
  have hl : lv_has ls 3 [(0, .ref (ad 20 0)), (1, .int x), (2, .int y)] := hl
  refine lv_aload_n hx hb dMD_service_0 rfl (lv_at hl 0 rfl) ?_
  refine lv_iload_n hx hb dMD_service_1 rfl (lv_at hl 1 rfl) ?_
  refine lv_aload_n hx hb dMD_service_2 rfl (lv_at hl 0 rfl) ?_
  refine xg_MD_95 C w (xJ20 hJ) dMD_service_3 ?_
  refine xn_eq (y := nI ns) hns ?_
  refine xd_callS C w hz hml hl.1 xk_MD_69 (cMD_isIn l D cA tz I ad (σ) x (nI ns)) rfl rfl (Nat.le_of_ble_eq_true rfl) (by decide) (by decide) dMD_service_6 (fun H locs w => ?_)
  refine W.eq (g2 := F0 m 9 ls [.int (xb (xp_in x (nI ns))), .ref (ad 20 0)]) rfl ?_
  refine xz_ifne hx hb dMD_service_9 rfl (fun hh1 => ?_) (fun hh1 => ?_)
  · skip
    refine lv_iload_n hx hb dMD_service_16 rfl (lv_at hl 2 rfl) ?_
    refine lv_bipush (v := nI 6) hx hb dMD_service_17 xk_b6 ?_
    refine xd_callS C w hz hml hl.1 xk_MD_69 (cMD_isIn l D cA tz I ad (σ) y (nI 6)) rfl rfl (Nat.le_of_ble_eq_true rfl) (by decide) (by decide) dMD_service_19 (fun H locs w => ?_)
    refine W.eq (g2 := F0 m 22 ls [.int (xb (xp_in y (nI 6))), .ref (ad 20 0)]) rfl ?_
    refine xz_ifne hx hb dMD_service_22 rfl (fun hh2 => ?_) (fun hh2 => ?_)
    · skip
      refine lv_iconst (v := nI 0) hx hb dMD_service_29 xk_i0 ?_
      exfalso
      first | contradiction | grind
    · skip
      refine lv_iconst (v := nI 2) hx hb dMD_service_25 xk_i2 ?_
      refine lv_goto hx hb dMD_service_26 rfl ?_
      exfalso
      first | contradiction | grind
  · skip
    refine lv_iconst (v := nI 1) hx hb dMD_service_12 xk_i1 ?_
    refine lv_goto hx hb dMD_service_13 rfl ?_
    refine xd_callV C w hz hml hl.1 xk_MD_73 (cMD_refused1 l D cA tz I ad (σ) hJ) (xJ20 hJ) rfl rfl rfl rfl (Nat.le_of_ble_eq_true rfl) (by decide) (by decide) dMD_service_30 (fun H locs w => ?_)
    refine W.eq (g2 := F0 m 33 ls [.int (nI 1)]) rfl ?_
    refine lv_if_eq hx hb dMD_service_33 rfl (fun hq => absurd hq (by decide)) (fun _ => ?_)
    refine lv_iconst (v := nI 0) hx hb dMD_service_36 xk_i0 ?_
    refine lv_goto hx hb dMD_service_37 rfl ?_
    exact xd_iret C w hr hlk dMD_service_51 (rfl) rfl
set_option maxRecDepth 100000 in
set_option maxHeartbeats 4000000 in
theorem cMD_waits_no (l : Launch) (D : va_G) (cA : Nat → ClassId) (tz : Nat) (I : List (Nat × Nat)) (ad : Nat → Nat → Nat) (σ : xMem) (x : Int32) (hJ : xJ I) (hn : ¬ xp_in x (nI 4)) : xD l yMD_waits bMD_waits 5 (some .int) 2 [.ref (ad 20 0), .int x] D cA tz I ad σ (some (.int (nI 0))) (xu3 σ 20 0 0 (nI 1)) := by
  refine xd_of (by decide) (by simp [lg_sl, Value.category]) ?_
  intro p e s m args below meth c A ls C hr hlk hml hl w hz
  obtain ⟨hx, hb, hown, hts⟩ := id C
  have hl : lv_has ls 5 [(0, .ref (ad 20 0)), (1, .int x)] := hl
  refine lv_aload_n hx hb dMD_waits_0 rfl (lv_at hl 0 rfl) ?_
  refine lv_iload_n hx hb dMD_waits_1 rfl (lv_at hl 1 rfl) ?_
  refine lv_iconst (v := nI 4) hx hb dMD_waits_2 xk_i4 ?_
  refine xd_callS C w hz hml hl.1 xk_MD_69 (cMD_isIn l D cA tz I ad (σ) x (nI 4)) rfl rfl (Nat.le_of_ble_eq_true rfl) (by decide) (by decide) dMD_waits_3 (fun H locs w => ?_)
  refine W.eq (g2 := F0 m 6 ls [.int (xb (xp_in x (nI 4))), .ref (ad 20 0)]) rfl ?_
  refine xz_ifeq hx hb dMD_waits_6 rfl (fun hh1 => ?_) (fun hh1 => ?_)
  · skip
    refine lv_iconst (v := nI 1) hx hb dMD_waits_13 xk_i1 ?_
    refine xd_callV C w hz hml hl.1 xk_MD_73 (cMD_refused1 l D cA tz I ad (σ) hJ) (xJ20 hJ) rfl rfl rfl rfl (Nat.le_of_ble_eq_true rfl) (by decide) (by decide) dMD_waits_14 (fun H locs w => ?_)
    refine W.eq (g2 := F0 m 17 ls [.int (nI 1)]) rfl ?_
    refine lv_if_eq hx hb dMD_waits_17 rfl (fun hq => absurd hq (by decide)) (fun _ => ?_)
    refine lv_iconst (v := nI 0) hx hb dMD_waits_20 xk_i0 ?_
    exact xd_iret C w hr hlk dMD_waits_21 (rfl) rfl
  · skip
    refine lv_iconst (v := nI 0) hx hb dMD_waits_9 xk_i0 ?_
    refine lv_goto hx hb dMD_waits_10 rfl ?_
    exfalso
    first | contradiction | grind
set_option maxRecDepth 100000 in
set_option maxHeartbeats 4000000 in
theorem cMD_waits_ok (l : Launch) (D : va_G) (cA : Nat → ClassId) (tz : Nat) (I : List (Nat × Nat)) (ad : Nat → Nat → Nat) (σ : xMem) (a : Nat) (hJ : xJ I) (ha : a < 4) : xD l yMD_waits bMD_waits 5 (some .int) 2 [.ref (ad 20 0), .int (nI a)] D cA tz I ad σ (some (.int (mf_wait σ (mf_wts σ a 4)))) (xu3 σ 20 0 0 (nI 0)) := by
  refine xd_of (by decide) (by simp [lg_sl, Value.category]) ?_
  intro p e s m args below meth c A ls C hr hlk hml hl w hz
  obtain ⟨hx, hb, hown, hts⟩ := id C
  have hl : lv_has ls 5 [(0, .ref (ad 20 0)), (1, .int (nI a))] := hl
  have hina : xp_in (nI a) (nI 4) := xp_in_n (by omega) (by decide)
  refine lv_aload_n hx hb dMD_waits_0 rfl (lv_at hl 0 rfl) ?_
  refine lv_iload_n hx hb dMD_waits_1 rfl (lv_at hl 1 rfl) ?_
  refine lv_iconst (v := nI 4) hx hb dMD_waits_2 xk_i4 ?_
  refine xd_callS C w hz hml hl.1 xk_MD_69 (cMD_isIn l D cA tz I ad (σ) (nI a) (nI 4)) rfl rfl (Nat.le_of_ble_eq_true rfl) (by decide) (by decide) dMD_waits_3 (fun H locs w => ?_)
  refine W.eq (g2 := F0 m 6 ls [.int (xb (xp_in (nI a) (nI 4))), .ref (ad 20 0)]) rfl ?_
  refine xz_ifeq hx hb dMD_waits_6 rfl (fun hh1 => ?_) (fun hh1 => ?_)
  · skip
    refine lv_iconst (v := nI 1) hx hb dMD_waits_13 xk_i1 ?_
    exfalso
    first | contradiction | grind
  · skip
    refine lv_iconst (v := nI 0) hx hb dMD_waits_9 xk_i0 ?_
    refine lv_goto hx hb dMD_waits_10 rfl ?_
    refine xd_callV C w hz hml hl.1 xk_MD_73 (cMD_refused0 l D cA tz I ad (σ) hJ) (xJ20 hJ) rfl rfl rfl rfl (Nat.le_of_ble_eq_true rfl) (by decide) (by decide) dMD_waits_14 (fun H locs w => ?_)
    refine W.eq (g2 := F0 m 17 ls [.int (nI 0)]) rfl ?_
    refine lv_if_eq hx hb dMD_waits_17 rfl (fun _ => ?_) (fun hq => absurd nI_0 hq)
    refine lv_iconst (v := -1) hx hb dMD_waits_22 xk_im1 ?_
    refine lv_istore_n (lv' := [(2, .int (-1)), (0, .ref (ad 20 0)), (1, .int (nI a))]) hx hb dMD_waits_23 rfl hl (by decide) rfl (fun ls hl => ?_)
    have hl : lv_has ls 5 [(2, .int (xoi (mf_wts (xu3 σ 20 0 0 (nI 0)) a 0))), (0, .ref (ad 20 0)), (1, .int (nI a))] := hl
    refine lv_iconst (v := nI 0) hx hb dMD_waits_24 xk_i0 ?_
    refine lv_istore_n (lv' := [(3, .int (nI 0)), (2, .int (xoi (mf_wts (xu3 σ 20 0 0 (nI 0)) a 0))), (0, .ref (ad 20 0)), (1, .int (nI a))]) hx hb dMD_waits_25 rfl hl (by decide) rfl (fun ls hl => ?_)
    refine xl_up (Wg := fun H locs ls => W p l e _ s m args below meth c H locs _ _ _ (F0 m 26 ls [])) (K := fun i H locs ls => xr_W xCl (xT cA) D I ad (xc cA tz ad (xu3 σ 20 0 0 (nI 0))) A s H locs ∧ lv_has ls 5 [(0, .ref (ad 20 0)), (1, .int (nI a)), (2, .int (xoi (mf_wts (xu3 σ 20 0 0 (nI 0)) a i))), (3, .int (nI i))]) 4 ?_ ?_ 0 _ _ _ (by omega) ⟨w, lv_sub hl [2, 3, 1, 0] rfl⟩
    · skip
      intro H locs ls ⟨w, hl⟩
      refine lv_iload_n hx hb dMD_waits_26 rfl (lv_at hl 3 rfl) ?_
      refine lv_iconst (v := nI 4) hx hb dMD_waits_27 xk_i4 ?_
      refine lv_icmp_ge hx hb dMD_waits_28 rfl (fun _ => ?_) (fun hq => absurd (nI_le (by omega) (by omega)) hq)
      rcases hbe : mf_wts (xu3 σ 20 0 0 (nI 0)) a 4 with _ | b
      · skip
        have hl : lv_has ls 5 [(0, .ref (ad 20 0)), (1, .int (nI a)), (2, .int (-1)), (3, .int (nI 4))] := by rw [hbe] at hl; exact hl
        refine lv_iload_n hx hb dMD_waits_82 rfl (lv_at hl 2 rfl) ?_
        refine lv_if_ge hx hb dMD_waits_83 rfl (fun hq => absurd hq (by decide)) (fun _ => ?_)
        refine lv_iconst (v := -1) hx hb dMD_waits_86 xk_im1 ?_
        refine lv_goto hx hb dMD_waits_87 rfl ?_
        exact xd_iret C w hr hlk dMD_waits_96 (show _ = mf_wait σ (mf_wts σ a 4) by rw [show mf_wts σ a 4 = none from hbe]; rfl) rfl
      · skip
        have hl : lv_has ls 5 [(0, .ref (ad 20 0)), (1, .int (nI a)), (2, .int (nI b)), (3, .int (nI 4))] := by rw [hbe] at hl; exact hl
        have hb16 := mf_wts_lt ha (by omega) hbe
        refine lv_iload_n hx hb dMD_waits_82 rfl (lv_at hl 2 rfl) ?_
        refine lv_if_ge hx hb dMD_waits_83 rfl (fun _ => ?_) (fun hq => absurd (nI_pos' (by omega)) hq)
        refine lv_aload_n hx hb dMD_waits_90 rfl (lv_at hl 0 rfl) ?_
        refine xg_MD_38 C w (xJ20 hJ) dMD_waits_91 ?_
        refine lv_iload_n hx hb dMD_waits_94 rfl (lv_at hl 2 rfl) ?_
        refine xr_iald C w (xJ30 hJ) rfl 0 rfl b rfl (by omega) (by decide) dMD_waits_95 ?_
        refine xn_eq (y := σ 30 0 b) (by simp [xu3, xw_u2, va_up]) ?_
        exact xd_iret C w hr hlk dMD_waits_96 (show _ = mf_wait σ (mf_wts σ a 4) by rw [show mf_wts σ a 4 = some b from hbe]; rfl) rfl
    · skip
      intro i H locs ls hii ⟨w, hl⟩ ihi
      refine lv_iload_n hx hb dMD_waits_26 rfl (lv_at hl 3 rfl) ?_
      refine lv_iconst (v := nI 4) hx hb dMD_waits_27 xk_i4 ?_
      refine lv_icmp_ge hx hb dMD_waits_28 rfl (fun hq => absurd hq (nI_ge (by omega) (by omega))) (fun _ => ?_)
      refine lv_iconst (v := nI 4) hx hb dMD_waits_31 xk_i4 ?_
      refine lv_iload_n hx hb dMD_waits_32 rfl (lv_at hl 1 rfl) ?_
      refine xn_mul hx hb dMD_waits_33 ?_
      refine lv_iload_n hx hb dMD_waits_34 rfl (lv_at hl 3 rfl) ?_
      refine xn_add hx hb dMD_waits_35 ?_
      refine lv_istore (lv' := [(4, .int (nI ((4 * a) + i))), (0, .ref (ad 20 0)), (1, .int (nI a)), (2, .int (xoi (mf_wts (xu3 σ 20 0 0 (nI 0)) a i))), (3, .int (nI i))]) hx hb dMD_waits_36 hl (by decide) rfl (fun ls hl => ?_)
      refine lv_aload_n hx hb dMD_waits_38 rfl (lv_at hl 1 rfl) ?_
      refine xg_MD_26 C w (xJ20 hJ) dMD_waits_39 ?_
      refine lv_iload hx hb dMD_waits_42 (lv_at hl 0 rfl) ?_
      refine xr_iald C w (xJ26 hJ) rfl 0 rfl ((4 * a) + i) rfl (by omega) (by decide) dMD_waits_44 ?_
      refine xn_eq (y := σ 26 0 ((4 * a) + i)) (by simp [xu3, xw_u2, va_up]) ?_
      refine lv_iconst (v := nI 1) hx hb dMD_waits_45 xk_i1 ?_
      refine lv_icmp_ne hx hb dMD_waits_46 rfl (fun hh2 => ?_) (fun hh2 => ?_)
      · skip
        refine lv_iload_n hx hb dMD_waits_74 rfl (lv_at hl 3 rfl) ?_
        refine xn_eq (y := xoi (mf_wts (xu3 σ 20 0 0 (nI 0)) a (i + 1))) (congrArg xoi (show mf_wts (xu3 σ 20 0 0 (nI 0)) a i = mf_wts (xu3 σ 20 0 0 (nI 0)) a (i + 1) by rw [mf_wts_s]; unfold xf_step; rw [xif_f (fun z => absurd z.1 (by assumption))])) ?_
        refine lv_istore_n (lv' := [(2, .int (xoi (mf_wts (xu3 σ 20 0 0 (nI 0)) a (i + 1)))), (4, .int (nI ((4 * a) + i))), (0, .ref (ad 20 0)), (1, .int (nI a)), (3, .int (nI i))]) hx hb dMD_waits_75 rfl hl (by decide) rfl (fun ls hl => ?_)
        refine lv_iinc (lv' := [(3, .int (nI (i + 1))), (2, .int (xoi (mf_wts (xu3 σ 20 0 0 (nI 0)) a (i + 1)))), (4, .int (nI ((4 * a) + i))), (0, .ref (ad 20 0)), (1, .int (nI a))]) hx hb dMD_waits_76 hl (k := 4) rfl (xn_inc _) (by decide) rfl (fun ls hl => ?_)
        refine lv_goto hx hb dMD_waits_79 rfl ?_
        exact ihi _ _ _ ⟨w, lv_sub hl [3, 4, 1, 0] rfl⟩
      · skip
        rcases hbe : mf_wts (xu3 σ 20 0 0 (nI 0)) a i with _ | b
        · skip
          have hl : lv_has ls 5 [(4, .int (nI ((4 * a) + i))), (0, .ref (ad 20 0)), (1, .int (nI a)), (2, .int (-1)), (3, .int (nI i))] := by rw [hbe] at hl; exact hl
          refine lv_iload_n hx hb dMD_waits_49 rfl (lv_at hl 3 rfl) ?_
          refine lv_if_lt hx hb dMD_waits_50 rfl (fun _ => ?_) (fun hq => absurd (by decide) hq)
          refine lv_iload hx hb dMD_waits_69 (lv_at hl 0 rfl) ?_
          refine lv_goto hx hb dMD_waits_71 rfl ?_
          refine xn_eq (y := xoi (mf_wts (xu3 σ 20 0 0 (nI 0)) a (i + 1))) (show nI (4 * a + i) = xoi (mf_wts (xu3 σ 20 0 0 (nI 0)) a (i + 1)) by rw [mf_wts_s]; unfold xf_step; rw [xif_t ⟨by assumption, fun x hx => (by rw [hbe] at hx; cases hx)⟩]; rfl) ?_
          refine lv_istore_n (lv' := [(2, .int (xoi (mf_wts (xu3 σ 20 0 0 (nI 0)) a (i + 1)))), (4, .int (nI ((4 * a) + i))), (0, .ref (ad 20 0)), (1, .int (nI a)), (3, .int (nI i))]) hx hb dMD_waits_75 rfl hl (by decide) rfl (fun ls hl => ?_)
          refine lv_iinc (lv' := [(3, .int (nI (i + 1))), (2, .int (xoi (mf_wts (xu3 σ 20 0 0 (nI 0)) a (i + 1)))), (4, .int (nI ((4 * a) + i))), (0, .ref (ad 20 0)), (1, .int (nI a))]) hx hb dMD_waits_76 hl (k := 4) rfl (xn_inc _) (by decide) rfl (fun ls hl => ?_)
          refine lv_goto hx hb dMD_waits_79 rfl ?_
          exact ihi _ _ _ ⟨w, lv_sub hl [3, 4, 1, 0] rfl⟩
        · skip
          have hl : lv_has ls 5 [(4, .int (nI ((4 * a) + i))), (0, .ref (ad 20 0)), (1, .int (nI a)), (2, .int (nI b)), (3, .int (nI i))] := by rw [hbe] at hl; exact hl
          have hb16 := mf_wts_lt ha (by omega) hbe
          refine lv_iload_n hx hb dMD_waits_49 rfl (lv_at hl 3 rfl) ?_
          refine lv_if_lt hx hb dMD_waits_50 rfl (fun hq => absurd hq (nI_pos (by omega))) (fun _ => ?_)
          refine lv_aload_n hx hb dMD_waits_53 rfl (lv_at hl 1 rfl) ?_
          refine xg_MD_41 C w (xJ20 hJ) dMD_waits_54 ?_
          refine lv_iload hx hb dMD_waits_57 (lv_at hl 0 rfl) ?_
          refine xr_iald C w (xJ31 hJ) rfl 0 rfl ((4 * a) + i) rfl (by omega) (by decide) dMD_waits_59 ?_
          refine xn_eq (y := σ 31 0 ((4 * a) + i)) (by simp [xu3, xw_u2, va_up]) ?_
          refine lv_aload_n hx hb dMD_waits_60 rfl (lv_at hl 1 rfl) ?_
          refine xg_MD_41 C w (xJ20 hJ) dMD_waits_61 ?_
          refine lv_iload_n hx hb dMD_waits_64 rfl (lv_at hl 3 rfl) ?_
          refine xr_iald C w (xJ31 hJ) rfl 0 rfl b rfl (by omega) (by decide) dMD_waits_65 ?_
          refine xn_eq (y := σ 31 0 b) (by simp [xu3, xw_u2, va_up]) ?_
          refine lv_icmp_ge hx hb dMD_waits_66 rfl (fun hh3 => ?_) (fun hh3 => ?_)
          · skip
            refine lv_iload_n hx hb dMD_waits_74 rfl (lv_at hl 3 rfl) ?_
            refine xn_eq (y := xoi (mf_wts (xu3 σ 20 0 0 (nI 0)) a (i + 1))) (show nI b = xoi (mf_wts (xu3 σ 20 0 0 (nI 0)) a (i + 1)) by rw [mf_wts_s]; unfold xf_step; rw [xif_f (fun z => absurd (z.2 b hbe) (Int32.not_lt.mpr (by assumption))), hbe]; rfl) ?_
            refine lv_istore_n (lv' := [(2, .int (xoi (mf_wts (xu3 σ 20 0 0 (nI 0)) a (i + 1)))), (4, .int (nI ((4 * a) + i))), (0, .ref (ad 20 0)), (1, .int (nI a)), (3, .int (nI i))]) hx hb dMD_waits_75 rfl hl (by decide) rfl (fun ls hl => ?_)
            refine lv_iinc (lv' := [(3, .int (nI (i + 1))), (2, .int (xoi (mf_wts (xu3 σ 20 0 0 (nI 0)) a (i + 1)))), (4, .int (nI ((4 * a) + i))), (0, .ref (ad 20 0)), (1, .int (nI a))]) hx hb dMD_waits_76 hl (k := 4) rfl (xn_inc _) (by decide) rfl (fun ls hl => ?_)
            refine lv_goto hx hb dMD_waits_79 rfl ?_
            exact ihi _ _ _ ⟨w, lv_sub hl [3, 4, 1, 0] rfl⟩
          · skip
            refine lv_iload hx hb dMD_waits_69 (lv_at hl 0 rfl) ?_
            refine lv_goto hx hb dMD_waits_71 rfl ?_
            refine xn_eq (y := xoi (mf_wts (xu3 σ 20 0 0 (nI 0)) a (i + 1))) (show nI (4 * a + i) = xoi (mf_wts (xu3 σ 20 0 0 (nI 0)) a (i + 1)) by rw [mf_wts_s]; unfold xf_step; rw [xif_t ⟨by assumption, fun x hx => (by rw [hbe] at hx; cases hx; exact Int32.not_le.mp (by assumption))⟩]; rfl) ?_
            refine lv_istore_n (lv' := [(2, .int (xoi (mf_wts (xu3 σ 20 0 0 (nI 0)) a (i + 1)))), (4, .int (nI ((4 * a) + i))), (0, .ref (ad 20 0)), (1, .int (nI a)), (3, .int (nI i))]) hx hb dMD_waits_75 rfl hl (by decide) rfl (fun ls hl => ?_)
            refine lv_iinc (lv' := [(3, .int (nI (i + 1))), (2, .int (xoi (mf_wts (xu3 σ 20 0 0 (nI 0)) a (i + 1)))), (4, .int (nI ((4 * a) + i))), (0, .ref (ad 20 0)), (1, .int (nI a))]) hx hb dMD_waits_76 hl (k := 4) rfl (xn_inc _) (by decide) rfl (fun ls hl => ?_)
            refine lv_goto hx hb dMD_waits_79 rfl ?_
            exact ihi _ _ _ ⟨w, lv_sub hl [3, 4, 1, 0] rfl⟩
set_option maxRecDepth 100000 in
set_option maxHeartbeats 4000000 in
theorem cMD_reset_no (l : Launch) (D : va_G) (cA : Nat → ClassId) (tz : Nat) (I : List (Nat × Nat)) (ad : Nat → Nat → Nat) (σ : xMem) (x : Int32) (hJ : xJ I) (hn : ¬ xp_in x (nI 4)) : xD l yMD_reset bMD_reset 5 (some .int) 2 [.ref (ad 20 0), .int x] D cA tz I ad σ (some (.int (nI 0))) (xu3 σ 20 0 0 (nI 1)) := by
  refine xd_of (by decide) (by simp [lg_sl, Value.category]) ?_
  intro p e s m args below meth c A ls C hr hlk hml hl w hz
  obtain ⟨hx, hb, hown, hts⟩ := id C
  have hl : lv_has ls 5 [(0, .ref (ad 20 0)), (1, .int x)] := hl
  refine lv_aload_n hx hb dMD_reset_0 rfl (lv_at hl 0 rfl) ?_
  refine lv_iload_n hx hb dMD_reset_1 rfl (lv_at hl 1 rfl) ?_
  refine lv_iconst (v := nI 4) hx hb dMD_reset_2 xk_i4 ?_
  refine xd_callS C w hz hml hl.1 xk_MD_69 (cMD_isIn l D cA tz I ad (σ) x (nI 4)) rfl rfl (Nat.le_of_ble_eq_true rfl) (by decide) (by decide) dMD_reset_3 (fun H locs w => ?_)
  refine W.eq (g2 := F0 m 6 ls [.int (xb (xp_in x (nI 4))), .ref (ad 20 0)]) rfl ?_
  refine xz_ifeq hx hb dMD_reset_6 rfl (fun hh1 => ?_) (fun hh1 => ?_)
  · skip
    refine lv_iconst (v := nI 1) hx hb dMD_reset_13 xk_i1 ?_
    refine xd_callV C w hz hml hl.1 xk_MD_73 (cMD_refused1 l D cA tz I ad (σ) hJ) (xJ20 hJ) rfl rfl rfl rfl (Nat.le_of_ble_eq_true rfl) (by decide) (by decide) dMD_reset_14 (fun H locs w => ?_)
    refine W.eq (g2 := F0 m 17 ls [.int (nI 1)]) rfl ?_
    refine lv_if_eq hx hb dMD_reset_17 rfl (fun hq => absurd hq (by decide)) (fun _ => ?_)
    refine lv_iconst (v := nI 0) hx hb dMD_reset_20 xk_i0 ?_
    exact xd_iret C w hr hlk dMD_reset_21 (rfl) rfl
  · skip
    refine lv_iconst (v := nI 0) hx hb dMD_reset_9 xk_i0 ?_
    refine lv_goto hx hb dMD_reset_10 rfl ?_
    exfalso
    first | contradiction | grind
set_option maxRecDepth 100000 in
set_option maxHeartbeats 4000000 in
theorem cMD_reset_ok (l : Launch) (D : va_G) (cA : Nat → ClassId) (tz : Nat) (I : List (Nat × Nat)) (ad : Nat → Nat → Nat) (σ : xMem) (a : Nat) (hJ : xJ I) (ha : a < 4) : xD l yMD_reset bMD_reset 5 (some .int) 2 [.ref (ad 20 0), .int (nI a)] D cA tz I ad σ (some (.int (nI (mf_cnt σ a 4)))) (mf_rel (mf_rst (xu3 σ 20 0 0 (nI 0)) a 4) (nI a) 3) := by
  refine xd_of (by decide) (by simp [lg_sl, Value.category]) ?_
  intro p e s m args below meth c A ls C hr hlk hml hl w hz
  obtain ⟨hx, hb, hown, hts⟩ := id C
  have hl : lv_has ls 5 [(0, .ref (ad 20 0)), (1, .int (nI a))] := hl
  have hina : xp_in (nI a) (nI 4) := xp_in_n (by omega) (by decide)
  refine lv_aload_n hx hb dMD_reset_0 rfl (lv_at hl 0 rfl) ?_
  refine lv_iload_n hx hb dMD_reset_1 rfl (lv_at hl 1 rfl) ?_
  refine lv_iconst (v := nI 4) hx hb dMD_reset_2 xk_i4 ?_
  refine xd_callS C w hz hml hl.1 xk_MD_69 (cMD_isIn l D cA tz I ad (σ) (nI a) (nI 4)) rfl rfl (Nat.le_of_ble_eq_true rfl) (by decide) (by decide) dMD_reset_3 (fun H locs w => ?_)
  refine W.eq (g2 := F0 m 6 ls [.int (xb (xp_in (nI a) (nI 4))), .ref (ad 20 0)]) rfl ?_
  refine xz_ifeq hx hb dMD_reset_6 rfl (fun hh1 => ?_) (fun hh1 => ?_)
  · skip
    refine lv_iconst (v := nI 1) hx hb dMD_reset_13 xk_i1 ?_
    exfalso
    first | contradiction | grind
  · skip
    refine lv_iconst (v := nI 0) hx hb dMD_reset_9 xk_i0 ?_
    refine lv_goto hx hb dMD_reset_10 rfl ?_
    refine xd_callV C w hz hml hl.1 xk_MD_73 (cMD_refused0 l D cA tz I ad (σ) hJ) (xJ20 hJ) rfl rfl rfl rfl (Nat.le_of_ble_eq_true rfl) (by decide) (by decide) dMD_reset_14 (fun H locs w => ?_)
    refine W.eq (g2 := F0 m 17 ls [.int (nI 0)]) rfl ?_
    refine lv_if_eq hx hb dMD_reset_17 rfl (fun _ => ?_) (fun hq => absurd nI_0 hq)
    refine lv_iconst (v := nI 0) hx hb dMD_reset_22 xk_i0 ?_
    refine lv_istore_n (lv' := [(2, .int (nI 0)), (0, .ref (ad 20 0)), (1, .int (nI a))]) hx hb dMD_reset_23 rfl hl (by decide) rfl (fun ls hl => ?_)
    have hl : lv_has ls 5 [(2, .int (nI (mf_cnt (xu3 σ 20 0 0 (nI 0)) a 0))), (0, .ref (ad 20 0)), (1, .int (nI a))] := hl
    refine lv_iconst (v := nI 0) hx hb dMD_reset_24 xk_i0 ?_
    refine lv_istore_n (lv' := [(3, .int (nI 0)), (2, .int (nI (mf_cnt (xu3 σ 20 0 0 (nI 0)) a 0))), (0, .ref (ad 20 0)), (1, .int (nI a))]) hx hb dMD_reset_25 rfl hl (by decide) rfl (fun ls hl => ?_)
    refine xl_up (Wg := fun H locs ls => W p l e _ s m args below meth c H locs _ _ _ (F0 m 26 ls [])) (K := fun i H locs ls => xr_W xCl (xT cA) D I ad (xc cA tz ad (mf_rst (xu3 σ 20 0 0 (nI 0)) a i)) A s H locs ∧ lv_has ls 5 [(0, .ref (ad 20 0)), (1, .int (nI a)), (2, .int (nI (mf_cnt (xu3 σ 20 0 0 (nI 0)) a i))), (3, .int (nI i))]) 4 ?_ ?_ 0 _ _ _ (by omega) ⟨by rw [mf_rst_0]; exact w, lv_sub hl [2, 3, 1, 0] rfl⟩
    · skip
      intro H locs ls ⟨w, hl⟩
      refine lv_iload_n hx hb dMD_reset_26 rfl (lv_at hl 3 rfl) ?_
      refine lv_iconst (v := nI 4) hx hb dMD_reset_27 xk_i4 ?_
      refine lv_icmp_ge hx hb dMD_reset_28 rfl (fun _ => ?_) (fun hq => absurd (nI_le (by omega) (by omega)) hq)
      refine lv_iconst (v := nI 0) hx hb dMD_reset_66 xk_i0 ?_
      refine lv_istore_n (lv' := [(3, .int (nI 0)), (0, .ref (ad 20 0)), (1, .int (nI a)), (2, .int (nI (mf_cnt (xu3 σ 20 0 0 (nI 0)) a 4)))]) hx hb dMD_reset_67 rfl hl (by decide) rfl (fun ls hl => ?_)
      refine xl_up (Wg := fun H locs ls => W p l e _ s m args below meth c H locs _ _ _ (F0 m 68 ls [])) (K := fun i H locs ls => xr_W xCl (xT cA) D I ad (xc cA tz ad (mf_rel (mf_rst (xu3 σ 20 0 0 (nI 0)) a 4) (nI a) i)) A s H locs ∧ lv_has ls 5 [(0, .ref (ad 20 0)), (1, .int (nI a)), (2, .int (nI (mf_cnt (xu3 σ 20 0 0 (nI 0)) a 4))), (3, .int (nI i))]) 3 ?_ ?_ 0 _ _ _ (by omega) ⟨by rw [mf_rel_0]; exact w, lv_sub hl [1, 2, 3, 0] rfl⟩
      · skip
        intro H locs ls ⟨w, hl⟩
        refine lv_iload_n hx hb dMD_reset_68 rfl (lv_at hl 3 rfl) ?_
        refine lv_iconst (v := nI 3) hx hb dMD_reset_69 xk_i3 ?_
        refine lv_icmp_ge hx hb dMD_reset_70 rfl (fun _ => ?_) (fun hq => absurd (nI_le (by omega) (by omega)) hq)
        refine lv_iload_n hx hb dMD_reset_105 rfl (lv_at hl 2 rfl) ?_
        exact xd_iret C w hr hlk dMD_reset_106 (rfl) rfl
      · skip
        intro i H locs ls hii ⟨w, hl⟩ ihi
        refine lv_iload_n hx hb dMD_reset_68 rfl (lv_at hl 3 rfl) ?_
        refine lv_iconst (v := nI 3) hx hb dMD_reset_69 xk_i3 ?_
        refine lv_icmp_ge hx hb dMD_reset_70 rfl (fun hq => absurd hq (nI_ge (by omega) (by omega))) (fun _ => ?_)
        refine lv_aload_n hx hb dMD_reset_73 rfl (lv_at hl 0 rfl) ?_
        refine xg_MD_23 C w (xJ20 hJ) dMD_reset_74 ?_
        refine lv_iload_n hx hb dMD_reset_77 rfl (lv_at hl 3 rfl) ?_
        refine lv_aload_n hx hb dMD_reset_78 rfl (lv_at hl 0 rfl) ?_
        refine xg_MD_23 C w (xJ20 hJ) dMD_reset_79 ?_
        refine lv_iload_n hx hb dMD_reset_82 rfl (lv_at hl 3 rfl) ?_
        refine xr_iald C w (xJ25 hJ) rfl 0 rfl i rfl (by omega) (by decide) dMD_reset_83 ?_
        refine lv_iload_n hx hb dMD_reset_84 rfl (lv_at hl 1 rfl) ?_
        refine lv_icmp_ne hx hb dMD_reset_85 rfl (fun hh2 => ?_) (fun hh2 => ?_)
        · skip
          refine lv_aload_n hx hb dMD_reset_92 rfl (lv_at hl 0 rfl) ?_
          refine xg_MD_23 C w (xJ20 hJ) dMD_reset_93 ?_
          refine lv_iload_n hx hb dMD_reset_96 rfl (lv_at hl 3 rfl) ?_
          refine xr_iald C w (xJ25 hJ) rfl 0 rfl i rfl (by omega) (by decide) dMD_reset_97 ?_
          refine xs_iast C w (xJ25 hJ) (fun _ => rfl) i rfl (by omega) (by decide) dMD_reset_98 (fun H locs w => ?_)
          refine lv_iinc (lv' := [(3, .int (nI (i + 1))), (0, .ref (ad 20 0)), (1, .int (nI a)), (2, .int (nI (mf_cnt (xu3 σ 20 0 0 (nI 0)) a 4)))]) hx hb dMD_reset_99 hl (k := 3) rfl (xn_inc _) (by decide) rfl (fun ls hl => ?_)
          refine lv_goto hx hb dMD_reset_102 rfl ?_
          exact ihi _ _ _ ⟨mf_rel_f hh2 ▸ w, lv_sub hl [1, 2, 3, 0] rfl⟩
        · skip
          refine lv_iconst (v := -1) hx hb dMD_reset_88 xk_im1 ?_
          refine lv_goto hx hb dMD_reset_89 rfl ?_
          refine xs_iast C w (xJ25 hJ) (fun _ => rfl) i rfl (by omega) (by decide) dMD_reset_98 (fun H locs w => ?_)
          refine lv_iinc (lv' := [(3, .int (nI (i + 1))), (0, .ref (ad 20 0)), (1, .int (nI a)), (2, .int (nI (mf_cnt (xu3 σ 20 0 0 (nI 0)) a 4)))]) hx hb dMD_reset_99 hl (k := 3) rfl (xn_inc _) (by decide) rfl (fun ls hl => ?_)
          refine lv_goto hx hb dMD_reset_102 rfl ?_
          exact ihi _ _ _ ⟨mf_rel_t hh2 ▸ w, lv_sub hl [1, 2, 3, 0] rfl⟩
    · skip
      intro i H locs ls hii ⟨w, hl⟩ ihi
      refine lv_iload_n hx hb dMD_reset_26 rfl (lv_at hl 3 rfl) ?_
      refine lv_iconst (v := nI 4) hx hb dMD_reset_27 xk_i4 ?_
      refine lv_icmp_ge hx hb dMD_reset_28 rfl (fun hq => absurd hq (nI_ge (by omega) (by omega))) (fun _ => ?_)
      refine lv_iconst (v := nI 4) hx hb dMD_reset_31 xk_i4 ?_
      refine lv_iload_n hx hb dMD_reset_32 rfl (lv_at hl 1 rfl) ?_
      refine xn_mul hx hb dMD_reset_33 ?_
      refine lv_iload_n hx hb dMD_reset_34 rfl (lv_at hl 3 rfl) ?_
      refine xn_add hx hb dMD_reset_35 ?_
      refine lv_istore (lv' := [(4, .int (nI ((4 * a) + i))), (0, .ref (ad 20 0)), (1, .int (nI a)), (2, .int (nI (mf_cnt (xu3 σ 20 0 0 (nI 0)) a i))), (3, .int (nI i))]) hx hb dMD_reset_36 hl (by decide) rfl (fun ls hl => ?_)
      refine lv_aload_n hx hb dMD_reset_38 rfl (lv_at hl 1 rfl) ?_
      refine xg_MD_26 C w (xJ20 hJ) dMD_reset_39 ?_
      refine lv_iload hx hb dMD_reset_42 (lv_at hl 0 rfl) ?_
      refine xr_iald C w (xJ26 hJ) rfl 0 rfl ((4 * a) + i) rfl (by omega) (by decide) dMD_reset_44 ?_
      refine lv_iconst (v := nI 1) hx hb dMD_reset_45 xk_i1 ?_
      refine lv_icmp_ne hx hb dMD_reset_46 rfl (fun hh3 => ?_) (fun hh3 => ?_)
      · skip
        have hl : lv_has ls 5 [(4, .int (nI ((4 * a) + i))), (0, .ref (ad 20 0)), (1, .int (nI a)), (2, .int (nI (mf_cnt (xu3 σ 20 0 0 (nI 0)) a (i + 1)))), (3, .int (nI i))] := by rw [← mf_cnt_f hh3]; exact hl
        refine lv_iinc (lv' := [(3, .int (nI (i + 1))), (4, .int (nI ((4 * a) + i))), (0, .ref (ad 20 0)), (1, .int (nI a)), (2, .int (nI (mf_cnt (xu3 σ 20 0 0 (nI 0)) a (i + 1))))]) hx hb dMD_reset_60 hl (k := 4) rfl (xn_inc _) (by decide) rfl (fun ls hl => ?_)
        refine lv_goto hx hb dMD_reset_63 rfl ?_
        exact ihi _ _ _ ⟨mf_rst_f hh3 ▸ w, lv_sub hl [2, 3, 4, 0] rfl⟩
      · skip
        refine lv_aload_n hx hb dMD_reset_49 rfl (lv_at hl 1 rfl) ?_
        refine xg_MD_26 C w (xJ20 hJ) dMD_reset_50 ?_
        refine lv_iload hx hb dMD_reset_53 (lv_at hl 0 rfl) ?_
        refine lv_iconst (v := nI 0) hx hb dMD_reset_55 xk_i0 ?_
        refine xs_iast C w (xJ26 hJ) (fun _ => rfl) ((4 * a) + i) rfl (by omega) (by decide) dMD_reset_56 (fun H locs w => ?_)
        refine lv_iinc (lv' := [(2, .int (nI (mf_cnt (xu3 σ 20 0 0 (nI 0)) a i + 1))), (4, .int (nI ((4 * a) + i))), (0, .ref (ad 20 0)), (1, .int (nI a)), (3, .int (nI i))]) hx hb dMD_reset_57 hl (k := 3) rfl (xn_inc _) (by decide) rfl (fun ls hl => ?_)
        have hl : lv_has ls 5 [(2, .int (nI (mf_cnt (xu3 σ 20 0 0 (nI 0)) a (i + 1)))), (4, .int (nI ((4 * a) + i))), (0, .ref (ad 20 0)), (1, .int (nI a)), (3, .int (nI i))] := by rw [← mf_cnt_t hh3]; exact hl
        refine lv_iinc (lv' := [(3, .int (nI (i + 1))), (2, .int (nI (mf_cnt (xu3 σ 20 0 0 (nI 0)) a (i + 1)))), (4, .int (nI ((4 * a) + i))), (0, .ref (ad 20 0)), (1, .int (nI a))]) hx hb dMD_reset_60 hl (k := 4) rfl (xn_inc _) (by decide) rfl (fun ls hl => ?_)
        refine lv_goto hx hb dMD_reset_63 rfl ?_
        exact ihi _ _ _ ⟨mf_rst_t hh3 ▸ w, lv_sub hl [3, 4, 1, 0] rfl⟩
end
