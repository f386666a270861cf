section
-- ===== PART A: goes FIRST, ahead of the names: the tables' words, and 'selects' of the private methods out of them =====
/-- a private method of a class that the tables say can be made, by its rows of tables_1 -/
def lw_okq (q : MethodName × Nat) : Prop := (q.1.cls ≠ "java/lang/invoke/MethodHandle" ∧ q.1.cls ≠ "java/lang/invoke/VarHandle") ∧ Cond.instantiable q.1.cls q.2 ∈ tables_1 ∧ Cond.privateMethod q.1 ∈ tables_1 ∧ Cond.instanceMethod q.1 ∈ tables_1
theorem lw_p0 : lw_okq (⟨"NextWay$Reader", "advance", "(LNextWay$Text;)V"⟩, 5) := ⟨⟨by decide +kernel, by decide +kernel⟩, List.mem_of_getElem? (i := 39) (by decide +kernel), List.mem_of_getElem? (i := 150) (by decide +kernel), List.mem_of_getElem? (i := 151) (by decide +kernel)⟩
theorem lw_p1 : lw_okq (⟨"NextWay$Reader", "doLine", "(LNextWay$Text;)Z"⟩, 5) := ⟨⟨by decide +kernel, by decide +kernel⟩, List.mem_of_getElem? (i := 39) (by decide +kernel), List.mem_of_getElem? (i := 161) (by decide +kernel), List.mem_of_getElem? (i := 162) (by decide +kernel)⟩
theorem lw_p2 : lw_okq (⟨"NextWay$Reader", "isWord", "(LNextWay$Text;Ljava/lang/String;)Z"⟩, 5) := ⟨⟨by decide +kernel, by decide +kernel⟩, List.mem_of_getElem? (i := 39) (by decide +kernel), List.mem_of_getElem? (i := 166) (by decide +kernel), List.mem_of_getElem? (i := 167) (by decide +kernel)⟩
theorem lw_p3 : lw_okq (⟨"NextWay$Reader", "doTown", "(LNextWay$Text;)Z"⟩, 5) := ⟨⟨by decide +kernel, by decide +kernel⟩, List.mem_of_getElem? (i := 39) (by decide +kernel), List.mem_of_getElem? (i := 218) (by decide +kernel), List.mem_of_getElem? (i := 219) (by decide +kernel)⟩
theorem lw_p4 : lw_okq (⟨"NextWay$Reader", "digit", "(LNextWay$Text;)I"⟩, 5) := ⟨⟨by decide +kernel, by decide +kernel⟩, List.mem_of_getElem? (i := 39) (by decide +kernel), List.mem_of_getElem? (i := 222) (by decide +kernel), List.mem_of_getElem? (i := 223) (by decide +kernel)⟩
theorem lw_p5 : lw_okq (⟨"NextWay$Reader", "doWay", "(LNextWay$Text;)Z"⟩, 5) := ⟨⟨by decide +kernel, by decide +kernel⟩, List.mem_of_getElem? (i := 39) (by decide +kernel), List.mem_of_getElem? (i := 231) (by decide +kernel), List.mem_of_getElem? (i := 232) (by decide +kernel)⟩
theorem lw_p6 : lw_okq (⟨"NextWay$Reader", "doVane", "(LNextWay$Text;)Z"⟩, 5) := ⟨⟨by decide +kernel, by decide +kernel⟩, List.mem_of_getElem? (i := 39) (by decide +kernel), List.mem_of_getElem? (i := 249) (by decide +kernel), List.mem_of_getElem? (i := 250) (by decide +kernel)⟩
theorem lw_p7 : lw_okq (⟨"NextWay$Reader", "doWalker", "(LNextWay$Text;)Z"⟩, 5) := ⟨⟨by decide +kernel, by decide +kernel⟩, List.mem_of_getElem? (i := 39) (by decide +kernel), List.mem_of_getElem? (i := 266) (by decide +kernel), List.mem_of_getElem? (i := 267) (by decide +kernel)⟩
theorem lw_p8 : lw_okq (⟨"NextWay$Reader", "kindWord", "(LNextWay$Text;)I"⟩, 5) := ⟨⟨by decide +kernel, by decide +kernel⟩, List.mem_of_getElem? (i := 39) (by decide +kernel), List.mem_of_getElem? (i := 287) (by decide +kernel), List.mem_of_getElem? (i := 288) (by decide +kernel)⟩
theorem lw_p9 : lw_okq (⟨"NextWay$Reader", "doKind", "(LNextWay$Text;I)Z"⟩, 5) := ⟨⟨by decide +kernel, by decide +kernel⟩, List.mem_of_getElem? (i := 39) (by decide +kernel), List.mem_of_getElem? (i := 295) (by decide +kernel), List.mem_of_getElem? (i := 296) (by decide +kernel)⟩
theorem lw_p10 : lw_okq (⟨"NextWay$Town", "stepOf", "(I)I"⟩, 6) := ⟨⟨by decide +kernel, by decide +kernel⟩, List.mem_of_getElem? (i := 45) (by decide +kernel), List.mem_of_getElem? (i := 360) (by decide +kernel), List.mem_of_getElem? (i := 361) (by decide +kernel)⟩
theorem lw_p11 : lw_okq (⟨"NextWay$Town", "turnedBy", "(III)I"⟩, 6) := ⟨⟨by decide +kernel, by decide +kernel⟩, List.mem_of_getElem? (i := 45) (by decide +kernel), List.mem_of_getElem? (i := 364) (by decide +kernel), List.mem_of_getElem? (i := 365) (by decide +kernel)⟩
theorem lw_p12 : lw_okq (⟨"NextWayModel", "token", "()V"⟩, 20) := ⟨⟨by decide +kernel, by decide +kernel⟩, List.mem_of_getElem? (i := 574) (by decide +kernel), List.mem_of_getElem? (i := 659) (by decide +kernel), List.mem_of_getElem? (i := 660) (by decide +kernel)⟩
theorem lw_p13 : lw_okq (⟨"NextWayModel", "readsLine", "()Z"⟩, 20) := ⟨⟨by decide +kernel, by decide +kernel⟩, List.mem_of_getElem? (i := 574) (by decide +kernel), List.mem_of_getElem? (i := 666) (by decide +kernel), List.mem_of_getElem? (i := 667) (by decide +kernel)⟩
theorem lw_p14 : lw_okq (⟨"NextWayModel", "wordOf", "()I"⟩, 20) := ⟨⟨by decide +kernel, by decide +kernel⟩, List.mem_of_getElem? (i := 574) (by decide +kernel), List.mem_of_getElem? (i := 670) (by decide +kernel), List.mem_of_getElem? (i := 671) (by decide +kernel)⟩
theorem lw_p15 : lw_okq (⟨"NextWayModel", "cornerWord", "()I"⟩, 20) := ⟨⟨by decide +kernel, by decide +kernel⟩, List.mem_of_getElem? (i := 574) (by decide +kernel), List.mem_of_getElem? (i := 674) (by decide +kernel), List.mem_of_getElem? (i := 675) (by decide +kernel)⟩
def lw_privs_1 : List (MethodName × Nat) := [(⟨"NextWay$Reader", "advance", "(LNextWay$Text;)V"⟩, 5), (⟨"NextWay$Reader", "doLine", "(LNextWay$Text;)Z"⟩, 5), (⟨"NextWay$Reader", "isWord", "(LNextWay$Text;Ljava/lang/String;)Z"⟩, 5), (⟨"NextWay$Reader", "doTown", "(LNextWay$Text;)Z"⟩, 5), (⟨"NextWay$Reader", "digit", "(LNextWay$Text;)I"⟩, 5), (⟨"NextWay$Reader", "doWay", "(LNextWay$Text;)Z"⟩, 5), (⟨"NextWay$Reader", "doVane", "(LNextWay$Text;)Z"⟩, 5), (⟨"NextWay$Reader", "doWalker", "(LNextWay$Text;)Z"⟩, 5), (⟨"NextWay$Reader", "kindWord", "(LNextWay$Text;)I"⟩, 5), (⟨"NextWay$Reader", "doKind", "(LNextWay$Text;I)Z"⟩, 5), (⟨"NextWay$Town", "stepOf", "(I)I"⟩, 6), (⟨"NextWay$Town", "turnedBy", "(III)I"⟩, 6), (⟨"NextWayModel", "token", "()V"⟩, 20), (⟨"NextWayModel", "readsLine", "()Z"⟩, 20), (⟨"NextWayModel", "wordOf", "()I"⟩, 20), (⟨"NextWayModel", "cornerWord", "()I"⟩, 20)]
theorem lw_r1 : ∀ q ∈ lw_privs_1, lw_okq q := List.forall_mem_cons.mpr ⟨lw_p0, List.forall_mem_cons.mpr ⟨lw_p1, List.forall_mem_cons.mpr ⟨lw_p2, List.forall_mem_cons.mpr ⟨lw_p3, List.forall_mem_cons.mpr ⟨lw_p4, List.forall_mem_cons.mpr ⟨lw_p5, List.forall_mem_cons.mpr ⟨lw_p6, List.forall_mem_cons.mpr ⟨lw_p7, List.forall_mem_cons.mpr ⟨lw_p8, List.forall_mem_cons.mpr ⟨lw_p9, List.forall_mem_cons.mpr ⟨lw_p10, List.forall_mem_cons.mpr ⟨lw_p11, List.forall_mem_cons.mpr ⟨lw_p12, List.forall_mem_cons.mpr ⟨lw_p13, List.forall_mem_cons.mpr ⟨lw_p14, List.forall_mem_cons.mpr ⟨lw_p15, fun _ h => absurd h List.not_mem_nil⟩⟩⟩⟩⟩⟩⟩⟩⟩⟩⟩⟩⟩⟩⟩⟩
theorem lw_p16 : lw_okq (⟨"NextWayModel", "isWord", "(III)Z"⟩, 20) := ⟨⟨by decide +kernel, by decide +kernel⟩, List.mem_of_getElem? (i := 574) (by decide +kernel), List.mem_of_getElem? (i := 679) (by decide +kernel), List.mem_of_getElem? (i := 680) (by decide +kernel)⟩
theorem lw_p17 : lw_okq (⟨"NextWayModel", "readsRest", "(I)Z"⟩, 20) := ⟨⟨by decide +kernel, by decide +kernel⟩, List.mem_of_getElem? (i := 574) (by decide +kernel), List.mem_of_getElem? (i := 690) (by decide +kernel), List.mem_of_getElem? (i := 691) (by decide +kernel)⟩
theorem lw_p18 : lw_okq (⟨"NextWayModel", "numberHere", "()I"⟩, 20) := ⟨⟨by decide +kernel, by decide +kernel⟩, List.mem_of_getElem? (i := 574) (by decide +kernel), List.mem_of_getElem? (i := 694) (by decide +kernel), List.mem_of_getElem? (i := 695) (by decide +kernel)⟩
theorem lw_p19 : lw_okq (⟨"NextWayModel", "reads", "(III)Z"⟩, 20) := ⟨⟨by decide +kernel, by decide +kernel⟩, List.mem_of_getElem? (i := 574) (by decide +kernel), List.mem_of_getElem? (i := 698) (by decide +kernel), List.mem_of_getElem? (i := 699) (by decide +kernel)⟩
theorem lw_p20 : lw_okq (⟨"NextWayModel", "tell", "(I)V"⟩, 20) := ⟨⟨by decide +kernel, by decide +kernel⟩, List.mem_of_getElem? (i := 574) (by decide +kernel), List.mem_of_getElem? (i := 707) (by decide +kernel), List.mem_of_getElem? (i := 708) (by decide +kernel)⟩
theorem lw_p21 : lw_okq (⟨"NextWayModel", "clear", "(I)V"⟩, 20) := ⟨⟨by decide +kernel, by decide +kernel⟩, List.mem_of_getElem? (i := 574) (by decide +kernel), List.mem_of_getElem? (i := 711) (by decide +kernel), List.mem_of_getElem? (i := 712) (by decide +kernel)⟩
theorem lw_p22 : lw_okq (⟨"NextWayModel", "copy", "(II)V"⟩, 20) := ⟨⟨by decide +kernel, by decide +kernel⟩, List.mem_of_getElem? (i := 574) (by decide +kernel), List.mem_of_getElem? (i := 715) (by decide +kernel), List.mem_of_getElem? (i := 716) (by decide +kernel)⟩
theorem lw_p23 : lw_okq (⟨"NextWayModel", "isCorner", "(I)Z"⟩, 20) := ⟨⟨by decide +kernel, by decide +kernel⟩, List.mem_of_getElem? (i := 574) (by decide +kernel), List.mem_of_getElem? (i := 723) (by decide +kernel), List.mem_of_getElem? (i := 724) (by decide +kernel)⟩
theorem lw_p24 : lw_okq (⟨"NextWayModel", "vaneOf", "(II)I"⟩, 20) := ⟨⟨by decide +kernel, by decide +kernel⟩, List.mem_of_getElem? (i := 574) (by decide +kernel), List.mem_of_getElem? (i := 727) (by decide +kernel), List.mem_of_getElem? (i := 728) (by decide +kernel)⟩
theorem lw_p25 : lw_okq (⟨"NextWayModel", "isLeft", "(I)Z"⟩, 20) := ⟨⟨by decide +kernel, by decide +kernel⟩, List.mem_of_getElem? (i := 574) (by decide +kernel), List.mem_of_getElem? (i := 740) (by decide +kernel), List.mem_of_getElem? (i := 741) (by decide +kernel)⟩
theorem lw_p26 : lw_okq (⟨"NextWayModel", "nextVane", "(II)I"⟩, 20) := ⟨⟨by decide +kernel, by decide +kernel⟩, List.mem_of_getElem? (i := 574) (by decide +kernel), List.mem_of_getElem? (i := 744) (by decide +kernel), List.mem_of_getElem? (i := 745) (by decide +kernel)⟩
theorem lw_p27 : lw_okq (⟨"NextWayModel", "turns", "(I)I"⟩, 20) := ⟨⟨by decide +kernel, by decide +kernel⟩, List.mem_of_getElem? (i := 574) (by decide +kernel), List.mem_of_getElem? (i := 748) (by decide +kernel), List.mem_of_getElem? (i := 749) (by decide +kernel)⟩
theorem lw_p28 : lw_okq (⟨"NextWayModel", "isWalker", "(I)Z"⟩, 20) := ⟨⟨by decide +kernel, by decide +kernel⟩, List.mem_of_getElem? (i := 574) (by decide +kernel), List.mem_of_getElem? (i := 756) (by decide +kernel), List.mem_of_getElem? (i := 757) (by decide +kernel)⟩
theorem lw_p29 : lw_okq (⟨"NextWayModel", "beat", "(I)V"⟩, 20) := ⟨⟨by decide +kernel, by decide +kernel⟩, List.mem_of_getElem? (i := 574) (by decide +kernel), List.mem_of_getElem? (i := 766) (by decide +kernel), List.mem_of_getElem? (i := 767) (by decide +kernel)⟩
theorem lw_p30 : lw_okq (⟨"NextWayModel", "leave", "(II)I"⟩, 20) := ⟨⟨by decide +kernel, by decide +kernel⟩, List.mem_of_getElem? (i := 574) (by decide +kernel), List.mem_of_getElem? (i := 770) (by decide +kernel), List.mem_of_getElem? (i := 771) (by decide +kernel)⟩
theorem lw_p31 : lw_okq (⟨"NextWayModel", "firstAt", "(III)I"⟩, 20) := ⟨⟨by decide +kernel, by decide +kernel⟩, List.mem_of_getElem? (i := 574) (by decide +kernel), List.mem_of_getElem? (i := 799) (by decide +kernel), List.mem_of_getElem? (i := 800) (by decide +kernel)⟩
def lw_privs_2 : List (MethodName × Nat) := [(⟨"NextWayModel", "isWord", "(III)Z"⟩, 20), (⟨"NextWayModel", "readsRest", "(I)Z"⟩, 20), (⟨"NextWayModel", "numberHere", "()I"⟩, 20), (⟨"NextWayModel", "reads", "(III)Z"⟩, 20), (⟨"NextWayModel", "tell", "(I)V"⟩, 20), (⟨"NextWayModel", "clear", "(I)V"⟩, 20), (⟨"NextWayModel", "copy", "(II)V"⟩, 20), (⟨"NextWayModel", "isCorner", "(I)Z"⟩, 20), (⟨"NextWayModel", "vaneOf", "(II)I"⟩, 20), (⟨"NextWayModel", "isLeft", "(I)Z"⟩, 20), (⟨"NextWayModel", "nextVane", "(II)I"⟩, 20), (⟨"NextWayModel", "turns", "(I)I"⟩, 20), (⟨"NextWayModel", "isWalker", "(I)Z"⟩, 20), (⟨"NextWayModel", "beat", "(I)V"⟩, 20), (⟨"NextWayModel", "leave", "(II)I"⟩, 20), (⟨"NextWayModel", "firstAt", "(III)I"⟩, 20)]
theorem lw_r2 : ∀ q ∈ lw_privs_2, lw_okq q := List.forall_mem_cons.mpr ⟨lw_p16, List.forall_mem_cons.mpr ⟨lw_p17, List.forall_mem_cons.mpr ⟨lw_p18, List.forall_mem_cons.mpr ⟨lw_p19, List.forall_mem_cons.mpr ⟨lw_p20, List.forall_mem_cons.mpr ⟨lw_p21, List.forall_mem_cons.mpr ⟨lw_p22, List.forall_mem_cons.mpr ⟨lw_p23, List.forall_mem_cons.mpr ⟨lw_p24, List.forall_mem_cons.mpr ⟨lw_p25, List.forall_mem_cons.mpr ⟨lw_p26, List.forall_mem_cons.mpr ⟨lw_p27, List.forall_mem_cons.mpr ⟨lw_p28, List.forall_mem_cons.mpr ⟨lw_p29, List.forall_mem_cons.mpr ⟨lw_p30, List.forall_mem_cons.mpr ⟨lw_p31, fun _ h => absurd h List.not_mem_nil⟩⟩⟩⟩⟩⟩⟩⟩⟩⟩⟩⟩⟩⟩⟩⟩
theorem lw_p32 : lw_okq (⟨"NextWayModel", "stateOf", "(I)I"⟩, 20) := ⟨⟨by decide +kernel, by decide +kernel⟩, List.mem_of_getElem? (i := 574) (by decide +kernel), List.mem_of_getElem? (i := 815) (by decide +kernel), List.mem_of_getElem? (i := 816) (by decide +kernel)⟩
theorem lw_p33 : lw_okq (⟨"NextWayModel", "rows", "()I"⟩, 20) := ⟨⟨by decide +kernel, by decide +kernel⟩, List.mem_of_getElem? (i := 574) (by decide +kernel), List.mem_of_getElem? (i := 823) (by decide +kernel), List.mem_of_getElem? (i := 824) (by decide +kernel)⟩
theorem lw_p34 : lw_okq (⟨"NextWayModel", "beatsBy", "(III)I"⟩, 20) := ⟨⟨by decide +kernel, by decide +kernel⟩, List.mem_of_getElem? (i := 574) (by decide +kernel), List.mem_of_getElem? (i := 827) (by decide +kernel), List.mem_of_getElem? (i := 828) (by decide +kernel)⟩
theorem lw_p35 : lw_okq (⟨"NextWayModel", "vaneIn", "(II)I"⟩, 20) := ⟨⟨by decide +kernel, by decide +kernel⟩, List.mem_of_getElem? (i := 574) (by decide +kernel), List.mem_of_getElem? (i := 831) (by decide +kernel), List.mem_of_getElem? (i := 832) (by decide +kernel)⟩
theorem lw_p36 : lw_okq (⟨"NextWayModel", "fewest", "(III)I"⟩, 20) := ⟨⟨by decide +kernel, by decide +kernel⟩, List.mem_of_getElem? (i := 574) (by decide +kernel), List.mem_of_getElem? (i := 843) (by decide +kernel), List.mem_of_getElem? (i := 844) (by decide +kernel)⟩
theorem lw_p37 : lw_okq (⟨"NextWayModel", "areTurns", "()Z"⟩, 20) := ⟨⟨by decide +kernel, by decide +kernel⟩, List.mem_of_getElem? (i := 574) (by decide +kernel), List.mem_of_getElem? (i := 847) (by decide +kernel), List.mem_of_getElem? (i := 848) (by decide +kernel)⟩
theorem lw_p38 : lw_okq (⟨"NextWayModel", "comesBy", "(III)Z"⟩, 20) := ⟨⟨by decide +kernel, by decide +kernel⟩, List.mem_of_getElem? (i := 574) (by decide +kernel), List.mem_of_getElem? (i := 851) (by decide +kernel), List.mem_of_getElem? (i := 852) (by decide +kernel)⟩
theorem lw_p39 : lw_okq (⟨"NextWayModel", "nextTries", "()Z"⟩, 20) := ⟨⟨by decide +kernel, by decide +kernel⟩, List.mem_of_getElem? (i := 574) (by decide +kernel), List.mem_of_getElem? (i := 855) (by decide +kernel), List.mem_of_getElem? (i := 856) (by decide +kernel)⟩
theorem lw_p40 : lw_okq (⟨"NextWayModel", "wasBy", "(III)I"⟩, 20) := ⟨⟨by decide +kernel, by decide +kernel⟩, List.mem_of_getElem? (i := 574) (by decide +kernel), List.mem_of_getElem? (i := 875) (by decide +kernel), List.mem_of_getElem? (i := 876) (by decide +kernel)⟩
def lw_privs_3 : List (MethodName × Nat) := [(⟨"NextWayModel", "stateOf", "(I)I"⟩, 20), (⟨"NextWayModel", "rows", "()I"⟩, 20), (⟨"NextWayModel", "beatsBy", "(III)I"⟩, 20), (⟨"NextWayModel", "vaneIn", "(II)I"⟩, 20), (⟨"NextWayModel", "fewest", "(III)I"⟩, 20), (⟨"NextWayModel", "areTurns", "()Z"⟩, 20), (⟨"NextWayModel", "comesBy", "(III)Z"⟩, 20), (⟨"NextWayModel", "nextTries", "()Z"⟩, 20), (⟨"NextWayModel", "wasBy", "(III)I"⟩, 20)]
theorem lw_r3 : ∀ q ∈ lw_privs_3, lw_okq q := List.forall_mem_cons.mpr ⟨lw_p32, List.forall_mem_cons.mpr ⟨lw_p33, List.forall_mem_cons.mpr ⟨lw_p34, List.forall_mem_cons.mpr ⟨lw_p35, List.forall_mem_cons.mpr ⟨lw_p36, List.forall_mem_cons.mpr ⟨lw_p37, List.forall_mem_cons.mpr ⟨lw_p38, List.forall_mem_cons.mpr ⟨lw_p39, List.forall_mem_cons.mpr ⟨lw_p40, fun _ h => absurd h List.not_mem_nil⟩⟩⟩⟩⟩⟩⟩⟩⟩
def lw_privs : List (MethodName × Nat) := lw_privs_1 ++ (lw_privs_2 ++ (lw_privs_3))
def lw_tbl : List Cond := k2_sels lw_privs ++ tables_1
theorem lw_privs_ok : ∀ q ∈ lw_privs, lw_okq q := by
  show ∀ q ∈ lw_privs_1 ++ (lw_privs_2 ++ (lw_privs_3)), lw_okq q
  exact List.forall_mem_append.mpr ⟨lw_r1, List.forall_mem_append.mpr ⟨lw_r2, lw_r3⟩⟩
end
section

theorem goodIn_r {big : List Cond} (ws : List Cond) (ps : List Nat) (hp : ws = ps.filterMap (fun i => big[i]?)) (h : ws.all goodWord = true) : GoodIn big ws := by
  intro w hw
  have h1 := List.all_eq_true.mp h w hw
  rw [hp] at hw
  obtain ⟨i, -, hi⟩ := List.mem_filterMap.mp hw
  have hm : w ∈ big := by first | exact List.mem_of_getElem? hi | exact List.getElem?_mem hi
  exact ⟨hm, good_of_word h1⟩
theorem goodIn_app {big a b : List Cond} (ha : GoodIn big a) (hb : GoodIn big b) : GoodIn big (a ++ b) := fun w h => (List.mem_append.mp h).elim (ha w) (hb w)
theorem goodIn_ca {big a b : List Cond} {c : Cond} (ha : GoodIn big (c :: a)) (hb : GoodIn big b) : GoodIn big (c :: (a ++ b)) := fun w h => (List.mem_cons.mp h).elim (fun e => ha w (List.mem_cons.mpr (Or.inl e))) (fun h => (List.mem_append.mp h).elim (fun h => ha w (List.mem_cons.mpr (Or.inr h))) (hb w))
theorem goodIn_sub {big ws : List Cond} (hm : ∀ w ∈ ws, w ∈ big) (h : ws.all goodWord = true) : GoodIn big ws := fun w hw => ⟨hm w hw, good_of_word (List.all_eq_true.mp h w hw)⟩



def RX0 : String := "NextWay$Alone"
def TX0 : u_T := fun k => match k with
  | _ => ("", "", "", false)
def tyX0 : Nat → FieldType := fun k => match k with
  | _ => .int
abbrev wsX00 : List Cond := u_ws RX0 TX0 0
theorem nmX0 : ∀ a, a < 0 → ∀ b, b < 0 → a ≠ b → (TX0 a).2.1 ≠ (TX0 b).2.1 := by decide +kernel
theorem tyX0_ok : ∀ k, k < 0 → parseFieldDescriptor (TX0 k).2.2.1 = some (tyX0 k) := by decide +kernel
abbrev cX0_from : ByteArray := prog_2_method_2_code
def yX0_from : MethodName := ⟨RX0, "from", "(II)I"⟩
abbrev cX0_roundLength : ByteArray := prog_2_method_3_code
def yX0_roundLength : MethodName := ⟨RX0, "roundLength", "(LNextWay$Town;I)I"⟩
abbrev cX0_beatsAheadOfRound : ByteArray := prog_2_method_4_code
def yX0_beatsAheadOfRound : MethodName := ⟨RX0, "beatsAheadOfRound", "(LNextWay$Town;II)I"⟩
abbrev cX0_distance : ByteArray := prog_2_method_5_code
def yX0_distance : MethodName := ⟨RX0, "distance", "(LNextWay$Town;IIII)I"⟩
abbrev cX0_nextReached : ByteArray := prog_2_method_6_code
def yX0_nextReached : MethodName := ⟨RX0, "nextReached", "(LNextWay$Town;III)I"⟩
abbrev cX0_allEnds : ByteArray := prog_2_method_7_code
def yX0_allEnds : MethodName := ⟨RX0, "allEnds", "(LNextWay$Town;I)I"⟩
abbrev cX0_quickestVanes : ByteArray := prog_2_method_8_code
def yX0_quickestVanes : MethodName := ⟨RX0, "quickestVanes", "(LNextWay$Town;III)I"⟩
abbrev cX0_slowest : ByteArray := prog_2_method_9_code
def yX0_slowest : MethodName := ⟨RX0, "slowest", "(LNextWay$Town;IIIII)I"⟩
abbrev cX0_slowestByVane : ByteArray := prog_2_method_10_code
def yX0_slowestByVane : MethodName := ⟨RX0, "slowestByVane", "(LNextWay$Town;IIIII)I"⟩
abbrev cX0_endsAt : ByteArray := prog_2_method_11_code
def yX0_endsAt : MethodName := ⟨RX0, "endsAt", "(LNextWay$Town;IIII)I"⟩
abbrev cX0_pastRows : ByteArray := prog_2_method_12_code
def yX0_pastRows : MethodName := ⟨RX0, "pastRows", "(LNextWay$Town;II)I"⟩
abbrev cX0_pastCorners : ByteArray := prog_2_method_13_code
def yX0_pastCorners : MethodName := ⟨RX0, "pastCorners", "(LNextWay$Town;II)I"⟩
abbrev cX0_canHaveLeft : ByteArray := prog_2_method_14_code
def yX0_canHaveLeft : MethodName := ⟨RX0, "canHaveLeft", "(LNextWay$Town;II)Z"⟩
def RX1 : String := "NextWay$Company"
def TX1 : u_T := fun k => match k with
  | _ => ("", "", "", false)
def tyX1 : Nat → FieldType := fun k => match k with
  | _ => .int
abbrev wsX10 : List Cond := u_ws RX1 TX1 0
theorem nmX1 : ∀ a, a < 0 → ∀ b, b < 0 → a ≠ b → (TX1 a).2.1 ≠ (TX1 b).2.1 := by decide +kernel
theorem tyX1_ok : ∀ k, k < 0 → parseFieldDescriptor (TX1 k).2.2.1 = some (tyX1 k) := by decide +kernel
abbrev cX1_firstAt : ByteArray := prog_3_method_2_code
def yX1_firstAt : MethodName := ⟨RX1, "firstAt", "(LNextWay$Town;IIII)I"⟩
abbrev cX1_timesAt : ByteArray := prog_3_method_3_code
def yX1_timesAt : MethodName := ⟨RX1, "timesAt", "(LNextWay$Town;IIII)I"⟩
abbrev cX1_firstTogether : ByteArray := prog_3_method_4_code
def yX1_firstTogether : MethodName := ⟨RX1, "firstTogether", "(LNextWay$Town;IIII)I"⟩
abbrev cX1_cheapTurns : ByteArray := prog_3_method_5_code
def yX1_cheapTurns : MethodName := ⟨RX1, "cheapTurns", "(LNextWay$Town;IIIIII)I"⟩
abbrev cX1_turnsOf : ByteArray := prog_3_method_6_code
def yX1_turnsOf : MethodName := ⟨RX1, "turnsOf", "(II)I"⟩
abbrev cX1_settledCorners : ByteArray := prog_3_method_7_code
def yX1_settledCorners : MethodName := ⟨RX1, "settledCorners", "(LNextWay$Town;IZ)I"⟩
abbrev cX1_settledStand : ByteArray := prog_3_method_8_code
def yX1_settledStand : MethodName := ⟨RX1, "settledStand", "(LNextWay$Town;III)I"⟩
abbrev cX1_isTaken : ByteArray := prog_3_method_9_code
def yX1_isTaken : MethodName := ⟨RX1, "isTaken", "(II)Z"⟩
def RX2 : String := "NextWay$Reader"
def TX2 : u_T := fun k => match k with
  | 0 => ("NextWay$Reader", "draft", "LNextWay$Town;", true)
  | 1 => ("NextWay$Reader", "lines", "I", false)
  | 2 => ("NextWay$Reader", "start", "I", false)
  | 3 => ("NextWay$Reader", "end", "I", false)
  | _ => ("NextWay$Reader", "token", "I", false)
def tyX2 : Nat → FieldType := fun k => match k with
  | 0 => .object "NextWay$Town"
  | 1 => .int
  | 2 => .int
  | 3 => .int
  | _ => .int
abbrev wsX20 : List Cond := u_ws RX2 TX2 5
theorem nmX2 : ∀ a, a < 5 → ∀ b, b < 5 → a ≠ b → (TX2 a).2.1 ≠ (TX2 b).2.1 := by decide +kernel
theorem tyX2_ok : ∀ k, k < 5 → parseFieldDescriptor (TX2 k).2.2.1 = some (tyX2 k) := by decide +kernel
abbrev cX2_init : ByteArray := prog_4_method_1_code
def yX2_init : MethodName := ⟨RX2, "<init>", "()V"⟩
abbrev cX2_read : ByteArray := prog_4_method_2_code
def yX2_read : MethodName := ⟨RX2, "read", "(LNextWay$Text;LNextWay$Town;)I"⟩
abbrev cX2_advance : ByteArray := prog_4_method_3_code
def yX2_advance : MethodName := ⟨RX2, "advance", "(LNextWay$Text;)V"⟩
abbrev cX2_shapeOf : ByteArray := prog_4_method_4_code
def yX2_shapeOf : MethodName := ⟨RX2, "shapeOf", "(I)I"⟩
abbrev cX2_doLine : ByteArray := prog_4_method_5_code
def yX2_doLine : MethodName := ⟨RX2, "doLine", "(LNextWay$Text;)Z"⟩
abbrev cX2_kindWord : ByteArray := prog_4_method_6_code
def yX2_kindWord : MethodName := ⟨RX2, "kindWord", "(LNextWay$Text;)I"⟩
abbrev cX2_isWord : ByteArray := prog_4_method_7_code
def yX2_isWord : MethodName := ⟨RX2, "isWord", "(LNextWay$Text;Ljava/lang/String;)Z"⟩
abbrev cX2_doTown : ByteArray := prog_4_method_8_code
def yX2_doTown : MethodName := ⟨RX2, "doTown", "(LNextWay$Text;)Z"⟩
abbrev cX2_doKind : ByteArray := prog_4_method_9_code
def yX2_doKind : MethodName := ⟨RX2, "doKind", "(LNextWay$Text;I)Z"⟩
abbrev cX2_doWay : ByteArray := prog_4_method_10_code
def yX2_doWay : MethodName := ⟨RX2, "doWay", "(LNextWay$Text;)Z"⟩
abbrev cX2_doVane : ByteArray := prog_4_method_11_code
def yX2_doVane : MethodName := ⟨RX2, "doVane", "(LNextWay$Text;)Z"⟩
abbrev cX2_doWalker : ByteArray := prog_4_method_12_code
def yX2_doWalker : MethodName := ⟨RX2, "doWalker", "(LNextWay$Text;)Z"⟩
abbrev cX2_digit : ByteArray := prog_4_method_13_code
def yX2_digit : MethodName := ⟨RX2, "digit", "(LNextWay$Text;)I"⟩
def RX3 : String := "NextWay$Text"
def TX3 : u_T := fun k => match k with
  | 0 => ("NextWay$Text", "bytes", "[I", true)
  | _ => ("NextWay$Text", "length", "I", false)
def tyX3 : Nat → FieldType := fun k => match k with
  | 0 => .array .int
  | _ => .int
abbrev wsX30 : List Cond := u_ws RX3 TX3 2
theorem nmX3 : ∀ a, a < 2 → ∀ b, b < 2 → a ≠ b → (TX3 a).2.1 ≠ (TX3 b).2.1 := by decide +kernel
theorem tyX3_ok : ∀ k, k < 2 → parseFieldDescriptor (TX3 k).2.2.1 = some (tyX3 k) := by decide +kernel
abbrev cX3_init : ByteArray := prog_5_method_1_code
def yX3_init : MethodName := ⟨RX3, "<init>", "()V"⟩
abbrev cX3_append : ByteArray := prog_5_method_2_code
def yX3_append : MethodName := ⟨RX3, "append", "(JI)Z"⟩
abbrev cX3_clear : ByteArray := prog_5_method_3_code
def yX3_clear : MethodName := ⟨RX3, "clear", "()I"⟩
abbrev cX3_byteAt : ByteArray := prog_5_method_4_code
def yX3_byteAt : MethodName := ⟨RX3, "byteAt", "(I)I"⟩
def RX4 : String := "NextWay$Town"
def TX4 : u_T := fun k => match k with
  | 0 => ("NextWay$Town", "kinds", "[I", true)
  | 1 => ("NextWay$Town", "wayCounts", "[I", true)
  | 2 => ("NextWay$Town", "ends", "[I", true)
  | 3 => ("NextWay$Town", "corners", "I", false)
  | 4 => ("NextWay$Town", "walkers", "I", false)
  | _ => ("NextWay$Town", "stand", "I", false)
def tyX4 : Nat → FieldType := fun k => match k with
  | 0 => .array .int
  | 1 => .array .int
  | 2 => .array .int
  | 3 => .int
  | 4 => .int
  | _ => .int
abbrev wsX40 : List Cond := u_ws RX4 TX4 6
theorem nmX4 : ∀ a, a < 6 → ∀ b, b < 6 → a ≠ b → (TX4 a).2.1 ≠ (TX4 b).2.1 := by decide +kernel
theorem tyX4_ok : ∀ k, k < 6 → parseFieldDescriptor (TX4 k).2.2.1 = some (tyX4 k) := by decide +kernel
abbrev cX4_init : ByteArray := prog_6_method_1_code
def yX4_init : MethodName := ⟨RX4, "<init>", "()V"⟩
abbrev cX4_clear : ByteArray := prog_6_method_2_code
def yX4_clear : MethodName := ⟨RX4, "clear", "(I)V"⟩
abbrev cX4_copyFrom : ByteArray := prog_6_method_3_code
def yX4_copyFrom : MethodName := ⟨RX4, "copyFrom", "(LNextWay$Town;)V"⟩
abbrev cX4_setKind : ByteArray := prog_6_method_4_code
def yX4_setKind : MethodName := ⟨RX4, "setKind", "(II)Z"⟩
abbrev cX4_hasRoomForWay : ByteArray := prog_6_method_5_code
def yX4_hasRoomForWay : MethodName := ⟨RX4, "hasRoomForWay", "(I)Z"⟩
abbrev cX4_addWay : ByteArray := prog_6_method_6_code
def yX4_addWay : MethodName := ⟨RX4, "addWay", "(II)Z"⟩
abbrev cX4_hasRoomForWalker : ByteArray := prog_6_method_7_code
def yX4_hasRoomForWalker : MethodName := ⟨RX4, "hasRoomForWalker", "()Z"⟩
abbrev cX4_addWalker : ByteArray := prog_6_method_8_code
def yX4_addWalker : MethodName := ⟨RX4, "addWalker", "(I)Z"⟩
abbrev cX4_sendAllAway : ByteArray := prog_6_method_9_code
def yX4_sendAllAway : MethodName := ⟨RX4, "sendAllAway", "()V"⟩
abbrev cX4_hasCorner : ByteArray := prog_6_method_10_code
def yX4_hasCorner : MethodName := ⟨RX4, "hasCorner", "(I)Z"⟩
abbrev cX4_hasWay : ByteArray := prog_6_method_11_code
def yX4_hasWay : MethodName := ⟨RX4, "hasWay", "(II)Z"⟩
abbrev cX4_hasWalker : ByteArray := prog_6_method_12_code
def yX4_hasWalker : MethodName := ⟨RX4, "hasWalker", "(I)Z"⟩
abbrev cX4_kindOf : ByteArray := prog_6_method_13_code
def yX4_kindOf : MethodName := ⟨RX4, "kindOf", "(I)I"⟩
abbrev cX4_waysOf : ByteArray := prog_6_method_14_code
def yX4_waysOf : MethodName := ⟨RX4, "waysOf", "(I)I"⟩
abbrev cX4_endOf : ByteArray := prog_6_method_15_code
def yX4_endOf : MethodName := ⟨RX4, "endOf", "(II)I"⟩
abbrev cX4_allWays : ByteArray := prog_6_method_16_code
def yX4_allWays : MethodName := ⟨RX4, "allWays", "()I"⟩
abbrev cX4_isLeft : ByteArray := prog_6_method_17_code
def yX4_isLeft : MethodName := ⟨RX4, "isLeft", "(I)Z"⟩
abbrev cX4_cornersNeverLeft : ByteArray := prog_6_method_18_code
def yX4_cornersNeverLeft : MethodName := ⟨RX4, "cornersNeverLeft", "()I"⟩
abbrev cX4_isSuch : ByteArray := prog_6_method_19_code
def yX4_isSuch : MethodName := ⟨RX4, "isSuch", "(II)Z"⟩
abbrev cX4_vaneOf : ByteArray := prog_6_method_20_code
def yX4_vaneOf : MethodName := ⟨RX4, "vaneOf", "(II)I"⟩
abbrev cX4_withVane : ByteArray := prog_6_method_21_code
def yX4_withVane : MethodName := ⟨RX4, "withVane", "(III)I"⟩
abbrev cX4_placeOf : ByteArray := prog_6_method_22_code
def yX4_placeOf : MethodName := ⟨RX4, "placeOf", "(II)I"⟩
abbrev cX4_withPlace : ByteArray := prog_6_method_23_code
def yX4_withPlace : MethodName := ⟨RX4, "withPlace", "(III)I"⟩
abbrev cX4_shownVane : ByteArray := prog_6_method_24_code
def yX4_shownVane : MethodName := ⟨RX4, "shownVane", "(II)I"⟩
abbrev cX4_shownEnd : ByteArray := prog_6_method_25_code
def yX4_shownEnd : MethodName := ⟨RX4, "shownEnd", "(II)I"⟩
abbrev cX4_walkersAt : ByteArray := prog_6_method_26_code
def yX4_walkersAt : MethodName := ⟨RX4, "walkersAt", "(II)I"⟩
abbrev cX4_stepOf : ByteArray := prog_6_method_27_code
def yX4_stepOf : MethodName := ⟨RX4, "stepOf", "(I)I"⟩
abbrev cX4_turnedBy : ByteArray := prog_6_method_28_code
def yX4_turnedBy : MethodName := ⟨RX4, "turnedBy", "(III)I"⟩
abbrev cX4_turned : ByteArray := prog_6_method_29_code
def yX4_turned : MethodName := ⟨RX4, "turned", "(II)I"⟩
abbrev cX4_unturned : ByteArray := prog_6_method_30_code
def yX4_unturned : MethodName := ⟨RX4, "unturned", "(II)I"⟩
abbrev cX4_walked : ByteArray := prog_6_method_31_code
def yX4_walked : MethodName := ⟨RX4, "walked", "(II)I"⟩
abbrev cX4_behindOne : ByteArray := prog_6_method_32_code
def yX4_behindOne : MethodName := ⟨RX4, "behindOne", "(I)I"⟩
abbrev cX4_behind : ByteArray := prog_6_method_33_code
def yX4_behind : MethodName := ⟨RX4, "behind", "(II)I"⟩
def RX5 : String := "NextWay"
def TX5 : u_T := fun k => match k with
  | 0 => ("NextWay", "text", "LNextWay$Text;", true)
  | 1 => ("NextWay", "reader", "LNextWay$Reader;", true)
  | 2 => ("NextWay", "told", "LNextWay$Town;", true)
  | 3 => ("NextWay", "keptStands", "[I", true)
  | 4 => ("NextWay", "keptBeats", "[I", true)
  | 5 => ("NextWay", "stand", "I", false)
  | _ => ("NextWay", "beats", "I", false)
def tyX5 : Nat → FieldType := fun k => match k with
  | 0 => .object "NextWay$Text"
  | 1 => .object "NextWay$Reader"
  | 2 => .object "NextWay$Town"
  | 3 => .array .int
  | 4 => .array .int
  | 5 => .int
  | _ => .int
abbrev wsX50 : List Cond := u_ws RX5 TX5 7
theorem nmX5 : ∀ a, a < 7 → ∀ b, b < 7 → a ≠ b → (TX5 a).2.1 ≠ (TX5 b).2.1 := by decide +kernel
theorem tyX5_ok : ∀ k, k < 7 → parseFieldDescriptor (TX5 k).2.2.1 = some (tyX5 k) := by decide +kernel
abbrev cX5_init : ByteArray := prog_1_method_1_code
def yX5_init : MethodName := ⟨RX5, "<init>", "()V"⟩
abbrev cX5_write : ByteArray := prog_1_method_2_code
def yX5_write : MethodName := ⟨RX5, "write", "(JI)I"⟩
abbrev cX5_erase : ByteArray := prog_1_method_3_code
def yX5_erase : MethodName := ⟨RX5, "erase", "()I"⟩
abbrev cX5_fault : ByteArray := prog_1_method_4_code
def yX5_fault : MethodName := ⟨RX5, "fault", "()I"⟩
abbrev cX5_town : ByteArray := prog_1_method_5_code
def yX5_town : MethodName := ⟨RX5, "town", "()I"⟩
abbrev cX5_corner : ByteArray := prog_1_method_6_code
def yX5_corner : MethodName := ⟨RX5, "corner", "(II)I"⟩
abbrev cX5_way : ByteArray := prog_1_method_7_code
def yX5_way : MethodName := ⟨RX5, "way", "(II)I"⟩
abbrev cX5_as : ByteArray := prog_1_method_8_code
def yX5_as : MethodName := ⟨RX5, "as", "(II)I"⟩
abbrev cX5_walker : ByteArray := prog_1_method_9_code
def yX5_walker : MethodName := ⟨RX5, "walker", "(I)I"⟩
abbrev cX5_go : ByteArray := prog_1_method_10_code
def yX5_go : MethodName := ⟨RX5, "go", "(I)I"⟩
abbrev cX5_turn : ByteArray := prog_1_method_11_code
def yX5_turn : MethodName := ⟨RX5, "turn", "(I)I"⟩
abbrev cX5_put : ByteArray := prog_1_method_12_code
def yX5_put : MethodName := ⟨RX5, "put", "(II)I"⟩
abbrev cX5_keep : ByteArray := prog_1_method_13_code
def yX5_keep : MethodName := ⟨RX5, "keep", "(I)I"⟩
abbrev cX5_back : ByteArray := prog_1_method_14_code
def yX5_back : MethodName := ⟨RX5, "back", "(I)I"⟩
abbrev cX5_later : ByteArray := prog_1_method_15_code
def yX5_later : MethodName := ⟨RX5, "later", "(III)I"⟩
abbrev cX5_when : ByteArray := prog_1_method_16_code
def yX5_when : MethodName := ⟨RX5, "when", "(II)I"⟩
abbrev cX5_often : ByteArray := prog_1_method_17_code
def yX5_often : MethodName := ⟨RX5, "often", "(III)I"⟩
abbrev cX5_meet : ByteArray := prog_1_method_18_code
def yX5_meet : MethodName := ⟨RX5, "meet", "(III)I"⟩
abbrev cX5_round : ByteArray := prog_1_method_19_code
def yX5_round : MethodName := ⟨RX5, "round", "(II)I"⟩
abbrev cX5_quick : ByteArray := prog_1_method_20_code
def yX5_quick : MethodName := ⟨RX5, "quick", "(III)I"⟩
abbrev cX5_slow : ByteArray := prog_1_method_21_code
def yX5_slow : MethodName := ⟨RX5, "slow", "(II)I"⟩
abbrev cX5_pennies : ByteArray := prog_1_method_22_code
def yX5_pennies : MethodName := ⟨RX5, "pennies", "(IIII)I"⟩
abbrev cX5_shares : ByteArray := prog_1_method_23_code
def yX5_shares : MethodName := ⟨RX5, "shares", "(III)I"⟩
abbrev cX5_settled : ByteArray := prog_1_method_24_code
def yX5_settled : MethodName := ⟨RX5, "settled", "(I)I"⟩
abbrev cX5_past : ByteArray := prog_1_method_25_code
def yX5_past : MethodName := ⟨RX5, "past", "(III)I"⟩
abbrev cX5_count : ByteArray := prog_1_method_26_code
def yX5_count : MethodName := ⟨RX5, "count", "(I)I"⟩
abbrev cX5_isEither : ByteArray := prog_1_method_27_code
def yX5_isEither : MethodName := ⟨RX5, "isEither", "(I)Z"⟩
def RX6 : String := "NextWayModel"
def TX6 : u_T := fun k => match k with
  | 0 => ("NextWayModel", "row", "[I", true)
  | 1 => ("NextWayModel", "isKept", "[Z", true)
  | 2 => ("NextWayModel", "text", "[I", true)
  | 3 => ("NextWayModel", "length", "I", false)
  | 4 => ("NextWayModel", "read", "[I", true)
  | 5 => ("NextWayModel", "readMany", "I", false)
  | 6 => ("NextWayModel", "corners", "I", false)
  | 7 => ("NextWayModel", "kinds", "[I", true)
  | 8 => ("NextWayModel", "wayMany", "[I", true)
  | 9 => ("NextWayModel", "ways", "[I", true)
  | 10 => ("NextWayModel", "many", "I", false)
  | 11 => ("NextWayModel", "at", "I", false)
  | 12 => ("NextWayModel", "place", "I", false)
  | 13 => ("NextWayModel", "end", "I", false)
  | 14 => ("NextWayModel", "readCorners", "I", false)
  | 15 => ("NextWayModel", "readWays", "[I", true)
  | 16 => ("NextWayModel", "readWalkers", "I", false)
  | 17 => ("NextWayModel", "states", "[I", true)
  | 18 => ("NextWayModel", "tries", "[I", true)
  | _ => ("NextWayModel", "bestTries", "[I", true)
def tyX6 : Nat → FieldType := fun k => match k with
  | 0 => .array .int
  | 1 => .array .boolean
  | 2 => .array .int
  | 3 => .int
  | 4 => .array .int
  | 5 => .int
  | 6 => .int
  | 7 => .array .int
  | 8 => .array .int
  | 9 => .array .int
  | 10 => .int
  | 11 => .int
  | 12 => .int
  | 13 => .int
  | 14 => .int
  | 15 => .array .int
  | 16 => .int
  | 17 => .array .int
  | 18 => .array .int
  | _ => .array .int
abbrev wsX60 : List Cond := u_ws RX6 TX6 20
theorem nmX6 : ∀ a, a < 20 → ∀ b, b < 20 → a ≠ b → (TX6 a).2.1 ≠ (TX6 b).2.1 := by decide +kernel
theorem tyX6_ok : ∀ k, k < 20 → parseFieldDescriptor (TX6 k).2.2.1 = some (tyX6 k) := by decide +kernel
abbrev cX6_init : ByteArray := prog_8_method_1_code
def yX6_init : MethodName := ⟨RX6, "<init>", "()V"⟩
abbrev cX6_in : ByteArray := prog_8_method_2_code
def yX6_in : MethodName := ⟨RX6, "in", "(JJJ)Z"⟩
abbrev cX6_has : ByteArray := prog_8_method_3_code
def yX6_has : MethodName := ⟨RX6, "has", "(II)Z"⟩
abbrev cX6_copy : ByteArray := prog_8_method_4_code
def yX6_copy : MethodName := ⟨RX6, "copy", "(II)V"⟩
abbrev cX6_write : ByteArray := prog_8_method_5_code
def yX6_write : MethodName := ⟨RX6, "write", "(JI)I"⟩
abbrev cX6_erase : ByteArray := prog_8_method_6_code
def yX6_erase : MethodName := ⟨RX6, "erase", "()I"⟩
abbrev cX6_sort : ByteArray := prog_8_method_7_code
def yX6_sort : MethodName := ⟨RX6, "sort", "(I)I"⟩
abbrev cX6_token : ByteArray := prog_8_method_8_code
def yX6_token : MethodName := ⟨RX6, "token", "()V"⟩
abbrev cX6_isWord : ByteArray := prog_8_method_9_code
def yX6_isWord : MethodName := ⟨RX6, "isWord", "(III)Z"⟩
abbrev cX6_cornerWord : ByteArray := prog_8_method_10_code
def yX6_cornerWord : MethodName := ⟨RX6, "cornerWord", "()I"⟩
abbrev cX6_wordOf : ByteArray := prog_8_method_11_code
def yX6_wordOf : MethodName := ⟨RX6, "wordOf", "()I"⟩
abbrev cX6_numberHere : ByteArray := prog_8_method_12_code
def yX6_numberHere : MethodName := ⟨RX6, "numberHere", "()I"⟩
abbrev cX6_reads : ByteArray := prog_8_method_13_code
def yX6_reads : MethodName := ⟨RX6, "reads", "(III)Z"⟩
abbrev cX6_readsRest : ByteArray := prog_8_method_14_code
def yX6_readsRest : MethodName := ⟨RX6, "readsRest", "(I)Z"⟩
abbrev cX6_readsLine : ByteArray := prog_8_method_15_code
def yX6_readsLine : MethodName := ⟨RX6, "readsLine", "()Z"⟩
abbrev cX6_fault : ByteArray := prog_8_method_16_code
def yX6_fault : MethodName := ⟨RX6, "fault", "()I"⟩
abbrev cX6_clear : ByteArray := prog_8_method_17_code
def yX6_clear : MethodName := ⟨RX6, "clear", "(I)V"⟩
abbrev cX6_tell : ByteArray := prog_8_method_18_code
def yX6_tell : MethodName := ⟨RX6, "tell", "(I)V"⟩
abbrev cX6_town : ByteArray := prog_8_method_19_code
def yX6_town : MethodName := ⟨RX6, "town", "()I"⟩
abbrev cX6_isCorner : ByteArray := prog_8_method_20_code
def yX6_isCorner : MethodName := ⟨RX6, "isCorner", "(I)Z"⟩
abbrev cX6_isWalker : ByteArray := prog_8_method_21_code
def yX6_isWalker : MethodName := ⟨RX6, "isWalker", "(I)Z"⟩
abbrev cX6_isLeft : ByteArray := prog_8_method_22_code
def yX6_isLeft : MethodName := ⟨RX6, "isLeft", "(I)Z"⟩
abbrev cX6_turns : ByteArray := prog_8_method_23_code
def yX6_turns : MethodName := ⟨RX6, "turns", "(I)I"⟩
abbrev cX6_nextVane : ByteArray := prog_8_method_24_code
def yX6_nextVane : MethodName := ⟨RX6, "nextVane", "(II)I"⟩
abbrev cX6_vaneOf : ByteArray := prog_8_method_25_code
def yX6_vaneOf : MethodName := ⟨RX6, "vaneOf", "(II)I"⟩
abbrev cX6_corner : ByteArray := prog_8_method_26_code
def yX6_corner : MethodName := ⟨RX6, "corner", "(II)I"⟩
abbrev cX6_way : ByteArray := prog_8_method_27_code
def yX6_way : MethodName := ⟨RX6, "way", "(II)I"⟩
abbrev cX6_as : ByteArray := prog_8_method_28_code
def yX6_as : MethodName := ⟨RX6, "as", "(II)I"⟩
abbrev cX6_walker : ByteArray := prog_8_method_29_code
def yX6_walker : MethodName := ⟨RX6, "walker", "(I)I"⟩
abbrev cX6_leave : ByteArray := prog_8_method_30_code
def yX6_leave : MethodName := ⟨RX6, "leave", "(II)I"⟩
abbrev cX6_beat : ByteArray := prog_8_method_31_code
def yX6_beat : MethodName := ⟨RX6, "beat", "(I)V"⟩
abbrev cX6_go : ByteArray := prog_8_method_32_code
def yX6_go : MethodName := ⟨RX6, "go", "(I)I"⟩
abbrev cX6_turn : ByteArray := prog_8_method_33_code
def yX6_turn : MethodName := ⟨RX6, "turn", "(I)I"⟩
abbrev cX6_put : ByteArray := prog_8_method_34_code
def yX6_put : MethodName := ⟨RX6, "put", "(II)I"⟩
abbrev cX6_keep : ByteArray := prog_8_method_35_code
def yX6_keep : MethodName := ⟨RX6, "keep", "(I)I"⟩
abbrev cX6_back : ByteArray := prog_8_method_36_code
def yX6_back : MethodName := ⟨RX6, "back", "(I)I"⟩
abbrev cX6_later : ByteArray := prog_8_method_37_code
def yX6_later : MethodName := ⟨RX6, "later", "(III)I"⟩
abbrev cX6_firstAt : ByteArray := prog_8_method_38_code
def yX6_firstAt : MethodName := ⟨RX6, "firstAt", "(III)I"⟩
abbrev cX6_when : ByteArray := prog_8_method_39_code
def yX6_when : MethodName := ⟨RX6, "when", "(II)I"⟩
abbrev cX6_often : ByteArray := prog_8_method_40_code
def yX6_often : MethodName := ⟨RX6, "often", "(III)I"⟩
abbrev cX6_meet : ByteArray := prog_8_method_41_code
def yX6_meet : MethodName := ⟨RX6, "meet", "(III)I"⟩
abbrev cX6_stateOf : ByteArray := prog_8_method_42_code
def yX6_stateOf : MethodName := ⟨RX6, "stateOf", "(I)I"⟩
abbrev cX6_round : ByteArray := prog_8_method_43_code
def yX6_round : MethodName := ⟨RX6, "round", "(II)I"⟩
abbrev cX6_vaneIn : ByteArray := prog_8_method_44_code
def yX6_vaneIn : MethodName := ⟨RX6, "vaneIn", "(II)I"⟩
abbrev cX6_rows : ByteArray := prog_8_method_45_code
def yX6_rows : MethodName := ⟨RX6, "rows", "()I"⟩
abbrev cX6_beatsBy : ByteArray := prog_8_method_46_code
def yX6_beatsBy : MethodName := ⟨RX6, "beatsBy", "(III)I"⟩
abbrev cX6_quick : ByteArray := prog_8_method_47_code
def yX6_quick : MethodName := ⟨RX6, "quick", "(III)I"⟩
abbrev cX6_slow : ByteArray := prog_8_method_48_code
def yX6_slow : MethodName := ⟨RX6, "slow", "(II)I"⟩
abbrev cX6_nextTries : ByteArray := prog_8_method_49_code
def yX6_nextTries : MethodName := ⟨RX6, "nextTries", "()Z"⟩
abbrev cX6_areTurns : ByteArray := prog_8_method_50_code
def yX6_areTurns : MethodName := ⟨RX6, "areTurns", "()Z"⟩
abbrev cX6_comesBy : ByteArray := prog_8_method_51_code
def yX6_comesBy : MethodName := ⟨RX6, "comesBy", "(III)Z"⟩
abbrev cX6_fewest : ByteArray := prog_8_method_52_code
def yX6_fewest : MethodName := ⟨RX6, "fewest", "(III)I"⟩
abbrev cX6_pennies : ByteArray := prog_8_method_53_code
def yX6_pennies : MethodName := ⟨RX6, "pennies", "(IIII)I"⟩
abbrev cX6_shares : ByteArray := prog_8_method_54_code
def yX6_shares : MethodName := ⟨RX6, "shares", "(III)I"⟩
abbrev cX6_settled : ByteArray := prog_8_method_55_code
def yX6_settled : MethodName := ⟨RX6, "settled", "(I)I"⟩
abbrev cX6_wasBy : ByteArray := prog_8_method_56_code
def yX6_wasBy : MethodName := ⟨RX6, "wasBy", "(III)I"⟩
abbrev cX6_past : ByteArray := prog_8_method_57_code
def yX6_past : MethodName := ⟨RX6, "past", "(III)I"⟩
abbrev cX6_count : ByteArray := prog_8_method_58_code
def yX6_count : MethodName := ⟨RX6, "count", "(I)I"⟩
def RJ9 : String := "java/lang/Math"
def TJ9 : u_T := fun k => match k with
  | _ => ("", "", "", false)
def tyJ9 : Nat → FieldType := fun k => match k with
  | _ => .int
abbrev wsJ90 : List Cond := u_ws RJ9 TJ9 0
theorem nmJ9 : ∀ a, a < 0 → ∀ b, b < 0 → a ≠ b → (TJ9 a).2.1 ≠ (TJ9 b).2.1 := by decide +kernel
theorem tyJ9_ok : ∀ k, k < 0 → parseFieldDescriptor (TJ9 k).2.2.1 = some (tyJ9 k) := by decide +kernel
abbrev cJ9_floorMod_7cf53 : ByteArray := prog_9_method_50_code
def yJ9_floorMod_7cf53 : MethodName := ⟨RJ9, "floorMod", "(II)I"⟩
abbrev cJ9_max_7cf53 : ByteArray := prog_9_method_65_code
def yJ9_max_7cf53 : MethodName := ⟨RJ9, "max", "(II)I"⟩
def RJ0 : String := "java/lang/String"
def TJ0 : u_T := fun k => match k with
  | _ => ("", "", "", false)
def tyJ0 : Nat → FieldType := fun k => match k with
  | _ => .int
abbrev wsJ00 : List Cond := u_ws RJ0 TJ0 0
theorem nmJ0 : ∀ a, a < 0 → ∀ b, b < 0 → a ≠ b → (TJ0 a).2.1 ≠ (TJ0 b).2.1 := by decide +kernel
theorem tyJ0_ok : ∀ k, k < 0 → parseFieldDescriptor (TJ0 k).2.2.1 = some (tyJ0 k) := by decide +kernel
abbrev cJ0_length_8abf5 : ByteArray := prog_10_method_54_code
def yJ0_length_8abf5 : MethodName := ⟨RJ0, "length", "()I"⟩
abbrev cJ0_charAt_5068e : ByteArray := prog_10_method_56_code
def yJ0_charAt_5068e : MethodName := ⟨RJ0, "charAt", "(I)C"⟩
abbrev cJ0_coder_7d493 : ByteArray := prog_10_method_152_code
def yJ0_coder_7d493 : MethodName := ⟨RJ0, "coder", "()B"⟩
abbrev cJ0_isLatin1_aae02 : ByteArray := prog_10_method_154_code
def yJ0_isLatin1_aae02 : MethodName := ⟨RJ0, "isLatin1", "()Z"⟩
abbrev cJ0_checkIndex_df160 : ByteArray := prog_10_method_155_code
def yJ0_checkIndex_df160 : MethodName := ⟨RJ0, "checkIndex", "(II)V"⟩
def RJ1 : String := "java/lang/StringLatin1"
def TJ1 : u_T := fun k => match k with
  | _ => ("", "", "", false)
def tyJ1 : Nat → FieldType := fun k => match k with
  | _ => .int
abbrev wsJ10 : List Cond := u_ws RJ1 TJ1 0
theorem nmJ1 : ∀ a, a < 0 → ∀ b, b < 0 → a ≠ b → (TJ1 a).2.1 ≠ (TJ1 b).2.1 := by decide +kernel
theorem tyJ1_ok : ∀ k, k < 0 → parseFieldDescriptor (TJ1 k).2.2.1 = some (tyJ1 k) := by decide +kernel
abbrev cJ1_charAt_3b067 : ByteArray := prog_11_method_2_code
def yJ1_charAt_3b067 : MethodName := ⟨RJ1, "charAt", "([BI)C"⟩
def RJ2 : String := "java/lang/StringUTF16"
def TJ2 : u_T := fun k => match k with
  | _ => ("", "", "", false)
def tyJ2 : Nat → FieldType := fun k => match k with
  | _ => .int
abbrev wsJ20 : List Cond := u_ws RJ2 TJ2 0
theorem nmJ2 : ∀ a, a < 0 → ∀ b, b < 0 → a ≠ b → (TJ2 a).2.1 ≠ (TJ2 b).2.1 := by decide +kernel
theorem tyJ2_ok : ∀ k, k < 0 → parseFieldDescriptor (TJ2 k).2.2.1 = some (tyJ2 k) := by decide +kernel
abbrev cJ2_getChar_3b067 : ByteArray := prog_12_method_5_code
def yJ2_getChar_3b067 : MethodName := ⟨RJ2, "getChar", "([BI)C"⟩
abbrev cJ2_length_9d52b : ByteArray := prog_12_method_6_code
def yJ2_length_9d52b : MethodName := ⟨RJ2, "length", "([B)I"⟩
abbrev cJ2_charAt_3b067 : ByteArray := prog_12_method_83_code
def yJ2_charAt_3b067 : MethodName := ⟨RJ2, "charAt", "([BI)C"⟩
abbrev cJ2_checkIndex_2214a : ByteArray := prog_12_method_91_code
def yJ2_checkIndex_2214a : MethodName := ⟨RJ2, "checkIndex", "(I[B)V"⟩
def RJ10 : String := "java/lang/System"
def TJ10 : u_T := fun k => match k with
  | _ => ("", "", "", false)
def tyJ10 : Nat → FieldType := fun k => match k with
  | _ => .int
abbrev wsJ100 : List Cond := u_ws RJ10 TJ10 0
theorem nmJ10 : ∀ a, a < 0 → ∀ b, b < 0 → a ≠ b → (TJ10 a).2.1 ≠ (TJ10 b).2.1 := by decide +kernel
theorem tyJ10_ok : ∀ k, k < 0 → parseFieldDescriptor (TJ10 k).2.2.1 = some (tyJ10 k) := by decide +kernel
def RJ3 : String := "jdk/internal/util/Preconditions"
def TJ3 : u_T := fun k => match k with
  | _ => ("", "", "", false)
def tyJ3 : Nat → FieldType := fun k => match k with
  | _ => .int
abbrev wsJ30 : List Cond := u_ws RJ3 TJ3 0
theorem nmJ3 : ∀ a, a < 0 → ∀ b, b < 0 → a ≠ b → (TJ3 a).2.1 ≠ (TJ3 b).2.1 := by decide +kernel
theorem tyJ3_ok : ∀ k, k < 0 → parseFieldDescriptor (TJ3 k).2.2.1 = some (tyJ3 k) := by decide +kernel
abbrev cJ3_checkIndex_8e157 : ByteArray := prog_14_method_11_code
def yJ3_checkIndex_8e157 : MethodName := ⟨RJ3, "checkIndex", "(IILjava/util/function/BiFunction;)I"⟩
def RL : String := "NextWayLaw"
abbrev cL_law : ByteArray := code
def yL_law : MethodName := ⟨RL, "law", "([I)Z"⟩
end
section
/-! A small machine of our own over the class's decoded instructions: cells by number, ints in them as functions; its runs are a least fixed point, told by what must hold at the end. Part 05 ties it to the JVM's machine once for all methods. -/
abbrev nw_M : Type := Nat → Nat → Int32
abbrev nw_E : Type := (Nat × List (Option Nat)) ⊕ (Bool × Nat)
abbrev nw_Sh : Type := List nw_E
abbrev nw_L : Type := List (Option Value)
abbrev nw_K : Type := Option Value → nw_M → Prop
abbrev nw_C : Type := Nat → List Value → nw_M → nw_K → Prop
abbrev nw_X : Type := Nat → nw_L → List Value → nw_M → Prop
abbrev nw_St : Type := Nat × nw_L × List Value × nw_M
abbrev nw_O : Type := nw_St ⊕ (Prop × nw_St) ⊕ (Prop × nw_St × nw_St)
def nw_row (mem : nw_M) (c : Nat) (f : Nat → Int32) : nw_M := fun a => if a = c then f else mem a
def nw_up (mem : nw_M) (c k : Nat) (v : Int32) : nw_M := nw_row mem c (upd (mem c) k v)
def nw_ld : nw_L → Nat → Option Value
  | [], _ => none
  | a :: _, 0 => a
  | _ :: t, i + 1 => nw_ld t i
def nw_nl : Option Value → Nat → Bool
  | none, _ => true
  | some (.int _), _ => true
  | some (.ref _), _ => true
  | some .null, _ => true
  | some (.float _), _ => true
  | some (.retAddr _), _ => true
  | some (.long _), i => decide (¬ i = 0)
  | some (.double _), i => decide (¬ i = 0)
def nw_sto : nw_L → Nat → Value → Option nw_L
  | [], _, _ => none
  | _ :: t, 0, v => some (some v :: t)
  | a :: t, i + 1, v => if nw_nl a i then (nw_sto t i v).map (a :: ·) else none
def nw_lk : Instr → Nat → Bool
  | .iconst _, n | .lconst _, n | .iload_n _, n | .lload_n _, n | .aload_n _, n | .istore_n _, n | .astore_n _, n => n == 1
  | .iadd, n | .isub, n | .imul, n | .idiv, n | .irem, n | .ineg, n | .iand, n | .ior, n | .ixor, n | .ishl, n | .ishr, n => n == 1
  | .land, n | .lor, n | .lshl, n | .lshr, n | .lcmp, n | .i2l, n | .l2i, n | .dup, n | .dup2, n | .pop, n => n == 1
  | .iaload, n | .iastore, n | .baload, n | .bastore, n | .ireturn, n | .return_, n => n == 1
  | .bipush _, n | .iload _, n | .lload _, n | .aload _, n | .istore _, n | .astore _, n | .ldc _, n => n == 2
  | .sipush _, n | .iinc _ _, n | .goto _, n | .if_icmp _ _, n | .ifCond _ _, n | .getfield _, n | .putfield _, n | .ldc2_w _, n => n == 3
  | .invokestatic _, n | .invokevirtual _, n => n == 3
  | .tableswitch _ _ _ _, _ | .lookupswitch _ _, _ => true
  | _, _ => false
def nw_nn (pc : Nat) (off : Int) : Bool := decide (0 ≤ (pc : Int) + off)
def nw_tk (pc : Nat) : Instr → Bool
  | .goto off => nw_nn pc off
  | .if_icmp _ off => nw_nn pc off
  | .ifCond _ off => nw_nn pc off
  | .tableswitch d lo hi offs => nw_nn pc d && offs.toList.all (nw_nn pc) && decide (hi - lo + 1 = offs.size)
  | .lookupswitch _ ps => (ps.toList.zip (ps.toList.drop 1)).all (fun (a, next) => a.1 < next.1)
  | _ => true
def nw_dec (cc : ByteArray) (pc : Nat) : Option Instr := match decode cc pc with
  | .ok (i, n) => if nw_lk i n && nw_tk pc i then some i else none
  | .error _ => none
theorem nw_dec_ok {cc : ByteArray} {pc : Nat} {i : Instr} (h : nw_dec cc pc = some i) : ∃ n, decode cc pc = .ok (i, n) ∧ nw_lk i n = true ∧ nw_tk pc i = true := by
  unfold nw_dec at h
  cases hd : decode cc pc with
  | error e => rw [hd] at h; cases h
  | ok q =>
    obtain ⟨j, n⟩ := q
    rw [hd] at h
    dsimp only at h
    by_cases hc : (nw_lk j n && nw_tk pc j) = true
    · rw [if_pos hc] at h
      cases h
      rw [Bool.and_eq_true] at hc
      exact ⟨n, rfl, hc.1, hc.2⟩
    · rw [if_neg hc] at h
      cases h
def nw_t (pc : Nat) (off : Int) : Nat := ((pc : Int) + off).toNat
def nw_ts (pc : Nat) (d lo hi : Int) (offs : Array Int) (v : Int32) : Nat := if v.toInt < lo ∨ hi < v.toInt then nw_t pc d else nw_t pc ((offs[(v.toInt - lo).toNat]?).getD d)
def nw_i1 (st : List Value) (k : Int32 → List Value → nw_O) : Option nw_O := match st with
  | .int x :: r => some (k x r)
  | _ => none
def nw_i2 (st : List Value) (k : Int32 → Int32 → List Value → nw_O) : Option nw_O := match st with
  | .int y :: .int x :: r => some (k x y r)
  | _ => none
def nw_l2 (st : List Value) (k : Int64 → Int64 → List Value → nw_O) : Option nw_O := match st with
  | .long y :: .long x :: r => some (k x y r)
  | _ => none
def nw_l1 (st : List Value) (k : Int64 → List Value → nw_O) : Option nw_O := match st with
  | .long x :: r => some (k x r)
  | _ => none
def nw_li (st : List Value) (k : Int64 → Int32 → List Value → nw_O) : Option nw_O := match st with
  | .int y :: .long x :: r => some (k x y r)
  | _ => none
def nw_lo (lv : nw_L) (i : Nat) (k : Value → nw_O) : Option nw_O := match nw_ld lv i with
  | some v => some (k v)
  | none => none
def nw_ldI (lv : nw_L) (i : Nat) (k : Int32 → nw_O) : Option nw_O := match nw_ld lv i with
  | some (.int v) => some (k v)
  | _ => none
def nw_ldL (lv : nw_L) (i : Nat) (k : Int64 → nw_O) : Option nw_O := match nw_ld lv i with
  | some (.long v) => some (k v)
  | _ => none
def nw_ldR (lv : nw_L) (i : Nat) (k : Nat → nw_O) : Option nw_O := match nw_ld lv i with
  | some (.ref v) => some (k v)
  | _ => none
def nw_stI (lv : nw_L) (i : Nat) (st : List Value) (k : nw_L → List Value → nw_O) : Option nw_O := match st with
  | .int x :: r => match nw_sto lv i (.int x) with
    | some lv' => some (k lv' r)
    | none => none
  | _ => none
def nw_stR (lv : nw_L) (i : Nat) (st : List Value) (k : nw_L → List Value → nw_O) : Option nw_O := match st with
  | .ref x :: r => match nw_sto lv i (.ref x) with
    | some lv' => some (k lv' r)
    | none => none
  | _ => none
/-- an int array's length, a boolean array's -/
def nw_al (sh : nw_Sh) (z : Bool) (c : Nat) : Option Nat := match sh[c]? with
  | some (.inr (b, n)) => if b = z then some n else none
  | _ => none
/-- an object's field: none, an int; some j, the cell j -/
def nw_fk (sh : nw_Sh) (c ci k : Nat) : Option (Option Nat) := match sh[c]? with
  | some (.inl (cj, fs)) => if cj = ci then fs[k]? else none
  | _ => none
def nw_ic (pc : Nat) (lv : nw_L) (mem : nw_M) (c : Prop) (off : Int) (r : List Value) : nw_O := .inr (.inr (c, (nw_t pc off, lv, r, mem), (pc + 3, lv, r, mem)))
def nw_icn (pc : Nat) (lv : nw_L) (mem : nw_M) (c : Prop) (off : Int) (r : List Value) : nw_O := .inr (.inr (c, (pc + 3, lv, r, mem), (nw_t pc off, lv, r, mem)))
def nw_cmp (pc : Nat) (lv : nw_L) (mem : nw_M) (off : Int) (x y : Int32) (r : List Value) : ClassFile.Cond → nw_O
  | .eq => nw_ic pc lv mem (x = y) off r
  | .ne => nw_icn pc lv mem (x = y) off r
  | .lt => nw_ic pc lv mem (x < y) off r
  | .ge => nw_ic pc lv mem (y ≤ x) off r
  | .gt => nw_ic pc lv mem (y < x) off r
  | .le => nw_ic pc lv mem (x ≤ y) off r
/-- one instruction that is no call and no return; rF: own class, entry -> class, field; rC, rL: constants; rS: string constants, as cells from 100 on -/
def nw_S (rF : Nat → Nat → Option (Nat × Nat)) (rC : Nat → Nat → Option Int32) (rL : Nat → Nat → Option Int64) (rS : Nat → Nat → Option Nat) (own : Nat) (sh : nw_Sh) (pc : Nat) (lv : nw_L) (mem : nw_M) (st : List Value) : Instr → Option nw_O
  | .iconst n => some (.inl (pc + 1, lv, .int (Int32.ofInt n) :: st, mem))
  | .bipush n => some (.inl (pc + 2, lv, .int (Int8.ofInt n).toInt32 :: st, mem))
  | .sipush n => some (.inl (pc + 3, lv, .int (Int16.ofInt n).toInt32 :: st, mem))
  | .lconst n => some (.inl (pc + 1, lv, .long (Int64.ofNat (n : Nat)) :: st, mem))
  | .iload i => nw_ldI lv i fun x => .inl (pc + 2, lv, .int x :: st, mem)
  | .iload_n i => nw_ldI lv i fun x => .inl (pc + 1, lv, .int x :: st, mem)
  | .lload i => nw_ldL lv i fun x => .inl (pc + 2, lv, .long x :: st, mem)
  | .lload_n i => nw_ldL lv i fun x => .inl (pc + 1, lv, .long x :: st, mem)
  | .aload i => nw_ldR lv i fun x => .inl (pc + 2, lv, .ref x :: st, mem)
  | .aload_n i => nw_ldR lv i fun x => .inl (pc + 1, lv, .ref x :: st, mem)
  | .istore i => nw_stI lv i st fun lv' r => .inl (pc + 2, lv', r, mem)
  | .istore_n i => nw_stI lv i st fun lv' r => .inl (pc + 1, lv', r, mem)
  | .astore i => nw_stR lv i st fun lv' r => .inl (pc + 2, lv', r, mem)
  | .astore_n i => nw_stR lv i st fun lv' r => .inl (pc + 1, lv', r, mem)
  | .iinc i n => match nw_ld lv i with
    | some (.int x) => match nw_sto lv i (.int (x + Int32.ofInt n)) with
      | some lv' => some (.inl (pc + 3, lv', st, mem))
      | none => none
    | _ => none
  | .iadd => nw_i2 st fun x y r => .inl (pc + 1, lv, .int (x + y) :: r, mem)
  | .isub => nw_i2 st fun x y r => .inl (pc + 1, lv, .int (x - y) :: r, mem)
  | .imul => nw_i2 st fun x y r => .inl (pc + 1, lv, .int (x * y) :: r, mem)
  | .iand => nw_i2 st fun x y r => .inl (pc + 1, lv, .int (x &&& y) :: r, mem)
  | .ior => nw_i2 st fun x y r => .inl (pc + 1, lv, .int (x ||| y) :: r, mem)
  | .ixor => nw_i2 st fun x y r => .inl (pc + 1, lv, .int (x ^^^ y) :: r, mem)
  | .ishl => nw_i2 st fun x y r => .inl (pc + 1, lv, .int (x <<< (y &&& 31)) :: r, mem)
  | .ishr => nw_i2 st fun x y r => .inl (pc + 1, lv, .int (x >>> (y &&& 31)) :: r, mem)
  | .idiv => nw_i2 st fun x y r => .inr (.inl (¬ y = 0, (pc + 1, lv, .int (x / y) :: r, mem)))
  | .irem => nw_i2 st fun x y r => .inr (.inl (¬ y = 0, (pc + 1, lv, .int (x - x / y * y) :: r, mem)))
  | .ineg => nw_i1 st fun x r => .inl (pc + 1, lv, .int (-x) :: r, mem)
  | .i2l => nw_i1 st fun x r => .inl (pc + 1, lv, .long x.toInt64 :: r, mem)
  | .l2i => nw_l1 st fun x r => .inl (pc + 1, lv, .int x.toInt32 :: r, mem)
  | .land => nw_l2 st fun x y r => .inl (pc + 1, lv, .long (x &&& y) :: r, mem)
  | .lor => nw_l2 st fun x y r => .inl (pc + 1, lv, .long (x ||| y) :: r, mem)
  | .lcmp => nw_l2 st fun x y r => .inl (pc + 1, lv, .int (lg_cmp x y) :: r, mem)
  | .lshl => nw_li st fun x y r => .inl (pc + 1, lv, .long (x <<< (y.toInt64 &&& 63)) :: r, mem)
  | .lshr => nw_li st fun x y r => .inl (pc + 1, lv, .long (x >>> (y.toInt64 &&& 63)) :: r, mem)
  | .pop => match st with
    | .int _ :: r => some (.inl (pc + 1, lv, r, mem))
    | _ => none
  | .dup => match st with
    | .int x :: r => some (.inl (pc + 1, lv, .int x :: .int x :: r, mem))
    | .ref x :: r => some (.inl (pc + 1, lv, .ref x :: .ref x :: r, mem))
    | _ => none
  | .dup2 => match st with
    | .int x :: .ref y :: r => some (.inl (pc + 1, lv, .int x :: .ref y :: .int x :: .ref y :: r, mem))
    | _ => none
  | .goto off => some (.inl (nw_t pc off, lv, st, mem))
  | .if_icmp c off => nw_i2 st fun x y r => nw_cmp pc lv mem off x y r c
  | .ifCond c off => nw_i1 st fun x r => nw_cmp pc lv mem off x 0 r c
  | .tableswitch d lo hi offs => nw_i1 st fun x r => .inl (nw_ts pc d lo hi offs x, lv, r, mem)
  | .lookupswitch d ps => nw_i1 st fun x r => .inr (.inl (0 ≤ (pc : Int) + Op.lookupswitch.offset ps.toList d x.toInt, (nw_t pc (Op.lookupswitch.offset ps.toList d x.toInt), lv, r, mem)))
  | .ldc i => match rC own i with
    | some v => some (.inl (pc + 2, lv, .int v :: st, mem))
    | none => match rS own i with
      | some a => some (.inl (pc + 2, lv, .ref a :: st, mem))
      | none => none
  | .ldc2_w i => match rL own i with
    | some v => some (.inl (pc + 3, lv, .long v :: st, mem))
    | none => none
  | .getfield i => match rF own i with
    | some (ci, k) => match st with
      | .ref c :: r => match nw_fk sh c ci k with
        | some (some j) => some (.inl (pc + 3, lv, .ref j :: r, mem))
        | some none => some (.inl (pc + 3, lv, .int (mem c k) :: r, mem))
        | none => none
      | _ => none
    | none => none
  | .putfield i => match rF own i with
    | some (ci, k) => match st with
      | .int v :: .ref c :: r => match nw_fk sh c ci k with
        | some none => some (.inl (pc + 3, lv, r, nw_up mem c k v))
        | _ => none
      | _ => none
    | none => none
  | .iaload => match st with
    | .int i :: .ref c :: r => match nw_al sh false c with
      | some n => some (.inr (.inl (vp_in i n, (pc + 1, lv, .int (mem c i.toNatClampNeg) :: r, mem))))
      | none => none
    | _ => none
  | .baload => match st with
    | .int i :: .ref c :: r => match nw_al sh true c with
      | some n => some (.inr (.inl (vp_in i n, (pc + 1, lv, .int (mem c i.toNatClampNeg) :: r, mem))))
      | none => none
    | _ => none
  | .iastore => match st with
    | .int v :: .int i :: .ref c :: r => match nw_al sh false c with
      | some n => some (.inr (.inl (vp_in i n, (pc + 1, lv, r, nw_up mem c i.toNatClampNeg v))))
      | none => none
    | _ => none
  | .bastore => match st with
    | .int v :: .int i :: .ref c :: r => match nw_al sh true c with
      | some n => some (.inr (.inl (vp_in i n ∧ (v = 0 ∨ v = 1), (pc + 1, lv, r, nw_up mem c i.toNatClampNeg v))))
      | none => none
    | _ => none
  | _ => none
def nw_A (X : nw_X) : nw_O → Prop
  | .inl s => X s.1 s.2.1 s.2.2.1 s.2.2.2
  | .inr (.inl (c, s)) => c ∧ X s.1 s.2.1 s.2.2.1 s.2.2.2
  | .inr (.inr (c, s, t)) => (c → X s.1 s.2.1 s.2.2.1 s.2.2.2) ∧ (¬ c → X t.1 t.2.1 t.2.2.1 t.2.2.2)
theorem nw_A_mono {X Y : nw_X} (h : ∀ pc lv st mem, X pc lv st mem → Y pc lv st mem) : ∀ o, nw_A X o → nw_A Y o
  | .inl _, k => h _ _ _ _ k
  | .inr (.inl _), k => ⟨k.1, h _ _ _ _ k.2⟩
  | .inr (.inr _), k => ⟨fun c => h _ _ _ _ (k.1 c), fun c => h _ _ _ _ (k.2 c)⟩
/-- the first n of the stack, turned round, and the rest, which is small -/
def nw_sml : List Value → Bool
  | [] => true
  | [_] => true
  | [_, _] => true
  | [_, _, _] => true
  | [_, _, _, _] => true
  | _ => false
def nw_pop : Nat → List Value → List Value → Option (List Value × List Value)
  | 0, st, acc => some (acc, st)
  | _ + 1, [], _ => none
  | n + 1, v :: st, acc => nw_pop n st (v :: acc)
def nw_psh : Option Value → List Value → List Value
  | none, r => r
  | some v, r => v :: r
/-- an object's class -/
def nw_cl (sh : nw_Sh) (c : Nat) : Option Nat := match sh[c]? with
  | some (.inl (cj, _)) => some cj
  | _ => none
/-- a call: of which method (its number), how many words it takes, of which class its receiver must be (none: static) -/
abbrev nw_T : Type := Nat → Nat → Option (Nat × Nat × Option Nat)
def nw_rc (sh : nw_Sh) (rc : Option Nat) (as : List Value) : Bool := match rc, as with
  | none, _ => true
  | some ci, .ref c :: _ => nw_cl sh c == some ci
  | _, _ => false
def nw_Cl (rM : nw_T) (own : Nat) (sh : nw_Sh) (call : nw_C) (X : nw_X) (pc : Nat) (lv : nw_L) (mem : nw_M) (st : List Value) (i : Nat) (vt : Bool) : Prop := match rM own i with
  | some (k, n, rc) => match nw_pop n st [] with
    | some (as, r) => (rc.isSome = vt ∧ nw_rc sh rc as = true ∧ nw_sml r = true) ∧ call k as mem (fun v m => X (pc + 3) lv (nw_psh v r) m)
    | none => False
  | none => False
/-- System.arraycopy between two int arrays -/
def nw_cp (sh : nw_Sh) (X : nw_X) (pc : Nat) (lv : nw_L) (mem : nw_M) (st : List Value) : Prop := match st with
  | .int n :: .int dp :: .ref d :: .int sp :: .ref s :: r => match nw_al sh false s, nw_al sh false d with
    | some ns, some nd => (¬ sp < 0 ∧ ¬ dp < 0 ∧ ¬ n < 0 ∧ sp.toNatClampNeg + n.toNatClampNeg ≤ ns ∧ dp.toNatClampNeg + n.toNatClampNeg ≤ nd ∧ r = []) ∧ X (pc + 3) lv r (nw_row mem d (va_cpy (mem s) (mem d) sp.toNatClampNeg dp.toNatClampNeg n.toNatClampNeg))
    | _, _ => False
  | _ => False
/-- String.length, String.charAt of a constant -/
def nw_sl (sn : List Nat) (X : nw_X) (pc : Nat) (lv : nw_L) (mem : nw_M) (st : List Value) : Prop := match st with
  | .ref a :: r => (100 ≤ a ∧ a - 100 < sn.length ∧ nw_sml r = true) ∧ X (pc + 3) lv (.int (Int32.ofNat (sn.getD (a - 100) 0)) :: r) mem
  | _ => False
def nw_sc (sn : List Nat) (sb : List (List Int32)) (X : nw_X) (pc : Nat) (lv : nw_L) (mem : nw_M) (st : List Value) : Prop := match st with
  | .int i :: .ref a :: r => (100 ≤ a ∧ a - 100 < sn.length ∧ nw_sml r = true ∧ vp_in i (sn.getD (a - 100) 0)) ∧ X (pc + 3) lv (.int ((sb.getD (a - 100) []).getD i.toNatClampNeg 0) :: r) mem
  | _ => False
/-- the tables of a system -/
abbrev nw_Tb : Type := (Nat → Nat → Option (Nat × Nat)) × (Nat → Nat → Option Int32) × (Nat → Nat → Option Int64) × (Nat → Nat → Option Nat) × nw_T × (Nat → Nat → Option Nat) × List Nat × List (List Int32)
def nw_rt (ret : Option FieldType) (v : Int32) : Prop := match ret with
  | some .int => True
  | some .boolean => v = 0 ∨ v = 1
  | _ => False
def nw_I (tb : nw_Tb) (own : Nat) (ret : Option FieldType) (sh : nw_Sh) (call : nw_C) (Q : nw_K) (X : nw_X) (pc : Nat) (lv : nw_L) (st : List Value) (mem : nw_M) : Instr → Prop
  | .invokestatic i => match tb.2.2.2.2.2.1 own i with
    | some 0 => nw_cp sh X pc lv mem st
    | some _ => False
    | none => nw_Cl tb.2.2.2.2.1 own sh call X pc lv mem st i false
  | .invokevirtual i => match tb.2.2.2.2.2.1 own i with
    | some 1 => nw_sl tb.2.2.2.2.2.2.1 X pc lv mem st
    | some 2 => nw_sc tb.2.2.2.2.2.2.1 tb.2.2.2.2.2.2.2 X pc lv mem st
    | some _ => False
    | none => nw_Cl tb.2.2.2.2.1 own sh call X pc lv mem st i true
  | .ireturn => match st with
    | [.int v] => nw_rt ret v ∧ Q (some (.int v)) mem
    | _ => False
  | .return_ => match st, ret with
    | [], none => Q none mem
    | _, _ => False
  | i => match nw_S tb.1 tb.2.1 tb.2.2.1 tb.2.2.2.1 own sh pc lv mem st i with
    | some o => nw_A X o
    | none => False
def nw_F (tb : nw_Tb) (cc : ByteArray) (own : Nat) (ret : Option FieldType) (sh : nw_Sh) (call : nw_C) (Q : nw_K) (X : nw_X) (pc : Nat) (lv : nw_L) (st : List Value) (mem : nw_M) : Prop := match nw_dec cc pc with
  | some i => nw_I tb own ret sh call Q X pc lv st mem i
  | none => False
def nw_lfp (F : nw_X → nw_X) : nw_X := fun pc lv st mem => ∀ X : nw_X, (∀ pc lv st mem, F X pc lv st mem → X pc lv st mem) → X pc lv st mem
def nw_mono (call : nw_C) : Prop := ∀ (k : Nat) (as : List Value) (mem : nw_M) (P P' : nw_K), (∀ v m, P v m → P' v m) → call k as mem P → call k as mem P'
theorem nw_Cl_mono {rM : nw_T} {own : Nat} {sh : nw_Sh} {call : nw_C} (hc : nw_mono call) {X Y : nw_X} (h : ∀ pc lv st mem, X pc lv st mem → Y pc lv st mem) {pc : Nat} {lv : nw_L} {mem : nw_M} {st : List Value} {i : Nat} {vt : Bool} (k : nw_Cl rM own sh call X pc lv mem st i vt) : nw_Cl rM own sh call Y pc lv mem st i vt := by
  unfold nw_Cl at k ⊢
  split at k <;> rename_i e1
  · split at k <;> rename_i e2
    · exact ⟨k.1, hc _ _ _ _ _ (fun v m q => h _ _ _ _ q) k.2⟩
    · exact k.elim
  · exact k.elim
theorem nw_I_mono {tb : nw_Tb} {own : Nat} {ret : Option FieldType} {sh : nw_Sh} {call : nw_C} (hc : nw_mono call) {Q Q' : nw_K} (hQ : ∀ v m, Q v m → Q' v m) {X Y : nw_X} (h : ∀ pc lv st mem, X pc lv st mem → Y pc lv st mem) {pc : Nat} {lv : nw_L} {st : List Value} {mem : nw_M} {i : Instr} (k : nw_I tb own ret sh call Q X pc lv st mem i) : nw_I tb own ret sh call Q' Y pc lv st mem i := by
  unfold nw_I at k ⊢
  split at k
  · split at k <;> rename_i e1
    · unfold nw_cp at k ⊢
      split at k
      · split at k
        · exact ⟨k.1, h _ _ _ _ k.2⟩
        · exact k.elim
      · exact k.elim
    · exact k.elim
    · exact nw_Cl_mono hc h k
  · split at k <;> rename_i e1
    · unfold nw_sl at k ⊢
      split at k
      · exact ⟨k.1, h _ _ _ _ k.2⟩
      · exact k.elim
    · unfold nw_sc at k ⊢
      split at k
      · exact ⟨k.1, h _ _ _ _ k.2⟩
      · exact k.elim
    · exact k.elim
    · exact nw_Cl_mono hc h k
  · split at k
    · exact ⟨k.1, hQ _ _ k.2⟩
    · exact k.elim
  · split at k
    · exact hQ _ _ k
    · exact k.elim
  · split at k <;> rename_i e1
    · exact nw_A_mono h _ k
    · exact k.elim
theorem nw_F_mono {tb : nw_Tb} {cc : ByteArray} {own : Nat} {ret : Option FieldType} {sh : nw_Sh} {call : nw_C} (hc : nw_mono call) {Q Q' : nw_K} (hQ : ∀ v m, Q v m → Q' v m) {X Y : nw_X} (h : ∀ pc lv st mem, X pc lv st mem → Y pc lv st mem) {pc : Nat} {lv : nw_L} {st : List Value} {mem : nw_M} (k : nw_F tb cc own ret sh call Q X pc lv st mem) : nw_F tb cc own ret sh call Q' Y pc lv st mem := by
  unfold nw_F at k ⊢
  split at k
  · exact nw_I_mono hc hQ h k
  · exact k.elim
theorem nw_lfp_eq {F : nw_X → nw_X} (hF : ∀ X Y : nw_X, (∀ pc lv st mem, X pc lv st mem → Y pc lv st mem) → ∀ pc lv st mem, F X pc lv st mem → F Y pc lv st mem) (pc : Nat) (lv : nw_L) (st : List Value) (mem : nw_M) : nw_lfp F pc lv st mem = F (nw_lfp F) pc lv st mem := by
  have up : ∀ pc lv st mem, F (nw_lfp F) pc lv st mem → nw_lfp F pc lv st mem := fun pc lv st mem k X hX => hX _ _ _ _ (hF _ _ (fun _ _ _ _ q => q X hX) _ _ _ _ k)
  exact propext ⟨fun k => k _ (fun pc lv st mem q => hF _ _ up _ _ _ _ q), fun k => up _ _ _ _ k⟩
/-- the locals at a method's entry -/
def nw_ea : List Value → nw_L
  | [] => []
  | .long x :: t => some (.long x) :: none :: nw_ea t
  | .double x :: t => some (.double x) :: none :: nw_ea t
  | v :: t => some v :: nw_ea t
def nw_pad : nw_L → Nat → nw_L
  | _, 0 => []
  | [], n + 1 => none :: nw_pad [] n
  | a :: t, n + 1 => a :: nw_pad t n
end
