section
-- ===== PART A: goes FIRST, ahead of the names: the tables' words, and 'selects' of the private methods out of them =====
/-- a private method of a class that the tables say can be made, by its rows of tables_1 -/
def lw_okq (q : MethodName × Nat) : Prop := (q.1.cls ≠ "java/lang/invoke/MethodHandle" ∧ q.1.cls ≠ "java/lang/invoke/VarHandle") ∧ Cond.instantiable q.1.cls q.2 ∈ tables_1 ∧ Cond.privateMethod q.1 ∈ tables_1 ∧ Cond.instanceMethod q.1 ∈ tables_1
theorem lw_p0 : lw_okq (⟨"NextWay$Reader", "advance", "(LNextWay$Text;)V"⟩, 5) := ⟨⟨by decide +kernel, by decide +kernel⟩, List.mem_of_getElem? (i := 39) (by decide +kernel), List.mem_of_getElem? (i := 150) (by decide +kernel), List.mem_of_getElem? (i := 151) (by decide +kernel)⟩
theorem lw_p1 : lw_okq (⟨"NextWay$Reader", "doLine", "(LNextWay$Text;)Z"⟩, 5) := ⟨⟨by decide +kernel, by decide +kernel⟩, List.mem_of_getElem? (i := 39) (by decide +kernel), List.mem_of_getElem? (i := 161) (by decide +kernel), List.mem_of_getElem? (i := 162) (by decide +kernel)⟩
theorem lw_p2 : lw_okq (⟨"NextWay$Reader", "isWord", "(LNextWay$Text;Ljava/lang/String;)Z"⟩, 5) := ⟨⟨by decide +kernel, by decide +kernel⟩, List.mem_of_getElem? (i := 39) (by decide +kernel), List.mem_of_getElem? (i := 166) (by decide +kernel), List.mem_of_getElem? (i := 167) (by decide +kernel)⟩
theorem lw_p3 : lw_okq (⟨"NextWay$Reader", "doTown", "(LNextWay$Text;)Z"⟩, 5) := ⟨⟨by decide +kernel, by decide +kernel⟩, List.mem_of_getElem? (i := 39) (by decide +kernel), List.mem_of_getElem? (i := 218) (by decide +kernel), List.mem_of_getElem? (i := 219) (by decide +kernel)⟩
theorem lw_p4 : lw_okq (⟨"NextWay$Reader", "digit", "(LNextWay$Text;)I"⟩, 5) := ⟨⟨by decide +kernel, by decide +kernel⟩, List.mem_of_getElem? (i := 39) (by decide +kernel), List.mem_of_getElem? (i := 222) (by decide +kernel), List.mem_of_getElem? (i := 223) (by decide +kernel)⟩
theorem lw_p5 : lw_okq (⟨"NextWay$Reader", "doWay", "(LNextWay$Text;)Z"⟩, 5) := ⟨⟨by decide +kernel, by decide +kernel⟩, List.mem_of_getElem? (i := 39) (by decide +kernel), List.mem_of_getElem? (i := 231) (by decide +kernel), List.mem_of_getElem? (i := 232) (by decide +kernel)⟩
theorem lw_p6 : lw_okq (⟨"NextWay$Reader", "doVane", "(LNextWay$Text;)Z"⟩, 5) := ⟨⟨by decide +kernel, by decide +kernel⟩, List.mem_of_getElem? (i := 39) (by decide +kernel), List.mem_of_getElem? (i := 249) (by decide +kernel), List.mem_of_getElem? (i := 250) (by decide +kernel)⟩
theorem lw_p7 : lw_okq (⟨"NextWay$Reader", "doWalker", "(LNextWay$Text;)Z"⟩, 5) := ⟨⟨by decide +kernel, by decide +kernel⟩, List.mem_of_getElem? (i := 39) (by decide +kernel), List.mem_of_getElem? (i := 266) (by decide +kernel), List.mem_of_getElem? (i := 267) (by decide +kernel)⟩
theorem lw_p8 : lw_okq (⟨"NextWay$Reader", "kindWord", "(LNextWay$Text;)I"⟩, 5) := ⟨⟨by decide +kernel, by decide +kernel⟩, List.mem_of_getElem? (i := 39) (by decide +kernel), List.mem_of_getElem? (i := 287) (by decide +kernel), List.mem_of_getElem? (i := 288) (by decide +kernel)⟩
theorem lw_p9 : lw_okq (⟨"NextWay$Reader", "doKind", "(LNextWay$Text;I)Z"⟩, 5) := ⟨⟨by decide +kernel, by decide +kernel⟩, List.mem_of_getElem? (i := 39) (by decide +kernel), List.mem_of_getElem? (i := 295) (by decide +kernel), List.mem_of_getElem? (i := 296) (by decide +kernel)⟩
theorem lw_p10 : lw_okq (⟨"NextWay$Town", "stepOf", "(I)I"⟩, 6) := ⟨⟨by decide +kernel, by decide +kernel⟩, List.mem_of_getElem? (i := 45) (by decide +kernel), List.mem_of_getElem? (i := 360) (by decide +kernel), List.mem_of_getElem? (i := 361) (by decide +kernel)⟩
theorem lw_p11 : lw_okq (⟨"NextWay$Town", "turnedBy", "(III)I"⟩, 6) := ⟨⟨by decide +kernel, by decide +kernel⟩, List.mem_of_getElem? (i := 45) (by decide +kernel), List.mem_of_getElem? (i := 364) (by decide +kernel), List.mem_of_getElem? (i := 365) (by decide +kernel)⟩
theorem lw_p12 : lw_okq (⟨"NextWayModel", "token", "()V"⟩, 20) := ⟨⟨by decide +kernel, by decide +kernel⟩, List.mem_of_getElem? (i := 574) (by decide +kernel), List.mem_of_getElem? (i := 659) (by decide +kernel), List.mem_of_getElem? (i := 660) (by decide +kernel)⟩
theorem lw_p13 : lw_okq (⟨"NextWayModel", "readsLine", "()Z"⟩, 20) := ⟨⟨by decide +kernel, by decide +kernel⟩, List.mem_of_getElem? (i := 574) (by decide +kernel), List.mem_of_getElem? (i := 666) (by decide +kernel), List.mem_of_getElem? (i := 667) (by decide +kernel)⟩
theorem lw_p14 : lw_okq (⟨"NextWayModel", "wordOf", "()I"⟩, 20) := ⟨⟨by decide +kernel, by decide +kernel⟩, List.mem_of_getElem? (i := 574) (by decide +kernel), List.mem_of_getElem? (i := 670) (by decide +kernel), List.mem_of_getElem? (i := 671) (by decide +kernel)⟩
theorem lw_p15 : lw_okq (⟨"NextWayModel", "cornerWord", "()I"⟩, 20) := ⟨⟨by decide +kernel, by decide +kernel⟩, List.mem_of_getElem? (i := 574) (by decide +kernel), List.mem_of_getElem? (i := 674) (by decide +kernel), List.mem_of_getElem? (i := 675) (by decide +kernel)⟩
def lw_privs_1 : List (MethodName × Nat) := [(⟨"NextWay$Reader", "advance", "(LNextWay$Text;)V"⟩, 5), (⟨"NextWay$Reader", "doLine", "(LNextWay$Text;)Z"⟩, 5), (⟨"NextWay$Reader", "isWord", "(LNextWay$Text;Ljava/lang/String;)Z"⟩, 5), (⟨"NextWay$Reader", "doTown", "(LNextWay$Text;)Z"⟩, 5), (⟨"NextWay$Reader", "digit", "(LNextWay$Text;)I"⟩, 5), (⟨"NextWay$Reader", "doWay", "(LNextWay$Text;)Z"⟩, 5), (⟨"NextWay$Reader", "doVane", "(LNextWay$Text;)Z"⟩, 5), (⟨"NextWay$Reader", "doWalker", "(LNextWay$Text;)Z"⟩, 5), (⟨"NextWay$Reader", "kindWord", "(LNextWay$Text;)I"⟩, 5), (⟨"NextWay$Reader", "doKind", "(LNextWay$Text;I)Z"⟩, 5), (⟨"NextWay$Town", "stepOf", "(I)I"⟩, 6), (⟨"NextWay$Town", "turnedBy", "(III)I"⟩, 6), (⟨"NextWayModel", "token", "()V"⟩, 20), (⟨"NextWayModel", "readsLine", "()Z"⟩, 20), (⟨"NextWayModel", "wordOf", "()I"⟩, 20), (⟨"NextWayModel", "cornerWord", "()I"⟩, 20)]
theorem lw_r1 : ∀ q ∈ lw_privs_1, lw_okq q := List.forall_mem_cons.mpr ⟨lw_p0, List.forall_mem_cons.mpr ⟨lw_p1, List.forall_mem_cons.mpr ⟨lw_p2, List.forall_mem_cons.mpr ⟨lw_p3, List.forall_mem_cons.mpr ⟨lw_p4, List.forall_mem_cons.mpr ⟨lw_p5, List.forall_mem_cons.mpr ⟨lw_p6, List.forall_mem_cons.mpr ⟨lw_p7, List.forall_mem_cons.mpr ⟨lw_p8, List.forall_mem_cons.mpr ⟨lw_p9, List.forall_mem_cons.mpr ⟨lw_p10, List.forall_mem_cons.mpr ⟨lw_p11, List.forall_mem_cons.mpr ⟨lw_p12, List.forall_mem_cons.mpr ⟨lw_p13, List.forall_mem_cons.mpr ⟨lw_p14, List.forall_mem_cons.mpr ⟨lw_p15, fun _ h => absurd h List.not_mem_nil⟩⟩⟩⟩⟩⟩⟩⟩⟩⟩⟩⟩⟩⟩⟩⟩
theorem lw_p16 : lw_okq (⟨"NextWayModel", "isWord", "(III)Z"⟩, 20) := ⟨⟨by decide +kernel, by decide +kernel⟩, List.mem_of_getElem? (i := 574) (by decide +kernel), List.mem_of_getElem? (i := 679) (by decide +kernel), List.mem_of_getElem? (i := 680) (by decide +kernel)⟩
theorem lw_p17 : lw_okq (⟨"NextWayModel", "readsRest", "(I)Z"⟩, 20) := ⟨⟨by decide +kernel, by decide +kernel⟩, List.mem_of_getElem? (i := 574) (by decide +kernel), List.mem_of_getElem? (i := 690) (by decide +kernel), List.mem_of_getElem? (i := 691) (by decide +kernel)⟩
theorem lw_p18 : lw_okq (⟨"NextWayModel", "numberHere", "()I"⟩, 20) := ⟨⟨by decide +kernel, by decide +kernel⟩, List.mem_of_getElem? (i := 574) (by decide +kernel), List.mem_of_getElem? (i := 694) (by decide +kernel), List.mem_of_getElem? (i := 695) (by decide +kernel)⟩
theorem lw_p19 : lw_okq (⟨"NextWayModel", "reads", "(III)Z"⟩, 20) := ⟨⟨by decide +kernel, by decide +kernel⟩, List.mem_of_getElem? (i := 574) (by decide +kernel), List.mem_of_getElem? (i := 698) (by decide +kernel), List.mem_of_getElem? (i := 699) (by decide +kernel)⟩
theorem lw_p20 : lw_okq (⟨"NextWayModel", "tell", "(I)V"⟩, 20) := ⟨⟨by decide +kernel, by decide +kernel⟩, List.mem_of_getElem? (i := 574) (by decide +kernel), List.mem_of_getElem? (i := 707) (by decide +kernel), List.mem_of_getElem? (i := 708) (by decide +kernel)⟩
theorem lw_p21 : lw_okq (⟨"NextWayModel", "clear", "(I)V"⟩, 20) := ⟨⟨by decide +kernel, by decide +kernel⟩, List.mem_of_getElem? (i := 574) (by decide +kernel), List.mem_of_getElem? (i := 711) (by decide +kernel), List.mem_of_getElem? (i := 712) (by decide +kernel)⟩
theorem lw_p22 : lw_okq (⟨"NextWayModel", "copy", "(II)V"⟩, 20) := ⟨⟨by decide +kernel, by decide +kernel⟩, List.mem_of_getElem? (i := 574) (by decide +kernel), List.mem_of_getElem? (i := 715) (by decide +kernel), List.mem_of_getElem? (i := 716) (by decide +kernel)⟩
theorem lw_p23 : lw_okq (⟨"NextWayModel", "isCorner", "(I)Z"⟩, 20) := ⟨⟨by decide +kernel, by decide +kernel⟩, List.mem_of_getElem? (i := 574) (by decide +kernel), List.mem_of_getElem? (i := 723) (by decide +kernel), List.mem_of_getElem? (i := 724) (by decide +kernel)⟩
theorem lw_p24 : lw_okq (⟨"NextWayModel", "vaneOf", "(II)I"⟩, 20) := ⟨⟨by decide +kernel, by decide +kernel⟩, List.mem_of_getElem? (i := 574) (by decide +kernel), List.mem_of_getElem? (i := 727) (by decide +kernel), List.mem_of_getElem? (i := 728) (by decide +kernel)⟩
theorem lw_p25 : lw_okq (⟨"NextWayModel", "isLeft", "(I)Z"⟩, 20) := ⟨⟨by decide +kernel, by decide +kernel⟩, List.mem_of_getElem? (i := 574) (by decide +kernel), List.mem_of_getElem? (i := 740) (by decide +kernel), List.mem_of_getElem? (i := 741) (by decide +kernel)⟩
theorem lw_p26 : lw_okq (⟨"NextWayModel", "nextVane", "(II)I"⟩, 20) := ⟨⟨by decide +kernel, by decide +kernel⟩, List.mem_of_getElem? (i := 574) (by decide +kernel), List.mem_of_getElem? (i := 744) (by decide +kernel), List.mem_of_getElem? (i := 745) (by decide +kernel)⟩
theorem lw_p27 : lw_okq (⟨"NextWayModel", "turns", "(I)I"⟩, 20) := ⟨⟨by decide +kernel, by decide +kernel⟩, List.mem_of_getElem? (i := 574) (by decide +kernel), List.mem_of_getElem? (i := 748) (by decide +kernel), List.mem_of_getElem? (i := 749) (by decide +kernel)⟩
theorem lw_p28 : lw_okq (⟨"NextWayModel", "isWalker", "(I)Z"⟩, 20) := ⟨⟨by decide +kernel, by decide +kernel⟩, List.mem_of_getElem? (i := 574) (by decide +kernel), List.mem_of_getElem? (i := 756) (by decide +kernel), List.mem_of_getElem? (i := 757) (by decide +kernel)⟩
theorem lw_p29 : lw_okq (⟨"NextWayModel", "beat", "(I)V"⟩, 20) := ⟨⟨by decide +kernel, by decide +kernel⟩, List.mem_of_getElem? (i := 574) (by decide +kernel), List.mem_of_getElem? (i := 766) (by decide +kernel), List.mem_of_getElem? (i := 767) (by decide +kernel)⟩
theorem lw_p30 : lw_okq (⟨"NextWayModel", "leave", "(II)I"⟩, 20) := ⟨⟨by decide +kernel, by decide +kernel⟩, List.mem_of_getElem? (i := 574) (by decide +kernel), List.mem_of_getElem? (i := 770) (by decide +kernel), List.mem_of_getElem? (i := 771) (by decide +kernel)⟩
theorem lw_p31 : lw_okq (⟨"NextWayModel", "firstAt", "(III)I"⟩, 20) := ⟨⟨by decide +kernel, by decide +kernel⟩, List.mem_of_getElem? (i := 574) (by decide +kernel), List.mem_of_getElem? (i := 799) (by decide +kernel), List.mem_of_getElem? (i := 800) (by decide +kernel)⟩
def lw_privs_2 : List (MethodName × Nat) := [(⟨"NextWayModel", "isWord", "(III)Z"⟩, 20), (⟨"NextWayModel", "readsRest", "(I)Z"⟩, 20), (⟨"NextWayModel", "numberHere", "()I"⟩, 20), (⟨"NextWayModel", "reads", "(III)Z"⟩, 20), (⟨"NextWayModel", "tell", "(I)V"⟩, 20), (⟨"NextWayModel", "clear", "(I)V"⟩, 20), (⟨"NextWayModel", "copy", "(II)V"⟩, 20), (⟨"NextWayModel", "isCorner", "(I)Z"⟩, 20), (⟨"NextWayModel", "vaneOf", "(II)I"⟩, 20), (⟨"NextWayModel", "isLeft", "(I)Z"⟩, 20), (⟨"NextWayModel", "nextVane", "(II)I"⟩, 20), (⟨"NextWayModel", "turns", "(I)I"⟩, 20), (⟨"NextWayModel", "isWalker", "(I)Z"⟩, 20), (⟨"NextWayModel", "beat", "(I)V"⟩, 20), (⟨"NextWayModel", "leave", "(II)I"⟩, 20), (⟨"NextWayModel", "firstAt", "(III)I"⟩, 20)]
theorem lw_r2 : ∀ q ∈ lw_privs_2, lw_okq q := List.forall_mem_cons.mpr ⟨lw_p16, List.forall_mem_cons.mpr ⟨lw_p17, List.forall_mem_cons.mpr ⟨lw_p18, List.forall_mem_cons.mpr ⟨lw_p19, List.forall_mem_cons.mpr ⟨lw_p20, List.forall_mem_cons.mpr ⟨lw_p21, List.forall_mem_cons.mpr ⟨lw_p22, List.forall_mem_cons.mpr ⟨lw_p23, List.forall_mem_cons.mpr ⟨lw_p24, List.forall_mem_cons.mpr ⟨lw_p25, List.forall_mem_cons.mpr ⟨lw_p26, List.forall_mem_cons.mpr ⟨lw_p27, List.forall_mem_cons.mpr ⟨lw_p28, List.forall_mem_cons.mpr ⟨lw_p29, List.forall_mem_cons.mpr ⟨lw_p30, List.forall_mem_cons.mpr ⟨lw_p31, fun _ h => absurd h List.not_mem_nil⟩⟩⟩⟩⟩⟩⟩⟩⟩⟩⟩⟩⟩⟩⟩⟩
theorem lw_p32 : lw_okq (⟨"NextWayModel", "stateOf", "(I)I"⟩, 20) := ⟨⟨by decide +kernel, by decide +kernel⟩, List.mem_of_getElem? (i := 574) (by decide +kernel), List.mem_of_getElem? (i := 815) (by decide +kernel), List.mem_of_getElem? (i := 816) (by decide +kernel)⟩
theorem lw_p33 : lw_okq (⟨"NextWayModel", "rows", "()I"⟩, 20) := ⟨⟨by decide +kernel, by decide +kernel⟩, List.mem_of_getElem? (i := 574) (by decide +kernel), List.mem_of_getElem? (i := 823) (by decide +kernel), List.mem_of_getElem? (i := 824) (by decide +kernel)⟩
theorem lw_p34 : lw_okq (⟨"NextWayModel", "beatsBy", "(III)I"⟩, 20) := ⟨⟨by decide +kernel, by decide +kernel⟩, List.mem_of_getElem? (i := 574) (by decide +kernel), List.mem_of_getElem? (i := 827) (by decide +kernel), List.mem_of_getElem? (i := 828) (by decide +kernel)⟩
theorem lw_p35 : lw_okq (⟨"NextWayModel", "vaneIn", "(II)I"⟩, 20) := ⟨⟨by decide +kernel, by decide +kernel⟩, List.mem_of_getElem? (i := 574) (by decide +kernel), List.mem_of_getElem? (i := 831) (by decide +kernel), List.mem_of_getElem? (i := 832) (by decide +kernel)⟩
theorem lw_p36 : lw_okq (⟨"NextWayModel", "fewest", "(III)I"⟩, 20) := ⟨⟨by decide +kernel, by decide +kernel⟩, List.mem_of_getElem? (i := 574) (by decide +kernel), List.mem_of_getElem? (i := 843) (by decide +kernel), List.mem_of_getElem? (i := 844) (by decide +kernel)⟩
theorem lw_p37 : lw_okq (⟨"NextWayModel", "areTurns", "()Z"⟩, 20) := ⟨⟨by decide +kernel, by decide +kernel⟩, List.mem_of_getElem? (i := 574) (by decide +kernel), List.mem_of_getElem? (i := 847) (by decide +kernel), List.mem_of_getElem? (i := 848) (by decide +kernel)⟩
theorem lw_p38 : lw_okq (⟨"NextWayModel", "comesBy", "(III)Z"⟩, 20) := ⟨⟨by decide +kernel, by decide +kernel⟩, List.mem_of_getElem? (i := 574) (by decide +kernel), List.mem_of_getElem? (i := 851) (by decide +kernel), List.mem_of_getElem? (i := 852) (by decide +kernel)⟩
theorem lw_p39 : lw_okq (⟨"NextWayModel", "nextTries", "()Z"⟩, 20) := ⟨⟨by decide +kernel, by decide +kernel⟩, List.mem_of_getElem? (i := 574) (by decide +kernel), List.mem_of_getElem? (i := 855) (by decide +kernel), List.mem_of_getElem? (i := 856) (by decide +kernel)⟩
theorem lw_p40 : lw_okq (⟨"NextWayModel", "wasBy", "(III)I"⟩, 20) := ⟨⟨by decide +kernel, by decide +kernel⟩, List.mem_of_getElem? (i := 574) (by decide +kernel), List.mem_of_getElem? (i := 875) (by decide +kernel), List.mem_of_getElem? (i := 876) (by decide +kernel)⟩
def lw_privs_3 : List (MethodName × Nat) := [(⟨"NextWayModel", "stateOf", "(I)I"⟩, 20), (⟨"NextWayModel", "rows", "()I"⟩, 20), (⟨"NextWayModel", "beatsBy", "(III)I"⟩, 20), (⟨"NextWayModel", "vaneIn", "(II)I"⟩, 20), (⟨"NextWayModel", "fewest", "(III)I"⟩, 20), (⟨"NextWayModel", "areTurns", "()Z"⟩, 20), (⟨"NextWayModel", "comesBy", "(III)Z"⟩, 20), (⟨"NextWayModel", "nextTries", "()Z"⟩, 20), (⟨"NextWayModel", "wasBy", "(III)I"⟩, 20)]
theorem lw_r3 : ∀ q ∈ lw_privs_3, lw_okq q := List.forall_mem_cons.mpr ⟨lw_p32, List.forall_mem_cons.mpr ⟨lw_p33, List.forall_mem_cons.mpr ⟨lw_p34, List.forall_mem_cons.mpr ⟨lw_p35, List.forall_mem_cons.mpr ⟨lw_p36, List.forall_mem_cons.mpr ⟨lw_p37, List.forall_mem_cons.mpr ⟨lw_p38, List.forall_mem_cons.mpr ⟨lw_p39, List.forall_mem_cons.mpr ⟨lw_p40, fun _ h => absurd h List.not_mem_nil⟩⟩⟩⟩⟩⟩⟩⟩⟩
def lw_privs : List (MethodName × Nat) := lw_privs_1 ++ (lw_privs_2 ++ (lw_privs_3))
def lw_tbl : List Cond := k2_sels lw_privs ++ tables_1
theorem lw_privs_ok : ∀ q ∈ lw_privs, lw_okq q := by
  show ∀ q ∈ lw_privs_1 ++ (lw_privs_2 ++ (lw_privs_3)), lw_okq q
  exact List.forall_mem_append.mpr ⟨lw_r1, List.forall_mem_append.mpr ⟨lw_r2, lw_r3⟩⟩
end
section

theorem goodIn_r {big : List Cond} (ws : List Cond) (ps : List Nat) (hp : ws = ps.filterMap (fun i => big[i]?)) (h : ws.all goodWord = true) : GoodIn big ws := by
  intro w hw
  have h1 := List.all_eq_true.mp h w hw
  rw [hp] at hw
  obtain ⟨i, -, hi⟩ := List.mem_filterMap.mp hw
  have hm : w ∈ big := by first | exact List.mem_of_getElem? hi | exact List.getElem?_mem hi
  exact ⟨hm, good_of_word h1⟩
theorem goodIn_app {big a b : List Cond} (ha : GoodIn big a) (hb : GoodIn big b) : GoodIn big (a ++ b) := fun w h => (List.mem_append.mp h).elim (ha w) (hb w)
theorem goodIn_ca {big a b : List Cond} {c : Cond} (ha : GoodIn big (c :: a)) (hb : GoodIn big b) : GoodIn big (c :: (a ++ b)) := fun w h => (List.mem_cons.mp h).elim (fun e => ha w (List.mem_cons.mpr (Or.inl e))) (fun h => (List.mem_append.mp h).elim (fun h => ha w (List.mem_cons.mpr (Or.inr h))) (hb w))
theorem goodIn_sub {big ws : List Cond} (hm : ∀ w ∈ ws, w ∈ big) (h : ws.all goodWord = true) : GoodIn big ws := fun w hw => ⟨hm w hw, good_of_word (List.all_eq_true.mp h w hw)⟩



def RX0 : String := "NextWay$Alone"
def TX0 : u_T := fun k => match k with
  | _ => ("", "", "", false)
def tyX0 : Nat → FieldType := fun k => match k with
  | _ => .int
abbrev wsX00 : List Cond := u_ws RX0 TX0 0
theorem nmX0 : ∀ a, a < 0 → ∀ b, b < 0 → a ≠ b → (TX0 a).2.1 ≠ (TX0 b).2.1 := by decide +kernel
theorem tyX0_ok : ∀ k, k < 0 → parseFieldDescriptor (TX0 k).2.2.1 = some (tyX0 k) := by decide +kernel
abbrev cX0_from : ByteArray := prog_2_method_2_code
def yX0_from : MethodName := ⟨RX0, "from", "(II)I"⟩
abbrev cX0_roundLength : ByteArray := prog_2_method_3_code
def yX0_roundLength : MethodName := ⟨RX0, "roundLength", "(LNextWay$Town;I)I"⟩
abbrev cX0_beatsAheadOfRound : ByteArray := prog_2_method_4_code
def yX0_beatsAheadOfRound : MethodName := ⟨RX0, "beatsAheadOfRound", "(LNextWay$Town;II)I"⟩
abbrev cX0_distance : ByteArray := prog_2_method_5_code
def yX0_distance : MethodName := ⟨RX0, "distance", "(LNextWay$Town;IIII)I"⟩
abbrev cX0_nextReached : ByteArray := prog_2_method_6_code
def yX0_nextReached : MethodName := ⟨RX0, "nextReached", "(LNextWay$Town;III)I"⟩
abbrev cX0_allEnds : ByteArray := prog_2_method_7_code
def yX0_allEnds : MethodName := ⟨RX0, "allEnds", "(LNextWay$Town;I)I"⟩
abbrev cX0_quickestVanes : ByteArray := prog_2_method_8_code
def yX0_quickestVanes : MethodName := ⟨RX0, "quickestVanes", "(LNextWay$Town;III)I"⟩
abbrev cX0_slowest : ByteArray := prog_2_method_9_code
def yX0_slowest : MethodName := ⟨RX0, "slowest", "(LNextWay$Town;IIIII)I"⟩
abbrev cX0_slowestByVane : ByteArray := prog_2_method_10_code
def yX0_slowestByVane : MethodName := ⟨RX0, "slowestByVane", "(LNextWay$Town;IIIII)I"⟩
abbrev cX0_endsAt : ByteArray := prog_2_method_11_code
def yX0_endsAt : MethodName := ⟨RX0, "endsAt", "(LNextWay$Town;IIII)I"⟩
abbrev cX0_pastRows : ByteArray := prog_2_method_12_code
def yX0_pastRows : MethodName := ⟨RX0, "pastRows", "(LNextWay$Town;II)I"⟩
abbrev cX0_pastCorners : ByteArray := prog_2_method_13_code
def yX0_pastCorners : MethodName := ⟨RX0, "pastCorners", "(LNextWay$Town;II)I"⟩
abbrev cX0_canHaveLeft : ByteArray := prog_2_method_14_code
def yX0_canHaveLeft : MethodName := ⟨RX0, "canHaveLeft", "(LNextWay$Town;II)Z"⟩
def RX1 : String := "NextWay$Company"
def TX1 : u_T := fun k => match k with
  | _ => ("", "", "", false)
def tyX1 : Nat → FieldType := fun k => match k with
  | _ => .int
abbrev wsX10 : List Cond := u_ws RX1 TX1 0
theorem nmX1 : ∀ a, a < 0 → ∀ b, b < 0 → a ≠ b → (TX1 a).2.1 ≠ (TX1 b).2.1 := by decide +kernel
theorem tyX1_ok : ∀ k, k < 0 → parseFieldDescriptor (TX1 k).2.2.1 = some (tyX1 k) := by decide +kernel
abbrev cX1_firstAt : ByteArray := prog_3_method_2_code
def yX1_firstAt : MethodName := ⟨RX1, "firstAt", "(LNextWay$Town;IIII)I"⟩
abbrev cX1_timesAt : ByteArray := prog_3_method_3_code
def yX1_timesAt : MethodName := ⟨RX1, "timesAt", "(LNextWay$Town;IIII)I"⟩
abbrev cX1_firstTogether : ByteArray := prog_3_method_4_code
def yX1_firstTogether : MethodName := ⟨RX1, "firstTogether", "(LNextWay$Town;IIII)I"⟩
abbrev cX1_cheapTurns : ByteArray := prog_3_method_5_code
def yX1_cheapTurns : MethodName := ⟨RX1, "cheapTurns", "(LNextWay$Town;IIIIII)I"⟩
abbrev cX1_turnsOf : ByteArray := prog_3_method_6_code
def yX1_turnsOf : MethodName := ⟨RX1, "turnsOf", "(II)I"⟩
abbrev cX1_settledCorners : ByteArray := prog_3_method_7_code
def yX1_settledCorners : MethodName := ⟨RX1, "settledCorners", "(LNextWay$Town;IZ)I"⟩
abbrev cX1_settledStand : ByteArray := prog_3_method_8_code
def yX1_settledStand : MethodName := ⟨RX1, "settledStand", "(LNextWay$Town;III)I"⟩
abbrev cX1_isTaken : ByteArray := prog_3_method_9_code
def yX1_isTaken : MethodName := ⟨RX1, "isTaken", "(II)Z"⟩
def RX2 : String := "NextWay$Reader"
def TX2 : u_T := fun k => match k with
  | 0 => ("NextWay$Reader", "draft", "LNextWay$Town;", true)
  | 1 => ("NextWay$Reader", "lines", "I", false)
  | 2 => ("NextWay$Reader", "start", "I", false)
  | 3 => ("NextWay$Reader", "end", "I", false)
  | _ => ("NextWay$Reader", "token", "I", false)
def tyX2 : Nat → FieldType := fun k => match k with
  | 0 => .object "NextWay$Town"
  | 1 => .int
  | 2 => .int
  | 3 => .int
  | _ => .int
abbrev wsX20 : List Cond := u_ws RX2 TX2 5
theorem nmX2 : ∀ a, a < 5 → ∀ b, b < 5 → a ≠ b → (TX2 a).2.1 ≠ (TX2 b).2.1 := by decide +kernel
theorem tyX2_ok : ∀ k, k < 5 → parseFieldDescriptor (TX2 k).2.2.1 = some (tyX2 k) := by decide +kernel
abbrev cX2_init : ByteArray := prog_4_method_1_code
def yX2_init : MethodName := ⟨RX2, "<init>", "()V"⟩
abbrev cX2_read : ByteArray := prog_4_method_2_code
def yX2_read : MethodName := ⟨RX2, "read", "(LNextWay$Text;LNextWay$Town;)I"⟩
abbrev cX2_advance : ByteArray := prog_4_method_3_code
def yX2_advance : MethodName := ⟨RX2, "advance", "(LNextWay$Text;)V"⟩
abbrev cX2_shapeOf : ByteArray := prog_4_method_4_code
def yX2_shapeOf : MethodName := ⟨RX2, "shapeOf", "(I)I"⟩
abbrev cX2_doLine : ByteArray := prog_4_method_5_code
def yX2_doLine : MethodName := ⟨RX2, "doLine", "(LNextWay$Text;)Z"⟩
abbrev cX2_kindWord : ByteArray := prog_4_method_6_code
def yX2_kindWord : MethodName := ⟨RX2, "kindWord", "(LNextWay$Text;)I"⟩
abbrev cX2_isWord : ByteArray := prog_4_method_7_code
def yX2_isWord : MethodName := ⟨RX2, "isWord", "(LNextWay$Text;Ljava/lang/String;)Z"⟩
abbrev cX2_doTown : ByteArray := prog_4_method_8_code
def yX2_doTown : MethodName := ⟨RX2, "doTown", "(LNextWay$Text;)Z"⟩
abbrev cX2_doKind : ByteArray := prog_4_method_9_code
def yX2_doKind : MethodName := ⟨RX2, "doKind", "(LNextWay$Text;I)Z"⟩
abbrev cX2_doWay : ByteArray := prog_4_method_10_code
def yX2_doWay : MethodName := ⟨RX2, "doWay", "(LNextWay$Text;)Z"⟩
abbrev cX2_doVane : ByteArray := prog_4_method_11_code
def yX2_doVane : MethodName := ⟨RX2, "doVane", "(LNextWay$Text;)Z"⟩
abbrev cX2_doWalker : ByteArray := prog_4_method_12_code
def yX2_doWalker : MethodName := ⟨RX2, "doWalker", "(LNextWay$Text;)Z"⟩
abbrev cX2_digit : ByteArray := prog_4_method_13_code
def yX2_digit : MethodName := ⟨RX2, "digit", "(LNextWay$Text;)I"⟩
def RX3 : String := "NextWay$Text"
def TX3 : u_T := fun k => match k with
  | 0 => ("NextWay$Text", "bytes", "[I", true)
  | _ => ("NextWay$Text", "length", "I", false)
def tyX3 : Nat → FieldType := fun k => match k with
  | 0 => .array .int
  | _ => .int
abbrev wsX30 : List Cond := u_ws RX3 TX3 2
theorem nmX3 : ∀ a, a < 2 → ∀ b, b < 2 → a ≠ b → (TX3 a).2.1 ≠ (TX3 b).2.1 := by decide +kernel
theorem tyX3_ok : ∀ k, k < 2 → parseFieldDescriptor (TX3 k).2.2.1 = some (tyX3 k) := by decide +kernel
abbrev cX3_init : ByteArray := prog_5_method_1_code
def yX3_init : MethodName := ⟨RX3, "<init>", "()V"⟩
abbrev cX3_append : ByteArray := prog_5_method_2_code
def yX3_append : MethodName := ⟨RX3, "append", "(JI)Z"⟩
abbrev cX3_clear : ByteArray := prog_5_method_3_code
def yX3_clear : MethodName := ⟨RX3, "clear", "()I"⟩
abbrev cX3_byteAt : ByteArray := prog_5_method_4_code
def yX3_byteAt : MethodName := ⟨RX3, "byteAt", "(I)I"⟩
def RX4 : String := "NextWay$Town"
def TX4 : u_T := fun k => match k with
  | 0 => ("NextWay$Town", "kinds", "[I", true)
  | 1 => ("NextWay$Town", "wayCounts", "[I", true)
  | 2 => ("NextWay$Town", "ends", "[I", true)
  | 3 => ("NextWay$Town", "corners", "I", false)
  | 4 => ("NextWay$Town", "walkers", "I", false)
  | _ => ("NextWay$Town", "stand", "I", false)
def tyX4 : Nat → FieldType := fun k => match k with
  | 0 => .array .int
  | 1 => .array .int
  | 2 => .array .int
  | 3 => .int
  | 4 => .int
  | _ => .int
abbrev wsX40 : List Cond := u_ws RX4 TX4 6
theorem nmX4 : ∀ a, a < 6 → ∀ b, b < 6 → a ≠ b → (TX4 a).2.1 ≠ (TX4 b).2.1 := by decide +kernel
theorem tyX4_ok : ∀ k, k < 6 → parseFieldDescriptor (TX4 k).2.2.1 = some (tyX4 k) := by decide +kernel
abbrev cX4_init : ByteArray := prog_6_method_1_code
def yX4_init : MethodName := ⟨RX4, "<init>", "()V"⟩
abbrev cX4_clear : ByteArray := prog_6_method_2_code
def yX4_clear : MethodName := ⟨RX4, "clear", "(I)V"⟩
abbrev cX4_copyFrom : ByteArray := prog_6_method_3_code
def yX4_copyFrom : MethodName := ⟨RX4, "copyFrom", "(LNextWay$Town;)V"⟩
abbrev cX4_setKind : ByteArray := prog_6_method_4_code
def yX4_setKind : MethodName := ⟨RX4, "setKind", "(II)Z"⟩
abbrev cX4_hasRoomForWay : ByteArray := prog_6_method_5_code
def yX4_hasRoomForWay : MethodName := ⟨RX4, "hasRoomForWay", "(I)Z"⟩
abbrev cX4_addWay : ByteArray := prog_6_method_6_code
def yX4_addWay : MethodName := ⟨RX4, "addWay", "(II)Z"⟩
abbrev cX4_hasRoomForWalker : ByteArray := prog_6_method_7_code
def yX4_hasRoomForWalker : MethodName := ⟨RX4, "hasRoomForWalker", "()Z"⟩
abbrev cX4_addWalker : ByteArray := prog_6_method_8_code
def yX4_addWalker : MethodName := ⟨RX4, "addWalker", "(I)Z"⟩
abbrev cX4_sendAllAway : ByteArray := prog_6_method_9_code
def yX4_sendAllAway : MethodName := ⟨RX4, "sendAllAway", "()V"⟩
abbrev cX4_hasCorner : ByteArray := prog_6_method_10_code
def yX4_hasCorner : MethodName := ⟨RX4, "hasCorner", "(I)Z"⟩
abbrev cX4_hasWay : ByteArray := prog_6_method_11_code
def yX4_hasWay : MethodName := ⟨RX4, "hasWay", "(II)Z"⟩
abbrev cX4_hasWalker : ByteArray := prog_6_method_12_code
def yX4_hasWalker : MethodName := ⟨RX4, "hasWalker", "(I)Z"⟩
abbrev cX4_kindOf : ByteArray := prog_6_method_13_code
def yX4_kindOf : MethodName := ⟨RX4, "kindOf", "(I)I"⟩
abbrev cX4_waysOf : ByteArray := prog_6_method_14_code
def yX4_waysOf : MethodName := ⟨RX4, "waysOf", "(I)I"⟩
abbrev cX4_endOf : ByteArray := prog_6_method_15_code
def yX4_endOf : MethodName := ⟨RX4, "endOf", "(II)I"⟩
abbrev cX4_allWays : ByteArray := prog_6_method_16_code
def yX4_allWays : MethodName := ⟨RX4, "allWays", "()I"⟩
abbrev cX4_isLeft : ByteArray := prog_6_method_17_code
def yX4_isLeft : MethodName := ⟨RX4, "isLeft", "(I)Z"⟩
abbrev cX4_cornersNeverLeft : ByteArray := prog_6_method_18_code
def yX4_cornersNeverLeft : MethodName := ⟨RX4, "cornersNeverLeft", "()I"⟩
abbrev cX4_isSuch : ByteArray := prog_6_method_19_code
def yX4_isSuch : MethodName := ⟨RX4, "isSuch", "(II)Z"⟩
abbrev cX4_vaneOf : ByteArray := prog_6_method_20_code
def yX4_vaneOf : MethodName := ⟨RX4, "vaneOf", "(II)I"⟩
abbrev cX4_withVane : ByteArray := prog_6_method_21_code
def yX4_withVane : MethodName := ⟨RX4, "withVane", "(III)I"⟩
abbrev cX4_placeOf : ByteArray := prog_6_method_22_code
def yX4_placeOf : MethodName := ⟨RX4, "placeOf", "(II)I"⟩
abbrev cX4_withPlace : ByteArray := prog_6_method_23_code
def yX4_withPlace : MethodName := ⟨RX4, "withPlace", "(III)I"⟩
abbrev cX4_shownVane : ByteArray := prog_6_method_24_code
def yX4_shownVane : MethodName := ⟨RX4, "shownVane", "(II)I"⟩
abbrev cX4_shownEnd : ByteArray := prog_6_method_25_code
def yX4_shownEnd : MethodName := ⟨RX4, "shownEnd", "(II)I"⟩
abbrev cX4_walkersAt : ByteArray := prog_6_method_26_code
def yX4_walkersAt : MethodName := ⟨RX4, "walkersAt", "(II)I"⟩
abbrev cX4_stepOf : ByteArray := prog_6_method_27_code
def yX4_stepOf : MethodName := ⟨RX4, "stepOf", "(I)I"⟩
abbrev cX4_turnedBy : ByteArray := prog_6_method_28_code
def yX4_turnedBy : MethodName := ⟨RX4, "turnedBy", "(III)I"⟩
abbrev cX4_turned : ByteArray := prog_6_method_29_code
def yX4_turned : MethodName := ⟨RX4, "turned", "(II)I"⟩
abbrev cX4_unturned : ByteArray := prog_6_method_30_code
def yX4_unturned : MethodName := ⟨RX4, "unturned", "(II)I"⟩
abbrev cX4_walked : ByteArray := prog_6_method_31_code
def yX4_walked : MethodName := ⟨RX4, "walked", "(II)I"⟩
abbrev cX4_behindOne : ByteArray := prog_6_method_32_code
def yX4_behindOne : MethodName := ⟨RX4, "behindOne", "(I)I"⟩
abbrev cX4_behind : ByteArray := prog_6_method_33_code
def yX4_behind : MethodName := ⟨RX4, "behind", "(II)I"⟩
def RX5 : String := "NextWay"
def TX5 : u_T := fun k => match k with
  | 0 => ("NextWay", "text", "LNextWay$Text;", true)
  | 1 => ("NextWay", "reader", "LNextWay$Reader;", true)
  | 2 => ("NextWay", "told", "LNextWay$Town;", true)
  | 3 => ("NextWay", "keptStands", "[I", true)
  | 4 => ("NextWay", "keptBeats", "[I", true)
  | 5 => ("NextWay", "stand", "I", false)
  | _ => ("NextWay", "beats", "I", false)
def tyX5 : Nat → FieldType := fun k => match k with
  | 0 => .object "NextWay$Text"
  | 1 => .object "NextWay$Reader"
  | 2 => .object "NextWay$Town"
  | 3 => .array .int
  | 4 => .array .int
  | 5 => .int
  | _ => .int
abbrev wsX50 : List Cond := u_ws RX5 TX5 7
theorem nmX5 : ∀ a, a < 7 → ∀ b, b < 7 → a ≠ b → (TX5 a).2.1 ≠ (TX5 b).2.1 := by decide +kernel
theorem tyX5_ok : ∀ k, k < 7 → parseFieldDescriptor (TX5 k).2.2.1 = some (tyX5 k) := by decide +kernel
abbrev cX5_init : ByteArray := prog_1_method_1_code
def yX5_init : MethodName := ⟨RX5, "<init>", "()V"⟩
abbrev cX5_write : ByteArray := prog_1_method_2_code
def yX5_write : MethodName := ⟨RX5, "write", "(JI)I"⟩
abbrev cX5_erase : ByteArray := prog_1_method_3_code
def yX5_erase : MethodName := ⟨RX5, "erase", "()I"⟩
abbrev cX5_fault : ByteArray := prog_1_method_4_code
def yX5_fault : MethodName := ⟨RX5, "fault", "()I"⟩
abbrev cX5_town : ByteArray := prog_1_method_5_code
def yX5_town : MethodName := ⟨RX5, "town", "()I"⟩
abbrev cX5_corner : ByteArray := prog_1_method_6_code
def yX5_corner : MethodName := ⟨RX5, "corner", "(II)I"⟩
abbrev cX5_way : ByteArray := prog_1_method_7_code
def yX5_way : MethodName := ⟨RX5, "way", "(II)I"⟩
abbrev cX5_as : ByteArray := prog_1_method_8_code
def yX5_as : MethodName := ⟨RX5, "as", "(II)I"⟩
abbrev cX5_walker : ByteArray := prog_1_method_9_code
def yX5_walker : MethodName := ⟨RX5, "walker", "(I)I"⟩
abbrev cX5_go : ByteArray := prog_1_method_10_code
def yX5_go : MethodName := ⟨RX5, "go", "(I)I"⟩
abbrev cX5_turn : ByteArray := prog_1_method_11_code
def yX5_turn : MethodName := ⟨RX5, "turn", "(I)I"⟩
abbrev cX5_put : ByteArray := prog_1_method_12_code
def yX5_put : MethodName := ⟨RX5, "put", "(II)I"⟩
abbrev cX5_keep : ByteArray := prog_1_method_13_code
def yX5_keep : MethodName := ⟨RX5, "keep", "(I)I"⟩
abbrev cX5_back : ByteArray := prog_1_method_14_code
def yX5_back : MethodName := ⟨RX5, "back", "(I)I"⟩
abbrev cX5_later : ByteArray := prog_1_method_15_code
def yX5_later : MethodName := ⟨RX5, "later", "(III)I"⟩
abbrev cX5_when : ByteArray := prog_1_method_16_code
def yX5_when : MethodName := ⟨RX5, "when", "(II)I"⟩
abbrev cX5_often : ByteArray := prog_1_method_17_code
def yX5_often : MethodName := ⟨RX5, "often", "(III)I"⟩
abbrev cX5_meet : ByteArray := prog_1_method_18_code
def yX5_meet : MethodName := ⟨RX5, "meet", "(III)I"⟩
abbrev cX5_round : ByteArray := prog_1_method_19_code
def yX5_round : MethodName := ⟨RX5, "round", "(II)I"⟩
abbrev cX5_quick : ByteArray := prog_1_method_20_code
def yX5_quick : MethodName := ⟨RX5, "quick", "(III)I"⟩
abbrev cX5_slow : ByteArray := prog_1_method_21_code
def yX5_slow : MethodName := ⟨RX5, "slow", "(II)I"⟩
abbrev cX5_pennies : ByteArray := prog_1_method_22_code
def yX5_pennies : MethodName := ⟨RX5, "pennies", "(IIII)I"⟩
abbrev cX5_shares : ByteArray := prog_1_method_23_code
def yX5_shares : MethodName := ⟨RX5, "shares", "(III)I"⟩
abbrev cX5_settled : ByteArray := prog_1_method_24_code
def yX5_settled : MethodName := ⟨RX5, "settled", "(I)I"⟩
abbrev cX5_past : ByteArray := prog_1_method_25_code
def yX5_past : MethodName := ⟨RX5, "past", "(III)I"⟩
abbrev cX5_count : ByteArray := prog_1_method_26_code
def yX5_count : MethodName := ⟨RX5, "count", "(I)I"⟩
abbrev cX5_isEither : ByteArray := prog_1_method_27_code
def yX5_isEither : MethodName := ⟨RX5, "isEither", "(I)Z"⟩
def RX6 : String := "NextWayModel"
def TX6 : u_T := fun k => match k with
  | 0 => ("NextWayModel", "row", "[I", true)
  | 1 => ("NextWayModel", "isKept", "[Z", true)
  | 2 => ("NextWayModel", "text", "[I", true)
  | 3 => ("NextWayModel", "length", "I", false)
  | 4 => ("NextWayModel", "read", "[I", true)
  | 5 => ("NextWayModel", "readMany", "I", false)
  | 6 => ("NextWayModel", "corners", "I", false)
  | 7 => ("NextWayModel", "kinds", "[I", true)
  | 8 => ("NextWayModel", "wayMany", "[I", true)
  | 9 => ("NextWayModel", "ways", "[I", true)
  | 10 => ("NextWayModel", "many", "I", false)
  | 11 => ("NextWayModel", "at", "I", false)
  | 12 => ("NextWayModel", "place", "I", false)
  | 13 => ("NextWayModel", "end", "I", false)
  | 14 => ("NextWayModel", "readCorners", "I", false)
  | 15 => ("NextWayModel", "readWays", "[I", true)
  | 16 => ("NextWayModel", "readWalkers", "I", false)
  | 17 => ("NextWayModel", "states", "[I", true)
  | 18 => ("NextWayModel", "tries", "[I", true)
  | _ => ("NextWayModel", "bestTries", "[I", true)
def tyX6 : Nat → FieldType := fun k => match k with
  | 0 => .array .int
  | 1 => .array .boolean
  | 2 => .array .int
  | 3 => .int
  | 4 => .array .int
  | 5 => .int
  | 6 => .int
  | 7 => .array .int
  | 8 => .array .int
  | 9 => .array .int
  | 10 => .int
  | 11 => .int
  | 12 => .int
  | 13 => .int
  | 14 => .int
  | 15 => .array .int
  | 16 => .int
  | 17 => .array .int
  | 18 => .array .int
  | _ => .array .int
abbrev wsX60 : List Cond := u_ws RX6 TX6 20
theorem nmX6 : ∀ a, a < 20 → ∀ b, b < 20 → a ≠ b → (TX6 a).2.1 ≠ (TX6 b).2.1 := by decide +kernel
theorem tyX6_ok : ∀ k, k < 20 → parseFieldDescriptor (TX6 k).2.2.1 = some (tyX6 k) := by decide +kernel
abbrev cX6_init : ByteArray := prog_8_method_1_code
def yX6_init : MethodName := ⟨RX6, "<init>", "()V"⟩
abbrev cX6_in : ByteArray := prog_8_method_2_code
def yX6_in : MethodName := ⟨RX6, "in", "(JJJ)Z"⟩
abbrev cX6_has : ByteArray := prog_8_method_3_code
def yX6_has : MethodName := ⟨RX6, "has", "(II)Z"⟩
abbrev cX6_copy : ByteArray := prog_8_method_4_code
def yX6_copy : MethodName := ⟨RX6, "copy", "(II)V"⟩
abbrev cX6_write : ByteArray := prog_8_method_5_code
def yX6_write : MethodName := ⟨RX6, "write", "(JI)I"⟩
abbrev cX6_erase : ByteArray := prog_8_method_6_code
def yX6_erase : MethodName := ⟨RX6, "erase", "()I"⟩
abbrev cX6_sort : ByteArray := prog_8_method_7_code
def yX6_sort : MethodName := ⟨RX6, "sort", "(I)I"⟩
abbrev cX6_token : ByteArray := prog_8_method_8_code
def yX6_token : MethodName := ⟨RX6, "token", "()V"⟩
abbrev cX6_isWord : ByteArray := prog_8_method_9_code
def yX6_isWord : MethodName := ⟨RX6, "isWord", "(III)Z"⟩
abbrev cX6_cornerWord : ByteArray := prog_8_method_10_code
def yX6_cornerWord : MethodName := ⟨RX6, "cornerWord", "()I"⟩
abbrev cX6_wordOf : ByteArray := prog_8_method_11_code
def yX6_wordOf : MethodName := ⟨RX6, "wordOf", "()I"⟩
abbrev cX6_numberHere : ByteArray := prog_8_method_12_code
def yX6_numberHere : MethodName := ⟨RX6, "numberHere", "()I"⟩
abbrev cX6_reads : ByteArray := prog_8_method_13_code
def yX6_reads : MethodName := ⟨RX6, "reads", "(III)Z"⟩
abbrev cX6_readsRest : ByteArray := prog_8_method_14_code
def yX6_readsRest : MethodName := ⟨RX6, "readsRest", "(I)Z"⟩
abbrev cX6_readsLine : ByteArray := prog_8_method_15_code
def yX6_readsLine : MethodName := ⟨RX6, "readsLine", "()Z"⟩
abbrev cX6_fault : ByteArray := prog_8_method_16_code
def yX6_fault : MethodName := ⟨RX6, "fault", "()I"⟩
abbrev cX6_clear : ByteArray := prog_8_method_17_code
def yX6_clear : MethodName := ⟨RX6, "clear", "(I)V"⟩
abbrev cX6_tell : ByteArray := prog_8_method_18_code
def yX6_tell : MethodName := ⟨RX6, "tell", "(I)V"⟩
abbrev cX6_town : ByteArray := prog_8_method_19_code
def yX6_town : MethodName := ⟨RX6, "town", "()I"⟩
abbrev cX6_isCorner : ByteArray := prog_8_method_20_code
def yX6_isCorner : MethodName := ⟨RX6, "isCorner", "(I)Z"⟩
abbrev cX6_isWalker : ByteArray := prog_8_method_21_code
def yX6_isWalker : MethodName := ⟨RX6, "isWalker", "(I)Z"⟩
abbrev cX6_isLeft : ByteArray := prog_8_method_22_code
def yX6_isLeft : MethodName := ⟨RX6, "isLeft", "(I)Z"⟩
abbrev cX6_turns : ByteArray := prog_8_method_23_code
def yX6_turns : MethodName := ⟨RX6, "turns", "(I)I"⟩
abbrev cX6_nextVane : ByteArray := prog_8_method_24_code
def yX6_nextVane : MethodName := ⟨RX6, "nextVane", "(II)I"⟩
abbrev cX6_vaneOf : ByteArray := prog_8_method_25_code
def yX6_vaneOf : MethodName := ⟨RX6, "vaneOf", "(II)I"⟩
abbrev cX6_corner : ByteArray := prog_8_method_26_code
def yX6_corner : MethodName := ⟨RX6, "corner", "(II)I"⟩
abbrev cX6_way : ByteArray := prog_8_method_27_code
def yX6_way : MethodName := ⟨RX6, "way", "(II)I"⟩
abbrev cX6_as : ByteArray := prog_8_method_28_code
def yX6_as : MethodName := ⟨RX6, "as", "(II)I"⟩
abbrev cX6_walker : ByteArray := prog_8_method_29_code
def yX6_walker : MethodName := ⟨RX6, "walker", "(I)I"⟩
abbrev cX6_leave : ByteArray := prog_8_method_30_code
def yX6_leave : MethodName := ⟨RX6, "leave", "(II)I"⟩
abbrev cX6_beat : ByteArray := prog_8_method_31_code
def yX6_beat : MethodName := ⟨RX6, "beat", "(I)V"⟩
abbrev cX6_go : ByteArray := prog_8_method_32_code
def yX6_go : MethodName := ⟨RX6, "go", "(I)I"⟩
abbrev cX6_turn : ByteArray := prog_8_method_33_code
def yX6_turn : MethodName := ⟨RX6, "turn", "(I)I"⟩
abbrev cX6_put : ByteArray := prog_8_method_34_code
def yX6_put : MethodName := ⟨RX6, "put", "(II)I"⟩
abbrev cX6_keep : ByteArray := prog_8_method_35_code
def yX6_keep : MethodName := ⟨RX6, "keep", "(I)I"⟩
abbrev cX6_back : ByteArray := prog_8_method_36_code
def yX6_back : MethodName := ⟨RX6, "back", "(I)I"⟩
abbrev cX6_later : ByteArray := prog_8_method_37_code
def yX6_later : MethodName := ⟨RX6, "later", "(III)I"⟩
abbrev cX6_firstAt : ByteArray := prog_8_method_38_code
def yX6_firstAt : MethodName := ⟨RX6, "firstAt", "(III)I"⟩
abbrev cX6_when : ByteArray := prog_8_method_39_code
def yX6_when : MethodName := ⟨RX6, "when", "(II)I"⟩
abbrev cX6_often : ByteArray := prog_8_method_40_code
def yX6_often : MethodName := ⟨RX6, "often", "(III)I"⟩
abbrev cX6_meet : ByteArray := prog_8_method_41_code
def yX6_meet : MethodName := ⟨RX6, "meet", "(III)I"⟩
abbrev cX6_stateOf : ByteArray := prog_8_method_42_code
def yX6_stateOf : MethodName := ⟨RX6, "stateOf", "(I)I"⟩
abbrev cX6_round : ByteArray := prog_8_method_43_code
def yX6_round : MethodName := ⟨RX6, "round", "(II)I"⟩
abbrev cX6_vaneIn : ByteArray := prog_8_method_44_code
def yX6_vaneIn : MethodName := ⟨RX6, "vaneIn", "(II)I"⟩
abbrev cX6_rows : ByteArray := prog_8_method_45_code
def yX6_rows : MethodName := ⟨RX6, "rows", "()I"⟩
abbrev cX6_beatsBy : ByteArray := prog_8_method_46_code
def yX6_beatsBy : MethodName := ⟨RX6, "beatsBy", "(III)I"⟩
abbrev cX6_quick : ByteArray := prog_8_method_47_code
def yX6_quick : MethodName := ⟨RX6, "quick", "(III)I"⟩
abbrev cX6_slow : ByteArray := prog_8_method_48_code
def yX6_slow : MethodName := ⟨RX6, "slow", "(II)I"⟩
abbrev cX6_nextTries : ByteArray := prog_8_method_49_code
def yX6_nextTries : MethodName := ⟨RX6, "nextTries", "()Z"⟩
abbrev cX6_areTurns : ByteArray := prog_8_method_50_code
def yX6_areTurns : MethodName := ⟨RX6, "areTurns", "()Z"⟩
abbrev cX6_comesBy : ByteArray := prog_8_method_51_code
def yX6_comesBy : MethodName := ⟨RX6, "comesBy", "(III)Z"⟩
abbrev cX6_fewest : ByteArray := prog_8_method_52_code
def yX6_fewest : MethodName := ⟨RX6, "fewest", "(III)I"⟩
abbrev cX6_pennies : ByteArray := prog_8_method_53_code
def yX6_pennies : MethodName := ⟨RX6, "pennies", "(IIII)I"⟩
abbrev cX6_shares : ByteArray := prog_8_method_54_code
def yX6_shares : MethodName := ⟨RX6, "shares", "(III)I"⟩
abbrev cX6_settled : ByteArray := prog_8_method_55_code
def yX6_settled : MethodName := ⟨RX6, "settled", "(I)I"⟩
abbrev cX6_wasBy : ByteArray := prog_8_method_56_code
def yX6_wasBy : MethodName := ⟨RX6, "wasBy", "(III)I"⟩
abbrev cX6_past : ByteArray := prog_8_method_57_code
def yX6_past : MethodName := ⟨RX6, "past", "(III)I"⟩
abbrev cX6_count : ByteArray := prog_8_method_58_code
def yX6_count : MethodName := ⟨RX6, "count", "(I)I"⟩
def RJ9 : String := "java/lang/Math"
def TJ9 : u_T := fun k => match k with
  | _ => ("", "", "", false)
def tyJ9 : Nat → FieldType := fun k => match k with
  | _ => .int
abbrev wsJ90 : List Cond := u_ws RJ9 TJ9 0
theorem nmJ9 : ∀ a, a < 0 → ∀ b, b < 0 → a ≠ b → (TJ9 a).2.1 ≠ (TJ9 b).2.1 := by decide +kernel
theorem tyJ9_ok : ∀ k, k < 0 → parseFieldDescriptor (TJ9 k).2.2.1 = some (tyJ9 k) := by decide +kernel
abbrev cJ9_floorMod_7cf53 : ByteArray := prog_9_method_50_code
def yJ9_floorMod_7cf53 : MethodName := ⟨RJ9, "floorMod", "(II)I"⟩
abbrev cJ9_max_7cf53 : ByteArray := prog_9_method_65_code
def yJ9_max_7cf53 : MethodName := ⟨RJ9, "max", "(II)I"⟩
def RJ0 : String := "java/lang/String"
def TJ0 : u_T := fun k => match k with
  | _ => ("", "", "", false)
def tyJ0 : Nat → FieldType := fun k => match k with
  | _ => .int
abbrev wsJ00 : List Cond := u_ws RJ0 TJ0 0
theorem nmJ0 : ∀ a, a < 0 → ∀ b, b < 0 → a ≠ b → (TJ0 a).2.1 ≠ (TJ0 b).2.1 := by decide +kernel
theorem tyJ0_ok : ∀ k, k < 0 → parseFieldDescriptor (TJ0 k).2.2.1 = some (tyJ0 k) := by decide +kernel
abbrev cJ0_length_8abf5 : ByteArray := prog_10_method_54_code
def yJ0_length_8abf5 : MethodName := ⟨RJ0, "length", "()I"⟩
abbrev cJ0_charAt_5068e : ByteArray := prog_10_method_56_code
def yJ0_charAt_5068e : MethodName := ⟨RJ0, "charAt", "(I)C"⟩
abbrev cJ0_coder_7d493 : ByteArray := prog_10_method_152_code
def yJ0_coder_7d493 : MethodName := ⟨RJ0, "coder", "()B"⟩
abbrev cJ0_isLatin1_aae02 : ByteArray := prog_10_method_154_code
def yJ0_isLatin1_aae02 : MethodName := ⟨RJ0, "isLatin1", "()Z"⟩
abbrev cJ0_checkIndex_df160 : ByteArray := prog_10_method_155_code
def yJ0_checkIndex_df160 : MethodName := ⟨RJ0, "checkIndex", "(II)V"⟩
def RJ1 : String := "java/lang/StringLatin1"
def TJ1 : u_T := fun k => match k with
  | _ => ("", "", "", false)
def tyJ1 : Nat → FieldType := fun k => match k with
  | _ => .int
abbrev wsJ10 : List Cond := u_ws RJ1 TJ1 0
theorem nmJ1 : ∀ a, a < 0 → ∀ b, b < 0 → a ≠ b → (TJ1 a).2.1 ≠ (TJ1 b).2.1 := by decide +kernel
theorem tyJ1_ok : ∀ k, k < 0 → parseFieldDescriptor (TJ1 k).2.2.1 = some (tyJ1 k) := by decide +kernel
abbrev cJ1_charAt_3b067 : ByteArray := prog_11_method_2_code
def yJ1_charAt_3b067 : MethodName := ⟨RJ1, "charAt", "([BI)C"⟩
def RJ2 : String := "java/lang/StringUTF16"
def TJ2 : u_T := fun k => match k with
  | _ => ("", "", "", false)
def tyJ2 : Nat → FieldType := fun k => match k with
  | _ => .int
abbrev wsJ20 : List Cond := u_ws RJ2 TJ2 0
theorem nmJ2 : ∀ a, a < 0 → ∀ b, b < 0 → a ≠ b → (TJ2 a).2.1 ≠ (TJ2 b).2.1 := by decide +kernel
theorem tyJ2_ok : ∀ k, k < 0 → parseFieldDescriptor (TJ2 k).2.2.1 = some (tyJ2 k) := by decide +kernel
abbrev cJ2_getChar_3b067 : ByteArray := prog_12_method_5_code
def yJ2_getChar_3b067 : MethodName := ⟨RJ2, "getChar", "([BI)C"⟩
abbrev cJ2_length_9d52b : ByteArray := prog_12_method_6_code
def yJ2_length_9d52b : MethodName := ⟨RJ2, "length", "([B)I"⟩
abbrev cJ2_charAt_3b067 : ByteArray := prog_12_method_83_code
def yJ2_charAt_3b067 : MethodName := ⟨RJ2, "charAt", "([BI)C"⟩
abbrev cJ2_checkIndex_2214a : ByteArray := prog_12_method_91_code
def yJ2_checkIndex_2214a : MethodName := ⟨RJ2, "checkIndex", "(I[B)V"⟩
def RJ10 : String := "java/lang/System"
def TJ10 : u_T := fun k => match k with
  | _ => ("", "", "", false)
def tyJ10 : Nat → FieldType := fun k => match k with
  | _ => .int
abbrev wsJ100 : List Cond := u_ws RJ10 TJ10 0
theorem nmJ10 : ∀ a, a < 0 → ∀ b, b < 0 → a ≠ b → (TJ10 a).2.1 ≠ (TJ10 b).2.1 := by decide +kernel
theorem tyJ10_ok : ∀ k, k < 0 → parseFieldDescriptor (TJ10 k).2.2.1 = some (tyJ10 k) := by decide +kernel
def RJ3 : String := "jdk/internal/util/Preconditions"
def TJ3 : u_T := fun k => match k with
  | _ => ("", "", "", false)
def tyJ3 : Nat → FieldType := fun k => match k with
  | _ => .int
abbrev wsJ30 : List Cond := u_ws RJ3 TJ3 0
theorem nmJ3 : ∀ a, a < 0 → ∀ b, b < 0 → a ≠ b → (TJ3 a).2.1 ≠ (TJ3 b).2.1 := by decide +kernel
theorem tyJ3_ok : ∀ k, k < 0 → parseFieldDescriptor (TJ3 k).2.2.1 = some (tyJ3 k) := by decide +kernel
abbrev cJ3_checkIndex_8e157 : ByteArray := prog_14_method_11_code
def yJ3_checkIndex_8e157 : MethodName := ⟨RJ3, "checkIndex", "(IILjava/util/function/BiFunction;)I"⟩
def RL : String := "NextWayLaw"
abbrev cL_law : ByteArray := code
def yL_law : MethodName := ⟨RL, "law", "([I)Z"⟩
end
section
/-! A small machine of our own over the class's decoded instructions: cells by number, ints in them as functions; its runs are a least fixed point, told by what must hold at the end. Part 05 ties it to the JVM's machine once for all methods. -/
abbrev nw_M : Type := Nat → Nat → Int32
abbrev nw_E : Type := (Nat × List (Option Nat)) ⊕ (Bool × Nat)
abbrev nw_Sh : Type := List nw_E
abbrev nw_L : Type := List (Option Value)
abbrev nw_K : Type := Option Value → nw_M → Prop
abbrev nw_C : Type := Nat → List Value → nw_M → nw_K → Prop
abbrev nw_X : Type := Nat → nw_L → List Value → nw_M → Prop
abbrev nw_St : Type := Nat × nw_L × List Value × nw_M
abbrev nw_O : Type := nw_St ⊕ (Prop × nw_St) ⊕ (Prop × nw_St × nw_St)
def nw_row (mem : nw_M) (c : Nat) (f : Nat → Int32) : nw_M := fun a => if a = c then f else mem a
def nw_up (mem : nw_M) (c k : Nat) (v : Int32) : nw_M := nw_row mem c (upd (mem c) k v)
def nw_ld : nw_L → Nat → Option Value
  | [], _ => none
  | a :: _, 0 => a
  | _ :: t, i + 1 => nw_ld t i
def nw_nl : Option Value → Nat → Bool
  | none, _ => true
  | some (.int _), _ => true
  | some (.ref _), _ => true
  | some .null, _ => true
  | some (.float _), _ => true
  | some (.retAddr _), _ => true
  | some (.long _), i => decide (¬ i = 0)
  | some (.double _), i => decide (¬ i = 0)
def nw_sto : nw_L → Nat → Value → Option nw_L
  | [], _, _ => none
  | _ :: t, 0, v => some (some v :: t)
  | a :: t, i + 1, v => if nw_nl a i then (nw_sto t i v).map (a :: ·) else none
def nw_lk : Instr → Nat → Bool
  | .iconst _, n | .lconst _, n | .iload_n _, n | .lload_n _, n | .aload_n _, n | .istore_n _, n | .astore_n _, n => n == 1
  | .iadd, n | .isub, n | .imul, n | .idiv, n | .irem, n | .ineg, n | .iand, n | .ior, n | .ixor, n | .ishl, n | .ishr, n => n == 1
  | .land, n | .lor, n | .lshl, n | .lshr, n | .lcmp, n | .i2l, n | .l2i, n | .dup, n | .dup2, n | .pop, n => n == 1
  | .iaload, n | .iastore, n | .baload, n | .bastore, n | .ireturn, n | .return_, n => n == 1
  | .bipush _, n | .iload _, n | .lload _, n | .aload _, n | .istore _, n | .astore _, n | .ldc _, n => n == 2
  | .sipush _, n | .iinc _ _, n | .goto _, n | .if_icmp _ _, n | .ifCond _ _, n | .getfield _, n | .putfield _, n | .ldc2_w _, n => n == 3
  | .invokestatic _, n | .invokevirtual _, n => n == 3
  | .tableswitch _ _ _ _, _ | .lookupswitch _ _, _ => true
  | _, _ => false
def nw_nn (pc : Nat) (off : Int) : Bool := decide (0 ≤ (pc : Int) + off)
def nw_tk (pc : Nat) : Instr → Bool
  | .goto off => nw_nn pc off
  | .if_icmp _ off => nw_nn pc off
  | .ifCond _ off => nw_nn pc off
  | .tableswitch d lo hi offs => nw_nn pc d && offs.toList.all (nw_nn pc) && decide (hi - lo + 1 = offs.size)
  | .lookupswitch _ ps => (ps.toList.zip (ps.toList.drop 1)).all (fun (a, next) => a.1 < next.1)
  | _ => true
def nw_dec (cc : ByteArray) (pc : Nat) : Option Instr := match decode cc pc with
  | .ok (i, n) => if nw_lk i n && nw_tk pc i then some i else none
  | .error _ => none
theorem nw_dec_ok {cc : ByteArray} {pc : Nat} {i : Instr} (h : nw_dec cc pc = some i) : ∃ n, decode cc pc = .ok (i, n) ∧ nw_lk i n = true ∧ nw_tk pc i = true := by
  unfold nw_dec at h
  cases hd : decode cc pc with
  | error e => rw [hd] at h; cases h
  | ok q =>
    obtain ⟨j, n⟩ := q
    rw [hd] at h
    dsimp only at h
    by_cases hc : (nw_lk j n && nw_tk pc j) = true
    · rw [if_pos hc] at h
      cases h
      rw [Bool.and_eq_true] at hc
      exact ⟨n, rfl, hc.1, hc.2⟩
    · rw [if_neg hc] at h
      cases h
def nw_t (pc : Nat) (off : Int) : Nat := ((pc : Int) + off).toNat
def nw_ts (pc : Nat) (d lo hi : Int) (offs : Array Int) (v : Int32) : Nat := if v.toInt < lo ∨ hi < v.toInt then nw_t pc d else nw_t pc ((offs[(v.toInt - lo).toNat]?).getD d)
def nw_i1 (st : List Value) (k : Int32 → List Value → nw_O) : Option nw_O := match st with
  | .int x :: r => some (k x r)
  | _ => none
def nw_i2 (st : List Value) (k : Int32 → Int32 → List Value → nw_O) : Option nw_O := match st with
  | .int y :: .int x :: r => some (k x y r)
  | _ => none
def nw_l2 (st : List Value) (k : Int64 → Int64 → List Value → nw_O) : Option nw_O := match st with
  | .long y :: .long x :: r => some (k x y r)
  | _ => none
def nw_l1 (st : List Value) (k : Int64 → List Value → nw_O) : Option nw_O := match st with
  | .long x :: r => some (k x r)
  | _ => none
def nw_li (st : List Value) (k : Int64 → Int32 → List Value → nw_O) : Option nw_O := match st with
  | .int y :: .long x :: r => some (k x y r)
  | _ => none
def nw_lo (lv : nw_L) (i : Nat) (k : Value → nw_O) : Option nw_O := match nw_ld lv i with
  | some v => some (k v)
  | none => none
def nw_ldI (lv : nw_L) (i : Nat) (k : Int32 → nw_O) : Option nw_O := match nw_ld lv i with
  | some (.int v) => some (k v)
  | _ => none
def nw_ldL (lv : nw_L) (i : Nat) (k : Int64 → nw_O) : Option nw_O := match nw_ld lv i with
  | some (.long v) => some (k v)
  | _ => none
def nw_ldR (lv : nw_L) (i : Nat) (k : Nat → nw_O) : Option nw_O := match nw_ld lv i with
  | some (.ref v) => some (k v)
  | _ => none
def nw_stI (lv : nw_L) (i : Nat) (st : List Value) (k : nw_L → List Value → nw_O) : Option nw_O := match st with
  | .int x :: r => match nw_sto lv i (.int x) with
    | some lv' => some (k lv' r)
    | none => none
  | _ => none
def nw_stR (lv : nw_L) (i : Nat) (st : List Value) (k : nw_L → List Value → nw_O) : Option nw_O := match st with
  | .ref x :: r => match nw_sto lv i (.ref x) with
    | some lv' => some (k lv' r)
    | none => none
  | _ => none
/-- an int array's length, a boolean array's -/
def nw_al (sh : nw_Sh) (z : Bool) (c : Nat) : Option Nat := match sh[c]? with
  | some (.inr (b, n)) => if b = z then some n else none
  | _ => none
/-- an object's field: none, an int; some j, the cell j -/
def nw_fk (sh : nw_Sh) (c ci k : Nat) : Option (Option Nat) := match sh[c]? with
  | some (.inl (cj, fs)) => if cj = ci then fs[k]? else none
  | _ => none
def nw_ic (pc : Nat) (lv : nw_L) (mem : nw_M) (c : Prop) (off : Int) (r : List Value) : nw_O := .inr (.inr (c, (nw_t pc off, lv, r, mem), (pc + 3, lv, r, mem)))
def nw_icn (pc : Nat) (lv : nw_L) (mem : nw_M) (c : Prop) (off : Int) (r : List Value) : nw_O := .inr (.inr (c, (pc + 3, lv, r, mem), (nw_t pc off, lv, r, mem)))
def nw_cmp (pc : Nat) (lv : nw_L) (mem : nw_M) (off : Int) (x y : Int32) (r : List Value) : ClassFile.Cond → nw_O
  | .eq => nw_ic pc lv mem (x = y) off r
  | .ne => nw_icn pc lv mem (x = y) off r
  | .lt => nw_ic pc lv mem (x < y) off r
  | .ge => nw_ic pc lv mem (y ≤ x) off r
  | .gt => nw_ic pc lv mem (y < x) off r
  | .le => nw_ic pc lv mem (x ≤ y) off r
/-- one instruction that is no call and no return; rF: own class, entry -> class, field; rC, rL: constants; rS: string constants, as cells from 100 on -/
def nw_S (rF : Nat → Nat → Option (Nat × Nat)) (rC : Nat → Nat → Option Int32) (rL : Nat → Nat → Option Int64) (rS : Nat → Nat → Option Nat) (own : Nat) (sh : nw_Sh) (pc : Nat) (lv : nw_L) (mem : nw_M) (st : List Value) : Instr → Option nw_O
  | .iconst n => some (.inl (pc + 1, lv, .int (Int32.ofInt n) :: st, mem))
  | .bipush n => some (.inl (pc + 2, lv, .int (Int8.ofInt n).toInt32 :: st, mem))
  | .sipush n => some (.inl (pc + 3, lv, .int (Int16.ofInt n).toInt32 :: st, mem))
  | .lconst n => some (.inl (pc + 1, lv, .long (Int64.ofNat (n : Nat)) :: st, mem))
  | .iload i => nw_ldI lv i fun x => .inl (pc + 2, lv, .int x :: st, mem)
  | .iload_n i => nw_ldI lv i fun x => .inl (pc + 1, lv, .int x :: st, mem)
  | .lload i => nw_ldL lv i fun x => .inl (pc + 2, lv, .long x :: st, mem)
  | .lload_n i => nw_ldL lv i fun x => .inl (pc + 1, lv, .long x :: st, mem)
  | .aload i => nw_ldR lv i fun x => .inl (pc + 2, lv, .ref x :: st, mem)
  | .aload_n i => nw_ldR lv i fun x => .inl (pc + 1, lv, .ref x :: st, mem)
  | .istore i => nw_stI lv i st fun lv' r => .inl (pc + 2, lv', r, mem)
  | .istore_n i => nw_stI lv i st fun lv' r => .inl (pc + 1, lv', r, mem)
  | .astore i => nw_stR lv i st fun lv' r => .inl (pc + 2, lv', r, mem)
  | .astore_n i => nw_stR lv i st fun lv' r => .inl (pc + 1, lv', r, mem)
  | .iinc i n => match nw_ld lv i with
    | some (.int x) => match nw_sto lv i (.int (x + Int32.ofInt n)) with
      | some lv' => some (.inl (pc + 3, lv', st, mem))
      | none => none
    | _ => none
  | .iadd => nw_i2 st fun x y r => .inl (pc + 1, lv, .int (x + y) :: r, mem)
  | .isub => nw_i2 st fun x y r => .inl (pc + 1, lv, .int (x - y) :: r, mem)
  | .imul => nw_i2 st fun x y r => .inl (pc + 1, lv, .int (x * y) :: r, mem)
  | .iand => nw_i2 st fun x y r => .inl (pc + 1, lv, .int (x &&& y) :: r, mem)
  | .ior => nw_i2 st fun x y r => .inl (pc + 1, lv, .int (x ||| y) :: r, mem)
  | .ixor => nw_i2 st fun x y r => .inl (pc + 1, lv, .int (x ^^^ y) :: r, mem)
  | .ishl => nw_i2 st fun x y r => .inl (pc + 1, lv, .int (x <<< (y &&& 31)) :: r, mem)
  | .ishr => nw_i2 st fun x y r => .inl (pc + 1, lv, .int (x >>> (y &&& 31)) :: r, mem)
  | .idiv => nw_i2 st fun x y r => .inr (.inl (¬ y = 0, (pc + 1, lv, .int (x / y) :: r, mem)))
  | .irem => nw_i2 st fun x y r => .inr (.inl (¬ y = 0, (pc + 1, lv, .int (x - x / y * y) :: r, mem)))
  | .ineg => nw_i1 st fun x r => .inl (pc + 1, lv, .int (-x) :: r, mem)
  | .i2l => nw_i1 st fun x r => .inl (pc + 1, lv, .long x.toInt64 :: r, mem)
  | .l2i => nw_l1 st fun x r => .inl (pc + 1, lv, .int x.toInt32 :: r, mem)
  | .land => nw_l2 st fun x y r => .inl (pc + 1, lv, .long (x &&& y) :: r, mem)
  | .lor => nw_l2 st fun x y r => .inl (pc + 1, lv, .long (x ||| y) :: r, mem)
  | .lcmp => nw_l2 st fun x y r => .inl (pc + 1, lv, .int (lg_cmp x y) :: r, mem)
  | .lshl => nw_li st fun x y r => .inl (pc + 1, lv, .long (x <<< (y.toInt64 &&& 63)) :: r, mem)
  | .lshr => nw_li st fun x y r => .inl (pc + 1, lv, .long (x >>> (y.toInt64 &&& 63)) :: r, mem)
  | .pop => match st with
    | .int _ :: r => some (.inl (pc + 1, lv, r, mem))
    | _ => none
  | .dup => match st with
    | .int x :: r => some (.inl (pc + 1, lv, .int x :: .int x :: r, mem))
    | .ref x :: r => some (.inl (pc + 1, lv, .ref x :: .ref x :: r, mem))
    | _ => none
  | .dup2 => match st with
    | .int x :: .ref y :: r => some (.inl (pc + 1, lv, .int x :: .ref y :: .int x :: .ref y :: r, mem))
    | _ => none
  | .goto off => some (.inl (nw_t pc off, lv, st, mem))
  | .if_icmp c off => nw_i2 st fun x y r => nw_cmp pc lv mem off x y r c
  | .ifCond c off => nw_i1 st fun x r => nw_cmp pc lv mem off x 0 r c
  | .tableswitch d lo hi offs => nw_i1 st fun x r => .inl (nw_ts pc d lo hi offs x, lv, r, mem)
  | .lookupswitch d ps => nw_i1 st fun x r => .inr (.inl (0 ≤ (pc : Int) + Op.lookupswitch.offset ps.toList d x.toInt, (nw_t pc (Op.lookupswitch.offset ps.toList d x.toInt), lv, r, mem)))
  | .ldc i => match rC own i with
    | some v => some (.inl (pc + 2, lv, .int v :: st, mem))
    | none => match rS own i with
      | some a => some (.inl (pc + 2, lv, .ref a :: st, mem))
      | none => none
  | .ldc2_w i => match rL own i with
    | some v => some (.inl (pc + 3, lv, .long v :: st, mem))
    | none => none
  | .getfield i => match rF own i with
    | some (ci, k) => match st with
      | .ref c :: r => match nw_fk sh c ci k with
        | some (some j) => some (.inl (pc + 3, lv, .ref j :: r, mem))
        | some none => some (.inl (pc + 3, lv, .int (mem c k) :: r, mem))
        | none => none
      | _ => none
    | none => none
  | .putfield i => match rF own i with
    | some (ci, k) => match st with
      | .int v :: .ref c :: r => match nw_fk sh c ci k with
        | some none => some (.inl (pc + 3, lv, r, nw_up mem c k v))
        | _ => none
      | _ => none
    | none => none
  | .iaload => match st with
    | .int i :: .ref c :: r => match nw_al sh false c with
      | some n => some (.inr (.inl (vp_in i n, (pc + 1, lv, .int (mem c i.toNatClampNeg) :: r, mem))))
      | none => none
    | _ => none
  | .baload => match st with
    | .int i :: .ref c :: r => match nw_al sh true c with
      | some n => some (.inr (.inl (vp_in i n, (pc + 1, lv, .int (mem c i.toNatClampNeg) :: r, mem))))
      | none => none
    | _ => none
  | .iastore => match st with
    | .int v :: .int i :: .ref c :: r => match nw_al sh false c with
      | some n => some (.inr (.inl (vp_in i n, (pc + 1, lv, r, nw_up mem c i.toNatClampNeg v))))
      | none => none
    | _ => none
  | .bastore => match st with
    | .int v :: .int i :: .ref c :: r => match nw_al sh true c with
      | some n => some (.inr (.inl (vp_in i n ∧ (v = 0 ∨ v = 1), (pc + 1, lv, r, nw_up mem c i.toNatClampNeg v))))
      | none => none
    | _ => none
  | _ => none
def nw_A (X : nw_X) : nw_O → Prop
  | .inl s => X s.1 s.2.1 s.2.2.1 s.2.2.2
  | .inr (.inl (c, s)) => c ∧ X s.1 s.2.1 s.2.2.1 s.2.2.2
  | .inr (.inr (c, s, t)) => (c → X s.1 s.2.1 s.2.2.1 s.2.2.2) ∧ (¬ c → X t.1 t.2.1 t.2.2.1 t.2.2.2)
theorem nw_A_mono {X Y : nw_X} (h : ∀ pc lv st mem, X pc lv st mem → Y pc lv st mem) : ∀ o, nw_A X o → nw_A Y o
  | .inl _, k => h _ _ _ _ k
  | .inr (.inl _), k => ⟨k.1, h _ _ _ _ k.2⟩
  | .inr (.inr _), k => ⟨fun c => h _ _ _ _ (k.1 c), fun c => h _ _ _ _ (k.2 c)⟩
/-- the first n of the stack, turned round, and the rest, which is small -/
def nw_sml : List Value → Bool
  | [] => true
  | [_] => true
  | [_, _] => true
  | [_, _, _] => true
  | [_, _, _, _] => true
  | _ => false
def nw_pop : Nat → List Value → List Value → Option (List Value × List Value)
  | 0, st, acc => some (acc, st)
  | _ + 1, [], _ => none
  | n + 1, v :: st, acc => nw_pop n st (v :: acc)
def nw_psh : Option Value → List Value → List Value
  | none, r => r
  | some v, r => v :: r
/-- an object's class -/
def nw_cl (sh : nw_Sh) (c : Nat) : Option Nat := match sh[c]? with
  | some (.inl (cj, _)) => some cj
  | _ => none
/-- a call: of which method (its number), how many words it takes, of which class its receiver must be (none: static) -/
abbrev nw_T : Type := Nat → Nat → Option (Nat × Nat × Option Nat)
def nw_rc (sh : nw_Sh) (rc : Option Nat) (as : List Value) : Bool := match rc, as with
  | none, _ => true
  | some ci, .ref c :: _ => nw_cl sh c == some ci
  | _, _ => false
def nw_Cl (rM : nw_T) (own : Nat) (sh : nw_Sh) (call : nw_C) (X : nw_X) (pc : Nat) (lv : nw_L) (mem : nw_M) (st : List Value) (i : Nat) (vt : Bool) : Prop := match rM own i with
  | some (k, n, rc) => match nw_pop n st [] with
    | some (as, r) => (rc.isSome = vt ∧ nw_rc sh rc as = true ∧ nw_sml r = true) ∧ call k as mem (fun v m => X (pc + 3) lv (nw_psh v r) m)
    | none => False
  | none => False
/-- System.arraycopy between two int arrays -/
def nw_cp (sh : nw_Sh) (X : nw_X) (pc : Nat) (lv : nw_L) (mem : nw_M) (st : List Value) : Prop := match st with
  | .int n :: .int dp :: .ref d :: .int sp :: .ref s :: r => match nw_al sh false s, nw_al sh false d with
    | some ns, some nd => (¬ sp < 0 ∧ ¬ dp < 0 ∧ ¬ n < 0 ∧ sp.toNatClampNeg + n.toNatClampNeg ≤ ns ∧ dp.toNatClampNeg + n.toNatClampNeg ≤ nd ∧ r = []) ∧ X (pc + 3) lv r (nw_row mem d (va_cpy (mem s) (mem d) sp.toNatClampNeg dp.toNatClampNeg n.toNatClampNeg))
    | _, _ => False
  | _ => False
/-- String.length, String.charAt of a constant -/
def nw_sl (sn : List Nat) (X : nw_X) (pc : Nat) (lv : nw_L) (mem : nw_M) (st : List Value) : Prop := match st with
  | .ref a :: r => (100 ≤ a ∧ a - 100 < sn.length ∧ nw_sml r = true) ∧ X (pc + 3) lv (.int (Int32.ofNat (sn.getD (a - 100) 0)) :: r) mem
  | _ => False
def nw_sc (sn : List Nat) (sb : List (List Int32)) (X : nw_X) (pc : Nat) (lv : nw_L) (mem : nw_M) (st : List Value) : Prop := match st with
  | .int i :: .ref a :: r => (100 ≤ a ∧ a - 100 < sn.length ∧ nw_sml r = true ∧ vp_in i (sn.getD (a - 100) 0)) ∧ X (pc + 3) lv (.int ((sb.getD (a - 100) []).getD i.toNatClampNeg 0) :: r) mem
  | _ => False
/-- the tables of a system -/
abbrev nw_Tb : Type := (Nat → Nat → Option (Nat × Nat)) × (Nat → Nat → Option Int32) × (Nat → Nat → Option Int64) × (Nat → Nat → Option Nat) × nw_T × (Nat → Nat → Option Nat) × List Nat × List (List Int32)
def nw_on (o : Option nw_O) (G : nw_O → Prop) : Prop := match o with
  | some o => G o
  | none => False
def nw_rt (ret : Option FieldType) (v : Int32) : Prop := match ret with
  | some .int => True
  | some .boolean => v = 0 ∨ v = 1
  | _ => False
def nw_I (tb : nw_Tb) (own : Nat) (ret : Option FieldType) (sh : nw_Sh) (call : nw_C) (Q : nw_K) (X : nw_X) (pc : Nat) (lv : nw_L) (st : List Value) (mem : nw_M) : Instr → Prop
  | .invokestatic i => match tb.2.2.2.2.2.1 own i with
    | some 0 => nw_cp sh X pc lv mem st
    | some _ => False
    | none => nw_Cl tb.2.2.2.2.1 own sh call X pc lv mem st i false
  | .invokevirtual i => match tb.2.2.2.2.2.1 own i with
    | some 1 => nw_sl tb.2.2.2.2.2.2.1 X pc lv mem st
    | some 2 => nw_sc tb.2.2.2.2.2.2.1 tb.2.2.2.2.2.2.2 X pc lv mem st
    | some _ => False
    | none => nw_Cl tb.2.2.2.2.1 own sh call X pc lv mem st i true
  | .ireturn => match st with
    | [.int v] => nw_rt ret v ∧ Q (some (.int v)) mem
    | _ => False
  | .return_ => match st, ret with
    | [], none => Q none mem
    | _, _ => False
  | i => nw_on (nw_S tb.1 tb.2.1 tb.2.2.1 tb.2.2.2.1 own sh pc lv mem st i) (nw_A X)
def nw_F (tb : nw_Tb) (cc : ByteArray) (own : Nat) (ret : Option FieldType) (sh : nw_Sh) (call : nw_C) (Q : nw_K) (X : nw_X) (pc : Nat) (lv : nw_L) (st : List Value) (mem : nw_M) : Prop := match nw_dec cc pc with
  | some i => nw_I tb own ret sh call Q X pc lv st mem i
  | none => False
def nw_lfp (F : nw_X → nw_X) : nw_X := fun pc lv st mem => ∀ X : nw_X, (∀ pc lv st mem, F X pc lv st mem → X pc lv st mem) → X pc lv st mem
def nw_mono (call : nw_C) : Prop := ∀ (k : Nat) (as : List Value) (mem : nw_M) (P P' : nw_K), (∀ v m, P v m → P' v m) → call k as mem P → call k as mem P'
theorem nw_Cl_mono {rM : nw_T} {own : Nat} {sh : nw_Sh} {call : nw_C} (hc : nw_mono call) {X Y : nw_X} (h : ∀ pc lv st mem, X pc lv st mem → Y pc lv st mem) {pc : Nat} {lv : nw_L} {mem : nw_M} {st : List Value} {i : Nat} {vt : Bool} (k : nw_Cl rM own sh call X pc lv mem st i vt) : nw_Cl rM own sh call Y pc lv mem st i vt := by
  unfold nw_Cl at k ⊢
  split at k <;> rename_i e1
  · split at k <;> rename_i e2
    · exact ⟨k.1, hc _ _ _ _ _ (fun v m q => h _ _ _ _ q) k.2⟩
    · exact k.elim
  · exact k.elim
theorem nw_I_mono {tb : nw_Tb} {own : Nat} {ret : Option FieldType} {sh : nw_Sh} {call : nw_C} (hc : nw_mono call) {Q Q' : nw_K} (hQ : ∀ v m, Q v m → Q' v m) {X Y : nw_X} (h : ∀ pc lv st mem, X pc lv st mem → Y pc lv st mem) {pc : Nat} {lv : nw_L} {st : List Value} {mem : nw_M} {i : Instr} (k : nw_I tb own ret sh call Q X pc lv st mem i) : nw_I tb own ret sh call Q' Y pc lv st mem i := by
  unfold nw_I at k ⊢
  split at k
  · split at k <;> rename_i e1
    · unfold nw_cp at k ⊢
      split at k
      · split at k
        · exact ⟨k.1, h _ _ _ _ k.2⟩
        · exact k.elim
      · exact k.elim
    · exact k.elim
    · exact nw_Cl_mono hc h k
  · split at k <;> rename_i e1
    · unfold nw_sl at k ⊢
      split at k
      · exact ⟨k.1, h _ _ _ _ k.2⟩
      · exact k.elim
    · unfold nw_sc at k ⊢
      split at k
      · exact ⟨k.1, h _ _ _ _ k.2⟩
      · exact k.elim
    · exact k.elim
    · exact nw_Cl_mono hc h k
  · split at k
    · exact ⟨k.1, hQ _ _ k.2⟩
    · exact k.elim
  · split at k
    · exact hQ _ _ k
    · exact k.elim
  · unfold nw_on at k ⊢
    split at k
    · exact nw_A_mono h _ k
    · exact k.elim
theorem nw_F_mono {tb : nw_Tb} {cc : ByteArray} {own : Nat} {ret : Option FieldType} {sh : nw_Sh} {call : nw_C} (hc : nw_mono call) {Q Q' : nw_K} (hQ : ∀ v m, Q v m → Q' v m) {X Y : nw_X} (h : ∀ pc lv st mem, X pc lv st mem → Y pc lv st mem) {pc : Nat} {lv : nw_L} {st : List Value} {mem : nw_M} (k : nw_F tb cc own ret sh call Q X pc lv st mem) : nw_F tb cc own ret sh call Q' Y pc lv st mem := by
  unfold nw_F at k ⊢
  split at k
  · exact nw_I_mono hc hQ h k
  · exact k.elim
theorem nw_lfp_eq {F : nw_X → nw_X} (hF : ∀ X Y : nw_X, (∀ pc lv st mem, X pc lv st mem → Y pc lv st mem) → ∀ pc lv st mem, F X pc lv st mem → F Y pc lv st mem) (pc : Nat) (lv : nw_L) (st : List Value) (mem : nw_M) : nw_lfp F pc lv st mem = F (nw_lfp F) pc lv st mem := by
  have up : ∀ pc lv st mem, F (nw_lfp F) pc lv st mem → nw_lfp F pc lv st mem := fun pc lv st mem k X hX => hX _ _ _ _ (hF _ _ (fun _ _ _ _ q => q X hX) _ _ _ _ k)
  exact propext ⟨fun k => k _ (fun pc lv st mem q => hF _ _ up _ _ _ _ q), fun k => up _ _ _ _ k⟩
/-- the locals at a method's entry -/
def nw_ea : List Value → nw_L
  | [] => []
  | .long x :: t => some (.long x) :: none :: nw_ea t
  | .double x :: t => some (.double x) :: none :: nw_ea t
  | v :: t => some v :: nw_ea t
def nw_pad : nw_L → Nat → nw_L
  | _, 0 => []
  | [], n + 1 => none :: nw_pad [] n
  | a :: t, n + 1 => a :: nw_pad t n
end
section
def nw_kY : Nat → MethodName
  | 0 => yJ9_floorMod_7cf53
  | 1 => yJ9_max_7cf53
  | 2 => yX3_append
  | 3 => yX3_clear
  | 4 => yX3_byteAt
  | 5 => yX4_clear
  | 6 => yX4_copyFrom
  | 7 => yX4_setKind
  | 8 => yX4_hasRoomForWay
  | 9 => yX4_addWay
  | 10 => yX4_hasRoomForWalker
  | 11 => yX4_addWalker
  | 12 => yX4_sendAllAway
  | 13 => yX4_hasCorner
  | 14 => yX4_hasWay
  | 15 => yX4_hasWalker
  | 16 => yX4_kindOf
  | 17 => yX4_waysOf
  | 18 => yX4_endOf
  | 19 => yX4_allWays
  | 20 => yX4_isLeft
  | 21 => yX4_cornersNeverLeft
  | 22 => yX4_isSuch
  | 23 => yX4_vaneOf
  | 24 => yX4_withVane
  | 25 => yX4_placeOf
  | 26 => yX4_withPlace
  | 27 => yX4_shownVane
  | 28 => yX4_shownEnd
  | 29 => yX4_walkersAt
  | 30 => yX4_stepOf
  | 31 => yX4_turnedBy
  | 32 => yX4_turned
  | 33 => yX4_unturned
  | 34 => yX4_walked
  | 35 => yX4_behindOne
  | 36 => yX4_behind
  | 37 => yX1_firstAt
  | 38 => yX1_timesAt
  | 39 => yX1_firstTogether
  | 40 => yX1_cheapTurns
  | 41 => yX1_turnsOf
  | 42 => yX1_settledCorners
  | 43 => yX1_settledStand
  | 44 => yX1_isTaken
  | 45 => yX0_from
  | 46 => yX0_roundLength
  | 47 => yX0_beatsAheadOfRound
  | 48 => yX0_distance
  | 49 => yX0_nextReached
  | 50 => yX0_allEnds
  | 51 => yX0_quickestVanes
  | 52 => yX0_slowest
  | 53 => yX0_slowestByVane
  | 54 => yX0_endsAt
  | 55 => yX0_pastRows
  | 56 => yX0_pastCorners
  | 57 => yX0_canHaveLeft
  | 58 => yX2_read
  | 59 => yX2_advance
  | 60 => yX2_shapeOf
  | 61 => yX2_doLine
  | 62 => yX2_kindWord
  | 63 => yX2_isWord
  | 64 => yX2_doTown
  | 65 => yX2_doKind
  | 66 => yX2_doWay
  | 67 => yX2_doVane
  | 68 => yX2_doWalker
  | 69 => yX2_digit
  | 70 => yX5_write
  | 71 => yX5_erase
  | 72 => yX5_fault
  | 73 => yX5_town
  | 74 => yX5_corner
  | 75 => yX5_way
  | 76 => yX5_as
  | 77 => yX5_walker
  | 78 => yX5_go
  | 79 => yX5_turn
  | 80 => yX5_put
  | 81 => yX5_keep
  | 82 => yX5_back
  | 83 => yX5_later
  | 84 => yX5_when
  | 85 => yX5_often
  | 86 => yX5_meet
  | 87 => yX5_round
  | 88 => yX5_quick
  | 89 => yX5_slow
  | 90 => yX5_pennies
  | 91 => yX5_shares
  | 92 => yX5_settled
  | 93 => yX5_past
  | 94 => yX5_count
  | 95 => yX5_isEither
  | 96 => yX6_in
  | 97 => yX6_has
  | 98 => yX6_copy
  | 99 => yX6_write
  | 100 => yX6_erase
  | 101 => yX6_sort
  | 102 => yX6_token
  | 103 => yX6_isWord
  | 104 => yX6_cornerWord
  | 105 => yX6_wordOf
  | 106 => yX6_numberHere
  | 107 => yX6_reads
  | 108 => yX6_readsRest
  | 109 => yX6_readsLine
  | 110 => yX6_fault
  | 111 => yX6_clear
  | 112 => yX6_tell
  | 113 => yX6_town
  | 114 => yX6_isCorner
  | 115 => yX6_isWalker
  | 116 => yX6_isLeft
  | 117 => yX6_turns
  | 118 => yX6_nextVane
  | 119 => yX6_vaneOf
  | 120 => yX6_corner
  | 121 => yX6_way
  | 122 => yX6_as
  | 123 => yX6_walker
  | 124 => yX6_leave
  | 125 => yX6_beat
  | 126 => yX6_go
  | 127 => yX6_turn
  | 128 => yX6_put
  | 129 => yX6_keep
  | 130 => yX6_back
  | 131 => yX6_later
  | 132 => yX6_firstAt
  | 133 => yX6_when
  | 134 => yX6_often
  | 135 => yX6_meet
  | 136 => yX6_stateOf
  | 137 => yX6_round
  | 138 => yX6_vaneIn
  | 139 => yX6_rows
  | 140 => yX6_beatsBy
  | 141 => yX6_quick
  | 142 => yX6_slow
  | 143 => yX6_nextTries
  | 144 => yX6_areTurns
  | 145 => yX6_comesBy
  | 146 => yX6_fewest
  | 147 => yX6_pennies
  | 148 => yX6_shares
  | 149 => yX6_settled
  | 150 => yX6_wasBy
  | 151 => yX6_past
  | 152 => yX6_count
  | _ => yJ9_floorMod_7cf53
def nw_kB : Nat → ByteArray
  | 0 => cJ9_floorMod_7cf53
  | 1 => cJ9_max_7cf53
  | 2 => cX3_append
  | 3 => cX3_clear
  | 4 => cX3_byteAt
  | 5 => cX4_clear
  | 6 => cX4_copyFrom
  | 7 => cX4_setKind
  | 8 => cX4_hasRoomForWay
  | 9 => cX4_addWay
  | 10 => cX4_hasRoomForWalker
  | 11 => cX4_addWalker
  | 12 => cX4_sendAllAway
  | 13 => cX4_hasCorner
  | 14 => cX4_hasWay
  | 15 => cX4_hasWalker
  | 16 => cX4_kindOf
  | 17 => cX4_waysOf
  | 18 => cX4_endOf
  | 19 => cX4_allWays
  | 20 => cX4_isLeft
  | 21 => cX4_cornersNeverLeft
  | 22 => cX4_isSuch
  | 23 => cX4_vaneOf
  | 24 => cX4_withVane
  | 25 => cX4_placeOf
  | 26 => cX4_withPlace
  | 27 => cX4_shownVane
  | 28 => cX4_shownEnd
  | 29 => cX4_walkersAt
  | 30 => cX4_stepOf
  | 31 => cX4_turnedBy
  | 32 => cX4_turned
  | 33 => cX4_unturned
  | 34 => cX4_walked
  | 35 => cX4_behindOne
  | 36 => cX4_behind
  | 37 => cX1_firstAt
  | 38 => cX1_timesAt
  | 39 => cX1_firstTogether
  | 40 => cX1_cheapTurns
  | 41 => cX1_turnsOf
  | 42 => cX1_settledCorners
  | 43 => cX1_settledStand
  | 44 => cX1_isTaken
  | 45 => cX0_from
  | 46 => cX0_roundLength
  | 47 => cX0_beatsAheadOfRound
  | 48 => cX0_distance
  | 49 => cX0_nextReached
  | 50 => cX0_allEnds
  | 51 => cX0_quickestVanes
  | 52 => cX0_slowest
  | 53 => cX0_slowestByVane
  | 54 => cX0_endsAt
  | 55 => cX0_pastRows
  | 56 => cX0_pastCorners
  | 57 => cX0_canHaveLeft
  | 58 => cX2_read
  | 59 => cX2_advance
  | 60 => cX2_shapeOf
  | 61 => cX2_doLine
  | 62 => cX2_kindWord
  | 63 => cX2_isWord
  | 64 => cX2_doTown
  | 65 => cX2_doKind
  | 66 => cX2_doWay
  | 67 => cX2_doVane
  | 68 => cX2_doWalker
  | 69 => cX2_digit
  | 70 => cX5_write
  | 71 => cX5_erase
  | 72 => cX5_fault
  | 73 => cX5_town
  | 74 => cX5_corner
  | 75 => cX5_way
  | 76 => cX5_as
  | 77 => cX5_walker
  | 78 => cX5_go
  | 79 => cX5_turn
  | 80 => cX5_put
  | 81 => cX5_keep
  | 82 => cX5_back
  | 83 => cX5_later
  | 84 => cX5_when
  | 85 => cX5_often
  | 86 => cX5_meet
  | 87 => cX5_round
  | 88 => cX5_quick
  | 89 => cX5_slow
  | 90 => cX5_pennies
  | 91 => cX5_shares
  | 92 => cX5_settled
  | 93 => cX5_past
  | 94 => cX5_count
  | 95 => cX5_isEither
  | 96 => cX6_in
  | 97 => cX6_has
  | 98 => cX6_copy
  | 99 => cX6_write
  | 100 => cX6_erase
  | 101 => cX6_sort
  | 102 => cX6_token
  | 103 => cX6_isWord
  | 104 => cX6_cornerWord
  | 105 => cX6_wordOf
  | 106 => cX6_numberHere
  | 107 => cX6_reads
  | 108 => cX6_readsRest
  | 109 => cX6_readsLine
  | 110 => cX6_fault
  | 111 => cX6_clear
  | 112 => cX6_tell
  | 113 => cX6_town
  | 114 => cX6_isCorner
  | 115 => cX6_isWalker
  | 116 => cX6_isLeft
  | 117 => cX6_turns
  | 118 => cX6_nextVane
  | 119 => cX6_vaneOf
  | 120 => cX6_corner
  | 121 => cX6_way
  | 122 => cX6_as
  | 123 => cX6_walker
  | 124 => cX6_leave
  | 125 => cX6_beat
  | 126 => cX6_go
  | 127 => cX6_turn
  | 128 => cX6_put
  | 129 => cX6_keep
  | 130 => cX6_back
  | 131 => cX6_later
  | 132 => cX6_firstAt
  | 133 => cX6_when
  | 134 => cX6_often
  | 135 => cX6_meet
  | 136 => cX6_stateOf
  | 137 => cX6_round
  | 138 => cX6_vaneIn
  | 139 => cX6_rows
  | 140 => cX6_beatsBy
  | 141 => cX6_quick
  | 142 => cX6_slow
  | 143 => cX6_nextTries
  | 144 => cX6_areTurns
  | 145 => cX6_comesBy
  | 146 => cX6_fewest
  | 147 => cX6_pennies
  | 148 => cX6_shares
  | 149 => cX6_settled
  | 150 => cX6_wasBy
  | 151 => cX6_past
  | 152 => cX6_count
  | _ => cJ9_floorMod_7cf53
def nw_kL : Nat → Nat
  | 0 => 3
  | 1 => 2
  | 2 => 5
  | 3 => 2
  | 4 => 2
  | 5 => 3
  | 6 => 2
  | 7 => 3
  | 8 => 2
  | 9 => 3
  | 10 => 1
  | 11 => 2
  | 12 => 1
  | 13 => 2
  | 14 => 3
  | 15 => 2
  | 16 => 2
  | 17 => 2
  | 18 => 3
  | 19 => 3
  | 20 => 2
  | 21 => 3
  | 22 => 4
  | 23 => 2
  | 24 => 3
  | 25 => 2
  | 26 => 4
  | 27 => 3
  | 28 => 3
  | 29 => 5
  | 30 => 2
  | 31 => 5
  | 32 => 3
  | 33 => 3
  | 34 => 5
  | 35 => 4
  | 36 => 5
  | 37 => 7
  | 38 => 8
  | 39 => 7
  | 40 => 11
  | 41 => 2
  | 42 => 8
  | 43 => 6
  | 44 => 2
  | 45 => 2
  | 46 => 7
  | 47 => 6
  | 48 => 7
  | 49 => 6
  | 50 => 4
  | 51 => 8
  | 52 => 9
  | 53 => 10
  | 54 => 9
  | 55 => 5
  | 56 => 5
  | 57 => 3
  | 58 => 4
  | 59 => 2
  | 60 => 1
  | 61 => 3
  | 62 => 2
  | 63 => 4
  | 64 => 3
  | 65 => 4
  | 66 => 4
  | 67 => 4
  | 68 => 3
  | 69 => 2
  | 70 => 4
  | 71 => 1
  | 72 => 1
  | 73 => 2
  | 74 => 3
  | 75 => 3
  | 76 => 3
  | 77 => 2
  | 78 => 2
  | 79 => 2
  | 80 => 4
  | 81 => 2
  | 82 => 2
  | 83 => 5
  | 84 => 3
  | 85 => 4
  | 86 => 5
  | 87 => 6
  | 88 => 5
  | 89 => 3
  | 90 => 7
  | 91 => 4
  | 92 => 2
  | 93 => 5
  | 94 => 2
  | 95 => 1
  | 96 => 6
  | 97 => 2
  | 98 => 4
  | 99 => 5
  | 100 => 2
  | 101 => 1
  | 102 => 1
  | 103 => 6
  | 104 => 1
  | 105 => 2
  | 106 => 1
  | 107 => 5
  | 108 => 4
  | 109 => 4
  | 110 => 2
  | 111 => 3
  | 112 => 4
  | 113 => 2
  | 114 => 2
  | 115 => 2
  | 116 => 2
  | 117 => 2
  | 118 => 3
  | 119 => 3
  | 120 => 5
  | 121 => 3
  | 122 => 5
  | 123 => 2
  | 124 => 3
  | 125 => 3
  | 126 => 3
  | 127 => 2
  | 128 => 4
  | 129 => 2
  | 130 => 2
  | 131 => 5
  | 132 => 5
  | 133 => 3
  | 134 => 6
  | 135 => 5
  | 136 => 4
  | 137 => 6
  | 138 => 5
  | 139 => 3
  | 140 => 6
  | 141 => 8
  | 142 => 6
  | 143 => 4
  | 144 => 3
  | 145 => 6
  | 146 => 7
  | 147 => 6
  | 148 => 8
  | 149 => 6
  | 150 => 8
  | 151 => 9
  | 152 => 5
  | _ => 3
def nw_kR : Nat → Option FieldType
  | 0 => (some .int)
  | 1 => (some .int)
  | 2 => (some .boolean)
  | 3 => (some .int)
  | 4 => (some .int)
  | 5 => none
  | 6 => none
  | 7 => (some .boolean)
  | 8 => (some .boolean)
  | 9 => (some .boolean)
  | 10 => (some .boolean)
  | 11 => (some .boolean)
  | 12 => none
  | 13 => (some .boolean)
  | 14 => (some .boolean)
  | 15 => (some .boolean)
  | 16 => (some .int)
  | 17 => (some .int)
  | 18 => (some .int)
  | 19 => (some .int)
  | 20 => (some .boolean)
  | 21 => (some .int)
  | 22 => (some .boolean)
  | 23 => (some .int)
  | 24 => (some .int)
  | 25 => (some .int)
  | 26 => (some .int)
  | 27 => (some .int)
  | 28 => (some .int)
  | 29 => (some .int)
  | 30 => (some .int)
  | 31 => (some .int)
  | 32 => (some .int)
  | 33 => (some .int)
  | 34 => (some .int)
  | 35 => (some .int)
  | 36 => (some .int)
  | 37 => (some .int)
  | 38 => (some .int)
  | 39 => (some .int)
  | 40 => (some .int)
  | 41 => (some .int)
  | 42 => (some .int)
  | 43 => (some .int)
  | 44 => (some .boolean)
  | 45 => (some .int)
  | 46 => (some .int)
  | 47 => (some .int)
  | 48 => (some .int)
  | 49 => (some .int)
  | 50 => (some .int)
  | 51 => (some .int)
  | 52 => (some .int)
  | 53 => (some .int)
  | 54 => (some .int)
  | 55 => (some .int)
  | 56 => (some .int)
  | 57 => (some .boolean)
  | 58 => (some .int)
  | 59 => none
  | 60 => (some .int)
  | 61 => (some .boolean)
  | 62 => (some .int)
  | 63 => (some .boolean)
  | 64 => (some .boolean)
  | 65 => (some .boolean)
  | 66 => (some .boolean)
  | 67 => (some .boolean)
  | 68 => (some .boolean)
  | 69 => (some .int)
  | 70 => (some .int)
  | 71 => (some .int)
  | 72 => (some .int)
  | 73 => (some .int)
  | 74 => (some .int)
  | 75 => (some .int)
  | 76 => (some .int)
  | 77 => (some .int)
  | 78 => (some .int)
  | 79 => (some .int)
  | 80 => (some .int)
  | 81 => (some .int)
  | 82 => (some .int)
  | 83 => (some .int)
  | 84 => (some .int)
  | 85 => (some .int)
  | 86 => (some .int)
  | 87 => (some .int)
  | 88 => (some .int)
  | 89 => (some .int)
  | 90 => (some .int)
  | 91 => (some .int)
  | 92 => (some .int)
  | 93 => (some .int)
  | 94 => (some .int)
  | 95 => (some .boolean)
  | 96 => (some .boolean)
  | 97 => (some .boolean)
  | 98 => none
  | 99 => (some .int)
  | 100 => (some .int)
  | 101 => (some .int)
  | 102 => none
  | 103 => (some .boolean)
  | 104 => (some .int)
  | 105 => (some .int)
  | 106 => (some .int)
  | 107 => (some .boolean)
  | 108 => (some .boolean)
  | 109 => (some .boolean)
  | 110 => (some .int)
  | 111 => none
  | 112 => none
  | 113 => (some .int)
  | 114 => (some .boolean)
  | 115 => (some .boolean)
  | 116 => (some .boolean)
  | 117 => (some .int)
  | 118 => (some .int)
  | 119 => (some .int)
  | 120 => (some .int)
  | 121 => (some .int)
  | 122 => (some .int)
  | 123 => (some .int)
  | 124 => (some .int)
  | 125 => none
  | 126 => (some .int)
  | 127 => (some .int)
  | 128 => (some .int)
  | 129 => (some .int)
  | 130 => (some .int)
  | 131 => (some .int)
  | 132 => (some .int)
  | 133 => (some .int)
  | 134 => (some .int)
  | 135 => (some .int)
  | 136 => (some .int)
  | 137 => (some .int)
  | 138 => (some .int)
  | 139 => (some .int)
  | 140 => (some .int)
  | 141 => (some .int)
  | 142 => (some .int)
  | 143 => (some .boolean)
  | 144 => (some .boolean)
  | 145 => (some .boolean)
  | 146 => (some .int)
  | 147 => (some .int)
  | 148 => (some .int)
  | 149 => (some .int)
  | 150 => (some .int)
  | 151 => (some .int)
  | 152 => (some .int)
  | _ => (some .int)
def nw_kO : Nat → Nat
  | 0 => 7
  | 1 => 7
  | 2 => 1
  | 3 => 1
  | 4 => 1
  | 5 => 3
  | 6 => 3
  | 7 => 3
  | 8 => 3
  | 9 => 3
  | 10 => 3
  | 11 => 3
  | 12 => 3
  | 13 => 3
  | 14 => 3
  | 15 => 3
  | 16 => 3
  | 17 => 3
  | 18 => 3
  | 19 => 3
  | 20 => 3
  | 21 => 3
  | 22 => 3
  | 23 => 3
  | 24 => 3
  | 25 => 3
  | 26 => 3
  | 27 => 3
  | 28 => 3
  | 29 => 3
  | 30 => 3
  | 31 => 3
  | 32 => 3
  | 33 => 3
  | 34 => 3
  | 35 => 3
  | 36 => 3
  | 37 => 6
  | 38 => 6
  | 39 => 6
  | 40 => 6
  | 41 => 6
  | 42 => 6
  | 43 => 6
  | 44 => 6
  | 45 => 5
  | 46 => 5
  | 47 => 5
  | 48 => 5
  | 49 => 5
  | 50 => 5
  | 51 => 5
  | 52 => 5
  | 53 => 5
  | 54 => 5
  | 55 => 5
  | 56 => 5
  | 57 => 5
  | 58 => 2
  | 59 => 2
  | 60 => 2
  | 61 => 2
  | 62 => 2
  | 63 => 2
  | 64 => 2
  | 65 => 2
  | 66 => 2
  | 67 => 2
  | 68 => 2
  | 69 => 2
  | 70 => 0
  | 71 => 0
  | 72 => 0
  | 73 => 0
  | 74 => 0
  | 75 => 0
  | 76 => 0
  | 77 => 0
  | 78 => 0
  | 79 => 0
  | 80 => 0
  | 81 => 0
  | 82 => 0
  | 83 => 0
  | 84 => 0
  | 85 => 0
  | 86 => 0
  | 87 => 0
  | 88 => 0
  | 89 => 0
  | 90 => 0
  | 91 => 0
  | 92 => 0
  | 93 => 0
  | 94 => 0
  | 95 => 0
  | 96 => 4
  | 97 => 4
  | 98 => 4
  | 99 => 4
  | 100 => 4
  | 101 => 4
  | 102 => 4
  | 103 => 4
  | 104 => 4
  | 105 => 4
  | 106 => 4
  | 107 => 4
  | 108 => 4
  | 109 => 4
  | 110 => 4
  | 111 => 4
  | 112 => 4
  | 113 => 4
  | 114 => 4
  | 115 => 4
  | 116 => 4
  | 117 => 4
  | 118 => 4
  | 119 => 4
  | 120 => 4
  | 121 => 4
  | 122 => 4
  | 123 => 4
  | 124 => 4
  | 125 => 4
  | 126 => 4
  | 127 => 4
  | 128 => 4
  | 129 => 4
  | 130 => 4
  | 131 => 4
  | 132 => 4
  | 133 => 4
  | 134 => 4
  | 135 => 4
  | 136 => 4
  | 137 => 4
  | 138 => 4
  | 139 => 4
  | 140 => 4
  | 141 => 4
  | 142 => 4
  | 143 => 4
  | 144 => 4
  | 145 => 4
  | 146 => 4
  | 147 => 4
  | 148 => 4
  | 149 => 4
  | 150 => 4
  | 151 => 4
  | 152 => 4
  | _ => 7
def nw_kN : Nat → Nat
  | 0 => 2
  | 1 => 2
  | 2 => 2
  | 3 => 0
  | 4 => 1
  | 5 => 1
  | 6 => 1
  | 7 => 2
  | 8 => 1
  | 9 => 2
  | 10 => 0
  | 11 => 1
  | 12 => 0
  | 13 => 1
  | 14 => 2
  | 15 => 1
  | 16 => 1
  | 17 => 1
  | 18 => 2
  | 19 => 0
  | 20 => 1
  | 21 => 0
  | 22 => 2
  | 23 => 2
  | 24 => 3
  | 25 => 2
  | 26 => 3
  | 27 => 2
  | 28 => 2
  | 29 => 2
  | 30 => 1
  | 31 => 3
  | 32 => 2
  | 33 => 2
  | 34 => 2
  | 35 => 1
  | 36 => 2
  | 37 => 5
  | 38 => 5
  | 39 => 5
  | 40 => 7
  | 41 => 2
  | 42 => 3
  | 43 => 4
  | 44 => 2
  | 45 => 2
  | 46 => 2
  | 47 => 3
  | 48 => 5
  | 49 => 4
  | 50 => 2
  | 51 => 4
  | 52 => 6
  | 53 => 6
  | 54 => 5
  | 55 => 3
  | 56 => 3
  | 57 => 3
  | 58 => 2
  | 59 => 1
  | 60 => 1
  | 61 => 1
  | 62 => 1
  | 63 => 2
  | 64 => 1
  | 65 => 2
  | 66 => 1
  | 67 => 1
  | 68 => 1
  | 69 => 1
  | 70 => 2
  | 71 => 0
  | 72 => 0
  | 73 => 0
  | 74 => 2
  | 75 => 2
  | 76 => 2
  | 77 => 1
  | 78 => 1
  | 79 => 1
  | 80 => 2
  | 81 => 1
  | 82 => 1
  | 83 => 3
  | 84 => 2
  | 85 => 3
  | 86 => 3
  | 87 => 2
  | 88 => 3
  | 89 => 2
  | 90 => 4
  | 91 => 3
  | 92 => 1
  | 93 => 3
  | 94 => 1
  | 95 => 1
  | 96 => 3
  | 97 => 2
  | 98 => 2
  | 99 => 2
  | 100 => 0
  | 101 => 1
  | 102 => 0
  | 103 => 3
  | 104 => 0
  | 105 => 0
  | 106 => 0
  | 107 => 3
  | 108 => 1
  | 109 => 0
  | 110 => 0
  | 111 => 1
  | 112 => 1
  | 113 => 0
  | 114 => 1
  | 115 => 1
  | 116 => 1
  | 117 => 1
  | 118 => 2
  | 119 => 2
  | 120 => 2
  | 121 => 2
  | 122 => 2
  | 123 => 1
  | 124 => 2
  | 125 => 1
  | 126 => 1
  | 127 => 1
  | 128 => 2
  | 129 => 1
  | 130 => 1
  | 131 => 3
  | 132 => 3
  | 133 => 2
  | 134 => 3
  | 135 => 3
  | 136 => 1
  | 137 => 2
  | 138 => 2
  | 139 => 0
  | 140 => 3
  | 141 => 3
  | 142 => 2
  | 143 => 0
  | 144 => 0
  | 145 => 3
  | 146 => 3
  | 147 => 4
  | 148 => 3
  | 149 => 1
  | 150 => 3
  | 151 => 3
  | 152 => 1
  | _ => 2
def nw_kC : Nat → Option Nat
  | 0 => none
  | 1 => none
  | 2 => some 1
  | 3 => some 1
  | 4 => some 1
  | 5 => some 3
  | 6 => some 3
  | 7 => some 3
  | 8 => some 3
  | 9 => some 3
  | 10 => some 3
  | 11 => some 3
  | 12 => some 3
  | 13 => some 3
  | 14 => some 3
  | 15 => some 3
  | 16 => some 3
  | 17 => some 3
  | 18 => some 3
  | 19 => some 3
  | 20 => some 3
  | 21 => some 3
  | 22 => some 3
  | 23 => none
  | 24 => none
  | 25 => none
  | 26 => none
  | 27 => some 3
  | 28 => some 3
  | 29 => some 3
  | 30 => some 3
  | 31 => some 3
  | 32 => some 3
  | 33 => some 3
  | 34 => some 3
  | 35 => some 3
  | 36 => some 3
  | 37 => none
  | 38 => none
  | 39 => none
  | 40 => none
  | 41 => none
  | 42 => none
  | 43 => none
  | 44 => none
  | 45 => none
  | 46 => none
  | 47 => none
  | 48 => none
  | 49 => none
  | 50 => none
  | 51 => none
  | 52 => none
  | 53 => none
  | 54 => none
  | 55 => none
  | 56 => none
  | 57 => none
  | 58 => some 2
  | 59 => some 2
  | 60 => none
  | 61 => some 2
  | 62 => some 2
  | 63 => some 2
  | 64 => some 2
  | 65 => some 2
  | 66 => some 2
  | 67 => some 2
  | 68 => some 2
  | 69 => some 2
  | 70 => some 0
  | 71 => some 0
  | 72 => some 0
  | 73 => some 0
  | 74 => some 0
  | 75 => some 0
  | 76 => some 0
  | 77 => some 0
  | 78 => some 0
  | 79 => some 0
  | 80 => some 0
  | 81 => some 0
  | 82 => some 0
  | 83 => some 0
  | 84 => some 0
  | 85 => some 0
  | 86 => some 0
  | 87 => some 0
  | 88 => some 0
  | 89 => some 0
  | 90 => some 0
  | 91 => some 0
  | 92 => some 0
  | 93 => some 0
  | 94 => some 0
  | 95 => none
  | 96 => none
  | 97 => none
  | 98 => some 4
  | 99 => some 4
  | 100 => some 4
  | 101 => none
  | 102 => some 4
  | 103 => some 4
  | 104 => some 4
  | 105 => some 4
  | 106 => some 4
  | 107 => some 4
  | 108 => some 4
  | 109 => some 4
  | 110 => some 4
  | 111 => some 4
  | 112 => some 4
  | 113 => some 4
  | 114 => some 4
  | 115 => some 4
  | 116 => some 4
  | 117 => some 4
  | 118 => some 4
  | 119 => some 4
  | 120 => some 4
  | 121 => some 4
  | 122 => some 4
  | 123 => some 4
  | 124 => some 4
  | 125 => some 4
  | 126 => some 4
  | 127 => some 4
  | 128 => some 4
  | 129 => some 4
  | 130 => some 4
  | 131 => some 4
  | 132 => some 4
  | 133 => some 4
  | 134 => some 4
  | 135 => some 4
  | 136 => some 4
  | 137 => some 4
  | 138 => some 4
  | 139 => some 4
  | 140 => some 4
  | 141 => some 4
  | 142 => some 4
  | 143 => some 4
  | 144 => some 4
  | 145 => some 4
  | 146 => some 4
  | 147 => some 4
  | 148 => some 4
  | 149 => some 4
  | 150 => some 4
  | 151 => some 4
  | 152 => some 4
  | _ => none
def nw_cn : Nat → String
  | 0 => RX5
  | 1 => RX3
  | 2 => RX2
  | 3 => RX4
  | 4 => RX6
  | 5 => RX0
  | 6 => RX1
  | 7 => RJ9
  | _ => RJ9
abbrev nw_cls : List vw_C := [(RX5, TX5, 7), (RX3, TX3, 2), (RX2, TX2, 5), (RX4, TX4, 6), (RX6, TX6, 20)]
def nw_rF_0 : Nat → Option (Nat × Nat)
  | 10 => some (0, 0)
  | 19 => some (0, 1)
  | 26 => some (0, 2)
  | 30 => some (0, 3)
  | 34 => some (0, 4)
  | 37 => some (3, 5)
  | 41 => some (0, 5)
  | 42 => some (0, 6)
  | 49 => some (1, 1)
  | 60 => some (2, 0)
  | 67 => some (2, 1)
  | 152 => some (3, 3)
  | 189 => some (3, 4)
  | _ => none
def nw_rF_1 : Nat → Option (Nat × Nat)
  | 11 => some (1, 0)
  | 15 => some (1, 1)
  | _ => none
def nw_rF_2 : Nat → Option (Nat × Nat)
  | 12 => some (2, 0)
  | 18 => some (2, 1)
  | 22 => some (2, 2)
  | 25 => some (2, 3)
  | 28 => some (2, 4)
  | 49 => some (1, 1)
  | 133 => some (3, 5)
  | _ => none
def nw_rF_3 : Nat → Option (Nat × Nat)
  | 11 => some (3, 0)
  | 15 => some (3, 1)
  | 18 => some (3, 2)
  | 21 => some (3, 3)
  | 25 => some (3, 4)
  | 28 => some (3, 5)
  | _ => none
def nw_rF_4 : Nat → Option (Nat × Nat)
  | 7 => some (4, 0)
  | 13 => some (4, 1)
  | 17 => some (4, 2)
  | 20 => some (4, 4)
  | 23 => some (4, 6)
  | 27 => some (4, 7)
  | 30 => some (4, 8)
  | 33 => some (4, 9)
  | 36 => some (4, 15)
  | 39 => some (4, 17)
  | 42 => some (4, 18)
  | 45 => some (4, 19)
  | 54 => some (4, 3)
  | 59 => some (4, 11)
  | 62 => some (4, 12)
  | 69 => some (4, 13)
  | 91 => some (4, 5)
  | 97 => some (4, 14)
  | 106 => some (4, 16)
  | 113 => some (4, 10)
  | _ => none
def nw_rF_5 : Nat → Option (Nat × Nat)
  | 26 => some (3, 3)
  | _ => none
def nw_rF_6 : Nat → Option (Nat × Nat)
  | 39 => some (3, 4)
  | _ => none
def nw_rF : Nat → Nat → Option (Nat × Nat)
  | 0 => nw_rF_0
  | 1 => nw_rF_1
  | 2 => nw_rF_2
  | 3 => nw_rF_3
  | 4 => nw_rF_4
  | 5 => nw_rF_5
  | 6 => nw_rF_6
  | _ => fun _ => none
def nw_rC_0 : Nat → Option Int32
  | 113 => some (99999)
  | _ => none
def nw_rC_1 : Nat → Option Int32
  | _ => none
def nw_rC_2 : Nat → Option Int32
  | _ => none
def nw_rC_3 : Nat → Option Int32
  | _ => none
def nw_rC_4 : Nat → Option Int32
  | 72 => some (14976400)
  | 77 => some (652510433)
  | 78 => some (149392563)
  | 79 => some (249874963)
  | 84 => some (482804)
  | 85 => some (178230)
  | 86 => some (609595447)
  | 87 => some (843549166)
  | 160 => some (99999)
  | _ => none
def nw_rC_5 : Nat → Option Int32
  | 11 => some (65535)
  | _ => none
def nw_rC_6 : Nat → Option Int32
  | _ => none
def nw_rC : Nat → Nat → Option Int32
  | 0 => nw_rC_0
  | 1 => nw_rC_1
  | 2 => nw_rC_2
  | 3 => nw_rC_3
  | 4 => nw_rC_4
  | 5 => nw_rC_5
  | 6 => nw_rC_6
  | _ => fun _ => none
def nw_rL_0 : Nat → Option Int64
  | _ => none
def nw_rL_1 : Nat → Option Int64
  | 19 => some (255)
  | _ => none
def nw_rL_2 : Nat → Option Int64
  | _ => none
def nw_rL_3 : Nat → Option Int64
  | _ => none
def nw_rL_4 : Nat → Option Int64
  | 48 => some (8)
  | 57 => some (255)
  | 144 => some (4)
  | 158 => some (999)
  | 164 => some (99)
  | 198 => some (6)
  | _ => none
def nw_rL_5 : Nat → Option Int64
  | _ => none
def nw_rL_6 : Nat → Option Int64
  | _ => none
def nw_rL : Nat → Nat → Option Int64
  | 0 => nw_rL_0
  | 1 => nw_rL_1
  | 2 => nw_rL_2
  | 3 => nw_rL_3
  | 4 => nw_rL_4
  | 5 => nw_rL_5
  | 6 => nw_rL_6
  | _ => fun _ => none
def nw_rS_0 : Nat → Option Nat
  | _ => none
def nw_rS_1 : Nat → Option Nat
  | _ => none
def nw_rS_2 : Nat → Option Nat
  | 55 => some 100
  | 64 => some 101
  | 69 => some 102
  | 74 => some 103
  | 79 => some 104
  | 92 => some 105
  | 94 => some 106
  | 96 => some 107
  | 98 => some 108
  | _ => none
def nw_rS_3 : Nat → Option Nat
  | _ => none
def nw_rS_4 : Nat → Option Nat
  | _ => none
def nw_rS_5 : Nat → Option Nat
  | _ => none
def nw_rS_6 : Nat → Option Nat
  | _ => none
def nw_rS : Nat → Nat → Option Nat
  | 0 => nw_rS_0
  | 1 => nw_rS_1
  | 2 => nw_rS_2
  | 3 => nw_rS_3
  | 4 => nw_rS_4
  | 5 => nw_rS_5
  | 6 => nw_rS_6
  | _ => fun _ => none
def nw_sx : List (Nat × String) := [(55, "town"), (64, "way"), (69, "vane"), (74, "walker"), (79, "nobody"), (92, "plain"), (94, "against"), (96, "second"), (98, "spring")]
def nw_sn : List Nat := [4, 3, 4, 6, 6, 5, 7, 6, 6]
def nw_sb : List (List Int32) := [[116, 111, 119, 110], [119, 97, 121], [118, 97, 110, 101], [119, 97, 108, 107, 101, 114], [110, 111, 98, 111, 100, 121], [112, 108, 97, 105, 110], [97, 103, 97, 105, 110, 115, 116], [115, 101, 99, 111, 110, 100], [115, 112, 114, 105, 110, 103]]
def nw_rM_0 : Nat → Option (Nat × Nat × Option Nat)
  | 45 => some (2, 3, some 1)
  | 52 => some (3, 1, some 1)
  | 56 => some (58, 3, some 2)
  | 63 => some (6, 2, some 3)
  | 70 => some (13, 2, some 3)
  | 74 => some (16, 2, some 3)
  | 78 => some (17, 2, some 3)
  | 81 => some (27, 3, some 3)
  | 85 => some (29, 3, some 3)
  | 88 => some (14, 3, some 3)
  | 92 => some (18, 3, some 3)
  | 95 => some (22, 3, some 3)
  | 98 => some (20, 2, some 3)
  | 101 => some (32, 3, some 3)
  | 104 => some (28, 3, some 3)
  | 107 => some (15, 2, some 3)
  | 110 => some (25, 2, none)
  | 114 => some (36, 3, some 3)
  | 117 => some (23, 2, none)
  | 120 => some (26, 3, none)
  | 124 => some (95, 1, none)
  | 127 => some (37, 5, none)
  | 133 => some (38, 5, none)
  | 136 => some (39, 5, none)
  | 139 => some (45, 2, none)
  | 144 => some (46, 2, none)
  | 148 => some (47, 3, none)
  | 155 => some (48, 5, none)
  | 158 => some (51, 4, none)
  | 162 => some (52, 6, none)
  | 166 => some (40, 7, none)
  | 170 => some (41, 2, none)
  | 173 => some (54, 5, none)
  | 176 => some (42, 3, none)
  | 180 => some (55, 3, none)
  | 183 => some (56, 3, none)
  | 186 => some (19, 1, some 3)
  | 192 => some (21, 1, some 3)
  | _ => none
def nw_rM_1 : Nat → Option (Nat × Nat × Option Nat)
  | _ => none
def nw_rM_2 : Nat → Option (Nat × Nat × Option Nat)
  | 31 => some (6, 2, some 3)
  | 35 => some (59, 2, some 2)
  | 39 => some (61, 2, some 2)
  | 43 => some (4, 2, some 1)
  | 52 => some (60, 1, none)
  | 57 => some (63, 3, some 2)
  | 61 => some (64, 2, some 2)
  | 66 => some (66, 2, some 2)
  | 71 => some (67, 2, some 2)
  | 76 => some (68, 2, some 2)
  | 81 => some (12, 1, some 3)
  | 84 => some (62, 2, some 2)
  | 88 => some (65, 3, some 2)
  | 109 => some (69, 2, some 2)
  | 112 => some (5, 2, some 3)
  | 116 => some (7, 3, some 3)
  | 120 => some (8, 2, some 3)
  | 124 => some (9, 3, some 3)
  | 127 => some (13, 2, some 3)
  | 130 => some (14, 3, some 3)
  | 136 => some (24, 3, none)
  | 140 => some (10, 1, some 3)
  | 144 => some (11, 2, some 3)
  | _ => none
def nw_rM_3 : Nat → Option (Nat × Nat × Option Nat)
  | 37 => some (13, 2, some 3)
  | 41 => some (8, 2, some 3)
  | 44 => some (10, 1, some 3)
  | 48 => some (26, 3, none)
  | 52 => some (17, 2, some 3)
  | 56 => some (14, 3, some 3)
  | 60 => some (16, 2, some 3)
  | 63 => some (20, 2, some 3)
  | 66 => some (23, 2, none)
  | 70 => some (18, 3, some 3)
  | 73 => some (25, 2, none)
  | 76 => some (0, 2, none)
  | 81 => some (24, 3, none)
  | 84 => some (30, 2, some 3)
  | 87 => some (31, 4, some 3)
  | 90 => some (34, 3, some 3)
  | 93 => some (35, 2, some 3)
  | _ => none
def nw_rM_4 : Nat → Option (Nat × Nat × Option Nat)
  | 50 => some (96, 3, none)
  | 65 => some (101, 1, none)
  | 73 => some (103, 4, some 4)
  | 80 => some (104, 1, some 4)
  | 88 => some (106, 1, some 4)
  | 94 => some (102, 1, some 4)
  | 100 => some (107, 4, some 4)
  | 103 => some (105, 1, some 4)
  | 109 => some (108, 2, some 4)
  | 116 => some (109, 1, some 4)
  | 120 => some (111, 2, some 4)
  | 124 => some (110, 1, some 4)
  | 127 => some (112, 2, some 4)
  | 130 => some (98, 3, some 4)
  | 134 => some (117, 2, some 4)
  | 137 => some (114, 2, some 4)
  | 140 => some (119, 3, some 4)
  | 146 => some (116, 2, some 4)
  | 149 => some (118, 3, some 4)
  | 152 => some (115, 2, some 4)
  | 155 => some (124, 3, some 4)
  | 161 => some (125, 2, some 4)
  | 166 => some (132, 4, some 4)
  | 170 => some (136, 2, some 4)
  | 173 => some (138, 3, some 4)
  | 176 => some (139, 1, some 4)
  | 179 => some (140, 4, some 4)
  | 182 => some (144, 1, some 4)
  | 185 => some (145, 4, some 4)
  | 188 => some (143, 1, some 4)
  | 191 => some (146, 4, some 4)
  | 194 => some (97, 2, none)
  | 200 => some (150, 4, some 4)
  | _ => none
def nw_rM_5 : Nat → Option (Nat × Nat × Option Nat)
  | 12 => some (26, 3, none)
  | 18 => some (34, 3, some 3)
  | 22 => some (49, 4, none)
  | 30 => some (20, 2, some 3)
  | 34 => some (32, 3, some 3)
  | 37 => some (28, 3, some 3)
  | 40 => some (50, 2, none)
  | 44 => some (17, 2, some 3)
  | 48 => some (18, 3, some 3)
  | 51 => some (24, 3, none)
  | 54 => some (48, 5, none)
  | 58 => some (25, 2, none)
  | 61 => some (53, 6, none)
  | 65 => some (52, 6, none)
  | 68 => some (1, 2, none)
  | 73 => some (45, 2, none)
  | 76 => some (57, 3, none)
  | 80 => some (33, 3, some 3)
  | 83 => some (55, 3, none)
  | 87 => some (56, 3, none)
  | _ => none
def nw_rM_6 : Nat → Option (Nat × Nat × Option Nat)
  | 9 => some (25, 2, none)
  | 15 => some (35, 2, some 3)
  | 19 => some (13, 2, some 3)
  | 23 => some (37, 5, none)
  | 29 => some (20, 2, some 3)
  | 32 => some (40, 7, none)
  | 36 => some (32, 3, some 3)
  | 43 => some (43, 4, none)
  | 47 => some (44, 2, none)
  | 51 => some (34, 3, some 3)
  | _ => none
def nw_rM : Nat → Nat → Option (Nat × Nat × Option Nat)
  | 0 => nw_rM_0
  | 1 => nw_rM_1
  | 2 => nw_rM_2
  | 3 => nw_rM_3
  | 4 => nw_rM_4
  | 5 => nw_rM_5
  | 6 => nw_rM_6
  | _ => fun _ => none
def nw_rP_0 : Nat → Option Nat
  | _ => none
def nw_rP_1 : Nat → Option Nat
  | _ => none
def nw_rP_2 : Nat → Option Nat
  | 100 => some 1
  | 105 => some 2
  | _ => none
def nw_rP_3 : Nat → Option Nat
  | 31 => some 0
  | _ => none
def nw_rP_4 : Nat → Option Nat
  | _ => none
def nw_rP_5 : Nat → Option Nat
  | _ => none
def nw_rP_6 : Nat → Option Nat
  | _ => none
def nw_rP : Nat → Nat → Option Nat
  | 0 => nw_rP_0
  | 1 => nw_rP_1
  | 2 => nw_rP_2
  | 3 => nw_rP_3
  | 4 => nw_rP_4
  | 5 => nw_rP_5
  | 6 => nw_rP_6
  | _ => fun _ => none
abbrev nw_tb : nw_Tb := (nw_rF, nw_rC, nw_rL, nw_rS, nw_rM, nw_rP, nw_sn, nw_sb)
def nw_TBL : List Cond := lw_tbl.filter goodWord
theorem nw_in {w : Cond} (i : Nat) (h : lw_tbl[i]? = some w) (g : goodWord w = true) : w ∈ nw_TBL := List.mem_filter.mpr ⟨List.mem_of_getElem? h, g⟩
theorem nw_TBL_in {w : Cond} (h : w ∈ nw_TBL) : w ∈ lw_tbl := (List.mem_filter.mp h).1
theorem nw_TBL_good {w : Cond} (h : w ∈ nw_TBL) : goodWord w = true := (List.mem_filter.mp h).2
def nw_NF : List (Nat × Nat × Nat × Nat) := [(0, 49, 1, 1), (2, 49, 1, 1), (5, 26, 3, 3), (0, 152, 3, 3), (6, 39, 3, 4), (0, 189, 3, 4), (0, 37, 3, 5), (2, 133, 3, 5), (0, 60, 2, 0), (0, 67, 2, 1)]
def nw_NM : List (Nat × Nat × Nat) := [(0, 162, 52), (0, 166, 40), (0, 180, 55), (0, 183, 56)]
def nw_nfw (q : Nat × Nat × Nat × Nat) : Cond := match nw_cls[q.2.2.1]? with
  | some r => .fieldLinkNest (nw_cn q.1) q.2.1 r.1 (r.2.1 q.2.2.2).2.1 (r.2.1 q.2.2.2).2.2.1 RX5
  | none => .tt
def nw_nmw (q : Nat × Nat × Nat) : Cond := .methodLinkNest (nw_cn q.1) q.2.1 (nw_kY q.2.2) RX5
/-- what a field's entry says -/
def nw_fok (o i ci k : Nat) : Prop := ∃ r : vw_C, nw_cls[ci]? = some r ∧ k < r.2.2 ∧ (r.2.1 k).1 = r.1 ∧ (∀ w ∈ u_ws r.1 r.2.1 r.2.2, w ∈ nw_TBL) ∧ (Cond.fieldLink (nw_cn o) i r.1 (r.2.1 k).2.1 (r.2.1 k).2.2.1 ∈ nw_TBL ∨ (o, i, ci, k) ∈ nw_NF)
theorem nw_uw_0 : ∀ w ∈ u_ws RX5 TX5 7, w ∈ nw_TBL := by
  have h : u_ws RX5 TX5 7 = [143, 145, 147, 149, 151, 153, 155].filterMap (fun i => lw_tbl[i]?) := by decide +kernel
  have g : (u_ws RX5 TX5 7).all goodWord = true := by decide +kernel
  intro w hw
  have hg := List.all_eq_true.mp g w hw
  rw [h] at hw
  obtain ⟨i, -, hi⟩ := List.mem_filterMap.mp hw
  exact nw_in i hi hg
theorem nw_uw_1 : ∀ w ∈ u_ws RX3 TX3 2, w ∈ nw_TBL := by
  have h : u_ws RX3 TX3 2 = [73, 75].filterMap (fun i => lw_tbl[i]?) := by decide +kernel
  have g : (u_ws RX3 TX3 2).all goodWord = true := by decide +kernel
  intro w hw
  have hg := List.all_eq_true.mp g w hw
  rw [h] at hw
  obtain ⟨i, -, hi⟩ := List.mem_filterMap.mp hw
  exact nw_in i hi hg
theorem nw_uw_2 : ∀ w ∈ u_ws RX2 TX2 5, w ∈ nw_TBL := by
  have h : u_ws RX2 TX2 5 = [123, 125, 127, 129, 131].filterMap (fun i => lw_tbl[i]?) := by decide +kernel
  have g : (u_ws RX2 TX2 5).all goodWord = true := by decide +kernel
  intro w hw
  have hg := List.all_eq_true.mp g w hw
  rw [h] at hw
  obtain ⟨i, -, hi⟩ := List.mem_filterMap.mp hw
  exact nw_in i hi hg
theorem nw_uw_3 : ∀ w ∈ u_ws RX4 TX4 6, w ∈ nw_TBL := by
  have h : u_ws RX4 TX4 6 = [103, 105, 107, 109, 111, 113].filterMap (fun i => lw_tbl[i]?) := by decide +kernel
  have g : (u_ws RX4 TX4 6).all goodWord = true := by decide +kernel
  intro w hw
  have hg := List.all_eq_true.mp g w hw
  rw [h] at hw
  obtain ⟨i, -, hi⟩ := List.mem_filterMap.mp hw
  exact nw_in i hi hg
theorem nw_uw_4 : ∀ w ∈ u_ws RX6 TX6 20, w ∈ nw_TBL := by
  have h : u_ws RX6 TX6 20 = [640, 642, 644, 646, 648, 650, 652, 654, 656, 658, 660, 662, 664, 666, 668, 670, 672, 674, 676, 678].filterMap (fun i => lw_tbl[i]?) := by decide +kernel
  have g : (u_ws RX6 TX6 20).all goodWord = true := by decide +kernel
  intro w hw
  have hg := List.all_eq_true.mp g w hw
  rw [h] at hw
  obtain ⟨i, -, hi⟩ := List.mem_filterMap.mp hw
  exact nw_in i hi hg
theorem nw_f_0_10 : nw_fok 0 10 0 0 := ⟨(RX5, TX5, 7), rfl, by decide, by decide +kernel, nw_uw_0, Or.inl (nw_in 136 (by decide +kernel) (by decide +kernel))⟩
theorem nw_f_0_19 : nw_fok 0 19 0 1 := ⟨(RX5, TX5, 7), rfl, by decide, by decide +kernel, nw_uw_0, Or.inl (nw_in 137 (by decide +kernel) (by decide +kernel))⟩
theorem nw_f_0_26 : nw_fok 0 26 0 2 := ⟨(RX5, TX5, 7), rfl, by decide, by decide +kernel, nw_uw_0, Or.inl (nw_in 138 (by decide +kernel) (by decide +kernel))⟩
theorem nw_f_0_30 : nw_fok 0 30 0 3 := ⟨(RX5, TX5, 7), rfl, by decide, by decide +kernel, nw_uw_0, Or.inl (nw_in 139 (by decide +kernel) (by decide +kernel))⟩
theorem nw_f_0_34 : nw_fok 0 34 0 4 := ⟨(RX5, TX5, 7), rfl, by decide, by decide +kernel, nw_uw_0, Or.inl (nw_in 140 (by decide +kernel) (by decide +kernel))⟩
theorem nw_f_0_37 : nw_fok 0 37 3 5 := ⟨(RX4, TX4, 6), rfl, by decide, by decide +kernel, nw_uw_3, Or.inr (by decide +kernel)⟩
theorem nw_f_0_41 : nw_fok 0 41 0 5 := ⟨(RX5, TX5, 7), rfl, by decide, by decide +kernel, nw_uw_0, Or.inl (nw_in 141 (by decide +kernel) (by decide +kernel))⟩
theorem nw_f_0_42 : nw_fok 0 42 0 6 := ⟨(RX5, TX5, 7), rfl, by decide, by decide +kernel, nw_uw_0, Or.inl (nw_in 142 (by decide +kernel) (by decide +kernel))⟩
theorem nw_f_0_49 : nw_fok 0 49 1 1 := ⟨(RX3, TX3, 2), rfl, by decide, by decide +kernel, nw_uw_1, Or.inr (by decide +kernel)⟩
theorem nw_f_0_60 : nw_fok 0 60 2 0 := ⟨(RX2, TX2, 5), rfl, by decide, by decide +kernel, nw_uw_2, Or.inr (by decide +kernel)⟩
theorem nw_f_0_67 : nw_fok 0 67 2 1 := ⟨(RX2, TX2, 5), rfl, by decide, by decide +kernel, nw_uw_2, Or.inr (by decide +kernel)⟩
theorem nw_f_0_152 : nw_fok 0 152 3 3 := ⟨(RX4, TX4, 6), rfl, by decide, by decide +kernel, nw_uw_3, Or.inr (by decide +kernel)⟩
theorem nw_f_0_189 : nw_fok 0 189 3 4 := ⟨(RX4, TX4, 6), rfl, by decide, by decide +kernel, nw_uw_3, Or.inr (by decide +kernel)⟩
theorem nw_f_1_11 : nw_fok 1 11 1 0 := ⟨(RX3, TX3, 2), rfl, by decide, by decide +kernel, nw_uw_1, Or.inl (nw_in 69 (by decide +kernel) (by decide +kernel))⟩
theorem nw_f_1_15 : nw_fok 1 15 1 1 := ⟨(RX3, TX3, 2), rfl, by decide, by decide +kernel, nw_uw_1, Or.inl (nw_in 70 (by decide +kernel) (by decide +kernel))⟩
theorem nw_f_2_12 : nw_fok 2 12 2 0 := ⟨(RX2, TX2, 5), rfl, by decide, by decide +kernel, nw_uw_2, Or.inl (nw_in 116 (by decide +kernel) (by decide +kernel))⟩
theorem nw_f_2_18 : nw_fok 2 18 2 1 := ⟨(RX2, TX2, 5), rfl, by decide, by decide +kernel, nw_uw_2, Or.inl (nw_in 118 (by decide +kernel) (by decide +kernel))⟩
theorem nw_f_2_22 : nw_fok 2 22 2 2 := ⟨(RX2, TX2, 5), rfl, by decide, by decide +kernel, nw_uw_2, Or.inl (nw_in 120 (by decide +kernel) (by decide +kernel))⟩
theorem nw_f_2_25 : nw_fok 2 25 2 3 := ⟨(RX2, TX2, 5), rfl, by decide, by decide +kernel, nw_uw_2, Or.inl (nw_in 121 (by decide +kernel) (by decide +kernel))⟩
theorem nw_f_2_28 : nw_fok 2 28 2 4 := ⟨(RX2, TX2, 5), rfl, by decide, by decide +kernel, nw_uw_2, Or.inl (nw_in 122 (by decide +kernel) (by decide +kernel))⟩
theorem nw_f_2_49 : nw_fok 2 49 1 1 := ⟨(RX3, TX3, 2), rfl, by decide, by decide +kernel, nw_uw_1, Or.inr (by decide +kernel)⟩
theorem nw_f_2_133 : nw_fok 2 133 3 5 := ⟨(RX4, TX4, 6), rfl, by decide, by decide +kernel, nw_uw_3, Or.inr (by decide +kernel)⟩
theorem nw_f_3_11 : nw_fok 3 11 3 0 := ⟨(RX4, TX4, 6), rfl, by decide, by decide +kernel, nw_uw_3, Or.inl (nw_in 91 (by decide +kernel) (by decide +kernel))⟩
theorem nw_f_3_15 : nw_fok 3 15 3 1 := ⟨(RX4, TX4, 6), rfl, by decide, by decide +kernel, nw_uw_3, Or.inl (nw_in 92 (by decide +kernel) (by decide +kernel))⟩
theorem nw_f_3_18 : nw_fok 3 18 3 2 := ⟨(RX4, TX4, 6), rfl, by decide, by decide +kernel, nw_uw_3, Or.inl (nw_in 93 (by decide +kernel) (by decide +kernel))⟩
theorem nw_f_3_21 : nw_fok 3 21 3 3 := ⟨(RX4, TX4, 6), rfl, by decide, by decide +kernel, nw_uw_3, Or.inl (nw_in 94 (by decide +kernel) (by decide +kernel))⟩
theorem nw_f_3_25 : nw_fok 3 25 3 4 := ⟨(RX4, TX4, 6), rfl, by decide, by decide +kernel, nw_uw_3, Or.inl (nw_in 97 (by decide +kernel) (by decide +kernel))⟩
theorem nw_f_3_28 : nw_fok 3 28 3 5 := ⟨(RX4, TX4, 6), rfl, by decide, by decide +kernel, nw_uw_3, Or.inl (nw_in 100 (by decide +kernel) (by decide +kernel))⟩
theorem nw_f_4_7 : nw_fok 4 7 4 0 := ⟨(RX6, TX6, 20), rfl, by decide, by decide +kernel, nw_uw_4, Or.inl (nw_in 620 (by decide +kernel) (by decide +kernel))⟩
theorem nw_f_4_13 : nw_fok 4 13 4 1 := ⟨(RX6, TX6, 20), rfl, by decide, by decide +kernel, nw_uw_4, Or.inl (nw_in 621 (by decide +kernel) (by decide +kernel))⟩
theorem nw_f_4_17 : nw_fok 4 17 4 2 := ⟨(RX6, TX6, 20), rfl, by decide, by decide +kernel, nw_uw_4, Or.inl (nw_in 622 (by decide +kernel) (by decide +kernel))⟩
theorem nw_f_4_20 : nw_fok 4 20 4 4 := ⟨(RX6, TX6, 20), rfl, by decide, by decide +kernel, nw_uw_4, Or.inl (nw_in 624 (by decide +kernel) (by decide +kernel))⟩
theorem nw_f_4_23 : nw_fok 4 23 4 6 := ⟨(RX6, TX6, 20), rfl, by decide, by decide +kernel, nw_uw_4, Or.inl (nw_in 626 (by decide +kernel) (by decide +kernel))⟩
theorem nw_f_4_27 : nw_fok 4 27 4 7 := ⟨(RX6, TX6, 20), rfl, by decide, by decide +kernel, nw_uw_4, Or.inl (nw_in 627 (by decide +kernel) (by decide +kernel))⟩
theorem nw_f_4_30 : nw_fok 4 30 4 8 := ⟨(RX6, TX6, 20), rfl, by decide, by decide +kernel, nw_uw_4, Or.inl (nw_in 628 (by decide +kernel) (by decide +kernel))⟩
theorem nw_f_4_33 : nw_fok 4 33 4 9 := ⟨(RX6, TX6, 20), rfl, by decide, by decide +kernel, nw_uw_4, Or.inl (nw_in 629 (by decide +kernel) (by decide +kernel))⟩
theorem nw_f_4_36 : nw_fok 4 36 4 15 := ⟨(RX6, TX6, 20), rfl, by decide, by decide +kernel, nw_uw_4, Or.inl (nw_in 635 (by decide +kernel) (by decide +kernel))⟩
theorem nw_f_4_39 : nw_fok 4 39 4 17 := ⟨(RX6, TX6, 20), rfl, by decide, by decide +kernel, nw_uw_4, Or.inl (nw_in 637 (by decide +kernel) (by decide +kernel))⟩
theorem nw_f_4_42 : nw_fok 4 42 4 18 := ⟨(RX6, TX6, 20), rfl, by decide, by decide +kernel, nw_uw_4, Or.inl (nw_in 638 (by decide +kernel) (by decide +kernel))⟩
theorem nw_f_4_45 : nw_fok 4 45 4 19 := ⟨(RX6, TX6, 20), rfl, by decide, by decide +kernel, nw_uw_4, Or.inl (nw_in 639 (by decide +kernel) (by decide +kernel))⟩
theorem nw_f_4_54 : nw_fok 4 54 4 3 := ⟨(RX6, TX6, 20), rfl, by decide, by decide +kernel, nw_uw_4, Or.inl (nw_in 623 (by decide +kernel) (by decide +kernel))⟩
theorem nw_f_4_59 : nw_fok 4 59 4 11 := ⟨(RX6, TX6, 20), rfl, by decide, by decide +kernel, nw_uw_4, Or.inl (nw_in 631 (by decide +kernel) (by decide +kernel))⟩
theorem nw_f_4_62 : nw_fok 4 62 4 12 := ⟨(RX6, TX6, 20), rfl, by decide, by decide +kernel, nw_uw_4, Or.inl (nw_in 632 (by decide +kernel) (by decide +kernel))⟩
theorem nw_f_4_69 : nw_fok 4 69 4 13 := ⟨(RX6, TX6, 20), rfl, by decide, by decide +kernel, nw_uw_4, Or.inl (nw_in 633 (by decide +kernel) (by decide +kernel))⟩
theorem nw_f_4_91 : nw_fok 4 91 4 5 := ⟨(RX6, TX6, 20), rfl, by decide, by decide +kernel, nw_uw_4, Or.inl (nw_in 625 (by decide +kernel) (by decide +kernel))⟩
theorem nw_f_4_97 : nw_fok 4 97 4 14 := ⟨(RX6, TX6, 20), rfl, by decide, by decide +kernel, nw_uw_4, Or.inl (nw_in 634 (by decide +kernel) (by decide +kernel))⟩
theorem nw_f_4_106 : nw_fok 4 106 4 16 := ⟨(RX6, TX6, 20), rfl, by decide, by decide +kernel, nw_uw_4, Or.inl (nw_in 636 (by decide +kernel) (by decide +kernel))⟩
theorem nw_f_4_113 : nw_fok 4 113 4 10 := ⟨(RX6, TX6, 20), rfl, by decide, by decide +kernel, nw_uw_4, Or.inl (nw_in 630 (by decide +kernel) (by decide +kernel))⟩
theorem nw_f_5_26 : nw_fok 5 26 3 3 := ⟨(RX4, TX4, 6), rfl, by decide, by decide +kernel, nw_uw_3, Or.inr (by decide +kernel)⟩
theorem nw_f_6_39 : nw_fok 6 39 3 4 := ⟨(RX4, TX4, 6), rfl, by decide, by decide +kernel, nw_uw_3, Or.inr (by decide +kernel)⟩
set_option maxHeartbeats 2000000 in
theorem nw_rF_ok {o i ci k : Nat} (h : nw_rF o i = some (ci, k)) : nw_fok o i ci k := by
  unfold nw_rF at h
  split at h
  · unfold nw_rF_0 at h; split at h <;> first | (cases h; first | exact nw_f_0_10 | exact nw_f_0_19 | exact nw_f_0_26 | exact nw_f_0_30 | exact nw_f_0_34 | exact nw_f_0_37 | exact nw_f_0_41 | exact nw_f_0_42 | exact nw_f_0_49 | exact nw_f_0_60 | exact nw_f_0_67 | exact nw_f_0_152 | exact nw_f_0_189) | cases h
  · unfold nw_rF_1 at h; split at h <;> first | (cases h; first | exact nw_f_1_11 | exact nw_f_1_15) | cases h
  · unfold nw_rF_2 at h; split at h <;> first | (cases h; first | exact nw_f_2_12 | exact nw_f_2_18 | exact nw_f_2_22 | exact nw_f_2_25 | exact nw_f_2_28 | exact nw_f_2_49 | exact nw_f_2_133) | cases h
  · unfold nw_rF_3 at h; split at h <;> first | (cases h; first | exact nw_f_3_11 | exact nw_f_3_15 | exact nw_f_3_18 | exact nw_f_3_21 | exact nw_f_3_25 | exact nw_f_3_28) | cases h
  · unfold nw_rF_4 at h; split at h <;> first | (cases h; first | exact nw_f_4_7 | exact nw_f_4_13 | exact nw_f_4_17 | exact nw_f_4_20 | exact nw_f_4_23 | exact nw_f_4_27 | exact nw_f_4_30 | exact nw_f_4_33 | exact nw_f_4_36 | exact nw_f_4_39 | exact nw_f_4_42 | exact nw_f_4_45 | exact nw_f_4_54 | exact nw_f_4_59 | exact nw_f_4_62 | exact nw_f_4_69 | exact nw_f_4_91 | exact nw_f_4_97 | exact nw_f_4_106 | exact nw_f_4_113) | cases h
  · unfold nw_rF_5 at h; split at h <;> first | (cases h; first | exact nw_f_5_26) | cases h
  · unfold nw_rF_6 at h; split at h <;> first | (cases h; first | exact nw_f_6_39) | cases h
  · cases h
theorem nw_c_0_113 : Cond.constant (nw_cn 0) 113 (99999) ∈ nw_TBL := nw_in 430 (by decide +kernel) (by decide +kernel)
theorem nw_c_4_72 : Cond.constant (nw_cn 4) 72 (14976400) ∈ nw_TBL := nw_in 718 (by decide +kernel) (by decide +kernel)
theorem nw_c_4_77 : Cond.constant (nw_cn 4) 77 (652510433) ∈ nw_TBL := nw_in 723 (by decide +kernel) (by decide +kernel)
theorem nw_c_4_78 : Cond.constant (nw_cn 4) 78 (149392563) ∈ nw_TBL := nw_in 724 (by decide +kernel) (by decide +kernel)
theorem nw_c_4_79 : Cond.constant (nw_cn 4) 79 (249874963) ∈ nw_TBL := nw_in 725 (by decide +kernel) (by decide +kernel)
theorem nw_c_4_84 : Cond.constant (nw_cn 4) 84 (482804) ∈ nw_TBL := nw_in 726 (by decide +kernel) (by decide +kernel)
theorem nw_c_4_85 : Cond.constant (nw_cn 4) 85 (178230) ∈ nw_TBL := nw_in 727 (by decide +kernel) (by decide +kernel)
theorem nw_c_4_86 : Cond.constant (nw_cn 4) 86 (609595447) ∈ nw_TBL := nw_in 728 (by decide +kernel) (by decide +kernel)
theorem nw_c_4_87 : Cond.constant (nw_cn 4) 87 (843549166) ∈ nw_TBL := nw_in 729 (by decide +kernel) (by decide +kernel)
theorem nw_c_4_160 : Cond.constant (nw_cn 4) 160 (99999) ∈ nw_TBL := nw_in 805 (by decide +kernel) (by decide +kernel)
theorem nw_c_5_11 : Cond.constant (nw_cn 5) 11 (65535) ∈ nw_TBL := nw_in 499 (by decide +kernel) (by decide +kernel)
theorem nw_rC_ok {o i : Nat} {v : Int32} (h : nw_rC o i = some v) : Cond.constant (nw_cn o) i v ∈ nw_TBL := by
  unfold nw_rC at h
  split at h
  · unfold nw_rC_0 at h; split at h <;> first | (cases h; first | exact nw_c_0_113) | cases h
  · cases h
  · cases h
  · cases h
  · unfold nw_rC_4 at h; split at h <;> first | (cases h; first | exact nw_c_4_72 | exact nw_c_4_77 | exact nw_c_4_78 | exact nw_c_4_79 | exact nw_c_4_84 | exact nw_c_4_85 | exact nw_c_4_86 | exact nw_c_4_87 | exact nw_c_4_160) | cases h
  · unfold nw_rC_5 at h; split at h <;> first | (cases h; first | exact nw_c_5_11) | cases h
  · cases h
  · cases h
theorem nw_cl_1_19 : Cond.constantLong (nw_cn 1) 19 (255) ∈ nw_TBL := nw_in 166 (by decide +kernel) (by decide +kernel)
theorem nw_cl_4_48 : Cond.constantLong (nw_cn 4) 48 (8) ∈ nw_TBL := nw_in 686 (by decide +kernel) (by decide +kernel)
theorem nw_cl_4_57 : Cond.constantLong (nw_cn 4) 57 (255) ∈ nw_TBL := nw_in 690 (by decide +kernel) (by decide +kernel)
theorem nw_cl_4_144 : Cond.constantLong (nw_cn 4) 144 (4) ∈ nw_TBL := nw_in 779 (by decide +kernel) (by decide +kernel)
theorem nw_cl_4_158 : Cond.constantLong (nw_cn 4) 158 (999) ∈ nw_TBL := nw_in 804 (by decide +kernel) (by decide +kernel)
theorem nw_cl_4_164 : Cond.constantLong (nw_cn 4) 164 (99) ∈ nw_TBL := nw_in 834 (by decide +kernel) (by decide +kernel)
theorem nw_cl_4_198 : Cond.constantLong (nw_cn 4) 198 (6) ∈ nw_TBL := nw_in 914 (by decide +kernel) (by decide +kernel)
theorem nw_rL_ok {o i : Nat} {v : Int64} (h : nw_rL o i = some v) : Cond.constantLong (nw_cn o) i v ∈ nw_TBL := by
  unfold nw_rL at h
  split at h
  · cases h
  · unfold nw_rL_1 at h; split at h <;> first | (cases h; first | exact nw_cl_1_19) | cases h
  · cases h
  · cases h
  · unfold nw_rL_4 at h; split at h <;> first | (cases h; first | exact nw_cl_4_48 | exact nw_cl_4_57 | exact nw_cl_4_144 | exact nw_cl_4_158 | exact nw_cl_4_164 | exact nw_cl_4_198) | cases h
  · cases h
  · cases h
  · cases h
end
section
def nw_code (k : Nat) : Cond := Cond.code (nw_kY k) (nw_kB k) (nw_kL k) (nw_kR k)
/-- what the tables say of a method -/
def nw_mok (k : Nat) : Prop := nw_code k ∈ nw_TBL ∧ Cond.initialized (nw_kY k).cls ∈ nw_TBL ∧ ((nw_kY k).cls ≠ "java/lang/invoke/MethodHandle" ∧ (nw_kY k).cls ≠ "java/lang/invoke/VarHandle" ∧ (parseMethodDescriptor (nw_kY k).desc).map (fun d => d.parameters.length) = some (nw_kN k)) ∧ plainFor (nw_kY k) = true ∧ nw_kL k ≤ 40 ∧ nw_cn (nw_kO k) = (nw_kY k).cls ∧
  match nw_kC k with
  | none => Cond.static (nw_kY k) ∈ nw_TBL
  | some ci => ∃ r : vw_C, nw_cls[ci]? = some r ∧ r.1 = (nw_kY k).cls ∧ Cond.instanceMethod (nw_kY k) ∈ nw_TBL ∧ Cond.selects r.1 (nw_kY k) (nw_kY k) ∈ nw_TBL
theorem nw_m_0 : nw_mok 0 := ⟨nw_in 410 (by decide +kernel) (by decide +kernel), nw_in 52 (by decide +kernel) (by decide +kernel), ⟨(by decide +kernel), (by decide +kernel), (by decide +kernel)⟩, (by decide +kernel), by decide, rfl, nw_in 409 (by decide +kernel) (by decide +kernel)⟩
theorem nw_m_1 : nw_mok 1 := ⟨nw_in 545 (by decide +kernel) (by decide +kernel), nw_in 52 (by decide +kernel) (by decide +kernel), ⟨(by decide +kernel), (by decide +kernel), (by decide +kernel)⟩, (by decide +kernel), by decide, rfl, nw_in 544 (by decide +kernel) (by decide +kernel)⟩
theorem nw_m_2 : nw_mok 2 := ⟨nw_in 165 (by decide +kernel) (by decide +kernel), nw_in 43 (by decide +kernel) (by decide +kernel), ⟨(by decide +kernel), (by decide +kernel), (by decide +kernel)⟩, (by decide +kernel), by decide, rfl, ⟨(RX3, TX3, 2), rfl, rfl, nw_in 163 (by decide +kernel) (by decide +kernel), nw_in 164 (by decide +kernel) (by decide +kernel)⟩⟩
theorem nw_m_3 : nw_mok 3 := ⟨nw_in 174 (by decide +kernel) (by decide +kernel), nw_in 43 (by decide +kernel) (by decide +kernel), ⟨(by decide +kernel), (by decide +kernel), (by decide +kernel)⟩, (by decide +kernel), by decide, rfl, ⟨(RX3, TX3, 2), rfl, rfl, nw_in 172 (by decide +kernel) (by decide +kernel), nw_in 173 (by decide +kernel) (by decide +kernel)⟩⟩
theorem nw_m_4 : nw_mok 4 := ⟨nw_in 197 (by decide +kernel) (by decide +kernel), nw_in 43 (by decide +kernel) (by decide +kernel), ⟨(by decide +kernel), (by decide +kernel), (by decide +kernel)⟩, (by decide +kernel), by decide, rfl, ⟨(RX3, TX3, 2), rfl, rfl, nw_in 195 (by decide +kernel) (by decide +kernel), nw_in 196 (by decide +kernel) (by decide +kernel)⟩⟩
theorem nw_m_5 : nw_mok 5 := ⟨nw_in 269 (by decide +kernel) (by decide +kernel), nw_in 45 (by decide +kernel) (by decide +kernel), ⟨(by decide +kernel), (by decide +kernel), (by decide +kernel)⟩, (by decide +kernel), by decide, rfl, ⟨(RX4, TX4, 6), rfl, rfl, nw_in 267 (by decide +kernel) (by decide +kernel), nw_in 268 (by decide +kernel) (by decide +kernel)⟩⟩
theorem nw_m_6 : nw_mok 6 := ⟨nw_in 186 (by decide +kernel) (by decide +kernel), nw_in 45 (by decide +kernel) (by decide +kernel), ⟨(by decide +kernel), (by decide +kernel), (by decide +kernel)⟩, (by decide +kernel), by decide, rfl, ⟨(RX4, TX4, 6), rfl, rfl, nw_in 184 (by decide +kernel) (by decide +kernel), nw_in 185 (by decide +kernel) (by decide +kernel)⟩⟩
theorem nw_m_7 : nw_mok 7 := ⟨nw_in 342 (by decide +kernel) (by decide +kernel), nw_in 45 (by decide +kernel) (by decide +kernel), ⟨(by decide +kernel), (by decide +kernel), (by decide +kernel)⟩, (by decide +kernel), by decide, rfl, ⟨(RX4, TX4, 6), rfl, rfl, nw_in 340 (by decide +kernel) (by decide +kernel), nw_in 341 (by decide +kernel) (by decide +kernel)⟩⟩
theorem nw_m_8 : nw_mok 8 := ⟨nw_in 278 (by decide +kernel) (by decide +kernel), nw_in 45 (by decide +kernel) (by decide +kernel), ⟨(by decide +kernel), (by decide +kernel), (by decide +kernel)⟩, (by decide +kernel), by decide, rfl, ⟨(RX4, TX4, 6), rfl, rfl, nw_in 276 (by decide +kernel) (by decide +kernel), nw_in 277 (by decide +kernel) (by decide +kernel)⟩⟩
theorem nw_m_9 : nw_mok 9 := ⟨nw_in 286 (by decide +kernel) (by decide +kernel), nw_in 45 (by decide +kernel) (by decide +kernel), ⟨(by decide +kernel), (by decide +kernel), (by decide +kernel)⟩, (by decide +kernel), by decide, rfl, ⟨(RX4, TX4, 6), rfl, rfl, nw_in 284 (by decide +kernel) (by decide +kernel), nw_in 285 (by decide +kernel) (by decide +kernel)⟩⟩
theorem nw_m_10 : nw_mok 10 := ⟨nw_in 313 (by decide +kernel) (by decide +kernel), nw_in 45 (by decide +kernel) (by decide +kernel), ⟨(by decide +kernel), (by decide +kernel), (by decide +kernel)⟩, (by decide +kernel), by decide, rfl, ⟨(RX4, TX4, 6), rfl, rfl, nw_in 311 (by decide +kernel) (by decide +kernel), nw_in 312 (by decide +kernel) (by decide +kernel)⟩⟩
theorem nw_m_11 : nw_mok 11 := ⟨nw_in 317 (by decide +kernel) (by decide +kernel), nw_in 45 (by decide +kernel) (by decide +kernel), ⟨(by decide +kernel), (by decide +kernel), (by decide +kernel)⟩, (by decide +kernel), by decide, rfl, ⟨(RX4, TX4, 6), rfl, rfl, nw_in 315 (by decide +kernel) (by decide +kernel), nw_in 316 (by decide +kernel) (by decide +kernel)⟩⟩
theorem nw_m_12 : nw_mok 12 := ⟨nw_in 326 (by decide +kernel) (by decide +kernel), nw_in 45 (by decide +kernel) (by decide +kernel), ⟨(by decide +kernel), (by decide +kernel), (by decide +kernel)⟩, (by decide +kernel), by decide, rfl, ⟨(RX4, TX4, 6), rfl, rfl, nw_in 324 (by decide +kernel) (by decide +kernel), nw_in 325 (by decide +kernel) (by decide +kernel)⟩⟩
theorem nw_m_13 : nw_mok 13 := ⟨nw_in 282 (by decide +kernel) (by decide +kernel), nw_in 45 (by decide +kernel) (by decide +kernel), ⟨(by decide +kernel), (by decide +kernel), (by decide +kernel)⟩, (by decide +kernel), by decide, rfl, ⟨(RX4, TX4, 6), rfl, rfl, nw_in 280 (by decide +kernel) (by decide +kernel), nw_in 281 (by decide +kernel) (by decide +kernel)⟩⟩
theorem nw_m_14 : nw_mok 14 := ⟨nw_in 297 (by decide +kernel) (by decide +kernel), nw_in 45 (by decide +kernel) (by decide +kernel), ⟨(by decide +kernel), (by decide +kernel), (by decide +kernel)⟩, (by decide +kernel), by decide, rfl, ⟨(RX4, TX4, 6), rfl, rfl, nw_in 295 (by decide +kernel) (by decide +kernel), nw_in 296 (by decide +kernel) (by decide +kernel)⟩⟩
theorem nw_m_15 : nw_mok 15 := ⟨nw_in 424 (by decide +kernel) (by decide +kernel), nw_in 45 (by decide +kernel) (by decide +kernel), ⟨(by decide +kernel), (by decide +kernel), (by decide +kernel)⟩, (by decide +kernel), by decide, rfl, ⟨(RX4, TX4, 6), rfl, rfl, nw_in 422 (by decide +kernel) (by decide +kernel), nw_in 423 (by decide +kernel) (by decide +kernel)⟩⟩
theorem nw_m_16 : nw_mok 16 := ⟨nw_in 357 (by decide +kernel) (by decide +kernel), nw_in 45 (by decide +kernel) (by decide +kernel), ⟨(by decide +kernel), (by decide +kernel), (by decide +kernel)⟩, (by decide +kernel), by decide, rfl, ⟨(RX4, TX4, 6), rfl, rfl, nw_in 355 (by decide +kernel) (by decide +kernel), nw_in 356 (by decide +kernel) (by decide +kernel)⟩⟩
theorem nw_m_17 : nw_mok 17 := ⟨nw_in 301 (by decide +kernel) (by decide +kernel), nw_in 45 (by decide +kernel) (by decide +kernel), ⟨(by decide +kernel), (by decide +kernel), (by decide +kernel)⟩, (by decide +kernel), by decide, rfl, ⟨(RX4, TX4, 6), rfl, rfl, nw_in 299 (by decide +kernel) (by decide +kernel), nw_in 300 (by decide +kernel) (by decide +kernel)⟩⟩
theorem nw_m_18 : nw_mok 18 := ⟨nw_in 381 (by decide +kernel) (by decide +kernel), nw_in 45 (by decide +kernel) (by decide +kernel), ⟨(by decide +kernel), (by decide +kernel), (by decide +kernel)⟩, (by decide +kernel), by decide, rfl, ⟨(RX4, TX4, 6), rfl, rfl, nw_in 379 (by decide +kernel) (by decide +kernel), nw_in 380 (by decide +kernel) (by decide +kernel)⟩⟩
theorem nw_m_19 : nw_mok 19 := ⟨nw_in 609 (by decide +kernel) (by decide +kernel), nw_in 45 (by decide +kernel) (by decide +kernel), ⟨(by decide +kernel), (by decide +kernel), (by decide +kernel)⟩, (by decide +kernel), by decide, rfl, ⟨(RX4, TX4, 6), rfl, rfl, nw_in 607 (by decide +kernel) (by decide +kernel), nw_in 608 (by decide +kernel) (by decide +kernel)⟩⟩
theorem nw_m_20 : nw_mok 20 := ⟨nw_in 395 (by decide +kernel) (by decide +kernel), nw_in 45 (by decide +kernel) (by decide +kernel), ⟨(by decide +kernel), (by decide +kernel), (by decide +kernel)⟩, (by decide +kernel), by decide, rfl, ⟨(RX4, TX4, 6), rfl, rfl, nw_in 393 (by decide +kernel) (by decide +kernel), nw_in 394 (by decide +kernel) (by decide +kernel)⟩⟩
theorem nw_m_21 : nw_mok 21 := ⟨nw_in 613 (by decide +kernel) (by decide +kernel), nw_in 45 (by decide +kernel) (by decide +kernel), ⟨(by decide +kernel), (by decide +kernel), (by decide +kernel)⟩, (by decide +kernel), by decide, rfl, ⟨(RX4, TX4, 6), rfl, rfl, nw_in 611 (by decide +kernel) (by decide +kernel), nw_in 612 (by decide +kernel) (by decide +kernel)⟩⟩
theorem nw_m_22 : nw_mok 22 := ⟨nw_in 390 (by decide +kernel) (by decide +kernel), nw_in 45 (by decide +kernel) (by decide +kernel), ⟨(by decide +kernel), (by decide +kernel), (by decide +kernel)⟩, (by decide +kernel), by decide, rfl, ⟨(RX4, TX4, 6), rfl, rfl, nw_in 388 (by decide +kernel) (by decide +kernel), nw_in 389 (by decide +kernel) (by decide +kernel)⟩⟩
theorem nw_m_23 : nw_mok 23 := ⟨nw_in 365 (by decide +kernel) (by decide +kernel), nw_in 45 (by decide +kernel) (by decide +kernel), ⟨(by decide +kernel), (by decide +kernel), (by decide +kernel)⟩, (by decide +kernel), by decide, rfl, nw_in 364 (by decide +kernel) (by decide +kernel)⟩
theorem nw_m_24 : nw_mok 24 := ⟨nw_in 304 (by decide +kernel) (by decide +kernel), nw_in 45 (by decide +kernel) (by decide +kernel), ⟨(by decide +kernel), (by decide +kernel), (by decide +kernel)⟩, (by decide +kernel), by decide, rfl, nw_in 303 (by decide +kernel) (by decide +kernel)⟩
theorem nw_m_25 : nw_mok 25 := ⟨nw_in 372 (by decide +kernel) (by decide +kernel), nw_in 45 (by decide +kernel) (by decide +kernel), ⟨(by decide +kernel), (by decide +kernel), (by decide +kernel)⟩, (by decide +kernel), by decide, rfl, nw_in 371 (by decide +kernel) (by decide +kernel)⟩
theorem nw_m_26 : nw_mok 26 := ⟨nw_in 321 (by decide +kernel) (by decide +kernel), nw_in 45 (by decide +kernel) (by decide +kernel), ⟨(by decide +kernel), (by decide +kernel), (by decide +kernel)⟩, (by decide +kernel), by decide, rfl, nw_in 320 (by decide +kernel) (by decide +kernel)⟩
theorem nw_m_27 : nw_mok 27 := ⟨nw_in 362 (by decide +kernel) (by decide +kernel), nw_in 45 (by decide +kernel) (by decide +kernel), ⟨(by decide +kernel), (by decide +kernel), (by decide +kernel)⟩, (by decide +kernel), by decide, rfl, ⟨(RX4, TX4, 6), rfl, rfl, nw_in 360 (by decide +kernel) (by decide +kernel), nw_in 361 (by decide +kernel) (by decide +kernel)⟩⟩
theorem nw_m_28 : nw_mok 28 := ⟨nw_in 415 (by decide +kernel) (by decide +kernel), nw_in 45 (by decide +kernel) (by decide +kernel), ⟨(by decide +kernel), (by decide +kernel), (by decide +kernel)⟩, (by decide +kernel), by decide, rfl, ⟨(RX4, TX4, 6), rfl, rfl, nw_in 413 (by decide +kernel) (by decide +kernel), nw_in 414 (by decide +kernel) (by decide +kernel)⟩⟩
theorem nw_m_29 : nw_mok 29 := ⟨nw_in 369 (by decide +kernel) (by decide +kernel), nw_in 45 (by decide +kernel) (by decide +kernel), ⟨(by decide +kernel), (by decide +kernel), (by decide +kernel)⟩, (by decide +kernel), by decide, rfl, ⟨(RX4, TX4, 6), rfl, rfl, nw_in 367 (by decide +kernel) (by decide +kernel), nw_in 368 (by decide +kernel) (by decide +kernel)⟩⟩
theorem nw_m_30 : nw_mok 30 := ⟨nw_in 403 (by decide +kernel) (by decide +kernel), nw_in 45 (by decide +kernel) (by decide +kernel), ⟨(by decide +kernel), (by decide +kernel), (by decide +kernel)⟩, (by decide +kernel), by decide, rfl, ⟨(RX4, TX4, 6), rfl, rfl, nw_in 402 (by decide +kernel) (by decide +kernel), nw_in 10 (by decide +kernel) (by decide +kernel)⟩⟩
theorem nw_m_31 : nw_mok 31 := ⟨nw_in 407 (by decide +kernel) (by decide +kernel), nw_in 45 (by decide +kernel) (by decide +kernel), ⟨(by decide +kernel), (by decide +kernel), (by decide +kernel)⟩, (by decide +kernel), by decide, rfl, ⟨(RX4, TX4, 6), rfl, rfl, nw_in 406 (by decide +kernel) (by decide +kernel), nw_in 11 (by decide +kernel) (by decide +kernel)⟩⟩
theorem nw_m_32 : nw_mok 32 := ⟨nw_in 399 (by decide +kernel) (by decide +kernel), nw_in 45 (by decide +kernel) (by decide +kernel), ⟨(by decide +kernel), (by decide +kernel), (by decide +kernel)⟩, (by decide +kernel), by decide, rfl, ⟨(RX4, TX4, 6), rfl, rfl, nw_in 397 (by decide +kernel) (by decide +kernel), nw_in 398 (by decide +kernel) (by decide +kernel)⟩⟩
theorem nw_m_33 : nw_mok 33 := ⟨nw_in 596 (by decide +kernel) (by decide +kernel), nw_in 45 (by decide +kernel) (by decide +kernel), ⟨(by decide +kernel), (by decide +kernel), (by decide +kernel)⟩, (by decide +kernel), by decide, rfl, ⟨(RX4, TX4, 6), rfl, rfl, nw_in 594 (by decide +kernel) (by decide +kernel), nw_in 595 (by decide +kernel) (by decide +kernel)⟩⟩
theorem nw_m_34 : nw_mok 34 := ⟨nw_in 442 (by decide +kernel) (by decide +kernel), nw_in 45 (by decide +kernel) (by decide +kernel), ⟨(by decide +kernel), (by decide +kernel), (by decide +kernel)⟩, (by decide +kernel), by decide, rfl, ⟨(RX4, TX4, 6), rfl, rfl, nw_in 440 (by decide +kernel) (by decide +kernel), nw_in 441 (by decide +kernel) (by decide +kernel)⟩⟩
theorem nw_m_35 : nw_mok 35 := ⟨nw_in 438 (by decide +kernel) (by decide +kernel), nw_in 45 (by decide +kernel) (by decide +kernel), ⟨(by decide +kernel), (by decide +kernel), (by decide +kernel)⟩, (by decide +kernel), by decide, rfl, ⟨(RX4, TX4, 6), rfl, rfl, nw_in 436 (by decide +kernel) (by decide +kernel), nw_in 437 (by decide +kernel) (by decide +kernel)⟩⟩
theorem nw_m_36 : nw_mok 36 := ⟨nw_in 434 (by decide +kernel) (by decide +kernel), nw_in 45 (by decide +kernel) (by decide +kernel), ⟨(by decide +kernel), (by decide +kernel), (by decide +kernel)⟩, (by decide +kernel), by decide, rfl, ⟨(RX4, TX4, 6), rfl, rfl, nw_in 432 (by decide +kernel) (by decide +kernel), nw_in 433 (by decide +kernel) (by decide +kernel)⟩⟩
theorem nw_m_37 : nw_mok 37 := ⟨nw_in 475 (by decide +kernel) (by decide +kernel), nw_in 53 (by decide +kernel) (by decide +kernel), ⟨(by decide +kernel), (by decide +kernel), (by decide +kernel)⟩, (by decide +kernel), by decide, rfl, nw_in 474 (by decide +kernel) (by decide +kernel)⟩
theorem nw_m_38 : nw_mok 38 := ⟨nw_in 484 (by decide +kernel) (by decide +kernel), nw_in 53 (by decide +kernel) (by decide +kernel), ⟨(by decide +kernel), (by decide +kernel), (by decide +kernel)⟩, (by decide +kernel), by decide, rfl, nw_in 483 (by decide +kernel) (by decide +kernel)⟩
theorem nw_m_39 : nw_mok 39 := ⟨nw_in 491 (by decide +kernel) (by decide +kernel), nw_in 53 (by decide +kernel) (by decide +kernel), ⟨(by decide +kernel), (by decide +kernel), (by decide +kernel)⟩, (by decide +kernel), by decide, rfl, nw_in 490 (by decide +kernel) (by decide +kernel)⟩
theorem nw_m_40 : nw_mok 40 := ⟨nw_in 552 (by decide +kernel) (by decide +kernel), nw_in 53 (by decide +kernel) (by decide +kernel), ⟨(by decide +kernel), (by decide +kernel), (by decide +kernel)⟩, (by decide +kernel), by decide, rfl, nw_in 551 (by decide +kernel) (by decide +kernel)⟩
theorem nw_m_41 : nw_mok 41 := ⟨nw_in 560 (by decide +kernel) (by decide +kernel), nw_in 53 (by decide +kernel) (by decide +kernel), ⟨(by decide +kernel), (by decide +kernel), (by decide +kernel)⟩, (by decide +kernel), by decide, rfl, nw_in 559 (by decide +kernel) (by decide +kernel)⟩
theorem nw_m_42 : nw_mok 42 := ⟨nw_in 575 (by decide +kernel) (by decide +kernel), nw_in 53 (by decide +kernel) (by decide +kernel), ⟨(by decide +kernel), (by decide +kernel), (by decide +kernel)⟩, (by decide +kernel), by decide, rfl, nw_in 574 (by decide +kernel) (by decide +kernel)⟩
theorem nw_m_43 : nw_mok 43 := ⟨nw_in 578 (by decide +kernel) (by decide +kernel), nw_in 53 (by decide +kernel) (by decide +kernel), ⟨(by decide +kernel), (by decide +kernel), (by decide +kernel)⟩, (by decide +kernel), by decide, rfl, nw_in 577 (by decide +kernel) (by decide +kernel)⟩
theorem nw_m_44 : nw_mok 44 := ⟨nw_in 581 (by decide +kernel) (by decide +kernel), nw_in 53 (by decide +kernel) (by decide +kernel), ⟨(by decide +kernel), (by decide +kernel), (by decide +kernel)⟩, (by decide +kernel), by decide, rfl, nw_in 580 (by decide +kernel) (by decide +kernel)⟩
theorem nw_m_45 : nw_mok 45 := ⟨nw_in 498 (by decide +kernel) (by decide +kernel), nw_in 54 (by decide +kernel) (by decide +kernel), ⟨(by decide +kernel), (by decide +kernel), (by decide +kernel)⟩, (by decide +kernel), by decide, rfl, nw_in 497 (by decide +kernel) (by decide +kernel)⟩
theorem nw_m_46 : nw_mok 46 := ⟨nw_in 503 (by decide +kernel) (by decide +kernel), nw_in 54 (by decide +kernel) (by decide +kernel), ⟨(by decide +kernel), (by decide +kernel), (by decide +kernel)⟩, (by decide +kernel), by decide, rfl, nw_in 502 (by decide +kernel) (by decide +kernel)⟩
theorem nw_m_47 : nw_mok 47 := ⟨nw_in 507 (by decide +kernel) (by decide +kernel), nw_in 54 (by decide +kernel) (by decide +kernel), ⟨(by decide +kernel), (by decide +kernel), (by decide +kernel)⟩, (by decide +kernel), by decide, rfl, nw_in 506 (by decide +kernel) (by decide +kernel)⟩
theorem nw_m_48 : nw_mok 48 := ⟨nw_in 514 (by decide +kernel) (by decide +kernel), nw_in 54 (by decide +kernel) (by decide +kernel), ⟨(by decide +kernel), (by decide +kernel), (by decide +kernel)⟩, (by decide +kernel), by decide, rfl, nw_in 513 (by decide +kernel) (by decide +kernel)⟩
theorem nw_m_49 : nw_mok 49 := ⟨nw_in 517 (by decide +kernel) (by decide +kernel), nw_in 54 (by decide +kernel) (by decide +kernel), ⟨(by decide +kernel), (by decide +kernel), (by decide +kernel)⟩, (by decide +kernel), by decide, rfl, nw_in 516 (by decide +kernel) (by decide +kernel)⟩
theorem nw_m_50 : nw_mok 50 := ⟨nw_in 523 (by decide +kernel) (by decide +kernel), nw_in 54 (by decide +kernel) (by decide +kernel), ⟨(by decide +kernel), (by decide +kernel), (by decide +kernel)⟩, (by decide +kernel), by decide, rfl, nw_in 522 (by decide +kernel) (by decide +kernel)⟩
theorem nw_m_51 : nw_mok 51 := ⟨nw_in 528 (by decide +kernel) (by decide +kernel), nw_in 54 (by decide +kernel) (by decide +kernel), ⟨(by decide +kernel), (by decide +kernel), (by decide +kernel)⟩, (by decide +kernel), by decide, rfl, nw_in 527 (by decide +kernel) (by decide +kernel)⟩
theorem nw_m_52 : nw_mok 52 := ⟨nw_in 537 (by decide +kernel) (by decide +kernel), nw_in 54 (by decide +kernel) (by decide +kernel), ⟨(by decide +kernel), (by decide +kernel), (by decide +kernel)⟩, (by decide +kernel), by decide, rfl, nw_in 536 (by decide +kernel) (by decide +kernel)⟩
theorem nw_m_53 : nw_mok 53 := ⟨nw_in 541 (by decide +kernel) (by decide +kernel), nw_in 54 (by decide +kernel) (by decide +kernel), ⟨(by decide +kernel), (by decide +kernel), (by decide +kernel)⟩, (by decide +kernel), by decide, rfl, nw_in 540 (by decide +kernel) (by decide +kernel)⟩
theorem nw_m_54 : nw_mok 54 := ⟨nw_in 567 (by decide +kernel) (by decide +kernel), nw_in 54 (by decide +kernel) (by decide +kernel), ⟨(by decide +kernel), (by decide +kernel), (by decide +kernel)⟩, (by decide +kernel), by decide, rfl, nw_in 566 (by decide +kernel) (by decide +kernel)⟩
theorem nw_m_55 : nw_mok 55 := ⟨nw_in 589 (by decide +kernel) (by decide +kernel), nw_in 54 (by decide +kernel) (by decide +kernel), ⟨(by decide +kernel), (by decide +kernel), (by decide +kernel)⟩, (by decide +kernel), by decide, rfl, nw_in 588 (by decide +kernel) (by decide +kernel)⟩
theorem nw_m_56 : nw_mok 56 := ⟨nw_in 600 (by decide +kernel) (by decide +kernel), nw_in 54 (by decide +kernel) (by decide +kernel), ⟨(by decide +kernel), (by decide +kernel), (by decide +kernel)⟩, (by decide +kernel), by decide, rfl, nw_in 599 (by decide +kernel) (by decide +kernel)⟩
theorem nw_m_57 : nw_mok 57 := ⟨nw_in 592 (by decide +kernel) (by decide +kernel), nw_in 54 (by decide +kernel) (by decide +kernel), ⟨(by decide +kernel), (by decide +kernel), (by decide +kernel)⟩, (by decide +kernel), by decide, rfl, nw_in 591 (by decide +kernel) (by decide +kernel)⟩
theorem nw_m_58 : nw_mok 58 := ⟨nw_in 182 (by decide +kernel) (by decide +kernel), nw_in 44 (by decide +kernel) (by decide +kernel), ⟨(by decide +kernel), (by decide +kernel), (by decide +kernel)⟩, (by decide +kernel), by decide, rfl, ⟨(RX2, TX2, 5), rfl, rfl, nw_in 180 (by decide +kernel) (by decide +kernel), nw_in 181 (by decide +kernel) (by decide +kernel)⟩⟩
theorem nw_m_59 : nw_mok 59 := ⟨nw_in 193 (by decide +kernel) (by decide +kernel), nw_in 44 (by decide +kernel) (by decide +kernel), ⟨(by decide +kernel), (by decide +kernel), (by decide +kernel)⟩, (by decide +kernel), by decide, rfl, ⟨(RX2, TX2, 5), rfl, rfl, nw_in 192 (by decide +kernel) (by decide +kernel), nw_in 0 (by decide +kernel) (by decide +kernel)⟩⟩
theorem nw_m_60 : nw_mok 60 := ⟨nw_in 200 (by decide +kernel) (by decide +kernel), nw_in 44 (by decide +kernel) (by decide +kernel), ⟨(by decide +kernel), (by decide +kernel), (by decide +kernel)⟩, (by decide +kernel), by decide, rfl, nw_in 199 (by decide +kernel) (by decide +kernel)⟩
theorem nw_m_61 : nw_mok 61 := ⟨nw_in 204 (by decide +kernel) (by decide +kernel), nw_in 44 (by decide +kernel) (by decide +kernel), ⟨(by decide +kernel), (by decide +kernel), (by decide +kernel)⟩, (by decide +kernel), by decide, rfl, ⟨(RX2, TX2, 5), rfl, rfl, nw_in 203 (by decide +kernel) (by decide +kernel), nw_in 1 (by decide +kernel) (by decide +kernel)⟩⟩
theorem nw_m_62 : nw_mok 62 := ⟨nw_in 330 (by decide +kernel) (by decide +kernel), nw_in 44 (by decide +kernel) (by decide +kernel), ⟨(by decide +kernel), (by decide +kernel), (by decide +kernel)⟩, (by decide +kernel), by decide, rfl, ⟨(RX2, TX2, 5), rfl, rfl, nw_in 329 (by decide +kernel) (by decide +kernel), nw_in 8 (by decide +kernel) (by decide +kernel)⟩⟩
theorem nw_m_63 : nw_mok 63 := ⟨nw_in 209 (by decide +kernel) (by decide +kernel), nw_in 44 (by decide +kernel) (by decide +kernel), ⟨(by decide +kernel), (by decide +kernel), (by decide +kernel)⟩, (by decide +kernel), by decide, rfl, ⟨(RX2, TX2, 5), rfl, rfl, nw_in 208 (by decide +kernel) (by decide +kernel), nw_in 2 (by decide +kernel) (by decide +kernel)⟩⟩
theorem nw_m_64 : nw_mok 64 := ⟨nw_in 261 (by decide +kernel) (by decide +kernel), nw_in 44 (by decide +kernel) (by decide +kernel), ⟨(by decide +kernel), (by decide +kernel), (by decide +kernel)⟩, (by decide +kernel), by decide, rfl, ⟨(RX2, TX2, 5), rfl, rfl, nw_in 260 (by decide +kernel) (by decide +kernel), nw_in 3 (by decide +kernel) (by decide +kernel)⟩⟩
theorem nw_m_65 : nw_mok 65 := ⟨nw_in 338 (by decide +kernel) (by decide +kernel), nw_in 44 (by decide +kernel) (by decide +kernel), ⟨(by decide +kernel), (by decide +kernel), (by decide +kernel)⟩, (by decide +kernel), by decide, rfl, ⟨(RX2, TX2, 5), rfl, rfl, nw_in 337 (by decide +kernel) (by decide +kernel), nw_in 9 (by decide +kernel) (by decide +kernel)⟩⟩
theorem nw_m_66 : nw_mok 66 := ⟨nw_in 274 (by decide +kernel) (by decide +kernel), nw_in 44 (by decide +kernel) (by decide +kernel), ⟨(by decide +kernel), (by decide +kernel), (by decide +kernel)⟩, (by decide +kernel), by decide, rfl, ⟨(RX2, TX2, 5), rfl, rfl, nw_in 273 (by decide +kernel) (by decide +kernel), nw_in 5 (by decide +kernel) (by decide +kernel)⟩⟩
theorem nw_m_67 : nw_mok 67 := ⟨nw_in 292 (by decide +kernel) (by decide +kernel), nw_in 44 (by decide +kernel) (by decide +kernel), ⟨(by decide +kernel), (by decide +kernel), (by decide +kernel)⟩, (by decide +kernel), by decide, rfl, ⟨(RX2, TX2, 5), rfl, rfl, nw_in 291 (by decide +kernel) (by decide +kernel), nw_in 6 (by decide +kernel) (by decide +kernel)⟩⟩
theorem nw_m_68 : nw_mok 68 := ⟨nw_in 309 (by decide +kernel) (by decide +kernel), nw_in 44 (by decide +kernel) (by decide +kernel), ⟨(by decide +kernel), (by decide +kernel), (by decide +kernel)⟩, (by decide +kernel), by decide, rfl, ⟨(RX2, TX2, 5), rfl, rfl, nw_in 308 (by decide +kernel) (by decide +kernel), nw_in 7 (by decide +kernel) (by decide +kernel)⟩⟩
theorem nw_m_69 : nw_mok 69 := ⟨nw_in 265 (by decide +kernel) (by decide +kernel), nw_in 44 (by decide +kernel) (by decide +kernel), ⟨(by decide +kernel), (by decide +kernel), (by decide +kernel)⟩, (by decide +kernel), by decide, rfl, ⟨(RX2, TX2, 5), rfl, rfl, nw_in 264 (by decide +kernel) (by decide +kernel), nw_in 4 (by decide +kernel) (by decide +kernel)⟩⟩
theorem nw_m_70 : nw_mok 70 := ⟨nw_in 161 (by decide +kernel) (by decide +kernel), nw_in 42 (by decide +kernel) (by decide +kernel), ⟨(by decide +kernel), (by decide +kernel), (by decide +kernel)⟩, (by decide +kernel), by decide, rfl, ⟨(RX5, TX5, 7), rfl, rfl, nw_in 159 (by decide +kernel) (by decide +kernel), nw_in 160 (by decide +kernel) (by decide +kernel)⟩⟩
theorem nw_m_71 : nw_mok 71 := ⟨nw_in 170 (by decide +kernel) (by decide +kernel), nw_in 42 (by decide +kernel) (by decide +kernel), ⟨(by decide +kernel), (by decide +kernel), (by decide +kernel)⟩, (by decide +kernel), by decide, rfl, ⟨(RX5, TX5, 7), rfl, rfl, nw_in 168 (by decide +kernel) (by decide +kernel), nw_in 169 (by decide +kernel) (by decide +kernel)⟩⟩
theorem nw_m_72 : nw_mok 72 := ⟨nw_in 178 (by decide +kernel) (by decide +kernel), nw_in 42 (by decide +kernel) (by decide +kernel), ⟨(by decide +kernel), (by decide +kernel), (by decide +kernel)⟩, (by decide +kernel), by decide, rfl, ⟨(RX5, TX5, 7), rfl, rfl, nw_in 176 (by decide +kernel) (by decide +kernel), nw_in 177 (by decide +kernel) (by decide +kernel)⟩⟩
theorem nw_m_73 : nw_mok 73 := ⟨nw_in 347 (by decide +kernel) (by decide +kernel), nw_in 42 (by decide +kernel) (by decide +kernel), ⟨(by decide +kernel), (by decide +kernel), (by decide +kernel)⟩, (by decide +kernel), by decide, rfl, ⟨(RX5, TX5, 7), rfl, rfl, nw_in 345 (by decide +kernel) (by decide +kernel), nw_in 346 (by decide +kernel) (by decide +kernel)⟩⟩
theorem nw_m_74 : nw_mok 74 := ⟨nw_in 352 (by decide +kernel) (by decide +kernel), nw_in 42 (by decide +kernel) (by decide +kernel), ⟨(by decide +kernel), (by decide +kernel), (by decide +kernel)⟩, (by decide +kernel), by decide, rfl, ⟨(RX5, TX5, 7), rfl, rfl, nw_in 350 (by decide +kernel) (by decide +kernel), nw_in 351 (by decide +kernel) (by decide +kernel)⟩⟩
theorem nw_m_75 : nw_mok 75 := ⟨nw_in 376 (by decide +kernel) (by decide +kernel), nw_in 42 (by decide +kernel) (by decide +kernel), ⟨(by decide +kernel), (by decide +kernel), (by decide +kernel)⟩, (by decide +kernel), by decide, rfl, ⟨(RX5, TX5, 7), rfl, rfl, nw_in 374 (by decide +kernel) (by decide +kernel), nw_in 375 (by decide +kernel) (by decide +kernel)⟩⟩
theorem nw_m_76 : nw_mok 76 := ⟨nw_in 386 (by decide +kernel) (by decide +kernel), nw_in 42 (by decide +kernel) (by decide +kernel), ⟨(by decide +kernel), (by decide +kernel), (by decide +kernel)⟩, (by decide +kernel), by decide, rfl, ⟨(RX5, TX5, 7), rfl, rfl, nw_in 384 (by decide +kernel) (by decide +kernel), nw_in 385 (by decide +kernel) (by decide +kernel)⟩⟩
theorem nw_m_77 : nw_mok 77 := ⟨nw_in 420 (by decide +kernel) (by decide +kernel), nw_in 42 (by decide +kernel) (by decide +kernel), ⟨(by decide +kernel), (by decide +kernel), (by decide +kernel)⟩, (by decide +kernel), by decide, rfl, ⟨(RX5, TX5, 7), rfl, rfl, nw_in 418 (by decide +kernel) (by decide +kernel), nw_in 419 (by decide +kernel) (by decide +kernel)⟩⟩
theorem nw_m_78 : nw_mok 78 := ⟨nw_in 429 (by decide +kernel) (by decide +kernel), nw_in 42 (by decide +kernel) (by decide +kernel), ⟨(by decide +kernel), (by decide +kernel), (by decide +kernel)⟩, (by decide +kernel), by decide, rfl, ⟨(RX5, TX5, 7), rfl, rfl, nw_in 427 (by decide +kernel) (by decide +kernel), nw_in 428 (by decide +kernel) (by decide +kernel)⟩⟩
theorem nw_m_79 : nw_mok 79 := ⟨nw_in 447 (by decide +kernel) (by decide +kernel), nw_in 42 (by decide +kernel) (by decide +kernel), ⟨(by decide +kernel), (by decide +kernel), (by decide +kernel)⟩, (by decide +kernel), by decide, rfl, ⟨(RX5, TX5, 7), rfl, rfl, nw_in 445 (by decide +kernel) (by decide +kernel), nw_in 446 (by decide +kernel) (by decide +kernel)⟩⟩
theorem nw_m_80 : nw_mok 80 := ⟨nw_in 452 (by decide +kernel) (by decide +kernel), nw_in 42 (by decide +kernel) (by decide +kernel), ⟨(by decide +kernel), (by decide +kernel), (by decide +kernel)⟩, (by decide +kernel), by decide, rfl, ⟨(RX5, TX5, 7), rfl, rfl, nw_in 450 (by decide +kernel) (by decide +kernel), nw_in 451 (by decide +kernel) (by decide +kernel)⟩⟩
theorem nw_m_81 : nw_mok 81 := ⟨nw_in 457 (by decide +kernel) (by decide +kernel), nw_in 42 (by decide +kernel) (by decide +kernel), ⟨(by decide +kernel), (by decide +kernel), (by decide +kernel)⟩, (by decide +kernel), by decide, rfl, ⟨(RX5, TX5, 7), rfl, rfl, nw_in 455 (by decide +kernel) (by decide +kernel), nw_in 456 (by decide +kernel) (by decide +kernel)⟩⟩
theorem nw_m_82 : nw_mok 82 := ⟨nw_in 461 (by decide +kernel) (by decide +kernel), nw_in 42 (by decide +kernel) (by decide +kernel), ⟨(by decide +kernel), (by decide +kernel), (by decide +kernel)⟩, (by decide +kernel), by decide, rfl, ⟨(RX5, TX5, 7), rfl, rfl, nw_in 459 (by decide +kernel) (by decide +kernel), nw_in 460 (by decide +kernel) (by decide +kernel)⟩⟩
theorem nw_m_83 : nw_mok 83 := ⟨nw_in 465 (by decide +kernel) (by decide +kernel), nw_in 42 (by decide +kernel) (by decide +kernel), ⟨(by decide +kernel), (by decide +kernel), (by decide +kernel)⟩, (by decide +kernel), by decide, rfl, ⟨(RX5, TX5, 7), rfl, rfl, nw_in 463 (by decide +kernel) (by decide +kernel), nw_in 464 (by decide +kernel) (by decide +kernel)⟩⟩
theorem nw_m_84 : nw_mok 84 := ⟨nw_in 472 (by decide +kernel) (by decide +kernel), nw_in 42 (by decide +kernel) (by decide +kernel), ⟨(by decide +kernel), (by decide +kernel), (by decide +kernel)⟩, (by decide +kernel), by decide, rfl, ⟨(RX5, TX5, 7), rfl, rfl, nw_in 470 (by decide +kernel) (by decide +kernel), nw_in 471 (by decide +kernel) (by decide +kernel)⟩⟩
theorem nw_m_85 : nw_mok 85 := ⟨nw_in 481 (by decide +kernel) (by decide +kernel), nw_in 42 (by decide +kernel) (by decide +kernel), ⟨(by decide +kernel), (by decide +kernel), (by decide +kernel)⟩, (by decide +kernel), by decide, rfl, ⟨(RX5, TX5, 7), rfl, rfl, nw_in 479 (by decide +kernel) (by decide +kernel), nw_in 480 (by decide +kernel) (by decide +kernel)⟩⟩
theorem nw_m_86 : nw_mok 86 := ⟨nw_in 488 (by decide +kernel) (by decide +kernel), nw_in 42 (by decide +kernel) (by decide +kernel), ⟨(by decide +kernel), (by decide +kernel), (by decide +kernel)⟩, (by decide +kernel), by decide, rfl, ⟨(RX5, TX5, 7), rfl, rfl, nw_in 486 (by decide +kernel) (by decide +kernel), nw_in 487 (by decide +kernel) (by decide +kernel)⟩⟩
theorem nw_m_87 : nw_mok 87 := ⟨nw_in 495 (by decide +kernel) (by decide +kernel), nw_in 42 (by decide +kernel) (by decide +kernel), ⟨(by decide +kernel), (by decide +kernel), (by decide +kernel)⟩, (by decide +kernel), by decide, rfl, ⟨(RX5, TX5, 7), rfl, rfl, nw_in 493 (by decide +kernel) (by decide +kernel), nw_in 494 (by decide +kernel) (by decide +kernel)⟩⟩
theorem nw_m_88 : nw_mok 88 := ⟨nw_in 511 (by decide +kernel) (by decide +kernel), nw_in 42 (by decide +kernel) (by decide +kernel), ⟨(by decide +kernel), (by decide +kernel), (by decide +kernel)⟩, (by decide +kernel), by decide, rfl, ⟨(RX5, TX5, 7), rfl, rfl, nw_in 509 (by decide +kernel) (by decide +kernel), nw_in 510 (by decide +kernel) (by decide +kernel)⟩⟩
theorem nw_m_89 : nw_mok 89 := ⟨nw_in 534 (by decide +kernel) (by decide +kernel), nw_in 42 (by decide +kernel) (by decide +kernel), ⟨(by decide +kernel), (by decide +kernel), (by decide +kernel)⟩, (by decide +kernel), by decide, rfl, ⟨(RX5, TX5, 7), rfl, rfl, nw_in 532 (by decide +kernel) (by decide +kernel), nw_in 533 (by decide +kernel) (by decide +kernel)⟩⟩
theorem nw_m_90 : nw_mok 90 := ⟨nw_in 549 (by decide +kernel) (by decide +kernel), nw_in 42 (by decide +kernel) (by decide +kernel), ⟨(by decide +kernel), (by decide +kernel), (by decide +kernel)⟩, (by decide +kernel), by decide, rfl, ⟨(RX5, TX5, 7), rfl, rfl, nw_in 547 (by decide +kernel) (by decide +kernel), nw_in 548 (by decide +kernel) (by decide +kernel)⟩⟩
theorem nw_m_91 : nw_mok 91 := ⟨nw_in 564 (by decide +kernel) (by decide +kernel), nw_in 42 (by decide +kernel) (by decide +kernel), ⟨(by decide +kernel), (by decide +kernel), (by decide +kernel)⟩, (by decide +kernel), by decide, rfl, ⟨(RX5, TX5, 7), rfl, rfl, nw_in 562 (by decide +kernel) (by decide +kernel), nw_in 563 (by decide +kernel) (by decide +kernel)⟩⟩
theorem nw_m_92 : nw_mok 92 := ⟨nw_in 572 (by decide +kernel) (by decide +kernel), nw_in 42 (by decide +kernel) (by decide +kernel), ⟨(by decide +kernel), (by decide +kernel), (by decide +kernel)⟩, (by decide +kernel), by decide, rfl, ⟨(RX5, TX5, 7), rfl, rfl, nw_in 570 (by decide +kernel) (by decide +kernel), nw_in 571 (by decide +kernel) (by decide +kernel)⟩⟩
theorem nw_m_93 : nw_mok 93 := ⟨nw_in 586 (by decide +kernel) (by decide +kernel), nw_in 42 (by decide +kernel) (by decide +kernel), ⟨(by decide +kernel), (by decide +kernel), (by decide +kernel)⟩, (by decide +kernel), by decide, rfl, ⟨(RX5, TX5, 7), rfl, rfl, nw_in 584 (by decide +kernel) (by decide +kernel), nw_in 585 (by decide +kernel) (by decide +kernel)⟩⟩
theorem nw_m_94 : nw_mok 94 := ⟨nw_in 605 (by decide +kernel) (by decide +kernel), nw_in 42 (by decide +kernel) (by decide +kernel), ⟨(by decide +kernel), (by decide +kernel), (by decide +kernel)⟩, (by decide +kernel), by decide, rfl, ⟨(RX5, TX5, 7), rfl, rfl, nw_in 603 (by decide +kernel) (by decide +kernel), nw_in 604 (by decide +kernel) (by decide +kernel)⟩⟩
theorem nw_m_95 : nw_mok 95 := ⟨nw_in 468 (by decide +kernel) (by decide +kernel), nw_in 42 (by decide +kernel) (by decide +kernel), ⟨(by decide +kernel), (by decide +kernel), (by decide +kernel)⟩, (by decide +kernel), by decide, rfl, nw_in 467 (by decide +kernel) (by decide +kernel)⟩
theorem nw_m_96 : nw_mok 96 := ⟨nw_in 689 (by decide +kernel) (by decide +kernel), nw_in 46 (by decide +kernel) (by decide +kernel), ⟨(by decide +kernel), (by decide +kernel), (by decide +kernel)⟩, (by decide +kernel), by decide, rfl, nw_in 688 (by decide +kernel) (by decide +kernel)⟩
theorem nw_m_97 : nw_mok 97 := ⟨nw_in 909 (by decide +kernel) (by decide +kernel), nw_in 46 (by decide +kernel) (by decide +kernel), ⟨(by decide +kernel), (by decide +kernel), (by decide +kernel)⟩, (by decide +kernel), by decide, rfl, nw_in 908 (by decide +kernel) (by decide +kernel)⟩
theorem nw_m_98 : nw_mok 98 := ⟨nw_in 758 (by decide +kernel) (by decide +kernel), nw_in 46 (by decide +kernel) (by decide +kernel), ⟨(by decide +kernel), (by decide +kernel), (by decide +kernel)⟩, (by decide +kernel), by decide, rfl, ⟨(RX6, TX6, 20), rfl, rfl, nw_in 757 (by decide +kernel) (by decide +kernel), nw_in 22 (by decide +kernel) (by decide +kernel)⟩⟩
theorem nw_m_99 : nw_mok 99 := ⟨nw_in 685 (by decide +kernel) (by decide +kernel), nw_in 46 (by decide +kernel) (by decide +kernel), ⟨(by decide +kernel), (by decide +kernel), (by decide +kernel)⟩, (by decide +kernel), by decide, rfl, ⟨(RX6, TX6, 20), rfl, rfl, nw_in 683 (by decide +kernel) (by decide +kernel), nw_in 684 (by decide +kernel) (by decide +kernel)⟩⟩
theorem nw_m_100 : nw_mok 100 := ⟨nw_in 694 (by decide +kernel) (by decide +kernel), nw_in 46 (by decide +kernel) (by decide +kernel), ⟨(by decide +kernel), (by decide +kernel), (by decide +kernel)⟩, (by decide +kernel), by decide, rfl, ⟨(RX6, TX6, 20), rfl, rfl, nw_in 692 (by decide +kernel) (by decide +kernel), nw_in 693 (by decide +kernel) (by decide +kernel)⟩⟩
theorem nw_m_101 : nw_mok 101 := ⟨nw_in 705 (by decide +kernel) (by decide +kernel), nw_in 46 (by decide +kernel) (by decide +kernel), ⟨(by decide +kernel), (by decide +kernel), (by decide +kernel)⟩, (by decide +kernel), by decide, rfl, nw_in 704 (by decide +kernel) (by decide +kernel)⟩
theorem nw_m_102 : nw_mok 102 := ⟨nw_in 702 (by decide +kernel) (by decide +kernel), nw_in 46 (by decide +kernel) (by decide +kernel), ⟨(by decide +kernel), (by decide +kernel), (by decide +kernel)⟩, (by decide +kernel), by decide, rfl, ⟨(RX6, TX6, 20), rfl, rfl, nw_in 701 (by decide +kernel) (by decide +kernel), nw_in 12 (by decide +kernel) (by decide +kernel)⟩⟩
theorem nw_m_103 : nw_mok 103 := ⟨nw_in 722 (by decide +kernel) (by decide +kernel), nw_in 46 (by decide +kernel) (by decide +kernel), ⟨(by decide +kernel), (by decide +kernel), (by decide +kernel)⟩, (by decide +kernel), by decide, rfl, ⟨(RX6, TX6, 20), rfl, rfl, nw_in 721 (by decide +kernel) (by decide +kernel), nw_in 16 (by decide +kernel) (by decide +kernel)⟩⟩
theorem nw_m_104 : nw_mok 104 := ⟨nw_in 717 (by decide +kernel) (by decide +kernel), nw_in 46 (by decide +kernel) (by decide +kernel), ⟨(by decide +kernel), (by decide +kernel), (by decide +kernel)⟩, (by decide +kernel), by decide, rfl, ⟨(RX6, TX6, 20), rfl, rfl, nw_in 716 (by decide +kernel) (by decide +kernel), nw_in 15 (by decide +kernel) (by decide +kernel)⟩⟩
theorem nw_m_105 : nw_mok 105 := ⟨nw_in 713 (by decide +kernel) (by decide +kernel), nw_in 46 (by decide +kernel) (by decide +kernel), ⟨(by decide +kernel), (by decide +kernel), (by decide +kernel)⟩, (by decide +kernel), by decide, rfl, ⟨(RX6, TX6, 20), rfl, rfl, nw_in 712 (by decide +kernel) (by decide +kernel), nw_in 14 (by decide +kernel) (by decide +kernel)⟩⟩
theorem nw_m_106 : nw_mok 106 := ⟨nw_in 737 (by decide +kernel) (by decide +kernel), nw_in 46 (by decide +kernel) (by decide +kernel), ⟨(by decide +kernel), (by decide +kernel), (by decide +kernel)⟩, (by decide +kernel), by decide, rfl, ⟨(RX6, TX6, 20), rfl, rfl, nw_in 736 (by decide +kernel) (by decide +kernel), nw_in 18 (by decide +kernel) (by decide +kernel)⟩⟩
theorem nw_m_107 : nw_mok 107 := ⟨nw_in 741 (by decide +kernel) (by decide +kernel), nw_in 46 (by decide +kernel) (by decide +kernel), ⟨(by decide +kernel), (by decide +kernel), (by decide +kernel)⟩, (by decide +kernel), by decide, rfl, ⟨(RX6, TX6, 20), rfl, rfl, nw_in 740 (by decide +kernel) (by decide +kernel), nw_in 19 (by decide +kernel) (by decide +kernel)⟩⟩
theorem nw_m_108 : nw_mok 108 := ⟨nw_in 733 (by decide +kernel) (by decide +kernel), nw_in 46 (by decide +kernel) (by decide +kernel), ⟨(by decide +kernel), (by decide +kernel), (by decide +kernel)⟩, (by decide +kernel), by decide, rfl, ⟨(RX6, TX6, 20), rfl, rfl, nw_in 732 (by decide +kernel) (by decide +kernel), nw_in 17 (by decide +kernel) (by decide +kernel)⟩⟩
theorem nw_m_109 : nw_mok 109 := ⟨nw_in 709 (by decide +kernel) (by decide +kernel), nw_in 46 (by decide +kernel) (by decide +kernel), ⟨(by decide +kernel), (by decide +kernel), (by decide +kernel)⟩, (by decide +kernel), by decide, rfl, ⟨(RX6, TX6, 20), rfl, rfl, nw_in 708 (by decide +kernel) (by decide +kernel), nw_in 13 (by decide +kernel) (by decide +kernel)⟩⟩
theorem nw_m_110 : nw_mok 110 := ⟨nw_in 698 (by decide +kernel) (by decide +kernel), nw_in 46 (by decide +kernel) (by decide +kernel), ⟨(by decide +kernel), (by decide +kernel), (by decide +kernel)⟩, (by decide +kernel), by decide, rfl, ⟨(RX6, TX6, 20), rfl, rfl, nw_in 696 (by decide +kernel) (by decide +kernel), nw_in 697 (by decide +kernel) (by decide +kernel)⟩⟩
theorem nw_m_111 : nw_mok 111 := ⟨nw_in 754 (by decide +kernel) (by decide +kernel), nw_in 46 (by decide +kernel) (by decide +kernel), ⟨(by decide +kernel), (by decide +kernel), (by decide +kernel)⟩, (by decide +kernel), by decide, rfl, ⟨(RX6, TX6, 20), rfl, rfl, nw_in 753 (by decide +kernel) (by decide +kernel), nw_in 21 (by decide +kernel) (by decide +kernel)⟩⟩
theorem nw_m_112 : nw_mok 112 := ⟨nw_in 750 (by decide +kernel) (by decide +kernel), nw_in 46 (by decide +kernel) (by decide +kernel), ⟨(by decide +kernel), (by decide +kernel), (by decide +kernel)⟩, (by decide +kernel), by decide, rfl, ⟨(RX6, TX6, 20), rfl, rfl, nw_in 749 (by decide +kernel) (by decide +kernel), nw_in 20 (by decide +kernel) (by decide +kernel)⟩⟩
theorem nw_m_113 : nw_mok 113 := ⟨nw_in 745 (by decide +kernel) (by decide +kernel), nw_in 46 (by decide +kernel) (by decide +kernel), ⟨(by decide +kernel), (by decide +kernel), (by decide +kernel)⟩, (by decide +kernel), by decide, rfl, ⟨(RX6, TX6, 20), rfl, rfl, nw_in 743 (by decide +kernel) (by decide +kernel), nw_in 744 (by decide +kernel) (by decide +kernel)⟩⟩
theorem nw_m_114 : nw_mok 114 := ⟨nw_in 766 (by decide +kernel) (by decide +kernel), nw_in 46 (by decide +kernel) (by decide +kernel), ⟨(by decide +kernel), (by decide +kernel), (by decide +kernel)⟩, (by decide +kernel), by decide, rfl, ⟨(RX6, TX6, 20), rfl, rfl, nw_in 765 (by decide +kernel) (by decide +kernel), nw_in 23 (by decide +kernel) (by decide +kernel)⟩⟩
theorem nw_m_115 : nw_mok 115 := ⟨nw_in 799 (by decide +kernel) (by decide +kernel), nw_in 46 (by decide +kernel) (by decide +kernel), ⟨(by decide +kernel), (by decide +kernel), (by decide +kernel)⟩, (by decide +kernel), by decide, rfl, ⟨(RX6, TX6, 20), rfl, rfl, nw_in 798 (by decide +kernel) (by decide +kernel), nw_in 28 (by decide +kernel) (by decide +kernel)⟩⟩
theorem nw_m_116 : nw_mok 116 := ⟨nw_in 783 (by decide +kernel) (by decide +kernel), nw_in 46 (by decide +kernel) (by decide +kernel), ⟨(by decide +kernel), (by decide +kernel), (by decide +kernel)⟩, (by decide +kernel), by decide, rfl, ⟨(RX6, TX6, 20), rfl, rfl, nw_in 782 (by decide +kernel) (by decide +kernel), nw_in 25 (by decide +kernel) (by decide +kernel)⟩⟩
theorem nw_m_117 : nw_mok 117 := ⟨nw_in 791 (by decide +kernel) (by decide +kernel), nw_in 46 (by decide +kernel) (by decide +kernel), ⟨(by decide +kernel), (by decide +kernel), (by decide +kernel)⟩, (by decide +kernel), by decide, rfl, ⟨(RX6, TX6, 20), rfl, rfl, nw_in 790 (by decide +kernel) (by decide +kernel), nw_in 27 (by decide +kernel) (by decide +kernel)⟩⟩
theorem nw_m_118 : nw_mok 118 := ⟨nw_in 787 (by decide +kernel) (by decide +kernel), nw_in 46 (by decide +kernel) (by decide +kernel), ⟨(by decide +kernel), (by decide +kernel), (by decide +kernel)⟩, (by decide +kernel), by decide, rfl, ⟨(RX6, TX6, 20), rfl, rfl, nw_in 786 (by decide +kernel) (by decide +kernel), nw_in 26 (by decide +kernel) (by decide +kernel)⟩⟩
theorem nw_m_119 : nw_mok 119 := ⟨nw_in 770 (by decide +kernel) (by decide +kernel), nw_in 46 (by decide +kernel) (by decide +kernel), ⟨(by decide +kernel), (by decide +kernel), (by decide +kernel)⟩, (by decide +kernel), by decide, rfl, ⟨(RX6, TX6, 20), rfl, rfl, nw_in 769 (by decide +kernel) (by decide +kernel), nw_in 24 (by decide +kernel) (by decide +kernel)⟩⟩
theorem nw_m_120 : nw_mok 120 := ⟨nw_in 762 (by decide +kernel) (by decide +kernel), nw_in 46 (by decide +kernel) (by decide +kernel), ⟨(by decide +kernel), (by decide +kernel), (by decide +kernel)⟩, (by decide +kernel), by decide, rfl, ⟨(RX6, TX6, 20), rfl, rfl, nw_in 760 (by decide +kernel) (by decide +kernel), nw_in 761 (by decide +kernel) (by decide +kernel)⟩⟩
theorem nw_m_121 : nw_mok 121 := ⟨nw_in 774 (by decide +kernel) (by decide +kernel), nw_in 46 (by decide +kernel) (by decide +kernel), ⟨(by decide +kernel), (by decide +kernel), (by decide +kernel)⟩, (by decide +kernel), by decide, rfl, ⟨(RX6, TX6, 20), rfl, rfl, nw_in 772 (by decide +kernel) (by decide +kernel), nw_in 773 (by decide +kernel) (by decide +kernel)⟩⟩
theorem nw_m_122 : nw_mok 122 := ⟨nw_in 778 (by decide +kernel) (by decide +kernel), nw_in 46 (by decide +kernel) (by decide +kernel), ⟨(by decide +kernel), (by decide +kernel), (by decide +kernel)⟩, (by decide +kernel), by decide, rfl, ⟨(RX6, TX6, 20), rfl, rfl, nw_in 776 (by decide +kernel) (by decide +kernel), nw_in 777 (by decide +kernel) (by decide +kernel)⟩⟩
theorem nw_m_123 : nw_mok 123 := ⟨nw_in 795 (by decide +kernel) (by decide +kernel), nw_in 46 (by decide +kernel) (by decide +kernel), ⟨(by decide +kernel), (by decide +kernel), (by decide +kernel)⟩, (by decide +kernel), by decide, rfl, ⟨(RX6, TX6, 20), rfl, rfl, nw_in 793 (by decide +kernel) (by decide +kernel), nw_in 794 (by decide +kernel) (by decide +kernel)⟩⟩
theorem nw_m_124 : nw_mok 124 := ⟨nw_in 813 (by decide +kernel) (by decide +kernel), nw_in 46 (by decide +kernel) (by decide +kernel), ⟨(by decide +kernel), (by decide +kernel), (by decide +kernel)⟩, (by decide +kernel), by decide, rfl, ⟨(RX6, TX6, 20), rfl, rfl, nw_in 812 (by decide +kernel) (by decide +kernel), nw_in 30 (by decide +kernel) (by decide +kernel)⟩⟩
theorem nw_m_125 : nw_mok 125 := ⟨nw_in 809 (by decide +kernel) (by decide +kernel), nw_in 46 (by decide +kernel) (by decide +kernel), ⟨(by decide +kernel), (by decide +kernel), (by decide +kernel)⟩, (by decide +kernel), by decide, rfl, ⟨(RX6, TX6, 20), rfl, rfl, nw_in 808 (by decide +kernel) (by decide +kernel), nw_in 29 (by decide +kernel) (by decide +kernel)⟩⟩
theorem nw_m_126 : nw_mok 126 := ⟨nw_in 803 (by decide +kernel) (by decide +kernel), nw_in 46 (by decide +kernel) (by decide +kernel), ⟨(by decide +kernel), (by decide +kernel), (by decide +kernel)⟩, (by decide +kernel), by decide, rfl, ⟨(RX6, TX6, 20), rfl, rfl, nw_in 801 (by decide +kernel) (by decide +kernel), nw_in 802 (by decide +kernel) (by decide +kernel)⟩⟩
theorem nw_m_127 : nw_mok 127 := ⟨nw_in 817 (by decide +kernel) (by decide +kernel), nw_in 46 (by decide +kernel) (by decide +kernel), ⟨(by decide +kernel), (by decide +kernel), (by decide +kernel)⟩, (by decide +kernel), by decide, rfl, ⟨(RX6, TX6, 20), rfl, rfl, nw_in 815 (by decide +kernel) (by decide +kernel), nw_in 816 (by decide +kernel) (by decide +kernel)⟩⟩
theorem nw_m_128 : nw_mok 128 := ⟨nw_in 821 (by decide +kernel) (by decide +kernel), nw_in 46 (by decide +kernel) (by decide +kernel), ⟨(by decide +kernel), (by decide +kernel), (by decide +kernel)⟩, (by decide +kernel), by decide, rfl, ⟨(RX6, TX6, 20), rfl, rfl, nw_in 819 (by decide +kernel) (by decide +kernel), nw_in 820 (by decide +kernel) (by decide +kernel)⟩⟩
theorem nw_m_129 : nw_mok 129 := ⟨nw_in 825 (by decide +kernel) (by decide +kernel), nw_in 46 (by decide +kernel) (by decide +kernel), ⟨(by decide +kernel), (by decide +kernel), (by decide +kernel)⟩, (by decide +kernel), by decide, rfl, ⟨(RX6, TX6, 20), rfl, rfl, nw_in 823 (by decide +kernel) (by decide +kernel), nw_in 824 (by decide +kernel) (by decide +kernel)⟩⟩
theorem nw_m_130 : nw_mok 130 := ⟨nw_in 829 (by decide +kernel) (by decide +kernel), nw_in 46 (by decide +kernel) (by decide +kernel), ⟨(by decide +kernel), (by decide +kernel), (by decide +kernel)⟩, (by decide +kernel), by decide, rfl, ⟨(RX6, TX6, 20), rfl, rfl, nw_in 827 (by decide +kernel) (by decide +kernel), nw_in 828 (by decide +kernel) (by decide +kernel)⟩⟩
theorem nw_m_131 : nw_mok 131 := ⟨nw_in 833 (by decide +kernel) (by decide +kernel), nw_in 46 (by decide +kernel) (by decide +kernel), ⟨(by decide +kernel), (by decide +kernel), (by decide +kernel)⟩, (by decide +kernel), by decide, rfl, ⟨(RX6, TX6, 20), rfl, rfl, nw_in 831 (by decide +kernel) (by decide +kernel), nw_in 832 (by decide +kernel) (by decide +kernel)⟩⟩
theorem nw_m_132 : nw_mok 132 := ⟨nw_in 842 (by decide +kernel) (by decide +kernel), nw_in 46 (by decide +kernel) (by decide +kernel), ⟨(by decide +kernel), (by decide +kernel), (by decide +kernel)⟩, (by decide +kernel), by decide, rfl, ⟨(RX6, TX6, 20), rfl, rfl, nw_in 841 (by decide +kernel) (by decide +kernel), nw_in 31 (by decide +kernel) (by decide +kernel)⟩⟩
theorem nw_m_133 : nw_mok 133 := ⟨nw_in 838 (by decide +kernel) (by decide +kernel), nw_in 46 (by decide +kernel) (by decide +kernel), ⟨(by decide +kernel), (by decide +kernel), (by decide +kernel)⟩, (by decide +kernel), by decide, rfl, ⟨(RX6, TX6, 20), rfl, rfl, nw_in 836 (by decide +kernel) (by decide +kernel), nw_in 837 (by decide +kernel) (by decide +kernel)⟩⟩
theorem nw_m_134 : nw_mok 134 := ⟨nw_in 846 (by decide +kernel) (by decide +kernel), nw_in 46 (by decide +kernel) (by decide +kernel), ⟨(by decide +kernel), (by decide +kernel), (by decide +kernel)⟩, (by decide +kernel), by decide, rfl, ⟨(RX6, TX6, 20), rfl, rfl, nw_in 844 (by decide +kernel) (by decide +kernel), nw_in 845 (by decide +kernel) (by decide +kernel)⟩⟩
theorem nw_m_135 : nw_mok 135 := ⟨nw_in 850 (by decide +kernel) (by decide +kernel), nw_in 46 (by decide +kernel) (by decide +kernel), ⟨(by decide +kernel), (by decide +kernel), (by decide +kernel)⟩, (by decide +kernel), by decide, rfl, ⟨(RX6, TX6, 20), rfl, rfl, nw_in 848 (by decide +kernel) (by decide +kernel), nw_in 849 (by decide +kernel) (by decide +kernel)⟩⟩
theorem nw_m_136 : nw_mok 136 := ⟨nw_in 858 (by decide +kernel) (by decide +kernel), nw_in 46 (by decide +kernel) (by decide +kernel), ⟨(by decide +kernel), (by decide +kernel), (by decide +kernel)⟩, (by decide +kernel), by decide, rfl, ⟨(RX6, TX6, 20), rfl, rfl, nw_in 857 (by decide +kernel) (by decide +kernel), nw_in 32 (by decide +kernel) (by decide +kernel)⟩⟩
theorem nw_m_137 : nw_mok 137 := ⟨nw_in 854 (by decide +kernel) (by decide +kernel), nw_in 46 (by decide +kernel) (by decide +kernel), ⟨(by decide +kernel), (by decide +kernel), (by decide +kernel)⟩, (by decide +kernel), by decide, rfl, ⟨(RX6, TX6, 20), rfl, rfl, nw_in 852 (by decide +kernel) (by decide +kernel), nw_in 853 (by decide +kernel) (by decide +kernel)⟩⟩
theorem nw_m_138 : nw_mok 138 := ⟨nw_in 874 (by decide +kernel) (by decide +kernel), nw_in 46 (by decide +kernel) (by decide +kernel), ⟨(by decide +kernel), (by decide +kernel), (by decide +kernel)⟩, (by decide +kernel), by decide, rfl, ⟨(RX6, TX6, 20), rfl, rfl, nw_in 873 (by decide +kernel) (by decide +kernel), nw_in 35 (by decide +kernel) (by decide +kernel)⟩⟩
theorem nw_m_139 : nw_mok 139 := ⟨nw_in 866 (by decide +kernel) (by decide +kernel), nw_in 46 (by decide +kernel) (by decide +kernel), ⟨(by decide +kernel), (by decide +kernel), (by decide +kernel)⟩, (by decide +kernel), by decide, rfl, ⟨(RX6, TX6, 20), rfl, rfl, nw_in 865 (by decide +kernel) (by decide +kernel), nw_in 33 (by decide +kernel) (by decide +kernel)⟩⟩
theorem nw_m_140 : nw_mok 140 := ⟨nw_in 870 (by decide +kernel) (by decide +kernel), nw_in 46 (by decide +kernel) (by decide +kernel), ⟨(by decide +kernel), (by decide +kernel), (by decide +kernel)⟩, (by decide +kernel), by decide, rfl, ⟨(RX6, TX6, 20), rfl, rfl, nw_in 869 (by decide +kernel) (by decide +kernel), nw_in 34 (by decide +kernel) (by decide +kernel)⟩⟩
theorem nw_m_141 : nw_mok 141 := ⟨nw_in 862 (by decide +kernel) (by decide +kernel), nw_in 46 (by decide +kernel) (by decide +kernel), ⟨(by decide +kernel), (by decide +kernel), (by decide +kernel)⟩, (by decide +kernel), by decide, rfl, ⟨(RX6, TX6, 20), rfl, rfl, nw_in 860 (by decide +kernel) (by decide +kernel), nw_in 861 (by decide +kernel) (by decide +kernel)⟩⟩
theorem nw_m_142 : nw_mok 142 := ⟨nw_in 878 (by decide +kernel) (by decide +kernel), nw_in 46 (by decide +kernel) (by decide +kernel), ⟨(by decide +kernel), (by decide +kernel), (by decide +kernel)⟩, (by decide +kernel), by decide, rfl, ⟨(RX6, TX6, 20), rfl, rfl, nw_in 876 (by decide +kernel) (by decide +kernel), nw_in 877 (by decide +kernel) (by decide +kernel)⟩⟩
theorem nw_m_143 : nw_mok 143 := ⟨nw_in 898 (by decide +kernel) (by decide +kernel), nw_in 46 (by decide +kernel) (by decide +kernel), ⟨(by decide +kernel), (by decide +kernel), (by decide +kernel)⟩, (by decide +kernel), by decide, rfl, ⟨(RX6, TX6, 20), rfl, rfl, nw_in 897 (by decide +kernel) (by decide +kernel), nw_in 39 (by decide +kernel) (by decide +kernel)⟩⟩
theorem nw_m_144 : nw_mok 144 := ⟨nw_in 890 (by decide +kernel) (by decide +kernel), nw_in 46 (by decide +kernel) (by decide +kernel), ⟨(by decide +kernel), (by decide +kernel), (by decide +kernel)⟩, (by decide +kernel), by decide, rfl, ⟨(RX6, TX6, 20), rfl, rfl, nw_in 889 (by decide +kernel) (by decide +kernel), nw_in 37 (by decide +kernel) (by decide +kernel)⟩⟩
theorem nw_m_145 : nw_mok 145 := ⟨nw_in 894 (by decide +kernel) (by decide +kernel), nw_in 46 (by decide +kernel) (by decide +kernel), ⟨(by decide +kernel), (by decide +kernel), (by decide +kernel)⟩, (by decide +kernel), by decide, rfl, ⟨(RX6, TX6, 20), rfl, rfl, nw_in 893 (by decide +kernel) (by decide +kernel), nw_in 38 (by decide +kernel) (by decide +kernel)⟩⟩
theorem nw_m_146 : nw_mok 146 := ⟨nw_in 886 (by decide +kernel) (by decide +kernel), nw_in 46 (by decide +kernel) (by decide +kernel), ⟨(by decide +kernel), (by decide +kernel), (by decide +kernel)⟩, (by decide +kernel), by decide, rfl, ⟨(RX6, TX6, 20), rfl, rfl, nw_in 885 (by decide +kernel) (by decide +kernel), nw_in 36 (by decide +kernel) (by decide +kernel)⟩⟩
theorem nw_m_147 : nw_mok 147 := ⟨nw_in 882 (by decide +kernel) (by decide +kernel), nw_in 46 (by decide +kernel) (by decide +kernel), ⟨(by decide +kernel), (by decide +kernel), (by decide +kernel)⟩, (by decide +kernel), by decide, rfl, ⟨(RX6, TX6, 20), rfl, rfl, nw_in 880 (by decide +kernel) (by decide +kernel), nw_in 881 (by decide +kernel) (by decide +kernel)⟩⟩
theorem nw_m_148 : nw_mok 148 := ⟨nw_in 902 (by decide +kernel) (by decide +kernel), nw_in 46 (by decide +kernel) (by decide +kernel), ⟨(by decide +kernel), (by decide +kernel), (by decide +kernel)⟩, (by decide +kernel), by decide, rfl, ⟨(RX6, TX6, 20), rfl, rfl, nw_in 900 (by decide +kernel) (by decide +kernel), nw_in 901 (by decide +kernel) (by decide +kernel)⟩⟩
theorem nw_m_149 : nw_mok 149 := ⟨nw_in 906 (by decide +kernel) (by decide +kernel), nw_in 46 (by decide +kernel) (by decide +kernel), ⟨(by decide +kernel), (by decide +kernel), (by decide +kernel)⟩, (by decide +kernel), by decide, rfl, ⟨(RX6, TX6, 20), rfl, rfl, nw_in 904 (by decide +kernel) (by decide +kernel), nw_in 905 (by decide +kernel) (by decide +kernel)⟩⟩
theorem nw_m_150 : nw_mok 150 := ⟨nw_in 918 (by decide +kernel) (by decide +kernel), nw_in 46 (by decide +kernel) (by decide +kernel), ⟨(by decide +kernel), (by decide +kernel), (by decide +kernel)⟩, (by decide +kernel), by decide, rfl, ⟨(RX6, TX6, 20), rfl, rfl, nw_in 917 (by decide +kernel) (by decide +kernel), nw_in 40 (by decide +kernel) (by decide +kernel)⟩⟩
theorem nw_m_151 : nw_mok 151 := ⟨nw_in 913 (by decide +kernel) (by decide +kernel), nw_in 46 (by decide +kernel) (by decide +kernel), ⟨(by decide +kernel), (by decide +kernel), (by decide +kernel)⟩, (by decide +kernel), by decide, rfl, ⟨(RX6, TX6, 20), rfl, rfl, nw_in 911 (by decide +kernel) (by decide +kernel), nw_in 912 (by decide +kernel) (by decide +kernel)⟩⟩
theorem nw_m_152 : nw_mok 152 := ⟨nw_in 922 (by decide +kernel) (by decide +kernel), nw_in 46 (by decide +kernel) (by decide +kernel), ⟨(by decide +kernel), (by decide +kernel), (by decide +kernel)⟩, (by decide +kernel), by decide, rfl, ⟨(RX6, TX6, 20), rfl, rfl, nw_in 920 (by decide +kernel) (by decide +kernel), nw_in 921 (by decide +kernel) (by decide +kernel)⟩⟩
/-- what a call's entry says -/
def nw_sok (o i k n : Nat) (rc : Option Nat) : Prop := nw_mok k ∧ rc = nw_kC k ∧ n = nw_kN k + (if rc.isSome then 1 else 0) ∧ (Cond.methodLink (nw_cn o) i (nw_kY k) ∈ nw_TBL ∨ (rc = none ∧ (o, i, k) ∈ nw_NM))
theorem nw_s_0_45 : nw_sok 0 45 2 3 (some 1) := ⟨nw_m_2, rfl, rfl, Or.inl (nw_in 162 (by decide +kernel) (by decide +kernel))⟩
theorem nw_s_0_52 : nw_sok 0 52 3 1 (some 1) := ⟨nw_m_3, rfl, rfl, Or.inl (nw_in 171 (by decide +kernel) (by decide +kernel))⟩
theorem nw_s_0_56 : nw_sok 0 56 58 3 (some 2) := ⟨nw_m_58, rfl, rfl, Or.inl (nw_in 179 (by decide +kernel) (by decide +kernel))⟩
theorem nw_s_0_63 : nw_sok 0 63 6 2 (some 3) := ⟨nw_m_6, rfl, rfl, Or.inl (nw_in 348 (by decide +kernel) (by decide +kernel))⟩
theorem nw_s_0_70 : nw_sok 0 70 13 2 (some 3) := ⟨nw_m_13, rfl, rfl, Or.inl (nw_in 353 (by decide +kernel) (by decide +kernel))⟩
theorem nw_s_0_74 : nw_sok 0 74 16 2 (some 3) := ⟨nw_m_16, rfl, rfl, Or.inl (nw_in 354 (by decide +kernel) (by decide +kernel))⟩
theorem nw_s_0_78 : nw_sok 0 78 17 2 (some 3) := ⟨nw_m_17, rfl, rfl, Or.inl (nw_in 358 (by decide +kernel) (by decide +kernel))⟩
theorem nw_s_0_81 : nw_sok 0 81 27 3 (some 3) := ⟨nw_m_27, rfl, rfl, Or.inl (nw_in 359 (by decide +kernel) (by decide +kernel))⟩
theorem nw_s_0_85 : nw_sok 0 85 29 3 (some 3) := ⟨nw_m_29, rfl, rfl, Or.inl (nw_in 366 (by decide +kernel) (by decide +kernel))⟩
theorem nw_s_0_88 : nw_sok 0 88 14 3 (some 3) := ⟨nw_m_14, rfl, rfl, Or.inl (nw_in 377 (by decide +kernel) (by decide +kernel))⟩
theorem nw_s_0_92 : nw_sok 0 92 18 3 (some 3) := ⟨nw_m_18, rfl, rfl, Or.inl (nw_in 378 (by decide +kernel) (by decide +kernel))⟩
theorem nw_s_0_95 : nw_sok 0 95 22 3 (some 3) := ⟨nw_m_22, rfl, rfl, Or.inl (nw_in 387 (by decide +kernel) (by decide +kernel))⟩
theorem nw_s_0_98 : nw_sok 0 98 20 2 (some 3) := ⟨nw_m_20, rfl, rfl, Or.inl (nw_in 392 (by decide +kernel) (by decide +kernel))⟩
theorem nw_s_0_101 : nw_sok 0 101 32 3 (some 3) := ⟨nw_m_32, rfl, rfl, Or.inl (nw_in 396 (by decide +kernel) (by decide +kernel))⟩
theorem nw_s_0_104 : nw_sok 0 104 28 3 (some 3) := ⟨nw_m_28, rfl, rfl, Or.inl (nw_in 412 (by decide +kernel) (by decide +kernel))⟩
theorem nw_s_0_107 : nw_sok 0 107 15 2 (some 3) := ⟨nw_m_15, rfl, rfl, Or.inl (nw_in 421 (by decide +kernel) (by decide +kernel))⟩
theorem nw_s_0_110 : nw_sok 0 110 25 2 none := ⟨nw_m_25, rfl, rfl, Or.inl (nw_in 425 (by decide +kernel) (by decide +kernel))⟩
theorem nw_s_0_114 : nw_sok 0 114 36 3 (some 3) := ⟨nw_m_36, rfl, rfl, Or.inl (nw_in 431 (by decide +kernel) (by decide +kernel))⟩
theorem nw_s_0_117 : nw_sok 0 117 23 2 none := ⟨nw_m_23, rfl, rfl, Or.inl (nw_in 448 (by decide +kernel) (by decide +kernel))⟩
theorem nw_s_0_120 : nw_sok 0 120 26 3 none := ⟨nw_m_26, rfl, rfl, Or.inl (nw_in 453 (by decide +kernel) (by decide +kernel))⟩
theorem nw_s_0_124 : nw_sok 0 124 95 1 none := ⟨nw_m_95, rfl, rfl, Or.inl (nw_in 466 (by decide +kernel) (by decide +kernel))⟩
theorem nw_s_0_127 : nw_sok 0 127 37 5 none := ⟨nw_m_37, rfl, rfl, Or.inl (nw_in 473 (by decide +kernel) (by decide +kernel))⟩
theorem nw_s_0_133 : nw_sok 0 133 38 5 none := ⟨nw_m_38, rfl, rfl, Or.inl (nw_in 482 (by decide +kernel) (by decide +kernel))⟩
theorem nw_s_0_136 : nw_sok 0 136 39 5 none := ⟨nw_m_39, rfl, rfl, Or.inl (nw_in 489 (by decide +kernel) (by decide +kernel))⟩
theorem nw_s_0_139 : nw_sok 0 139 45 2 none := ⟨nw_m_45, rfl, rfl, Or.inl (nw_in 496 (by decide +kernel) (by decide +kernel))⟩
theorem nw_s_0_144 : nw_sok 0 144 46 2 none := ⟨nw_m_46, rfl, rfl, Or.inl (nw_in 501 (by decide +kernel) (by decide +kernel))⟩
theorem nw_s_0_148 : nw_sok 0 148 47 3 none := ⟨nw_m_47, rfl, rfl, Or.inl (nw_in 505 (by decide +kernel) (by decide +kernel))⟩
theorem nw_s_0_155 : nw_sok 0 155 48 5 none := ⟨nw_m_48, rfl, rfl, Or.inl (nw_in 512 (by decide +kernel) (by decide +kernel))⟩
theorem nw_s_0_158 : nw_sok 0 158 51 4 none := ⟨nw_m_51, rfl, rfl, Or.inl (nw_in 526 (by decide +kernel) (by decide +kernel))⟩
theorem nw_s_0_162 : nw_sok 0 162 52 6 none := ⟨nw_m_52, rfl, rfl, Or.inr ⟨rfl, by decide +kernel⟩⟩
theorem nw_s_0_166 : nw_sok 0 166 40 7 none := ⟨nw_m_40, rfl, rfl, Or.inr ⟨rfl, by decide +kernel⟩⟩
theorem nw_s_0_170 : nw_sok 0 170 41 2 none := ⟨nw_m_41, rfl, rfl, Or.inl (nw_in 558 (by decide +kernel) (by decide +kernel))⟩
theorem nw_s_0_173 : nw_sok 0 173 54 5 none := ⟨nw_m_54, rfl, rfl, Or.inl (nw_in 565 (by decide +kernel) (by decide +kernel))⟩
theorem nw_s_0_176 : nw_sok 0 176 42 3 none := ⟨nw_m_42, rfl, rfl, Or.inl (nw_in 573 (by decide +kernel) (by decide +kernel))⟩
theorem nw_s_0_180 : nw_sok 0 180 55 3 none := ⟨nw_m_55, rfl, rfl, Or.inr ⟨rfl, by decide +kernel⟩⟩
theorem nw_s_0_183 : nw_sok 0 183 56 3 none := ⟨nw_m_56, rfl, rfl, Or.inr ⟨rfl, by decide +kernel⟩⟩
theorem nw_s_0_186 : nw_sok 0 186 19 1 (some 3) := ⟨nw_m_19, rfl, rfl, Or.inl (nw_in 606 (by decide +kernel) (by decide +kernel))⟩
theorem nw_s_0_192 : nw_sok 0 192 21 1 (some 3) := ⟨nw_m_21, rfl, rfl, Or.inl (nw_in 610 (by decide +kernel) (by decide +kernel))⟩
theorem nw_s_2_31 : nw_sok 2 31 6 2 (some 3) := ⟨nw_m_6, rfl, rfl, Or.inl (nw_in 183 (by decide +kernel) (by decide +kernel))⟩
theorem nw_s_2_35 : nw_sok 2 35 59 2 (some 2) := ⟨nw_m_59, rfl, rfl, Or.inl (nw_in 190 (by decide +kernel) (by decide +kernel))⟩
theorem nw_s_2_39 : nw_sok 2 39 61 2 (some 2) := ⟨nw_m_61, rfl, rfl, Or.inl (nw_in 201 (by decide +kernel) (by decide +kernel))⟩
theorem nw_s_2_43 : nw_sok 2 43 4 2 (some 1) := ⟨nw_m_4, rfl, rfl, Or.inl (nw_in 194 (by decide +kernel) (by decide +kernel))⟩
theorem nw_s_2_52 : nw_sok 2 52 60 1 none := ⟨nw_m_60, rfl, rfl, Or.inl (nw_in 198 (by decide +kernel) (by decide +kernel))⟩
theorem nw_s_2_57 : nw_sok 2 57 63 3 (some 2) := ⟨nw_m_63, rfl, rfl, Or.inl (nw_in 206 (by decide +kernel) (by decide +kernel))⟩
theorem nw_s_2_61 : nw_sok 2 61 64 2 (some 2) := ⟨nw_m_64, rfl, rfl, Or.inl (nw_in 258 (by decide +kernel) (by decide +kernel))⟩
theorem nw_s_2_66 : nw_sok 2 66 66 2 (some 2) := ⟨nw_m_66, rfl, rfl, Or.inl (nw_in 271 (by decide +kernel) (by decide +kernel))⟩
theorem nw_s_2_71 : nw_sok 2 71 67 2 (some 2) := ⟨nw_m_67, rfl, rfl, Or.inl (nw_in 289 (by decide +kernel) (by decide +kernel))⟩
theorem nw_s_2_76 : nw_sok 2 76 68 2 (some 2) := ⟨nw_m_68, rfl, rfl, Or.inl (nw_in 306 (by decide +kernel) (by decide +kernel))⟩
theorem nw_s_2_81 : nw_sok 2 81 12 1 (some 3) := ⟨nw_m_12, rfl, rfl, Or.inl (nw_in 323 (by decide +kernel) (by decide +kernel))⟩
theorem nw_s_2_84 : nw_sok 2 84 62 2 (some 2) := ⟨nw_m_62, rfl, rfl, Or.inl (nw_in 327 (by decide +kernel) (by decide +kernel))⟩
theorem nw_s_2_88 : nw_sok 2 88 65 3 (some 2) := ⟨nw_m_65, rfl, rfl, Or.inl (nw_in 335 (by decide +kernel) (by decide +kernel))⟩
theorem nw_s_2_109 : nw_sok 2 109 69 2 (some 2) := ⟨nw_m_69, rfl, rfl, Or.inl (nw_in 262 (by decide +kernel) (by decide +kernel))⟩
theorem nw_s_2_112 : nw_sok 2 112 5 2 (some 3) := ⟨nw_m_5, rfl, rfl, Or.inl (nw_in 266 (by decide +kernel) (by decide +kernel))⟩
theorem nw_s_2_116 : nw_sok 2 116 7 3 (some 3) := ⟨nw_m_7, rfl, rfl, Or.inl (nw_in 339 (by decide +kernel) (by decide +kernel))⟩
theorem nw_s_2_120 : nw_sok 2 120 8 2 (some 3) := ⟨nw_m_8, rfl, rfl, Or.inl (nw_in 275 (by decide +kernel) (by decide +kernel))⟩
theorem nw_s_2_124 : nw_sok 2 124 9 3 (some 3) := ⟨nw_m_9, rfl, rfl, Or.inl (nw_in 283 (by decide +kernel) (by decide +kernel))⟩
theorem nw_s_2_127 : nw_sok 2 127 13 2 (some 3) := ⟨nw_m_13, rfl, rfl, Or.inl (nw_in 293 (by decide +kernel) (by decide +kernel))⟩
theorem nw_s_2_130 : nw_sok 2 130 14 3 (some 3) := ⟨nw_m_14, rfl, rfl, Or.inl (nw_in 294 (by decide +kernel) (by decide +kernel))⟩
theorem nw_s_2_136 : nw_sok 2 136 24 3 none := ⟨nw_m_24, rfl, rfl, Or.inl (nw_in 302 (by decide +kernel) (by decide +kernel))⟩
theorem nw_s_2_140 : nw_sok 2 140 10 1 (some 3) := ⟨nw_m_10, rfl, rfl, Or.inl (nw_in 310 (by decide +kernel) (by decide +kernel))⟩
theorem nw_s_2_144 : nw_sok 2 144 11 2 (some 3) := ⟨nw_m_11, rfl, rfl, Or.inl (nw_in 314 (by decide +kernel) (by decide +kernel))⟩
theorem nw_s_3_37 : nw_sok 3 37 13 2 (some 3) := ⟨nw_m_13, rfl, rfl, Or.inl (nw_in 279 (by decide +kernel) (by decide +kernel))⟩
theorem nw_s_3_41 : nw_sok 3 41 8 2 (some 3) := ⟨nw_m_8, rfl, rfl, Or.inl (nw_in 287 (by decide +kernel) (by decide +kernel))⟩
theorem nw_s_3_44 : nw_sok 3 44 10 1 (some 3) := ⟨nw_m_10, rfl, rfl, Or.inl (nw_in 318 (by decide +kernel) (by decide +kernel))⟩
theorem nw_s_3_48 : nw_sok 3 48 26 3 none := ⟨nw_m_26, rfl, rfl, Or.inl (nw_in 319 (by decide +kernel) (by decide +kernel))⟩
theorem nw_s_3_52 : nw_sok 3 52 17 2 (some 3) := ⟨nw_m_17, rfl, rfl, Or.inl (nw_in 298 (by decide +kernel) (by decide +kernel))⟩
theorem nw_s_3_56 : nw_sok 3 56 14 3 (some 3) := ⟨nw_m_14, rfl, rfl, Or.inl (nw_in 382 (by decide +kernel) (by decide +kernel))⟩
theorem nw_s_3_60 : nw_sok 3 60 16 2 (some 3) := ⟨nw_m_16, rfl, rfl, Or.inl (nw_in 391 (by decide +kernel) (by decide +kernel))⟩
theorem nw_s_3_63 : nw_sok 3 63 20 2 (some 3) := ⟨nw_m_20, rfl, rfl, Or.inl (nw_in 443 (by decide +kernel) (by decide +kernel))⟩
theorem nw_s_3_66 : nw_sok 3 66 23 2 none := ⟨nw_m_23, rfl, rfl, Or.inl (nw_in 363 (by decide +kernel) (by decide +kernel))⟩
theorem nw_s_3_70 : nw_sok 3 70 18 3 (some 3) := ⟨nw_m_18, rfl, rfl, Or.inl (nw_in 416 (by decide +kernel) (by decide +kernel))⟩
theorem nw_s_3_73 : nw_sok 3 73 25 2 none := ⟨nw_m_25, rfl, rfl, Or.inl (nw_in 370 (by decide +kernel) (by decide +kernel))⟩
theorem nw_s_3_76 : nw_sok 3 76 0 2 none := ⟨nw_m_0, rfl, rfl, Or.inl (nw_in 408 (by decide +kernel) (by decide +kernel))⟩
theorem nw_s_3_81 : nw_sok 3 81 24 3 none := ⟨nw_m_24, rfl, rfl, Or.inl (nw_in 411 (by decide +kernel) (by decide +kernel))⟩
theorem nw_s_3_84 : nw_sok 3 84 30 2 (some 3) := ⟨nw_m_30, rfl, rfl, Or.inl (nw_in 400 (by decide +kernel) (by decide +kernel))⟩
theorem nw_s_3_87 : nw_sok 3 87 31 4 (some 3) := ⟨nw_m_31, rfl, rfl, Or.inl (nw_in 404 (by decide +kernel) (by decide +kernel))⟩
theorem nw_s_3_90 : nw_sok 3 90 34 3 (some 3) := ⟨nw_m_34, rfl, rfl, Or.inl (nw_in 439 (by decide +kernel) (by decide +kernel))⟩
theorem nw_s_3_93 : nw_sok 3 93 35 2 (some 3) := ⟨nw_m_35, rfl, rfl, Or.inl (nw_in 435 (by decide +kernel) (by decide +kernel))⟩
theorem nw_s_4_50 : nw_sok 4 50 96 3 none := ⟨nw_m_96, rfl, rfl, Or.inl (nw_in 687 (by decide +kernel) (by decide +kernel))⟩
theorem nw_s_4_65 : nw_sok 4 65 101 1 none := ⟨nw_m_101, rfl, rfl, Or.inl (nw_in 703 (by decide +kernel) (by decide +kernel))⟩
theorem nw_s_4_73 : nw_sok 4 73 103 4 (some 4) := ⟨nw_m_103, rfl, rfl, Or.inl (nw_in 719 (by decide +kernel) (by decide +kernel))⟩
theorem nw_s_4_80 : nw_sok 4 80 104 1 (some 4) := ⟨nw_m_104, rfl, rfl, Or.inl (nw_in 714 (by decide +kernel) (by decide +kernel))⟩
theorem nw_s_4_88 : nw_sok 4 88 106 1 (some 4) := ⟨nw_m_106, rfl, rfl, Or.inl (nw_in 734 (by decide +kernel) (by decide +kernel))⟩
theorem nw_s_4_94 : nw_sok 4 94 102 1 (some 4) := ⟨nw_m_102, rfl, rfl, Or.inl (nw_in 699 (by decide +kernel) (by decide +kernel))⟩
theorem nw_s_4_100 : nw_sok 4 100 107 4 (some 4) := ⟨nw_m_107, rfl, rfl, Or.inl (nw_in 738 (by decide +kernel) (by decide +kernel))⟩
theorem nw_s_4_103 : nw_sok 4 103 105 1 (some 4) := ⟨nw_m_105, rfl, rfl, Or.inl (nw_in 710 (by decide +kernel) (by decide +kernel))⟩
theorem nw_s_4_109 : nw_sok 4 109 108 2 (some 4) := ⟨nw_m_108, rfl, rfl, Or.inl (nw_in 730 (by decide +kernel) (by decide +kernel))⟩
theorem nw_s_4_116 : nw_sok 4 116 109 1 (some 4) := ⟨nw_m_109, rfl, rfl, Or.inl (nw_in 706 (by decide +kernel) (by decide +kernel))⟩
theorem nw_s_4_120 : nw_sok 4 120 111 2 (some 4) := ⟨nw_m_111, rfl, rfl, Or.inl (nw_in 751 (by decide +kernel) (by decide +kernel))⟩
theorem nw_s_4_124 : nw_sok 4 124 110 1 (some 4) := ⟨nw_m_110, rfl, rfl, Or.inl (nw_in 746 (by decide +kernel) (by decide +kernel))⟩
theorem nw_s_4_127 : nw_sok 4 127 112 2 (some 4) := ⟨nw_m_112, rfl, rfl, Or.inl (nw_in 747 (by decide +kernel) (by decide +kernel))⟩
theorem nw_s_4_130 : nw_sok 4 130 98 3 (some 4) := ⟨nw_m_98, rfl, rfl, Or.inl (nw_in 755 (by decide +kernel) (by decide +kernel))⟩
theorem nw_s_4_134 : nw_sok 4 134 117 2 (some 4) := ⟨nw_m_117, rfl, rfl, Or.inl (nw_in 788 (by decide +kernel) (by decide +kernel))⟩
theorem nw_s_4_137 : nw_sok 4 137 114 2 (some 4) := ⟨nw_m_114, rfl, rfl, Or.inl (nw_in 763 (by decide +kernel) (by decide +kernel))⟩
theorem nw_s_4_140 : nw_sok 4 140 119 3 (some 4) := ⟨nw_m_119, rfl, rfl, Or.inl (nw_in 767 (by decide +kernel) (by decide +kernel))⟩
theorem nw_s_4_146 : nw_sok 4 146 116 2 (some 4) := ⟨nw_m_116, rfl, rfl, Or.inl (nw_in 780 (by decide +kernel) (by decide +kernel))⟩
theorem nw_s_4_149 : nw_sok 4 149 118 3 (some 4) := ⟨nw_m_118, rfl, rfl, Or.inl (nw_in 784 (by decide +kernel) (by decide +kernel))⟩
theorem nw_s_4_152 : nw_sok 4 152 115 2 (some 4) := ⟨nw_m_115, rfl, rfl, Or.inl (nw_in 796 (by decide +kernel) (by decide +kernel))⟩
theorem nw_s_4_155 : nw_sok 4 155 124 3 (some 4) := ⟨nw_m_124, rfl, rfl, Or.inl (nw_in 810 (by decide +kernel) (by decide +kernel))⟩
theorem nw_s_4_161 : nw_sok 4 161 125 2 (some 4) := ⟨nw_m_125, rfl, rfl, Or.inl (nw_in 806 (by decide +kernel) (by decide +kernel))⟩
theorem nw_s_4_166 : nw_sok 4 166 132 4 (some 4) := ⟨nw_m_132, rfl, rfl, Or.inl (nw_in 839 (by decide +kernel) (by decide +kernel))⟩
theorem nw_s_4_170 : nw_sok 4 170 136 2 (some 4) := ⟨nw_m_136, rfl, rfl, Or.inl (nw_in 855 (by decide +kernel) (by decide +kernel))⟩
theorem nw_s_4_173 : nw_sok 4 173 138 3 (some 4) := ⟨nw_m_138, rfl, rfl, Or.inl (nw_in 871 (by decide +kernel) (by decide +kernel))⟩
theorem nw_s_4_176 : nw_sok 4 176 139 1 (some 4) := ⟨nw_m_139, rfl, rfl, Or.inl (nw_in 863 (by decide +kernel) (by decide +kernel))⟩
theorem nw_s_4_179 : nw_sok 4 179 140 4 (some 4) := ⟨nw_m_140, rfl, rfl, Or.inl (nw_in 867 (by decide +kernel) (by decide +kernel))⟩
theorem nw_s_4_182 : nw_sok 4 182 144 1 (some 4) := ⟨nw_m_144, rfl, rfl, Or.inl (nw_in 887 (by decide +kernel) (by decide +kernel))⟩
theorem nw_s_4_185 : nw_sok 4 185 145 4 (some 4) := ⟨nw_m_145, rfl, rfl, Or.inl (nw_in 891 (by decide +kernel) (by decide +kernel))⟩
theorem nw_s_4_188 : nw_sok 4 188 143 1 (some 4) := ⟨nw_m_143, rfl, rfl, Or.inl (nw_in 895 (by decide +kernel) (by decide +kernel))⟩
theorem nw_s_4_191 : nw_sok 4 191 146 4 (some 4) := ⟨nw_m_146, rfl, rfl, Or.inl (nw_in 883 (by decide +kernel) (by decide +kernel))⟩
theorem nw_s_4_194 : nw_sok 4 194 97 2 none := ⟨nw_m_97, rfl, rfl, Or.inl (nw_in 907 (by decide +kernel) (by decide +kernel))⟩
theorem nw_s_4_200 : nw_sok 4 200 150 4 (some 4) := ⟨nw_m_150, rfl, rfl, Or.inl (nw_in 915 (by decide +kernel) (by decide +kernel))⟩
theorem nw_s_5_12 : nw_sok 5 12 26 3 none := ⟨nw_m_26, rfl, rfl, Or.inl (nw_in 500 (by decide +kernel) (by decide +kernel))⟩
theorem nw_s_5_18 : nw_sok 5 18 34 3 (some 3) := ⟨nw_m_34, rfl, rfl, Or.inl (nw_in 504 (by decide +kernel) (by decide +kernel))⟩
theorem nw_s_5_22 : nw_sok 5 22 49 4 none := ⟨nw_m_49, rfl, rfl, Or.inl (nw_in 515 (by decide +kernel) (by decide +kernel))⟩
theorem nw_s_5_30 : nw_sok 5 30 20 2 (some 3) := ⟨nw_m_20, rfl, rfl, Or.inl (nw_in 518 (by decide +kernel) (by decide +kernel))⟩
theorem nw_s_5_34 : nw_sok 5 34 32 3 (some 3) := ⟨nw_m_32, rfl, rfl, Or.inl (nw_in 519 (by decide +kernel) (by decide +kernel))⟩
theorem nw_s_5_37 : nw_sok 5 37 28 3 (some 3) := ⟨nw_m_28, rfl, rfl, Or.inl (nw_in 520 (by decide +kernel) (by decide +kernel))⟩
theorem nw_s_5_40 : nw_sok 5 40 50 2 none := ⟨nw_m_50, rfl, rfl, Or.inl (nw_in 521 (by decide +kernel) (by decide +kernel))⟩
theorem nw_s_5_44 : nw_sok 5 44 17 2 (some 3) := ⟨nw_m_17, rfl, rfl, Or.inl (nw_in 524 (by decide +kernel) (by decide +kernel))⟩
theorem nw_s_5_48 : nw_sok 5 48 18 3 (some 3) := ⟨nw_m_18, rfl, rfl, Or.inl (nw_in 525 (by decide +kernel) (by decide +kernel))⟩
theorem nw_s_5_51 : nw_sok 5 51 24 3 none := ⟨nw_m_24, rfl, rfl, Or.inl (nw_in 529 (by decide +kernel) (by decide +kernel))⟩
theorem nw_s_5_54 : nw_sok 5 54 48 5 none := ⟨nw_m_48, rfl, rfl, Or.inl (nw_in 530 (by decide +kernel) (by decide +kernel))⟩
theorem nw_s_5_58 : nw_sok 5 58 25 2 none := ⟨nw_m_25, rfl, rfl, Or.inl (nw_in 538 (by decide +kernel) (by decide +kernel))⟩
theorem nw_s_5_61 : nw_sok 5 61 53 6 none := ⟨nw_m_53, rfl, rfl, Or.inl (nw_in 539 (by decide +kernel) (by decide +kernel))⟩
theorem nw_s_5_65 : nw_sok 5 65 52 6 none := ⟨nw_m_52, rfl, rfl, Or.inl (nw_in 542 (by decide +kernel) (by decide +kernel))⟩
theorem nw_s_5_68 : nw_sok 5 68 1 2 none := ⟨nw_m_1, rfl, rfl, Or.inl (nw_in 543 (by decide +kernel) (by decide +kernel))⟩
theorem nw_s_5_73 : nw_sok 5 73 45 2 none := ⟨nw_m_45, rfl, rfl, Or.inl (nw_in 568 (by decide +kernel) (by decide +kernel))⟩
theorem nw_s_5_76 : nw_sok 5 76 57 3 none := ⟨nw_m_57, rfl, rfl, Or.inl (nw_in 590 (by decide +kernel) (by decide +kernel))⟩
theorem nw_s_5_80 : nw_sok 5 80 33 3 (some 3) := ⟨nw_m_33, rfl, rfl, Or.inl (nw_in 593 (by decide +kernel) (by decide +kernel))⟩
theorem nw_s_5_83 : nw_sok 5 83 55 3 none := ⟨nw_m_55, rfl, rfl, Or.inl (nw_in 597 (by decide +kernel) (by decide +kernel))⟩
theorem nw_s_5_87 : nw_sok 5 87 56 3 none := ⟨nw_m_56, rfl, rfl, Or.inl (nw_in 601 (by decide +kernel) (by decide +kernel))⟩
theorem nw_s_6_9 : nw_sok 6 9 25 2 none := ⟨nw_m_25, rfl, rfl, Or.inl (nw_in 476 (by decide +kernel) (by decide +kernel))⟩
theorem nw_s_6_15 : nw_sok 6 15 35 2 (some 3) := ⟨nw_m_35, rfl, rfl, Or.inl (nw_in 477 (by decide +kernel) (by decide +kernel))⟩
theorem nw_s_6_19 : nw_sok 6 19 13 2 (some 3) := ⟨nw_m_13, rfl, rfl, Or.inl (nw_in 553 (by decide +kernel) (by decide +kernel))⟩
theorem nw_s_6_23 : nw_sok 6 23 37 5 none := ⟨nw_m_37, rfl, rfl, Or.inl (nw_in 554 (by decide +kernel) (by decide +kernel))⟩
theorem nw_s_6_29 : nw_sok 6 29 20 2 (some 3) := ⟨nw_m_20, rfl, rfl, Or.inl (nw_in 555 (by decide +kernel) (by decide +kernel))⟩
theorem nw_s_6_32 : nw_sok 6 32 40 7 none := ⟨nw_m_40, rfl, rfl, Or.inl (nw_in 556 (by decide +kernel) (by decide +kernel))⟩
theorem nw_s_6_36 : nw_sok 6 36 32 3 (some 3) := ⟨nw_m_32, rfl, rfl, Or.inl (nw_in 557 (by decide +kernel) (by decide +kernel))⟩
theorem nw_s_6_43 : nw_sok 6 43 43 4 none := ⟨nw_m_43, rfl, rfl, Or.inl (nw_in 576 (by decide +kernel) (by decide +kernel))⟩
theorem nw_s_6_47 : nw_sok 6 47 44 2 none := ⟨nw_m_44, rfl, rfl, Or.inl (nw_in 579 (by decide +kernel) (by decide +kernel))⟩
theorem nw_s_6_51 : nw_sok 6 51 34 3 (some 3) := ⟨nw_m_34, rfl, rfl, Or.inl (nw_in 582 (by decide +kernel) (by decide +kernel))⟩
set_option maxHeartbeats 8000000 in
theorem nw_rM_ok {o i k n : Nat} {rc : Option Nat} (h : nw_rM o i = some (k, n, rc)) : nw_sok o i k n rc := by
  unfold nw_rM at h
  split at h
  · unfold nw_rM_0 at h; split at h <;> first | (cases h; first | exact nw_s_0_45 | exact nw_s_0_52 | exact nw_s_0_56 | exact nw_s_0_63 | exact nw_s_0_70 | exact nw_s_0_74 | exact nw_s_0_78 | exact nw_s_0_81 | exact nw_s_0_85 | exact nw_s_0_88 | exact nw_s_0_92 | exact nw_s_0_95 | exact nw_s_0_98 | exact nw_s_0_101 | exact nw_s_0_104 | exact nw_s_0_107 | exact nw_s_0_110 | exact nw_s_0_114 | exact nw_s_0_117 | exact nw_s_0_120 | exact nw_s_0_124 | exact nw_s_0_127 | exact nw_s_0_133 | exact nw_s_0_136 | exact nw_s_0_139 | exact nw_s_0_144 | exact nw_s_0_148 | exact nw_s_0_155 | exact nw_s_0_158 | exact nw_s_0_162 | exact nw_s_0_166 | exact nw_s_0_170 | exact nw_s_0_173 | exact nw_s_0_176 | exact nw_s_0_180 | exact nw_s_0_183 | exact nw_s_0_186 | exact nw_s_0_192) | cases h
  · cases h
  · unfold nw_rM_2 at h; split at h <;> first | (cases h; first | exact nw_s_2_31 | exact nw_s_2_35 | exact nw_s_2_39 | exact nw_s_2_43 | exact nw_s_2_52 | exact nw_s_2_57 | exact nw_s_2_61 | exact nw_s_2_66 | exact nw_s_2_71 | exact nw_s_2_76 | exact nw_s_2_81 | exact nw_s_2_84 | exact nw_s_2_88 | exact nw_s_2_109 | exact nw_s_2_112 | exact nw_s_2_116 | exact nw_s_2_120 | exact nw_s_2_124 | exact nw_s_2_127 | exact nw_s_2_130 | exact nw_s_2_136 | exact nw_s_2_140 | exact nw_s_2_144) | cases h
  · unfold nw_rM_3 at h; split at h <;> first | (cases h; first | exact nw_s_3_37 | exact nw_s_3_41 | exact nw_s_3_44 | exact nw_s_3_48 | exact nw_s_3_52 | exact nw_s_3_56 | exact nw_s_3_60 | exact nw_s_3_63 | exact nw_s_3_66 | exact nw_s_3_70 | exact nw_s_3_73 | exact nw_s_3_76 | exact nw_s_3_81 | exact nw_s_3_84 | exact nw_s_3_87 | exact nw_s_3_90 | exact nw_s_3_93) | cases h
  · unfold nw_rM_4 at h; split at h <;> first | (cases h; first | exact nw_s_4_50 | exact nw_s_4_65 | exact nw_s_4_73 | exact nw_s_4_80 | exact nw_s_4_88 | exact nw_s_4_94 | exact nw_s_4_100 | exact nw_s_4_103 | exact nw_s_4_109 | exact nw_s_4_116 | exact nw_s_4_120 | exact nw_s_4_124 | exact nw_s_4_127 | exact nw_s_4_130 | exact nw_s_4_134 | exact nw_s_4_137 | exact nw_s_4_140 | exact nw_s_4_146 | exact nw_s_4_149 | exact nw_s_4_152 | exact nw_s_4_155 | exact nw_s_4_161 | exact nw_s_4_166 | exact nw_s_4_170 | exact nw_s_4_173 | exact nw_s_4_176 | exact nw_s_4_179 | exact nw_s_4_182 | exact nw_s_4_185 | exact nw_s_4_188 | exact nw_s_4_191 | exact nw_s_4_194 | exact nw_s_4_200) | cases h
  · unfold nw_rM_5 at h; split at h <;> first | (cases h; first | exact nw_s_5_12 | exact nw_s_5_18 | exact nw_s_5_22 | exact nw_s_5_30 | exact nw_s_5_34 | exact nw_s_5_37 | exact nw_s_5_40 | exact nw_s_5_44 | exact nw_s_5_48 | exact nw_s_5_51 | exact nw_s_5_54 | exact nw_s_5_58 | exact nw_s_5_61 | exact nw_s_5_65 | exact nw_s_5_68 | exact nw_s_5_73 | exact nw_s_5_76 | exact nw_s_5_80 | exact nw_s_5_83 | exact nw_s_5_87) | cases h
  · unfold nw_rM_6 at h; split at h <;> first | (cases h; first | exact nw_s_6_9 | exact nw_s_6_15 | exact nw_s_6_19 | exact nw_s_6_23 | exact nw_s_6_29 | exact nw_s_6_32 | exact nw_s_6_36 | exact nw_s_6_43 | exact nw_s_6_47 | exact nw_s_6_51) | cases h
  · cases h
theorem nw_cp_ok : Cond.methodLink RX4 31 arraycopyName ∈ nw_TBL ∧ Cond.native arraycopyName ∈ nw_TBL ∧ Cond.static arraycopyName ∈ nw_TBL ∧ Cond.initialized "java/lang/System" ∈ nw_TBL := ⟨nw_in 187 (by decide +kernel) (by decide +kernel), nw_in 189 (by decide +kernel) (by decide +kernel), nw_in 188 (by decide +kernel) (by decide +kernel), nw_in 47 (by decide +kernel) (by decide +kernel)⟩
theorem nw_rP_ok {o i q : Nat} (h : nw_rP o i = some q) : (q = 0 ∧ o = 3 ∧ i = 31) ∨ (q = 1 ∧ o = 2 ∧ i = 100) ∨ (q = 2 ∧ o = 2 ∧ i = 105) := by
  unfold nw_rP at h
  split at h
  · cases h
  · cases h
  · unfold nw_rP_2 at h; split at h <;> first | (cases h; decide) | cases h
  · unfold nw_rP_3 at h; split at h <;> first | (cases h; decide) | cases h
  · cases h
  · cases h
  · cases h
  · cases h
theorem nw_rS_ok {o i a : Nat} (h : nw_rS o i = some a) : o = 2 ∧ 100 ≤ a ∧ a - 100 < 9 ∧ (nw_sx.map (·.1))[a - 100]? = some i := by
  unfold nw_rS at h
  split at h
  · cases h
  · cases h
  · unfold nw_rS_2 at h; split at h <;> first | (cases h; decide) | cases h
  · cases h
  · cases h
  · cases h
  · cases h
  · cases h
def nw_Ex : Nat → nw_Sh → nw_C
  | 0, _, _, _, _, _ => False
  | d + 1, sh, k, as, mem, Q => (nw_ea as).length ≤ nw_kL k ∧ nw_lfp (nw_F nw_tb (nw_kB k) (nw_kO k) (nw_kR k) sh (nw_Ex d sh) Q) 0 (nw_pad (nw_ea as) (nw_kL k)) [] mem
def nw_Ev (d : Nat) (sh : nw_Sh) (k : Nat) (Q : nw_K) : nw_X := nw_lfp (nw_F nw_tb (nw_kB k) (nw_kO k) (nw_kR k) sh (nw_Ex d sh) Q)
theorem nw_Ex_mono (sh : nw_Sh) : ∀ d, nw_mono (nw_Ex d sh)
  | 0 => fun _ _ _ _ _ _ k => k.elim
  | d + 1 => by
    intro k as mem P P' h q
    refine ⟨q.1, fun X hX => q.2 X (fun pc lv st m z => hX _ _ _ _ ?_)⟩
    exact nw_F_mono (nw_Ex_mono sh d) h (fun _ _ _ _ z => z) z
set_option maxRecDepth 20000 in
theorem nw_ev_eq (d : Nat) (sh : nw_Sh) (k : Nat) (Q : nw_K) (pc : Nat) (lv : nw_L) (st : List Value) (mem : nw_M) : nw_Ev d sh k Q pc lv st mem = nw_F nw_tb (nw_kB k) (nw_kO k) (nw_kR k) sh (nw_Ex d sh) Q (nw_Ev d sh k Q) pc lv st mem :=
by
  have hm : ∀ X Y : nw_X, (∀ pc lv st mem, X pc lv st mem → Y pc lv st mem) → ∀ pc lv st mem, nw_F nw_tb (nw_kB k) (nw_kO k) (nw_kR k) sh (nw_Ex d sh) Q X pc lv st mem → nw_F nw_tb (nw_kB k) (nw_kO k) (nw_kR k) sh (nw_Ex d sh) Q Y pc lv st mem := fun X Y h pc lv st mem z => nw_F_mono (nw_Ex_mono sh d) (fun _ _ q => q) h z
  unfold nw_Ev
  generalize nw_F nw_tb (nw_kB k) (nw_kO k) (nw_kR k) sh (nw_Ex d sh) Q = F at hm ⊢
  exact nw_lfp_eq hm pc lv st mem
theorem nw_step {k pc : Nat} {i : Instr} (h : nw_dec (nw_kB k) pc = some i) (d : Nat) (sh : nw_Sh) (Q : nw_K) (lv : nw_L) (st : List Value) (mem : nw_M) : nw_Ev d sh k Q pc lv st mem = nw_I nw_tb (nw_kO k) (nw_kR k) sh (nw_Ex d sh) Q (nw_Ev d sh k Q) pc lv st mem i := by
  rw [nw_ev_eq, nw_F, h]
end
section
/-! the small machine's cells as a world of the kit; its locals as the kit's lists -/
def nw_tv (ad : Nat → Nat) : Value → Value
  | .ref a => .ref (ad a)
  | v => v
theorem nw_tv_cat (ad : Nat → Nat) (v : Value) : (nw_tv ad v).category = v.category := by cases v <;> rfl
def nw_as (ad : Nat → Nat) : Nat → nw_L → List (Nat × Value)
  | _, [] => []
  | i, none :: t => nw_as ad (i + 1) t
  | i, some v :: t => (i, nw_tv ad v) :: nw_as ad (i + 1) t
theorem nw_as_get (ad : Nat → Nat) : ∀ (lv : nw_L) (i j : Nat) (v : Value), nw_ld lv j = some v → (i + j, nw_tv ad v) ∈ nw_as ad i lv
  | [], _, _, _, h => by simp [nw_ld] at h
  | none :: t, i, 0, v, h => by simp [nw_ld] at h
  | some w :: t, i, 0, v, h => by
    simp only [nw_ld, Option.some.injEq] at h
    subst h
    exact List.mem_cons_self
  | a :: t, i, j + 1, v, h => by
    have h1 := nw_as_get ad t (i + 1) j v h
    rw [show i + (j + 1) = i + 1 + j by omega]
    cases a with
    | none => exact h1
    | some w => exact List.mem_cons_of_mem _ h1
theorem nw_as_ge (ad : Nat → Nat) : ∀ (lv : nw_L) (i : Nat) (q : Nat × Value), q ∈ nw_as ad i lv → i ≤ q.1
  | [], _, _, h => by simp [nw_as] at h
  | none :: t, i, q, h => by
    have h1 := nw_as_ge ad t (i + 1) q h
    omega
  | some w :: t, i, q, h => by
    rcases List.mem_cons.mp h with rfl | h
    · exact Nat.le_refl _
    · have h1 := nw_as_ge ad t (i + 1) q h
      omega
theorem nw_as_mem {ad : Nat → Nat} {a : Option Value} {t : nw_L} {i : Nat} {q : Nat × Value} (h : q ∈ nw_as ad (i + 1) t) : q ∈ nw_as ad i (a :: t) := by
  cases a with
  | none => exact h
  | some w => exact List.mem_cons_of_mem _ h
theorem nw_sto_some {a : Option Value} {t : nw_L} {j : Nat} {v : Value} {lv' : nw_L} (h : nw_sto (a :: t) (j + 1) v = some lv') : nw_nl a j = true ∧ ∃ t', nw_sto t j v = some t' ∧ lv' = a :: t' := by
  unfold nw_sto at h
  by_cases hn : nw_nl a j = true
  · rw [if_pos hn] at h
    cases ht : nw_sto t j v with
    | none => rw [ht] at h; cases h
    | some t' => rw [ht] at h; cases h; exact ⟨hn, t', rfl, rfl⟩
  · rw [if_neg hn] at h
    cases h
theorem nw_nl_cat {w : Value} (h : nw_nl (some w) 0 = true) : ¬ w.category = 2 := by
  cases w <;> simp [nw_nl, Value.category] at h ⊢
theorem nw_as_sto (ad : Nat → Nat) : ∀ (lv : nw_L) (i j : Nat) (v : Value) (lv' : nw_L), nw_sto lv j v = some lv' → ∀ q ∈ nw_as ad i lv', q = (i + j, nw_tv ad v) ∨ (q ∈ nw_as ad i lv ∧ ¬ q.1 = i + j ∧ ¬ (q.1 + 1 = i + j ∧ q.2.category = 2))
  | [], _, _, _, _, h => by simp [nw_sto] at h
  | a :: t, i, 0, v, lv', h => by
    simp only [nw_sto, Option.some.injEq] at h
    subst h
    intro q hq
    rcases List.mem_cons.mp hq with rfl | hq
    · exact Or.inl rfl
    · have h1 := nw_as_ge ad t (i + 1) q hq
      exact Or.inr ⟨nw_as_mem hq, by omega, fun z => by omega⟩
  | a :: t, i, j + 1, v, lv', h => by
    obtain ⟨hn, t', ht, rfl⟩ := nw_sto_some h
    have ih := nw_as_sto ad t (i + 1) j v t' ht
    intro q hq
    have key : q ∈ nw_as ad (i + 1) t' → q = (i + (j + 1), nw_tv ad v) ∨ (q ∈ nw_as ad i (a :: t) ∧ ¬ q.1 = i + (j + 1) ∧ ¬ (q.1 + 1 = i + (j + 1) ∧ q.2.category = 2)) := by
      intro hq
      rcases ih q hq with h1 | ⟨h1, h2, h3⟩
      · left
        rw [h1, show i + (j + 1) = i + 1 + j by omega]
      · right
        rw [show i + (j + 1) = i + 1 + j by omega]
        exact ⟨nw_as_mem h1, h2, h3⟩
    cases a with
    | none => exact key hq
    | some w =>
      rcases List.mem_cons.mp hq with rfl | hq
      · right
        refine ⟨List.mem_cons_self, by show ¬ i = _; omega, ?_⟩
        rintro ⟨h1, h2⟩
        have hj : j = 0 := by
          have h1' : i + 1 = i + (j + 1) := h1
          omega
        subst hj
        exact nw_nl_cat hn (by rw [← nw_tv_cat ad w]; exact h2)
      · exact key hq
theorem nw_sto_len : ∀ (lv : nw_L) (j : Nat) (v : Value) (lv' : nw_L), nw_sto lv j v = some lv' → lv'.length = lv.length ∧ j < lv.length
  | [], _, _, _, h => by simp [nw_sto] at h
  | a :: t, 0, v, lv', h => by
    simp only [nw_sto, Option.some.injEq] at h
    subst h
    simp
  | a :: t, j + 1, v, lv', h => by
    obtain ⟨-, t', ht, rfl⟩ := nw_sto_some h
    have h1 := nw_sto_len t j v t' ht
    simp only [List.length_cons]
    omega
/-- the locals -/
def nw_lr (ad : Nat → Nat) (ls : Array Slot) (nL : Nat) (lv : nw_L) : Prop := lv_has ls nL (nw_as ad 0 lv) ∧ lv.length = nL
theorem nw_lr_ld {ad : Nat → Nat} {ls : Array Slot} {nL : Nat} {lv : nw_L} (h : nw_lr ad ls nL lv) {i : Nat} {v : Value} (hv : nw_ld lv i = some v) : ls[i]? = some (.val (nw_tv ad v)) := by
  have h1 := nw_as_get ad lv 0 i v hv
  rw [Nat.zero_add] at h1
  exact h.1.2.2 _ h1
theorem nw_lr_st {ad : Nat → Nat} {ls ls' : Array Slot} {nL : Nat} {lv lv' : nw_L} {i : Nat} {v : Value} (h : nw_lr ad ls nL lv) (hv : nw_sto lv i v = some lv') (h' : lv_has ls' nL ((i, nw_tv ad v) :: (nw_as ad 0 lv).filter (fun q => !(q.1 == i) && !(q.1 + 1 == i && q.2.category == 2)))) : nw_lr ad ls' nL lv' := by
  refine ⟨⟨h'.1, h'.2.1, fun q hq => ?_⟩, by rw [(nw_sto_len lv i v lv' hv).1]; exact h.2⟩
  refine h'.2.2 q ?_
  rcases nw_as_sto ad lv 0 i v lv' hv q hq with h1 | ⟨h1, h2, h3⟩
  · rw [Nat.zero_add] at h1
    rw [h1]
    exact List.mem_cons_self
  · rw [Nat.zero_add] at h2 h3
    refine List.mem_cons_of_mem _ (List.mem_filter.mpr ⟨h1, ?_⟩)
    simp only [Bool.and_eq_true, Bool.not_eq_true', beq_eq_false_iff_ne, ne_eq, Bool.and_eq_false_iff]
    refine ⟨h2, ?_⟩
    by_cases hq1 : q.1 + 1 = i
    · exact Or.inr (fun z => h3 ⟨hq1, z⟩)
    · exact Or.inl hq1
theorem nw_lr_lt {ad : Nat → Nat} {ls : Array Slot} {nL : Nat} {lv lv' : nw_L} {i : Nat} {v : Value} (h : nw_lr ad ls nL lv) (hv : nw_sto lv i v = some lv') : i < nL := by
  rw [← h.2]
  exact (nw_sto_len lv i v lv' hv).2
theorem nw_as_pad (ad : Nat → Nat) : ∀ (lv : nw_L) (n i : Nat), lv.length ≤ n → nw_as ad i (nw_pad lv n) = nw_as ad i lv
  | [], 0, i, _ => rfl
  | [], n + 1, i, _ => nw_as_pad ad [] n (i + 1) (Nat.zero_le _)
  | a :: t, 0, i, h => by simp at h
  | a :: t, n + 1, i, h => by
    have h1 := nw_as_pad ad t n (i + 1) (by simpa using h)
    cases a with
    | none => exact h1
    | some v => show _ :: _ = _ :: _; rw [h1]
theorem nw_pad_len : ∀ (lv : nw_L) (n : Nat), (nw_pad lv n).length = n
  | _, 0 => by cases ‹nw_L› <;> rfl
  | [], n + 1 => by simp only [nw_pad, List.length_cons, nw_pad_len [] n]
  | _ :: t, n + 1 => by simp only [nw_pad, List.length_cons, nw_pad_len t n]
theorem nw_as_ea (ad : Nat → Nat) : ∀ (as : List Value) (i : Nat), nw_as ad i (nw_ea as) = lv_args i (as.map (nw_tv ad))
  | [], _ => rfl
  | .long x :: t, i => by
    show (i, Value.long x) :: nw_as ad (i + 1 + 1) (nw_ea t) = (i, Value.long x) :: lv_args (i + 2) (t.map (nw_tv ad))
    rw [nw_as_ea ad t (i + 1 + 1)]
  | .double x :: t, i => by
    show (i, Value.double x) :: nw_as ad (i + 1 + 1) (nw_ea t) = (i, Value.double x) :: lv_args (i + 2) (t.map (nw_tv ad))
    rw [nw_as_ea ad t (i + 1 + 1)]
  | .int x :: t, i => by
    show (i, Value.int x) :: nw_as ad (i + 1) (nw_ea t) = (i, Value.int x) :: lv_args (i + 1) (t.map (nw_tv ad))
    rw [nw_as_ea ad t (i + 1)]
  | .float x :: t, i => by
    show (i, Value.float x) :: nw_as ad (i + 1) (nw_ea t) = (i, Value.float x) :: lv_args (i + 1) (t.map (nw_tv ad))
    rw [nw_as_ea ad t (i + 1)]
  | .null :: t, i => by
    show (i, Value.null) :: nw_as ad (i + 1) (nw_ea t) = (i, Value.null) :: lv_args (i + 1) (t.map (nw_tv ad))
    rw [nw_as_ea ad t (i + 1)]
  | .ref x :: t, i => by
    show (i, Value.ref (ad x)) :: nw_as ad (i + 1) (nw_ea t) = (i, Value.ref (ad x)) :: lv_args (i + 1) (t.map (nw_tv ad))
    rw [nw_as_ea ad t (i + 1)]
  | .retAddr x :: t, i => by
    show (i, Value.retAddr x) :: nw_as ad (i + 1) (nw_ea t) = (i, Value.retAddr x) :: lv_args (i + 1) (t.map (nw_tv ad))
    rw [nw_as_ea ad t (i + 1)]
theorem nw_ea_len (ad : Nat → Nat) : ∀ (as : List Value), (lg_sl (as.map (nw_tv ad))).length = (nw_ea as).length
  | [] => rfl
  | v :: t => by
    have h := nw_ea_len ad t
    unfold lg_sl at h ⊢
    rw [List.map_cons, List.flatMap_cons, List.length_append, h]
    cases v <;> simp [nw_tv, Value.category, nw_ea] <;> omega
/-- a method's entry -/
theorem nw_lr_entry (ad : Nat → Nat) (as : List Value) {n : Nat} (h : (nw_ea as).length ≤ n) : nw_lr ad ((lg_sl (as.map (nw_tv ad)) ++ List.replicate (n - (lg_sl (as.map (nw_tv ad))).length) Slot.unset).toArray) n (nw_pad (nw_ea as) n) := by
  refine ⟨?_, nw_pad_len _ _⟩
  rw [nw_as_pad ad _ _ _ h, nw_as_ea]
  exact lv_entry _ (by rw [nw_ea_len]; exact h)
/-! the cells -/
def nw_fv (ad : Nat → Nat) (mem : nw_M) (c : Nat) : Nat → List (Option Nat) → List Value
  | _, [] => []
  | k, none :: t => .int (mem c k) :: nw_fv ad mem c (k + 1) t
  | k, some j :: t => .ref (ad j) :: nw_fv ad mem c (k + 1) t
def nw_cel (ad : Nat → Nat) (cy : Bool → ClassId) (mem : nw_M) (c : Nat) : nw_E → va_E
  | .inl (ci, fs) => .inr (ci, nw_fv ad mem c 0 fs)
  | .inr (z, n) => .inl (cy z, n, .inl (mem c))
def nw_pic (ad : Nat → Nat) (cy : Bool → ClassId) (mem : nw_M) : Nat → nw_Sh → va_W
  | _, [] => []
  | c, e :: t => (ad c, nw_cel ad cy mem c e) :: nw_pic ad cy mem (c + 1) t
theorem nw_pic_get (ad : Nat → Nat) (cy : Bool → ClassId) (mem : nw_M) : ∀ (sh : nw_Sh) (c i : Nat), (nw_pic ad cy mem c sh)[i]? = (sh[i]?).map (fun e => (ad (c + i), nw_cel ad cy mem (c + i) e))
  | [], _, _ => rfl
  | e :: t, c, 0 => rfl
  | e :: t, c, i + 1 => by
    show (nw_pic ad cy mem (c + 1) t)[i]? = _
    rw [nw_pic_get ad cy mem t (c + 1) i, show c + 1 + i = c + (i + 1) by omega]
    rfl
theorem nw_pic_at {ad : Nat → Nat} {cy : Bool → ClassId} {mem : nw_M} {sh : nw_Sh} {i : Nat} {e : nw_E} (h : sh[i]? = some e) : (nw_pic ad cy mem 0 sh)[i]? = some (ad i, nw_cel ad cy mem i e) := by
  rw [nw_pic_get, h, Nat.zero_add]
  rfl
theorem nw_fv_get (ad : Nat → Nat) (mem : nw_M) (c : Nat) : ∀ (fs : List (Option Nat)) (k0 k : Nat) (f : Option Nat), fs[k]? = some f → (nw_fv ad mem c k0 fs)[k]? = some (match f with
    | none => .int (mem c (k0 + k))
    | some j => .ref (ad j))
  | [], _, _, _, h => by simp at h
  | g :: t, k0, 0, f, h => by
    have h1 : g = f := by simpa using h
    subst h1
    cases g <;> rfl
  | g :: t, k0, k + 1, f, h => by
    have h1 := nw_fv_get ad mem c t (k0 + 1) k f (by simpa using h)
    rw [show k0 + 1 + k = k0 + (k + 1) by omega] at h1
    cases g <;> exact h1
theorem nw_fv_same (ad : Nat → Nat) {mem mem' : nw_M} (c : Nat) : ∀ (fs : List (Option Nat)) (k0 : Nat), (∀ k, k0 ≤ k → mem' c k = mem c k) → nw_fv ad mem' c k0 fs = nw_fv ad mem c k0 fs
  | [], _, _ => rfl
  | none :: t, k0, h => by
    simp only [nw_fv]
    rw [h k0 (Nat.le_refl _), nw_fv_same ad c t (k0 + 1) (fun k hk => h k (by omega))]
  | some j :: t, k0, h => by
    simp only [nw_fv]
    rw [nw_fv_same ad c t (k0 + 1) (fun k hk => h k (by omega))]
theorem nw_fv_set (ad : Nat → Nat) {mem mem' : nw_M} (c : Nat) : ∀ (fs : List (Option Nat)) (k0 k : Nat), fs[k]? = some none → (∀ j, ¬ j = k0 + k → mem' c j = mem c j) → (nw_fv ad mem c k0 fs).set k (.int (mem' c (k0 + k))) = nw_fv ad mem' c k0 fs
  | [], _, _, h, _ => by simp at h
  | g :: t, k0, 0, h, hm => by
    have h1 : g = none := by simpa using h
    subst h1
    simp only [nw_fv, List.set_cons_zero, Nat.add_zero]
    rw [nw_fv_same ad c t (k0 + 1) (mem' := mem') (mem := mem) (fun k hk => hm k (by omega))]
  | g :: t, k0, k + 1, h, hm => by
    have h1 := nw_fv_set ad (mem := mem) (mem' := mem') c t (k0 + 1) k (by simpa using h) (fun j hj => hm j (by omega))
    rw [show k0 + 1 + k = k0 + (k + 1) by omega] at h1
    cases g with
    | none =>
      simp only [nw_fv, List.set_cons_succ, h1]
      rw [hm k0 (by omega)]
    | some j => simp only [nw_fv, List.set_cons_succ, h1]
theorem nw_pic_len (ad : Nat → Nat) (cy : Bool → ClassId) (mem : nw_M) : ∀ (sh : nw_Sh) (c : Nat), (nw_pic ad cy mem c sh).length = sh.length
  | [], _ => rfl
  | _ :: t, c => by simp only [nw_pic, List.length_cons, nw_pic_len ad cy mem t (c + 1)]
theorem nw_cel_same {ad : Nat → Nat} {cy : Bool → ClassId} {mem mem' : nw_M} {c : Nat} (h : mem' c = mem c) (e : nw_E) : nw_cel ad cy mem' c e = nw_cel ad cy mem c e := by
  cases e with
  | inl q => simp only [nw_cel]; rw [nw_fv_same ad c q.2 0 (fun k _ => by rw [h])]
  | inr q => simp only [nw_cel, h]
/-- one cell is another now -/
theorem nw_pic_set {ad : Nat → Nat} {cy : Bool → ClassId} {mem mem' : nw_M} {sh : nw_Sh} {i : Nat} {e : nw_E} (h : sh[i]? = some e) (hm : ∀ c, ¬ c = i → mem' c = mem c) {x : va_E} (hx : x = nw_cel ad cy mem' i e) : (nw_pic ad cy mem 0 sh).set i (ad i, x) = nw_pic ad cy mem' 0 sh := by
  subst hx
  refine List.ext_getElem? (fun j => ?_)
  by_cases hj : j = i
  · subst hj
    have hl : j < (nw_pic ad cy mem 0 sh).length := by rw [nw_pic_len]; exact (List.getElem?_eq_some_iff.mp h).1
    rw [List.getElem?_set_self hl, nw_pic_at h]
  · rw [List.getElem?_set_ne (Ne.symm hj), nw_pic_get, nw_pic_get, Nat.zero_add]
    cases sh[j]? with
    | none => rfl
    | some e2 => simp only [Option.map_some]; rw [nw_cel_same (hm j hj)]
theorem nw_up_ne {mem : nw_M} {c k : Nat} {v : Int32} {a : Nat} (h : ¬ a = c) : nw_up mem c k v a = mem a := by simp [nw_up, nw_row, h]
theorem nw_up_eq {mem : nw_M} {c k : Nat} {v : Int32} : nw_up mem c k v c = upd (mem c) k v := by simp [nw_up, nw_row]
theorem nw_row_ne {mem : nw_M} {c : Nat} {f : Nat → Int32} {a : Nat} (h : ¬ a = c) : nw_row mem c f a = mem a := by simp [nw_row, h]
theorem nw_row_eq {mem : nw_M} {c : Nat} {f : Nat → Int32} : nw_row mem c f c = f := by simp [nw_row]
theorem nw_al_ok {sh : nw_Sh} {z : Bool} {c n : Nat} (h : nw_al sh z c = some n) : sh[c]? = some (.inr (z, n)) := by
  unfold nw_al at h
  split at h
  · rename_i b m e
    by_cases hb : b = z
    · rw [if_pos hb] at h
      cases h
      subst hb
      exact e
    · rw [if_neg hb] at h
      cases h
  · cases h
theorem nw_fk_ok {sh : nw_Sh} {c ci k : Nat} {f : Option Nat} (h : nw_fk sh c ci k = some f) : ∃ fs, sh[c]? = some (.inl (ci, fs)) ∧ fs[k]? = some f := by
  unfold nw_fk at h
  split at h
  · rename_i cj fs e
    by_cases hb : cj = ci
    · rw [if_pos hb] at h
      subst hb
      exact ⟨fs, e, h⟩
    · rw [if_neg hb] at h
      cases h
  · cases h
theorem nw_cl_ok {sh : nw_Sh} {c ci : Nat} (h : nw_cl sh c = some ci) : ∃ fs, sh[c]? = some (.inl (ci, fs)) := by
  unfold nw_cl at h
  split at h
  · rename_i cj fs e
    cases h
    exact ⟨fs, e⟩
  · cases h
end
section
/-! contracts of the small machine's methods, and what they carry along -/
abbrev nw_ty (cy : Bool → ClassId) : List (ClassId × FieldType) := [(cy false, .int), (cy true, .boolean)]
def nw_En (ad adV : Nat → Nat) (A : Nat → Prop) (U : State) (H : Heap) : Prop :=
  (∀ q ∈ nw_NF, va_Nw (nw_nfw q) U) ∧ (∀ q ∈ nw_NM, va_Nw (nw_nmw q) U) ∧ (∀ (j i : Nat) (tx : String), nw_sx[j]? = some (i, tx) → vk_R RX2 i tx (ad (100 + j)) U) ∧ vk_S 9 nw_sn nw_sb (fun j => ad (100 + j)) adV A U H ∧ va_Z "java/lang/String" "COMPACT_STRINGS" "Z" (.int 1) A U H ∧ va_Zq "jdk/internal/util/Preconditions" "SIOOBE_FORMATTER" "Ljava/util/function/BiFunction;" A U H
theorem nw_nfw_on (q : Nat × Nat × Nat × Nat) : (nw_nfw q).onTables = true := by
  unfold nw_nfw
  split <;> rfl
theorem nw_nfw_warm {s U : State} (hW : s.WarmedH U.vm) (q : Nat × Nat × Nat × Nat) (h : va_Nw (nw_nfw q) s) : va_Nw (nw_nfw q) U := by
  unfold nw_nfw at h ⊢
  split
  · rename_i r e
    rw [e] at h
    exact va_Nw.warmF hW h
  · rfl
theorem nw_En_warm {ad adV : Nat → Nat} {A B : Nat → Prop} {s U : State} {H : Heap} (hW : s.WarmedH U.vm) (h : nw_En ad adV A s s.heap) (hH : ∀ a : Nat, a < s.heap.size → ¬ A a → H[a]? = s.heap[a]?) (hAB : ∀ q, B q → A q) : nw_En ad adV B U H := by
  obtain ⟨h1, h2, h3, h4, h5, h6⟩ := h
  exact ⟨fun q hq => nw_nfw_warm hW q (h1 q hq), fun q hq => va_Nw.warmM hW (h2 q hq), fun j i tx hj => (h3 j i tx hj).warm hW, ((h4.kept hH).moved hW.alike).narrow hAB, ((h5.kept hH).moved hW.alike).narrow hAB, ((h6.kept hH).moved hW.alike).narrow hAB⟩
theorem nw_En_same {ad adV : Nat → Nat} {A : Nat → Prop} {u U : State} {H : Heap} (hv : u.vm = U.vm) (h : nw_En ad adV A u H) : nw_En ad adV A U H := by
  obtain ⟨h1, h2, h3, h4, h5, h6⟩ := h
  have al : u.vm.Alike U.vm := by rw [hv]; exact Vm.Alike.refl U.vm
  exact ⟨fun q hq => va_Nw.same (nw_nfw_on q) hv (h1 q hq), fun q hq => va_Nw.same rfl hv (h2 q hq), fun j i tx hj => (h3 j i tx hj).same hv.symm, h4.moved al, h5.moved al, h6.moved al⟩
def nw_Pre (D : va_G) (ad adV : Nat → Nat) (cy : Bool → ClassId) (sh : nw_Sh) (sz : Nat) (mem : nw_M) (U : State) : Prop :=
  U.heap.size = sz ∧ va_P D nw_cls (nw_pic ad cy mem 0 sh) U.heap ∧ va_K D nw_cls (nw_ty cy) U ∧ va_D (fun _ => True) (nw_pic ad cy mem 0 sh) ∧ nw_En ad adV (va_A (nw_pic ad cy mem 0 sh) sz) U U.heap
def nw_B (D : va_G) (ad : Nat → Nat) (cy : Bool → ClassId) (sh : nw_Sh) (A : Nat → Prop) (mem : nw_M) (t : State) : Prop := va_P D nw_cls (nw_pic ad cy mem 0 sh) t.heap ∧ va_D A (nw_pic ad cy mem 0 sh)
def nw_Qr (D : va_G) (ad : Nat → Nat) (cy : Bool → ClassId) (sh : nw_Sh) (A : Nat → Prop) (P : nw_K) : Option FieldType → Array Value → State → Outcome → State → Prop
  | none => va_Qv (fun u : nw_M => P none u) (nw_B D ad cy sh A) A
  | some _ => va_Qi (fun (r : Int32) (u : nw_M) => P (some (.int r)) u) (nw_B D ad cy sh A) A
def nw_rm (d : Nat) : Room := { frames := d + 8, cells := 0, slots := 0, locals := 64 * (d + 8) }
def nw_ws (k : Nat) : List Cond := nw_code k :: nw_TBL
theorem nw_good {ws : List Cond} (h : ∀ w ∈ ws, w ∈ nw_TBL) : GoodIn nw_TBL ws := fun w hw => ⟨h w hw, good_of_word (nw_TBL_good (h w hw))⟩
theorem nw_ws_in {k : Nat} (h : nw_code k ∈ nw_TBL) : ∀ w ∈ nw_ws k, w ∈ nw_TBL := fun w hw => (List.mem_cons.mp hw).elim (fun e => e ▸ h) (fun h => h)
theorem nw_blind {D : va_G} {ad adV : Nat → Nat} {cy : Bool → ClassId} {sh : nw_Sh} {sz : Nat} {mem : nw_M} {av : List Value} : FrameBlind (va_Pc av (nw_Pre D ad adV cy sh sz mem)) := by
  intro a U g mk q
  obtain ⟨q0, q1, qP, qK, qD, qE⟩ := q
  exact ⟨q0, q1, qP, va_K.moved (u := U) (U := U.calling g mk a) (Vm.Alike.refl U.vm) qK, qD, nw_En_same (u := U) (U := U.calling g mk a) rfl qE⟩
theorem nw_sub {A : Nat → Prop} {ws : va_W} {H0 H : Heap} {locs : List Loc} (hD : va_D A ws) (hS : va_S A H0 H locs) (hA : ∀ q, H0.size ≤ q → A q) : ∀ q, va_A ws H.size q → A q := by
  rintro q (⟨k, e, h⟩ | h)
  · exact hD.2 k _ h
  · exact hA q (Nat.le_trans hS.1 h)
/-- what stands at a call -/
theorem nw_pre_at {D : va_G} {ad adV : Nat → Nat} {cy : Bool → ClassId} {sh : nw_Sh} {A : Nat → Prop} {s : State} {H : Heap} {locs : List Loc} {mem : nw_M} (hK : va_K D nw_cls (nw_ty cy) s) (hE : nw_En ad adV A s s.heap) (hA : ∀ q, s.heap.size ≤ q → A q) (hP : va_P D nw_cls (nw_pic ad cy mem 0 sh) H) (hD : va_D A (nw_pic ad cy mem 0 sh)) (hS : va_S A s.heap H locs) {U : State} (hU : U.heap = H) (hW : s.WarmedH U.vm) : nw_Pre D ad adV cy sh H.size mem U := by
  refine ⟨by rw [hU], by rw [hU]; exact hP, va_K.moved hW.alike hK, hD.weaken (fun _ _ _ _ => trivial), ?_⟩
  rw [hU]
  exact nw_En_warm hW hE hS.2.1 (nw_sub hD hS hA)
theorem nw_pop_ok : ∀ (n : Nat) (st acc as r : List Value), nw_pop n st acc = some (as, r) → ∃ pre : List Value, st = pre ++ r ∧ as = pre.reverse ++ acc ∧ pre.length = n
  | 0, st, acc, as, r, h => by
    simp only [nw_pop, Option.some.injEq, Prod.mk.injEq] at h
    exact ⟨[], by rw [h.2]; rfl, by rw [h.1]; rfl, rfl⟩
  | n + 1, [], acc, as, r, h => by simp [nw_pop] at h
  | n + 1, v :: st, acc, as, r, h => by
    obtain ⟨pre, h1, h2, h3⟩ := nw_pop_ok n st (v :: acc) as r h
    exact ⟨v :: pre, by rw [h1]; rfl, by rw [h2]; simp, by simp [h3]⟩
theorem nw_cat_le (v : Value) : v.category ≤ 2 := by cases v <;> simp [Value.category]
theorem nw_sml_ok {ad : Nat → Nat} {r : List Value} (h : nw_sml r = true) : ((r.map (nw_tv ad)).map fun v => v.category).sum ≤ 8 := by
  match r, h with
  | [], _ => simp
  | [a], _ =>
    have h1 := nw_cat_le (nw_tv ad a)
    simp; omega
  | [a, b], _ =>
    have h1 := nw_cat_le (nw_tv ad a); have h2 := nw_cat_le (nw_tv ad b)
    simp; omega
  | [a, b, c], _ =>
    have h1 := nw_cat_le (nw_tv ad a); have h2 := nw_cat_le (nw_tv ad b); have h3 := nw_cat_le (nw_tv ad c)
    simp; omega
  | [a, b, c, d], _ =>
    have h1 := nw_cat_le (nw_tv ad a); have h2 := nw_cat_le (nw_tv ad b); have h3 := nw_cat_le (nw_tv ad c); have h4 := nw_cat_le (nw_tv ad d)
    simp; omega
/-- the contracts of String.length and String.charAt on the class's constants -/
def nw_StrL (l : Launch) (D : va_G) (ad adV : Nat → Nat) (cy : Bool → ClassId) (sh : nw_Sh) : Prop := ∀ (j : Nat), j < 9 → ∀ (sz : Nat) (mem : nw_M),
  Met l yJ0_length_8abf5 (Cond.code yJ0_length_8abf5 cJ0_length_8abf5 1 (some .int) :: nw_TBL) (nw_rm 0) (va_Pc [.ref (ad (100 + j))] (nw_Pre D ad adV cy sh sz mem)) (nw_Qr D ad cy sh (va_A (nw_pic ad cy mem 0 sh) sz) (fun v u => v = some (.int (Int32.ofNat (nw_sn.getD j 0))) ∧ u = mem) (some .int)) 0 0 (va_A (nw_pic ad cy mem 0 sh) sz)
def nw_StrC (l : Launch) (D : va_G) (ad adV : Nat → Nat) (cy : Bool → ClassId) (sh : nw_Sh) : Prop := ∀ (j : Nat), j < 9 → ∀ (i : Int32), vp_in i (nw_sn.getD j 0) → ∀ (sz : Nat) (mem : nw_M),
  Met l yJ0_charAt_5068e (Cond.code yJ0_charAt_5068e cJ0_charAt_5068e 2 (some .char) :: nw_TBL) (nw_rm 0) (va_Pc [.ref (ad (100 + j)), .int i] (nw_Pre D ad adV cy sh sz mem)) (nw_Qr D ad cy sh (va_A (nw_pic ad cy mem 0 sh) sz) (fun v u => v = some (.int ((nw_sb.getD j []).getD i.toNatClampNeg 0)) ∧ u = mem) (some .char)) 0 0 (va_A (nw_pic ad cy mem 0 sh) sz)
/-- what holds in a method of the small machine's, from its entry on -/
def nw_Cx (p : Program) (l : Launch) (s : State) (m : MethodId) (args : Array Value) (meth : Method) (c : Code) (D : va_G) (ad adV : Nat → Nat) (cy : Bool → ClassId) (sh : nw_Sh) (k : Nat) (A : Nat → Prop) : Prop :=
  p.tables.exec = Jvm.exec ∧ c.code = nw_kB k ∧ c.maxLocals = nw_kL k ∧ s.vm.findClass (nw_cn (nw_kO k)) = some m.cls ∧ (∀ w ∈ nw_TBL, w.before args s = true) ∧ meth.sig.returnType = nw_kR k ∧ meth.locks = false ∧ va_K D nw_cls (nw_ty cy) s ∧ nw_En ad adV A s s.heap ∧ (∀ q, s.heap.size ≤ q → A q) ∧ nw_StrL l D ad adV cy sh ∧ nw_StrC l D ad adV cy sh
abbrev nw_W (p : Program) (l : Launch) (e : Env) (s : State) (m : MethodId) (args : Array Value) (below : List Frame) (meth : Method) (c : Code) (D : va_G) (ad : Nat → Nat) (cy : Bool → ClassId) (sh : nw_Sh) (d nL : Nat) (A : Nat → Prop) (Z : State → Prop) : nw_X := fun pc lv st mem =>
  ∀ (H : Heap) (locs : List Loc) (ls : Array Slot), va_P D nw_cls (nw_pic ad cy mem 0 sh) H → va_D A (nw_pic ad cy mem 0 sh) → va_S A s.heap H locs → nw_lr ad ls nL lv → W p l e (nw_rm (d + 1)) s m args below meth c H locs 0 0 Z (F0 m pc ls (st.map (nw_tv ad)))
/-- behind a call -/
theorem nw_after {p : Program} {l : Launch} {e : Env} {R : Room} {s : State} {m : MethodId} {args : Array Value} {below : List Frame} {meth : Method} {c : Code} {H : Heap} {locs : List Loc} {D : va_G} {ad : Nat → Nat} {cy : Bool → ClassId} {sh : nw_Sh} {A : Nat → Prop} {Z : State → Prop} {mem : nw_M} {pc : Nat} {ls : Array Slot} {st0 rest : List Value} {P : nw_K} {a : Array Value} {ret : Option FieldType}
    (hD : va_D A (nw_pic ad cy mem 0 sh)) (hS : va_S A s.heap H locs) (hA : ∀ q, s.heap.size ≤ q → A q)
    (hr : va_Run p l e R s m args below meth c H locs 0 0 0 0 (F0 m pc ls st0) rest (nw_Qr D ad cy sh (va_A (nw_pic ad cy mem 0 sh) H.size) P ret a) (va_A (nw_pic ad cy mem 0 sh) H.size))
    (kk : ∀ (v : Option Value) (mem' : nw_M) (H1 : Heap) (locs1 : List Loc), (∀ x, v = some x → ∃ z, x = .int z) → P v mem' → va_P D nw_cls (nw_pic ad cy mem' 0 sh) H1 → va_D A (nw_pic ad cy mem' 0 sh) → va_S A s.heap H1 locs1 → W p l e R s m args below meth c H1 locs1 0 0 Z (F0 m (pc + 3) ls (nw_psh v rest))) :
    W p l e R s m args below meth c H locs 0 0 Z (F0 m pc ls st0) := by
  have hF := nw_sub hD hS hA
  cases ret with
  | none =>
    refine va_callv (a := a) hr hS (fun q _ h => hF q h) hF (fun u t H1 locs1 ht hvm hw hB hz1 hk1 hS1 => ?_)
    obtain ⟨b1, b2⟩ := hB
    rw [ht] at b1
    exact kk none u H1 locs1 (fun x h => by cases h) hw b1 (b2.weaken (fun _ q _ h => hF _ h)) hS1
  | some ty =>
    refine va_calli (a := a) hr hS (fun q _ h => hF q h) hF (fun r u t H1 locs1 ht hvm hw hB hz1 hk1 hS1 => ?_)
    obtain ⟨b1, b2⟩ := hB
    rw [ht] at b1
    exact kk (some (.int r)) u H1 locs1 (fun x h => by cases h; exact ⟨r, rfl⟩) hw b1 (b2.weaken (fun _ q _ h => hF _ h)) hS1
end
section
/-! every instruction of the small machine's, in the JVM's -/
section NWS
variable {G : nw_O → Prop} {st : List Value} {lv : nw_L} {i : Nat}
theorem nw_on_none (h : nw_on none G) : False := h
theorem nw_i1_inv {k : Int32 → List Value → nw_O} (h : nw_on (nw_i1 st k) G) : ∃ x r, st = .int x :: r ∧ G (k x r) := by
  unfold nw_i1 at h
  split at h
  · exact ⟨_, _, rfl, h⟩
  · exact (nw_on_none h).elim
theorem nw_i2_inv {k : Int32 → Int32 → List Value → nw_O} (h : nw_on (nw_i2 st k) G) : ∃ x y r, st = .int y :: .int x :: r ∧ G (k x y r) := by
  unfold nw_i2 at h
  split at h
  · exact ⟨_, _, _, rfl, h⟩
  · exact (nw_on_none h).elim
theorem nw_l2_inv {k : Int64 → Int64 → List Value → nw_O} (h : nw_on (nw_l2 st k) G) : ∃ x y r, st = .long y :: .long x :: r ∧ G (k x y r) := by
  unfold nw_l2 at h
  split at h
  · exact ⟨_, _, _, rfl, h⟩
  · exact (nw_on_none h).elim
theorem nw_l1_inv {k : Int64 → List Value → nw_O} (h : nw_on (nw_l1 st k) G) : ∃ x r, st = .long x :: r ∧ G (k x r) := by
  unfold nw_l1 at h
  split at h
  · exact ⟨_, _, rfl, h⟩
  · exact (nw_on_none h).elim
theorem nw_li_inv {k : Int64 → Int32 → List Value → nw_O} (h : nw_on (nw_li st k) G) : ∃ x y r, st = .int y :: .long x :: r ∧ G (k x y r) := by
  unfold nw_li at h
  split at h
  · exact ⟨_, _, _, rfl, h⟩
  · exact (nw_on_none h).elim
theorem nw_ldI_inv {k : Int32 → nw_O} (h : nw_on (nw_ldI lv i k) G) : ∃ x, nw_ld lv i = some (.int x) ∧ G (k x) := by
  unfold nw_ldI at h
  split at h
  · rename_i x e
    exact ⟨x, e, h⟩
  · exact (nw_on_none h).elim
theorem nw_ldL_inv {k : Int64 → nw_O} (h : nw_on (nw_ldL lv i k) G) : ∃ x, nw_ld lv i = some (.long x) ∧ G (k x) := by
  unfold nw_ldL at h
  split at h
  · rename_i x e
    exact ⟨x, e, h⟩
  · exact (nw_on_none h).elim
theorem nw_ldR_inv {k : Nat → nw_O} (h : nw_on (nw_ldR lv i k) G) : ∃ x, nw_ld lv i = some (.ref x) ∧ G (k x) := by
  unfold nw_ldR at h
  split at h
  · rename_i x e
    exact ⟨x, e, h⟩
  · exact (nw_on_none h).elim
theorem nw_stI_inv {k : nw_L → List Value → nw_O} (h : nw_on (nw_stI lv i st k) G) : ∃ x r lv', st = .int x :: r ∧ nw_sto lv i (.int x) = some lv' ∧ G (k lv' r) := by
  unfold nw_stI at h
  split at h
  · split at h
    · rename_i x r _ lv' e
      exact ⟨x, r, lv', rfl, e, h⟩
    · exact (nw_on_none h).elim
  · exact (nw_on_none h).elim
theorem nw_stR_inv {k : nw_L → List Value → nw_O} (h : nw_on (nw_stR lv i st k) G) : ∃ x r lv', st = .ref x :: r ∧ nw_sto lv i (.ref x) = some lv' ∧ G (k lv' r) := by
  unfold nw_stR at h
  split at h
  · split at h
    · rename_i x r _ lv' e
      exact ⟨x, r, lv', rfl, e, h⟩
    · exact (nw_on_none h).elim
  · exact (nw_on_none h).elim
end NWS
theorem nw_nn_t {pc : Nat} {off : Int} (h : nw_nn pc off = true) : (pc : Int) + off = ((nw_t pc off : Nat) : Int) := by
  have h1 : 0 ≤ (pc : Int) + off := of_decide_eq_true h
  unfold nw_t
  omega
section NWT
variable {p : Program} {l : Launch} {e : Env} {s : State} {m : MethodId} {args : Array Value} {below : List Frame} {meth : Method} {c : Code} {D : va_G} {ad adV : Nat → Nat} {cy : Bool → ClassId} {sh : nw_Sh} {d k : Nat} {A : Nat → Prop} {Z : State → Prop} {pc : Nat} {lv : nw_L} {st : List Value} {mem : nw_M}
/-- a compare and its branch -/
theorem nw_snd_cmp (hx : p.tables.exec = Jvm.exec) (hb : c.code = nw_kB k) {x y : Int32} {r : List Value} {off : Int} {cd : ClassFile.Cond} (ht : nw_nn pc off = true) (hd : decode (nw_kB k) pc = .ok (.if_icmp cd off, 3)) (h : nw_A (nw_W p l e s m args below meth c D ad cy sh d (nw_kL k) A Z) (nw_cmp pc lv mem off x y r cd)) : nw_W p l e s m args below meth c D ad cy sh d (nw_kL k) A Z pc lv (.int y :: .int x :: r) mem := by
  intro H locs ls hP hD hS hl
  cases cd
  · exact lv_icmp_eq hx hb hd (nw_nn_t ht) (fun q => h.1 q H locs ls hP hD hS hl) (fun q => h.2 q H locs ls hP hD hS hl)
  · exact lv_icmp_ne hx hb hd (nw_nn_t ht) (fun q => h.2 q H locs ls hP hD hS hl) (fun q => h.1 q H locs ls hP hD hS hl)
  · exact lv_icmp_lt hx hb hd (nw_nn_t ht) (fun q => h.1 q H locs ls hP hD hS hl) (fun q => h.2 q H locs ls hP hD hS hl)
  · exact lv_icmp_ge hx hb hd (nw_nn_t ht) (fun q => h.1 q H locs ls hP hD hS hl) (fun q => h.2 q H locs ls hP hD hS hl)
  · exact lv_icmp_gt hx hb hd (nw_nn_t ht) (fun q => h.1 q H locs ls hP hD hS hl) (fun q => h.2 q H locs ls hP hD hS hl)
  · exact lv_icmp_le hx hb hd (nw_nn_t ht) (fun q => h.1 q H locs ls hP hD hS hl) (fun q => h.2 q H locs ls hP hD hS hl)
theorem nw_snd_if (hx : p.tables.exec = Jvm.exec) (hb : c.code = nw_kB k) {x : Int32} {r : List Value} {off : Int} {cd : ClassFile.Cond} (ht : nw_nn pc off = true) (hd : decode (nw_kB k) pc = .ok (.ifCond cd off, 3)) (h : nw_A (nw_W p l e s m args below meth c D ad cy sh d (nw_kL k) A Z) (nw_cmp pc lv mem off x 0 r cd)) : nw_W p l e s m args below meth c D ad cy sh d (nw_kL k) A Z pc lv (.int x :: r) mem := by
  intro H locs ls hP hD hS hl
  cases cd
  · exact lv_if_eq hx hb hd (nw_nn_t ht) (fun q => h.1 q H locs ls hP hD hS hl) (fun q => h.2 q H locs ls hP hD hS hl)
  · exact lv_if_ne hx hb hd (nw_nn_t ht) (fun q => h.2 q H locs ls hP hD hS hl) (fun q => h.1 q H locs ls hP hD hS hl)
  · exact lv_if_lt hx hb hd (nw_nn_t ht) (fun q => h.1 q H locs ls hP hD hS hl) (fun q => h.2 q H locs ls hP hD hS hl)
  · exact lv_if_ge hx hb hd (nw_nn_t ht) (fun q => h.1 q H locs ls hP hD hS hl) (fun q => h.2 q H locs ls hP hD hS hl)
  · exact lv_if_gt hx hb hd (nw_nn_t ht) (fun q => h.1 q H locs ls hP hD hS hl) (fun q => h.2 q H locs ls hP hD hS hl)
  · exact lv_if_le hx hb hd (nw_nn_t ht) (fun q => h.1 q H locs ls hP hD hS hl) (fun q => h.2 q H locs ls hP hD hS hl)
theorem nw_cls_ty {ci : Nat} {r : vw_C} (h : nw_cls[ci]? = some r) : ∃ ty0 : Nat → FieldType, (∀ k, k < r.2.2 → parseFieldDescriptor (r.2.1 k).2.2.1 = some (ty0 k)) ∧ ∀ a, a < r.2.2 → ∀ b, b < r.2.2 → a ≠ b → (r.2.1 a).2.1 ≠ (r.2.1 b).2.1 := by
  match ci, h with
  | 0, h => cases h; exact ⟨tyX5, tyX5_ok, nmX5⟩
  | 1, h => cases h; exact ⟨tyX3, tyX3_ok, nmX3⟩
  | 2, h => cases h; exact ⟨tyX2, tyX2_ok, nmX2⟩
  | 3, h => cases h; exact ⟨tyX4, tyX4_ok, nmX4⟩
  | 4, h => cases h; exact ⟨tyX6, tyX6_ok, nmX6⟩
  | n + 5, h => simp [nw_cls] at h
/-- the int fields of the classes: not final, of type int -/
def nw_int (ci k : Nat) : Prop := ∀ r : vw_C, nw_cls[ci]? = some r → (r.2.1 k).2.2.2 = false ∧ (r.2.1 k).2.2.1 = "I"
/-- where a shape says 'an int', the class does -/
def nw_shok (sh : nw_Sh) : Prop := ∀ (c ci : Nat) (fs : List (Option Nat)), sh[c]? = some (.inl (ci, fs)) → ∀ k : Nat, fs[k]? = some none → nw_int ci k
def nw_gv (x : Int32) : Option Nat → Value
  | none => .int x
  | some j => .ref j
theorem nw_snd_get (C0 : nw_Cx p l s m args meth c D ad adV cy sh k A) {i : Nat} (hd : decode (nw_kB k) pc = .ok (.getfield i, 3)) {ci kf : Nat} (hf : nw_rF (nw_kO k) i = some (ci, kf)) {a : Nat} {r : List Value} {f : Option Nat} (hk : nw_fk sh a ci kf = some f)
    (h : nw_W p l e s m args below meth c D ad cy sh d (nw_kL k) A Z (pc + 3) lv (nw_gv (mem a kf) f :: r) mem) : nw_W p l e s m args below meth c D ad cy sh d (nw_kL k) A Z pc lv (.ref a :: r) mem := by
  obtain ⟨hx, hb, hml, hown, hts, hr, hlocks, hK, hE, hA, hSL, hSC⟩ := C0
  intro H locs ls hP hD hS hl
  obtain ⟨rc, h1, h2, h3, h4, h5⟩ := nw_rF_ok hf
  obtain ⟨fs, g1, g2⟩ := nw_fk_ok hk
  have hv : (nw_fv ad mem a 0 fs)[kf]? = some (nw_tv ad (nw_gv (mem a kf) f)) := by
    rw [nw_fv_get ad mem a fs 0 kf f g2, Nat.zero_add]
    cases f <;> rfl
  obtain ⟨C, T, N⟩ := rc
  dsimp only at h1 h2 h3 h4 h5
  have h6 : ∀ x, s.fieldFound? (T kf).1 (T kf).2.1 (T kf).2.2.1 = some x → s.fieldFound? C (T kf).2.1 (T kf).2.2.1 = some x := fun x q => by rw [← h3]; exact q
  rcases h5 with h5 | h5
  · exact va_get (D := D) (ci := ci) (C := C) (T := T) (N := N) hx hb hts h4 hown hK hP a (nw_pic_at g1) h1 kf h2 (hts _ h5) h6 hv hd (h H locs ls hP hD hS hl)
  · have h7 := hE.1 _ h5
    unfold nw_nfw at h7
    dsimp only at h7
    rw [h1] at h7
    exact va_getN (D := D) (ci := ci) (C := C) (T := T) (N := N) hx hb hts h4 hown hK hP a (nw_pic_at g1) h1 kf h2 (va_Nw.use rfl h7) h6 hv hd (h H locs ls hP hD hS hl)
theorem nw_snd_put (C0 : nw_Cx p l s m args meth c D ad adV cy sh k A) (hso : nw_shok sh) {i : Nat} (hd : decode (nw_kB k) pc = .ok (.putfield i, 3)) {ci kf : Nat} (hf : nw_rF (nw_kO k) i = some (ci, kf)) {a : Nat} {v : Int32} {r : List Value} (hk : nw_fk sh a ci kf = some none)
    (h : nw_W p l e s m args below meth c D ad cy sh d (nw_kL k) A Z (pc + 3) lv r (nw_up mem a kf v)) : nw_W p l e s m args below meth c D ad cy sh d (nw_kL k) A Z pc lv (.int v :: .ref a :: r) mem := by
  obtain ⟨hx, hb, hml, hown, hts, hr, hlocks, hK, hE, hA, hSL, hSC⟩ := C0
  intro H locs ls hP hD hS hl
  obtain ⟨rc, h1, h2, h3, h4, h5⟩ := nw_rF_ok hf
  obtain ⟨fs, g1, g2⟩ := nw_fk_ok hk
  obtain ⟨j1, j2⟩ := hso a ci fs g1 kf g2 rc h1
  obtain ⟨ty0, t1, t2⟩ := nw_cls_ty h1
  obtain ⟨C, T, N⟩ := rc
  dsimp only at h1 h2 h3 h4 h5 j1 j2 t1 t2
  have h6 : ∀ x, s.fieldFound? (T kf).1 (T kf).2.1 (T kf).2.2.1 = some x → s.fieldFound? C (T kf).2.1 (T kf).2.2.1 = some x := fun x q => by rw [← h3]; exact q
  have hp : parseFieldDescriptor (T kf).2.2.1 = some .int := by rw [j2]; decide +kernel
  have hl2 : kf < (nw_fv ad mem a 0 fs).length := by
    have := nw_fv_get ad mem a fs 0 kf none g2
    exact (List.getElem?_eq_some_iff.mp this).1
  have hset : (nw_pic ad cy mem 0 sh).set a (ad a, .inr (ci, (nw_fv ad mem a 0 fs).set kf (.int v))) = nw_pic ad cy (nw_up mem a kf v) 0 sh := by
    refine nw_pic_set g1 (fun q hq => nw_up_ne hq) ?_
    have h8 := nw_fv_set ad (mem := mem) (mem' := nw_up mem a kf v) a fs 0 kf g2 (fun j hj => by rw [nw_up_eq]; exact if_neg (by simpa using hj))
    rw [nw_up_eq, Nat.zero_add, show upd (mem a) kf v kf = v from if_pos rfl] at h8
    show Sum.inr (ci, _) = Sum.inr (ci, _)
    rw [h8]
  rcases h5 with h5 | h5
  · refine va_put (D := D) (ci := ci) (v := .int v) (ty := .int) (C := C) (T := T) (N := N) hx hb hts h4 ty0 t1 t2 hown hK hP hD hS a (nw_pic_at g1) h1 kf h2 (hts _ h5) h6 j1 hp rfl rfl hl2 hd (fun H1 locs1 hP1 hD1 hS1 => ?_)
    rw [hset] at hP1 hD1
    exact h H1 locs1 ls hP1 hD1 hS1 hl
  · have h7 := hE.1 _ h5
    unfold nw_nfw at h7
    dsimp only at h7
    rw [h1] at h7
    refine va_putN (D := D) (ci := ci) (v := .int v) (ty := .int) (C := C) (T := T) (N := N) hx hb hts h4 ty0 t1 t2 hown hK hP hD hS a (nw_pic_at g1) h1 kf h2 (va_Nw.use rfl h7) h6 j1 hp rfl rfl hl2 hd (fun H1 locs1 hP1 hD1 hS1 => ?_)
    rw [hset] at hP1 hD1
    exact h H1 locs1 ls hP1 hD1 hS1 hl
theorem nw_snd_st (C0 : nw_Cx p l s m args meth c D ad adV cy sh k A) {z : Bool} {a n : Nat} {v i : Int32} (hk : nw_al sh z a = some n) : (nw_pic ad cy mem 0 sh)[a]? = some (ad a, .inl (cy z, n, .inl (mem a))) ∧ (nw_pic ad cy mem 0 sh).set a (ad a, .inl (cy z, n, .inl (upd (mem a) i.toNatClampNeg v))) = nw_pic ad cy (nw_up mem a i.toNatClampNeg v) 0 sh := by
  have g1 := nw_al_ok hk
  refine ⟨nw_pic_at g1, nw_pic_set g1 (fun q hq => nw_up_ne hq) ?_⟩
  simp only [nw_cel, nw_up_eq]
theorem nw_bool {v : Int32} (h : v = 0 ∨ v = 1) : vp_nar .boolean v = v ∧ narrow .boolean (.int v) = .int v := by
  rcases h with rfl | rfl <;> decide

/-- a static call -/
theorem nw_snd_cS (C0 : nw_Cx p l s m args meth c D ad adV cy sh k A) {k' i : Nat} {as r : List Value} {P : nw_K} {H : Heap} {locs : List Loc} {ls : Array Slot}
    (hM : Met l (nw_kY k') (nw_ws k') (nw_rm d) (va_Pc (as.map (nw_tv ad)) (nw_Pre D ad adV cy sh H.size mem)) (nw_Qr D ad cy sh (va_A (nw_pic ad cy mem 0 sh) H.size) P (nw_kR k')) 0 0 (va_A (nw_pic ad cy mem 0 sh) H.size))
    (hmk : nw_mok k') (hkc : nw_kC k' = none) (hlink : Cond.methodLink (nw_cn (nw_kO k)) i (nw_kY k') ∈ nw_TBL) (hn : as.length = nw_kN k') (hsm : nw_sml r = true) (hd : decode (nw_kB k) pc = .ok (.invokestatic i, 3))
    (hP : va_P D nw_cls (nw_pic ad cy mem 0 sh) H) (hD : va_D A (nw_pic ad cy mem 0 sh)) (hS : va_S A s.heap H locs) (hl : nw_lr ad ls (nw_kL k) lv) :
    va_Run p l e (nw_rm (d + 1)) s m args below meth c H locs 0 0 0 0 (F0 m pc ls ((as.map (nw_tv ad)).reverse ++ r.map (nw_tv ad))) (r.map (nw_tv ad)) (nw_Qr D ad cy sh (va_A (nw_pic ad cy mem 0 sh) H.size) P (nw_kR k') (as.map (nw_tv ad)).toArray) (va_A (nw_pic ad cy mem 0 sh) H.size) := by
  obtain ⟨hx, hb, hml, hown, hts, hr, hlocks, hK, hE, hA, hSL, hSC⟩ := C0
  have hin := nw_ws_in hmk.1
  obtain ⟨hm1, hm2, hm3, hm4, hm5, hm6, hm7⟩ := hmk
  rw [hkc] at hm7
  have hRo : (nw_rm d).frames + 1 ≤ (nw_rm (d + 1)).frames ∧ 8 + (nw_kL k' + 11) + (nw_rm d).locals ≤ (nw_rm (d + 1)).locals := by
    refine ⟨Nat.le_of_eq (by show d + 8 + 1 = d + 1 + 8; omega), ?_⟩
    show 8 + (nw_kL k' + 11) + 64 * (d + 8) ≤ 64 * (d + 1 + 8)
    omega
  have hww : nw_ws k' = Cond.code (nw_kY k') (nw_kB k') (nw_kL k') (nw_kR k') :: nw_TBL := rfl
  have hgi : GoodIn nw_TBL (va_wsS (nw_cn (nw_kO k)) i (nw_kY k') (nw_ws k')) := by
    refine nw_good (fun w hw => ?_)
    simp only [va_wsS, List.mem_append, List.mem_cons, List.not_mem_nil, or_false] at hw
    rcases hw with (rfl | rfl | rfl) | hw
    · exact hlink
    · exact hm7
    · exact hm2
    · exact hin w hw
  have hcw := va_cwS (R := nw_rm (d + 1)) (s := s) (args := args) (rm := nw_rm d) (mc := 0) (ms := 0) (nw_kN k') hts hgi hww rfl rfl hm3 hRo
  have hps : PreS s H (va_Pc (as.map (nw_tv ad)) (nw_Pre D ad adV cy sh H.size mem)) (as.map (nw_tv ad)) := ⟨nw_blind, fun U h1 h2 => ⟨rfl, nw_pre_at hK hE hA hP hD hS h1 h2⟩⟩
  exact va_runS (cc := nw_kB k) (nL := nw_kL k) (g := F0 m pc ls ((as.map (nw_tv ad)).reverse ++ r.map (nw_tv ad))) ⟨hx, hb, hml, hown, hts⟩ hM hcw hps rfl (by rw [List.length_map, hn]) hl.1.1 rfl (lv_room (nw_sml_ok hsm)) hd ⟨Nat.le_refl 0, Nat.le_refl 0⟩
/-- a static call of a nest mate's private method -/
theorem nw_snd_cN (C0 : nw_Cx p l s m args meth c D ad adV cy sh k A) {k' i : Nat} {as r : List Value} {P : nw_K} {H : Heap} {locs : List Loc} {ls : Array Slot}
    (hM : Met l (nw_kY k') (nw_ws k') (nw_rm d) (va_Pc (as.map (nw_tv ad)) (nw_Pre D ad adV cy sh H.size mem)) (nw_Qr D ad cy sh (va_A (nw_pic ad cy mem 0 sh) H.size) P (nw_kR k')) 0 0 (va_A (nw_pic ad cy mem 0 sh) H.size))
    (hmk : nw_mok k') (hkc : nw_kC k' = none) (hlink : (nw_kO k, i, k') ∈ nw_NM) (hn : as.length = nw_kN k') (hsm : nw_sml r = true) (hd : decode (nw_kB k) pc = .ok (.invokestatic i, 3))
    (hP : va_P D nw_cls (nw_pic ad cy mem 0 sh) H) (hD : va_D A (nw_pic ad cy mem 0 sh)) (hS : va_S A s.heap H locs) (hl : nw_lr ad ls (nw_kL k) lv) :
    va_Run p l e (nw_rm (d + 1)) s m args below meth c H locs 0 0 0 0 (F0 m pc ls ((as.map (nw_tv ad)).reverse ++ r.map (nw_tv ad))) (r.map (nw_tv ad)) (nw_Qr D ad cy sh (va_A (nw_pic ad cy mem 0 sh) H.size) P (nw_kR k') (as.map (nw_tv ad)).toArray) (va_A (nw_pic ad cy mem 0 sh) H.size) := by
  obtain ⟨hx, hb, hml, hown, hts, hr, hlocks, hK, hE, hA, hSL, hSC⟩ := C0
  have hin := nw_ws_in hmk.1
  obtain ⟨hm1, hm2, hm3, hm4, hm5, hm6, hm7⟩ := hmk
  rw [hkc] at hm7
  have hRo : (nw_rm d).frames + 1 ≤ (nw_rm (d + 1)).frames ∧ 8 + (nw_kL k' + 11) + (nw_rm d).locals ≤ (nw_rm (d + 1)).locals := by
    refine ⟨Nat.le_of_eq (by show d + 8 + 1 = d + 1 + 8; omega), ?_⟩
    show 8 + (nw_kL k' + 11) + 64 * (d + 8) ≤ 64 * (d + 1 + 8)
    omega
  have hww : nw_ws k' = Cond.code (nw_kY k') (nw_kB k') (nw_kL k') (nw_kR k') :: nw_TBL := rfl
  have hNw : va_Nw (nw_nmw (nw_kO k, i, k')) s := hE.2.1 _ hlink
  unfold nw_nmw at hNw
  dsimp only at hNw
  have hcn := va_cnB (R := nw_rm (d + 1)) (s := s) (args := args) (rm := nw_rm d) (mc := 0) (ms := 0) (nw_kN k') hts (nw_good hin) hww rfl rfl hNw (hts _ hm2) hm3 hRo
  have hps : PreS s H (va_Pc (as.map (nw_tv ad)) (nw_Pre D ad adV cy sh H.size mem)) (as.map (nw_tv ad)) := ⟨nw_blind, fun U h1 h2 => ⟨rfl, nw_pre_at hK hE hA hP hD hS h1 h2⟩⟩
  exact va_runSN (cc := nw_kB k) (nL := nw_kL k) (g := F0 m pc ls ((as.map (nw_tv ad)).reverse ++ r.map (nw_tv ad))) ⟨hx, hb, hml, hown, hts⟩ hM ⟨hcn, hts _ hm7, trivial⟩ hps rfl (by rw [List.length_map, hn]) hl.1.1 rfl (lv_room (nw_sml_ok hsm)) hd ⟨Nat.le_refl 0, Nat.le_refl 0⟩
/-- a call on an object -/
theorem nw_snd_cV (C0 : nw_Cx p l s m args meth c D ad adV cy sh k A) {k' i ci b : Nat} {as r : List Value} {P : nw_K} {H : Heap} {locs : List Loc} {ls : Array Slot}
    (hM : Met l (nw_kY k') (nw_ws k') (nw_rm d) (va_Pc ((Value.ref b :: as).map (nw_tv ad)) (nw_Pre D ad adV cy sh H.size mem)) (nw_Qr D ad cy sh (va_A (nw_pic ad cy mem 0 sh) H.size) P (nw_kR k')) 0 0 (va_A (nw_pic ad cy mem 0 sh) H.size))
    (hmk : nw_mok k') (hkc : nw_kC k' = some ci) (hcl : nw_cl sh b = some ci) (hlink : Cond.methodLink (nw_cn (nw_kO k)) i (nw_kY k') ∈ nw_TBL) (hn : as.length = nw_kN k') (hsm : nw_sml r = true) (hd : decode (nw_kB k) pc = .ok (.invokevirtual i, 3))
    (hP : va_P D nw_cls (nw_pic ad cy mem 0 sh) H) (hD : va_D A (nw_pic ad cy mem 0 sh)) (hS : va_S A s.heap H locs) (hl : nw_lr ad ls (nw_kL k) lv) :
    va_Run p l e (nw_rm (d + 1)) s m args below meth c H locs 0 0 0 0 (F0 m pc ls ((as.map (nw_tv ad)).reverse ++ .ref (ad b) :: r.map (nw_tv ad))) (r.map (nw_tv ad)) (nw_Qr D ad cy sh (va_A (nw_pic ad cy mem 0 sh) H.size) P (nw_kR k') (Value.ref (ad b) :: as.map (nw_tv ad)).toArray) (va_A (nw_pic ad cy mem 0 sh) H.size) := by
  obtain ⟨hx, hb, hml, hown, hts, hr, hlocks, hK, hE, hA, hSL, hSC⟩ := C0
  have hin := nw_ws_in hmk.1
  obtain ⟨hm1, hm2, hm3, hm4, hm5, hm6, hm7⟩ := hmk
  rw [hkc] at hm7
  obtain ⟨rcv, c1, c2, c3, c4⟩ := hm7
  obtain ⟨fs, g1⟩ := nw_cl_ok hcl
  have hRo : (nw_rm d).frames + 1 ≤ (nw_rm (d + 1)).frames ∧ 8 + (nw_kL k' + 11) + (nw_rm d).locals ≤ (nw_rm (d + 1)).locals := by
    refine ⟨Nat.le_of_eq (by show d + 8 + 1 = d + 1 + 8; omega), ?_⟩
    show 8 + (nw_kL k' + 11) + 64 * (d + 8) ≤ 64 * (d + 1 + 8)
    omega
  have hww : nw_ws k' = Cond.code (nw_kY k') (nw_kB k') (nw_kL k') (nw_kR k') :: nw_TBL := rfl
  have hgi : GoodIn nw_TBL (wsV (nw_cn (nw_kO k)) i rcv.1 (nw_kY k') (nw_ws k')) := by
    refine nw_good (fun w hw => ?_)
    simp only [wsV, List.mem_append, List.mem_cons, List.not_mem_nil, or_false] at hw
    rcases hw with (rfl | rfl | rfl | rfl) | hw
    · exact hlink
    · exact c3
    · exact c4
    · rw [c2]; exact hm2
    · exact hin w hw
  have hcw := cwV (R := nw_rm (d + 1)) (s := s) (args := args) (rm := nw_rm d) (mc := 0) (ms := 0) (nw_kN k') hts hgi hww rfl rfl ⟨c2.symm, hm3⟩ hRo
  have hpv : PreV s H rcv.1 (ad b) (va_Pc ((Value.ref b :: as).map (nw_tv ad)) (nw_Pre D ad adV cy sh H.size mem)) (as.map (nw_tv ad)) := ⟨nw_blind, va_recv hK hP c1 (nw_pic_at g1), fun U h1 h2 => ⟨rfl, nw_pre_at hK hE hA hP hD hS h1 h2⟩⟩
  exact va_runV (cc := nw_kB k) (nL := nw_kL k) (g := F0 m pc ls ((as.map (nw_tv ad)).reverse ++ .ref (ad b) :: r.map (nw_tv ad))) ⟨hx, hb, hml, hown, hts⟩ hM hcw hpv rfl (by rw [List.length_map, hn]) hl.1.1 rfl (lv_room (nw_sml_ok hsm)) hd ⟨Nat.le_refl 0, Nat.le_refl 0⟩
/-- a call of a method of the small machine's -/
theorem nw_snd_call (C0 : nw_Cx p l s m args meth c D ad adV cy sh k A)
    (IH : ∀ (k' : Nat) (as : List Value) (mem : nw_M) (P : nw_K), nw_Ex d sh k' as mem P → nw_mok k' → ∀ sz : Nat, Met l (nw_kY k') (nw_ws k') (nw_rm d) (va_Pc (as.map (nw_tv ad)) (nw_Pre D ad adV cy sh sz mem)) (nw_Qr D ad cy sh (va_A (nw_pic ad cy mem 0 sh) sz) P (nw_kR k')) 0 0 (va_A (nw_pic ad cy mem 0 sh) sz))
    {i : Nat} {vt : Bool} (hd : decode (nw_kB k) pc = .ok (if vt then .invokevirtual i else .invokestatic i, 3)) (h : nw_Cl nw_rM (nw_kO k) sh (nw_Ex d sh) (nw_W p l e s m args below meth c D ad cy sh d (nw_kL k) A Z) pc lv mem st i vt) : nw_W p l e s m args below meth c D ad cy sh d (nw_kL k) A Z pc lv st mem := by
  intro H locs ls hP hD hS hl
  have hA : ∀ q, s.heap.size ≤ q → A q := C0.2.2.2.2.2.2.2.2.2.1
  unfold nw_Cl at h
  split at h
  case h_2 => exact h.elim
  case h_1 k' n rc e1 =>
  split at h
  case h_2 => exact h.elim
  case h_1 as r e2 =>
  obtain ⟨⟨hvt, hrc, hsm⟩, hcall⟩ := h
  obtain ⟨hmk, hrk, hn, hlink⟩ := nw_rM_ok e1
  have hM := IH k' as mem _ hcall hmk H.size
  obtain ⟨pre, hpre1, has, hpl⟩ := nw_pop_ok n st [] as r e2
  rw [List.append_nil] at has
  have hpre : pre = as.reverse := by rw [has, List.reverse_reverse]
  rw [hpre] at hpre1 hpl
  have hal : as.length = n := by rw [← hpl, List.length_reverse]
  have hst : st.map (nw_tv ad) = (as.map (nw_tv ad)).reverse ++ r.map (nw_tv ad) := by rw [hpre1, List.map_append, List.map_reverse]
  have kk : ∀ (v : Option Value) (mem' : nw_M) (H1 : Heap) (locs1 : List Loc), (∀ x, v = some x → ∃ z, x = .int z) → nw_W p l e s m args below meth c D ad cy sh d (nw_kL k) A Z (pc + 3) lv (nw_psh v r) mem' → va_P D nw_cls (nw_pic ad cy mem' 0 sh) H1 → va_D A (nw_pic ad cy mem' 0 sh) → va_S A s.heap H1 locs1 → W p l e (nw_rm (d + 1)) s m args below meth c H1 locs1 0 0 Z (F0 m (pc + 3) ls (nw_psh v (r.map (nw_tv ad)))) := by
    intro v mem' H1 locs1 hv hw hP1 hD1 hS1
    have h1 := hw H1 locs1 ls hP1 hD1 hS1 hl
    cases v with
    | none => exact h1
    | some x =>
      obtain ⟨z, rfl⟩ := hv x rfl
      exact h1
  rw [hst]
  cases hkc : nw_kC k' with
  | none =>
    rw [hkc] at hrk
    rw [hrk] at hvt hn hlink
    have hvt2 : vt = false := hvt.symm
    rw [hvt2] at hd
    have hn2 : as.length = nw_kN k' := by rw [hal, hn]; rfl
    rcases hlink with hlink | ⟨-, hlink⟩
    · exact nw_after hD hS hA (nw_snd_cS C0 hM hmk hkc hlink hn2 hsm hd hP hD hS hl) kk
    · exact nw_after hD hS hA (nw_snd_cN C0 hM hmk hkc hlink hn2 hsm hd hP hD hS hl) kk
  | some ci =>
    rw [hkc] at hrk
    rw [hrk] at hvt hn hlink hrc
    have hvt2 : vt = true := hvt.symm
    rw [hvt2] at hd
    rcases hlink with hlink | ⟨hno, -⟩
    · cases as with
      | nil => cases hrc
      | cons w as2 =>
        cases w with
        | ref b =>
          have hcl : nw_cl sh b = some ci := eq_of_beq hrc
          have hn2 : as2.length = nw_kN k' := by
            have h1 : as2.length + 1 = nw_kN k' + 1 := by rw [hn] at hal; exact hal
            omega
          have hst2 : ((Value.ref b :: as2).map (nw_tv ad)).reverse ++ r.map (nw_tv ad) = (as2.map (nw_tv ad)).reverse ++ .ref (ad b) :: r.map (nw_tv ad) := by
            rw [List.map_cons, List.reverse_cons, List.append_assoc]
            rfl
          rw [hst2]
          exact nw_after hD hS hA (nw_snd_cV C0 hM hmk hkc hcl hlink hn2 hsm hd hP hD hS hl) kk
        | _ => cases hrc
    · cases hno
end NWT
end
section
theorem nw_wL : Cond.methodLink RX2 100 yJ0_length_8abf5 ∈ nw_TBL ∧ Cond.instanceMethod yJ0_length_8abf5 ∈ nw_TBL ∧ Cond.selects RJ0 yJ0_length_8abf5 yJ0_length_8abf5 ∈ nw_TBL ∧ Cond.initialized RJ0 ∈ nw_TBL ∧ Cond.code yJ0_length_8abf5 cJ0_length_8abf5 1 (some .int) ∈ nw_TBL := ⟨nw_in 210 (by decide +kernel) (by decide +kernel), nw_in 211 (by decide +kernel) (by decide +kernel), nw_in 212 (by decide +kernel) (by decide +kernel), nw_in 48 (by decide +kernel) (by decide +kernel), nw_in 213 (by decide +kernel) (by decide +kernel)⟩
theorem nw_wC : Cond.methodLink RX2 105 yJ0_charAt_5068e ∈ nw_TBL ∧ Cond.instanceMethod yJ0_charAt_5068e ∈ nw_TBL ∧ Cond.selects RJ0 yJ0_charAt_5068e yJ0_charAt_5068e ∈ nw_TBL ∧ Cond.initialized RJ0 ∈ nw_TBL ∧ Cond.code yJ0_charAt_5068e cJ0_charAt_5068e 2 (some .char) ∈ nw_TBL := ⟨nw_in 220 (by decide +kernel) (by decide +kernel), nw_in 221 (by decide +kernel) (by decide +kernel), nw_in 222 (by decide +kernel) (by decide +kernel), nw_in 48 (by decide +kernel) (by decide +kernel), nw_in 223 (by decide +kernel) (by decide +kernel)⟩
theorem nw_wLen : Cond.fieldLink RJ0 9 "java/lang/String" "value" "[B" ∈ nw_TBL ∧ Cond.methodLink RJ0 335 yJ0_coder_7d493 ∈ nw_TBL ∧ Cond.instanceMethod yJ0_coder_7d493 ∈ nw_TBL ∧ Cond.selects RJ0 yJ0_coder_7d493 yJ0_coder_7d493 ∈ nw_TBL ∧ Cond.code yJ0_coder_7d493 cJ0_coder_7d493 1 (some .byte) ∈ nw_TBL ∧ Cond.fieldLink RJ0 38 "java/lang/String" "COMPACT_STRINGS" "Z" ∈ nw_TBL ∧ Cond.fieldLink RJ0 15 "java/lang/String" "coder" "B" ∈ nw_TBL := ⟨nw_in 924 (by decide +kernel) (by decide +kernel), nw_in 214 (by decide +kernel) (by decide +kernel), nw_in 215 (by decide +kernel) (by decide +kernel), nw_in 216 (by decide +kernel) (by decide +kernel), nw_in 217 (by decide +kernel) (by decide +kernel), nw_in 218 (by decide +kernel) (by decide +kernel), nw_in 925 (by decide +kernel) (by decide +kernel)⟩
theorem nw_wCha : Cond.methodLink RJ0 492 yJ0_isLatin1_aae02 ∈ nw_TBL ∧ Cond.instanceMethod yJ0_isLatin1_aae02 ∈ nw_TBL ∧ Cond.selects RJ0 yJ0_isLatin1_aae02 yJ0_isLatin1_aae02 ∈ nw_TBL ∧ Cond.code yJ0_isLatin1_aae02 cJ0_isLatin1_aae02 1 (some .boolean) ∈ nw_TBL ∧ Cond.methodLink RJ0 495 yJ1_charAt_3b067 ∈ nw_TBL ∧ Cond.static yJ1_charAt_3b067 ∈ nw_TBL ∧ Cond.initialized RJ1 ∈ nw_TBL ∧ Cond.code yJ1_charAt_3b067 cJ1_charAt_3b067 2 (some .char) ∈ nw_TBL := ⟨nw_in 224 (by decide +kernel) (by decide +kernel), nw_in 225 (by decide +kernel) (by decide +kernel), nw_in 226 (by decide +kernel) (by decide +kernel), nw_in 227 (by decide +kernel) (by decide +kernel), nw_in 228 (by decide +kernel) (by decide +kernel), nw_in 229 (by decide +kernel) (by decide +kernel), nw_in 49 (by decide +kernel) (by decide +kernel), nw_in 230 (by decide +kernel) (by decide +kernel)⟩
theorem nw_wL1 : Cond.methodLink RJ1 9 yJ0_checkIndex_df160 ∈ nw_TBL ∧ Cond.static yJ0_checkIndex_df160 ∈ nw_TBL ∧ Cond.code yJ0_checkIndex_df160 cJ0_checkIndex_df160 2 none ∈ nw_TBL := ⟨nw_in 231 (by decide +kernel) (by decide +kernel), nw_in 232 (by decide +kernel) (by decide +kernel), nw_in 233 (by decide +kernel) (by decide +kernel)⟩
theorem nw_wCI : Cond.fieldLink RJ0 1053 "jdk/internal/util/Preconditions" "SIOOBE_FORMATTER" "Ljava/util/function/BiFunction;" ∈ nw_TBL ∧ Cond.methodLink RJ0 1059 yJ3_checkIndex_8e157 ∈ nw_TBL ∧ Cond.static yJ3_checkIndex_8e157 ∈ nw_TBL ∧ Cond.initialized RJ3 ∈ nw_TBL ∧ Cond.code yJ3_checkIndex_8e157 cJ3_checkIndex_8e157 3 (some .int) ∈ nw_TBL := ⟨nw_in 234 (by decide +kernel) (by decide +kernel), nw_in 236 (by decide +kernel) (by decide +kernel), nw_in 237 (by decide +kernel) (by decide +kernel), nw_in 50 (by decide +kernel) (by decide +kernel), nw_in 238 (by decide +kernel) (by decide +kernel)⟩
end
section
/-! every step of the small machine's is the JVM's; its methods keep their contracts -/
section NWU
variable {p : Program} {l : Launch} {e : Env} {s : State} {m : MethodId} {args : Array Value} {below : List Frame} {meth : Method} {c : Code} {D : va_G} {ad adV : Nat → Nat} {cy : Bool → ClassId} {sh : nw_Sh} {d k : Nat} {A : Nat → Prop} {Z : State → Prop} {pc : Nat} {lv : nw_L} {st : List Value} {mem : nw_M}
theorem nw_nfw5 : nativeFrameWords "java/lang/System" "arraycopy" 5 + 11 ≤ 500 := by decide +kernel
/-- System.arraycopy -/
theorem nw_snd_cp (C0 : nw_Cx p l s m args meth c D ad adV cy sh k A) {i : Nat} (hO : nw_kO k = 3) (hi : i = 31) (hd : decode (nw_kB k) pc = .ok (.invokestatic i, 3)) (h : nw_cp sh (nw_W p l e s m args below meth c D ad cy sh d (nw_kL k) A Z) pc lv mem st) : nw_W p l e s m args below meth c D ad cy sh d (nw_kL k) A Z pc lv st mem := by
  obtain ⟨hx, hb, hml, hown, hts, hr, hlocks, hK, hE, hA, hSL, hSC⟩ := C0
  intro H locs ls hP hD hS hl
  unfold nw_cp at h
  split at h
  case h_2 => exact h.elim
  case h_1 n dp dd sp ss r =>
  split at h
  case h_2 => exact h.elim
  case h_1 ns nd e1 e2 =>
  obtain ⟨⟨h1, h2, h3, h4, h5, rfl⟩, h6⟩ := h
  have g1 := nw_al_ok e1
  have g2 := nw_al_ok e2
  rw [hO] at hown
  obtain ⟨w1, w2, w3, w4⟩ := nw_cp_ok
  subst hi
  have hset : (nw_pic ad cy mem 0 sh).set dd (ad dd, .inl (cy false, nd, .inl (va_cpy (mem ss) (mem dd) sp.toNatClampNeg dp.toNatClampNeg n.toNatClampNeg))) = nw_pic ad cy (nw_row mem dd (va_cpy (mem ss) (mem dd) sp.toNatClampNeg dp.toNatClampNeg n.toNatClampNeg)) 0 sh := by
    refine nw_pic_set g2 (fun q hq => nw_row_ne hq) ?_
    simp only [nw_cel, nw_row_eq]
  have hwd := nw_nfw5
  refine va_copyi (D := D) (cl := nw_cls) (tys := nw_ty cy) (ws := nw_pic ad cy mem 0 sh) (A := A) (H0 := s.heap) hx hb (by rw [hml]; exact hl.1.1.symm) hown (hts _ w1) (hts _ w2) (hts _ w3) (hts _ w4) hK hP hD hS ss dd 0 0 (nw_pic_at g1) (nw_pic_at g2) rfl rfl rfl h1 h2 h3 h4 h5 (fun _ _ => rfl) (by show 1 ≤ d + 1 + 8; omega) ?_ hd (fun H1 locs1 hP1 hD1 hS1 => ?_)
  · show 0 + _ ≤ 64 * (d + 1 + 8)
    omega
  · rw [hset] at hP1 hD1
    exact h6 H1 locs1 ls hP1 hD1 hS1 hl
theorem nw_room0 (x : Nat) (hx : x ≤ 40) : (nw_rm 0).frames + 1 ≤ (nw_rm (d + 1)).frames ∧ 8 + (x + 11) + (nw_rm 0).locals ≤ (nw_rm (d + 1)).locals := by
  refine ⟨?_, ?_⟩
  · show 0 + 8 + 1 ≤ d + 1 + 8
    omega
  · show 8 + (x + 11) + 64 * (0 + 8) ≤ 64 * (d + 1 + 8)
    omega
/-- String.length of a constant -/
theorem nw_snd_sl (C0 : nw_Cx p l s m args meth c D ad adV cy sh k A) {i : Nat} (hO : nw_kO k = 2) (hi : i = 100) (hd : decode (nw_kB k) pc = .ok (.invokevirtual i, 3)) (h : nw_sl nw_sn (nw_W p l e s m args below meth c D ad cy sh d (nw_kL k) A Z) pc lv mem st) : nw_W p l e s m args below meth c D ad cy sh d (nw_kL k) A Z pc lv st mem := by
  obtain ⟨hx, hb, hml, hown, hts, hr, hlocks, hK, hE, hA, hSL, hSC⟩ := C0
  intro H locs ls hP hD hS hl
  unfold nw_sl at h
  split at h
  case h_2 => exact h.elim
  case h_1 a r =>
  obtain ⟨⟨h1, h2, h3⟩, h4⟩ := h
  obtain ⟨j, rfl⟩ : ∃ j : Nat, a = 100 + j := ⟨a - 100, (Nat.add_sub_of_le h1).symm⟩
  rw [Nat.add_sub_cancel_left] at h2 h4
  have hj : j < 9 := h2
  rw [hO] at hown
  subst hi
  obtain ⟨w1, w2, w3, w4, w5⟩ := nw_wL
  have hin : ∀ w ∈ (Cond.code yJ0_length_8abf5 cJ0_length_8abf5 1 (some .int) :: nw_TBL), w ∈ nw_TBL := fun w hw => (List.mem_cons.mp hw).elim (fun q => q ▸ w5) (fun q => q)
  have hgi : GoodIn nw_TBL (wsV RX2 100 RJ0 yJ0_length_8abf5 (Cond.code yJ0_length_8abf5 cJ0_length_8abf5 1 (some .int) :: nw_TBL)) := by
    refine nw_good (fun w hw => ?_)
    rcases List.mem_append.mp hw with hw | hw
    · simp only [List.mem_cons, List.not_mem_nil, or_false] at hw
      rcases hw with rfl | rfl | rfl | rfl
      · exact w1
      · exact w2
      · exact w3
      · exact w4
    · exact hin w hw
  have hcw := cwV (R := nw_rm (d + 1)) (s := s) (args := args) (rm := nw_rm 0) (mc := 0) (ms := 0) 0 hts hgi rfl rfl rfl (by decide +kernel) (nw_room0 1 (by decide))
  have hpv : PreV s H RJ0 (ad (100 + j)) (va_Pc [.ref (ad (100 + j))] (nw_Pre D ad adV cy sh H.size mem)) [] := ⟨nw_blind, vk_recv (adK := fun j => ad (100 + j)) (i := j) hE.2.2.2.1 hj hS, fun U q1 q2 => ⟨rfl, nw_pre_at hK hE hA hP hD hS q1 q2⟩⟩
  have hrun := va_runV (e := e) (below := below) (meth := meth) (locs := locs) (cells := 0) (slots := 0) (cc := nw_kB k) (nL := nw_kL k) (g := F0 m pc ls (.ref (ad (100 + j)) :: r.map (nw_tv ad))) (rest := r.map (nw_tv ad)) ⟨hx, hb, hml, hown, hts⟩ (hSL j hj H.size mem) hcw hpv rfl rfl hl.1.1 rfl (lv_room (nw_sml_ok h3)) hd ⟨Nat.le_refl 0, Nat.le_refl 0⟩
  refine nw_after hD hS hA hrun (fun v mem' H1 locs1 _ hv hP1 hD1 hS1 => ?_)
  obtain ⟨rfl, rfl⟩ := hv
  exact h4 H1 locs1 ls hP1 hD1 hS1 hl
theorem nw_snd_sc (C0 : nw_Cx p l s m args meth c D ad adV cy sh k A) {i : Nat} (hO : nw_kO k = 2) (hi : i = 105) (hd : decode (nw_kB k) pc = .ok (.invokevirtual i, 3)) (h : nw_sc nw_sn nw_sb (nw_W p l e s m args below meth c D ad cy sh d (nw_kL k) A Z) pc lv mem st) : nw_W p l e s m args below meth c D ad cy sh d (nw_kL k) A Z pc lv st mem := by
  obtain ⟨hx, hb, hml, hown, hts, hr, hlocks, hK, hE, hA, hSL, hSC⟩ := C0
  intro H locs ls hP hD hS hl
  unfold nw_sc at h
  split at h
  case h_2 => exact h.elim
  case h_1 ix a r =>
  obtain ⟨⟨h1, h2, h3, h5⟩, h4⟩ := h
  obtain ⟨j, rfl⟩ : ∃ j : Nat, a = 100 + j := ⟨a - 100, (Nat.add_sub_of_le h1).symm⟩
  rw [Nat.add_sub_cancel_left] at h2 h4 h5
  have hj : j < 9 := h2
  rw [hO] at hown
  subst hi
  obtain ⟨w1, w2, w3, w4, w5⟩ := nw_wC
  have hin : ∀ w ∈ (Cond.code yJ0_charAt_5068e cJ0_charAt_5068e 2 (some .char) :: nw_TBL), w ∈ nw_TBL := fun w hw => (List.mem_cons.mp hw).elim (fun q => q ▸ w5) (fun q => q)
  have hgi : GoodIn nw_TBL (wsV RX2 105 RJ0 yJ0_charAt_5068e (Cond.code yJ0_charAt_5068e cJ0_charAt_5068e 2 (some .char) :: nw_TBL)) := by
    refine nw_good (fun w hw => ?_)
    rcases List.mem_append.mp hw with hw | hw
    · simp only [List.mem_cons, List.not_mem_nil, or_false] at hw
      rcases hw with rfl | rfl | rfl | rfl
      · exact w1
      · exact w2
      · exact w3
      · exact w4
    · exact hin w hw
  have hcw := cwV (R := nw_rm (d + 1)) (s := s) (args := args) (rm := nw_rm 0) (mc := 0) (ms := 0) 1 hts hgi rfl rfl rfl (by decide +kernel) (nw_room0 2 (by decide))
  have hpv : PreV s H RJ0 (ad (100 + j)) (va_Pc [.ref (ad (100 + j)), .int ix] (nw_Pre D ad adV cy sh H.size mem)) [.int ix] := ⟨nw_blind, vk_recv (adK := fun j => ad (100 + j)) (i := j) hE.2.2.2.1 hj hS, fun U q1 q2 => ⟨rfl, nw_pre_at hK hE hA hP hD hS q1 q2⟩⟩
  have hrun := va_runV (e := e) (below := below) (meth := meth) (locs := locs) (cells := 0) (slots := 0) (cc := nw_kB k) (nL := nw_kL k) (g := F0 m pc ls (.int ix :: .ref (ad (100 + j)) :: r.map (nw_tv ad))) (rest := r.map (nw_tv ad)) ⟨hx, hb, hml, hown, hts⟩ (hSC j hj ix h5 H.size mem) hcw hpv rfl rfl hl.1.1 rfl (lv_room (nw_sml_ok h3)) hd ⟨Nat.le_refl 0, Nat.le_refl 0⟩
  refine nw_after hD hS hA hrun (fun v mem' H1 locs1 _ hv hP1 hD1 hS1 => ?_)
  obtain ⟨rfl, rfl⟩ := hv
  exact h4 H1 locs1 ls hP1 hD1 hS1 hl
/-- every instruction that is no call and no return -/
theorem nw_snd_S (C0 : nw_Cx p l s m args meth c D ad adV cy sh k A) (hso : nw_shok sh) {i : Instr} {n : Nat} (hd : decode (nw_kB k) pc = .ok (i, n)) (hn : nw_lk i n = true) (ht : nw_tk pc i = true) (h : nw_on (nw_S nw_rF nw_rC nw_rL nw_rS (nw_kO k) sh pc lv mem st i) (nw_A (nw_W p l e s m args below meth c D ad cy sh d (nw_kL k) A Z))) : nw_W p l e s m args below meth c D ad cy sh d (nw_kL k) A Z pc lv st mem := by
  have hx := C0.1
  have hb := C0.2.1
  have hown := C0.2.2.2.1
  have hts := C0.2.2.2.2.1
  have hK := C0.2.2.2.2.2.2.2.1
  cases i
  case iconst x =>
    obtain rfl : n = 1 := eq_of_beq hn
    exact fun H locs ls hP hD hS hl => lv_iconst hx hb hd rfl (h H locs ls hP hD hS hl)
  case bipush x =>
    obtain rfl : n = 2 := eq_of_beq hn
    exact fun H locs ls hP hD hS hl => lv_bipush hx hb hd rfl (h H locs ls hP hD hS hl)
  case sipush x =>
    obtain rfl : n = 3 := eq_of_beq hn
    exact fun H locs ls hP hD hS hl => lv_sipush hx hb hd rfl (h H locs ls hP hD hS hl)
  case lconst x =>
    obtain rfl : n = 1 := eq_of_beq hn
    exact fun H locs ls hP hD hS hl => lv_lconst hx hb hd rfl (h H locs ls hP hD hS hl)
  case iload i =>
    obtain rfl : n = 2 := eq_of_beq hn
    obtain ⟨x, e1, h⟩ := nw_ldI_inv h
    exact fun H locs ls hP hD hS hl => lv_iload hx hb hd (nw_lr_ld hl e1) (h H locs ls hP hD hS hl)
  case iload_n i =>
    obtain rfl : n = 1 := eq_of_beq hn
    obtain ⟨x, e1, h⟩ := nw_ldI_inv h
    exact fun H locs ls hP hD hS hl => lv_iload_n hx hb hd rfl (nw_lr_ld hl e1) (h H locs ls hP hD hS hl)
  case lload i =>
    obtain rfl : n = 2 := eq_of_beq hn
    obtain ⟨x, e1, h⟩ := nw_ldL_inv h
    exact fun H locs ls hP hD hS hl => lv_lload hx hb hd (nw_lr_ld hl e1) (h H locs ls hP hD hS hl)
  case lload_n i =>
    obtain rfl : n = 1 := eq_of_beq hn
    obtain ⟨x, e1, h⟩ := nw_ldL_inv h
    exact fun H locs ls hP hD hS hl => lv_lload_n hx hb hd rfl (nw_lr_ld hl e1) (h H locs ls hP hD hS hl)
  case aload i =>
    obtain rfl : n = 2 := eq_of_beq hn
    obtain ⟨x, e1, h⟩ := nw_ldR_inv h
    exact fun H locs ls hP hD hS hl => lv_aload hx hb hd (nw_lr_ld hl e1) (h H locs ls hP hD hS hl)
  case aload_n i =>
    obtain rfl : n = 1 := eq_of_beq hn
    obtain ⟨x, e1, h⟩ := nw_ldR_inv h
    exact fun H locs ls hP hD hS hl => lv_aload_n hx hb hd rfl (nw_lr_ld hl e1) (h H locs ls hP hD hS hl)
  case istore i =>
    obtain rfl : n = 2 := eq_of_beq hn
    obtain ⟨x, r, lv', rfl, e1, h⟩ := nw_stI_inv h
    exact fun H locs ls hP hD hS hl => lv_istore hx hb hd hl.1 (nw_lr_lt hl e1) rfl (fun ls' hl' => h H locs ls' hP hD hS (nw_lr_st hl e1 hl'))
  case istore_n i =>
    obtain rfl : n = 1 := eq_of_beq hn
    obtain ⟨x, r, lv', rfl, e1, h⟩ := nw_stI_inv h
    exact fun H locs ls hP hD hS hl => lv_istore_n hx hb hd rfl hl.1 (nw_lr_lt hl e1) rfl (fun ls' hl' => h H locs ls' hP hD hS (nw_lr_st hl e1 hl'))
  case astore i =>
    obtain rfl : n = 2 := eq_of_beq hn
    obtain ⟨x, r, lv', rfl, e1, h⟩ := nw_stR_inv h
    exact fun H locs ls hP hD hS hl => lv_astore hx hb hd hl.1 (nw_lr_lt hl e1) rfl (fun ls' hl' => h H locs ls' hP hD hS (nw_lr_st hl e1 hl'))
  case astore_n i =>
    obtain rfl : n = 1 := eq_of_beq hn
    obtain ⟨x, r, lv', rfl, e1, h⟩ := nw_stR_inv h
    exact fun H locs ls hP hD hS hl => lv_astore_n hx hb hd rfl hl.1 (nw_lr_lt hl e1) rfl (fun ls' hl' => h H locs ls' hP hD hS (nw_lr_st hl e1 hl'))
  case iinc i x =>
    obtain rfl : n = 3 := eq_of_beq hn
    simp only [nw_S] at h
    split at h
    · rename_i y e1
      split at h
      · rename_i lv' e2
        intro H locs ls hP hD hS hl
        have hg := nw_as_get ad lv 0 i _ e1
        rw [Nat.zero_add] at hg
        obtain ⟨q, hq⟩ := List.getElem?_of_mem hg
        exact lv_iinc (k := q) hx hb hd hl.1 hq rfl (nw_lr_lt hl e2) rfl (fun ls' hl' => h H locs ls' hP hD hS (nw_lr_st hl e2 hl'))
      · exact (nw_on_none h).elim
    · exact (nw_on_none h).elim
  case iadd =>
    obtain rfl : n = 1 := eq_of_beq hn
    obtain ⟨x, y, r, rfl, h⟩ := nw_i2_inv h
    exact fun H locs ls hP hD hS hl => lv_iadd hx hb hd (h H locs ls hP hD hS hl)
  case isub =>
    obtain rfl : n = 1 := eq_of_beq hn
    obtain ⟨x, y, r, rfl, h⟩ := nw_i2_inv h
    exact fun H locs ls hP hD hS hl => lv_isub hx hb hd (h H locs ls hP hD hS hl)
  case imul =>
    obtain rfl : n = 1 := eq_of_beq hn
    obtain ⟨x, y, r, rfl, h⟩ := nw_i2_inv h
    exact fun H locs ls hP hD hS hl => lv_imul hx hb hd (h H locs ls hP hD hS hl)
  case iand =>
    obtain rfl : n = 1 := eq_of_beq hn
    obtain ⟨x, y, r, rfl, h⟩ := nw_i2_inv h
    exact fun H locs ls hP hD hS hl => lv_iand hx hb hd (h H locs ls hP hD hS hl)
  case ior =>
    obtain rfl : n = 1 := eq_of_beq hn
    obtain ⟨x, y, r, rfl, h⟩ := nw_i2_inv h
    exact fun H locs ls hP hD hS hl => lv_ior hx hb hd (h H locs ls hP hD hS hl)
  case ixor =>
    obtain rfl : n = 1 := eq_of_beq hn
    obtain ⟨x, y, r, rfl, h⟩ := nw_i2_inv h
    exact fun H locs ls hP hD hS hl => lv_ixor hx hb hd (h H locs ls hP hD hS hl)
  case ishl =>
    obtain rfl : n = 1 := eq_of_beq hn
    obtain ⟨x, y, r, rfl, h⟩ := nw_i2_inv h
    exact fun H locs ls hP hD hS hl => lv_ishl hx hb hd (h H locs ls hP hD hS hl)
  case ishr =>
    obtain rfl : n = 1 := eq_of_beq hn
    obtain ⟨x, y, r, rfl, h⟩ := nw_i2_inv h
    exact fun H locs ls hP hD hS hl => lv_ishr hx hb hd (h H locs ls hP hD hS hl)
  case idiv =>
    obtain rfl : n = 1 := eq_of_beq hn
    obtain ⟨x, y, r, rfl, h⟩ := nw_i2_inv h
    exact fun H locs ls hP hD hS hl => lv_idiv hx hb hd h.1 (h.2 H locs ls hP hD hS hl)
  case irem =>
    obtain rfl : n = 1 := eq_of_beq hn
    obtain ⟨x, y, r, rfl, h⟩ := nw_i2_inv h
    exact fun H locs ls hP hD hS hl => lv_irem hx hb hd h.1 (h.2 H locs ls hP hD hS hl)
  case ineg =>
    obtain rfl : n = 1 := eq_of_beq hn
    obtain ⟨x, r, rfl, h⟩ := nw_i1_inv h
    exact fun H locs ls hP hD hS hl => lv_ineg hx hb hd (h H locs ls hP hD hS hl)
  case i2l =>
    obtain rfl : n = 1 := eq_of_beq hn
    obtain ⟨x, r, rfl, h⟩ := nw_i1_inv h
    exact fun H locs ls hP hD hS hl => lv_i2l hx hb hd rfl (h H locs ls hP hD hS hl)
  case l2i =>
    obtain rfl : n = 1 := eq_of_beq hn
    obtain ⟨x, r, rfl, h⟩ := nw_l1_inv h
    exact fun H locs ls hP hD hS hl => lv_l2i hx hb hd rfl (h H locs ls hP hD hS hl)
  case land =>
    obtain rfl : n = 1 := eq_of_beq hn
    obtain ⟨x, y, r, rfl, h⟩ := nw_l2_inv h
    exact fun H locs ls hP hD hS hl => lv_land hx hb hd (h H locs ls hP hD hS hl)
  case lor =>
    obtain rfl : n = 1 := eq_of_beq hn
    obtain ⟨x, y, r, rfl, h⟩ := nw_l2_inv h
    exact fun H locs ls hP hD hS hl => lv_lor hx hb hd (h H locs ls hP hD hS hl)
  case lcmp =>
    obtain rfl : n = 1 := eq_of_beq hn
    obtain ⟨x, y, r, rfl, h⟩ := nw_l2_inv h
    exact fun H locs ls hP hD hS hl => W.lcmp hx hb hd (h H locs ls hP hD hS hl)
  case lshl =>
    obtain rfl : n = 1 := eq_of_beq hn
    obtain ⟨x, y, r, rfl, h⟩ := nw_li_inv h
    exact fun H locs ls hP hD hS hl => lv_lshl hx hb hd rfl (h H locs ls hP hD hS hl)
  case lshr =>
    obtain rfl : n = 1 := eq_of_beq hn
    obtain ⟨x, y, r, rfl, h⟩ := nw_li_inv h
    exact fun H locs ls hP hD hS hl => lv_lshr hx hb hd rfl (h H locs ls hP hD hS hl)
  case pop =>
    obtain rfl : n = 1 := eq_of_beq hn
    simp only [nw_S] at h
    split at h
    · exact fun H locs ls hP hD hS hl => lv_pop hx hb hd rfl (h H locs ls hP hD hS hl)
    · exact (nw_on_none h).elim
  case dup =>
    obtain rfl : n = 1 := eq_of_beq hn
    simp only [nw_S] at h
    split at h
    · exact fun H locs ls hP hD hS hl => lv_dup hx hb hd rfl (h H locs ls hP hD hS hl)
    · exact fun H locs ls hP hD hS hl => lv_dup hx hb hd rfl (h H locs ls hP hD hS hl)
    · exact (nw_on_none h).elim
  case dup2 =>
    obtain rfl : n = 1 := eq_of_beq hn
    simp only [nw_S] at h
    split at h
    · exact fun H locs ls hP hD hS hl => lv_dup2_11 hx hb hd rfl rfl (h H locs ls hP hD hS hl)
    · exact (nw_on_none h).elim
  case goto off =>
    obtain rfl : n = 3 := eq_of_beq hn
    exact fun H locs ls hP hD hS hl => lv_goto hx hb hd (nw_nn_t ht) (h H locs ls hP hD hS hl)
  case if_icmp cd off =>
    obtain rfl : n = 3 := eq_of_beq hn
    obtain ⟨x, y, r, rfl, h⟩ := nw_i2_inv h
    exact nw_snd_cmp hx hb ht hd h
  case ifCond cd off =>
    obtain rfl : n = 3 := eq_of_beq hn
    obtain ⟨x, r, rfl, h⟩ := nw_i1_inv h
    exact nw_snd_if hx hb ht hd h
  case tableswitch df lo hi offs =>
    obtain ⟨x, r, rfl, h⟩ := nw_i1_inv h
    simp only [nw_tk, Bool.and_eq_true, decide_eq_true_eq] at ht
    obtain ⟨⟨t1, t2⟩, t3⟩ := ht
    intro H locs ls hP hD hS hl
    have h1 := h H locs ls hP hD hS hl
    unfold nw_ts at h1
    by_cases hc : x.toInt < lo ∨ hi < x.toInt
    · rw [if_pos hc] at h1
      exact lv_tableOut hx hb hd hc (nw_nn_t t1) h1
    · rw [if_neg hc] at h1
      have hlo : ¬ x.toInt < lo := fun q => hc (Or.inl q)
      have hhi : ¬ hi < x.toInt := fun q => hc (Or.inr q)
      have hlt : (x.toInt - lo).toNat < offs.size := by omega
      have ho : offs[(x.toInt - lo).toNat]? = some offs[(x.toInt - lo).toNat] := Array.getElem?_eq_getElem hlt
      rw [ho] at h1
      have hnn : nw_nn pc offs[(x.toInt - lo).toNat] = true := List.all_eq_true.mp t2 _ (by simp)
      exact lv_tableIn hx hb hd hlo hhi ho (nw_nn_t hnn) h1
  case lookupswitch df ps =>
    obtain ⟨x, r, rfl, h⟩ := nw_i1_inv h
    exact fun H locs ls hP hD hS hl => lv_lookup hx hb hd ht rfl (nw_nn_t (decide_eq_true h.1)) (h.2 H locs ls hP hD hS hl)
  case ldc i =>
    obtain rfl : n = 2 := eq_of_beq hn
    simp only [nw_S] at h
    split at h
    · rename_i v e1
      exact fun H locs ls hP hD hS hl => lv_ldc hx hb hown (hts _ (nw_rC_ok e1)) hd (h H locs ls hP hD hS hl)
    · split at h
      · rename_i a e2
        obtain ⟨o1, o2, o3, o4⟩ := nw_rS_ok e2
        obtain ⟨j, rfl⟩ : ∃ j, a = 100 + j := ⟨a - 100, by omega⟩
        rw [Nat.add_sub_cancel_left] at o3 o4
        rw [List.getElem?_map] at o4
        cases hsx : nw_sx[j]? with
        | none => rw [hsx] at o4; cases o4
        | some q =>
          rw [hsx] at o4
          obtain ⟨q1, q2⟩ := q
          have hq : q1 = i := by simpa using o4
          subst hq
          have hR := C0.2.2.2.2.2.2.2.2.1.2.2.1 j q1 q2 hsx
          rw [o1] at hown
          exact fun H locs ls hP hD hS hl => va_ldcS hx hb hown hR hd (h H locs ls hP hD hS hl)
      · exact (nw_on_none h).elim
  case ldc2_w i =>
    obtain rfl : n = 3 := eq_of_beq hn
    simp only [nw_S] at h
    split at h
    · rename_i v e1
      exact fun H locs ls hP hD hS hl => lv_ldc2 hx hb hown (hts _ (nw_rL_ok e1)) hd (h H locs ls hP hD hS hl)
    · exact (nw_on_none h).elim
  case getfield i =>
    obtain rfl : n = 3 := eq_of_beq hn
    simp only [nw_S] at h
    split at h
    case h_2 => exact (nw_on_none h).elim
    case h_1 ci kf e1 =>
    split at h
    case h_2 => exact (nw_on_none h).elim
    case h_1 a r =>
    split at h
    · rename_i j e2
      exact nw_snd_get C0 hd e1 e2 h
    · rename_i e2
      exact nw_snd_get C0 hd e1 e2 h
    · exact (nw_on_none h).elim
  case putfield i =>
    obtain rfl : n = 3 := eq_of_beq hn
    simp only [nw_S] at h
    split at h
    case h_2 => exact (nw_on_none h).elim
    case h_1 ci kf e1 =>
    split at h
    case h_2 => exact (nw_on_none h).elim
    case h_1 v a r =>
    split at h
    · rename_i e2
      exact nw_snd_put C0 hso hd e1 e2 h
    · exact (nw_on_none h).elim
  case iaload =>
    obtain rfl : n = 1 := eq_of_beq hn
    simp only [nw_S] at h
    split at h
    case h_2 => exact (nw_on_none h).elim
    case h_1 i a r =>
    split at h
    · rename_i n e2
      exact fun H locs ls hP hD hS hl => va_iald (D := D) (cl := nw_cls) (tys := nw_ty cy) hx hb hK hP a 0 (nw_snd_st C0 (v := 0) (i := 0) e2).1 rfl h.1 hd (h.2 H locs ls hP hD hS hl)
    · exact (nw_on_none h).elim
  case baload =>
    obtain rfl : n = 1 := eq_of_beq hn
    simp only [nw_S] at h
    split at h
    case h_2 => exact (nw_on_none h).elim
    case h_1 i a r =>
    split at h
    · rename_i n e2
      exact fun H locs ls hP hD hS hl => va_zald (D := D) (cl := nw_cls) (tys := nw_ty cy) hx hb hK hP a 1 (nw_snd_st C0 (v := 0) (i := 0) e2).1 rfl h.1 hd (h.2 H locs ls hP hD hS hl)
    · exact (nw_on_none h).elim
  case iastore =>
    obtain rfl : n = 1 := eq_of_beq hn
    simp only [nw_S] at h
    split at h
    case h_2 => exact (nw_on_none h).elim
    case h_1 v i a r =>
    split at h
    · rename_i n e2
      intro H locs ls hP hD hS hl
      obtain ⟨g1, g2⟩ := nw_snd_st C0 (v := v) (i := i) (mem := mem) e2
      refine va_iast (D := D) (cl := nw_cls) (tys := nw_ty cy) hx hb hK hP hD hS a 0 g1 rfl h.1 hd (fun H1 locs1 hP1 hD1 hS1 => ?_)
      rw [g2] at hP1 hD1
      exact h.2 H1 locs1 ls hP1 hD1 hS1 hl
    · exact (nw_on_none h).elim
  case bastore =>
    obtain rfl : n = 1 := eq_of_beq hn
    simp only [nw_S] at h
    split at h
    case h_2 => exact (nw_on_none h).elim
    case h_1 v i a r =>
    split at h
    · rename_i n e2
      intro H locs ls hP hD hS hl
      obtain ⟨g1, g2⟩ := nw_snd_st C0 (v := v) (i := i) (mem := mem) e2
      refine va_zast (D := D) (cl := nw_cls) (tys := nw_ty cy) hx hb hK hP hD hS a 1 g1 rfl h.1.1 hd (fun H1 locs1 hP1 hD1 hS1 => ?_)
      rw [(nw_bool h.1.2).1, g2] at hP1 hD1
      exact h.2 H1 locs1 ls hP1 hD1 hS1 hl
    · exact (nw_on_none h).elim
  all_goals exact (nw_on_none h).elim
theorem nw_snd_ret (C0 : nw_Cx p l s m args meth c D ad adV cy sh k A) {v : Int32} {P : nw_K} (hd : decode (nw_kB k) pc = .ok (.ireturn, 1)) (hv : nw_rt (nw_kR k) v) (hQ : P (some (.int v)) mem) : nw_W p l e s m args below meth c D ad cy sh d (nw_kL k) A (MQ below (nw_Qr D ad cy sh A P (nw_kR k)) args s 0 0 A) pc lv [.int v] mem := by
  obtain ⟨hx, hb, hml, hown, hts, hr, hlocks, hK, hE, hA, hSL, hSC⟩ := C0
  intro H locs ls hP hD hS hl
  have key : ∀ ty : FieldType, nw_kR k = some ty → narrow ty (.int v) = .int v → W p l e (nw_rm (d + 1)) s m args below meth c H locs 0 0 (MQ below (nw_Qr D ad cy sh A P (nw_kR k)) args s 0 0 A) (F0 m pc ls [.int v]) := by
    intro ty hk hn
    rw [hk] at hr ⊢
    exact W.zret (v := v) hx hb hr hn (fun t ht hW => ⟨⟨v, mem, rfl, hQ, by rw [ht]; exact hP, hD⟩, hS.F ht⟩) hS.2.2 hd hlocks
  unfold nw_rt at hv
  split at hv
  · rename_i hk
    exact key .int hk rfl
  · rename_i hk
    exact key .boolean hk (nw_bool hv).2
  · exact hv.elim
theorem nw_snd_F (C0 : nw_Cx p l s m args meth c D ad adV cy sh k A) (hso : nw_shok sh) {P : nw_K}
    (IH : ∀ (k' : Nat) (as : List Value) (mem : nw_M) (P : nw_K), nw_Ex d sh k' as mem P → nw_mok k' → ∀ sz : Nat, Met l (nw_kY k') (nw_ws k') (nw_rm d) (va_Pc (as.map (nw_tv ad)) (nw_Pre D ad adV cy sh sz mem)) (nw_Qr D ad cy sh (va_A (nw_pic ad cy mem 0 sh) sz) P (nw_kR k')) 0 0 (va_A (nw_pic ad cy mem 0 sh) sz))
    (h : nw_F nw_tb (nw_kB k) (nw_kO k) (nw_kR k) sh (nw_Ex d sh) P (nw_W p l e s m args below meth c D ad cy sh d (nw_kL k) A (MQ below (nw_Qr D ad cy sh A P (nw_kR k)) args s 0 0 A)) pc lv st mem) : nw_W p l e s m args below meth c D ad cy sh d (nw_kL k) A (MQ below (nw_Qr D ad cy sh A P (nw_kR k)) args s 0 0 A) pc lv st mem := by
  unfold nw_F at h
  split at h
  case h_2 => exact h.elim
  case h_1 i e0 =>
  obtain ⟨n, hd, hn, ht⟩ := nw_dec_ok e0
  unfold nw_I at h
  split at h
  case h_1 j =>
    obtain rfl : n = 3 := eq_of_beq hn
    split at h
    · rename_i e1
      rcases nw_rP_ok e1 with ⟨-, q1, q2⟩ | ⟨q, -⟩ | ⟨q, -⟩
      · exact nw_snd_cp C0 q1 q2 hd h
      · cases q
      · cases q
    · exact h.elim
    · exact nw_snd_call C0 IH (vt := false) hd h
  case h_2 j =>
    obtain rfl : n = 3 := eq_of_beq hn
    split at h
    · rename_i e1
      rcases nw_rP_ok e1 with ⟨q, -⟩ | ⟨-, q1, q2⟩ | ⟨q, -⟩
      · cases q
      · exact nw_snd_sl C0 q1 q2 hd h
      · cases q
    · rename_i e1
      rcases nw_rP_ok e1 with ⟨q, -⟩ | ⟨q, -⟩ | ⟨-, q1, q2⟩
      · cases q
      · cases q
      · exact nw_snd_sc C0 q1 q2 hd h
    · exact h.elim
    · exact nw_snd_call C0 IH (vt := true) hd h
  case h_3 =>
    obtain rfl : n = 1 := eq_of_beq hn
    split at h
    · exact nw_snd_ret C0 hd h.1 h.2
    · exact h.elim
  case h_4 =>
    obtain rfl : n = 1 := eq_of_beq hn
    split at h
    · rename_i hk
      obtain ⟨hx, hb, hml, hown, hts, hr, hlocks, hK, hE, hA, hSL, hSC⟩ := C0
      intro H locs ls hP hD hS hl
      rw [hk] at hr ⊢
      exact W.vret hx hb hr (fun t ht hW => ⟨⟨mem, rfl, h, by rw [ht]; exact hP, hD⟩, hS.F ht⟩) hS.2.2 hd hlocks
    · exact h.elim
  case h_5 => exact nw_snd_S C0 hso hd hn ht h
/-- THE TIE: what the small machine says of a method holds of the JVM's -/
theorem nw_met (hso : nw_shok sh) (hSL : nw_StrL l D ad adV cy sh) (hSC : nw_StrC l D ad adV cy sh) : ∀ (d k : Nat) (as : List Value) (mem : nw_M) (P : nw_K), nw_Ex d sh k as mem P → nw_mok k → ∀ sz : Nat, Met l (nw_kY k) (nw_ws k) (nw_rm d) (va_Pc (as.map (nw_tv ad)) (nw_Pre D ad adV cy sh sz mem)) (nw_Qr D ad cy sh (va_A (nw_pic ad cy mem 0 sh) sz) P (nw_kR k)) 0 0 (va_A (nw_pic ad cy mem 0 sh) sz) := by
  intro d
  induction d with
  | zero => intro k as mem P h; exact h.elim
  | succ d IH =>
    intro k as mem P h hmk sz
    obtain ⟨hfit, hrun⟩ := h
    refine va_MetF (cc := nw_kB k) (maxL := nw_kL k) (ret := nw_kR k) (ws' := nw_TBL) hmk.2.2.2.1 rfl ?_
    intro p e s m args below meth c s₁ B hml hv
    obtain ⟨rfl, hsz, hP, hK, hD0, hE⟩ := hv
    subst hsz
    have hD := hD0.self (sz := s.heap.size)
    have hA : ∀ q : Nat, s.heap.size ≤ q → va_A (nw_pic ad cy mem 0 sh) s.heap.size q := fun q h => Or.inr h
    have hts : ∀ w ∈ nw_TBL, w.before (as.map (nw_tv ad)).toArray s = true := fun w hw => atoms_spec (ws := nw_ws k) B.pre w (List.mem_cons_of_mem _ hw)
    have hown : s.vm.findClass (nw_cn (nw_kO k)) = some m.cls := by rw [hmk.2.2.2.2.2.1]; exact findClass_of_methodNamed B.named
    have C0 : nw_Cx p l s m (as.map (nw_tv ad)).toArray meth c D ad adV cy sh k (va_A (nw_pic ad cy mem 0 sh) s.heap.size) := ⟨B.exec, B.bytes, hml, hown, hts, B.returns, B.notSynchronized, hK, hE, hA, hSL, hSC⟩
    have hw := hrun (nw_W p l e s m (as.map (nw_tv ad)).toArray below meth c D ad cy sh d (nw_kL k) (va_A (nw_pic ad cy mem 0 sh) s.heap.size) (MQ below (nw_Qr D ad cy sh (va_A (nw_pic ad cy mem 0 sh) s.heap.size) P (nw_kR k)) (as.map (nw_tv ad)).toArray s 0 0 (va_A (nw_pic ad cy mem 0 sh) s.heap.size))) (fun pc lv st mem' h => nw_snd_F C0 hso IH h)
    rw [lg_entry_eq]
    exact hw s.heap [] _ hP hD va_S.rf (nw_lr_entry ad as hfit)
end NWU
end
