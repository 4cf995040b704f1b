section
-- ===== PART A: goes FIRST, ahead of the names: the tables' words, and 'selects' of the private methods out of them =====
/-- a private method of a class that the tables say can be made, by its rows of tables_1 -/
def lw_okq (q : MethodName × Nat) : Prop := (q.1.cls ≠ "java/lang/invoke/MethodHandle" ∧ q.1.cls ≠ "java/lang/invoke/VarHandle") ∧ Cond.instantiable q.1.cls q.2 ∈ tables_1 ∧ Cond.privateMethod q.1 ∈ tables_1 ∧ Cond.instanceMethod q.1 ∈ tables_1
theorem lw_p0 : lw_okq (⟨"EventLog$Packer", "begin", "(Z)V"⟩, 8) := ⟨⟨by decide +kernel, by decide +kernel⟩, List.mem_of_getElem? (i := 61) (by decide +kernel), List.mem_of_getElem? (i := 156) (by decide +kernel), List.mem_of_getElem? (i := 157) (by decide +kernel)⟩
theorem lw_p1 : lw_okq (⟨"EventLog$Packer", "packVarint", "(J)V"⟩, 8) := ⟨⟨by decide +kernel, by decide +kernel⟩, List.mem_of_getElem? (i := 61) (by decide +kernel), List.mem_of_getElem? (i := 172) (by decide +kernel), List.mem_of_getElem? (i := 173) (by decide +kernel)⟩
theorem lw_p2 : lw_okq (⟨"EventLog$Packer", "packByte", "(I)V"⟩, 8) := ⟨⟨by decide +kernel, by decide +kernel⟩, List.mem_of_getElem? (i := 61) (by decide +kernel), List.mem_of_getElem? (i := 177) (by decide +kernel), List.mem_of_getElem? (i := 178) (by decide +kernel)⟩
theorem lw_p3 : lw_okq (⟨"EventLog$Packer", "packRun", "(I)V"⟩, 8) := ⟨⟨by decide +kernel, by decide +kernel⟩, List.mem_of_getElem? (i := 61) (by decide +kernel), List.mem_of_getElem? (i := 205) (by decide +kernel), List.mem_of_getElem? (i := 206) (by decide +kernel)⟩
theorem lw_p4 : lw_okq (⟨"EventLog$Packer", "packEntry", "(LEventLog$Events;I)V"⟩, 8) := ⟨⟨by decide +kernel, by decide +kernel⟩, List.mem_of_getElem? (i := 61) (by decide +kernel), List.mem_of_getElem? (i := 209) (by decide +kernel), List.mem_of_getElem? (i := 210) (by decide +kernel)⟩
theorem lw_p5 : lw_okq (⟨"EventLog$Packer", "repeated", "(LEventLog$Events;I)I"⟩, 8) := ⟨⟨by decide +kernel, by decide +kernel⟩, List.mem_of_getElem? (i := 61) (by decide +kernel), List.mem_of_getElem? (i := 214) (by decide +kernel), List.mem_of_getElem? (i := 215) (by decide +kernel)⟩
theorem lw_p6 : lw_okq (⟨"EventLog$Packer", "headX", "(LEventLog$Events;II)I"⟩, 8) := ⟨⟨by decide +kernel, by decide +kernel⟩, List.mem_of_getElem? (i := 61) (by decide +kernel), List.mem_of_getElem? (i := 232) (by decide +kernel), List.mem_of_getElem? (i := 233) (by decide +kernel)⟩
theorem lw_p7 : lw_okq (⟨"EventLog$Packer", "packBrought", "(LEventLog$Events;II)V"⟩, 8) := ⟨⟨by decide +kernel, by decide +kernel⟩, List.mem_of_getElem? (i := 61) (by decide +kernel), List.mem_of_getElem? (i := 245) (by decide +kernel), List.mem_of_getElem? (i := 246) (by decide +kernel)⟩
theorem lw_p8 : lw_okq (⟨"EventLog$Packer", "packBytes", "(JI)V"⟩, 8) := ⟨⟨by decide +kernel, by decide +kernel⟩, List.mem_of_getElem? (i := 61) (by decide +kernel), List.mem_of_getElem? (i := 249) (by decide +kernel), List.mem_of_getElem? (i := 250) (by decide +kernel)⟩
theorem lw_p9 : lw_okq (⟨"EventLog$Reader", "begin", "(LEventLog$Events;)V"⟩, 5) := ⟨⟨by decide +kernel, by decide +kernel⟩, List.mem_of_getElem? (i := 108) (by decide +kernel), List.mem_of_getElem? (i := 273) (by decide +kernel), List.mem_of_getElem? (i := 274) (by decide +kernel)⟩
theorem lw_p10 : lw_okq (⟨"EventLog$Reader", "readVarint", "(I)J"⟩, 5) := ⟨⟨by decide +kernel, by decide +kernel⟩, List.mem_of_getElem? (i := 108) (by decide +kernel), List.mem_of_getElem? (i := 282) (by decide +kernel), List.mem_of_getElem? (i := 283) (by decide +kernel)⟩
theorem lw_p11 : lw_okq (⟨"EventLog$Reader", "readByte", "()I"⟩, 5) := ⟨⟨by decide +kernel, by decide +kernel⟩, List.mem_of_getElem? (i := 108) (by decide +kernel), List.mem_of_getElem? (i := 286) (by decide +kernel), List.mem_of_getElem? (i := 287) (by decide +kernel)⟩
theorem lw_p12 : lw_okq (⟨"EventLog$Reader", "fail", "(II)V"⟩, 5) := ⟨⟨by decide +kernel, by decide +kernel⟩, List.mem_of_getElem? (i := 108) (by decide +kernel), List.mem_of_getElem? (i := 294) (by decide +kernel), List.mem_of_getElem? (i := 295) (by decide +kernel)⟩
theorem lw_p13 : lw_okq (⟨"EventLog$Reader", "isFine", "()Z"⟩, 5) := ⟨⟨by decide +kernel, by decide +kernel⟩, List.mem_of_getElem? (i := 108) (by decide +kernel), List.mem_of_getElem? (i := 302) (by decide +kernel), List.mem_of_getElem? (i := 303) (by decide +kernel)⟩
theorem lw_p14 : lw_okq (⟨"EventLog$Reader", "readEntry", "(LEventLog$Events;J)V"⟩, 5) := ⟨⟨by decide +kernel, by decide +kernel⟩, List.mem_of_getElem? (i := 108) (by decide +kernel), List.mem_of_getElem? (i := 309) (by decide +kernel), List.mem_of_getElem? (i := 310) (by decide +kernel)⟩
theorem lw_p15 : lw_okq (⟨"EventLog$Reader", "readRun", "(LEventLog$Events;JII)V"⟩, 5) := ⟨⟨by decide +kernel, by decide +kernel⟩, List.mem_of_getElem? (i := 108) (by decide +kernel), List.mem_of_getElem? (i := 316) (by decide +kernel), List.mem_of_getElem? (i := 317) (by decide +kernel)⟩
def lw_privs_1 : List (MethodName × Nat) := [(⟨"EventLog$Packer", "begin", "(Z)V"⟩, 8), (⟨"EventLog$Packer", "packVarint", "(J)V"⟩, 8), (⟨"EventLog$Packer", "packByte", "(I)V"⟩, 8), (⟨"EventLog$Packer", "packRun", "(I)V"⟩, 8), (⟨"EventLog$Packer", "packEntry", "(LEventLog$Events;I)V"⟩, 8), (⟨"EventLog$Packer", "repeated", "(LEventLog$Events;I)I"⟩, 8), (⟨"EventLog$Packer", "headX", "(LEventLog$Events;II)I"⟩, 8), (⟨"EventLog$Packer", "packBrought", "(LEventLog$Events;II)V"⟩, 8), (⟨"EventLog$Packer", "packBytes", "(JI)V"⟩, 8), (⟨"EventLog$Reader", "begin", "(LEventLog$Events;)V"⟩, 5), (⟨"EventLog$Reader", "readVarint", "(I)J"⟩, 5), (⟨"EventLog$Reader", "readByte", "()I"⟩, 5), (⟨"EventLog$Reader", "fail", "(II)V"⟩, 5), (⟨"EventLog$Reader", "isFine", "()Z"⟩, 5), (⟨"EventLog$Reader", "readEntry", "(LEventLog$Events;J)V"⟩, 5), (⟨"EventLog$Reader", "readRun", "(LEventLog$Events;JII)V"⟩, 5)]
theorem lw_r1 : ∀ q ∈ lw_privs_1, lw_okq q := List.forall_mem_cons.mpr ⟨lw_p0, List.forall_mem_cons.mpr ⟨lw_p1, List.forall_mem_cons.mpr ⟨lw_p2, List.forall_mem_cons.mpr ⟨lw_p3, List.forall_mem_cons.mpr ⟨lw_p4, List.forall_mem_cons.mpr ⟨lw_p5, List.forall_mem_cons.mpr ⟨lw_p6, List.forall_mem_cons.mpr ⟨lw_p7, List.forall_mem_cons.mpr ⟨lw_p8, List.forall_mem_cons.mpr ⟨lw_p9, List.forall_mem_cons.mpr ⟨lw_p10, List.forall_mem_cons.mpr ⟨lw_p11, List.forall_mem_cons.mpr ⟨lw_p12, List.forall_mem_cons.mpr ⟨lw_p13, List.forall_mem_cons.mpr ⟨lw_p14, List.forall_mem_cons.mpr ⟨lw_p15, fun _ h => absurd h List.not_mem_nil⟩⟩⟩⟩⟩⟩⟩⟩⟩⟩⟩⟩⟩⟩⟩⟩
theorem lw_p16 : lw_okq (⟨"EventLog$Reader", "keep", "(LEventLog$Events;IJJI)V"⟩, 5) := ⟨⟨by decide +kernel, by decide +kernel⟩, List.mem_of_getElem? (i := 108) (by decide +kernel), List.mem_of_getElem? (i := 324) (by decide +kernel), List.mem_of_getElem? (i := 325) (by decide +kernel)⟩
theorem lw_p17 : lw_okq (⟨"EventLog$Reader", "readLikeAnother", "(LEventLog$Events;IJI)V"⟩, 5) := ⟨⟨by decide +kernel, by decide +kernel⟩, List.mem_of_getElem? (i := 108) (by decide +kernel), List.mem_of_getElem? (i := 336) (by decide +kernel), List.mem_of_getElem? (i := 337) (by decide +kernel)⟩
theorem lw_p18 : lw_okq (⟨"EventLog$Reader", "readOwn", "(LEventLog$Events;IJI)V"⟩, 5) := ⟨⟨by decide +kernel, by decide +kernel⟩, List.mem_of_getElem? (i := 108) (by decide +kernel), List.mem_of_getElem? (i := 343) (by decide +kernel), List.mem_of_getElem? (i := 344) (by decide +kernel)⟩
theorem lw_p19 : lw_okq (⟨"EventLog$Reader", "readBytes", "(I)J"⟩, 5) := ⟨⟨by decide +kernel, by decide +kernel⟩, List.mem_of_getElem? (i := 108) (by decide +kernel), List.mem_of_getElem? (i := 347) (by decide +kernel), List.mem_of_getElem? (i := 348) (by decide +kernel)⟩
theorem lw_p20 : lw_okq (⟨"EventLog$Reader", "readSignal", "()I"⟩, 5) := ⟨⟨by decide +kernel, by decide +kernel⟩, List.mem_of_getElem? (i := 108) (by decide +kernel), List.mem_of_getElem? (i := 351) (by decide +kernel), List.mem_of_getElem? (i := 352) (by decide +kernel)⟩
theorem lw_p21 : lw_okq (⟨"java/lang/Throwable", "fillInStackTrace", "(I)Ljava/lang/Throwable;"⟩, 6) := ⟨⟨by decide +kernel, by decide +kernel⟩, List.mem_of_getElem? (i := 445) (by decide +kernel), List.mem_of_getElem? (i := 443) (by decide +kernel), List.mem_of_getElem? (i := 444) (by decide +kernel)⟩
theorem lw_p22 : lw_okq (⟨"EventLogModel", "fails", "(ZZZ)Z"⟩, 21) := ⟨⟨by decide +kernel, by decide +kernel⟩, List.mem_of_getElem? (i := 591) (by decide +kernel), List.mem_of_getElem? (i := 680) (by decide +kernel), List.mem_of_getElem? (i := 681) (by decide +kernel)⟩
theorem lw_p23 : lw_okq (⟨"EventLogModel", "makeUp", "()V"⟩, 21) := ⟨⟨by decide +kernel, by decide +kernel⟩, List.mem_of_getElem? (i := 591) (by decide +kernel), List.mem_of_getElem? (i := 695) (by decide +kernel), List.mem_of_getElem? (i := 696) (by decide +kernel)⟩
theorem lw_p24 : lw_okq (⟨"EventLogModel", "varint", "(J)V"⟩, 21) := ⟨⟨by decide +kernel, by decide +kernel⟩, List.mem_of_getElem? (i := 591) (by decide +kernel), List.mem_of_getElem? (i := 699) (by decide +kernel), List.mem_of_getElem? (i := 700) (by decide +kernel)⟩
theorem lw_p25 : lw_okq (⟨"EventLogModel", "put", "(I)V"⟩, 21) := ⟨⟨by decide +kernel, by decide +kernel⟩, List.mem_of_getElem? (i := 591) (by decide +kernel), List.mem_of_getElem? (i := 704) (by decide +kernel), List.mem_of_getElem? (i := 705) (by decide +kernel)⟩
theorem lw_p26 : lw_okq (⟨"EventLogModel", "isAlike", "(I)Z"⟩, 21) := ⟨⟨by decide +kernel, by decide +kernel⟩, List.mem_of_getElem? (i := 591) (by decide +kernel), List.mem_of_getElem? (i := 708) (by decide +kernel), List.mem_of_getElem? (i := 709) (by decide +kernel)⟩
theorem lw_p27 : lw_okq (⟨"EventLogModel", "bringsSame", "(II)Z"⟩, 21) := ⟨⟨by decide +kernel, by decide +kernel⟩, List.mem_of_getElem? (i := 591) (by decide +kernel), List.mem_of_getElem? (i := 712) (by decide +kernel), List.mem_of_getElem? (i := 713) (by decide +kernel)⟩
theorem lw_p28 : lw_okq (⟨"EventLogModel", "run", "(I)V"⟩, 21) := ⟨⟨by decide +kernel, by decide +kernel⟩, List.mem_of_getElem? (i := 591) (by decide +kernel), List.mem_of_getElem? (i := 716) (by decide +kernel), List.mem_of_getElem? (i := 717) (by decide +kernel)⟩
theorem lw_p29 : lw_okq (⟨"EventLogModel", "entry", "(I)V"⟩, 21) := ⟨⟨by decide +kernel, by decide +kernel⟩, List.mem_of_getElem? (i := 591) (by decide +kernel), List.mem_of_getElem? (i := 720) (by decide +kernel), List.mem_of_getElem? (i := 721) (by decide +kernel)⟩
theorem lw_p30 : lw_okq (⟨"EventLogModel", "copyOf", "(I)I"⟩, 21) := ⟨⟨by decide +kernel, by decide +kernel⟩, List.mem_of_getElem? (i := 591) (by decide +kernel), List.mem_of_getElem? (i := 724) (by decide +kernel), List.mem_of_getElem? (i := 725) (by decide +kernel)⟩
theorem lw_p31 : lw_okq (⟨"EventLogModel", "isAsFar", "(I)Z"⟩, 21) := ⟨⟨by decide +kernel, by decide +kernel⟩, List.mem_of_getElem? (i := 591) (by decide +kernel), List.mem_of_getElem? (i := 728) (by decide +kernel), List.mem_of_getElem? (i := 729) (by decide +kernel)⟩
def lw_privs_2 : List (MethodName × Nat) := [(⟨"EventLog$Reader", "keep", "(LEventLog$Events;IJJI)V"⟩, 5), (⟨"EventLog$Reader", "readLikeAnother", "(LEventLog$Events;IJI)V"⟩, 5), (⟨"EventLog$Reader", "readOwn", "(LEventLog$Events;IJI)V"⟩, 5), (⟨"EventLog$Reader", "readBytes", "(I)J"⟩, 5), (⟨"EventLog$Reader", "readSignal", "()I"⟩, 5), (⟨"java/lang/Throwable", "fillInStackTrace", "(I)Ljava/lang/Throwable;"⟩, 6), (⟨"EventLogModel", "fails", "(ZZZ)Z"⟩, 21), (⟨"EventLogModel", "makeUp", "()V"⟩, 21), (⟨"EventLogModel", "varint", "(J)V"⟩, 21), (⟨"EventLogModel", "put", "(I)V"⟩, 21), (⟨"EventLogModel", "isAlike", "(I)Z"⟩, 21), (⟨"EventLogModel", "bringsSame", "(II)Z"⟩, 21), (⟨"EventLogModel", "run", "(I)V"⟩, 21), (⟨"EventLogModel", "entry", "(I)V"⟩, 21), (⟨"EventLogModel", "copyOf", "(I)I"⟩, 21), (⟨"EventLogModel", "isAsFar", "(I)Z"⟩, 21)]
theorem lw_r2 : ∀ q ∈ lw_privs_2, lw_okq q := List.forall_mem_cons.mpr ⟨lw_p16, List.forall_mem_cons.mpr ⟨lw_p17, List.forall_mem_cons.mpr ⟨lw_p18, List.forall_mem_cons.mpr ⟨lw_p19, List.forall_mem_cons.mpr ⟨lw_p20, List.forall_mem_cons.mpr ⟨lw_p21, List.forall_mem_cons.mpr ⟨lw_p22, List.forall_mem_cons.mpr ⟨lw_p23, List.forall_mem_cons.mpr ⟨lw_p24, List.forall_mem_cons.mpr ⟨lw_p25, List.forall_mem_cons.mpr ⟨lw_p26, List.forall_mem_cons.mpr ⟨lw_p27, List.forall_mem_cons.mpr ⟨lw_p28, List.forall_mem_cons.mpr ⟨lw_p29, List.forall_mem_cons.mpr ⟨lw_p30, List.forall_mem_cons.mpr ⟨lw_p31, fun _ h => absurd h List.not_mem_nil⟩⟩⟩⟩⟩⟩⟩⟩⟩⟩⟩⟩⟩⟩⟩⟩
theorem lw_p32 : lw_okq (⟨"EventLogModel", "readVarint", "()J"⟩, 21) := ⟨⟨by decide +kernel, by decide +kernel⟩, List.mem_of_getElem? (i := 591) (by decide +kernel), List.mem_of_getElem? (i := 740) (by decide +kernel), List.mem_of_getElem? (i := 741) (by decide +kernel)⟩
theorem lw_p33 : lw_okq (⟨"EventLogModel", "next", "()I"⟩, 21) := ⟨⟨by decide +kernel, by decide +kernel⟩, List.mem_of_getElem? (i := 591) (by decide +kernel), List.mem_of_getElem? (i := 744) (by decide +kernel), List.mem_of_getElem? (i := 745) (by decide +kernel)⟩
theorem lw_p34 : lw_okq (⟨"EventLogModel", "meet", "(II)V"⟩, 21) := ⟨⟨by decide +kernel, by decide +kernel⟩, List.mem_of_getElem? (i := 591) (by decide +kernel), List.mem_of_getElem? (i := 748) (by decide +kernel), List.mem_of_getElem? (i := 749) (by decide +kernel)⟩
theorem lw_p35 : lw_okq (⟨"EventLogModel", "readRun", "(III)V"⟩, 21) := ⟨⟨by decide +kernel, by decide +kernel⟩, List.mem_of_getElem? (i := 591) (by decide +kernel), List.mem_of_getElem? (i := 753) (by decide +kernel), List.mem_of_getElem? (i := 754) (by decide +kernel)⟩
theorem lw_p36 : lw_okq (⟨"EventLogModel", "readCount", "()J"⟩, 21) := ⟨⟨by decide +kernel, by decide +kernel⟩, List.mem_of_getElem? (i := 591) (by decide +kernel), List.mem_of_getElem? (i := 757) (by decide +kernel), List.mem_of_getElem? (i := 758) (by decide +kernel)⟩
theorem lw_p37 : lw_okq (⟨"EventLogModel", "take", "(IJJI)V"⟩, 21) := ⟨⟨by decide +kernel, by decide +kernel⟩, List.mem_of_getElem? (i := 591) (by decide +kernel), List.mem_of_getElem? (i := 761) (by decide +kernel), List.mem_of_getElem? (i := 762) (by decide +kernel)⟩
theorem lw_p38 : lw_okq (⟨"EventLogModel", "readEntry", "(II)V"⟩, 21) := ⟨⟨by decide +kernel, by decide +kernel⟩, List.mem_of_getElem? (i := 591) (by decide +kernel), List.mem_of_getElem? (i := 765) (by decide +kernel), List.mem_of_getElem? (i := 766) (by decide +kernel)⟩
theorem lw_p39 : lw_okq (⟨"EventLogModel", "before", "(IJ)I"⟩, 21) := ⟨⟨by decide +kernel, by decide +kernel⟩, List.mem_of_getElem? (i := 591) (by decide +kernel), List.mem_of_getElem? (i := 769) (by decide +kernel), List.mem_of_getElem? (i := 770) (by decide +kernel)⟩
theorem lw_p40 : lw_okq (⟨"EventLogModel", "readBytes", "(I)J"⟩, 21) := ⟨⟨by decide +kernel, by decide +kernel⟩, List.mem_of_getElem? (i := 591) (by decide +kernel), List.mem_of_getElem? (i := 773) (by decide +kernel), List.mem_of_getElem? (i := 774) (by decide +kernel)⟩
theorem lw_p41 : lw_okq (⟨"EventLogModel", "sum", "(I)J"⟩, 21) := ⟨⟨by decide +kernel, by decide +kernel⟩, List.mem_of_getElem? (i := 591) (by decide +kernel), List.mem_of_getElem? (i := 794) (by decide +kernel), List.mem_of_getElem? (i := 795) (by decide +kernel)⟩
def lw_privs_3 : List (MethodName × Nat) := [(⟨"EventLogModel", "readVarint", "()J"⟩, 21), (⟨"EventLogModel", "next", "()I"⟩, 21), (⟨"EventLogModel", "meet", "(II)V"⟩, 21), (⟨"EventLogModel", "readRun", "(III)V"⟩, 21), (⟨"EventLogModel", "readCount", "()J"⟩, 21), (⟨"EventLogModel", "take", "(IJJI)V"⟩, 21), (⟨"EventLogModel", "readEntry", "(II)V"⟩, 21), (⟨"EventLogModel", "before", "(IJ)I"⟩, 21), (⟨"EventLogModel", "readBytes", "(I)J"⟩, 21), (⟨"EventLogModel", "sum", "(I)J"⟩, 21)]
theorem lw_r3 : ∀ q ∈ lw_privs_3, lw_okq q := List.forall_mem_cons.mpr ⟨lw_p32, List.forall_mem_cons.mpr ⟨lw_p33, List.forall_mem_cons.mpr ⟨lw_p34, List.forall_mem_cons.mpr ⟨lw_p35, List.forall_mem_cons.mpr ⟨lw_p36, List.forall_mem_cons.mpr ⟨lw_p37, List.forall_mem_cons.mpr ⟨lw_p38, List.forall_mem_cons.mpr ⟨lw_p39, List.forall_mem_cons.mpr ⟨lw_p40, List.forall_mem_cons.mpr ⟨lw_p41, fun _ h => absurd h List.not_mem_nil⟩⟩⟩⟩⟩⟩⟩⟩⟩⟩
def lw_privs : List (MethodName × Nat) := lw_privs_1 ++ (lw_privs_2 ++ (lw_privs_3))
def lw_tbl : List Cond := k2_sels lw_privs ++ tables_1
theorem lw_privs_ok : ∀ q ∈ lw_privs, lw_okq q := by
  show ∀ q ∈ lw_privs_1 ++ (lw_privs_2 ++ (lw_privs_3)), lw_okq q
  exact List.forall_mem_append.mpr ⟨lw_r1, List.forall_mem_append.mpr ⟨lw_r2, lw_r3⟩⟩
def U0 : List Cond := lw_tbl.filter goodWord
theorem mU {w : Cond} (h : w ∈ lw_tbl) (g : goodWord w = true) : w ∈ U0 := List.mem_filter.mpr ⟨h, g⟩
theorem U0_good : ∀ w ∈ U0, goodWord w = true := fun _ h => (List.mem_filter.mp h).2
theorem iwT {c0 : Cond} {Cn : String} {T : u_T} {N : Nat} (h : ∀ x ∈ u_ws Cn T N, x ∈ U0) : ∀ x ∈ u_ws Cn T N, x ∈ c0 :: U0 := fun x q => .tail _ (h x q)
def nestW : List Cond := [Cond.methodLinkNest "EventLog" 9 ⟨"EventLog$Events", "<init>", "()V"⟩ "EventLog", Cond.methodLinkNest "EventLog" 21 ⟨"EventLog$Bytes", "<init>", "()V"⟩ "EventLog", Cond.methodLinkNest "EventLog$Packer" 11 ⟨"EventLog$Past", "<init>", "()V"⟩ "EventLog", Cond.methodLinkNest "EventLog$Reader" 11 ⟨"EventLog$Past", "<init>", "()V"⟩ "EventLog", Cond.methodLinkNest "EventLog$Reader" 127 ⟨"EventLog", "isSignal", "(I)Z"⟩ "EventLog"]
theorem nest_0 : Cond.methodLinkNest "EventLog" 9 ⟨"EventLog$Events", "<init>", "()V"⟩ "EventLog" ∈ nestW := List.mem_of_getElem? (i := 0) rfl
theorem nest_1 : Cond.methodLinkNest "EventLog" 21 ⟨"EventLog$Bytes", "<init>", "()V"⟩ "EventLog" ∈ nestW := List.mem_of_getElem? (i := 1) rfl
theorem nest_2 : Cond.methodLinkNest "EventLog$Packer" 11 ⟨"EventLog$Past", "<init>", "()V"⟩ "EventLog" ∈ nestW := List.mem_of_getElem? (i := 2) rfl
theorem nest_3 : Cond.methodLinkNest "EventLog$Reader" 11 ⟨"EventLog$Past", "<init>", "()V"⟩ "EventLog" ∈ nestW := List.mem_of_getElem? (i := 3) rfl
theorem nest_4 : Cond.methodLinkNest "EventLog$Reader" 127 ⟨"EventLog", "isSignal", "(I)Z"⟩ "EventLog" ∈ nestW := List.mem_of_getElem? (i := 4) rfl
theorem nestW_all : ∀ w ∈ nestW, ∃ a i x h, w = .methodLinkNest a i x h := fun w h => by
  simp only [nestW, List.mem_cons, List.not_mem_nil, or_false] at h
  rcases h with rfl | rfl | rfl | rfl | rfl <;> exact ⟨_, _, _, _, rfl⟩
def Kx (D : va_G) (cl : List vw_C) (tys : List (ClassId × FieldType)) (U : State) : Prop := va_K D cl tys U ∧ ∀ w ∈ nestW, va_Nw w U
theorem Kx.warm {D : va_G} {cl : List vw_C} {tys : List (ClassId × FieldType)} {s U : State} (hW : s.WarmedH U.vm) (h : Kx D cl tys s) : Kx D cl tys U := ⟨va_K.moved hW.alike h.1, fun w hw => by
  obtain ⟨a, i, x, h9, rfl⟩ := nestW_all w hw
  exact va_Nw.warmM hW (h.2 _ hw)⟩
theorem Kx.same {D : va_G} {cl : List vw_C} {tys : List (ClassId × FieldType)} {u U : State} (hv : u.vm = U.vm) (h : Kx D cl tys u) : Kx D cl tys U := ⟨va_K.moved (by rw [hv]; exact Vm.Alike.refl _) h.1, fun w hw => by
  obtain ⟨a, i, x, h9, rfl⟩ := nestW_all w hw
  exact va_tabs rfl hv (h.2 _ hw)⟩
def Cl (y : MethodName) (bytes : ByteArray) (maxL : Nat) (ret : Option FieldType) (n : Nat) : Prop := Cond.code y bytes maxL ret ∈ U0 ∧ Cond.initialized y.cls ∈ U0 ∧ y.cls ≠ "java/lang/invoke/MethodHandle" ∧ y.cls ≠ "java/lang/invoke/VarHandle" ∧ (parseMethodDescriptor y.desc).map (fun d => d.parameters.length) = some n
def ClV (y : MethodName) (bytes : ByteArray) (maxL : Nat) (ret : Option FieldType) (n : Nat) : Prop := Cl y bytes maxL ret n ∧ Cond.instanceMethod y ∈ U0 ∧ Cond.selects y.cls y y ∈ U0
def ClI (y : MethodName) (bytes : ByteArray) (maxL : Nat) (n : Nat) : Prop := Cl y bytes maxL none n ∧ y.name = "<init>" ∧ Cond.instanceMethod y ∈ U0
def ClS (y : MethodName) (bytes : ByteArray) (maxL : Nat) (ret : Option FieldType) (n : Nat) : Prop := Cl y bytes maxL ret n ∧ Cond.static y ∈ U0
section CW
variable {c0 : Cond} {R : Room} {s : State} {args : Array Value} {own host : String} {index maxL n : Nat} {y : MethodName} {bytes : ByteArray} {ret : Option FieldType} {rm : Room}
theorem gdU (h : Cond.code y bytes maxL ret ∈ U0) : GoodIn (c0 :: U0) (Cond.code y bytes maxL ret :: U0) := fun w hw => by
  have : w ∈ U0 := (List.mem_cons.mp hw).elim (fun e => e ▸ h) id
  exact ⟨.tail _ this, good_of_word (U0_good w this)⟩
theorem cB (hts : ∀ w ∈ c0 :: U0, w.before args s = true) (k : Cl y bytes maxL ret n) (hl : Cond.methodLink own index y ∈ U0) (hR : rm.frames + 1 ≤ R.frames ∧ 8 + (maxL + 11) + rm.locals ≤ R.locals) : CallB R s args own index y bytes maxL ret (Cond.code y bytes maxL ret :: U0) rm rm.cells rm.slots n :=
  callB_of n hts (gdU k.1) rfl rfl rfl (hts _ (.tail _ k.2.1)) (hts _ (.tail _ hl)) ⟨k.2.2.1, k.2.2.2.1, k.2.2.2.2⟩ hR
theorem cV (hts : ∀ w ∈ c0 :: U0, w.before args s = true) (k : ClV y bytes maxL ret n) (hl : Cond.methodLink own index y ∈ U0) (hR : rm.frames + 1 ≤ R.frames ∧ 8 + (maxL + 11) + rm.locals ≤ R.locals) : CallW R s args own y.cls index y bytes maxL ret (Cond.code y bytes maxL ret :: U0) rm rm.cells rm.slots n := ⟨cB hts k.1 hl hR, hts _ (.tail _ k.2.1), hts _ (.tail _ k.2.2)⟩
theorem cS (hts : ∀ w ∈ c0 :: U0, w.before args s = true) (k : ClS y bytes maxL ret n) (hl : Cond.methodLink own index y ∈ U0) (hR : rm.frames + 1 ≤ R.frames ∧ 8 + (maxL + 11) + rm.locals ≤ R.locals) : CallB R s args own index y bytes maxL ret (Cond.code y bytes maxL ret :: U0) rm rm.cells rm.slots n ∧ (Cond.static y).before args s = true := ⟨cB hts k.1 hl hR, hts _ (.tail _ k.2)⟩
theorem cI (hts : ∀ w ∈ c0 :: U0, w.before args s = true) (k : ClI y bytes maxL n) (hl : Cond.methodLink own index y ∈ U0) (hR : rm.frames + 1 ≤ R.frames ∧ 8 + (maxL + 11) + rm.locals ≤ R.locals) : CallB R s args own index y bytes maxL none (Cond.code y bytes maxL none :: U0) rm rm.cells rm.slots n ∧ y.name = "<init>" ∧ (Cond.instanceMethod y).before args s = true := ⟨cB hts k.1 hl hR, k.2.1, hts _ (.tail _ k.2.2)⟩
theorem cN (hts : ∀ w ∈ c0 :: U0, w.before args s = true) (k : Cl y bytes maxL ret n) (hl : va_Nw (.methodLinkNest own index y host) s) (hR : rm.frames + 1 ≤ R.frames ∧ 8 + (maxL + 11) + rm.locals ≤ R.locals) : va_CN R s args own index y host bytes maxL ret (Cond.code y bytes maxL ret :: U0) rm rm.cells rm.slots n :=
  va_cnB n hts (gdU k.1) rfl rfl rfl hl (hts _ (.tail _ k.2.1)) ⟨k.2.2.1, k.2.2.2.1, k.2.2.2.2⟩ hR
theorem cSN (hts : ∀ w ∈ c0 :: U0, w.before args s = true) (k : ClS y bytes maxL ret n) (hl : va_Nw (.methodLinkNest own index y host) s) (hR : rm.frames + 1 ≤ R.frames ∧ 8 + (maxL + 11) + rm.locals ≤ R.locals) : va_CN R s args own index y host bytes maxL ret (Cond.code y bytes maxL ret :: U0) rm rm.cells rm.slots n ∧ (Cond.static y).before args s = true ∧ True := ⟨cN hts k.1 hl hR, hts _ (.tail _ k.2), trivial⟩
theorem cIN (hts : ∀ w ∈ c0 :: U0, w.before args s = true) (k : ClI y bytes maxL n) (hl : va_Nw (.methodLinkNest own index y host) s) (hR : rm.frames + 1 ≤ R.frames ∧ 8 + (maxL + 11) + rm.locals ≤ R.locals) : va_CN R s args own index y host bytes maxL none (Cond.code y bytes maxL none :: U0) rm rm.cells rm.slots n ∧ y.name = "<init>" ∧ (Cond.instanceMethod y).before args s = true := ⟨cN hts k.1 hl hR, k.2.1, hts _ (.tail _ k.2.2)⟩
end CW
/-! What a method's contract is here: from the cells w it comes back with the answer o and the cells w2, the rest of the heap as it was. -/
def bI (b : Bool) : Int32 := if b then 1 else 0
theorem bI_n (b : Bool) : narrow .boolean (.int (bI b)) = .int (bI b) := by cases b <;> rfl
theorem bI_f (b : Bool) : fits .boolean (.int (bI b)) = true := by cases b <;> rfl
def Hp (D : va_G) (cl : List vw_C) (B A : Nat → Prop) (H0 H : Heap) (locs : List Loc) (w : va_W) : Prop := va_P D cl w H ∧ va_D B w ∧ va_S A H0 H locs
def Pw (D : va_G) (cl : List vw_C) (tys : List (ClassId × FieldType)) (av : List Value) (sz : Nat) (w : va_W) : Array Value → State → Prop := va_Pc av (fun U => U.heap.size = sz ∧ va_P D cl w U.heap ∧ Kx D cl tys U ∧ va_D (fun _ => True) w)
def Qw (D : va_G) (cl : List vw_C) (tys : List (ClassId × FieldType)) (o : Option Value) (A : Nat → Prop) (w : va_W) : Array Value → State → Outcome → State → Prop := fun _ st oc t => (oc = .returned o ∧ va_P D cl w t.heap ∧ va_D A w) ∧ va_F A st t
def Fn (l : Launch) (D : va_G) (cl : List vw_C) (tys : List (ClassId × FieldType)) (y : MethodName) (ws : List Cond) (rm : Room) (av : List Value) (w : va_W) (o : Option Value) (w2 : va_W) : Prop :=
  ∀ sz : Nat, Met l y ws rm (Pw D cl tys av sz w) (Qw D cl tys o (va_A w sz) w2) rm.cells rm.slots (va_A w sz)
def QR (o : Option Value) (A : Nat → Prop) : Array Value → State → Outcome → State → Prop := fun _ st oc t => oc = .returned o ∧ va_F A st t
/-- a method that changes nothing -/
def FnR (l : Launch) (D : va_G) (cl : List vw_C) (tys : List (ClassId × FieldType)) (y : MethodName) (ws : List Cond) (rm : Room) (av : List Value) (w : va_W) (o : Option Value) : Prop :=
  ∀ sz : Nat, Met l y ws rm (Pw D cl tys av sz w) (QR o (fun q => sz ≤ q)) rm.cells rm.slots (fun q => sz ≤ q)
/-- what stands fixed on a walk -/
def Cx (p : Program) (s : State) (m : MethodId) (args : Array Value) (meth : Method) (c : Code) (D : va_G) (cl : List vw_C) (tys : List (ClassId × FieldType)) (A : Nat → Prop) (cc : ByteArray) (nL : Nat) (ret : Option FieldType) (Ts : List Cond) (own : String) : Prop :=
  p.tables.exec = Jvm.exec ∧ c.code = cc ∧ meth.sig.returnType = ret ∧ c.maxLocals = nL ∧ s.vm.findClass own = some m.cls ∧ (∀ w ∈ Ts, w.before args s = true) ∧ meth.locks = false ∧ Kx D cl tys s ∧ (∀ q : Nat, s.heap.size ≤ q → A q)
theorem ip {c : Prop} {_ : Decidable c} {α : Type} {a b r : α} (hc : c) (h : (if c then a else b) = r) : a = r := by rw [if_pos hc] at h; exact h
theorem im {c : Prop} {_ : Decidable c} {α : Type} {a b r : α} (hc : ¬ c) (h : (if c then a else b) = r) : b = r := by rw [if_neg hc] at h; exact h
theorem ob {α β : Type} {x : Option α} {k : α → Option β} {r : β} (h : x.bind k = some r) : ∃ a, x = some a ∧ k a = some r := by
  cases x with
  | none => cases h
  | some a => exact ⟨a, rfl, h⟩
theorem oa {α : Type} {i : Int32} {n : Nat} {x : Option α} {r : α} (h : (if i < 0 ∨ n ≤ i.toNatClampNeg then none else x) = some r) : vp_in i n ∧ x = some r := by
  by_cases hc : i < 0 ∨ n ≤ i.toNatClampNeg
  · rw [if_pos hc] at h; cases h
  · rw [if_neg hc] at h; exact ⟨hc, h⟩
theorem va_pm {α : Type} {is : List Nat} {ws ws' : List α} (h : is.map (fun i => ws[i]?) = ws'.map some) : is.filterMap (fun i => ws[i]?) = ws' := by
  induction is generalizing ws' with
  | nil =>
    cases ws' with
    | nil => rfl
    | cons a b => simp at h
  | cons i is ih =>
    cases ws' with
    | nil => simp at h
    | cons a b =>
      rw [List.map_cons, List.map_cons] at h
      injection h with h1 h2
      simp [List.filterMap_cons, h1, ih h2]
theorem Pw_blind {D : va_G} {cl : List vw_C} {tys : List (ClassId × FieldType)} {av : List Value} {sz : Nat} {w : va_W} : FrameBlind (Pw D cl tys av sz w) := fun a U g mk q => by
  obtain ⟨q0, q1, qP, qK, qD⟩ := q
  exact ⟨q0, q1, qP, Kx.same (u := U) (U := U.calling g mk a) rfl qK, qD⟩
def lt1 {α β : Type} (a : α) (k : α → β) : β := k a
theorem lb {α β : Type} {a : α} {k : α → β} {r : β} (h : lt1 a k = r) : ∃ x, a = x ∧ k x = r := ⟨a, rfl, h⟩
theorem vinN {x k : Int32} {n : Nat} (hk : k.toInt = (n : Int)) (h0 : ¬ x < 0) (h1 : ¬ k ≤ x) : vp_in x n := by
  rw [vp_in_iff]
  rw [Int32.lt_iff_toInt_lt, Int32.toInt_zero] at h0
  rw [Int32.le_iff_toInt_le, hk] at h1
  omega
theorem vin5000 {x : Int32} (h0 : ¬ x < 0) (h1 : ¬ 5000 ≤ x) : vp_in x 5000 := vinN (by decide) h0 h1
theorem vin300 {x : Int32} (h0 : ¬ x < 0) (h1 : ¬ 300 ≤ x) : vp_in x 300 := vinN (by decide) h0 h1
theorem vin300l {x : Int32} (h0 : ¬ x < 0) (h1 : x < 300) : vp_in x 300 := vin300 h0 (fun h => by
  rw [Int32.lt_iff_toInt_lt] at h1
  rw [Int32.le_iff_toInt_le] at h
  omega)
theorem tb_in {n : Int32} {k : Int64} (h1 : ¬ lg_cmp k 1 < 0) (h2 : ¬ 0 < lg_cmp k n.toInt64) (h3 : lg_cmp k 300 ≤ 0) (h4 : ¬ 300 ≤ n - k.toInt32) : vp_in (n - k.toInt32) 300 := by
  rw [lg_cmp_lt, Int64.lt_iff_toInt_lt] at h1
  rw [lg_cmp_gt, Int64.lt_iff_toInt_lt, Int32.toInt_toInt64] at h2
  rw [lg_cmp_le, Int64.le_iff_toInt_le] at h3
  have e1 : (1 : Int64).toInt = 1 := by decide
  have e3 : (300 : Int64).toInt = 300 := by decide
  rw [e1] at h1
  rw [e3] at h3
  refine vin300 (fun h => ?_) h4
  rw [Int32.lt_iff_toInt_lt, Int32.toInt_sub, Int64.toInt_toInt32, Int32.toInt_zero] at h
  have a1 := n.toInt_lt
  have a2 := n.le_toInt
  have e5 : k.toInt.bmod (2 ^ 32) = k.toInt := by rw [Int.bmod_def]; split <;> omega
  rw [e5, Int.bmod_def] at h
  split at h <;> omega
theorem tb_o {x : Int32} {lo hi : Int} (h : ∀ k : Int, lo ≤ k → k ≤ hi → x.toInt ≠ k) : x.toInt < lo ∨ hi < x.toInt := by
  by_cases h1 : x.toInt < lo
  · exact Or.inl h1
  · by_cases h2 : hi < x.toInt
    · exact Or.inr h2
    · exact absurd rfl (h x.toInt (by omega) (by omega))
theorem i32n {x y : Int32} {k : Int} (h : ¬ x = y) (hk : y.toInt = k) : x.toInt ≠ k := fun e => h (Int32.toInt_inj.mp (e.trans hk.symm))
section FNW
variable {l : Launch} {D : va_G} {cl : List vw_C} {tys : List (ClassId × FieldType)}
theorem Fn.ofW {y : MethodName} {ws ws' : List Cond} {rm : Room} {av : List Value} {w w2 : va_W} {o : Option Value} {cc : ByteArray} {maxL : Nat} {ret : Option FieldType}
    (hy : plainName y.cls = true) (hw : ws = Cond.code y cc maxL ret :: ws') (hlen : (lg_sl av).length ≤ maxL)
    (body : ∀ (p : Program) (e : Env) (s : State) (m : MethodId) (below : List Frame) (meth : Method) (c : Code) (A : Nat → Prop) (ls : Array Slot), Cx p s m av.toArray meth c D cl tys A cc maxL ret ws y.cls → Hp D cl A A s.heap s.heap [] w → (y.name = "<init>" → meth.name = "<init>") → lv_has ls maxL (lv_args 0 av) →
      W p l e rm s m av.toArray below meth c s.heap [] 0 0 (MQ below (Qw D cl tys o A w2) av.toArray s rm.cells rm.slots A) (F0 m 0 ls [])) : Fn l D cl tys y ws rm av w o w2 := by
  intro sz
  refine Met.ofW (cc := cc) (maxL := maxL) (ret := ret) hy hw ?_
  intro p e s m args below meth c s₁ B hml hv
  obtain ⟨rfl, hsz, hP, hK, hD0⟩ := hv
  subst hsz
  rw [lg_entry_eq]
  exact body p e s m below meth c (va_A w s.heap.size) _ ⟨B.exec, B.bytes, B.returns, hml, findClass_of_methodNamed B.named, atoms_spec (ws := ws) B.pre, B.notSynchronized, hK, fun q h => Or.inr h⟩ ⟨hP, hD0.self, va_S.rf⟩ (fun h => (name_of_methodNamed B.named B.method).1.trans h) (lv_entry av hlen)
theorem FnR.ofW {y : MethodName} {ws ws' : List Cond} {rm : Room} {av : List Value} {w : va_W} {o : Option Value} {cc : ByteArray} {maxL : Nat} {ret : Option FieldType}
    (hy : plainName y.cls = true) (hw : ws = Cond.code y cc maxL ret :: ws') (hlen : (lg_sl av).length ≤ maxL)
    (body : ∀ (p : Program) (e : Env) (s : State) (m : MethodId) (below : List Frame) (meth : Method) (c : Code) (A : Nat → Prop) (ls : Array Slot), Cx p s m av.toArray meth c D cl tys A cc maxL ret ws y.cls → Hp D cl (fun _ => True) A s.heap s.heap [] w → lv_has ls maxL (lv_args 0 av) →
      W p l e rm s m av.toArray below meth c s.heap [] 0 0 (MQ below (QR o A) av.toArray s rm.cells rm.slots A) (F0 m 0 ls [])) : FnR l D cl tys y ws rm av w o := by
  intro sz
  refine Met.ofW (cc := cc) (maxL := maxL) (ret := ret) hy hw ?_
  intro p e s m args below meth c s₁ B hml hv
  obtain ⟨rfl, hsz, hP, hK, hD0⟩ := hv
  subst hsz
  rw [lg_entry_eq]
  exact body p e s m below meth c (fun q => s.heap.size ≤ q) _ ⟨B.exec, B.bytes, B.returns, hml, findClass_of_methodNamed B.named, atoms_spec (ws := ws) B.pre, B.notSynchronized, hK, fun q h => h⟩ ⟨hP, hD0, va_S.rf⟩ (lv_entry av hlen)
variable {p : Program} {e : Env} {R : Room} {s : State} {m : MethodId} {args : Array Value} {below : List Frame} {meth : Method} {c : Code} {H : Heap} {locs : List Loc} {cells slots : Nat} {Q : State → Prop}
variable {A : Nat → Prop} {cc : ByteArray} {nL : Nat} {ret : Option FieldType} {Ts : List Cond} {own : String} {w : va_W} {pc : Nat} {ls : Array Slot} {rest : List Value}
/-- a field is read -/
theorem gt (C : Cx p s m args meth c D cl tys A cc nL ret Ts own) {B : Nat → Prop} (hH : Hp D cl B A s.heap H locs w) {Cn : String} {T : u_T} {N ci index : Nat} (hin : ∀ x ∈ u_ws Cn T N, x ∈ Ts) (q0 : Nat) {a : Nat} {fs : List Value} (he : w[q0]? = some (a, .inr (ci, fs))) (hc : cl[ci]? = some (Cn, T, N)) (k : Nat) (hk : k < N)
    (hlink : Cond.fieldLink own index (T k).1 (T k).2.1 (T k).2.2.1 ∈ Ts) {v : Value} (hv : fs[k]? = some v) (hdg : decode cc pc = .ok (.getfield index, 3))
    (kk : W p l e R s m args below meth c H locs cells slots Q (F0 m (pc + 3) ls (v :: rest))) : W p l e R s m args below meth c H locs cells slots Q (F0 m pc ls (.ref a :: rest)) :=
  va_get (D := D) C.1 C.2.1 C.2.2.2.2.2.1 hin C.2.2.2.2.1 C.2.2.2.2.2.2.2.1.1 hH.1 q0 he hc k hk (C.2.2.2.2.2.1 _ hlink) (fun _ h => h) hv hdg kk
/-- a field is written -/
theorem pt (C : Cx p s m args meth c D cl tys A cc nL ret Ts own) (hH : Hp D cl A A s.heap H locs w) {Cn : String} {T : u_T} {N ci index : Nat} (hin : ∀ x ∈ u_ws Cn T N, x ∈ Ts) (ty0 : Nat → FieldType) (hty : ∀ k, k < N → parseFieldDescriptor (T k).2.2.1 = some (ty0 k)) (hnm : ∀ a, a < N → ∀ b, b < N → a ≠ b → (T a).2.1 ≠ (T b).2.1) (q0 : Nat) {a : Nat} {fs : List Value} (he : w[q0]? = some (a, .inr (ci, fs))) (hc : cl[ci]? = some (Cn, T, N)) (k : Nat) (hk : k < N)
    (hlink : Cond.fieldLink own index (T k).1 (T k).2.1 (T k).2.2.1 ∈ Ts) (hfin : (T k).2.2.2 = false) {v : Value} (hn : narrow (ty0 k) v = v) (hfit : fits (ty0 k) v = true) (hl : k < fs.length) (hdg : decode cc pc = .ok (.putfield index, 3)) (w2 : va_W) (hw2 : w.set q0 (a, .inr (ci, fs.set k v)) = w2)
    (kk : ∀ (H1 : Heap) (locs1 : List Loc), Hp D cl A A s.heap H1 locs1 w2 → W p l e R s m args below meth c H1 locs1 cells slots Q (F0 m (pc + 3) ls rest)) : W p l e R s m args below meth c H locs cells slots Q (F0 m pc ls (v :: .ref a :: rest)) := by
  subst hw2
  exact va_put (D := D) C.1 C.2.1 C.2.2.2.2.2.1 hin ty0 hty hnm C.2.2.2.2.1 C.2.2.2.2.2.2.2.1.1 hH.1 hH.2.1 hH.2.2 q0 he hc k hk (C.2.2.2.2.2.1 _ hlink) (fun _ h => h) hfin (hty k hk) hn hfit hl hdg (fun H1 locs1 a1 a2 a3 => kk H1 locs1 ⟨a1, a2, a3⟩)
/-- a final field is written, in a constructor -/
theorem ptF (C : Cx p s m args meth c D cl tys A cc nL ret Ts own) (hH : Hp D cl A A s.heap H locs w) {Cn : String} {T : u_T} {N ci index : Nat} (hin : ∀ x ∈ u_ws Cn T N, x ∈ Ts) (ty0 : Nat → FieldType) (hty : ∀ k, k < N → parseFieldDescriptor (T k).2.2.1 = some (ty0 k)) (hnm : ∀ a, a < N → ∀ b, b < N → a ≠ b → (T a).2.1 ≠ (T b).2.1) (hin2 : meth.name = "<init>") (q0 : Nat) {a : Nat} {fs : List Value} (he : w[q0]? = some (a, .inr (ci, fs))) (hc : cl[ci]? = some (Cn, T, N)) (k : Nat) (hk : k < N)
    (hlink : Cond.fieldLink own index (T k).1 (T k).2.1 (T k).2.2.1 ∈ Ts) (hfin : (T k).2.2.2 = true) (hdecl : (T k).1 = own) {v : Value} (hn : narrow (ty0 k) v = v) (hfit : fits (ty0 k) v = true) (hl : k < fs.length) (hdg : decode cc pc = .ok (.putfield index, 3)) (w2 : va_W) (hw2 : w.set q0 (a, .inr (ci, fs.set k v)) = w2)
    (kk : ∀ (H1 : Heap) (locs1 : List Loc), Hp D cl A A s.heap H1 locs1 w2 → W p l e R s m args below meth c H1 locs1 cells slots Q (F0 m (pc + 3) ls rest)) : W p l e R s m args below meth c H locs cells slots Q (F0 m pc ls (v :: .ref a :: rest)) := by
  subst hw2
  exact va_putF (D := D) C.1 C.2.1 C.2.2.2.2.2.1 hin ty0 hty hnm C.2.2.2.2.1 C.2.2.2.2.2.2.2.1.1 hH.1 hH.2.1 hH.2.2 q0 he hc k hk (C.2.2.2.2.2.1 _ hlink) (fun _ h => h) hfin hin2 hdecl (hty k hk) hn hfit hl hdg (fun H1 locs1 a1 a2 a3 => kk H1 locs1 ⟨a1, a2, a3⟩)
theorem ali (C : Cx p s m args meth c D cl tys A cc nL ret Ts own) {B : Nat → Prop} (hH : Hp D cl B A s.heap H locs w) (q0 t0 : Nat) {a : Nat} {cA : ClassId} {n : Nat} {f : Nat → Int32} (ha : w[q0]? = some (a, .inl (cA, n, .inl f))) (ht : tys[t0]? = some (cA, .int)) {i : Int32} (hin : vp_in i n) (hdg : decode cc pc = .ok (.iaload, 1))
    (kk : W p l e R s m args below meth c H locs cells slots Q (F0 m (pc + 1) ls (.int (f i.toNatClampNeg) :: rest))) : W p l e R s m args below meth c H locs cells slots Q (F0 m pc ls (.int i :: .ref a :: rest)) :=
  va_iald (D := D) C.1 C.2.1 C.2.2.2.2.2.2.2.1.1 hH.1 q0 t0 ha ht hin hdg kk
theorem all_ (C : Cx p s m args meth c D cl tys A cc nL ret Ts own) {B : Nat → Prop} (hH : Hp D cl B A s.heap H locs w) (q0 t0 : Nat) {a : Nat} {cA : ClassId} {n : Nat} {f : Nat → Int64} (ha : w[q0]? = some (a, .inl (cA, n, .inr (.inl f)))) (ht : tys[t0]? = some (cA, .long)) {i : Int32} (hin : vp_in i n) (hdg : decode cc pc = .ok (.laload, 1))
    (kk : W p l e R s m args below meth c H locs cells slots Q (F0 m (pc + 1) ls (.long (f i.toNatClampNeg) :: rest))) : W p l e R s m args below meth c H locs cells slots Q (F0 m pc ls (.int i :: .ref a :: rest)) :=
  va_lald (D := D) C.1 C.2.1 C.2.2.2.2.2.2.2.1.1 hH.1 q0 t0 ha ht hin hdg kk
theorem asi (C : Cx p s m args meth c D cl tys A cc nL ret Ts own) (hH : Hp D cl A A s.heap H locs w) (q0 t0 : Nat) {a : Nat} {cA : ClassId} {n : Nat} {f : Nat → Int32} (ha : w[q0]? = some (a, .inl (cA, n, .inl f))) (ht : tys[t0]? = some (cA, .int)) {i x : Int32} (hin : vp_in i n) (hdg : decode cc pc = .ok (.iastore, 1)) (w2 : va_W) (hw2 : w.set q0 (a, .inl (cA, n, .inl (upd f i.toNatClampNeg x))) = w2)
    (kk : ∀ (H1 : Heap) (locs1 : List Loc), Hp D cl A A s.heap H1 locs1 w2 → W p l e R s m args below meth c H1 locs1 cells slots Q (F0 m (pc + 1) ls rest)) : W p l e R s m args below meth c H locs cells slots Q (F0 m pc ls (.int x :: .int i :: .ref a :: rest)) := by
  subst hw2
  exact va_iast (D := D) C.1 C.2.1 C.2.2.2.2.2.2.2.1.1 hH.1 hH.2.1 hH.2.2 q0 t0 ha ht hin hdg (fun H1 locs1 a1 a2 a3 => kk H1 locs1 ⟨a1, a2, a3⟩)
theorem asl (C : Cx p s m args meth c D cl tys A cc nL ret Ts own) (hH : Hp D cl A A s.heap H locs w) (q0 t0 : Nat) {a : Nat} {cA : ClassId} {n : Nat} {f : Nat → Int64} (ha : w[q0]? = some (a, .inl (cA, n, .inr (.inl f)))) (ht : tys[t0]? = some (cA, .long)) {i : Int32} {x : Int64} (hin : vp_in i n) (hdg : decode cc pc = .ok (.lastore, 1)) (w2 : va_W) (hw2 : w.set q0 (a, .inl (cA, n, .inr (.inl (vp_updL f i.toNatClampNeg x)))) = w2)
    (kk : ∀ (H1 : Heap) (locs1 : List Loc), Hp D cl A A s.heap H1 locs1 w2 → W p l e R s m args below meth c H1 locs1 cells slots Q (F0 m (pc + 1) ls rest)) : W p l e R s m args below meth c H locs cells slots Q (F0 m pc ls (.long x :: .int i :: .ref a :: rest)) := by
  subst hw2
  exact va_last (D := D) C.1 C.2.1 C.2.2.2.2.2.2.2.1.1 hH.1 hH.2.1 hH.2.2 q0 t0 ha ht hin hdg (fun H1 locs1 a1 a2 a3 => kk H1 locs1 ⟨a1, a2, a3⟩)
/-- behind a call: what the callee gave beside the rest, in the order that is asked for -/
theorem callIt {wc wr w1 w2 : va_W} {o : Option Value} {a : Array Value} {mc ms : Nat} {st0 st2 : List Value}
    (C : Cx p s m args meth c D cl tys A cc nL ret Ts own) (hH : Hp D cl A A s.heap H locs w) (isC isR isP : List Nat) (hC : isC.map (fun i => w[i]?) = wc.map some) (hR : isR.map (fun i => w[i]?) = wr.map some) (hn : va_nd isR = true) (hdis : ∀ i ∈ isR, i ∉ isC) (hPm : isP.map (fun i => (wr ++ w1)[i]?) = w2.map some) (hPn : va_nd isP = true)
    (hr : va_Run p l e R s m args below meth c H locs cells slots mc ms (F0 m pc ls st0) rest (Qw D cl tys o (va_A wc H.size) w1 a) (va_A wc H.size)) (hst2 : o.toList ++ rest = st2)
    (kk : ∀ (H1 : Heap) (locs1 : List Loc), Hp D cl A A s.heap H1 locs1 w2 → W p l e R s m args below meth c H1 locs1 (cells + mc) (slots + ms) Q (F0 m (pc + 3) ls st2)) : W p l e R s m args below meth c H locs cells slots Q (F0 m pc ls st0) := by
  subst hst2
  obtain ⟨hP, hD, hS⟩ := hH
  have hFc := va_free (wc := wc) hD hS C.2.2.2.2.2.2.2.2 isC hC
  intro T hT X
  obtain ⟨v, st₀, t, T', L, h0, X', hL, e1, e2, ⟨⟨hv, hP1, hD1⟩, hz, hk⟩, st⟩ := hr T hT X
  cases hv
  rw [h0] at hz hk
  rw [← e1] at hP1 hz hk
  obtain ⟨hPj, hDj⟩ := va_join (wr := wr) (w1 := w1) hP hD isC isR hC hR hn hdis hk hFc hP1 hD1
  have hS1 : va_S A s.heap T'.heap (locs ++ L) := ⟨Nat.le_trans hS.1 hz, fun q h1 h2 => by rw [hk q (Nat.lt_of_lt_of_le h1 hS.1) (fun z => h2 (hFc q z))]; exact hS.2.1 q h1 h2, fun q hq => by
      rcases List.mem_append.mp hq with h | h
      · exact hS.2.2 q h
      · exact hFc _ (hL q h)⟩
  obtain ⟨t2, a1, b1⟩ := kk T'.heap (locs ++ L) ⟨hPj.sub isP (va_pm hPm), hDj.sub isP hPn hPm, hS1⟩ T' rfl X'
  exact ⟨t2, st t2 a1, b1⟩
theorem fnV {wc wr w1 w2 : va_W} {o : Option Value} {st0 st2 : List Value} {y : MethodName} {bytes : ByteArray} {maxL n index : Nat} {ws : List Cond} {rm : Room} {As : List Value} {ret2 : Option FieldType} {Cn : String} {b : Nat} (C : Cx p s m args meth c D cl tys A cc nL ret Ts own) (hF : Fn l D cl tys y ws rm (.ref b :: As) wc o w1) (cw : CallW R s args own Cn index y bytes maxL ret2 ws rm rm.cells rm.slots n) (hH : Hp D cl A A s.heap H locs w) (isC isR isP : List Nat) (hC : isC.map (fun i => w[i]?) = wc.map some) (hnC : va_nd isC = true) (hR : isR.map (fun i => w[i]?) = wr.map some) (hn : va_nd isR = true) (hdis : ∀ i ∈ isR, i ∉ isC) (hPm : isP.map (fun i => (wr ++ w1)[i]?) = w2.map some) (hPn : va_nd isP = true)
    (q0 : Nat) {ci N : Nat} {T : u_T} {fs : List Value} (he : wc[q0]? = some (b, .inr (ci, fs))) (hc : cl[ci]? = some (Cn, T, N)) (hnA : As.length = n) (hl : ls.size = nL) (hst : st0 = As.reverse ++ .ref b :: rest) (hrm : (rest.map fun v => v.category).sum ≤ 8) (hdg : decode cc pc = .ok (.invokevirtual index, 3)) (hf : cells + rm.cells ≤ R.cells ∧ slots + rm.slots ≤ R.slots) (hst2 : o.toList ++ rest = st2)
    (kk : ∀ (H1 : Heap) (locs1 : List Loc), Hp D cl A A s.heap H1 locs1 w2 → W p l e R s m args below meth c H1 locs1 (cells + rm.cells) (slots + rm.slots) Q (F0 m (pc + 3) ls st2)) : W p l e R s m args below meth c H locs cells slots Q (F0 m pc ls st0) := by
  obtain ⟨hP, hD, hS⟩ := id hH
  have hPc := hP.sub isC (va_pm hC)
  have hDc := hD.sub isC hnC hC
  have hK := C.2.2.2.2.2.2.2.1
  exact callIt C hH isC isR isP hC hR hn hdis hPm hPn (va_runV ⟨C.1, C.2.1, C.2.2.2.1, C.2.2.2.2.1, C.2.2.2.2.2.1⟩ (hF H.size) cw ⟨Pw_blind, va_recv hK.1 hPc hc he, fun U hU hW => ⟨rfl, by rw [hU], by rw [hU]; exact hPc, Kx.warm hW hK, hDc.weaken (fun _ _ _ _ => trivial)⟩⟩ rfl hnA hl hst (lv_room hrm) hdg hf) hst2 kk
theorem fnS {wc wr w1 w2 : va_W} {o : Option Value} {st0 st2 : List Value} {y : MethodName} {bytes : ByteArray} {maxL n index : Nat} {ws : List Cond} {rm : Room} {As : List Value} {ret2 : Option FieldType} (C : Cx p s m args meth c D cl tys A cc nL ret Ts own) (hF : Fn l D cl tys y ws rm As wc o w1) (cw : CallB R s args own index y bytes maxL ret2 ws rm rm.cells rm.slots n ∧ (Cond.static y).before args s = true) (hH : Hp D cl A A s.heap H locs w) (isC isR isP : List Nat) (hC : isC.map (fun i => w[i]?) = wc.map some) (hnC : va_nd isC = true) (hR : isR.map (fun i => w[i]?) = wr.map some) (hn : va_nd isR = true) (hdis : ∀ i ∈ isR, i ∉ isC) (hPm : isP.map (fun i => (wr ++ w1)[i]?) = w2.map some) (hPn : va_nd isP = true)
    (hnA : As.length = n) (hl : ls.size = nL) (hst : st0 = As.reverse ++ rest) (hrm : (rest.map fun v => v.category).sum ≤ 8) (hdg : decode cc pc = .ok (.invokestatic index, 3)) (hf : cells + rm.cells ≤ R.cells ∧ slots + rm.slots ≤ R.slots) (hst2 : o.toList ++ rest = st2)
    (kk : ∀ (H1 : Heap) (locs1 : List Loc), Hp D cl A A s.heap H1 locs1 w2 → W p l e R s m args below meth c H1 locs1 (cells + rm.cells) (slots + rm.slots) Q (F0 m (pc + 3) ls st2)) : W p l e R s m args below meth c H locs cells slots Q (F0 m pc ls st0) := by
  obtain ⟨hP, hD, hS⟩ := id hH
  have hPc := hP.sub isC (va_pm hC)
  have hDc := hD.sub isC hnC hC
  have hK := C.2.2.2.2.2.2.2.1
  exact callIt C hH isC isR isP hC hR hn hdis hPm hPn (va_runS ⟨C.1, C.2.1, C.2.2.2.1, C.2.2.2.2.1, C.2.2.2.2.2.1⟩ (hF H.size) cw ⟨Pw_blind, fun U hU hW => ⟨rfl, by rw [hU], by rw [hU]; exact hPc, Kx.warm hW hK, hDc.weaken (fun _ _ _ _ => trivial)⟩⟩ rfl hnA hl hst (lv_room hrm) hdg hf) hst2 kk
theorem fnI {wc wr w1 w2 : va_W} {o : Option Value} {st0 st2 : List Value} {y : MethodName} {bytes : ByteArray} {maxL n index : Nat} {ws : List Cond} {rm : Room} {As : List Value} {b : Nat} (C : Cx p s m args meth c D cl tys A cc nL ret Ts own) (hF : Fn l D cl tys y ws rm (.ref b :: As) wc o w1) (cw : CallB R s args own index y bytes maxL none ws rm rm.cells rm.slots n ∧ y.name = "<init>" ∧ (Cond.instanceMethod y).before args s = true) (hH : Hp D cl A A s.heap H locs w) (isC isR isP : List Nat) (hC : isC.map (fun i => w[i]?) = wc.map some) (hnC : va_nd isC = true) (hR : isR.map (fun i => w[i]?) = wr.map some) (hn : va_nd isR = true) (hdis : ∀ i ∈ isR, i ∉ isC) (hPm : isP.map (fun i => (wr ++ w1)[i]?) = w2.map some) (hPn : va_nd isP = true)
    (hnA : As.length = n) (hl : ls.size = nL) (hst : st0 = As.reverse ++ .ref b :: rest) (hrm : (rest.map fun v => v.category).sum ≤ 8) (hdg : decode cc pc = .ok (.invokespecial index, 3)) (hf : cells + rm.cells ≤ R.cells ∧ slots + rm.slots ≤ R.slots) (hst2 : o.toList ++ rest = st2)
    (kk : ∀ (H1 : Heap) (locs1 : List Loc), Hp D cl A A s.heap H1 locs1 w2 → W p l e R s m args below meth c H1 locs1 (cells + rm.cells) (slots + rm.slots) Q (F0 m (pc + 3) ls st2)) : W p l e R s m args below meth c H locs cells slots Q (F0 m pc ls st0) := by
  obtain ⟨hP, hD, hS⟩ := id hH
  have hPc := hP.sub isC (va_pm hC)
  have hDc := hD.sub isC hnC hC
  have hK := C.2.2.2.2.2.2.2.1
  exact callIt C hH isC isR isP hC hR hn hdis hPm hPn (va_runI ⟨C.1, C.2.1, C.2.2.2.1, C.2.2.2.2.1, C.2.2.2.2.2.1⟩ (hF H.size) cw ⟨Pw_blind, fun U hU hW => ⟨rfl, by rw [hU], by rw [hU]; exact hPc, Kx.warm hW hK, hDc.weaken (fun _ _ _ _ => trivial)⟩⟩ rfl hnA hl hst (lv_room hrm) hdg hf) hst2 kk
theorem fnVN {wc wr w1 w2 : va_W} {o : Option Value} {st0 st2 : List Value} {y : MethodName} {bytes : ByteArray} {maxL n index : Nat} {ws : List Cond} {rm : Room} {As : List Value} {ret2 : Option FieldType} {Cn host : String} {b : Nat} (C : Cx p s m args meth c D cl tys A cc nL ret Ts own) (hF : Fn l D cl tys y ws rm (.ref b :: As) wc o w1) (cw : va_CN R s args own index y host bytes maxL ret2 ws rm rm.cells rm.slots n ∧ (Cond.instanceMethod y).before args s = true ∧ (Cond.selects Cn y y).before args s = true) (hH : Hp D cl A A s.heap H locs w) (isC isR isP : List Nat) (hC : isC.map (fun i => w[i]?) = wc.map some) (hnC : va_nd isC = true) (hR : isR.map (fun i => w[i]?) = wr.map some) (hn : va_nd isR = true) (hdis : ∀ i ∈ isR, i ∉ isC) (hPm : isP.map (fun i => (wr ++ w1)[i]?) = w2.map some) (hPn : va_nd isP = true)
    (q0 : Nat) {ci N : Nat} {T : u_T} {fs : List Value} (he : wc[q0]? = some (b, .inr (ci, fs))) (hc : cl[ci]? = some (Cn, T, N)) (hnA : As.length = n) (hl : ls.size = nL) (hst : st0 = As.reverse ++ .ref b :: rest) (hrm : (rest.map fun v => v.category).sum ≤ 8) (hdg : decode cc pc = .ok (.invokevirtual index, 3)) (hf : cells + rm.cells ≤ R.cells ∧ slots + rm.slots ≤ R.slots) (hst2 : o.toList ++ rest = st2)
    (kk : ∀ (H1 : Heap) (locs1 : List Loc), Hp D cl A A s.heap H1 locs1 w2 → W p l e R s m args below meth c H1 locs1 (cells + rm.cells) (slots + rm.slots) Q (F0 m (pc + 3) ls st2)) : W p l e R s m args below meth c H locs cells slots Q (F0 m pc ls st0) := by
  obtain ⟨hP, hD, hS⟩ := id hH
  have hPc := hP.sub isC (va_pm hC)
  have hDc := hD.sub isC hnC hC
  have hK := C.2.2.2.2.2.2.2.1
  exact callIt C hH isC isR isP hC hR hn hdis hPm hPn (va_runVN ⟨C.1, C.2.1, C.2.2.2.1, C.2.2.2.2.1, C.2.2.2.2.2.1⟩ (hF H.size) cw ⟨Pw_blind, va_recv hK.1 hPc hc he, fun U hU hW => ⟨rfl, by rw [hU], by rw [hU]; exact hPc, Kx.warm hW hK, hDc.weaken (fun _ _ _ _ => trivial)⟩⟩ rfl hnA hl hst (lv_room hrm) hdg hf) hst2 kk
theorem fnSN {wc wr w1 w2 : va_W} {o : Option Value} {st0 st2 : List Value} {y : MethodName} {bytes : ByteArray} {maxL n index : Nat} {ws : List Cond} {rm : Room} {As : List Value} {ret2 : Option FieldType} {host : String} (C : Cx p s m args meth c D cl tys A cc nL ret Ts own) (hF : Fn l D cl tys y ws rm As wc o w1) (cw : va_CN R s args own index y host bytes maxL ret2 ws rm rm.cells rm.slots n ∧ (Cond.static y).before args s = true ∧ True) (hH : Hp D cl A A s.heap H locs w) (isC isR isP : List Nat) (hC : isC.map (fun i => w[i]?) = wc.map some) (hnC : va_nd isC = true) (hR : isR.map (fun i => w[i]?) = wr.map some) (hn : va_nd isR = true) (hdis : ∀ i ∈ isR, i ∉ isC) (hPm : isP.map (fun i => (wr ++ w1)[i]?) = w2.map some) (hPn : va_nd isP = true)
    (hnA : As.length = n) (hl : ls.size = nL) (hst : st0 = As.reverse ++ rest) (hrm : (rest.map fun v => v.category).sum ≤ 8) (hdg : decode cc pc = .ok (.invokestatic index, 3)) (hf : cells + rm.cells ≤ R.cells ∧ slots + rm.slots ≤ R.slots) (hst2 : o.toList ++ rest = st2)
    (kk : ∀ (H1 : Heap) (locs1 : List Loc), Hp D cl A A s.heap H1 locs1 w2 → W p l e R s m args below meth c H1 locs1 (cells + rm.cells) (slots + rm.slots) Q (F0 m (pc + 3) ls st2)) : W p l e R s m args below meth c H locs cells slots Q (F0 m pc ls st0) := by
  obtain ⟨hP, hD, hS⟩ := id hH
  have hPc := hP.sub isC (va_pm hC)
  have hDc := hD.sub isC hnC hC
  have hK := C.2.2.2.2.2.2.2.1
  exact callIt C hH isC isR isP hC hR hn hdis hPm hPn (va_runSN ⟨C.1, C.2.1, C.2.2.2.1, C.2.2.2.2.1, C.2.2.2.2.2.1⟩ (hF H.size) cw ⟨Pw_blind, fun U hU hW => ⟨rfl, by rw [hU], by rw [hU]; exact hPc, Kx.warm hW hK, hDc.weaken (fun _ _ _ _ => trivial)⟩⟩ rfl hnA hl hst (lv_room hrm) hdg hf) hst2 kk
theorem fnIN {wc wr w1 w2 : va_W} {o : Option Value} {st0 st2 : List Value} {y : MethodName} {bytes : ByteArray} {maxL n index : Nat} {ws : List Cond} {rm : Room} {As : List Value} {host : String} {b : Nat} (C : Cx p s m args meth c D cl tys A cc nL ret Ts own) (hF : Fn l D cl tys y ws rm (.ref b :: As) wc o w1) (cw : va_CN R s args own index y host bytes maxL none ws rm rm.cells rm.slots n ∧ y.name = "<init>" ∧ (Cond.instanceMethod y).before args s = true) (hH : Hp D cl A A s.heap H locs w) (isC isR isP : List Nat) (hC : isC.map (fun i => w[i]?) = wc.map some) (hnC : va_nd isC = true) (hR : isR.map (fun i => w[i]?) = wr.map some) (hn : va_nd isR = true) (hdis : ∀ i ∈ isR, i ∉ isC) (hPm : isP.map (fun i => (wr ++ w1)[i]?) = w2.map some) (hPn : va_nd isP = true)
    (hnA : As.length = n) (hl : ls.size = nL) (hst : st0 = As.reverse ++ .ref b :: rest) (hrm : (rest.map fun v => v.category).sum ≤ 8) (hdg : decode cc pc = .ok (.invokespecial index, 3)) (hf : cells + rm.cells ≤ R.cells ∧ slots + rm.slots ≤ R.slots) (hst2 : o.toList ++ rest = st2)
    (kk : ∀ (H1 : Heap) (locs1 : List Loc), Hp D cl A A s.heap H1 locs1 w2 → W p l e R s m args below meth c H1 locs1 (cells + rm.cells) (slots + rm.slots) Q (F0 m (pc + 3) ls st2)) : W p l e R s m args below meth c H locs cells slots Q (F0 m pc ls st0) := by
  obtain ⟨hP, hD, hS⟩ := id hH
  have hPc := hP.sub isC (va_pm hC)
  have hDc := hD.sub isC hnC hC
  have hK := C.2.2.2.2.2.2.2.1
  exact callIt C hH isC isR isP hC hR hn hdis hPm hPn (va_runIN ⟨C.1, C.2.1, C.2.2.2.1, C.2.2.2.2.1, C.2.2.2.2.2.1⟩ (hF H.size) cw ⟨Pw_blind, fun U hU hW => ⟨rfl, by rw [hU], by rw [hU]; exact hPc, Kx.warm hW hK, hDc.weaken (fun _ _ _ _ => trivial)⟩⟩ rfl hnA hl hst (lv_room hrm) hdg hf) hst2 kk
theorem rI {v : Int32} (C : Cx p s m args meth c D cl tys A cc nL (some .int) Ts own) (hH : Hp D cl A A s.heap H locs w) (hdg : decode cc pc = .ok (.ireturn, 1)) : W p l e R s m args below meth c H locs cells slots (MQ below (Qw D cl tys (some (.int v)) A w) args s cells slots A) (F0 m pc ls [.int v]) :=
  W.iret C.1 C.2.1 C.2.2.1 (fun t ht hW => ⟨⟨rfl, by rw [ht]; exact hH.1, hH.2.1⟩, hH.2.2.F ht⟩) hH.2.2.2.2 hdg C.2.2.2.2.2.2.1
theorem rJ {v : Int64} (C : Cx p s m args meth c D cl tys A cc nL (some .long) Ts own) (hH : Hp D cl A A s.heap H locs w) (hdg : decode cc pc = .ok (.lreturn, 1)) : W p l e R s m args below meth c H locs cells slots (MQ below (Qw D cl tys (some (.long v)) A w) args s cells slots A) (F0 m pc ls [.long v]) :=
  W.lret C.1 C.2.1 C.2.2.1 (fun t ht hW => ⟨⟨rfl, by rw [ht]; exact hH.1, hH.2.1⟩, hH.2.2.F ht⟩) hH.2.2.2.2 hdg C.2.2.2.2.2.2.1
theorem rZ {v : Bool} (C : Cx p s m args meth c D cl tys A cc nL (some .boolean) Ts own) (hH : Hp D cl A A s.heap H locs w) (hdg : decode cc pc = .ok (.ireturn, 1)) : W p l e R s m args below meth c H locs cells slots (MQ below (Qw D cl tys (some (.int (bI v))) A w) args s cells slots A) (F0 m pc ls [.int (bI v)]) :=
  W.zret C.1 C.2.1 C.2.2.1 (bI_n v) (fun t ht hW => ⟨⟨rfl, by rw [ht]; exact hH.1, hH.2.1⟩, hH.2.2.F ht⟩) hH.2.2.2.2 hdg C.2.2.2.2.2.2.1
theorem rV (C : Cx p s m args meth c D cl tys A cc nL none Ts own) (hH : Hp D cl A A s.heap H locs w) (hdg : decode cc pc = .ok (.return_, 1)) : W p l e R s m args below meth c H locs cells slots (MQ below (Qw D cl tys none A w) args s cells slots A) (F0 m pc ls []) :=
  W.vret C.1 C.2.1 C.2.2.1 (fun t ht hW => ⟨⟨rfl, by rw [ht]; exact hH.1, hH.2.1⟩, hH.2.2.F ht⟩) hH.2.2.2.2 hdg C.2.2.2.2.2.2.1
theorem callItR {o : Option Value} {a : Array Value} {mc ms : Nat} {st0 st2 : List Value} {B : Nat → Prop}
    (C : Cx p s m args meth c D cl tys A cc nL ret Ts own) (hH : Hp D cl B A s.heap H locs w)
    (hr : va_Run p l e R s m args below meth c H locs cells slots mc ms (F0 m pc ls st0) rest (QR o (fun q => H.size ≤ q) a) (fun q => H.size ≤ q)) (hst2 : o.toList ++ rest = st2)
    (kk : ∀ (H1 : Heap) (locs1 : List Loc), Hp D cl B A s.heap H1 locs1 w → W p l e R s m args below meth c H1 locs1 (cells + mc) (slots + ms) Q (F0 m (pc + 3) ls st2)) : W p l e R s m args below meth c H locs cells slots Q (F0 m pc ls st0) := by
  subst hst2
  obtain ⟨hP, hD, hS⟩ := hH
  have hA := C.2.2.2.2.2.2.2.2
  intro T hT X
  obtain ⟨v, st₀, t, T', L, h0, X', hL, e1, e2, ⟨hv, hz, hk⟩, st⟩ := hr T hT X
  cases hv
  rw [h0] at hz hk
  rw [← e1] at hz hk
  have hk' : ∀ q : Nat, q < H.size → T'.heap[q]? = H[q]? := fun q h => hk q h (fun z => absurd h (Nat.not_lt.mpr z))
  have hS1 : va_S A s.heap T'.heap (locs ++ L) := ⟨Nat.le_trans hS.1 hz, fun q h1 h2 => by rw [hk' q (Nat.lt_of_lt_of_le h1 hS.1)]; exact hS.2.1 q h1 h2, fun q hq => by
      rcases List.mem_append.mp hq with h | h
      · exact hS.2.2 q h
      · exact hA _ (Nat.le_trans hS.1 (hL q h))⟩
  obtain ⟨t2, a1, b1⟩ := kk T'.heap (locs ++ L) ⟨hP.kept (fun k x hx => hk' x.1 ((hP k x hx).lt)), hD, hS1⟩ T' rfl X'
  exact ⟨t2, st t2 a1, b1⟩
theorem fnVR {wc : va_W} {o : Option Value} {st0 st2 : List Value} {y : MethodName} {bytes : ByteArray} {maxL n index : Nat} {ws : List Cond} {rm : Room} {As : List Value} {ret2 : Option FieldType} {Cn : String} {b : Nat} (C : Cx p s m args meth c D cl tys A cc nL ret Ts own) (hF : FnR l D cl tys y ws rm (.ref b :: As) wc o) (cw : CallW R s args own Cn index y bytes maxL ret2 ws rm rm.cells rm.slots n) {B : Nat → Prop} (hH : Hp D cl B A s.heap H locs w) (isC : List Nat) (hC : isC.map (fun i => w[i]?) = wc.map some) (hnC : va_nd isC = true)
    (q0 : Nat) {ci N : Nat} {T : u_T} {fs : List Value} (he : wc[q0]? = some (b, .inr (ci, fs))) (hc : cl[ci]? = some (Cn, T, N)) (hnA : As.length = n) (hl : ls.size = nL) (hst : st0 = As.reverse ++ .ref b :: rest) (hrm : (rest.map fun v => v.category).sum ≤ 8) (hdg : decode cc pc = .ok (.invokevirtual index, 3)) (hf : cells + rm.cells ≤ R.cells ∧ slots + rm.slots ≤ R.slots) (hst2 : o.toList ++ rest = st2)
    (kk : ∀ (H1 : Heap) (locs1 : List Loc), Hp D cl B A s.heap H1 locs1 w → W p l e R s m args below meth c H1 locs1 (cells + rm.cells) (slots + rm.slots) Q (F0 m (pc + 3) ls st2)) : W p l e R s m args below meth c H locs cells slots Q (F0 m pc ls st0) := by
  obtain ⟨hP, hD, hS⟩ := id hH
  have hPc := hP.sub isC (va_pm hC)
  have hDc := hD.sub isC hnC hC
  have hK := C.2.2.2.2.2.2.2.1
  exact callItR C hH (va_runV ⟨C.1, C.2.1, C.2.2.2.1, C.2.2.2.2.1, C.2.2.2.2.2.1⟩ (hF H.size) cw ⟨Pw_blind, va_recv hK.1 hPc hc he, fun U hU hW => ⟨rfl, by rw [hU], by rw [hU]; exact hPc, Kx.warm hW hK, hDc.weaken (fun _ _ _ _ => trivial)⟩⟩ rfl hnA hl hst (lv_room hrm) hdg hf) hst2 kk
theorem fnSR {wc : va_W} {o : Option Value} {st0 st2 : List Value} {y : MethodName} {bytes : ByteArray} {maxL n index : Nat} {ws : List Cond} {rm : Room} {As : List Value} {ret2 : Option FieldType} (C : Cx p s m args meth c D cl tys A cc nL ret Ts own) (hF : FnR l D cl tys y ws rm As wc o) (cw : CallB R s args own index y bytes maxL ret2 ws rm rm.cells rm.slots n ∧ (Cond.static y).before args s = true) {B : Nat → Prop} (hH : Hp D cl B A s.heap H locs w) (isC : List Nat) (hC : isC.map (fun i => w[i]?) = wc.map some) (hnC : va_nd isC = true)
    (hnA : As.length = n) (hl : ls.size = nL) (hst : st0 = As.reverse ++ rest) (hrm : (rest.map fun v => v.category).sum ≤ 8) (hdg : decode cc pc = .ok (.invokestatic index, 3)) (hf : cells + rm.cells ≤ R.cells ∧ slots + rm.slots ≤ R.slots) (hst2 : o.toList ++ rest = st2)
    (kk : ∀ (H1 : Heap) (locs1 : List Loc), Hp D cl B A s.heap H1 locs1 w → W p l e R s m args below meth c H1 locs1 (cells + rm.cells) (slots + rm.slots) Q (F0 m (pc + 3) ls st2)) : W p l e R s m args below meth c H locs cells slots Q (F0 m pc ls st0) := by
  obtain ⟨hP, hD, hS⟩ := id hH
  have hPc := hP.sub isC (va_pm hC)
  have hDc := hD.sub isC hnC hC
  have hK := C.2.2.2.2.2.2.2.1
  exact callItR C hH (va_runS ⟨C.1, C.2.1, C.2.2.2.1, C.2.2.2.2.1, C.2.2.2.2.2.1⟩ (hF H.size) cw ⟨Pw_blind, fun U hU hW => ⟨rfl, by rw [hU], by rw [hU]; exact hPc, Kx.warm hW hK, hDc.weaken (fun _ _ _ _ => trivial)⟩⟩ rfl hnA hl hst (lv_room hrm) hdg hf) hst2 kk
theorem fnVNR {wc : va_W} {o : Option Value} {st0 st2 : List Value} {y : MethodName} {bytes : ByteArray} {maxL n index : Nat} {ws : List Cond} {rm : Room} {As : List Value} {ret2 : Option FieldType} {Cn host : String} {b : Nat} (C : Cx p s m args meth c D cl tys A cc nL ret Ts own) (hF : FnR l D cl tys y ws rm (.ref b :: As) wc o) (cw : va_CN R s args own index y host bytes maxL ret2 ws rm rm.cells rm.slots n ∧ (Cond.instanceMethod y).before args s = true ∧ (Cond.selects Cn y y).before args s = true) {B : Nat → Prop} (hH : Hp D cl B A s.heap H locs w) (isC : List Nat) (hC : isC.map (fun i => w[i]?) = wc.map some) (hnC : va_nd isC = true)
    (q0 : Nat) {ci N : Nat} {T : u_T} {fs : List Value} (he : wc[q0]? = some (b, .inr (ci, fs))) (hc : cl[ci]? = some (Cn, T, N)) (hnA : As.length = n) (hl : ls.size = nL) (hst : st0 = As.reverse ++ .ref b :: rest) (hrm : (rest.map fun v => v.category).sum ≤ 8) (hdg : decode cc pc = .ok (.invokevirtual index, 3)) (hf : cells + rm.cells ≤ R.cells ∧ slots + rm.slots ≤ R.slots) (hst2 : o.toList ++ rest = st2)
    (kk : ∀ (H1 : Heap) (locs1 : List Loc), Hp D cl B A s.heap H1 locs1 w → W p l e R s m args below meth c H1 locs1 (cells + rm.cells) (slots + rm.slots) Q (F0 m (pc + 3) ls st2)) : W p l e R s m args below meth c H locs cells slots Q (F0 m pc ls st0) := by
  obtain ⟨hP, hD, hS⟩ := id hH
  have hPc := hP.sub isC (va_pm hC)
  have hDc := hD.sub isC hnC hC
  have hK := C.2.2.2.2.2.2.2.1
  exact callItR C hH (va_runVN ⟨C.1, C.2.1, C.2.2.2.1, C.2.2.2.2.1, C.2.2.2.2.2.1⟩ (hF H.size) cw ⟨Pw_blind, va_recv hK.1 hPc hc he, fun U hU hW => ⟨rfl, by rw [hU], by rw [hU]; exact hPc, Kx.warm hW hK, hDc.weaken (fun _ _ _ _ => trivial)⟩⟩ rfl hnA hl hst (lv_room hrm) hdg hf) hst2 kk
theorem fnSNR {wc : va_W} {o : Option Value} {st0 st2 : List Value} {y : MethodName} {bytes : ByteArray} {maxL n index : Nat} {ws : List Cond} {rm : Room} {As : List Value} {ret2 : Option FieldType} {host : String} (C : Cx p s m args meth c D cl tys A cc nL ret Ts own) (hF : FnR l D cl tys y ws rm As wc o) (cw : va_CN R s args own index y host bytes maxL ret2 ws rm rm.cells rm.slots n ∧ (Cond.static y).before args s = true ∧ True) {B : Nat → Prop} (hH : Hp D cl B A s.heap H locs w) (isC : List Nat) (hC : isC.map (fun i => w[i]?) = wc.map some) (hnC : va_nd isC = true)
    (hnA : As.length = n) (hl : ls.size = nL) (hst : st0 = As.reverse ++ rest) (hrm : (rest.map fun v => v.category).sum ≤ 8) (hdg : decode cc pc = .ok (.invokestatic index, 3)) (hf : cells + rm.cells ≤ R.cells ∧ slots + rm.slots ≤ R.slots) (hst2 : o.toList ++ rest = st2)
    (kk : ∀ (H1 : Heap) (locs1 : List Loc), Hp D cl B A s.heap H1 locs1 w → W p l e R s m args below meth c H1 locs1 (cells + rm.cells) (slots + rm.slots) Q (F0 m (pc + 3) ls st2)) : W p l e R s m args below meth c H locs cells slots Q (F0 m pc ls st0) := by
  obtain ⟨hP, hD, hS⟩ := id hH
  have hPc := hP.sub isC (va_pm hC)
  have hDc := hD.sub isC hnC hC
  have hK := C.2.2.2.2.2.2.2.1
  exact callItR C hH (va_runSN ⟨C.1, C.2.1, C.2.2.2.1, C.2.2.2.2.1, C.2.2.2.2.2.1⟩ (hF H.size) cw ⟨Pw_blind, fun U hU hW => ⟨rfl, by rw [hU], by rw [hU]; exact hPc, Kx.warm hW hK, hDc.weaken (fun _ _ _ _ => trivial)⟩⟩ rfl hnA hl hst (lv_room hrm) hdg hf) hst2 kk
theorem rIR {v : Int32} {B : Nat → Prop} (C : Cx p s m args meth c D cl tys A cc nL (some .int) Ts own) (hH : Hp D cl B A s.heap H locs w) (hdg : decode cc pc = .ok (.ireturn, 1)) : W p l e R s m args below meth c H locs cells slots (MQ below (QR (some (.int v)) A) args s cells slots A) (F0 m pc ls [.int v]) :=
  W.iret C.1 C.2.1 C.2.2.1 (fun t ht hW => ⟨rfl, hH.2.2.F ht⟩) hH.2.2.2.2 hdg C.2.2.2.2.2.2.1
theorem rJR {v : Int64} {B : Nat → Prop} (C : Cx p s m args meth c D cl tys A cc nL (some .long) Ts own) (hH : Hp D cl B A s.heap H locs w) (hdg : decode cc pc = .ok (.lreturn, 1)) : W p l e R s m args below meth c H locs cells slots (MQ below (QR (some (.long v)) A) args s cells slots A) (F0 m pc ls [.long v]) :=
  W.lret C.1 C.2.1 C.2.2.1 (fun t ht hW => ⟨rfl, hH.2.2.F ht⟩) hH.2.2.2.2 hdg C.2.2.2.2.2.2.1
theorem rZR {v : Bool} {B : Nat → Prop} (C : Cx p s m args meth c D cl tys A cc nL (some .boolean) Ts own) (hH : Hp D cl B A s.heap H locs w) (hdg : decode cc pc = .ok (.ireturn, 1)) : W p l e R s m args below meth c H locs cells slots (MQ below (QR (some (.int (bI v))) A) args s cells slots A) (F0 m pc ls [.int (bI v)]) :=
  W.zret C.1 C.2.1 C.2.2.1 (bI_n v) (fun t ht hW => ⟨rfl, hH.2.2.F ht⟩) hH.2.2.2.2 hdg C.2.2.2.2.2.2.1
theorem Hp.pm {B : Nat → Prop} {H0 : Heap} {w2 : va_W} (hH : Hp D cl B A H0 H locs w) (isP : List Nat) (hPm : isP.map (fun i => w[i]?) = w2.map some) (hPn : va_nd isP = true) : Hp D cl B A H0 H locs w2 := ⟨hH.1.sub isP (va_pm hPm), hH.2.1.sub isP hPn hPm, hH.2.2⟩
end FNW
end
section

def R_Bytes : String := "EventLog$Bytes"
def T_Bytes : u_T := fun k => match k with
  | 0 => ("EventLog$Bytes", "row", "[I", true)
  | _ => ("EventLog$Bytes", "length", "I", false)
def ty_Bytes : Nat → FieldType := fun k => match k with
  | 0 => .array .int
  | _ => .int
theorem nm_Bytes : ∀ a, a < 2 → ∀ b, b < 2 → a ≠ b → (T_Bytes a).2.1 ≠ (T_Bytes b).2.1 := by decide +kernel
theorem tyok_Bytes : ∀ k, k < 2 → parseFieldDescriptor (T_Bytes k).2.2.1 = some (ty_Bytes k) := by decide +kernel
theorem iw_Bytes : ∀ x ∈ u_ws R_Bytes T_Bytes 2, x ∈ U0 := fun x h => mU ((by decide +kernel : ∀ x ∈ u_ws R_Bytes T_Bytes 2, x ∈ lw_tbl) x h) ((by decide +kernel : ∀ x ∈ u_ws R_Bytes T_Bytes 2, goodWord x = true) x h)
def R_Past : String := "EventLog$Past"
def T_Past : u_T := fun k => match k with
  | 0 => ("EventLog$Past", "typed", "[I", true)
  | 1 => ("EventLog$Past", "typedNumber", "I", false)
  | _ => ("EventLog$Past", "clock", "I", false)
def ty_Past : Nat → FieldType := fun k => match k with
  | 0 => .array .int
  | 1 => .int
  | _ => .int
theorem nm_Past : ∀ a, a < 3 → ∀ b, b < 3 → a ≠ b → (T_Past a).2.1 ≠ (T_Past b).2.1 := by decide +kernel
theorem tyok_Past : ∀ k, k < 3 → parseFieldDescriptor (T_Past k).2.2.1 = some (ty_Past k) := by decide +kernel
theorem iw_Past : ∀ x ∈ u_ws R_Past T_Past 3, x ∈ U0 := fun x h => mU ((by decide +kernel : ∀ x ∈ u_ws R_Past T_Past 3, x ∈ lw_tbl) x h) ((by decide +kernel : ∀ x ∈ u_ws R_Past T_Past 3, goodWord x = true) x h)
def R_Events : String := "EventLog$Events"
def T_Events : u_T := fun k => match k with
  | 0 => ("EventLog$Events", "kinds", "[I", true)
  | 1 => ("EventLog$Events", "differences", "[J", true)
  | 2 => ("EventLog$Events", "partsA", "[J", true)
  | 3 => ("EventLog$Events", "partsB", "[I", true)
  | _ => ("EventLog$Events", "number", "I", false)
def ty_Events : Nat → FieldType := fun k => match k with
  | 0 => .array .int
  | 1 => .array .long
  | 2 => .array .long
  | 3 => .array .int
  | _ => .int
theorem nm_Events : ∀ a, a < 5 → ∀ b, b < 5 → a ≠ b → (T_Events a).2.1 ≠ (T_Events b).2.1 := by decide +kernel
theorem tyok_Events : ∀ k, k < 5 → parseFieldDescriptor (T_Events k).2.2.1 = some (ty_Events k) := by decide +kernel
theorem iw_Events : ∀ x ∈ u_ws R_Events T_Events 5, x ∈ U0 := fun x h => mU ((by decide +kernel : ∀ x ∈ u_ws R_Events T_Events 5, x ∈ lw_tbl) x h) ((by decide +kernel : ∀ x ∈ u_ws R_Events T_Events 5, goodWord x = true) x h)
def R_Packer : String := "EventLog$Packer"
def T_Packer : u_T := fun k => match k with
  | 0 => ("EventLog$Packer", "log", "LEventLog$Bytes;", true)
  | 1 => ("EventLog$Packer", "past", "LEventLog$Past;", true)
  | 2 => ("EventLog$Packer", "writes", "Z", false)
  | 3 => ("EventLog$Packer", "bytes", "I", false)
  | 4 => ("EventLog$Packer", "entries", "I", false)
  | 5 => ("EventLog$Packer", "runs", "I", false)
  | 6 => ("EventLog$Packer", "sames", "I", false)
  | _ => ("EventLog$Packer", "repeats", "I", false)
def ty_Packer : Nat → FieldType := fun k => match k with
  | 0 => .object "EventLog$Bytes"
  | 1 => .object "EventLog$Past"
  | 2 => .boolean
  | 3 => .int
  | 4 => .int
  | 5 => .int
  | 6 => .int
  | _ => .int
theorem nm_Packer : ∀ a, a < 8 → ∀ b, b < 8 → a ≠ b → (T_Packer a).2.1 ≠ (T_Packer b).2.1 := by decide +kernel
theorem tyok_Packer : ∀ k, k < 8 → parseFieldDescriptor (T_Packer k).2.2.1 = some (ty_Packer k) := by decide +kernel
theorem iw_Packer : ∀ x ∈ u_ws R_Packer T_Packer 8, x ∈ U0 := fun x h => mU ((by decide +kernel : ∀ x ∈ u_ws R_Packer T_Packer 8, x ∈ lw_tbl) x h) ((by decide +kernel : ∀ x ∈ u_ws R_Packer T_Packer 8, goodWord x = true) x h)
def R_Reader : String := "EventLog$Reader"
def T_Reader : u_T := fun k => match k with
  | 0 => ("EventLog$Reader", "log", "LEventLog$Bytes;", true)
  | 1 => ("EventLog$Reader", "past", "LEventLog$Past;", true)
  | 2 => ("EventLog$Reader", "place", "I", false)
  | 3 => ("EventLog$Reader", "fault", "I", false)
  | _ => ("EventLog$Reader", "faultPlace", "I", false)
def ty_Reader : Nat → FieldType := fun k => match k with
  | 0 => .object "EventLog$Bytes"
  | 1 => .object "EventLog$Past"
  | 2 => .int
  | 3 => .int
  | _ => .int
theorem nm_Reader : ∀ a, a < 5 → ∀ b, b < 5 → a ≠ b → (T_Reader a).2.1 ≠ (T_Reader b).2.1 := by decide +kernel
theorem tyok_Reader : ∀ k, k < 5 → parseFieldDescriptor (T_Reader k).2.2.1 = some (ty_Reader k) := by decide +kernel
theorem iw_Reader : ∀ x ∈ u_ws R_Reader T_Reader 5, x ∈ U0 := fun x h => mU ((by decide +kernel : ∀ x ∈ u_ws R_Reader T_Reader 5, x ∈ lw_tbl) x h) ((by decide +kernel : ∀ x ∈ u_ws R_Reader T_Reader 5, goodWord x = true) x h)
def R_EventLog : String := "EventLog"
def T_EventLog : u_T := fun k => match k with
  | 0 => ("EventLog", "events", "LEventLog$Events;", false)
  | 1 => ("EventLog", "spare", "LEventLog$Events;", false)
  | 2 => ("EventLog", "log", "LEventLog$Bytes;", true)
  | 3 => ("EventLog", "packer", "LEventLog$Packer;", true)
  | _ => ("EventLog", "reader", "LEventLog$Reader;", true)
def ty_EventLog : Nat → FieldType := fun k => match k with
  | 0 => .object "EventLog$Events"
  | 1 => .object "EventLog$Events"
  | 2 => .object "EventLog$Bytes"
  | 3 => .object "EventLog$Packer"
  | _ => .object "EventLog$Reader"
theorem nm_EventLog : ∀ a, a < 5 → ∀ b, b < 5 → a ≠ b → (T_EventLog a).2.1 ≠ (T_EventLog b).2.1 := by decide +kernel
theorem tyok_EventLog : ∀ k, k < 5 → parseFieldDescriptor (T_EventLog k).2.2.1 = some (ty_EventLog k) := by decide +kernel
theorem iw_EventLog : ∀ x ∈ u_ws R_EventLog T_EventLog 5, x ∈ U0 := fun x h => mU ((by decide +kernel : ∀ x ∈ u_ws R_EventLog T_EventLog 5, x ∈ lw_tbl) x h) ((by decide +kernel : ∀ x ∈ u_ws R_EventLog T_EventLog 5, goodWord x = true) x h)
abbrev vwCl : List vw_C := [(R_Bytes, T_Bytes, 2), (R_Past, T_Past, 3), (R_Events, T_Events, 5), (R_Packer, T_Packer, 8), (R_Reader, T_Reader, 5), (R_EventLog, T_EventLog, 5)]
end
section
abbrev b_Bytes_init : ByteArray := prog_2_method_1_code
def y_Bytes_init : MethodName := ⟨"EventLog$Bytes", "<init>", "()V"⟩
abbrev ws_Bytes_init : List Cond := Cond.code y_Bytes_init b_Bytes_init 1 none :: U0
abbrev b_Bytes_length : ByteArray := prog_2_method_2_code
def y_Bytes_length : MethodName := ⟨"EventLog$Bytes", "length", "()I"⟩
abbrev ws_Bytes_length : List Cond := Cond.code y_Bytes_length b_Bytes_length 1 (some FieldType.int) :: U0
abbrev b_Bytes_get : ByteArray := prog_2_method_3_code
def y_Bytes_get : MethodName := ⟨"EventLog$Bytes", "get", "(I)I"⟩
abbrev ws_Bytes_get : List Cond := Cond.code y_Bytes_get b_Bytes_get 2 (some FieldType.int) :: U0
abbrev b_Bytes_put : ByteArray := prog_2_method_4_code
def y_Bytes_put : MethodName := ⟨"EventLog$Bytes", "put", "(II)V"⟩
abbrev ws_Bytes_put : List Cond := Cond.code y_Bytes_put b_Bytes_put 3 none :: U0
abbrev b_Bytes_append : ByteArray := prog_2_method_5_code
def y_Bytes_append : MethodName := ⟨"EventLog$Bytes", "append", "(I)V"⟩
abbrev ws_Bytes_append : List Cond := Cond.code y_Bytes_append b_Bytes_append 2 none :: U0
abbrev b_Bytes_keepFirst : ByteArray := prog_2_method_6_code
def y_Bytes_keepFirst : MethodName := ⟨"EventLog$Bytes", "keepFirst", "(I)V"⟩
abbrev ws_Bytes_keepFirst : List Cond := Cond.code y_Bytes_keepFirst b_Bytes_keepFirst 2 none :: U0
abbrev b_Past_init : ByteArray := prog_5_method_1_code
def y_Past_init : MethodName := ⟨"EventLog$Past", "<init>", "()V"⟩
abbrev ws_Past_init : List Cond := Cond.code y_Past_init b_Past_init 1 none :: U0
abbrev b_Past_forget : ByteArray := prog_5_method_2_code
def y_Past_forget : MethodName := ⟨"EventLog$Past", "forget", "()V"⟩
abbrev ws_Past_forget : List Cond := Cond.code y_Past_forget b_Past_forget 1 none :: U0
abbrev b_Past_note : ByteArray := prog_5_method_3_code
def y_Past_note : MethodName := ⟨"EventLog$Past", "note", "(II)V"⟩
abbrev ws_Past_note : List Cond := Cond.code y_Past_note b_Past_note 3 none :: U0
abbrev b_Past_latestClock : ByteArray := prog_5_method_4_code
def y_Past_latestClock : MethodName := ⟨"EventLog$Past", "latestClock", "()I"⟩
abbrev ws_Past_latestClock : List Cond := Cond.code y_Past_latestClock b_Past_latestClock 1 (some FieldType.int) :: U0
abbrev b_Past_typedBefore : ByteArray := prog_5_method_5_code
def y_Past_typedBefore : MethodName := ⟨"EventLog$Past", "typedBefore", "(J)I"⟩
abbrev ws_Past_typedBefore : List Cond := Cond.code y_Past_typedBefore b_Past_typedBefore 4 (some FieldType.int) :: U0
abbrev b_Events_init : ByteArray := prog_3_method_1_code
def y_Events_init : MethodName := ⟨"EventLog$Events", "<init>", "()V"⟩
abbrev ws_Events_init : List Cond := Cond.code y_Events_init b_Events_init 1 none :: U0
abbrev b_Events_number : ByteArray := prog_3_method_2_code
def y_Events_number : MethodName := ⟨"EventLog$Events", "number", "()I"⟩
abbrev ws_Events_number : List Cond := Cond.code y_Events_number b_Events_number 1 (some FieldType.int) :: U0
abbrev b_Events_has : ByteArray := prog_3_method_3_code
def y_Events_has : MethodName := ⟨"EventLog$Events", "has", "(I)Z"⟩
abbrev ws_Events_has : List Cond := Cond.code y_Events_has b_Events_has 2 (some FieldType.boolean) :: U0
abbrev b_Events_kind : ByteArray := prog_3_method_4_code
def y_Events_kind : MethodName := ⟨"EventLog$Events", "kind", "(I)I"⟩
abbrev ws_Events_kind : List Cond := Cond.code y_Events_kind b_Events_kind 2 (some FieldType.int) :: U0
abbrev b_Events_difference : ByteArray := prog_3_method_5_code
def y_Events_difference : MethodName := ⟨"EventLog$Events", "difference", "(I)J"⟩
abbrev ws_Events_difference : List Cond := Cond.code y_Events_difference b_Events_difference 2 (some FieldType.long) :: U0
abbrev b_Events_a : ByteArray := prog_3_method_6_code
def y_Events_a : MethodName := ⟨"EventLog$Events", "a", "(I)J"⟩
abbrev ws_Events_a : List Cond := Cond.code y_Events_a b_Events_a 2 (some FieldType.long) :: U0
abbrev b_Events_b : ByteArray := prog_3_method_7_code
def y_Events_b : MethodName := ⟨"EventLog$Events", "b", "(I)I"⟩
abbrev ws_Events_b : List Cond := Cond.code y_Events_b b_Events_b 2 (some FieldType.int) :: U0
abbrev b_Events_append : ByteArray := prog_3_method_8_code
def y_Events_append : MethodName := ⟨"EventLog$Events", "append", "(IJJI)V"⟩
abbrev ws_Events_append : List Cond := Cond.code y_Events_append b_Events_append 7 none :: U0
abbrev b_Events_keepFirst : ByteArray := prog_3_method_9_code
def y_Events_keepFirst : MethodName := ⟨"EventLog$Events", "keepFirst", "(I)V"⟩
abbrev ws_Events_keepFirst : List Cond := Cond.code y_Events_keepFirst b_Events_keepFirst 2 none :: U0
abbrev b_Events_bringTheSame : ByteArray := prog_3_method_10_code
def y_Events_bringTheSame : MethodName := ⟨"EventLog$Events", "bringTheSame", "(II)Z"⟩
abbrev ws_Events_bringTheSame : List Cond := Cond.code y_Events_bringTheSame b_Events_bringTheSame 3 (some FieldType.boolean) :: U0
abbrev b_Events_hasDifferenceBefore : ByteArray := prog_3_method_11_code
def y_Events_hasDifferenceBefore : MethodName := ⟨"EventLog$Events", "hasDifferenceBefore", "(I)Z"⟩
abbrev ws_Events_hasDifferenceBefore : List Cond := Cond.code y_Events_hasDifferenceBefore b_Events_hasDifferenceBefore 2 (some FieldType.boolean) :: U0
abbrev b_Events_isLikeBefore : ByteArray := prog_3_method_12_code
def y_Events_isLikeBefore : MethodName := ⟨"EventLog$Events", "isLikeBefore", "(I)Z"⟩
abbrev ws_Events_isLikeBefore : List Cond := Cond.code y_Events_isLikeBefore b_Events_isLikeBefore 2 (some FieldType.boolean) :: U0
abbrev b_Events_sumUpTo : ByteArray := prog_3_method_13_code
def y_Events_sumUpTo : MethodName := ⟨"EventLog$Events", "sumUpTo", "(I)J"⟩
abbrev ws_Events_sumUpTo : List Cond := Cond.code y_Events_sumUpTo b_Events_sumUpTo 5 (some FieldType.long) :: U0
abbrev b_Events_lastWithSumUpTo : ByteArray := prog_3_method_14_code
def y_Events_lastWithSumUpTo : MethodName := ⟨"EventLog$Events", "lastWithSumUpTo", "(J)I"⟩
abbrev ws_Events_lastWithSumUpTo : List Cond := Cond.code y_Events_lastWithSumUpTo b_Events_lastWithSumUpTo 6 (some FieldType.int) :: U0
abbrev b_Packer_init : ByteArray := prog_4_method_1_code
def y_Packer_init : MethodName := ⟨"EventLog$Packer", "<init>", "(LEventLog$Bytes;)V"⟩
abbrev ws_Packer_init : List Cond := Cond.code y_Packer_init b_Packer_init 2 none :: U0
abbrev b_Packer_bytes : ByteArray := prog_4_method_2_code
def y_Packer_bytes : MethodName := ⟨"EventLog$Packer", "bytes", "()I"⟩
abbrev ws_Packer_bytes : List Cond := Cond.code y_Packer_bytes b_Packer_bytes 1 (some FieldType.int) :: U0
abbrev b_Packer_entries : ByteArray := prog_4_method_3_code
def y_Packer_entries : MethodName := ⟨"EventLog$Packer", "entries", "()I"⟩
abbrev ws_Packer_entries : List Cond := Cond.code y_Packer_entries b_Packer_entries 1 (some FieldType.int) :: U0
abbrev b_Packer_runs : ByteArray := prog_4_method_4_code
def y_Packer_runs : MethodName := ⟨"EventLog$Packer", "runs", "()I"⟩
abbrev ws_Packer_runs : List Cond := Cond.code y_Packer_runs b_Packer_runs 1 (some FieldType.int) :: U0
abbrev b_Packer_sames : ByteArray := prog_4_method_5_code
def y_Packer_sames : MethodName := ⟨"EventLog$Packer", "sames", "()I"⟩
abbrev ws_Packer_sames : List Cond := Cond.code y_Packer_sames b_Packer_sames 1 (some FieldType.int) :: U0
abbrev b_Packer_repeats : ByteArray := prog_4_method_6_code
def y_Packer_repeats : MethodName := ⟨"EventLog$Packer", "repeats", "()I"⟩
abbrev ws_Packer_repeats : List Cond := Cond.code y_Packer_repeats b_Packer_repeats 1 (some FieldType.int) :: U0
abbrev b_Packer_run : ByteArray := prog_4_method_7_code
def y_Packer_run : MethodName := ⟨"EventLog$Packer", "run", "(LEventLog$Events;Z)V"⟩
abbrev ws_Packer_run : List Cond := Cond.code y_Packer_run b_Packer_run 5 none :: U0
abbrev b_Packer_begin : ByteArray := prog_4_method_8_code
def y_Packer_begin : MethodName := ⟨"EventLog$Packer", "begin", "(Z)V"⟩
abbrev ws_Packer_begin : List Cond := Cond.code y_Packer_begin b_Packer_begin 2 none :: U0
abbrev b_Packer_packRun : ByteArray := prog_4_method_9_code
def y_Packer_packRun : MethodName := ⟨"EventLog$Packer", "packRun", "(I)V"⟩
abbrev ws_Packer_packRun : List Cond := Cond.code y_Packer_packRun b_Packer_packRun 2 none :: U0
abbrev b_Packer_packEntry : ByteArray := prog_4_method_10_code
def y_Packer_packEntry : MethodName := ⟨"EventLog$Packer", "packEntry", "(LEventLog$Events;I)V"⟩
abbrev ws_Packer_packEntry : List Cond := Cond.code y_Packer_packEntry b_Packer_packEntry 6 none :: U0
abbrev b_Packer_repeated : ByteArray := prog_4_method_11_code
def y_Packer_repeated : MethodName := ⟨"EventLog$Packer", "repeated", "(LEventLog$Events;I)I"⟩
abbrev ws_Packer_repeated : List Cond := Cond.code y_Packer_repeated b_Packer_repeated 4 (some FieldType.int) :: U0
abbrev b_Packer_headX : ByteArray := prog_4_method_12_code
def y_Packer_headX : MethodName := ⟨"EventLog$Packer", "headX", "(LEventLog$Events;II)I"⟩
abbrev ws_Packer_headX : List Cond := Cond.code y_Packer_headX b_Packer_headX 4 (some FieldType.int) :: U0
abbrev b_Packer_packBrought : ByteArray := prog_4_method_13_code
def y_Packer_packBrought : MethodName := ⟨"EventLog$Packer", "packBrought", "(LEventLog$Events;II)V"⟩
abbrev ws_Packer_packBrought : List Cond := Cond.code y_Packer_packBrought b_Packer_packBrought 4 none :: U0
abbrev b_Packer_packBytes : ByteArray := prog_4_method_14_code
def y_Packer_packBytes : MethodName := ⟨"EventLog$Packer", "packBytes", "(JI)V"⟩
abbrev ws_Packer_packBytes : List Cond := Cond.code y_Packer_packBytes b_Packer_packBytes 5 none :: U0
abbrev b_Packer_packVarint : ByteArray := prog_4_method_15_code
def y_Packer_packVarint : MethodName := ⟨"EventLog$Packer", "packVarint", "(J)V"⟩
abbrev ws_Packer_packVarint : List Cond := Cond.code y_Packer_packVarint b_Packer_packVarint 6 none :: U0
abbrev b_Packer_packByte : ByteArray := prog_4_method_16_code
def y_Packer_packByte : MethodName := ⟨"EventLog$Packer", "packByte", "(I)V"⟩
abbrev ws_Packer_packByte : List Cond := Cond.code y_Packer_packByte b_Packer_packByte 2 none :: U0
abbrev b_Reader_init : ByteArray := prog_6_method_1_code
def y_Reader_init : MethodName := ⟨"EventLog$Reader", "<init>", "(LEventLog$Bytes;)V"⟩
abbrev ws_Reader_init : List Cond := Cond.code y_Reader_init b_Reader_init 2 none :: U0
abbrev b_Reader_run : ByteArray := prog_6_method_2_code
def y_Reader_run : MethodName := ⟨"EventLog$Reader", "run", "(LEventLog$Events;)I"⟩
abbrev ws_Reader_run : List Cond := Cond.code y_Reader_run b_Reader_run 5 (some FieldType.int) :: U0
abbrev b_Reader_begin : ByteArray := prog_6_method_3_code
def y_Reader_begin : MethodName := ⟨"EventLog$Reader", "begin", "(LEventLog$Events;)V"⟩
abbrev ws_Reader_begin : List Cond := Cond.code y_Reader_begin b_Reader_begin 2 none :: U0
abbrev b_Reader_isFine : ByteArray := prog_6_method_4_code
def y_Reader_isFine : MethodName := ⟨"EventLog$Reader", "isFine", "()Z"⟩
abbrev ws_Reader_isFine : List Cond := Cond.code y_Reader_isFine b_Reader_isFine 1 (some FieldType.boolean) :: U0
abbrev b_Reader_fail : ByteArray := prog_6_method_5_code
def y_Reader_fail : MethodName := ⟨"EventLog$Reader", "fail", "(II)V"⟩
abbrev ws_Reader_fail : List Cond := Cond.code y_Reader_fail b_Reader_fail 3 none :: U0
abbrev b_Reader_readEntry : ByteArray := prog_6_method_6_code
def y_Reader_readEntry : MethodName := ⟨"EventLog$Reader", "readEntry", "(LEventLog$Events;J)V"⟩
abbrev ws_Reader_readEntry : List Cond := Cond.code y_Reader_readEntry b_Reader_readEntry 11 none :: U0
abbrev b_Reader_isHead : ByteArray := prog_6_method_7_code
def y_Reader_isHead : MethodName := ⟨"EventLog$Reader", "isHead", "(I)Z"⟩
abbrev ws_Reader_isHead : List Cond := Cond.code y_Reader_isHead b_Reader_isHead 2 (some FieldType.boolean) :: U0
abbrev b_Reader_readRun : ByteArray := prog_6_method_8_code
def y_Reader_readRun : MethodName := ⟨"EventLog$Reader", "readRun", "(LEventLog$Events;JII)V"⟩
abbrev ws_Reader_readRun : List Cond := Cond.code y_Reader_readRun b_Reader_readRun 10 none :: U0
abbrev b_Reader_isMeaningAnother : ByteArray := prog_6_method_9_code
def y_Reader_isMeaningAnother : MethodName := ⟨"EventLog$Reader", "isMeaningAnother", "(II)Z"⟩
abbrev ws_Reader_isMeaningAnother : List Cond := Cond.code y_Reader_isMeaningAnother b_Reader_isMeaningAnother 2 (some FieldType.boolean) :: U0
abbrev b_Reader_readLikeAnother : ByteArray := prog_6_method_10_code
def y_Reader_readLikeAnother : MethodName := ⟨"EventLog$Reader", "readLikeAnother", "(LEventLog$Events;IJI)V"⟩
abbrev ws_Reader_readLikeAnother : List Cond := Cond.code y_Reader_readLikeAnother b_Reader_readLikeAnother 7 none :: U0
abbrev b_Reader_readOwn : ByteArray := prog_6_method_11_code
def y_Reader_readOwn : MethodName := ⟨"EventLog$Reader", "readOwn", "(LEventLog$Events;IJI)V"⟩
abbrev ws_Reader_readOwn : List Cond := Cond.code y_Reader_readOwn b_Reader_readOwn 9 none :: U0
abbrev b_Reader_readSignal : ByteArray := prog_6_method_12_code
def y_Reader_readSignal : MethodName := ⟨"EventLog$Reader", "readSignal", "()I"⟩
abbrev ws_Reader_readSignal : List Cond := Cond.code y_Reader_readSignal b_Reader_readSignal 3 (some FieldType.int) :: U0
abbrev b_Reader_keep : ByteArray := prog_6_method_13_code
def y_Reader_keep : MethodName := ⟨"EventLog$Reader", "keep", "(LEventLog$Events;IJJI)V"⟩
abbrev ws_Reader_keep : List Cond := Cond.code y_Reader_keep b_Reader_keep 8 none :: U0
abbrev b_Reader_readVarint : ByteArray := prog_6_method_14_code
def y_Reader_readVarint : MethodName := ⟨"EventLog$Reader", "readVarint", "(I)J"⟩
abbrev ws_Reader_readVarint : List Cond := Cond.code y_Reader_readVarint b_Reader_readVarint 8 (some FieldType.long) :: U0
abbrev b_Reader_readBytes : ByteArray := prog_6_method_15_code
def y_Reader_readBytes : MethodName := ⟨"EventLog$Reader", "readBytes", "(I)J"⟩
abbrev ws_Reader_readBytes : List Cond := Cond.code y_Reader_readBytes b_Reader_readBytes 5 (some FieldType.long) :: U0
abbrev b_Reader_readByte : ByteArray := prog_6_method_16_code
def y_Reader_readByte : MethodName := ⟨"EventLog$Reader", "readByte", "()I"⟩
abbrev ws_Reader_readByte : List Cond := Cond.code y_Reader_readByte b_Reader_readByte 2 (some FieldType.int) :: U0
abbrev b_EventLog_init : ByteArray := prog_1_method_1_code
def y_EventLog_init : MethodName := ⟨"EventLog", "<init>", "()V"⟩
abbrev ws_EventLog_init : List Cond := Cond.code y_EventLog_init b_EventLog_init 2 none :: U0
abbrev b_EventLog_add : ByteArray := prog_1_method_2_code
def y_EventLog_add : MethodName := ⟨"EventLog", "add", "(IJJI)I"⟩
abbrev ws_EventLog_add : List Cond := Cond.code y_EventLog_add b_EventLog_add 7 (some FieldType.int) :: U0
abbrev b_EventLog_drop : ByteArray := prog_1_method_3_code
def y_EventLog_drop : MethodName := ⟨"EventLog", "drop", "(I)I"⟩
abbrev ws_EventLog_drop : List Cond := Cond.code y_EventLog_drop b_EventLog_drop 3 (some FieldType.int) :: U0
abbrev b_EventLog_pack : ByteArray := prog_1_method_4_code
def y_EventLog_pack : MethodName := ⟨"EventLog", "pack", "()I"⟩
abbrev ws_EventLog_pack : List Cond := Cond.code y_EventLog_pack b_EventLog_pack 1 (some FieldType.int) :: U0
abbrev b_EventLog_size : ByteArray := prog_1_method_5_code
def y_EventLog_size : MethodName := ⟨"EventLog", "size", "()I"⟩
abbrev ws_EventLog_size : List Cond := Cond.code y_EventLog_size b_EventLog_size 1 (some FieldType.int) :: U0
abbrev b_EventLog_read : ByteArray := prog_1_method_6_code
def y_EventLog_read : MethodName := ⟨"EventLog", "read", "()I"⟩
abbrev ws_EventLog_read : List Cond := Cond.code y_EventLog_read b_EventLog_read 3 (some FieldType.int) :: U0
abbrev b_EventLog_poke : ByteArray := prog_1_method_7_code
def y_EventLog_poke : MethodName := ⟨"EventLog", "poke", "(II)V"⟩
abbrev ws_EventLog_poke : List Cond := Cond.code y_EventLog_poke b_EventLog_poke 3 none :: U0
abbrev b_EventLog_cut : ByteArray := prog_1_method_8_code
def y_EventLog_cut : MethodName := ⟨"EventLog", "cut", "(I)I"⟩
abbrev ws_EventLog_cut : List Cond := Cond.code y_EventLog_cut b_EventLog_cut 3 (some FieldType.int) :: U0
abbrev b_EventLog_byteAt : ByteArray := prog_1_method_9_code
def y_EventLog_byteAt : MethodName := ⟨"EventLog", "byteAt", "(I)I"⟩
abbrev ws_EventLog_byteAt : List Cond := Cond.code y_EventLog_byteAt b_EventLog_byteAt 2 (some FieldType.int) :: U0
abbrev b_EventLog_event : ByteArray := prog_1_method_10_code
def y_EventLog_event : MethodName := ⟨"EventLog", "event", "(II)J"⟩
abbrev ws_EventLog_event : List Cond := Cond.code y_EventLog_event b_EventLog_event 3 (some FieldType.long) :: U0
abbrev b_EventLog_at : ByteArray := prog_1_method_11_code
def y_EventLog_at : MethodName := ⟨"EventLog", "at", "(J)I"⟩
abbrev ws_EventLog_at : List Cond := Cond.code y_EventLog_at b_EventLog_at 3 (some FieldType.int) :: U0
abbrev b_EventLog_count : ByteArray := prog_1_method_12_code
def y_EventLog_count : MethodName := ⟨"EventLog", "count", "(I)I"⟩
abbrev ws_EventLog_count : List Cond := Cond.code y_EventLog_count b_EventLog_count 2 (some FieldType.int) :: U0
abbrev b_EventLog_isEvent : ByteArray := prog_1_method_13_code
def y_EventLog_isEvent : MethodName := ⟨"EventLog", "isEvent", "(IJJI)Z"⟩
abbrev ws_EventLog_isEvent : List Cond := Cond.code y_EventLog_isEvent b_EventLog_isEvent 6 (some FieldType.boolean) :: U0
abbrev b_EventLog_isProcess : ByteArray := prog_1_method_14_code
def y_EventLog_isProcess : MethodName := ⟨"EventLog", "isProcess", "(J)Z"⟩
abbrev ws_EventLog_isProcess : List Cond := Cond.code y_EventLog_isProcess b_EventLog_isProcess 2 (some FieldType.boolean) :: U0
abbrev b_EventLog_isSignal : ByteArray := prog_1_method_15_code
def y_EventLog_isSignal : MethodName := ⟨"EventLog", "isSignal", "(I)Z"⟩
abbrev ws_EventLog_isSignal : List Cond := Cond.code y_EventLog_isSignal b_EventLog_isSignal 1 (some FieldType.boolean) :: U0
abbrev b_EventLog_heldA : ByteArray := prog_1_method_16_code
def y_EventLog_heldA : MethodName := ⟨"EventLog", "heldA", "(IJI)J"⟩
abbrev ws_EventLog_heldA : List Cond := Cond.code y_EventLog_heldA b_EventLog_heldA 4 (some FieldType.long) :: U0
abbrev b_EventLog_heldB : ByteArray := prog_1_method_17_code
def y_EventLog_heldB : MethodName := ⟨"EventLog", "heldB", "(II)I"⟩
abbrev ws_EventLog_heldB : List Cond := Cond.code y_EventLog_heldB b_EventLog_heldB 2 (some FieldType.int) :: U0
abbrev S_Bytes : Type := (Nat → Int32) × Int32
abbrev S_Past : Type := (Nat → Int32) × Int32 × Int32
abbrev S_Events : Type := (Nat → Int32) × (Nat → Int64) × (Nat → Int64) × (Nat → Int32) × Int32
abbrev S_Packer : Type := S_Bytes × S_Past × Bool × Int32 × Int32 × Int32 × Int32 × Int32
abbrev S_Reader : Type := S_Bytes × S_Past × Int32 × Int32 × Int32
abbrev S_EventLog : Type := S_Events × S_Events × S_Bytes × (S_Past × Bool × Int32 × Int32 × Int32 × Int32 × Int32) × (S_Past × Int32 × Int32 × Int32)
end
section
theorem d_Bytes_init_0 : decode b_Bytes_init 0 = .ok (.aload_n 0, 1) := by decide +kernel
theorem d_Bytes_init_1 : decode b_Bytes_init 1 = .ok (.invokespecial 3, 3) := by decide +kernel
theorem d_Bytes_init_4 : decode b_Bytes_init 4 = .ok (.aload_n 0, 1) := by decide +kernel
theorem d_Bytes_init_5 : decode b_Bytes_init 5 = .ok (.sipush 5000, 3) := by decide +kernel
theorem d_Bytes_init_8 : decode b_Bytes_init 8 = .ok (.newarray .int, 2) := by decide +kernel
theorem d_Bytes_init_10 : decode b_Bytes_init 10 = .ok (.putfield 9, 3) := by decide +kernel
theorem d_Bytes_init_13 : decode b_Bytes_init 13 = .ok (.return_, 1) := by decide +kernel
theorem d_Bytes_length_0 : decode b_Bytes_length 0 = .ok (.aload_n 0, 1) := by decide +kernel
theorem d_Bytes_length_1 : decode b_Bytes_length 1 = .ok (.getfield 15, 3) := by decide +kernel
theorem d_Bytes_length_4 : decode b_Bytes_length 4 = .ok (.ireturn, 1) := by decide +kernel
theorem d_Bytes_get_0 : decode b_Bytes_get 0 = .ok (.iload_n 1, 1) := by decide +kernel
theorem d_Bytes_get_1 : decode b_Bytes_get 1 = .ok (.ifCond .lt 27, 3) := by decide +kernel
theorem d_Bytes_get_4 : decode b_Bytes_get 4 = .ok (.iload_n 1, 1) := by decide +kernel
theorem d_Bytes_get_5 : decode b_Bytes_get 5 = .ok (.aload_n 0, 1) := by decide +kernel
theorem d_Bytes_get_6 : decode b_Bytes_get 6 = .ok (.getfield 15, 3) := by decide +kernel
theorem d_Bytes_get_9 : decode b_Bytes_get 9 = .ok (.if_icmp .ge 19, 3) := by decide +kernel
theorem d_Bytes_get_12 : decode b_Bytes_get 12 = .ok (.iload_n 1, 1) := by decide +kernel
theorem d_Bytes_get_13 : decode b_Bytes_get 13 = .ok (.sipush 5000, 3) := by decide +kernel
theorem d_Bytes_get_16 : decode b_Bytes_get 16 = .ok (.if_icmp .ge 12, 3) := by decide +kernel
theorem d_Bytes_get_19 : decode b_Bytes_get 19 = .ok (.aload_n 0, 1) := by decide +kernel
theorem d_Bytes_get_20 : decode b_Bytes_get 20 = .ok (.getfield 9, 3) := by decide +kernel
theorem d_Bytes_get_23 : decode b_Bytes_get 23 = .ok (.iload_n 1, 1) := by decide +kernel
theorem d_Bytes_get_24 : decode b_Bytes_get 24 = .ok (.iaload, 1) := by decide +kernel
theorem d_Bytes_get_25 : decode b_Bytes_get 25 = .ok (.goto 4, 3) := by decide +kernel
theorem d_Bytes_get_28 : decode b_Bytes_get 28 = .ok (.iconst 0, 1) := by decide +kernel
theorem d_Bytes_get_29 : decode b_Bytes_get 29 = .ok (.ireturn, 1) := by decide +kernel
theorem d_Bytes_put_0 : decode b_Bytes_put 0 = .ok (.iload_n 1, 1) := by decide +kernel
theorem d_Bytes_put_1 : decode b_Bytes_put 1 = .ok (.ifCond .lt 25, 3) := by decide +kernel
theorem d_Bytes_put_4 : decode b_Bytes_put 4 = .ok (.iload_n 1, 1) := by decide +kernel
theorem d_Bytes_put_5 : decode b_Bytes_put 5 = .ok (.aload_n 0, 1) := by decide +kernel
theorem d_Bytes_put_6 : decode b_Bytes_put 6 = .ok (.getfield 15, 3) := by decide +kernel
theorem d_Bytes_put_9 : decode b_Bytes_put 9 = .ok (.if_icmp .ge 17, 3) := by decide +kernel
theorem d_Bytes_put_12 : decode b_Bytes_put 12 = .ok (.iload_n 1, 1) := by decide +kernel
theorem d_Bytes_put_13 : decode b_Bytes_put 13 = .ok (.sipush 5000, 3) := by decide +kernel
theorem d_Bytes_put_16 : decode b_Bytes_put 16 = .ok (.if_icmp .ge 10, 3) := by decide +kernel
theorem d_Bytes_put_19 : decode b_Bytes_put 19 = .ok (.aload_n 0, 1) := by decide +kernel
theorem d_Bytes_put_20 : decode b_Bytes_put 20 = .ok (.getfield 9, 3) := by decide +kernel
theorem d_Bytes_put_23 : decode b_Bytes_put 23 = .ok (.iload_n 1, 1) := by decide +kernel
theorem d_Bytes_put_24 : decode b_Bytes_put 24 = .ok (.iload_n 2, 1) := by decide +kernel
theorem d_Bytes_put_25 : decode b_Bytes_put 25 = .ok (.iastore, 1) := by decide +kernel
theorem d_Bytes_put_26 : decode b_Bytes_put 26 = .ok (.return_, 1) := by decide +kernel
theorem d_Bytes_append_0 : decode b_Bytes_append 0 = .ok (.aload_n 0, 1) := by decide +kernel
theorem d_Bytes_append_1 : decode b_Bytes_append 1 = .ok (.getfield 15, 3) := by decide +kernel
theorem d_Bytes_append_4 : decode b_Bytes_append 4 = .ok (.ifCond .lt 33, 3) := by decide +kernel
theorem d_Bytes_append_7 : decode b_Bytes_append 7 = .ok (.aload_n 0, 1) := by decide +kernel
theorem d_Bytes_append_8 : decode b_Bytes_append 8 = .ok (.getfield 15, 3) := by decide +kernel
theorem d_Bytes_append_11 : decode b_Bytes_append 11 = .ok (.sipush 5000, 3) := by decide +kernel
theorem d_Bytes_append_14 : decode b_Bytes_append 14 = .ok (.if_icmp .ge 23, 3) := by decide +kernel
theorem d_Bytes_append_17 : decode b_Bytes_append 17 = .ok (.aload_n 0, 1) := by decide +kernel
theorem d_Bytes_append_18 : decode b_Bytes_append 18 = .ok (.getfield 9, 3) := by decide +kernel
theorem d_Bytes_append_21 : decode b_Bytes_append 21 = .ok (.aload_n 0, 1) := by decide +kernel
theorem d_Bytes_append_22 : decode b_Bytes_append 22 = .ok (.getfield 15, 3) := by decide +kernel
theorem d_Bytes_append_25 : decode b_Bytes_append 25 = .ok (.iload_n 1, 1) := by decide +kernel
theorem d_Bytes_append_26 : decode b_Bytes_append 26 = .ok (.iastore, 1) := by decide +kernel
theorem d_Bytes_append_27 : decode b_Bytes_append 27 = .ok (.aload_n 0, 1) := by decide +kernel
theorem d_Bytes_append_28 : decode b_Bytes_append 28 = .ok (.dup, 1) := by decide +kernel
theorem d_Bytes_append_29 : decode b_Bytes_append 29 = .ok (.getfield 15, 3) := by decide +kernel
theorem d_Bytes_append_32 : decode b_Bytes_append 32 = .ok (.iconst 1, 1) := by decide +kernel
theorem d_Bytes_append_33 : decode b_Bytes_append 33 = .ok (.iadd, 1) := by decide +kernel
theorem d_Bytes_append_34 : decode b_Bytes_append 34 = .ok (.putfield 15, 3) := by decide +kernel
theorem d_Bytes_append_37 : decode b_Bytes_append 37 = .ok (.return_, 1) := by decide +kernel
theorem d_Bytes_keepFirst_0 : decode b_Bytes_keepFirst 0 = .ok (.iload_n 1, 1) := by decide +kernel
theorem d_Bytes_keepFirst_1 : decode b_Bytes_keepFirst 1 = .ok (.ifCond .lt 16, 3) := by decide +kernel
theorem d_Bytes_keepFirst_4 : decode b_Bytes_keepFirst 4 = .ok (.iload_n 1, 1) := by decide +kernel
theorem d_Bytes_keepFirst_5 : decode b_Bytes_keepFirst 5 = .ok (.aload_n 0, 1) := by decide +kernel
theorem d_Bytes_keepFirst_6 : decode b_Bytes_keepFirst 6 = .ok (.getfield 15, 3) := by decide +kernel
theorem d_Bytes_keepFirst_9 : decode b_Bytes_keepFirst 9 = .ok (.if_icmp .ge 8, 3) := by decide +kernel
theorem d_Bytes_keepFirst_12 : decode b_Bytes_keepFirst 12 = .ok (.aload_n 0, 1) := by decide +kernel
theorem d_Bytes_keepFirst_13 : decode b_Bytes_keepFirst 13 = .ok (.iload_n 1, 1) := by decide +kernel
theorem d_Bytes_keepFirst_14 : decode b_Bytes_keepFirst 14 = .ok (.putfield 15, 3) := by decide +kernel
theorem d_Bytes_keepFirst_17 : decode b_Bytes_keepFirst 17 = .ok (.return_, 1) := by decide +kernel
end
section
theorem d_Past_init_0 : decode b_Past_init 0 = .ok (.aload_n 0, 1) := by decide +kernel
theorem d_Past_init_1 : decode b_Past_init 1 = .ok (.invokespecial 3, 3) := by decide +kernel
theorem d_Past_init_4 : decode b_Past_init 4 = .ok (.aload_n 0, 1) := by decide +kernel
theorem d_Past_init_5 : decode b_Past_init 5 = .ok (.sipush 300, 3) := by decide +kernel
theorem d_Past_init_8 : decode b_Past_init 8 = .ok (.newarray .int, 2) := by decide +kernel
theorem d_Past_init_10 : decode b_Past_init 10 = .ok (.putfield 9, 3) := by decide +kernel
theorem d_Past_init_13 : decode b_Past_init 13 = .ok (.aload_n 0, 1) := by decide +kernel
theorem d_Past_init_14 : decode b_Past_init 14 = .ok (.iconst (-1), 1) := by decide +kernel
theorem d_Past_init_15 : decode b_Past_init 15 = .ok (.putfield 15, 3) := by decide +kernel
theorem d_Past_init_18 : decode b_Past_init 18 = .ok (.return_, 1) := by decide +kernel
theorem d_Past_forget_0 : decode b_Past_forget 0 = .ok (.aload_n 0, 1) := by decide +kernel
theorem d_Past_forget_1 : decode b_Past_forget 1 = .ok (.iconst 0, 1) := by decide +kernel
theorem d_Past_forget_2 : decode b_Past_forget 2 = .ok (.putfield 19, 3) := by decide +kernel
theorem d_Past_forget_5 : decode b_Past_forget 5 = .ok (.aload_n 0, 1) := by decide +kernel
theorem d_Past_forget_6 : decode b_Past_forget 6 = .ok (.iconst (-1), 1) := by decide +kernel
theorem d_Past_forget_7 : decode b_Past_forget 7 = .ok (.putfield 15, 3) := by decide +kernel
theorem d_Past_forget_10 : decode b_Past_forget 10 = .ok (.return_, 1) := by decide +kernel
theorem d_Past_note_0 : decode b_Past_note 0 = .ok (.iload_n 1, 1) := by decide +kernel
theorem d_Past_note_1 : decode b_Past_note 1 = .ok (.iconst 3, 1) := by decide +kernel
theorem d_Past_note_2 : decode b_Past_note 2 = .ok (.if_icmp .ne 8, 3) := by decide +kernel
theorem d_Past_note_5 : decode b_Past_note 5 = .ok (.aload_n 0, 1) := by decide +kernel
theorem d_Past_note_6 : decode b_Past_note 6 = .ok (.iload_n 2, 1) := by decide +kernel
theorem d_Past_note_7 : decode b_Past_note 7 = .ok (.putfield 15, 3) := by decide +kernel
theorem d_Past_note_10 : decode b_Past_note 10 = .ok (.iload_n 1, 1) := by decide +kernel
theorem d_Past_note_11 : decode b_Past_note 11 = .ok (.iconst 1, 1) := by decide +kernel
theorem d_Past_note_12 : decode b_Past_note 12 = .ok (.if_icmp .ne 40, 3) := by decide +kernel
theorem d_Past_note_15 : decode b_Past_note 15 = .ok (.aload_n 0, 1) := by decide +kernel
theorem d_Past_note_16 : decode b_Past_note 16 = .ok (.getfield 19, 3) := by decide +kernel
theorem d_Past_note_19 : decode b_Past_note 19 = .ok (.ifCond .lt 33, 3) := by decide +kernel
theorem d_Past_note_22 : decode b_Past_note 22 = .ok (.aload_n 0, 1) := by decide +kernel
theorem d_Past_note_23 : decode b_Past_note 23 = .ok (.getfield 19, 3) := by decide +kernel
theorem d_Past_note_26 : decode b_Past_note 26 = .ok (.sipush 300, 3) := by decide +kernel
theorem d_Past_note_29 : decode b_Past_note 29 = .ok (.if_icmp .ge 23, 3) := by decide +kernel
theorem d_Past_note_32 : decode b_Past_note 32 = .ok (.aload_n 0, 1) := by decide +kernel
theorem d_Past_note_33 : decode b_Past_note 33 = .ok (.getfield 9, 3) := by decide +kernel
theorem d_Past_note_36 : decode b_Past_note 36 = .ok (.aload_n 0, 1) := by decide +kernel
theorem d_Past_note_37 : decode b_Past_note 37 = .ok (.getfield 19, 3) := by decide +kernel
theorem d_Past_note_40 : decode b_Past_note 40 = .ok (.iload_n 2, 1) := by decide +kernel
theorem d_Past_note_41 : decode b_Past_note 41 = .ok (.iastore, 1) := by decide +kernel
theorem d_Past_note_42 : decode b_Past_note 42 = .ok (.aload_n 0, 1) := by decide +kernel
theorem d_Past_note_43 : decode b_Past_note 43 = .ok (.dup, 1) := by decide +kernel
theorem d_Past_note_44 : decode b_Past_note 44 = .ok (.getfield 19, 3) := by decide +kernel
theorem d_Past_note_47 : decode b_Past_note 47 = .ok (.iconst 1, 1) := by decide +kernel
theorem d_Past_note_48 : decode b_Past_note 48 = .ok (.iadd, 1) := by decide +kernel
theorem d_Past_note_49 : decode b_Past_note 49 = .ok (.putfield 19, 3) := by decide +kernel
theorem d_Past_note_52 : decode b_Past_note 52 = .ok (.return_, 1) := by decide +kernel
theorem d_Past_latestClock_0 : decode b_Past_latestClock 0 = .ok (.aload_n 0, 1) := by decide +kernel
theorem d_Past_latestClock_1 : decode b_Past_latestClock 1 = .ok (.getfield 15, 3) := by decide +kernel
theorem d_Past_latestClock_4 : decode b_Past_latestClock 4 = .ok (.ireturn, 1) := by decide +kernel
theorem d_Past_typedBefore_0 : decode b_Past_typedBefore 0 = .ok (.lload_n 1, 1) := by decide +kernel
theorem d_Past_typedBefore_1 : decode b_Past_typedBefore 1 = .ok (.lconst 1, 1) := by decide +kernel
theorem d_Past_typedBefore_2 : decode b_Past_typedBefore 2 = .ok (.lcmp, 1) := by decide +kernel
theorem d_Past_typedBefore_3 : decode b_Past_typedBefore 3 = .ok (.ifCond .lt 21, 3) := by decide +kernel
theorem d_Past_typedBefore_6 : decode b_Past_typedBefore 6 = .ok (.lload_n 1, 1) := by decide +kernel
theorem d_Past_typedBefore_7 : decode b_Past_typedBefore 7 = .ok (.aload_n 0, 1) := by decide +kernel
theorem d_Past_typedBefore_8 : decode b_Past_typedBefore 8 = .ok (.getfield 19, 3) := by decide +kernel
theorem d_Past_typedBefore_11 : decode b_Past_typedBefore 11 = .ok (.i2l, 1) := by decide +kernel
theorem d_Past_typedBefore_12 : decode b_Past_typedBefore 12 = .ok (.lcmp, 1) := by decide +kernel
theorem d_Past_typedBefore_13 : decode b_Past_typedBefore 13 = .ok (.ifCond .gt 11, 3) := by decide +kernel
theorem d_Past_typedBefore_16 : decode b_Past_typedBefore 16 = .ok (.lload_n 1, 1) := by decide +kernel
theorem d_Past_typedBefore_17 : decode b_Past_typedBefore 17 = .ok (.ldc2_w 22, 3) := by decide +kernel
theorem d_Past_typedBefore_20 : decode b_Past_typedBefore 20 = .ok (.lcmp, 1) := by decide +kernel
theorem d_Past_typedBefore_21 : decode b_Past_typedBefore 21 = .ok (.ifCond .le 5, 3) := by decide +kernel
theorem d_Past_typedBefore_24 : decode b_Past_typedBefore 24 = .ok (.iconst (-1), 1) := by decide +kernel
theorem d_Past_typedBefore_25 : decode b_Past_typedBefore 25 = .ok (.ireturn, 1) := by decide +kernel
theorem d_Past_typedBefore_26 : decode b_Past_typedBefore 26 = .ok (.aload_n 0, 1) := by decide +kernel
theorem d_Past_typedBefore_27 : decode b_Past_typedBefore 27 = .ok (.getfield 19, 3) := by decide +kernel
theorem d_Past_typedBefore_30 : decode b_Past_typedBefore 30 = .ok (.lload_n 1, 1) := by decide +kernel
theorem d_Past_typedBefore_31 : decode b_Past_typedBefore 31 = .ok (.l2i, 1) := by decide +kernel
theorem d_Past_typedBefore_32 : decode b_Past_typedBefore 32 = .ok (.isub, 1) := by decide +kernel
theorem d_Past_typedBefore_33 : decode b_Past_typedBefore 33 = .ok (.istore_n 3, 1) := by decide +kernel
theorem d_Past_typedBefore_34 : decode b_Past_typedBefore 34 = .ok (.iload_n 3, 1) := by decide +kernel
theorem d_Past_typedBefore_35 : decode b_Past_typedBefore 35 = .ok (.sipush 300, 3) := by decide +kernel
theorem d_Past_typedBefore_38 : decode b_Past_typedBefore 38 = .ok (.if_icmp .ge 12, 3) := by decide +kernel
theorem d_Past_typedBefore_41 : decode b_Past_typedBefore 41 = .ok (.aload_n 0, 1) := by decide +kernel
theorem d_Past_typedBefore_42 : decode b_Past_typedBefore 42 = .ok (.getfield 9, 3) := by decide +kernel
theorem d_Past_typedBefore_45 : decode b_Past_typedBefore 45 = .ok (.iload_n 3, 1) := by decide +kernel
theorem d_Past_typedBefore_46 : decode b_Past_typedBefore 46 = .ok (.iaload, 1) := by decide +kernel
theorem d_Past_typedBefore_47 : decode b_Past_typedBefore 47 = .ok (.goto 4, 3) := by decide +kernel
theorem d_Past_typedBefore_50 : decode b_Past_typedBefore 50 = .ok (.iconst (-1), 1) := by decide +kernel
theorem d_Past_typedBefore_51 : decode b_Past_typedBefore 51 = .ok (.ireturn, 1) := by decide +kernel
end
section
theorem d_Events_init_0 : decode b_Events_init 0 = .ok (.aload_n 0, 1) := by decide +kernel
theorem d_Events_init_1 : decode b_Events_init 1 = .ok (.invokespecial 3, 3) := by decide +kernel
theorem d_Events_init_4 : decode b_Events_init 4 = .ok (.aload_n 0, 1) := by decide +kernel
theorem d_Events_init_5 : decode b_Events_init 5 = .ok (.sipush 300, 3) := by decide +kernel
theorem d_Events_init_8 : decode b_Events_init 8 = .ok (.newarray .int, 2) := by decide +kernel
theorem d_Events_init_10 : decode b_Events_init 10 = .ok (.putfield 9, 3) := by decide +kernel
theorem d_Events_init_13 : decode b_Events_init 13 = .ok (.aload_n 0, 1) := by decide +kernel
theorem d_Events_init_14 : decode b_Events_init 14 = .ok (.sipush 300, 3) := by decide +kernel
theorem d_Events_init_17 : decode b_Events_init 17 = .ok (.newarray .long, 2) := by decide +kernel
theorem d_Events_init_19 : decode b_Events_init 19 = .ok (.putfield 15, 3) := by decide +kernel
theorem d_Events_init_22 : decode b_Events_init 22 = .ok (.aload_n 0, 1) := by decide +kernel
theorem d_Events_init_23 : decode b_Events_init 23 = .ok (.sipush 300, 3) := by decide +kernel
theorem d_Events_init_26 : decode b_Events_init 26 = .ok (.newarray .long, 2) := by decide +kernel
theorem d_Events_init_28 : decode b_Events_init 28 = .ok (.putfield 19, 3) := by decide +kernel
theorem d_Events_init_31 : decode b_Events_init 31 = .ok (.aload_n 0, 1) := by decide +kernel
theorem d_Events_init_32 : decode b_Events_init 32 = .ok (.sipush 300, 3) := by decide +kernel
theorem d_Events_init_35 : decode b_Events_init 35 = .ok (.newarray .int, 2) := by decide +kernel
theorem d_Events_init_37 : decode b_Events_init 37 = .ok (.putfield 22, 3) := by decide +kernel
theorem d_Events_init_40 : decode b_Events_init 40 = .ok (.return_, 1) := by decide +kernel
theorem d_Events_number_0 : decode b_Events_number 0 = .ok (.aload_n 0, 1) := by decide +kernel
theorem d_Events_number_1 : decode b_Events_number 1 = .ok (.getfield 25, 3) := by decide +kernel
theorem d_Events_number_4 : decode b_Events_number 4 = .ok (.ireturn, 1) := by decide +kernel
theorem d_Events_has_0 : decode b_Events_has 0 = .ok (.iload_n 1, 1) := by decide +kernel
theorem d_Events_has_1 : decode b_Events_has 1 = .ok (.ifCond .lt 22, 3) := by decide +kernel
theorem d_Events_has_4 : decode b_Events_has 4 = .ok (.iload_n 1, 1) := by decide +kernel
theorem d_Events_has_5 : decode b_Events_has 5 = .ok (.aload_n 0, 1) := by decide +kernel
theorem d_Events_has_6 : decode b_Events_has 6 = .ok (.getfield 25, 3) := by decide +kernel
theorem d_Events_has_9 : decode b_Events_has 9 = .ok (.if_icmp .ge 14, 3) := by decide +kernel
theorem d_Events_has_12 : decode b_Events_has 12 = .ok (.iload_n 1, 1) := by decide +kernel
theorem d_Events_has_13 : decode b_Events_has 13 = .ok (.sipush 300, 3) := by decide +kernel
theorem d_Events_has_16 : decode b_Events_has 16 = .ok (.if_icmp .ge 7, 3) := by decide +kernel
theorem d_Events_has_19 : decode b_Events_has 19 = .ok (.iconst 1, 1) := by decide +kernel
theorem d_Events_has_20 : decode b_Events_has 20 = .ok (.goto 4, 3) := by decide +kernel
theorem d_Events_has_23 : decode b_Events_has 23 = .ok (.iconst 0, 1) := by decide +kernel
theorem d_Events_has_24 : decode b_Events_has 24 = .ok (.ireturn, 1) := by decide +kernel
theorem d_Events_kind_0 : decode b_Events_kind 0 = .ok (.aload_n 0, 1) := by decide +kernel
theorem d_Events_kind_1 : decode b_Events_kind 1 = .ok (.iload_n 1, 1) := by decide +kernel
theorem d_Events_kind_2 : decode b_Events_kind 2 = .ok (.invokevirtual 29, 3) := by decide +kernel
theorem d_Events_kind_5 : decode b_Events_kind 5 = .ok (.ifCond .eq 12, 3) := by decide +kernel
theorem d_Events_kind_8 : decode b_Events_kind 8 = .ok (.aload_n 0, 1) := by decide +kernel
theorem d_Events_kind_9 : decode b_Events_kind 9 = .ok (.getfield 9, 3) := by decide +kernel
theorem d_Events_kind_12 : decode b_Events_kind 12 = .ok (.iload_n 1, 1) := by decide +kernel
theorem d_Events_kind_13 : decode b_Events_kind 13 = .ok (.iaload, 1) := by decide +kernel
theorem d_Events_kind_14 : decode b_Events_kind 14 = .ok (.goto 4, 3) := by decide +kernel
theorem d_Events_kind_17 : decode b_Events_kind 17 = .ok (.iconst 0, 1) := by decide +kernel
theorem d_Events_kind_18 : decode b_Events_kind 18 = .ok (.ireturn, 1) := by decide +kernel
theorem d_Events_difference_0 : decode b_Events_difference 0 = .ok (.aload_n 0, 1) := by decide +kernel
theorem d_Events_difference_1 : decode b_Events_difference 1 = .ok (.iload_n 1, 1) := by decide +kernel
theorem d_Events_difference_2 : decode b_Events_difference 2 = .ok (.invokevirtual 29, 3) := by decide +kernel
theorem d_Events_difference_5 : decode b_Events_difference 5 = .ok (.ifCond .eq 12, 3) := by decide +kernel
theorem d_Events_difference_8 : decode b_Events_difference 8 = .ok (.aload_n 0, 1) := by decide +kernel
theorem d_Events_difference_9 : decode b_Events_difference 9 = .ok (.getfield 15, 3) := by decide +kernel
theorem d_Events_difference_12 : decode b_Events_difference 12 = .ok (.iload_n 1, 1) := by decide +kernel
theorem d_Events_difference_13 : decode b_Events_difference 13 = .ok (.laload, 1) := by decide +kernel
theorem d_Events_difference_14 : decode b_Events_difference 14 = .ok (.goto 4, 3) := by decide +kernel
theorem d_Events_difference_17 : decode b_Events_difference 17 = .ok (.lconst 0, 1) := by decide +kernel
theorem d_Events_difference_18 : decode b_Events_difference 18 = .ok (.lreturn, 1) := by decide +kernel
theorem d_Events_a_0 : decode b_Events_a 0 = .ok (.aload_n 0, 1) := by decide +kernel
theorem d_Events_a_1 : decode b_Events_a 1 = .ok (.iload_n 1, 1) := by decide +kernel
theorem d_Events_a_2 : decode b_Events_a 2 = .ok (.invokevirtual 29, 3) := by decide +kernel
theorem d_Events_a_5 : decode b_Events_a 5 = .ok (.ifCond .eq 12, 3) := by decide +kernel
theorem d_Events_a_8 : decode b_Events_a 8 = .ok (.aload_n 0, 1) := by decide +kernel
theorem d_Events_a_9 : decode b_Events_a 9 = .ok (.getfield 19, 3) := by decide +kernel
theorem d_Events_a_12 : decode b_Events_a 12 = .ok (.iload_n 1, 1) := by decide +kernel
theorem d_Events_a_13 : decode b_Events_a 13 = .ok (.laload, 1) := by decide +kernel
theorem d_Events_a_14 : decode b_Events_a 14 = .ok (.goto 4, 3) := by decide +kernel
theorem d_Events_a_17 : decode b_Events_a 17 = .ok (.lconst 0, 1) := by decide +kernel
theorem d_Events_a_18 : decode b_Events_a 18 = .ok (.lreturn, 1) := by decide +kernel
theorem d_Events_b_0 : decode b_Events_b 0 = .ok (.aload_n 0, 1) := by decide +kernel
theorem d_Events_b_1 : decode b_Events_b 1 = .ok (.iload_n 1, 1) := by decide +kernel
theorem d_Events_b_2 : decode b_Events_b 2 = .ok (.invokevirtual 29, 3) := by decide +kernel
theorem d_Events_b_5 : decode b_Events_b 5 = .ok (.ifCond .eq 12, 3) := by decide +kernel
theorem d_Events_b_8 : decode b_Events_b 8 = .ok (.aload_n 0, 1) := by decide +kernel
theorem d_Events_b_9 : decode b_Events_b 9 = .ok (.getfield 22, 3) := by decide +kernel
theorem d_Events_b_12 : decode b_Events_b 12 = .ok (.iload_n 1, 1) := by decide +kernel
theorem d_Events_b_13 : decode b_Events_b 13 = .ok (.iaload, 1) := by decide +kernel
theorem d_Events_b_14 : decode b_Events_b 14 = .ok (.goto 4, 3) := by decide +kernel
theorem d_Events_b_17 : decode b_Events_b 17 = .ok (.iconst 0, 1) := by decide +kernel
theorem d_Events_b_18 : decode b_Events_b 18 = .ok (.ireturn, 1) := by decide +kernel
theorem d_Events_append_0 : decode b_Events_append 0 = .ok (.aload_n 0, 1) := by decide +kernel
theorem d_Events_append_1 : decode b_Events_append 1 = .ok (.getfield 25, 3) := by decide +kernel
theorem d_Events_append_4 : decode b_Events_append 4 = .ok (.ifCond .lt 13, 3) := by decide +kernel
theorem d_Events_append_7 : decode b_Events_append 7 = .ok (.aload_n 0, 1) := by decide +kernel
theorem d_Events_append_8 : decode b_Events_append 8 = .ok (.getfield 25, 3) := by decide +kernel
theorem d_Events_append_11 : decode b_Events_append 11 = .ok (.sipush 300, 3) := by decide +kernel
theorem d_Events_append_14 : decode b_Events_append 14 = .ok (.if_icmp .lt 4, 3) := by decide +kernel
theorem d_Events_append_17 : decode b_Events_append 17 = .ok (.return_, 1) := by decide +kernel
theorem d_Events_append_18 : decode b_Events_append 18 = .ok (.aload_n 0, 1) := by decide +kernel
theorem d_Events_append_19 : decode b_Events_append 19 = .ok (.getfield 9, 3) := by decide +kernel
theorem d_Events_append_22 : decode b_Events_append 22 = .ok (.aload_n 0, 1) := by decide +kernel
theorem d_Events_append_23 : decode b_Events_append 23 = .ok (.getfield 25, 3) := by decide +kernel
theorem d_Events_append_26 : decode b_Events_append 26 = .ok (.iload_n 1, 1) := by decide +kernel
theorem d_Events_append_27 : decode b_Events_append 27 = .ok (.iastore, 1) := by decide +kernel
theorem d_Events_append_28 : decode b_Events_append 28 = .ok (.aload_n 0, 1) := by decide +kernel
theorem d_Events_append_29 : decode b_Events_append 29 = .ok (.getfield 15, 3) := by decide +kernel
theorem d_Events_append_32 : decode b_Events_append 32 = .ok (.aload_n 0, 1) := by decide +kernel
theorem d_Events_append_33 : decode b_Events_append 33 = .ok (.getfield 25, 3) := by decide +kernel
theorem d_Events_append_36 : decode b_Events_append 36 = .ok (.lload_n 2, 1) := by decide +kernel
theorem d_Events_append_37 : decode b_Events_append 37 = .ok (.lastore, 1) := by decide +kernel
theorem d_Events_append_38 : decode b_Events_append 38 = .ok (.aload_n 0, 1) := by decide +kernel
theorem d_Events_append_39 : decode b_Events_append 39 = .ok (.getfield 19, 3) := by decide +kernel
theorem d_Events_append_42 : decode b_Events_append 42 = .ok (.aload_n 0, 1) := by decide +kernel
theorem d_Events_append_43 : decode b_Events_append 43 = .ok (.getfield 25, 3) := by decide +kernel
theorem d_Events_append_46 : decode b_Events_append 46 = .ok (.lload 4, 2) := by decide +kernel
theorem d_Events_append_48 : decode b_Events_append 48 = .ok (.lastore, 1) := by decide +kernel
theorem d_Events_append_49 : decode b_Events_append 49 = .ok (.aload_n 0, 1) := by decide +kernel
theorem d_Events_append_50 : decode b_Events_append 50 = .ok (.getfield 22, 3) := by decide +kernel
theorem d_Events_append_53 : decode b_Events_append 53 = .ok (.aload_n 0, 1) := by decide +kernel
theorem d_Events_append_54 : decode b_Events_append 54 = .ok (.getfield 25, 3) := by decide +kernel
theorem d_Events_append_57 : decode b_Events_append 57 = .ok (.iload 6, 2) := by decide +kernel
theorem d_Events_append_59 : decode b_Events_append 59 = .ok (.iastore, 1) := by decide +kernel
theorem d_Events_append_60 : decode b_Events_append 60 = .ok (.aload_n 0, 1) := by decide +kernel
theorem d_Events_append_61 : decode b_Events_append 61 = .ok (.dup, 1) := by decide +kernel
theorem d_Events_append_62 : decode b_Events_append 62 = .ok (.getfield 25, 3) := by decide +kernel
theorem d_Events_append_65 : decode b_Events_append 65 = .ok (.iconst 1, 1) := by decide +kernel
theorem d_Events_append_66 : decode b_Events_append 66 = .ok (.iadd, 1) := by decide +kernel
theorem d_Events_append_67 : decode b_Events_append 67 = .ok (.putfield 25, 3) := by decide +kernel
theorem d_Events_append_70 : decode b_Events_append 70 = .ok (.return_, 1) := by decide +kernel
theorem d_Events_keepFirst_0 : decode b_Events_keepFirst 0 = .ok (.iload_n 1, 1) := by decide +kernel
theorem d_Events_keepFirst_1 : decode b_Events_keepFirst 1 = .ok (.ifCond .lt 16, 3) := by decide +kernel
theorem d_Events_keepFirst_4 : decode b_Events_keepFirst 4 = .ok (.iload_n 1, 1) := by decide +kernel
theorem d_Events_keepFirst_5 : decode b_Events_keepFirst 5 = .ok (.aload_n 0, 1) := by decide +kernel
theorem d_Events_keepFirst_6 : decode b_Events_keepFirst 6 = .ok (.getfield 25, 3) := by decide +kernel
theorem d_Events_keepFirst_9 : decode b_Events_keepFirst 9 = .ok (.if_icmp .ge 8, 3) := by decide +kernel
theorem d_Events_keepFirst_12 : decode b_Events_keepFirst 12 = .ok (.aload_n 0, 1) := by decide +kernel
theorem d_Events_keepFirst_13 : decode b_Events_keepFirst 13 = .ok (.iload_n 1, 1) := by decide +kernel
theorem d_Events_keepFirst_14 : decode b_Events_keepFirst 14 = .ok (.putfield 25, 3) := by decide +kernel
theorem d_Events_keepFirst_17 : decode b_Events_keepFirst 17 = .ok (.return_, 1) := by decide +kernel
theorem d_Events_bringTheSame_0 : decode b_Events_bringTheSame 0 = .ok (.aload_n 0, 1) := by decide +kernel
theorem d_Events_bringTheSame_1 : decode b_Events_bringTheSame 1 = .ok (.iload_n 1, 1) := by decide +kernel
theorem d_Events_bringTheSame_2 : decode b_Events_bringTheSame 2 = .ok (.invokevirtual 29, 3) := by decide +kernel
theorem d_Events_bringTheSame_5 : decode b_Events_bringTheSame 5 = .ok (.ifCond .eq 61, 3) := by decide +kernel
theorem d_Events_bringTheSame_8 : decode b_Events_bringTheSame 8 = .ok (.aload_n 0, 1) := by decide +kernel
theorem d_Events_bringTheSame_9 : decode b_Events_bringTheSame 9 = .ok (.iload_n 2, 1) := by decide +kernel
theorem d_Events_bringTheSame_10 : decode b_Events_bringTheSame 10 = .ok (.invokevirtual 29, 3) := by decide +kernel
theorem d_Events_bringTheSame_13 : decode b_Events_bringTheSame 13 = .ok (.ifCond .eq 53, 3) := by decide +kernel
theorem d_Events_bringTheSame_16 : decode b_Events_bringTheSame 16 = .ok (.aload_n 0, 1) := by decide +kernel
theorem d_Events_bringTheSame_17 : decode b_Events_bringTheSame 17 = .ok (.getfield 9, 3) := by decide +kernel
theorem d_Events_bringTheSame_20 : decode b_Events_bringTheSame 20 = .ok (.iload_n 1, 1) := by decide +kernel
theorem d_Events_bringTheSame_21 : decode b_Events_bringTheSame 21 = .ok (.iaload, 1) := by decide +kernel
theorem d_Events_bringTheSame_22 : decode b_Events_bringTheSame 22 = .ok (.aload_n 0, 1) := by decide +kernel
theorem d_Events_bringTheSame_23 : decode b_Events_bringTheSame 23 = .ok (.getfield 9, 3) := by decide +kernel
theorem d_Events_bringTheSame_26 : decode b_Events_bringTheSame 26 = .ok (.iload_n 2, 1) := by decide +kernel
theorem d_Events_bringTheSame_27 : decode b_Events_bringTheSame 27 = .ok (.iaload, 1) := by decide +kernel
theorem d_Events_bringTheSame_28 : decode b_Events_bringTheSame 28 = .ok (.if_icmp .ne 38, 3) := by decide +kernel
theorem d_Events_bringTheSame_31 : decode b_Events_bringTheSame 31 = .ok (.aload_n 0, 1) := by decide +kernel
theorem d_Events_bringTheSame_32 : decode b_Events_bringTheSame 32 = .ok (.getfield 19, 3) := by decide +kernel
theorem d_Events_bringTheSame_35 : decode b_Events_bringTheSame 35 = .ok (.iload_n 1, 1) := by decide +kernel
theorem d_Events_bringTheSame_36 : decode b_Events_bringTheSame 36 = .ok (.laload, 1) := by decide +kernel
theorem d_Events_bringTheSame_37 : decode b_Events_bringTheSame 37 = .ok (.aload_n 0, 1) := by decide +kernel
theorem d_Events_bringTheSame_38 : decode b_Events_bringTheSame 38 = .ok (.getfield 19, 3) := by decide +kernel
theorem d_Events_bringTheSame_41 : decode b_Events_bringTheSame 41 = .ok (.iload_n 2, 1) := by decide +kernel
theorem d_Events_bringTheSame_42 : decode b_Events_bringTheSame 42 = .ok (.laload, 1) := by decide +kernel
theorem d_Events_bringTheSame_43 : decode b_Events_bringTheSame 43 = .ok (.lcmp, 1) := by decide +kernel
theorem d_Events_bringTheSame_44 : decode b_Events_bringTheSame 44 = .ok (.ifCond .ne 22, 3) := by decide +kernel
theorem d_Events_bringTheSame_47 : decode b_Events_bringTheSame 47 = .ok (.aload_n 0, 1) := by decide +kernel
theorem d_Events_bringTheSame_48 : decode b_Events_bringTheSame 48 = .ok (.getfield 22, 3) := by decide +kernel
theorem d_Events_bringTheSame_51 : decode b_Events_bringTheSame 51 = .ok (.iload_n 1, 1) := by decide +kernel
theorem d_Events_bringTheSame_52 : decode b_Events_bringTheSame 52 = .ok (.iaload, 1) := by decide +kernel
theorem d_Events_bringTheSame_53 : decode b_Events_bringTheSame 53 = .ok (.aload_n 0, 1) := by decide +kernel
theorem d_Events_bringTheSame_54 : decode b_Events_bringTheSame 54 = .ok (.getfield 22, 3) := by decide +kernel
theorem d_Events_bringTheSame_57 : decode b_Events_bringTheSame 57 = .ok (.iload_n 2, 1) := by decide +kernel
theorem d_Events_bringTheSame_58 : decode b_Events_bringTheSame 58 = .ok (.iaload, 1) := by decide +kernel
theorem d_Events_bringTheSame_59 : decode b_Events_bringTheSame 59 = .ok (.if_icmp .ne 7, 3) := by decide +kernel
theorem d_Events_bringTheSame_62 : decode b_Events_bringTheSame 62 = .ok (.iconst 1, 1) := by decide +kernel
theorem d_Events_bringTheSame_63 : decode b_Events_bringTheSame 63 = .ok (.goto 4, 3) := by decide +kernel
theorem d_Events_bringTheSame_66 : decode b_Events_bringTheSame 66 = .ok (.iconst 0, 1) := by decide +kernel
theorem d_Events_bringTheSame_67 : decode b_Events_bringTheSame 67 = .ok (.ireturn, 1) := by decide +kernel
theorem d_Events_hasDifferenceBefore_0 : decode b_Events_hasDifferenceBefore 0 = .ok (.aload_n 0, 1) := by decide +kernel
theorem d_Events_hasDifferenceBefore_1 : decode b_Events_hasDifferenceBefore 1 = .ok (.iload_n 1, 1) := by decide +kernel
theorem d_Events_hasDifferenceBefore_2 : decode b_Events_hasDifferenceBefore 2 = .ok (.invokevirtual 33, 3) := by decide +kernel
theorem d_Events_hasDifferenceBefore_5 : decode b_Events_hasDifferenceBefore 5 = .ok (.aload_n 0, 1) := by decide +kernel
theorem d_Events_hasDifferenceBefore_6 : decode b_Events_hasDifferenceBefore 6 = .ok (.iload_n 1, 1) := by decide +kernel
theorem d_Events_hasDifferenceBefore_7 : decode b_Events_hasDifferenceBefore 7 = .ok (.iconst 1, 1) := by decide +kernel
theorem d_Events_hasDifferenceBefore_8 : decode b_Events_hasDifferenceBefore 8 = .ok (.isub, 1) := by decide +kernel
theorem d_Events_hasDifferenceBefore_9 : decode b_Events_hasDifferenceBefore 9 = .ok (.invokevirtual 33, 3) := by decide +kernel
theorem d_Events_hasDifferenceBefore_12 : decode b_Events_hasDifferenceBefore 12 = .ok (.lcmp, 1) := by decide +kernel
theorem d_Events_hasDifferenceBefore_13 : decode b_Events_hasDifferenceBefore 13 = .ok (.ifCond .ne 7, 3) := by decide +kernel
theorem d_Events_hasDifferenceBefore_16 : decode b_Events_hasDifferenceBefore 16 = .ok (.iconst 1, 1) := by decide +kernel
theorem d_Events_hasDifferenceBefore_17 : decode b_Events_hasDifferenceBefore 17 = .ok (.goto 4, 3) := by decide +kernel
theorem d_Events_hasDifferenceBefore_20 : decode b_Events_hasDifferenceBefore 20 = .ok (.iconst 0, 1) := by decide +kernel
theorem d_Events_hasDifferenceBefore_21 : decode b_Events_hasDifferenceBefore 21 = .ok (.ireturn, 1) := by decide +kernel
theorem d_Events_isLikeBefore_0 : decode b_Events_isLikeBefore 0 = .ok (.aload_n 0, 1) := by decide +kernel
theorem d_Events_isLikeBefore_1 : decode b_Events_isLikeBefore 1 = .ok (.iload_n 1, 1) := by decide +kernel
theorem d_Events_isLikeBefore_2 : decode b_Events_isLikeBefore 2 = .ok (.invokevirtual 37, 3) := by decide +kernel
theorem d_Events_isLikeBefore_5 : decode b_Events_isLikeBefore 5 = .ok (.ifCond .eq 18, 3) := by decide +kernel
theorem d_Events_isLikeBefore_8 : decode b_Events_isLikeBefore 8 = .ok (.aload_n 0, 1) := by decide +kernel
theorem d_Events_isLikeBefore_9 : decode b_Events_isLikeBefore 9 = .ok (.iload_n 1, 1) := by decide +kernel
theorem d_Events_isLikeBefore_10 : decode b_Events_isLikeBefore 10 = .ok (.iload_n 1, 1) := by decide +kernel
theorem d_Events_isLikeBefore_11 : decode b_Events_isLikeBefore 11 = .ok (.iconst 1, 1) := by decide +kernel
theorem d_Events_isLikeBefore_12 : decode b_Events_isLikeBefore 12 = .ok (.isub, 1) := by decide +kernel
theorem d_Events_isLikeBefore_13 : decode b_Events_isLikeBefore 13 = .ok (.invokevirtual 40, 3) := by decide +kernel
theorem d_Events_isLikeBefore_16 : decode b_Events_isLikeBefore 16 = .ok (.ifCond .eq 7, 3) := by decide +kernel
theorem d_Events_isLikeBefore_19 : decode b_Events_isLikeBefore 19 = .ok (.iconst 1, 1) := by decide +kernel
theorem d_Events_isLikeBefore_20 : decode b_Events_isLikeBefore 20 = .ok (.goto 4, 3) := by decide +kernel
theorem d_Events_isLikeBefore_23 : decode b_Events_isLikeBefore 23 = .ok (.iconst 0, 1) := by decide +kernel
theorem d_Events_isLikeBefore_24 : decode b_Events_isLikeBefore 24 = .ok (.ireturn, 1) := by decide +kernel
theorem d_Events_sumUpTo_0 : decode b_Events_sumUpTo 0 = .ok (.lconst 0, 1) := by decide +kernel
theorem d_Events_sumUpTo_1 : decode b_Events_sumUpTo 1 = .ok (.lstore_n 2, 1) := by decide +kernel
theorem d_Events_sumUpTo_2 : decode b_Events_sumUpTo 2 = .ok (.iconst 0, 1) := by decide +kernel
theorem d_Events_sumUpTo_3 : decode b_Events_sumUpTo 3 = .ok (.istore 4, 2) := by decide +kernel
theorem d_Events_sumUpTo_5 : decode b_Events_sumUpTo 5 = .ok (.iload 4, 2) := by decide +kernel
theorem d_Events_sumUpTo_7 : decode b_Events_sumUpTo 7 = .ok (.iload_n 1, 1) := by decide +kernel
theorem d_Events_sumUpTo_8 : decode b_Events_sumUpTo 8 = .ok (.if_icmp .gt 27, 3) := by decide +kernel
theorem d_Events_sumUpTo_11 : decode b_Events_sumUpTo 11 = .ok (.iload 4, 2) := by decide +kernel
theorem d_Events_sumUpTo_13 : decode b_Events_sumUpTo 13 = .ok (.aload_n 0, 1) := by decide +kernel
theorem d_Events_sumUpTo_14 : decode b_Events_sumUpTo 14 = .ok (.getfield 25, 3) := by decide +kernel
theorem d_Events_sumUpTo_17 : decode b_Events_sumUpTo 17 = .ok (.if_icmp .ge 18, 3) := by decide +kernel
theorem d_Events_sumUpTo_20 : decode b_Events_sumUpTo 20 = .ok (.lload_n 2, 1) := by decide +kernel
theorem d_Events_sumUpTo_21 : decode b_Events_sumUpTo 21 = .ok (.aload_n 0, 1) := by decide +kernel
theorem d_Events_sumUpTo_22 : decode b_Events_sumUpTo 22 = .ok (.iload 4, 2) := by decide +kernel
theorem d_Events_sumUpTo_24 : decode b_Events_sumUpTo 24 = .ok (.invokevirtual 33, 3) := by decide +kernel
theorem d_Events_sumUpTo_27 : decode b_Events_sumUpTo 27 = .ok (.ladd, 1) := by decide +kernel
theorem d_Events_sumUpTo_28 : decode b_Events_sumUpTo 28 = .ok (.lstore_n 2, 1) := by decide +kernel
theorem d_Events_sumUpTo_29 : decode b_Events_sumUpTo 29 = .ok (.iinc 4 1, 3) := by decide +kernel
theorem d_Events_sumUpTo_32 : decode b_Events_sumUpTo 32 = .ok (.goto (-27), 3) := by decide +kernel
theorem d_Events_sumUpTo_35 : decode b_Events_sumUpTo 35 = .ok (.lload_n 2, 1) := by decide +kernel
theorem d_Events_sumUpTo_36 : decode b_Events_sumUpTo 36 = .ok (.lreturn, 1) := by decide +kernel
theorem d_Events_lastWithSumUpTo_0 : decode b_Events_lastWithSumUpTo 0 = .ok (.lconst 0, 1) := by decide +kernel
theorem d_Events_lastWithSumUpTo_1 : decode b_Events_lastWithSumUpTo 1 = .ok (.lstore_n 3, 1) := by decide +kernel
theorem d_Events_lastWithSumUpTo_2 : decode b_Events_lastWithSumUpTo 2 = .ok (.iconst 0, 1) := by decide +kernel
theorem d_Events_lastWithSumUpTo_3 : decode b_Events_lastWithSumUpTo 3 = .ok (.istore 5, 2) := by decide +kernel
theorem d_Events_lastWithSumUpTo_5 : decode b_Events_lastWithSumUpTo 5 = .ok (.iload 5, 2) := by decide +kernel
theorem d_Events_lastWithSumUpTo_7 : decode b_Events_lastWithSumUpTo 7 = .ok (.aload_n 0, 1) := by decide +kernel
theorem d_Events_lastWithSumUpTo_8 : decode b_Events_lastWithSumUpTo 8 = .ok (.getfield 25, 3) := by decide +kernel
theorem d_Events_lastWithSumUpTo_11 : decode b_Events_lastWithSumUpTo 11 = .ok (.if_icmp .ge 29, 3) := by decide +kernel
theorem d_Events_lastWithSumUpTo_14 : decode b_Events_lastWithSumUpTo 14 = .ok (.lload_n 3, 1) := by decide +kernel
theorem d_Events_lastWithSumUpTo_15 : decode b_Events_lastWithSumUpTo 15 = .ok (.aload_n 0, 1) := by decide +kernel
theorem d_Events_lastWithSumUpTo_16 : decode b_Events_lastWithSumUpTo 16 = .ok (.iload 5, 2) := by decide +kernel
theorem d_Events_lastWithSumUpTo_18 : decode b_Events_lastWithSumUpTo 18 = .ok (.invokevirtual 33, 3) := by decide +kernel
theorem d_Events_lastWithSumUpTo_21 : decode b_Events_lastWithSumUpTo 21 = .ok (.ladd, 1) := by decide +kernel
theorem d_Events_lastWithSumUpTo_22 : decode b_Events_lastWithSumUpTo 22 = .ok (.lstore_n 3, 1) := by decide +kernel
theorem d_Events_lastWithSumUpTo_23 : decode b_Events_lastWithSumUpTo 23 = .ok (.lload_n 3, 1) := by decide +kernel
theorem d_Events_lastWithSumUpTo_24 : decode b_Events_lastWithSumUpTo 24 = .ok (.lload_n 1, 1) := by decide +kernel
theorem d_Events_lastWithSumUpTo_25 : decode b_Events_lastWithSumUpTo 25 = .ok (.lcmp, 1) := by decide +kernel
theorem d_Events_lastWithSumUpTo_26 : decode b_Events_lastWithSumUpTo 26 = .ok (.ifCond .le 8, 3) := by decide +kernel
theorem d_Events_lastWithSumUpTo_29 : decode b_Events_lastWithSumUpTo 29 = .ok (.iload 5, 2) := by decide +kernel
theorem d_Events_lastWithSumUpTo_31 : decode b_Events_lastWithSumUpTo 31 = .ok (.iconst 1, 1) := by decide +kernel
theorem d_Events_lastWithSumUpTo_32 : decode b_Events_lastWithSumUpTo 32 = .ok (.isub, 1) := by decide +kernel
theorem d_Events_lastWithSumUpTo_33 : decode b_Events_lastWithSumUpTo 33 = .ok (.ireturn, 1) := by decide +kernel
theorem d_Events_lastWithSumUpTo_34 : decode b_Events_lastWithSumUpTo 34 = .ok (.iinc 5 1, 3) := by decide +kernel
theorem d_Events_lastWithSumUpTo_37 : decode b_Events_lastWithSumUpTo 37 = .ok (.goto (-32), 3) := by decide +kernel
theorem d_Events_lastWithSumUpTo_40 : decode b_Events_lastWithSumUpTo 40 = .ok (.aload_n 0, 1) := by decide +kernel
theorem d_Events_lastWithSumUpTo_41 : decode b_Events_lastWithSumUpTo 41 = .ok (.getfield 25, 3) := by decide +kernel
theorem d_Events_lastWithSumUpTo_44 : decode b_Events_lastWithSumUpTo 44 = .ok (.iconst 1, 1) := by decide +kernel
theorem d_Events_lastWithSumUpTo_45 : decode b_Events_lastWithSumUpTo 45 = .ok (.isub, 1) := by decide +kernel
theorem d_Events_lastWithSumUpTo_46 : decode b_Events_lastWithSumUpTo 46 = .ok (.ireturn, 1) := by decide +kernel
end
section
theorem d_Packer_init_0 : decode b_Packer_init 0 = .ok (.aload_n 0, 1) := by decide +kernel
theorem d_Packer_init_1 : decode b_Packer_init 1 = .ok (.invokespecial 3, 3) := by decide +kernel
theorem d_Packer_init_4 : decode b_Packer_init 4 = .ok (.aload_n 0, 1) := by decide +kernel
theorem d_Packer_init_5 : decode b_Packer_init 5 = .ok (.new 9, 3) := by decide +kernel
theorem d_Packer_init_8 : decode b_Packer_init 8 = .ok (.dup, 1) := by decide +kernel
theorem d_Packer_init_9 : decode b_Packer_init 9 = .ok (.invokespecial 11, 3) := by decide +kernel
theorem d_Packer_init_12 : decode b_Packer_init 12 = .ok (.putfield 12, 3) := by decide +kernel
theorem d_Packer_init_15 : decode b_Packer_init 15 = .ok (.aload_n 0, 1) := by decide +kernel
theorem d_Packer_init_16 : decode b_Packer_init 16 = .ok (.aload_n 1, 1) := by decide +kernel
theorem d_Packer_init_17 : decode b_Packer_init 17 = .ok (.putfield 18, 3) := by decide +kernel
theorem d_Packer_init_20 : decode b_Packer_init 20 = .ok (.return_, 1) := by decide +kernel
theorem d_Packer_bytes_0 : decode b_Packer_bytes 0 = .ok (.aload_n 0, 1) := by decide +kernel
theorem d_Packer_bytes_1 : decode b_Packer_bytes 1 = .ok (.getfield 22, 3) := by decide +kernel
theorem d_Packer_bytes_4 : decode b_Packer_bytes 4 = .ok (.ireturn, 1) := by decide +kernel
theorem d_Packer_entries_0 : decode b_Packer_entries 0 = .ok (.aload_n 0, 1) := by decide +kernel
theorem d_Packer_entries_1 : decode b_Packer_entries 1 = .ok (.getfield 26, 3) := by decide +kernel
theorem d_Packer_entries_4 : decode b_Packer_entries 4 = .ok (.ireturn, 1) := by decide +kernel
theorem d_Packer_runs_0 : decode b_Packer_runs 0 = .ok (.aload_n 0, 1) := by decide +kernel
theorem d_Packer_runs_1 : decode b_Packer_runs 1 = .ok (.getfield 29, 3) := by decide +kernel
theorem d_Packer_runs_4 : decode b_Packer_runs 4 = .ok (.ireturn, 1) := by decide +kernel
theorem d_Packer_sames_0 : decode b_Packer_sames 0 = .ok (.aload_n 0, 1) := by decide +kernel
theorem d_Packer_sames_1 : decode b_Packer_sames 1 = .ok (.getfield 32, 3) := by decide +kernel
theorem d_Packer_sames_4 : decode b_Packer_sames 4 = .ok (.ireturn, 1) := by decide +kernel
theorem d_Packer_repeats_0 : decode b_Packer_repeats 0 = .ok (.aload_n 0, 1) := by decide +kernel
theorem d_Packer_repeats_1 : decode b_Packer_repeats 1 = .ok (.getfield 35, 3) := by decide +kernel
theorem d_Packer_repeats_4 : decode b_Packer_repeats 4 = .ok (.ireturn, 1) := by decide +kernel
theorem d_Packer_run_0 : decode b_Packer_run 0 = .ok (.aload_n 0, 1) := by decide +kernel
theorem d_Packer_run_1 : decode b_Packer_run 1 = .ok (.iload_n 2, 1) := by decide +kernel
theorem d_Packer_run_2 : decode b_Packer_run 2 = .ok (.invokevirtual 38, 3) := by decide +kernel
theorem d_Packer_run_5 : decode b_Packer_run 5 = .ok (.aload_n 0, 1) := by decide +kernel
theorem d_Packer_run_6 : decode b_Packer_run 6 = .ok (.aload_n 1, 1) := by decide +kernel
theorem d_Packer_run_7 : decode b_Packer_run 7 = .ok (.invokevirtual 42, 3) := by decide +kernel
theorem d_Packer_run_10 : decode b_Packer_run 10 = .ok (.i2l, 1) := by decide +kernel
theorem d_Packer_run_11 : decode b_Packer_run 11 = .ok (.invokevirtual 48, 3) := by decide +kernel
theorem d_Packer_run_14 : decode b_Packer_run 14 = .ok (.iconst 0, 1) := by decide +kernel
theorem d_Packer_run_15 : decode b_Packer_run 15 = .ok (.istore_n 3, 1) := by decide +kernel
theorem d_Packer_run_16 : decode b_Packer_run 16 = .ok (.iconst 0, 1) := by decide +kernel
theorem d_Packer_run_17 : decode b_Packer_run 17 = .ok (.istore 4, 2) := by decide +kernel
theorem d_Packer_run_19 : decode b_Packer_run 19 = .ok (.iload 4, 2) := by decide +kernel
theorem d_Packer_run_21 : decode b_Packer_run 21 = .ok (.aload_n 1, 1) := by decide +kernel
theorem d_Packer_run_22 : decode b_Packer_run 22 = .ok (.invokevirtual 42, 3) := by decide +kernel
theorem d_Packer_run_25 : decode b_Packer_run 25 = .ok (.if_icmp .ge 53, 3) := by decide +kernel
theorem d_Packer_run_28 : decode b_Packer_run 28 = .ok (.aload_n 1, 1) := by decide +kernel
theorem d_Packer_run_29 : decode b_Packer_run 29 = .ok (.iload 4, 2) := by decide +kernel
theorem d_Packer_run_31 : decode b_Packer_run 31 = .ok (.invokevirtual 52, 3) := by decide +kernel
theorem d_Packer_run_34 : decode b_Packer_run 34 = .ok (.ifCond .eq 9, 3) := by decide +kernel
theorem d_Packer_run_37 : decode b_Packer_run 37 = .ok (.iinc 3 1, 3) := by decide +kernel
theorem d_Packer_run_40 : decode b_Packer_run 40 = .ok (.goto 17, 3) := by decide +kernel
theorem d_Packer_run_43 : decode b_Packer_run 43 = .ok (.aload_n 0, 1) := by decide +kernel
theorem d_Packer_run_44 : decode b_Packer_run 44 = .ok (.iload_n 3, 1) := by decide +kernel
theorem d_Packer_run_45 : decode b_Packer_run 45 = .ok (.invokevirtual 56, 3) := by decide +kernel
theorem d_Packer_run_48 : decode b_Packer_run 48 = .ok (.iconst 0, 1) := by decide +kernel
theorem d_Packer_run_49 : decode b_Packer_run 49 = .ok (.istore_n 3, 1) := by decide +kernel
theorem d_Packer_run_50 : decode b_Packer_run 50 = .ok (.aload_n 0, 1) := by decide +kernel
theorem d_Packer_run_51 : decode b_Packer_run 51 = .ok (.aload_n 1, 1) := by decide +kernel
theorem d_Packer_run_52 : decode b_Packer_run 52 = .ok (.iload 4, 2) := by decide +kernel
theorem d_Packer_run_54 : decode b_Packer_run 54 = .ok (.invokevirtual 60, 3) := by decide +kernel
theorem d_Packer_run_57 : decode b_Packer_run 57 = .ok (.aload_n 0, 1) := by decide +kernel
theorem d_Packer_run_58 : decode b_Packer_run 58 = .ok (.getfield 12, 3) := by decide +kernel
theorem d_Packer_run_61 : decode b_Packer_run 61 = .ok (.aload_n 1, 1) := by decide +kernel
theorem d_Packer_run_62 : decode b_Packer_run 62 = .ok (.iload 4, 2) := by decide +kernel
theorem d_Packer_run_64 : decode b_Packer_run 64 = .ok (.invokevirtual 64, 3) := by decide +kernel
theorem d_Packer_run_67 : decode b_Packer_run 67 = .ok (.iload 4, 2) := by decide +kernel
theorem d_Packer_run_69 : decode b_Packer_run 69 = .ok (.invokevirtual 68, 3) := by decide +kernel
theorem d_Packer_run_72 : decode b_Packer_run 72 = .ok (.iinc 4 1, 3) := by decide +kernel
theorem d_Packer_run_75 : decode b_Packer_run 75 = .ok (.goto (-56), 3) := by decide +kernel
theorem d_Packer_run_78 : decode b_Packer_run 78 = .ok (.aload_n 0, 1) := by decide +kernel
theorem d_Packer_run_79 : decode b_Packer_run 79 = .ok (.iload_n 3, 1) := by decide +kernel
theorem d_Packer_run_80 : decode b_Packer_run 80 = .ok (.invokevirtual 56, 3) := by decide +kernel
theorem d_Packer_run_83 : decode b_Packer_run 83 = .ok (.return_, 1) := by decide +kernel
theorem d_Packer_begin_0 : decode b_Packer_begin 0 = .ok (.aload_n 0, 1) := by decide +kernel
theorem d_Packer_begin_1 : decode b_Packer_begin 1 = .ok (.iload_n 1, 1) := by decide +kernel
theorem d_Packer_begin_2 : decode b_Packer_begin 2 = .ok (.putfield 72, 3) := by decide +kernel
theorem d_Packer_begin_5 : decode b_Packer_begin 5 = .ok (.aload_n 0, 1) := by decide +kernel
theorem d_Packer_begin_6 : decode b_Packer_begin 6 = .ok (.getfield 72, 3) := by decide +kernel
theorem d_Packer_begin_9 : decode b_Packer_begin 9 = .ok (.ifCond .eq 11, 3) := by decide +kernel
theorem d_Packer_begin_12 : decode b_Packer_begin 12 = .ok (.aload_n 0, 1) := by decide +kernel
theorem d_Packer_begin_13 : decode b_Packer_begin 13 = .ok (.getfield 18, 3) := by decide +kernel
theorem d_Packer_begin_16 : decode b_Packer_begin 16 = .ok (.iconst 0, 1) := by decide +kernel
theorem d_Packer_begin_17 : decode b_Packer_begin 17 = .ok (.invokevirtual 76, 3) := by decide +kernel
theorem d_Packer_begin_20 : decode b_Packer_begin 20 = .ok (.aload_n 0, 1) := by decide +kernel
theorem d_Packer_begin_21 : decode b_Packer_begin 21 = .ok (.getfield 12, 3) := by decide +kernel
theorem d_Packer_begin_24 : decode b_Packer_begin 24 = .ok (.invokevirtual 81, 3) := by decide +kernel
theorem d_Packer_begin_27 : decode b_Packer_begin 27 = .ok (.aload_n 0, 1) := by decide +kernel
theorem d_Packer_begin_28 : decode b_Packer_begin 28 = .ok (.iconst 0, 1) := by decide +kernel
theorem d_Packer_begin_29 : decode b_Packer_begin 29 = .ok (.putfield 22, 3) := by decide +kernel
theorem d_Packer_begin_32 : decode b_Packer_begin 32 = .ok (.aload_n 0, 1) := by decide +kernel
theorem d_Packer_begin_33 : decode b_Packer_begin 33 = .ok (.iconst 0, 1) := by decide +kernel
theorem d_Packer_begin_34 : decode b_Packer_begin 34 = .ok (.putfield 26, 3) := by decide +kernel
theorem d_Packer_begin_37 : decode b_Packer_begin 37 = .ok (.aload_n 0, 1) := by decide +kernel
theorem d_Packer_begin_38 : decode b_Packer_begin 38 = .ok (.iconst 0, 1) := by decide +kernel
theorem d_Packer_begin_39 : decode b_Packer_begin 39 = .ok (.putfield 29, 3) := by decide +kernel
theorem d_Packer_begin_42 : decode b_Packer_begin 42 = .ok (.aload_n 0, 1) := by decide +kernel
theorem d_Packer_begin_43 : decode b_Packer_begin 43 = .ok (.iconst 0, 1) := by decide +kernel
theorem d_Packer_begin_44 : decode b_Packer_begin 44 = .ok (.putfield 32, 3) := by decide +kernel
theorem d_Packer_begin_47 : decode b_Packer_begin 47 = .ok (.aload_n 0, 1) := by decide +kernel
theorem d_Packer_begin_48 : decode b_Packer_begin 48 = .ok (.iconst 0, 1) := by decide +kernel
theorem d_Packer_begin_49 : decode b_Packer_begin 49 = .ok (.putfield 35, 3) := by decide +kernel
theorem d_Packer_begin_52 : decode b_Packer_begin 52 = .ok (.return_, 1) := by decide +kernel
theorem d_Packer_packRun_0 : decode b_Packer_packRun 0 = .ok (.iload_n 1, 1) := by decide +kernel
theorem d_Packer_packRun_1 : decode b_Packer_packRun 1 = .ok (.ifCond .gt 4, 3) := by decide +kernel
theorem d_Packer_packRun_4 : decode b_Packer_packRun 4 = .ok (.return_, 1) := by decide +kernel
theorem d_Packer_packRun_5 : decode b_Packer_packRun 5 = .ok (.aload_n 0, 1) := by decide +kernel
theorem d_Packer_packRun_6 : decode b_Packer_packRun 6 = .ok (.dup, 1) := by decide +kernel
theorem d_Packer_packRun_7 : decode b_Packer_packRun 7 = .ok (.getfield 26, 3) := by decide +kernel
theorem d_Packer_packRun_10 : decode b_Packer_packRun 10 = .ok (.iconst 1, 1) := by decide +kernel
theorem d_Packer_packRun_11 : decode b_Packer_packRun 11 = .ok (.iadd, 1) := by decide +kernel
theorem d_Packer_packRun_12 : decode b_Packer_packRun 12 = .ok (.putfield 26, 3) := by decide +kernel
theorem d_Packer_packRun_15 : decode b_Packer_packRun 15 = .ok (.aload_n 0, 1) := by decide +kernel
theorem d_Packer_packRun_16 : decode b_Packer_packRun 16 = .ok (.dup, 1) := by decide +kernel
theorem d_Packer_packRun_17 : decode b_Packer_packRun 17 = .ok (.getfield 29, 3) := by decide +kernel
theorem d_Packer_packRun_20 : decode b_Packer_packRun 20 = .ok (.iconst 1, 1) := by decide +kernel
theorem d_Packer_packRun_21 : decode b_Packer_packRun 21 = .ok (.iadd, 1) := by decide +kernel
theorem d_Packer_packRun_22 : decode b_Packer_packRun 22 = .ok (.putfield 29, 3) := by decide +kernel
theorem d_Packer_packRun_25 : decode b_Packer_packRun 25 = .ok (.iload_n 1, 1) := by decide +kernel
theorem d_Packer_packRun_26 : decode b_Packer_packRun 26 = .ok (.bipush 15, 2) := by decide +kernel
theorem d_Packer_packRun_28 : decode b_Packer_packRun 28 = .ok (.if_icmp .gt 15, 3) := by decide +kernel
theorem d_Packer_packRun_31 : decode b_Packer_packRun 31 = .ok (.aload_n 0, 1) := by decide +kernel
theorem d_Packer_packRun_32 : decode b_Packer_packRun 32 = .ok (.iconst 5, 1) := by decide +kernel
theorem d_Packer_packRun_33 : decode b_Packer_packRun 33 = .ok (.iload_n 1, 1) := by decide +kernel
theorem d_Packer_packRun_34 : decode b_Packer_packRun 34 = .ok (.iconst 4, 1) := by decide +kernel
theorem d_Packer_packRun_35 : decode b_Packer_packRun 35 = .ok (.ishl, 1) := by decide +kernel
theorem d_Packer_packRun_36 : decode b_Packer_packRun 36 = .ok (.ior, 1) := by decide +kernel
theorem d_Packer_packRun_37 : decode b_Packer_packRun 37 = .ok (.invokevirtual 84, 3) := by decide +kernel
theorem d_Packer_packRun_40 : decode b_Packer_packRun 40 = .ok (.goto 14, 3) := by decide +kernel
theorem d_Packer_packRun_43 : decode b_Packer_packRun 43 = .ok (.aload_n 0, 1) := by decide +kernel
theorem d_Packer_packRun_44 : decode b_Packer_packRun 44 = .ok (.iconst 5, 1) := by decide +kernel
theorem d_Packer_packRun_45 : decode b_Packer_packRun 45 = .ok (.invokevirtual 84, 3) := by decide +kernel
theorem d_Packer_packRun_48 : decode b_Packer_packRun 48 = .ok (.aload_n 0, 1) := by decide +kernel
theorem d_Packer_packRun_49 : decode b_Packer_packRun 49 = .ok (.iload_n 1, 1) := by decide +kernel
theorem d_Packer_packRun_50 : decode b_Packer_packRun 50 = .ok (.i2l, 1) := by decide +kernel
theorem d_Packer_packRun_51 : decode b_Packer_packRun 51 = .ok (.invokevirtual 48, 3) := by decide +kernel
theorem d_Packer_packRun_54 : decode b_Packer_packRun 54 = .ok (.return_, 1) := by decide +kernel
theorem d_Packer_packEntry_0 : decode b_Packer_packEntry 0 = .ok (.aload_n 1, 1) := by decide +kernel
theorem d_Packer_packEntry_1 : decode b_Packer_packEntry 1 = .ok (.iload_n 2, 1) := by decide +kernel
theorem d_Packer_packEntry_2 : decode b_Packer_packEntry 2 = .ok (.invokevirtual 87, 3) := by decide +kernel
theorem d_Packer_packEntry_5 : decode b_Packer_packEntry 5 = .ok (.istore_n 3, 1) := by decide +kernel
theorem d_Packer_packEntry_6 : decode b_Packer_packEntry 6 = .ok (.aload_n 0, 1) := by decide +kernel
theorem d_Packer_packEntry_7 : decode b_Packer_packEntry 7 = .ok (.aload_n 1, 1) := by decide +kernel
theorem d_Packer_packEntry_8 : decode b_Packer_packEntry 8 = .ok (.iload_n 2, 1) := by decide +kernel
theorem d_Packer_packEntry_9 : decode b_Packer_packEntry 9 = .ok (.invokevirtual 90, 3) := by decide +kernel
theorem d_Packer_packEntry_12 : decode b_Packer_packEntry 12 = .ok (.istore 4, 2) := by decide +kernel
theorem d_Packer_packEntry_14 : decode b_Packer_packEntry 14 = .ok (.aload_n 0, 1) := by decide +kernel
theorem d_Packer_packEntry_15 : decode b_Packer_packEntry 15 = .ok (.aload_n 1, 1) := by decide +kernel
theorem d_Packer_packEntry_16 : decode b_Packer_packEntry 16 = .ok (.iload_n 2, 1) := by decide +kernel
theorem d_Packer_packEntry_17 : decode b_Packer_packEntry 17 = .ok (.iload 4, 2) := by decide +kernel
theorem d_Packer_packEntry_19 : decode b_Packer_packEntry 19 = .ok (.invokevirtual 94, 3) := by decide +kernel
theorem d_Packer_packEntry_22 : decode b_Packer_packEntry 22 = .ok (.istore 5, 2) := by decide +kernel
theorem d_Packer_packEntry_24 : decode b_Packer_packEntry 24 = .ok (.aload_n 0, 1) := by decide +kernel
theorem d_Packer_packEntry_25 : decode b_Packer_packEntry 25 = .ok (.dup, 1) := by decide +kernel
theorem d_Packer_packEntry_26 : decode b_Packer_packEntry 26 = .ok (.getfield 26, 3) := by decide +kernel
theorem d_Packer_packEntry_29 : decode b_Packer_packEntry 29 = .ok (.iconst 1, 1) := by decide +kernel
theorem d_Packer_packEntry_30 : decode b_Packer_packEntry 30 = .ok (.iadd, 1) := by decide +kernel
theorem d_Packer_packEntry_31 : decode b_Packer_packEntry 31 = .ok (.putfield 26, 3) := by decide +kernel
theorem d_Packer_packEntry_34 : decode b_Packer_packEntry 34 = .ok (.aload_n 0, 1) := by decide +kernel
theorem d_Packer_packEntry_35 : decode b_Packer_packEntry 35 = .ok (.aload_n 1, 1) := by decide +kernel
theorem d_Packer_packEntry_36 : decode b_Packer_packEntry 36 = .ok (.iload_n 2, 1) := by decide +kernel
theorem d_Packer_packEntry_37 : decode b_Packer_packEntry 37 = .ok (.invokevirtual 64, 3) := by decide +kernel
theorem d_Packer_packEntry_40 : decode b_Packer_packEntry 40 = .ok (.iload_n 3, 1) := by decide +kernel
theorem d_Packer_packEntry_41 : decode b_Packer_packEntry 41 = .ok (.ifCond .eq 8, 3) := by decide +kernel
theorem d_Packer_packEntry_44 : decode b_Packer_packEntry 44 = .ok (.bipush 8, 2) := by decide +kernel
theorem d_Packer_packEntry_46 : decode b_Packer_packEntry 46 = .ok (.goto 4, 3) := by decide +kernel
theorem d_Packer_packEntry_49 : decode b_Packer_packEntry 49 = .ok (.iconst 0, 1) := by decide +kernel
theorem d_Packer_packEntry_50 : decode b_Packer_packEntry 50 = .ok (.ior, 1) := by decide +kernel
theorem d_Packer_packEntry_51 : decode b_Packer_packEntry 51 = .ok (.iload 5, 2) := by decide +kernel
theorem d_Packer_packEntry_53 : decode b_Packer_packEntry 53 = .ok (.iconst 4, 1) := by decide +kernel
theorem d_Packer_packEntry_54 : decode b_Packer_packEntry 54 = .ok (.ishl, 1) := by decide +kernel
theorem d_Packer_packEntry_55 : decode b_Packer_packEntry 55 = .ok (.ior, 1) := by decide +kernel
theorem d_Packer_packEntry_56 : decode b_Packer_packEntry 56 = .ok (.invokevirtual 84, 3) := by decide +kernel
theorem d_Packer_packEntry_59 : decode b_Packer_packEntry 59 = .ok (.iload_n 3, 1) := by decide +kernel
theorem d_Packer_packEntry_60 : decode b_Packer_packEntry 60 = .ok (.ifCond .eq 16, 3) := by decide +kernel
theorem d_Packer_packEntry_63 : decode b_Packer_packEntry 63 = .ok (.aload_n 0, 1) := by decide +kernel
theorem d_Packer_packEntry_64 : decode b_Packer_packEntry 64 = .ok (.dup, 1) := by decide +kernel
theorem d_Packer_packEntry_65 : decode b_Packer_packEntry 65 = .ok (.getfield 32, 3) := by decide +kernel
theorem d_Packer_packEntry_68 : decode b_Packer_packEntry 68 = .ok (.iconst 1, 1) := by decide +kernel
theorem d_Packer_packEntry_69 : decode b_Packer_packEntry 69 = .ok (.iadd, 1) := by decide +kernel
theorem d_Packer_packEntry_70 : decode b_Packer_packEntry 70 = .ok (.putfield 32, 3) := by decide +kernel
theorem d_Packer_packEntry_73 : decode b_Packer_packEntry 73 = .ok (.goto 12, 3) := by decide +kernel
theorem d_Packer_packEntry_76 : decode b_Packer_packEntry 76 = .ok (.aload_n 0, 1) := by decide +kernel
theorem d_Packer_packEntry_77 : decode b_Packer_packEntry 77 = .ok (.aload_n 1, 1) := by decide +kernel
theorem d_Packer_packEntry_78 : decode b_Packer_packEntry 78 = .ok (.iload_n 2, 1) := by decide +kernel
theorem d_Packer_packEntry_79 : decode b_Packer_packEntry 79 = .ok (.invokevirtual 98, 3) := by decide +kernel
theorem d_Packer_packEntry_82 : decode b_Packer_packEntry 82 = .ok (.invokevirtual 48, 3) := by decide +kernel
theorem d_Packer_packEntry_85 : decode b_Packer_packEntry 85 = .ok (.iload 4, 2) := by decide +kernel
theorem d_Packer_packEntry_87 : decode b_Packer_packEntry 87 = .ok (.ifCond .le 23, 3) := by decide +kernel
theorem d_Packer_packEntry_90 : decode b_Packer_packEntry 90 = .ok (.aload_n 0, 1) := by decide +kernel
theorem d_Packer_packEntry_91 : decode b_Packer_packEntry 91 = .ok (.dup, 1) := by decide +kernel
theorem d_Packer_packEntry_92 : decode b_Packer_packEntry 92 = .ok (.getfield 35, 3) := by decide +kernel
theorem d_Packer_packEntry_95 : decode b_Packer_packEntry 95 = .ok (.iconst 1, 1) := by decide +kernel
theorem d_Packer_packEntry_96 : decode b_Packer_packEntry 96 = .ok (.iadd, 1) := by decide +kernel
theorem d_Packer_packEntry_97 : decode b_Packer_packEntry 97 = .ok (.putfield 35, 3) := by decide +kernel
theorem d_Packer_packEntry_100 : decode b_Packer_packEntry 100 = .ok (.aload_n 0, 1) := by decide +kernel
theorem d_Packer_packEntry_101 : decode b_Packer_packEntry 101 = .ok (.iload 4, 2) := by decide +kernel
theorem d_Packer_packEntry_103 : decode b_Packer_packEntry 103 = .ok (.i2l, 1) := by decide +kernel
theorem d_Packer_packEntry_104 : decode b_Packer_packEntry 104 = .ok (.invokevirtual 48, 3) := by decide +kernel
theorem d_Packer_packEntry_107 : decode b_Packer_packEntry 107 = .ok (.goto 11, 3) := by decide +kernel
theorem d_Packer_packEntry_110 : decode b_Packer_packEntry 110 = .ok (.aload_n 0, 1) := by decide +kernel
theorem d_Packer_packEntry_111 : decode b_Packer_packEntry 111 = .ok (.aload_n 1, 1) := by decide +kernel
theorem d_Packer_packEntry_112 : decode b_Packer_packEntry 112 = .ok (.iload_n 2, 1) := by decide +kernel
theorem d_Packer_packEntry_113 : decode b_Packer_packEntry 113 = .ok (.iload 5, 2) := by decide +kernel
theorem d_Packer_packEntry_115 : decode b_Packer_packEntry 115 = .ok (.invokevirtual 102, 3) := by decide +kernel
theorem d_Packer_packEntry_118 : decode b_Packer_packEntry 118 = .ok (.return_, 1) := by decide +kernel
theorem d_Packer_repeated_0 : decode b_Packer_repeated 0 = .ok (.aload_n 1, 1) := by decide +kernel
theorem d_Packer_repeated_1 : decode b_Packer_repeated 1 = .ok (.iload_n 2, 1) := by decide +kernel
theorem d_Packer_repeated_2 : decode b_Packer_repeated 2 = .ok (.invokevirtual 64, 3) := by decide +kernel
theorem d_Packer_repeated_5 : decode b_Packer_repeated 5 = .ok (.iconst 1, 1) := by decide +kernel
theorem d_Packer_repeated_6 : decode b_Packer_repeated 6 = .ok (.if_icmp .ne 12, 3) := by decide +kernel
theorem d_Packer_repeated_9 : decode b_Packer_repeated 9 = .ok (.aload_n 1, 1) := by decide +kernel
theorem d_Packer_repeated_10 : decode b_Packer_repeated 10 = .ok (.iload_n 2, 1) := by decide +kernel
theorem d_Packer_repeated_11 : decode b_Packer_repeated 11 = .ok (.invokevirtual 106, 3) := by decide +kernel
theorem d_Packer_repeated_14 : decode b_Packer_repeated 14 = .ok (.iconst 2, 1) := by decide +kernel
theorem d_Packer_repeated_15 : decode b_Packer_repeated 15 = .ok (.if_icmp .ge 5, 3) := by decide +kernel
theorem d_Packer_repeated_18 : decode b_Packer_repeated 18 = .ok (.iconst 0, 1) := by decide +kernel
theorem d_Packer_repeated_19 : decode b_Packer_repeated 19 = .ok (.ireturn, 1) := by decide +kernel
theorem d_Packer_repeated_20 : decode b_Packer_repeated 20 = .ok (.iconst 1, 1) := by decide +kernel
theorem d_Packer_repeated_21 : decode b_Packer_repeated 21 = .ok (.istore_n 3, 1) := by decide +kernel
theorem d_Packer_repeated_22 : decode b_Packer_repeated 22 = .ok (.iload_n 3, 1) := by decide +kernel
theorem d_Packer_repeated_23 : decode b_Packer_repeated 23 = .ok (.bipush 20, 2) := by decide +kernel
theorem d_Packer_repeated_25 : decode b_Packer_repeated 25 = .ok (.if_icmp .gt 28, 3) := by decide +kernel
theorem d_Packer_repeated_28 : decode b_Packer_repeated 28 = .ok (.aload_n 1, 1) := by decide +kernel
theorem d_Packer_repeated_29 : decode b_Packer_repeated 29 = .ok (.iload_n 2, 1) := by decide +kernel
theorem d_Packer_repeated_30 : decode b_Packer_repeated 30 = .ok (.aload_n 0, 1) := by decide +kernel
theorem d_Packer_repeated_31 : decode b_Packer_repeated 31 = .ok (.getfield 12, 3) := by decide +kernel
theorem d_Packer_repeated_34 : decode b_Packer_repeated 34 = .ok (.iload_n 3, 1) := by decide +kernel
theorem d_Packer_repeated_35 : decode b_Packer_repeated 35 = .ok (.i2l, 1) := by decide +kernel
theorem d_Packer_repeated_36 : decode b_Packer_repeated 36 = .ok (.invokevirtual 109, 3) := by decide +kernel
theorem d_Packer_repeated_39 : decode b_Packer_repeated 39 = .ok (.invokevirtual 113, 3) := by decide +kernel
theorem d_Packer_repeated_42 : decode b_Packer_repeated 42 = .ok (.ifCond .eq 5, 3) := by decide +kernel
theorem d_Packer_repeated_45 : decode b_Packer_repeated 45 = .ok (.iload_n 3, 1) := by decide +kernel
theorem d_Packer_repeated_46 : decode b_Packer_repeated 46 = .ok (.ireturn, 1) := by decide +kernel
theorem d_Packer_repeated_47 : decode b_Packer_repeated 47 = .ok (.iinc 3 1, 3) := by decide +kernel
theorem d_Packer_repeated_50 : decode b_Packer_repeated 50 = .ok (.goto (-28), 3) := by decide +kernel
theorem d_Packer_repeated_53 : decode b_Packer_repeated 53 = .ok (.iconst 0, 1) := by decide +kernel
theorem d_Packer_repeated_54 : decode b_Packer_repeated 54 = .ok (.ireturn, 1) := by decide +kernel
theorem d_Packer_headX_0 : decode b_Packer_headX 0 = .ok (.aload_n 1, 1) := by decide +kernel
theorem d_Packer_headX_1 : decode b_Packer_headX 1 = .ok (.iload_n 2, 1) := by decide +kernel
theorem d_Packer_headX_2 : decode b_Packer_headX 2 = .ok (.invokevirtual 64, 3) := by decide +kernel
theorem d_Packer_headX_5 : decode b_Packer_headX 5 = .ok (.tableswitch 73 0 3 #[31, 38, 31, 52], 31) := by decide +kernel
theorem d_Packer_headX_36 : decode b_Packer_headX 36 = .ok (.aload_n 1, 1) := by decide +kernel
theorem d_Packer_headX_37 : decode b_Packer_headX 37 = .ok (.iload_n 2, 1) := by decide +kernel
theorem d_Packer_headX_38 : decode b_Packer_headX 38 = .ok (.invokevirtual 117, 3) := by decide +kernel
theorem d_Packer_headX_41 : decode b_Packer_headX 41 = .ok (.l2i, 1) := by decide +kernel
theorem d_Packer_headX_42 : decode b_Packer_headX 42 = .ok (.ireturn, 1) := by decide +kernel
theorem d_Packer_headX_43 : decode b_Packer_headX 43 = .ok (.iload_n 3, 1) := by decide +kernel
theorem d_Packer_headX_44 : decode b_Packer_headX 44 = .ok (.ifCond .le 7, 3) := by decide +kernel
theorem d_Packer_headX_47 : decode b_Packer_headX 47 = .ok (.iconst 0, 1) := by decide +kernel
theorem d_Packer_headX_48 : decode b_Packer_headX 48 = .ok (.goto 8, 3) := by decide +kernel
theorem d_Packer_headX_51 : decode b_Packer_headX 51 = .ok (.aload_n 1, 1) := by decide +kernel
theorem d_Packer_headX_52 : decode b_Packer_headX 52 = .ok (.iload_n 2, 1) := by decide +kernel
theorem d_Packer_headX_53 : decode b_Packer_headX 53 = .ok (.invokevirtual 106, 3) := by decide +kernel
theorem d_Packer_headX_56 : decode b_Packer_headX 56 = .ok (.ireturn, 1) := by decide +kernel
theorem d_Packer_headX_57 : decode b_Packer_headX 57 = .ok (.aload_n 1, 1) := by decide +kernel
theorem d_Packer_headX_58 : decode b_Packer_headX 58 = .ok (.iload_n 2, 1) := by decide +kernel
theorem d_Packer_headX_59 : decode b_Packer_headX 59 = .ok (.aload_n 0, 1) := by decide +kernel
theorem d_Packer_headX_60 : decode b_Packer_headX 60 = .ok (.getfield 12, 3) := by decide +kernel
theorem d_Packer_headX_63 : decode b_Packer_headX 63 = .ok (.invokevirtual 120, 3) := by decide +kernel
theorem d_Packer_headX_66 : decode b_Packer_headX 66 = .ok (.invokevirtual 113, 3) := by decide +kernel
theorem d_Packer_headX_69 : decode b_Packer_headX 69 = .ok (.ifCond .eq 7, 3) := by decide +kernel
theorem d_Packer_headX_72 : decode b_Packer_headX 72 = .ok (.iconst 1, 1) := by decide +kernel
theorem d_Packer_headX_73 : decode b_Packer_headX 73 = .ok (.goto 4, 3) := by decide +kernel
theorem d_Packer_headX_76 : decode b_Packer_headX 76 = .ok (.iconst 0, 1) := by decide +kernel
theorem d_Packer_headX_77 : decode b_Packer_headX 77 = .ok (.ireturn, 1) := by decide +kernel
theorem d_Packer_headX_78 : decode b_Packer_headX 78 = .ok (.iconst 0, 1) := by decide +kernel
theorem d_Packer_headX_79 : decode b_Packer_headX 79 = .ok (.ireturn, 1) := by decide +kernel
theorem d_Packer_packBrought_0 : decode b_Packer_packBrought 0 = .ok (.aload_n 1, 1) := by decide +kernel
theorem d_Packer_packBrought_1 : decode b_Packer_packBrought 1 = .ok (.iload_n 2, 1) := by decide +kernel
theorem d_Packer_packBrought_2 : decode b_Packer_packBrought 2 = .ok (.invokevirtual 64, 3) := by decide +kernel
theorem d_Packer_packBrought_5 : decode b_Packer_packBrought 5 = .ok (.tableswitch 89 1 4 #[31, 48, 60, 76], 31) := by decide +kernel
theorem d_Packer_packBrought_36 : decode b_Packer_packBrought 36 = .ok (.aload_n 0, 1) := by decide +kernel
theorem d_Packer_packBrought_37 : decode b_Packer_packBrought 37 = .ok (.aload_n 1, 1) := by decide +kernel
theorem d_Packer_packBrought_38 : decode b_Packer_packBrought 38 = .ok (.iload_n 2, 1) := by decide +kernel
theorem d_Packer_packBrought_39 : decode b_Packer_packBrought 39 = .ok (.invokevirtual 117, 3) := by decide +kernel
theorem d_Packer_packBrought_42 : decode b_Packer_packBrought 42 = .ok (.aload_n 1, 1) := by decide +kernel
theorem d_Packer_packBrought_43 : decode b_Packer_packBrought 43 = .ok (.iload_n 2, 1) := by decide +kernel
theorem d_Packer_packBrought_44 : decode b_Packer_packBrought 44 = .ok (.invokevirtual 106, 3) := by decide +kernel
theorem d_Packer_packBrought_47 : decode b_Packer_packBrought 47 = .ok (.invokevirtual 123, 3) := by decide +kernel
theorem d_Packer_packBrought_50 : decode b_Packer_packBrought 50 = .ok (.goto 44, 3) := by decide +kernel
theorem d_Packer_packBrought_53 : decode b_Packer_packBrought 53 = .ok (.aload_n 0, 1) := by decide +kernel
theorem d_Packer_packBrought_54 : decode b_Packer_packBrought 54 = .ok (.aload_n 1, 1) := by decide +kernel
theorem d_Packer_packBrought_55 : decode b_Packer_packBrought 55 = .ok (.iload_n 2, 1) := by decide +kernel
theorem d_Packer_packBrought_56 : decode b_Packer_packBrought 56 = .ok (.invokevirtual 106, 3) := by decide +kernel
theorem d_Packer_packBrought_59 : decode b_Packer_packBrought 59 = .ok (.invokevirtual 84, 3) := by decide +kernel
theorem d_Packer_packBrought_62 : decode b_Packer_packBrought 62 = .ok (.goto 32, 3) := by decide +kernel
theorem d_Packer_packBrought_65 : decode b_Packer_packBrought 65 = .ok (.iload_n 3, 1) := by decide +kernel
theorem d_Packer_packBrought_66 : decode b_Packer_packBrought 66 = .ok (.ifCond .ne 28, 3) := by decide +kernel
theorem d_Packer_packBrought_69 : decode b_Packer_packBrought 69 = .ok (.aload_n 0, 1) := by decide +kernel
theorem d_Packer_packBrought_70 : decode b_Packer_packBrought 70 = .ok (.aload_n 1, 1) := by decide +kernel
theorem d_Packer_packBrought_71 : decode b_Packer_packBrought 71 = .ok (.iload_n 2, 1) := by decide +kernel
theorem d_Packer_packBrought_72 : decode b_Packer_packBrought 72 = .ok (.invokevirtual 117, 3) := by decide +kernel
theorem d_Packer_packBrought_75 : decode b_Packer_packBrought 75 = .ok (.invokevirtual 48, 3) := by decide +kernel
theorem d_Packer_packBrought_78 : decode b_Packer_packBrought 78 = .ok (.goto 16, 3) := by decide +kernel
theorem d_Packer_packBrought_81 : decode b_Packer_packBrought 81 = .ok (.aload_n 0, 1) := by decide +kernel
theorem d_Packer_packBrought_82 : decode b_Packer_packBrought 82 = .ok (.aload_n 1, 1) := by decide +kernel
theorem d_Packer_packBrought_83 : decode b_Packer_packBrought 83 = .ok (.iload_n 2, 1) := by decide +kernel
theorem d_Packer_packBrought_84 : decode b_Packer_packBrought 84 = .ok (.invokevirtual 117, 3) := by decide +kernel
theorem d_Packer_packBrought_87 : decode b_Packer_packBrought 87 = .ok (.iconst 4, 1) := by decide +kernel
theorem d_Packer_packBrought_88 : decode b_Packer_packBrought 88 = .ok (.invokevirtual 123, 3) := by decide +kernel
theorem d_Packer_packBrought_91 : decode b_Packer_packBrought 91 = .ok (.goto 3, 3) := by decide +kernel
theorem d_Packer_packBrought_94 : decode b_Packer_packBrought 94 = .ok (.return_, 1) := by decide +kernel
theorem d_Packer_packBytes_0 : decode b_Packer_packBytes 0 = .ok (.iload_n 3, 1) := by decide +kernel
theorem d_Packer_packBytes_1 : decode b_Packer_packBytes 1 = .ok (.iconst 1, 1) := by decide +kernel
theorem d_Packer_packBytes_2 : decode b_Packer_packBytes 2 = .ok (.isub, 1) := by decide +kernel
theorem d_Packer_packBytes_3 : decode b_Packer_packBytes 3 = .ok (.istore 4, 2) := by decide +kernel
theorem d_Packer_packBytes_5 : decode b_Packer_packBytes 5 = .ok (.iload 4, 2) := by decide +kernel
theorem d_Packer_packBytes_7 : decode b_Packer_packBytes 7 = .ok (.ifCond .lt 25, 3) := by decide +kernel
theorem d_Packer_packBytes_10 : decode b_Packer_packBytes 10 = .ok (.aload_n 0, 1) := by decide +kernel
theorem d_Packer_packBytes_11 : decode b_Packer_packBytes 11 = .ok (.lload_n 1, 1) := by decide +kernel
theorem d_Packer_packBytes_12 : decode b_Packer_packBytes 12 = .ok (.bipush 8, 2) := by decide +kernel
theorem d_Packer_packBytes_14 : decode b_Packer_packBytes 14 = .ok (.iload 4, 2) := by decide +kernel
theorem d_Packer_packBytes_16 : decode b_Packer_packBytes 16 = .ok (.imul, 1) := by decide +kernel
theorem d_Packer_packBytes_17 : decode b_Packer_packBytes 17 = .ok (.lushr, 1) := by decide +kernel
theorem d_Packer_packBytes_18 : decode b_Packer_packBytes 18 = .ok (.l2i, 1) := by decide +kernel
theorem d_Packer_packBytes_19 : decode b_Packer_packBytes 19 = .ok (.sipush 255, 3) := by decide +kernel
theorem d_Packer_packBytes_22 : decode b_Packer_packBytes 22 = .ok (.iand, 1) := by decide +kernel
theorem d_Packer_packBytes_23 : decode b_Packer_packBytes 23 = .ok (.invokevirtual 84, 3) := by decide +kernel
theorem d_Packer_packBytes_26 : decode b_Packer_packBytes 26 = .ok (.iinc 4 (-1), 3) := by decide +kernel
theorem d_Packer_packBytes_29 : decode b_Packer_packBytes 29 = .ok (.goto (-24), 3) := by decide +kernel
theorem d_Packer_packBytes_32 : decode b_Packer_packBytes 32 = .ok (.return_, 1) := by decide +kernel
theorem d_Packer_packVarint_0 : decode b_Packer_packVarint 0 = .ok (.lload_n 1, 1) := by decide +kernel
theorem d_Packer_packVarint_1 : decode b_Packer_packVarint 1 = .ok (.lstore_n 3, 1) := by decide +kernel
theorem d_Packer_packVarint_2 : decode b_Packer_packVarint 2 = .ok (.iconst 1, 1) := by decide +kernel
theorem d_Packer_packVarint_3 : decode b_Packer_packVarint 3 = .ok (.istore 5, 2) := by decide +kernel
theorem d_Packer_packVarint_5 : decode b_Packer_packVarint 5 = .ok (.iload 5, 2) := by decide +kernel
theorem d_Packer_packVarint_7 : decode b_Packer_packVarint 7 = .ok (.bipush 7, 2) := by decide +kernel
theorem d_Packer_packVarint_9 : decode b_Packer_packVarint 9 = .ok (.if_icmp .ge 36, 3) := by decide +kernel
theorem d_Packer_packVarint_12 : decode b_Packer_packVarint 12 = .ok (.lload_n 3, 1) := by decide +kernel
theorem d_Packer_packVarint_13 : decode b_Packer_packVarint 13 = .ok (.ldc2_w 127, 3) := by decide +kernel
theorem d_Packer_packVarint_16 : decode b_Packer_packVarint 16 = .ok (.lcmp, 1) := by decide +kernel
theorem d_Packer_packVarint_17 : decode b_Packer_packVarint 17 = .ok (.ifCond .le 28, 3) := by decide +kernel
theorem d_Packer_packVarint_20 : decode b_Packer_packVarint 20 = .ok (.aload_n 0, 1) := by decide +kernel
theorem d_Packer_packVarint_21 : decode b_Packer_packVarint 21 = .ok (.lload_n 3, 1) := by decide +kernel
theorem d_Packer_packVarint_22 : decode b_Packer_packVarint 22 = .ok (.ldc2_w 127, 3) := by decide +kernel
theorem d_Packer_packVarint_25 : decode b_Packer_packVarint 25 = .ok (.land, 1) := by decide +kernel
theorem d_Packer_packVarint_26 : decode b_Packer_packVarint 26 = .ok (.l2i, 1) := by decide +kernel
theorem d_Packer_packVarint_27 : decode b_Packer_packVarint 27 = .ok (.sipush 128, 3) := by decide +kernel
theorem d_Packer_packVarint_30 : decode b_Packer_packVarint 30 = .ok (.ior, 1) := by decide +kernel
theorem d_Packer_packVarint_31 : decode b_Packer_packVarint 31 = .ok (.invokevirtual 84, 3) := by decide +kernel
theorem d_Packer_packVarint_34 : decode b_Packer_packVarint 34 = .ok (.lload_n 3, 1) := by decide +kernel
theorem d_Packer_packVarint_35 : decode b_Packer_packVarint 35 = .ok (.bipush 7, 2) := by decide +kernel
theorem d_Packer_packVarint_37 : decode b_Packer_packVarint 37 = .ok (.lushr, 1) := by decide +kernel
theorem d_Packer_packVarint_38 : decode b_Packer_packVarint 38 = .ok (.lstore_n 3, 1) := by decide +kernel
theorem d_Packer_packVarint_39 : decode b_Packer_packVarint 39 = .ok (.iinc 5 1, 3) := by decide +kernel
theorem d_Packer_packVarint_42 : decode b_Packer_packVarint 42 = .ok (.goto (-37), 3) := by decide +kernel
theorem d_Packer_packVarint_45 : decode b_Packer_packVarint 45 = .ok (.aload_n 0, 1) := by decide +kernel
theorem d_Packer_packVarint_46 : decode b_Packer_packVarint 46 = .ok (.lload_n 3, 1) := by decide +kernel
theorem d_Packer_packVarint_47 : decode b_Packer_packVarint 47 = .ok (.ldc2_w 127, 3) := by decide +kernel
theorem d_Packer_packVarint_50 : decode b_Packer_packVarint 50 = .ok (.land, 1) := by decide +kernel
theorem d_Packer_packVarint_51 : decode b_Packer_packVarint 51 = .ok (.l2i, 1) := by decide +kernel
theorem d_Packer_packVarint_52 : decode b_Packer_packVarint 52 = .ok (.invokevirtual 84, 3) := by decide +kernel
theorem d_Packer_packVarint_55 : decode b_Packer_packVarint 55 = .ok (.return_, 1) := by decide +kernel
theorem d_Packer_packByte_0 : decode b_Packer_packByte 0 = .ok (.aload_n 0, 1) := by decide +kernel
theorem d_Packer_packByte_1 : decode b_Packer_packByte 1 = .ok (.dup, 1) := by decide +kernel
theorem d_Packer_packByte_2 : decode b_Packer_packByte 2 = .ok (.getfield 22, 3) := by decide +kernel
theorem d_Packer_packByte_5 : decode b_Packer_packByte 5 = .ok (.iconst 1, 1) := by decide +kernel
theorem d_Packer_packByte_6 : decode b_Packer_packByte 6 = .ok (.iadd, 1) := by decide +kernel
theorem d_Packer_packByte_7 : decode b_Packer_packByte 7 = .ok (.putfield 22, 3) := by decide +kernel
theorem d_Packer_packByte_10 : decode b_Packer_packByte 10 = .ok (.aload_n 0, 1) := by decide +kernel
theorem d_Packer_packByte_11 : decode b_Packer_packByte 11 = .ok (.getfield 72, 3) := by decide +kernel
theorem d_Packer_packByte_14 : decode b_Packer_packByte 14 = .ok (.ifCond .eq 11, 3) := by decide +kernel
theorem d_Packer_packByte_17 : decode b_Packer_packByte 17 = .ok (.aload_n 0, 1) := by decide +kernel
theorem d_Packer_packByte_18 : decode b_Packer_packByte 18 = .ok (.getfield 18, 3) := by decide +kernel
theorem d_Packer_packByte_21 : decode b_Packer_packByte 21 = .ok (.iload_n 1, 1) := by decide +kernel
theorem d_Packer_packByte_22 : decode b_Packer_packByte 22 = .ok (.invokevirtual 129, 3) := by decide +kernel
theorem d_Packer_packByte_25 : decode b_Packer_packByte 25 = .ok (.return_, 1) := by decide +kernel
end
section
theorem d_Reader_init_0 : decode b_Reader_init 0 = .ok (.aload_n 0, 1) := by decide +kernel
theorem d_Reader_init_1 : decode b_Reader_init 1 = .ok (.invokespecial 3, 3) := by decide +kernel
theorem d_Reader_init_4 : decode b_Reader_init 4 = .ok (.aload_n 0, 1) := by decide +kernel
theorem d_Reader_init_5 : decode b_Reader_init 5 = .ok (.new 9, 3) := by decide +kernel
theorem d_Reader_init_8 : decode b_Reader_init 8 = .ok (.dup, 1) := by decide +kernel
theorem d_Reader_init_9 : decode b_Reader_init 9 = .ok (.invokespecial 11, 3) := by decide +kernel
theorem d_Reader_init_12 : decode b_Reader_init 12 = .ok (.putfield 12, 3) := by decide +kernel
theorem d_Reader_init_15 : decode b_Reader_init 15 = .ok (.aload_n 0, 1) := by decide +kernel
theorem d_Reader_init_16 : decode b_Reader_init 16 = .ok (.aload_n 1, 1) := by decide +kernel
theorem d_Reader_init_17 : decode b_Reader_init 17 = .ok (.putfield 18, 3) := by decide +kernel
theorem d_Reader_init_20 : decode b_Reader_init 20 = .ok (.return_, 1) := by decide +kernel
theorem d_Reader_run_0 : decode b_Reader_run 0 = .ok (.aload_n 0, 1) := by decide +kernel
theorem d_Reader_run_1 : decode b_Reader_run 1 = .ok (.aload_n 1, 1) := by decide +kernel
theorem d_Reader_run_2 : decode b_Reader_run 2 = .ok (.invokevirtual 22, 3) := by decide +kernel
theorem d_Reader_run_5 : decode b_Reader_run 5 = .ok (.aload_n 0, 1) := by decide +kernel
theorem d_Reader_run_6 : decode b_Reader_run 6 = .ok (.iconst 0, 1) := by decide +kernel
theorem d_Reader_run_7 : decode b_Reader_run 7 = .ok (.invokevirtual 26, 3) := by decide +kernel
theorem d_Reader_run_10 : decode b_Reader_run 10 = .ok (.lstore_n 2, 1) := by decide +kernel
theorem d_Reader_run_11 : decode b_Reader_run 11 = .ok (.aload_n 0, 1) := by decide +kernel
theorem d_Reader_run_12 : decode b_Reader_run 12 = .ok (.invokevirtual 30, 3) := by decide +kernel
theorem d_Reader_run_15 : decode b_Reader_run 15 = .ok (.ifCond .eq 18, 3) := by decide +kernel
theorem d_Reader_run_18 : decode b_Reader_run 18 = .ok (.lload_n 2, 1) := by decide +kernel
theorem d_Reader_run_19 : decode b_Reader_run 19 = .ok (.ldc2_w 34, 3) := by decide +kernel
theorem d_Reader_run_22 : decode b_Reader_run 22 = .ok (.lcmp, 1) := by decide +kernel
theorem d_Reader_run_23 : decode b_Reader_run 23 = .ok (.ifCond .le 10, 3) := by decide +kernel
theorem d_Reader_run_26 : decode b_Reader_run 26 = .ok (.aload_n 0, 1) := by decide +kernel
theorem d_Reader_run_27 : decode b_Reader_run 27 = .ok (.bipush 6, 2) := by decide +kernel
theorem d_Reader_run_29 : decode b_Reader_run 29 = .ok (.iconst 0, 1) := by decide +kernel
theorem d_Reader_run_30 : decode b_Reader_run 30 = .ok (.invokevirtual 36, 3) := by decide +kernel
theorem d_Reader_run_33 : decode b_Reader_run 33 = .ok (.iconst 0, 1) := by decide +kernel
theorem d_Reader_run_34 : decode b_Reader_run 34 = .ok (.istore 4, 2) := by decide +kernel
theorem d_Reader_run_36 : decode b_Reader_run 36 = .ok (.iload 4, 2) := by decide +kernel
theorem d_Reader_run_38 : decode b_Reader_run 38 = .ok (.sipush 300, 3) := by decide +kernel
theorem d_Reader_run_41 : decode b_Reader_run 41 = .ok (.if_icmp .ge 32, 3) := by decide +kernel
theorem d_Reader_run_44 : decode b_Reader_run 44 = .ok (.aload_n 0, 1) := by decide +kernel
theorem d_Reader_run_45 : decode b_Reader_run 45 = .ok (.invokevirtual 30, 3) := by decide +kernel
theorem d_Reader_run_48 : decode b_Reader_run 48 = .ok (.ifCond .eq 25, 3) := by decide +kernel
theorem d_Reader_run_51 : decode b_Reader_run 51 = .ok (.aload_n 1, 1) := by decide +kernel
theorem d_Reader_run_52 : decode b_Reader_run 52 = .ok (.invokevirtual 40, 3) := by decide +kernel
theorem d_Reader_run_55 : decode b_Reader_run 55 = .ok (.i2l, 1) := by decide +kernel
theorem d_Reader_run_56 : decode b_Reader_run 56 = .ok (.lload_n 2, 1) := by decide +kernel
theorem d_Reader_run_57 : decode b_Reader_run 57 = .ok (.lcmp, 1) := by decide +kernel
theorem d_Reader_run_58 : decode b_Reader_run 58 = .ok (.ifCond .ge 15, 3) := by decide +kernel
theorem d_Reader_run_61 : decode b_Reader_run 61 = .ok (.aload_n 0, 1) := by decide +kernel
theorem d_Reader_run_62 : decode b_Reader_run 62 = .ok (.aload_n 1, 1) := by decide +kernel
theorem d_Reader_run_63 : decode b_Reader_run 63 = .ok (.lload_n 2, 1) := by decide +kernel
theorem d_Reader_run_64 : decode b_Reader_run 64 = .ok (.invokevirtual 46, 3) := by decide +kernel
theorem d_Reader_run_67 : decode b_Reader_run 67 = .ok (.iinc 4 1, 3) := by decide +kernel
theorem d_Reader_run_70 : decode b_Reader_run 70 = .ok (.goto (-34), 3) := by decide +kernel
theorem d_Reader_run_73 : decode b_Reader_run 73 = .ok (.aload_n 0, 1) := by decide +kernel
theorem d_Reader_run_74 : decode b_Reader_run 74 = .ok (.invokevirtual 30, 3) := by decide +kernel
theorem d_Reader_run_77 : decode b_Reader_run 77 = .ok (.ifCond .eq 27, 3) := by decide +kernel
theorem d_Reader_run_80 : decode b_Reader_run 80 = .ok (.aload_n 0, 1) := by decide +kernel
theorem d_Reader_run_81 : decode b_Reader_run 81 = .ok (.getfield 50, 3) := by decide +kernel
theorem d_Reader_run_84 : decode b_Reader_run 84 = .ok (.aload_n 0, 1) := by decide +kernel
theorem d_Reader_run_85 : decode b_Reader_run 85 = .ok (.getfield 18, 3) := by decide +kernel
theorem d_Reader_run_88 : decode b_Reader_run 88 = .ok (.invokevirtual 54, 3) := by decide +kernel
theorem d_Reader_run_91 : decode b_Reader_run 91 = .ok (.if_icmp .ge 13, 3) := by decide +kernel
theorem d_Reader_run_94 : decode b_Reader_run 94 = .ok (.aload_n 0, 1) := by decide +kernel
theorem d_Reader_run_95 : decode b_Reader_run 95 = .ok (.bipush 7, 2) := by decide +kernel
theorem d_Reader_run_97 : decode b_Reader_run 97 = .ok (.aload_n 0, 1) := by decide +kernel
theorem d_Reader_run_98 : decode b_Reader_run 98 = .ok (.getfield 50, 3) := by decide +kernel
theorem d_Reader_run_101 : decode b_Reader_run 101 = .ok (.invokevirtual 36, 3) := by decide +kernel
theorem d_Reader_run_104 : decode b_Reader_run 104 = .ok (.aload_n 0, 1) := by decide +kernel
theorem d_Reader_run_105 : decode b_Reader_run 105 = .ok (.invokevirtual 30, 3) := by decide +kernel
theorem d_Reader_run_108 : decode b_Reader_run 108 = .ok (.ifCond .eq 10, 3) := by decide +kernel
theorem d_Reader_run_111 : decode b_Reader_run 111 = .ok (.aload_n 1, 1) := by decide +kernel
theorem d_Reader_run_112 : decode b_Reader_run 112 = .ok (.invokevirtual 40, 3) := by decide +kernel
theorem d_Reader_run_115 : decode b_Reader_run 115 = .ok (.goto 17, 3) := by decide +kernel
theorem d_Reader_run_118 : decode b_Reader_run 118 = .ok (.iconst (-1), 1) := by decide +kernel
theorem d_Reader_run_119 : decode b_Reader_run 119 = .ok (.aload_n 0, 1) := by decide +kernel
theorem d_Reader_run_120 : decode b_Reader_run 120 = .ok (.getfield 59, 3) := by decide +kernel
theorem d_Reader_run_123 : decode b_Reader_run 123 = .ok (.bipush 8, 2) := by decide +kernel
theorem d_Reader_run_125 : decode b_Reader_run 125 = .ok (.aload_n 0, 1) := by decide +kernel
theorem d_Reader_run_126 : decode b_Reader_run 126 = .ok (.getfield 62, 3) := by decide +kernel
theorem d_Reader_run_129 : decode b_Reader_run 129 = .ok (.imul, 1) := by decide +kernel
theorem d_Reader_run_130 : decode b_Reader_run 130 = .ok (.iadd, 1) := by decide +kernel
theorem d_Reader_run_131 : decode b_Reader_run 131 = .ok (.isub, 1) := by decide +kernel
theorem d_Reader_run_132 : decode b_Reader_run 132 = .ok (.ireturn, 1) := by decide +kernel
theorem d_Reader_begin_0 : decode b_Reader_begin 0 = .ok (.aload_n 1, 1) := by decide +kernel
theorem d_Reader_begin_1 : decode b_Reader_begin 1 = .ok (.iconst 0, 1) := by decide +kernel
theorem d_Reader_begin_2 : decode b_Reader_begin 2 = .ok (.invokevirtual 65, 3) := by decide +kernel
theorem d_Reader_begin_5 : decode b_Reader_begin 5 = .ok (.aload_n 0, 1) := by decide +kernel
theorem d_Reader_begin_6 : decode b_Reader_begin 6 = .ok (.getfield 12, 3) := by decide +kernel
theorem d_Reader_begin_9 : decode b_Reader_begin 9 = .ok (.invokevirtual 69, 3) := by decide +kernel
theorem d_Reader_begin_12 : decode b_Reader_begin 12 = .ok (.aload_n 0, 1) := by decide +kernel
theorem d_Reader_begin_13 : decode b_Reader_begin 13 = .ok (.iconst 0, 1) := by decide +kernel
theorem d_Reader_begin_14 : decode b_Reader_begin 14 = .ok (.putfield 50, 3) := by decide +kernel
theorem d_Reader_begin_17 : decode b_Reader_begin 17 = .ok (.aload_n 0, 1) := by decide +kernel
theorem d_Reader_begin_18 : decode b_Reader_begin 18 = .ok (.iconst 0, 1) := by decide +kernel
theorem d_Reader_begin_19 : decode b_Reader_begin 19 = .ok (.putfield 59, 3) := by decide +kernel
theorem d_Reader_begin_22 : decode b_Reader_begin 22 = .ok (.aload_n 0, 1) := by decide +kernel
theorem d_Reader_begin_23 : decode b_Reader_begin 23 = .ok (.iconst 0, 1) := by decide +kernel
theorem d_Reader_begin_24 : decode b_Reader_begin 24 = .ok (.putfield 62, 3) := by decide +kernel
theorem d_Reader_begin_27 : decode b_Reader_begin 27 = .ok (.return_, 1) := by decide +kernel
theorem d_Reader_isFine_0 : decode b_Reader_isFine 0 = .ok (.aload_n 0, 1) := by decide +kernel
theorem d_Reader_isFine_1 : decode b_Reader_isFine 1 = .ok (.getfield 59, 3) := by decide +kernel
theorem d_Reader_isFine_4 : decode b_Reader_isFine 4 = .ok (.ifCond .ne 7, 3) := by decide +kernel
theorem d_Reader_isFine_7 : decode b_Reader_isFine 7 = .ok (.iconst 1, 1) := by decide +kernel
theorem d_Reader_isFine_8 : decode b_Reader_isFine 8 = .ok (.goto 4, 3) := by decide +kernel
theorem d_Reader_isFine_11 : decode b_Reader_isFine 11 = .ok (.iconst 0, 1) := by decide +kernel
theorem d_Reader_isFine_12 : decode b_Reader_isFine 12 = .ok (.ireturn, 1) := by decide +kernel
theorem d_Reader_fail_0 : decode b_Reader_fail 0 = .ok (.aload_n 0, 1) := by decide +kernel
theorem d_Reader_fail_1 : decode b_Reader_fail 1 = .ok (.iload_n 1, 1) := by decide +kernel
theorem d_Reader_fail_2 : decode b_Reader_fail 2 = .ok (.putfield 59, 3) := by decide +kernel
theorem d_Reader_fail_5 : decode b_Reader_fail 5 = .ok (.aload_n 0, 1) := by decide +kernel
theorem d_Reader_fail_6 : decode b_Reader_fail 6 = .ok (.iload_n 2, 1) := by decide +kernel
theorem d_Reader_fail_7 : decode b_Reader_fail 7 = .ok (.putfield 62, 3) := by decide +kernel
theorem d_Reader_fail_10 : decode b_Reader_fail 10 = .ok (.return_, 1) := by decide +kernel
theorem d_Reader_readEntry_0 : decode b_Reader_readEntry 0 = .ok (.aload_n 0, 1) := by decide +kernel
theorem d_Reader_readEntry_1 : decode b_Reader_readEntry 1 = .ok (.getfield 50, 3) := by decide +kernel
theorem d_Reader_readEntry_4 : decode b_Reader_readEntry 4 = .ok (.istore 4, 2) := by decide +kernel
theorem d_Reader_readEntry_6 : decode b_Reader_readEntry 6 = .ok (.aload_n 0, 1) := by decide +kernel
theorem d_Reader_readEntry_7 : decode b_Reader_readEntry 7 = .ok (.invokevirtual 72, 3) := by decide +kernel
theorem d_Reader_readEntry_10 : decode b_Reader_readEntry 10 = .ok (.istore 5, 2) := by decide +kernel
theorem d_Reader_readEntry_12 : decode b_Reader_readEntry 12 = .ok (.aload_n 0, 1) := by decide +kernel
theorem d_Reader_readEntry_13 : decode b_Reader_readEntry 13 = .ok (.invokevirtual 30, 3) := by decide +kernel
theorem d_Reader_readEntry_16 : decode b_Reader_readEntry 16 = .ok (.ifCond .eq 18, 3) := by decide +kernel
theorem d_Reader_readEntry_19 : decode b_Reader_readEntry 19 = .ok (.iload 5, 2) := by decide +kernel
theorem d_Reader_readEntry_21 : decode b_Reader_readEntry 21 = .ok (.invokestatic 75, 3) := by decide +kernel
theorem d_Reader_readEntry_24 : decode b_Reader_readEntry 24 = .ok (.ifCond .ne 10, 3) := by decide +kernel
theorem d_Reader_readEntry_27 : decode b_Reader_readEntry 27 = .ok (.aload_n 0, 1) := by decide +kernel
theorem d_Reader_readEntry_28 : decode b_Reader_readEntry 28 = .ok (.iconst 1, 1) := by decide +kernel
theorem d_Reader_readEntry_29 : decode b_Reader_readEntry 29 = .ok (.iload 4, 2) := by decide +kernel
theorem d_Reader_readEntry_31 : decode b_Reader_readEntry 31 = .ok (.invokevirtual 36, 3) := by decide +kernel
theorem d_Reader_readEntry_34 : decode b_Reader_readEntry 34 = .ok (.aload_n 0, 1) := by decide +kernel
theorem d_Reader_readEntry_35 : decode b_Reader_readEntry 35 = .ok (.invokevirtual 30, 3) := by decide +kernel
theorem d_Reader_readEntry_38 : decode b_Reader_readEntry 38 = .ok (.ifCond .ne 4, 3) := by decide +kernel
theorem d_Reader_readEntry_41 : decode b_Reader_readEntry 41 = .ok (.return_, 1) := by decide +kernel
theorem d_Reader_readEntry_42 : decode b_Reader_readEntry 42 = .ok (.iload 5, 2) := by decide +kernel
theorem d_Reader_readEntry_44 : decode b_Reader_readEntry 44 = .ok (.bipush 7, 2) := by decide +kernel
theorem d_Reader_readEntry_46 : decode b_Reader_readEntry 46 = .ok (.iand, 1) := by decide +kernel
theorem d_Reader_readEntry_47 : decode b_Reader_readEntry 47 = .ok (.istore 6, 2) := by decide +kernel
theorem d_Reader_readEntry_49 : decode b_Reader_readEntry 49 = .ok (.iload 5, 2) := by decide +kernel
theorem d_Reader_readEntry_51 : decode b_Reader_readEntry 51 = .ok (.iconst 4, 1) := by decide +kernel
theorem d_Reader_readEntry_52 : decode b_Reader_readEntry 52 = .ok (.ishr, 1) := by decide +kernel
theorem d_Reader_readEntry_53 : decode b_Reader_readEntry 53 = .ok (.istore 7, 2) := by decide +kernel
theorem d_Reader_readEntry_55 : decode b_Reader_readEntry 55 = .ok (.iload 6, 2) := by decide +kernel
theorem d_Reader_readEntry_57 : decode b_Reader_readEntry 57 = .ok (.iconst 5, 1) := by decide +kernel
theorem d_Reader_readEntry_58 : decode b_Reader_readEntry 58 = .ok (.if_icmp .ne 14, 3) := by decide +kernel
theorem d_Reader_readEntry_61 : decode b_Reader_readEntry 61 = .ok (.aload_n 0, 1) := by decide +kernel
theorem d_Reader_readEntry_62 : decode b_Reader_readEntry 62 = .ok (.aload_n 1, 1) := by decide +kernel
theorem d_Reader_readEntry_63 : decode b_Reader_readEntry 63 = .ok (.lload_n 2, 1) := by decide +kernel
theorem d_Reader_readEntry_64 : decode b_Reader_readEntry 64 = .ok (.iload 7, 2) := by decide +kernel
theorem d_Reader_readEntry_66 : decode b_Reader_readEntry 66 = .ok (.iload 4, 2) := by decide +kernel
theorem d_Reader_readEntry_68 : decode b_Reader_readEntry 68 = .ok (.invokevirtual 79, 3) := by decide +kernel
theorem d_Reader_readEntry_71 : decode b_Reader_readEntry 71 = .ok (.return_, 1) := by decide +kernel
theorem d_Reader_readEntry_72 : decode b_Reader_readEntry 72 = .ok (.iload 5, 2) := by decide +kernel
theorem d_Reader_readEntry_74 : decode b_Reader_readEntry 74 = .ok (.bipush 8, 2) := by decide +kernel
theorem d_Reader_readEntry_76 : decode b_Reader_readEntry 76 = .ok (.iand, 1) := by decide +kernel
theorem d_Reader_readEntry_77 : decode b_Reader_readEntry 77 = .ok (.ifCond .eq 7, 3) := by decide +kernel
theorem d_Reader_readEntry_80 : decode b_Reader_readEntry 80 = .ok (.iconst 1, 1) := by decide +kernel
theorem d_Reader_readEntry_81 : decode b_Reader_readEntry 81 = .ok (.goto 4, 3) := by decide +kernel
theorem d_Reader_readEntry_84 : decode b_Reader_readEntry 84 = .ok (.iconst 0, 1) := by decide +kernel
theorem d_Reader_readEntry_85 : decode b_Reader_readEntry 85 = .ok (.istore 8, 2) := by decide +kernel
theorem d_Reader_readEntry_87 : decode b_Reader_readEntry 87 = .ok (.iload 8, 2) := by decide +kernel
theorem d_Reader_readEntry_89 : decode b_Reader_readEntry 89 = .ok (.ifCond .eq 16, 3) := by decide +kernel
theorem d_Reader_readEntry_92 : decode b_Reader_readEntry 92 = .ok (.aload_n 1, 1) := by decide +kernel
theorem d_Reader_readEntry_93 : decode b_Reader_readEntry 93 = .ok (.aload_n 1, 1) := by decide +kernel
theorem d_Reader_readEntry_94 : decode b_Reader_readEntry 94 = .ok (.invokevirtual 40, 3) := by decide +kernel
theorem d_Reader_readEntry_97 : decode b_Reader_readEntry 97 = .ok (.iconst 1, 1) := by decide +kernel
theorem d_Reader_readEntry_98 : decode b_Reader_readEntry 98 = .ok (.isub, 1) := by decide +kernel
theorem d_Reader_readEntry_99 : decode b_Reader_readEntry 99 = .ok (.invokevirtual 83, 3) := by decide +kernel
theorem d_Reader_readEntry_102 : decode b_Reader_readEntry 102 = .ok (.goto 8, 3) := by decide +kernel
theorem d_Reader_readEntry_105 : decode b_Reader_readEntry 105 = .ok (.aload_n 0, 1) := by decide +kernel
theorem d_Reader_readEntry_106 : decode b_Reader_readEntry 106 = .ok (.iconst 0, 1) := by decide +kernel
theorem d_Reader_readEntry_107 : decode b_Reader_readEntry 107 = .ok (.invokevirtual 26, 3) := by decide +kernel
theorem d_Reader_readEntry_110 : decode b_Reader_readEntry 110 = .ok (.lstore 9, 2) := by decide +kernel
theorem d_Reader_readEntry_112 : decode b_Reader_readEntry 112 = .ok (.aload_n 0, 1) := by decide +kernel
theorem d_Reader_readEntry_113 : decode b_Reader_readEntry 113 = .ok (.invokevirtual 30, 3) := by decide +kernel
theorem d_Reader_readEntry_116 : decode b_Reader_readEntry 116 = .ok (.ifCond .ne 4, 3) := by decide +kernel
theorem d_Reader_readEntry_119 : decode b_Reader_readEntry 119 = .ok (.return_, 1) := by decide +kernel
theorem d_Reader_readEntry_120 : decode b_Reader_readEntry 120 = .ok (.iload 6, 2) := by decide +kernel
theorem d_Reader_readEntry_122 : decode b_Reader_readEntry 122 = .ok (.iload 7, 2) := by decide +kernel
theorem d_Reader_readEntry_124 : decode b_Reader_readEntry 124 = .ok (.invokestatic 86, 3) := by decide +kernel
theorem d_Reader_readEntry_127 : decode b_Reader_readEntry 127 = .ok (.ifCond .eq 17, 3) := by decide +kernel
theorem d_Reader_readEntry_130 : decode b_Reader_readEntry 130 = .ok (.aload_n 0, 1) := by decide +kernel
theorem d_Reader_readEntry_131 : decode b_Reader_readEntry 131 = .ok (.aload_n 1, 1) := by decide +kernel
theorem d_Reader_readEntry_132 : decode b_Reader_readEntry 132 = .ok (.iload 6, 2) := by decide +kernel
theorem d_Reader_readEntry_134 : decode b_Reader_readEntry 134 = .ok (.lload 9, 2) := by decide +kernel
theorem d_Reader_readEntry_136 : decode b_Reader_readEntry 136 = .ok (.iload 4, 2) := by decide +kernel
theorem d_Reader_readEntry_138 : decode b_Reader_readEntry 138 = .ok (.invokevirtual 90, 3) := by decide +kernel
theorem d_Reader_readEntry_141 : decode b_Reader_readEntry 141 = .ok (.goto 14, 3) := by decide +kernel
theorem d_Reader_readEntry_144 : decode b_Reader_readEntry 144 = .ok (.aload_n 0, 1) := by decide +kernel
theorem d_Reader_readEntry_145 : decode b_Reader_readEntry 145 = .ok (.aload_n 1, 1) := by decide +kernel
theorem d_Reader_readEntry_146 : decode b_Reader_readEntry 146 = .ok (.iload 6, 2) := by decide +kernel
theorem d_Reader_readEntry_148 : decode b_Reader_readEntry 148 = .ok (.lload 9, 2) := by decide +kernel
theorem d_Reader_readEntry_150 : decode b_Reader_readEntry 150 = .ok (.iload 7, 2) := by decide +kernel
theorem d_Reader_readEntry_152 : decode b_Reader_readEntry 152 = .ok (.invokevirtual 94, 3) := by decide +kernel
theorem d_Reader_readEntry_155 : decode b_Reader_readEntry 155 = .ok (.return_, 1) := by decide +kernel
theorem d_Reader_isHead_0 : decode b_Reader_isHead 0 = .ok (.iload_n 0, 1) := by decide +kernel
theorem d_Reader_isHead_1 : decode b_Reader_isHead 1 = .ok (.iconst 4, 1) := by decide +kernel
theorem d_Reader_isHead_2 : decode b_Reader_isHead 2 = .ok (.ishr, 1) := by decide +kernel
theorem d_Reader_isHead_3 : decode b_Reader_isHead 3 = .ok (.istore_n 1, 1) := by decide +kernel
theorem d_Reader_isHead_4 : decode b_Reader_isHead 4 = .ok (.iload_n 0, 1) := by decide +kernel
theorem d_Reader_isHead_5 : decode b_Reader_isHead 5 = .ok (.bipush 7, 2) := by decide +kernel
theorem d_Reader_isHead_7 : decode b_Reader_isHead 7 = .ok (.iand, 1) := by decide +kernel
theorem d_Reader_isHead_8 : decode b_Reader_isHead 8 = .ok (.tableswitch 88 0 5 #[40, 42, 40, 54, 65, 75], 40) := by decide +kernel
theorem d_Reader_isHead_48 : decode b_Reader_isHead 48 = .ok (.iconst 1, 1) := by decide +kernel
theorem d_Reader_isHead_49 : decode b_Reader_isHead 49 = .ok (.ireturn, 1) := by decide +kernel
theorem d_Reader_isHead_50 : decode b_Reader_isHead 50 = .ok (.iload_n 1, 1) := by decide +kernel
theorem d_Reader_isHead_51 : decode b_Reader_isHead 51 = .ok (.bipush 8, 2) := by decide +kernel
theorem d_Reader_isHead_53 : decode b_Reader_isHead 53 = .ok (.if_icmp .gt 7, 3) := by decide +kernel
theorem d_Reader_isHead_56 : decode b_Reader_isHead 56 = .ok (.iconst 1, 1) := by decide +kernel
theorem d_Reader_isHead_57 : decode b_Reader_isHead 57 = .ok (.goto 4, 3) := by decide +kernel
theorem d_Reader_isHead_60 : decode b_Reader_isHead 60 = .ok (.iconst 0, 1) := by decide +kernel
theorem d_Reader_isHead_61 : decode b_Reader_isHead 61 = .ok (.ireturn, 1) := by decide +kernel
theorem d_Reader_isHead_62 : decode b_Reader_isHead 62 = .ok (.iload_n 1, 1) := by decide +kernel
theorem d_Reader_isHead_63 : decode b_Reader_isHead 63 = .ok (.iconst 1, 1) := by decide +kernel
theorem d_Reader_isHead_64 : decode b_Reader_isHead 64 = .ok (.if_icmp .gt 7, 3) := by decide +kernel
theorem d_Reader_isHead_67 : decode b_Reader_isHead 67 = .ok (.iconst 1, 1) := by decide +kernel
theorem d_Reader_isHead_68 : decode b_Reader_isHead 68 = .ok (.goto 4, 3) := by decide +kernel
theorem d_Reader_isHead_71 : decode b_Reader_isHead 71 = .ok (.iconst 0, 1) := by decide +kernel
theorem d_Reader_isHead_72 : decode b_Reader_isHead 72 = .ok (.ireturn, 1) := by decide +kernel
theorem d_Reader_isHead_73 : decode b_Reader_isHead 73 = .ok (.iload_n 1, 1) := by decide +kernel
theorem d_Reader_isHead_74 : decode b_Reader_isHead 74 = .ok (.ifCond .ne 7, 3) := by decide +kernel
theorem d_Reader_isHead_77 : decode b_Reader_isHead 77 = .ok (.iconst 1, 1) := by decide +kernel
theorem d_Reader_isHead_78 : decode b_Reader_isHead 78 = .ok (.goto 4, 3) := by decide +kernel
theorem d_Reader_isHead_81 : decode b_Reader_isHead 81 = .ok (.iconst 0, 1) := by decide +kernel
theorem d_Reader_isHead_82 : decode b_Reader_isHead 82 = .ok (.ireturn, 1) := by decide +kernel
theorem d_Reader_isHead_83 : decode b_Reader_isHead 83 = .ok (.iload_n 0, 1) := by decide +kernel
theorem d_Reader_isHead_84 : decode b_Reader_isHead 84 = .ok (.bipush 8, 2) := by decide +kernel
theorem d_Reader_isHead_86 : decode b_Reader_isHead 86 = .ok (.iand, 1) := by decide +kernel
theorem d_Reader_isHead_87 : decode b_Reader_isHead 87 = .ok (.ifCond .ne 7, 3) := by decide +kernel
theorem d_Reader_isHead_90 : decode b_Reader_isHead 90 = .ok (.iconst 1, 1) := by decide +kernel
theorem d_Reader_isHead_91 : decode b_Reader_isHead 91 = .ok (.goto 4, 3) := by decide +kernel
theorem d_Reader_isHead_94 : decode b_Reader_isHead 94 = .ok (.iconst 0, 1) := by decide +kernel
theorem d_Reader_isHead_95 : decode b_Reader_isHead 95 = .ok (.ireturn, 1) := by decide +kernel
theorem d_Reader_isHead_96 : decode b_Reader_isHead 96 = .ok (.iconst 0, 1) := by decide +kernel
theorem d_Reader_isHead_97 : decode b_Reader_isHead 97 = .ok (.ireturn, 1) := by decide +kernel
theorem d_Reader_readRun_0 : decode b_Reader_readRun 0 = .ok (.aload_n 1, 1) := by decide +kernel
theorem d_Reader_readRun_1 : decode b_Reader_readRun 1 = .ok (.invokevirtual 40, 3) := by decide +kernel
theorem d_Reader_readRun_4 : decode b_Reader_readRun 4 = .ok (.iconst 1, 1) := by decide +kernel
theorem d_Reader_readRun_5 : decode b_Reader_readRun 5 = .ok (.isub, 1) := by decide +kernel
theorem d_Reader_readRun_6 : decode b_Reader_readRun 6 = .ok (.istore 6, 2) := by decide +kernel
theorem d_Reader_readRun_8 : decode b_Reader_readRun 8 = .ok (.iload 6, 2) := by decide +kernel
theorem d_Reader_readRun_10 : decode b_Reader_readRun 10 = .ok (.ifCond .ge 11, 3) := by decide +kernel
theorem d_Reader_readRun_13 : decode b_Reader_readRun 13 = .ok (.aload_n 0, 1) := by decide +kernel
theorem d_Reader_readRun_14 : decode b_Reader_readRun 14 = .ok (.iconst 4, 1) := by decide +kernel
theorem d_Reader_readRun_15 : decode b_Reader_readRun 15 = .ok (.iload 5, 2) := by decide +kernel
theorem d_Reader_readRun_17 : decode b_Reader_readRun 17 = .ok (.invokevirtual 36, 3) := by decide +kernel
theorem d_Reader_readRun_20 : decode b_Reader_readRun 20 = .ok (.return_, 1) := by decide +kernel
theorem d_Reader_readRun_21 : decode b_Reader_readRun 21 = .ok (.iload 4, 2) := by decide +kernel
theorem d_Reader_readRun_23 : decode b_Reader_readRun 23 = .ok (.ifCond .ne 11, 3) := by decide +kernel
theorem d_Reader_readRun_26 : decode b_Reader_readRun 26 = .ok (.aload_n 0, 1) := by decide +kernel
theorem d_Reader_readRun_27 : decode b_Reader_readRun 27 = .ok (.iconst 1, 1) := by decide +kernel
theorem d_Reader_readRun_28 : decode b_Reader_readRun 28 = .ok (.invokevirtual 26, 3) := by decide +kernel
theorem d_Reader_readRun_31 : decode b_Reader_readRun 31 = .ok (.goto 6, 3) := by decide +kernel
theorem d_Reader_readRun_34 : decode b_Reader_readRun 34 = .ok (.iload 4, 2) := by decide +kernel
theorem d_Reader_readRun_36 : decode b_Reader_readRun 36 = .ok (.i2l, 1) := by decide +kernel
theorem d_Reader_readRun_37 : decode b_Reader_readRun 37 = .ok (.lstore 7, 2) := by decide +kernel
theorem d_Reader_readRun_39 : decode b_Reader_readRun 39 = .ok (.aload_n 0, 1) := by decide +kernel
theorem d_Reader_readRun_40 : decode b_Reader_readRun 40 = .ok (.invokevirtual 30, 3) := by decide +kernel
theorem d_Reader_readRun_43 : decode b_Reader_readRun 43 = .ok (.ifCond .eq 24, 3) := by decide +kernel
theorem d_Reader_readRun_46 : decode b_Reader_readRun 46 = .ok (.lload 7, 2) := by decide +kernel
theorem d_Reader_readRun_48 : decode b_Reader_readRun 48 = .ok (.lload_n 2, 1) := by decide +kernel
theorem d_Reader_readRun_49 : decode b_Reader_readRun 49 = .ok (.aload_n 1, 1) := by decide +kernel
theorem d_Reader_readRun_50 : decode b_Reader_readRun 50 = .ok (.invokevirtual 40, 3) := by decide +kernel
theorem d_Reader_readRun_53 : decode b_Reader_readRun 53 = .ok (.i2l, 1) := by decide +kernel
theorem d_Reader_readRun_54 : decode b_Reader_readRun 54 = .ok (.lsub, 1) := by decide +kernel
theorem d_Reader_readRun_55 : decode b_Reader_readRun 55 = .ok (.lcmp, 1) := by decide +kernel
theorem d_Reader_readRun_56 : decode b_Reader_readRun 56 = .ok (.ifCond .le 11, 3) := by decide +kernel
theorem d_Reader_readRun_59 : decode b_Reader_readRun 59 = .ok (.aload_n 0, 1) := by decide +kernel
theorem d_Reader_readRun_60 : decode b_Reader_readRun 60 = .ok (.bipush 6, 2) := by decide +kernel
theorem d_Reader_readRun_62 : decode b_Reader_readRun 62 = .ok (.iload 5, 2) := by decide +kernel
theorem d_Reader_readRun_64 : decode b_Reader_readRun 64 = .ok (.invokevirtual 36, 3) := by decide +kernel
theorem d_Reader_readRun_67 : decode b_Reader_readRun 67 = .ok (.aload_n 0, 1) := by decide +kernel
theorem d_Reader_readRun_68 : decode b_Reader_readRun 68 = .ok (.invokevirtual 30, 3) := by decide +kernel
theorem d_Reader_readRun_71 : decode b_Reader_readRun 71 = .ok (.ifCond .ne 4, 3) := by decide +kernel
theorem d_Reader_readRun_74 : decode b_Reader_readRun 74 = .ok (.return_, 1) := by decide +kernel
theorem d_Reader_readRun_75 : decode b_Reader_readRun 75 = .ok (.iconst 0, 1) := by decide +kernel
theorem d_Reader_readRun_76 : decode b_Reader_readRun 76 = .ok (.istore 9, 2) := by decide +kernel
theorem d_Reader_readRun_78 : decode b_Reader_readRun 78 = .ok (.iload 9, 2) := by decide +kernel
theorem d_Reader_readRun_80 : decode b_Reader_readRun 80 = .ok (.i2l, 1) := by decide +kernel
theorem d_Reader_readRun_81 : decode b_Reader_readRun 81 = .ok (.lload 7, 2) := by decide +kernel
theorem d_Reader_readRun_83 : decode b_Reader_readRun 83 = .ok (.lcmp, 1) := by decide +kernel
theorem d_Reader_readRun_84 : decode b_Reader_readRun 84 = .ok (.ifCond .ge 46, 3) := by decide +kernel
theorem d_Reader_readRun_87 : decode b_Reader_readRun 87 = .ok (.iload 9, 2) := by decide +kernel
theorem d_Reader_readRun_89 : decode b_Reader_readRun 89 = .ok (.sipush 300, 3) := by decide +kernel
theorem d_Reader_readRun_92 : decode b_Reader_readRun 92 = .ok (.if_icmp .ge 38, 3) := by decide +kernel
theorem d_Reader_readRun_95 : decode b_Reader_readRun 95 = .ok (.aload_n 0, 1) := by decide +kernel
theorem d_Reader_readRun_96 : decode b_Reader_readRun 96 = .ok (.aload_n 1, 1) := by decide +kernel
theorem d_Reader_readRun_97 : decode b_Reader_readRun 97 = .ok (.aload_n 1, 1) := by decide +kernel
theorem d_Reader_readRun_98 : decode b_Reader_readRun 98 = .ok (.iload 6, 2) := by decide +kernel
theorem d_Reader_readRun_100 : decode b_Reader_readRun 100 = .ok (.invokevirtual 97, 3) := by decide +kernel
theorem d_Reader_readRun_103 : decode b_Reader_readRun 103 = .ok (.aload_n 1, 1) := by decide +kernel
theorem d_Reader_readRun_104 : decode b_Reader_readRun 104 = .ok (.iload 6, 2) := by decide +kernel
theorem d_Reader_readRun_106 : decode b_Reader_readRun 106 = .ok (.invokevirtual 83, 3) := by decide +kernel
theorem d_Reader_readRun_109 : decode b_Reader_readRun 109 = .ok (.aload_n 1, 1) := by decide +kernel
theorem d_Reader_readRun_110 : decode b_Reader_readRun 110 = .ok (.iload 6, 2) := by decide +kernel
theorem d_Reader_readRun_112 : decode b_Reader_readRun 112 = .ok (.invokevirtual 101, 3) := by decide +kernel
theorem d_Reader_readRun_115 : decode b_Reader_readRun 115 = .ok (.aload_n 1, 1) := by decide +kernel
theorem d_Reader_readRun_116 : decode b_Reader_readRun 116 = .ok (.iload 6, 2) := by decide +kernel
theorem d_Reader_readRun_118 : decode b_Reader_readRun 118 = .ok (.invokevirtual 104, 3) := by decide +kernel
theorem d_Reader_readRun_121 : decode b_Reader_readRun 121 = .ok (.invokevirtual 107, 3) := by decide +kernel
theorem d_Reader_readRun_124 : decode b_Reader_readRun 124 = .ok (.iinc 9 1, 3) := by decide +kernel
theorem d_Reader_readRun_127 : decode b_Reader_readRun 127 = .ok (.goto (-49), 3) := by decide +kernel
theorem d_Reader_readRun_130 : decode b_Reader_readRun 130 = .ok (.return_, 1) := by decide +kernel
theorem d_Reader_isMeaningAnother_0 : decode b_Reader_isMeaningAnother 0 = .ok (.iload_n 0, 1) := by decide +kernel
theorem d_Reader_isMeaningAnother_1 : decode b_Reader_isMeaningAnother 1 = .ok (.iconst 1, 1) := by decide +kernel
theorem d_Reader_isMeaningAnother_2 : decode b_Reader_isMeaningAnother 2 = .ok (.if_icmp .ne 7, 3) := by decide +kernel
theorem d_Reader_isMeaningAnother_5 : decode b_Reader_isMeaningAnother 5 = .ok (.iload_n 1, 1) := by decide +kernel
theorem d_Reader_isMeaningAnother_6 : decode b_Reader_isMeaningAnother 6 = .ok (.ifCond .eq 13, 3) := by decide +kernel
theorem d_Reader_isMeaningAnother_9 : decode b_Reader_isMeaningAnother 9 = .ok (.iload_n 0, 1) := by decide +kernel
theorem d_Reader_isMeaningAnother_10 : decode b_Reader_isMeaningAnother 10 = .ok (.iconst 3, 1) := by decide +kernel
theorem d_Reader_isMeaningAnother_11 : decode b_Reader_isMeaningAnother 11 = .ok (.if_icmp .ne 12, 3) := by decide +kernel
theorem d_Reader_isMeaningAnother_14 : decode b_Reader_isMeaningAnother 14 = .ok (.iload_n 1, 1) := by decide +kernel
theorem d_Reader_isMeaningAnother_15 : decode b_Reader_isMeaningAnother 15 = .ok (.iconst 1, 1) := by decide +kernel
theorem d_Reader_isMeaningAnother_16 : decode b_Reader_isMeaningAnother 16 = .ok (.if_icmp .ne 7, 3) := by decide +kernel
theorem d_Reader_isMeaningAnother_19 : decode b_Reader_isMeaningAnother 19 = .ok (.iconst 1, 1) := by decide +kernel
theorem d_Reader_isMeaningAnother_20 : decode b_Reader_isMeaningAnother 20 = .ok (.goto 4, 3) := by decide +kernel
theorem d_Reader_isMeaningAnother_23 : decode b_Reader_isMeaningAnother 23 = .ok (.iconst 0, 1) := by decide +kernel
theorem d_Reader_isMeaningAnother_24 : decode b_Reader_isMeaningAnother 24 = .ok (.ireturn, 1) := by decide +kernel
theorem d_Reader_readLikeAnother_0 : decode b_Reader_readLikeAnother 0 = .ok (.iload_n 2, 1) := by decide +kernel
theorem d_Reader_readLikeAnother_1 : decode b_Reader_readLikeAnother 1 = .ok (.iconst 3, 1) := by decide +kernel
theorem d_Reader_readLikeAnother_2 : decode b_Reader_readLikeAnother 2 = .ok (.if_icmp .ne 13, 3) := by decide +kernel
theorem d_Reader_readLikeAnother_5 : decode b_Reader_readLikeAnother 5 = .ok (.aload_n 0, 1) := by decide +kernel
theorem d_Reader_readLikeAnother_6 : decode b_Reader_readLikeAnother 6 = .ok (.getfield 12, 3) := by decide +kernel
theorem d_Reader_readLikeAnother_9 : decode b_Reader_readLikeAnother 9 = .ok (.invokevirtual 111, 3) := by decide +kernel
theorem d_Reader_readLikeAnother_12 : decode b_Reader_readLikeAnother 12 = .ok (.goto 15, 3) := by decide +kernel
theorem d_Reader_readLikeAnother_15 : decode b_Reader_readLikeAnother 15 = .ok (.aload_n 0, 1) := by decide +kernel
theorem d_Reader_readLikeAnother_16 : decode b_Reader_readLikeAnother 16 = .ok (.getfield 12, 3) := by decide +kernel
theorem d_Reader_readLikeAnother_19 : decode b_Reader_readLikeAnother 19 = .ok (.aload_n 0, 1) := by decide +kernel
theorem d_Reader_readLikeAnother_20 : decode b_Reader_readLikeAnother 20 = .ok (.iconst 1, 1) := by decide +kernel
theorem d_Reader_readLikeAnother_21 : decode b_Reader_readLikeAnother 21 = .ok (.invokevirtual 26, 3) := by decide +kernel
theorem d_Reader_readLikeAnother_24 : decode b_Reader_readLikeAnother 24 = .ok (.invokevirtual 114, 3) := by decide +kernel
theorem d_Reader_readLikeAnother_27 : decode b_Reader_readLikeAnother 27 = .ok (.istore 6, 2) := by decide +kernel
theorem d_Reader_readLikeAnother_29 : decode b_Reader_readLikeAnother 29 = .ok (.aload_n 0, 1) := by decide +kernel
theorem d_Reader_readLikeAnother_30 : decode b_Reader_readLikeAnother 30 = .ok (.invokevirtual 30, 3) := by decide +kernel
theorem d_Reader_readLikeAnother_33 : decode b_Reader_readLikeAnother 33 = .ok (.ifCond .eq 19, 3) := by decide +kernel
theorem d_Reader_readLikeAnother_36 : decode b_Reader_readLikeAnother 36 = .ok (.aload_n 1, 1) := by decide +kernel
theorem d_Reader_readLikeAnother_37 : decode b_Reader_readLikeAnother 37 = .ok (.iload 6, 2) := by decide +kernel
theorem d_Reader_readLikeAnother_39 : decode b_Reader_readLikeAnother 39 = .ok (.invokevirtual 118, 3) := by decide +kernel
theorem d_Reader_readLikeAnother_42 : decode b_Reader_readLikeAnother 42 = .ok (.ifCond .ne 10, 3) := by decide +kernel
theorem d_Reader_readLikeAnother_45 : decode b_Reader_readLikeAnother 45 = .ok (.aload_n 0, 1) := by decide +kernel
theorem d_Reader_readLikeAnother_46 : decode b_Reader_readLikeAnother 46 = .ok (.iconst 4, 1) := by decide +kernel
theorem d_Reader_readLikeAnother_47 : decode b_Reader_readLikeAnother 47 = .ok (.iload 5, 2) := by decide +kernel
theorem d_Reader_readLikeAnother_49 : decode b_Reader_readLikeAnother 49 = .ok (.invokevirtual 36, 3) := by decide +kernel
theorem d_Reader_readLikeAnother_52 : decode b_Reader_readLikeAnother 52 = .ok (.aload_n 0, 1) := by decide +kernel
theorem d_Reader_readLikeAnother_53 : decode b_Reader_readLikeAnother 53 = .ok (.invokevirtual 30, 3) := by decide +kernel
theorem d_Reader_readLikeAnother_56 : decode b_Reader_readLikeAnother 56 = .ok (.ifCond .eq 22, 3) := by decide +kernel
theorem d_Reader_readLikeAnother_59 : decode b_Reader_readLikeAnother 59 = .ok (.aload_n 0, 1) := by decide +kernel
theorem d_Reader_readLikeAnother_60 : decode b_Reader_readLikeAnother 60 = .ok (.aload_n 1, 1) := by decide +kernel
theorem d_Reader_readLikeAnother_61 : decode b_Reader_readLikeAnother 61 = .ok (.iload_n 2, 1) := by decide +kernel
theorem d_Reader_readLikeAnother_62 : decode b_Reader_readLikeAnother 62 = .ok (.lload_n 3, 1) := by decide +kernel
theorem d_Reader_readLikeAnother_63 : decode b_Reader_readLikeAnother 63 = .ok (.aload_n 1, 1) := by decide +kernel
theorem d_Reader_readLikeAnother_64 : decode b_Reader_readLikeAnother 64 = .ok (.iload 6, 2) := by decide +kernel
theorem d_Reader_readLikeAnother_66 : decode b_Reader_readLikeAnother 66 = .ok (.invokevirtual 101, 3) := by decide +kernel
theorem d_Reader_readLikeAnother_69 : decode b_Reader_readLikeAnother 69 = .ok (.aload_n 1, 1) := by decide +kernel
theorem d_Reader_readLikeAnother_70 : decode b_Reader_readLikeAnother 70 = .ok (.iload 6, 2) := by decide +kernel
theorem d_Reader_readLikeAnother_72 : decode b_Reader_readLikeAnother 72 = .ok (.invokevirtual 104, 3) := by decide +kernel
theorem d_Reader_readLikeAnother_75 : decode b_Reader_readLikeAnother 75 = .ok (.invokevirtual 107, 3) := by decide +kernel
theorem d_Reader_readLikeAnother_78 : decode b_Reader_readLikeAnother 78 = .ok (.return_, 1) := by decide +kernel
theorem d_Reader_readOwn_0 : decode b_Reader_readOwn 0 = .ok (.iload 5, 2) := by decide +kernel
theorem d_Reader_readOwn_2 : decode b_Reader_readOwn 2 = .ok (.i2l, 1) := by decide +kernel
theorem d_Reader_readOwn_3 : decode b_Reader_readOwn 3 = .ok (.lstore 6, 2) := by decide +kernel
theorem d_Reader_readOwn_5 : decode b_Reader_readOwn 5 = .ok (.iconst 0, 1) := by decide +kernel
theorem d_Reader_readOwn_6 : decode b_Reader_readOwn 6 = .ok (.istore 8, 2) := by decide +kernel
theorem d_Reader_readOwn_8 : decode b_Reader_readOwn 8 = .ok (.iload_n 2, 1) := by decide +kernel
theorem d_Reader_readOwn_9 : decode b_Reader_readOwn 9 = .ok (.tableswitch 75 1 4 #[31, 46, 55, 65], 31) := by decide +kernel
theorem d_Reader_readOwn_40 : decode b_Reader_readOwn 40 = .ok (.aload_n 0, 1) := by decide +kernel
theorem d_Reader_readOwn_41 : decode b_Reader_readOwn 41 = .ok (.iload 5, 2) := by decide +kernel
theorem d_Reader_readOwn_43 : decode b_Reader_readOwn 43 = .ok (.invokevirtual 121, 3) := by decide +kernel
theorem d_Reader_readOwn_46 : decode b_Reader_readOwn 46 = .ok (.lstore 6, 2) := by decide +kernel
theorem d_Reader_readOwn_48 : decode b_Reader_readOwn 48 = .ok (.iload 5, 2) := by decide +kernel
theorem d_Reader_readOwn_50 : decode b_Reader_readOwn 50 = .ok (.istore 8, 2) := by decide +kernel
theorem d_Reader_readOwn_52 : decode b_Reader_readOwn 52 = .ok (.goto 32, 3) := by decide +kernel
theorem d_Reader_readOwn_55 : decode b_Reader_readOwn 55 = .ok (.aload_n 0, 1) := by decide +kernel
theorem d_Reader_readOwn_56 : decode b_Reader_readOwn 56 = .ok (.invokevirtual 124, 3) := by decide +kernel
theorem d_Reader_readOwn_59 : decode b_Reader_readOwn 59 = .ok (.istore 8, 2) := by decide +kernel
theorem d_Reader_readOwn_61 : decode b_Reader_readOwn 61 = .ok (.goto 23, 3) := by decide +kernel
theorem d_Reader_readOwn_64 : decode b_Reader_readOwn 64 = .ok (.aload_n 0, 1) := by decide +kernel
theorem d_Reader_readOwn_65 : decode b_Reader_readOwn 65 = .ok (.iconst 0, 1) := by decide +kernel
theorem d_Reader_readOwn_66 : decode b_Reader_readOwn 66 = .ok (.invokevirtual 26, 3) := by decide +kernel
theorem d_Reader_readOwn_69 : decode b_Reader_readOwn 69 = .ok (.lstore 6, 2) := by decide +kernel
theorem d_Reader_readOwn_71 : decode b_Reader_readOwn 71 = .ok (.goto 13, 3) := by decide +kernel
theorem d_Reader_readOwn_74 : decode b_Reader_readOwn 74 = .ok (.aload_n 0, 1) := by decide +kernel
theorem d_Reader_readOwn_75 : decode b_Reader_readOwn 75 = .ok (.iconst 4, 1) := by decide +kernel
theorem d_Reader_readOwn_76 : decode b_Reader_readOwn 76 = .ok (.invokevirtual 121, 3) := by decide +kernel
theorem d_Reader_readOwn_79 : decode b_Reader_readOwn 79 = .ok (.lstore 6, 2) := by decide +kernel
theorem d_Reader_readOwn_81 : decode b_Reader_readOwn 81 = .ok (.goto 3, 3) := by decide +kernel
theorem d_Reader_readOwn_84 : decode b_Reader_readOwn 84 = .ok (.aload_n 0, 1) := by decide +kernel
theorem d_Reader_readOwn_85 : decode b_Reader_readOwn 85 = .ok (.invokevirtual 30, 3) := by decide +kernel
theorem d_Reader_readOwn_88 : decode b_Reader_readOwn 88 = .ok (.ifCond .eq 14, 3) := by decide +kernel
theorem d_Reader_readOwn_91 : decode b_Reader_readOwn 91 = .ok (.aload_n 0, 1) := by decide +kernel
theorem d_Reader_readOwn_92 : decode b_Reader_readOwn 92 = .ok (.aload_n 1, 1) := by decide +kernel
theorem d_Reader_readOwn_93 : decode b_Reader_readOwn 93 = .ok (.iload_n 2, 1) := by decide +kernel
theorem d_Reader_readOwn_94 : decode b_Reader_readOwn 94 = .ok (.lload_n 3, 1) := by decide +kernel
theorem d_Reader_readOwn_95 : decode b_Reader_readOwn 95 = .ok (.lload 6, 2) := by decide +kernel
theorem d_Reader_readOwn_97 : decode b_Reader_readOwn 97 = .ok (.iload 8, 2) := by decide +kernel
theorem d_Reader_readOwn_99 : decode b_Reader_readOwn 99 = .ok (.invokevirtual 107, 3) := by decide +kernel
theorem d_Reader_readOwn_102 : decode b_Reader_readOwn 102 = .ok (.return_, 1) := by decide +kernel
theorem d_Reader_readSignal_0 : decode b_Reader_readSignal 0 = .ok (.aload_n 0, 1) := by decide +kernel
theorem d_Reader_readSignal_1 : decode b_Reader_readSignal 1 = .ok (.getfield 50, 3) := by decide +kernel
theorem d_Reader_readSignal_4 : decode b_Reader_readSignal 4 = .ok (.istore_n 1, 1) := by decide +kernel
theorem d_Reader_readSignal_5 : decode b_Reader_readSignal 5 = .ok (.aload_n 0, 1) := by decide +kernel
theorem d_Reader_readSignal_6 : decode b_Reader_readSignal 6 = .ok (.invokevirtual 72, 3) := by decide +kernel
theorem d_Reader_readSignal_9 : decode b_Reader_readSignal 9 = .ok (.istore_n 2, 1) := by decide +kernel
theorem d_Reader_readSignal_10 : decode b_Reader_readSignal 10 = .ok (.aload_n 0, 1) := by decide +kernel
theorem d_Reader_readSignal_11 : decode b_Reader_readSignal 11 = .ok (.invokevirtual 30, 3) := by decide +kernel
theorem d_Reader_readSignal_14 : decode b_Reader_readSignal 14 = .ok (.ifCond .eq 16, 3) := by decide +kernel
theorem d_Reader_readSignal_17 : decode b_Reader_readSignal 17 = .ok (.iload_n 2, 1) := by decide +kernel
theorem d_Reader_readSignal_18 : decode b_Reader_readSignal 18 = .ok (.invokestatic 127, 3) := by decide +kernel
theorem d_Reader_readSignal_21 : decode b_Reader_readSignal 21 = .ok (.ifCond .ne 9, 3) := by decide +kernel
theorem d_Reader_readSignal_24 : decode b_Reader_readSignal 24 = .ok (.aload_n 0, 1) := by decide +kernel
theorem d_Reader_readSignal_25 : decode b_Reader_readSignal 25 = .ok (.iconst 5, 1) := by decide +kernel
theorem d_Reader_readSignal_26 : decode b_Reader_readSignal 26 = .ok (.iload_n 1, 1) := by decide +kernel
theorem d_Reader_readSignal_27 : decode b_Reader_readSignal 27 = .ok (.invokevirtual 36, 3) := by decide +kernel
theorem d_Reader_readSignal_30 : decode b_Reader_readSignal 30 = .ok (.iload_n 2, 1) := by decide +kernel
theorem d_Reader_readSignal_31 : decode b_Reader_readSignal 31 = .ok (.ireturn, 1) := by decide +kernel
theorem d_Reader_keep_0 : decode b_Reader_keep 0 = .ok (.aload_n 0, 1) := by decide +kernel
theorem d_Reader_keep_1 : decode b_Reader_keep 1 = .ok (.getfield 12, 3) := by decide +kernel
theorem d_Reader_keep_4 : decode b_Reader_keep 4 = .ok (.iload_n 2, 1) := by decide +kernel
theorem d_Reader_keep_5 : decode b_Reader_keep 5 = .ok (.aload_n 1, 1) := by decide +kernel
theorem d_Reader_keep_6 : decode b_Reader_keep 6 = .ok (.invokevirtual 40, 3) := by decide +kernel
theorem d_Reader_keep_9 : decode b_Reader_keep 9 = .ok (.invokevirtual 130, 3) := by decide +kernel
theorem d_Reader_keep_12 : decode b_Reader_keep 12 = .ok (.aload_n 1, 1) := by decide +kernel
theorem d_Reader_keep_13 : decode b_Reader_keep 13 = .ok (.iload_n 2, 1) := by decide +kernel
theorem d_Reader_keep_14 : decode b_Reader_keep 14 = .ok (.lload_n 3, 1) := by decide +kernel
theorem d_Reader_keep_15 : decode b_Reader_keep 15 = .ok (.lload 5, 2) := by decide +kernel
theorem d_Reader_keep_17 : decode b_Reader_keep 17 = .ok (.iload 7, 2) := by decide +kernel
theorem d_Reader_keep_19 : decode b_Reader_keep 19 = .ok (.invokevirtual 133, 3) := by decide +kernel
theorem d_Reader_keep_22 : decode b_Reader_keep 22 = .ok (.return_, 1) := by decide +kernel
theorem d_Reader_readVarint_0 : decode b_Reader_readVarint 0 = .ok (.aload_n 0, 1) := by decide +kernel
theorem d_Reader_readVarint_1 : decode b_Reader_readVarint 1 = .ok (.getfield 50, 3) := by decide +kernel
theorem d_Reader_readVarint_4 : decode b_Reader_readVarint 4 = .ok (.istore_n 2, 1) := by decide +kernel
theorem d_Reader_readVarint_5 : decode b_Reader_readVarint 5 = .ok (.lconst 0, 1) := by decide +kernel
theorem d_Reader_readVarint_6 : decode b_Reader_readVarint 6 = .ok (.lstore_n 3, 1) := by decide +kernel
theorem d_Reader_readVarint_7 : decode b_Reader_readVarint 7 = .ok (.iconst 0, 1) := by decide +kernel
theorem d_Reader_readVarint_8 : decode b_Reader_readVarint 8 = .ok (.istore 5, 2) := by decide +kernel
theorem d_Reader_readVarint_10 : decode b_Reader_readVarint 10 = .ok (.iload 5, 2) := by decide +kernel
theorem d_Reader_readVarint_12 : decode b_Reader_readVarint 12 = .ok (.bipush 7, 2) := by decide +kernel
theorem d_Reader_readVarint_14 : decode b_Reader_readVarint 14 = .ok (.if_icmp .ge 106, 3) := by decide +kernel
theorem d_Reader_readVarint_17 : decode b_Reader_readVarint 17 = .ok (.aload_n 0, 1) := by decide +kernel
theorem d_Reader_readVarint_18 : decode b_Reader_readVarint 18 = .ok (.invokevirtual 72, 3) := by decide +kernel
theorem d_Reader_readVarint_21 : decode b_Reader_readVarint 21 = .ok (.istore 6, 2) := by decide +kernel
theorem d_Reader_readVarint_23 : decode b_Reader_readVarint 23 = .ok (.aload_n 0, 1) := by decide +kernel
theorem d_Reader_readVarint_24 : decode b_Reader_readVarint 24 = .ok (.invokevirtual 30, 3) := by decide +kernel
theorem d_Reader_readVarint_27 : decode b_Reader_readVarint 27 = .ok (.ifCond .ne 5, 3) := by decide +kernel
theorem d_Reader_readVarint_30 : decode b_Reader_readVarint 30 = .ok (.lconst 0, 1) := by decide +kernel
theorem d_Reader_readVarint_31 : decode b_Reader_readVarint 31 = .ok (.lreturn, 1) := by decide +kernel
theorem d_Reader_readVarint_32 : decode b_Reader_readVarint 32 = .ok (.lload_n 3, 1) := by decide +kernel
theorem d_Reader_readVarint_33 : decode b_Reader_readVarint 33 = .ok (.iload 6, 2) := by decide +kernel
theorem d_Reader_readVarint_35 : decode b_Reader_readVarint 35 = .ok (.bipush 127, 2) := by decide +kernel
theorem d_Reader_readVarint_37 : decode b_Reader_readVarint 37 = .ok (.iand, 1) := by decide +kernel
theorem d_Reader_readVarint_38 : decode b_Reader_readVarint 38 = .ok (.i2l, 1) := by decide +kernel
theorem d_Reader_readVarint_39 : decode b_Reader_readVarint 39 = .ok (.bipush 7, 2) := by decide +kernel
theorem d_Reader_readVarint_41 : decode b_Reader_readVarint 41 = .ok (.iload 5, 2) := by decide +kernel
theorem d_Reader_readVarint_43 : decode b_Reader_readVarint 43 = .ok (.imul, 1) := by decide +kernel
theorem d_Reader_readVarint_44 : decode b_Reader_readVarint 44 = .ok (.lshl, 1) := by decide +kernel
theorem d_Reader_readVarint_45 : decode b_Reader_readVarint 45 = .ok (.lor, 1) := by decide +kernel
theorem d_Reader_readVarint_46 : decode b_Reader_readVarint 46 = .ok (.lstore_n 3, 1) := by decide +kernel
theorem d_Reader_readVarint_47 : decode b_Reader_readVarint 47 = .ok (.iload 6, 2) := by decide +kernel
theorem d_Reader_readVarint_49 : decode b_Reader_readVarint 49 = .ok (.sipush 128, 3) := by decide +kernel
theorem d_Reader_readVarint_52 : decode b_Reader_readVarint 52 = .ok (.if_icmp .ge 62, 3) := by decide +kernel
theorem d_Reader_readVarint_55 : decode b_Reader_readVarint 55 = .ok (.iload 6, 2) := by decide +kernel
theorem d_Reader_readVarint_57 : decode b_Reader_readVarint 57 = .ok (.ifCond .ne 12, 3) := by decide +kernel
theorem d_Reader_readVarint_60 : decode b_Reader_readVarint 60 = .ok (.iload 5, 2) := by decide +kernel
theorem d_Reader_readVarint_62 : decode b_Reader_readVarint 62 = .ok (.ifCond .le 7, 3) := by decide +kernel
theorem d_Reader_readVarint_65 : decode b_Reader_readVarint 65 = .ok (.iconst 1, 1) := by decide +kernel
theorem d_Reader_readVarint_66 : decode b_Reader_readVarint 66 = .ok (.goto 4, 3) := by decide +kernel
theorem d_Reader_readVarint_69 : decode b_Reader_readVarint 69 = .ok (.iconst 0, 1) := by decide +kernel
theorem d_Reader_readVarint_70 : decode b_Reader_readVarint 70 = .ok (.istore 7, 2) := by decide +kernel
theorem d_Reader_readVarint_72 : decode b_Reader_readVarint 72 = .ok (.iload 7, 2) := by decide +kernel
theorem d_Reader_readVarint_74 : decode b_Reader_readVarint 74 = .ok (.ifCond .ne 11, 3) := by decide +kernel
theorem d_Reader_readVarint_77 : decode b_Reader_readVarint 77 = .ok (.lload_n 3, 1) := by decide +kernel
theorem d_Reader_readVarint_78 : decode b_Reader_readVarint 78 = .ok (.ldc2_w 137, 3) := by decide +kernel
theorem d_Reader_readVarint_81 : decode b_Reader_readVarint 81 = .ok (.lcmp, 1) := by decide +kernel
theorem d_Reader_readVarint_82 : decode b_Reader_readVarint 82 = .ok (.ifCond .le 17, 3) := by decide +kernel
theorem d_Reader_readVarint_85 : decode b_Reader_readVarint 85 = .ok (.aload_n 0, 1) := by decide +kernel
theorem d_Reader_readVarint_86 : decode b_Reader_readVarint 86 = .ok (.iconst 3, 1) := by decide +kernel
theorem d_Reader_readVarint_87 : decode b_Reader_readVarint 87 = .ok (.aload_n 0, 1) := by decide +kernel
theorem d_Reader_readVarint_88 : decode b_Reader_readVarint 88 = .ok (.getfield 50, 3) := by decide +kernel
theorem d_Reader_readVarint_91 : decode b_Reader_readVarint 91 = .ok (.iconst 1, 1) := by decide +kernel
theorem d_Reader_readVarint_92 : decode b_Reader_readVarint 92 = .ok (.isub, 1) := by decide +kernel
theorem d_Reader_readVarint_93 : decode b_Reader_readVarint 93 = .ok (.invokevirtual 36, 3) := by decide +kernel
theorem d_Reader_readVarint_96 : decode b_Reader_readVarint 96 = .ok (.goto 16, 3) := by decide +kernel
theorem d_Reader_readVarint_99 : decode b_Reader_readVarint 99 = .ok (.lload_n 3, 1) := by decide +kernel
theorem d_Reader_readVarint_100 : decode b_Reader_readVarint 100 = .ok (.iload_n 1, 1) := by decide +kernel
theorem d_Reader_readVarint_101 : decode b_Reader_readVarint 101 = .ok (.i2l, 1) := by decide +kernel
theorem d_Reader_readVarint_102 : decode b_Reader_readVarint 102 = .ok (.lcmp, 1) := by decide +kernel
theorem d_Reader_readVarint_103 : decode b_Reader_readVarint 103 = .ok (.ifCond .ge 9, 3) := by decide +kernel
theorem d_Reader_readVarint_106 : decode b_Reader_readVarint 106 = .ok (.aload_n 0, 1) := by decide +kernel
theorem d_Reader_readVarint_107 : decode b_Reader_readVarint 107 = .ok (.iconst 5, 1) := by decide +kernel
theorem d_Reader_readVarint_108 : decode b_Reader_readVarint 108 = .ok (.iload_n 2, 1) := by decide +kernel
theorem d_Reader_readVarint_109 : decode b_Reader_readVarint 109 = .ok (.invokevirtual 36, 3) := by decide +kernel
theorem d_Reader_readVarint_112 : decode b_Reader_readVarint 112 = .ok (.lload_n 3, 1) := by decide +kernel
theorem d_Reader_readVarint_113 : decode b_Reader_readVarint 113 = .ok (.lreturn, 1) := by decide +kernel
theorem d_Reader_readVarint_114 : decode b_Reader_readVarint 114 = .ok (.iinc 5 1, 3) := by decide +kernel
theorem d_Reader_readVarint_117 : decode b_Reader_readVarint 117 = .ok (.goto (-107), 3) := by decide +kernel
theorem d_Reader_readVarint_120 : decode b_Reader_readVarint 120 = .ok (.aload_n 0, 1) := by decide +kernel
theorem d_Reader_readVarint_121 : decode b_Reader_readVarint 121 = .ok (.iconst 3, 1) := by decide +kernel
theorem d_Reader_readVarint_122 : decode b_Reader_readVarint 122 = .ok (.aload_n 0, 1) := by decide +kernel
theorem d_Reader_readVarint_123 : decode b_Reader_readVarint 123 = .ok (.getfield 50, 3) := by decide +kernel
theorem d_Reader_readVarint_126 : decode b_Reader_readVarint 126 = .ok (.iconst 1, 1) := by decide +kernel
theorem d_Reader_readVarint_127 : decode b_Reader_readVarint 127 = .ok (.isub, 1) := by decide +kernel
theorem d_Reader_readVarint_128 : decode b_Reader_readVarint 128 = .ok (.invokevirtual 36, 3) := by decide +kernel
theorem d_Reader_readVarint_131 : decode b_Reader_readVarint 131 = .ok (.lconst 0, 1) := by decide +kernel
theorem d_Reader_readVarint_132 : decode b_Reader_readVarint 132 = .ok (.lreturn, 1) := by decide +kernel
theorem d_Reader_readBytes_0 : decode b_Reader_readBytes 0 = .ok (.lconst 0, 1) := by decide +kernel
theorem d_Reader_readBytes_1 : decode b_Reader_readBytes 1 = .ok (.lstore_n 2, 1) := by decide +kernel
theorem d_Reader_readBytes_2 : decode b_Reader_readBytes 2 = .ok (.iconst 0, 1) := by decide +kernel
theorem d_Reader_readBytes_3 : decode b_Reader_readBytes 3 = .ok (.istore 4, 2) := by decide +kernel
theorem d_Reader_readBytes_5 : decode b_Reader_readBytes 5 = .ok (.iload 4, 2) := by decide +kernel
theorem d_Reader_readBytes_7 : decode b_Reader_readBytes 7 = .ok (.iload_n 1, 1) := by decide +kernel
theorem d_Reader_readBytes_8 : decode b_Reader_readBytes 8 = .ok (.if_icmp .ge 27, 3) := by decide +kernel
theorem d_Reader_readBytes_11 : decode b_Reader_readBytes 11 = .ok (.aload_n 0, 1) := by decide +kernel
theorem d_Reader_readBytes_12 : decode b_Reader_readBytes 12 = .ok (.invokevirtual 30, 3) := by decide +kernel
theorem d_Reader_readBytes_15 : decode b_Reader_readBytes 15 = .ok (.ifCond .eq 20, 3) := by decide +kernel
theorem d_Reader_readBytes_18 : decode b_Reader_readBytes 18 = .ok (.lload_n 2, 1) := by decide +kernel
theorem d_Reader_readBytes_19 : decode b_Reader_readBytes 19 = .ok (.bipush 8, 2) := by decide +kernel
theorem d_Reader_readBytes_21 : decode b_Reader_readBytes 21 = .ok (.lshl, 1) := by decide +kernel
theorem d_Reader_readBytes_22 : decode b_Reader_readBytes 22 = .ok (.aload_n 0, 1) := by decide +kernel
theorem d_Reader_readBytes_23 : decode b_Reader_readBytes 23 = .ok (.invokevirtual 72, 3) := by decide +kernel
theorem d_Reader_readBytes_26 : decode b_Reader_readBytes 26 = .ok (.i2l, 1) := by decide +kernel
theorem d_Reader_readBytes_27 : decode b_Reader_readBytes 27 = .ok (.lor, 1) := by decide +kernel
theorem d_Reader_readBytes_28 : decode b_Reader_readBytes 28 = .ok (.lstore_n 2, 1) := by decide +kernel
theorem d_Reader_readBytes_29 : decode b_Reader_readBytes 29 = .ok (.iinc 4 1, 3) := by decide +kernel
theorem d_Reader_readBytes_32 : decode b_Reader_readBytes 32 = .ok (.goto (-27), 3) := by decide +kernel
theorem d_Reader_readBytes_35 : decode b_Reader_readBytes 35 = .ok (.lload_n 2, 1) := by decide +kernel
theorem d_Reader_readBytes_36 : decode b_Reader_readBytes 36 = .ok (.lreturn, 1) := by decide +kernel
theorem d_Reader_readByte_0 : decode b_Reader_readByte 0 = .ok (.aload_n 0, 1) := by decide +kernel
theorem d_Reader_readByte_1 : decode b_Reader_readByte 1 = .ok (.getfield 50, 3) := by decide +kernel
theorem d_Reader_readByte_4 : decode b_Reader_readByte 4 = .ok (.aload_n 0, 1) := by decide +kernel
theorem d_Reader_readByte_5 : decode b_Reader_readByte 5 = .ok (.getfield 18, 3) := by decide +kernel
theorem d_Reader_readByte_8 : decode b_Reader_readByte 8 = .ok (.invokevirtual 54, 3) := by decide +kernel
theorem d_Reader_readByte_11 : decode b_Reader_readByte 11 = .ok (.if_icmp .lt 17, 3) := by decide +kernel
theorem d_Reader_readByte_14 : decode b_Reader_readByte 14 = .ok (.aload_n 0, 1) := by decide +kernel
theorem d_Reader_readByte_15 : decode b_Reader_readByte 15 = .ok (.iconst 2, 1) := by decide +kernel
theorem d_Reader_readByte_16 : decode b_Reader_readByte 16 = .ok (.aload_n 0, 1) := by decide +kernel
theorem d_Reader_readByte_17 : decode b_Reader_readByte 17 = .ok (.getfield 18, 3) := by decide +kernel
theorem d_Reader_readByte_20 : decode b_Reader_readByte 20 = .ok (.invokevirtual 54, 3) := by decide +kernel
theorem d_Reader_readByte_23 : decode b_Reader_readByte 23 = .ok (.invokevirtual 36, 3) := by decide +kernel
theorem d_Reader_readByte_26 : decode b_Reader_readByte 26 = .ok (.iconst 0, 1) := by decide +kernel
theorem d_Reader_readByte_27 : decode b_Reader_readByte 27 = .ok (.ireturn, 1) := by decide +kernel
theorem d_Reader_readByte_28 : decode b_Reader_readByte 28 = .ok (.aload_n 0, 1) := by decide +kernel
theorem d_Reader_readByte_29 : decode b_Reader_readByte 29 = .ok (.getfield 18, 3) := by decide +kernel
theorem d_Reader_readByte_32 : decode b_Reader_readByte 32 = .ok (.aload_n 0, 1) := by decide +kernel
theorem d_Reader_readByte_33 : decode b_Reader_readByte 33 = .ok (.getfield 50, 3) := by decide +kernel
theorem d_Reader_readByte_36 : decode b_Reader_readByte 36 = .ok (.invokevirtual 139, 3) := by decide +kernel
theorem d_Reader_readByte_39 : decode b_Reader_readByte 39 = .ok (.istore_n 1, 1) := by decide +kernel
theorem d_Reader_readByte_40 : decode b_Reader_readByte 40 = .ok (.aload_n 0, 1) := by decide +kernel
theorem d_Reader_readByte_41 : decode b_Reader_readByte 41 = .ok (.dup, 1) := by decide +kernel
theorem d_Reader_readByte_42 : decode b_Reader_readByte 42 = .ok (.getfield 50, 3) := by decide +kernel
theorem d_Reader_readByte_45 : decode b_Reader_readByte 45 = .ok (.iconst 1, 1) := by decide +kernel
theorem d_Reader_readByte_46 : decode b_Reader_readByte 46 = .ok (.iadd, 1) := by decide +kernel
theorem d_Reader_readByte_47 : decode b_Reader_readByte 47 = .ok (.putfield 50, 3) := by decide +kernel
theorem d_Reader_readByte_50 : decode b_Reader_readByte 50 = .ok (.iload_n 1, 1) := by decide +kernel
theorem d_Reader_readByte_51 : decode b_Reader_readByte 51 = .ok (.ireturn, 1) := by decide +kernel
end
section
theorem d_EventLog_init_0 : decode b_EventLog_init 0 = .ok (.aload_n 0, 1) := by decide +kernel
theorem d_EventLog_init_1 : decode b_EventLog_init 1 = .ok (.invokespecial 1, 3) := by decide +kernel
theorem d_EventLog_init_4 : decode b_EventLog_init 4 = .ok (.aload_n 0, 1) := by decide +kernel
theorem d_EventLog_init_5 : decode b_EventLog_init 5 = .ok (.new 7, 3) := by decide +kernel
theorem d_EventLog_init_8 : decode b_EventLog_init 8 = .ok (.dup, 1) := by decide +kernel
theorem d_EventLog_init_9 : decode b_EventLog_init 9 = .ok (.invokespecial 9, 3) := by decide +kernel
theorem d_EventLog_init_12 : decode b_EventLog_init 12 = .ok (.putfield 10, 3) := by decide +kernel
theorem d_EventLog_init_15 : decode b_EventLog_init 15 = .ok (.aload_n 0, 1) := by decide +kernel
theorem d_EventLog_init_16 : decode b_EventLog_init 16 = .ok (.new 7, 3) := by decide +kernel
theorem d_EventLog_init_19 : decode b_EventLog_init 19 = .ok (.dup, 1) := by decide +kernel
theorem d_EventLog_init_20 : decode b_EventLog_init 20 = .ok (.invokespecial 9, 3) := by decide +kernel
theorem d_EventLog_init_23 : decode b_EventLog_init 23 = .ok (.putfield 16, 3) := by decide +kernel
theorem d_EventLog_init_26 : decode b_EventLog_init 26 = .ok (.new 19, 3) := by decide +kernel
theorem d_EventLog_init_29 : decode b_EventLog_init 29 = .ok (.dup, 1) := by decide +kernel
theorem d_EventLog_init_30 : decode b_EventLog_init 30 = .ok (.invokespecial 21, 3) := by decide +kernel
theorem d_EventLog_init_33 : decode b_EventLog_init 33 = .ok (.astore_n 1, 1) := by decide +kernel
theorem d_EventLog_init_34 : decode b_EventLog_init 34 = .ok (.aload_n 0, 1) := by decide +kernel
theorem d_EventLog_init_35 : decode b_EventLog_init 35 = .ok (.aload_n 1, 1) := by decide +kernel
theorem d_EventLog_init_36 : decode b_EventLog_init 36 = .ok (.putfield 22, 3) := by decide +kernel
theorem d_EventLog_init_39 : decode b_EventLog_init 39 = .ok (.aload_n 0, 1) := by decide +kernel
theorem d_EventLog_init_40 : decode b_EventLog_init 40 = .ok (.new 26, 3) := by decide +kernel
theorem d_EventLog_init_43 : decode b_EventLog_init 43 = .ok (.dup, 1) := by decide +kernel
theorem d_EventLog_init_44 : decode b_EventLog_init 44 = .ok (.aload_n 1, 1) := by decide +kernel
theorem d_EventLog_init_45 : decode b_EventLog_init 45 = .ok (.invokespecial 28, 3) := by decide +kernel
theorem d_EventLog_init_48 : decode b_EventLog_init 48 = .ok (.putfield 31, 3) := by decide +kernel
theorem d_EventLog_init_51 : decode b_EventLog_init 51 = .ok (.aload_n 0, 1) := by decide +kernel
theorem d_EventLog_init_52 : decode b_EventLog_init 52 = .ok (.new 35, 3) := by decide +kernel
theorem d_EventLog_init_55 : decode b_EventLog_init 55 = .ok (.dup, 1) := by decide +kernel
theorem d_EventLog_init_56 : decode b_EventLog_init 56 = .ok (.aload_n 1, 1) := by decide +kernel
theorem d_EventLog_init_57 : decode b_EventLog_init 57 = .ok (.invokespecial 37, 3) := by decide +kernel
theorem d_EventLog_init_60 : decode b_EventLog_init 60 = .ok (.putfield 38, 3) := by decide +kernel
theorem d_EventLog_init_63 : decode b_EventLog_init 63 = .ok (.return_, 1) := by decide +kernel
theorem d_EventLog_add_0 : decode b_EventLog_add 0 = .ok (.iload_n 1, 1) := by decide +kernel
theorem d_EventLog_add_1 : decode b_EventLog_add 1 = .ok (.lload_n 2, 1) := by decide +kernel
theorem d_EventLog_add_2 : decode b_EventLog_add 2 = .ok (.lload 4, 2) := by decide +kernel
theorem d_EventLog_add_4 : decode b_EventLog_add 4 = .ok (.iload 6, 2) := by decide +kernel
theorem d_EventLog_add_6 : decode b_EventLog_add 6 = .ok (.invokestatic 42, 3) := by decide +kernel
theorem d_EventLog_add_9 : decode b_EventLog_add 9 = .ok (.ifCond .ne 13, 3) := by decide +kernel
theorem d_EventLog_add_12 : decode b_EventLog_add 12 = .ok (.new 46, 3) := by decide +kernel
theorem d_EventLog_add_15 : decode b_EventLog_add 15 = .ok (.dup, 1) := by decide +kernel
theorem d_EventLog_add_16 : decode b_EventLog_add 16 = .ok (.ldc 48, 2) := by decide +kernel
theorem d_EventLog_add_18 : decode b_EventLog_add 18 = .ok (.invokespecial 50, 3) := by decide +kernel
theorem d_EventLog_add_21 : decode b_EventLog_add 21 = .ok (.athrow, 1) := by decide +kernel
theorem d_EventLog_add_22 : decode b_EventLog_add 22 = .ok (.aload_n 0, 1) := by decide +kernel
theorem d_EventLog_add_23 : decode b_EventLog_add 23 = .ok (.getfield 10, 3) := by decide +kernel
theorem d_EventLog_add_26 : decode b_EventLog_add 26 = .ok (.invokevirtual 53, 3) := by decide +kernel
theorem d_EventLog_add_29 : decode b_EventLog_add 29 = .ok (.sipush 300, 3) := by decide +kernel
theorem d_EventLog_add_32 : decode b_EventLog_add 32 = .ok (.if_icmp .lt 13, 3) := by decide +kernel
theorem d_EventLog_add_35 : decode b_EventLog_add 35 = .ok (.new 57, 3) := by decide +kernel
theorem d_EventLog_add_38 : decode b_EventLog_add 38 = .ok (.dup, 1) := by decide +kernel
theorem d_EventLog_add_39 : decode b_EventLog_add 39 = .ok (.ldc 59, 2) := by decide +kernel
theorem d_EventLog_add_41 : decode b_EventLog_add 41 = .ok (.invokespecial 61, 3) := by decide +kernel
theorem d_EventLog_add_44 : decode b_EventLog_add 44 = .ok (.athrow, 1) := by decide +kernel
theorem d_EventLog_add_45 : decode b_EventLog_add 45 = .ok (.aload_n 0, 1) := by decide +kernel
theorem d_EventLog_add_46 : decode b_EventLog_add 46 = .ok (.getfield 10, 3) := by decide +kernel
theorem d_EventLog_add_49 : decode b_EventLog_add 49 = .ok (.iload_n 1, 1) := by decide +kernel
theorem d_EventLog_add_50 : decode b_EventLog_add 50 = .ok (.lload_n 2, 1) := by decide +kernel
theorem d_EventLog_add_51 : decode b_EventLog_add 51 = .ok (.iload_n 1, 1) := by decide +kernel
theorem d_EventLog_add_52 : decode b_EventLog_add 52 = .ok (.lload 4, 2) := by decide +kernel
theorem d_EventLog_add_54 : decode b_EventLog_add 54 = .ok (.iload 6, 2) := by decide +kernel
theorem d_EventLog_add_56 : decode b_EventLog_add 56 = .ok (.invokestatic 62, 3) := by decide +kernel
theorem d_EventLog_add_59 : decode b_EventLog_add 59 = .ok (.iload_n 1, 1) := by decide +kernel
theorem d_EventLog_add_60 : decode b_EventLog_add 60 = .ok (.iload 6, 2) := by decide +kernel
theorem d_EventLog_add_62 : decode b_EventLog_add 62 = .ok (.invokestatic 66, 3) := by decide +kernel
theorem d_EventLog_add_65 : decode b_EventLog_add 65 = .ok (.invokevirtual 70, 3) := by decide +kernel
theorem d_EventLog_add_68 : decode b_EventLog_add 68 = .ok (.aload_n 0, 1) := by decide +kernel
theorem d_EventLog_add_69 : decode b_EventLog_add 69 = .ok (.getfield 10, 3) := by decide +kernel
theorem d_EventLog_add_72 : decode b_EventLog_add 72 = .ok (.invokevirtual 53, 3) := by decide +kernel
theorem d_EventLog_add_75 : decode b_EventLog_add 75 = .ok (.ireturn, 1) := by decide +kernel
theorem d_EventLog_drop_0 : decode b_EventLog_drop 0 = .ok (.aload_n 0, 1) := by decide +kernel
theorem d_EventLog_drop_1 : decode b_EventLog_drop 1 = .ok (.getfield 10, 3) := by decide +kernel
theorem d_EventLog_drop_4 : decode b_EventLog_drop 4 = .ok (.invokevirtual 53, 3) := by decide +kernel
theorem d_EventLog_drop_7 : decode b_EventLog_drop 7 = .ok (.istore_n 2, 1) := by decide +kernel
theorem d_EventLog_drop_8 : decode b_EventLog_drop 8 = .ok (.iload_n 1, 1) := by decide +kernel
theorem d_EventLog_drop_9 : decode b_EventLog_drop 9 = .ok (.ifCond .lt 8, 3) := by decide +kernel
theorem d_EventLog_drop_12 : decode b_EventLog_drop 12 = .ok (.iload_n 1, 1) := by decide +kernel
theorem d_EventLog_drop_13 : decode b_EventLog_drop 13 = .ok (.iload_n 2, 1) := by decide +kernel
theorem d_EventLog_drop_14 : decode b_EventLog_drop 14 = .ok (.if_icmp .le 13, 3) := by decide +kernel
theorem d_EventLog_drop_17 : decode b_EventLog_drop 17 = .ok (.new 46, 3) := by decide +kernel
theorem d_EventLog_drop_20 : decode b_EventLog_drop 20 = .ok (.dup, 1) := by decide +kernel
theorem d_EventLog_drop_21 : decode b_EventLog_drop 21 = .ok (.ldc 74, 2) := by decide +kernel
theorem d_EventLog_drop_23 : decode b_EventLog_drop 23 = .ok (.invokespecial 50, 3) := by decide +kernel
theorem d_EventLog_drop_26 : decode b_EventLog_drop 26 = .ok (.athrow, 1) := by decide +kernel
theorem d_EventLog_drop_27 : decode b_EventLog_drop 27 = .ok (.aload_n 0, 1) := by decide +kernel
theorem d_EventLog_drop_28 : decode b_EventLog_drop 28 = .ok (.getfield 10, 3) := by decide +kernel
theorem d_EventLog_drop_31 : decode b_EventLog_drop 31 = .ok (.iload_n 1, 1) := by decide +kernel
theorem d_EventLog_drop_32 : decode b_EventLog_drop 32 = .ok (.invokevirtual 76, 3) := by decide +kernel
theorem d_EventLog_drop_35 : decode b_EventLog_drop 35 = .ok (.iload_n 2, 1) := by decide +kernel
theorem d_EventLog_drop_36 : decode b_EventLog_drop 36 = .ok (.iload_n 1, 1) := by decide +kernel
theorem d_EventLog_drop_37 : decode b_EventLog_drop 37 = .ok (.isub, 1) := by decide +kernel
theorem d_EventLog_drop_38 : decode b_EventLog_drop 38 = .ok (.ireturn, 1) := by decide +kernel
theorem d_EventLog_pack_0 : decode b_EventLog_pack 0 = .ok (.aload_n 0, 1) := by decide +kernel
theorem d_EventLog_pack_1 : decode b_EventLog_pack 1 = .ok (.getfield 31, 3) := by decide +kernel
theorem d_EventLog_pack_4 : decode b_EventLog_pack 4 = .ok (.aload_n 0, 1) := by decide +kernel
theorem d_EventLog_pack_5 : decode b_EventLog_pack 5 = .ok (.getfield 10, 3) := by decide +kernel
theorem d_EventLog_pack_8 : decode b_EventLog_pack 8 = .ok (.iconst 1, 1) := by decide +kernel
theorem d_EventLog_pack_9 : decode b_EventLog_pack 9 = .ok (.invokevirtual 80, 3) := by decide +kernel
theorem d_EventLog_pack_12 : decode b_EventLog_pack 12 = .ok (.aload_n 0, 1) := by decide +kernel
theorem d_EventLog_pack_13 : decode b_EventLog_pack 13 = .ok (.getfield 31, 3) := by decide +kernel
theorem d_EventLog_pack_16 : decode b_EventLog_pack 16 = .ok (.invokevirtual 84, 3) := by decide +kernel
theorem d_EventLog_pack_19 : decode b_EventLog_pack 19 = .ok (.ireturn, 1) := by decide +kernel
theorem d_EventLog_size_0 : decode b_EventLog_size 0 = .ok (.aload_n 0, 1) := by decide +kernel
theorem d_EventLog_size_1 : decode b_EventLog_size 1 = .ok (.getfield 31, 3) := by decide +kernel
theorem d_EventLog_size_4 : decode b_EventLog_size 4 = .ok (.aload_n 0, 1) := by decide +kernel
theorem d_EventLog_size_5 : decode b_EventLog_size 5 = .ok (.getfield 10, 3) := by decide +kernel
theorem d_EventLog_size_8 : decode b_EventLog_size 8 = .ok (.iconst 0, 1) := by decide +kernel
theorem d_EventLog_size_9 : decode b_EventLog_size 9 = .ok (.invokevirtual 80, 3) := by decide +kernel
theorem d_EventLog_size_12 : decode b_EventLog_size 12 = .ok (.aload_n 0, 1) := by decide +kernel
theorem d_EventLog_size_13 : decode b_EventLog_size 13 = .ok (.getfield 31, 3) := by decide +kernel
theorem d_EventLog_size_16 : decode b_EventLog_size 16 = .ok (.invokevirtual 84, 3) := by decide +kernel
theorem d_EventLog_size_19 : decode b_EventLog_size 19 = .ok (.ireturn, 1) := by decide +kernel
theorem d_EventLog_read_0 : decode b_EventLog_read 0 = .ok (.aload_n 0, 1) := by decide +kernel
theorem d_EventLog_read_1 : decode b_EventLog_read 1 = .ok (.getfield 38, 3) := by decide +kernel
theorem d_EventLog_read_4 : decode b_EventLog_read 4 = .ok (.aload_n 0, 1) := by decide +kernel
theorem d_EventLog_read_5 : decode b_EventLog_read 5 = .ok (.getfield 16, 3) := by decide +kernel
theorem d_EventLog_read_8 : decode b_EventLog_read 8 = .ok (.invokevirtual 87, 3) := by decide +kernel
theorem d_EventLog_read_11 : decode b_EventLog_read 11 = .ok (.istore_n 1, 1) := by decide +kernel
theorem d_EventLog_read_12 : decode b_EventLog_read 12 = .ok (.iload_n 1, 1) := by decide +kernel
theorem d_EventLog_read_13 : decode b_EventLog_read 13 = .ok (.ifCond .lt 21, 3) := by decide +kernel
theorem d_EventLog_read_16 : decode b_EventLog_read 16 = .ok (.aload_n 0, 1) := by decide +kernel
theorem d_EventLog_read_17 : decode b_EventLog_read 17 = .ok (.getfield 10, 3) := by decide +kernel
theorem d_EventLog_read_20 : decode b_EventLog_read 20 = .ok (.astore_n 2, 1) := by decide +kernel
theorem d_EventLog_read_21 : decode b_EventLog_read 21 = .ok (.aload_n 0, 1) := by decide +kernel
theorem d_EventLog_read_22 : decode b_EventLog_read 22 = .ok (.aload_n 0, 1) := by decide +kernel
theorem d_EventLog_read_23 : decode b_EventLog_read 23 = .ok (.getfield 16, 3) := by decide +kernel
theorem d_EventLog_read_26 : decode b_EventLog_read 26 = .ok (.putfield 10, 3) := by decide +kernel
theorem d_EventLog_read_29 : decode b_EventLog_read 29 = .ok (.aload_n 0, 1) := by decide +kernel
theorem d_EventLog_read_30 : decode b_EventLog_read 30 = .ok (.aload_n 2, 1) := by decide +kernel
theorem d_EventLog_read_31 : decode b_EventLog_read 31 = .ok (.putfield 16, 3) := by decide +kernel
theorem d_EventLog_read_34 : decode b_EventLog_read 34 = .ok (.iload_n 1, 1) := by decide +kernel
theorem d_EventLog_read_35 : decode b_EventLog_read 35 = .ok (.ireturn, 1) := by decide +kernel
theorem d_EventLog_poke_0 : decode b_EventLog_poke 0 = .ok (.iload_n 2, 1) := by decide +kernel
theorem d_EventLog_poke_1 : decode b_EventLog_poke 1 = .ok (.ifCond .lt 10, 3) := by decide +kernel
theorem d_EventLog_poke_4 : decode b_EventLog_poke 4 = .ok (.iload_n 2, 1) := by decide +kernel
theorem d_EventLog_poke_5 : decode b_EventLog_poke 5 = .ok (.sipush 255, 3) := by decide +kernel
theorem d_EventLog_poke_8 : decode b_EventLog_poke 8 = .ok (.if_icmp .le 13, 3) := by decide +kernel
theorem d_EventLog_poke_11 : decode b_EventLog_poke 11 = .ok (.new 46, 3) := by decide +kernel
theorem d_EventLog_poke_14 : decode b_EventLog_poke 14 = .ok (.dup, 1) := by decide +kernel
theorem d_EventLog_poke_15 : decode b_EventLog_poke 15 = .ok (.ldc 90, 2) := by decide +kernel
theorem d_EventLog_poke_17 : decode b_EventLog_poke 17 = .ok (.invokespecial 50, 3) := by decide +kernel
theorem d_EventLog_poke_20 : decode b_EventLog_poke 20 = .ok (.athrow, 1) := by decide +kernel
theorem d_EventLog_poke_21 : decode b_EventLog_poke 21 = .ok (.iload_n 1, 1) := by decide +kernel
theorem d_EventLog_poke_22 : decode b_EventLog_poke 22 = .ok (.ifCond .lt 14, 3) := by decide +kernel
theorem d_EventLog_poke_25 : decode b_EventLog_poke 25 = .ok (.iload_n 1, 1) := by decide +kernel
theorem d_EventLog_poke_26 : decode b_EventLog_poke 26 = .ok (.aload_n 0, 1) := by decide +kernel
theorem d_EventLog_poke_27 : decode b_EventLog_poke 27 = .ok (.getfield 22, 3) := by decide +kernel
theorem d_EventLog_poke_30 : decode b_EventLog_poke 30 = .ok (.invokevirtual 92, 3) := by decide +kernel
theorem d_EventLog_poke_33 : decode b_EventLog_poke 33 = .ok (.if_icmp .le 13, 3) := by decide +kernel
theorem d_EventLog_poke_36 : decode b_EventLog_poke 36 = .ok (.new 95, 3) := by decide +kernel
theorem d_EventLog_poke_39 : decode b_EventLog_poke 39 = .ok (.dup, 1) := by decide +kernel
theorem d_EventLog_poke_40 : decode b_EventLog_poke 40 = .ok (.ldc 97, 2) := by decide +kernel
theorem d_EventLog_poke_42 : decode b_EventLog_poke 42 = .ok (.invokespecial 99, 3) := by decide +kernel
theorem d_EventLog_poke_45 : decode b_EventLog_poke 45 = .ok (.athrow, 1) := by decide +kernel
theorem d_EventLog_poke_46 : decode b_EventLog_poke 46 = .ok (.iload_n 1, 1) := by decide +kernel
theorem d_EventLog_poke_47 : decode b_EventLog_poke 47 = .ok (.sipush 5000, 3) := by decide +kernel
theorem d_EventLog_poke_50 : decode b_EventLog_poke 50 = .ok (.if_icmp .lt 13, 3) := by decide +kernel
theorem d_EventLog_poke_53 : decode b_EventLog_poke 53 = .ok (.new 57, 3) := by decide +kernel
theorem d_EventLog_poke_56 : decode b_EventLog_poke 56 = .ok (.dup, 1) := by decide +kernel
theorem d_EventLog_poke_57 : decode b_EventLog_poke 57 = .ok (.ldc 100, 2) := by decide +kernel
theorem d_EventLog_poke_59 : decode b_EventLog_poke 59 = .ok (.invokespecial 61, 3) := by decide +kernel
theorem d_EventLog_poke_62 : decode b_EventLog_poke 62 = .ok (.athrow, 1) := by decide +kernel
theorem d_EventLog_poke_63 : decode b_EventLog_poke 63 = .ok (.iload_n 1, 1) := by decide +kernel
theorem d_EventLog_poke_64 : decode b_EventLog_poke 64 = .ok (.aload_n 0, 1) := by decide +kernel
theorem d_EventLog_poke_65 : decode b_EventLog_poke 65 = .ok (.getfield 22, 3) := by decide +kernel
theorem d_EventLog_poke_68 : decode b_EventLog_poke 68 = .ok (.invokevirtual 92, 3) := by decide +kernel
theorem d_EventLog_poke_71 : decode b_EventLog_poke 71 = .ok (.if_icmp .ne 14, 3) := by decide +kernel
theorem d_EventLog_poke_74 : decode b_EventLog_poke 74 = .ok (.aload_n 0, 1) := by decide +kernel
theorem d_EventLog_poke_75 : decode b_EventLog_poke 75 = .ok (.getfield 22, 3) := by decide +kernel
theorem d_EventLog_poke_78 : decode b_EventLog_poke 78 = .ok (.iload_n 2, 1) := by decide +kernel
theorem d_EventLog_poke_79 : decode b_EventLog_poke 79 = .ok (.invokevirtual 102, 3) := by decide +kernel
theorem d_EventLog_poke_82 : decode b_EventLog_poke 82 = .ok (.goto 12, 3) := by decide +kernel
theorem d_EventLog_poke_85 : decode b_EventLog_poke 85 = .ok (.aload_n 0, 1) := by decide +kernel
theorem d_EventLog_poke_86 : decode b_EventLog_poke 86 = .ok (.getfield 22, 3) := by decide +kernel
theorem d_EventLog_poke_89 : decode b_EventLog_poke 89 = .ok (.iload_n 1, 1) := by decide +kernel
theorem d_EventLog_poke_90 : decode b_EventLog_poke 90 = .ok (.iload_n 2, 1) := by decide +kernel
theorem d_EventLog_poke_91 : decode b_EventLog_poke 91 = .ok (.invokevirtual 104, 3) := by decide +kernel
theorem d_EventLog_poke_94 : decode b_EventLog_poke 94 = .ok (.return_, 1) := by decide +kernel
theorem d_EventLog_cut_0 : decode b_EventLog_cut 0 = .ok (.aload_n 0, 1) := by decide +kernel
theorem d_EventLog_cut_1 : decode b_EventLog_cut 1 = .ok (.getfield 22, 3) := by decide +kernel
theorem d_EventLog_cut_4 : decode b_EventLog_cut 4 = .ok (.invokevirtual 92, 3) := by decide +kernel
theorem d_EventLog_cut_7 : decode b_EventLog_cut 7 = .ok (.istore_n 2, 1) := by decide +kernel
theorem d_EventLog_cut_8 : decode b_EventLog_cut 8 = .ok (.iload_n 1, 1) := by decide +kernel
theorem d_EventLog_cut_9 : decode b_EventLog_cut 9 = .ok (.ifCond .lt 8, 3) := by decide +kernel
theorem d_EventLog_cut_12 : decode b_EventLog_cut 12 = .ok (.iload_n 1, 1) := by decide +kernel
theorem d_EventLog_cut_13 : decode b_EventLog_cut 13 = .ok (.iload_n 2, 1) := by decide +kernel
theorem d_EventLog_cut_14 : decode b_EventLog_cut 14 = .ok (.if_icmp .le 13, 3) := by decide +kernel
theorem d_EventLog_cut_17 : decode b_EventLog_cut 17 = .ok (.new 95, 3) := by decide +kernel
theorem d_EventLog_cut_20 : decode b_EventLog_cut 20 = .ok (.dup, 1) := by decide +kernel
theorem d_EventLog_cut_21 : decode b_EventLog_cut 21 = .ok (.ldc 108, 2) := by decide +kernel
theorem d_EventLog_cut_23 : decode b_EventLog_cut 23 = .ok (.invokespecial 99, 3) := by decide +kernel
theorem d_EventLog_cut_26 : decode b_EventLog_cut 26 = .ok (.athrow, 1) := by decide +kernel
theorem d_EventLog_cut_27 : decode b_EventLog_cut 27 = .ok (.aload_n 0, 1) := by decide +kernel
theorem d_EventLog_cut_28 : decode b_EventLog_cut 28 = .ok (.getfield 22, 3) := by decide +kernel
theorem d_EventLog_cut_31 : decode b_EventLog_cut 31 = .ok (.iload_n 1, 1) := by decide +kernel
theorem d_EventLog_cut_32 : decode b_EventLog_cut 32 = .ok (.invokevirtual 110, 3) := by decide +kernel
theorem d_EventLog_cut_35 : decode b_EventLog_cut 35 = .ok (.iload_n 2, 1) := by decide +kernel
theorem d_EventLog_cut_36 : decode b_EventLog_cut 36 = .ok (.iload_n 1, 1) := by decide +kernel
theorem d_EventLog_cut_37 : decode b_EventLog_cut 37 = .ok (.isub, 1) := by decide +kernel
theorem d_EventLog_cut_38 : decode b_EventLog_cut 38 = .ok (.ireturn, 1) := by decide +kernel
theorem d_EventLog_byteAt_0 : decode b_EventLog_byteAt 0 = .ok (.iload_n 1, 1) := by decide +kernel
theorem d_EventLog_byteAt_1 : decode b_EventLog_byteAt 1 = .ok (.ifCond .lt 14, 3) := by decide +kernel
theorem d_EventLog_byteAt_4 : decode b_EventLog_byteAt 4 = .ok (.iload_n 1, 1) := by decide +kernel
theorem d_EventLog_byteAt_5 : decode b_EventLog_byteAt 5 = .ok (.aload_n 0, 1) := by decide +kernel
theorem d_EventLog_byteAt_6 : decode b_EventLog_byteAt 6 = .ok (.getfield 22, 3) := by decide +kernel
theorem d_EventLog_byteAt_9 : decode b_EventLog_byteAt 9 = .ok (.invokevirtual 92, 3) := by decide +kernel
theorem d_EventLog_byteAt_12 : decode b_EventLog_byteAt 12 = .ok (.if_icmp .lt 13, 3) := by decide +kernel
theorem d_EventLog_byteAt_15 : decode b_EventLog_byteAt 15 = .ok (.new 95, 3) := by decide +kernel
theorem d_EventLog_byteAt_18 : decode b_EventLog_byteAt 18 = .ok (.dup, 1) := by decide +kernel
theorem d_EventLog_byteAt_19 : decode b_EventLog_byteAt 19 = .ok (.ldc 111, 2) := by decide +kernel
theorem d_EventLog_byteAt_21 : decode b_EventLog_byteAt 21 = .ok (.invokespecial 99, 3) := by decide +kernel
theorem d_EventLog_byteAt_24 : decode b_EventLog_byteAt 24 = .ok (.athrow, 1) := by decide +kernel
theorem d_EventLog_byteAt_25 : decode b_EventLog_byteAt 25 = .ok (.aload_n 0, 1) := by decide +kernel
theorem d_EventLog_byteAt_26 : decode b_EventLog_byteAt 26 = .ok (.getfield 22, 3) := by decide +kernel
theorem d_EventLog_byteAt_29 : decode b_EventLog_byteAt 29 = .ok (.iload_n 1, 1) := by decide +kernel
theorem d_EventLog_byteAt_30 : decode b_EventLog_byteAt 30 = .ok (.invokevirtual 113, 3) := by decide +kernel
theorem d_EventLog_byteAt_33 : decode b_EventLog_byteAt 33 = .ok (.ireturn, 1) := by decide +kernel
theorem d_EventLog_event_0 : decode b_EventLog_event 0 = .ok (.aload_n 0, 1) := by decide +kernel
theorem d_EventLog_event_1 : decode b_EventLog_event 1 = .ok (.getfield 10, 3) := by decide +kernel
theorem d_EventLog_event_4 : decode b_EventLog_event 4 = .ok (.iload_n 1, 1) := by decide +kernel
theorem d_EventLog_event_5 : decode b_EventLog_event 5 = .ok (.invokevirtual 117, 3) := by decide +kernel
theorem d_EventLog_event_8 : decode b_EventLog_event 8 = .ok (.ifCond .ne 13, 3) := by decide +kernel
theorem d_EventLog_event_11 : decode b_EventLog_event 11 = .ok (.new 121, 3) := by decide +kernel
theorem d_EventLog_event_14 : decode b_EventLog_event 14 = .ok (.dup, 1) := by decide +kernel
theorem d_EventLog_event_15 : decode b_EventLog_event 15 = .ok (.ldc 123, 2) := by decide +kernel
theorem d_EventLog_event_17 : decode b_EventLog_event 17 = .ok (.invokespecial 125, 3) := by decide +kernel
theorem d_EventLog_event_20 : decode b_EventLog_event 20 = .ok (.athrow, 1) := by decide +kernel
theorem d_EventLog_event_21 : decode b_EventLog_event 21 = .ok (.iload_n 2, 1) := by decide +kernel
theorem d_EventLog_event_22 : decode b_EventLog_event 22 = .ok (.tableswitch 81 0 4 #[34, 44, 53, 62, 72], 34) := by decide +kernel
theorem d_EventLog_event_56 : decode b_EventLog_event 56 = .ok (.aload_n 0, 1) := by decide +kernel
theorem d_EventLog_event_57 : decode b_EventLog_event 57 = .ok (.getfield 10, 3) := by decide +kernel
theorem d_EventLog_event_60 : decode b_EventLog_event 60 = .ok (.iload_n 1, 1) := by decide +kernel
theorem d_EventLog_event_61 : decode b_EventLog_event 61 = .ok (.invokevirtual 126, 3) := by decide +kernel
theorem d_EventLog_event_64 : decode b_EventLog_event 64 = .ok (.i2l, 1) := by decide +kernel
theorem d_EventLog_event_65 : decode b_EventLog_event 65 = .ok (.lreturn, 1) := by decide +kernel
theorem d_EventLog_event_66 : decode b_EventLog_event 66 = .ok (.aload_n 0, 1) := by decide +kernel
theorem d_EventLog_event_67 : decode b_EventLog_event 67 = .ok (.getfield 10, 3) := by decide +kernel
theorem d_EventLog_event_70 : decode b_EventLog_event 70 = .ok (.iload_n 1, 1) := by decide +kernel
theorem d_EventLog_event_71 : decode b_EventLog_event 71 = .ok (.invokevirtual 129, 3) := by decide +kernel
theorem d_EventLog_event_74 : decode b_EventLog_event 74 = .ok (.lreturn, 1) := by decide +kernel
theorem d_EventLog_event_75 : decode b_EventLog_event 75 = .ok (.aload_n 0, 1) := by decide +kernel
theorem d_EventLog_event_76 : decode b_EventLog_event 76 = .ok (.getfield 10, 3) := by decide +kernel
theorem d_EventLog_event_79 : decode b_EventLog_event 79 = .ok (.iload_n 1, 1) := by decide +kernel
theorem d_EventLog_event_80 : decode b_EventLog_event 80 = .ok (.invokevirtual 133, 3) := by decide +kernel
theorem d_EventLog_event_83 : decode b_EventLog_event 83 = .ok (.lreturn, 1) := by decide +kernel
theorem d_EventLog_event_84 : decode b_EventLog_event 84 = .ok (.aload_n 0, 1) := by decide +kernel
theorem d_EventLog_event_85 : decode b_EventLog_event 85 = .ok (.getfield 10, 3) := by decide +kernel
theorem d_EventLog_event_88 : decode b_EventLog_event 88 = .ok (.iload_n 1, 1) := by decide +kernel
theorem d_EventLog_event_89 : decode b_EventLog_event 89 = .ok (.invokevirtual 136, 3) := by decide +kernel
theorem d_EventLog_event_92 : decode b_EventLog_event 92 = .ok (.i2l, 1) := by decide +kernel
theorem d_EventLog_event_93 : decode b_EventLog_event 93 = .ok (.lreturn, 1) := by decide +kernel
theorem d_EventLog_event_94 : decode b_EventLog_event 94 = .ok (.aload_n 0, 1) := by decide +kernel
theorem d_EventLog_event_95 : decode b_EventLog_event 95 = .ok (.getfield 10, 3) := by decide +kernel
theorem d_EventLog_event_98 : decode b_EventLog_event 98 = .ok (.iload_n 1, 1) := by decide +kernel
theorem d_EventLog_event_99 : decode b_EventLog_event 99 = .ok (.invokevirtual 139, 3) := by decide +kernel
theorem d_EventLog_event_102 : decode b_EventLog_event 102 = .ok (.lreturn, 1) := by decide +kernel
theorem d_EventLog_event_103 : decode b_EventLog_event 103 = .ok (.new 46, 3) := by decide +kernel
theorem d_EventLog_event_106 : decode b_EventLog_event 106 = .ok (.dup, 1) := by decide +kernel
theorem d_EventLog_event_107 : decode b_EventLog_event 107 = .ok (.ldc 142, 2) := by decide +kernel
theorem d_EventLog_event_109 : decode b_EventLog_event 109 = .ok (.invokespecial 50, 3) := by decide +kernel
theorem d_EventLog_event_112 : decode b_EventLog_event 112 = .ok (.athrow, 1) := by decide +kernel
theorem d_EventLog_at_0 : decode b_EventLog_at 0 = .ok (.aload_n 0, 1) := by decide +kernel
theorem d_EventLog_at_1 : decode b_EventLog_at 1 = .ok (.getfield 10, 3) := by decide +kernel
theorem d_EventLog_at_4 : decode b_EventLog_at 4 = .ok (.lload_n 1, 1) := by decide +kernel
theorem d_EventLog_at_5 : decode b_EventLog_at 5 = .ok (.invokevirtual 144, 3) := by decide +kernel
theorem d_EventLog_at_8 : decode b_EventLog_at 8 = .ok (.ireturn, 1) := by decide +kernel
theorem d_EventLog_count_0 : decode b_EventLog_count 0 = .ok (.iload_n 1, 1) := by decide +kernel
theorem d_EventLog_count_1 : decode b_EventLog_count 1 = .ok (.ifCond .ne 11, 3) := by decide +kernel
theorem d_EventLog_count_4 : decode b_EventLog_count 4 = .ok (.aload_n 0, 1) := by decide +kernel
theorem d_EventLog_count_5 : decode b_EventLog_count 5 = .ok (.getfield 10, 3) := by decide +kernel
theorem d_EventLog_count_8 : decode b_EventLog_count 8 = .ok (.invokevirtual 53, 3) := by decide +kernel
theorem d_EventLog_count_11 : decode b_EventLog_count 11 = .ok (.ireturn, 1) := by decide +kernel
theorem d_EventLog_count_12 : decode b_EventLog_count 12 = .ok (.iload_n 1, 1) := by decide +kernel
theorem d_EventLog_count_13 : decode b_EventLog_count 13 = .ok (.iconst 1, 1) := by decide +kernel
theorem d_EventLog_count_14 : decode b_EventLog_count 14 = .ok (.if_icmp .ne 11, 3) := by decide +kernel
theorem d_EventLog_count_17 : decode b_EventLog_count 17 = .ok (.aload_n 0, 1) := by decide +kernel
theorem d_EventLog_count_18 : decode b_EventLog_count 18 = .ok (.getfield 22, 3) := by decide +kernel
theorem d_EventLog_count_21 : decode b_EventLog_count 21 = .ok (.invokevirtual 92, 3) := by decide +kernel
theorem d_EventLog_count_24 : decode b_EventLog_count 24 = .ok (.ireturn, 1) := by decide +kernel
theorem d_EventLog_count_25 : decode b_EventLog_count 25 = .ok (.aload_n 0, 1) := by decide +kernel
theorem d_EventLog_count_26 : decode b_EventLog_count 26 = .ok (.getfield 31, 3) := by decide +kernel
theorem d_EventLog_count_29 : decode b_EventLog_count 29 = .ok (.aload_n 0, 1) := by decide +kernel
theorem d_EventLog_count_30 : decode b_EventLog_count 30 = .ok (.getfield 10, 3) := by decide +kernel
theorem d_EventLog_count_33 : decode b_EventLog_count 33 = .ok (.iconst 0, 1) := by decide +kernel
theorem d_EventLog_count_34 : decode b_EventLog_count 34 = .ok (.invokevirtual 80, 3) := by decide +kernel
theorem d_EventLog_count_37 : decode b_EventLog_count 37 = .ok (.iload_n 1, 1) := by decide +kernel
theorem d_EventLog_count_38 : decode b_EventLog_count 38 = .ok (.tableswitch 62 2 5 #[30, 38, 46, 54], 30) := by decide +kernel
theorem d_EventLog_count_68 : decode b_EventLog_count 68 = .ok (.aload_n 0, 1) := by decide +kernel
theorem d_EventLog_count_69 : decode b_EventLog_count 69 = .ok (.getfield 31, 3) := by decide +kernel
theorem d_EventLog_count_72 : decode b_EventLog_count 72 = .ok (.invokevirtual 148, 3) := by decide +kernel
theorem d_EventLog_count_75 : decode b_EventLog_count 75 = .ok (.ireturn, 1) := by decide +kernel
theorem d_EventLog_count_76 : decode b_EventLog_count 76 = .ok (.aload_n 0, 1) := by decide +kernel
theorem d_EventLog_count_77 : decode b_EventLog_count 77 = .ok (.getfield 31, 3) := by decide +kernel
theorem d_EventLog_count_80 : decode b_EventLog_count 80 = .ok (.invokevirtual 151, 3) := by decide +kernel
theorem d_EventLog_count_83 : decode b_EventLog_count 83 = .ok (.ireturn, 1) := by decide +kernel
theorem d_EventLog_count_84 : decode b_EventLog_count 84 = .ok (.aload_n 0, 1) := by decide +kernel
theorem d_EventLog_count_85 : decode b_EventLog_count 85 = .ok (.getfield 31, 3) := by decide +kernel
theorem d_EventLog_count_88 : decode b_EventLog_count 88 = .ok (.invokevirtual 154, 3) := by decide +kernel
theorem d_EventLog_count_91 : decode b_EventLog_count 91 = .ok (.ireturn, 1) := by decide +kernel
theorem d_EventLog_count_92 : decode b_EventLog_count 92 = .ok (.aload_n 0, 1) := by decide +kernel
theorem d_EventLog_count_93 : decode b_EventLog_count 93 = .ok (.getfield 31, 3) := by decide +kernel
theorem d_EventLog_count_96 : decode b_EventLog_count 96 = .ok (.invokevirtual 157, 3) := by decide +kernel
theorem d_EventLog_count_99 : decode b_EventLog_count 99 = .ok (.ireturn, 1) := by decide +kernel
theorem d_EventLog_count_100 : decode b_EventLog_count 100 = .ok (.iconst (-1), 1) := by decide +kernel
theorem d_EventLog_count_101 : decode b_EventLog_count 101 = .ok (.ireturn, 1) := by decide +kernel
theorem d_EventLog_isEvent_0 : decode b_EventLog_isEvent 0 = .ok (.lload_n 1, 1) := by decide +kernel
theorem d_EventLog_isEvent_1 : decode b_EventLog_isEvent 1 = .ok (.lconst 0, 1) := by decide +kernel
theorem d_EventLog_isEvent_2 : decode b_EventLog_isEvent 2 = .ok (.lcmp, 1) := by decide +kernel
theorem d_EventLog_isEvent_3 : decode b_EventLog_isEvent 3 = .ok (.ifCond .lt 11, 3) := by decide +kernel
theorem d_EventLog_isEvent_6 : decode b_EventLog_isEvent 6 = .ok (.lload_n 1, 1) := by decide +kernel
theorem d_EventLog_isEvent_7 : decode b_EventLog_isEvent 7 = .ok (.ldc2_w 160, 3) := by decide +kernel
theorem d_EventLog_isEvent_10 : decode b_EventLog_isEvent 10 = .ok (.lcmp, 1) := by decide +kernel
theorem d_EventLog_isEvent_11 : decode b_EventLog_isEvent 11 = .ok (.ifCond .le 5, 3) := by decide +kernel
theorem d_EventLog_isEvent_14 : decode b_EventLog_isEvent 14 = .ok (.iconst 0, 1) := by decide +kernel
theorem d_EventLog_isEvent_15 : decode b_EventLog_isEvent 15 = .ok (.ireturn, 1) := by decide +kernel
theorem d_EventLog_isEvent_16 : decode b_EventLog_isEvent 16 = .ok (.iload_n 0, 1) := by decide +kernel
theorem d_EventLog_isEvent_17 : decode b_EventLog_isEvent 17 = .ok (.tableswitch 102 0 4 #[35, 40, 59, 80, 100], 35) := by decide +kernel
theorem d_EventLog_isEvent_52 : decode b_EventLog_isEvent 52 = .ok (.lload_n 3, 1) := by decide +kernel
theorem d_EventLog_isEvent_53 : decode b_EventLog_isEvent 53 = .ok (.invokestatic 162, 3) := by decide +kernel
theorem d_EventLog_isEvent_56 : decode b_EventLog_isEvent 56 = .ok (.ireturn, 1) := by decide +kernel
theorem d_EventLog_isEvent_57 : decode b_EventLog_isEvent 57 = .ok (.iload 5, 2) := by decide +kernel
theorem d_EventLog_isEvent_59 : decode b_EventLog_isEvent 59 = .ok (.iconst 1, 1) := by decide +kernel
theorem d_EventLog_isEvent_60 : decode b_EventLog_isEvent 60 = .ok (.if_icmp .lt 14, 3) := by decide +kernel
theorem d_EventLog_isEvent_63 : decode b_EventLog_isEvent 63 = .ok (.iload 5, 2) := by decide +kernel
theorem d_EventLog_isEvent_65 : decode b_EventLog_isEvent 65 = .ok (.bipush 8, 2) := by decide +kernel
theorem d_EventLog_isEvent_67 : decode b_EventLog_isEvent 67 = .ok (.if_icmp .gt 7, 3) := by decide +kernel
theorem d_EventLog_isEvent_70 : decode b_EventLog_isEvent 70 = .ok (.iconst 1, 1) := by decide +kernel
theorem d_EventLog_isEvent_71 : decode b_EventLog_isEvent 71 = .ok (.goto 4, 3) := by decide +kernel
theorem d_EventLog_isEvent_74 : decode b_EventLog_isEvent 74 = .ok (.iconst 0, 1) := by decide +kernel
theorem d_EventLog_isEvent_75 : decode b_EventLog_isEvent 75 = .ok (.ireturn, 1) := by decide +kernel
theorem d_EventLog_isEvent_76 : decode b_EventLog_isEvent 76 = .ok (.lload_n 3, 1) := by decide +kernel
theorem d_EventLog_isEvent_77 : decode b_EventLog_isEvent 77 = .ok (.invokestatic 162, 3) := by decide +kernel
theorem d_EventLog_isEvent_80 : decode b_EventLog_isEvent 80 = .ok (.ifCond .eq 15, 3) := by decide +kernel
theorem d_EventLog_isEvent_83 : decode b_EventLog_isEvent 83 = .ok (.iload 5, 2) := by decide +kernel
theorem d_EventLog_isEvent_85 : decode b_EventLog_isEvent 85 = .ok (.invokestatic 166, 3) := by decide +kernel
theorem d_EventLog_isEvent_88 : decode b_EventLog_isEvent 88 = .ok (.ifCond .eq 7, 3) := by decide +kernel
theorem d_EventLog_isEvent_91 : decode b_EventLog_isEvent 91 = .ok (.iconst 1, 1) := by decide +kernel
theorem d_EventLog_isEvent_92 : decode b_EventLog_isEvent 92 = .ok (.goto 4, 3) := by decide +kernel
theorem d_EventLog_isEvent_95 : decode b_EventLog_isEvent 95 = .ok (.iconst 0, 1) := by decide +kernel
theorem d_EventLog_isEvent_96 : decode b_EventLog_isEvent 96 = .ok (.ireturn, 1) := by decide +kernel
theorem d_EventLog_isEvent_97 : decode b_EventLog_isEvent 97 = .ok (.lload_n 3, 1) := by decide +kernel
theorem d_EventLog_isEvent_98 : decode b_EventLog_isEvent 98 = .ok (.lconst 0, 1) := by decide +kernel
theorem d_EventLog_isEvent_99 : decode b_EventLog_isEvent 99 = .ok (.lcmp, 1) := by decide +kernel
theorem d_EventLog_isEvent_100 : decode b_EventLog_isEvent 100 = .ok (.ifCond .lt 15, 3) := by decide +kernel
theorem d_EventLog_isEvent_103 : decode b_EventLog_isEvent 103 = .ok (.lload_n 3, 1) := by decide +kernel
theorem d_EventLog_isEvent_104 : decode b_EventLog_isEvent 104 = .ok (.ldc2_w 160, 3) := by decide +kernel
theorem d_EventLog_isEvent_107 : decode b_EventLog_isEvent 107 = .ok (.lcmp, 1) := by decide +kernel
theorem d_EventLog_isEvent_108 : decode b_EventLog_isEvent 108 = .ok (.ifCond .gt 7, 3) := by decide +kernel
theorem d_EventLog_isEvent_111 : decode b_EventLog_isEvent 111 = .ok (.iconst 1, 1) := by decide +kernel
theorem d_EventLog_isEvent_112 : decode b_EventLog_isEvent 112 = .ok (.goto 4, 3) := by decide +kernel
theorem d_EventLog_isEvent_115 : decode b_EventLog_isEvent 115 = .ok (.iconst 0, 1) := by decide +kernel
theorem d_EventLog_isEvent_116 : decode b_EventLog_isEvent 116 = .ok (.ireturn, 1) := by decide +kernel
theorem d_EventLog_isEvent_117 : decode b_EventLog_isEvent 117 = .ok (.iconst 1, 1) := by decide +kernel
theorem d_EventLog_isEvent_118 : decode b_EventLog_isEvent 118 = .ok (.ireturn, 1) := by decide +kernel
theorem d_EventLog_isEvent_119 : decode b_EventLog_isEvent 119 = .ok (.iconst 0, 1) := by decide +kernel
theorem d_EventLog_isEvent_120 : decode b_EventLog_isEvent 120 = .ok (.ireturn, 1) := by decide +kernel
theorem d_EventLog_isProcess_0 : decode b_EventLog_isProcess 0 = .ok (.lload_n 0, 1) := by decide +kernel
theorem d_EventLog_isProcess_1 : decode b_EventLog_isProcess 1 = .ok (.lconst 0, 1) := by decide +kernel
theorem d_EventLog_isProcess_2 : decode b_EventLog_isProcess 2 = .ok (.lcmp, 1) := by decide +kernel
theorem d_EventLog_isProcess_3 : decode b_EventLog_isProcess 3 = .ok (.ifCond .lt 15, 3) := by decide +kernel
theorem d_EventLog_isProcess_6 : decode b_EventLog_isProcess 6 = .ok (.lload_n 0, 1) := by decide +kernel
theorem d_EventLog_isProcess_7 : decode b_EventLog_isProcess 7 = .ok (.ldc2_w 169, 3) := by decide +kernel
theorem d_EventLog_isProcess_10 : decode b_EventLog_isProcess 10 = .ok (.lcmp, 1) := by decide +kernel
theorem d_EventLog_isProcess_11 : decode b_EventLog_isProcess 11 = .ok (.ifCond .gt 7, 3) := by decide +kernel
theorem d_EventLog_isProcess_14 : decode b_EventLog_isProcess 14 = .ok (.iconst 1, 1) := by decide +kernel
theorem d_EventLog_isProcess_15 : decode b_EventLog_isProcess 15 = .ok (.goto 4, 3) := by decide +kernel
theorem d_EventLog_isProcess_18 : decode b_EventLog_isProcess 18 = .ok (.iconst 0, 1) := by decide +kernel
theorem d_EventLog_isProcess_19 : decode b_EventLog_isProcess 19 = .ok (.ireturn, 1) := by decide +kernel
theorem d_EventLog_isSignal_0 : decode b_EventLog_isSignal 0 = .ok (.iload_n 0, 1) := by decide +kernel
theorem d_EventLog_isSignal_1 : decode b_EventLog_isSignal 1 = .ok (.iconst 1, 1) := by decide +kernel
theorem d_EventLog_isSignal_2 : decode b_EventLog_isSignal 2 = .ok (.if_icmp .lt 13, 3) := by decide +kernel
theorem d_EventLog_isSignal_5 : decode b_EventLog_isSignal 5 = .ok (.iload_n 0, 1) := by decide +kernel
theorem d_EventLog_isSignal_6 : decode b_EventLog_isSignal 6 = .ok (.bipush 31, 2) := by decide +kernel
theorem d_EventLog_isSignal_8 : decode b_EventLog_isSignal 8 = .ok (.if_icmp .gt 7, 3) := by decide +kernel
theorem d_EventLog_isSignal_11 : decode b_EventLog_isSignal 11 = .ok (.iconst 1, 1) := by decide +kernel
theorem d_EventLog_isSignal_12 : decode b_EventLog_isSignal 12 = .ok (.goto 4, 3) := by decide +kernel
theorem d_EventLog_isSignal_15 : decode b_EventLog_isSignal 15 = .ok (.iconst 0, 1) := by decide +kernel
theorem d_EventLog_isSignal_16 : decode b_EventLog_isSignal 16 = .ok (.ireturn, 1) := by decide +kernel
theorem d_EventLog_heldA_0 : decode b_EventLog_heldA 0 = .ok (.iload_n 0, 1) := by decide +kernel
theorem d_EventLog_heldA_1 : decode b_EventLog_heldA 1 = .ok (.iconst 4, 1) := by decide +kernel
theorem d_EventLog_heldA_2 : decode b_EventLog_heldA 2 = .ok (.if_icmp .ne 9, 3) := by decide +kernel
theorem d_EventLog_heldA_5 : decode b_EventLog_heldA 5 = .ok (.lload_n 1, 1) := by decide +kernel
theorem d_EventLog_heldA_6 : decode b_EventLog_heldA 6 = .ok (.ldc2_w 171, 3) := by decide +kernel
theorem d_EventLog_heldA_9 : decode b_EventLog_heldA 9 = .ok (.land, 1) := by decide +kernel
theorem d_EventLog_heldA_10 : decode b_EventLog_heldA 10 = .ok (.lreturn, 1) := by decide +kernel
theorem d_EventLog_heldA_11 : decode b_EventLog_heldA 11 = .ok (.iload_n 0, 1) := by decide +kernel
theorem d_EventLog_heldA_12 : decode b_EventLog_heldA 12 = .ok (.iconst 1, 1) := by decide +kernel
theorem d_EventLog_heldA_13 : decode b_EventLog_heldA 13 = .ok (.if_icmp .ne 20, 3) := by decide +kernel
theorem d_EventLog_heldA_16 : decode b_EventLog_heldA 16 = .ok (.iload_n 3, 1) := by decide +kernel
theorem d_EventLog_heldA_17 : decode b_EventLog_heldA 17 = .ok (.bipush 8, 2) := by decide +kernel
theorem d_EventLog_heldA_19 : decode b_EventLog_heldA 19 = .ok (.if_icmp .ge 14, 3) := by decide +kernel
theorem d_EventLog_heldA_22 : decode b_EventLog_heldA 22 = .ok (.lload_n 1, 1) := by decide +kernel
theorem d_EventLog_heldA_23 : decode b_EventLog_heldA 23 = .ok (.lconst 1, 1) := by decide +kernel
theorem d_EventLog_heldA_24 : decode b_EventLog_heldA 24 = .ok (.bipush 8, 2) := by decide +kernel
theorem d_EventLog_heldA_26 : decode b_EventLog_heldA 26 = .ok (.iload_n 3, 1) := by decide +kernel
theorem d_EventLog_heldA_27 : decode b_EventLog_heldA 27 = .ok (.imul, 1) := by decide +kernel
theorem d_EventLog_heldA_28 : decode b_EventLog_heldA 28 = .ok (.lshl, 1) := by decide +kernel
theorem d_EventLog_heldA_29 : decode b_EventLog_heldA 29 = .ok (.lconst 1, 1) := by decide +kernel
theorem d_EventLog_heldA_30 : decode b_EventLog_heldA 30 = .ok (.lsub, 1) := by decide +kernel
theorem d_EventLog_heldA_31 : decode b_EventLog_heldA 31 = .ok (.land, 1) := by decide +kernel
theorem d_EventLog_heldA_32 : decode b_EventLog_heldA 32 = .ok (.lreturn, 1) := by decide +kernel
theorem d_EventLog_heldA_33 : decode b_EventLog_heldA 33 = .ok (.lload_n 1, 1) := by decide +kernel
theorem d_EventLog_heldA_34 : decode b_EventLog_heldA 34 = .ok (.lreturn, 1) := by decide +kernel
theorem d_EventLog_heldB_0 : decode b_EventLog_heldB 0 = .ok (.iload_n 0, 1) := by decide +kernel
theorem d_EventLog_heldB_1 : decode b_EventLog_heldB 1 = .ok (.iconst 1, 1) := by decide +kernel
theorem d_EventLog_heldB_2 : decode b_EventLog_heldB 2 = .ok (.if_icmp .eq 8, 3) := by decide +kernel
theorem d_EventLog_heldB_5 : decode b_EventLog_heldB 5 = .ok (.iload_n 0, 1) := by decide +kernel
theorem d_EventLog_heldB_6 : decode b_EventLog_heldB 6 = .ok (.iconst 2, 1) := by decide +kernel
theorem d_EventLog_heldB_7 : decode b_EventLog_heldB 7 = .ok (.if_icmp .ne 7, 3) := by decide +kernel
theorem d_EventLog_heldB_10 : decode b_EventLog_heldB 10 = .ok (.iload_n 1, 1) := by decide +kernel
theorem d_EventLog_heldB_11 : decode b_EventLog_heldB 11 = .ok (.goto 4, 3) := by decide +kernel
theorem d_EventLog_heldB_14 : decode b_EventLog_heldB 14 = .ok (.iconst 0, 1) := by decide +kernel
theorem d_EventLog_heldB_15 : decode b_EventLog_heldB 15 = .ok (.ireturn, 1) := by decide +kernel
end
section
theorem wd_1 : Cond.initialized "EventLog" ∈ U0 := mU (List.mem_append_right _ (List.mem_of_getElem? (i := 1) (by decide +kernel))) (by decide +kernel)
theorem wd_2 : Cond.initialized "EventLog$Events" ∈ U0 := mU (List.mem_append_right _ (List.mem_of_getElem? (i := 2) (by decide +kernel))) (by decide +kernel)
theorem wd_3 : Cond.initialized "EventLog$Bytes" ∈ U0 := mU (List.mem_append_right _ (List.mem_of_getElem? (i := 3) (by decide +kernel))) (by decide +kernel)
theorem wd_4 : Cond.initialized "EventLog$Packer" ∈ U0 := mU (List.mem_append_right _ (List.mem_of_getElem? (i := 4) (by decide +kernel))) (by decide +kernel)
theorem wd_5 : Cond.initialized "EventLog$Past" ∈ U0 := mU (List.mem_append_right _ (List.mem_of_getElem? (i := 5) (by decide +kernel))) (by decide +kernel)
theorem wd_6 : Cond.initialized "EventLog$Reader" ∈ U0 := mU (List.mem_append_right _ (List.mem_of_getElem? (i := 6) (by decide +kernel))) (by decide +kernel)
theorem wd_20 : Cond.methodLink "EventLog" 1 ⟨"java/lang/Object", "<init>", "()V"⟩ ∈ U0 := mU (List.mem_append_right _ (List.mem_of_getElem? (i := 20) (by decide +kernel))) (by decide +kernel)
theorem wd_21 : Cond.instanceMethod ⟨"java/lang/Object", "<init>", "()V"⟩ ∈ U0 := mU (List.mem_append_right _ (List.mem_of_getElem? (i := 21) (by decide +kernel))) (by decide +kernel)
theorem wd_22 : Cond.code ⟨"java/lang/Object", "<init>", "()V"⟩ object_method_1_code 1 none ∈ U0 := mU (List.mem_append_right _ (List.mem_of_getElem? (i := 22) (by decide +kernel))) (by decide +kernel)
theorem wd_23 : Cond.classLink "EventLog" 7 "EventLog$Events" ∈ U0 := mU (List.mem_append_right _ (List.mem_of_getElem? (i := 23) (by decide +kernel))) (by decide +kernel)
theorem wd_24 : Cond.instantiable "EventLog$Events" 5 ∈ U0 := mU (List.mem_append_right _ (List.mem_of_getElem? (i := 24) (by decide +kernel))) (by decide +kernel)
theorem wd_26 : Cond.instanceMethod ⟨"EventLog$Events", "<init>", "()V"⟩ ∈ U0 := mU (List.mem_append_right _ (List.mem_of_getElem? (i := 26) (by decide +kernel))) (by decide +kernel)
theorem wd_27 : Cond.code ⟨"EventLog$Events", "<init>", "()V"⟩ prog_3_method_1_code 1 none ∈ U0 := mU (List.mem_append_right _ (List.mem_of_getElem? (i := 27) (by decide +kernel))) (by decide +kernel)
theorem wd_28 : Cond.methodLink "EventLog$Events" 3 ⟨"java/lang/Object", "<init>", "()V"⟩ ∈ U0 := mU (List.mem_append_right _ (List.mem_of_getElem? (i := 28) (by decide +kernel))) (by decide +kernel)
theorem wd_29 : Cond.fieldLink "EventLog$Events" 9 "EventLog$Events" "kinds" "[I" ∈ U0 := mU (List.mem_append_right _ (List.mem_of_getElem? (i := 29) (by decide +kernel))) (by decide +kernel)
theorem wd_30 : Cond.fieldLink "EventLog$Events" 15 "EventLog$Events" "differences" "[J" ∈ U0 := mU (List.mem_append_right _ (List.mem_of_getElem? (i := 30) (by decide +kernel))) (by decide +kernel)
theorem wd_31 : Cond.fieldLink "EventLog$Events" 19 "EventLog$Events" "partsA" "[J" ∈ U0 := mU (List.mem_append_right _ (List.mem_of_getElem? (i := 31) (by decide +kernel))) (by decide +kernel)
theorem wd_32 : Cond.fieldLink "EventLog$Events" 22 "EventLog$Events" "partsB" "[I" ∈ U0 := mU (List.mem_append_right _ (List.mem_of_getElem? (i := 32) (by decide +kernel))) (by decide +kernel)
theorem wd_33 : Cond.fieldLink "EventLog$Events" 25 "EventLog$Events" "number" "I" ∈ U0 := mU (List.mem_append_right _ (List.mem_of_getElem? (i := 33) (by decide +kernel))) (by decide +kernel)
theorem wd_45 : Cond.arrayClass FieldType.int ∈ U0 := mU (List.mem_append_right _ (List.mem_of_getElem? (i := 45) (by decide +kernel))) (by decide +kernel)
theorem wd_46 : Cond.arrayClass FieldType.long ∈ U0 := mU (List.mem_append_right _ (List.mem_of_getElem? (i := 46) (by decide +kernel))) (by decide +kernel)
theorem wd_47 : Cond.classLink "EventLog" 19 "EventLog$Bytes" ∈ U0 := mU (List.mem_append_right _ (List.mem_of_getElem? (i := 47) (by decide +kernel))) (by decide +kernel)
theorem wd_48 : Cond.instantiable "EventLog$Bytes" 2 ∈ U0 := mU (List.mem_append_right _ (List.mem_of_getElem? (i := 48) (by decide +kernel))) (by decide +kernel)
theorem wd_50 : Cond.instanceMethod ⟨"EventLog$Bytes", "<init>", "()V"⟩ ∈ U0 := mU (List.mem_append_right _ (List.mem_of_getElem? (i := 50) (by decide +kernel))) (by decide +kernel)
theorem wd_51 : Cond.code ⟨"EventLog$Bytes", "<init>", "()V"⟩ prog_2_method_1_code 1 none ∈ U0 := mU (List.mem_append_right _ (List.mem_of_getElem? (i := 51) (by decide +kernel))) (by decide +kernel)
theorem wd_52 : Cond.methodLink "EventLog$Bytes" 3 ⟨"java/lang/Object", "<init>", "()V"⟩ ∈ U0 := mU (List.mem_append_right _ (List.mem_of_getElem? (i := 52) (by decide +kernel))) (by decide +kernel)
theorem wd_53 : Cond.fieldLink "EventLog$Bytes" 9 "EventLog$Bytes" "row" "[I" ∈ U0 := mU (List.mem_append_right _ (List.mem_of_getElem? (i := 53) (by decide +kernel))) (by decide +kernel)
theorem wd_54 : Cond.fieldLink "EventLog$Bytes" 15 "EventLog$Bytes" "length" "I" ∈ U0 := mU (List.mem_append_right _ (List.mem_of_getElem? (i := 54) (by decide +kernel))) (by decide +kernel)
theorem wd_60 : Cond.classLink "EventLog" 26 "EventLog$Packer" ∈ U0 := mU (List.mem_append_right _ (List.mem_of_getElem? (i := 60) (by decide +kernel))) (by decide +kernel)
theorem wd_61 : Cond.instantiable "EventLog$Packer" 8 ∈ U0 := mU (List.mem_append_right _ (List.mem_of_getElem? (i := 61) (by decide +kernel))) (by decide +kernel)
theorem wd_62 : Cond.methodLink "EventLog" 28 ⟨"EventLog$Packer", "<init>", "(LEventLog$Bytes;)V"⟩ ∈ U0 := mU (List.mem_append_right _ (List.mem_of_getElem? (i := 62) (by decide +kernel))) (by decide +kernel)
theorem wd_63 : Cond.instanceMethod ⟨"EventLog$Packer", "<init>", "(LEventLog$Bytes;)V"⟩ ∈ U0 := mU (List.mem_append_right _ (List.mem_of_getElem? (i := 63) (by decide +kernel))) (by decide +kernel)
theorem wd_64 : Cond.code ⟨"EventLog$Packer", "<init>", "(LEventLog$Bytes;)V"⟩ prog_4_method_1_code 2 none ∈ U0 := mU (List.mem_append_right _ (List.mem_of_getElem? (i := 64) (by decide +kernel))) (by decide +kernel)
theorem wd_65 : Cond.methodLink "EventLog$Packer" 3 ⟨"java/lang/Object", "<init>", "()V"⟩ ∈ U0 := mU (List.mem_append_right _ (List.mem_of_getElem? (i := 65) (by decide +kernel))) (by decide +kernel)
theorem wd_66 : Cond.classLink "EventLog$Packer" 9 "EventLog$Past" ∈ U0 := mU (List.mem_append_right _ (List.mem_of_getElem? (i := 66) (by decide +kernel))) (by decide +kernel)
theorem wd_67 : Cond.instantiable "EventLog$Past" 3 ∈ U0 := mU (List.mem_append_right _ (List.mem_of_getElem? (i := 67) (by decide +kernel))) (by decide +kernel)
theorem wd_69 : Cond.instanceMethod ⟨"EventLog$Past", "<init>", "()V"⟩ ∈ U0 := mU (List.mem_append_right _ (List.mem_of_getElem? (i := 69) (by decide +kernel))) (by decide +kernel)
theorem wd_70 : Cond.code ⟨"EventLog$Past", "<init>", "()V"⟩ prog_5_method_1_code 1 none ∈ U0 := mU (List.mem_append_right _ (List.mem_of_getElem? (i := 70) (by decide +kernel))) (by decide +kernel)
theorem wd_71 : Cond.methodLink "EventLog$Past" 3 ⟨"java/lang/Object", "<init>", "()V"⟩ ∈ U0 := mU (List.mem_append_right _ (List.mem_of_getElem? (i := 71) (by decide +kernel))) (by decide +kernel)
theorem wd_72 : Cond.fieldLink "EventLog$Past" 9 "EventLog$Past" "typed" "[I" ∈ U0 := mU (List.mem_append_right _ (List.mem_of_getElem? (i := 72) (by decide +kernel))) (by decide +kernel)
theorem wd_73 : Cond.fieldLink "EventLog$Past" 19 "EventLog$Past" "typedNumber" "I" ∈ U0 := mU (List.mem_append_right _ (List.mem_of_getElem? (i := 73) (by decide +kernel))) (by decide +kernel)
theorem wd_74 : Cond.fieldLink "EventLog$Past" 15 "EventLog$Past" "clock" "I" ∈ U0 := mU (List.mem_append_right _ (List.mem_of_getElem? (i := 74) (by decide +kernel))) (by decide +kernel)
theorem wd_82 : Cond.fieldLink "EventLog$Packer" 18 "EventLog$Packer" "log" "LEventLog$Bytes;" ∈ U0 := mU (List.mem_append_right _ (List.mem_of_getElem? (i := 82) (by decide +kernel))) (by decide +kernel)
theorem wd_83 : Cond.fieldLink "EventLog$Packer" 12 "EventLog$Packer" "past" "LEventLog$Past;" ∈ U0 := mU (List.mem_append_right _ (List.mem_of_getElem? (i := 83) (by decide +kernel))) (by decide +kernel)
theorem wd_84 : Cond.fieldLink "EventLog$Packer" 72 "EventLog$Packer" "writes" "Z" ∈ U0 := mU (List.mem_append_right _ (List.mem_of_getElem? (i := 84) (by decide +kernel))) (by decide +kernel)
theorem wd_85 : Cond.fieldLink "EventLog$Packer" 22 "EventLog$Packer" "bytes" "I" ∈ U0 := mU (List.mem_append_right _ (List.mem_of_getElem? (i := 85) (by decide +kernel))) (by decide +kernel)
theorem wd_86 : Cond.fieldLink "EventLog$Packer" 26 "EventLog$Packer" "entries" "I" ∈ U0 := mU (List.mem_append_right _ (List.mem_of_getElem? (i := 86) (by decide +kernel))) (by decide +kernel)
theorem wd_87 : Cond.fieldLink "EventLog$Packer" 29 "EventLog$Packer" "runs" "I" ∈ U0 := mU (List.mem_append_right _ (List.mem_of_getElem? (i := 87) (by decide +kernel))) (by decide +kernel)
theorem wd_88 : Cond.fieldLink "EventLog$Packer" 32 "EventLog$Packer" "sames" "I" ∈ U0 := mU (List.mem_append_right _ (List.mem_of_getElem? (i := 88) (by decide +kernel))) (by decide +kernel)
theorem wd_89 : Cond.fieldLink "EventLog$Packer" 35 "EventLog$Packer" "repeats" "I" ∈ U0 := mU (List.mem_append_right _ (List.mem_of_getElem? (i := 89) (by decide +kernel))) (by decide +kernel)
theorem wd_107 : Cond.classLink "EventLog" 35 "EventLog$Reader" ∈ U0 := mU (List.mem_append_right _ (List.mem_of_getElem? (i := 107) (by decide +kernel))) (by decide +kernel)
theorem wd_108 : Cond.instantiable "EventLog$Reader" 5 ∈ U0 := mU (List.mem_append_right _ (List.mem_of_getElem? (i := 108) (by decide +kernel))) (by decide +kernel)
theorem wd_109 : Cond.methodLink "EventLog" 37 ⟨"EventLog$Reader", "<init>", "(LEventLog$Bytes;)V"⟩ ∈ U0 := mU (List.mem_append_right _ (List.mem_of_getElem? (i := 109) (by decide +kernel))) (by decide +kernel)
theorem wd_110 : Cond.instanceMethod ⟨"EventLog$Reader", "<init>", "(LEventLog$Bytes;)V"⟩ ∈ U0 := mU (List.mem_append_right _ (List.mem_of_getElem? (i := 110) (by decide +kernel))) (by decide +kernel)
theorem wd_111 : Cond.code ⟨"EventLog$Reader", "<init>", "(LEventLog$Bytes;)V"⟩ prog_6_method_1_code 2 none ∈ U0 := mU (List.mem_append_right _ (List.mem_of_getElem? (i := 111) (by decide +kernel))) (by decide +kernel)
theorem wd_112 : Cond.methodLink "EventLog$Reader" 3 ⟨"java/lang/Object", "<init>", "()V"⟩ ∈ U0 := mU (List.mem_append_right _ (List.mem_of_getElem? (i := 112) (by decide +kernel))) (by decide +kernel)
theorem wd_113 : Cond.classLink "EventLog$Reader" 9 "EventLog$Past" ∈ U0 := mU (List.mem_append_right _ (List.mem_of_getElem? (i := 113) (by decide +kernel))) (by decide +kernel)
theorem wd_115 : Cond.fieldLink "EventLog$Reader" 18 "EventLog$Reader" "log" "LEventLog$Bytes;" ∈ U0 := mU (List.mem_append_right _ (List.mem_of_getElem? (i := 115) (by decide +kernel))) (by decide +kernel)
theorem wd_116 : Cond.fieldLink "EventLog$Reader" 12 "EventLog$Reader" "past" "LEventLog$Past;" ∈ U0 := mU (List.mem_append_right _ (List.mem_of_getElem? (i := 116) (by decide +kernel))) (by decide +kernel)
theorem wd_117 : Cond.fieldLink "EventLog$Reader" 50 "EventLog$Reader" "place" "I" ∈ U0 := mU (List.mem_append_right _ (List.mem_of_getElem? (i := 117) (by decide +kernel))) (by decide +kernel)
theorem wd_118 : Cond.fieldLink "EventLog$Reader" 59 "EventLog$Reader" "fault" "I" ∈ U0 := mU (List.mem_append_right _ (List.mem_of_getElem? (i := 118) (by decide +kernel))) (by decide +kernel)
theorem wd_119 : Cond.fieldLink "EventLog$Reader" 62 "EventLog$Reader" "faultPlace" "I" ∈ U0 := mU (List.mem_append_right _ (List.mem_of_getElem? (i := 119) (by decide +kernel))) (by decide +kernel)
theorem wd_131 : Cond.fieldLink "EventLog" 10 "EventLog" "events" "LEventLog$Events;" ∈ U0 := mU (List.mem_append_right _ (List.mem_of_getElem? (i := 131) (by decide +kernel))) (by decide +kernel)
theorem wd_132 : Cond.fieldLink "EventLog" 16 "EventLog" "spare" "LEventLog$Events;" ∈ U0 := mU (List.mem_append_right _ (List.mem_of_getElem? (i := 132) (by decide +kernel))) (by decide +kernel)
theorem wd_133 : Cond.fieldLink "EventLog" 22 "EventLog" "log" "LEventLog$Bytes;" ∈ U0 := mU (List.mem_append_right _ (List.mem_of_getElem? (i := 133) (by decide +kernel))) (by decide +kernel)
theorem wd_134 : Cond.fieldLink "EventLog" 31 "EventLog" "packer" "LEventLog$Packer;" ∈ U0 := mU (List.mem_append_right _ (List.mem_of_getElem? (i := 134) (by decide +kernel))) (by decide +kernel)
theorem wd_135 : Cond.fieldLink "EventLog" 38 "EventLog" "reader" "LEventLog$Reader;" ∈ U0 := mU (List.mem_append_right _ (List.mem_of_getElem? (i := 135) (by decide +kernel))) (by decide +kernel)
theorem wd_151 : Cond.methodLink "EventLog" 80 ⟨"EventLog$Packer", "run", "(LEventLog$Events;Z)V"⟩ ∈ U0 := mU (List.mem_append_right _ (List.mem_of_getElem? (i := 151) (by decide +kernel))) (by decide +kernel)
theorem wd_152 : Cond.instanceMethod ⟨"EventLog$Packer", "run", "(LEventLog$Events;Z)V"⟩ ∈ U0 := mU (List.mem_append_right _ (List.mem_of_getElem? (i := 152) (by decide +kernel))) (by decide +kernel)
theorem wd_153 : Cond.selects "EventLog$Packer" ⟨"EventLog$Packer", "run", "(LEventLog$Events;Z)V"⟩ ⟨"EventLog$Packer", "run", "(LEventLog$Events;Z)V"⟩ ∈ U0 := mU (List.mem_append_right _ (List.mem_of_getElem? (i := 153) (by decide +kernel))) (by decide +kernel)
theorem wd_154 : Cond.code ⟨"EventLog$Packer", "run", "(LEventLog$Events;Z)V"⟩ prog_4_method_7_code 5 none ∈ U0 := mU (List.mem_append_right _ (List.mem_of_getElem? (i := 154) (by decide +kernel))) (by decide +kernel)
theorem wd_155 : Cond.methodLink "EventLog$Packer" 38 ⟨"EventLog$Packer", "begin", "(Z)V"⟩ ∈ U0 := mU (List.mem_append_right _ (List.mem_of_getElem? (i := 155) (by decide +kernel))) (by decide +kernel)
theorem wd_157 : Cond.instanceMethod ⟨"EventLog$Packer", "begin", "(Z)V"⟩ ∈ U0 := mU (List.mem_append_right _ (List.mem_of_getElem? (i := 157) (by decide +kernel))) (by decide +kernel)
theorem wd_158 : Cond.code ⟨"EventLog$Packer", "begin", "(Z)V"⟩ prog_4_method_8_code 2 none ∈ U0 := mU (List.mem_append_right _ (List.mem_of_getElem? (i := 158) (by decide +kernel))) (by decide +kernel)
theorem wd_159 : Cond.methodLink "EventLog$Packer" 76 ⟨"EventLog$Bytes", "keepFirst", "(I)V"⟩ ∈ U0 := mU (List.mem_append_right _ (List.mem_of_getElem? (i := 159) (by decide +kernel))) (by decide +kernel)
theorem wd_160 : Cond.instanceMethod ⟨"EventLog$Bytes", "keepFirst", "(I)V"⟩ ∈ U0 := mU (List.mem_append_right _ (List.mem_of_getElem? (i := 160) (by decide +kernel))) (by decide +kernel)
theorem wd_161 : Cond.selects "EventLog$Bytes" ⟨"EventLog$Bytes", "keepFirst", "(I)V"⟩ ⟨"EventLog$Bytes", "keepFirst", "(I)V"⟩ ∈ U0 := mU (List.mem_append_right _ (List.mem_of_getElem? (i := 161) (by decide +kernel))) (by decide +kernel)
theorem wd_162 : Cond.code ⟨"EventLog$Bytes", "keepFirst", "(I)V"⟩ prog_2_method_6_code 2 none ∈ U0 := mU (List.mem_append_right _ (List.mem_of_getElem? (i := 162) (by decide +kernel))) (by decide +kernel)
theorem wd_163 : Cond.methodLink "EventLog$Packer" 81 ⟨"EventLog$Past", "forget", "()V"⟩ ∈ U0 := mU (List.mem_append_right _ (List.mem_of_getElem? (i := 163) (by decide +kernel))) (by decide +kernel)
theorem wd_164 : Cond.instanceMethod ⟨"EventLog$Past", "forget", "()V"⟩ ∈ U0 := mU (List.mem_append_right _ (List.mem_of_getElem? (i := 164) (by decide +kernel))) (by decide +kernel)
theorem wd_165 : Cond.selects "EventLog$Past" ⟨"EventLog$Past", "forget", "()V"⟩ ⟨"EventLog$Past", "forget", "()V"⟩ ∈ U0 := mU (List.mem_append_right _ (List.mem_of_getElem? (i := 165) (by decide +kernel))) (by decide +kernel)
theorem wd_166 : Cond.code ⟨"EventLog$Past", "forget", "()V"⟩ prog_5_method_2_code 1 none ∈ U0 := mU (List.mem_append_right _ (List.mem_of_getElem? (i := 166) (by decide +kernel))) (by decide +kernel)
theorem wd_167 : Cond.methodLink "EventLog$Packer" 42 ⟨"EventLog$Events", "number", "()I"⟩ ∈ U0 := mU (List.mem_append_right _ (List.mem_of_getElem? (i := 167) (by decide +kernel))) (by decide +kernel)
theorem wd_168 : Cond.instanceMethod ⟨"EventLog$Events", "number", "()I"⟩ ∈ U0 := mU (List.mem_append_right _ (List.mem_of_getElem? (i := 168) (by decide +kernel))) (by decide +kernel)
theorem wd_169 : Cond.selects "EventLog$Events" ⟨"EventLog$Events", "number", "()I"⟩ ⟨"EventLog$Events", "number", "()I"⟩ ∈ U0 := mU (List.mem_append_right _ (List.mem_of_getElem? (i := 169) (by decide +kernel))) (by decide +kernel)
theorem wd_170 : Cond.code ⟨"EventLog$Events", "number", "()I"⟩ prog_3_method_2_code 1 (some FieldType.int) ∈ U0 := mU (List.mem_append_right _ (List.mem_of_getElem? (i := 170) (by decide +kernel))) (by decide +kernel)
theorem wd_171 : Cond.methodLink "EventLog$Packer" 48 ⟨"EventLog$Packer", "packVarint", "(J)V"⟩ ∈ U0 := mU (List.mem_append_right _ (List.mem_of_getElem? (i := 171) (by decide +kernel))) (by decide +kernel)
theorem wd_173 : Cond.instanceMethod ⟨"EventLog$Packer", "packVarint", "(J)V"⟩ ∈ U0 := mU (List.mem_append_right _ (List.mem_of_getElem? (i := 173) (by decide +kernel))) (by decide +kernel)
theorem wd_174 : Cond.code ⟨"EventLog$Packer", "packVarint", "(J)V"⟩ prog_4_method_15_code 6 none ∈ U0 := mU (List.mem_append_right _ (List.mem_of_getElem? (i := 174) (by decide +kernel))) (by decide +kernel)
theorem wd_175 : Cond.constantLong "EventLog$Packer" 127 (127) ∈ U0 := mU (List.mem_append_right _ (List.mem_of_getElem? (i := 175) (by decide +kernel))) (by decide +kernel)
theorem wd_176 : Cond.methodLink "EventLog$Packer" 84 ⟨"EventLog$Packer", "packByte", "(I)V"⟩ ∈ U0 := mU (List.mem_append_right _ (List.mem_of_getElem? (i := 176) (by decide +kernel))) (by decide +kernel)
theorem wd_178 : Cond.instanceMethod ⟨"EventLog$Packer", "packByte", "(I)V"⟩ ∈ U0 := mU (List.mem_append_right _ (List.mem_of_getElem? (i := 178) (by decide +kernel))) (by decide +kernel)
theorem wd_179 : Cond.code ⟨"EventLog$Packer", "packByte", "(I)V"⟩ prog_4_method_16_code 2 none ∈ U0 := mU (List.mem_append_right _ (List.mem_of_getElem? (i := 179) (by decide +kernel))) (by decide +kernel)
theorem wd_180 : Cond.methodLink "EventLog$Packer" 129 ⟨"EventLog$Bytes", "append", "(I)V"⟩ ∈ U0 := mU (List.mem_append_right _ (List.mem_of_getElem? (i := 180) (by decide +kernel))) (by decide +kernel)
theorem wd_181 : Cond.instanceMethod ⟨"EventLog$Bytes", "append", "(I)V"⟩ ∈ U0 := mU (List.mem_append_right _ (List.mem_of_getElem? (i := 181) (by decide +kernel))) (by decide +kernel)
theorem wd_182 : Cond.selects "EventLog$Bytes" ⟨"EventLog$Bytes", "append", "(I)V"⟩ ⟨"EventLog$Bytes", "append", "(I)V"⟩ ∈ U0 := mU (List.mem_append_right _ (List.mem_of_getElem? (i := 182) (by decide +kernel))) (by decide +kernel)
theorem wd_183 : Cond.code ⟨"EventLog$Bytes", "append", "(I)V"⟩ prog_2_method_5_code 2 none ∈ U0 := mU (List.mem_append_right _ (List.mem_of_getElem? (i := 183) (by decide +kernel))) (by decide +kernel)
theorem wd_184 : Cond.methodLink "EventLog$Packer" 52 ⟨"EventLog$Events", "isLikeBefore", "(I)Z"⟩ ∈ U0 := mU (List.mem_append_right _ (List.mem_of_getElem? (i := 184) (by decide +kernel))) (by decide +kernel)
theorem wd_185 : Cond.instanceMethod ⟨"EventLog$Events", "isLikeBefore", "(I)Z"⟩ ∈ U0 := mU (List.mem_append_right _ (List.mem_of_getElem? (i := 185) (by decide +kernel))) (by decide +kernel)
theorem wd_186 : Cond.selects "EventLog$Events" ⟨"EventLog$Events", "isLikeBefore", "(I)Z"⟩ ⟨"EventLog$Events", "isLikeBefore", "(I)Z"⟩ ∈ U0 := mU (List.mem_append_right _ (List.mem_of_getElem? (i := 186) (by decide +kernel))) (by decide +kernel)
theorem wd_187 : Cond.code ⟨"EventLog$Events", "isLikeBefore", "(I)Z"⟩ prog_3_method_12_code 2 (some FieldType.boolean) ∈ U0 := mU (List.mem_append_right _ (List.mem_of_getElem? (i := 187) (by decide +kernel))) (by decide +kernel)
theorem wd_188 : Cond.methodLink "EventLog$Events" 37 ⟨"EventLog$Events", "hasDifferenceBefore", "(I)Z"⟩ ∈ U0 := mU (List.mem_append_right _ (List.mem_of_getElem? (i := 188) (by decide +kernel))) (by decide +kernel)
theorem wd_189 : Cond.instanceMethod ⟨"EventLog$Events", "hasDifferenceBefore", "(I)Z"⟩ ∈ U0 := mU (List.mem_append_right _ (List.mem_of_getElem? (i := 189) (by decide +kernel))) (by decide +kernel)
theorem wd_190 : Cond.selects "EventLog$Events" ⟨"EventLog$Events", "hasDifferenceBefore", "(I)Z"⟩ ⟨"EventLog$Events", "hasDifferenceBefore", "(I)Z"⟩ ∈ U0 := mU (List.mem_append_right _ (List.mem_of_getElem? (i := 190) (by decide +kernel))) (by decide +kernel)
theorem wd_191 : Cond.code ⟨"EventLog$Events", "hasDifferenceBefore", "(I)Z"⟩ prog_3_method_11_code 2 (some FieldType.boolean) ∈ U0 := mU (List.mem_append_right _ (List.mem_of_getElem? (i := 191) (by decide +kernel))) (by decide +kernel)
theorem wd_192 : Cond.methodLink "EventLog$Events" 33 ⟨"EventLog$Events", "difference", "(I)J"⟩ ∈ U0 := mU (List.mem_append_right _ (List.mem_of_getElem? (i := 192) (by decide +kernel))) (by decide +kernel)
theorem wd_193 : Cond.instanceMethod ⟨"EventLog$Events", "difference", "(I)J"⟩ ∈ U0 := mU (List.mem_append_right _ (List.mem_of_getElem? (i := 193) (by decide +kernel))) (by decide +kernel)
theorem wd_194 : Cond.selects "EventLog$Events" ⟨"EventLog$Events", "difference", "(I)J"⟩ ⟨"EventLog$Events", "difference", "(I)J"⟩ ∈ U0 := mU (List.mem_append_right _ (List.mem_of_getElem? (i := 194) (by decide +kernel))) (by decide +kernel)
theorem wd_195 : Cond.code ⟨"EventLog$Events", "difference", "(I)J"⟩ prog_3_method_5_code 2 (some FieldType.long) ∈ U0 := mU (List.mem_append_right _ (List.mem_of_getElem? (i := 195) (by decide +kernel))) (by decide +kernel)
theorem wd_196 : Cond.methodLink "EventLog$Events" 29 ⟨"EventLog$Events", "has", "(I)Z"⟩ ∈ U0 := mU (List.mem_append_right _ (List.mem_of_getElem? (i := 196) (by decide +kernel))) (by decide +kernel)
theorem wd_197 : Cond.instanceMethod ⟨"EventLog$Events", "has", "(I)Z"⟩ ∈ U0 := mU (List.mem_append_right _ (List.mem_of_getElem? (i := 197) (by decide +kernel))) (by decide +kernel)
theorem wd_198 : Cond.selects "EventLog$Events" ⟨"EventLog$Events", "has", "(I)Z"⟩ ⟨"EventLog$Events", "has", "(I)Z"⟩ ∈ U0 := mU (List.mem_append_right _ (List.mem_of_getElem? (i := 198) (by decide +kernel))) (by decide +kernel)
theorem wd_199 : Cond.code ⟨"EventLog$Events", "has", "(I)Z"⟩ prog_3_method_3_code 2 (some FieldType.boolean) ∈ U0 := mU (List.mem_append_right _ (List.mem_of_getElem? (i := 199) (by decide +kernel))) (by decide +kernel)
theorem wd_200 : Cond.methodLink "EventLog$Events" 40 ⟨"EventLog$Events", "bringTheSame", "(II)Z"⟩ ∈ U0 := mU (List.mem_append_right _ (List.mem_of_getElem? (i := 200) (by decide +kernel))) (by decide +kernel)
theorem wd_201 : Cond.instanceMethod ⟨"EventLog$Events", "bringTheSame", "(II)Z"⟩ ∈ U0 := mU (List.mem_append_right _ (List.mem_of_getElem? (i := 201) (by decide +kernel))) (by decide +kernel)
theorem wd_202 : Cond.selects "EventLog$Events" ⟨"EventLog$Events", "bringTheSame", "(II)Z"⟩ ⟨"EventLog$Events", "bringTheSame", "(II)Z"⟩ ∈ U0 := mU (List.mem_append_right _ (List.mem_of_getElem? (i := 202) (by decide +kernel))) (by decide +kernel)
theorem wd_203 : Cond.code ⟨"EventLog$Events", "bringTheSame", "(II)Z"⟩ prog_3_method_10_code 3 (some FieldType.boolean) ∈ U0 := mU (List.mem_append_right _ (List.mem_of_getElem? (i := 203) (by decide +kernel))) (by decide +kernel)
theorem wd_204 : Cond.methodLink "EventLog$Packer" 56 ⟨"EventLog$Packer", "packRun", "(I)V"⟩ ∈ U0 := mU (List.mem_append_right _ (List.mem_of_getElem? (i := 204) (by decide +kernel))) (by decide +kernel)
theorem wd_206 : Cond.instanceMethod ⟨"EventLog$Packer", "packRun", "(I)V"⟩ ∈ U0 := mU (List.mem_append_right _ (List.mem_of_getElem? (i := 206) (by decide +kernel))) (by decide +kernel)
theorem wd_207 : Cond.code ⟨"EventLog$Packer", "packRun", "(I)V"⟩ prog_4_method_9_code 2 none ∈ U0 := mU (List.mem_append_right _ (List.mem_of_getElem? (i := 207) (by decide +kernel))) (by decide +kernel)
theorem wd_208 : Cond.methodLink "EventLog$Packer" 60 ⟨"EventLog$Packer", "packEntry", "(LEventLog$Events;I)V"⟩ ∈ U0 := mU (List.mem_append_right _ (List.mem_of_getElem? (i := 208) (by decide +kernel))) (by decide +kernel)
theorem wd_210 : Cond.instanceMethod ⟨"EventLog$Packer", "packEntry", "(LEventLog$Events;I)V"⟩ ∈ U0 := mU (List.mem_append_right _ (List.mem_of_getElem? (i := 210) (by decide +kernel))) (by decide +kernel)
theorem wd_211 : Cond.code ⟨"EventLog$Packer", "packEntry", "(LEventLog$Events;I)V"⟩ prog_4_method_10_code 6 none ∈ U0 := mU (List.mem_append_right _ (List.mem_of_getElem? (i := 211) (by decide +kernel))) (by decide +kernel)
theorem wd_212 : Cond.methodLink "EventLog$Packer" 87 ⟨"EventLog$Events", "hasDifferenceBefore", "(I)Z"⟩ ∈ U0 := mU (List.mem_append_right _ (List.mem_of_getElem? (i := 212) (by decide +kernel))) (by decide +kernel)
theorem wd_213 : Cond.methodLink "EventLog$Packer" 90 ⟨"EventLog$Packer", "repeated", "(LEventLog$Events;I)I"⟩ ∈ U0 := mU (List.mem_append_right _ (List.mem_of_getElem? (i := 213) (by decide +kernel))) (by decide +kernel)
theorem wd_215 : Cond.instanceMethod ⟨"EventLog$Packer", "repeated", "(LEventLog$Events;I)I"⟩ ∈ U0 := mU (List.mem_append_right _ (List.mem_of_getElem? (i := 215) (by decide +kernel))) (by decide +kernel)
theorem wd_216 : Cond.code ⟨"EventLog$Packer", "repeated", "(LEventLog$Events;I)I"⟩ prog_4_method_11_code 4 (some FieldType.int) ∈ U0 := mU (List.mem_append_right _ (List.mem_of_getElem? (i := 216) (by decide +kernel))) (by decide +kernel)
theorem wd_217 : Cond.methodLink "EventLog$Packer" 64 ⟨"EventLog$Events", "kind", "(I)I"⟩ ∈ U0 := mU (List.mem_append_right _ (List.mem_of_getElem? (i := 217) (by decide +kernel))) (by decide +kernel)
theorem wd_218 : Cond.instanceMethod ⟨"EventLog$Events", "kind", "(I)I"⟩ ∈ U0 := mU (List.mem_append_right _ (List.mem_of_getElem? (i := 218) (by decide +kernel))) (by decide +kernel)
theorem wd_219 : Cond.selects "EventLog$Events" ⟨"EventLog$Events", "kind", "(I)I"⟩ ⟨"EventLog$Events", "kind", "(I)I"⟩ ∈ U0 := mU (List.mem_append_right _ (List.mem_of_getElem? (i := 219) (by decide +kernel))) (by decide +kernel)
theorem wd_220 : Cond.code ⟨"EventLog$Events", "kind", "(I)I"⟩ prog_3_method_4_code 2 (some FieldType.int) ∈ U0 := mU (List.mem_append_right _ (List.mem_of_getElem? (i := 220) (by decide +kernel))) (by decide +kernel)
theorem wd_221 : Cond.methodLink "EventLog$Packer" 106 ⟨"EventLog$Events", "b", "(I)I"⟩ ∈ U0 := mU (List.mem_append_right _ (List.mem_of_getElem? (i := 221) (by decide +kernel))) (by decide +kernel)
theorem wd_222 : Cond.instanceMethod ⟨"EventLog$Events", "b", "(I)I"⟩ ∈ U0 := mU (List.mem_append_right _ (List.mem_of_getElem? (i := 222) (by decide +kernel))) (by decide +kernel)
theorem wd_223 : Cond.selects "EventLog$Events" ⟨"EventLog$Events", "b", "(I)I"⟩ ⟨"EventLog$Events", "b", "(I)I"⟩ ∈ U0 := mU (List.mem_append_right _ (List.mem_of_getElem? (i := 223) (by decide +kernel))) (by decide +kernel)
theorem wd_224 : Cond.code ⟨"EventLog$Events", "b", "(I)I"⟩ prog_3_method_7_code 2 (some FieldType.int) ∈ U0 := mU (List.mem_append_right _ (List.mem_of_getElem? (i := 224) (by decide +kernel))) (by decide +kernel)
theorem wd_225 : Cond.methodLink "EventLog$Packer" 109 ⟨"EventLog$Past", "typedBefore", "(J)I"⟩ ∈ U0 := mU (List.mem_append_right _ (List.mem_of_getElem? (i := 225) (by decide +kernel))) (by decide +kernel)
theorem wd_226 : Cond.instanceMethod ⟨"EventLog$Past", "typedBefore", "(J)I"⟩ ∈ U0 := mU (List.mem_append_right _ (List.mem_of_getElem? (i := 226) (by decide +kernel))) (by decide +kernel)
theorem wd_227 : Cond.selects "EventLog$Past" ⟨"EventLog$Past", "typedBefore", "(J)I"⟩ ⟨"EventLog$Past", "typedBefore", "(J)I"⟩ ∈ U0 := mU (List.mem_append_right _ (List.mem_of_getElem? (i := 227) (by decide +kernel))) (by decide +kernel)
theorem wd_228 : Cond.code ⟨"EventLog$Past", "typedBefore", "(J)I"⟩ prog_5_method_5_code 4 (some FieldType.int) ∈ U0 := mU (List.mem_append_right _ (List.mem_of_getElem? (i := 228) (by decide +kernel))) (by decide +kernel)
theorem wd_229 : Cond.constantLong "EventLog$Past" 22 (300) ∈ U0 := mU (List.mem_append_right _ (List.mem_of_getElem? (i := 229) (by decide +kernel))) (by decide +kernel)
theorem wd_230 : Cond.methodLink "EventLog$Packer" 113 ⟨"EventLog$Events", "bringTheSame", "(II)Z"⟩ ∈ U0 := mU (List.mem_append_right _ (List.mem_of_getElem? (i := 230) (by decide +kernel))) (by decide +kernel)
theorem wd_231 : Cond.methodLink "EventLog$Packer" 94 ⟨"EventLog$Packer", "headX", "(LEventLog$Events;II)I"⟩ ∈ U0 := mU (List.mem_append_right _ (List.mem_of_getElem? (i := 231) (by decide +kernel))) (by decide +kernel)
theorem wd_233 : Cond.instanceMethod ⟨"EventLog$Packer", "headX", "(LEventLog$Events;II)I"⟩ ∈ U0 := mU (List.mem_append_right _ (List.mem_of_getElem? (i := 233) (by decide +kernel))) (by decide +kernel)
theorem wd_234 : Cond.code ⟨"EventLog$Packer", "headX", "(LEventLog$Events;II)I"⟩ prog_4_method_12_code 4 (some FieldType.int) ∈ U0 := mU (List.mem_append_right _ (List.mem_of_getElem? (i := 234) (by decide +kernel))) (by decide +kernel)
theorem wd_235 : Cond.methodLink "EventLog$Packer" 117 ⟨"EventLog$Events", "a", "(I)J"⟩ ∈ U0 := mU (List.mem_append_right _ (List.mem_of_getElem? (i := 235) (by decide +kernel))) (by decide +kernel)
theorem wd_236 : Cond.instanceMethod ⟨"EventLog$Events", "a", "(I)J"⟩ ∈ U0 := mU (List.mem_append_right _ (List.mem_of_getElem? (i := 236) (by decide +kernel))) (by decide +kernel)
theorem wd_237 : Cond.selects "EventLog$Events" ⟨"EventLog$Events", "a", "(I)J"⟩ ⟨"EventLog$Events", "a", "(I)J"⟩ ∈ U0 := mU (List.mem_append_right _ (List.mem_of_getElem? (i := 237) (by decide +kernel))) (by decide +kernel)
theorem wd_238 : Cond.code ⟨"EventLog$Events", "a", "(I)J"⟩ prog_3_method_6_code 2 (some FieldType.long) ∈ U0 := mU (List.mem_append_right _ (List.mem_of_getElem? (i := 238) (by decide +kernel))) (by decide +kernel)
theorem wd_239 : Cond.methodLink "EventLog$Packer" 120 ⟨"EventLog$Past", "latestClock", "()I"⟩ ∈ U0 := mU (List.mem_append_right _ (List.mem_of_getElem? (i := 239) (by decide +kernel))) (by decide +kernel)
theorem wd_240 : Cond.instanceMethod ⟨"EventLog$Past", "latestClock", "()I"⟩ ∈ U0 := mU (List.mem_append_right _ (List.mem_of_getElem? (i := 240) (by decide +kernel))) (by decide +kernel)
theorem wd_241 : Cond.selects "EventLog$Past" ⟨"EventLog$Past", "latestClock", "()I"⟩ ⟨"EventLog$Past", "latestClock", "()I"⟩ ∈ U0 := mU (List.mem_append_right _ (List.mem_of_getElem? (i := 241) (by decide +kernel))) (by decide +kernel)
theorem wd_242 : Cond.code ⟨"EventLog$Past", "latestClock", "()I"⟩ prog_5_method_4_code 1 (some FieldType.int) ∈ U0 := mU (List.mem_append_right _ (List.mem_of_getElem? (i := 242) (by decide +kernel))) (by decide +kernel)
theorem wd_243 : Cond.methodLink "EventLog$Packer" 98 ⟨"EventLog$Events", "difference", "(I)J"⟩ ∈ U0 := mU (List.mem_append_right _ (List.mem_of_getElem? (i := 243) (by decide +kernel))) (by decide +kernel)
theorem wd_244 : Cond.methodLink "EventLog$Packer" 102 ⟨"EventLog$Packer", "packBrought", "(LEventLog$Events;II)V"⟩ ∈ U0 := mU (List.mem_append_right _ (List.mem_of_getElem? (i := 244) (by decide +kernel))) (by decide +kernel)
theorem wd_246 : Cond.instanceMethod ⟨"EventLog$Packer", "packBrought", "(LEventLog$Events;II)V"⟩ ∈ U0 := mU (List.mem_append_right _ (List.mem_of_getElem? (i := 246) (by decide +kernel))) (by decide +kernel)
theorem wd_247 : Cond.code ⟨"EventLog$Packer", "packBrought", "(LEventLog$Events;II)V"⟩ prog_4_method_13_code 4 none ∈ U0 := mU (List.mem_append_right _ (List.mem_of_getElem? (i := 247) (by decide +kernel))) (by decide +kernel)
theorem wd_248 : Cond.methodLink "EventLog$Packer" 123 ⟨"EventLog$Packer", "packBytes", "(JI)V"⟩ ∈ U0 := mU (List.mem_append_right _ (List.mem_of_getElem? (i := 248) (by decide +kernel))) (by decide +kernel)
theorem wd_250 : Cond.instanceMethod ⟨"EventLog$Packer", "packBytes", "(JI)V"⟩ ∈ U0 := mU (List.mem_append_right _ (List.mem_of_getElem? (i := 250) (by decide +kernel))) (by decide +kernel)
theorem wd_251 : Cond.code ⟨"EventLog$Packer", "packBytes", "(JI)V"⟩ prog_4_method_14_code 5 none ∈ U0 := mU (List.mem_append_right _ (List.mem_of_getElem? (i := 251) (by decide +kernel))) (by decide +kernel)
theorem wd_252 : Cond.methodLink "EventLog$Packer" 68 ⟨"EventLog$Past", "note", "(II)V"⟩ ∈ U0 := mU (List.mem_append_right _ (List.mem_of_getElem? (i := 252) (by decide +kernel))) (by decide +kernel)
theorem wd_253 : Cond.instanceMethod ⟨"EventLog$Past", "note", "(II)V"⟩ ∈ U0 := mU (List.mem_append_right _ (List.mem_of_getElem? (i := 253) (by decide +kernel))) (by decide +kernel)
theorem wd_254 : Cond.selects "EventLog$Past" ⟨"EventLog$Past", "note", "(II)V"⟩ ⟨"EventLog$Past", "note", "(II)V"⟩ ∈ U0 := mU (List.mem_append_right _ (List.mem_of_getElem? (i := 254) (by decide +kernel))) (by decide +kernel)
theorem wd_255 : Cond.code ⟨"EventLog$Past", "note", "(II)V"⟩ prog_5_method_3_code 3 none ∈ U0 := mU (List.mem_append_right _ (List.mem_of_getElem? (i := 255) (by decide +kernel))) (by decide +kernel)
theorem wd_256 : Cond.methodLink "EventLog" 84 ⟨"EventLog$Packer", "bytes", "()I"⟩ ∈ U0 := mU (List.mem_append_right _ (List.mem_of_getElem? (i := 256) (by decide +kernel))) (by decide +kernel)
theorem wd_257 : Cond.instanceMethod ⟨"EventLog$Packer", "bytes", "()I"⟩ ∈ U0 := mU (List.mem_append_right _ (List.mem_of_getElem? (i := 257) (by decide +kernel))) (by decide +kernel)
theorem wd_258 : Cond.selects "EventLog$Packer" ⟨"EventLog$Packer", "bytes", "()I"⟩ ⟨"EventLog$Packer", "bytes", "()I"⟩ ∈ U0 := mU (List.mem_append_right _ (List.mem_of_getElem? (i := 258) (by decide +kernel))) (by decide +kernel)
theorem wd_259 : Cond.code ⟨"EventLog$Packer", "bytes", "()I"⟩ prog_4_method_2_code 1 (some FieldType.int) ∈ U0 := mU (List.mem_append_right _ (List.mem_of_getElem? (i := 259) (by decide +kernel))) (by decide +kernel)
theorem wd_268 : Cond.methodLink "EventLog" 87 ⟨"EventLog$Reader", "run", "(LEventLog$Events;)I"⟩ ∈ U0 := mU (List.mem_append_right _ (List.mem_of_getElem? (i := 268) (by decide +kernel))) (by decide +kernel)
theorem wd_269 : Cond.instanceMethod ⟨"EventLog$Reader", "run", "(LEventLog$Events;)I"⟩ ∈ U0 := mU (List.mem_append_right _ (List.mem_of_getElem? (i := 269) (by decide +kernel))) (by decide +kernel)
theorem wd_270 : Cond.selects "EventLog$Reader" ⟨"EventLog$Reader", "run", "(LEventLog$Events;)I"⟩ ⟨"EventLog$Reader", "run", "(LEventLog$Events;)I"⟩ ∈ U0 := mU (List.mem_append_right _ (List.mem_of_getElem? (i := 270) (by decide +kernel))) (by decide +kernel)
theorem wd_271 : Cond.code ⟨"EventLog$Reader", "run", "(LEventLog$Events;)I"⟩ prog_6_method_2_code 5 (some FieldType.int) ∈ U0 := mU (List.mem_append_right _ (List.mem_of_getElem? (i := 271) (by decide +kernel))) (by decide +kernel)
theorem wd_272 : Cond.methodLink "EventLog$Reader" 22 ⟨"EventLog$Reader", "begin", "(LEventLog$Events;)V"⟩ ∈ U0 := mU (List.mem_append_right _ (List.mem_of_getElem? (i := 272) (by decide +kernel))) (by decide +kernel)
theorem wd_274 : Cond.instanceMethod ⟨"EventLog$Reader", "begin", "(LEventLog$Events;)V"⟩ ∈ U0 := mU (List.mem_append_right _ (List.mem_of_getElem? (i := 274) (by decide +kernel))) (by decide +kernel)
theorem wd_275 : Cond.code ⟨"EventLog$Reader", "begin", "(LEventLog$Events;)V"⟩ prog_6_method_3_code 2 none ∈ U0 := mU (List.mem_append_right _ (List.mem_of_getElem? (i := 275) (by decide +kernel))) (by decide +kernel)
theorem wd_276 : Cond.methodLink "EventLog$Reader" 65 ⟨"EventLog$Events", "keepFirst", "(I)V"⟩ ∈ U0 := mU (List.mem_append_right _ (List.mem_of_getElem? (i := 276) (by decide +kernel))) (by decide +kernel)
theorem wd_277 : Cond.instanceMethod ⟨"EventLog$Events", "keepFirst", "(I)V"⟩ ∈ U0 := mU (List.mem_append_right _ (List.mem_of_getElem? (i := 277) (by decide +kernel))) (by decide +kernel)
theorem wd_278 : Cond.selects "EventLog$Events" ⟨"EventLog$Events", "keepFirst", "(I)V"⟩ ⟨"EventLog$Events", "keepFirst", "(I)V"⟩ ∈ U0 := mU (List.mem_append_right _ (List.mem_of_getElem? (i := 278) (by decide +kernel))) (by decide +kernel)
theorem wd_279 : Cond.code ⟨"EventLog$Events", "keepFirst", "(I)V"⟩ prog_3_method_9_code 2 none ∈ U0 := mU (List.mem_append_right _ (List.mem_of_getElem? (i := 279) (by decide +kernel))) (by decide +kernel)
theorem wd_280 : Cond.methodLink "EventLog$Reader" 69 ⟨"EventLog$Past", "forget", "()V"⟩ ∈ U0 := mU (List.mem_append_right _ (List.mem_of_getElem? (i := 280) (by decide +kernel))) (by decide +kernel)
theorem wd_281 : Cond.methodLink "EventLog$Reader" 26 ⟨"EventLog$Reader", "readVarint", "(I)J"⟩ ∈ U0 := mU (List.mem_append_right _ (List.mem_of_getElem? (i := 281) (by decide +kernel))) (by decide +kernel)
theorem wd_283 : Cond.instanceMethod ⟨"EventLog$Reader", "readVarint", "(I)J"⟩ ∈ U0 := mU (List.mem_append_right _ (List.mem_of_getElem? (i := 283) (by decide +kernel))) (by decide +kernel)
theorem wd_284 : Cond.code ⟨"EventLog$Reader", "readVarint", "(I)J"⟩ prog_6_method_14_code 8 (some FieldType.long) ∈ U0 := mU (List.mem_append_right _ (List.mem_of_getElem? (i := 284) (by decide +kernel))) (by decide +kernel)
theorem wd_285 : Cond.methodLink "EventLog$Reader" 72 ⟨"EventLog$Reader", "readByte", "()I"⟩ ∈ U0 := mU (List.mem_append_right _ (List.mem_of_getElem? (i := 285) (by decide +kernel))) (by decide +kernel)
theorem wd_287 : Cond.instanceMethod ⟨"EventLog$Reader", "readByte", "()I"⟩ ∈ U0 := mU (List.mem_append_right _ (List.mem_of_getElem? (i := 287) (by decide +kernel))) (by decide +kernel)
theorem wd_288 : Cond.code ⟨"EventLog$Reader", "readByte", "()I"⟩ prog_6_method_16_code 2 (some FieldType.int) ∈ U0 := mU (List.mem_append_right _ (List.mem_of_getElem? (i := 288) (by decide +kernel))) (by decide +kernel)
theorem wd_289 : Cond.methodLink "EventLog$Reader" 54 ⟨"EventLog$Bytes", "length", "()I"⟩ ∈ U0 := mU (List.mem_append_right _ (List.mem_of_getElem? (i := 289) (by decide +kernel))) (by decide +kernel)
theorem wd_290 : Cond.instanceMethod ⟨"EventLog$Bytes", "length", "()I"⟩ ∈ U0 := mU (List.mem_append_right _ (List.mem_of_getElem? (i := 290) (by decide +kernel))) (by decide +kernel)
theorem wd_291 : Cond.selects "EventLog$Bytes" ⟨"EventLog$Bytes", "length", "()I"⟩ ⟨"EventLog$Bytes", "length", "()I"⟩ ∈ U0 := mU (List.mem_append_right _ (List.mem_of_getElem? (i := 291) (by decide +kernel))) (by decide +kernel)
theorem wd_292 : Cond.code ⟨"EventLog$Bytes", "length", "()I"⟩ prog_2_method_2_code 1 (some FieldType.int) ∈ U0 := mU (List.mem_append_right _ (List.mem_of_getElem? (i := 292) (by decide +kernel))) (by decide +kernel)
theorem wd_293 : Cond.methodLink "EventLog$Reader" 36 ⟨"EventLog$Reader", "fail", "(II)V"⟩ ∈ U0 := mU (List.mem_append_right _ (List.mem_of_getElem? (i := 293) (by decide +kernel))) (by decide +kernel)
theorem wd_295 : Cond.instanceMethod ⟨"EventLog$Reader", "fail", "(II)V"⟩ ∈ U0 := mU (List.mem_append_right _ (List.mem_of_getElem? (i := 295) (by decide +kernel))) (by decide +kernel)
theorem wd_296 : Cond.code ⟨"EventLog$Reader", "fail", "(II)V"⟩ prog_6_method_5_code 3 none ∈ U0 := mU (List.mem_append_right _ (List.mem_of_getElem? (i := 296) (by decide +kernel))) (by decide +kernel)
theorem wd_297 : Cond.methodLink "EventLog$Reader" 139 ⟨"EventLog$Bytes", "get", "(I)I"⟩ ∈ U0 := mU (List.mem_append_right _ (List.mem_of_getElem? (i := 297) (by decide +kernel))) (by decide +kernel)
theorem wd_298 : Cond.instanceMethod ⟨"EventLog$Bytes", "get", "(I)I"⟩ ∈ U0 := mU (List.mem_append_right _ (List.mem_of_getElem? (i := 298) (by decide +kernel))) (by decide +kernel)
theorem wd_299 : Cond.selects "EventLog$Bytes" ⟨"EventLog$Bytes", "get", "(I)I"⟩ ⟨"EventLog$Bytes", "get", "(I)I"⟩ ∈ U0 := mU (List.mem_append_right _ (List.mem_of_getElem? (i := 299) (by decide +kernel))) (by decide +kernel)
theorem wd_300 : Cond.code ⟨"EventLog$Bytes", "get", "(I)I"⟩ prog_2_method_3_code 2 (some FieldType.int) ∈ U0 := mU (List.mem_append_right _ (List.mem_of_getElem? (i := 300) (by decide +kernel))) (by decide +kernel)
theorem wd_301 : Cond.methodLink "EventLog$Reader" 30 ⟨"EventLog$Reader", "isFine", "()Z"⟩ ∈ U0 := mU (List.mem_append_right _ (List.mem_of_getElem? (i := 301) (by decide +kernel))) (by decide +kernel)
theorem wd_303 : Cond.instanceMethod ⟨"EventLog$Reader", "isFine", "()Z"⟩ ∈ U0 := mU (List.mem_append_right _ (List.mem_of_getElem? (i := 303) (by decide +kernel))) (by decide +kernel)
theorem wd_304 : Cond.code ⟨"EventLog$Reader", "isFine", "()Z"⟩ prog_6_method_4_code 1 (some FieldType.boolean) ∈ U0 := mU (List.mem_append_right _ (List.mem_of_getElem? (i := 304) (by decide +kernel))) (by decide +kernel)
theorem wd_305 : Cond.constantLong "EventLog$Reader" 137 (1099511627776) ∈ U0 := mU (List.mem_append_right _ (List.mem_of_getElem? (i := 305) (by decide +kernel))) (by decide +kernel)
theorem wd_306 : Cond.constantLong "EventLog$Reader" 34 (300) ∈ U0 := mU (List.mem_append_right _ (List.mem_of_getElem? (i := 306) (by decide +kernel))) (by decide +kernel)
theorem wd_307 : Cond.methodLink "EventLog$Reader" 40 ⟨"EventLog$Events", "number", "()I"⟩ ∈ U0 := mU (List.mem_append_right _ (List.mem_of_getElem? (i := 307) (by decide +kernel))) (by decide +kernel)
theorem wd_308 : Cond.methodLink "EventLog$Reader" 46 ⟨"EventLog$Reader", "readEntry", "(LEventLog$Events;J)V"⟩ ∈ U0 := mU (List.mem_append_right _ (List.mem_of_getElem? (i := 308) (by decide +kernel))) (by decide +kernel)
theorem wd_310 : Cond.instanceMethod ⟨"EventLog$Reader", "readEntry", "(LEventLog$Events;J)V"⟩ ∈ U0 := mU (List.mem_append_right _ (List.mem_of_getElem? (i := 310) (by decide +kernel))) (by decide +kernel)
theorem wd_311 : Cond.code ⟨"EventLog$Reader", "readEntry", "(LEventLog$Events;J)V"⟩ prog_6_method_6_code 11 none ∈ U0 := mU (List.mem_append_right _ (List.mem_of_getElem? (i := 311) (by decide +kernel))) (by decide +kernel)
theorem wd_312 : Cond.methodLink "EventLog$Reader" 75 ⟨"EventLog$Reader", "isHead", "(I)Z"⟩ ∈ U0 := mU (List.mem_append_right _ (List.mem_of_getElem? (i := 312) (by decide +kernel))) (by decide +kernel)
theorem wd_313 : Cond.static ⟨"EventLog$Reader", "isHead", "(I)Z"⟩ ∈ U0 := mU (List.mem_append_right _ (List.mem_of_getElem? (i := 313) (by decide +kernel))) (by decide +kernel)
theorem wd_314 : Cond.code ⟨"EventLog$Reader", "isHead", "(I)Z"⟩ prog_6_method_7_code 2 (some FieldType.boolean) ∈ U0 := mU (List.mem_append_right _ (List.mem_of_getElem? (i := 314) (by decide +kernel))) (by decide +kernel)
theorem wd_315 : Cond.methodLink "EventLog$Reader" 79 ⟨"EventLog$Reader", "readRun", "(LEventLog$Events;JII)V"⟩ ∈ U0 := mU (List.mem_append_right _ (List.mem_of_getElem? (i := 315) (by decide +kernel))) (by decide +kernel)
theorem wd_317 : Cond.instanceMethod ⟨"EventLog$Reader", "readRun", "(LEventLog$Events;JII)V"⟩ ∈ U0 := mU (List.mem_append_right _ (List.mem_of_getElem? (i := 317) (by decide +kernel))) (by decide +kernel)
theorem wd_318 : Cond.code ⟨"EventLog$Reader", "readRun", "(LEventLog$Events;JII)V"⟩ prog_6_method_8_code 10 none ∈ U0 := mU (List.mem_append_right _ (List.mem_of_getElem? (i := 318) (by decide +kernel))) (by decide +kernel)
theorem wd_319 : Cond.methodLink "EventLog$Reader" 97 ⟨"EventLog$Events", "kind", "(I)I"⟩ ∈ U0 := mU (List.mem_append_right _ (List.mem_of_getElem? (i := 319) (by decide +kernel))) (by decide +kernel)
theorem wd_320 : Cond.methodLink "EventLog$Reader" 83 ⟨"EventLog$Events", "difference", "(I)J"⟩ ∈ U0 := mU (List.mem_append_right _ (List.mem_of_getElem? (i := 320) (by decide +kernel))) (by decide +kernel)
theorem wd_321 : Cond.methodLink "EventLog$Reader" 101 ⟨"EventLog$Events", "a", "(I)J"⟩ ∈ U0 := mU (List.mem_append_right _ (List.mem_of_getElem? (i := 321) (by decide +kernel))) (by decide +kernel)
theorem wd_322 : Cond.methodLink "EventLog$Reader" 104 ⟨"EventLog$Events", "b", "(I)I"⟩ ∈ U0 := mU (List.mem_append_right _ (List.mem_of_getElem? (i := 322) (by decide +kernel))) (by decide +kernel)
theorem wd_323 : Cond.methodLink "EventLog$Reader" 107 ⟨"EventLog$Reader", "keep", "(LEventLog$Events;IJJI)V"⟩ ∈ U0 := mU (List.mem_append_right _ (List.mem_of_getElem? (i := 323) (by decide +kernel))) (by decide +kernel)
theorem wd_325 : Cond.instanceMethod ⟨"EventLog$Reader", "keep", "(LEventLog$Events;IJJI)V"⟩ ∈ U0 := mU (List.mem_append_right _ (List.mem_of_getElem? (i := 325) (by decide +kernel))) (by decide +kernel)
theorem wd_326 : Cond.code ⟨"EventLog$Reader", "keep", "(LEventLog$Events;IJJI)V"⟩ prog_6_method_13_code 8 none ∈ U0 := mU (List.mem_append_right _ (List.mem_of_getElem? (i := 326) (by decide +kernel))) (by decide +kernel)
theorem wd_327 : Cond.methodLink "EventLog$Reader" 130 ⟨"EventLog$Past", "note", "(II)V"⟩ ∈ U0 := mU (List.mem_append_right _ (List.mem_of_getElem? (i := 327) (by decide +kernel))) (by decide +kernel)
theorem wd_328 : Cond.methodLink "EventLog$Reader" 133 ⟨"EventLog$Events", "append", "(IJJI)V"⟩ ∈ U0 := mU (List.mem_append_right _ (List.mem_of_getElem? (i := 328) (by decide +kernel))) (by decide +kernel)
theorem wd_329 : Cond.instanceMethod ⟨"EventLog$Events", "append", "(IJJI)V"⟩ ∈ U0 := mU (List.mem_append_right _ (List.mem_of_getElem? (i := 329) (by decide +kernel))) (by decide +kernel)
theorem wd_330 : Cond.selects "EventLog$Events" ⟨"EventLog$Events", "append", "(IJJI)V"⟩ ⟨"EventLog$Events", "append", "(IJJI)V"⟩ ∈ U0 := mU (List.mem_append_right _ (List.mem_of_getElem? (i := 330) (by decide +kernel))) (by decide +kernel)
theorem wd_331 : Cond.code ⟨"EventLog$Events", "append", "(IJJI)V"⟩ prog_3_method_8_code 7 none ∈ U0 := mU (List.mem_append_right _ (List.mem_of_getElem? (i := 331) (by decide +kernel))) (by decide +kernel)
theorem wd_332 : Cond.methodLink "EventLog$Reader" 86 ⟨"EventLog$Reader", "isMeaningAnother", "(II)Z"⟩ ∈ U0 := mU (List.mem_append_right _ (List.mem_of_getElem? (i := 332) (by decide +kernel))) (by decide +kernel)
theorem wd_333 : Cond.static ⟨"EventLog$Reader", "isMeaningAnother", "(II)Z"⟩ ∈ U0 := mU (List.mem_append_right _ (List.mem_of_getElem? (i := 333) (by decide +kernel))) (by decide +kernel)
theorem wd_334 : Cond.code ⟨"EventLog$Reader", "isMeaningAnother", "(II)Z"⟩ prog_6_method_9_code 2 (some FieldType.boolean) ∈ U0 := mU (List.mem_append_right _ (List.mem_of_getElem? (i := 334) (by decide +kernel))) (by decide +kernel)
theorem wd_335 : Cond.methodLink "EventLog$Reader" 90 ⟨"EventLog$Reader", "readLikeAnother", "(LEventLog$Events;IJI)V"⟩ ∈ U0 := mU (List.mem_append_right _ (List.mem_of_getElem? (i := 335) (by decide +kernel))) (by decide +kernel)
theorem wd_337 : Cond.instanceMethod ⟨"EventLog$Reader", "readLikeAnother", "(LEventLog$Events;IJI)V"⟩ ∈ U0 := mU (List.mem_append_right _ (List.mem_of_getElem? (i := 337) (by decide +kernel))) (by decide +kernel)
theorem wd_338 : Cond.code ⟨"EventLog$Reader", "readLikeAnother", "(LEventLog$Events;IJI)V"⟩ prog_6_method_10_code 7 none ∈ U0 := mU (List.mem_append_right _ (List.mem_of_getElem? (i := 338) (by decide +kernel))) (by decide +kernel)
theorem wd_339 : Cond.methodLink "EventLog$Reader" 111 ⟨"EventLog$Past", "latestClock", "()I"⟩ ∈ U0 := mU (List.mem_append_right _ (List.mem_of_getElem? (i := 339) (by decide +kernel))) (by decide +kernel)
theorem wd_340 : Cond.methodLink "EventLog$Reader" 114 ⟨"EventLog$Past", "typedBefore", "(J)I"⟩ ∈ U0 := mU (List.mem_append_right _ (List.mem_of_getElem? (i := 340) (by decide +kernel))) (by decide +kernel)
theorem wd_341 : Cond.methodLink "EventLog$Reader" 118 ⟨"EventLog$Events", "has", "(I)Z"⟩ ∈ U0 := mU (List.mem_append_right _ (List.mem_of_getElem? (i := 341) (by decide +kernel))) (by decide +kernel)
theorem wd_342 : Cond.methodLink "EventLog$Reader" 94 ⟨"EventLog$Reader", "readOwn", "(LEventLog$Events;IJI)V"⟩ ∈ U0 := mU (List.mem_append_right _ (List.mem_of_getElem? (i := 342) (by decide +kernel))) (by decide +kernel)
theorem wd_344 : Cond.instanceMethod ⟨"EventLog$Reader", "readOwn", "(LEventLog$Events;IJI)V"⟩ ∈ U0 := mU (List.mem_append_right _ (List.mem_of_getElem? (i := 344) (by decide +kernel))) (by decide +kernel)
theorem wd_345 : Cond.code ⟨"EventLog$Reader", "readOwn", "(LEventLog$Events;IJI)V"⟩ prog_6_method_11_code 9 none ∈ U0 := mU (List.mem_append_right _ (List.mem_of_getElem? (i := 345) (by decide +kernel))) (by decide +kernel)
theorem wd_346 : Cond.methodLink "EventLog$Reader" 121 ⟨"EventLog$Reader", "readBytes", "(I)J"⟩ ∈ U0 := mU (List.mem_append_right _ (List.mem_of_getElem? (i := 346) (by decide +kernel))) (by decide +kernel)
theorem wd_348 : Cond.instanceMethod ⟨"EventLog$Reader", "readBytes", "(I)J"⟩ ∈ U0 := mU (List.mem_append_right _ (List.mem_of_getElem? (i := 348) (by decide +kernel))) (by decide +kernel)
theorem wd_349 : Cond.code ⟨"EventLog$Reader", "readBytes", "(I)J"⟩ prog_6_method_15_code 5 (some FieldType.long) ∈ U0 := mU (List.mem_append_right _ (List.mem_of_getElem? (i := 349) (by decide +kernel))) (by decide +kernel)
theorem wd_350 : Cond.methodLink "EventLog$Reader" 124 ⟨"EventLog$Reader", "readSignal", "()I"⟩ ∈ U0 := mU (List.mem_append_right _ (List.mem_of_getElem? (i := 350) (by decide +kernel))) (by decide +kernel)
theorem wd_352 : Cond.instanceMethod ⟨"EventLog$Reader", "readSignal", "()I"⟩ ∈ U0 := mU (List.mem_append_right _ (List.mem_of_getElem? (i := 352) (by decide +kernel))) (by decide +kernel)
theorem wd_353 : Cond.code ⟨"EventLog$Reader", "readSignal", "()I"⟩ prog_6_method_12_code 3 (some FieldType.int) ∈ U0 := mU (List.mem_append_right _ (List.mem_of_getElem? (i := 353) (by decide +kernel))) (by decide +kernel)
theorem wd_355 : Cond.static ⟨"EventLog", "isSignal", "(I)Z"⟩ ∈ U0 := mU (List.mem_append_right _ (List.mem_of_getElem? (i := 355) (by decide +kernel))) (by decide +kernel)
theorem wd_356 : Cond.code ⟨"EventLog", "isSignal", "(I)Z"⟩ prog_1_method_15_code 1 (some FieldType.boolean) ∈ U0 := mU (List.mem_append_right _ (List.mem_of_getElem? (i := 356) (by decide +kernel))) (by decide +kernel)
theorem wd_361 : Cond.methodLink "EventLog" 144 ⟨"EventLog$Events", "lastWithSumUpTo", "(J)I"⟩ ∈ U0 := mU (List.mem_append_right _ (List.mem_of_getElem? (i := 361) (by decide +kernel))) (by decide +kernel)
theorem wd_362 : Cond.instanceMethod ⟨"EventLog$Events", "lastWithSumUpTo", "(J)I"⟩ ∈ U0 := mU (List.mem_append_right _ (List.mem_of_getElem? (i := 362) (by decide +kernel))) (by decide +kernel)
theorem wd_363 : Cond.selects "EventLog$Events" ⟨"EventLog$Events", "lastWithSumUpTo", "(J)I"⟩ ⟨"EventLog$Events", "lastWithSumUpTo", "(J)I"⟩ ∈ U0 := mU (List.mem_append_right _ (List.mem_of_getElem? (i := 363) (by decide +kernel))) (by decide +kernel)
theorem wd_364 : Cond.code ⟨"EventLog$Events", "lastWithSumUpTo", "(J)I"⟩ prog_3_method_14_code 6 (some FieldType.int) ∈ U0 := mU (List.mem_append_right _ (List.mem_of_getElem? (i := 364) (by decide +kernel))) (by decide +kernel)
theorem wd_369 : Cond.methodLink "EventLog" 53 ⟨"EventLog$Events", "number", "()I"⟩ ∈ U0 := mU (List.mem_append_right _ (List.mem_of_getElem? (i := 369) (by decide +kernel))) (by decide +kernel)
theorem wd_370 : Cond.methodLink "EventLog" 92 ⟨"EventLog$Bytes", "length", "()I"⟩ ∈ U0 := mU (List.mem_append_right _ (List.mem_of_getElem? (i := 370) (by decide +kernel))) (by decide +kernel)
theorem wd_371 : Cond.methodLink "EventLog" 148 ⟨"EventLog$Packer", "entries", "()I"⟩ ∈ U0 := mU (List.mem_append_right _ (List.mem_of_getElem? (i := 371) (by decide +kernel))) (by decide +kernel)
theorem wd_372 : Cond.instanceMethod ⟨"EventLog$Packer", "entries", "()I"⟩ ∈ U0 := mU (List.mem_append_right _ (List.mem_of_getElem? (i := 372) (by decide +kernel))) (by decide +kernel)
theorem wd_373 : Cond.selects "EventLog$Packer" ⟨"EventLog$Packer", "entries", "()I"⟩ ⟨"EventLog$Packer", "entries", "()I"⟩ ∈ U0 := mU (List.mem_append_right _ (List.mem_of_getElem? (i := 373) (by decide +kernel))) (by decide +kernel)
theorem wd_374 : Cond.code ⟨"EventLog$Packer", "entries", "()I"⟩ prog_4_method_3_code 1 (some FieldType.int) ∈ U0 := mU (List.mem_append_right _ (List.mem_of_getElem? (i := 374) (by decide +kernel))) (by decide +kernel)
theorem wd_375 : Cond.methodLink "EventLog" 151 ⟨"EventLog$Packer", "runs", "()I"⟩ ∈ U0 := mU (List.mem_append_right _ (List.mem_of_getElem? (i := 375) (by decide +kernel))) (by decide +kernel)
theorem wd_376 : Cond.instanceMethod ⟨"EventLog$Packer", "runs", "()I"⟩ ∈ U0 := mU (List.mem_append_right _ (List.mem_of_getElem? (i := 376) (by decide +kernel))) (by decide +kernel)
theorem wd_377 : Cond.selects "EventLog$Packer" ⟨"EventLog$Packer", "runs", "()I"⟩ ⟨"EventLog$Packer", "runs", "()I"⟩ ∈ U0 := mU (List.mem_append_right _ (List.mem_of_getElem? (i := 377) (by decide +kernel))) (by decide +kernel)
theorem wd_378 : Cond.code ⟨"EventLog$Packer", "runs", "()I"⟩ prog_4_method_4_code 1 (some FieldType.int) ∈ U0 := mU (List.mem_append_right _ (List.mem_of_getElem? (i := 378) (by decide +kernel))) (by decide +kernel)
theorem wd_379 : Cond.methodLink "EventLog" 154 ⟨"EventLog$Packer", "sames", "()I"⟩ ∈ U0 := mU (List.mem_append_right _ (List.mem_of_getElem? (i := 379) (by decide +kernel))) (by decide +kernel)
theorem wd_380 : Cond.instanceMethod ⟨"EventLog$Packer", "sames", "()I"⟩ ∈ U0 := mU (List.mem_append_right _ (List.mem_of_getElem? (i := 380) (by decide +kernel))) (by decide +kernel)
theorem wd_381 : Cond.selects "EventLog$Packer" ⟨"EventLog$Packer", "sames", "()I"⟩ ⟨"EventLog$Packer", "sames", "()I"⟩ ∈ U0 := mU (List.mem_append_right _ (List.mem_of_getElem? (i := 381) (by decide +kernel))) (by decide +kernel)
theorem wd_382 : Cond.code ⟨"EventLog$Packer", "sames", "()I"⟩ prog_4_method_5_code 1 (some FieldType.int) ∈ U0 := mU (List.mem_append_right _ (List.mem_of_getElem? (i := 382) (by decide +kernel))) (by decide +kernel)
theorem wd_383 : Cond.methodLink "EventLog" 157 ⟨"EventLog$Packer", "repeats", "()I"⟩ ∈ U0 := mU (List.mem_append_right _ (List.mem_of_getElem? (i := 383) (by decide +kernel))) (by decide +kernel)
theorem wd_384 : Cond.instanceMethod ⟨"EventLog$Packer", "repeats", "()I"⟩ ∈ U0 := mU (List.mem_append_right _ (List.mem_of_getElem? (i := 384) (by decide +kernel))) (by decide +kernel)
theorem wd_385 : Cond.selects "EventLog$Packer" ⟨"EventLog$Packer", "repeats", "()I"⟩ ⟨"EventLog$Packer", "repeats", "()I"⟩ ∈ U0 := mU (List.mem_append_right _ (List.mem_of_getElem? (i := 385) (by decide +kernel))) (by decide +kernel)
theorem wd_386 : Cond.code ⟨"EventLog$Packer", "repeats", "()I"⟩ prog_4_method_6_code 1 (some FieldType.int) ∈ U0 := mU (List.mem_append_right _ (List.mem_of_getElem? (i := 386) (by decide +kernel))) (by decide +kernel)
theorem wd_396 : Cond.methodLink "EventLog" 42 ⟨"EventLog", "isEvent", "(IJJI)Z"⟩ ∈ U0 := mU (List.mem_append_right _ (List.mem_of_getElem? (i := 396) (by decide +kernel))) (by decide +kernel)
theorem wd_397 : Cond.static ⟨"EventLog", "isEvent", "(IJJI)Z"⟩ ∈ U0 := mU (List.mem_append_right _ (List.mem_of_getElem? (i := 397) (by decide +kernel))) (by decide +kernel)
theorem wd_398 : Cond.code ⟨"EventLog", "isEvent", "(IJJI)Z"⟩ prog_1_method_13_code 6 (some FieldType.boolean) ∈ U0 := mU (List.mem_append_right _ (List.mem_of_getElem? (i := 398) (by decide +kernel))) (by decide +kernel)
theorem wd_399 : Cond.constantLong "EventLog" 160 (1099511627776) ∈ U0 := mU (List.mem_append_right _ (List.mem_of_getElem? (i := 399) (by decide +kernel))) (by decide +kernel)
theorem wd_400 : Cond.methodLink "EventLog" 162 ⟨"EventLog", "isProcess", "(J)Z"⟩ ∈ U0 := mU (List.mem_append_right _ (List.mem_of_getElem? (i := 400) (by decide +kernel))) (by decide +kernel)
theorem wd_401 : Cond.static ⟨"EventLog", "isProcess", "(J)Z"⟩ ∈ U0 := mU (List.mem_append_right _ (List.mem_of_getElem? (i := 401) (by decide +kernel))) (by decide +kernel)
theorem wd_402 : Cond.code ⟨"EventLog", "isProcess", "(J)Z"⟩ prog_1_method_14_code 2 (some FieldType.boolean) ∈ U0 := mU (List.mem_append_right _ (List.mem_of_getElem? (i := 402) (by decide +kernel))) (by decide +kernel)
theorem wd_403 : Cond.constantLong "EventLog" 169 (15) ∈ U0 := mU (List.mem_append_right _ (List.mem_of_getElem? (i := 403) (by decide +kernel))) (by decide +kernel)
theorem wd_404 : Cond.methodLink "EventLog" 166 ⟨"EventLog", "isSignal", "(I)Z"⟩ ∈ U0 := mU (List.mem_append_right _ (List.mem_of_getElem? (i := 404) (by decide +kernel))) (by decide +kernel)
theorem wd_405 : Cond.classLink "EventLog" 46 "java/lang/IllegalArgumentException" ∈ U0 := mU (List.mem_append_right _ (List.mem_of_getElem? (i := 405) (by decide +kernel))) (by decide +kernel)
theorem wd_448 : Cond.methodLink "EventLog" 50 ⟨"java/lang/IllegalArgumentException", "<init>", "(Ljava/lang/String;)V"⟩ ∈ U0 := mU (List.mem_append_right _ (List.mem_of_getElem? (i := 448) (by decide +kernel))) (by decide +kernel)
theorem wd_474 : Cond.classLink "EventLog" 57 "java/lang/IllegalStateException" ∈ U0 := mU (List.mem_append_right _ (List.mem_of_getElem? (i := 474) (by decide +kernel))) (by decide +kernel)
theorem wd_484 : Cond.methodLink "EventLog" 61 ⟨"java/lang/IllegalStateException", "<init>", "(Ljava/lang/String;)V"⟩ ∈ U0 := mU (List.mem_append_right _ (List.mem_of_getElem? (i := 484) (by decide +kernel))) (by decide +kernel)
theorem wd_490 : Cond.methodLink "EventLog" 62 ⟨"EventLog", "heldA", "(IJI)J"⟩ ∈ U0 := mU (List.mem_append_right _ (List.mem_of_getElem? (i := 490) (by decide +kernel))) (by decide +kernel)
theorem wd_491 : Cond.static ⟨"EventLog", "heldA", "(IJI)J"⟩ ∈ U0 := mU (List.mem_append_right _ (List.mem_of_getElem? (i := 491) (by decide +kernel))) (by decide +kernel)
theorem wd_492 : Cond.code ⟨"EventLog", "heldA", "(IJI)J"⟩ prog_1_method_16_code 4 (some FieldType.long) ∈ U0 := mU (List.mem_append_right _ (List.mem_of_getElem? (i := 492) (by decide +kernel))) (by decide +kernel)
theorem wd_493 : Cond.constantLong "EventLog" 171 (4294967295) ∈ U0 := mU (List.mem_append_right _ (List.mem_of_getElem? (i := 493) (by decide +kernel))) (by decide +kernel)
theorem wd_494 : Cond.methodLink "EventLog" 66 ⟨"EventLog", "heldB", "(II)I"⟩ ∈ U0 := mU (List.mem_append_right _ (List.mem_of_getElem? (i := 494) (by decide +kernel))) (by decide +kernel)
theorem wd_495 : Cond.static ⟨"EventLog", "heldB", "(II)I"⟩ ∈ U0 := mU (List.mem_append_right _ (List.mem_of_getElem? (i := 495) (by decide +kernel))) (by decide +kernel)
theorem wd_496 : Cond.code ⟨"EventLog", "heldB", "(II)I"⟩ prog_1_method_17_code 2 (some FieldType.int) ∈ U0 := mU (List.mem_append_right _ (List.mem_of_getElem? (i := 496) (by decide +kernel))) (by decide +kernel)
theorem wd_497 : Cond.methodLink "EventLog" 70 ⟨"EventLog$Events", "append", "(IJJI)V"⟩ ∈ U0 := mU (List.mem_append_right _ (List.mem_of_getElem? (i := 497) (by decide +kernel))) (by decide +kernel)
theorem wd_506 : Cond.methodLink "EventLog" 76 ⟨"EventLog$Events", "keepFirst", "(I)V"⟩ ∈ U0 := mU (List.mem_append_right _ (List.mem_of_getElem? (i := 506) (by decide +kernel))) (by decide +kernel)
theorem wd_516 : Cond.classLink "EventLog" 95 "java/lang/IndexOutOfBoundsException" ∈ U0 := mU (List.mem_append_right _ (List.mem_of_getElem? (i := 516) (by decide +kernel))) (by decide +kernel)
theorem wd_526 : Cond.methodLink "EventLog" 99 ⟨"java/lang/IndexOutOfBoundsException", "<init>", "(Ljava/lang/String;)V"⟩ ∈ U0 := mU (List.mem_append_right _ (List.mem_of_getElem? (i := 526) (by decide +kernel))) (by decide +kernel)
theorem wd_533 : Cond.methodLink "EventLog" 102 ⟨"EventLog$Bytes", "append", "(I)V"⟩ ∈ U0 := mU (List.mem_append_right _ (List.mem_of_getElem? (i := 533) (by decide +kernel))) (by decide +kernel)
theorem wd_534 : Cond.methodLink "EventLog" 104 ⟨"EventLog$Bytes", "put", "(II)V"⟩ ∈ U0 := mU (List.mem_append_right _ (List.mem_of_getElem? (i := 534) (by decide +kernel))) (by decide +kernel)
theorem wd_535 : Cond.instanceMethod ⟨"EventLog$Bytes", "put", "(II)V"⟩ ∈ U0 := mU (List.mem_append_right _ (List.mem_of_getElem? (i := 535) (by decide +kernel))) (by decide +kernel)
theorem wd_536 : Cond.selects "EventLog$Bytes" ⟨"EventLog$Bytes", "put", "(II)V"⟩ ⟨"EventLog$Bytes", "put", "(II)V"⟩ ∈ U0 := mU (List.mem_append_right _ (List.mem_of_getElem? (i := 536) (by decide +kernel))) (by decide +kernel)
theorem wd_537 : Cond.code ⟨"EventLog$Bytes", "put", "(II)V"⟩ prog_2_method_4_code 3 none ∈ U0 := mU (List.mem_append_right _ (List.mem_of_getElem? (i := 537) (by decide +kernel))) (by decide +kernel)
theorem wd_546 : Cond.methodLink "EventLog" 110 ⟨"EventLog$Bytes", "keepFirst", "(I)V"⟩ ∈ U0 := mU (List.mem_append_right _ (List.mem_of_getElem? (i := 546) (by decide +kernel))) (by decide +kernel)
theorem wd_555 : Cond.methodLink "EventLog" 113 ⟨"EventLog$Bytes", "get", "(I)I"⟩ ∈ U0 := mU (List.mem_append_right _ (List.mem_of_getElem? (i := 555) (by decide +kernel))) (by decide +kernel)
theorem wd_564 : Cond.methodLink "EventLog" 117 ⟨"EventLog$Events", "has", "(I)Z"⟩ ∈ U0 := mU (List.mem_append_right _ (List.mem_of_getElem? (i := 564) (by decide +kernel))) (by decide +kernel)
theorem wd_565 : Cond.classLink "EventLog" 121 "java/util/NoSuchElementException" ∈ U0 := mU (List.mem_append_right _ (List.mem_of_getElem? (i := 565) (by decide +kernel))) (by decide +kernel)
theorem wd_575 : Cond.methodLink "EventLog" 125 ⟨"java/util/NoSuchElementException", "<init>", "(Ljava/lang/String;)V"⟩ ∈ U0 := mU (List.mem_append_right _ (List.mem_of_getElem? (i := 575) (by decide +kernel))) (by decide +kernel)
theorem wd_581 : Cond.methodLink "EventLog" 126 ⟨"EventLog$Events", "kind", "(I)I"⟩ ∈ U0 := mU (List.mem_append_right _ (List.mem_of_getElem? (i := 581) (by decide +kernel))) (by decide +kernel)
theorem wd_582 : Cond.methodLink "EventLog" 129 ⟨"EventLog$Events", "difference", "(I)J"⟩ ∈ U0 := mU (List.mem_append_right _ (List.mem_of_getElem? (i := 582) (by decide +kernel))) (by decide +kernel)
theorem wd_583 : Cond.methodLink "EventLog" 133 ⟨"EventLog$Events", "a", "(I)J"⟩ ∈ U0 := mU (List.mem_append_right _ (List.mem_of_getElem? (i := 583) (by decide +kernel))) (by decide +kernel)
theorem wd_584 : Cond.methodLink "EventLog" 136 ⟨"EventLog$Events", "b", "(I)I"⟩ ∈ U0 := mU (List.mem_append_right _ (List.mem_of_getElem? (i := 584) (by decide +kernel))) (by decide +kernel)
theorem wd_585 : Cond.methodLink "EventLog" 139 ⟨"EventLog$Events", "sumUpTo", "(I)J"⟩ ∈ U0 := mU (List.mem_append_right _ (List.mem_of_getElem? (i := 585) (by decide +kernel))) (by decide +kernel)
theorem wd_586 : Cond.instanceMethod ⟨"EventLog$Events", "sumUpTo", "(I)J"⟩ ∈ U0 := mU (List.mem_append_right _ (List.mem_of_getElem? (i := 586) (by decide +kernel))) (by decide +kernel)
theorem wd_587 : Cond.selects "EventLog$Events" ⟨"EventLog$Events", "sumUpTo", "(I)J"⟩ ⟨"EventLog$Events", "sumUpTo", "(I)J"⟩ ∈ U0 := mU (List.mem_append_right _ (List.mem_of_getElem? (i := 587) (by decide +kernel))) (by decide +kernel)
theorem wd_588 : Cond.code ⟨"EventLog$Events", "sumUpTo", "(I)J"⟩ prog_3_method_13_code 5 (some FieldType.long) ∈ U0 := mU (List.mem_append_right _ (List.mem_of_getElem? (i := 588) (by decide +kernel))) (by decide +kernel)
theorem wds_0 : Cond.selects "EventLog$Packer" ⟨"EventLog$Packer", "begin", "(Z)V"⟩ ⟨"EventLog$Packer", "begin", "(Z)V"⟩ ∈ U0 := mU (List.mem_append_left _ (List.mem_of_getElem? (i := 0) (by decide +kernel))) (by decide +kernel)
theorem wds_1 : Cond.selects "EventLog$Packer" ⟨"EventLog$Packer", "packVarint", "(J)V"⟩ ⟨"EventLog$Packer", "packVarint", "(J)V"⟩ ∈ U0 := mU (List.mem_append_left _ (List.mem_of_getElem? (i := 1) (by decide +kernel))) (by decide +kernel)
theorem wds_2 : Cond.selects "EventLog$Packer" ⟨"EventLog$Packer", "packByte", "(I)V"⟩ ⟨"EventLog$Packer", "packByte", "(I)V"⟩ ∈ U0 := mU (List.mem_append_left _ (List.mem_of_getElem? (i := 2) (by decide +kernel))) (by decide +kernel)
theorem wds_3 : Cond.selects "EventLog$Packer" ⟨"EventLog$Packer", "packRun", "(I)V"⟩ ⟨"EventLog$Packer", "packRun", "(I)V"⟩ ∈ U0 := mU (List.mem_append_left _ (List.mem_of_getElem? (i := 3) (by decide +kernel))) (by decide +kernel)
theorem wds_4 : Cond.selects "EventLog$Packer" ⟨"EventLog$Packer", "packEntry", "(LEventLog$Events;I)V"⟩ ⟨"EventLog$Packer", "packEntry", "(LEventLog$Events;I)V"⟩ ∈ U0 := mU (List.mem_append_left _ (List.mem_of_getElem? (i := 4) (by decide +kernel))) (by decide +kernel)
theorem wds_5 : Cond.selects "EventLog$Packer" ⟨"EventLog$Packer", "repeated", "(LEventLog$Events;I)I"⟩ ⟨"EventLog$Packer", "repeated", "(LEventLog$Events;I)I"⟩ ∈ U0 := mU (List.mem_append_left _ (List.mem_of_getElem? (i := 5) (by decide +kernel))) (by decide +kernel)
theorem wds_6 : Cond.selects "EventLog$Packer" ⟨"EventLog$Packer", "headX", "(LEventLog$Events;II)I"⟩ ⟨"EventLog$Packer", "headX", "(LEventLog$Events;II)I"⟩ ∈ U0 := mU (List.mem_append_left _ (List.mem_of_getElem? (i := 6) (by decide +kernel))) (by decide +kernel)
theorem wds_7 : Cond.selects "EventLog$Packer" ⟨"EventLog$Packer", "packBrought", "(LEventLog$Events;II)V"⟩ ⟨"EventLog$Packer", "packBrought", "(LEventLog$Events;II)V"⟩ ∈ U0 := mU (List.mem_append_left _ (List.mem_of_getElem? (i := 7) (by decide +kernel))) (by decide +kernel)
theorem wds_8 : Cond.selects "EventLog$Packer" ⟨"EventLog$Packer", "packBytes", "(JI)V"⟩ ⟨"EventLog$Packer", "packBytes", "(JI)V"⟩ ∈ U0 := mU (List.mem_append_left _ (List.mem_of_getElem? (i := 8) (by decide +kernel))) (by decide +kernel)
theorem wds_9 : Cond.selects "EventLog$Reader" ⟨"EventLog$Reader", "begin", "(LEventLog$Events;)V"⟩ ⟨"EventLog$Reader", "begin", "(LEventLog$Events;)V"⟩ ∈ U0 := mU (List.mem_append_left _ (List.mem_of_getElem? (i := 9) (by decide +kernel))) (by decide +kernel)
theorem wds_10 : Cond.selects "EventLog$Reader" ⟨"EventLog$Reader", "readVarint", "(I)J"⟩ ⟨"EventLog$Reader", "readVarint", "(I)J"⟩ ∈ U0 := mU (List.mem_append_left _ (List.mem_of_getElem? (i := 10) (by decide +kernel))) (by decide +kernel)
theorem wds_11 : Cond.selects "EventLog$Reader" ⟨"EventLog$Reader", "readByte", "()I"⟩ ⟨"EventLog$Reader", "readByte", "()I"⟩ ∈ U0 := mU (List.mem_append_left _ (List.mem_of_getElem? (i := 11) (by decide +kernel))) (by decide +kernel)
theorem wds_12 : Cond.selects "EventLog$Reader" ⟨"EventLog$Reader", "fail", "(II)V"⟩ ⟨"EventLog$Reader", "fail", "(II)V"⟩ ∈ U0 := mU (List.mem_append_left _ (List.mem_of_getElem? (i := 12) (by decide +kernel))) (by decide +kernel)
theorem wds_13 : Cond.selects "EventLog$Reader" ⟨"EventLog$Reader", "isFine", "()Z"⟩ ⟨"EventLog$Reader", "isFine", "()Z"⟩ ∈ U0 := mU (List.mem_append_left _ (List.mem_of_getElem? (i := 13) (by decide +kernel))) (by decide +kernel)
theorem wds_14 : Cond.selects "EventLog$Reader" ⟨"EventLog$Reader", "readEntry", "(LEventLog$Events;J)V"⟩ ⟨"EventLog$Reader", "readEntry", "(LEventLog$Events;J)V"⟩ ∈ U0 := mU (List.mem_append_left _ (List.mem_of_getElem? (i := 14) (by decide +kernel))) (by decide +kernel)
theorem wds_15 : Cond.selects "EventLog$Reader" ⟨"EventLog$Reader", "readRun", "(LEventLog$Events;JII)V"⟩ ⟨"EventLog$Reader", "readRun", "(LEventLog$Events;JII)V"⟩ ∈ U0 := mU (List.mem_append_left _ (List.mem_of_getElem? (i := 15) (by decide +kernel))) (by decide +kernel)
theorem wds_16 : Cond.selects "EventLog$Reader" ⟨"EventLog$Reader", "keep", "(LEventLog$Events;IJJI)V"⟩ ⟨"EventLog$Reader", "keep", "(LEventLog$Events;IJJI)V"⟩ ∈ U0 := mU (List.mem_append_left _ (List.mem_of_getElem? (i := 16) (by decide +kernel))) (by decide +kernel)
theorem wds_17 : Cond.selects "EventLog$Reader" ⟨"EventLog$Reader", "readLikeAnother", "(LEventLog$Events;IJI)V"⟩ ⟨"EventLog$Reader", "readLikeAnother", "(LEventLog$Events;IJI)V"⟩ ∈ U0 := mU (List.mem_append_left _ (List.mem_of_getElem? (i := 17) (by decide +kernel))) (by decide +kernel)
theorem wds_18 : Cond.selects "EventLog$Reader" ⟨"EventLog$Reader", "readOwn", "(LEventLog$Events;IJI)V"⟩ ⟨"EventLog$Reader", "readOwn", "(LEventLog$Events;IJI)V"⟩ ∈ U0 := mU (List.mem_append_left _ (List.mem_of_getElem? (i := 18) (by decide +kernel))) (by decide +kernel)
theorem wds_19 : Cond.selects "EventLog$Reader" ⟨"EventLog$Reader", "readBytes", "(I)J"⟩ ⟨"EventLog$Reader", "readBytes", "(I)J"⟩ ∈ U0 := mU (List.mem_append_left _ (List.mem_of_getElem? (i := 19) (by decide +kernel))) (by decide +kernel)
theorem wds_20 : Cond.selects "EventLog$Reader" ⟨"EventLog$Reader", "readSignal", "()I"⟩ ⟨"EventLog$Reader", "readSignal", "()I"⟩ ∈ U0 := mU (List.mem_append_left _ (List.mem_of_getElem? (i := 20) (by decide +kernel))) (by decide +kernel)
theorem kI_Past_init : ClI y_Past_init b_Past_init 1 0 := ⟨⟨wd_70, wd_5, by decide +kernel, by decide +kernel, by decide +kernel⟩, rfl, wd_69⟩
theorem kI_Events_init : ClI y_Events_init b_Events_init 1 0 := ⟨⟨wd_27, wd_2, by decide +kernel, by decide +kernel, by decide +kernel⟩, rfl, wd_26⟩
theorem kI_Bytes_init : ClI y_Bytes_init b_Bytes_init 1 0 := ⟨⟨wd_51, wd_3, by decide +kernel, by decide +kernel, by decide +kernel⟩, rfl, wd_50⟩
theorem kI_Packer_init : ClI y_Packer_init b_Packer_init 2 1 := ⟨⟨wd_64, wd_4, by decide +kernel, by decide +kernel, by decide +kernel⟩, rfl, wd_63⟩
theorem kI_Reader_init : ClI y_Reader_init b_Reader_init 2 1 := ⟨⟨wd_111, wd_6, by decide +kernel, by decide +kernel, by decide +kernel⟩, rfl, wd_110⟩
theorem kV_Events_has : ClV y_Events_has b_Events_has 2 (some FieldType.boolean) 1 := ⟨⟨wd_199, wd_2, by decide +kernel, by decide +kernel, by decide +kernel⟩, wd_197, wd_198⟩
theorem kV_Events_difference : ClV y_Events_difference b_Events_difference 2 (some FieldType.long) 1 := ⟨⟨wd_195, wd_2, by decide +kernel, by decide +kernel, by decide +kernel⟩, wd_193, wd_194⟩
theorem kV_Events_hasDifferenceBefore : ClV y_Events_hasDifferenceBefore b_Events_hasDifferenceBefore 2 (some FieldType.boolean) 1 := ⟨⟨wd_191, wd_2, by decide +kernel, by decide +kernel, by decide +kernel⟩, wd_189, wd_190⟩
theorem kV_Events_bringTheSame : ClV y_Events_bringTheSame b_Events_bringTheSame 3 (some FieldType.boolean) 2 := ⟨⟨wd_203, wd_2, by decide +kernel, by decide +kernel, by decide +kernel⟩, wd_201, wd_202⟩
theorem kV_Bytes_keepFirst : ClV y_Bytes_keepFirst b_Bytes_keepFirst 2 none 1 := ⟨⟨wd_162, wd_3, by decide +kernel, by decide +kernel, by decide +kernel⟩, wd_160, wd_161⟩
theorem kV_Past_forget : ClV y_Past_forget b_Past_forget 1 none 0 := ⟨⟨wd_166, wd_5, by decide +kernel, by decide +kernel, by decide +kernel⟩, wd_164, wd_165⟩
theorem kV_Bytes_append : ClV y_Bytes_append b_Bytes_append 2 none 1 := ⟨⟨wd_183, wd_3, by decide +kernel, by decide +kernel, by decide +kernel⟩, wd_181, wd_182⟩
theorem kV_Packer_packByte : ClV y_Packer_packByte b_Packer_packByte 2 none 1 := ⟨⟨wd_179, wd_4, by decide +kernel, by decide +kernel, by decide +kernel⟩, wd_178, wds_2⟩
theorem kV_Packer_packVarint : ClV y_Packer_packVarint b_Packer_packVarint 6 none 1 := ⟨⟨wd_174, wd_4, by decide +kernel, by decide +kernel, by decide +kernel⟩, wd_173, wds_1⟩
theorem kV_Events_kind : ClV y_Events_kind b_Events_kind 2 (some FieldType.int) 1 := ⟨⟨wd_220, wd_2, by decide +kernel, by decide +kernel, by decide +kernel⟩, wd_218, wd_219⟩
theorem kV_Events_b : ClV y_Events_b b_Events_b 2 (some FieldType.int) 1 := ⟨⟨wd_224, wd_2, by decide +kernel, by decide +kernel, by decide +kernel⟩, wd_222, wd_223⟩
theorem kV_Past_typedBefore : ClV y_Past_typedBefore b_Past_typedBefore 4 (some FieldType.int) 1 := ⟨⟨wd_228, wd_5, by decide +kernel, by decide +kernel, by decide +kernel⟩, wd_226, wd_227⟩
theorem kV_Events_a : ClV y_Events_a b_Events_a 2 (some FieldType.long) 1 := ⟨⟨wd_238, wd_2, by decide +kernel, by decide +kernel, by decide +kernel⟩, wd_236, wd_237⟩
theorem kV_Past_latestClock : ClV y_Past_latestClock b_Past_latestClock 1 (some FieldType.int) 0 := ⟨⟨wd_242, wd_5, by decide +kernel, by decide +kernel, by decide +kernel⟩, wd_240, wd_241⟩
theorem kV_Packer_packBytes : ClV y_Packer_packBytes b_Packer_packBytes 5 none 2 := ⟨⟨wd_251, wd_4, by decide +kernel, by decide +kernel, by decide +kernel⟩, wd_250, wds_8⟩
theorem kV_Packer_repeated : ClV y_Packer_repeated b_Packer_repeated 4 (some FieldType.int) 2 := ⟨⟨wd_216, wd_4, by decide +kernel, by decide +kernel, by decide +kernel⟩, wd_215, wds_5⟩
theorem kV_Packer_headX : ClV y_Packer_headX b_Packer_headX 4 (some FieldType.int) 3 := ⟨⟨wd_234, wd_4, by decide +kernel, by decide +kernel, by decide +kernel⟩, wd_233, wds_6⟩
theorem kV_Packer_packBrought : ClV y_Packer_packBrought b_Packer_packBrought 4 none 3 := ⟨⟨wd_247, wd_4, by decide +kernel, by decide +kernel, by decide +kernel⟩, wd_246, wds_7⟩
theorem kV_Packer_begin : ClV y_Packer_begin b_Packer_begin 2 none 1 := ⟨⟨wd_158, wd_4, by decide +kernel, by decide +kernel, by decide +kernel⟩, wd_157, wds_0⟩
theorem kV_Events_number : ClV y_Events_number b_Events_number 1 (some FieldType.int) 0 := ⟨⟨wd_170, wd_2, by decide +kernel, by decide +kernel, by decide +kernel⟩, wd_168, wd_169⟩
theorem kV_Packer_packRun : ClV y_Packer_packRun b_Packer_packRun 2 none 1 := ⟨⟨wd_207, wd_4, by decide +kernel, by decide +kernel, by decide +kernel⟩, wd_206, wds_3⟩
theorem kV_Events_isLikeBefore : ClV y_Events_isLikeBefore b_Events_isLikeBefore 2 (some FieldType.boolean) 1 := ⟨⟨wd_187, wd_2, by decide +kernel, by decide +kernel, by decide +kernel⟩, wd_185, wd_186⟩
theorem kV_Packer_packEntry : ClV y_Packer_packEntry b_Packer_packEntry 6 none 2 := ⟨⟨wd_211, wd_4, by decide +kernel, by decide +kernel, by decide +kernel⟩, wd_210, wds_4⟩
theorem kV_Past_note : ClV y_Past_note b_Past_note 3 none 2 := ⟨⟨wd_255, wd_5, by decide +kernel, by decide +kernel, by decide +kernel⟩, wd_253, wd_254⟩
theorem kV_Events_keepFirst : ClV y_Events_keepFirst b_Events_keepFirst 2 none 1 := ⟨⟨wd_279, wd_2, by decide +kernel, by decide +kernel, by decide +kernel⟩, wd_277, wd_278⟩
theorem kV_Bytes_length : ClV y_Bytes_length b_Bytes_length 1 (some FieldType.int) 0 := ⟨⟨wd_292, wd_3, by decide +kernel, by decide +kernel, by decide +kernel⟩, wd_290, wd_291⟩
theorem kV_Bytes_get : ClV y_Bytes_get b_Bytes_get 2 (some FieldType.int) 1 := ⟨⟨wd_300, wd_3, by decide +kernel, by decide +kernel, by decide +kernel⟩, wd_298, wd_299⟩
theorem kV_Reader_fail : ClV y_Reader_fail b_Reader_fail 3 none 2 := ⟨⟨wd_296, wd_6, by decide +kernel, by decide +kernel, by decide +kernel⟩, wd_295, wds_12⟩
theorem kV_Reader_readByte : ClV y_Reader_readByte b_Reader_readByte 2 (some FieldType.int) 0 := ⟨⟨wd_288, wd_6, by decide +kernel, by decide +kernel, by decide +kernel⟩, wd_287, wds_11⟩
theorem kV_Reader_isFine : ClV y_Reader_isFine b_Reader_isFine 1 (some FieldType.boolean) 0 := ⟨⟨wd_304, wd_6, by decide +kernel, by decide +kernel, by decide +kernel⟩, wd_303, wds_13⟩
theorem kV_Events_append : ClV y_Events_append b_Events_append 7 none 4 := ⟨⟨wd_331, wd_2, by decide +kernel, by decide +kernel, by decide +kernel⟩, wd_329, wd_330⟩
theorem kV_Reader_readVarint : ClV y_Reader_readVarint b_Reader_readVarint 8 (some FieldType.long) 1 := ⟨⟨wd_284, wd_6, by decide +kernel, by decide +kernel, by decide +kernel⟩, wd_283, wds_10⟩
theorem kV_Reader_keep : ClV y_Reader_keep b_Reader_keep 8 none 5 := ⟨⟨wd_326, wd_6, by decide +kernel, by decide +kernel, by decide +kernel⟩, wd_325, wds_16⟩
theorem kS_EventLog_isSignal : ClS y_EventLog_isSignal b_EventLog_isSignal 1 (some FieldType.boolean) 1 := ⟨⟨wd_356, wd_1, by decide +kernel, by decide +kernel, by decide +kernel⟩, wd_355⟩
theorem kV_Reader_readBytes : ClV y_Reader_readBytes b_Reader_readBytes 5 (some FieldType.long) 1 := ⟨⟨wd_349, wd_6, by decide +kernel, by decide +kernel, by decide +kernel⟩, wd_348, wds_19⟩
theorem kV_Reader_readSignal : ClV y_Reader_readSignal b_Reader_readSignal 3 (some FieldType.int) 0 := ⟨⟨wd_353, wd_6, by decide +kernel, by decide +kernel, by decide +kernel⟩, wd_352, wds_20⟩
theorem kS_Reader_isHead : ClS y_Reader_isHead b_Reader_isHead 2 (some FieldType.boolean) 1 := ⟨⟨wd_314, wd_6, by decide +kernel, by decide +kernel, by decide +kernel⟩, wd_313⟩
theorem kV_Reader_readRun : ClV y_Reader_readRun b_Reader_readRun 10 none 4 := ⟨⟨wd_318, wd_6, by decide +kernel, by decide +kernel, by decide +kernel⟩, wd_317, wds_15⟩
theorem kS_Reader_isMeaningAnother : ClS y_Reader_isMeaningAnother b_Reader_isMeaningAnother 2 (some FieldType.boolean) 2 := ⟨⟨wd_334, wd_6, by decide +kernel, by decide +kernel, by decide +kernel⟩, wd_333⟩
theorem kV_Reader_readOwn : ClV y_Reader_readOwn b_Reader_readOwn 9 none 4 := ⟨⟨wd_345, wd_6, by decide +kernel, by decide +kernel, by decide +kernel⟩, wd_344, wds_18⟩
theorem kV_Reader_readLikeAnother : ClV y_Reader_readLikeAnother b_Reader_readLikeAnother 7 none 4 := ⟨⟨wd_338, wd_6, by decide +kernel, by decide +kernel, by decide +kernel⟩, wd_337, wds_17⟩
theorem kV_Reader_begin : ClV y_Reader_begin b_Reader_begin 2 none 1 := ⟨⟨wd_275, wd_6, by decide +kernel, by decide +kernel, by decide +kernel⟩, wd_274, wds_9⟩
theorem kV_Reader_readEntry : ClV y_Reader_readEntry b_Reader_readEntry 11 none 2 := ⟨⟨wd_311, wd_6, by decide +kernel, by decide +kernel, by decide +kernel⟩, wd_310, wds_14⟩
theorem kS_EventLog_isProcess : ClS y_EventLog_isProcess b_EventLog_isProcess 2 (some FieldType.boolean) 1 := ⟨⟨wd_402, wd_1, by decide +kernel, by decide +kernel, by decide +kernel⟩, wd_401⟩
theorem kS_EventLog_isEvent : ClS y_EventLog_isEvent b_EventLog_isEvent 6 (some FieldType.boolean) 4 := ⟨⟨wd_398, wd_1, by decide +kernel, by decide +kernel, by decide +kernel⟩, wd_397⟩
theorem kS_EventLog_heldA : ClS y_EventLog_heldA b_EventLog_heldA 4 (some FieldType.long) 3 := ⟨⟨wd_492, wd_1, by decide +kernel, by decide +kernel, by decide +kernel⟩, wd_491⟩
theorem kS_EventLog_heldB : ClS y_EventLog_heldB b_EventLog_heldB 2 (some FieldType.int) 2 := ⟨⟨wd_496, wd_1, by decide +kernel, by decide +kernel, by decide +kernel⟩, wd_495⟩
theorem kV_Packer_run : ClV y_Packer_run b_Packer_run 5 none 2 := ⟨⟨wd_154, wd_4, by decide +kernel, by decide +kernel, by decide +kernel⟩, wd_152, wd_153⟩
theorem kV_Packer_bytes : ClV y_Packer_bytes b_Packer_bytes 1 (some FieldType.int) 0 := ⟨⟨wd_259, wd_4, by decide +kernel, by decide +kernel, by decide +kernel⟩, wd_257, wd_258⟩
theorem kV_Reader_run : ClV y_Reader_run b_Reader_run 5 (some FieldType.int) 1 := ⟨⟨wd_271, wd_6, by decide +kernel, by decide +kernel, by decide +kernel⟩, wd_269, wd_270⟩
theorem kV_Bytes_put : ClV y_Bytes_put b_Bytes_put 3 none 2 := ⟨⟨wd_537, wd_3, by decide +kernel, by decide +kernel, by decide +kernel⟩, wd_535, wd_536⟩
theorem kV_Events_sumUpTo : ClV y_Events_sumUpTo b_Events_sumUpTo 5 (some FieldType.long) 1 := ⟨⟨wd_588, wd_2, by decide +kernel, by decide +kernel, by decide +kernel⟩, wd_586, wd_587⟩
theorem kV_Events_lastWithSumUpTo : ClV y_Events_lastWithSumUpTo b_Events_lastWithSumUpTo 6 (some FieldType.int) 1 := ⟨⟨wd_364, wd_2, by decide +kernel, by decide +kernel, by decide +kernel⟩, wd_362, wd_363⟩
theorem kV_Packer_entries : ClV y_Packer_entries b_Packer_entries 1 (some FieldType.int) 0 := ⟨⟨wd_374, wd_4, by decide +kernel, by decide +kernel, by decide +kernel⟩, wd_372, wd_373⟩
theorem kV_Packer_runs : ClV y_Packer_runs b_Packer_runs 1 (some FieldType.int) 0 := ⟨⟨wd_378, wd_4, by decide +kernel, by decide +kernel, by decide +kernel⟩, wd_376, wd_377⟩
theorem kV_Packer_sames : ClV y_Packer_sames b_Packer_sames 1 (some FieldType.int) 0 := ⟨⟨wd_382, wd_4, by decide +kernel, by decide +kernel, by decide +kernel⟩, wd_380, wd_381⟩
theorem kV_Packer_repeats : ClV y_Packer_repeats b_Packer_repeats 1 (some FieldType.int) 0 := ⟨⟨wd_386, wd_4, by decide +kernel, by decide +kernel, by decide +kernel⟩, wd_384, wd_385⟩
end
section
/-! Constructors: a contract whose cells lie at addresses that come. -/
def QN (D : va_G) (cl : List vw_C) (tys : List (ClassId × FieldType)) {α : Type} (A : Nat → Prop) (w2 : α → va_W) : Array Value → State → Outcome → State → Prop := fun _ st oc t => (oc = .returned none ∧ ∃ u : α, va_P D cl (w2 u) t.heap ∧ va_D A (w2 u)) ∧ va_F A st t
def FnN (l : Launch) (D : va_G) (cl : List vw_C) (tys : List (ClassId × FieldType)) (y : MethodName) (ws : List Cond) (rm : Room) (av : List Value) (w : va_W) {α : Type} (w2 : α → va_W) : Prop :=
  ∀ sz : Nat, Met l y ws rm (Pw D cl tys av sz w) (QN D cl tys (va_A w sz) w2) rm.cells rm.slots (va_A w sz)
section FNN
variable {l : Launch} {D : va_G} {cl : List vw_C} {tys : List (ClassId × FieldType)}
theorem FnN.ofW {y : MethodName} {ws ws' : List Cond} {rm : Room} {av : List Value} {w : va_W} {α : Type} {w2 : α → va_W} {cc : ByteArray} {maxL : Nat} {ret : Option FieldType}
    (hy : plainName y.cls = true) (hw : ws = Cond.code y cc maxL ret :: ws') (hi : y.name = "<init>") (hlen : (lg_sl av).length ≤ maxL)
    (body : ∀ (p : Program) (e : Env) (s : State) (m : MethodId) (below : List Frame) (meth : Method) (c : Code) (A : Nat → Prop) (ls : Array Slot), Cx p s m av.toArray meth c D cl tys A cc maxL ret ws y.cls → Hp D cl A A s.heap s.heap [] w → meth.name = "<init>" → lv_has ls maxL (lv_args 0 av) →
      W p l e rm s m av.toArray below meth c s.heap [] 0 0 (MQ below (QN D cl tys A w2) av.toArray s rm.cells rm.slots A) (F0 m 0 ls [])) : FnN l D cl tys y ws rm av w w2 := by
  intro sz
  refine Met.ofW (cc := cc) (maxL := maxL) (ret := ret) hy hw ?_
  intro p e s m args below meth c s₁ B hml hv
  obtain ⟨rfl, hsz, hP, hK, hD0⟩ := hv
  subst hsz
  rw [lg_entry_eq]
  exact body p e s m below meth c (va_A w s.heap.size) _ ⟨B.exec, B.bytes, B.returns, hml, findClass_of_methodNamed B.named, atoms_spec (ws := ws) B.pre, B.notSynchronized, hK, fun q h => Or.inr h⟩ ⟨hP, hD0.self, va_S.rf⟩ ((name_of_methodNamed B.named B.method).1.trans hi) (lv_entry av hlen)
variable {p : Program} {e : Env} {R : Room} {s : State} {m : MethodId} {args : Array Value} {below : List Frame} {meth : Method} {c : Code} {H : Heap} {locs : List Loc} {cells slots : Nat} {Q : State → Prop}
variable {A : Nat → Prop} {cc : ByteArray} {nL : Nat} {ret : Option FieldType} {Ts : List Cond} {own : String} {w : va_W} {pc : Nat} {ls : Array Slot} {rest : List Value}
theorem rVN {α : Type} {w2 : α → va_W} (u : α) (C : Cx p s m args meth c D cl tys A cc nL none Ts own) (hH : Hp D cl A A s.heap H locs (w2 u)) (hdg : decode cc pc = .ok (.return_, 1)) : W p l e R s m args below meth c H locs cells slots (MQ below (QN D cl tys A w2) args s cells slots A) (F0 m pc ls []) :=
  W.vret C.1 C.2.1 C.2.2.1 (fun t ht hW => ⟨⟨rfl, u, by rw [ht]; exact hH.1, hH.2.1⟩, hH.2.2.F ht⟩) hH.2.2.2.2 hdg C.2.2.2.2.2.2.1
theorem nwO (C : Cx p s m args meth c D cl tys A cc nL ret Ts own) (hH : Hp D cl A A s.heap H locs w) {Cn : String} {T : u_T} {N ci index : Nat} (hin : ∀ x ∈ u_ws Cn T N, x ∈ Ts) (ty : Nat → FieldType) (hty : ∀ k, k < N → parseFieldDescriptor (T k).2.2.1 = some (ty k)) (hcl : Cond.classLink own index Cn ∈ Ts) (hinst : Cond.instantiable Cn N ∈ Ts) (hini : Cond.initialized Cn ∈ Ts) (hc : cl[ci]? = some (Cn, T, N)) {fs : List Value} (hfs : ∀ j, j < N → defaultValue (ty j) = vp_V fs j) (hcells : cells + 1 ≤ R.cells) (hslots : slots + N ≤ R.slots) (hdg : decode cc pc = .ok (.new index, 3))
    (kk : ∀ (q : Nat) (H1 : Heap), Hp D cl A A s.heap H1 locs (w ++ [(q, .inr (ci, fs))]) → W p l e R s m args below meth c H1 locs (cells + 1) (slots + N) Q (F0 m (pc + 3) ls (.ref q :: rest))) : W p l e R s m args below meth c H locs cells slots Q (F0 m pc ls rest) :=
  va_new C.1 C.2.1 C.2.2.2.2.2.1 hin ty hty C.2.2.2.2.1 (C.2.2.2.2.2.1 _ hcl) (C.2.2.2.2.2.1 _ hinst) (C.2.2.2.2.2.1 _ hini) C.2.2.2.2.2.2.2.1.1 hH.1 hH.2.1 hH.2.2 C.2.2.2.2.2.2.2.2 hc hfs hcells hslots hdg (fun q H1 a1 a2 a3 => kk q H1 ⟨a1, a2, a3⟩)
theorem nw_same {cA cB : ClassId} {ty : FieldType} {t0 : Nat} (hK : va_K D cl tys s) (hT : tys[t0]? = some (cB, ty)) (hty : ∀ C, ty ≠ .object C) (hK1 : va_K D cl (tys ++ [(cA, ty)]) s) : cA = cB := by
  have h1 := (hK.2 t0 _ hT).2
  have h2 := (hK1.2 tys.length (cA, ty) (by simp)).2
  cases ty <;> first | exact absurd rfl (hty _) | exact Option.some.inj (h2.symm.trans h1)
theorem nwI {nv : Int32} {N : Nat} {cI : ClassId} (C : Cx p s m args meth c D cl tys A cc nL ret Ts own) (hH : Hp D cl A A s.heap H locs w) (t0 : Nat) (hT : tys[t0]? = some (cI, .int)) (hw : Cond.arrayClass .int ∈ Ts) (hn : ¬ nv < 0) (hN : nv.toNatClampNeg = N) (hbytes : N * componentBytes .int ≤ 536870912) (hcells : cells + 1 ≤ R.cells) (hslots : slots + N ≤ R.slots) (hdg : decode cc pc = .ok (.newarray .int, 2))
    (kk : ∀ (q : Nat) (H1 : Heap), Hp D cl A A s.heap H1 locs (w ++ [(q, .inl (cI, N, .inl (fun _ => 0)))]) → W p l e R s m args below meth c H1 locs (cells + 1) (slots + N) Q (F0 m (pc + 2) ls (.ref q :: rest))) : W p l e R s m args below meth c H locs cells slots Q (F0 m pc ls (.int nv :: rest)) := by
  refine va_newa (D := D) (atype := .int) (ty := .int) (a0 := (N, .inl (fun _ => 0))) C.1 C.2.1 (C.2.2.2.2.2.1 _ hw) rfl C.2.2.2.2.2.2.2.1.1 hH.1 hH.2.1 hH.2.2 C.2.2.2.2.2.2.2.2 (fun cA => rfl) hn hN hbytes hcells hslots hdg (fun q cA H1 hK1 hP1 hD1 hS1 => ?_)
  cases nw_same C.2.2.2.2.2.2.2.1.1 hT (fun _ h => by cases h) hK1
  exact kk q H1 ⟨hP1, hD1, hS1⟩
theorem nwL {nv : Int32} {N : Nat} {cL : ClassId} (C : Cx p s m args meth c D cl tys A cc nL ret Ts own) (hH : Hp D cl A A s.heap H locs w) (t0 : Nat) (hT : tys[t0]? = some (cL, .long)) (hw : Cond.arrayClass .long ∈ Ts) (hn : ¬ nv < 0) (hN : nv.toNatClampNeg = N) (hbytes : N * componentBytes .long ≤ 536870912) (hcells : cells + 1 ≤ R.cells) (hslots : slots + N ≤ R.slots) (hdg : decode cc pc = .ok (.newarray .long, 2))
    (kk : ∀ (q : Nat) (H1 : Heap), Hp D cl A A s.heap H1 locs (w ++ [(q, .inl (cL, N, .inr (.inl (fun _ => 0))))]) → W p l e R s m args below meth c H1 locs (cells + 1) (slots + N) Q (F0 m (pc + 2) ls (.ref q :: rest))) : W p l e R s m args below meth c H locs cells slots Q (F0 m pc ls (.int nv :: rest)) := by
  refine va_newa (D := D) (atype := .long) (ty := .long) (a0 := (N, .inr (.inl (fun _ => 0)))) C.1 C.2.1 (C.2.2.2.2.2.1 _ hw) rfl C.2.2.2.2.2.2.2.1.1 hH.1 hH.2.1 hH.2.2 C.2.2.2.2.2.2.2.2 (fun cA => rfl) hn hN hbytes hcells hslots hdg (fun q cA H1 hK1 hP1 hD1 hS1 => ?_)
  cases nw_same C.2.2.2.2.2.2.2.1.1 hT (fun _ h => by cases h) hK1
  exact kk q H1 ⟨hP1, hD1, hS1⟩
theorem callItN {wc wr : va_W} {α : Type} {w1 : α → va_W} {a : Array Value} {mc ms : Nat} {st0 : List Value}
    (C : Cx p s m args meth c D cl tys A cc nL ret Ts own) (hH : Hp D cl A A s.heap H locs w) (isC isR : List Nat) (hC : isC.map (fun i => w[i]?) = wc.map some) (hR : isR.map (fun i => w[i]?) = wr.map some) (hn : va_nd isR = true) (hdis : ∀ i ∈ isR, i ∉ isC)
    (hr : va_Run p l e R s m args below meth c H locs cells slots mc ms (F0 m pc ls st0) rest (QN D cl tys (va_A wc H.size) w1 a) (va_A wc H.size))
    (kk : ∀ (u : α) (H1 : Heap) (locs1 : List Loc), Hp D cl A A s.heap H1 locs1 (wr ++ w1 u) → W p l e R s m args below meth c H1 locs1 (cells + mc) (slots + ms) Q (F0 m (pc + 3) ls rest)) : W p l e R s m args below meth c H locs cells slots Q (F0 m pc ls st0) := by
  obtain ⟨hP, hD, hS⟩ := hH
  have hFc := va_free (wc := wc) hD hS C.2.2.2.2.2.2.2.2 isC hC
  intro T hT X
  obtain ⟨v, st₀, t, T', L, h0, X', hL, e1, e2, ⟨⟨hv, u, hP1, hD1⟩, hz, hk⟩, st⟩ := hr T hT X
  cases hv
  rw [h0] at hz hk
  rw [← e1] at hP1 hz hk
  obtain ⟨hPj, hDj⟩ := va_join (wr := wr) (w1 := w1 u) hP hD isC isR hC hR hn hdis hk hFc hP1 hD1
  have hS1 : va_S A s.heap T'.heap (locs ++ L) := ⟨Nat.le_trans hS.1 hz, fun q h1 h2 => by rw [hk q (Nat.lt_of_lt_of_le h1 hS.1) (fun z => h2 (hFc q z))]; exact hS.2.1 q h1 h2, fun q hq => by
      rcases List.mem_append.mp hq with h | h
      · exact hS.2.2 q h
      · exact hFc _ (hL q h)⟩
  obtain ⟨t2, a1, b1⟩ := kk u T'.heap (locs ++ L) ⟨hPj, hDj, hS1⟩ T' rfl X'
  exact ⟨t2, st t2 a1, b1⟩
theorem mkI {wc wr : va_W} {α : Type} {w1 : α → va_W} {st0 : List Value} {y : MethodName} {bytes : ByteArray} {maxL n index : Nat} {ws : List Cond} {rm : Room} {As : List Value} {b : Nat} (C : Cx p s m args meth c D cl tys A cc nL ret Ts own) (hF : FnN l D cl tys y ws rm (.ref b :: As) wc w1) (cw : CallB R s args own index y bytes maxL none ws rm rm.cells rm.slots n ∧ y.name = "<init>" ∧ (Cond.instanceMethod y).before args s = true) (hH : Hp D cl A A s.heap H locs w) (isC isR : List Nat) (hC : isC.map (fun i => w[i]?) = wc.map some) (hnC : va_nd isC = true) (hR : isR.map (fun i => w[i]?) = wr.map some) (hn : va_nd isR = true) (hdis : ∀ i ∈ isR, i ∉ isC)
    (hnA : As.length = n) (hl : ls.size = nL) (hst : st0 = As.reverse ++ .ref b :: rest) (hrm : (rest.map fun v => v.category).sum ≤ 8) (hdg : decode cc pc = .ok (.invokespecial index, 3)) (hf : cells + rm.cells ≤ R.cells ∧ slots + rm.slots ≤ R.slots)
    (kk : ∀ (u : α) (H1 : Heap) (locs1 : List Loc), Hp D cl A A s.heap H1 locs1 (wr ++ w1 u) → W p l e R s m args below meth c H1 locs1 (cells + rm.cells) (slots + rm.slots) Q (F0 m (pc + 3) ls rest)) : W p l e R s m args below meth c H locs cells slots Q (F0 m pc ls st0) := by
  obtain ⟨hP, hD, hS⟩ := id hH
  have hPc := hP.sub isC (va_pm hC)
  have hDc := hD.sub isC hnC hC
  have hK := C.2.2.2.2.2.2.2.1
  exact callItN C hH isC isR hC hR hn hdis (va_runI ⟨C.1, C.2.1, C.2.2.2.1, C.2.2.2.2.1, C.2.2.2.2.2.1⟩ (hF H.size) cw ⟨Pw_blind, fun U hU hW => ⟨rfl, by rw [hU], by rw [hU]; exact hPc, Kx.warm hW hK, hDc.weaken (fun _ _ _ _ => trivial)⟩⟩ rfl hnA hl hst (lv_room hrm) hdg hf) kk
theorem mkIN {wc wr : va_W} {α : Type} {w1 : α → va_W} {st0 : List Value} {y : MethodName} {bytes : ByteArray} {maxL n index : Nat} {ws : List Cond} {rm : Room} {As : List Value} {b : Nat} {host : String} (C : Cx p s m args meth c D cl tys A cc nL ret Ts own) (hF : FnN l D cl tys y ws rm (.ref b :: As) wc w1) (cw : va_CN R s args own index y host bytes maxL none ws rm rm.cells rm.slots n ∧ y.name = "<init>" ∧ (Cond.instanceMethod y).before args s = true) (hH : Hp D cl A A s.heap H locs w) (isC isR : List Nat) (hC : isC.map (fun i => w[i]?) = wc.map some) (hnC : va_nd isC = true) (hR : isR.map (fun i => w[i]?) = wr.map some) (hn : va_nd isR = true) (hdis : ∀ i ∈ isR, i ∉ isC)
    (hnA : As.length = n) (hl : ls.size = nL) (hst : st0 = As.reverse ++ .ref b :: rest) (hrm : (rest.map fun v => v.category).sum ≤ 8) (hdg : decode cc pc = .ok (.invokespecial index, 3)) (hf : cells + rm.cells ≤ R.cells ∧ slots + rm.slots ≤ R.slots)
    (kk : ∀ (u : α) (H1 : Heap) (locs1 : List Loc), Hp D cl A A s.heap H1 locs1 (wr ++ w1 u) → W p l e R s m args below meth c H1 locs1 (cells + rm.cells) (slots + rm.slots) Q (F0 m (pc + 3) ls rest)) : W p l e R s m args below meth c H locs cells slots Q (F0 m pc ls st0) := by
  obtain ⟨hP, hD, hS⟩ := id hH
  have hPc := hP.sub isC (va_pm hC)
  have hDc := hD.sub isC hnC hC
  have hK := C.2.2.2.2.2.2.2.1
  exact callItN C hH isC isR hC hR hn hdis (va_runIN ⟨C.1, C.2.1, C.2.2.2.1, C.2.2.2.2.1, C.2.2.2.2.2.1⟩ (hF H.size) cw ⟨Pw_blind, fun U hU hW => ⟨rfl, by rw [hU], by rw [hU]; exact hPc, Kx.warm hW hK, hDc.weaken (fun _ _ _ _ => trivial)⟩⟩ rfl hnA hl hst (lv_room hrm) hdg hf) kk
end FNN
theorem cCI {c0 : Cond} {R : Room} {s : State} {args : Array Value} {own : String} {index maxL n : Nat} {y : MethodName} {bytes : ByteArray} {rm : Room} (hts : ∀ w ∈ c0 :: U0, w.before args s = true) (k : ClI y bytes maxL n) (hl : Cond.methodLink own index y ∈ U0) (hR : rm.frames + 1 ≤ R.frames ∧ 8 + (maxL + 11) + rm.locals ≤ R.locals) : CallB R s args own index y bytes maxL none (Cond.code y bytes maxL none :: U0) rm rm.cells rm.slots n ∧ y.name = "<init>" ∧ (Cond.instanceMethod y).before args s = true := cI hts k hl hR
end
section
set_option maxRecDepth 100000 in
set_option maxHeartbeats 4000000 in
theorem c_Bytes_init (l : Launch) (D : va_G) (cI cL : ClassId) (h : Nat) :
    FnN l D vwCl [(cI, .int), (cL, .long)] y_Bytes_init ws_Bytes_init { frames := 1, cells := 1, slots := 5000, locals := 12 } [.ref h] [(h, .inr (0, [.null, .int 0]))] (fun u : Nat => [(h, .inr (0, [.ref u, .int 0])), (u, .inl (cI, 5000, .inl ((fun _ => 0))))]) := by
  refine FnN.ofW (cc := b_Bytes_init) (maxL := 1) (ret := none) (by decide) rfl rfl (Nat.le_of_ble_eq_true rfl) ?_
  intro p e s m below meth c A ls C hH hinit hl
  have hl : lv_has ls 1 [(0, .ref h)] := hl
  obtain ⟨hx, hb, hr, hml, hown, hts, hlk, hK, hA⟩ := id C
  refine lv_aload_n hx hb d_Bytes_init_0 rfl (lv_at hl 0 rfl) ?_
  refine W.objInit hx hb hown (hts _ (.tail _ wd_52)) (hts _ (.tail _ wd_21)) (hts _ (.tail _ wd_22)) rfl (by rw [hml]; exact hl.1) rfl d_Bytes_init_1 (Nat.le_of_ble_eq_true rfl) (Nat.le_of_ble_eq_true rfl) ?_
  refine W.eq (g2 := F0 m 4 ls []) rfl ?_
  refine lv_aload_n hx hb d_Bytes_init_4 rfl (lv_at hl 0 rfl) ?_
  refine lv_sipush (v := 5000) hx hb d_Bytes_init_5 (by decide) ?_
  refine nwI (N := 5000) C hH 0 rfl (.tail _ wd_45) (by decide) (by decide) (by decide) (Nat.le_of_ble_eq_true rfl) (Nat.le_of_ble_eq_true rfl) d_Bytes_init_8 (fun n8 H hH => ?_)
  have hH : Hp D vwCl A A s.heap H _ [(h, .inr (0, [.null, .int 0])), (n8, .inl (cI, 5000, .inl ((fun _ => 0))))] := hH
  refine ptF (ci := 0) (v := .ref n8) C hH (iwT iw_Bytes) ty_Bytes tyok_Bytes nm_Bytes hinit 0 rfl rfl 0 (by decide) (.tail _ wd_53) rfl rfl rfl rfl (Nat.le_of_ble_eq_true rfl) d_Bytes_init_10 [(h, .inr (0, [.ref n8, .int 0])), (n8, .inl (cI, 5000, .inl ((fun _ => 0))))] rfl (fun H locs hH => ?_)
  refine W.widen (k := 1) (n := 5000) (Nat.le_of_ble_eq_true rfl) (Nat.le_of_ble_eq_true rfl) ?_
  exact rVN (n8) C (Hp.pm (w2 := [(h, .inr (0, [.ref n8, .int 0])), (n8, .inl (cI, 5000, .inl ((fun _ => 0))))]) hH [0, 1] rfl rfl) d_Bytes_init_13
set_option maxRecDepth 100000 in
set_option maxHeartbeats 4000000 in
theorem c_Past_init (l : Launch) (D : va_G) (cI cL : ClassId) (h : Nat) :
    FnN l D vwCl [(cI, .int), (cL, .long)] y_Past_init ws_Past_init { frames := 1, cells := 1, slots := 300, locals := 12 } [.ref h] [(h, .inr (1, [.null, .int 0, .int 0]))] (fun u : Nat => [(h, .inr (1, [.ref u, .int 0, .int ((-1))])), (u, .inl (cI, 300, .inl ((fun _ => 0))))]) := by
  refine FnN.ofW (cc := b_Past_init) (maxL := 1) (ret := none) (by decide) rfl rfl (Nat.le_of_ble_eq_true rfl) ?_
  intro p e s m below meth c A ls C hH hinit hl
  have hl : lv_has ls 1 [(0, .ref h)] := hl
  obtain ⟨hx, hb, hr, hml, hown, hts, hlk, hK, hA⟩ := id C
  refine lv_aload_n hx hb d_Past_init_0 rfl (lv_at hl 0 rfl) ?_
  refine W.objInit hx hb hown (hts _ (.tail _ wd_71)) (hts _ (.tail _ wd_21)) (hts _ (.tail _ wd_22)) rfl (by rw [hml]; exact hl.1) rfl d_Past_init_1 (Nat.le_of_ble_eq_true rfl) (Nat.le_of_ble_eq_true rfl) ?_
  refine W.eq (g2 := F0 m 4 ls []) rfl ?_
  refine lv_aload_n hx hb d_Past_init_4 rfl (lv_at hl 0 rfl) ?_
  refine lv_sipush (v := 300) hx hb d_Past_init_5 (by decide) ?_
  refine nwI (N := 300) C hH 0 rfl (.tail _ wd_45) (by decide) (by decide) (by decide) (Nat.le_of_ble_eq_true rfl) (Nat.le_of_ble_eq_true rfl) d_Past_init_8 (fun n8 H hH => ?_)
  have hH : Hp D vwCl A A s.heap H _ [(h, .inr (1, [.null, .int 0, .int 0])), (n8, .inl (cI, 300, .inl ((fun _ => 0))))] := hH
  refine ptF (ci := 1) (v := .ref n8) C hH (iwT iw_Past) ty_Past tyok_Past nm_Past hinit 0 rfl rfl 0 (by decide) (.tail _ wd_72) rfl rfl rfl rfl (Nat.le_of_ble_eq_true rfl) d_Past_init_10 [(h, .inr (1, [.ref n8, .int 0, .int 0])), (n8, .inl (cI, 300, .inl ((fun _ => 0))))] rfl (fun H locs hH => ?_)
  refine lv_aload_n hx hb d_Past_init_13 rfl (lv_at hl 0 rfl) ?_
  refine lv_iconst (v := (-1)) hx hb d_Past_init_14 (by decide) ?_
  refine pt (ci := 1) (v := .int ((-1))) C hH (iwT iw_Past) ty_Past tyok_Past nm_Past 0 rfl rfl 2 (by decide) (.tail _ wd_74) rfl rfl rfl (Nat.le_of_ble_eq_true rfl) d_Past_init_15 [(h, .inr (1, [.ref n8, .int 0, .int ((-1))])), (n8, .inl (cI, 300, .inl ((fun _ => 0))))] rfl (fun H locs hH => ?_)
  refine W.widen (k := 1) (n := 300) (Nat.le_of_ble_eq_true rfl) (Nat.le_of_ble_eq_true rfl) ?_
  exact rVN (n8) C (Hp.pm (w2 := [(h, .inr (1, [.ref n8, .int 0, .int ((-1))])), (n8, .inl (cI, 300, .inl ((fun _ => 0))))]) hH [0, 1] rfl rfl) d_Past_init_18
set_option maxRecDepth 100000 in
set_option maxHeartbeats 4000000 in
theorem c_Events_init (l : Launch) (D : va_G) (cI cL : ClassId) (h : Nat) :
    FnN l D vwCl [(cI, .int), (cL, .long)] y_Events_init ws_Events_init { frames := 1, cells := 4, slots := 1200, locals := 12 } [.ref h] [(h, .inr (2, [.null, .null, .null, .null, .int 0]))] (fun u : Nat × Nat × Nat × Nat => [(h, .inr (2, [.ref u.1, .ref u.2.1, .ref u.2.2.1, .ref u.2.2.2, .int 0])), (u.1, .inl (cI, 300, .inl ((fun _ => 0)))), (u.2.1, .inl (cL, 300, .inr (.inl ((fun _ => 0))))), (u.2.2.1, .inl (cL, 300, .inr (.inl ((fun _ => 0))))), (u.2.2.2, .inl (cI, 300, .inl ((fun _ => 0))))]) := by
  refine FnN.ofW (cc := b_Events_init) (maxL := 1) (ret := none) (by decide) rfl rfl (Nat.le_of_ble_eq_true rfl) ?_
  intro p e s m below meth c A ls C hH hinit hl
  have hl : lv_has ls 1 [(0, .ref h)] := hl
  obtain ⟨hx, hb, hr, hml, hown, hts, hlk, hK, hA⟩ := id C
  refine lv_aload_n hx hb d_Events_init_0 rfl (lv_at hl 0 rfl) ?_
  refine W.objInit hx hb hown (hts _ (.tail _ wd_28)) (hts _ (.tail _ wd_21)) (hts _ (.tail _ wd_22)) rfl (by rw [hml]; exact hl.1) rfl d_Events_init_1 (Nat.le_of_ble_eq_true rfl) (Nat.le_of_ble_eq_true rfl) ?_
  refine W.eq (g2 := F0 m 4 ls []) rfl ?_
  refine lv_aload_n hx hb d_Events_init_4 rfl (lv_at hl 0 rfl) ?_
  refine lv_sipush (v := 300) hx hb d_Events_init_5 (by decide) ?_
  refine nwI (N := 300) C hH 0 rfl (.tail _ wd_45) (by decide) (by decide) (by decide) (Nat.le_of_ble_eq_true rfl) (Nat.le_of_ble_eq_true rfl) d_Events_init_8 (fun n8 H hH => ?_)
  have hH : Hp D vwCl A A s.heap H _ [(h, .inr (2, [.null, .null, .null, .null, .int 0])), (n8, .inl (cI, 300, .inl ((fun _ => 0))))] := hH
  refine ptF (ci := 2) (v := .ref n8) C hH (iwT iw_Events) ty_Events tyok_Events nm_Events hinit 0 rfl rfl 0 (by decide) (.tail _ wd_29) rfl rfl rfl rfl (Nat.le_of_ble_eq_true rfl) d_Events_init_10 [(h, .inr (2, [.ref n8, .null, .null, .null, .int 0])), (n8, .inl (cI, 300, .inl ((fun _ => 0))))] rfl (fun H locs hH => ?_)
  refine lv_aload_n hx hb d_Events_init_13 rfl (lv_at hl 0 rfl) ?_
  refine lv_sipush (v := 300) hx hb d_Events_init_14 (by decide) ?_
  refine nwL (N := 300) C hH 1 rfl (.tail _ wd_46) (by decide) (by decide) (by decide) (Nat.le_of_ble_eq_true rfl) (Nat.le_of_ble_eq_true rfl) d_Events_init_17 (fun n17 H hH => ?_)
  have hH : Hp D vwCl A A s.heap H _ [(h, .inr (2, [.ref n8, .null, .null, .null, .int 0])), (n8, .inl (cI, 300, .inl ((fun _ => 0)))), (n17, .inl (cL, 300, .inr (.inl ((fun _ => 0)))))] := hH
  refine ptF (ci := 2) (v := .ref n17) C hH (iwT iw_Events) ty_Events tyok_Events nm_Events hinit 0 rfl rfl 1 (by decide) (.tail _ wd_30) rfl rfl rfl rfl (Nat.le_of_ble_eq_true rfl) d_Events_init_19 [(h, .inr (2, [.ref n8, .ref n17, .null, .null, .int 0])), (n8, .inl (cI, 300, .inl ((fun _ => 0)))), (n17, .inl (cL, 300, .inr (.inl ((fun _ => 0)))))] rfl (fun H locs hH => ?_)
  refine lv_aload_n hx hb d_Events_init_22 rfl (lv_at hl 0 rfl) ?_
  refine lv_sipush (v := 300) hx hb d_Events_init_23 (by decide) ?_
  refine nwL (N := 300) C hH 1 rfl (.tail _ wd_46) (by decide) (by decide) (by decide) (Nat.le_of_ble_eq_true rfl) (Nat.le_of_ble_eq_true rfl) d_Events_init_26 (fun n26 H hH => ?_)
  have hH : Hp D vwCl A A s.heap H _ [(h, .inr (2, [.ref n8, .ref n17, .null, .null, .int 0])), (n8, .inl (cI, 300, .inl ((fun _ => 0)))), (n17, .inl (cL, 300, .inr (.inl ((fun _ => 0))))), (n26, .inl (cL, 300, .inr (.inl ((fun _ => 0)))))] := hH
  refine ptF (ci := 2) (v := .ref n26) C hH (iwT iw_Events) ty_Events tyok_Events nm_Events hinit 0 rfl rfl 2 (by decide) (.tail _ wd_31) rfl rfl rfl rfl (Nat.le_of_ble_eq_true rfl) d_Events_init_28 [(h, .inr (2, [.ref n8, .ref n17, .ref n26, .null, .int 0])), (n8, .inl (cI, 300, .inl ((fun _ => 0)))), (n17, .inl (cL, 300, .inr (.inl ((fun _ => 0))))), (n26, .inl (cL, 300, .inr (.inl ((fun _ => 0)))))] rfl (fun H locs hH => ?_)
  refine lv_aload_n hx hb d_Events_init_31 rfl (lv_at hl 0 rfl) ?_
  refine lv_sipush (v := 300) hx hb d_Events_init_32 (by decide) ?_
  refine nwI (N := 300) C hH 0 rfl (.tail _ wd_45) (by decide) (by decide) (by decide) (Nat.le_of_ble_eq_true rfl) (Nat.le_of_ble_eq_true rfl) d_Events_init_35 (fun n35 H hH => ?_)
  have hH : Hp D vwCl A A s.heap H _ [(h, .inr (2, [.ref n8, .ref n17, .ref n26, .null, .int 0])), (n8, .inl (cI, 300, .inl ((fun _ => 0)))), (n17, .inl (cL, 300, .inr (.inl ((fun _ => 0))))), (n26, .inl (cL, 300, .inr (.inl ((fun _ => 0))))), (n35, .inl (cI, 300, .inl ((fun _ => 0))))] := hH
  refine ptF (ci := 2) (v := .ref n35) C hH (iwT iw_Events) ty_Events tyok_Events nm_Events hinit 0 rfl rfl 3 (by decide) (.tail _ wd_32) rfl rfl rfl rfl (Nat.le_of_ble_eq_true rfl) d_Events_init_37 [(h, .inr (2, [.ref n8, .ref n17, .ref n26, .ref n35, .int 0])), (n8, .inl (cI, 300, .inl ((fun _ => 0)))), (n17, .inl (cL, 300, .inr (.inl ((fun _ => 0))))), (n26, .inl (cL, 300, .inr (.inl ((fun _ => 0))))), (n35, .inl (cI, 300, .inl ((fun _ => 0))))] rfl (fun H locs hH => ?_)
  refine W.widen (k := 4) (n := 1200) (Nat.le_of_ble_eq_true rfl) (Nat.le_of_ble_eq_true rfl) ?_
  exact rVN (n8, n17, n26, n35) C (Hp.pm (w2 := [(h, .inr (2, [.ref n8, .ref n17, .ref n26, .ref n35, .int 0])), (n8, .inl (cI, 300, .inl ((fun _ => 0)))), (n17, .inl (cL, 300, .inr (.inl ((fun _ => 0))))), (n26, .inl (cL, 300, .inr (.inl ((fun _ => 0))))), (n35, .inl (cI, 300, .inl ((fun _ => 0))))]) hH [0, 1, 2, 3, 4] rfl rfl) d_Events_init_40
set_option maxRecDepth 100000 in
set_option maxHeartbeats 4000000 in
theorem c_Packer_init (l : Launch) (D : va_G) (cI cL : ClassId) (h p1 : Nat) :
    FnN l D vwCl [(cI, .int), (cL, .long)] y_Packer_init ws_Packer_init { frames := 2, cells := 2, slots := 303, locals := 32 } [.ref h, .ref p1] [(h, .inr (3, [.null, .null, .int (bI false), .int 0, .int 0, .int 0, .int 0, .int 0]))] (fun u : Nat × Nat => [(h, .inr (3, [.ref p1, .ref u.1, .int (bI false), .int 0, .int 0, .int 0, .int 0, .int 0])), (u.1, .inr (1, [.ref u.2, .int 0, .int ((-1))])), (u.2, .inl (cI, 300, .inl ((fun _ => 0))))]) := by
  refine FnN.ofW (cc := b_Packer_init) (maxL := 2) (ret := none) (by decide) rfl rfl (Nat.le_of_ble_eq_true rfl) ?_
  intro p e s m below meth c A ls C hH hinit hl
  have hl : lv_has ls 2 [(0, .ref h), (1, .ref p1)] := hl
  obtain ⟨hx, hb, hr, hml, hown, hts, hlk, hK, hA⟩ := id C
  refine lv_aload_n hx hb d_Packer_init_0 rfl (lv_at hl 0 rfl) ?_
  refine W.objInit hx hb hown (hts _ (.tail _ wd_65)) (hts _ (.tail _ wd_21)) (hts _ (.tail _ wd_22)) rfl (by rw [hml]; exact hl.1) rfl d_Packer_init_1 (Nat.le_of_ble_eq_true rfl) (Nat.le_of_ble_eq_true rfl) ?_
  refine W.eq (g2 := F0 m 4 ls []) rfl ?_
  refine lv_aload_n hx hb d_Packer_init_4 rfl (lv_at hl 0 rfl) ?_
  refine nwO (ci := 1) (fs := [.null, .int 0, .int 0]) C hH (iwT iw_Past) ty_Past tyok_Past (.tail _ wd_66) (.tail _ wd_67) (.tail _ wd_5) rfl (fun j hj => by rcases (show j = 0 ∨ j = 1 ∨ j = 2 by omega) with rfl | rfl | rfl <;> rfl) (Nat.le_of_ble_eq_true rfl) (Nat.le_of_ble_eq_true rfl) d_Packer_init_5 (fun n5 H hH => ?_)
  have hH : Hp D vwCl A A s.heap H _ [(h, .inr (3, [.null, .null, .int (bI false), .int 0, .int 0, .int 0, .int 0, .int 0])), (n5, .inr (1, [.null, .int 0, .int 0]))] := hH
  refine lv_dup hx hb d_Packer_init_8 rfl ?_
  refine mkIN (wr := [(h, .inr (3, [.null, .null, .int (bI false), .int 0, .int 0, .int 0, .int 0, .int 0]))]) C (c_Past_init l D cI cL n5) (cIN hts kI_Past_init (hK.2 _ nest_2) ⟨Nat.le_of_ble_eq_true rfl, Nat.le_of_ble_eq_true rfl⟩) hH [1] [0] rfl rfl rfl rfl (by decide) rfl hl.1 rfl (Nat.le_of_ble_eq_true rfl) d_Packer_init_9 ⟨Nat.le_of_ble_eq_true rfl, Nat.le_of_ble_eq_true rfl⟩ (fun u H locs hH => ?_)
  obtain ⟨n9_0, rfl⟩ : ∃ z, z = u := ⟨_, rfl⟩
  have hH : Hp D vwCl A A s.heap H _ [(h, .inr (3, [.null, .null, .int (bI false), .int 0, .int 0, .int 0, .int 0, .int 0])), (n5, .inr (1, [.ref n9_0, .int 0, .int ((-1))])), (n9_0, .inl (cI, 300, .inl ((fun _ => 0))))] := hH
  refine ptF (ci := 3) (v := .ref n5) C hH (iwT iw_Packer) ty_Packer tyok_Packer nm_Packer hinit 0 rfl rfl 1 (by decide) (.tail _ wd_83) rfl rfl rfl rfl (Nat.le_of_ble_eq_true rfl) d_Packer_init_12 [(h, .inr (3, [.null, .ref n5, .int (bI false), .int 0, .int 0, .int 0, .int 0, .int 0])), (n5, .inr (1, [.ref n9_0, .int 0, .int ((-1))])), (n9_0, .inl (cI, 300, .inl ((fun _ => 0))))] rfl (fun H locs hH => ?_)
  refine lv_aload_n hx hb d_Packer_init_15 rfl (lv_at hl 0 rfl) ?_
  refine lv_aload_n hx hb d_Packer_init_16 rfl (lv_at hl 1 rfl) ?_
  refine ptF (ci := 3) (v := .ref p1) C hH (iwT iw_Packer) ty_Packer tyok_Packer nm_Packer hinit 0 rfl rfl 0 (by decide) (.tail _ wd_82) rfl rfl rfl rfl (Nat.le_of_ble_eq_true rfl) d_Packer_init_17 [(h, .inr (3, [.ref p1, .ref n5, .int (bI false), .int 0, .int 0, .int 0, .int 0, .int 0])), (n5, .inr (1, [.ref n9_0, .int 0, .int ((-1))])), (n9_0, .inl (cI, 300, .inl ((fun _ => 0))))] rfl (fun H locs hH => ?_)
  refine W.widen (k := 2) (n := 303) (Nat.le_of_ble_eq_true rfl) (Nat.le_of_ble_eq_true rfl) ?_
  exact rVN (n5, n9_0) C (Hp.pm (w2 := [(h, .inr (3, [.ref p1, .ref n5, .int (bI false), .int 0, .int 0, .int 0, .int 0, .int 0])), (n5, .inr (1, [.ref n9_0, .int 0, .int ((-1))])), (n9_0, .inl (cI, 300, .inl ((fun _ => 0))))]) hH [0, 1, 2] rfl rfl) d_Packer_init_20
set_option maxRecDepth 100000 in
set_option maxHeartbeats 4000000 in
theorem c_Reader_init (l : Launch) (D : va_G) (cI cL : ClassId) (h p1 : Nat) :
    FnN l D vwCl [(cI, .int), (cL, .long)] y_Reader_init ws_Reader_init { frames := 2, cells := 2, slots := 303, locals := 32 } [.ref h, .ref p1] [(h, .inr (4, [.null, .null, .int 0, .int 0, .int 0]))] (fun u : Nat × Nat => [(h, .inr (4, [.ref p1, .ref u.1, .int 0, .int 0, .int 0])), (u.1, .inr (1, [.ref u.2, .int 0, .int ((-1))])), (u.2, .inl (cI, 300, .inl ((fun _ => 0))))]) := by
  refine FnN.ofW (cc := b_Reader_init) (maxL := 2) (ret := none) (by decide) rfl rfl (Nat.le_of_ble_eq_true rfl) ?_
  intro p e s m below meth c A ls C hH hinit hl
  have hl : lv_has ls 2 [(0, .ref h), (1, .ref p1)] := hl
  obtain ⟨hx, hb, hr, hml, hown, hts, hlk, hK, hA⟩ := id C
  refine lv_aload_n hx hb d_Reader_init_0 rfl (lv_at hl 0 rfl) ?_
  refine W.objInit hx hb hown (hts _ (.tail _ wd_112)) (hts _ (.tail _ wd_21)) (hts _ (.tail _ wd_22)) rfl (by rw [hml]; exact hl.1) rfl d_Reader_init_1 (Nat.le_of_ble_eq_true rfl) (Nat.le_of_ble_eq_true rfl) ?_
  refine W.eq (g2 := F0 m 4 ls []) rfl ?_
  refine lv_aload_n hx hb d_Reader_init_4 rfl (lv_at hl 0 rfl) ?_
  refine nwO (ci := 1) (fs := [.null, .int 0, .int 0]) C hH (iwT iw_Past) ty_Past tyok_Past (.tail _ wd_113) (.tail _ wd_67) (.tail _ wd_5) rfl (fun j hj => by rcases (show j = 0 ∨ j = 1 ∨ j = 2 by omega) with rfl | rfl | rfl <;> rfl) (Nat.le_of_ble_eq_true rfl) (Nat.le_of_ble_eq_true rfl) d_Reader_init_5 (fun n5 H hH => ?_)
  have hH : Hp D vwCl A A s.heap H _ [(h, .inr (4, [.null, .null, .int 0, .int 0, .int 0])), (n5, .inr (1, [.null, .int 0, .int 0]))] := hH
  refine lv_dup hx hb d_Reader_init_8 rfl ?_
  refine mkIN (wr := [(h, .inr (4, [.null, .null, .int 0, .int 0, .int 0]))]) C (c_Past_init l D cI cL n5) (cIN hts kI_Past_init (hK.2 _ nest_3) ⟨Nat.le_of_ble_eq_true rfl, Nat.le_of_ble_eq_true rfl⟩) hH [1] [0] rfl rfl rfl rfl (by decide) rfl hl.1 rfl (Nat.le_of_ble_eq_true rfl) d_Reader_init_9 ⟨Nat.le_of_ble_eq_true rfl, Nat.le_of_ble_eq_true rfl⟩ (fun u H locs hH => ?_)
  obtain ⟨n9_0, rfl⟩ : ∃ z, z = u := ⟨_, rfl⟩
  have hH : Hp D vwCl A A s.heap H _ [(h, .inr (4, [.null, .null, .int 0, .int 0, .int 0])), (n5, .inr (1, [.ref n9_0, .int 0, .int ((-1))])), (n9_0, .inl (cI, 300, .inl ((fun _ => 0))))] := hH
  refine ptF (ci := 4) (v := .ref n5) C hH (iwT iw_Reader) ty_Reader tyok_Reader nm_Reader hinit 0 rfl rfl 1 (by decide) (.tail _ wd_116) rfl rfl rfl rfl (Nat.le_of_ble_eq_true rfl) d_Reader_init_12 [(h, .inr (4, [.null, .ref n5, .int 0, .int 0, .int 0])), (n5, .inr (1, [.ref n9_0, .int 0, .int ((-1))])), (n9_0, .inl (cI, 300, .inl ((fun _ => 0))))] rfl (fun H locs hH => ?_)
  refine lv_aload_n hx hb d_Reader_init_15 rfl (lv_at hl 0 rfl) ?_
  refine lv_aload_n hx hb d_Reader_init_16 rfl (lv_at hl 1 rfl) ?_
  refine ptF (ci := 4) (v := .ref p1) C hH (iwT iw_Reader) ty_Reader tyok_Reader nm_Reader hinit 0 rfl rfl 0 (by decide) (.tail _ wd_115) rfl rfl rfl rfl (Nat.le_of_ble_eq_true rfl) d_Reader_init_17 [(h, .inr (4, [.ref p1, .ref n5, .int 0, .int 0, .int 0])), (n5, .inr (1, [.ref n9_0, .int 0, .int ((-1))])), (n9_0, .inl (cI, 300, .inl ((fun _ => 0))))] rfl (fun H locs hH => ?_)
  refine W.widen (k := 2) (n := 303) (Nat.le_of_ble_eq_true rfl) (Nat.le_of_ble_eq_true rfl) ?_
  exact rVN (n5, n9_0) C (Hp.pm (w2 := [(h, .inr (4, [.ref p1, .ref n5, .int 0, .int 0, .int 0])), (n5, .inr (1, [.ref n9_0, .int 0, .int ((-1))])), (n9_0, .inl (cI, 300, .inl ((fun _ => 0))))]) hH [0, 1, 2] rfl rfl) d_Reader_init_20
set_option maxRecDepth 100000 in
set_option maxHeartbeats 4000000 in
theorem c_EventLog_init (l : Launch) (D : va_G) (cI cL : ClassId) (h : Nat) :
    FnN l D vwCl [(cI, .int), (cL, .long)] y_EventLog_init ws_EventLog_init { frames := 3, cells := 18, slots := 8031, locals := 53 } [.ref h] [(h, .inr (5, [.null, .null, .null, .null, .null]))] (fun u : Nat × Nat × Nat × Nat × Nat × Nat × Nat × Nat × Nat × Nat × Nat × Nat × Nat × Nat × Nat × Nat × Nat × Nat => [(h, .inr (5, [.ref u.1, .ref u.2.2.2.2.2.1, .ref u.2.2.2.2.2.2.2.2.2.2.1, .ref u.2.2.2.2.2.2.2.2.2.2.2.2.1, .ref u.2.2.2.2.2.2.2.2.2.2.2.2.2.2.2.1])), (u.1, .inr (2, [.ref u.2.1, .ref u.2.2.1, .ref u.2.2.2.1, .ref u.2.2.2.2.1, .int 0])), (u.2.1, .inl (cI, 300, .inl ((fun _ => 0)))), (u.2.2.1, .inl (cL, 300, .inr (.inl ((fun _ => 0))))), (u.2.2.2.1, .inl (cL, 300, .inr (.inl ((fun _ => 0))))), (u.2.2.2.2.1, .inl (cI, 300, .inl ((fun _ => 0)))), (u.2.2.2.2.2.1, .inr (2, [.ref u.2.2.2.2.2.2.1, .ref u.2.2.2.2.2.2.2.1, .ref u.2.2.2.2.2.2.2.2.1, .ref u.2.2.2.2.2.2.2.2.2.1, .int 0])), (u.2.2.2.2.2.2.1, .inl (cI, 300, .inl ((fun _ => 0)))), (u.2.2.2.2.2.2.2.1, .inl (cL, 300, .inr (.inl ((fun _ => 0))))), (u.2.2.2.2.2.2.2.2.1, .inl (cL, 300, .inr (.inl ((fun _ => 0))))), (u.2.2.2.2.2.2.2.2.2.1, .inl (cI, 300, .inl ((fun _ => 0)))), (u.2.2.2.2.2.2.2.2.2.2.1, .inr (0, [.ref u.2.2.2.2.2.2.2.2.2.2.2.1, .int 0])), (u.2.2.2.2.2.2.2.2.2.2.2.1, .inl (cI, 5000, .inl ((fun _ => 0)))), (u.2.2.2.2.2.2.2.2.2.2.2.2.1, .inr (3, [.ref u.2.2.2.2.2.2.2.2.2.2.1, .ref u.2.2.2.2.2.2.2.2.2.2.2.2.2.1, .int (bI false), .int 0, .int 0, .int 0, .int 0, .int 0])), (u.2.2.2.2.2.2.2.2.2.2.2.2.2.1, .inr (1, [.ref u.2.2.2.2.2.2.2.2.2.2.2.2.2.2.1, .int 0, .int ((-1))])), (u.2.2.2.2.2.2.2.2.2.2.2.2.2.2.1, .inl (cI, 300, .inl ((fun _ => 0)))), (u.2.2.2.2.2.2.2.2.2.2.2.2.2.2.2.1, .inr (4, [.ref u.2.2.2.2.2.2.2.2.2.2.1, .ref u.2.2.2.2.2.2.2.2.2.2.2.2.2.2.2.2.1, .int 0, .int 0, .int 0])), (u.2.2.2.2.2.2.2.2.2.2.2.2.2.2.2.2.1, .inr (1, [.ref u.2.2.2.2.2.2.2.2.2.2.2.2.2.2.2.2.2, .int 0, .int ((-1))])), (u.2.2.2.2.2.2.2.2.2.2.2.2.2.2.2.2.2, .inl (cI, 300, .inl ((fun _ => 0))))]) := by
  refine FnN.ofW (cc := b_EventLog_init) (maxL := 2) (ret := none) (by decide) rfl rfl (Nat.le_of_ble_eq_true rfl) ?_
  intro p e s m below meth c A ls C hH hinit hl
  have hl : lv_has ls 2 [(0, .ref h)] := hl
  obtain ⟨hx, hb, hr, hml, hown, hts, hlk, hK, hA⟩ := id C
  refine lv_aload_n hx hb d_EventLog_init_0 rfl (lv_at hl 0 rfl) ?_
  refine W.objInit hx hb hown (hts _ (.tail _ wd_20)) (hts _ (.tail _ wd_21)) (hts _ (.tail _ wd_22)) rfl (by rw [hml]; exact hl.1) rfl d_EventLog_init_1 (Nat.le_of_ble_eq_true rfl) (Nat.le_of_ble_eq_true rfl) ?_
  refine W.eq (g2 := F0 m 4 ls []) rfl ?_
  refine lv_aload_n hx hb d_EventLog_init_4 rfl (lv_at hl 0 rfl) ?_
  refine nwO (ci := 2) (fs := [.null, .null, .null, .null, .int 0]) C hH (iwT iw_Events) ty_Events tyok_Events (.tail _ wd_23) (.tail _ wd_24) (.tail _ wd_2) rfl (fun j hj => by rcases (show j = 0 ∨ j = 1 ∨ j = 2 ∨ j = 3 ∨ j = 4 by omega) with rfl | rfl | rfl | rfl | rfl <;> rfl) (Nat.le_of_ble_eq_true rfl) (Nat.le_of_ble_eq_true rfl) d_EventLog_init_5 (fun n5 H hH => ?_)
  have hH : Hp D vwCl A A s.heap H _ [(h, .inr (5, [.null, .null, .null, .null, .null])), (n5, .inr (2, [.null, .null, .null, .null, .int 0]))] := hH
  refine lv_dup hx hb d_EventLog_init_8 rfl ?_
  refine mkIN (wr := [(h, .inr (5, [.null, .null, .null, .null, .null]))]) C (c_Events_init l D cI cL n5) (cIN hts kI_Events_init (hK.2 _ nest_0) ⟨Nat.le_of_ble_eq_true rfl, Nat.le_of_ble_eq_true rfl⟩) hH [1] [0] rfl rfl rfl rfl (by decide) rfl hl.1 rfl (Nat.le_of_ble_eq_true rfl) d_EventLog_init_9 ⟨Nat.le_of_ble_eq_true rfl, Nat.le_of_ble_eq_true rfl⟩ (fun u H locs hH => ?_)
  obtain ⟨n9_0, n9_1, n9_2, n9_3⟩ := u
  have hH : Hp D vwCl A A s.heap H _ [(h, .inr (5, [.null, .null, .null, .null, .null])), (n5, .inr (2, [.ref n9_0, .ref n9_1, .ref n9_2, .ref n9_3, .int 0])), (n9_0, .inl (cI, 300, .inl ((fun _ => 0)))), (n9_1, .inl (cL, 300, .inr (.inl ((fun _ => 0))))), (n9_2, .inl (cL, 300, .inr (.inl ((fun _ => 0))))), (n9_3, .inl (cI, 300, .inl ((fun _ => 0))))] := hH
  refine pt (ci := 5) (v := .ref n5) C hH (iwT iw_EventLog) ty_EventLog tyok_EventLog nm_EventLog 0 rfl rfl 0 (by decide) (.tail _ wd_131) rfl rfl rfl (Nat.le_of_ble_eq_true rfl) d_EventLog_init_12 [(h, .inr (5, [.ref n5, .null, .null, .null, .null])), (n5, .inr (2, [.ref n9_0, .ref n9_1, .ref n9_2, .ref n9_3, .int 0])), (n9_0, .inl (cI, 300, .inl ((fun _ => 0)))), (n9_1, .inl (cL, 300, .inr (.inl ((fun _ => 0))))), (n9_2, .inl (cL, 300, .inr (.inl ((fun _ => 0))))), (n9_3, .inl (cI, 300, .inl ((fun _ => 0))))] rfl (fun H locs hH => ?_)
  refine lv_aload_n hx hb d_EventLog_init_15 rfl (lv_at hl 0 rfl) ?_
  refine nwO (ci := 2) (fs := [.null, .null, .null, .null, .int 0]) C hH (iwT iw_Events) ty_Events tyok_Events (.tail _ wd_23) (.tail _ wd_24) (.tail _ wd_2) rfl (fun j hj => by rcases (show j = 0 ∨ j = 1 ∨ j = 2 ∨ j = 3 ∨ j = 4 by omega) with rfl | rfl | rfl | rfl | rfl <;> rfl) (Nat.le_of_ble_eq_true rfl) (Nat.le_of_ble_eq_true rfl) d_EventLog_init_16 (fun n16 H hH => ?_)
  have hH : Hp D vwCl A A s.heap H _ [(h, .inr (5, [.ref n5, .null, .null, .null, .null])), (n5, .inr (2, [.ref n9_0, .ref n9_1, .ref n9_2, .ref n9_3, .int 0])), (n9_0, .inl (cI, 300, .inl ((fun _ => 0)))), (n9_1, .inl (cL, 300, .inr (.inl ((fun _ => 0))))), (n9_2, .inl (cL, 300, .inr (.inl ((fun _ => 0))))), (n9_3, .inl (cI, 300, .inl ((fun _ => 0)))), (n16, .inr (2, [.null, .null, .null, .null, .int 0]))] := hH
  refine lv_dup hx hb d_EventLog_init_19 rfl ?_
  refine mkIN (wr := [(h, .inr (5, [.ref n5, .null, .null, .null, .null])), (n5, .inr (2, [.ref n9_0, .ref n9_1, .ref n9_2, .ref n9_3, .int 0])), (n9_0, .inl (cI, 300, .inl ((fun _ => 0)))), (n9_1, .inl (cL, 300, .inr (.inl ((fun _ => 0))))), (n9_2, .inl (cL, 300, .inr (.inl ((fun _ => 0))))), (n9_3, .inl (cI, 300, .inl ((fun _ => 0))))]) C (c_Events_init l D cI cL n16) (cIN hts kI_Events_init (hK.2 _ nest_0) ⟨Nat.le_of_ble_eq_true rfl, Nat.le_of_ble_eq_true rfl⟩) hH [6] [0, 1, 2, 3, 4, 5] rfl rfl rfl rfl (by decide) rfl hl.1 rfl (Nat.le_of_ble_eq_true rfl) d_EventLog_init_20 ⟨Nat.le_of_ble_eq_true rfl, Nat.le_of_ble_eq_true rfl⟩ (fun u H locs hH => ?_)
  obtain ⟨n20_0, n20_1, n20_2, n20_3⟩ := u
  have hH : Hp D vwCl A A s.heap H _ [(h, .inr (5, [.ref n5, .null, .null, .null, .null])), (n5, .inr (2, [.ref n9_0, .ref n9_1, .ref n9_2, .ref n9_3, .int 0])), (n9_0, .inl (cI, 300, .inl ((fun _ => 0)))), (n9_1, .inl (cL, 300, .inr (.inl ((fun _ => 0))))), (n9_2, .inl (cL, 300, .inr (.inl ((fun _ => 0))))), (n9_3, .inl (cI, 300, .inl ((fun _ => 0)))), (n16, .inr (2, [.ref n20_0, .ref n20_1, .ref n20_2, .ref n20_3, .int 0])), (n20_0, .inl (cI, 300, .inl ((fun _ => 0)))), (n20_1, .inl (cL, 300, .inr (.inl ((fun _ => 0))))), (n20_2, .inl (cL, 300, .inr (.inl ((fun _ => 0))))), (n20_3, .inl (cI, 300, .inl ((fun _ => 0))))] := hH
  refine pt (ci := 5) (v := .ref n16) C hH (iwT iw_EventLog) ty_EventLog tyok_EventLog nm_EventLog 0 rfl rfl 1 (by decide) (.tail _ wd_132) rfl rfl rfl (Nat.le_of_ble_eq_true rfl) d_EventLog_init_23 [(h, .inr (5, [.ref n5, .ref n16, .null, .null, .null])), (n5, .inr (2, [.ref n9_0, .ref n9_1, .ref n9_2, .ref n9_3, .int 0])), (n9_0, .inl (cI, 300, .inl ((fun _ => 0)))), (n9_1, .inl (cL, 300, .inr (.inl ((fun _ => 0))))), (n9_2, .inl (cL, 300, .inr (.inl ((fun _ => 0))))), (n9_3, .inl (cI, 300, .inl ((fun _ => 0)))), (n16, .inr (2, [.ref n20_0, .ref n20_1, .ref n20_2, .ref n20_3, .int 0])), (n20_0, .inl (cI, 300, .inl ((fun _ => 0)))), (n20_1, .inl (cL, 300, .inr (.inl ((fun _ => 0))))), (n20_2, .inl (cL, 300, .inr (.inl ((fun _ => 0))))), (n20_3, .inl (cI, 300, .inl ((fun _ => 0))))] rfl (fun H locs hH => ?_)
  refine nwO (ci := 0) (fs := [.null, .int 0]) C hH (iwT iw_Bytes) ty_Bytes tyok_Bytes (.tail _ wd_47) (.tail _ wd_48) (.tail _ wd_3) rfl (fun j hj => by rcases (show j = 0 ∨ j = 1 by omega) with rfl | rfl <;> rfl) (Nat.le_of_ble_eq_true rfl) (Nat.le_of_ble_eq_true rfl) d_EventLog_init_26 (fun n26 H hH => ?_)
  have hH : Hp D vwCl A A s.heap H _ [(h, .inr (5, [.ref n5, .ref n16, .null, .null, .null])), (n5, .inr (2, [.ref n9_0, .ref n9_1, .ref n9_2, .ref n9_3, .int 0])), (n9_0, .inl (cI, 300, .inl ((fun _ => 0)))), (n9_1, .inl (cL, 300, .inr (.inl ((fun _ => 0))))), (n9_2, .inl (cL, 300, .inr (.inl ((fun _ => 0))))), (n9_3, .inl (cI, 300, .inl ((fun _ => 0)))), (n16, .inr (2, [.ref n20_0, .ref n20_1, .ref n20_2, .ref n20_3, .int 0])), (n20_0, .inl (cI, 300, .inl ((fun _ => 0)))), (n20_1, .inl (cL, 300, .inr (.inl ((fun _ => 0))))), (n20_2, .inl (cL, 300, .inr (.inl ((fun _ => 0))))), (n20_3, .inl (cI, 300, .inl ((fun _ => 0)))), (n26, .inr (0, [.null, .int 0]))] := hH
  refine lv_dup hx hb d_EventLog_init_29 rfl ?_
  refine mkIN (wr := [(h, .inr (5, [.ref n5, .ref n16, .null, .null, .null])), (n5, .inr (2, [.ref n9_0, .ref n9_1, .ref n9_2, .ref n9_3, .int 0])), (n9_0, .inl (cI, 300, .inl ((fun _ => 0)))), (n9_1, .inl (cL, 300, .inr (.inl ((fun _ => 0))))), (n9_2, .inl (cL, 300, .inr (.inl ((fun _ => 0))))), (n9_3, .inl (cI, 300, .inl ((fun _ => 0)))), (n16, .inr (2, [.ref n20_0, .ref n20_1, .ref n20_2, .ref n20_3, .int 0])), (n20_0, .inl (cI, 300, .inl ((fun _ => 0)))), (n20_1, .inl (cL, 300, .inr (.inl ((fun _ => 0))))), (n20_2, .inl (cL, 300, .inr (.inl ((fun _ => 0))))), (n20_3, .inl (cI, 300, .inl ((fun _ => 0))))]) C (c_Bytes_init l D cI cL n26) (cIN hts kI_Bytes_init (hK.2 _ nest_1) ⟨Nat.le_of_ble_eq_true rfl, Nat.le_of_ble_eq_true rfl⟩) hH [11] [0, 1, 2, 3, 4, 5, 6, 7, 8, 9, 10] rfl rfl rfl rfl (by decide) rfl hl.1 rfl (Nat.le_of_ble_eq_true rfl) d_EventLog_init_30 ⟨Nat.le_of_ble_eq_true rfl, Nat.le_of_ble_eq_true rfl⟩ (fun u H locs hH => ?_)
  obtain ⟨n30_0, rfl⟩ : ∃ z, z = u := ⟨_, rfl⟩
  have hH : Hp D vwCl A A s.heap H _ [(h, .inr (5, [.ref n5, .ref n16, .null, .null, .null])), (n5, .inr (2, [.ref n9_0, .ref n9_1, .ref n9_2, .ref n9_3, .int 0])), (n9_0, .inl (cI, 300, .inl ((fun _ => 0)))), (n9_1, .inl (cL, 300, .inr (.inl ((fun _ => 0))))), (n9_2, .inl (cL, 300, .inr (.inl ((fun _ => 0))))), (n9_3, .inl (cI, 300, .inl ((fun _ => 0)))), (n16, .inr (2, [.ref n20_0, .ref n20_1, .ref n20_2, .ref n20_3, .int 0])), (n20_0, .inl (cI, 300, .inl ((fun _ => 0)))), (n20_1, .inl (cL, 300, .inr (.inl ((fun _ => 0))))), (n20_2, .inl (cL, 300, .inr (.inl ((fun _ => 0))))), (n20_3, .inl (cI, 300, .inl ((fun _ => 0)))), (n26, .inr (0, [.ref n30_0, .int 0])), (n30_0, .inl (cI, 5000, .inl ((fun _ => 0))))] := hH
  refine lv_astore_n (lv' := [(1, .ref n26), (0, .ref h)]) hx hb d_EventLog_init_33 rfl hl (by decide) rfl (fun ls hl => ?_)
  refine lv_aload_n hx hb d_EventLog_init_34 rfl (lv_at hl 1 rfl) ?_
  refine lv_aload_n hx hb d_EventLog_init_35 rfl (lv_at hl 0 rfl) ?_
  refine ptF (ci := 5) (v := .ref n26) C hH (iwT iw_EventLog) ty_EventLog tyok_EventLog nm_EventLog hinit 0 rfl rfl 2 (by decide) (.tail _ wd_133) rfl rfl rfl rfl (Nat.le_of_ble_eq_true rfl) d_EventLog_init_36 [(h, .inr (5, [.ref n5, .ref n16, .ref n26, .null, .null])), (n5, .inr (2, [.ref n9_0, .ref n9_1, .ref n9_2, .ref n9_3, .int 0])), (n9_0, .inl (cI, 300, .inl ((fun _ => 0)))), (n9_1, .inl (cL, 300, .inr (.inl ((fun _ => 0))))), (n9_2, .inl (cL, 300, .inr (.inl ((fun _ => 0))))), (n9_3, .inl (cI, 300, .inl ((fun _ => 0)))), (n16, .inr (2, [.ref n20_0, .ref n20_1, .ref n20_2, .ref n20_3, .int 0])), (n20_0, .inl (cI, 300, .inl ((fun _ => 0)))), (n20_1, .inl (cL, 300, .inr (.inl ((fun _ => 0))))), (n20_2, .inl (cL, 300, .inr (.inl ((fun _ => 0))))), (n20_3, .inl (cI, 300, .inl ((fun _ => 0)))), (n26, .inr (0, [.ref n30_0, .int 0])), (n30_0, .inl (cI, 5000, .inl ((fun _ => 0))))] rfl (fun H locs hH => ?_)
  refine lv_aload_n hx hb d_EventLog_init_39 rfl (lv_at hl 1 rfl) ?_
  refine nwO (ci := 3) (fs := [.null, .null, .int (bI false), .int 0, .int 0, .int 0, .int 0, .int 0]) C hH (iwT iw_Packer) ty_Packer tyok_Packer (.tail _ wd_60) (.tail _ wd_61) (.tail _ wd_4) rfl (fun j hj => by rcases (show j = 0 ∨ j = 1 ∨ j = 2 ∨ j = 3 ∨ j = 4 ∨ j = 5 ∨ j = 6 ∨ j = 7 by omega) with rfl | rfl | rfl | rfl | rfl | rfl | rfl | rfl <;> rfl) (Nat.le_of_ble_eq_true rfl) (Nat.le_of_ble_eq_true rfl) d_EventLog_init_40 (fun n40 H hH => ?_)
  have hH : Hp D vwCl A A s.heap H _ [(h, .inr (5, [.ref n5, .ref n16, .ref n26, .null, .null])), (n5, .inr (2, [.ref n9_0, .ref n9_1, .ref n9_2, .ref n9_3, .int 0])), (n9_0, .inl (cI, 300, .inl ((fun _ => 0)))), (n9_1, .inl (cL, 300, .inr (.inl ((fun _ => 0))))), (n9_2, .inl (cL, 300, .inr (.inl ((fun _ => 0))))), (n9_3, .inl (cI, 300, .inl ((fun _ => 0)))), (n16, .inr (2, [.ref n20_0, .ref n20_1, .ref n20_2, .ref n20_3, .int 0])), (n20_0, .inl (cI, 300, .inl ((fun _ => 0)))), (n20_1, .inl (cL, 300, .inr (.inl ((fun _ => 0))))), (n20_2, .inl (cL, 300, .inr (.inl ((fun _ => 0))))), (n20_3, .inl (cI, 300, .inl ((fun _ => 0)))), (n26, .inr (0, [.ref n30_0, .int 0])), (n30_0, .inl (cI, 5000, .inl ((fun _ => 0)))), (n40, .inr (3, [.null, .null, .int (bI false), .int 0, .int 0, .int 0, .int 0, .int 0]))] := hH
  refine lv_dup hx hb d_EventLog_init_43 rfl ?_
  refine lv_aload_n hx hb d_EventLog_init_44 rfl (lv_at hl 0 rfl) ?_
  refine mkI (wr := [(h, .inr (5, [.ref n5, .ref n16, .ref n26, .null, .null])), (n5, .inr (2, [.ref n9_0, .ref n9_1, .ref n9_2, .ref n9_3, .int 0])), (n9_0, .inl (cI, 300, .inl ((fun _ => 0)))), (n9_1, .inl (cL, 300, .inr (.inl ((fun _ => 0))))), (n9_2, .inl (cL, 300, .inr (.inl ((fun _ => 0))))), (n9_3, .inl (cI, 300, .inl ((fun _ => 0)))), (n16, .inr (2, [.ref n20_0, .ref n20_1, .ref n20_2, .ref n20_3, .int 0])), (n20_0, .inl (cI, 300, .inl ((fun _ => 0)))), (n20_1, .inl (cL, 300, .inr (.inl ((fun _ => 0))))), (n20_2, .inl (cL, 300, .inr (.inl ((fun _ => 0))))), (n20_3, .inl (cI, 300, .inl ((fun _ => 0)))), (n26, .inr (0, [.ref n30_0, .int 0])), (n30_0, .inl (cI, 5000, .inl ((fun _ => 0))))]) C (c_Packer_init l D cI cL n40 n26) (cCI hts kI_Packer_init wd_62 ⟨Nat.le_of_ble_eq_true rfl, Nat.le_of_ble_eq_true rfl⟩) hH [13] [0, 1, 2, 3, 4, 5, 6, 7, 8, 9, 10, 11, 12] rfl rfl rfl rfl (by decide) rfl hl.1 rfl (Nat.le_of_ble_eq_true rfl) d_EventLog_init_45 ⟨Nat.le_of_ble_eq_true rfl, Nat.le_of_ble_eq_true rfl⟩ (fun u H locs hH => ?_)
  obtain ⟨n45_0, n45_1⟩ := u
  have hH : Hp D vwCl A A s.heap H _ [(h, .inr (5, [.ref n5, .ref n16, .ref n26, .null, .null])), (n5, .inr (2, [.ref n9_0, .ref n9_1, .ref n9_2, .ref n9_3, .int 0])), (n9_0, .inl (cI, 300, .inl ((fun _ => 0)))), (n9_1, .inl (cL, 300, .inr (.inl ((fun _ => 0))))), (n9_2, .inl (cL, 300, .inr (.inl ((fun _ => 0))))), (n9_3, .inl (cI, 300, .inl ((fun _ => 0)))), (n16, .inr (2, [.ref n20_0, .ref n20_1, .ref n20_2, .ref n20_3, .int 0])), (n20_0, .inl (cI, 300, .inl ((fun _ => 0)))), (n20_1, .inl (cL, 300, .inr (.inl ((fun _ => 0))))), (n20_2, .inl (cL, 300, .inr (.inl ((fun _ => 0))))), (n20_3, .inl (cI, 300, .inl ((fun _ => 0)))), (n26, .inr (0, [.ref n30_0, .int 0])), (n30_0, .inl (cI, 5000, .inl ((fun _ => 0)))), (n40, .inr (3, [.ref n26, .ref n45_0, .int (bI false), .int 0, .int 0, .int 0, .int 0, .int 0])), (n45_0, .inr (1, [.ref n45_1, .int 0, .int ((-1))])), (n45_1, .inl (cI, 300, .inl ((fun _ => 0))))] := hH
  refine ptF (ci := 5) (v := .ref n40) C hH (iwT iw_EventLog) ty_EventLog tyok_EventLog nm_EventLog hinit 0 rfl rfl 3 (by decide) (.tail _ wd_134) rfl rfl rfl rfl (Nat.le_of_ble_eq_true rfl) d_EventLog_init_48 [(h, .inr (5, [.ref n5, .ref n16, .ref n26, .ref n40, .null])), (n5, .inr (2, [.ref n9_0, .ref n9_1, .ref n9_2, .ref n9_3, .int 0])), (n9_0, .inl (cI, 300, .inl ((fun _ => 0)))), (n9_1, .inl (cL, 300, .inr (.inl ((fun _ => 0))))), (n9_2, .inl (cL, 300, .inr (.inl ((fun _ => 0))))), (n9_3, .inl (cI, 300, .inl ((fun _ => 0)))), (n16, .inr (2, [.ref n20_0, .ref n20_1, .ref n20_2, .ref n20_3, .int 0])), (n20_0, .inl (cI, 300, .inl ((fun _ => 0)))), (n20_1, .inl (cL, 300, .inr (.inl ((fun _ => 0))))), (n20_2, .inl (cL, 300, .inr (.inl ((fun _ => 0))))), (n20_3, .inl (cI, 300, .inl ((fun _ => 0)))), (n26, .inr (0, [.ref n30_0, .int 0])), (n30_0, .inl (cI, 5000, .inl ((fun _ => 0)))), (n40, .inr (3, [.ref n26, .ref n45_0, .int (bI false), .int 0, .int 0, .int 0, .int 0, .int 0])), (n45_0, .inr (1, [.ref n45_1, .int 0, .int ((-1))])), (n45_1, .inl (cI, 300, .inl ((fun _ => 0))))] rfl (fun H locs hH => ?_)
  refine lv_aload_n hx hb d_EventLog_init_51 rfl (lv_at hl 1 rfl) ?_
  refine nwO (ci := 4) (fs := [.null, .null, .int 0, .int 0, .int 0]) C hH (iwT iw_Reader) ty_Reader tyok_Reader (.tail _ wd_107) (.tail _ wd_108) (.tail _ wd_6) rfl (fun j hj => by rcases (show j = 0 ∨ j = 1 ∨ j = 2 ∨ j = 3 ∨ j = 4 by omega) with rfl | rfl | rfl | rfl | rfl <;> rfl) (Nat.le_of_ble_eq_true rfl) (Nat.le_of_ble_eq_true rfl) d_EventLog_init_52 (fun n52 H hH => ?_)
  have hH : Hp D vwCl A A s.heap H _ [(h, .inr (5, [.ref n5, .ref n16, .ref n26, .ref n40, .null])), (n5, .inr (2, [.ref n9_0, .ref n9_1, .ref n9_2, .ref n9_3, .int 0])), (n9_0, .inl (cI, 300, .inl ((fun _ => 0)))), (n9_1, .inl (cL, 300, .inr (.inl ((fun _ => 0))))), (n9_2, .inl (cL, 300, .inr (.inl ((fun _ => 0))))), (n9_3, .inl (cI, 300, .inl ((fun _ => 0)))), (n16, .inr (2, [.ref n20_0, .ref n20_1, .ref n20_2, .ref n20_3, .int 0])), (n20_0, .inl (cI, 300, .inl ((fun _ => 0)))), (n20_1, .inl (cL, 300, .inr (.inl ((fun _ => 0))))), (n20_2, .inl (cL, 300, .inr (.inl ((fun _ => 0))))), (n20_3, .inl (cI, 300, .inl ((fun _ => 0)))), (n26, .inr (0, [.ref n30_0, .int 0])), (n30_0, .inl (cI, 5000, .inl ((fun _ => 0)))), (n40, .inr (3, [.ref n26, .ref n45_0, .int (bI false), .int 0, .int 0, .int 0, .int 0, .int 0])), (n45_0, .inr (1, [.ref n45_1, .int 0, .int ((-1))])), (n45_1, .inl (cI, 300, .inl ((fun _ => 0)))), (n52, .inr (4, [.null, .null, .int 0, .int 0, .int 0]))] := hH
  refine lv_dup hx hb d_EventLog_init_55 rfl ?_
  refine lv_aload_n hx hb d_EventLog_init_56 rfl (lv_at hl 0 rfl) ?_
  refine mkI (wr := [(h, .inr (5, [.ref n5, .ref n16, .ref n26, .ref n40, .null])), (n5, .inr (2, [.ref n9_0, .ref n9_1, .ref n9_2, .ref n9_3, .int 0])), (n9_0, .inl (cI, 300, .inl ((fun _ => 0)))), (n9_1, .inl (cL, 300, .inr (.inl ((fun _ => 0))))), (n9_2, .inl (cL, 300, .inr (.inl ((fun _ => 0))))), (n9_3, .inl (cI, 300, .inl ((fun _ => 0)))), (n16, .inr (2, [.ref n20_0, .ref n20_1, .ref n20_2, .ref n20_3, .int 0])), (n20_0, .inl (cI, 300, .inl ((fun _ => 0)))), (n20_1, .inl (cL, 300, .inr (.inl ((fun _ => 0))))), (n20_2, .inl (cL, 300, .inr (.inl ((fun _ => 0))))), (n20_3, .inl (cI, 300, .inl ((fun _ => 0)))), (n26, .inr (0, [.ref n30_0, .int 0])), (n30_0, .inl (cI, 5000, .inl ((fun _ => 0)))), (n40, .inr (3, [.ref n26, .ref n45_0, .int (bI false), .int 0, .int 0, .int 0, .int 0, .int 0])), (n45_0, .inr (1, [.ref n45_1, .int 0, .int ((-1))])), (n45_1, .inl (cI, 300, .inl ((fun _ => 0))))]) C (c_Reader_init l D cI cL n52 n26) (cCI hts kI_Reader_init wd_109 ⟨Nat.le_of_ble_eq_true rfl, Nat.le_of_ble_eq_true rfl⟩) hH [16] [0, 1, 2, 3, 4, 5, 6, 7, 8, 9, 10, 11, 12, 13, 14, 15] rfl rfl rfl rfl (by decide) rfl hl.1 rfl (Nat.le_of_ble_eq_true rfl) d_EventLog_init_57 ⟨Nat.le_of_ble_eq_true rfl, Nat.le_of_ble_eq_true rfl⟩ (fun u H locs hH => ?_)
  obtain ⟨n57_0, n57_1⟩ := u
  have hH : Hp D vwCl A A s.heap H _ [(h, .inr (5, [.ref n5, .ref n16, .ref n26, .ref n40, .null])), (n5, .inr (2, [.ref n9_0, .ref n9_1, .ref n9_2, .ref n9_3, .int 0])), (n9_0, .inl (cI, 300, .inl ((fun _ => 0)))), (n9_1, .inl (cL, 300, .inr (.inl ((fun _ => 0))))), (n9_2, .inl (cL, 300, .inr (.inl ((fun _ => 0))))), (n9_3, .inl (cI, 300, .inl ((fun _ => 0)))), (n16, .inr (2, [.ref n20_0, .ref n20_1, .ref n20_2, .ref n20_3, .int 0])), (n20_0, .inl (cI, 300, .inl ((fun _ => 0)))), (n20_1, .inl (cL, 300, .inr (.inl ((fun _ => 0))))), (n20_2, .inl (cL, 300, .inr (.inl ((fun _ => 0))))), (n20_3, .inl (cI, 300, .inl ((fun _ => 0)))), (n26, .inr (0, [.ref n30_0, .int 0])), (n30_0, .inl (cI, 5000, .inl ((fun _ => 0)))), (n40, .inr (3, [.ref n26, .ref n45_0, .int (bI false), .int 0, .int 0, .int 0, .int 0, .int 0])), (n45_0, .inr (1, [.ref n45_1, .int 0, .int ((-1))])), (n45_1, .inl (cI, 300, .inl ((fun _ => 0)))), (n52, .inr (4, [.ref n26, .ref n57_0, .int 0, .int 0, .int 0])), (n57_0, .inr (1, [.ref n57_1, .int 0, .int ((-1))])), (n57_1, .inl (cI, 300, .inl ((fun _ => 0))))] := hH
  refine ptF (ci := 5) (v := .ref n52) C hH (iwT iw_EventLog) ty_EventLog tyok_EventLog nm_EventLog hinit 0 rfl rfl 4 (by decide) (.tail _ wd_135) rfl rfl rfl rfl (Nat.le_of_ble_eq_true rfl) d_EventLog_init_60 [(h, .inr (5, [.ref n5, .ref n16, .ref n26, .ref n40, .ref n52])), (n5, .inr (2, [.ref n9_0, .ref n9_1, .ref n9_2, .ref n9_3, .int 0])), (n9_0, .inl (cI, 300, .inl ((fun _ => 0)))), (n9_1, .inl (cL, 300, .inr (.inl ((fun _ => 0))))), (n9_2, .inl (cL, 300, .inr (.inl ((fun _ => 0))))), (n9_3, .inl (cI, 300, .inl ((fun _ => 0)))), (n16, .inr (2, [.ref n20_0, .ref n20_1, .ref n20_2, .ref n20_3, .int 0])), (n20_0, .inl (cI, 300, .inl ((fun _ => 0)))), (n20_1, .inl (cL, 300, .inr (.inl ((fun _ => 0))))), (n20_2, .inl (cL, 300, .inr (.inl ((fun _ => 0))))), (n20_3, .inl (cI, 300, .inl ((fun _ => 0)))), (n26, .inr (0, [.ref n30_0, .int 0])), (n30_0, .inl (cI, 5000, .inl ((fun _ => 0)))), (n40, .inr (3, [.ref n26, .ref n45_0, .int (bI false), .int 0, .int 0, .int 0, .int 0, .int 0])), (n45_0, .inr (1, [.ref n45_1, .int 0, .int ((-1))])), (n45_1, .inl (cI, 300, .inl ((fun _ => 0)))), (n52, .inr (4, [.ref n26, .ref n57_0, .int 0, .int 0, .int 0])), (n57_0, .inr (1, [.ref n57_1, .int 0, .int ((-1))])), (n57_1, .inl (cI, 300, .inl ((fun _ => 0))))] rfl (fun H locs hH => ?_)
  refine W.widen (k := 18) (n := 8031) (Nat.le_of_ble_eq_true rfl) (Nat.le_of_ble_eq_true rfl) ?_
  exact rVN (n5, n9_0, n9_1, n9_2, n9_3, n16, n20_0, n20_1, n20_2, n20_3, n26, n30_0, n40, n45_0, n45_1, n52, n57_0, n57_1) C (Hp.pm (w2 := [(h, .inr (5, [.ref n5, .ref n16, .ref n26, .ref n40, .ref n52])), (n5, .inr (2, [.ref n9_0, .ref n9_1, .ref n9_2, .ref n9_3, .int 0])), (n9_0, .inl (cI, 300, .inl ((fun _ => 0)))), (n9_1, .inl (cL, 300, .inr (.inl ((fun _ => 0))))), (n9_2, .inl (cL, 300, .inr (.inl ((fun _ => 0))))), (n9_3, .inl (cI, 300, .inl ((fun _ => 0)))), (n16, .inr (2, [.ref n20_0, .ref n20_1, .ref n20_2, .ref n20_3, .int 0])), (n20_0, .inl (cI, 300, .inl ((fun _ => 0)))), (n20_1, .inl (cL, 300, .inr (.inl ((fun _ => 0))))), (n20_2, .inl (cL, 300, .inr (.inl ((fun _ => 0))))), (n20_3, .inl (cI, 300, .inl ((fun _ => 0)))), (n26, .inr (0, [.ref n30_0, .int 0])), (n30_0, .inl (cI, 5000, .inl ((fun _ => 0)))), (n40, .inr (3, [.ref n26, .ref n45_0, .int (bI false), .int 0, .int 0, .int 0, .int 0, .int 0])), (n45_0, .inr (1, [.ref n45_1, .int 0, .int ((-1))])), (n45_1, .inl (cI, 300, .inl ((fun _ => 0)))), (n52, .inr (4, [.ref n26, .ref n57_0, .int 0, .int 0, .int 0])), (n57_0, .inr (1, [.ref n57_1, .int 0, .int ((-1))])), (n57_1, .inl (cI, 300, .inl ((fun _ => 0))))]) hH [0, 1, 2, 3, 4, 5, 6, 7, 8, 9, 10, 11, 12, 13, 14, 15, 16, 17, 18] rfl rfl) d_EventLog_init_63
end
section
def f_EventLog_isSignal (x0 : Int32) : Bool :=
  if x0 < (1 : Int32) then (false) else (if (31 : Int32) < x0 then (false) else (true))
set_option maxRecDepth 100000 in
set_option maxHeartbeats 4000000 in
theorem c_EventLog_isSignal (l : Launch) (D : va_G) (cI cL : ClassId) (x0 : Int32) (res : Bool) (hf : f_EventLog_isSignal x0 = res) :
    FnR l D vwCl [(cI, .int), (cL, .long)] y_EventLog_isSignal ws_EventLog_isSignal { frames := 0, cells := 0, slots := 0, locals := 0 } [.int x0] [] (some (.int (bI res))) := by
  refine FnR.ofW (cc := b_EventLog_isSignal) (maxL := 1) (ret := (some .boolean)) (by decide) rfl (Nat.le_of_ble_eq_true rfl) ?_
  intro p e s m below meth c A ls C hH hl
  have hl : lv_has ls 1 [(0, .int x0)] := hl
  obtain ⟨hx, hb, hr, hml, hown, hts, hlk, hK, hA⟩ := id C
  unfold f_EventLog_isSignal at hf
  refine lv_iload_n hx hb d_EventLog_isSignal_0 rfl (lv_at hl 0 rfl) ?_
  refine lv_iconst (v := 1) hx hb d_EventLog_isSignal_1 (by decide) ?_
  refine lv_icmp_lt (tgt := 15) hx hb d_EventLog_isSignal_2 (by decide) (fun hc2 => ?_) (fun hc2 => ?_)
  · have hf := ip hc2 hf
    refine lv_iconst (v := 0) hx hb d_EventLog_isSignal_15 (by decide) ?_
    subst hf
    exact rZR (v := false) C hH d_EventLog_isSignal_16
  · have hf := im hc2 hf
    refine lv_iload_n hx hb d_EventLog_isSignal_5 rfl (lv_at hl 0 rfl) ?_
    refine lv_bipush (v := 31) hx hb d_EventLog_isSignal_6 (by decide) ?_
    refine lv_icmp_gt (tgt := 15) hx hb d_EventLog_isSignal_8 (by decide) (fun hc8 => ?_) (fun hc8 => ?_)
    · have hf := ip hc8 hf
      refine lv_iconst (v := 0) hx hb d_EventLog_isSignal_15 (by decide) ?_
      subst hf
      exact rZR (v := false) C hH d_EventLog_isSignal_16
    · have hf := im hc8 hf
      refine lv_iconst (v := 1) hx hb d_EventLog_isSignal_11 (by decide) ?_
      refine lv_goto (tgt := 16) hx hb d_EventLog_isSignal_12 (by decide) ?_
      subst hf
      exact rZR (v := true) C hH d_EventLog_isSignal_16
def f_EventLog_isProcess (x0 : Int64) : Bool :=
  if (lg_cmp x0 0) < 0 then (false) else (if 0 < (lg_cmp x0 15) then (false) else (true))
set_option maxRecDepth 100000 in
set_option maxHeartbeats 4000000 in
theorem c_EventLog_isProcess (l : Launch) (D : va_G) (cI cL : ClassId) (x0 : Int64) (res : Bool) (hf : f_EventLog_isProcess x0 = res) :
    FnR l D vwCl [(cI, .int), (cL, .long)] y_EventLog_isProcess ws_EventLog_isProcess { frames := 0, cells := 0, slots := 0, locals := 0 } [.long x0] [] (some (.int (bI res))) := by
  refine FnR.ofW (cc := b_EventLog_isProcess) (maxL := 2) (ret := (some .boolean)) (by decide) rfl (Nat.le_of_ble_eq_true rfl) ?_
  intro p e s m below meth c A ls C hH hl
  have hl : lv_has ls 2 [(0, .long x0)] := hl
  obtain ⟨hx, hb, hr, hml, hown, hts, hlk, hK, hA⟩ := id C
  unfold f_EventLog_isProcess at hf
  refine lv_lload_n hx hb d_EventLog_isProcess_0 rfl (lv_at hl 0 rfl) ?_
  refine lv_lconst (v := 0) hx hb d_EventLog_isProcess_1 (by decide) ?_
  refine W.lcmp hx hb d_EventLog_isProcess_2 ?_
  refine lv_if_lt (tgt := 18) hx hb d_EventLog_isProcess_3 (by decide) (fun hc3 => ?_) (fun hc3 => ?_)
  · have hf := ip hc3 hf
    refine lv_iconst (v := 0) hx hb d_EventLog_isProcess_18 (by decide) ?_
    subst hf
    exact rZR (v := false) C hH d_EventLog_isProcess_19
  · have hf := im hc3 hf
    refine lv_lload_n hx hb d_EventLog_isProcess_6 rfl (lv_at hl 0 rfl) ?_
    refine lv_ldc2 (v := 15) hx hb hown (hts _ (.tail _ wd_403)) d_EventLog_isProcess_7 ?_
    refine W.lcmp hx hb d_EventLog_isProcess_10 ?_
    refine lv_if_gt (tgt := 18) hx hb d_EventLog_isProcess_11 (by decide) (fun hc11 => ?_) (fun hc11 => ?_)
    · have hf := ip hc11 hf
      refine lv_iconst (v := 0) hx hb d_EventLog_isProcess_18 (by decide) ?_
      subst hf
      exact rZR (v := false) C hH d_EventLog_isProcess_19
    · have hf := im hc11 hf
      refine lv_iconst (v := 1) hx hb d_EventLog_isProcess_14 (by decide) ?_
      refine lv_goto (tgt := 19) hx hb d_EventLog_isProcess_15 (by decide) ?_
      subst hf
      exact rZR (v := true) C hH d_EventLog_isProcess_19
def f_EventLog_isEvent (x0 : Int32) (x1 : Int64) (x3 : Int64) (x5 : Int32) : Bool :=
  if (lg_cmp x1 0) < 0 then (false) else (if (lg_cmp x1 1099511627776) ≤ 0 then (if x0 = 0 then (f_EventLog_isProcess x3) else if x0 = 1 then (if x5 < (1 : Int32) then (false) else (if (8 : Int32) < x5 then (false) else (true))) else if x0 = 2 then (if (bI (f_EventLog_isProcess x3)) = 0 then (false) else (if (bI (f_EventLog_isSignal x5)) = 0 then (false) else (true))) else if x0 = 3 then (if (lg_cmp x3 0) < 0 then (false) else (if 0 < (lg_cmp x3 1099511627776) then (false) else (true))) else if x0 = 4 then (true) else (false)) else (false))
set_option maxRecDepth 100000 in
set_option maxHeartbeats 4000000 in
theorem c_EventLog_isEvent (l : Launch) (D : va_G) (cI cL : ClassId) (x0 : Int32) (x1 : Int64) (x3 : Int64) (x5 : Int32) (res : Bool) (hf : f_EventLog_isEvent x0 x1 x3 x5 = res) :
    FnR l D vwCl [(cI, .int), (cL, .long)] y_EventLog_isEvent ws_EventLog_isEvent { frames := 1, cells := 0, slots := 0, locals := 21 } [.int x0, .long x1, .long x3, .int x5] [] (some (.int (bI res))) := by
  refine FnR.ofW (cc := b_EventLog_isEvent) (maxL := 6) (ret := (some .boolean)) (by decide) rfl (Nat.le_of_ble_eq_true rfl) ?_
  intro p e s m below meth c A ls C hH hl
  have hl : lv_has ls 6 [(0, .int x0), (1, .long x1), (3, .long x3), (5, .int x5)] := hl
  obtain ⟨hx, hb, hr, hml, hown, hts, hlk, hK, hA⟩ := id C
  unfold f_EventLog_isEvent at hf
  refine lv_lload_n hx hb d_EventLog_isEvent_0 rfl (lv_at hl 1 rfl) ?_
  refine lv_lconst (v := 0) hx hb d_EventLog_isEvent_1 (by decide) ?_
  refine W.lcmp hx hb d_EventLog_isEvent_2 ?_
  refine lv_if_lt (tgt := 14) hx hb d_EventLog_isEvent_3 (by decide) (fun hc3 => ?_) (fun hc3 => ?_)
  · have hf := ip hc3 hf
    refine lv_iconst (v := 0) hx hb d_EventLog_isEvent_14 (by decide) ?_
    subst hf
    exact rZR (v := false) C hH d_EventLog_isEvent_15
  · have hf := im hc3 hf
    refine lv_lload_n hx hb d_EventLog_isEvent_6 rfl (lv_at hl 1 rfl) ?_
    refine lv_ldc2 (v := 1099511627776) hx hb hown (hts _ (.tail _ wd_399)) d_EventLog_isEvent_7 ?_
    refine W.lcmp hx hb d_EventLog_isEvent_10 ?_
    refine lv_if_le (tgt := 16) hx hb d_EventLog_isEvent_11 (by decide) (fun hc11 => ?_) (fun hc11 => ?_)
    · have hf := ip hc11 hf
      refine lv_iload_n hx hb d_EventLog_isEvent_16 rfl (lv_at hl 0 rfl) ?_
      by_cases hc17_0 : x0 = 0
      · have hf := ip hc17_0 hf
        refine lv_tableIn (tgt := 52) hx hb d_EventLog_isEvent_17 (by rw [hc17_0]; decide) (by rw [hc17_0]; decide) (by rw [hc17_0]; rfl) (by decide) ?_
        refine lv_lload_n hx hb d_EventLog_isEvent_52 rfl (lv_at hl 2 rfl) ?_
        refine fnSR (rest := []) (st2 := [.int (bI (f_EventLog_isProcess x3))]) C (c_EventLog_isProcess l D cI cL  x3 _ rfl) (cS hts kS_EventLog_isProcess wd_400 ⟨Nat.le_of_ble_eq_true rfl, Nat.le_of_ble_eq_true rfl⟩) hH [] rfl rfl rfl hl.1 rfl (Nat.le_of_ble_eq_true rfl) d_EventLog_isEvent_53 ⟨Nat.le_of_ble_eq_true rfl, Nat.le_of_ble_eq_true rfl⟩ rfl (fun H locs hH => ?_)
        subst hf
        exact rZR (v := f_EventLog_isProcess x3) C hH d_EventLog_isEvent_56
      have hf := im hc17_0 hf
      by_cases hc17_1 : x0 = 1
      · have hf := ip hc17_1 hf
        refine lv_tableIn (tgt := 57) hx hb d_EventLog_isEvent_17 (by rw [hc17_1]; decide) (by rw [hc17_1]; decide) (by rw [hc17_1]; rfl) (by decide) ?_
        refine lv_iload hx hb d_EventLog_isEvent_57 (lv_at hl 3 rfl) ?_
        refine lv_iconst (v := 1) hx hb d_EventLog_isEvent_59 (by decide) ?_
        refine lv_icmp_lt (tgt := 74) hx hb d_EventLog_isEvent_60 (by decide) (fun hc60 => ?_) (fun hc60 => ?_)
        · have hf := ip hc60 hf
          refine lv_iconst (v := 0) hx hb d_EventLog_isEvent_74 (by decide) ?_
          subst hf
          exact rZR (v := false) C hH d_EventLog_isEvent_75
        · have hf := im hc60 hf
          refine lv_iload hx hb d_EventLog_isEvent_63 (lv_at hl 3 rfl) ?_
          refine lv_bipush (v := 8) hx hb d_EventLog_isEvent_65 (by decide) ?_
          refine lv_icmp_gt (tgt := 74) hx hb d_EventLog_isEvent_67 (by decide) (fun hc67 => ?_) (fun hc67 => ?_)
          · have hf := ip hc67 hf
            refine lv_iconst (v := 0) hx hb d_EventLog_isEvent_74 (by decide) ?_
            subst hf
            exact rZR (v := false) C hH d_EventLog_isEvent_75
          · have hf := im hc67 hf
            refine lv_iconst (v := 1) hx hb d_EventLog_isEvent_70 (by decide) ?_
            refine lv_goto (tgt := 75) hx hb d_EventLog_isEvent_71 (by decide) ?_
            subst hf
            exact rZR (v := true) C hH d_EventLog_isEvent_75
      have hf := im hc17_1 hf
      by_cases hc17_2 : x0 = 2
      · have hf := ip hc17_2 hf
        refine lv_tableIn (tgt := 76) hx hb d_EventLog_isEvent_17 (by rw [hc17_2]; decide) (by rw [hc17_2]; decide) (by rw [hc17_2]; rfl) (by decide) ?_
        refine lv_lload_n hx hb d_EventLog_isEvent_76 rfl (lv_at hl 2 rfl) ?_
        refine fnSR (rest := []) (st2 := [.int (bI (f_EventLog_isProcess x3))]) C (c_EventLog_isProcess l D cI cL  x3 _ rfl) (cS hts kS_EventLog_isProcess wd_400 ⟨Nat.le_of_ble_eq_true rfl, Nat.le_of_ble_eq_true rfl⟩) hH [] rfl rfl rfl hl.1 rfl (Nat.le_of_ble_eq_true rfl) d_EventLog_isEvent_77 ⟨Nat.le_of_ble_eq_true rfl, Nat.le_of_ble_eq_true rfl⟩ rfl (fun H locs hH => ?_)
        refine lv_if_eq (tgt := 95) hx hb d_EventLog_isEvent_80 (by decide) (fun hc80 => ?_) (fun hc80 => ?_)
        · have hf := ip hc80 hf
          refine lv_iconst (v := 0) hx hb d_EventLog_isEvent_95 (by decide) ?_
          subst hf
          exact rZR (v := false) C hH d_EventLog_isEvent_96
        · have hf := im hc80 hf
          refine lv_iload hx hb d_EventLog_isEvent_83 (lv_at hl 3 rfl) ?_
          refine fnSR (rest := []) (st2 := [.int (bI (f_EventLog_isSignal x5))]) C (c_EventLog_isSignal l D cI cL  x5 _ rfl) (cS hts kS_EventLog_isSignal wd_404 ⟨Nat.le_of_ble_eq_true rfl, Nat.le_of_ble_eq_true rfl⟩) hH [] rfl rfl rfl hl.1 rfl (Nat.le_of_ble_eq_true rfl) d_EventLog_isEvent_85 ⟨Nat.le_of_ble_eq_true rfl, Nat.le_of_ble_eq_true rfl⟩ rfl (fun H locs hH => ?_)
          refine lv_if_eq (tgt := 95) hx hb d_EventLog_isEvent_88 (by decide) (fun hc88 => ?_) (fun hc88 => ?_)
          · have hf := ip hc88 hf
            refine lv_iconst (v := 0) hx hb d_EventLog_isEvent_95 (by decide) ?_
            subst hf
            exact rZR (v := false) C hH d_EventLog_isEvent_96
          · have hf := im hc88 hf
            refine lv_iconst (v := 1) hx hb d_EventLog_isEvent_91 (by decide) ?_
            refine lv_goto (tgt := 96) hx hb d_EventLog_isEvent_92 (by decide) ?_
            subst hf
            exact rZR (v := true) C hH d_EventLog_isEvent_96
      have hf := im hc17_2 hf
      by_cases hc17_3 : x0 = 3
      · have hf := ip hc17_3 hf
        refine lv_tableIn (tgt := 97) hx hb d_EventLog_isEvent_17 (by rw [hc17_3]; decide) (by rw [hc17_3]; decide) (by rw [hc17_3]; rfl) (by decide) ?_
        refine lv_lload_n hx hb d_EventLog_isEvent_97 rfl (lv_at hl 2 rfl) ?_
        refine lv_lconst (v := 0) hx hb d_EventLog_isEvent_98 (by decide) ?_
        refine W.lcmp hx hb d_EventLog_isEvent_99 ?_
        refine lv_if_lt (tgt := 115) hx hb d_EventLog_isEvent_100 (by decide) (fun hc100 => ?_) (fun hc100 => ?_)
        · have hf := ip hc100 hf
          refine lv_iconst (v := 0) hx hb d_EventLog_isEvent_115 (by decide) ?_
          subst hf
          exact rZR (v := false) C hH d_EventLog_isEvent_116
        · have hf := im hc100 hf
          refine lv_lload_n hx hb d_EventLog_isEvent_103 rfl (lv_at hl 2 rfl) ?_
          refine lv_ldc2 (v := 1099511627776) hx hb hown (hts _ (.tail _ wd_399)) d_EventLog_isEvent_104 ?_
          refine W.lcmp hx hb d_EventLog_isEvent_107 ?_
          refine lv_if_gt (tgt := 115) hx hb d_EventLog_isEvent_108 (by decide) (fun hc108 => ?_) (fun hc108 => ?_)
          · have hf := ip hc108 hf
            refine lv_iconst (v := 0) hx hb d_EventLog_isEvent_115 (by decide) ?_
            subst hf
            exact rZR (v := false) C hH d_EventLog_isEvent_116
          · have hf := im hc108 hf
            refine lv_iconst (v := 1) hx hb d_EventLog_isEvent_111 (by decide) ?_
            refine lv_goto (tgt := 116) hx hb d_EventLog_isEvent_112 (by decide) ?_
            subst hf
            exact rZR (v := true) C hH d_EventLog_isEvent_116
      have hf := im hc17_3 hf
      by_cases hc17_4 : x0 = 4
      · have hf := ip hc17_4 hf
        refine lv_tableIn (tgt := 117) hx hb d_EventLog_isEvent_17 (by rw [hc17_4]; decide) (by rw [hc17_4]; decide) (by rw [hc17_4]; rfl) (by decide) ?_
        refine lv_iconst (v := 1) hx hb d_EventLog_isEvent_117 (by decide) ?_
        subst hf
        exact rZR (v := true) C hH d_EventLog_isEvent_118
      have hf := im hc17_4 hf
      refine lv_tableOut (tgt := 119) hx hb d_EventLog_isEvent_17 (by have h0 := i32n (k := 0) hc17_0 (by decide); have h1 := i32n (k := 1) hc17_1 (by decide); have h2 := i32n (k := 2) hc17_2 (by decide); have h3 := i32n (k := 3) hc17_3 (by decide); have h4 := i32n (k := 4) hc17_4 (by decide); omega) (by decide) ?_
      refine lv_iconst (v := 0) hx hb d_EventLog_isEvent_119 (by decide) ?_
      subst hf
      exact rZR (v := false) C hH d_EventLog_isEvent_120
    · have hf := im hc11 hf
      refine lv_iconst (v := 0) hx hb d_EventLog_isEvent_14 (by decide) ?_
      subst hf
      exact rZR (v := false) C hH d_EventLog_isEvent_15
def f_EventLog_heldA (x0 : Int32) (x1 : Int64) (x3 : Int32) : Int64 :=
  if x0 = (4 : Int32) then (x1 &&& 4294967295) else (if x0 = (1 : Int32) then (if (8 : Int32) ≤ x3 then (x1) else (x1 &&& (((1 : Int64) <<< (((8 : Int32) * x3).toInt64 &&& 63)) - 1))) else (x1))
set_option maxRecDepth 100000 in
set_option maxHeartbeats 4000000 in
theorem c_EventLog_heldA (l : Launch) (D : va_G) (cI cL : ClassId) (x0 : Int32) (x1 : Int64) (x3 : Int32) (res : Int64) (hf : f_EventLog_heldA x0 x1 x3 = res) :
    FnR l D vwCl [(cI, .int), (cL, .long)] y_EventLog_heldA ws_EventLog_heldA { frames := 0, cells := 0, slots := 0, locals := 0 } [.int x0, .long x1, .int x3] [] (some (.long res)) := by
  refine FnR.ofW (cc := b_EventLog_heldA) (maxL := 4) (ret := (some .long)) (by decide) rfl (Nat.le_of_ble_eq_true rfl) ?_
  intro p e s m below meth c A ls C hH hl
  have hl : lv_has ls 4 [(0, .int x0), (1, .long x1), (3, .int x3)] := hl
  obtain ⟨hx, hb, hr, hml, hown, hts, hlk, hK, hA⟩ := id C
  unfold f_EventLog_heldA at hf
  refine lv_iload_n hx hb d_EventLog_heldA_0 rfl (lv_at hl 0 rfl) ?_
  refine lv_iconst (v := 4) hx hb d_EventLog_heldA_1 (by decide) ?_
  refine lv_icmp_ne (tgt := 11) hx hb d_EventLog_heldA_2 (by decide) (fun hc2 => ?_) (fun hc2 => ?_)
  · have hf := im hc2 hf
    refine lv_iload_n hx hb d_EventLog_heldA_11 rfl (lv_at hl 0 rfl) ?_
    refine lv_iconst (v := 1) hx hb d_EventLog_heldA_12 (by decide) ?_
    refine lv_icmp_ne (tgt := 33) hx hb d_EventLog_heldA_13 (by decide) (fun hc13 => ?_) (fun hc13 => ?_)
    · have hf := im hc13 hf
      refine lv_lload_n hx hb d_EventLog_heldA_33 rfl (lv_at hl 1 rfl) ?_
      subst hf
      exact rJR (v := x1) C hH d_EventLog_heldA_34
    · have hf := ip hc13 hf
      refine lv_iload_n hx hb d_EventLog_heldA_16 rfl (lv_at hl 2 rfl) ?_
      refine lv_bipush (v := 8) hx hb d_EventLog_heldA_17 (by decide) ?_
      refine lv_icmp_ge (tgt := 33) hx hb d_EventLog_heldA_19 (by decide) (fun hc19 => ?_) (fun hc19 => ?_)
      · have hf := ip hc19 hf
        refine lv_lload_n hx hb d_EventLog_heldA_33 rfl (lv_at hl 1 rfl) ?_
        subst hf
        exact rJR (v := x1) C hH d_EventLog_heldA_34
      · have hf := im hc19 hf
        refine lv_lload_n hx hb d_EventLog_heldA_22 rfl (lv_at hl 1 rfl) ?_
        refine lv_lconst (v := 1) hx hb d_EventLog_heldA_23 (by decide) ?_
        refine lv_bipush (v := 8) hx hb d_EventLog_heldA_24 (by decide) ?_
        refine lv_iload_n hx hb d_EventLog_heldA_26 rfl (lv_at hl 2 rfl) ?_
        refine lv_imul hx hb d_EventLog_heldA_27 ?_
        refine lv_lshl (v := (1 : Int64) <<< (((8 : Int32) * x3).toInt64 &&& 63)) hx hb d_EventLog_heldA_28 rfl ?_
        refine lv_lconst (v := 1) hx hb d_EventLog_heldA_29 (by decide) ?_
        refine lv_lsub hx hb d_EventLog_heldA_30 ?_
        refine lv_land hx hb d_EventLog_heldA_31 ?_
        subst hf
        exact rJR (v := x1 &&& (((1 : Int64) <<< (((8 : Int32) * x3).toInt64 &&& 63)) - 1)) C hH d_EventLog_heldA_32
  · have hf := ip hc2 hf
    refine lv_lload_n hx hb d_EventLog_heldA_5 rfl (lv_at hl 1 rfl) ?_
    refine lv_ldc2 (v := 4294967295) hx hb hown (hts _ (.tail _ wd_493)) d_EventLog_heldA_6 ?_
    refine lv_land hx hb d_EventLog_heldA_9 ?_
    subst hf
    exact rJR (v := x1 &&& 4294967295) C hH d_EventLog_heldA_10
def f_EventLog_heldB (x0 : Int32) (x1 : Int32) : Int32 :=
  if x0 = (1 : Int32) then (x1) else (if x0 = (2 : Int32) then (x1) else (0))
set_option maxRecDepth 100000 in
set_option maxHeartbeats 4000000 in
theorem c_EventLog_heldB (l : Launch) (D : va_G) (cI cL : ClassId) (x0 : Int32) (x1 : Int32) (res : Int32) (hf : f_EventLog_heldB x0 x1 = res) :
    FnR l D vwCl [(cI, .int), (cL, .long)] y_EventLog_heldB ws_EventLog_heldB { frames := 0, cells := 0, slots := 0, locals := 0 } [.int x0, .int x1] [] (some (.int res)) := by
  refine FnR.ofW (cc := b_EventLog_heldB) (maxL := 2) (ret := (some .int)) (by decide) rfl (Nat.le_of_ble_eq_true rfl) ?_
  intro p e s m below meth c A ls C hH hl
  have hl : lv_has ls 2 [(0, .int x0), (1, .int x1)] := hl
  obtain ⟨hx, hb, hr, hml, hown, hts, hlk, hK, hA⟩ := id C
  unfold f_EventLog_heldB at hf
  refine lv_iload_n hx hb d_EventLog_heldB_0 rfl (lv_at hl 0 rfl) ?_
  refine lv_iconst (v := 1) hx hb d_EventLog_heldB_1 (by decide) ?_
  refine lv_icmp_eq (tgt := 10) hx hb d_EventLog_heldB_2 (by decide) (fun hc2 => ?_) (fun hc2 => ?_)
  · have hf := ip hc2 hf
    refine lv_iload_n hx hb d_EventLog_heldB_10 rfl (lv_at hl 1 rfl) ?_
    refine lv_goto (tgt := 15) hx hb d_EventLog_heldB_11 (by decide) ?_
    subst hf
    exact rIR (v := x1) C hH d_EventLog_heldB_15
  · have hf := im hc2 hf
    refine lv_iload_n hx hb d_EventLog_heldB_5 rfl (lv_at hl 0 rfl) ?_
    refine lv_iconst (v := 2) hx hb d_EventLog_heldB_6 (by decide) ?_
    refine lv_icmp_ne (tgt := 14) hx hb d_EventLog_heldB_7 (by decide) (fun hc7 => ?_) (fun hc7 => ?_)
    · have hf := im hc7 hf
      refine lv_iconst (v := 0) hx hb d_EventLog_heldB_14 (by decide) ?_
      subst hf
      exact rIR (v := 0) C hH d_EventLog_heldB_15
    · have hf := ip hc7 hf
      refine lv_iload_n hx hb d_EventLog_heldB_10 rfl (lv_at hl 1 rfl) ?_
      refine lv_goto (tgt := 15) hx hb d_EventLog_heldB_11 (by decide) ?_
      subst hf
      exact rIR (v := x1) C hH d_EventLog_heldB_15
end
section
def f_Bytes_length (st : S_Bytes)  : Int32 :=
  st.2
set_option maxRecDepth 100000 in
set_option maxHeartbeats 4000000 in
theorem c_Bytes_length (l : Launch) (D : va_G) (cI cL : ClassId) (h h_row : Nat) (st : S_Bytes)  (res : Int32) (hf : f_Bytes_length st = res) :
    FnR l D vwCl [(cI, .int), (cL, .long)] y_Bytes_length ws_Bytes_length { frames := 0, cells := 0, slots := 0, locals := 0 } [.ref h] [(h, .inr (0, [.ref h_row, .int st.2])), (h_row, .inl (cI, 5000, .inl st.1))] (some (.int res)) := by
  refine FnR.ofW (cc := b_Bytes_length) (maxL := 1) (ret := (some .int)) (by decide) rfl (Nat.le_of_ble_eq_true rfl) ?_
  intro p e s m below meth c A ls C hH hl
  have hl : lv_has ls 1 [(0, .ref h)] := hl
  obtain ⟨hx, hb, hr, hml, hown, hts, hlk, hK, hA⟩ := id C
  unfold f_Bytes_length at hf
  refine lv_aload_n hx hb d_Bytes_length_0 rfl (lv_at hl 0 rfl) ?_
  refine gt (ci := 0) (v := .int st.2) C hH (iwT iw_Bytes) 0 rfl rfl 1 (by decide) (.tail _ wd_54) rfl d_Bytes_length_1 ?_
  subst hf
  exact rIR (v := st.2) C hH d_Bytes_length_4
def f_Bytes_get (st : S_Bytes) (x1 : Int32) : Int32 :=
  if x1 < 0 then (0) else (if st.2 ≤ x1 then (0) else (if (5000 : Int32) ≤ x1 then (0) else (st.1 x1.toNatClampNeg)))
set_option maxRecDepth 100000 in
set_option maxHeartbeats 4000000 in
theorem c_Bytes_get (l : Launch) (D : va_G) (cI cL : ClassId) (h h_row : Nat) (st : S_Bytes) (x1 : Int32) (res : Int32) (hf : f_Bytes_get st x1 = res) :
    FnR l D vwCl [(cI, .int), (cL, .long)] y_Bytes_get ws_Bytes_get { frames := 0, cells := 0, slots := 0, locals := 0 } [.ref h, .int x1] [(h, .inr (0, [.ref h_row, .int st.2])), (h_row, .inl (cI, 5000, .inl st.1))] (some (.int res)) := by
  refine FnR.ofW (cc := b_Bytes_get) (maxL := 2) (ret := (some .int)) (by decide) rfl (Nat.le_of_ble_eq_true rfl) ?_
  intro p e s m below meth c A ls C hH hl
  have hl : lv_has ls 2 [(0, .ref h), (1, .int x1)] := hl
  obtain ⟨hx, hb, hr, hml, hown, hts, hlk, hK, hA⟩ := id C
  unfold f_Bytes_get at hf
  refine lv_iload_n hx hb d_Bytes_get_0 rfl (lv_at hl 1 rfl) ?_
  refine lv_if_lt (tgt := 28) hx hb d_Bytes_get_1 (by decide) (fun hc1 => ?_) (fun hc1 => ?_)
  · have hf := ip hc1 hf
    refine lv_iconst (v := 0) hx hb d_Bytes_get_28 (by decide) ?_
    subst hf
    exact rIR (v := 0) C hH d_Bytes_get_29
  · have hf := im hc1 hf
    refine lv_iload_n hx hb d_Bytes_get_4 rfl (lv_at hl 1 rfl) ?_
    refine lv_aload_n hx hb d_Bytes_get_5 rfl (lv_at hl 0 rfl) ?_
    refine gt (ci := 0) (v := .int st.2) C hH (iwT iw_Bytes) 0 rfl rfl 1 (by decide) (.tail _ wd_54) rfl d_Bytes_get_6 ?_
    refine lv_icmp_ge (tgt := 28) hx hb d_Bytes_get_9 (by decide) (fun hc9 => ?_) (fun hc9 => ?_)
    · have hf := ip hc9 hf
      refine lv_iconst (v := 0) hx hb d_Bytes_get_28 (by decide) ?_
      subst hf
      exact rIR (v := 0) C hH d_Bytes_get_29
    · have hf := im hc9 hf
      refine lv_iload_n hx hb d_Bytes_get_12 rfl (lv_at hl 1 rfl) ?_
      refine lv_sipush (v := 5000) hx hb d_Bytes_get_13 (by decide) ?_
      refine lv_icmp_ge (tgt := 28) hx hb d_Bytes_get_16 (by decide) (fun hc16 => ?_) (fun hc16 => ?_)
      · have hf := ip hc16 hf
        refine lv_iconst (v := 0) hx hb d_Bytes_get_28 (by decide) ?_
        subst hf
        exact rIR (v := 0) C hH d_Bytes_get_29
      · have hf := im hc16 hf
        refine lv_aload_n hx hb d_Bytes_get_19 rfl (lv_at hl 0 rfl) ?_
        refine gt (ci := 0) (v := .ref h_row) C hH (iwT iw_Bytes) 0 rfl rfl 0 (by decide) (.tail _ wd_53) rfl d_Bytes_get_20 ?_
        refine lv_iload_n hx hb d_Bytes_get_23 rfl (lv_at hl 1 rfl) ?_
        refine ali C hH 1 0 rfl rfl (vin5000 hc1 hc16) d_Bytes_get_24 ?_
        refine lv_goto (tgt := 29) hx hb d_Bytes_get_25 (by decide) ?_
        subst hf
        exact rIR (v := st.1 x1.toNatClampNeg) C hH d_Bytes_get_29
def f_Bytes_put (st : S_Bytes) (x1 : Int32) (x2 : Int32) : S_Bytes :=
  if x1 < 0 then (st) else (if st.2 ≤ x1 then (st) else (if (5000 : Int32) ≤ x1 then (st) else ((upd st.1 x1.toNatClampNeg x2, st.2))))
set_option maxRecDepth 100000 in
set_option maxHeartbeats 4000000 in
theorem c_Bytes_put (l : Launch) (D : va_G) (cI cL : ClassId) (h h_row : Nat) (st : S_Bytes) (x1 : Int32) (x2 : Int32) (res : S_Bytes) (hf : f_Bytes_put st x1 x2 = res) :
    Fn l D vwCl [(cI, .int), (cL, .long)] y_Bytes_put ws_Bytes_put { frames := 0, cells := 0, slots := 0, locals := 0 } [.ref h, .int x1, .int x2] [(h, .inr (0, [.ref h_row, .int st.2])), (h_row, .inl (cI, 5000, .inl st.1))] (none) [(h, .inr (0, [.ref h_row, .int res.2])), (h_row, .inl (cI, 5000, .inl res.1))] := by
  refine Fn.ofW (cc := b_Bytes_put) (maxL := 3) (ret := none) (by decide) rfl (Nat.le_of_ble_eq_true rfl) ?_
  intro p e s m below meth c A ls C hH hinit hl
  have hl : lv_has ls 3 [(0, .ref h), (1, .int x1), (2, .int x2)] := hl
  obtain ⟨hx, hb, hr, hml, hown, hts, hlk, hK, hA⟩ := id C
  unfold f_Bytes_put at hf
  refine lv_iload_n hx hb d_Bytes_put_0 rfl (lv_at hl 1 rfl) ?_
  refine lv_if_lt (tgt := 26) hx hb d_Bytes_put_1 (by decide) (fun hc1 => ?_) (fun hc1 => ?_)
  · have hf := ip hc1 hf
    subst hf
    exact rV C hH d_Bytes_put_26
  · have hf := im hc1 hf
    refine lv_iload_n hx hb d_Bytes_put_4 rfl (lv_at hl 1 rfl) ?_
    refine lv_aload_n hx hb d_Bytes_put_5 rfl (lv_at hl 0 rfl) ?_
    refine gt (ci := 0) (v := .int st.2) C hH (iwT iw_Bytes) 0 rfl rfl 1 (by decide) (.tail _ wd_54) rfl d_Bytes_put_6 ?_
    refine lv_icmp_ge (tgt := 26) hx hb d_Bytes_put_9 (by decide) (fun hc9 => ?_) (fun hc9 => ?_)
    · have hf := ip hc9 hf
      subst hf
      exact rV C hH d_Bytes_put_26
    · have hf := im hc9 hf
      refine lv_iload_n hx hb d_Bytes_put_12 rfl (lv_at hl 1 rfl) ?_
      refine lv_sipush (v := 5000) hx hb d_Bytes_put_13 (by decide) ?_
      refine lv_icmp_ge (tgt := 26) hx hb d_Bytes_put_16 (by decide) (fun hc16 => ?_) (fun hc16 => ?_)
      · have hf := ip hc16 hf
        subst hf
        exact rV C hH d_Bytes_put_26
      · have hf := im hc16 hf
        refine lv_aload_n hx hb d_Bytes_put_19 rfl (lv_at hl 0 rfl) ?_
        refine gt (ci := 0) (v := .ref h_row) C hH (iwT iw_Bytes) 0 rfl rfl 0 (by decide) (.tail _ wd_53) rfl d_Bytes_put_20 ?_
        refine lv_iload_n hx hb d_Bytes_put_23 rfl (lv_at hl 1 rfl) ?_
        refine lv_iload_n hx hb d_Bytes_put_24 rfl (lv_at hl 2 rfl) ?_
        refine asi C hH 1 0 rfl rfl (vin5000 hc1 hc16) d_Bytes_put_25 [(h, .inr (0, [.ref h_row, .int st.2])), (h_row, .inl (cI, 5000, .inl (upd st.1 x1.toNatClampNeg x2)))] rfl (fun H locs hH => ?_)
        subst hf
        exact rV C hH d_Bytes_put_26
def f_Bytes_append (st : S_Bytes) (x1 : Int32) : S_Bytes :=
  if st.2 < 0 then (st) else (if (5000 : Int32) ≤ st.2 then (st) else ((upd st.1 st.2.toNatClampNeg x1, st.2 + 1)))
set_option maxRecDepth 100000 in
set_option maxHeartbeats 4000000 in
theorem c_Bytes_append (l : Launch) (D : va_G) (cI cL : ClassId) (h h_row : Nat) (st : S_Bytes) (x1 : Int32) (res : S_Bytes) (hf : f_Bytes_append st x1 = res) :
    Fn l D vwCl [(cI, .int), (cL, .long)] y_Bytes_append ws_Bytes_append { frames := 0, cells := 0, slots := 0, locals := 0 } [.ref h, .int x1] [(h, .inr (0, [.ref h_row, .int st.2])), (h_row, .inl (cI, 5000, .inl st.1))] (none) [(h, .inr (0, [.ref h_row, .int res.2])), (h_row, .inl (cI, 5000, .inl res.1))] := by
  refine Fn.ofW (cc := b_Bytes_append) (maxL := 2) (ret := none) (by decide) rfl (Nat.le_of_ble_eq_true rfl) ?_
  intro p e s m below meth c A ls C hH hinit hl
  have hl : lv_has ls 2 [(0, .ref h), (1, .int x1)] := hl
  obtain ⟨hx, hb, hr, hml, hown, hts, hlk, hK, hA⟩ := id C
  unfold f_Bytes_append at hf
  refine lv_aload_n hx hb d_Bytes_append_0 rfl (lv_at hl 0 rfl) ?_
  refine gt (ci := 0) (v := .int st.2) C hH (iwT iw_Bytes) 0 rfl rfl 1 (by decide) (.tail _ wd_54) rfl d_Bytes_append_1 ?_
  refine lv_if_lt (tgt := 37) hx hb d_Bytes_append_4 (by decide) (fun hc4 => ?_) (fun hc4 => ?_)
  · have hf := ip hc4 hf
    subst hf
    exact rV C hH d_Bytes_append_37
  · have hf := im hc4 hf
    refine lv_aload_n hx hb d_Bytes_append_7 rfl (lv_at hl 0 rfl) ?_
    refine gt (ci := 0) (v := .int st.2) C hH (iwT iw_Bytes) 0 rfl rfl 1 (by decide) (.tail _ wd_54) rfl d_Bytes_append_8 ?_
    refine lv_sipush (v := 5000) hx hb d_Bytes_append_11 (by decide) ?_
    refine lv_icmp_ge (tgt := 37) hx hb d_Bytes_append_14 (by decide) (fun hc14 => ?_) (fun hc14 => ?_)
    · have hf := ip hc14 hf
      subst hf
      exact rV C hH d_Bytes_append_37
    · have hf := im hc14 hf
      refine lv_aload_n hx hb d_Bytes_append_17 rfl (lv_at hl 0 rfl) ?_
      refine gt (ci := 0) (v := .ref h_row) C hH (iwT iw_Bytes) 0 rfl rfl 0 (by decide) (.tail _ wd_53) rfl d_Bytes_append_18 ?_
      refine lv_aload_n hx hb d_Bytes_append_21 rfl (lv_at hl 0 rfl) ?_
      refine gt (ci := 0) (v := .int st.2) C hH (iwT iw_Bytes) 0 rfl rfl 1 (by decide) (.tail _ wd_54) rfl d_Bytes_append_22 ?_
      refine lv_iload_n hx hb d_Bytes_append_25 rfl (lv_at hl 1 rfl) ?_
      refine asi C hH 1 0 rfl rfl (vin5000 hc4 hc14) d_Bytes_append_26 [(h, .inr (0, [.ref h_row, .int st.2])), (h_row, .inl (cI, 5000, .inl (upd st.1 st.2.toNatClampNeg x1)))] rfl (fun H locs hH => ?_)
      refine lv_aload_n hx hb d_Bytes_append_27 rfl (lv_at hl 0 rfl) ?_
      refine lv_dup hx hb d_Bytes_append_28 rfl ?_
      refine gt (ci := 0) (v := .int st.2) C hH (iwT iw_Bytes) 0 rfl rfl 1 (by decide) (.tail _ wd_54) rfl d_Bytes_append_29 ?_
      refine lv_iconst (v := 1) hx hb d_Bytes_append_32 (by decide) ?_
      refine lv_iadd hx hb d_Bytes_append_33 ?_
      refine pt (ci := 0) (v := .int (st.2 + 1)) C hH (iwT iw_Bytes) ty_Bytes tyok_Bytes nm_Bytes 0 rfl rfl 1 (by decide) (.tail _ wd_54) rfl rfl rfl (Nat.le_of_ble_eq_true rfl) d_Bytes_append_34 [(h, .inr (0, [.ref h_row, .int (st.2 + 1)])), (h_row, .inl (cI, 5000, .inl (upd st.1 st.2.toNatClampNeg x1)))] rfl (fun H locs hH => ?_)
      subst hf
      exact rV C hH d_Bytes_append_37
def f_Bytes_keepFirst (st : S_Bytes) (x1 : Int32) : S_Bytes :=
  if x1 < 0 then (st) else (if st.2 ≤ x1 then (st) else ((st.1, x1)))
set_option maxRecDepth 100000 in
set_option maxHeartbeats 4000000 in
theorem c_Bytes_keepFirst (l : Launch) (D : va_G) (cI cL : ClassId) (h h_row : Nat) (st : S_Bytes) (x1 : Int32) (res : S_Bytes) (hf : f_Bytes_keepFirst st x1 = res) :
    Fn l D vwCl [(cI, .int), (cL, .long)] y_Bytes_keepFirst ws_Bytes_keepFirst { frames := 0, cells := 0, slots := 0, locals := 0 } [.ref h, .int x1] [(h, .inr (0, [.ref h_row, .int st.2])), (h_row, .inl (cI, 5000, .inl st.1))] (none) [(h, .inr (0, [.ref h_row, .int res.2])), (h_row, .inl (cI, 5000, .inl res.1))] := by
  refine Fn.ofW (cc := b_Bytes_keepFirst) (maxL := 2) (ret := none) (by decide) rfl (Nat.le_of_ble_eq_true rfl) ?_
  intro p e s m below meth c A ls C hH hinit hl
  have hl : lv_has ls 2 [(0, .ref h), (1, .int x1)] := hl
  obtain ⟨hx, hb, hr, hml, hown, hts, hlk, hK, hA⟩ := id C
  unfold f_Bytes_keepFirst at hf
  refine lv_iload_n hx hb d_Bytes_keepFirst_0 rfl (lv_at hl 1 rfl) ?_
  refine lv_if_lt (tgt := 17) hx hb d_Bytes_keepFirst_1 (by decide) (fun hc1 => ?_) (fun hc1 => ?_)
  · have hf := ip hc1 hf
    subst hf
    exact rV C hH d_Bytes_keepFirst_17
  · have hf := im hc1 hf
    refine lv_iload_n hx hb d_Bytes_keepFirst_4 rfl (lv_at hl 1 rfl) ?_
    refine lv_aload_n hx hb d_Bytes_keepFirst_5 rfl (lv_at hl 0 rfl) ?_
    refine gt (ci := 0) (v := .int st.2) C hH (iwT iw_Bytes) 0 rfl rfl 1 (by decide) (.tail _ wd_54) rfl d_Bytes_keepFirst_6 ?_
    refine lv_icmp_ge (tgt := 17) hx hb d_Bytes_keepFirst_9 (by decide) (fun hc9 => ?_) (fun hc9 => ?_)
    · have hf := ip hc9 hf
      subst hf
      exact rV C hH d_Bytes_keepFirst_17
    · have hf := im hc9 hf
      refine lv_aload_n hx hb d_Bytes_keepFirst_12 rfl (lv_at hl 0 rfl) ?_
      refine lv_iload_n hx hb d_Bytes_keepFirst_13 rfl (lv_at hl 1 rfl) ?_
      refine pt (ci := 0) (v := .int x1) C hH (iwT iw_Bytes) ty_Bytes tyok_Bytes nm_Bytes 0 rfl rfl 1 (by decide) (.tail _ wd_54) rfl rfl rfl (Nat.le_of_ble_eq_true rfl) d_Bytes_keepFirst_14 [(h, .inr (0, [.ref h_row, .int x1])), (h_row, .inl (cI, 5000, .inl st.1))] rfl (fun H locs hH => ?_)
      subst hf
      exact rV C hH d_Bytes_keepFirst_17
end
section
def f_Past_forget (st : S_Past)  : S_Past :=
  (st.1, 0, (-1))
set_option maxRecDepth 100000 in
set_option maxHeartbeats 4000000 in
theorem c_Past_forget (l : Launch) (D : va_G) (cI cL : ClassId) (h h_typed : Nat) (st : S_Past)  (res : S_Past) (hf : f_Past_forget st = res) :
    Fn l D vwCl [(cI, .int), (cL, .long)] y_Past_forget ws_Past_forget { frames := 0, cells := 0, slots := 0, locals := 0 } [.ref h] [(h, .inr (1, [.ref h_typed, .int st.2.1, .int st.2.2])), (h_typed, .inl (cI, 300, .inl st.1))] (none) [(h, .inr (1, [.ref h_typed, .int res.2.1, .int res.2.2])), (h_typed, .inl (cI, 300, .inl res.1))] := by
  refine Fn.ofW (cc := b_Past_forget) (maxL := 1) (ret := none) (by decide) rfl (Nat.le_of_ble_eq_true rfl) ?_
  intro p e s m below meth c A ls C hH hinit hl
  have hl : lv_has ls 1 [(0, .ref h)] := hl
  obtain ⟨hx, hb, hr, hml, hown, hts, hlk, hK, hA⟩ := id C
  unfold f_Past_forget at hf
  refine lv_aload_n hx hb d_Past_forget_0 rfl (lv_at hl 0 rfl) ?_
  refine lv_iconst (v := 0) hx hb d_Past_forget_1 (by decide) ?_
  refine pt (ci := 1) (v := .int 0) C hH (iwT iw_Past) ty_Past tyok_Past nm_Past 0 rfl rfl 1 (by decide) (.tail _ wd_73) rfl rfl rfl (Nat.le_of_ble_eq_true rfl) d_Past_forget_2 [(h, .inr (1, [.ref h_typed, .int 0, .int st.2.2])), (h_typed, .inl (cI, 300, .inl st.1))] rfl (fun H locs hH => ?_)
  refine lv_aload_n hx hb d_Past_forget_5 rfl (lv_at hl 0 rfl) ?_
  refine lv_iconst (v := (-1)) hx hb d_Past_forget_6 (by decide) ?_
  refine pt (ci := 1) (v := .int ((-1))) C hH (iwT iw_Past) ty_Past tyok_Past nm_Past 0 rfl rfl 2 (by decide) (.tail _ wd_74) rfl rfl rfl (Nat.le_of_ble_eq_true rfl) d_Past_forget_7 [(h, .inr (1, [.ref h_typed, .int 0, .int ((-1))])), (h_typed, .inl (cI, 300, .inl st.1))] rfl (fun H locs hH => ?_)
  subst hf
  exact rV C hH d_Past_forget_10
def f_Past_note_b10 (st : S_Past) (x1 : Int32) (x2 : Int32) : S_Past :=
  if x1 = (1 : Int32) then (if st.2.1 < 0 then (st) else (if (300 : Int32) ≤ st.2.1 then (st) else ((upd st.1 st.2.1.toNatClampNeg x2, st.2.1 + 1, st.2.2)))) else (st)
set_option maxRecDepth 100000 in
set_option maxHeartbeats 4000000 in
theorem w_Past_note_b10 (l : Launch) (D : va_G) (cI cL : ClassId) (h h_typed : Nat) {p : Program} {e : Env} {s : State} {m : MethodId} {args : Array Value} {below : List Frame} {meth : Method} {c : Code} {A : Nat → Prop} (C : Cx p s m args meth c D vwCl [(cI, .int), (cL, .long)] A b_Past_note 3 none ws_Past_note y_Past_note.cls) : ∀ (st : S_Past) (x1 : Int32) (x2 : Int32) (res : S_Past), f_Past_note_b10 st x1 x2 = res → ∀ (H : Heap) (locs : List Loc) (ls : Array Slot), Hp D vwCl A A s.heap H locs [(h, .inr (1, [.ref h_typed, .int st.2.1, .int st.2.2])), (h_typed, .inl (cI, 300, .inl st.1))] → lv_has ls 3 [(0, .ref h), (1, .int x1), (2, .int x2)] → W p l e { frames := 0, cells := 0, slots := 0, locals := 0 } s m args below meth c H locs 0 0 (MQ below (Qw D vwCl [(cI, .int), (cL, .long)] (none) A [(h, .inr (1, [.ref h_typed, .int res.2.1, .int res.2.2])), (h_typed, .inl (cI, 300, .inl res.1))]) args s 0 0 A) (F0 m 10 ls []) := by
  obtain ⟨hx, hb, hr, hml, hown, hts, hlk, hK, hA⟩ := id C
  intro st x1 x2 res hf H locs ls hH hl
  unfold f_Past_note_b10 at hf
  refine lv_iload_n hx hb d_Past_note_10 rfl (lv_at hl 1 rfl) ?_
  refine lv_iconst (v := 1) hx hb d_Past_note_11 (by decide) ?_
  refine lv_icmp_ne (tgt := 52) hx hb d_Past_note_12 (by decide) (fun hc12 => ?_) (fun hc12 => ?_)
  · have hf := im hc12 hf
    subst hf
    exact rV C hH d_Past_note_52
  · have hf := ip hc12 hf
    refine lv_aload_n hx hb d_Past_note_15 rfl (lv_at hl 0 rfl) ?_
    refine gt (ci := 1) (v := .int st.2.1) C hH (iwT iw_Past) 0 rfl rfl 1 (by decide) (.tail _ wd_73) rfl d_Past_note_16 ?_
    refine lv_if_lt (tgt := 52) hx hb d_Past_note_19 (by decide) (fun hc19 => ?_) (fun hc19 => ?_)
    · have hf := ip hc19 hf
      subst hf
      exact rV C hH d_Past_note_52
    · have hf := im hc19 hf
      refine lv_aload_n hx hb d_Past_note_22 rfl (lv_at hl 0 rfl) ?_
      refine gt (ci := 1) (v := .int st.2.1) C hH (iwT iw_Past) 0 rfl rfl 1 (by decide) (.tail _ wd_73) rfl d_Past_note_23 ?_
      refine lv_sipush (v := 300) hx hb d_Past_note_26 (by decide) ?_
      refine lv_icmp_ge (tgt := 52) hx hb d_Past_note_29 (by decide) (fun hc29 => ?_) (fun hc29 => ?_)
      · have hf := ip hc29 hf
        subst hf
        exact rV C hH d_Past_note_52
      · have hf := im hc29 hf
        refine lv_aload_n hx hb d_Past_note_32 rfl (lv_at hl 0 rfl) ?_
        refine gt (ci := 1) (v := .ref h_typed) C hH (iwT iw_Past) 0 rfl rfl 0 (by decide) (.tail _ wd_72) rfl d_Past_note_33 ?_
        refine lv_aload_n hx hb d_Past_note_36 rfl (lv_at hl 0 rfl) ?_
        refine gt (ci := 1) (v := .int st.2.1) C hH (iwT iw_Past) 0 rfl rfl 1 (by decide) (.tail _ wd_73) rfl d_Past_note_37 ?_
        refine lv_iload_n hx hb d_Past_note_40 rfl (lv_at hl 2 rfl) ?_
        refine asi C hH 1 0 rfl rfl (vin300 hc19 hc29) d_Past_note_41 [(h, .inr (1, [.ref h_typed, .int st.2.1, .int st.2.2])), (h_typed, .inl (cI, 300, .inl (upd st.1 st.2.1.toNatClampNeg x2)))] rfl (fun H locs hH => ?_)
        refine lv_aload_n hx hb d_Past_note_42 rfl (lv_at hl 0 rfl) ?_
        refine lv_dup hx hb d_Past_note_43 rfl ?_
        refine gt (ci := 1) (v := .int st.2.1) C hH (iwT iw_Past) 0 rfl rfl 1 (by decide) (.tail _ wd_73) rfl d_Past_note_44 ?_
        refine lv_iconst (v := 1) hx hb d_Past_note_47 (by decide) ?_
        refine lv_iadd hx hb d_Past_note_48 ?_
        refine pt (ci := 1) (v := .int (st.2.1 + 1)) C hH (iwT iw_Past) ty_Past tyok_Past nm_Past 0 rfl rfl 1 (by decide) (.tail _ wd_73) rfl rfl rfl (Nat.le_of_ble_eq_true rfl) d_Past_note_49 [(h, .inr (1, [.ref h_typed, .int (st.2.1 + 1), .int st.2.2])), (h_typed, .inl (cI, 300, .inl (upd st.1 st.2.1.toNatClampNeg x2)))] rfl (fun H locs hH => ?_)
        subst hf
        exact rV C hH d_Past_note_52
def f_Past_note (st : S_Past) (x1 : Int32) (x2 : Int32) : S_Past :=
  if x1 = (3 : Int32) then (f_Past_note_b10 ((st.1, st.2.1, x2)) x1 x2) else (f_Past_note_b10 st x1 x2)
set_option maxRecDepth 100000 in
set_option maxHeartbeats 4000000 in
theorem c_Past_note (l : Launch) (D : va_G) (cI cL : ClassId) (h h_typed : Nat) (st : S_Past) (x1 : Int32) (x2 : Int32) (res : S_Past) (hf : f_Past_note st x1 x2 = res) :
    Fn l D vwCl [(cI, .int), (cL, .long)] y_Past_note ws_Past_note { frames := 0, cells := 0, slots := 0, locals := 0 } [.ref h, .int x1, .int x2] [(h, .inr (1, [.ref h_typed, .int st.2.1, .int st.2.2])), (h_typed, .inl (cI, 300, .inl st.1))] (none) [(h, .inr (1, [.ref h_typed, .int res.2.1, .int res.2.2])), (h_typed, .inl (cI, 300, .inl res.1))] := by
  refine Fn.ofW (cc := b_Past_note) (maxL := 3) (ret := none) (by decide) rfl (Nat.le_of_ble_eq_true rfl) ?_
  intro p e s m below meth c A ls C hH hinit hl
  have hl : lv_has ls 3 [(0, .ref h), (1, .int x1), (2, .int x2)] := hl
  obtain ⟨hx, hb, hr, hml, hown, hts, hlk, hK, hA⟩ := id C
  unfold f_Past_note at hf
  refine lv_iload_n hx hb d_Past_note_0 rfl (lv_at hl 1 rfl) ?_
  refine lv_iconst (v := 3) hx hb d_Past_note_1 (by decide) ?_
  refine lv_icmp_ne (tgt := 10) hx hb d_Past_note_2 (by decide) (fun hc2 => ?_) (fun hc2 => ?_)
  · have hf := im hc2 hf
    exact w_Past_note_b10 l D cI cL h h_typed C st x1 x2 res hf _ _ _ hH (lv_sub hl [0, 1, 2] rfl)
  · have hf := ip hc2 hf
    refine lv_aload_n hx hb d_Past_note_5 rfl (lv_at hl 0 rfl) ?_
    refine lv_iload_n hx hb d_Past_note_6 rfl (lv_at hl 2 rfl) ?_
    refine pt (ci := 1) (v := .int x2) C hH (iwT iw_Past) ty_Past tyok_Past nm_Past 0 rfl rfl 2 (by decide) (.tail _ wd_74) rfl rfl rfl (Nat.le_of_ble_eq_true rfl) d_Past_note_7 [(h, .inr (1, [.ref h_typed, .int st.2.1, .int x2])), (h_typed, .inl (cI, 300, .inl st.1))] rfl (fun H locs hH => ?_)
    exact w_Past_note_b10 l D cI cL h h_typed C ((st.1, st.2.1, x2)) x1 x2 res hf _ _ _ hH (lv_sub hl [0, 1, 2] rfl)
def f_Past_latestClock (st : S_Past)  : Int32 :=
  st.2.2
set_option maxRecDepth 100000 in
set_option maxHeartbeats 4000000 in
theorem c_Past_latestClock (l : Launch) (D : va_G) (cI cL : ClassId) (h h_typed : Nat) (st : S_Past)  (res : Int32) (hf : f_Past_latestClock st = res) :
    FnR l D vwCl [(cI, .int), (cL, .long)] y_Past_latestClock ws_Past_latestClock { frames := 0, cells := 0, slots := 0, locals := 0 } [.ref h] [(h, .inr (1, [.ref h_typed, .int st.2.1, .int st.2.2])), (h_typed, .inl (cI, 300, .inl st.1))] (some (.int res)) := by
  refine FnR.ofW (cc := b_Past_latestClock) (maxL := 1) (ret := (some .int)) (by decide) rfl (Nat.le_of_ble_eq_true rfl) ?_
  intro p e s m below meth c A ls C hH hl
  have hl : lv_has ls 1 [(0, .ref h)] := hl
  obtain ⟨hx, hb, hr, hml, hown, hts, hlk, hK, hA⟩ := id C
  unfold f_Past_latestClock at hf
  refine lv_aload_n hx hb d_Past_latestClock_0 rfl (lv_at hl 0 rfl) ?_
  refine gt (ci := 1) (v := .int st.2.2) C hH (iwT iw_Past) 0 rfl rfl 2 (by decide) (.tail _ wd_74) rfl d_Past_latestClock_1 ?_
  subst hf
  exact rIR (v := st.2.2) C hH d_Past_latestClock_4
def f_Past_typedBefore (st : S_Past) (x1 : Int64) : Int32 :=
  if (lg_cmp x1 1) < 0 then ((-1)) else (if 0 < (lg_cmp x1 st.2.1.toInt64) then ((-1)) else (if (lg_cmp x1 300) ≤ 0 then (if (300 : Int32) ≤ (st.2.1 - x1.toInt32) then ((-1)) else (st.1 (st.2.1 - x1.toInt32).toNatClampNeg)) else ((-1))))
set_option maxRecDepth 100000 in
set_option maxHeartbeats 4000000 in
theorem c_Past_typedBefore (l : Launch) (D : va_G) (cI cL : ClassId) (h h_typed : Nat) (st : S_Past) (x1 : Int64) (res : Int32) (hf : f_Past_typedBefore st x1 = res) :
    FnR l D vwCl [(cI, .int), (cL, .long)] y_Past_typedBefore ws_Past_typedBefore { frames := 0, cells := 0, slots := 0, locals := 0 } [.ref h, .long x1] [(h, .inr (1, [.ref h_typed, .int st.2.1, .int st.2.2])), (h_typed, .inl (cI, 300, .inl st.1))] (some (.int res)) := by
  refine FnR.ofW (cc := b_Past_typedBefore) (maxL := 4) (ret := (some .int)) (by decide) rfl (Nat.le_of_ble_eq_true rfl) ?_
  intro p e s m below meth c A ls C hH hl
  have hl : lv_has ls 4 [(0, .ref h), (1, .long x1)] := hl
  obtain ⟨hx, hb, hr, hml, hown, hts, hlk, hK, hA⟩ := id C
  unfold f_Past_typedBefore at hf
  refine lv_lload_n hx hb d_Past_typedBefore_0 rfl (lv_at hl 1 rfl) ?_
  refine lv_lconst (v := 1) hx hb d_Past_typedBefore_1 (by decide) ?_
  refine W.lcmp hx hb d_Past_typedBefore_2 ?_
  refine lv_if_lt (tgt := 24) hx hb d_Past_typedBefore_3 (by decide) (fun hc3 => ?_) (fun hc3 => ?_)
  · have hf := ip hc3 hf
    refine lv_iconst (v := (-1)) hx hb d_Past_typedBefore_24 (by decide) ?_
    subst hf
    exact rIR (v := (-1)) C hH d_Past_typedBefore_25
  · have hf := im hc3 hf
    refine lv_lload_n hx hb d_Past_typedBefore_6 rfl (lv_at hl 1 rfl) ?_
    refine lv_aload_n hx hb d_Past_typedBefore_7 rfl (lv_at hl 0 rfl) ?_
    refine gt (ci := 1) (v := .int st.2.1) C hH (iwT iw_Past) 0 rfl rfl 1 (by decide) (.tail _ wd_73) rfl d_Past_typedBefore_8 ?_
    refine lv_i2l (v := st.2.1.toInt64) hx hb d_Past_typedBefore_11 rfl ?_
    refine W.lcmp hx hb d_Past_typedBefore_12 ?_
    refine lv_if_gt (tgt := 24) hx hb d_Past_typedBefore_13 (by decide) (fun hc13 => ?_) (fun hc13 => ?_)
    · have hf := ip hc13 hf
      refine lv_iconst (v := (-1)) hx hb d_Past_typedBefore_24 (by decide) ?_
      subst hf
      exact rIR (v := (-1)) C hH d_Past_typedBefore_25
    · have hf := im hc13 hf
      refine lv_lload_n hx hb d_Past_typedBefore_16 rfl (lv_at hl 1 rfl) ?_
      refine lv_ldc2 (v := 300) hx hb hown (hts _ (.tail _ wd_229)) d_Past_typedBefore_17 ?_
      refine W.lcmp hx hb d_Past_typedBefore_20 ?_
      refine lv_if_le (tgt := 26) hx hb d_Past_typedBefore_21 (by decide) (fun hc21 => ?_) (fun hc21 => ?_)
      · have hf := ip hc21 hf
        refine lv_aload_n hx hb d_Past_typedBefore_26 rfl (lv_at hl 0 rfl) ?_
        refine gt (ci := 1) (v := .int st.2.1) C hH (iwT iw_Past) 0 rfl rfl 1 (by decide) (.tail _ wd_73) rfl d_Past_typedBefore_27 ?_
        refine lv_lload_n hx hb d_Past_typedBefore_30 rfl (lv_at hl 1 rfl) ?_
        refine lv_l2i (v := x1.toInt32) hx hb d_Past_typedBefore_31 rfl ?_
        refine lv_isub hx hb d_Past_typedBefore_32 ?_
        refine lv_istore_n (lv' := [(3, .int (st.2.1 - x1.toInt32)), (0, .ref h), (1, .long x1)]) hx hb d_Past_typedBefore_33 rfl hl (by decide) rfl (fun ls hl => ?_)
        refine lv_iload_n hx hb d_Past_typedBefore_34 rfl (lv_at hl 0 rfl) ?_
        refine lv_sipush (v := 300) hx hb d_Past_typedBefore_35 (by decide) ?_
        refine lv_icmp_ge (tgt := 50) hx hb d_Past_typedBefore_38 (by decide) (fun hc38 => ?_) (fun hc38 => ?_)
        · have hf := ip hc38 hf
          refine lv_iconst (v := (-1)) hx hb d_Past_typedBefore_50 (by decide) ?_
          subst hf
          exact rIR (v := (-1)) C hH d_Past_typedBefore_51
        · have hf := im hc38 hf
          refine lv_aload_n hx hb d_Past_typedBefore_41 rfl (lv_at hl 1 rfl) ?_
          refine gt (ci := 1) (v := .ref h_typed) C hH (iwT iw_Past) 0 rfl rfl 0 (by decide) (.tail _ wd_72) rfl d_Past_typedBefore_42 ?_
          refine lv_iload_n hx hb d_Past_typedBefore_45 rfl (lv_at hl 0 rfl) ?_
          refine ali C hH 1 0 rfl rfl (tb_in hc3 hc13 hc21 hc38) d_Past_typedBefore_46 ?_
          refine lv_goto (tgt := 51) hx hb d_Past_typedBefore_47 (by decide) ?_
          subst hf
          exact rIR (v := st.1 (st.2.1 - x1.toInt32).toNatClampNeg) C hH d_Past_typedBefore_51
      · have hf := im hc21 hf
        refine lv_iconst (v := (-1)) hx hb d_Past_typedBefore_24 (by decide) ?_
        subst hf
        exact rIR (v := (-1)) C hH d_Past_typedBefore_25
end
section
def f_Events_number (st : S_Events)  : Int32 :=
  st.2.2.2.2
set_option maxRecDepth 100000 in
set_option maxHeartbeats 4000000 in
theorem c_Events_number (l : Launch) (D : va_G) (cI cL : ClassId) (h h_kinds h_differences h_partsA h_partsB : Nat) (st : S_Events)  (res : Int32) (hf : f_Events_number st = res) :
    FnR l D vwCl [(cI, .int), (cL, .long)] y_Events_number ws_Events_number { frames := 0, cells := 0, slots := 0, locals := 0 } [.ref h] [(h, .inr (2, [.ref h_kinds, .ref h_differences, .ref h_partsA, .ref h_partsB, .int st.2.2.2.2])), (h_kinds, .inl (cI, 300, .inl st.1)), (h_differences, .inl (cL, 300, .inr (.inl st.2.1))), (h_partsA, .inl (cL, 300, .inr (.inl st.2.2.1))), (h_partsB, .inl (cI, 300, .inl st.2.2.2.1))] (some (.int res)) := by
  refine FnR.ofW (cc := b_Events_number) (maxL := 1) (ret := (some .int)) (by decide) rfl (Nat.le_of_ble_eq_true rfl) ?_
  intro p e s m below meth c A ls C hH hl
  have hl : lv_has ls 1 [(0, .ref h)] := hl
  obtain ⟨hx, hb, hr, hml, hown, hts, hlk, hK, hA⟩ := id C
  unfold f_Events_number at hf
  refine lv_aload_n hx hb d_Events_number_0 rfl (lv_at hl 0 rfl) ?_
  refine gt (ci := 2) (v := .int st.2.2.2.2) C hH (iwT iw_Events) 0 rfl rfl 4 (by decide) (.tail _ wd_33) rfl d_Events_number_1 ?_
  subst hf
  exact rIR (v := st.2.2.2.2) C hH d_Events_number_4
def f_Events_has (st : S_Events) (x1 : Int32) : Bool :=
  if x1 < 0 then (false) else (if st.2.2.2.2 ≤ x1 then (false) else (if (300 : Int32) ≤ x1 then (false) else (true)))
set_option maxRecDepth 100000 in
set_option maxHeartbeats 4000000 in
theorem c_Events_has (l : Launch) (D : va_G) (cI cL : ClassId) (h h_kinds h_differences h_partsA h_partsB : Nat) (st : S_Events) (x1 : Int32) (res : Bool) (hf : f_Events_has st x1 = res) :
    FnR l D vwCl [(cI, .int), (cL, .long)] y_Events_has ws_Events_has { frames := 0, cells := 0, slots := 0, locals := 0 } [.ref h, .int x1] [(h, .inr (2, [.ref h_kinds, .ref h_differences, .ref h_partsA, .ref h_partsB, .int st.2.2.2.2])), (h_kinds, .inl (cI, 300, .inl st.1)), (h_differences, .inl (cL, 300, .inr (.inl st.2.1))), (h_partsA, .inl (cL, 300, .inr (.inl st.2.2.1))), (h_partsB, .inl (cI, 300, .inl st.2.2.2.1))] (some (.int (bI res))) := by
  refine FnR.ofW (cc := b_Events_has) (maxL := 2) (ret := (some .boolean)) (by decide) rfl (Nat.le_of_ble_eq_true rfl) ?_
  intro p e s m below meth c A ls C hH hl
  have hl : lv_has ls 2 [(0, .ref h), (1, .int x1)] := hl
  obtain ⟨hx, hb, hr, hml, hown, hts, hlk, hK, hA⟩ := id C
  unfold f_Events_has at hf
  refine lv_iload_n hx hb d_Events_has_0 rfl (lv_at hl 1 rfl) ?_
  refine lv_if_lt (tgt := 23) hx hb d_Events_has_1 (by decide) (fun hc1 => ?_) (fun hc1 => ?_)
  · have hf := ip hc1 hf
    refine lv_iconst (v := 0) hx hb d_Events_has_23 (by decide) ?_
    subst hf
    exact rZR (v := false) C hH d_Events_has_24
  · have hf := im hc1 hf
    refine lv_iload_n hx hb d_Events_has_4 rfl (lv_at hl 1 rfl) ?_
    refine lv_aload_n hx hb d_Events_has_5 rfl (lv_at hl 0 rfl) ?_
    refine gt (ci := 2) (v := .int st.2.2.2.2) C hH (iwT iw_Events) 0 rfl rfl 4 (by decide) (.tail _ wd_33) rfl d_Events_has_6 ?_
    refine lv_icmp_ge (tgt := 23) hx hb d_Events_has_9 (by decide) (fun hc9 => ?_) (fun hc9 => ?_)
    · have hf := ip hc9 hf
      refine lv_iconst (v := 0) hx hb d_Events_has_23 (by decide) ?_
      subst hf
      exact rZR (v := false) C hH d_Events_has_24
    · have hf := im hc9 hf
      refine lv_iload_n hx hb d_Events_has_12 rfl (lv_at hl 1 rfl) ?_
      refine lv_sipush (v := 300) hx hb d_Events_has_13 (by decide) ?_
      refine lv_icmp_ge (tgt := 23) hx hb d_Events_has_16 (by decide) (fun hc16 => ?_) (fun hc16 => ?_)
      · have hf := ip hc16 hf
        refine lv_iconst (v := 0) hx hb d_Events_has_23 (by decide) ?_
        subst hf
        exact rZR (v := false) C hH d_Events_has_24
      · have hf := im hc16 hf
        refine lv_iconst (v := 1) hx hb d_Events_has_19 (by decide) ?_
        refine lv_goto (tgt := 24) hx hb d_Events_has_20 (by decide) ?_
        subst hf
        exact rZR (v := true) C hH d_Events_has_24
theorem has_in {st : S_Events} {x : Int32} (h : ¬ bI (f_Events_has st x) = 0) : vp_in x 300 := by
  unfold f_Events_has at h
  by_cases h0 : x < 0
  · rw [if_pos h0] at h; exact absurd rfl h
  · rw [if_neg h0] at h
    by_cases h1 : st.2.2.2.2 ≤ x
    · rw [if_pos h1] at h; exact absurd rfl h
    · rw [if_neg h1] at h
      by_cases h2 : 300 ≤ x
      · rw [if_pos h2] at h; exact absurd rfl h
      · exact vin300 h0 h2
def f_Events_kind (st : S_Events) (x1 : Int32) : Int32 :=
  if (bI (f_Events_has st x1)) = 0 then (0) else (st.1 x1.toNatClampNeg)
set_option maxRecDepth 100000 in
set_option maxHeartbeats 4000000 in
theorem c_Events_kind (l : Launch) (D : va_G) (cI cL : ClassId) (h h_kinds h_differences h_partsA h_partsB : Nat) (st : S_Events) (x1 : Int32) (res : Int32) (hf : f_Events_kind st x1 = res) :
    FnR l D vwCl [(cI, .int), (cL, .long)] y_Events_kind ws_Events_kind { frames := 1, cells := 0, slots := 0, locals := 21 } [.ref h, .int x1] [(h, .inr (2, [.ref h_kinds, .ref h_differences, .ref h_partsA, .ref h_partsB, .int st.2.2.2.2])), (h_kinds, .inl (cI, 300, .inl st.1)), (h_differences, .inl (cL, 300, .inr (.inl st.2.1))), (h_partsA, .inl (cL, 300, .inr (.inl st.2.2.1))), (h_partsB, .inl (cI, 300, .inl st.2.2.2.1))] (some (.int res)) := by
  refine FnR.ofW (cc := b_Events_kind) (maxL := 2) (ret := (some .int)) (by decide) rfl (Nat.le_of_ble_eq_true rfl) ?_
  intro p e s m below meth c A ls C hH hl
  have hl : lv_has ls 2 [(0, .ref h), (1, .int x1)] := hl
  obtain ⟨hx, hb, hr, hml, hown, hts, hlk, hK, hA⟩ := id C
  unfold f_Events_kind at hf
  refine lv_aload_n hx hb d_Events_kind_0 rfl (lv_at hl 0 rfl) ?_
  refine lv_iload_n hx hb d_Events_kind_1 rfl (lv_at hl 1 rfl) ?_
  refine fnVR (rest := []) (st2 := [.int (bI (f_Events_has st x1))]) C (c_Events_has l D cI cL h h_kinds h_differences h_partsA h_partsB st x1 _ rfl) (cV hts kV_Events_has wd_196 ⟨Nat.le_of_ble_eq_true rfl, Nat.le_of_ble_eq_true rfl⟩) hH [0, 1, 2, 3, 4] rfl rfl 0 rfl rfl rfl hl.1 rfl (Nat.le_of_ble_eq_true rfl) d_Events_kind_2 ⟨Nat.le_of_ble_eq_true rfl, Nat.le_of_ble_eq_true rfl⟩ rfl (fun H locs hH => ?_)
  refine lv_if_eq (tgt := 17) hx hb d_Events_kind_5 (by decide) (fun hc5 => ?_) (fun hc5 => ?_)
  · have hf := ip hc5 hf
    refine lv_iconst (v := 0) hx hb d_Events_kind_17 (by decide) ?_
    subst hf
    exact rIR (v := 0) C hH d_Events_kind_18
  · have hf := im hc5 hf
    refine lv_aload_n hx hb d_Events_kind_8 rfl (lv_at hl 0 rfl) ?_
    refine gt (ci := 2) (v := .ref h_kinds) C hH (iwT iw_Events) 0 rfl rfl 0 (by decide) (.tail _ wd_29) rfl d_Events_kind_9 ?_
    refine lv_iload_n hx hb d_Events_kind_12 rfl (lv_at hl 1 rfl) ?_
    refine ali C hH 1 0 rfl rfl (has_in hc5) d_Events_kind_13 ?_
    refine lv_goto (tgt := 18) hx hb d_Events_kind_14 (by decide) ?_
    subst hf
    exact rIR (v := st.1 x1.toNatClampNeg) C hH d_Events_kind_18
def f_Events_difference (st : S_Events) (x1 : Int32) : Int64 :=
  if (bI (f_Events_has st x1)) = 0 then (0) else (st.2.1 x1.toNatClampNeg)
set_option maxRecDepth 100000 in
set_option maxHeartbeats 4000000 in
theorem c_Events_difference (l : Launch) (D : va_G) (cI cL : ClassId) (h h_kinds h_differences h_partsA h_partsB : Nat) (st : S_Events) (x1 : Int32) (res : Int64) (hf : f_Events_difference st x1 = res) :
    FnR l D vwCl [(cI, .int), (cL, .long)] y_Events_difference ws_Events_difference { frames := 1, cells := 0, slots := 0, locals := 21 } [.ref h, .int x1] [(h, .inr (2, [.ref h_kinds, .ref h_differences, .ref h_partsA, .ref h_partsB, .int st.2.2.2.2])), (h_kinds, .inl (cI, 300, .inl st.1)), (h_differences, .inl (cL, 300, .inr (.inl st.2.1))), (h_partsA, .inl (cL, 300, .inr (.inl st.2.2.1))), (h_partsB, .inl (cI, 300, .inl st.2.2.2.1))] (some (.long res)) := by
  refine FnR.ofW (cc := b_Events_difference) (maxL := 2) (ret := (some .long)) (by decide) rfl (Nat.le_of_ble_eq_true rfl) ?_
  intro p e s m below meth c A ls C hH hl
  have hl : lv_has ls 2 [(0, .ref h), (1, .int x1)] := hl
  obtain ⟨hx, hb, hr, hml, hown, hts, hlk, hK, hA⟩ := id C
  unfold f_Events_difference at hf
  refine lv_aload_n hx hb d_Events_difference_0 rfl (lv_at hl 0 rfl) ?_
  refine lv_iload_n hx hb d_Events_difference_1 rfl (lv_at hl 1 rfl) ?_
  refine fnVR (rest := []) (st2 := [.int (bI (f_Events_has st x1))]) C (c_Events_has l D cI cL h h_kinds h_differences h_partsA h_partsB st x1 _ rfl) (cV hts kV_Events_has wd_196 ⟨Nat.le_of_ble_eq_true rfl, Nat.le_of_ble_eq_true rfl⟩) hH [0, 1, 2, 3, 4] rfl rfl 0 rfl rfl rfl hl.1 rfl (Nat.le_of_ble_eq_true rfl) d_Events_difference_2 ⟨Nat.le_of_ble_eq_true rfl, Nat.le_of_ble_eq_true rfl⟩ rfl (fun H locs hH => ?_)
  refine lv_if_eq (tgt := 17) hx hb d_Events_difference_5 (by decide) (fun hc5 => ?_) (fun hc5 => ?_)
  · have hf := ip hc5 hf
    refine lv_lconst (v := 0) hx hb d_Events_difference_17 (by decide) ?_
    subst hf
    exact rJR (v := 0) C hH d_Events_difference_18
  · have hf := im hc5 hf
    refine lv_aload_n hx hb d_Events_difference_8 rfl (lv_at hl 0 rfl) ?_
    refine gt (ci := 2) (v := .ref h_differences) C hH (iwT iw_Events) 0 rfl rfl 1 (by decide) (.tail _ wd_30) rfl d_Events_difference_9 ?_
    refine lv_iload_n hx hb d_Events_difference_12 rfl (lv_at hl 1 rfl) ?_
    refine all_ C hH 2 1 rfl rfl (has_in hc5) d_Events_difference_13 ?_
    refine lv_goto (tgt := 18) hx hb d_Events_difference_14 (by decide) ?_
    subst hf
    exact rJR (v := st.2.1 x1.toNatClampNeg) C hH d_Events_difference_18
def f_Events_a (st : S_Events) (x1 : Int32) : Int64 :=
  if (bI (f_Events_has st x1)) = 0 then (0) else (st.2.2.1 x1.toNatClampNeg)
set_option maxRecDepth 100000 in
set_option maxHeartbeats 4000000 in
theorem c_Events_a (l : Launch) (D : va_G) (cI cL : ClassId) (h h_kinds h_differences h_partsA h_partsB : Nat) (st : S_Events) (x1 : Int32) (res : Int64) (hf : f_Events_a st x1 = res) :
    FnR l D vwCl [(cI, .int), (cL, .long)] y_Events_a ws_Events_a { frames := 1, cells := 0, slots := 0, locals := 21 } [.ref h, .int x1] [(h, .inr (2, [.ref h_kinds, .ref h_differences, .ref h_partsA, .ref h_partsB, .int st.2.2.2.2])), (h_kinds, .inl (cI, 300, .inl st.1)), (h_differences, .inl (cL, 300, .inr (.inl st.2.1))), (h_partsA, .inl (cL, 300, .inr (.inl st.2.2.1))), (h_partsB, .inl (cI, 300, .inl st.2.2.2.1))] (some (.long res)) := by
  refine FnR.ofW (cc := b_Events_a) (maxL := 2) (ret := (some .long)) (by decide) rfl (Nat.le_of_ble_eq_true rfl) ?_
  intro p e s m below meth c A ls C hH hl
  have hl : lv_has ls 2 [(0, .ref h), (1, .int x1)] := hl
  obtain ⟨hx, hb, hr, hml, hown, hts, hlk, hK, hA⟩ := id C
  unfold f_Events_a at hf
  refine lv_aload_n hx hb d_Events_a_0 rfl (lv_at hl 0 rfl) ?_
  refine lv_iload_n hx hb d_Events_a_1 rfl (lv_at hl 1 rfl) ?_
  refine fnVR (rest := []) (st2 := [.int (bI (f_Events_has st x1))]) C (c_Events_has l D cI cL h h_kinds h_differences h_partsA h_partsB st x1 _ rfl) (cV hts kV_Events_has wd_196 ⟨Nat.le_of_ble_eq_true rfl, Nat.le_of_ble_eq_true rfl⟩) hH [0, 1, 2, 3, 4] rfl rfl 0 rfl rfl rfl hl.1 rfl (Nat.le_of_ble_eq_true rfl) d_Events_a_2 ⟨Nat.le_of_ble_eq_true rfl, Nat.le_of_ble_eq_true rfl⟩ rfl (fun H locs hH => ?_)
  refine lv_if_eq (tgt := 17) hx hb d_Events_a_5 (by decide) (fun hc5 => ?_) (fun hc5 => ?_)
  · have hf := ip hc5 hf
    refine lv_lconst (v := 0) hx hb d_Events_a_17 (by decide) ?_
    subst hf
    exact rJR (v := 0) C hH d_Events_a_18
  · have hf := im hc5 hf
    refine lv_aload_n hx hb d_Events_a_8 rfl (lv_at hl 0 rfl) ?_
    refine gt (ci := 2) (v := .ref h_partsA) C hH (iwT iw_Events) 0 rfl rfl 2 (by decide) (.tail _ wd_31) rfl d_Events_a_9 ?_
    refine lv_iload_n hx hb d_Events_a_12 rfl (lv_at hl 1 rfl) ?_
    refine all_ C hH 3 1 rfl rfl (has_in hc5) d_Events_a_13 ?_
    refine lv_goto (tgt := 18) hx hb d_Events_a_14 (by decide) ?_
    subst hf
    exact rJR (v := st.2.2.1 x1.toNatClampNeg) C hH d_Events_a_18
def f_Events_b (st : S_Events) (x1 : Int32) : Int32 :=
  if (bI (f_Events_has st x1)) = 0 then (0) else (st.2.2.2.1 x1.toNatClampNeg)
set_option maxRecDepth 100000 in
set_option maxHeartbeats 4000000 in
theorem c_Events_b (l : Launch) (D : va_G) (cI cL : ClassId) (h h_kinds h_differences h_partsA h_partsB : Nat) (st : S_Events) (x1 : Int32) (res : Int32) (hf : f_Events_b st x1 = res) :
    FnR l D vwCl [(cI, .int), (cL, .long)] y_Events_b ws_Events_b { frames := 1, cells := 0, slots := 0, locals := 21 } [.ref h, .int x1] [(h, .inr (2, [.ref h_kinds, .ref h_differences, .ref h_partsA, .ref h_partsB, .int st.2.2.2.2])), (h_kinds, .inl (cI, 300, .inl st.1)), (h_differences, .inl (cL, 300, .inr (.inl st.2.1))), (h_partsA, .inl (cL, 300, .inr (.inl st.2.2.1))), (h_partsB, .inl (cI, 300, .inl st.2.2.2.1))] (some (.int res)) := by
  refine FnR.ofW (cc := b_Events_b) (maxL := 2) (ret := (some .int)) (by decide) rfl (Nat.le_of_ble_eq_true rfl) ?_
  intro p e s m below meth c A ls C hH hl
  have hl : lv_has ls 2 [(0, .ref h), (1, .int x1)] := hl
  obtain ⟨hx, hb, hr, hml, hown, hts, hlk, hK, hA⟩ := id C
  unfold f_Events_b at hf
  refine lv_aload_n hx hb d_Events_b_0 rfl (lv_at hl 0 rfl) ?_
  refine lv_iload_n hx hb d_Events_b_1 rfl (lv_at hl 1 rfl) ?_
  refine fnVR (rest := []) (st2 := [.int (bI (f_Events_has st x1))]) C (c_Events_has l D cI cL h h_kinds h_differences h_partsA h_partsB st x1 _ rfl) (cV hts kV_Events_has wd_196 ⟨Nat.le_of_ble_eq_true rfl, Nat.le_of_ble_eq_true rfl⟩) hH [0, 1, 2, 3, 4] rfl rfl 0 rfl rfl rfl hl.1 rfl (Nat.le_of_ble_eq_true rfl) d_Events_b_2 ⟨Nat.le_of_ble_eq_true rfl, Nat.le_of_ble_eq_true rfl⟩ rfl (fun H locs hH => ?_)
  refine lv_if_eq (tgt := 17) hx hb d_Events_b_5 (by decide) (fun hc5 => ?_) (fun hc5 => ?_)
  · have hf := ip hc5 hf
    refine lv_iconst (v := 0) hx hb d_Events_b_17 (by decide) ?_
    subst hf
    exact rIR (v := 0) C hH d_Events_b_18
  · have hf := im hc5 hf
    refine lv_aload_n hx hb d_Events_b_8 rfl (lv_at hl 0 rfl) ?_
    refine gt (ci := 2) (v := .ref h_partsB) C hH (iwT iw_Events) 0 rfl rfl 3 (by decide) (.tail _ wd_32) rfl d_Events_b_9 ?_
    refine lv_iload_n hx hb d_Events_b_12 rfl (lv_at hl 1 rfl) ?_
    refine ali C hH 4 0 rfl rfl (has_in hc5) d_Events_b_13 ?_
    refine lv_goto (tgt := 18) hx hb d_Events_b_14 (by decide) ?_
    subst hf
    exact rIR (v := st.2.2.2.1 x1.toNatClampNeg) C hH d_Events_b_18
def f_Events_append (st : S_Events) (x1 : Int32) (x2 : Int64) (x4 : Int64) (x6 : Int32) : S_Events :=
  if st.2.2.2.2 < 0 then (st) else (if st.2.2.2.2 < (300 : Int32) then ((upd st.1 st.2.2.2.2.toNatClampNeg x1, vp_updL st.2.1 st.2.2.2.2.toNatClampNeg x2, vp_updL st.2.2.1 st.2.2.2.2.toNatClampNeg x4, upd st.2.2.2.1 st.2.2.2.2.toNatClampNeg x6, st.2.2.2.2 + 1)) else (st))
set_option maxRecDepth 100000 in
set_option maxHeartbeats 4000000 in
theorem c_Events_append (l : Launch) (D : va_G) (cI cL : ClassId) (h h_kinds h_differences h_partsA h_partsB : Nat) (st : S_Events) (x1 : Int32) (x2 : Int64) (x4 : Int64) (x6 : Int32) (res : S_Events) (hf : f_Events_append st x1 x2 x4 x6 = res) :
    Fn l D vwCl [(cI, .int), (cL, .long)] y_Events_append ws_Events_append { frames := 0, cells := 0, slots := 0, locals := 0 } [.ref h, .int x1, .long x2, .long x4, .int x6] [(h, .inr (2, [.ref h_kinds, .ref h_differences, .ref h_partsA, .ref h_partsB, .int st.2.2.2.2])), (h_kinds, .inl (cI, 300, .inl st.1)), (h_differences, .inl (cL, 300, .inr (.inl st.2.1))), (h_partsA, .inl (cL, 300, .inr (.inl st.2.2.1))), (h_partsB, .inl (cI, 300, .inl st.2.2.2.1))] (none) [(h, .inr (2, [.ref h_kinds, .ref h_differences, .ref h_partsA, .ref h_partsB, .int res.2.2.2.2])), (h_kinds, .inl (cI, 300, .inl res.1)), (h_differences, .inl (cL, 300, .inr (.inl res.2.1))), (h_partsA, .inl (cL, 300, .inr (.inl res.2.2.1))), (h_partsB, .inl (cI, 300, .inl res.2.2.2.1))] := by
  refine Fn.ofW (cc := b_Events_append) (maxL := 7) (ret := none) (by decide) rfl (Nat.le_of_ble_eq_true rfl) ?_
  intro p e s m below meth c A ls C hH hinit hl
  have hl : lv_has ls 7 [(0, .ref h), (1, .int x1), (2, .long x2), (4, .long x4), (6, .int x6)] := hl
  obtain ⟨hx, hb, hr, hml, hown, hts, hlk, hK, hA⟩ := id C
  unfold f_Events_append at hf
  refine lv_aload_n hx hb d_Events_append_0 rfl (lv_at hl 0 rfl) ?_
  refine gt (ci := 2) (v := .int st.2.2.2.2) C hH (iwT iw_Events) 0 rfl rfl 4 (by decide) (.tail _ wd_33) rfl d_Events_append_1 ?_
  refine lv_if_lt (tgt := 17) hx hb d_Events_append_4 (by decide) (fun hc4 => ?_) (fun hc4 => ?_)
  · have hf := ip hc4 hf
    subst hf
    exact rV C hH d_Events_append_17
  · have hf := im hc4 hf
    refine lv_aload_n hx hb d_Events_append_7 rfl (lv_at hl 0 rfl) ?_
    refine gt (ci := 2) (v := .int st.2.2.2.2) C hH (iwT iw_Events) 0 rfl rfl 4 (by decide) (.tail _ wd_33) rfl d_Events_append_8 ?_
    refine lv_sipush (v := 300) hx hb d_Events_append_11 (by decide) ?_
    refine lv_icmp_lt (tgt := 18) hx hb d_Events_append_14 (by decide) (fun hc14 => ?_) (fun hc14 => ?_)
    · have hf := ip hc14 hf
      refine lv_aload_n hx hb d_Events_append_18 rfl (lv_at hl 0 rfl) ?_
      refine gt (ci := 2) (v := .ref h_kinds) C hH (iwT iw_Events) 0 rfl rfl 0 (by decide) (.tail _ wd_29) rfl d_Events_append_19 ?_
      refine lv_aload_n hx hb d_Events_append_22 rfl (lv_at hl 0 rfl) ?_
      refine gt (ci := 2) (v := .int st.2.2.2.2) C hH (iwT iw_Events) 0 rfl rfl 4 (by decide) (.tail _ wd_33) rfl d_Events_append_23 ?_
      refine lv_iload_n hx hb d_Events_append_26 rfl (lv_at hl 1 rfl) ?_
      refine asi C hH 1 0 rfl rfl (vin300l hc4 hc14) d_Events_append_27 [(h, .inr (2, [.ref h_kinds, .ref h_differences, .ref h_partsA, .ref h_partsB, .int st.2.2.2.2])), (h_kinds, .inl (cI, 300, .inl (upd st.1 st.2.2.2.2.toNatClampNeg x1))), (h_differences, .inl (cL, 300, .inr (.inl st.2.1))), (h_partsA, .inl (cL, 300, .inr (.inl st.2.2.1))), (h_partsB, .inl (cI, 300, .inl st.2.2.2.1))] rfl (fun H locs hH => ?_)
      refine lv_aload_n hx hb d_Events_append_28 rfl (lv_at hl 0 rfl) ?_
      refine gt (ci := 2) (v := .ref h_differences) C hH (iwT iw_Events) 0 rfl rfl 1 (by decide) (.tail _ wd_30) rfl d_Events_append_29 ?_
      refine lv_aload_n hx hb d_Events_append_32 rfl (lv_at hl 0 rfl) ?_
      refine gt (ci := 2) (v := .int st.2.2.2.2) C hH (iwT iw_Events) 0 rfl rfl 4 (by decide) (.tail _ wd_33) rfl d_Events_append_33 ?_
      refine lv_lload_n hx hb d_Events_append_36 rfl (lv_at hl 2 rfl) ?_
      refine asl C hH 2 1 rfl rfl (vin300l hc4 hc14) d_Events_append_37 [(h, .inr (2, [.ref h_kinds, .ref h_differences, .ref h_partsA, .ref h_partsB, .int st.2.2.2.2])), (h_kinds, .inl (cI, 300, .inl (upd st.1 st.2.2.2.2.toNatClampNeg x1))), (h_differences, .inl (cL, 300, .inr (.inl (vp_updL st.2.1 st.2.2.2.2.toNatClampNeg x2)))), (h_partsA, .inl (cL, 300, .inr (.inl st.2.2.1))), (h_partsB, .inl (cI, 300, .inl st.2.2.2.1))] rfl (fun H locs hH => ?_)
      refine lv_aload_n hx hb d_Events_append_38 rfl (lv_at hl 0 rfl) ?_
      refine gt (ci := 2) (v := .ref h_partsA) C hH (iwT iw_Events) 0 rfl rfl 2 (by decide) (.tail _ wd_31) rfl d_Events_append_39 ?_
      refine lv_aload_n hx hb d_Events_append_42 rfl (lv_at hl 0 rfl) ?_
      refine gt (ci := 2) (v := .int st.2.2.2.2) C hH (iwT iw_Events) 0 rfl rfl 4 (by decide) (.tail _ wd_33) rfl d_Events_append_43 ?_
      refine lv_lload hx hb d_Events_append_46 (lv_at hl 3 rfl) ?_
      refine asl C hH 3 1 rfl rfl (vin300l hc4 hc14) d_Events_append_48 [(h, .inr (2, [.ref h_kinds, .ref h_differences, .ref h_partsA, .ref h_partsB, .int st.2.2.2.2])), (h_kinds, .inl (cI, 300, .inl (upd st.1 st.2.2.2.2.toNatClampNeg x1))), (h_differences, .inl (cL, 300, .inr (.inl (vp_updL st.2.1 st.2.2.2.2.toNatClampNeg x2)))), (h_partsA, .inl (cL, 300, .inr (.inl (vp_updL st.2.2.1 st.2.2.2.2.toNatClampNeg x4)))), (h_partsB, .inl (cI, 300, .inl st.2.2.2.1))] rfl (fun H locs hH => ?_)
      refine lv_aload_n hx hb d_Events_append_49 rfl (lv_at hl 0 rfl) ?_
      refine gt (ci := 2) (v := .ref h_partsB) C hH (iwT iw_Events) 0 rfl rfl 3 (by decide) (.tail _ wd_32) rfl d_Events_append_50 ?_
      refine lv_aload_n hx hb d_Events_append_53 rfl (lv_at hl 0 rfl) ?_
      refine gt (ci := 2) (v := .int st.2.2.2.2) C hH (iwT iw_Events) 0 rfl rfl 4 (by decide) (.tail _ wd_33) rfl d_Events_append_54 ?_
      refine lv_iload hx hb d_Events_append_57 (lv_at hl 4 rfl) ?_
      refine asi C hH 4 0 rfl rfl (vin300l hc4 hc14) d_Events_append_59 [(h, .inr (2, [.ref h_kinds, .ref h_differences, .ref h_partsA, .ref h_partsB, .int st.2.2.2.2])), (h_kinds, .inl (cI, 300, .inl (upd st.1 st.2.2.2.2.toNatClampNeg x1))), (h_differences, .inl (cL, 300, .inr (.inl (vp_updL st.2.1 st.2.2.2.2.toNatClampNeg x2)))), (h_partsA, .inl (cL, 300, .inr (.inl (vp_updL st.2.2.1 st.2.2.2.2.toNatClampNeg x4)))), (h_partsB, .inl (cI, 300, .inl (upd st.2.2.2.1 st.2.2.2.2.toNatClampNeg x6)))] rfl (fun H locs hH => ?_)
      refine lv_aload_n hx hb d_Events_append_60 rfl (lv_at hl 0 rfl) ?_
      refine lv_dup hx hb d_Events_append_61 rfl ?_
      refine gt (ci := 2) (v := .int st.2.2.2.2) C hH (iwT iw_Events) 0 rfl rfl 4 (by decide) (.tail _ wd_33) rfl d_Events_append_62 ?_
      refine lv_iconst (v := 1) hx hb d_Events_append_65 (by decide) ?_
      refine lv_iadd hx hb d_Events_append_66 ?_
      refine pt (ci := 2) (v := .int (st.2.2.2.2 + 1)) C hH (iwT iw_Events) ty_Events tyok_Events nm_Events 0 rfl rfl 4 (by decide) (.tail _ wd_33) rfl rfl rfl (Nat.le_of_ble_eq_true rfl) d_Events_append_67 [(h, .inr (2, [.ref h_kinds, .ref h_differences, .ref h_partsA, .ref h_partsB, .int (st.2.2.2.2 + 1)])), (h_kinds, .inl (cI, 300, .inl (upd st.1 st.2.2.2.2.toNatClampNeg x1))), (h_differences, .inl (cL, 300, .inr (.inl (vp_updL st.2.1 st.2.2.2.2.toNatClampNeg x2)))), (h_partsA, .inl (cL, 300, .inr (.inl (vp_updL st.2.2.1 st.2.2.2.2.toNatClampNeg x4)))), (h_partsB, .inl (cI, 300, .inl (upd st.2.2.2.1 st.2.2.2.2.toNatClampNeg x6)))] rfl (fun H locs hH => ?_)
      subst hf
      exact rV C hH d_Events_append_70
    · have hf := im hc14 hf
      subst hf
      exact rV C hH d_Events_append_17
def f_Events_keepFirst (st : S_Events) (x1 : Int32) : S_Events :=
  if x1 < 0 then (st) else (if st.2.2.2.2 ≤ x1 then (st) else ((st.1, st.2.1, st.2.2.1, st.2.2.2.1, x1)))
set_option maxRecDepth 100000 in
set_option maxHeartbeats 4000000 in
theorem c_Events_keepFirst (l : Launch) (D : va_G) (cI cL : ClassId) (h h_kinds h_differences h_partsA h_partsB : Nat) (st : S_Events) (x1 : Int32) (res : S_Events) (hf : f_Events_keepFirst st x1 = res) :
    Fn l D vwCl [(cI, .int), (cL, .long)] y_Events_keepFirst ws_Events_keepFirst { frames := 0, cells := 0, slots := 0, locals := 0 } [.ref h, .int x1] [(h, .inr (2, [.ref h_kinds, .ref h_differences, .ref h_partsA, .ref h_partsB, .int st.2.2.2.2])), (h_kinds, .inl (cI, 300, .inl st.1)), (h_differences, .inl (cL, 300, .inr (.inl st.2.1))), (h_partsA, .inl (cL, 300, .inr (.inl st.2.2.1))), (h_partsB, .inl (cI, 300, .inl st.2.2.2.1))] (none) [(h, .inr (2, [.ref h_kinds, .ref h_differences, .ref h_partsA, .ref h_partsB, .int res.2.2.2.2])), (h_kinds, .inl (cI, 300, .inl res.1)), (h_differences, .inl (cL, 300, .inr (.inl res.2.1))), (h_partsA, .inl (cL, 300, .inr (.inl res.2.2.1))), (h_partsB, .inl (cI, 300, .inl res.2.2.2.1))] := by
  refine Fn.ofW (cc := b_Events_keepFirst) (maxL := 2) (ret := none) (by decide) rfl (Nat.le_of_ble_eq_true rfl) ?_
  intro p e s m below meth c A ls C hH hinit hl
  have hl : lv_has ls 2 [(0, .ref h), (1, .int x1)] := hl
  obtain ⟨hx, hb, hr, hml, hown, hts, hlk, hK, hA⟩ := id C
  unfold f_Events_keepFirst at hf
  refine lv_iload_n hx hb d_Events_keepFirst_0 rfl (lv_at hl 1 rfl) ?_
  refine lv_if_lt (tgt := 17) hx hb d_Events_keepFirst_1 (by decide) (fun hc1 => ?_) (fun hc1 => ?_)
  · have hf := ip hc1 hf
    subst hf
    exact rV C hH d_Events_keepFirst_17
  · have hf := im hc1 hf
    refine lv_iload_n hx hb d_Events_keepFirst_4 rfl (lv_at hl 1 rfl) ?_
    refine lv_aload_n hx hb d_Events_keepFirst_5 rfl (lv_at hl 0 rfl) ?_
    refine gt (ci := 2) (v := .int st.2.2.2.2) C hH (iwT iw_Events) 0 rfl rfl 4 (by decide) (.tail _ wd_33) rfl d_Events_keepFirst_6 ?_
    refine lv_icmp_ge (tgt := 17) hx hb d_Events_keepFirst_9 (by decide) (fun hc9 => ?_) (fun hc9 => ?_)
    · have hf := ip hc9 hf
      subst hf
      exact rV C hH d_Events_keepFirst_17
    · have hf := im hc9 hf
      refine lv_aload_n hx hb d_Events_keepFirst_12 rfl (lv_at hl 0 rfl) ?_
      refine lv_iload_n hx hb d_Events_keepFirst_13 rfl (lv_at hl 1 rfl) ?_
      refine pt (ci := 2) (v := .int x1) C hH (iwT iw_Events) ty_Events tyok_Events nm_Events 0 rfl rfl 4 (by decide) (.tail _ wd_33) rfl rfl rfl (Nat.le_of_ble_eq_true rfl) d_Events_keepFirst_14 [(h, .inr (2, [.ref h_kinds, .ref h_differences, .ref h_partsA, .ref h_partsB, .int x1])), (h_kinds, .inl (cI, 300, .inl st.1)), (h_differences, .inl (cL, 300, .inr (.inl st.2.1))), (h_partsA, .inl (cL, 300, .inr (.inl st.2.2.1))), (h_partsB, .inl (cI, 300, .inl st.2.2.2.1))] rfl (fun H locs hH => ?_)
      subst hf
      exact rV C hH d_Events_keepFirst_17
def f_Events_bringTheSame (st : S_Events) (x1 : Int32) (x2 : Int32) : Bool :=
  if (bI (f_Events_has st x1)) = 0 then (false) else (if (bI (f_Events_has st x2)) = 0 then (false) else (if (st.1 x1.toNatClampNeg) = (st.1 x2.toNatClampNeg) then (if (lg_cmp (st.2.2.1 x1.toNatClampNeg) (st.2.2.1 x2.toNatClampNeg)) = 0 then (if (st.2.2.2.1 x1.toNatClampNeg) = (st.2.2.2.1 x2.toNatClampNeg) then (true) else (false)) else (false)) else (false)))
set_option maxRecDepth 100000 in
set_option maxHeartbeats 4000000 in
theorem c_Events_bringTheSame (l : Launch) (D : va_G) (cI cL : ClassId) (h h_kinds h_differences h_partsA h_partsB : Nat) (st : S_Events) (x1 : Int32) (x2 : Int32) (res : Bool) (hf : f_Events_bringTheSame st x1 x2 = res) :
    FnR l D vwCl [(cI, .int), (cL, .long)] y_Events_bringTheSame ws_Events_bringTheSame { frames := 1, cells := 0, slots := 0, locals := 21 } [.ref h, .int x1, .int x2] [(h, .inr (2, [.ref h_kinds, .ref h_differences, .ref h_partsA, .ref h_partsB, .int st.2.2.2.2])), (h_kinds, .inl (cI, 300, .inl st.1)), (h_differences, .inl (cL, 300, .inr (.inl st.2.1))), (h_partsA, .inl (cL, 300, .inr (.inl st.2.2.1))), (h_partsB, .inl (cI, 300, .inl st.2.2.2.1))] (some (.int (bI res))) := by
  refine FnR.ofW (cc := b_Events_bringTheSame) (maxL := 3) (ret := (some .boolean)) (by decide) rfl (Nat.le_of_ble_eq_true rfl) ?_
  intro p e s m below meth c A ls C hH hl
  have hl : lv_has ls 3 [(0, .ref h), (1, .int x1), (2, .int x2)] := hl
  obtain ⟨hx, hb, hr, hml, hown, hts, hlk, hK, hA⟩ := id C
  unfold f_Events_bringTheSame at hf
  refine lv_aload_n hx hb d_Events_bringTheSame_0 rfl (lv_at hl 0 rfl) ?_
  refine lv_iload_n hx hb d_Events_bringTheSame_1 rfl (lv_at hl 1 rfl) ?_
  refine fnVR (rest := []) (st2 := [.int (bI (f_Events_has st x1))]) C (c_Events_has l D cI cL h h_kinds h_differences h_partsA h_partsB st x1 _ rfl) (cV hts kV_Events_has wd_196 ⟨Nat.le_of_ble_eq_true rfl, Nat.le_of_ble_eq_true rfl⟩) hH [0, 1, 2, 3, 4] rfl rfl 0 rfl rfl rfl hl.1 rfl (Nat.le_of_ble_eq_true rfl) d_Events_bringTheSame_2 ⟨Nat.le_of_ble_eq_true rfl, Nat.le_of_ble_eq_true rfl⟩ rfl (fun H locs hH => ?_)
  refine lv_if_eq (tgt := 66) hx hb d_Events_bringTheSame_5 (by decide) (fun hc5 => ?_) (fun hc5 => ?_)
  · have hf := ip hc5 hf
    refine lv_iconst (v := 0) hx hb d_Events_bringTheSame_66 (by decide) ?_
    subst hf
    exact rZR (v := false) C hH d_Events_bringTheSame_67
  · have hf := im hc5 hf
    refine lv_aload_n hx hb d_Events_bringTheSame_8 rfl (lv_at hl 0 rfl) ?_
    refine lv_iload_n hx hb d_Events_bringTheSame_9 rfl (lv_at hl 2 rfl) ?_
    refine fnVR (rest := []) (st2 := [.int (bI (f_Events_has st x2))]) C (c_Events_has l D cI cL h h_kinds h_differences h_partsA h_partsB st x2 _ rfl) (cV hts kV_Events_has wd_196 ⟨Nat.le_of_ble_eq_true rfl, Nat.le_of_ble_eq_true rfl⟩) hH [0, 1, 2, 3, 4] rfl rfl 0 rfl rfl rfl hl.1 rfl (Nat.le_of_ble_eq_true rfl) d_Events_bringTheSame_10 ⟨Nat.le_of_ble_eq_true rfl, Nat.le_of_ble_eq_true rfl⟩ rfl (fun H locs hH => ?_)
    refine lv_if_eq (tgt := 66) hx hb d_Events_bringTheSame_13 (by decide) (fun hc13 => ?_) (fun hc13 => ?_)
    · have hf := ip hc13 hf
      refine lv_iconst (v := 0) hx hb d_Events_bringTheSame_66 (by decide) ?_
      subst hf
      exact rZR (v := false) C hH d_Events_bringTheSame_67
    · have hf := im hc13 hf
      refine lv_aload_n hx hb d_Events_bringTheSame_16 rfl (lv_at hl 0 rfl) ?_
      refine gt (ci := 2) (v := .ref h_kinds) C hH (iwT iw_Events) 0 rfl rfl 0 (by decide) (.tail _ wd_29) rfl d_Events_bringTheSame_17 ?_
      refine lv_iload_n hx hb d_Events_bringTheSame_20 rfl (lv_at hl 1 rfl) ?_
      refine ali C hH 1 0 rfl rfl (has_in hc5) d_Events_bringTheSame_21 ?_
      refine lv_aload_n hx hb d_Events_bringTheSame_22 rfl (lv_at hl 0 rfl) ?_
      refine gt (ci := 2) (v := .ref h_kinds) C hH (iwT iw_Events) 0 rfl rfl 0 (by decide) (.tail _ wd_29) rfl d_Events_bringTheSame_23 ?_
      refine lv_iload_n hx hb d_Events_bringTheSame_26 rfl (lv_at hl 2 rfl) ?_
      refine ali C hH 1 0 rfl rfl (has_in hc13) d_Events_bringTheSame_27 ?_
      refine lv_icmp_ne (tgt := 66) hx hb d_Events_bringTheSame_28 (by decide) (fun hc28 => ?_) (fun hc28 => ?_)
      · have hf := im hc28 hf
        refine lv_iconst (v := 0) hx hb d_Events_bringTheSame_66 (by decide) ?_
        subst hf
        exact rZR (v := false) C hH d_Events_bringTheSame_67
      · have hf := ip hc28 hf
        refine lv_aload_n hx hb d_Events_bringTheSame_31 rfl (lv_at hl 0 rfl) ?_
        refine gt (ci := 2) (v := .ref h_partsA) C hH (iwT iw_Events) 0 rfl rfl 2 (by decide) (.tail _ wd_31) rfl d_Events_bringTheSame_32 ?_
        refine lv_iload_n hx hb d_Events_bringTheSame_35 rfl (lv_at hl 1 rfl) ?_
        refine all_ C hH 3 1 rfl rfl (has_in hc5) d_Events_bringTheSame_36 ?_
        refine lv_aload_n hx hb d_Events_bringTheSame_37 rfl (lv_at hl 0 rfl) ?_
        refine gt (ci := 2) (v := .ref h_partsA) C hH (iwT iw_Events) 0 rfl rfl 2 (by decide) (.tail _ wd_31) rfl d_Events_bringTheSame_38 ?_
        refine lv_iload_n hx hb d_Events_bringTheSame_41 rfl (lv_at hl 2 rfl) ?_
        refine all_ C hH 3 1 rfl rfl (has_in hc13) d_Events_bringTheSame_42 ?_
        refine W.lcmp hx hb d_Events_bringTheSame_43 ?_
        refine lv_if_ne (tgt := 66) hx hb d_Events_bringTheSame_44 (by decide) (fun hc44 => ?_) (fun hc44 => ?_)
        · have hf := im hc44 hf
          refine lv_iconst (v := 0) hx hb d_Events_bringTheSame_66 (by decide) ?_
          subst hf
          exact rZR (v := false) C hH d_Events_bringTheSame_67
        · have hf := ip hc44 hf
          refine lv_aload_n hx hb d_Events_bringTheSame_47 rfl (lv_at hl 0 rfl) ?_
          refine gt (ci := 2) (v := .ref h_partsB) C hH (iwT iw_Events) 0 rfl rfl 3 (by decide) (.tail _ wd_32) rfl d_Events_bringTheSame_48 ?_
          refine lv_iload_n hx hb d_Events_bringTheSame_51 rfl (lv_at hl 1 rfl) ?_
          refine ali C hH 4 0 rfl rfl (has_in hc5) d_Events_bringTheSame_52 ?_
          refine lv_aload_n hx hb d_Events_bringTheSame_53 rfl (lv_at hl 0 rfl) ?_
          refine gt (ci := 2) (v := .ref h_partsB) C hH (iwT iw_Events) 0 rfl rfl 3 (by decide) (.tail _ wd_32) rfl d_Events_bringTheSame_54 ?_
          refine lv_iload_n hx hb d_Events_bringTheSame_57 rfl (lv_at hl 2 rfl) ?_
          refine ali C hH 4 0 rfl rfl (has_in hc13) d_Events_bringTheSame_58 ?_
          refine lv_icmp_ne (tgt := 66) hx hb d_Events_bringTheSame_59 (by decide) (fun hc59 => ?_) (fun hc59 => ?_)
          · have hf := im hc59 hf
            refine lv_iconst (v := 0) hx hb d_Events_bringTheSame_66 (by decide) ?_
            subst hf
            exact rZR (v := false) C hH d_Events_bringTheSame_67
          · have hf := ip hc59 hf
            refine lv_iconst (v := 1) hx hb d_Events_bringTheSame_62 (by decide) ?_
            refine lv_goto (tgt := 67) hx hb d_Events_bringTheSame_63 (by decide) ?_
            subst hf
            exact rZR (v := true) C hH d_Events_bringTheSame_67
def f_Events_hasDifferenceBefore (st : S_Events) (x1 : Int32) : Bool :=
  if (lg_cmp (f_Events_difference st x1) (f_Events_difference st (x1 - 1))) = 0 then (true) else (false)
set_option maxRecDepth 100000 in
set_option maxHeartbeats 4000000 in
theorem c_Events_hasDifferenceBefore (l : Launch) (D : va_G) (cI cL : ClassId) (h h_kinds h_differences h_partsA h_partsB : Nat) (st : S_Events) (x1 : Int32) (res : Bool) (hf : f_Events_hasDifferenceBefore st x1 = res) :
    FnR l D vwCl [(cI, .int), (cL, .long)] y_Events_hasDifferenceBefore ws_Events_hasDifferenceBefore { frames := 2, cells := 0, slots := 0, locals := 42 } [.ref h, .int x1] [(h, .inr (2, [.ref h_kinds, .ref h_differences, .ref h_partsA, .ref h_partsB, .int st.2.2.2.2])), (h_kinds, .inl (cI, 300, .inl st.1)), (h_differences, .inl (cL, 300, .inr (.inl st.2.1))), (h_partsA, .inl (cL, 300, .inr (.inl st.2.2.1))), (h_partsB, .inl (cI, 300, .inl st.2.2.2.1))] (some (.int (bI res))) := by
  refine FnR.ofW (cc := b_Events_hasDifferenceBefore) (maxL := 2) (ret := (some .boolean)) (by decide) rfl (Nat.le_of_ble_eq_true rfl) ?_
  intro p e s m below meth c A ls C hH hl
  have hl : lv_has ls 2 [(0, .ref h), (1, .int x1)] := hl
  obtain ⟨hx, hb, hr, hml, hown, hts, hlk, hK, hA⟩ := id C
  unfold f_Events_hasDifferenceBefore at hf
  refine lv_aload_n hx hb d_Events_hasDifferenceBefore_0 rfl (lv_at hl 0 rfl) ?_
  refine lv_iload_n hx hb d_Events_hasDifferenceBefore_1 rfl (lv_at hl 1 rfl) ?_
  refine fnVR (rest := []) (st2 := [.long (f_Events_difference st x1)]) C (c_Events_difference l D cI cL h h_kinds h_differences h_partsA h_partsB st x1 _ rfl) (cV hts kV_Events_difference wd_192 ⟨Nat.le_of_ble_eq_true rfl, Nat.le_of_ble_eq_true rfl⟩) hH [0, 1, 2, 3, 4] rfl rfl 0 rfl rfl rfl hl.1 rfl (Nat.le_of_ble_eq_true rfl) d_Events_hasDifferenceBefore_2 ⟨Nat.le_of_ble_eq_true rfl, Nat.le_of_ble_eq_true rfl⟩ rfl (fun H locs hH => ?_)
  refine lv_aload_n hx hb d_Events_hasDifferenceBefore_5 rfl (lv_at hl 0 rfl) ?_
  refine lv_iload_n hx hb d_Events_hasDifferenceBefore_6 rfl (lv_at hl 1 rfl) ?_
  refine lv_iconst (v := 1) hx hb d_Events_hasDifferenceBefore_7 (by decide) ?_
  refine lv_isub hx hb d_Events_hasDifferenceBefore_8 ?_
  refine fnVR (rest := [.long (f_Events_difference st x1)]) (st2 := [.long (f_Events_difference st (x1 - 1)), .long (f_Events_difference st x1)]) C (c_Events_difference l D cI cL h h_kinds h_differences h_partsA h_partsB st (x1 - 1) _ rfl) (cV hts kV_Events_difference wd_192 ⟨Nat.le_of_ble_eq_true rfl, Nat.le_of_ble_eq_true rfl⟩) hH [0, 1, 2, 3, 4] rfl rfl 0 rfl rfl rfl hl.1 rfl (Nat.le_of_ble_eq_true rfl) d_Events_hasDifferenceBefore_9 ⟨Nat.le_of_ble_eq_true rfl, Nat.le_of_ble_eq_true rfl⟩ rfl (fun H locs hH => ?_)
  refine W.lcmp hx hb d_Events_hasDifferenceBefore_12 ?_
  refine lv_if_ne (tgt := 20) hx hb d_Events_hasDifferenceBefore_13 (by decide) (fun hc13 => ?_) (fun hc13 => ?_)
  · have hf := im hc13 hf
    refine lv_iconst (v := 0) hx hb d_Events_hasDifferenceBefore_20 (by decide) ?_
    subst hf
    exact rZR (v := false) C hH d_Events_hasDifferenceBefore_21
  · have hf := ip hc13 hf
    refine lv_iconst (v := 1) hx hb d_Events_hasDifferenceBefore_16 (by decide) ?_
    refine lv_goto (tgt := 21) hx hb d_Events_hasDifferenceBefore_17 (by decide) ?_
    subst hf
    exact rZR (v := true) C hH d_Events_hasDifferenceBefore_21
def f_Events_isLikeBefore (st : S_Events) (x1 : Int32) : Bool :=
  if (bI (f_Events_hasDifferenceBefore st x1)) = 0 then (false) else (if (bI (f_Events_bringTheSame st x1 (x1 - 1))) = 0 then (false) else (true))
set_option maxRecDepth 100000 in
set_option maxHeartbeats 4000000 in
theorem c_Events_isLikeBefore (l : Launch) (D : va_G) (cI cL : ClassId) (h h_kinds h_differences h_partsA h_partsB : Nat) (st : S_Events) (x1 : Int32) (res : Bool) (hf : f_Events_isLikeBefore st x1 = res) :
    FnR l D vwCl [(cI, .int), (cL, .long)] y_Events_isLikeBefore ws_Events_isLikeBefore { frames := 3, cells := 0, slots := 0, locals := 63 } [.ref h, .int x1] [(h, .inr (2, [.ref h_kinds, .ref h_differences, .ref h_partsA, .ref h_partsB, .int st.2.2.2.2])), (h_kinds, .inl (cI, 300, .inl st.1)), (h_differences, .inl (cL, 300, .inr (.inl st.2.1))), (h_partsA, .inl (cL, 300, .inr (.inl st.2.2.1))), (h_partsB, .inl (cI, 300, .inl st.2.2.2.1))] (some (.int (bI res))) := by
  refine FnR.ofW (cc := b_Events_isLikeBefore) (maxL := 2) (ret := (some .boolean)) (by decide) rfl (Nat.le_of_ble_eq_true rfl) ?_
  intro p e s m below meth c A ls C hH hl
  have hl : lv_has ls 2 [(0, .ref h), (1, .int x1)] := hl
  obtain ⟨hx, hb, hr, hml, hown, hts, hlk, hK, hA⟩ := id C
  unfold f_Events_isLikeBefore at hf
  refine lv_aload_n hx hb d_Events_isLikeBefore_0 rfl (lv_at hl 0 rfl) ?_
  refine lv_iload_n hx hb d_Events_isLikeBefore_1 rfl (lv_at hl 1 rfl) ?_
  refine fnVR (rest := []) (st2 := [.int (bI (f_Events_hasDifferenceBefore st x1))]) C (c_Events_hasDifferenceBefore l D cI cL h h_kinds h_differences h_partsA h_partsB st x1 _ rfl) (cV hts kV_Events_hasDifferenceBefore wd_188 ⟨Nat.le_of_ble_eq_true rfl, Nat.le_of_ble_eq_true rfl⟩) hH [0, 1, 2, 3, 4] rfl rfl 0 rfl rfl rfl hl.1 rfl (Nat.le_of_ble_eq_true rfl) d_Events_isLikeBefore_2 ⟨Nat.le_of_ble_eq_true rfl, Nat.le_of_ble_eq_true rfl⟩ rfl (fun H locs hH => ?_)
  refine lv_if_eq (tgt := 23) hx hb d_Events_isLikeBefore_5 (by decide) (fun hc5 => ?_) (fun hc5 => ?_)
  · have hf := ip hc5 hf
    refine lv_iconst (v := 0) hx hb d_Events_isLikeBefore_23 (by decide) ?_
    subst hf
    exact rZR (v := false) C hH d_Events_isLikeBefore_24
  · have hf := im hc5 hf
    refine lv_aload_n hx hb d_Events_isLikeBefore_8 rfl (lv_at hl 0 rfl) ?_
    refine lv_iload_n hx hb d_Events_isLikeBefore_9 rfl (lv_at hl 1 rfl) ?_
    refine lv_iload_n hx hb d_Events_isLikeBefore_10 rfl (lv_at hl 1 rfl) ?_
    refine lv_iconst (v := 1) hx hb d_Events_isLikeBefore_11 (by decide) ?_
    refine lv_isub hx hb d_Events_isLikeBefore_12 ?_
    refine fnVR (rest := []) (st2 := [.int (bI (f_Events_bringTheSame st x1 (x1 - 1)))]) C (c_Events_bringTheSame l D cI cL h h_kinds h_differences h_partsA h_partsB st x1 (x1 - 1) _ rfl) (cV hts kV_Events_bringTheSame wd_200 ⟨Nat.le_of_ble_eq_true rfl, Nat.le_of_ble_eq_true rfl⟩) hH [0, 1, 2, 3, 4] rfl rfl 0 rfl rfl rfl hl.1 rfl (Nat.le_of_ble_eq_true rfl) d_Events_isLikeBefore_13 ⟨Nat.le_of_ble_eq_true rfl, Nat.le_of_ble_eq_true rfl⟩ rfl (fun H locs hH => ?_)
    refine lv_if_eq (tgt := 23) hx hb d_Events_isLikeBefore_16 (by decide) (fun hc16 => ?_) (fun hc16 => ?_)
    · have hf := ip hc16 hf
      refine lv_iconst (v := 0) hx hb d_Events_isLikeBefore_23 (by decide) ?_
      subst hf
      exact rZR (v := false) C hH d_Events_isLikeBefore_24
    · have hf := im hc16 hf
      refine lv_iconst (v := 1) hx hb d_Events_isLikeBefore_19 (by decide) ?_
      refine lv_goto (tgt := 24) hx hb d_Events_isLikeBefore_20 (by decide) ?_
      subst hf
      exact rZR (v := true) C hH d_Events_isLikeBefore_24
def f_Events_sumUpTo_b5 : Nat → S_Events → Int32 → Int64 → Int32 → Option (Int64)
  | 0, _, _, _, _ => none
  | n + 1, st, x1, x2, x4 =>
  if x1 < x4 then (some x2) else (if st.2.2.2.2 ≤ x4 then (some x2) else (f_Events_sumUpTo_b5 n st x1 (x2 + (f_Events_difference st x4)) (x4 + 1)))
set_option maxRecDepth 100000 in
set_option maxHeartbeats 4000000 in
theorem w_Events_sumUpTo_b5 (l : Launch) (D : va_G) (cI cL : ClassId) (h h_kinds h_differences h_partsA h_partsB : Nat) {p : Program} {e : Env} {s : State} {m : MethodId} {args : Array Value} {below : List Frame} {meth : Method} {c : Code} {A : Nat → Prop} (C : Cx p s m args meth c D vwCl [(cI, .int), (cL, .long)] A b_Events_sumUpTo 5 (some .long) ws_Events_sumUpTo y_Events_sumUpTo.cls) : ∀ (n : Nat) (st : S_Events) (x1 : Int32) (x2 : Int64) (x4 : Int32) (res : Int64), f_Events_sumUpTo_b5 n st x1 x2 x4 = some res → ∀ (H : Heap) (locs : List Loc) (ls : Array Slot), Hp D vwCl (fun _ => True) A s.heap H locs [(h, .inr (2, [.ref h_kinds, .ref h_differences, .ref h_partsA, .ref h_partsB, .int st.2.2.2.2])), (h_kinds, .inl (cI, 300, .inl st.1)), (h_differences, .inl (cL, 300, .inr (.inl st.2.1))), (h_partsA, .inl (cL, 300, .inr (.inl st.2.2.1))), (h_partsB, .inl (cI, 300, .inl st.2.2.2.1))] → lv_has ls 5 [(0, .ref h), (1, .int x1), (2, .long x2), (4, .int x4)] → W p l e { frames := 2, cells := 0, slots := 0, locals := 42 } s m args below meth c H locs 0 0 (MQ below (QR (some (.long res)) A) args s 0 0 A) (F0 m 5 ls []) := by
  obtain ⟨hx, hb, hr, hml, hown, hts, hlk, hK, hA⟩ := id C
  intro n
  induction n with
  | zero => intro st x1 x2 x4 res hf; cases hf
  | succ n ih =>
    intro st x1 x2 x4 res hf H locs ls hH hl
    rw [f_Events_sumUpTo_b5] at hf
    refine lv_iload hx hb d_Events_sumUpTo_5 (lv_at hl 3 rfl) ?_
    refine lv_iload_n hx hb d_Events_sumUpTo_7 rfl (lv_at hl 1 rfl) ?_
    refine lv_icmp_gt (tgt := 35) hx hb d_Events_sumUpTo_8 (by decide) (fun hc8 => ?_) (fun hc8 => ?_)
    · have hf := ip hc8 hf
      refine lv_lload_n hx hb d_Events_sumUpTo_35 rfl (lv_at hl 2 rfl) ?_
      have hf := Option.some.inj hf
      subst hf
      exact rJR (v := x2) C hH d_Events_sumUpTo_36
    · have hf := im hc8 hf
      refine lv_iload hx hb d_Events_sumUpTo_11 (lv_at hl 3 rfl) ?_
      refine lv_aload_n hx hb d_Events_sumUpTo_13 rfl (lv_at hl 0 rfl) ?_
      refine gt (ci := 2) (v := .int st.2.2.2.2) C hH (iwT iw_Events) 0 rfl rfl 4 (by decide) (.tail _ wd_33) rfl d_Events_sumUpTo_14 ?_
      refine lv_icmp_ge (tgt := 35) hx hb d_Events_sumUpTo_17 (by decide) (fun hc17 => ?_) (fun hc17 => ?_)
      · have hf := ip hc17 hf
        refine lv_lload_n hx hb d_Events_sumUpTo_35 rfl (lv_at hl 2 rfl) ?_
        have hf := Option.some.inj hf
        subst hf
        exact rJR (v := x2) C hH d_Events_sumUpTo_36
      · have hf := im hc17 hf
        refine lv_lload_n hx hb d_Events_sumUpTo_20 rfl (lv_at hl 2 rfl) ?_
        refine lv_aload_n hx hb d_Events_sumUpTo_21 rfl (lv_at hl 0 rfl) ?_
        refine lv_iload hx hb d_Events_sumUpTo_22 (lv_at hl 3 rfl) ?_
        refine fnVR (rest := [.long x2]) (st2 := [.long (f_Events_difference st x4), .long x2]) C (c_Events_difference l D cI cL h h_kinds h_differences h_partsA h_partsB st x4 _ rfl) (cV hts kV_Events_difference wd_192 ⟨Nat.le_of_ble_eq_true rfl, Nat.le_of_ble_eq_true rfl⟩) hH [0, 1, 2, 3, 4] rfl rfl 0 rfl rfl rfl hl.1 rfl (Nat.le_of_ble_eq_true rfl) d_Events_sumUpTo_24 ⟨Nat.le_of_ble_eq_true rfl, Nat.le_of_ble_eq_true rfl⟩ rfl (fun H locs hH => ?_)
        refine lv_ladd hx hb d_Events_sumUpTo_27 ?_
        refine lv_lstore_n (lv' := [(2, .long (x2 + (f_Events_difference st x4))), (0, .ref h), (1, .int x1), (4, .int x4)]) hx hb d_Events_sumUpTo_28 rfl hl (by decide) rfl (fun ls hl => ?_)
        refine lv_iinc (v := x4 + 1) (lv' := [(4, .int (x4 + 1)), (2, .long (x2 + (f_Events_difference st x4))), (0, .ref h), (1, .int x1)]) hx hb d_Events_sumUpTo_29 hl (k := 3) rfl rfl (by decide) rfl (fun ls hl => ?_)
        refine lv_goto (tgt := 5) hx hb d_Events_sumUpTo_32 (by decide) ?_
        exact ih st x1 (x2 + (f_Events_difference st x4)) (x4 + 1) res hf _ _ _ hH (lv_sub hl [2, 3, 1, 0] rfl)
def f_Events_sumUpTo (st : S_Events) (x1 : Int32) : Option (Int64) :=
  f_Events_sumUpTo_b5 400 st x1 0 0
set_option maxRecDepth 100000 in
set_option maxHeartbeats 4000000 in
theorem c_Events_sumUpTo (l : Launch) (D : va_G) (cI cL : ClassId) (h h_kinds h_differences h_partsA h_partsB : Nat) (st : S_Events) (x1 : Int32) (res : Int64) (hf : f_Events_sumUpTo st x1 = some res) :
    FnR l D vwCl [(cI, .int), (cL, .long)] y_Events_sumUpTo ws_Events_sumUpTo { frames := 2, cells := 0, slots := 0, locals := 42 } [.ref h, .int x1] [(h, .inr (2, [.ref h_kinds, .ref h_differences, .ref h_partsA, .ref h_partsB, .int st.2.2.2.2])), (h_kinds, .inl (cI, 300, .inl st.1)), (h_differences, .inl (cL, 300, .inr (.inl st.2.1))), (h_partsA, .inl (cL, 300, .inr (.inl st.2.2.1))), (h_partsB, .inl (cI, 300, .inl st.2.2.2.1))] (some (.long res)) := by
  refine FnR.ofW (cc := b_Events_sumUpTo) (maxL := 5) (ret := (some .long)) (by decide) rfl (Nat.le_of_ble_eq_true rfl) ?_
  intro p e s m below meth c A ls C hH hl
  have hl : lv_has ls 5 [(0, .ref h), (1, .int x1)] := hl
  obtain ⟨hx, hb, hr, hml, hown, hts, hlk, hK, hA⟩ := id C
  unfold f_Events_sumUpTo at hf
  refine lv_lconst (v := 0) hx hb d_Events_sumUpTo_0 (by decide) ?_
  refine lv_lstore_n (lv' := [(2, .long 0), (0, .ref h), (1, .int x1)]) hx hb d_Events_sumUpTo_1 rfl hl (by decide) rfl (fun ls hl => ?_)
  refine lv_iconst (v := 0) hx hb d_Events_sumUpTo_2 (by decide) ?_
  refine lv_istore (lv' := [(4, .int 0), (2, .long 0), (0, .ref h), (1, .int x1)]) hx hb d_Events_sumUpTo_3 hl (by decide) rfl (fun ls hl => ?_)
  exact w_Events_sumUpTo_b5 l D cI cL h h_kinds h_differences h_partsA h_partsB C 400 st x1 0 0 res hf _ _ _ hH (lv_sub hl [2, 3, 1, 0] rfl)
def f_Events_lastWithSumUpTo_b5 : Nat → S_Events → Int64 → Int64 → Int32 → Option (Int32)
  | 0, _, _, _, _ => none
  | n + 1, st, x1, x3, x5 =>
  if st.2.2.2.2 ≤ x5 then (some (st.2.2.2.2 - 1)) else (if (lg_cmp (x3 + (f_Events_difference st x5)) x1) ≤ 0 then (f_Events_lastWithSumUpTo_b5 n st x1 (x3 + (f_Events_difference st x5)) (x5 + 1)) else (some (x5 - 1)))
set_option maxRecDepth 100000 in
set_option maxHeartbeats 4000000 in
theorem w_Events_lastWithSumUpTo_b5 (l : Launch) (D : va_G) (cI cL : ClassId) (h h_kinds h_differences h_partsA h_partsB : Nat) {p : Program} {e : Env} {s : State} {m : MethodId} {args : Array Value} {below : List Frame} {meth : Method} {c : Code} {A : Nat → Prop} (C : Cx p s m args meth c D vwCl [(cI, .int), (cL, .long)] A b_Events_lastWithSumUpTo 6 (some .int) ws_Events_lastWithSumUpTo y_Events_lastWithSumUpTo.cls) : ∀ (n : Nat) (st : S_Events) (x1 : Int64) (x3 : Int64) (x5 : Int32) (res : Int32), f_Events_lastWithSumUpTo_b5 n st x1 x3 x5 = some res → ∀ (H : Heap) (locs : List Loc) (ls : Array Slot), Hp D vwCl (fun _ => True) A s.heap H locs [(h, .inr (2, [.ref h_kinds, .ref h_differences, .ref h_partsA, .ref h_partsB, .int st.2.2.2.2])), (h_kinds, .inl (cI, 300, .inl st.1)), (h_differences, .inl (cL, 300, .inr (.inl st.2.1))), (h_partsA, .inl (cL, 300, .inr (.inl st.2.2.1))), (h_partsB, .inl (cI, 300, .inl st.2.2.2.1))] → lv_has ls 6 [(0, .ref h), (1, .long x1), (3, .long x3), (5, .int x5)] → W p l e { frames := 2, cells := 0, slots := 0, locals := 42 } s m args below meth c H locs 0 0 (MQ below (QR (some (.int res)) A) args s 0 0 A) (F0 m 5 ls []) := by
  obtain ⟨hx, hb, hr, hml, hown, hts, hlk, hK, hA⟩ := id C
  intro n
  induction n with
  | zero => intro st x1 x3 x5 res hf; cases hf
  | succ n ih =>
    intro st x1 x3 x5 res hf H locs ls hH hl
    rw [f_Events_lastWithSumUpTo_b5] at hf
    refine lv_iload hx hb d_Events_lastWithSumUpTo_5 (lv_at hl 3 rfl) ?_
    refine lv_aload_n hx hb d_Events_lastWithSumUpTo_7 rfl (lv_at hl 0 rfl) ?_
    refine gt (ci := 2) (v := .int st.2.2.2.2) C hH (iwT iw_Events) 0 rfl rfl 4 (by decide) (.tail _ wd_33) rfl d_Events_lastWithSumUpTo_8 ?_
    refine lv_icmp_ge (tgt := 40) hx hb d_Events_lastWithSumUpTo_11 (by decide) (fun hc11 => ?_) (fun hc11 => ?_)
    · have hf := ip hc11 hf
      refine lv_aload_n hx hb d_Events_lastWithSumUpTo_40 rfl (lv_at hl 0 rfl) ?_
      refine gt (ci := 2) (v := .int st.2.2.2.2) C hH (iwT iw_Events) 0 rfl rfl 4 (by decide) (.tail _ wd_33) rfl d_Events_lastWithSumUpTo_41 ?_
      refine lv_iconst (v := 1) hx hb d_Events_lastWithSumUpTo_44 (by decide) ?_
      refine lv_isub hx hb d_Events_lastWithSumUpTo_45 ?_
      have hf := Option.some.inj hf
      subst hf
      exact rIR (v := st.2.2.2.2 - 1) C hH d_Events_lastWithSumUpTo_46
    · have hf := im hc11 hf
      refine lv_lload_n hx hb d_Events_lastWithSumUpTo_14 rfl (lv_at hl 2 rfl) ?_
      refine lv_aload_n hx hb d_Events_lastWithSumUpTo_15 rfl (lv_at hl 0 rfl) ?_
      refine lv_iload hx hb d_Events_lastWithSumUpTo_16 (lv_at hl 3 rfl) ?_
      refine fnVR (rest := [.long x3]) (st2 := [.long (f_Events_difference st x5), .long x3]) C (c_Events_difference l D cI cL h h_kinds h_differences h_partsA h_partsB st x5 _ rfl) (cV hts kV_Events_difference wd_192 ⟨Nat.le_of_ble_eq_true rfl, Nat.le_of_ble_eq_true rfl⟩) hH [0, 1, 2, 3, 4] rfl rfl 0 rfl rfl rfl hl.1 rfl (Nat.le_of_ble_eq_true rfl) d_Events_lastWithSumUpTo_18 ⟨Nat.le_of_ble_eq_true rfl, Nat.le_of_ble_eq_true rfl⟩ rfl (fun H locs hH => ?_)
      refine lv_ladd hx hb d_Events_lastWithSumUpTo_21 ?_
      refine lv_lstore_n (lv' := [(3, .long (x3 + (f_Events_difference st x5))), (0, .ref h), (1, .long x1), (5, .int x5)]) hx hb d_Events_lastWithSumUpTo_22 rfl hl (by decide) rfl (fun ls hl => ?_)
      refine lv_lload_n hx hb d_Events_lastWithSumUpTo_23 rfl (lv_at hl 0 rfl) ?_
      refine lv_lload_n hx hb d_Events_lastWithSumUpTo_24 rfl (lv_at hl 2 rfl) ?_
      refine W.lcmp hx hb d_Events_lastWithSumUpTo_25 ?_
      refine lv_if_le (tgt := 34) hx hb d_Events_lastWithSumUpTo_26 (by decide) (fun hc26 => ?_) (fun hc26 => ?_)
      · have hf := ip hc26 hf
        refine lv_iinc (v := x5 + 1) (lv' := [(5, .int (x5 + 1)), (3, .long (x3 + (f_Events_difference st x5))), (0, .ref h), (1, .long x1)]) hx hb d_Events_lastWithSumUpTo_34 hl (k := 3) rfl rfl (by decide) rfl (fun ls hl => ?_)
        refine lv_goto (tgt := 5) hx hb d_Events_lastWithSumUpTo_37 (by decide) ?_
        exact ih st x1 (x3 + (f_Events_difference st x5)) (x5 + 1) res hf _ _ _ hH (lv_sub hl [2, 3, 1, 0] rfl)
      · have hf := im hc26 hf
        refine lv_iload hx hb d_Events_lastWithSumUpTo_29 (lv_at hl 3 rfl) ?_
        refine lv_iconst (v := 1) hx hb d_Events_lastWithSumUpTo_31 (by decide) ?_
        refine lv_isub hx hb d_Events_lastWithSumUpTo_32 ?_
        have hf := Option.some.inj hf
        subst hf
        exact rIR (v := x5 - 1) C hH d_Events_lastWithSumUpTo_33
def f_Events_lastWithSumUpTo (st : S_Events) (x1 : Int64) : Option (Int32) :=
  f_Events_lastWithSumUpTo_b5 400 st x1 0 0
set_option maxRecDepth 100000 in
set_option maxHeartbeats 4000000 in
theorem c_Events_lastWithSumUpTo (l : Launch) (D : va_G) (cI cL : ClassId) (h h_kinds h_differences h_partsA h_partsB : Nat) (st : S_Events) (x1 : Int64) (res : Int32) (hf : f_Events_lastWithSumUpTo st x1 = some res) :
    FnR l D vwCl [(cI, .int), (cL, .long)] y_Events_lastWithSumUpTo ws_Events_lastWithSumUpTo { frames := 2, cells := 0, slots := 0, locals := 42 } [.ref h, .long x1] [(h, .inr (2, [.ref h_kinds, .ref h_differences, .ref h_partsA, .ref h_partsB, .int st.2.2.2.2])), (h_kinds, .inl (cI, 300, .inl st.1)), (h_differences, .inl (cL, 300, .inr (.inl st.2.1))), (h_partsA, .inl (cL, 300, .inr (.inl st.2.2.1))), (h_partsB, .inl (cI, 300, .inl st.2.2.2.1))] (some (.int res)) := by
  refine FnR.ofW (cc := b_Events_lastWithSumUpTo) (maxL := 6) (ret := (some .int)) (by decide) rfl (Nat.le_of_ble_eq_true rfl) ?_
  intro p e s m below meth c A ls C hH hl
  have hl : lv_has ls 6 [(0, .ref h), (1, .long x1)] := hl
  obtain ⟨hx, hb, hr, hml, hown, hts, hlk, hK, hA⟩ := id C
  unfold f_Events_lastWithSumUpTo at hf
  refine lv_lconst (v := 0) hx hb d_Events_lastWithSumUpTo_0 (by decide) ?_
  refine lv_lstore_n (lv' := [(3, .long 0), (0, .ref h), (1, .long x1)]) hx hb d_Events_lastWithSumUpTo_1 rfl hl (by decide) rfl (fun ls hl => ?_)
  refine lv_iconst (v := 0) hx hb d_Events_lastWithSumUpTo_2 (by decide) ?_
  refine lv_istore (lv' := [(5, .int 0), (3, .long 0), (0, .ref h), (1, .long x1)]) hx hb d_Events_lastWithSumUpTo_3 hl (by decide) rfl (fun ls hl => ?_)
  exact w_Events_lastWithSumUpTo_b5 l D cI cL h h_kinds h_differences h_partsA h_partsB C 400 st x1 0 0 res hf _ _ _ hH (lv_sub hl [2, 3, 1, 0] rfl)
end
section
def f_Packer_bytes (st : S_Packer)  : Int32 :=
  st.2.2.2.1
set_option maxRecDepth 100000 in
set_option maxHeartbeats 4000000 in
theorem c_Packer_bytes (l : Launch) (D : va_G) (cI cL : ClassId) (h h_log h_log_row h_past h_past_typed : Nat) (st : S_Packer)  (res : Int32) (hf : f_Packer_bytes st = res) :
    FnR l D vwCl [(cI, .int), (cL, .long)] y_Packer_bytes ws_Packer_bytes { frames := 0, cells := 0, slots := 0, locals := 0 } [.ref h] [(h, .inr (3, [.ref h_log, .ref h_past, .int (bI st.2.2.1), .int st.2.2.2.1, .int st.2.2.2.2.1, .int st.2.2.2.2.2.1, .int st.2.2.2.2.2.2.1, .int st.2.2.2.2.2.2.2])), (h_log, .inr (0, [.ref h_log_row, .int st.1.2])), (h_log_row, .inl (cI, 5000, .inl st.1.1)), (h_past, .inr (1, [.ref h_past_typed, .int st.2.1.2.1, .int st.2.1.2.2])), (h_past_typed, .inl (cI, 300, .inl st.2.1.1))] (some (.int res)) := by
  refine FnR.ofW (cc := b_Packer_bytes) (maxL := 1) (ret := (some .int)) (by decide) rfl (Nat.le_of_ble_eq_true rfl) ?_
  intro p e s m below meth c A ls C hH hl
  have hl : lv_has ls 1 [(0, .ref h)] := hl
  obtain ⟨hx, hb, hr, hml, hown, hts, hlk, hK, hA⟩ := id C
  unfold f_Packer_bytes at hf
  refine lv_aload_n hx hb d_Packer_bytes_0 rfl (lv_at hl 0 rfl) ?_
  refine gt (ci := 3) (v := .int st.2.2.2.1) C hH (iwT iw_Packer) 0 rfl rfl 3 (by decide) (.tail _ wd_85) rfl d_Packer_bytes_1 ?_
  subst hf
  exact rIR (v := st.2.2.2.1) C hH d_Packer_bytes_4
def f_Packer_entries (st : S_Packer)  : Int32 :=
  st.2.2.2.2.1
set_option maxRecDepth 100000 in
set_option maxHeartbeats 4000000 in
theorem c_Packer_entries (l : Launch) (D : va_G) (cI cL : ClassId) (h h_log h_log_row h_past h_past_typed : Nat) (st : S_Packer)  (res : Int32) (hf : f_Packer_entries st = res) :
    FnR l D vwCl [(cI, .int), (cL, .long)] y_Packer_entries ws_Packer_entries { frames := 0, cells := 0, slots := 0, locals := 0 } [.ref h] [(h, .inr (3, [.ref h_log, .ref h_past, .int (bI st.2.2.1), .int st.2.2.2.1, .int st.2.2.2.2.1, .int st.2.2.2.2.2.1, .int st.2.2.2.2.2.2.1, .int st.2.2.2.2.2.2.2])), (h_log, .inr (0, [.ref h_log_row, .int st.1.2])), (h_log_row, .inl (cI, 5000, .inl st.1.1)), (h_past, .inr (1, [.ref h_past_typed, .int st.2.1.2.1, .int st.2.1.2.2])), (h_past_typed, .inl (cI, 300, .inl st.2.1.1))] (some (.int res)) := by
  refine FnR.ofW (cc := b_Packer_entries) (maxL := 1) (ret := (some .int)) (by decide) rfl (Nat.le_of_ble_eq_true rfl) ?_
  intro p e s m below meth c A ls C hH hl
  have hl : lv_has ls 1 [(0, .ref h)] := hl
  obtain ⟨hx, hb, hr, hml, hown, hts, hlk, hK, hA⟩ := id C
  unfold f_Packer_entries at hf
  refine lv_aload_n hx hb d_Packer_entries_0 rfl (lv_at hl 0 rfl) ?_
  refine gt (ci := 3) (v := .int st.2.2.2.2.1) C hH (iwT iw_Packer) 0 rfl rfl 4 (by decide) (.tail _ wd_86) rfl d_Packer_entries_1 ?_
  subst hf
  exact rIR (v := st.2.2.2.2.1) C hH d_Packer_entries_4
def f_Packer_runs (st : S_Packer)  : Int32 :=
  st.2.2.2.2.2.1
set_option maxRecDepth 100000 in
set_option maxHeartbeats 4000000 in
theorem c_Packer_runs (l : Launch) (D : va_G) (cI cL : ClassId) (h h_log h_log_row h_past h_past_typed : Nat) (st : S_Packer)  (res : Int32) (hf : f_Packer_runs st = res) :
    FnR l D vwCl [(cI, .int), (cL, .long)] y_Packer_runs ws_Packer_runs { frames := 0, cells := 0, slots := 0, locals := 0 } [.ref h] [(h, .inr (3, [.ref h_log, .ref h_past, .int (bI st.2.2.1), .int st.2.2.2.1, .int st.2.2.2.2.1, .int st.2.2.2.2.2.1, .int st.2.2.2.2.2.2.1, .int st.2.2.2.2.2.2.2])), (h_log, .inr (0, [.ref h_log_row, .int st.1.2])), (h_log_row, .inl (cI, 5000, .inl st.1.1)), (h_past, .inr (1, [.ref h_past_typed, .int st.2.1.2.1, .int st.2.1.2.2])), (h_past_typed, .inl (cI, 300, .inl st.2.1.1))] (some (.int res)) := by
  refine FnR.ofW (cc := b_Packer_runs) (maxL := 1) (ret := (some .int)) (by decide) rfl (Nat.le_of_ble_eq_true rfl) ?_
  intro p e s m below meth c A ls C hH hl
  have hl : lv_has ls 1 [(0, .ref h)] := hl
  obtain ⟨hx, hb, hr, hml, hown, hts, hlk, hK, hA⟩ := id C
  unfold f_Packer_runs at hf
  refine lv_aload_n hx hb d_Packer_runs_0 rfl (lv_at hl 0 rfl) ?_
  refine gt (ci := 3) (v := .int st.2.2.2.2.2.1) C hH (iwT iw_Packer) 0 rfl rfl 5 (by decide) (.tail _ wd_87) rfl d_Packer_runs_1 ?_
  subst hf
  exact rIR (v := st.2.2.2.2.2.1) C hH d_Packer_runs_4
def f_Packer_sames (st : S_Packer)  : Int32 :=
  st.2.2.2.2.2.2.1
set_option maxRecDepth 100000 in
set_option maxHeartbeats 4000000 in
theorem c_Packer_sames (l : Launch) (D : va_G) (cI cL : ClassId) (h h_log h_log_row h_past h_past_typed : Nat) (st : S_Packer)  (res : Int32) (hf : f_Packer_sames st = res) :
    FnR l D vwCl [(cI, .int), (cL, .long)] y_Packer_sames ws_Packer_sames { frames := 0, cells := 0, slots := 0, locals := 0 } [.ref h] [(h, .inr (3, [.ref h_log, .ref h_past, .int (bI st.2.2.1), .int st.2.2.2.1, .int st.2.2.2.2.1, .int st.2.2.2.2.2.1, .int st.2.2.2.2.2.2.1, .int st.2.2.2.2.2.2.2])), (h_log, .inr (0, [.ref h_log_row, .int st.1.2])), (h_log_row, .inl (cI, 5000, .inl st.1.1)), (h_past, .inr (1, [.ref h_past_typed, .int st.2.1.2.1, .int st.2.1.2.2])), (h_past_typed, .inl (cI, 300, .inl st.2.1.1))] (some (.int res)) := by
  refine FnR.ofW (cc := b_Packer_sames) (maxL := 1) (ret := (some .int)) (by decide) rfl (Nat.le_of_ble_eq_true rfl) ?_
  intro p e s m below meth c A ls C hH hl
  have hl : lv_has ls 1 [(0, .ref h)] := hl
  obtain ⟨hx, hb, hr, hml, hown, hts, hlk, hK, hA⟩ := id C
  unfold f_Packer_sames at hf
  refine lv_aload_n hx hb d_Packer_sames_0 rfl (lv_at hl 0 rfl) ?_
  refine gt (ci := 3) (v := .int st.2.2.2.2.2.2.1) C hH (iwT iw_Packer) 0 rfl rfl 6 (by decide) (.tail _ wd_88) rfl d_Packer_sames_1 ?_
  subst hf
  exact rIR (v := st.2.2.2.2.2.2.1) C hH d_Packer_sames_4
def f_Packer_repeats (st : S_Packer)  : Int32 :=
  st.2.2.2.2.2.2.2
set_option maxRecDepth 100000 in
set_option maxHeartbeats 4000000 in
theorem c_Packer_repeats (l : Launch) (D : va_G) (cI cL : ClassId) (h h_log h_log_row h_past h_past_typed : Nat) (st : S_Packer)  (res : Int32) (hf : f_Packer_repeats st = res) :
    FnR l D vwCl [(cI, .int), (cL, .long)] y_Packer_repeats ws_Packer_repeats { frames := 0, cells := 0, slots := 0, locals := 0 } [.ref h] [(h, .inr (3, [.ref h_log, .ref h_past, .int (bI st.2.2.1), .int st.2.2.2.1, .int st.2.2.2.2.1, .int st.2.2.2.2.2.1, .int st.2.2.2.2.2.2.1, .int st.2.2.2.2.2.2.2])), (h_log, .inr (0, [.ref h_log_row, .int st.1.2])), (h_log_row, .inl (cI, 5000, .inl st.1.1)), (h_past, .inr (1, [.ref h_past_typed, .int st.2.1.2.1, .int st.2.1.2.2])), (h_past_typed, .inl (cI, 300, .inl st.2.1.1))] (some (.int res)) := by
  refine FnR.ofW (cc := b_Packer_repeats) (maxL := 1) (ret := (some .int)) (by decide) rfl (Nat.le_of_ble_eq_true rfl) ?_
  intro p e s m below meth c A ls C hH hl
  have hl : lv_has ls 1 [(0, .ref h)] := hl
  obtain ⟨hx, hb, hr, hml, hown, hts, hlk, hK, hA⟩ := id C
  unfold f_Packer_repeats at hf
  refine lv_aload_n hx hb d_Packer_repeats_0 rfl (lv_at hl 0 rfl) ?_
  refine gt (ci := 3) (v := .int st.2.2.2.2.2.2.2) C hH (iwT iw_Packer) 0 rfl rfl 7 (by decide) (.tail _ wd_89) rfl d_Packer_repeats_1 ?_
  subst hf
  exact rIR (v := st.2.2.2.2.2.2.2) C hH d_Packer_repeats_4
def f_Packer_begin_b20 (st : S_Packer)  : S_Packer :=
  lt1 (f_Past_forget st.2.1) (fun r24 => (st.1, r24, st.2.2.1, 0, 0, 0, 0, 0))
set_option maxRecDepth 100000 in
set_option maxHeartbeats 4000000 in
theorem w_Packer_begin_b20 (l : Launch) (D : va_G) (cI cL : ClassId) (h h_log h_log_row h_past h_past_typed : Nat) {p : Program} {e : Env} {s : State} {m : MethodId} {args : Array Value} {below : List Frame} {meth : Method} {c : Code} {A : Nat → Prop} (C : Cx p s m args meth c D vwCl [(cI, .int), (cL, .long)] A b_Packer_begin 2 none ws_Packer_begin y_Packer_begin.cls) : ∀ (st : S_Packer)  (res : S_Packer), f_Packer_begin_b20 st = res → ∀ (H : Heap) (locs : List Loc) (ls : Array Slot), Hp D vwCl A A s.heap H locs [(h, .inr (3, [.ref h_log, .ref h_past, .int (bI st.2.2.1), .int st.2.2.2.1, .int st.2.2.2.2.1, .int st.2.2.2.2.2.1, .int st.2.2.2.2.2.2.1, .int st.2.2.2.2.2.2.2])), (h_log, .inr (0, [.ref h_log_row, .int st.1.2])), (h_log_row, .inl (cI, 5000, .inl st.1.1)), (h_past, .inr (1, [.ref h_past_typed, .int st.2.1.2.1, .int st.2.1.2.2])), (h_past_typed, .inl (cI, 300, .inl st.2.1.1))] → lv_has ls 2 [(0, .ref h)] → W p l e { frames := 1, cells := 0, slots := 0, locals := 21 } s m args below meth c H locs 0 0 (MQ below (Qw D vwCl [(cI, .int), (cL, .long)] (none) A [(h, .inr (3, [.ref h_log, .ref h_past, .int (bI res.2.2.1), .int res.2.2.2.1, .int res.2.2.2.2.1, .int res.2.2.2.2.2.1, .int res.2.2.2.2.2.2.1, .int res.2.2.2.2.2.2.2])), (h_log, .inr (0, [.ref h_log_row, .int res.1.2])), (h_log_row, .inl (cI, 5000, .inl res.1.1)), (h_past, .inr (1, [.ref h_past_typed, .int res.2.1.2.1, .int res.2.1.2.2])), (h_past_typed, .inl (cI, 300, .inl res.2.1.1))]) args s 0 0 A) (F0 m 20 ls []) := by
  obtain ⟨hx, hb, hr, hml, hown, hts, hlk, hK, hA⟩ := id C
  intro st res hf H locs ls hH hl
  unfold f_Packer_begin_b20 at hf
  refine lv_aload_n hx hb d_Packer_begin_20 rfl (lv_at hl 0 rfl) ?_
  refine gt (ci := 3) (v := .ref h_past) C hH (iwT iw_Packer) 0 rfl rfl 1 (by decide) (.tail _ wd_83) rfl d_Packer_begin_21 ?_
  obtain ⟨r24, hr24, hf⟩ := lb hf
  refine fnV (rest := []) (wr := [(h, .inr (3, [.ref h_log, .ref h_past, .int (bI st.2.2.1), .int st.2.2.2.1, .int st.2.2.2.2.1, .int st.2.2.2.2.2.1, .int st.2.2.2.2.2.2.1, .int st.2.2.2.2.2.2.2])), (h_log, .inr (0, [.ref h_log_row, .int st.1.2])), (h_log_row, .inl (cI, 5000, .inl st.1.1))]) (w2 := [(h, .inr (3, [.ref h_log, .ref h_past, .int (bI st.2.2.1), .int st.2.2.2.1, .int st.2.2.2.2.1, .int st.2.2.2.2.2.1, .int st.2.2.2.2.2.2.1, .int st.2.2.2.2.2.2.2])), (h_log, .inr (0, [.ref h_log_row, .int st.1.2])), (h_log_row, .inl (cI, 5000, .inl st.1.1)), (h_past, .inr (1, [.ref h_past_typed, .int r24.2.1, .int r24.2.2])), (h_past_typed, .inl (cI, 300, .inl r24.1))]) (st2 := []) C (c_Past_forget l D cI cL h_past h_past_typed st.2.1 r24 hr24) (cV hts kV_Past_forget wd_163 ⟨Nat.le_of_ble_eq_true rfl, Nat.le_of_ble_eq_true rfl⟩) hH [3, 4] [0, 1, 2] [0, 1, 2, 3, 4] rfl rfl rfl rfl (by decide) rfl rfl 0 rfl rfl rfl hl.1 rfl (Nat.le_of_ble_eq_true rfl) d_Packer_begin_24 ⟨Nat.le_of_ble_eq_true rfl, Nat.le_of_ble_eq_true rfl⟩ rfl (fun H locs hH => ?_)
  refine lv_aload_n hx hb d_Packer_begin_27 rfl (lv_at hl 0 rfl) ?_
  refine lv_iconst (v := 0) hx hb d_Packer_begin_28 (by decide) ?_
  refine pt (ci := 3) (v := .int 0) C hH (iwT iw_Packer) ty_Packer tyok_Packer nm_Packer 0 rfl rfl 3 (by decide) (.tail _ wd_85) rfl rfl rfl (Nat.le_of_ble_eq_true rfl) d_Packer_begin_29 [(h, .inr (3, [.ref h_log, .ref h_past, .int (bI st.2.2.1), .int 0, .int st.2.2.2.2.1, .int st.2.2.2.2.2.1, .int st.2.2.2.2.2.2.1, .int st.2.2.2.2.2.2.2])), (h_log, .inr (0, [.ref h_log_row, .int st.1.2])), (h_log_row, .inl (cI, 5000, .inl st.1.1)), (h_past, .inr (1, [.ref h_past_typed, .int r24.2.1, .int r24.2.2])), (h_past_typed, .inl (cI, 300, .inl r24.1))] rfl (fun H locs hH => ?_)
  refine lv_aload_n hx hb d_Packer_begin_32 rfl (lv_at hl 0 rfl) ?_
  refine lv_iconst (v := 0) hx hb d_Packer_begin_33 (by decide) ?_
  refine pt (ci := 3) (v := .int 0) C hH (iwT iw_Packer) ty_Packer tyok_Packer nm_Packer 0 rfl rfl 4 (by decide) (.tail _ wd_86) rfl rfl rfl (Nat.le_of_ble_eq_true rfl) d_Packer_begin_34 [(h, .inr (3, [.ref h_log, .ref h_past, .int (bI st.2.2.1), .int 0, .int 0, .int st.2.2.2.2.2.1, .int st.2.2.2.2.2.2.1, .int st.2.2.2.2.2.2.2])), (h_log, .inr (0, [.ref h_log_row, .int st.1.2])), (h_log_row, .inl (cI, 5000, .inl st.1.1)), (h_past, .inr (1, [.ref h_past_typed, .int r24.2.1, .int r24.2.2])), (h_past_typed, .inl (cI, 300, .inl r24.1))] rfl (fun H locs hH => ?_)
  refine lv_aload_n hx hb d_Packer_begin_37 rfl (lv_at hl 0 rfl) ?_
  refine lv_iconst (v := 0) hx hb d_Packer_begin_38 (by decide) ?_
  refine pt (ci := 3) (v := .int 0) C hH (iwT iw_Packer) ty_Packer tyok_Packer nm_Packer 0 rfl rfl 5 (by decide) (.tail _ wd_87) rfl rfl rfl (Nat.le_of_ble_eq_true rfl) d_Packer_begin_39 [(h, .inr (3, [.ref h_log, .ref h_past, .int (bI st.2.2.1), .int 0, .int 0, .int 0, .int st.2.2.2.2.2.2.1, .int st.2.2.2.2.2.2.2])), (h_log, .inr (0, [.ref h_log_row, .int st.1.2])), (h_log_row, .inl (cI, 5000, .inl st.1.1)), (h_past, .inr (1, [.ref h_past_typed, .int r24.2.1, .int r24.2.2])), (h_past_typed, .inl (cI, 300, .inl r24.1))] rfl (fun H locs hH => ?_)
  refine lv_aload_n hx hb d_Packer_begin_42 rfl (lv_at hl 0 rfl) ?_
  refine lv_iconst (v := 0) hx hb d_Packer_begin_43 (by decide) ?_
  refine pt (ci := 3) (v := .int 0) C hH (iwT iw_Packer) ty_Packer tyok_Packer nm_Packer 0 rfl rfl 6 (by decide) (.tail _ wd_88) rfl rfl rfl (Nat.le_of_ble_eq_true rfl) d_Packer_begin_44 [(h, .inr (3, [.ref h_log, .ref h_past, .int (bI st.2.2.1), .int 0, .int 0, .int 0, .int 0, .int st.2.2.2.2.2.2.2])), (h_log, .inr (0, [.ref h_log_row, .int st.1.2])), (h_log_row, .inl (cI, 5000, .inl st.1.1)), (h_past, .inr (1, [.ref h_past_typed, .int r24.2.1, .int r24.2.2])), (h_past_typed, .inl (cI, 300, .inl r24.1))] rfl (fun H locs hH => ?_)
  refine lv_aload_n hx hb d_Packer_begin_47 rfl (lv_at hl 0 rfl) ?_
  refine lv_iconst (v := 0) hx hb d_Packer_begin_48 (by decide) ?_
  refine pt (ci := 3) (v := .int 0) C hH (iwT iw_Packer) ty_Packer tyok_Packer nm_Packer 0 rfl rfl 7 (by decide) (.tail _ wd_89) rfl rfl rfl (Nat.le_of_ble_eq_true rfl) d_Packer_begin_49 [(h, .inr (3, [.ref h_log, .ref h_past, .int (bI st.2.2.1), .int 0, .int 0, .int 0, .int 0, .int 0])), (h_log, .inr (0, [.ref h_log_row, .int st.1.2])), (h_log_row, .inl (cI, 5000, .inl st.1.1)), (h_past, .inr (1, [.ref h_past_typed, .int r24.2.1, .int r24.2.2])), (h_past_typed, .inl (cI, 300, .inl r24.1))] rfl (fun H locs hH => ?_)
  subst hf
  exact rV C hH d_Packer_begin_52
def f_Packer_begin (st : S_Packer) (x1 : Bool) : S_Packer :=
  if (bI x1) = 0 then (f_Packer_begin_b20 ((st.1, st.2.1, x1, st.2.2.2.1, st.2.2.2.2.1, st.2.2.2.2.2.1, st.2.2.2.2.2.2.1, st.2.2.2.2.2.2.2))) else (lt1 (f_Bytes_keepFirst st.1 0) (fun r17 => f_Packer_begin_b20 ((r17, st.2.1, x1, st.2.2.2.1, st.2.2.2.2.1, st.2.2.2.2.2.1, st.2.2.2.2.2.2.1, st.2.2.2.2.2.2.2))))
set_option maxRecDepth 100000 in
set_option maxHeartbeats 4000000 in
theorem c_Packer_begin (l : Launch) (D : va_G) (cI cL : ClassId) (h h_log h_log_row h_past h_past_typed : Nat) (st : S_Packer) (x1 : Bool) (res : S_Packer) (hf : f_Packer_begin st x1 = res) :
    Fn l D vwCl [(cI, .int), (cL, .long)] y_Packer_begin ws_Packer_begin { frames := 1, cells := 0, slots := 0, locals := 21 } [.ref h, .int (bI x1)] [(h, .inr (3, [.ref h_log, .ref h_past, .int (bI st.2.2.1), .int st.2.2.2.1, .int st.2.2.2.2.1, .int st.2.2.2.2.2.1, .int st.2.2.2.2.2.2.1, .int st.2.2.2.2.2.2.2])), (h_log, .inr (0, [.ref h_log_row, .int st.1.2])), (h_log_row, .inl (cI, 5000, .inl st.1.1)), (h_past, .inr (1, [.ref h_past_typed, .int st.2.1.2.1, .int st.2.1.2.2])), (h_past_typed, .inl (cI, 300, .inl st.2.1.1))] (none) [(h, .inr (3, [.ref h_log, .ref h_past, .int (bI res.2.2.1), .int res.2.2.2.1, .int res.2.2.2.2.1, .int res.2.2.2.2.2.1, .int res.2.2.2.2.2.2.1, .int res.2.2.2.2.2.2.2])), (h_log, .inr (0, [.ref h_log_row, .int res.1.2])), (h_log_row, .inl (cI, 5000, .inl res.1.1)), (h_past, .inr (1, [.ref h_past_typed, .int res.2.1.2.1, .int res.2.1.2.2])), (h_past_typed, .inl (cI, 300, .inl res.2.1.1))] := by
  refine Fn.ofW (cc := b_Packer_begin) (maxL := 2) (ret := none) (by decide) rfl (Nat.le_of_ble_eq_true rfl) ?_
  intro p e s m below meth c A ls C hH hinit hl
  have hl : lv_has ls 2 [(0, .ref h), (1, .int (bI x1))] := hl
  obtain ⟨hx, hb, hr, hml, hown, hts, hlk, hK, hA⟩ := id C
  unfold f_Packer_begin at hf
  refine lv_aload_n hx hb d_Packer_begin_0 rfl (lv_at hl 0 rfl) ?_
  refine lv_iload_n hx hb d_Packer_begin_1 rfl (lv_at hl 1 rfl) ?_
  refine pt (ci := 3) (v := .int (bI x1)) C hH (iwT iw_Packer) ty_Packer tyok_Packer nm_Packer 0 rfl rfl 2 (by decide) (.tail _ wd_84) rfl (bI_n x1) (bI_f x1) (Nat.le_of_ble_eq_true rfl) d_Packer_begin_2 [(h, .inr (3, [.ref h_log, .ref h_past, .int (bI x1), .int st.2.2.2.1, .int st.2.2.2.2.1, .int st.2.2.2.2.2.1, .int st.2.2.2.2.2.2.1, .int st.2.2.2.2.2.2.2])), (h_log, .inr (0, [.ref h_log_row, .int st.1.2])), (h_log_row, .inl (cI, 5000, .inl st.1.1)), (h_past, .inr (1, [.ref h_past_typed, .int st.2.1.2.1, .int st.2.1.2.2])), (h_past_typed, .inl (cI, 300, .inl st.2.1.1))] rfl (fun H locs hH => ?_)
  refine lv_aload_n hx hb d_Packer_begin_5 rfl (lv_at hl 0 rfl) ?_
  refine gt (ci := 3) (v := .int (bI x1)) C hH (iwT iw_Packer) 0 rfl rfl 2 (by decide) (.tail _ wd_84) rfl d_Packer_begin_6 ?_
  refine lv_if_eq (tgt := 20) hx hb d_Packer_begin_9 (by decide) (fun hc9 => ?_) (fun hc9 => ?_)
  · have hf := ip hc9 hf
    exact w_Packer_begin_b20 l D cI cL h h_log h_log_row h_past h_past_typed C ((st.1, st.2.1, x1, st.2.2.2.1, st.2.2.2.2.1, st.2.2.2.2.2.1, st.2.2.2.2.2.2.1, st.2.2.2.2.2.2.2)) res hf _ _ _ hH (lv_sub hl [0] rfl)
  · have hf := im hc9 hf
    refine lv_aload_n hx hb d_Packer_begin_12 rfl (lv_at hl 0 rfl) ?_
    refine gt (ci := 3) (v := .ref h_log) C hH (iwT iw_Packer) 0 rfl rfl 0 (by decide) (.tail _ wd_82) rfl d_Packer_begin_13 ?_
    refine lv_iconst (v := 0) hx hb d_Packer_begin_16 (by decide) ?_
    obtain ⟨r17, hr17, hf⟩ := lb hf
    refine fnV (rest := []) (wr := [(h, .inr (3, [.ref h_log, .ref h_past, .int (bI x1), .int st.2.2.2.1, .int st.2.2.2.2.1, .int st.2.2.2.2.2.1, .int st.2.2.2.2.2.2.1, .int st.2.2.2.2.2.2.2])), (h_past, .inr (1, [.ref h_past_typed, .int st.2.1.2.1, .int st.2.1.2.2])), (h_past_typed, .inl (cI, 300, .inl st.2.1.1))]) (w2 := [(h, .inr (3, [.ref h_log, .ref h_past, .int (bI x1), .int st.2.2.2.1, .int st.2.2.2.2.1, .int st.2.2.2.2.2.1, .int st.2.2.2.2.2.2.1, .int st.2.2.2.2.2.2.2])), (h_log, .inr (0, [.ref h_log_row, .int r17.2])), (h_log_row, .inl (cI, 5000, .inl r17.1)), (h_past, .inr (1, [.ref h_past_typed, .int st.2.1.2.1, .int st.2.1.2.2])), (h_past_typed, .inl (cI, 300, .inl st.2.1.1))]) (st2 := []) C (c_Bytes_keepFirst l D cI cL h_log h_log_row st.1 0 r17 hr17) (cV hts kV_Bytes_keepFirst wd_159 ⟨Nat.le_of_ble_eq_true rfl, Nat.le_of_ble_eq_true rfl⟩) hH [1, 2] [0, 3, 4] [0, 3, 4, 1, 2] rfl rfl rfl rfl (by decide) rfl rfl 0 rfl rfl rfl hl.1 rfl (Nat.le_of_ble_eq_true rfl) d_Packer_begin_17 ⟨Nat.le_of_ble_eq_true rfl, Nat.le_of_ble_eq_true rfl⟩ rfl (fun H locs hH => ?_)
    exact w_Packer_begin_b20 l D cI cL h h_log h_log_row h_past h_past_typed C ((r17, st.2.1, x1, st.2.2.2.1, st.2.2.2.2.1, st.2.2.2.2.2.1, st.2.2.2.2.2.2.1, st.2.2.2.2.2.2.2)) res hf _ _ _ hH (lv_sub hl [0] rfl)
def f_Packer_packByte (st : S_Packer) (x1 : Int32) : S_Packer :=
  if (bI st.2.2.1) = 0 then ((st.1, st.2.1, st.2.2.1, st.2.2.2.1 + 1, st.2.2.2.2.1, st.2.2.2.2.2.1, st.2.2.2.2.2.2.1, st.2.2.2.2.2.2.2)) else (lt1 (f_Bytes_append st.1 x1) (fun r22 => (r22, st.2.1, st.2.2.1, st.2.2.2.1 + 1, st.2.2.2.2.1, st.2.2.2.2.2.1, st.2.2.2.2.2.2.1, st.2.2.2.2.2.2.2)))
set_option maxRecDepth 100000 in
set_option maxHeartbeats 4000000 in
theorem c_Packer_packByte (l : Launch) (D : va_G) (cI cL : ClassId) (h h_log h_log_row h_past h_past_typed : Nat) (st : S_Packer) (x1 : Int32) (res : S_Packer) (hf : f_Packer_packByte st x1 = res) :
    Fn l D vwCl [(cI, .int), (cL, .long)] y_Packer_packByte ws_Packer_packByte { frames := 1, cells := 0, slots := 0, locals := 21 } [.ref h, .int x1] [(h, .inr (3, [.ref h_log, .ref h_past, .int (bI st.2.2.1), .int st.2.2.2.1, .int st.2.2.2.2.1, .int st.2.2.2.2.2.1, .int st.2.2.2.2.2.2.1, .int st.2.2.2.2.2.2.2])), (h_log, .inr (0, [.ref h_log_row, .int st.1.2])), (h_log_row, .inl (cI, 5000, .inl st.1.1)), (h_past, .inr (1, [.ref h_past_typed, .int st.2.1.2.1, .int st.2.1.2.2])), (h_past_typed, .inl (cI, 300, .inl st.2.1.1))] (none) [(h, .inr (3, [.ref h_log, .ref h_past, .int (bI res.2.2.1), .int res.2.2.2.1, .int res.2.2.2.2.1, .int res.2.2.2.2.2.1, .int res.2.2.2.2.2.2.1, .int res.2.2.2.2.2.2.2])), (h_log, .inr (0, [.ref h_log_row, .int res.1.2])), (h_log_row, .inl (cI, 5000, .inl res.1.1)), (h_past, .inr (1, [.ref h_past_typed, .int res.2.1.2.1, .int res.2.1.2.2])), (h_past_typed, .inl (cI, 300, .inl res.2.1.1))] := by
  refine Fn.ofW (cc := b_Packer_packByte) (maxL := 2) (ret := none) (by decide) rfl (Nat.le_of_ble_eq_true rfl) ?_
  intro p e s m below meth c A ls C hH hinit hl
  have hl : lv_has ls 2 [(0, .ref h), (1, .int x1)] := hl
  obtain ⟨hx, hb, hr, hml, hown, hts, hlk, hK, hA⟩ := id C
  unfold f_Packer_packByte at hf
  refine lv_aload_n hx hb d_Packer_packByte_0 rfl (lv_at hl 0 rfl) ?_
  refine lv_dup hx hb d_Packer_packByte_1 rfl ?_
  refine gt (ci := 3) (v := .int st.2.2.2.1) C hH (iwT iw_Packer) 0 rfl rfl 3 (by decide) (.tail _ wd_85) rfl d_Packer_packByte_2 ?_
  refine lv_iconst (v := 1) hx hb d_Packer_packByte_5 (by decide) ?_
  refine lv_iadd hx hb d_Packer_packByte_6 ?_
  refine pt (ci := 3) (v := .int (st.2.2.2.1 + 1)) C hH (iwT iw_Packer) ty_Packer tyok_Packer nm_Packer 0 rfl rfl 3 (by decide) (.tail _ wd_85) rfl rfl rfl (Nat.le_of_ble_eq_true rfl) d_Packer_packByte_7 [(h, .inr (3, [.ref h_log, .ref h_past, .int (bI st.2.2.1), .int (st.2.2.2.1 + 1), .int st.2.2.2.2.1, .int st.2.2.2.2.2.1, .int st.2.2.2.2.2.2.1, .int st.2.2.2.2.2.2.2])), (h_log, .inr (0, [.ref h_log_row, .int st.1.2])), (h_log_row, .inl (cI, 5000, .inl st.1.1)), (h_past, .inr (1, [.ref h_past_typed, .int st.2.1.2.1, .int st.2.1.2.2])), (h_past_typed, .inl (cI, 300, .inl st.2.1.1))] rfl (fun H locs hH => ?_)
  refine lv_aload_n hx hb d_Packer_packByte_10 rfl (lv_at hl 0 rfl) ?_
  refine gt (ci := 3) (v := .int (bI st.2.2.1)) C hH (iwT iw_Packer) 0 rfl rfl 2 (by decide) (.tail _ wd_84) rfl d_Packer_packByte_11 ?_
  refine lv_if_eq (tgt := 25) hx hb d_Packer_packByte_14 (by decide) (fun hc14 => ?_) (fun hc14 => ?_)
  · have hf := ip hc14 hf
    subst hf
    exact rV C hH d_Packer_packByte_25
  · have hf := im hc14 hf
    refine lv_aload_n hx hb d_Packer_packByte_17 rfl (lv_at hl 0 rfl) ?_
    refine gt (ci := 3) (v := .ref h_log) C hH (iwT iw_Packer) 0 rfl rfl 0 (by decide) (.tail _ wd_82) rfl d_Packer_packByte_18 ?_
    refine lv_iload_n hx hb d_Packer_packByte_21 rfl (lv_at hl 1 rfl) ?_
    obtain ⟨r22, hr22, hf⟩ := lb hf
    refine fnV (rest := []) (wr := [(h, .inr (3, [.ref h_log, .ref h_past, .int (bI st.2.2.1), .int (st.2.2.2.1 + 1), .int st.2.2.2.2.1, .int st.2.2.2.2.2.1, .int st.2.2.2.2.2.2.1, .int st.2.2.2.2.2.2.2])), (h_past, .inr (1, [.ref h_past_typed, .int st.2.1.2.1, .int st.2.1.2.2])), (h_past_typed, .inl (cI, 300, .inl st.2.1.1))]) (w2 := [(h, .inr (3, [.ref h_log, .ref h_past, .int (bI st.2.2.1), .int (st.2.2.2.1 + 1), .int st.2.2.2.2.1, .int st.2.2.2.2.2.1, .int st.2.2.2.2.2.2.1, .int st.2.2.2.2.2.2.2])), (h_log, .inr (0, [.ref h_log_row, .int r22.2])), (h_log_row, .inl (cI, 5000, .inl r22.1)), (h_past, .inr (1, [.ref h_past_typed, .int st.2.1.2.1, .int st.2.1.2.2])), (h_past_typed, .inl (cI, 300, .inl st.2.1.1))]) (st2 := []) C (c_Bytes_append l D cI cL h_log h_log_row st.1 x1 r22 hr22) (cV hts kV_Bytes_append wd_180 ⟨Nat.le_of_ble_eq_true rfl, Nat.le_of_ble_eq_true rfl⟩) hH [1, 2] [0, 3, 4] [0, 3, 4, 1, 2] rfl rfl rfl rfl (by decide) rfl rfl 0 rfl rfl rfl hl.1 rfl (Nat.le_of_ble_eq_true rfl) d_Packer_packByte_22 ⟨Nat.le_of_ble_eq_true rfl, Nat.le_of_ble_eq_true rfl⟩ rfl (fun H locs hH => ?_)
    subst hf
    exact rV C hH d_Packer_packByte_25
def f_Packer_packVarint_b45 (st : S_Packer) (x3 : Int64) : Option (S_Packer) :=
  lt1 (f_Packer_packByte st ((x3 &&& 127).toInt32)) (fun r52 => some r52)
set_option maxRecDepth 100000 in
set_option maxHeartbeats 4000000 in
theorem w_Packer_packVarint_b45 (l : Launch) (D : va_G) (cI cL : ClassId) (h h_log h_log_row h_past h_past_typed : Nat) {p : Program} {e : Env} {s : State} {m : MethodId} {args : Array Value} {below : List Frame} {meth : Method} {c : Code} {A : Nat → Prop} (C : Cx p s m args meth c D vwCl [(cI, .int), (cL, .long)] A b_Packer_packVarint 6 none ws_Packer_packVarint y_Packer_packVarint.cls) : ∀ (st : S_Packer) (x3 : Int64) (res : S_Packer), f_Packer_packVarint_b45 st x3 = some res → ∀ (H : Heap) (locs : List Loc) (ls : Array Slot), Hp D vwCl A A s.heap H locs [(h, .inr (3, [.ref h_log, .ref h_past, .int (bI st.2.2.1), .int st.2.2.2.1, .int st.2.2.2.2.1, .int st.2.2.2.2.2.1, .int st.2.2.2.2.2.2.1, .int st.2.2.2.2.2.2.2])), (h_log, .inr (0, [.ref h_log_row, .int st.1.2])), (h_log_row, .inl (cI, 5000, .inl st.1.1)), (h_past, .inr (1, [.ref h_past_typed, .int st.2.1.2.1, .int st.2.1.2.2])), (h_past_typed, .inl (cI, 300, .inl st.2.1.1))] → lv_has ls 6 [(0, .ref h), (3, .long x3)] → W p l e { frames := 2, cells := 0, slots := 0, locals := 42 } s m args below meth c H locs 0 0 (MQ below (Qw D vwCl [(cI, .int), (cL, .long)] (none) A [(h, .inr (3, [.ref h_log, .ref h_past, .int (bI res.2.2.1), .int res.2.2.2.1, .int res.2.2.2.2.1, .int res.2.2.2.2.2.1, .int res.2.2.2.2.2.2.1, .int res.2.2.2.2.2.2.2])), (h_log, .inr (0, [.ref h_log_row, .int res.1.2])), (h_log_row, .inl (cI, 5000, .inl res.1.1)), (h_past, .inr (1, [.ref h_past_typed, .int res.2.1.2.1, .int res.2.1.2.2])), (h_past_typed, .inl (cI, 300, .inl res.2.1.1))]) args s 0 0 A) (F0 m 45 ls []) := by
  obtain ⟨hx, hb, hr, hml, hown, hts, hlk, hK, hA⟩ := id C
  intro st x3 res hf H locs ls hH hl
  unfold f_Packer_packVarint_b45 at hf
  refine lv_aload_n hx hb d_Packer_packVarint_45 rfl (lv_at hl 0 rfl) ?_
  refine lv_lload_n hx hb d_Packer_packVarint_46 rfl (lv_at hl 1 rfl) ?_
  refine lv_ldc2 (v := 127) hx hb hown (hts _ (.tail _ wd_175)) d_Packer_packVarint_47 ?_
  refine lv_land hx hb d_Packer_packVarint_50 ?_
  refine lv_l2i (v := (x3 &&& 127).toInt32) hx hb d_Packer_packVarint_51 rfl ?_
  obtain ⟨r52, hr52, hf⟩ := lb hf
  refine fnV (rest := []) (wr := []) (w2 := [(h, .inr (3, [.ref h_log, .ref h_past, .int (bI r52.2.2.1), .int r52.2.2.2.1, .int r52.2.2.2.2.1, .int r52.2.2.2.2.2.1, .int r52.2.2.2.2.2.2.1, .int r52.2.2.2.2.2.2.2])), (h_log, .inr (0, [.ref h_log_row, .int r52.1.2])), (h_log_row, .inl (cI, 5000, .inl r52.1.1)), (h_past, .inr (1, [.ref h_past_typed, .int r52.2.1.2.1, .int r52.2.1.2.2])), (h_past_typed, .inl (cI, 300, .inl r52.2.1.1))]) (st2 := []) C (c_Packer_packByte l D cI cL h h_log h_log_row h_past h_past_typed st ((x3 &&& 127).toInt32) r52 hr52) (cV hts kV_Packer_packByte wd_176 ⟨Nat.le_of_ble_eq_true rfl, Nat.le_of_ble_eq_true rfl⟩) hH [0, 1, 2, 3, 4] [] [0, 1, 2, 3, 4] rfl rfl rfl rfl (by decide) rfl rfl 0 rfl rfl rfl hl.1 rfl (Nat.le_of_ble_eq_true rfl) d_Packer_packVarint_52 ⟨Nat.le_of_ble_eq_true rfl, Nat.le_of_ble_eq_true rfl⟩ rfl (fun H locs hH => ?_)
  have hf := Option.some.inj hf
  subst hf
  exact rV C hH d_Packer_packVarint_55
def f_Packer_packVarint_b5 : Nat → S_Packer → Int64 → Int32 → Option (S_Packer)
  | 0, _, _, _ => none
  | n + 1, st, x3, x5 =>
  if (7 : Int32) ≤ x5 then (f_Packer_packVarint_b45 st x3) else (if (lg_cmp x3 127) ≤ 0 then (f_Packer_packVarint_b45 st x3) else (lt1 (f_Packer_packByte st (((x3 &&& 127).toInt32) ||| 128)) (fun r31 => f_Packer_packVarint_b5 n r31 ((x3.toUInt64 >>> ((7 : Int32).toInt64.toUInt64 &&& Int64.toUInt64 63)).toInt64) (x5 + 1))))
set_option maxRecDepth 100000 in
set_option maxHeartbeats 4000000 in
theorem w_Packer_packVarint_b5 (l : Launch) (D : va_G) (cI cL : ClassId) (h h_log h_log_row h_past h_past_typed : Nat) {p : Program} {e : Env} {s : State} {m : MethodId} {args : Array Value} {below : List Frame} {meth : Method} {c : Code} {A : Nat → Prop} (C : Cx p s m args meth c D vwCl [(cI, .int), (cL, .long)] A b_Packer_packVarint 6 none ws_Packer_packVarint y_Packer_packVarint.cls) : ∀ (n : Nat) (st : S_Packer) (x3 : Int64) (x5 : Int32) (res : S_Packer), f_Packer_packVarint_b5 n st x3 x5 = some res → ∀ (H : Heap) (locs : List Loc) (ls : Array Slot), Hp D vwCl A A s.heap H locs [(h, .inr (3, [.ref h_log, .ref h_past, .int (bI st.2.2.1), .int st.2.2.2.1, .int st.2.2.2.2.1, .int st.2.2.2.2.2.1, .int st.2.2.2.2.2.2.1, .int st.2.2.2.2.2.2.2])), (h_log, .inr (0, [.ref h_log_row, .int st.1.2])), (h_log_row, .inl (cI, 5000, .inl st.1.1)), (h_past, .inr (1, [.ref h_past_typed, .int st.2.1.2.1, .int st.2.1.2.2])), (h_past_typed, .inl (cI, 300, .inl st.2.1.1))] → lv_has ls 6 [(0, .ref h), (3, .long x3), (5, .int x5)] → W p l e { frames := 2, cells := 0, slots := 0, locals := 42 } s m args below meth c H locs 0 0 (MQ below (Qw D vwCl [(cI, .int), (cL, .long)] (none) A [(h, .inr (3, [.ref h_log, .ref h_past, .int (bI res.2.2.1), .int res.2.2.2.1, .int res.2.2.2.2.1, .int res.2.2.2.2.2.1, .int res.2.2.2.2.2.2.1, .int res.2.2.2.2.2.2.2])), (h_log, .inr (0, [.ref h_log_row, .int res.1.2])), (h_log_row, .inl (cI, 5000, .inl res.1.1)), (h_past, .inr (1, [.ref h_past_typed, .int res.2.1.2.1, .int res.2.1.2.2])), (h_past_typed, .inl (cI, 300, .inl res.2.1.1))]) args s 0 0 A) (F0 m 5 ls []) := by
  obtain ⟨hx, hb, hr, hml, hown, hts, hlk, hK, hA⟩ := id C
  intro n
  induction n with
  | zero => intro st x3 x5 res hf; cases hf
  | succ n ih =>
    intro st x3 x5 res hf H locs ls hH hl
    rw [f_Packer_packVarint_b5] at hf
    refine lv_iload hx hb d_Packer_packVarint_5 (lv_at hl 2 rfl) ?_
    refine lv_bipush (v := 7) hx hb d_Packer_packVarint_7 (by decide) ?_
    refine lv_icmp_ge (tgt := 45) hx hb d_Packer_packVarint_9 (by decide) (fun hc9 => ?_) (fun hc9 => ?_)
    · have hf := ip hc9 hf
      exact w_Packer_packVarint_b45 l D cI cL h h_log h_log_row h_past h_past_typed C st x3 res hf _ _ _ hH (lv_sub hl [0, 1] rfl)
    · have hf := im hc9 hf
      refine lv_lload_n hx hb d_Packer_packVarint_12 rfl (lv_at hl 1 rfl) ?_
      refine lv_ldc2 (v := 127) hx hb hown (hts _ (.tail _ wd_175)) d_Packer_packVarint_13 ?_
      refine W.lcmp hx hb d_Packer_packVarint_16 ?_
      refine lv_if_le (tgt := 45) hx hb d_Packer_packVarint_17 (by decide) (fun hc17 => ?_) (fun hc17 => ?_)
      · have hf := ip hc17 hf
        exact w_Packer_packVarint_b45 l D cI cL h h_log h_log_row h_past h_past_typed C st x3 res hf _ _ _ hH (lv_sub hl [0, 1] rfl)
      · have hf := im hc17 hf
        refine lv_aload_n hx hb d_Packer_packVarint_20 rfl (lv_at hl 0 rfl) ?_
        refine lv_lload_n hx hb d_Packer_packVarint_21 rfl (lv_at hl 1 rfl) ?_
        refine lv_ldc2 (v := 127) hx hb hown (hts _ (.tail _ wd_175)) d_Packer_packVarint_22 ?_
        refine lv_land hx hb d_Packer_packVarint_25 ?_
        refine lv_l2i (v := (x3 &&& 127).toInt32) hx hb d_Packer_packVarint_26 rfl ?_
        refine lv_sipush (v := 128) hx hb d_Packer_packVarint_27 (by decide) ?_
        refine lv_ior hx hb d_Packer_packVarint_30 ?_
        obtain ⟨r31, hr31, hf⟩ := lb hf
        refine fnV (rest := []) (wr := []) (w2 := [(h, .inr (3, [.ref h_log, .ref h_past, .int (bI r31.2.2.1), .int r31.2.2.2.1, .int r31.2.2.2.2.1, .int r31.2.2.2.2.2.1, .int r31.2.2.2.2.2.2.1, .int r31.2.2.2.2.2.2.2])), (h_log, .inr (0, [.ref h_log_row, .int r31.1.2])), (h_log_row, .inl (cI, 5000, .inl r31.1.1)), (h_past, .inr (1, [.ref h_past_typed, .int r31.2.1.2.1, .int r31.2.1.2.2])), (h_past_typed, .inl (cI, 300, .inl r31.2.1.1))]) (st2 := []) C (c_Packer_packByte l D cI cL h h_log h_log_row h_past h_past_typed st (((x3 &&& 127).toInt32) ||| 128) r31 hr31) (cV hts kV_Packer_packByte wd_176 ⟨Nat.le_of_ble_eq_true rfl, Nat.le_of_ble_eq_true rfl⟩) hH [0, 1, 2, 3, 4] [] [0, 1, 2, 3, 4] rfl rfl rfl rfl (by decide) rfl rfl 0 rfl rfl rfl hl.1 rfl (Nat.le_of_ble_eq_true rfl) d_Packer_packVarint_31 ⟨Nat.le_of_ble_eq_true rfl, Nat.le_of_ble_eq_true rfl⟩ rfl (fun H locs hH => ?_)
        refine lv_lload_n hx hb d_Packer_packVarint_34 rfl (lv_at hl 1 rfl) ?_
        refine lv_bipush (v := 7) hx hb d_Packer_packVarint_35 (by decide) ?_
        refine lv_lushr (v := (x3.toUInt64 >>> ((7 : Int32).toInt64.toUInt64 &&& Int64.toUInt64 63)).toInt64) hx hb d_Packer_packVarint_37 rfl ?_
        refine lv_lstore_n (lv' := [(3, .long ((x3.toUInt64 >>> ((7 : Int32).toInt64.toUInt64 &&& Int64.toUInt64 63)).toInt64)), (0, .ref h), (5, .int x5)]) hx hb d_Packer_packVarint_38 rfl hl (by decide) rfl (fun ls hl => ?_)
        refine lv_iinc (v := x5 + 1) (lv' := [(5, .int (x5 + 1)), (3, .long ((x3.toUInt64 >>> ((7 : Int32).toInt64.toUInt64 &&& Int64.toUInt64 63)).toInt64)), (0, .ref h)]) hx hb d_Packer_packVarint_39 hl (k := 2) rfl rfl (by decide) rfl (fun ls hl => ?_)
        refine lv_goto (tgt := 5) hx hb d_Packer_packVarint_42 (by decide) ?_
        exact ih r31 ((x3.toUInt64 >>> ((7 : Int32).toInt64.toUInt64 &&& Int64.toUInt64 63)).toInt64) (x5 + 1) res hf _ _ _ hH (lv_sub hl [2, 1, 0] rfl)
def f_Packer_packVarint (st : S_Packer) (x1 : Int64) : Option (S_Packer) :=
  f_Packer_packVarint_b5 400 st x1 1
set_option maxRecDepth 100000 in
set_option maxHeartbeats 4000000 in
theorem c_Packer_packVarint (l : Launch) (D : va_G) (cI cL : ClassId) (h h_log h_log_row h_past h_past_typed : Nat) (st : S_Packer) (x1 : Int64) (res : S_Packer) (hf : f_Packer_packVarint st x1 = some res) :
    Fn l D vwCl [(cI, .int), (cL, .long)] y_Packer_packVarint ws_Packer_packVarint { frames := 2, cells := 0, slots := 0, locals := 42 } [.ref h, .long x1] [(h, .inr (3, [.ref h_log, .ref h_past, .int (bI st.2.2.1), .int st.2.2.2.1, .int st.2.2.2.2.1, .int st.2.2.2.2.2.1, .int st.2.2.2.2.2.2.1, .int st.2.2.2.2.2.2.2])), (h_log, .inr (0, [.ref h_log_row, .int st.1.2])), (h_log_row, .inl (cI, 5000, .inl st.1.1)), (h_past, .inr (1, [.ref h_past_typed, .int st.2.1.2.1, .int st.2.1.2.2])), (h_past_typed, .inl (cI, 300, .inl st.2.1.1))] (none) [(h, .inr (3, [.ref h_log, .ref h_past, .int (bI res.2.2.1), .int res.2.2.2.1, .int res.2.2.2.2.1, .int res.2.2.2.2.2.1, .int res.2.2.2.2.2.2.1, .int res.2.2.2.2.2.2.2])), (h_log, .inr (0, [.ref h_log_row, .int res.1.2])), (h_log_row, .inl (cI, 5000, .inl res.1.1)), (h_past, .inr (1, [.ref h_past_typed, .int res.2.1.2.1, .int res.2.1.2.2])), (h_past_typed, .inl (cI, 300, .inl res.2.1.1))] := by
  refine Fn.ofW (cc := b_Packer_packVarint) (maxL := 6) (ret := none) (by decide) rfl (Nat.le_of_ble_eq_true rfl) ?_
  intro p e s m below meth c A ls C hH hinit hl
  have hl : lv_has ls 6 [(0, .ref h), (1, .long x1)] := hl
  obtain ⟨hx, hb, hr, hml, hown, hts, hlk, hK, hA⟩ := id C
  unfold f_Packer_packVarint at hf
  refine lv_lload_n hx hb d_Packer_packVarint_0 rfl (lv_at hl 1 rfl) ?_
  refine lv_lstore_n (lv' := [(3, .long x1), (0, .ref h), (1, .long x1)]) hx hb d_Packer_packVarint_1 rfl hl (by decide) rfl (fun ls hl => ?_)
  refine lv_iconst (v := 1) hx hb d_Packer_packVarint_2 (by decide) ?_
  refine lv_istore (lv' := [(5, .int 1), (3, .long x1), (0, .ref h), (1, .long x1)]) hx hb d_Packer_packVarint_3 hl (by decide) rfl (fun ls hl => ?_)
  exact w_Packer_packVarint_b5 l D cI cL h h_log h_log_row h_past h_past_typed C 400 st x1 1 res hf _ _ _ hH (lv_sub hl [2, 1, 0] rfl)
def f_Packer_packRun (st : S_Packer) (x1 : Int32) : Option (S_Packer) :=
  if 0 < x1 then (if (15 : Int32) < x1 then (lt1 (f_Packer_packByte ((st.1, st.2.1, st.2.2.1, st.2.2.2.1, st.2.2.2.2.1 + 1, st.2.2.2.2.2.1 + 1, st.2.2.2.2.2.2.1, st.2.2.2.2.2.2.2)) 5) (fun r45 => (f_Packer_packVarint r45 x1.toInt64).bind (fun r51 => some r51))) else (lt1 (f_Packer_packByte ((st.1, st.2.1, st.2.2.1, st.2.2.2.1, st.2.2.2.2.1 + 1, st.2.2.2.2.2.1 + 1, st.2.2.2.2.2.2.1, st.2.2.2.2.2.2.2)) ((5 : Int32) ||| (x1 <<< (4 &&& 31)))) (fun r37 => some r37))) else (some st)
set_option maxRecDepth 100000 in
set_option maxHeartbeats 4000000 in
theorem c_Packer_packRun (l : Launch) (D : va_G) (cI cL : ClassId) (h h_log h_log_row h_past h_past_typed : Nat) (st : S_Packer) (x1 : Int32) (res : S_Packer) (hf : f_Packer_packRun st x1 = some res) :
    Fn l D vwCl [(cI, .int), (cL, .long)] y_Packer_packRun ws_Packer_packRun { frames := 3, cells := 0, slots := 0, locals := 67 } [.ref h, .int x1] [(h, .inr (3, [.ref h_log, .ref h_past, .int (bI st.2.2.1), .int st.2.2.2.1, .int st.2.2.2.2.1, .int st.2.2.2.2.2.1, .int st.2.2.2.2.2.2.1, .int st.2.2.2.2.2.2.2])), (h_log, .inr (0, [.ref h_log_row, .int st.1.2])), (h_log_row, .inl (cI, 5000, .inl st.1.1)), (h_past, .inr (1, [.ref h_past_typed, .int st.2.1.2.1, .int st.2.1.2.2])), (h_past_typed, .inl (cI, 300, .inl st.2.1.1))] (none) [(h, .inr (3, [.ref h_log, .ref h_past, .int (bI res.2.2.1), .int res.2.2.2.1, .int res.2.2.2.2.1, .int res.2.2.2.2.2.1, .int res.2.2.2.2.2.2.1, .int res.2.2.2.2.2.2.2])), (h_log, .inr (0, [.ref h_log_row, .int res.1.2])), (h_log_row, .inl (cI, 5000, .inl res.1.1)), (h_past, .inr (1, [.ref h_past_typed, .int res.2.1.2.1, .int res.2.1.2.2])), (h_past_typed, .inl (cI, 300, .inl res.2.1.1))] := by
  refine Fn.ofW (cc := b_Packer_packRun) (maxL := 2) (ret := none) (by decide) rfl (Nat.le_of_ble_eq_true rfl) ?_
  intro p e s m below meth c A ls C hH hinit hl
  have hl : lv_has ls 2 [(0, .ref h), (1, .int x1)] := hl
  obtain ⟨hx, hb, hr, hml, hown, hts, hlk, hK, hA⟩ := id C
  unfold f_Packer_packRun at hf
  refine lv_iload_n hx hb d_Packer_packRun_0 rfl (lv_at hl 1 rfl) ?_
  refine lv_if_gt (tgt := 5) hx hb d_Packer_packRun_1 (by decide) (fun hc1 => ?_) (fun hc1 => ?_)
  · have hf := ip hc1 hf
    refine lv_aload_n hx hb d_Packer_packRun_5 rfl (lv_at hl 0 rfl) ?_
    refine lv_dup hx hb d_Packer_packRun_6 rfl ?_
    refine gt (ci := 3) (v := .int st.2.2.2.2.1) C hH (iwT iw_Packer) 0 rfl rfl 4 (by decide) (.tail _ wd_86) rfl d_Packer_packRun_7 ?_
    refine lv_iconst (v := 1) hx hb d_Packer_packRun_10 (by decide) ?_
    refine lv_iadd hx hb d_Packer_packRun_11 ?_
    refine pt (ci := 3) (v := .int (st.2.2.2.2.1 + 1)) C hH (iwT iw_Packer) ty_Packer tyok_Packer nm_Packer 0 rfl rfl 4 (by decide) (.tail _ wd_86) rfl rfl rfl (Nat.le_of_ble_eq_true rfl) d_Packer_packRun_12 [(h, .inr (3, [.ref h_log, .ref h_past, .int (bI st.2.2.1), .int st.2.2.2.1, .int (st.2.2.2.2.1 + 1), .int st.2.2.2.2.2.1, .int st.2.2.2.2.2.2.1, .int st.2.2.2.2.2.2.2])), (h_log, .inr (0, [.ref h_log_row, .int st.1.2])), (h_log_row, .inl (cI, 5000, .inl st.1.1)), (h_past, .inr (1, [.ref h_past_typed, .int st.2.1.2.1, .int st.2.1.2.2])), (h_past_typed, .inl (cI, 300, .inl st.2.1.1))] rfl (fun H locs hH => ?_)
    refine lv_aload_n hx hb d_Packer_packRun_15 rfl (lv_at hl 0 rfl) ?_
    refine lv_dup hx hb d_Packer_packRun_16 rfl ?_
    refine gt (ci := 3) (v := .int st.2.2.2.2.2.1) C hH (iwT iw_Packer) 0 rfl rfl 5 (by decide) (.tail _ wd_87) rfl d_Packer_packRun_17 ?_
    refine lv_iconst (v := 1) hx hb d_Packer_packRun_20 (by decide) ?_
    refine lv_iadd hx hb d_Packer_packRun_21 ?_
    refine pt (ci := 3) (v := .int (st.2.2.2.2.2.1 + 1)) C hH (iwT iw_Packer) ty_Packer tyok_Packer nm_Packer 0 rfl rfl 5 (by decide) (.tail _ wd_87) rfl rfl rfl (Nat.le_of_ble_eq_true rfl) d_Packer_packRun_22 [(h, .inr (3, [.ref h_log, .ref h_past, .int (bI st.2.2.1), .int st.2.2.2.1, .int (st.2.2.2.2.1 + 1), .int (st.2.2.2.2.2.1 + 1), .int st.2.2.2.2.2.2.1, .int st.2.2.2.2.2.2.2])), (h_log, .inr (0, [.ref h_log_row, .int st.1.2])), (h_log_row, .inl (cI, 5000, .inl st.1.1)), (h_past, .inr (1, [.ref h_past_typed, .int st.2.1.2.1, .int st.2.1.2.2])), (h_past_typed, .inl (cI, 300, .inl st.2.1.1))] rfl (fun H locs hH => ?_)
    refine lv_iload_n hx hb d_Packer_packRun_25 rfl (lv_at hl 1 rfl) ?_
    refine lv_bipush (v := 15) hx hb d_Packer_packRun_26 (by decide) ?_
    refine lv_icmp_gt (tgt := 43) hx hb d_Packer_packRun_28 (by decide) (fun hc28 => ?_) (fun hc28 => ?_)
    · have hf := ip hc28 hf
      refine lv_aload_n hx hb d_Packer_packRun_43 rfl (lv_at hl 0 rfl) ?_
      refine lv_iconst (v := 5) hx hb d_Packer_packRun_44 (by decide) ?_
      obtain ⟨r45, hr45, hf⟩ := lb hf
      refine fnV (rest := []) (wr := []) (w2 := [(h, .inr (3, [.ref h_log, .ref h_past, .int (bI r45.2.2.1), .int r45.2.2.2.1, .int r45.2.2.2.2.1, .int r45.2.2.2.2.2.1, .int r45.2.2.2.2.2.2.1, .int r45.2.2.2.2.2.2.2])), (h_log, .inr (0, [.ref h_log_row, .int r45.1.2])), (h_log_row, .inl (cI, 5000, .inl r45.1.1)), (h_past, .inr (1, [.ref h_past_typed, .int r45.2.1.2.1, .int r45.2.1.2.2])), (h_past_typed, .inl (cI, 300, .inl r45.2.1.1))]) (st2 := []) C (c_Packer_packByte l D cI cL h h_log h_log_row h_past h_past_typed ((st.1, st.2.1, st.2.2.1, st.2.2.2.1, st.2.2.2.2.1 + 1, st.2.2.2.2.2.1 + 1, st.2.2.2.2.2.2.1, st.2.2.2.2.2.2.2)) 5 r45 hr45) (cV hts kV_Packer_packByte wd_176 ⟨Nat.le_of_ble_eq_true rfl, Nat.le_of_ble_eq_true rfl⟩) hH [0, 1, 2, 3, 4] [] [0, 1, 2, 3, 4] rfl rfl rfl rfl (by decide) rfl rfl 0 rfl rfl rfl hl.1 rfl (Nat.le_of_ble_eq_true rfl) d_Packer_packRun_45 ⟨Nat.le_of_ble_eq_true rfl, Nat.le_of_ble_eq_true rfl⟩ rfl (fun H locs hH => ?_)
      refine lv_aload_n hx hb d_Packer_packRun_48 rfl (lv_at hl 0 rfl) ?_
      refine lv_iload_n hx hb d_Packer_packRun_49 rfl (lv_at hl 1 rfl) ?_
      refine lv_i2l (v := x1.toInt64) hx hb d_Packer_packRun_50 rfl ?_
      obtain ⟨r51, hr51, hf⟩ := ob hf
      refine fnV (rest := []) (wr := []) (w2 := [(h, .inr (3, [.ref h_log, .ref h_past, .int (bI r51.2.2.1), .int r51.2.2.2.1, .int r51.2.2.2.2.1, .int r51.2.2.2.2.2.1, .int r51.2.2.2.2.2.2.1, .int r51.2.2.2.2.2.2.2])), (h_log, .inr (0, [.ref h_log_row, .int r51.1.2])), (h_log_row, .inl (cI, 5000, .inl r51.1.1)), (h_past, .inr (1, [.ref h_past_typed, .int r51.2.1.2.1, .int r51.2.1.2.2])), (h_past_typed, .inl (cI, 300, .inl r51.2.1.1))]) (st2 := []) C (c_Packer_packVarint l D cI cL h h_log h_log_row h_past h_past_typed r45 x1.toInt64 r51 hr51) (cV hts kV_Packer_packVarint wd_171 ⟨Nat.le_of_ble_eq_true rfl, Nat.le_of_ble_eq_true rfl⟩) hH [0, 1, 2, 3, 4] [] [0, 1, 2, 3, 4] rfl rfl rfl rfl (by decide) rfl rfl 0 rfl rfl rfl hl.1 rfl (Nat.le_of_ble_eq_true rfl) d_Packer_packRun_51 ⟨Nat.le_of_ble_eq_true rfl, Nat.le_of_ble_eq_true rfl⟩ rfl (fun H locs hH => ?_)
      have hf := Option.some.inj hf
      subst hf
      exact rV C hH d_Packer_packRun_54
    · have hf := im hc28 hf
      refine lv_aload_n hx hb d_Packer_packRun_31 rfl (lv_at hl 0 rfl) ?_
      refine lv_iconst (v := 5) hx hb d_Packer_packRun_32 (by decide) ?_
      refine lv_iload_n hx hb d_Packer_packRun_33 rfl (lv_at hl 1 rfl) ?_
      refine lv_iconst (v := 4) hx hb d_Packer_packRun_34 (by decide) ?_
      refine lv_ishl hx hb d_Packer_packRun_35 ?_
      refine lv_ior hx hb d_Packer_packRun_36 ?_
      obtain ⟨r37, hr37, hf⟩ := lb hf
      refine fnV (rest := []) (wr := []) (w2 := [(h, .inr (3, [.ref h_log, .ref h_past, .int (bI r37.2.2.1), .int r37.2.2.2.1, .int r37.2.2.2.2.1, .int r37.2.2.2.2.2.1, .int r37.2.2.2.2.2.2.1, .int r37.2.2.2.2.2.2.2])), (h_log, .inr (0, [.ref h_log_row, .int r37.1.2])), (h_log_row, .inl (cI, 5000, .inl r37.1.1)), (h_past, .inr (1, [.ref h_past_typed, .int r37.2.1.2.1, .int r37.2.1.2.2])), (h_past_typed, .inl (cI, 300, .inl r37.2.1.1))]) (st2 := []) C (c_Packer_packByte l D cI cL h h_log h_log_row h_past h_past_typed ((st.1, st.2.1, st.2.2.1, st.2.2.2.1, st.2.2.2.2.1 + 1, st.2.2.2.2.2.1 + 1, st.2.2.2.2.2.2.1, st.2.2.2.2.2.2.2)) ((5 : Int32) ||| (x1 <<< (4 &&& 31))) r37 hr37) (cV hts kV_Packer_packByte wd_176 ⟨Nat.le_of_ble_eq_true rfl, Nat.le_of_ble_eq_true rfl⟩) hH [0, 1, 2, 3, 4] [] [0, 1, 2, 3, 4] rfl rfl rfl rfl (by decide) rfl rfl 0 rfl rfl rfl hl.1 rfl (Nat.le_of_ble_eq_true rfl) d_Packer_packRun_37 ⟨Nat.le_of_ble_eq_true rfl, Nat.le_of_ble_eq_true rfl⟩ rfl (fun H locs hH => ?_)
      refine lv_goto (tgt := 54) hx hb d_Packer_packRun_40 (by decide) ?_
      have hf := Option.some.inj hf
      subst hf
      exact rV C hH d_Packer_packRun_54
  · have hf := im hc1 hf
    have hf := Option.some.inj hf
    subst hf
    exact rV C hH d_Packer_packRun_4
def f_Packer_repeated_b22 : Nat → S_Packer → S_Events → Int32 → Int32 → Option (Int32)
  | 0, _, _, _, _ => none
  | n + 1, st, e1, x2, x3 =>
  if (20 : Int32) < x3 then (some 0) else (if (bI (f_Events_bringTheSame e1 x2 (f_Past_typedBefore st.2.1 x3.toInt64))) = 0 then (f_Packer_repeated_b22 n st e1 x2 (x3 + 1)) else (some x3))
set_option maxRecDepth 100000 in
set_option maxHeartbeats 4000000 in
theorem w_Packer_repeated_b22 (l : Launch) (D : va_G) (cI cL : ClassId) (h h_log h_log_row h_past h_past_typed q1 q1_kinds q1_differences q1_partsA q1_partsB : Nat) {p : Program} {e : Env} {s : State} {m : MethodId} {args : Array Value} {below : List Frame} {meth : Method} {c : Code} {A : Nat → Prop} (C : Cx p s m args meth c D vwCl [(cI, .int), (cL, .long)] A b_Packer_repeated 4 (some .int) ws_Packer_repeated y_Packer_repeated.cls) : ∀ (n : Nat) (st : S_Packer) (e1 : S_Events) (x2 : Int32) (x3 : Int32) (res : Int32), f_Packer_repeated_b22 n st e1 x2 x3 = some res → ∀ (H : Heap) (locs : List Loc) (ls : Array Slot), Hp D vwCl (fun _ => True) A s.heap H locs [(h, .inr (3, [.ref h_log, .ref h_past, .int (bI st.2.2.1), .int st.2.2.2.1, .int st.2.2.2.2.1, .int st.2.2.2.2.2.1, .int st.2.2.2.2.2.2.1, .int st.2.2.2.2.2.2.2])), (h_log, .inr (0, [.ref h_log_row, .int st.1.2])), (h_log_row, .inl (cI, 5000, .inl st.1.1)), (h_past, .inr (1, [.ref h_past_typed, .int st.2.1.2.1, .int st.2.1.2.2])), (h_past_typed, .inl (cI, 300, .inl st.2.1.1)), (q1, .inr (2, [.ref q1_kinds, .ref q1_differences, .ref q1_partsA, .ref q1_partsB, .int e1.2.2.2.2])), (q1_kinds, .inl (cI, 300, .inl e1.1)), (q1_differences, .inl (cL, 300, .inr (.inl e1.2.1))), (q1_partsA, .inl (cL, 300, .inr (.inl e1.2.2.1))), (q1_partsB, .inl (cI, 300, .inl e1.2.2.2.1))] → lv_has ls 4 [(0, .ref h), (1, .ref q1), (2, .int x2), (3, .int x3)] → W p l e { frames := 2, cells := 0, slots := 0, locals := 43 } s m args below meth c H locs 0 0 (MQ below (QR (some (.int res)) A) args s 0 0 A) (F0 m 22 ls []) := by
  obtain ⟨hx, hb, hr, hml, hown, hts, hlk, hK, hA⟩ := id C
  intro n
  induction n with
  | zero => intro st e1 x2 x3 res hf; cases hf
  | succ n ih =>
    intro st e1 x2 x3 res hf H locs ls hH hl
    rw [f_Packer_repeated_b22] at hf
    refine lv_iload_n hx hb d_Packer_repeated_22 rfl (lv_at hl 3 rfl) ?_
    refine lv_bipush (v := 20) hx hb d_Packer_repeated_23 (by decide) ?_
    refine lv_icmp_gt (tgt := 53) hx hb d_Packer_repeated_25 (by decide) (fun hc25 => ?_) (fun hc25 => ?_)
    · have hf := ip hc25 hf
      refine lv_iconst (v := 0) hx hb d_Packer_repeated_53 (by decide) ?_
      have hf := Option.some.inj hf
      subst hf
      exact rIR (v := 0) C hH d_Packer_repeated_54
    · have hf := im hc25 hf
      refine lv_aload_n hx hb d_Packer_repeated_28 rfl (lv_at hl 1 rfl) ?_
      refine lv_iload_n hx hb d_Packer_repeated_29 rfl (lv_at hl 2 rfl) ?_
      refine lv_aload_n hx hb d_Packer_repeated_30 rfl (lv_at hl 0 rfl) ?_
      refine gt (ci := 3) (v := .ref h_past) C hH (iwT iw_Packer) 0 rfl rfl 1 (by decide) (.tail _ wd_83) rfl d_Packer_repeated_31 ?_
      refine lv_iload_n hx hb d_Packer_repeated_34 rfl (lv_at hl 3 rfl) ?_
      refine lv_i2l (v := x3.toInt64) hx hb d_Packer_repeated_35 rfl ?_
      refine fnVR (rest := [.int x2, .ref q1]) (st2 := [.int (f_Past_typedBefore st.2.1 x3.toInt64), .int x2, .ref q1]) C (c_Past_typedBefore l D cI cL h_past h_past_typed st.2.1 x3.toInt64 _ rfl) (cV hts kV_Past_typedBefore wd_225 ⟨Nat.le_of_ble_eq_true rfl, Nat.le_of_ble_eq_true rfl⟩) hH [3, 4] rfl rfl 0 rfl rfl rfl hl.1 rfl (Nat.le_of_ble_eq_true rfl) d_Packer_repeated_36 ⟨Nat.le_of_ble_eq_true rfl, Nat.le_of_ble_eq_true rfl⟩ rfl (fun H locs hH => ?_)
      refine fnVR (rest := []) (st2 := [.int (bI (f_Events_bringTheSame e1 x2 (f_Past_typedBefore st.2.1 x3.toInt64)))]) C (c_Events_bringTheSame l D cI cL q1 q1_kinds q1_differences q1_partsA q1_partsB e1 x2 (f_Past_typedBefore st.2.1 x3.toInt64) _ rfl) (cV hts kV_Events_bringTheSame wd_230 ⟨Nat.le_of_ble_eq_true rfl, Nat.le_of_ble_eq_true rfl⟩) hH [5, 6, 7, 8, 9] rfl rfl 0 rfl rfl rfl hl.1 rfl (Nat.le_of_ble_eq_true rfl) d_Packer_repeated_39 ⟨Nat.le_of_ble_eq_true rfl, Nat.le_of_ble_eq_true rfl⟩ rfl (fun H locs hH => ?_)
      refine lv_if_eq (tgt := 47) hx hb d_Packer_repeated_42 (by decide) (fun hc42 => ?_) (fun hc42 => ?_)
      · have hf := ip hc42 hf
        refine lv_iinc (v := x3 + 1) (lv' := [(3, .int (x3 + 1)), (0, .ref h), (1, .ref q1), (2, .int x2)]) hx hb d_Packer_repeated_47 hl (k := 3) rfl rfl (by decide) rfl (fun ls hl => ?_)
        refine lv_goto (tgt := 22) hx hb d_Packer_repeated_50 (by decide) ?_
        exact ih st e1 x2 (x3 + 1) res hf _ _ _ hH (lv_sub hl [1, 2, 3, 0] rfl)
      · have hf := im hc42 hf
        refine lv_iload_n hx hb d_Packer_repeated_45 rfl (lv_at hl 3 rfl) ?_
        have hf := Option.some.inj hf
        subst hf
        exact rIR (v := x3) C hH d_Packer_repeated_46
def f_Packer_repeated (st : S_Packer) (e1 : S_Events) (x2 : Int32) : Option (Int32) :=
  if (f_Events_kind e1 x2) = (1 : Int32) then (if (2 : Int32) ≤ (f_Events_b e1 x2) then (f_Packer_repeated_b22 400 st e1 x2 1) else (some 0)) else (some 0)
set_option maxRecDepth 100000 in
set_option maxHeartbeats 4000000 in
theorem c_Packer_repeated (l : Launch) (D : va_G) (cI cL : ClassId) (h h_log h_log_row h_past h_past_typed q1 q1_kinds q1_differences q1_partsA q1_partsB : Nat) (st : S_Packer) (e1 : S_Events) (x2 : Int32) (res : Int32) (hf : f_Packer_repeated st e1 x2 = some res) :
    FnR l D vwCl [(cI, .int), (cL, .long)] y_Packer_repeated ws_Packer_repeated { frames := 2, cells := 0, slots := 0, locals := 43 } [.ref h, .ref q1, .int x2] [(h, .inr (3, [.ref h_log, .ref h_past, .int (bI st.2.2.1), .int st.2.2.2.1, .int st.2.2.2.2.1, .int st.2.2.2.2.2.1, .int st.2.2.2.2.2.2.1, .int st.2.2.2.2.2.2.2])), (h_log, .inr (0, [.ref h_log_row, .int st.1.2])), (h_log_row, .inl (cI, 5000, .inl st.1.1)), (h_past, .inr (1, [.ref h_past_typed, .int st.2.1.2.1, .int st.2.1.2.2])), (h_past_typed, .inl (cI, 300, .inl st.2.1.1)), (q1, .inr (2, [.ref q1_kinds, .ref q1_differences, .ref q1_partsA, .ref q1_partsB, .int e1.2.2.2.2])), (q1_kinds, .inl (cI, 300, .inl e1.1)), (q1_differences, .inl (cL, 300, .inr (.inl e1.2.1))), (q1_partsA, .inl (cL, 300, .inr (.inl e1.2.2.1))), (q1_partsB, .inl (cI, 300, .inl e1.2.2.2.1))] (some (.int res)) := by
  refine FnR.ofW (cc := b_Packer_repeated) (maxL := 4) (ret := (some .int)) (by decide) rfl (Nat.le_of_ble_eq_true rfl) ?_
  intro p e s m below meth c A ls C hH hl
  have hl : lv_has ls 4 [(0, .ref h), (1, .ref q1), (2, .int x2)] := hl
  obtain ⟨hx, hb, hr, hml, hown, hts, hlk, hK, hA⟩ := id C
  unfold f_Packer_repeated at hf
  refine lv_aload_n hx hb d_Packer_repeated_0 rfl (lv_at hl 1 rfl) ?_
  refine lv_iload_n hx hb d_Packer_repeated_1 rfl (lv_at hl 2 rfl) ?_
  refine fnVR (rest := []) (st2 := [.int (f_Events_kind e1 x2)]) C (c_Events_kind l D cI cL q1 q1_kinds q1_differences q1_partsA q1_partsB e1 x2 _ rfl) (cV hts kV_Events_kind wd_217 ⟨Nat.le_of_ble_eq_true rfl, Nat.le_of_ble_eq_true rfl⟩) hH [5, 6, 7, 8, 9] rfl rfl 0 rfl rfl rfl hl.1 rfl (Nat.le_of_ble_eq_true rfl) d_Packer_repeated_2 ⟨Nat.le_of_ble_eq_true rfl, Nat.le_of_ble_eq_true rfl⟩ rfl (fun H locs hH => ?_)
  refine lv_iconst (v := 1) hx hb d_Packer_repeated_5 (by decide) ?_
  refine lv_icmp_ne (tgt := 18) hx hb d_Packer_repeated_6 (by decide) (fun hc6 => ?_) (fun hc6 => ?_)
  · have hf := im hc6 hf
    refine lv_iconst (v := 0) hx hb d_Packer_repeated_18 (by decide) ?_
    have hf := Option.some.inj hf
    subst hf
    exact rIR (v := 0) C hH d_Packer_repeated_19
  · have hf := ip hc6 hf
    refine lv_aload_n hx hb d_Packer_repeated_9 rfl (lv_at hl 1 rfl) ?_
    refine lv_iload_n hx hb d_Packer_repeated_10 rfl (lv_at hl 2 rfl) ?_
    refine fnVR (rest := []) (st2 := [.int (f_Events_b e1 x2)]) C (c_Events_b l D cI cL q1 q1_kinds q1_differences q1_partsA q1_partsB e1 x2 _ rfl) (cV hts kV_Events_b wd_221 ⟨Nat.le_of_ble_eq_true rfl, Nat.le_of_ble_eq_true rfl⟩) hH [5, 6, 7, 8, 9] rfl rfl 0 rfl rfl rfl hl.1 rfl (Nat.le_of_ble_eq_true rfl) d_Packer_repeated_11 ⟨Nat.le_of_ble_eq_true rfl, Nat.le_of_ble_eq_true rfl⟩ rfl (fun H locs hH => ?_)
    refine lv_iconst (v := 2) hx hb d_Packer_repeated_14 (by decide) ?_
    refine lv_icmp_ge (tgt := 20) hx hb d_Packer_repeated_15 (by decide) (fun hc15 => ?_) (fun hc15 => ?_)
    · have hf := ip hc15 hf
      refine lv_iconst (v := 1) hx hb d_Packer_repeated_20 (by decide) ?_
      refine lv_istore_n (lv' := [(3, .int 1), (0, .ref h), (1, .ref q1), (2, .int x2)]) hx hb d_Packer_repeated_21 rfl hl (by decide) rfl (fun ls hl => ?_)
      exact w_Packer_repeated_b22 l D cI cL h h_log h_log_row h_past h_past_typed q1 q1_kinds q1_differences q1_partsA q1_partsB C 400 st e1 x2 1 res hf _ _ _ hH (lv_sub hl [1, 2, 3, 0] rfl)
    · have hf := im hc15 hf
      refine lv_iconst (v := 0) hx hb d_Packer_repeated_18 (by decide) ?_
      have hf := Option.some.inj hf
      subst hf
      exact rIR (v := 0) C hH d_Packer_repeated_19
def f_Packer_headX (st : S_Packer) (e1 : S_Events) (x2 : Int32) (x3 : Int32) : Int32 :=
  if f_Events_kind e1 x2 = 0 then ((f_Events_a e1 x2).toInt32) else if f_Events_kind e1 x2 = 1 then (if x3 ≤ 0 then (f_Events_b e1 x2) else (0)) else if f_Events_kind e1 x2 = 2 then ((f_Events_a e1 x2).toInt32) else if f_Events_kind e1 x2 = 3 then (if (bI (f_Events_bringTheSame e1 x2 (f_Past_latestClock st.2.1))) = 0 then (0) else (1)) else (0)
set_option maxRecDepth 100000 in
set_option maxHeartbeats 4000000 in
theorem c_Packer_headX (l : Launch) (D : va_G) (cI cL : ClassId) (h h_log h_log_row h_past h_past_typed q1 q1_kinds q1_differences q1_partsA q1_partsB : Nat) (st : S_Packer) (e1 : S_Events) (x2 : Int32) (x3 : Int32) (res : Int32) (hf : f_Packer_headX st e1 x2 x3 = res) :
    FnR l D vwCl [(cI, .int), (cL, .long)] y_Packer_headX ws_Packer_headX { frames := 2, cells := 0, slots := 0, locals := 43 } [.ref h, .ref q1, .int x2, .int x3] [(h, .inr (3, [.ref h_log, .ref h_past, .int (bI st.2.2.1), .int st.2.2.2.1, .int st.2.2.2.2.1, .int st.2.2.2.2.2.1, .int st.2.2.2.2.2.2.1, .int st.2.2.2.2.2.2.2])), (h_log, .inr (0, [.ref h_log_row, .int st.1.2])), (h_log_row, .inl (cI, 5000, .inl st.1.1)), (h_past, .inr (1, [.ref h_past_typed, .int st.2.1.2.1, .int st.2.1.2.2])), (h_past_typed, .inl (cI, 300, .inl st.2.1.1)), (q1, .inr (2, [.ref q1_kinds, .ref q1_differences, .ref q1_partsA, .ref q1_partsB, .int e1.2.2.2.2])), (q1_kinds, .inl (cI, 300, .inl e1.1)), (q1_differences, .inl (cL, 300, .inr (.inl e1.2.1))), (q1_partsA, .inl (cL, 300, .inr (.inl e1.2.2.1))), (q1_partsB, .inl (cI, 300, .inl e1.2.2.2.1))] (some (.int res)) := by
  refine FnR.ofW (cc := b_Packer_headX) (maxL := 4) (ret := (some .int)) (by decide) rfl (Nat.le_of_ble_eq_true rfl) ?_
  intro p e s m below meth c A ls C hH hl
  have hl : lv_has ls 4 [(0, .ref h), (1, .ref q1), (2, .int x2), (3, .int x3)] := hl
  obtain ⟨hx, hb, hr, hml, hown, hts, hlk, hK, hA⟩ := id C
  unfold f_Packer_headX at hf
  refine lv_aload_n hx hb d_Packer_headX_0 rfl (lv_at hl 1 rfl) ?_
  refine lv_iload_n hx hb d_Packer_headX_1 rfl (lv_at hl 2 rfl) ?_
  refine fnVR (rest := []) (st2 := [.int (f_Events_kind e1 x2)]) C (c_Events_kind l D cI cL q1 q1_kinds q1_differences q1_partsA q1_partsB e1 x2 _ rfl) (cV hts kV_Events_kind wd_217 ⟨Nat.le_of_ble_eq_true rfl, Nat.le_of_ble_eq_true rfl⟩) hH [5, 6, 7, 8, 9] rfl rfl 0 rfl rfl rfl hl.1 rfl (Nat.le_of_ble_eq_true rfl) d_Packer_headX_2 ⟨Nat.le_of_ble_eq_true rfl, Nat.le_of_ble_eq_true rfl⟩ rfl (fun H locs hH => ?_)
  by_cases hc5_0 : f_Events_kind e1 x2 = 0
  · have hf := ip hc5_0 hf
    refine lv_tableIn (tgt := 36) hx hb d_Packer_headX_5 (by rw [hc5_0]; decide) (by rw [hc5_0]; decide) (by rw [hc5_0]; rfl) (by decide) ?_
    refine lv_aload_n hx hb d_Packer_headX_36 rfl (lv_at hl 1 rfl) ?_
    refine lv_iload_n hx hb d_Packer_headX_37 rfl (lv_at hl 2 rfl) ?_
    refine fnVR (rest := []) (st2 := [.long (f_Events_a e1 x2)]) C (c_Events_a l D cI cL q1 q1_kinds q1_differences q1_partsA q1_partsB e1 x2 _ rfl) (cV hts kV_Events_a wd_235 ⟨Nat.le_of_ble_eq_true rfl, Nat.le_of_ble_eq_true rfl⟩) hH [5, 6, 7, 8, 9] rfl rfl 0 rfl rfl rfl hl.1 rfl (Nat.le_of_ble_eq_true rfl) d_Packer_headX_38 ⟨Nat.le_of_ble_eq_true rfl, Nat.le_of_ble_eq_true rfl⟩ rfl (fun H locs hH => ?_)
    refine lv_l2i (v := (f_Events_a e1 x2).toInt32) hx hb d_Packer_headX_41 rfl ?_
    subst hf
    exact rIR (v := (f_Events_a e1 x2).toInt32) C hH d_Packer_headX_42
  have hf := im hc5_0 hf
  by_cases hc5_1 : f_Events_kind e1 x2 = 1
  · have hf := ip hc5_1 hf
    refine lv_tableIn (tgt := 43) hx hb d_Packer_headX_5 (by rw [hc5_1]; decide) (by rw [hc5_1]; decide) (by rw [hc5_1]; rfl) (by decide) ?_
    refine lv_iload_n hx hb d_Packer_headX_43 rfl (lv_at hl 3 rfl) ?_
    refine lv_if_le (tgt := 51) hx hb d_Packer_headX_44 (by decide) (fun hc44 => ?_) (fun hc44 => ?_)
    · have hf := ip hc44 hf
      refine lv_aload_n hx hb d_Packer_headX_51 rfl (lv_at hl 1 rfl) ?_
      refine lv_iload_n hx hb d_Packer_headX_52 rfl (lv_at hl 2 rfl) ?_
      refine fnVR (rest := []) (st2 := [.int (f_Events_b e1 x2)]) C (c_Events_b l D cI cL q1 q1_kinds q1_differences q1_partsA q1_partsB e1 x2 _ rfl) (cV hts kV_Events_b wd_221 ⟨Nat.le_of_ble_eq_true rfl, Nat.le_of_ble_eq_true rfl⟩) hH [5, 6, 7, 8, 9] rfl rfl 0 rfl rfl rfl hl.1 rfl (Nat.le_of_ble_eq_true rfl) d_Packer_headX_53 ⟨Nat.le_of_ble_eq_true rfl, Nat.le_of_ble_eq_true rfl⟩ rfl (fun H locs hH => ?_)
      subst hf
      exact rIR (v := f_Events_b e1 x2) C hH d_Packer_headX_56
    · have hf := im hc44 hf
      refine lv_iconst (v := 0) hx hb d_Packer_headX_47 (by decide) ?_
      refine lv_goto (tgt := 56) hx hb d_Packer_headX_48 (by decide) ?_
      subst hf
      exact rIR (v := 0) C hH d_Packer_headX_56
  have hf := im hc5_1 hf
  by_cases hc5_2 : f_Events_kind e1 x2 = 2
  · have hf := ip hc5_2 hf
    refine lv_tableIn (tgt := 36) hx hb d_Packer_headX_5 (by rw [hc5_2]; decide) (by rw [hc5_2]; decide) (by rw [hc5_2]; rfl) (by decide) ?_
    refine lv_aload_n hx hb d_Packer_headX_36 rfl (lv_at hl 1 rfl) ?_
    refine lv_iload_n hx hb d_Packer_headX_37 rfl (lv_at hl 2 rfl) ?_
    refine fnVR (rest := []) (st2 := [.long (f_Events_a e1 x2)]) C (c_Events_a l D cI cL q1 q1_kinds q1_differences q1_partsA q1_partsB e1 x2 _ rfl) (cV hts kV_Events_a wd_235 ⟨Nat.le_of_ble_eq_true rfl, Nat.le_of_ble_eq_true rfl⟩) hH [5, 6, 7, 8, 9] rfl rfl 0 rfl rfl rfl hl.1 rfl (Nat.le_of_ble_eq_true rfl) d_Packer_headX_38 ⟨Nat.le_of_ble_eq_true rfl, Nat.le_of_ble_eq_true rfl⟩ rfl (fun H locs hH => ?_)
    refine lv_l2i (v := (f_Events_a e1 x2).toInt32) hx hb d_Packer_headX_41 rfl ?_
    subst hf
    exact rIR (v := (f_Events_a e1 x2).toInt32) C hH d_Packer_headX_42
  have hf := im hc5_2 hf
  by_cases hc5_3 : f_Events_kind e1 x2 = 3
  · have hf := ip hc5_3 hf
    refine lv_tableIn (tgt := 57) hx hb d_Packer_headX_5 (by rw [hc5_3]; decide) (by rw [hc5_3]; decide) (by rw [hc5_3]; rfl) (by decide) ?_
    refine lv_aload_n hx hb d_Packer_headX_57 rfl (lv_at hl 1 rfl) ?_
    refine lv_iload_n hx hb d_Packer_headX_58 rfl (lv_at hl 2 rfl) ?_
    refine lv_aload_n hx hb d_Packer_headX_59 rfl (lv_at hl 0 rfl) ?_
    refine gt (ci := 3) (v := .ref h_past) C hH (iwT iw_Packer) 0 rfl rfl 1 (by decide) (.tail _ wd_83) rfl d_Packer_headX_60 ?_
    refine fnVR (rest := [.int x2, .ref q1]) (st2 := [.int (f_Past_latestClock st.2.1), .int x2, .ref q1]) C (c_Past_latestClock l D cI cL h_past h_past_typed st.2.1 _ rfl) (cV hts kV_Past_latestClock wd_239 ⟨Nat.le_of_ble_eq_true rfl, Nat.le_of_ble_eq_true rfl⟩) hH [3, 4] rfl rfl 0 rfl rfl rfl hl.1 rfl (Nat.le_of_ble_eq_true rfl) d_Packer_headX_63 ⟨Nat.le_of_ble_eq_true rfl, Nat.le_of_ble_eq_true rfl⟩ rfl (fun H locs hH => ?_)
    refine fnVR (rest := []) (st2 := [.int (bI (f_Events_bringTheSame e1 x2 (f_Past_latestClock st.2.1)))]) C (c_Events_bringTheSame l D cI cL q1 q1_kinds q1_differences q1_partsA q1_partsB e1 x2 (f_Past_latestClock st.2.1) _ rfl) (cV hts kV_Events_bringTheSame wd_230 ⟨Nat.le_of_ble_eq_true rfl, Nat.le_of_ble_eq_true rfl⟩) hH [5, 6, 7, 8, 9] rfl rfl 0 rfl rfl rfl hl.1 rfl (Nat.le_of_ble_eq_true rfl) d_Packer_headX_66 ⟨Nat.le_of_ble_eq_true rfl, Nat.le_of_ble_eq_true rfl⟩ rfl (fun H locs hH => ?_)
    refine lv_if_eq (tgt := 76) hx hb d_Packer_headX_69 (by decide) (fun hc69 => ?_) (fun hc69 => ?_)
    · have hf := ip hc69 hf
      refine lv_iconst (v := 0) hx hb d_Packer_headX_76 (by decide) ?_
      subst hf
      exact rIR (v := 0) C hH d_Packer_headX_77
    · have hf := im hc69 hf
      refine lv_iconst (v := 1) hx hb d_Packer_headX_72 (by decide) ?_
      refine lv_goto (tgt := 77) hx hb d_Packer_headX_73 (by decide) ?_
      subst hf
      exact rIR (v := 1) C hH d_Packer_headX_77
  have hf := im hc5_3 hf
  refine lv_tableOut (tgt := 78) hx hb d_Packer_headX_5 (by have h0 := i32n (k := 0) hc5_0 (by decide); have h1 := i32n (k := 1) hc5_1 (by decide); have h2 := i32n (k := 2) hc5_2 (by decide); have h3 := i32n (k := 3) hc5_3 (by decide); omega) (by decide) ?_
  refine lv_iconst (v := 0) hx hb d_Packer_headX_78 (by decide) ?_
  subst hf
  exact rIR (v := 0) C hH d_Packer_headX_79
def f_Packer_packBytes_b5 : Nat → S_Packer → Int64 → Int32 → Option (S_Packer)
  | 0, _, _, _ => none
  | n + 1, st, x1, x4 =>
  if x4 < 0 then (some st) else (lt1 (f_Packer_packByte st ((((x1.toUInt64 >>> (((8 : Int32) * x4).toInt64.toUInt64 &&& Int64.toUInt64 63)).toInt64).toInt32) &&& 255)) (fun r23 => f_Packer_packBytes_b5 n r23 x1 (x4 + (-1))))
set_option maxRecDepth 100000 in
set_option maxHeartbeats 4000000 in
theorem w_Packer_packBytes_b5 (l : Launch) (D : va_G) (cI cL : ClassId) (h h_log h_log_row h_past h_past_typed : Nat) {p : Program} {e : Env} {s : State} {m : MethodId} {args : Array Value} {below : List Frame} {meth : Method} {c : Code} {A : Nat → Prop} (C : Cx p s m args meth c D vwCl [(cI, .int), (cL, .long)] A b_Packer_packBytes 5 none ws_Packer_packBytes y_Packer_packBytes.cls) : ∀ (n : Nat) (st : S_Packer) (x1 : Int64) (x4 : Int32) (res : S_Packer), f_Packer_packBytes_b5 n st x1 x4 = some res → ∀ (H : Heap) (locs : List Loc) (ls : Array Slot), Hp D vwCl A A s.heap H locs [(h, .inr (3, [.ref h_log, .ref h_past, .int (bI st.2.2.1), .int st.2.2.2.1, .int st.2.2.2.2.1, .int st.2.2.2.2.2.1, .int st.2.2.2.2.2.2.1, .int st.2.2.2.2.2.2.2])), (h_log, .inr (0, [.ref h_log_row, .int st.1.2])), (h_log_row, .inl (cI, 5000, .inl st.1.1)), (h_past, .inr (1, [.ref h_past_typed, .int st.2.1.2.1, .int st.2.1.2.2])), (h_past_typed, .inl (cI, 300, .inl st.2.1.1))] → lv_has ls 5 [(0, .ref h), (1, .long x1), (4, .int x4)] → W p l e { frames := 2, cells := 0, slots := 0, locals := 42 } s m args below meth c H locs 0 0 (MQ below (Qw D vwCl [(cI, .int), (cL, .long)] (none) A [(h, .inr (3, [.ref h_log, .ref h_past, .int (bI res.2.2.1), .int res.2.2.2.1, .int res.2.2.2.2.1, .int res.2.2.2.2.2.1, .int res.2.2.2.2.2.2.1, .int res.2.2.2.2.2.2.2])), (h_log, .inr (0, [.ref h_log_row, .int res.1.2])), (h_log_row, .inl (cI, 5000, .inl res.1.1)), (h_past, .inr (1, [.ref h_past_typed, .int res.2.1.2.1, .int res.2.1.2.2])), (h_past_typed, .inl (cI, 300, .inl res.2.1.1))]) args s 0 0 A) (F0 m 5 ls []) := by
  obtain ⟨hx, hb, hr, hml, hown, hts, hlk, hK, hA⟩ := id C
  intro n
  induction n with
  | zero => intro st x1 x4 res hf; cases hf
  | succ n ih =>
    intro st x1 x4 res hf H locs ls hH hl
    rw [f_Packer_packBytes_b5] at hf
    refine lv_iload hx hb d_Packer_packBytes_5 (lv_at hl 2 rfl) ?_
    refine lv_if_lt (tgt := 32) hx hb d_Packer_packBytes_7 (by decide) (fun hc7 => ?_) (fun hc7 => ?_)
    · have hf := ip hc7 hf
      have hf := Option.some.inj hf
      subst hf
      exact rV C hH d_Packer_packBytes_32
    · have hf := im hc7 hf
      refine lv_aload_n hx hb d_Packer_packBytes_10 rfl (lv_at hl 0 rfl) ?_
      refine lv_lload_n hx hb d_Packer_packBytes_11 rfl (lv_at hl 1 rfl) ?_
      refine lv_bipush (v := 8) hx hb d_Packer_packBytes_12 (by decide) ?_
      refine lv_iload hx hb d_Packer_packBytes_14 (lv_at hl 2 rfl) ?_
      refine lv_imul hx hb d_Packer_packBytes_16 ?_
      refine lv_lushr (v := (x1.toUInt64 >>> (((8 : Int32) * x4).toInt64.toUInt64 &&& Int64.toUInt64 63)).toInt64) hx hb d_Packer_packBytes_17 rfl ?_
      refine lv_l2i (v := ((x1.toUInt64 >>> (((8 : Int32) * x4).toInt64.toUInt64 &&& Int64.toUInt64 63)).toInt64).toInt32) hx hb d_Packer_packBytes_18 rfl ?_
      refine lv_sipush (v := 255) hx hb d_Packer_packBytes_19 (by decide) ?_
      refine lv_iand hx hb d_Packer_packBytes_22 ?_
      obtain ⟨r23, hr23, hf⟩ := lb hf
      refine fnV (rest := []) (wr := []) (w2 := [(h, .inr (3, [.ref h_log, .ref h_past, .int (bI r23.2.2.1), .int r23.2.2.2.1, .int r23.2.2.2.2.1, .int r23.2.2.2.2.2.1, .int r23.2.2.2.2.2.2.1, .int r23.2.2.2.2.2.2.2])), (h_log, .inr (0, [.ref h_log_row, .int r23.1.2])), (h_log_row, .inl (cI, 5000, .inl r23.1.1)), (h_past, .inr (1, [.ref h_past_typed, .int r23.2.1.2.1, .int r23.2.1.2.2])), (h_past_typed, .inl (cI, 300, .inl r23.2.1.1))]) (st2 := []) C (c_Packer_packByte l D cI cL h h_log h_log_row h_past h_past_typed st ((((x1.toUInt64 >>> (((8 : Int32) * x4).toInt64.toUInt64 &&& Int64.toUInt64 63)).toInt64).toInt32) &&& 255) r23 hr23) (cV hts kV_Packer_packByte wd_176 ⟨Nat.le_of_ble_eq_true rfl, Nat.le_of_ble_eq_true rfl⟩) hH [0, 1, 2, 3, 4] [] [0, 1, 2, 3, 4] rfl rfl rfl rfl (by decide) rfl rfl 0 rfl rfl rfl hl.1 rfl (Nat.le_of_ble_eq_true rfl) d_Packer_packBytes_23 ⟨Nat.le_of_ble_eq_true rfl, Nat.le_of_ble_eq_true rfl⟩ rfl (fun H locs hH => ?_)
      refine lv_iinc (v := x4 + (-1)) (lv' := [(4, .int (x4 + (-1))), (0, .ref h), (1, .long x1)]) hx hb d_Packer_packBytes_26 hl (k := 2) rfl rfl (by decide) rfl (fun ls hl => ?_)
      refine lv_goto (tgt := 5) hx hb d_Packer_packBytes_29 (by decide) ?_
      exact ih r23 x1 (x4 + (-1)) res hf _ _ _ hH (lv_sub hl [1, 2, 0] rfl)
def f_Packer_packBytes (st : S_Packer) (x1 : Int64) (x3 : Int32) : Option (S_Packer) :=
  f_Packer_packBytes_b5 400 st x1 (x3 - 1)
set_option maxRecDepth 100000 in
set_option maxHeartbeats 4000000 in
theorem c_Packer_packBytes (l : Launch) (D : va_G) (cI cL : ClassId) (h h_log h_log_row h_past h_past_typed : Nat) (st : S_Packer) (x1 : Int64) (x3 : Int32) (res : S_Packer) (hf : f_Packer_packBytes st x1 x3 = some res) :
    Fn l D vwCl [(cI, .int), (cL, .long)] y_Packer_packBytes ws_Packer_packBytes { frames := 2, cells := 0, slots := 0, locals := 42 } [.ref h, .long x1, .int x3] [(h, .inr (3, [.ref h_log, .ref h_past, .int (bI st.2.2.1), .int st.2.2.2.1, .int st.2.2.2.2.1, .int st.2.2.2.2.2.1, .int st.2.2.2.2.2.2.1, .int st.2.2.2.2.2.2.2])), (h_log, .inr (0, [.ref h_log_row, .int st.1.2])), (h_log_row, .inl (cI, 5000, .inl st.1.1)), (h_past, .inr (1, [.ref h_past_typed, .int st.2.1.2.1, .int st.2.1.2.2])), (h_past_typed, .inl (cI, 300, .inl st.2.1.1))] (none) [(h, .inr (3, [.ref h_log, .ref h_past, .int (bI res.2.2.1), .int res.2.2.2.1, .int res.2.2.2.2.1, .int res.2.2.2.2.2.1, .int res.2.2.2.2.2.2.1, .int res.2.2.2.2.2.2.2])), (h_log, .inr (0, [.ref h_log_row, .int res.1.2])), (h_log_row, .inl (cI, 5000, .inl res.1.1)), (h_past, .inr (1, [.ref h_past_typed, .int res.2.1.2.1, .int res.2.1.2.2])), (h_past_typed, .inl (cI, 300, .inl res.2.1.1))] := by
  refine Fn.ofW (cc := b_Packer_packBytes) (maxL := 5) (ret := none) (by decide) rfl (Nat.le_of_ble_eq_true rfl) ?_
  intro p e s m below meth c A ls C hH hinit hl
  have hl : lv_has ls 5 [(0, .ref h), (1, .long x1), (3, .int x3)] := hl
  obtain ⟨hx, hb, hr, hml, hown, hts, hlk, hK, hA⟩ := id C
  unfold f_Packer_packBytes at hf
  refine lv_iload_n hx hb d_Packer_packBytes_0 rfl (lv_at hl 2 rfl) ?_
  refine lv_iconst (v := 1) hx hb d_Packer_packBytes_1 (by decide) ?_
  refine lv_isub hx hb d_Packer_packBytes_2 ?_
  refine lv_istore (lv' := [(4, .int (x3 - 1)), (0, .ref h), (1, .long x1), (3, .int x3)]) hx hb d_Packer_packBytes_3 hl (by decide) rfl (fun ls hl => ?_)
  exact w_Packer_packBytes_b5 l D cI cL h h_log h_log_row h_past h_past_typed C 400 st x1 (x3 - 1) res hf _ _ _ hH (lv_sub hl [1, 2, 0] rfl)
def f_Packer_packBrought (st : S_Packer) (e1 : S_Events) (x2 : Int32) (x3 : Int32) : Option (S_Packer) :=
  if f_Events_kind e1 x2 = 1 then ((f_Packer_packBytes st (f_Events_a e1 x2) (f_Events_b e1 x2)).bind (fun r47 => some r47)) else if f_Events_kind e1 x2 = 2 then (lt1 (f_Packer_packByte st (f_Events_b e1 x2)) (fun r59 => some r59)) else if f_Events_kind e1 x2 = 3 then (if x3 = 0 then ((f_Packer_packVarint st (f_Events_a e1 x2)).bind (fun r75 => some r75)) else (some st)) else if f_Events_kind e1 x2 = 4 then ((f_Packer_packBytes st (f_Events_a e1 x2) 4).bind (fun r88 => some r88)) else (some st)
set_option maxRecDepth 100000 in
set_option maxHeartbeats 4000000 in
theorem c_Packer_packBrought (l : Launch) (D : va_G) (cI cL : ClassId) (h h_log h_log_row h_past h_past_typed q1 q1_kinds q1_differences q1_partsA q1_partsB : Nat) (st : S_Packer) (e1 : S_Events) (x2 : Int32) (x3 : Int32) (res : S_Packer) (hf : f_Packer_packBrought st e1 x2 x3 = some res) :
    Fn l D vwCl [(cI, .int), (cL, .long)] y_Packer_packBrought ws_Packer_packBrought { frames := 3, cells := 0, slots := 0, locals := 67 } [.ref h, .ref q1, .int x2, .int x3] [(h, .inr (3, [.ref h_log, .ref h_past, .int (bI st.2.2.1), .int st.2.2.2.1, .int st.2.2.2.2.1, .int st.2.2.2.2.2.1, .int st.2.2.2.2.2.2.1, .int st.2.2.2.2.2.2.2])), (h_log, .inr (0, [.ref h_log_row, .int st.1.2])), (h_log_row, .inl (cI, 5000, .inl st.1.1)), (h_past, .inr (1, [.ref h_past_typed, .int st.2.1.2.1, .int st.2.1.2.2])), (h_past_typed, .inl (cI, 300, .inl st.2.1.1)), (q1, .inr (2, [.ref q1_kinds, .ref q1_differences, .ref q1_partsA, .ref q1_partsB, .int e1.2.2.2.2])), (q1_kinds, .inl (cI, 300, .inl e1.1)), (q1_differences, .inl (cL, 300, .inr (.inl e1.2.1))), (q1_partsA, .inl (cL, 300, .inr (.inl e1.2.2.1))), (q1_partsB, .inl (cI, 300, .inl e1.2.2.2.1))] (none) [(h, .inr (3, [.ref h_log, .ref h_past, .int (bI res.2.2.1), .int res.2.2.2.1, .int res.2.2.2.2.1, .int res.2.2.2.2.2.1, .int res.2.2.2.2.2.2.1, .int res.2.2.2.2.2.2.2])), (h_log, .inr (0, [.ref h_log_row, .int res.1.2])), (h_log_row, .inl (cI, 5000, .inl res.1.1)), (h_past, .inr (1, [.ref h_past_typed, .int res.2.1.2.1, .int res.2.1.2.2])), (h_past_typed, .inl (cI, 300, .inl res.2.1.1)), (q1, .inr (2, [.ref q1_kinds, .ref q1_differences, .ref q1_partsA, .ref q1_partsB, .int e1.2.2.2.2])), (q1_kinds, .inl (cI, 300, .inl e1.1)), (q1_differences, .inl (cL, 300, .inr (.inl e1.2.1))), (q1_partsA, .inl (cL, 300, .inr (.inl e1.2.2.1))), (q1_partsB, .inl (cI, 300, .inl e1.2.2.2.1))] := by
  refine Fn.ofW (cc := b_Packer_packBrought) (maxL := 4) (ret := none) (by decide) rfl (Nat.le_of_ble_eq_true rfl) ?_
  intro p e s m below meth c A ls C hH hinit hl
  have hl : lv_has ls 4 [(0, .ref h), (1, .ref q1), (2, .int x2), (3, .int x3)] := hl
  obtain ⟨hx, hb, hr, hml, hown, hts, hlk, hK, hA⟩ := id C
  unfold f_Packer_packBrought at hf
  refine lv_aload_n hx hb d_Packer_packBrought_0 rfl (lv_at hl 1 rfl) ?_
  refine lv_iload_n hx hb d_Packer_packBrought_1 rfl (lv_at hl 2 rfl) ?_
  refine fnVR (rest := []) (st2 := [.int (f_Events_kind e1 x2)]) C (c_Events_kind l D cI cL q1 q1_kinds q1_differences q1_partsA q1_partsB e1 x2 _ rfl) (cV hts kV_Events_kind wd_217 ⟨Nat.le_of_ble_eq_true rfl, Nat.le_of_ble_eq_true rfl⟩) hH [5, 6, 7, 8, 9] rfl rfl 0 rfl rfl rfl hl.1 rfl (Nat.le_of_ble_eq_true rfl) d_Packer_packBrought_2 ⟨Nat.le_of_ble_eq_true rfl, Nat.le_of_ble_eq_true rfl⟩ rfl (fun H locs hH => ?_)
  by_cases hc5_0 : f_Events_kind e1 x2 = 1
  · have hf := ip hc5_0 hf
    refine lv_tableIn (tgt := 36) hx hb d_Packer_packBrought_5 (by rw [hc5_0]; decide) (by rw [hc5_0]; decide) (by rw [hc5_0]; rfl) (by decide) ?_
    refine lv_aload_n hx hb d_Packer_packBrought_36 rfl (lv_at hl 0 rfl) ?_
    refine lv_aload_n hx hb d_Packer_packBrought_37 rfl (lv_at hl 1 rfl) ?_
    refine lv_iload_n hx hb d_Packer_packBrought_38 rfl (lv_at hl 2 rfl) ?_
    refine fnVR (rest := [.ref h]) (st2 := [.long (f_Events_a e1 x2), .ref h]) C (c_Events_a l D cI cL q1 q1_kinds q1_differences q1_partsA q1_partsB e1 x2 _ rfl) (cV hts kV_Events_a wd_235 ⟨Nat.le_of_ble_eq_true rfl, Nat.le_of_ble_eq_true rfl⟩) hH [5, 6, 7, 8, 9] rfl rfl 0 rfl rfl rfl hl.1 rfl (Nat.le_of_ble_eq_true rfl) d_Packer_packBrought_39 ⟨Nat.le_of_ble_eq_true rfl, Nat.le_of_ble_eq_true rfl⟩ rfl (fun H locs hH => ?_)
    refine lv_aload_n hx hb d_Packer_packBrought_42 rfl (lv_at hl 1 rfl) ?_
    refine lv_iload_n hx hb d_Packer_packBrought_43 rfl (lv_at hl 2 rfl) ?_
    refine fnVR (rest := [.long (f_Events_a e1 x2), .ref h]) (st2 := [.int (f_Events_b e1 x2), .long (f_Events_a e1 x2), .ref h]) C (c_Events_b l D cI cL q1 q1_kinds q1_differences q1_partsA q1_partsB e1 x2 _ rfl) (cV hts kV_Events_b wd_221 ⟨Nat.le_of_ble_eq_true rfl, Nat.le_of_ble_eq_true rfl⟩) hH [5, 6, 7, 8, 9] rfl rfl 0 rfl rfl rfl hl.1 rfl (Nat.le_of_ble_eq_true rfl) d_Packer_packBrought_44 ⟨Nat.le_of_ble_eq_true rfl, Nat.le_of_ble_eq_true rfl⟩ rfl (fun H locs hH => ?_)
    obtain ⟨r47, hr47, hf⟩ := ob hf
    refine fnV (rest := []) (wr := [(q1, .inr (2, [.ref q1_kinds, .ref q1_differences, .ref q1_partsA, .ref q1_partsB, .int e1.2.2.2.2])), (q1_kinds, .inl (cI, 300, .inl e1.1)), (q1_differences, .inl (cL, 300, .inr (.inl e1.2.1))), (q1_partsA, .inl (cL, 300, .inr (.inl e1.2.2.1))), (q1_partsB, .inl (cI, 300, .inl e1.2.2.2.1))]) (w2 := [(h, .inr (3, [.ref h_log, .ref h_past, .int (bI r47.2.2.1), .int r47.2.2.2.1, .int r47.2.2.2.2.1, .int r47.2.2.2.2.2.1, .int r47.2.2.2.2.2.2.1, .int r47.2.2.2.2.2.2.2])), (h_log, .inr (0, [.ref h_log_row, .int r47.1.2])), (h_log_row, .inl (cI, 5000, .inl r47.1.1)), (h_past, .inr (1, [.ref h_past_typed, .int r47.2.1.2.1, .int r47.2.1.2.2])), (h_past_typed, .inl (cI, 300, .inl r47.2.1.1)), (q1, .inr (2, [.ref q1_kinds, .ref q1_differences, .ref q1_partsA, .ref q1_partsB, .int e1.2.2.2.2])), (q1_kinds, .inl (cI, 300, .inl e1.1)), (q1_differences, .inl (cL, 300, .inr (.inl e1.2.1))), (q1_partsA, .inl (cL, 300, .inr (.inl e1.2.2.1))), (q1_partsB, .inl (cI, 300, .inl e1.2.2.2.1))]) (st2 := []) C (c_Packer_packBytes l D cI cL h h_log h_log_row h_past h_past_typed st (f_Events_a e1 x2) (f_Events_b e1 x2) r47 hr47) (cV hts kV_Packer_packBytes wd_248 ⟨Nat.le_of_ble_eq_true rfl, Nat.le_of_ble_eq_true rfl⟩) hH [0, 1, 2, 3, 4] [5, 6, 7, 8, 9] [5, 6, 7, 8, 9, 0, 1, 2, 3, 4] rfl rfl rfl rfl (by decide) rfl rfl 0 rfl rfl rfl hl.1 rfl (Nat.le_of_ble_eq_true rfl) d_Packer_packBrought_47 ⟨Nat.le_of_ble_eq_true rfl, Nat.le_of_ble_eq_true rfl⟩ rfl (fun H locs hH => ?_)
    refine lv_goto (tgt := 94) hx hb d_Packer_packBrought_50 (by decide) ?_
    have hf := Option.some.inj hf
    subst hf
    exact rV C hH d_Packer_packBrought_94
  have hf := im hc5_0 hf
  by_cases hc5_1 : f_Events_kind e1 x2 = 2
  · have hf := ip hc5_1 hf
    refine lv_tableIn (tgt := 53) hx hb d_Packer_packBrought_5 (by rw [hc5_1]; decide) (by rw [hc5_1]; decide) (by rw [hc5_1]; rfl) (by decide) ?_
    refine lv_aload_n hx hb d_Packer_packBrought_53 rfl (lv_at hl 0 rfl) ?_
    refine lv_aload_n hx hb d_Packer_packBrought_54 rfl (lv_at hl 1 rfl) ?_
    refine lv_iload_n hx hb d_Packer_packBrought_55 rfl (lv_at hl 2 rfl) ?_
    refine fnVR (rest := [.ref h]) (st2 := [.int (f_Events_b e1 x2), .ref h]) C (c_Events_b l D cI cL q1 q1_kinds q1_differences q1_partsA q1_partsB e1 x2 _ rfl) (cV hts kV_Events_b wd_221 ⟨Nat.le_of_ble_eq_true rfl, Nat.le_of_ble_eq_true rfl⟩) hH [5, 6, 7, 8, 9] rfl rfl 0 rfl rfl rfl hl.1 rfl (Nat.le_of_ble_eq_true rfl) d_Packer_packBrought_56 ⟨Nat.le_of_ble_eq_true rfl, Nat.le_of_ble_eq_true rfl⟩ rfl (fun H locs hH => ?_)
    obtain ⟨r59, hr59, hf⟩ := lb hf
    refine fnV (rest := []) (wr := [(q1, .inr (2, [.ref q1_kinds, .ref q1_differences, .ref q1_partsA, .ref q1_partsB, .int e1.2.2.2.2])), (q1_kinds, .inl (cI, 300, .inl e1.1)), (q1_differences, .inl (cL, 300, .inr (.inl e1.2.1))), (q1_partsA, .inl (cL, 300, .inr (.inl e1.2.2.1))), (q1_partsB, .inl (cI, 300, .inl e1.2.2.2.1))]) (w2 := [(h, .inr (3, [.ref h_log, .ref h_past, .int (bI r59.2.2.1), .int r59.2.2.2.1, .int r59.2.2.2.2.1, .int r59.2.2.2.2.2.1, .int r59.2.2.2.2.2.2.1, .int r59.2.2.2.2.2.2.2])), (h_log, .inr (0, [.ref h_log_row, .int r59.1.2])), (h_log_row, .inl (cI, 5000, .inl r59.1.1)), (h_past, .inr (1, [.ref h_past_typed, .int r59.2.1.2.1, .int r59.2.1.2.2])), (h_past_typed, .inl (cI, 300, .inl r59.2.1.1)), (q1, .inr (2, [.ref q1_kinds, .ref q1_differences, .ref q1_partsA, .ref q1_partsB, .int e1.2.2.2.2])), (q1_kinds, .inl (cI, 300, .inl e1.1)), (q1_differences, .inl (cL, 300, .inr (.inl e1.2.1))), (q1_partsA, .inl (cL, 300, .inr (.inl e1.2.2.1))), (q1_partsB, .inl (cI, 300, .inl e1.2.2.2.1))]) (st2 := []) C (c_Packer_packByte l D cI cL h h_log h_log_row h_past h_past_typed st (f_Events_b e1 x2) r59 hr59) (cV hts kV_Packer_packByte wd_176 ⟨Nat.le_of_ble_eq_true rfl, Nat.le_of_ble_eq_true rfl⟩) hH [0, 1, 2, 3, 4] [5, 6, 7, 8, 9] [5, 6, 7, 8, 9, 0, 1, 2, 3, 4] rfl rfl rfl rfl (by decide) rfl rfl 0 rfl rfl rfl hl.1 rfl (Nat.le_of_ble_eq_true rfl) d_Packer_packBrought_59 ⟨Nat.le_of_ble_eq_true rfl, Nat.le_of_ble_eq_true rfl⟩ rfl (fun H locs hH => ?_)
    refine lv_goto (tgt := 94) hx hb d_Packer_packBrought_62 (by decide) ?_
    have hf := Option.some.inj hf
    subst hf
    exact rV C hH d_Packer_packBrought_94
  have hf := im hc5_1 hf
  by_cases hc5_2 : f_Events_kind e1 x2 = 3
  · have hf := ip hc5_2 hf
    refine lv_tableIn (tgt := 65) hx hb d_Packer_packBrought_5 (by rw [hc5_2]; decide) (by rw [hc5_2]; decide) (by rw [hc5_2]; rfl) (by decide) ?_
    refine lv_iload_n hx hb d_Packer_packBrought_65 rfl (lv_at hl 3 rfl) ?_
    refine lv_if_ne (tgt := 94) hx hb d_Packer_packBrought_66 (by decide) (fun hc66 => ?_) (fun hc66 => ?_)
    · have hf := im hc66 hf
      have hf := Option.some.inj hf
      subst hf
      exact rV C hH d_Packer_packBrought_94
    · have hf := ip hc66 hf
      refine lv_aload_n hx hb d_Packer_packBrought_69 rfl (lv_at hl 0 rfl) ?_
      refine lv_aload_n hx hb d_Packer_packBrought_70 rfl (lv_at hl 1 rfl) ?_
      refine lv_iload_n hx hb d_Packer_packBrought_71 rfl (lv_at hl 2 rfl) ?_
      refine fnVR (rest := [.ref h]) (st2 := [.long (f_Events_a e1 x2), .ref h]) C (c_Events_a l D cI cL q1 q1_kinds q1_differences q1_partsA q1_partsB e1 x2 _ rfl) (cV hts kV_Events_a wd_235 ⟨Nat.le_of_ble_eq_true rfl, Nat.le_of_ble_eq_true rfl⟩) hH [5, 6, 7, 8, 9] rfl rfl 0 rfl rfl rfl hl.1 rfl (Nat.le_of_ble_eq_true rfl) d_Packer_packBrought_72 ⟨Nat.le_of_ble_eq_true rfl, Nat.le_of_ble_eq_true rfl⟩ rfl (fun H locs hH => ?_)
      obtain ⟨r75, hr75, hf⟩ := ob hf
      refine fnV (rest := []) (wr := [(q1, .inr (2, [.ref q1_kinds, .ref q1_differences, .ref q1_partsA, .ref q1_partsB, .int e1.2.2.2.2])), (q1_kinds, .inl (cI, 300, .inl e1.1)), (q1_differences, .inl (cL, 300, .inr (.inl e1.2.1))), (q1_partsA, .inl (cL, 300, .inr (.inl e1.2.2.1))), (q1_partsB, .inl (cI, 300, .inl e1.2.2.2.1))]) (w2 := [(h, .inr (3, [.ref h_log, .ref h_past, .int (bI r75.2.2.1), .int r75.2.2.2.1, .int r75.2.2.2.2.1, .int r75.2.2.2.2.2.1, .int r75.2.2.2.2.2.2.1, .int r75.2.2.2.2.2.2.2])), (h_log, .inr (0, [.ref h_log_row, .int r75.1.2])), (h_log_row, .inl (cI, 5000, .inl r75.1.1)), (h_past, .inr (1, [.ref h_past_typed, .int r75.2.1.2.1, .int r75.2.1.2.2])), (h_past_typed, .inl (cI, 300, .inl r75.2.1.1)), (q1, .inr (2, [.ref q1_kinds, .ref q1_differences, .ref q1_partsA, .ref q1_partsB, .int e1.2.2.2.2])), (q1_kinds, .inl (cI, 300, .inl e1.1)), (q1_differences, .inl (cL, 300, .inr (.inl e1.2.1))), (q1_partsA, .inl (cL, 300, .inr (.inl e1.2.2.1))), (q1_partsB, .inl (cI, 300, .inl e1.2.2.2.1))]) (st2 := []) C (c_Packer_packVarint l D cI cL h h_log h_log_row h_past h_past_typed st (f_Events_a e1 x2) r75 hr75) (cV hts kV_Packer_packVarint wd_171 ⟨Nat.le_of_ble_eq_true rfl, Nat.le_of_ble_eq_true rfl⟩) hH [0, 1, 2, 3, 4] [5, 6, 7, 8, 9] [5, 6, 7, 8, 9, 0, 1, 2, 3, 4] rfl rfl rfl rfl (by decide) rfl rfl 0 rfl rfl rfl hl.1 rfl (Nat.le_of_ble_eq_true rfl) d_Packer_packBrought_75 ⟨Nat.le_of_ble_eq_true rfl, Nat.le_of_ble_eq_true rfl⟩ rfl (fun H locs hH => ?_)
      refine lv_goto (tgt := 94) hx hb d_Packer_packBrought_78 (by decide) ?_
      have hf := Option.some.inj hf
      subst hf
      exact rV C hH d_Packer_packBrought_94
  have hf := im hc5_2 hf
  by_cases hc5_3 : f_Events_kind e1 x2 = 4
  · have hf := ip hc5_3 hf
    refine lv_tableIn (tgt := 81) hx hb d_Packer_packBrought_5 (by rw [hc5_3]; decide) (by rw [hc5_3]; decide) (by rw [hc5_3]; rfl) (by decide) ?_
    refine lv_aload_n hx hb d_Packer_packBrought_81 rfl (lv_at hl 0 rfl) ?_
    refine lv_aload_n hx hb d_Packer_packBrought_82 rfl (lv_at hl 1 rfl) ?_
    refine lv_iload_n hx hb d_Packer_packBrought_83 rfl (lv_at hl 2 rfl) ?_
    refine fnVR (rest := [.ref h]) (st2 := [.long (f_Events_a e1 x2), .ref h]) C (c_Events_a l D cI cL q1 q1_kinds q1_differences q1_partsA q1_partsB e1 x2 _ rfl) (cV hts kV_Events_a wd_235 ⟨Nat.le_of_ble_eq_true rfl, Nat.le_of_ble_eq_true rfl⟩) hH [5, 6, 7, 8, 9] rfl rfl 0 rfl rfl rfl hl.1 rfl (Nat.le_of_ble_eq_true rfl) d_Packer_packBrought_84 ⟨Nat.le_of_ble_eq_true rfl, Nat.le_of_ble_eq_true rfl⟩ rfl (fun H locs hH => ?_)
    refine lv_iconst (v := 4) hx hb d_Packer_packBrought_87 (by decide) ?_
    obtain ⟨r88, hr88, hf⟩ := ob hf
    refine fnV (rest := []) (wr := [(q1, .inr (2, [.ref q1_kinds, .ref q1_differences, .ref q1_partsA, .ref q1_partsB, .int e1.2.2.2.2])), (q1_kinds, .inl (cI, 300, .inl e1.1)), (q1_differences, .inl (cL, 300, .inr (.inl e1.2.1))), (q1_partsA, .inl (cL, 300, .inr (.inl e1.2.2.1))), (q1_partsB, .inl (cI, 300, .inl e1.2.2.2.1))]) (w2 := [(h, .inr (3, [.ref h_log, .ref h_past, .int (bI r88.2.2.1), .int r88.2.2.2.1, .int r88.2.2.2.2.1, .int r88.2.2.2.2.2.1, .int r88.2.2.2.2.2.2.1, .int r88.2.2.2.2.2.2.2])), (h_log, .inr (0, [.ref h_log_row, .int r88.1.2])), (h_log_row, .inl (cI, 5000, .inl r88.1.1)), (h_past, .inr (1, [.ref h_past_typed, .int r88.2.1.2.1, .int r88.2.1.2.2])), (h_past_typed, .inl (cI, 300, .inl r88.2.1.1)), (q1, .inr (2, [.ref q1_kinds, .ref q1_differences, .ref q1_partsA, .ref q1_partsB, .int e1.2.2.2.2])), (q1_kinds, .inl (cI, 300, .inl e1.1)), (q1_differences, .inl (cL, 300, .inr (.inl e1.2.1))), (q1_partsA, .inl (cL, 300, .inr (.inl e1.2.2.1))), (q1_partsB, .inl (cI, 300, .inl e1.2.2.2.1))]) (st2 := []) C (c_Packer_packBytes l D cI cL h h_log h_log_row h_past h_past_typed st (f_Events_a e1 x2) 4 r88 hr88) (cV hts kV_Packer_packBytes wd_248 ⟨Nat.le_of_ble_eq_true rfl, Nat.le_of_ble_eq_true rfl⟩) hH [0, 1, 2, 3, 4] [5, 6, 7, 8, 9] [5, 6, 7, 8, 9, 0, 1, 2, 3, 4] rfl rfl rfl rfl (by decide) rfl rfl 0 rfl rfl rfl hl.1 rfl (Nat.le_of_ble_eq_true rfl) d_Packer_packBrought_88 ⟨Nat.le_of_ble_eq_true rfl, Nat.le_of_ble_eq_true rfl⟩ rfl (fun H locs hH => ?_)
    refine lv_goto (tgt := 94) hx hb d_Packer_packBrought_91 (by decide) ?_
    have hf := Option.some.inj hf
    subst hf
    exact rV C hH d_Packer_packBrought_94
  have hf := im hc5_3 hf
  refine lv_tableOut (tgt := 94) hx hb d_Packer_packBrought_5 (by have h0 := i32n (k := 1) hc5_0 (by decide); have h1 := i32n (k := 2) hc5_1 (by decide); have h2 := i32n (k := 3) hc5_2 (by decide); have h3 := i32n (k := 4) hc5_3 (by decide); omega) (by decide) ?_
  have hf := Option.some.inj hf
  subst hf
  exact rV C hH d_Packer_packBrought_94
def f_Packer_packEntry_b85 (st : S_Packer) (e1 : S_Events) (x2 : Int32) (x4 : Int32) (x5 : Int32) : Option (S_Packer) :=
  if x4 ≤ 0 then ((f_Packer_packBrought st e1 x2 x5).bind (fun r115 => some r115)) else ((f_Packer_packVarint ((st.1, st.2.1, st.2.2.1, st.2.2.2.1, st.2.2.2.2.1, st.2.2.2.2.2.1, st.2.2.2.2.2.2.1, st.2.2.2.2.2.2.2 + 1)) x4.toInt64).bind (fun r104 => some r104))
set_option maxRecDepth 100000 in
set_option maxHeartbeats 4000000 in
theorem w_Packer_packEntry_b85 (l : Launch) (D : va_G) (cI cL : ClassId) (h h_log h_log_row h_past h_past_typed q1 q1_kinds q1_differences q1_partsA q1_partsB : Nat) {p : Program} {e : Env} {s : State} {m : MethodId} {args : Array Value} {below : List Frame} {meth : Method} {c : Code} {A : Nat → Prop} (C : Cx p s m args meth c D vwCl [(cI, .int), (cL, .long)] A b_Packer_packEntry 6 none ws_Packer_packEntry y_Packer_packEntry.cls) : ∀ (st : S_Packer) (e1 : S_Events) (x2 : Int32) (x4 : Int32) (x5 : Int32) (res : S_Packer), f_Packer_packEntry_b85 st e1 x2 x4 x5 = some res → ∀ (H : Heap) (locs : List Loc) (ls : Array Slot), Hp D vwCl A A s.heap H locs [(h, .inr (3, [.ref h_log, .ref h_past, .int (bI st.2.2.1), .int st.2.2.2.1, .int st.2.2.2.2.1, .int st.2.2.2.2.2.1, .int st.2.2.2.2.2.2.1, .int st.2.2.2.2.2.2.2])), (h_log, .inr (0, [.ref h_log_row, .int st.1.2])), (h_log_row, .inl (cI, 5000, .inl st.1.1)), (h_past, .inr (1, [.ref h_past_typed, .int st.2.1.2.1, .int st.2.1.2.2])), (h_past_typed, .inl (cI, 300, .inl st.2.1.1)), (q1, .inr (2, [.ref q1_kinds, .ref q1_differences, .ref q1_partsA, .ref q1_partsB, .int e1.2.2.2.2])), (q1_kinds, .inl (cI, 300, .inl e1.1)), (q1_differences, .inl (cL, 300, .inr (.inl e1.2.1))), (q1_partsA, .inl (cL, 300, .inr (.inl e1.2.2.1))), (q1_partsB, .inl (cI, 300, .inl e1.2.2.2.1))] → lv_has ls 6 [(0, .ref h), (1, .ref q1), (2, .int x2), (4, .int x4), (5, .int x5)] → W p l e { frames := 4, cells := 0, slots := 0, locals := 90 } s m args below meth c H locs 0 0 (MQ below (Qw D vwCl [(cI, .int), (cL, .long)] (none) A [(h, .inr (3, [.ref h_log, .ref h_past, .int (bI res.2.2.1), .int res.2.2.2.1, .int res.2.2.2.2.1, .int res.2.2.2.2.2.1, .int res.2.2.2.2.2.2.1, .int res.2.2.2.2.2.2.2])), (h_log, .inr (0, [.ref h_log_row, .int res.1.2])), (h_log_row, .inl (cI, 5000, .inl res.1.1)), (h_past, .inr (1, [.ref h_past_typed, .int res.2.1.2.1, .int res.2.1.2.2])), (h_past_typed, .inl (cI, 300, .inl res.2.1.1)), (q1, .inr (2, [.ref q1_kinds, .ref q1_differences, .ref q1_partsA, .ref q1_partsB, .int e1.2.2.2.2])), (q1_kinds, .inl (cI, 300, .inl e1.1)), (q1_differences, .inl (cL, 300, .inr (.inl e1.2.1))), (q1_partsA, .inl (cL, 300, .inr (.inl e1.2.2.1))), (q1_partsB, .inl (cI, 300, .inl e1.2.2.2.1))]) args s 0 0 A) (F0 m 85 ls []) := by
  obtain ⟨hx, hb, hr, hml, hown, hts, hlk, hK, hA⟩ := id C
  intro st e1 x2 x4 x5 res hf H locs ls hH hl
  unfold f_Packer_packEntry_b85 at hf
  refine lv_iload hx hb d_Packer_packEntry_85 (lv_at hl 3 rfl) ?_
  refine lv_if_le (tgt := 110) hx hb d_Packer_packEntry_87 (by decide) (fun hc87 => ?_) (fun hc87 => ?_)
  · have hf := ip hc87 hf
    refine lv_aload_n hx hb d_Packer_packEntry_110 rfl (lv_at hl 0 rfl) ?_
    refine lv_aload_n hx hb d_Packer_packEntry_111 rfl (lv_at hl 1 rfl) ?_
    refine lv_iload_n hx hb d_Packer_packEntry_112 rfl (lv_at hl 2 rfl) ?_
    refine lv_iload hx hb d_Packer_packEntry_113 (lv_at hl 4 rfl) ?_
    obtain ⟨r115, hr115, hf⟩ := ob hf
    refine fnV (rest := []) (wr := []) (w2 := [(h, .inr (3, [.ref h_log, .ref h_past, .int (bI r115.2.2.1), .int r115.2.2.2.1, .int r115.2.2.2.2.1, .int r115.2.2.2.2.2.1, .int r115.2.2.2.2.2.2.1, .int r115.2.2.2.2.2.2.2])), (h_log, .inr (0, [.ref h_log_row, .int r115.1.2])), (h_log_row, .inl (cI, 5000, .inl r115.1.1)), (h_past, .inr (1, [.ref h_past_typed, .int r115.2.1.2.1, .int r115.2.1.2.2])), (h_past_typed, .inl (cI, 300, .inl r115.2.1.1)), (q1, .inr (2, [.ref q1_kinds, .ref q1_differences, .ref q1_partsA, .ref q1_partsB, .int e1.2.2.2.2])), (q1_kinds, .inl (cI, 300, .inl e1.1)), (q1_differences, .inl (cL, 300, .inr (.inl e1.2.1))), (q1_partsA, .inl (cL, 300, .inr (.inl e1.2.2.1))), (q1_partsB, .inl (cI, 300, .inl e1.2.2.2.1))]) (st2 := []) C (c_Packer_packBrought l D cI cL h h_log h_log_row h_past h_past_typed q1 q1_kinds q1_differences q1_partsA q1_partsB st e1 x2 x5 r115 hr115) (cV hts kV_Packer_packBrought wd_244 ⟨Nat.le_of_ble_eq_true rfl, Nat.le_of_ble_eq_true rfl⟩) hH [0, 1, 2, 3, 4, 5, 6, 7, 8, 9] [] [0, 1, 2, 3, 4, 5, 6, 7, 8, 9] rfl rfl rfl rfl (by decide) rfl rfl 0 rfl rfl rfl hl.1 rfl (Nat.le_of_ble_eq_true rfl) d_Packer_packEntry_115 ⟨Nat.le_of_ble_eq_true rfl, Nat.le_of_ble_eq_true rfl⟩ rfl (fun H locs hH => ?_)
    have hf := Option.some.inj hf
    subst hf
    exact rV C hH d_Packer_packEntry_118
  · have hf := im hc87 hf
    refine lv_aload_n hx hb d_Packer_packEntry_90 rfl (lv_at hl 0 rfl) ?_
    refine lv_dup hx hb d_Packer_packEntry_91 rfl ?_
    refine gt (ci := 3) (v := .int st.2.2.2.2.2.2.2) C hH (iwT iw_Packer) 0 rfl rfl 7 (by decide) (.tail _ wd_89) rfl d_Packer_packEntry_92 ?_
    refine lv_iconst (v := 1) hx hb d_Packer_packEntry_95 (by decide) ?_
    refine lv_iadd hx hb d_Packer_packEntry_96 ?_
    refine pt (ci := 3) (v := .int (st.2.2.2.2.2.2.2 + 1)) C hH (iwT iw_Packer) ty_Packer tyok_Packer nm_Packer 0 rfl rfl 7 (by decide) (.tail _ wd_89) rfl rfl rfl (Nat.le_of_ble_eq_true rfl) d_Packer_packEntry_97 [(h, .inr (3, [.ref h_log, .ref h_past, .int (bI st.2.2.1), .int st.2.2.2.1, .int st.2.2.2.2.1, .int st.2.2.2.2.2.1, .int st.2.2.2.2.2.2.1, .int (st.2.2.2.2.2.2.2 + 1)])), (h_log, .inr (0, [.ref h_log_row, .int st.1.2])), (h_log_row, .inl (cI, 5000, .inl st.1.1)), (h_past, .inr (1, [.ref h_past_typed, .int st.2.1.2.1, .int st.2.1.2.2])), (h_past_typed, .inl (cI, 300, .inl st.2.1.1)), (q1, .inr (2, [.ref q1_kinds, .ref q1_differences, .ref q1_partsA, .ref q1_partsB, .int e1.2.2.2.2])), (q1_kinds, .inl (cI, 300, .inl e1.1)), (q1_differences, .inl (cL, 300, .inr (.inl e1.2.1))), (q1_partsA, .inl (cL, 300, .inr (.inl e1.2.2.1))), (q1_partsB, .inl (cI, 300, .inl e1.2.2.2.1))] rfl (fun H locs hH => ?_)
    refine lv_aload_n hx hb d_Packer_packEntry_100 rfl (lv_at hl 0 rfl) ?_
    refine lv_iload hx hb d_Packer_packEntry_101 (lv_at hl 3 rfl) ?_
    refine lv_i2l (v := x4.toInt64) hx hb d_Packer_packEntry_103 rfl ?_
    obtain ⟨r104, hr104, hf⟩ := ob hf
    refine fnV (rest := []) (wr := [(q1, .inr (2, [.ref q1_kinds, .ref q1_differences, .ref q1_partsA, .ref q1_partsB, .int e1.2.2.2.2])), (q1_kinds, .inl (cI, 300, .inl e1.1)), (q1_differences, .inl (cL, 300, .inr (.inl e1.2.1))), (q1_partsA, .inl (cL, 300, .inr (.inl e1.2.2.1))), (q1_partsB, .inl (cI, 300, .inl e1.2.2.2.1))]) (w2 := [(h, .inr (3, [.ref h_log, .ref h_past, .int (bI r104.2.2.1), .int r104.2.2.2.1, .int r104.2.2.2.2.1, .int r104.2.2.2.2.2.1, .int r104.2.2.2.2.2.2.1, .int r104.2.2.2.2.2.2.2])), (h_log, .inr (0, [.ref h_log_row, .int r104.1.2])), (h_log_row, .inl (cI, 5000, .inl r104.1.1)), (h_past, .inr (1, [.ref h_past_typed, .int r104.2.1.2.1, .int r104.2.1.2.2])), (h_past_typed, .inl (cI, 300, .inl r104.2.1.1)), (q1, .inr (2, [.ref q1_kinds, .ref q1_differences, .ref q1_partsA, .ref q1_partsB, .int e1.2.2.2.2])), (q1_kinds, .inl (cI, 300, .inl e1.1)), (q1_differences, .inl (cL, 300, .inr (.inl e1.2.1))), (q1_partsA, .inl (cL, 300, .inr (.inl e1.2.2.1))), (q1_partsB, .inl (cI, 300, .inl e1.2.2.2.1))]) (st2 := []) C (c_Packer_packVarint l D cI cL h h_log h_log_row h_past h_past_typed ((st.1, st.2.1, st.2.2.1, st.2.2.2.1, st.2.2.2.2.1, st.2.2.2.2.2.1, st.2.2.2.2.2.2.1, st.2.2.2.2.2.2.2 + 1)) x4.toInt64 r104 hr104) (cV hts kV_Packer_packVarint wd_171 ⟨Nat.le_of_ble_eq_true rfl, Nat.le_of_ble_eq_true rfl⟩) hH [0, 1, 2, 3, 4] [5, 6, 7, 8, 9] [5, 6, 7, 8, 9, 0, 1, 2, 3, 4] rfl rfl rfl rfl (by decide) rfl rfl 0 rfl rfl rfl hl.1 rfl (Nat.le_of_ble_eq_true rfl) d_Packer_packEntry_104 ⟨Nat.le_of_ble_eq_true rfl, Nat.le_of_ble_eq_true rfl⟩ rfl (fun H locs hH => ?_)
    refine lv_goto (tgt := 118) hx hb d_Packer_packEntry_107 (by decide) ?_
    have hf := Option.some.inj hf
    subst hf
    exact rV C hH d_Packer_packEntry_118
def f_Packer_packEntry_b50 (st : S_Packer) (e1 : S_Events) (x2 : Int32) (x3 : Int32) (x4 : Int32) (x5 : Int32) (z0 : Int32) (z1 : Int32) : Option (S_Packer) :=
  lt1 (f_Packer_packByte st ((z1 ||| z0) ||| (x5 <<< (4 &&& 31)))) (fun r56 => if x3 = 0 then ((f_Packer_packVarint r56 (f_Events_difference e1 x2)).bind (fun r82 => f_Packer_packEntry_b85 r82 e1 x2 x4 x5)) else (f_Packer_packEntry_b85 ((r56.1, r56.2.1, r56.2.2.1, r56.2.2.2.1, r56.2.2.2.2.1, r56.2.2.2.2.2.1, r56.2.2.2.2.2.2.1 + 1, r56.2.2.2.2.2.2.2)) e1 x2 x4 x5))
set_option maxRecDepth 100000 in
set_option maxHeartbeats 4000000 in
theorem w_Packer_packEntry_b50 (l : Launch) (D : va_G) (cI cL : ClassId) (h h_log h_log_row h_past h_past_typed q1 q1_kinds q1_differences q1_partsA q1_partsB : Nat) {p : Program} {e : Env} {s : State} {m : MethodId} {args : Array Value} {below : List Frame} {meth : Method} {c : Code} {A : Nat → Prop} (C : Cx p s m args meth c D vwCl [(cI, .int), (cL, .long)] A b_Packer_packEntry 6 none ws_Packer_packEntry y_Packer_packEntry.cls) : ∀ (st : S_Packer) (e1 : S_Events) (x2 : Int32) (x3 : Int32) (x4 : Int32) (x5 : Int32) (z0 : Int32) (z1 : Int32) (res : S_Packer), f_Packer_packEntry_b50 st e1 x2 x3 x4 x5 z0 z1 = some res → ∀ (H : Heap) (locs : List Loc) (ls : Array Slot), Hp D vwCl A A s.heap H locs [(h, .inr (3, [.ref h_log, .ref h_past, .int (bI st.2.2.1), .int st.2.2.2.1, .int st.2.2.2.2.1, .int st.2.2.2.2.2.1, .int st.2.2.2.2.2.2.1, .int st.2.2.2.2.2.2.2])), (h_log, .inr (0, [.ref h_log_row, .int st.1.2])), (h_log_row, .inl (cI, 5000, .inl st.1.1)), (h_past, .inr (1, [.ref h_past_typed, .int st.2.1.2.1, .int st.2.1.2.2])), (h_past_typed, .inl (cI, 300, .inl st.2.1.1)), (q1, .inr (2, [.ref q1_kinds, .ref q1_differences, .ref q1_partsA, .ref q1_partsB, .int e1.2.2.2.2])), (q1_kinds, .inl (cI, 300, .inl e1.1)), (q1_differences, .inl (cL, 300, .inr (.inl e1.2.1))), (q1_partsA, .inl (cL, 300, .inr (.inl e1.2.2.1))), (q1_partsB, .inl (cI, 300, .inl e1.2.2.2.1))] → lv_has ls 6 [(0, .ref h), (1, .ref q1), (2, .int x2), (3, .int x3), (4, .int x4), (5, .int x5)] → W p l e { frames := 4, cells := 0, slots := 0, locals := 90 } s m args below meth c H locs 0 0 (MQ below (Qw D vwCl [(cI, .int), (cL, .long)] (none) A [(h, .inr (3, [.ref h_log, .ref h_past, .int (bI res.2.2.1), .int res.2.2.2.1, .int res.2.2.2.2.1, .int res.2.2.2.2.2.1, .int res.2.2.2.2.2.2.1, .int res.2.2.2.2.2.2.2])), (h_log, .inr (0, [.ref h_log_row, .int res.1.2])), (h_log_row, .inl (cI, 5000, .inl res.1.1)), (h_past, .inr (1, [.ref h_past_typed, .int res.2.1.2.1, .int res.2.1.2.2])), (h_past_typed, .inl (cI, 300, .inl res.2.1.1)), (q1, .inr (2, [.ref q1_kinds, .ref q1_differences, .ref q1_partsA, .ref q1_partsB, .int e1.2.2.2.2])), (q1_kinds, .inl (cI, 300, .inl e1.1)), (q1_differences, .inl (cL, 300, .inr (.inl e1.2.1))), (q1_partsA, .inl (cL, 300, .inr (.inl e1.2.2.1))), (q1_partsB, .inl (cI, 300, .inl e1.2.2.2.1))]) args s 0 0 A) (F0 m 50 ls [.int z0, .int z1, .ref h]) := by
  obtain ⟨hx, hb, hr, hml, hown, hts, hlk, hK, hA⟩ := id C
  intro st e1 x2 x3 x4 x5 z0 z1 res hf H locs ls hH hl
  unfold f_Packer_packEntry_b50 at hf
  refine lv_ior hx hb d_Packer_packEntry_50 ?_
  refine lv_iload hx hb d_Packer_packEntry_51 (lv_at hl 5 rfl) ?_
  refine lv_iconst (v := 4) hx hb d_Packer_packEntry_53 (by decide) ?_
  refine lv_ishl hx hb d_Packer_packEntry_54 ?_
  refine lv_ior hx hb d_Packer_packEntry_55 ?_
  obtain ⟨r56, hr56, hf⟩ := lb hf
  refine fnV (rest := []) (wr := [(q1, .inr (2, [.ref q1_kinds, .ref q1_differences, .ref q1_partsA, .ref q1_partsB, .int e1.2.2.2.2])), (q1_kinds, .inl (cI, 300, .inl e1.1)), (q1_differences, .inl (cL, 300, .inr (.inl e1.2.1))), (q1_partsA, .inl (cL, 300, .inr (.inl e1.2.2.1))), (q1_partsB, .inl (cI, 300, .inl e1.2.2.2.1))]) (w2 := [(h, .inr (3, [.ref h_log, .ref h_past, .int (bI r56.2.2.1), .int r56.2.2.2.1, .int r56.2.2.2.2.1, .int r56.2.2.2.2.2.1, .int r56.2.2.2.2.2.2.1, .int r56.2.2.2.2.2.2.2])), (h_log, .inr (0, [.ref h_log_row, .int r56.1.2])), (h_log_row, .inl (cI, 5000, .inl r56.1.1)), (h_past, .inr (1, [.ref h_past_typed, .int r56.2.1.2.1, .int r56.2.1.2.2])), (h_past_typed, .inl (cI, 300, .inl r56.2.1.1)), (q1, .inr (2, [.ref q1_kinds, .ref q1_differences, .ref q1_partsA, .ref q1_partsB, .int e1.2.2.2.2])), (q1_kinds, .inl (cI, 300, .inl e1.1)), (q1_differences, .inl (cL, 300, .inr (.inl e1.2.1))), (q1_partsA, .inl (cL, 300, .inr (.inl e1.2.2.1))), (q1_partsB, .inl (cI, 300, .inl e1.2.2.2.1))]) (st2 := []) C (c_Packer_packByte l D cI cL h h_log h_log_row h_past h_past_typed st ((z1 ||| z0) ||| (x5 <<< (4 &&& 31))) r56 hr56) (cV hts kV_Packer_packByte wd_176 ⟨Nat.le_of_ble_eq_true rfl, Nat.le_of_ble_eq_true rfl⟩) hH [0, 1, 2, 3, 4] [5, 6, 7, 8, 9] [5, 6, 7, 8, 9, 0, 1, 2, 3, 4] rfl rfl rfl rfl (by decide) rfl rfl 0 rfl rfl rfl hl.1 rfl (Nat.le_of_ble_eq_true rfl) d_Packer_packEntry_56 ⟨Nat.le_of_ble_eq_true rfl, Nat.le_of_ble_eq_true rfl⟩ rfl (fun H locs hH => ?_)
  refine lv_iload_n hx hb d_Packer_packEntry_59 rfl (lv_at hl 3 rfl) ?_
  refine lv_if_eq (tgt := 76) hx hb d_Packer_packEntry_60 (by decide) (fun hc60 => ?_) (fun hc60 => ?_)
  · have hf := ip hc60 hf
    refine lv_aload_n hx hb d_Packer_packEntry_76 rfl (lv_at hl 0 rfl) ?_
    refine lv_aload_n hx hb d_Packer_packEntry_77 rfl (lv_at hl 1 rfl) ?_
    refine lv_iload_n hx hb d_Packer_packEntry_78 rfl (lv_at hl 2 rfl) ?_
    refine fnVR (rest := [.ref h]) (st2 := [.long (f_Events_difference e1 x2), .ref h]) C (c_Events_difference l D cI cL q1 q1_kinds q1_differences q1_partsA q1_partsB e1 x2 _ rfl) (cV hts kV_Events_difference wd_243 ⟨Nat.le_of_ble_eq_true rfl, Nat.le_of_ble_eq_true rfl⟩) hH [5, 6, 7, 8, 9] rfl rfl 0 rfl rfl rfl hl.1 rfl (Nat.le_of_ble_eq_true rfl) d_Packer_packEntry_79 ⟨Nat.le_of_ble_eq_true rfl, Nat.le_of_ble_eq_true rfl⟩ rfl (fun H locs hH => ?_)
    obtain ⟨r82, hr82, hf⟩ := ob hf
    refine fnV (rest := []) (wr := [(q1, .inr (2, [.ref q1_kinds, .ref q1_differences, .ref q1_partsA, .ref q1_partsB, .int e1.2.2.2.2])), (q1_kinds, .inl (cI, 300, .inl e1.1)), (q1_differences, .inl (cL, 300, .inr (.inl e1.2.1))), (q1_partsA, .inl (cL, 300, .inr (.inl e1.2.2.1))), (q1_partsB, .inl (cI, 300, .inl e1.2.2.2.1))]) (w2 := [(h, .inr (3, [.ref h_log, .ref h_past, .int (bI r82.2.2.1), .int r82.2.2.2.1, .int r82.2.2.2.2.1, .int r82.2.2.2.2.2.1, .int r82.2.2.2.2.2.2.1, .int r82.2.2.2.2.2.2.2])), (h_log, .inr (0, [.ref h_log_row, .int r82.1.2])), (h_log_row, .inl (cI, 5000, .inl r82.1.1)), (h_past, .inr (1, [.ref h_past_typed, .int r82.2.1.2.1, .int r82.2.1.2.2])), (h_past_typed, .inl (cI, 300, .inl r82.2.1.1)), (q1, .inr (2, [.ref q1_kinds, .ref q1_differences, .ref q1_partsA, .ref q1_partsB, .int e1.2.2.2.2])), (q1_kinds, .inl (cI, 300, .inl e1.1)), (q1_differences, .inl (cL, 300, .inr (.inl e1.2.1))), (q1_partsA, .inl (cL, 300, .inr (.inl e1.2.2.1))), (q1_partsB, .inl (cI, 300, .inl e1.2.2.2.1))]) (st2 := []) C (c_Packer_packVarint l D cI cL h h_log h_log_row h_past h_past_typed r56 (f_Events_difference e1 x2) r82 hr82) (cV hts kV_Packer_packVarint wd_171 ⟨Nat.le_of_ble_eq_true rfl, Nat.le_of_ble_eq_true rfl⟩) hH [0, 1, 2, 3, 4] [5, 6, 7, 8, 9] [5, 6, 7, 8, 9, 0, 1, 2, 3, 4] rfl rfl rfl rfl (by decide) rfl rfl 0 rfl rfl rfl hl.1 rfl (Nat.le_of_ble_eq_true rfl) d_Packer_packEntry_82 ⟨Nat.le_of_ble_eq_true rfl, Nat.le_of_ble_eq_true rfl⟩ rfl (fun H locs hH => ?_)
    exact w_Packer_packEntry_b85 l D cI cL h h_log h_log_row h_past h_past_typed q1 q1_kinds q1_differences q1_partsA q1_partsB C r82 e1 x2 x4 x5 res hf _ _ _ hH (lv_sub hl [0, 1, 2, 4, 5] rfl)
  · have hf := im hc60 hf
    refine lv_aload_n hx hb d_Packer_packEntry_63 rfl (lv_at hl 0 rfl) ?_
    refine lv_dup hx hb d_Packer_packEntry_64 rfl ?_
    refine gt (ci := 3) (v := .int r56.2.2.2.2.2.2.1) C hH (iwT iw_Packer) 0 rfl rfl 6 (by decide) (.tail _ wd_88) rfl d_Packer_packEntry_65 ?_
    refine lv_iconst (v := 1) hx hb d_Packer_packEntry_68 (by decide) ?_
    refine lv_iadd hx hb d_Packer_packEntry_69 ?_
    refine pt (ci := 3) (v := .int (r56.2.2.2.2.2.2.1 + 1)) C hH (iwT iw_Packer) ty_Packer tyok_Packer nm_Packer 0 rfl rfl 6 (by decide) (.tail _ wd_88) rfl rfl rfl (Nat.le_of_ble_eq_true rfl) d_Packer_packEntry_70 [(h, .inr (3, [.ref h_log, .ref h_past, .int (bI r56.2.2.1), .int r56.2.2.2.1, .int r56.2.2.2.2.1, .int r56.2.2.2.2.2.1, .int (r56.2.2.2.2.2.2.1 + 1), .int r56.2.2.2.2.2.2.2])), (h_log, .inr (0, [.ref h_log_row, .int r56.1.2])), (h_log_row, .inl (cI, 5000, .inl r56.1.1)), (h_past, .inr (1, [.ref h_past_typed, .int r56.2.1.2.1, .int r56.2.1.2.2])), (h_past_typed, .inl (cI, 300, .inl r56.2.1.1)), (q1, .inr (2, [.ref q1_kinds, .ref q1_differences, .ref q1_partsA, .ref q1_partsB, .int e1.2.2.2.2])), (q1_kinds, .inl (cI, 300, .inl e1.1)), (q1_differences, .inl (cL, 300, .inr (.inl e1.2.1))), (q1_partsA, .inl (cL, 300, .inr (.inl e1.2.2.1))), (q1_partsB, .inl (cI, 300, .inl e1.2.2.2.1))] rfl (fun H locs hH => ?_)
    refine lv_goto (tgt := 85) hx hb d_Packer_packEntry_73 (by decide) ?_
    exact w_Packer_packEntry_b85 l D cI cL h h_log h_log_row h_past h_past_typed q1 q1_kinds q1_differences q1_partsA q1_partsB C ((r56.1, r56.2.1, r56.2.2.1, r56.2.2.2.1, r56.2.2.2.2.1, r56.2.2.2.2.2.1, r56.2.2.2.2.2.2.1 + 1, r56.2.2.2.2.2.2.2)) e1 x2 x4 x5 res hf _ _ _ hH (lv_sub hl [0, 1, 2, 4, 5] rfl)
def f_Packer_packEntry (st : S_Packer) (e1 : S_Events) (x2 : Int32) : Option (S_Packer) :=
  (f_Packer_repeated st e1 x2).bind (fun r9 => if (bI (f_Events_hasDifferenceBefore e1 x2)) = 0 then (f_Packer_packEntry_b50 ((st.1, st.2.1, st.2.2.1, st.2.2.2.1, st.2.2.2.2.1 + 1, st.2.2.2.2.2.1, st.2.2.2.2.2.2.1, st.2.2.2.2.2.2.2)) e1 x2 (bI (f_Events_hasDifferenceBefore e1 x2)) r9 (f_Packer_headX st e1 x2 r9) 0 (f_Events_kind e1 x2)) else (f_Packer_packEntry_b50 ((st.1, st.2.1, st.2.2.1, st.2.2.2.1, st.2.2.2.2.1 + 1, st.2.2.2.2.2.1, st.2.2.2.2.2.2.1, st.2.2.2.2.2.2.2)) e1 x2 (bI (f_Events_hasDifferenceBefore e1 x2)) r9 (f_Packer_headX st e1 x2 r9) 8 (f_Events_kind e1 x2)))
set_option maxRecDepth 100000 in
set_option maxHeartbeats 4000000 in
theorem c_Packer_packEntry (l : Launch) (D : va_G) (cI cL : ClassId) (h h_log h_log_row h_past h_past_typed q1 q1_kinds q1_differences q1_partsA q1_partsB : Nat) (st : S_Packer) (e1 : S_Events) (x2 : Int32) (res : S_Packer) (hf : f_Packer_packEntry st e1 x2 = some res) :
    Fn l D vwCl [(cI, .int), (cL, .long)] y_Packer_packEntry ws_Packer_packEntry { frames := 4, cells := 0, slots := 0, locals := 90 } [.ref h, .ref q1, .int x2] [(h, .inr (3, [.ref h_log, .ref h_past, .int (bI st.2.2.1), .int st.2.2.2.1, .int st.2.2.2.2.1, .int st.2.2.2.2.2.1, .int st.2.2.2.2.2.2.1, .int st.2.2.2.2.2.2.2])), (h_log, .inr (0, [.ref h_log_row, .int st.1.2])), (h_log_row, .inl (cI, 5000, .inl st.1.1)), (h_past, .inr (1, [.ref h_past_typed, .int st.2.1.2.1, .int st.2.1.2.2])), (h_past_typed, .inl (cI, 300, .inl st.2.1.1)), (q1, .inr (2, [.ref q1_kinds, .ref q1_differences, .ref q1_partsA, .ref q1_partsB, .int e1.2.2.2.2])), (q1_kinds, .inl (cI, 300, .inl e1.1)), (q1_differences, .inl (cL, 300, .inr (.inl e1.2.1))), (q1_partsA, .inl (cL, 300, .inr (.inl e1.2.2.1))), (q1_partsB, .inl (cI, 300, .inl e1.2.2.2.1))] (none) [(h, .inr (3, [.ref h_log, .ref h_past, .int (bI res.2.2.1), .int res.2.2.2.1, .int res.2.2.2.2.1, .int res.2.2.2.2.2.1, .int res.2.2.2.2.2.2.1, .int res.2.2.2.2.2.2.2])), (h_log, .inr (0, [.ref h_log_row, .int res.1.2])), (h_log_row, .inl (cI, 5000, .inl res.1.1)), (h_past, .inr (1, [.ref h_past_typed, .int res.2.1.2.1, .int res.2.1.2.2])), (h_past_typed, .inl (cI, 300, .inl res.2.1.1)), (q1, .inr (2, [.ref q1_kinds, .ref q1_differences, .ref q1_partsA, .ref q1_partsB, .int e1.2.2.2.2])), (q1_kinds, .inl (cI, 300, .inl e1.1)), (q1_differences, .inl (cL, 300, .inr (.inl e1.2.1))), (q1_partsA, .inl (cL, 300, .inr (.inl e1.2.2.1))), (q1_partsB, .inl (cI, 300, .inl e1.2.2.2.1))] := by
  refine Fn.ofW (cc := b_Packer_packEntry) (maxL := 6) (ret := none) (by decide) rfl (Nat.le_of_ble_eq_true rfl) ?_
  intro p e s m below meth c A ls C hH hinit hl
  have hl : lv_has ls 6 [(0, .ref h), (1, .ref q1), (2, .int x2)] := hl
  obtain ⟨hx, hb, hr, hml, hown, hts, hlk, hK, hA⟩ := id C
  unfold f_Packer_packEntry at hf
  refine lv_aload_n hx hb d_Packer_packEntry_0 rfl (lv_at hl 1 rfl) ?_
  refine lv_iload_n hx hb d_Packer_packEntry_1 rfl (lv_at hl 2 rfl) ?_
  refine fnVR (rest := []) (st2 := [.int (bI (f_Events_hasDifferenceBefore e1 x2))]) C (c_Events_hasDifferenceBefore l D cI cL q1 q1_kinds q1_differences q1_partsA q1_partsB e1 x2 _ rfl) (cV hts kV_Events_hasDifferenceBefore wd_212 ⟨Nat.le_of_ble_eq_true rfl, Nat.le_of_ble_eq_true rfl⟩) hH [5, 6, 7, 8, 9] rfl rfl 0 rfl rfl rfl hl.1 rfl (Nat.le_of_ble_eq_true rfl) d_Packer_packEntry_2 ⟨Nat.le_of_ble_eq_true rfl, Nat.le_of_ble_eq_true rfl⟩ rfl (fun H locs hH => ?_)
  refine lv_istore_n (lv' := [(3, .int (bI (f_Events_hasDifferenceBefore e1 x2))), (0, .ref h), (1, .ref q1), (2, .int x2)]) hx hb d_Packer_packEntry_5 rfl hl (by decide) rfl (fun ls hl => ?_)
  refine lv_aload_n hx hb d_Packer_packEntry_6 rfl (lv_at hl 1 rfl) ?_
  refine lv_aload_n hx hb d_Packer_packEntry_7 rfl (lv_at hl 2 rfl) ?_
  refine lv_iload_n hx hb d_Packer_packEntry_8 rfl (lv_at hl 3 rfl) ?_
  obtain ⟨r9, hr9, hf⟩ := ob hf
  refine fnVR (rest := []) (st2 := [.int r9]) C (c_Packer_repeated l D cI cL h h_log h_log_row h_past h_past_typed q1 q1_kinds q1_differences q1_partsA q1_partsB st e1 x2 r9 hr9) (cV hts kV_Packer_repeated wd_213 ⟨Nat.le_of_ble_eq_true rfl, Nat.le_of_ble_eq_true rfl⟩) hH [0, 1, 2, 3, 4, 5, 6, 7, 8, 9] rfl rfl 0 rfl rfl rfl hl.1 rfl (Nat.le_of_ble_eq_true rfl) d_Packer_packEntry_9 ⟨Nat.le_of_ble_eq_true rfl, Nat.le_of_ble_eq_true rfl⟩ rfl (fun H locs hH => ?_)
  refine lv_istore (lv' := [(4, .int r9), (3, .int (bI (f_Events_hasDifferenceBefore e1 x2))), (0, .ref h), (1, .ref q1), (2, .int x2)]) hx hb d_Packer_packEntry_12 hl (by decide) rfl (fun ls hl => ?_)
  refine lv_aload_n hx hb d_Packer_packEntry_14 rfl (lv_at hl 2 rfl) ?_
  refine lv_aload_n hx hb d_Packer_packEntry_15 rfl (lv_at hl 3 rfl) ?_
  refine lv_iload_n hx hb d_Packer_packEntry_16 rfl (lv_at hl 4 rfl) ?_
  refine lv_iload hx hb d_Packer_packEntry_17 (lv_at hl 0 rfl) ?_
  refine fnVR (rest := []) (st2 := [.int (f_Packer_headX st e1 x2 r9)]) C (c_Packer_headX l D cI cL h h_log h_log_row h_past h_past_typed q1 q1_kinds q1_differences q1_partsA q1_partsB st e1 x2 r9 _ rfl) (cV hts kV_Packer_headX wd_231 ⟨Nat.le_of_ble_eq_true rfl, Nat.le_of_ble_eq_true rfl⟩) hH [0, 1, 2, 3, 4, 5, 6, 7, 8, 9] rfl rfl 0 rfl rfl rfl hl.1 rfl (Nat.le_of_ble_eq_true rfl) d_Packer_packEntry_19 ⟨Nat.le_of_ble_eq_true rfl, Nat.le_of_ble_eq_true rfl⟩ rfl (fun H locs hH => ?_)
  refine lv_istore (lv' := [(5, .int (f_Packer_headX st e1 x2 r9)), (4, .int r9), (3, .int (bI (f_Events_hasDifferenceBefore e1 x2))), (0, .ref h), (1, .ref q1), (2, .int x2)]) hx hb d_Packer_packEntry_22 hl (by decide) rfl (fun ls hl => ?_)
  refine lv_aload_n hx hb d_Packer_packEntry_24 rfl (lv_at hl 3 rfl) ?_
  refine lv_dup hx hb d_Packer_packEntry_25 rfl ?_
  refine gt (ci := 3) (v := .int st.2.2.2.2.1) C hH (iwT iw_Packer) 0 rfl rfl 4 (by decide) (.tail _ wd_86) rfl d_Packer_packEntry_26 ?_
  refine lv_iconst (v := 1) hx hb d_Packer_packEntry_29 (by decide) ?_
  refine lv_iadd hx hb d_Packer_packEntry_30 ?_
  refine pt (ci := 3) (v := .int (st.2.2.2.2.1 + 1)) C hH (iwT iw_Packer) ty_Packer tyok_Packer nm_Packer 0 rfl rfl 4 (by decide) (.tail _ wd_86) rfl rfl rfl (Nat.le_of_ble_eq_true rfl) d_Packer_packEntry_31 [(h, .inr (3, [.ref h_log, .ref h_past, .int (bI st.2.2.1), .int st.2.2.2.1, .int (st.2.2.2.2.1 + 1), .int st.2.2.2.2.2.1, .int st.2.2.2.2.2.2.1, .int st.2.2.2.2.2.2.2])), (h_log, .inr (0, [.ref h_log_row, .int st.1.2])), (h_log_row, .inl (cI, 5000, .inl st.1.1)), (h_past, .inr (1, [.ref h_past_typed, .int st.2.1.2.1, .int st.2.1.2.2])), (h_past_typed, .inl (cI, 300, .inl st.2.1.1)), (q1, .inr (2, [.ref q1_kinds, .ref q1_differences, .ref q1_partsA, .ref q1_partsB, .int e1.2.2.2.2])), (q1_kinds, .inl (cI, 300, .inl e1.1)), (q1_differences, .inl (cL, 300, .inr (.inl e1.2.1))), (q1_partsA, .inl (cL, 300, .inr (.inl e1.2.2.1))), (q1_partsB, .inl (cI, 300, .inl e1.2.2.2.1))] rfl (fun H locs hH => ?_)
  refine lv_aload_n hx hb d_Packer_packEntry_34 rfl (lv_at hl 3 rfl) ?_
  refine lv_aload_n hx hb d_Packer_packEntry_35 rfl (lv_at hl 4 rfl) ?_
  refine lv_iload_n hx hb d_Packer_packEntry_36 rfl (lv_at hl 5 rfl) ?_
  refine fnVR (rest := [.ref h]) (st2 := [.int (f_Events_kind e1 x2), .ref h]) C (c_Events_kind l D cI cL q1 q1_kinds q1_differences q1_partsA q1_partsB e1 x2 _ rfl) (cV hts kV_Events_kind wd_217 ⟨Nat.le_of_ble_eq_true rfl, Nat.le_of_ble_eq_true rfl⟩) hH [5, 6, 7, 8, 9] rfl rfl 0 rfl rfl rfl hl.1 rfl (Nat.le_of_ble_eq_true rfl) d_Packer_packEntry_37 ⟨Nat.le_of_ble_eq_true rfl, Nat.le_of_ble_eq_true rfl⟩ rfl (fun H locs hH => ?_)
  refine lv_iload_n hx hb d_Packer_packEntry_40 rfl (lv_at hl 2 rfl) ?_
  refine lv_if_eq (tgt := 49) hx hb d_Packer_packEntry_41 (by decide) (fun hc41 => ?_) (fun hc41 => ?_)
  · have hf := ip hc41 hf
    refine lv_iconst (v := 0) hx hb d_Packer_packEntry_49 (by decide) ?_
    exact w_Packer_packEntry_b50 l D cI cL h h_log h_log_row h_past h_past_typed q1 q1_kinds q1_differences q1_partsA q1_partsB C ((st.1, st.2.1, st.2.2.1, st.2.2.2.1, st.2.2.2.2.1 + 1, st.2.2.2.2.2.1, st.2.2.2.2.2.2.1, st.2.2.2.2.2.2.2)) e1 x2 (bI (f_Events_hasDifferenceBefore e1 x2)) r9 (f_Packer_headX st e1 x2 r9) 0 (f_Events_kind e1 x2) res hf _ _ _ hH (lv_sub hl [3, 4, 5, 2, 1, 0] rfl)
  · have hf := im hc41 hf
    refine lv_bipush (v := 8) hx hb d_Packer_packEntry_44 (by decide) ?_
    refine lv_goto (tgt := 50) hx hb d_Packer_packEntry_46 (by decide) ?_
    exact w_Packer_packEntry_b50 l D cI cL h h_log h_log_row h_past h_past_typed q1 q1_kinds q1_differences q1_partsA q1_partsB C ((st.1, st.2.1, st.2.2.1, st.2.2.2.1, st.2.2.2.2.1 + 1, st.2.2.2.2.2.1, st.2.2.2.2.2.2.1, st.2.2.2.2.2.2.2)) e1 x2 (bI (f_Events_hasDifferenceBefore e1 x2)) r9 (f_Packer_headX st e1 x2 r9) 8 (f_Events_kind e1 x2) res hf _ _ _ hH (lv_sub hl [3, 4, 5, 2, 1, 0] rfl)
def f_Packer_run_b19 : Nat → S_Packer → S_Events → Int32 → Int32 → Option (S_Packer)
  | 0, _, _, _, _ => none
  | n + 1, st, e1, x3, x4 =>
  if (f_Events_number e1) ≤ x4 then ((f_Packer_packRun st x3).bind (fun r80 => some r80)) else (if (bI (f_Events_isLikeBefore e1 x4)) = 0 then ((f_Packer_packRun st x3).bind (fun r45 => (f_Packer_packEntry r45 e1 x4).bind (fun r54 => lt1 (f_Past_note r54.2.1 (f_Events_kind e1 x4) x4) (fun r69 => f_Packer_run_b19 n ((r54.1, r69, r54.2.2.1, r54.2.2.2.1, r54.2.2.2.2.1, r54.2.2.2.2.2.1, r54.2.2.2.2.2.2.1, r54.2.2.2.2.2.2.2)) e1 0 (x4 + 1))))) else (lt1 (f_Past_note st.2.1 (f_Events_kind e1 x4) x4) (fun r69 => f_Packer_run_b19 n ((st.1, r69, st.2.2.1, st.2.2.2.1, st.2.2.2.2.1, st.2.2.2.2.2.1, st.2.2.2.2.2.2.1, st.2.2.2.2.2.2.2)) e1 (x3 + 1) (x4 + 1))))
set_option maxRecDepth 100000 in
set_option maxHeartbeats 4000000 in
theorem w_Packer_run_b19 (l : Launch) (D : va_G) (cI cL : ClassId) (h h_log h_log_row h_past h_past_typed q1 q1_kinds q1_differences q1_partsA q1_partsB : Nat) {p : Program} {e : Env} {s : State} {m : MethodId} {args : Array Value} {below : List Frame} {meth : Method} {c : Code} {A : Nat → Prop} (C : Cx p s m args meth c D vwCl [(cI, .int), (cL, .long)] A b_Packer_run 5 none ws_Packer_run y_Packer_run.cls) : ∀ (n : Nat) (st : S_Packer) (e1 : S_Events) (x3 : Int32) (x4 : Int32) (res : S_Packer), f_Packer_run_b19 n st e1 x3 x4 = some res → ∀ (H : Heap) (locs : List Loc) (ls : Array Slot), Hp D vwCl A A s.heap H locs [(h, .inr (3, [.ref h_log, .ref h_past, .int (bI st.2.2.1), .int st.2.2.2.1, .int st.2.2.2.2.1, .int st.2.2.2.2.2.1, .int st.2.2.2.2.2.2.1, .int st.2.2.2.2.2.2.2])), (h_log, .inr (0, [.ref h_log_row, .int st.1.2])), (h_log_row, .inl (cI, 5000, .inl st.1.1)), (h_past, .inr (1, [.ref h_past_typed, .int st.2.1.2.1, .int st.2.1.2.2])), (h_past_typed, .inl (cI, 300, .inl st.2.1.1)), (q1, .inr (2, [.ref q1_kinds, .ref q1_differences, .ref q1_partsA, .ref q1_partsB, .int e1.2.2.2.2])), (q1_kinds, .inl (cI, 300, .inl e1.1)), (q1_differences, .inl (cL, 300, .inr (.inl e1.2.1))), (q1_partsA, .inl (cL, 300, .inr (.inl e1.2.2.1))), (q1_partsB, .inl (cI, 300, .inl e1.2.2.2.1))] → lv_has ls 5 [(0, .ref h), (1, .ref q1), (3, .int x3), (4, .int x4)] → W p l e { frames := 5, cells := 0, slots := 0, locals := 115 } s m args below meth c H locs 0 0 (MQ below (Qw D vwCl [(cI, .int), (cL, .long)] (none) A [(h, .inr (3, [.ref h_log, .ref h_past, .int (bI res.2.2.1), .int res.2.2.2.1, .int res.2.2.2.2.1, .int res.2.2.2.2.2.1, .int res.2.2.2.2.2.2.1, .int res.2.2.2.2.2.2.2])), (h_log, .inr (0, [.ref h_log_row, .int res.1.2])), (h_log_row, .inl (cI, 5000, .inl res.1.1)), (h_past, .inr (1, [.ref h_past_typed, .int res.2.1.2.1, .int res.2.1.2.2])), (h_past_typed, .inl (cI, 300, .inl res.2.1.1)), (q1, .inr (2, [.ref q1_kinds, .ref q1_differences, .ref q1_partsA, .ref q1_partsB, .int e1.2.2.2.2])), (q1_kinds, .inl (cI, 300, .inl e1.1)), (q1_differences, .inl (cL, 300, .inr (.inl e1.2.1))), (q1_partsA, .inl (cL, 300, .inr (.inl e1.2.2.1))), (q1_partsB, .inl (cI, 300, .inl e1.2.2.2.1))]) args s 0 0 A) (F0 m 19 ls []) := by
  obtain ⟨hx, hb, hr, hml, hown, hts, hlk, hK, hA⟩ := id C
  intro n
  induction n with
  | zero => intro st e1 x3 x4 res hf; cases hf
  | succ n ih =>
    intro st e1 x3 x4 res hf H locs ls hH hl
    rw [f_Packer_run_b19] at hf
    refine lv_iload hx hb d_Packer_run_19 (lv_at hl 3 rfl) ?_
    refine lv_aload_n hx hb d_Packer_run_21 rfl (lv_at hl 1 rfl) ?_
    refine fnVR (rest := [.int x4]) (st2 := [.int (f_Events_number e1), .int x4]) C (c_Events_number l D cI cL q1 q1_kinds q1_differences q1_partsA q1_partsB e1 _ rfl) (cV hts kV_Events_number wd_167 ⟨Nat.le_of_ble_eq_true rfl, Nat.le_of_ble_eq_true rfl⟩) hH [5, 6, 7, 8, 9] rfl rfl 0 rfl rfl rfl hl.1 rfl (Nat.le_of_ble_eq_true rfl) d_Packer_run_22 ⟨Nat.le_of_ble_eq_true rfl, Nat.le_of_ble_eq_true rfl⟩ rfl (fun H locs hH => ?_)
    refine lv_icmp_ge (tgt := 78) hx hb d_Packer_run_25 (by decide) (fun hc25 => ?_) (fun hc25 => ?_)
    · have hf := ip hc25 hf
      refine lv_aload_n hx hb d_Packer_run_78 rfl (lv_at hl 0 rfl) ?_
      refine lv_iload_n hx hb d_Packer_run_79 rfl (lv_at hl 2 rfl) ?_
      obtain ⟨r80, hr80, hf⟩ := ob hf
      refine fnV (rest := []) (wr := [(q1, .inr (2, [.ref q1_kinds, .ref q1_differences, .ref q1_partsA, .ref q1_partsB, .int e1.2.2.2.2])), (q1_kinds, .inl (cI, 300, .inl e1.1)), (q1_differences, .inl (cL, 300, .inr (.inl e1.2.1))), (q1_partsA, .inl (cL, 300, .inr (.inl e1.2.2.1))), (q1_partsB, .inl (cI, 300, .inl e1.2.2.2.1))]) (w2 := [(h, .inr (3, [.ref h_log, .ref h_past, .int (bI r80.2.2.1), .int r80.2.2.2.1, .int r80.2.2.2.2.1, .int r80.2.2.2.2.2.1, .int r80.2.2.2.2.2.2.1, .int r80.2.2.2.2.2.2.2])), (h_log, .inr (0, [.ref h_log_row, .int r80.1.2])), (h_log_row, .inl (cI, 5000, .inl r80.1.1)), (h_past, .inr (1, [.ref h_past_typed, .int r80.2.1.2.1, .int r80.2.1.2.2])), (h_past_typed, .inl (cI, 300, .inl r80.2.1.1)), (q1, .inr (2, [.ref q1_kinds, .ref q1_differences, .ref q1_partsA, .ref q1_partsB, .int e1.2.2.2.2])), (q1_kinds, .inl (cI, 300, .inl e1.1)), (q1_differences, .inl (cL, 300, .inr (.inl e1.2.1))), (q1_partsA, .inl (cL, 300, .inr (.inl e1.2.2.1))), (q1_partsB, .inl (cI, 300, .inl e1.2.2.2.1))]) (st2 := []) C (c_Packer_packRun l D cI cL h h_log h_log_row h_past h_past_typed st x3 r80 hr80) (cV hts kV_Packer_packRun wd_204 ⟨Nat.le_of_ble_eq_true rfl, Nat.le_of_ble_eq_true rfl⟩) hH [0, 1, 2, 3, 4] [5, 6, 7, 8, 9] [5, 6, 7, 8, 9, 0, 1, 2, 3, 4] rfl rfl rfl rfl (by decide) rfl rfl 0 rfl rfl rfl hl.1 rfl (Nat.le_of_ble_eq_true rfl) d_Packer_run_80 ⟨Nat.le_of_ble_eq_true rfl, Nat.le_of_ble_eq_true rfl⟩ rfl (fun H locs hH => ?_)
      have hf := Option.some.inj hf
      subst hf
      exact rV C hH d_Packer_run_83
    · have hf := im hc25 hf
      refine lv_aload_n hx hb d_Packer_run_28 rfl (lv_at hl 1 rfl) ?_
      refine lv_iload hx hb d_Packer_run_29 (lv_at hl 3 rfl) ?_
      refine fnVR (rest := []) (st2 := [.int (bI (f_Events_isLikeBefore e1 x4))]) C (c_Events_isLikeBefore l D cI cL q1 q1_kinds q1_differences q1_partsA q1_partsB e1 x4 _ rfl) (cV hts kV_Events_isLikeBefore wd_184 ⟨Nat.le_of_ble_eq_true rfl, Nat.le_of_ble_eq_true rfl⟩) hH [5, 6, 7, 8, 9] rfl rfl 0 rfl rfl rfl hl.1 rfl (Nat.le_of_ble_eq_true rfl) d_Packer_run_31 ⟨Nat.le_of_ble_eq_true rfl, Nat.le_of_ble_eq_true rfl⟩ rfl (fun H locs hH => ?_)
      refine lv_if_eq (tgt := 43) hx hb d_Packer_run_34 (by decide) (fun hc34 => ?_) (fun hc34 => ?_)
      · have hf := ip hc34 hf
        refine lv_aload_n hx hb d_Packer_run_43 rfl (lv_at hl 0 rfl) ?_
        refine lv_iload_n hx hb d_Packer_run_44 rfl (lv_at hl 2 rfl) ?_
        obtain ⟨r45, hr45, hf⟩ := ob hf
        refine fnV (rest := []) (wr := [(q1, .inr (2, [.ref q1_kinds, .ref q1_differences, .ref q1_partsA, .ref q1_partsB, .int e1.2.2.2.2])), (q1_kinds, .inl (cI, 300, .inl e1.1)), (q1_differences, .inl (cL, 300, .inr (.inl e1.2.1))), (q1_partsA, .inl (cL, 300, .inr (.inl e1.2.2.1))), (q1_partsB, .inl (cI, 300, .inl e1.2.2.2.1))]) (w2 := [(h, .inr (3, [.ref h_log, .ref h_past, .int (bI r45.2.2.1), .int r45.2.2.2.1, .int r45.2.2.2.2.1, .int r45.2.2.2.2.2.1, .int r45.2.2.2.2.2.2.1, .int r45.2.2.2.2.2.2.2])), (h_log, .inr (0, [.ref h_log_row, .int r45.1.2])), (h_log_row, .inl (cI, 5000, .inl r45.1.1)), (h_past, .inr (1, [.ref h_past_typed, .int r45.2.1.2.1, .int r45.2.1.2.2])), (h_past_typed, .inl (cI, 300, .inl r45.2.1.1)), (q1, .inr (2, [.ref q1_kinds, .ref q1_differences, .ref q1_partsA, .ref q1_partsB, .int e1.2.2.2.2])), (q1_kinds, .inl (cI, 300, .inl e1.1)), (q1_differences, .inl (cL, 300, .inr (.inl e1.2.1))), (q1_partsA, .inl (cL, 300, .inr (.inl e1.2.2.1))), (q1_partsB, .inl (cI, 300, .inl e1.2.2.2.1))]) (st2 := []) C (c_Packer_packRun l D cI cL h h_log h_log_row h_past h_past_typed st x3 r45 hr45) (cV hts kV_Packer_packRun wd_204 ⟨Nat.le_of_ble_eq_true rfl, Nat.le_of_ble_eq_true rfl⟩) hH [0, 1, 2, 3, 4] [5, 6, 7, 8, 9] [5, 6, 7, 8, 9, 0, 1, 2, 3, 4] rfl rfl rfl rfl (by decide) rfl rfl 0 rfl rfl rfl hl.1 rfl (Nat.le_of_ble_eq_true rfl) d_Packer_run_45 ⟨Nat.le_of_ble_eq_true rfl, Nat.le_of_ble_eq_true rfl⟩ rfl (fun H locs hH => ?_)
        refine lv_iconst (v := 0) hx hb d_Packer_run_48 (by decide) ?_
        refine lv_istore_n (lv' := [(3, .int 0), (0, .ref h), (1, .ref q1), (4, .int x4)]) hx hb d_Packer_run_49 rfl hl (by decide) rfl (fun ls hl => ?_)
        refine lv_aload_n hx hb d_Packer_run_50 rfl (lv_at hl 1 rfl) ?_
        refine lv_aload_n hx hb d_Packer_run_51 rfl (lv_at hl 2 rfl) ?_
        refine lv_iload hx hb d_Packer_run_52 (lv_at hl 3 rfl) ?_
        obtain ⟨r54, hr54, hf⟩ := ob hf
        refine fnV (rest := []) (wr := []) (w2 := [(h, .inr (3, [.ref h_log, .ref h_past, .int (bI r54.2.2.1), .int r54.2.2.2.1, .int r54.2.2.2.2.1, .int r54.2.2.2.2.2.1, .int r54.2.2.2.2.2.2.1, .int r54.2.2.2.2.2.2.2])), (h_log, .inr (0, [.ref h_log_row, .int r54.1.2])), (h_log_row, .inl (cI, 5000, .inl r54.1.1)), (h_past, .inr (1, [.ref h_past_typed, .int r54.2.1.2.1, .int r54.2.1.2.2])), (h_past_typed, .inl (cI, 300, .inl r54.2.1.1)), (q1, .inr (2, [.ref q1_kinds, .ref q1_differences, .ref q1_partsA, .ref q1_partsB, .int e1.2.2.2.2])), (q1_kinds, .inl (cI, 300, .inl e1.1)), (q1_differences, .inl (cL, 300, .inr (.inl e1.2.1))), (q1_partsA, .inl (cL, 300, .inr (.inl e1.2.2.1))), (q1_partsB, .inl (cI, 300, .inl e1.2.2.2.1))]) (st2 := []) C (c_Packer_packEntry l D cI cL h h_log h_log_row h_past h_past_typed q1 q1_kinds q1_differences q1_partsA q1_partsB r45 e1 x4 r54 hr54) (cV hts kV_Packer_packEntry wd_208 ⟨Nat.le_of_ble_eq_true rfl, Nat.le_of_ble_eq_true rfl⟩) hH [0, 1, 2, 3, 4, 5, 6, 7, 8, 9] [] [0, 1, 2, 3, 4, 5, 6, 7, 8, 9] rfl rfl rfl rfl (by decide) rfl rfl 0 rfl rfl rfl hl.1 rfl (Nat.le_of_ble_eq_true rfl) d_Packer_run_54 ⟨Nat.le_of_ble_eq_true rfl, Nat.le_of_ble_eq_true rfl⟩ rfl (fun H locs hH => ?_)
        refine lv_aload_n hx hb d_Packer_run_57 rfl (lv_at hl 1 rfl) ?_
        refine gt (ci := 3) (v := .ref h_past) C hH (iwT iw_Packer) 0 rfl rfl 1 (by decide) (.tail _ wd_83) rfl d_Packer_run_58 ?_
        refine lv_aload_n hx hb d_Packer_run_61 rfl (lv_at hl 2 rfl) ?_
        refine lv_iload hx hb d_Packer_run_62 (lv_at hl 3 rfl) ?_
        refine fnVR (rest := [.ref h_past]) (st2 := [.int (f_Events_kind e1 x4), .ref h_past]) C (c_Events_kind l D cI cL q1 q1_kinds q1_differences q1_partsA q1_partsB e1 x4 _ rfl) (cV hts kV_Events_kind wd_217 ⟨Nat.le_of_ble_eq_true rfl, Nat.le_of_ble_eq_true rfl⟩) hH [5, 6, 7, 8, 9] rfl rfl 0 rfl rfl rfl hl.1 rfl (Nat.le_of_ble_eq_true rfl) d_Packer_run_64 ⟨Nat.le_of_ble_eq_true rfl, Nat.le_of_ble_eq_true rfl⟩ rfl (fun H locs hH => ?_)
        refine lv_iload hx hb d_Packer_run_67 (lv_at hl 3 rfl) ?_
        obtain ⟨r69, hr69, hf⟩ := lb hf
        refine fnV (rest := []) (wr := [(h, .inr (3, [.ref h_log, .ref h_past, .int (bI r54.2.2.1), .int r54.2.2.2.1, .int r54.2.2.2.2.1, .int r54.2.2.2.2.2.1, .int r54.2.2.2.2.2.2.1, .int r54.2.2.2.2.2.2.2])), (h_log, .inr (0, [.ref h_log_row, .int r54.1.2])), (h_log_row, .inl (cI, 5000, .inl r54.1.1)), (q1, .inr (2, [.ref q1_kinds, .ref q1_differences, .ref q1_partsA, .ref q1_partsB, .int e1.2.2.2.2])), (q1_kinds, .inl (cI, 300, .inl e1.1)), (q1_differences, .inl (cL, 300, .inr (.inl e1.2.1))), (q1_partsA, .inl (cL, 300, .inr (.inl e1.2.2.1))), (q1_partsB, .inl (cI, 300, .inl e1.2.2.2.1))]) (w2 := [(h, .inr (3, [.ref h_log, .ref h_past, .int (bI r54.2.2.1), .int r54.2.2.2.1, .int r54.2.2.2.2.1, .int r54.2.2.2.2.2.1, .int r54.2.2.2.2.2.2.1, .int r54.2.2.2.2.2.2.2])), (h_log, .inr (0, [.ref h_log_row, .int r54.1.2])), (h_log_row, .inl (cI, 5000, .inl r54.1.1)), (h_past, .inr (1, [.ref h_past_typed, .int r69.2.1, .int r69.2.2])), (h_past_typed, .inl (cI, 300, .inl r69.1)), (q1, .inr (2, [.ref q1_kinds, .ref q1_differences, .ref q1_partsA, .ref q1_partsB, .int e1.2.2.2.2])), (q1_kinds, .inl (cI, 300, .inl e1.1)), (q1_differences, .inl (cL, 300, .inr (.inl e1.2.1))), (q1_partsA, .inl (cL, 300, .inr (.inl e1.2.2.1))), (q1_partsB, .inl (cI, 300, .inl e1.2.2.2.1))]) (st2 := []) C (c_Past_note l D cI cL h_past h_past_typed r54.2.1 (f_Events_kind e1 x4) x4 r69 hr69) (cV hts kV_Past_note wd_252 ⟨Nat.le_of_ble_eq_true rfl, Nat.le_of_ble_eq_true rfl⟩) hH [3, 4] [0, 1, 2, 5, 6, 7, 8, 9] [0, 1, 2, 8, 9, 3, 4, 5, 6, 7] rfl rfl rfl rfl (by decide) rfl rfl 0 rfl rfl rfl hl.1 rfl (Nat.le_of_ble_eq_true rfl) d_Packer_run_69 ⟨Nat.le_of_ble_eq_true rfl, Nat.le_of_ble_eq_true rfl⟩ rfl (fun H locs hH => ?_)
        refine lv_iinc (v := x4 + 1) (lv' := [(4, .int (x4 + 1)), (3, .int 0), (0, .ref h), (1, .ref q1)]) hx hb d_Packer_run_72 hl (k := 3) rfl rfl (by decide) rfl (fun ls hl => ?_)
        refine lv_goto (tgt := 19) hx hb d_Packer_run_75 (by decide) ?_
        exact ih ((r54.1, r69, r54.2.2.1, r54.2.2.2.1, r54.2.2.2.2.1, r54.2.2.2.2.2.1, r54.2.2.2.2.2.2.1, r54.2.2.2.2.2.2.2)) e1 0 (x4 + 1) res hf _ _ _ hH (lv_sub hl [2, 3, 1, 0] rfl)
      · have hf := im hc34 hf
        refine lv_iinc (v := x3 + 1) (lv' := [(3, .int (x3 + 1)), (0, .ref h), (1, .ref q1), (4, .int x4)]) hx hb d_Packer_run_37 hl (k := 2) rfl rfl (by decide) rfl (fun ls hl => ?_)
        refine lv_goto (tgt := 57) hx hb d_Packer_run_40 (by decide) ?_
        refine lv_aload_n hx hb d_Packer_run_57 rfl (lv_at hl 1 rfl) ?_
        refine gt (ci := 3) (v := .ref h_past) C hH (iwT iw_Packer) 0 rfl rfl 1 (by decide) (.tail _ wd_83) rfl d_Packer_run_58 ?_
        refine lv_aload_n hx hb d_Packer_run_61 rfl (lv_at hl 2 rfl) ?_
        refine lv_iload hx hb d_Packer_run_62 (lv_at hl 3 rfl) ?_
        refine fnVR (rest := [.ref h_past]) (st2 := [.int (f_Events_kind e1 x4), .ref h_past]) C (c_Events_kind l D cI cL q1 q1_kinds q1_differences q1_partsA q1_partsB e1 x4 _ rfl) (cV hts kV_Events_kind wd_217 ⟨Nat.le_of_ble_eq_true rfl, Nat.le_of_ble_eq_true rfl⟩) hH [5, 6, 7, 8, 9] rfl rfl 0 rfl rfl rfl hl.1 rfl (Nat.le_of_ble_eq_true rfl) d_Packer_run_64 ⟨Nat.le_of_ble_eq_true rfl, Nat.le_of_ble_eq_true rfl⟩ rfl (fun H locs hH => ?_)
        refine lv_iload hx hb d_Packer_run_67 (lv_at hl 3 rfl) ?_
        obtain ⟨r69, hr69, hf⟩ := lb hf
        refine fnV (rest := []) (wr := [(h, .inr (3, [.ref h_log, .ref h_past, .int (bI st.2.2.1), .int st.2.2.2.1, .int st.2.2.2.2.1, .int st.2.2.2.2.2.1, .int st.2.2.2.2.2.2.1, .int st.2.2.2.2.2.2.2])), (h_log, .inr (0, [.ref h_log_row, .int st.1.2])), (h_log_row, .inl (cI, 5000, .inl st.1.1)), (q1, .inr (2, [.ref q1_kinds, .ref q1_differences, .ref q1_partsA, .ref q1_partsB, .int e1.2.2.2.2])), (q1_kinds, .inl (cI, 300, .inl e1.1)), (q1_differences, .inl (cL, 300, .inr (.inl e1.2.1))), (q1_partsA, .inl (cL, 300, .inr (.inl e1.2.2.1))), (q1_partsB, .inl (cI, 300, .inl e1.2.2.2.1))]) (w2 := [(h, .inr (3, [.ref h_log, .ref h_past, .int (bI st.2.2.1), .int st.2.2.2.1, .int st.2.2.2.2.1, .int st.2.2.2.2.2.1, .int st.2.2.2.2.2.2.1, .int st.2.2.2.2.2.2.2])), (h_log, .inr (0, [.ref h_log_row, .int st.1.2])), (h_log_row, .inl (cI, 5000, .inl st.1.1)), (h_past, .inr (1, [.ref h_past_typed, .int r69.2.1, .int r69.2.2])), (h_past_typed, .inl (cI, 300, .inl r69.1)), (q1, .inr (2, [.ref q1_kinds, .ref q1_differences, .ref q1_partsA, .ref q1_partsB, .int e1.2.2.2.2])), (q1_kinds, .inl (cI, 300, .inl e1.1)), (q1_differences, .inl (cL, 300, .inr (.inl e1.2.1))), (q1_partsA, .inl (cL, 300, .inr (.inl e1.2.2.1))), (q1_partsB, .inl (cI, 300, .inl e1.2.2.2.1))]) (st2 := []) C (c_Past_note l D cI cL h_past h_past_typed st.2.1 (f_Events_kind e1 x4) x4 r69 hr69) (cV hts kV_Past_note wd_252 ⟨Nat.le_of_ble_eq_true rfl, Nat.le_of_ble_eq_true rfl⟩) hH [3, 4] [0, 1, 2, 5, 6, 7, 8, 9] [0, 1, 2, 8, 9, 3, 4, 5, 6, 7] rfl rfl rfl rfl (by decide) rfl rfl 0 rfl rfl rfl hl.1 rfl (Nat.le_of_ble_eq_true rfl) d_Packer_run_69 ⟨Nat.le_of_ble_eq_true rfl, Nat.le_of_ble_eq_true rfl⟩ rfl (fun H locs hH => ?_)
        refine lv_iinc (v := x4 + 1) (lv' := [(4, .int (x4 + 1)), (3, .int (x3 + 1)), (0, .ref h), (1, .ref q1)]) hx hb d_Packer_run_72 hl (k := 3) rfl rfl (by decide) rfl (fun ls hl => ?_)
        refine lv_goto (tgt := 19) hx hb d_Packer_run_75 (by decide) ?_
        exact ih ((st.1, r69, st.2.2.1, st.2.2.2.1, st.2.2.2.2.1, st.2.2.2.2.2.1, st.2.2.2.2.2.2.1, st.2.2.2.2.2.2.2)) e1 (x3 + 1) (x4 + 1) res hf _ _ _ hH (lv_sub hl [2, 3, 1, 0] rfl)
def f_Packer_run (st : S_Packer) (e1 : S_Events) (x2 : Bool) : Option (S_Packer) :=
  lt1 (f_Packer_begin st x2) (fun r2 => (f_Packer_packVarint r2 ((f_Events_number e1).toInt64)).bind (fun r11 => f_Packer_run_b19 400 r11 e1 0 0))
set_option maxRecDepth 100000 in
set_option maxHeartbeats 4000000 in
theorem c_Packer_run (l : Launch) (D : va_G) (cI cL : ClassId) (h h_log h_log_row h_past h_past_typed q1 q1_kinds q1_differences q1_partsA q1_partsB : Nat) (st : S_Packer) (e1 : S_Events) (x2 : Bool) (res : S_Packer) (hf : f_Packer_run st e1 x2 = some res) :
    Fn l D vwCl [(cI, .int), (cL, .long)] y_Packer_run ws_Packer_run { frames := 5, cells := 0, slots := 0, locals := 115 } [.ref h, .ref q1, .int (bI x2)] [(h, .inr (3, [.ref h_log, .ref h_past, .int (bI st.2.2.1), .int st.2.2.2.1, .int st.2.2.2.2.1, .int st.2.2.2.2.2.1, .int st.2.2.2.2.2.2.1, .int st.2.2.2.2.2.2.2])), (h_log, .inr (0, [.ref h_log_row, .int st.1.2])), (h_log_row, .inl (cI, 5000, .inl st.1.1)), (h_past, .inr (1, [.ref h_past_typed, .int st.2.1.2.1, .int st.2.1.2.2])), (h_past_typed, .inl (cI, 300, .inl st.2.1.1)), (q1, .inr (2, [.ref q1_kinds, .ref q1_differences, .ref q1_partsA, .ref q1_partsB, .int e1.2.2.2.2])), (q1_kinds, .inl (cI, 300, .inl e1.1)), (q1_differences, .inl (cL, 300, .inr (.inl e1.2.1))), (q1_partsA, .inl (cL, 300, .inr (.inl e1.2.2.1))), (q1_partsB, .inl (cI, 300, .inl e1.2.2.2.1))] (none) [(h, .inr (3, [.ref h_log, .ref h_past, .int (bI res.2.2.1), .int res.2.2.2.1, .int res.2.2.2.2.1, .int res.2.2.2.2.2.1, .int res.2.2.2.2.2.2.1, .int res.2.2.2.2.2.2.2])), (h_log, .inr (0, [.ref h_log_row, .int res.1.2])), (h_log_row, .inl (cI, 5000, .inl res.1.1)), (h_past, .inr (1, [.ref h_past_typed, .int res.2.1.2.1, .int res.2.1.2.2])), (h_past_typed, .inl (cI, 300, .inl res.2.1.1)), (q1, .inr (2, [.ref q1_kinds, .ref q1_differences, .ref q1_partsA, .ref q1_partsB, .int e1.2.2.2.2])), (q1_kinds, .inl (cI, 300, .inl e1.1)), (q1_differences, .inl (cL, 300, .inr (.inl e1.2.1))), (q1_partsA, .inl (cL, 300, .inr (.inl e1.2.2.1))), (q1_partsB, .inl (cI, 300, .inl e1.2.2.2.1))] := by
  refine Fn.ofW (cc := b_Packer_run) (maxL := 5) (ret := none) (by decide) rfl (Nat.le_of_ble_eq_true rfl) ?_
  intro p e s m below meth c A ls C hH hinit hl
  have hl : lv_has ls 5 [(0, .ref h), (1, .ref q1), (2, .int (bI x2))] := hl
  obtain ⟨hx, hb, hr, hml, hown, hts, hlk, hK, hA⟩ := id C
  unfold f_Packer_run at hf
  refine lv_aload_n hx hb d_Packer_run_0 rfl (lv_at hl 0 rfl) ?_
  refine lv_iload_n hx hb d_Packer_run_1 rfl (lv_at hl 2 rfl) ?_
  obtain ⟨r2, hr2, hf⟩ := lb hf
  refine fnV (rest := []) (wr := [(q1, .inr (2, [.ref q1_kinds, .ref q1_differences, .ref q1_partsA, .ref q1_partsB, .int e1.2.2.2.2])), (q1_kinds, .inl (cI, 300, .inl e1.1)), (q1_differences, .inl (cL, 300, .inr (.inl e1.2.1))), (q1_partsA, .inl (cL, 300, .inr (.inl e1.2.2.1))), (q1_partsB, .inl (cI, 300, .inl e1.2.2.2.1))]) (w2 := [(h, .inr (3, [.ref h_log, .ref h_past, .int (bI r2.2.2.1), .int r2.2.2.2.1, .int r2.2.2.2.2.1, .int r2.2.2.2.2.2.1, .int r2.2.2.2.2.2.2.1, .int r2.2.2.2.2.2.2.2])), (h_log, .inr (0, [.ref h_log_row, .int r2.1.2])), (h_log_row, .inl (cI, 5000, .inl r2.1.1)), (h_past, .inr (1, [.ref h_past_typed, .int r2.2.1.2.1, .int r2.2.1.2.2])), (h_past_typed, .inl (cI, 300, .inl r2.2.1.1)), (q1, .inr (2, [.ref q1_kinds, .ref q1_differences, .ref q1_partsA, .ref q1_partsB, .int e1.2.2.2.2])), (q1_kinds, .inl (cI, 300, .inl e1.1)), (q1_differences, .inl (cL, 300, .inr (.inl e1.2.1))), (q1_partsA, .inl (cL, 300, .inr (.inl e1.2.2.1))), (q1_partsB, .inl (cI, 300, .inl e1.2.2.2.1))]) (st2 := []) C (c_Packer_begin l D cI cL h h_log h_log_row h_past h_past_typed st x2 r2 hr2) (cV hts kV_Packer_begin wd_155 ⟨Nat.le_of_ble_eq_true rfl, Nat.le_of_ble_eq_true rfl⟩) hH [0, 1, 2, 3, 4] [5, 6, 7, 8, 9] [5, 6, 7, 8, 9, 0, 1, 2, 3, 4] rfl rfl rfl rfl (by decide) rfl rfl 0 rfl rfl rfl hl.1 rfl (Nat.le_of_ble_eq_true rfl) d_Packer_run_2 ⟨Nat.le_of_ble_eq_true rfl, Nat.le_of_ble_eq_true rfl⟩ rfl (fun H locs hH => ?_)
  refine lv_aload_n hx hb d_Packer_run_5 rfl (lv_at hl 0 rfl) ?_
  refine lv_aload_n hx hb d_Packer_run_6 rfl (lv_at hl 1 rfl) ?_
  refine fnVR (rest := [.ref h]) (st2 := [.int (f_Events_number e1), .ref h]) C (c_Events_number l D cI cL q1 q1_kinds q1_differences q1_partsA q1_partsB e1 _ rfl) (cV hts kV_Events_number wd_167 ⟨Nat.le_of_ble_eq_true rfl, Nat.le_of_ble_eq_true rfl⟩) hH [5, 6, 7, 8, 9] rfl rfl 0 rfl rfl rfl hl.1 rfl (Nat.le_of_ble_eq_true rfl) d_Packer_run_7 ⟨Nat.le_of_ble_eq_true rfl, Nat.le_of_ble_eq_true rfl⟩ rfl (fun H locs hH => ?_)
  refine lv_i2l (v := (f_Events_number e1).toInt64) hx hb d_Packer_run_10 rfl ?_
  obtain ⟨r11, hr11, hf⟩ := ob hf
  refine fnV (rest := []) (wr := [(q1, .inr (2, [.ref q1_kinds, .ref q1_differences, .ref q1_partsA, .ref q1_partsB, .int e1.2.2.2.2])), (q1_kinds, .inl (cI, 300, .inl e1.1)), (q1_differences, .inl (cL, 300, .inr (.inl e1.2.1))), (q1_partsA, .inl (cL, 300, .inr (.inl e1.2.2.1))), (q1_partsB, .inl (cI, 300, .inl e1.2.2.2.1))]) (w2 := [(h, .inr (3, [.ref h_log, .ref h_past, .int (bI r11.2.2.1), .int r11.2.2.2.1, .int r11.2.2.2.2.1, .int r11.2.2.2.2.2.1, .int r11.2.2.2.2.2.2.1, .int r11.2.2.2.2.2.2.2])), (h_log, .inr (0, [.ref h_log_row, .int r11.1.2])), (h_log_row, .inl (cI, 5000, .inl r11.1.1)), (h_past, .inr (1, [.ref h_past_typed, .int r11.2.1.2.1, .int r11.2.1.2.2])), (h_past_typed, .inl (cI, 300, .inl r11.2.1.1)), (q1, .inr (2, [.ref q1_kinds, .ref q1_differences, .ref q1_partsA, .ref q1_partsB, .int e1.2.2.2.2])), (q1_kinds, .inl (cI, 300, .inl e1.1)), (q1_differences, .inl (cL, 300, .inr (.inl e1.2.1))), (q1_partsA, .inl (cL, 300, .inr (.inl e1.2.2.1))), (q1_partsB, .inl (cI, 300, .inl e1.2.2.2.1))]) (st2 := []) C (c_Packer_packVarint l D cI cL h h_log h_log_row h_past h_past_typed r2 ((f_Events_number e1).toInt64) r11 hr11) (cV hts kV_Packer_packVarint wd_171 ⟨Nat.le_of_ble_eq_true rfl, Nat.le_of_ble_eq_true rfl⟩) hH [0, 1, 2, 3, 4] [5, 6, 7, 8, 9] [5, 6, 7, 8, 9, 0, 1, 2, 3, 4] rfl rfl rfl rfl (by decide) rfl rfl 0 rfl rfl rfl hl.1 rfl (Nat.le_of_ble_eq_true rfl) d_Packer_run_11 ⟨Nat.le_of_ble_eq_true rfl, Nat.le_of_ble_eq_true rfl⟩ rfl (fun H locs hH => ?_)
  refine lv_iconst (v := 0) hx hb d_Packer_run_14 (by decide) ?_
  refine lv_istore_n (lv' := [(3, .int 0), (0, .ref h), (1, .ref q1), (2, .int (bI x2))]) hx hb d_Packer_run_15 rfl hl (by decide) rfl (fun ls hl => ?_)
  refine lv_iconst (v := 0) hx hb d_Packer_run_16 (by decide) ?_
  refine lv_istore (lv' := [(4, .int 0), (3, .int 0), (0, .ref h), (1, .ref q1), (2, .int (bI x2))]) hx hb d_Packer_run_17 hl (by decide) rfl (fun ls hl => ?_)
  exact w_Packer_run_b19 l D cI cL h h_log h_log_row h_past h_past_typed q1 q1_kinds q1_differences q1_partsA q1_partsB C 400 r11 e1 0 0 res hf _ _ _ hH (lv_sub hl [2, 3, 1, 0] rfl)
end
section
def f_Reader_begin (st : S_Reader) (e1 : S_Events)  : S_Reader × S_Events :=
  lt1 (f_Events_keepFirst e1 0) (fun r2 => lt1 (f_Past_forget st.2.1) (fun r9 => ((st.1, r9, 0, 0, 0), r2)))
set_option maxRecDepth 100000 in
set_option maxHeartbeats 4000000 in
theorem c_Reader_begin (l : Launch) (D : va_G) (cI cL : ClassId) (h h_log h_log_row h_past h_past_typed q1 q1_kinds q1_differences q1_partsA q1_partsB : Nat) (st : S_Reader) (e1 : S_Events)  (res : S_Reader × S_Events) (hf : f_Reader_begin st e1 = res) :
    Fn l D vwCl [(cI, .int), (cL, .long)] y_Reader_begin ws_Reader_begin { frames := 1, cells := 0, slots := 0, locals := 21 } [.ref h, .ref q1] [(h, .inr (4, [.ref h_log, .ref h_past, .int st.2.2.1, .int st.2.2.2.1, .int st.2.2.2.2])), (h_log, .inr (0, [.ref h_log_row, .int st.1.2])), (h_log_row, .inl (cI, 5000, .inl st.1.1)), (h_past, .inr (1, [.ref h_past_typed, .int st.2.1.2.1, .int st.2.1.2.2])), (h_past_typed, .inl (cI, 300, .inl st.2.1.1)), (q1, .inr (2, [.ref q1_kinds, .ref q1_differences, .ref q1_partsA, .ref q1_partsB, .int e1.2.2.2.2])), (q1_kinds, .inl (cI, 300, .inl e1.1)), (q1_differences, .inl (cL, 300, .inr (.inl e1.2.1))), (q1_partsA, .inl (cL, 300, .inr (.inl e1.2.2.1))), (q1_partsB, .inl (cI, 300, .inl e1.2.2.2.1))] (none) [(h, .inr (4, [.ref h_log, .ref h_past, .int res.1.2.2.1, .int res.1.2.2.2.1, .int res.1.2.2.2.2])), (h_log, .inr (0, [.ref h_log_row, .int res.1.1.2])), (h_log_row, .inl (cI, 5000, .inl res.1.1.1)), (h_past, .inr (1, [.ref h_past_typed, .int res.1.2.1.2.1, .int res.1.2.1.2.2])), (h_past_typed, .inl (cI, 300, .inl res.1.2.1.1)), (q1, .inr (2, [.ref q1_kinds, .ref q1_differences, .ref q1_partsA, .ref q1_partsB, .int res.2.2.2.2.2])), (q1_kinds, .inl (cI, 300, .inl res.2.1)), (q1_differences, .inl (cL, 300, .inr (.inl res.2.2.1))), (q1_partsA, .inl (cL, 300, .inr (.inl res.2.2.2.1))), (q1_partsB, .inl (cI, 300, .inl res.2.2.2.2.1))] := by
  refine Fn.ofW (cc := b_Reader_begin) (maxL := 2) (ret := none) (by decide) rfl (Nat.le_of_ble_eq_true rfl) ?_
  intro p e s m below meth c A ls C hH hinit hl
  have hl : lv_has ls 2 [(0, .ref h), (1, .ref q1)] := hl
  obtain ⟨hx, hb, hr, hml, hown, hts, hlk, hK, hA⟩ := id C
  unfold f_Reader_begin at hf
  refine lv_aload_n hx hb d_Reader_begin_0 rfl (lv_at hl 1 rfl) ?_
  refine lv_iconst (v := 0) hx hb d_Reader_begin_1 (by decide) ?_
  obtain ⟨r2, hr2, hf⟩ := lb hf
  refine fnV (rest := []) (wr := [(h, .inr (4, [.ref h_log, .ref h_past, .int st.2.2.1, .int st.2.2.2.1, .int st.2.2.2.2])), (h_log, .inr (0, [.ref h_log_row, .int st.1.2])), (h_log_row, .inl (cI, 5000, .inl st.1.1)), (h_past, .inr (1, [.ref h_past_typed, .int st.2.1.2.1, .int st.2.1.2.2])), (h_past_typed, .inl (cI, 300, .inl st.2.1.1))]) (w2 := [(h, .inr (4, [.ref h_log, .ref h_past, .int st.2.2.1, .int st.2.2.2.1, .int st.2.2.2.2])), (h_log, .inr (0, [.ref h_log_row, .int st.1.2])), (h_log_row, .inl (cI, 5000, .inl st.1.1)), (h_past, .inr (1, [.ref h_past_typed, .int st.2.1.2.1, .int st.2.1.2.2])), (h_past_typed, .inl (cI, 300, .inl st.2.1.1)), (q1, .inr (2, [.ref q1_kinds, .ref q1_differences, .ref q1_partsA, .ref q1_partsB, .int r2.2.2.2.2])), (q1_kinds, .inl (cI, 300, .inl r2.1)), (q1_differences, .inl (cL, 300, .inr (.inl r2.2.1))), (q1_partsA, .inl (cL, 300, .inr (.inl r2.2.2.1))), (q1_partsB, .inl (cI, 300, .inl r2.2.2.2.1))]) (st2 := []) C (c_Events_keepFirst l D cI cL q1 q1_kinds q1_differences q1_partsA q1_partsB e1 0 r2 hr2) (cV hts kV_Events_keepFirst wd_276 ⟨Nat.le_of_ble_eq_true rfl, Nat.le_of_ble_eq_true rfl⟩) hH [5, 6, 7, 8, 9] [0, 1, 2, 3, 4] [0, 1, 2, 3, 4, 5, 6, 7, 8, 9] rfl rfl rfl rfl (by decide) rfl rfl 0 rfl rfl rfl hl.1 rfl (Nat.le_of_ble_eq_true rfl) d_Reader_begin_2 ⟨Nat.le_of_ble_eq_true rfl, Nat.le_of_ble_eq_true rfl⟩ rfl (fun H locs hH => ?_)
  refine lv_aload_n hx hb d_Reader_begin_5 rfl (lv_at hl 0 rfl) ?_
  refine gt (ci := 4) (v := .ref h_past) C hH (iwT iw_Reader) 0 rfl rfl 1 (by decide) (.tail _ wd_116) rfl d_Reader_begin_6 ?_
  obtain ⟨r9, hr9, hf⟩ := lb hf
  refine fnV (rest := []) (wr := [(h, .inr (4, [.ref h_log, .ref h_past, .int st.2.2.1, .int st.2.2.2.1, .int st.2.2.2.2])), (h_log, .inr (0, [.ref h_log_row, .int st.1.2])), (h_log_row, .inl (cI, 5000, .inl st.1.1)), (q1, .inr (2, [.ref q1_kinds, .ref q1_differences, .ref q1_partsA, .ref q1_partsB, .int r2.2.2.2.2])), (q1_kinds, .inl (cI, 300, .inl r2.1)), (q1_differences, .inl (cL, 300, .inr (.inl r2.2.1))), (q1_partsA, .inl (cL, 300, .inr (.inl r2.2.2.1))), (q1_partsB, .inl (cI, 300, .inl r2.2.2.2.1))]) (w2 := [(h, .inr (4, [.ref h_log, .ref h_past, .int st.2.2.1, .int st.2.2.2.1, .int st.2.2.2.2])), (h_log, .inr (0, [.ref h_log_row, .int st.1.2])), (h_log_row, .inl (cI, 5000, .inl st.1.1)), (h_past, .inr (1, [.ref h_past_typed, .int r9.2.1, .int r9.2.2])), (h_past_typed, .inl (cI, 300, .inl r9.1)), (q1, .inr (2, [.ref q1_kinds, .ref q1_differences, .ref q1_partsA, .ref q1_partsB, .int r2.2.2.2.2])), (q1_kinds, .inl (cI, 300, .inl r2.1)), (q1_differences, .inl (cL, 300, .inr (.inl r2.2.1))), (q1_partsA, .inl (cL, 300, .inr (.inl r2.2.2.1))), (q1_partsB, .inl (cI, 300, .inl r2.2.2.2.1))]) (st2 := []) C (c_Past_forget l D cI cL h_past h_past_typed st.2.1 r9 hr9) (cV hts kV_Past_forget wd_280 ⟨Nat.le_of_ble_eq_true rfl, Nat.le_of_ble_eq_true rfl⟩) hH [3, 4] [0, 1, 2, 5, 6, 7, 8, 9] [0, 1, 2, 8, 9, 3, 4, 5, 6, 7] rfl rfl rfl rfl (by decide) rfl rfl 0 rfl rfl rfl hl.1 rfl (Nat.le_of_ble_eq_true rfl) d_Reader_begin_9 ⟨Nat.le_of_ble_eq_true rfl, Nat.le_of_ble_eq_true rfl⟩ rfl (fun H locs hH => ?_)
  refine lv_aload_n hx hb d_Reader_begin_12 rfl (lv_at hl 0 rfl) ?_
  refine lv_iconst (v := 0) hx hb d_Reader_begin_13 (by decide) ?_
  refine pt (ci := 4) (v := .int 0) C hH (iwT iw_Reader) ty_Reader tyok_Reader nm_Reader 0 rfl rfl 2 (by decide) (.tail _ wd_117) rfl rfl rfl (Nat.le_of_ble_eq_true rfl) d_Reader_begin_14 [(h, .inr (4, [.ref h_log, .ref h_past, .int 0, .int st.2.2.2.1, .int st.2.2.2.2])), (h_log, .inr (0, [.ref h_log_row, .int st.1.2])), (h_log_row, .inl (cI, 5000, .inl st.1.1)), (h_past, .inr (1, [.ref h_past_typed, .int r9.2.1, .int r9.2.2])), (h_past_typed, .inl (cI, 300, .inl r9.1)), (q1, .inr (2, [.ref q1_kinds, .ref q1_differences, .ref q1_partsA, .ref q1_partsB, .int r2.2.2.2.2])), (q1_kinds, .inl (cI, 300, .inl r2.1)), (q1_differences, .inl (cL, 300, .inr (.inl r2.2.1))), (q1_partsA, .inl (cL, 300, .inr (.inl r2.2.2.1))), (q1_partsB, .inl (cI, 300, .inl r2.2.2.2.1))] rfl (fun H locs hH => ?_)
  refine lv_aload_n hx hb d_Reader_begin_17 rfl (lv_at hl 0 rfl) ?_
  refine lv_iconst (v := 0) hx hb d_Reader_begin_18 (by decide) ?_
  refine pt (ci := 4) (v := .int 0) C hH (iwT iw_Reader) ty_Reader tyok_Reader nm_Reader 0 rfl rfl 3 (by decide) (.tail _ wd_118) rfl rfl rfl (Nat.le_of_ble_eq_true rfl) d_Reader_begin_19 [(h, .inr (4, [.ref h_log, .ref h_past, .int 0, .int 0, .int st.2.2.2.2])), (h_log, .inr (0, [.ref h_log_row, .int st.1.2])), (h_log_row, .inl (cI, 5000, .inl st.1.1)), (h_past, .inr (1, [.ref h_past_typed, .int r9.2.1, .int r9.2.2])), (h_past_typed, .inl (cI, 300, .inl r9.1)), (q1, .inr (2, [.ref q1_kinds, .ref q1_differences, .ref q1_partsA, .ref q1_partsB, .int r2.2.2.2.2])), (q1_kinds, .inl (cI, 300, .inl r2.1)), (q1_differences, .inl (cL, 300, .inr (.inl r2.2.1))), (q1_partsA, .inl (cL, 300, .inr (.inl r2.2.2.1))), (q1_partsB, .inl (cI, 300, .inl r2.2.2.2.1))] rfl (fun H locs hH => ?_)
  refine lv_aload_n hx hb d_Reader_begin_22 rfl (lv_at hl 0 rfl) ?_
  refine lv_iconst (v := 0) hx hb d_Reader_begin_23 (by decide) ?_
  refine pt (ci := 4) (v := .int 0) C hH (iwT iw_Reader) ty_Reader tyok_Reader nm_Reader 0 rfl rfl 4 (by decide) (.tail _ wd_119) rfl rfl rfl (Nat.le_of_ble_eq_true rfl) d_Reader_begin_24 [(h, .inr (4, [.ref h_log, .ref h_past, .int 0, .int 0, .int 0])), (h_log, .inr (0, [.ref h_log_row, .int st.1.2])), (h_log_row, .inl (cI, 5000, .inl st.1.1)), (h_past, .inr (1, [.ref h_past_typed, .int r9.2.1, .int r9.2.2])), (h_past_typed, .inl (cI, 300, .inl r9.1)), (q1, .inr (2, [.ref q1_kinds, .ref q1_differences, .ref q1_partsA, .ref q1_partsB, .int r2.2.2.2.2])), (q1_kinds, .inl (cI, 300, .inl r2.1)), (q1_differences, .inl (cL, 300, .inr (.inl r2.2.1))), (q1_partsA, .inl (cL, 300, .inr (.inl r2.2.2.1))), (q1_partsB, .inl (cI, 300, .inl r2.2.2.2.1))] rfl (fun H locs hH => ?_)
  subst hf
  exact rV C hH d_Reader_begin_27
def f_Reader_fail (st : S_Reader) (x1 : Int32) (x2 : Int32) : S_Reader :=
  (st.1, st.2.1, st.2.2.1, x1, x2)
set_option maxRecDepth 100000 in
set_option maxHeartbeats 4000000 in
theorem c_Reader_fail (l : Launch) (D : va_G) (cI cL : ClassId) (h h_log h_log_row h_past h_past_typed : Nat) (st : S_Reader) (x1 : Int32) (x2 : Int32) (res : S_Reader) (hf : f_Reader_fail st x1 x2 = res) :
    Fn l D vwCl [(cI, .int), (cL, .long)] y_Reader_fail ws_Reader_fail { frames := 0, cells := 0, slots := 0, locals := 0 } [.ref h, .int x1, .int x2] [(h, .inr (4, [.ref h_log, .ref h_past, .int st.2.2.1, .int st.2.2.2.1, .int st.2.2.2.2])), (h_log, .inr (0, [.ref h_log_row, .int st.1.2])), (h_log_row, .inl (cI, 5000, .inl st.1.1)), (h_past, .inr (1, [.ref h_past_typed, .int st.2.1.2.1, .int st.2.1.2.2])), (h_past_typed, .inl (cI, 300, .inl st.2.1.1))] (none) [(h, .inr (4, [.ref h_log, .ref h_past, .int res.2.2.1, .int res.2.2.2.1, .int res.2.2.2.2])), (h_log, .inr (0, [.ref h_log_row, .int res.1.2])), (h_log_row, .inl (cI, 5000, .inl res.1.1)), (h_past, .inr (1, [.ref h_past_typed, .int res.2.1.2.1, .int res.2.1.2.2])), (h_past_typed, .inl (cI, 300, .inl res.2.1.1))] := by
  refine Fn.ofW (cc := b_Reader_fail) (maxL := 3) (ret := none) (by decide) rfl (Nat.le_of_ble_eq_true rfl) ?_
  intro p e s m below meth c A ls C hH hinit hl
  have hl : lv_has ls 3 [(0, .ref h), (1, .int x1), (2, .int x2)] := hl
  obtain ⟨hx, hb, hr, hml, hown, hts, hlk, hK, hA⟩ := id C
  unfold f_Reader_fail at hf
  refine lv_aload_n hx hb d_Reader_fail_0 rfl (lv_at hl 0 rfl) ?_
  refine lv_iload_n hx hb d_Reader_fail_1 rfl (lv_at hl 1 rfl) ?_
  refine pt (ci := 4) (v := .int x1) C hH (iwT iw_Reader) ty_Reader tyok_Reader nm_Reader 0 rfl rfl 3 (by decide) (.tail _ wd_118) rfl rfl rfl (Nat.le_of_ble_eq_true rfl) d_Reader_fail_2 [(h, .inr (4, [.ref h_log, .ref h_past, .int st.2.2.1, .int x1, .int st.2.2.2.2])), (h_log, .inr (0, [.ref h_log_row, .int st.1.2])), (h_log_row, .inl (cI, 5000, .inl st.1.1)), (h_past, .inr (1, [.ref h_past_typed, .int st.2.1.2.1, .int st.2.1.2.2])), (h_past_typed, .inl (cI, 300, .inl st.2.1.1))] rfl (fun H locs hH => ?_)
  refine lv_aload_n hx hb d_Reader_fail_5 rfl (lv_at hl 0 rfl) ?_
  refine lv_iload_n hx hb d_Reader_fail_6 rfl (lv_at hl 2 rfl) ?_
  refine pt (ci := 4) (v := .int x2) C hH (iwT iw_Reader) ty_Reader tyok_Reader nm_Reader 0 rfl rfl 4 (by decide) (.tail _ wd_119) rfl rfl rfl (Nat.le_of_ble_eq_true rfl) d_Reader_fail_7 [(h, .inr (4, [.ref h_log, .ref h_past, .int st.2.2.1, .int x1, .int x2])), (h_log, .inr (0, [.ref h_log_row, .int st.1.2])), (h_log_row, .inl (cI, 5000, .inl st.1.1)), (h_past, .inr (1, [.ref h_past_typed, .int st.2.1.2.1, .int st.2.1.2.2])), (h_past_typed, .inl (cI, 300, .inl st.2.1.1))] rfl (fun H locs hH => ?_)
  subst hf
  exact rV C hH d_Reader_fail_10
def f_Reader_readByte (st : S_Reader)  : Int32 × S_Reader :=
  if st.2.2.1 < (f_Bytes_length st.1) then ((f_Bytes_get st.1 st.2.2.1, (st.1, st.2.1, st.2.2.1 + 1, st.2.2.2.1, st.2.2.2.2))) else (lt1 (f_Reader_fail st 2 (f_Bytes_length st.1)) (fun r23 => (0, r23)))
set_option maxRecDepth 100000 in
set_option maxHeartbeats 4000000 in
theorem c_Reader_readByte (l : Launch) (D : va_G) (cI cL : ClassId) (h h_log h_log_row h_past h_past_typed : Nat) (st : S_Reader)  (res : Int32 × S_Reader) (hf : f_Reader_readByte st = res) :
    Fn l D vwCl [(cI, .int), (cL, .long)] y_Reader_readByte ws_Reader_readByte { frames := 1, cells := 0, slots := 0, locals := 22 } [.ref h] [(h, .inr (4, [.ref h_log, .ref h_past, .int st.2.2.1, .int st.2.2.2.1, .int st.2.2.2.2])), (h_log, .inr (0, [.ref h_log_row, .int st.1.2])), (h_log_row, .inl (cI, 5000, .inl st.1.1)), (h_past, .inr (1, [.ref h_past_typed, .int st.2.1.2.1, .int st.2.1.2.2])), (h_past_typed, .inl (cI, 300, .inl st.2.1.1))] (some (.int res.1)) [(h, .inr (4, [.ref h_log, .ref h_past, .int res.2.2.2.1, .int res.2.2.2.2.1, .int res.2.2.2.2.2])), (h_log, .inr (0, [.ref h_log_row, .int res.2.1.2])), (h_log_row, .inl (cI, 5000, .inl res.2.1.1)), (h_past, .inr (1, [.ref h_past_typed, .int res.2.2.1.2.1, .int res.2.2.1.2.2])), (h_past_typed, .inl (cI, 300, .inl res.2.2.1.1))] := by
  refine Fn.ofW (cc := b_Reader_readByte) (maxL := 2) (ret := (some .int)) (by decide) rfl (Nat.le_of_ble_eq_true rfl) ?_
  intro p e s m below meth c A ls C hH hinit hl
  have hl : lv_has ls 2 [(0, .ref h)] := hl
  obtain ⟨hx, hb, hr, hml, hown, hts, hlk, hK, hA⟩ := id C
  unfold f_Reader_readByte at hf
  refine lv_aload_n hx hb d_Reader_readByte_0 rfl (lv_at hl 0 rfl) ?_
  refine gt (ci := 4) (v := .int st.2.2.1) C hH (iwT iw_Reader) 0 rfl rfl 2 (by decide) (.tail _ wd_117) rfl d_Reader_readByte_1 ?_
  refine lv_aload_n hx hb d_Reader_readByte_4 rfl (lv_at hl 0 rfl) ?_
  refine gt (ci := 4) (v := .ref h_log) C hH (iwT iw_Reader) 0 rfl rfl 0 (by decide) (.tail _ wd_115) rfl d_Reader_readByte_5 ?_
  refine fnVR (rest := [.int st.2.2.1]) (st2 := [.int (f_Bytes_length st.1), .int st.2.2.1]) C (c_Bytes_length l D cI cL h_log h_log_row st.1 _ rfl) (cV hts kV_Bytes_length wd_289 ⟨Nat.le_of_ble_eq_true rfl, Nat.le_of_ble_eq_true rfl⟩) hH [1, 2] rfl rfl 0 rfl rfl rfl hl.1 rfl (Nat.le_of_ble_eq_true rfl) d_Reader_readByte_8 ⟨Nat.le_of_ble_eq_true rfl, Nat.le_of_ble_eq_true rfl⟩ rfl (fun H locs hH => ?_)
  refine lv_icmp_lt (tgt := 28) hx hb d_Reader_readByte_11 (by decide) (fun hc11 => ?_) (fun hc11 => ?_)
  · have hf := ip hc11 hf
    refine lv_aload_n hx hb d_Reader_readByte_28 rfl (lv_at hl 0 rfl) ?_
    refine gt (ci := 4) (v := .ref h_log) C hH (iwT iw_Reader) 0 rfl rfl 0 (by decide) (.tail _ wd_115) rfl d_Reader_readByte_29 ?_
    refine lv_aload_n hx hb d_Reader_readByte_32 rfl (lv_at hl 0 rfl) ?_
    refine gt (ci := 4) (v := .int st.2.2.1) C hH (iwT iw_Reader) 0 rfl rfl 2 (by decide) (.tail _ wd_117) rfl d_Reader_readByte_33 ?_
    refine fnVR (rest := []) (st2 := [.int (f_Bytes_get st.1 st.2.2.1)]) C (c_Bytes_get l D cI cL h_log h_log_row st.1 st.2.2.1 _ rfl) (cV hts kV_Bytes_get wd_297 ⟨Nat.le_of_ble_eq_true rfl, Nat.le_of_ble_eq_true rfl⟩) hH [1, 2] rfl rfl 0 rfl rfl rfl hl.1 rfl (Nat.le_of_ble_eq_true rfl) d_Reader_readByte_36 ⟨Nat.le_of_ble_eq_true rfl, Nat.le_of_ble_eq_true rfl⟩ rfl (fun H locs hH => ?_)
    refine lv_istore_n (lv' := [(1, .int (f_Bytes_get st.1 st.2.2.1)), (0, .ref h)]) hx hb d_Reader_readByte_39 rfl hl (by decide) rfl (fun ls hl => ?_)
    refine lv_aload_n hx hb d_Reader_readByte_40 rfl (lv_at hl 1 rfl) ?_
    refine lv_dup hx hb d_Reader_readByte_41 rfl ?_
    refine gt (ci := 4) (v := .int st.2.2.1) C hH (iwT iw_Reader) 0 rfl rfl 2 (by decide) (.tail _ wd_117) rfl d_Reader_readByte_42 ?_
    refine lv_iconst (v := 1) hx hb d_Reader_readByte_45 (by decide) ?_
    refine lv_iadd hx hb d_Reader_readByte_46 ?_
    refine pt (ci := 4) (v := .int (st.2.2.1 + 1)) C hH (iwT iw_Reader) ty_Reader tyok_Reader nm_Reader 0 rfl rfl 2 (by decide) (.tail _ wd_117) rfl rfl rfl (Nat.le_of_ble_eq_true rfl) d_Reader_readByte_47 [(h, .inr (4, [.ref h_log, .ref h_past, .int (st.2.2.1 + 1), .int st.2.2.2.1, .int st.2.2.2.2])), (h_log, .inr (0, [.ref h_log_row, .int st.1.2])), (h_log_row, .inl (cI, 5000, .inl st.1.1)), (h_past, .inr (1, [.ref h_past_typed, .int st.2.1.2.1, .int st.2.1.2.2])), (h_past_typed, .inl (cI, 300, .inl st.2.1.1))] rfl (fun H locs hH => ?_)
    refine lv_iload_n hx hb d_Reader_readByte_50 rfl (lv_at hl 0 rfl) ?_
    subst hf
    exact rI (v := f_Bytes_get st.1 st.2.2.1) C hH d_Reader_readByte_51
  · have hf := im hc11 hf
    refine lv_aload_n hx hb d_Reader_readByte_14 rfl (lv_at hl 0 rfl) ?_
    refine lv_iconst (v := 2) hx hb d_Reader_readByte_15 (by decide) ?_
    refine lv_aload_n hx hb d_Reader_readByte_16 rfl (lv_at hl 0 rfl) ?_
    refine gt (ci := 4) (v := .ref h_log) C hH (iwT iw_Reader) 0 rfl rfl 0 (by decide) (.tail _ wd_115) rfl d_Reader_readByte_17 ?_
    refine fnVR (rest := [.int 2, .ref h]) (st2 := [.int (f_Bytes_length st.1), .int 2, .ref h]) C (c_Bytes_length l D cI cL h_log h_log_row st.1 _ rfl) (cV hts kV_Bytes_length wd_289 ⟨Nat.le_of_ble_eq_true rfl, Nat.le_of_ble_eq_true rfl⟩) hH [1, 2] rfl rfl 0 rfl rfl rfl hl.1 rfl (Nat.le_of_ble_eq_true rfl) d_Reader_readByte_20 ⟨Nat.le_of_ble_eq_true rfl, Nat.le_of_ble_eq_true rfl⟩ rfl (fun H locs hH => ?_)
    obtain ⟨r23, hr23, hf⟩ := lb hf
    refine fnV (rest := []) (wr := []) (w2 := [(h, .inr (4, [.ref h_log, .ref h_past, .int r23.2.2.1, .int r23.2.2.2.1, .int r23.2.2.2.2])), (h_log, .inr (0, [.ref h_log_row, .int r23.1.2])), (h_log_row, .inl (cI, 5000, .inl r23.1.1)), (h_past, .inr (1, [.ref h_past_typed, .int r23.2.1.2.1, .int r23.2.1.2.2])), (h_past_typed, .inl (cI, 300, .inl r23.2.1.1))]) (st2 := []) C (c_Reader_fail l D cI cL h h_log h_log_row h_past h_past_typed st 2 (f_Bytes_length st.1) r23 hr23) (cV hts kV_Reader_fail wd_293 ⟨Nat.le_of_ble_eq_true rfl, Nat.le_of_ble_eq_true rfl⟩) hH [0, 1, 2, 3, 4] [] [0, 1, 2, 3, 4] rfl rfl rfl rfl (by decide) rfl rfl 0 rfl rfl rfl hl.1 rfl (Nat.le_of_ble_eq_true rfl) d_Reader_readByte_23 ⟨Nat.le_of_ble_eq_true rfl, Nat.le_of_ble_eq_true rfl⟩ rfl (fun H locs hH => ?_)
    refine lv_iconst (v := 0) hx hb d_Reader_readByte_26 (by decide) ?_
    subst hf
    exact rI (v := 0) C hH d_Reader_readByte_27
def f_Reader_isFine (st : S_Reader)  : Bool :=
  if st.2.2.2.1 = 0 then (true) else (false)
set_option maxRecDepth 100000 in
set_option maxHeartbeats 4000000 in
theorem c_Reader_isFine (l : Launch) (D : va_G) (cI cL : ClassId) (h h_log h_log_row h_past h_past_typed : Nat) (st : S_Reader)  (res : Bool) (hf : f_Reader_isFine st = res) :
    FnR l D vwCl [(cI, .int), (cL, .long)] y_Reader_isFine ws_Reader_isFine { frames := 0, cells := 0, slots := 0, locals := 0 } [.ref h] [(h, .inr (4, [.ref h_log, .ref h_past, .int st.2.2.1, .int st.2.2.2.1, .int st.2.2.2.2])), (h_log, .inr (0, [.ref h_log_row, .int st.1.2])), (h_log_row, .inl (cI, 5000, .inl st.1.1)), (h_past, .inr (1, [.ref h_past_typed, .int st.2.1.2.1, .int st.2.1.2.2])), (h_past_typed, .inl (cI, 300, .inl st.2.1.1))] (some (.int (bI res))) := by
  refine FnR.ofW (cc := b_Reader_isFine) (maxL := 1) (ret := (some .boolean)) (by decide) rfl (Nat.le_of_ble_eq_true rfl) ?_
  intro p e s m below meth c A ls C hH hl
  have hl : lv_has ls 1 [(0, .ref h)] := hl
  obtain ⟨hx, hb, hr, hml, hown, hts, hlk, hK, hA⟩ := id C
  unfold f_Reader_isFine at hf
  refine lv_aload_n hx hb d_Reader_isFine_0 rfl (lv_at hl 0 rfl) ?_
  refine gt (ci := 4) (v := .int st.2.2.2.1) C hH (iwT iw_Reader) 0 rfl rfl 3 (by decide) (.tail _ wd_118) rfl d_Reader_isFine_1 ?_
  refine lv_if_ne (tgt := 11) hx hb d_Reader_isFine_4 (by decide) (fun hc4 => ?_) (fun hc4 => ?_)
  · have hf := im hc4 hf
    refine lv_iconst (v := 0) hx hb d_Reader_isFine_11 (by decide) ?_
    subst hf
    exact rZR (v := false) C hH d_Reader_isFine_12
  · have hf := ip hc4 hf
    refine lv_iconst (v := 1) hx hb d_Reader_isFine_7 (by decide) ?_
    refine lv_goto (tgt := 12) hx hb d_Reader_isFine_8 (by decide) ?_
    subst hf
    exact rZR (v := true) C hH d_Reader_isFine_12
def f_Reader_readVarint_b85 (st : S_Reader) (x3 : Int64) : Option (Int64 × S_Reader) :=
  lt1 (f_Reader_fail st 3 (st.2.2.1 - 1)) (fun r93 => some ((x3, r93)))
set_option maxRecDepth 100000 in
set_option maxHeartbeats 4000000 in
theorem w_Reader_readVarint_b85 (l : Launch) (D : va_G) (cI cL : ClassId) (h h_log h_log_row h_past h_past_typed : Nat) {p : Program} {e : Env} {s : State} {m : MethodId} {args : Array Value} {below : List Frame} {meth : Method} {c : Code} {A : Nat → Prop} (C : Cx p s m args meth c D vwCl [(cI, .int), (cL, .long)] A b_Reader_readVarint 8 (some .long) ws_Reader_readVarint y_Reader_readVarint.cls) : ∀ (st : S_Reader) (x3 : Int64) (res : Int64 × S_Reader), f_Reader_readVarint_b85 st x3 = some res → ∀ (H : Heap) (locs : List Loc) (ls : Array Slot), Hp D vwCl A A s.heap H locs [(h, .inr (4, [.ref h_log, .ref h_past, .int st.2.2.1, .int st.2.2.2.1, .int st.2.2.2.2])), (h_log, .inr (0, [.ref h_log_row, .int st.1.2])), (h_log_row, .inl (cI, 5000, .inl st.1.1)), (h_past, .inr (1, [.ref h_past_typed, .int st.2.1.2.1, .int st.2.1.2.2])), (h_past_typed, .inl (cI, 300, .inl st.2.1.1))] → lv_has ls 8 [(0, .ref h), (3, .long x3)] → W p l e { frames := 2, cells := 0, slots := 0, locals := 43 } s m args below meth c H locs 0 0 (MQ below (Qw D vwCl [(cI, .int), (cL, .long)] (some (.long res.1)) A [(h, .inr (4, [.ref h_log, .ref h_past, .int res.2.2.2.1, .int res.2.2.2.2.1, .int res.2.2.2.2.2])), (h_log, .inr (0, [.ref h_log_row, .int res.2.1.2])), (h_log_row, .inl (cI, 5000, .inl res.2.1.1)), (h_past, .inr (1, [.ref h_past_typed, .int res.2.2.1.2.1, .int res.2.2.1.2.2])), (h_past_typed, .inl (cI, 300, .inl res.2.2.1.1))]) args s 0 0 A) (F0 m 85 ls []) := by
  obtain ⟨hx, hb, hr, hml, hown, hts, hlk, hK, hA⟩ := id C
  intro st x3 res hf H locs ls hH hl
  unfold f_Reader_readVarint_b85 at hf
  refine lv_aload_n hx hb d_Reader_readVarint_85 rfl (lv_at hl 0 rfl) ?_
  refine lv_iconst (v := 3) hx hb d_Reader_readVarint_86 (by decide) ?_
  refine lv_aload_n hx hb d_Reader_readVarint_87 rfl (lv_at hl 0 rfl) ?_
  refine gt (ci := 4) (v := .int st.2.2.1) C hH (iwT iw_Reader) 0 rfl rfl 2 (by decide) (.tail _ wd_117) rfl d_Reader_readVarint_88 ?_
  refine lv_iconst (v := 1) hx hb d_Reader_readVarint_91 (by decide) ?_
  refine lv_isub hx hb d_Reader_readVarint_92 ?_
  obtain ⟨r93, hr93, hf⟩ := lb hf
  refine fnV (rest := []) (wr := []) (w2 := [(h, .inr (4, [.ref h_log, .ref h_past, .int r93.2.2.1, .int r93.2.2.2.1, .int r93.2.2.2.2])), (h_log, .inr (0, [.ref h_log_row, .int r93.1.2])), (h_log_row, .inl (cI, 5000, .inl r93.1.1)), (h_past, .inr (1, [.ref h_past_typed, .int r93.2.1.2.1, .int r93.2.1.2.2])), (h_past_typed, .inl (cI, 300, .inl r93.2.1.1))]) (st2 := []) C (c_Reader_fail l D cI cL h h_log h_log_row h_past h_past_typed st 3 (st.2.2.1 - 1) r93 hr93) (cV hts kV_Reader_fail wd_293 ⟨Nat.le_of_ble_eq_true rfl, Nat.le_of_ble_eq_true rfl⟩) hH [0, 1, 2, 3, 4] [] [0, 1, 2, 3, 4] rfl rfl rfl rfl (by decide) rfl rfl 0 rfl rfl rfl hl.1 rfl (Nat.le_of_ble_eq_true rfl) d_Reader_readVarint_93 ⟨Nat.le_of_ble_eq_true rfl, Nat.le_of_ble_eq_true rfl⟩ rfl (fun H locs hH => ?_)
  refine lv_goto (tgt := 112) hx hb d_Reader_readVarint_96 (by decide) ?_
  refine lv_lload_n hx hb d_Reader_readVarint_112 rfl (lv_at hl 1 rfl) ?_
  have hf := Option.some.inj hf
  subst hf
  exact rJ (v := x3) C hH d_Reader_readVarint_113
def f_Reader_readVarint_b70 (st : S_Reader) (x1 : Int32) (x2 : Int32) (x3 : Int64) (z0 : Int32) : Option (Int64 × S_Reader) :=
  if z0 = 0 then (if (lg_cmp x3 1099511627776) ≤ 0 then (if 0 ≤ (lg_cmp x3 x1.toInt64) then (some ((x3, st))) else (lt1 (f_Reader_fail st 5 x2) (fun r109 => some ((x3, r109))))) else (f_Reader_readVarint_b85 st x3)) else (f_Reader_readVarint_b85 st x3)
set_option maxRecDepth 100000 in
set_option maxHeartbeats 4000000 in
theorem w_Reader_readVarint_b70 (l : Launch) (D : va_G) (cI cL : ClassId) (h h_log h_log_row h_past h_past_typed : Nat) {p : Program} {e : Env} {s : State} {m : MethodId} {args : Array Value} {below : List Frame} {meth : Method} {c : Code} {A : Nat → Prop} (C : Cx p s m args meth c D vwCl [(cI, .int), (cL, .long)] A b_Reader_readVarint 8 (some .long) ws_Reader_readVarint y_Reader_readVarint.cls) : ∀ (st : S_Reader) (x1 : Int32) (x2 : Int32) (x3 : Int64) (z0 : Int32) (res : Int64 × S_Reader), f_Reader_readVarint_b70 st x1 x2 x3 z0 = some res → ∀ (H : Heap) (locs : List Loc) (ls : Array Slot), Hp D vwCl A A s.heap H locs [(h, .inr (4, [.ref h_log, .ref h_past, .int st.2.2.1, .int st.2.2.2.1, .int st.2.2.2.2])), (h_log, .inr (0, [.ref h_log_row, .int st.1.2])), (h_log_row, .inl (cI, 5000, .inl st.1.1)), (h_past, .inr (1, [.ref h_past_typed, .int st.2.1.2.1, .int st.2.1.2.2])), (h_past_typed, .inl (cI, 300, .inl st.2.1.1))] → lv_has ls 8 [(0, .ref h), (1, .int x1), (2, .int x2), (3, .long x3)] → W p l e { frames := 2, cells := 0, slots := 0, locals := 43 } s m args below meth c H locs 0 0 (MQ below (Qw D vwCl [(cI, .int), (cL, .long)] (some (.long res.1)) A [(h, .inr (4, [.ref h_log, .ref h_past, .int res.2.2.2.1, .int res.2.2.2.2.1, .int res.2.2.2.2.2])), (h_log, .inr (0, [.ref h_log_row, .int res.2.1.2])), (h_log_row, .inl (cI, 5000, .inl res.2.1.1)), (h_past, .inr (1, [.ref h_past_typed, .int res.2.2.1.2.1, .int res.2.2.1.2.2])), (h_past_typed, .inl (cI, 300, .inl res.2.2.1.1))]) args s 0 0 A) (F0 m 70 ls [.int z0]) := by
  obtain ⟨hx, hb, hr, hml, hown, hts, hlk, hK, hA⟩ := id C
  intro st x1 x2 x3 z0 res hf H locs ls hH hl
  unfold f_Reader_readVarint_b70 at hf
  refine lv_istore (lv' := [(7, .int z0), (0, .ref h), (1, .int x1), (2, .int x2), (3, .long x3)]) hx hb d_Reader_readVarint_70 hl (by decide) rfl (fun ls hl => ?_)
  refine lv_iload hx hb d_Reader_readVarint_72 (lv_at hl 0 rfl) ?_
  refine lv_if_ne (tgt := 85) hx hb d_Reader_readVarint_74 (by decide) (fun hc74 => ?_) (fun hc74 => ?_)
  · have hf := im hc74 hf
    exact w_Reader_readVarint_b85 l D cI cL h h_log h_log_row h_past h_past_typed C st x3 res hf _ _ _ hH (lv_sub hl [1, 4] rfl)
  · have hf := ip hc74 hf
    refine lv_lload_n hx hb d_Reader_readVarint_77 rfl (lv_at hl 4 rfl) ?_
    refine lv_ldc2 (v := 1099511627776) hx hb hown (hts _ (.tail _ wd_305)) d_Reader_readVarint_78 ?_
    refine W.lcmp hx hb d_Reader_readVarint_81 ?_
    refine lv_if_le (tgt := 99) hx hb d_Reader_readVarint_82 (by decide) (fun hc82 => ?_) (fun hc82 => ?_)
    · have hf := ip hc82 hf
      refine lv_lload_n hx hb d_Reader_readVarint_99 rfl (lv_at hl 4 rfl) ?_
      refine lv_iload_n hx hb d_Reader_readVarint_100 rfl (lv_at hl 2 rfl) ?_
      refine lv_i2l (v := x1.toInt64) hx hb d_Reader_readVarint_101 rfl ?_
      refine W.lcmp hx hb d_Reader_readVarint_102 ?_
      refine lv_if_ge (tgt := 112) hx hb d_Reader_readVarint_103 (by decide) (fun hc103 => ?_) (fun hc103 => ?_)
      · have hf := ip hc103 hf
        refine lv_lload_n hx hb d_Reader_readVarint_112 rfl (lv_at hl 4 rfl) ?_
        have hf := Option.some.inj hf
        subst hf
        exact rJ (v := x3) C hH d_Reader_readVarint_113
      · have hf := im hc103 hf
        refine lv_aload_n hx hb d_Reader_readVarint_106 rfl (lv_at hl 1 rfl) ?_
        refine lv_iconst (v := 5) hx hb d_Reader_readVarint_107 (by decide) ?_
        refine lv_iload_n hx hb d_Reader_readVarint_108 rfl (lv_at hl 3 rfl) ?_
        obtain ⟨r109, hr109, hf⟩ := lb hf
        refine fnV (rest := []) (wr := []) (w2 := [(h, .inr (4, [.ref h_log, .ref h_past, .int r109.2.2.1, .int r109.2.2.2.1, .int r109.2.2.2.2])), (h_log, .inr (0, [.ref h_log_row, .int r109.1.2])), (h_log_row, .inl (cI, 5000, .inl r109.1.1)), (h_past, .inr (1, [.ref h_past_typed, .int r109.2.1.2.1, .int r109.2.1.2.2])), (h_past_typed, .inl (cI, 300, .inl r109.2.1.1))]) (st2 := []) C (c_Reader_fail l D cI cL h h_log h_log_row h_past h_past_typed st 5 x2 r109 hr109) (cV hts kV_Reader_fail wd_293 ⟨Nat.le_of_ble_eq_true rfl, Nat.le_of_ble_eq_true rfl⟩) hH [0, 1, 2, 3, 4] [] [0, 1, 2, 3, 4] rfl rfl rfl rfl (by decide) rfl rfl 0 rfl rfl rfl hl.1 rfl (Nat.le_of_ble_eq_true rfl) d_Reader_readVarint_109 ⟨Nat.le_of_ble_eq_true rfl, Nat.le_of_ble_eq_true rfl⟩ rfl (fun H locs hH => ?_)
        refine lv_lload_n hx hb d_Reader_readVarint_112 rfl (lv_at hl 4 rfl) ?_
        have hf := Option.some.inj hf
        subst hf
        exact rJ (v := x3) C hH d_Reader_readVarint_113
    · have hf := im hc82 hf
      exact w_Reader_readVarint_b85 l D cI cL h h_log h_log_row h_past h_past_typed C st x3 res hf _ _ _ hH (lv_sub hl [1, 4] rfl)
def f_Reader_readVarint_b69 (st : S_Reader) (x1 : Int32) (x2 : Int32) (x3 : Int64) : Option (Int64 × S_Reader) :=
  f_Reader_readVarint_b70 st x1 x2 x3 0
set_option maxRecDepth 100000 in
set_option maxHeartbeats 4000000 in
theorem w_Reader_readVarint_b69 (l : Launch) (D : va_G) (cI cL : ClassId) (h h_log h_log_row h_past h_past_typed : Nat) {p : Program} {e : Env} {s : State} {m : MethodId} {args : Array Value} {below : List Frame} {meth : Method} {c : Code} {A : Nat → Prop} (C : Cx p s m args meth c D vwCl [(cI, .int), (cL, .long)] A b_Reader_readVarint 8 (some .long) ws_Reader_readVarint y_Reader_readVarint.cls) : ∀ (st : S_Reader) (x1 : Int32) (x2 : Int32) (x3 : Int64) (res : Int64 × S_Reader), f_Reader_readVarint_b69 st x1 x2 x3 = some res → ∀ (H : Heap) (locs : List Loc) (ls : Array Slot), Hp D vwCl A A s.heap H locs [(h, .inr (4, [.ref h_log, .ref h_past, .int st.2.2.1, .int st.2.2.2.1, .int st.2.2.2.2])), (h_log, .inr (0, [.ref h_log_row, .int st.1.2])), (h_log_row, .inl (cI, 5000, .inl st.1.1)), (h_past, .inr (1, [.ref h_past_typed, .int st.2.1.2.1, .int st.2.1.2.2])), (h_past_typed, .inl (cI, 300, .inl st.2.1.1))] → lv_has ls 8 [(0, .ref h), (1, .int x1), (2, .int x2), (3, .long x3)] → W p l e { frames := 2, cells := 0, slots := 0, locals := 43 } s m args below meth c H locs 0 0 (MQ below (Qw D vwCl [(cI, .int), (cL, .long)] (some (.long res.1)) A [(h, .inr (4, [.ref h_log, .ref h_past, .int res.2.2.2.1, .int res.2.2.2.2.1, .int res.2.2.2.2.2])), (h_log, .inr (0, [.ref h_log_row, .int res.2.1.2])), (h_log_row, .inl (cI, 5000, .inl res.2.1.1)), (h_past, .inr (1, [.ref h_past_typed, .int res.2.2.1.2.1, .int res.2.2.1.2.2])), (h_past_typed, .inl (cI, 300, .inl res.2.2.1.1))]) args s 0 0 A) (F0 m 69 ls []) := by
  obtain ⟨hx, hb, hr, hml, hown, hts, hlk, hK, hA⟩ := id C
  intro st x1 x2 x3 res hf H locs ls hH hl
  unfold f_Reader_readVarint_b69 at hf
  refine lv_iconst (v := 0) hx hb d_Reader_readVarint_69 (by decide) ?_
  exact w_Reader_readVarint_b70 l D cI cL h h_log h_log_row h_past h_past_typed C st x1 x2 x3 0 res hf _ _ _ hH (lv_sub hl [0, 1, 2, 3] rfl)
def f_Reader_readVarint_b10 : Nat → S_Reader → Int32 → Int32 → Int64 → Int32 → Option (Int64 × S_Reader)
  | 0, _, _, _, _, _ => none
  | n + 1, st, x1, x2, x3, x5 =>
  if (7 : Int32) ≤ x5 then (lt1 (f_Reader_fail st 3 (st.2.2.1 - 1)) (fun r128 => some ((0, r128)))) else (lt1 (f_Reader_readByte st) (fun r18 => if (bI (f_Reader_isFine r18.2)) = 0 then (some ((0, r18.2))) else (if (128 : Int32) ≤ r18.1 then (f_Reader_readVarint_b10 n r18.2 x1 x2 (x3 ||| (((r18.1 &&& 127).toInt64) <<< (((7 : Int32) * x5).toInt64 &&& 63))) (x5 + 1)) else (if r18.1 = 0 then (if x5 ≤ 0 then (f_Reader_readVarint_b69 r18.2 x1 x2 (x3 ||| (((r18.1 &&& 127).toInt64) <<< (((7 : Int32) * x5).toInt64 &&& 63)))) else (f_Reader_readVarint_b70 r18.2 x1 x2 (x3 ||| (((r18.1 &&& 127).toInt64) <<< (((7 : Int32) * x5).toInt64 &&& 63))) 1)) else (f_Reader_readVarint_b69 r18.2 x1 x2 (x3 ||| (((r18.1 &&& 127).toInt64) <<< (((7 : Int32) * x5).toInt64 &&& 63))))))))
set_option maxRecDepth 100000 in
set_option maxHeartbeats 4000000 in
theorem w_Reader_readVarint_b10 (l : Launch) (D : va_G) (cI cL : ClassId) (h h_log h_log_row h_past h_past_typed : Nat) {p : Program} {e : Env} {s : State} {m : MethodId} {args : Array Value} {below : List Frame} {meth : Method} {c : Code} {A : Nat → Prop} (C : Cx p s m args meth c D vwCl [(cI, .int), (cL, .long)] A b_Reader_readVarint 8 (some .long) ws_Reader_readVarint y_Reader_readVarint.cls) : ∀ (n : Nat) (st : S_Reader) (x1 : Int32) (x2 : Int32) (x3 : Int64) (x5 : Int32) (res : Int64 × S_Reader), f_Reader_readVarint_b10 n st x1 x2 x3 x5 = some res → ∀ (H : Heap) (locs : List Loc) (ls : Array Slot), Hp D vwCl A A s.heap H locs [(h, .inr (4, [.ref h_log, .ref h_past, .int st.2.2.1, .int st.2.2.2.1, .int st.2.2.2.2])), (h_log, .inr (0, [.ref h_log_row, .int st.1.2])), (h_log_row, .inl (cI, 5000, .inl st.1.1)), (h_past, .inr (1, [.ref h_past_typed, .int st.2.1.2.1, .int st.2.1.2.2])), (h_past_typed, .inl (cI, 300, .inl st.2.1.1))] → lv_has ls 8 [(0, .ref h), (1, .int x1), (2, .int x2), (3, .long x3), (5, .int x5)] → W p l e { frames := 2, cells := 0, slots := 0, locals := 43 } s m args below meth c H locs 0 0 (MQ below (Qw D vwCl [(cI, .int), (cL, .long)] (some (.long res.1)) A [(h, .inr (4, [.ref h_log, .ref h_past, .int res.2.2.2.1, .int res.2.2.2.2.1, .int res.2.2.2.2.2])), (h_log, .inr (0, [.ref h_log_row, .int res.2.1.2])), (h_log_row, .inl (cI, 5000, .inl res.2.1.1)), (h_past, .inr (1, [.ref h_past_typed, .int res.2.2.1.2.1, .int res.2.2.1.2.2])), (h_past_typed, .inl (cI, 300, .inl res.2.2.1.1))]) args s 0 0 A) (F0 m 10 ls []) := by
  obtain ⟨hx, hb, hr, hml, hown, hts, hlk, hK, hA⟩ := id C
  intro n
  induction n with
  | zero => intro st x1 x2 x3 x5 res hf; cases hf
  | succ n ih =>
    intro st x1 x2 x3 x5 res hf H locs ls hH hl
    rw [f_Reader_readVarint_b10] at hf
    refine lv_iload hx hb d_Reader_readVarint_10 (lv_at hl 4 rfl) ?_
    refine lv_bipush (v := 7) hx hb d_Reader_readVarint_12 (by decide) ?_
    refine lv_icmp_ge (tgt := 120) hx hb d_Reader_readVarint_14 (by decide) (fun hc14 => ?_) (fun hc14 => ?_)
    · have hf := ip hc14 hf
      refine lv_aload_n hx hb d_Reader_readVarint_120 rfl (lv_at hl 0 rfl) ?_
      refine lv_iconst (v := 3) hx hb d_Reader_readVarint_121 (by decide) ?_
      refine lv_aload_n hx hb d_Reader_readVarint_122 rfl (lv_at hl 0 rfl) ?_
      refine gt (ci := 4) (v := .int st.2.2.1) C hH (iwT iw_Reader) 0 rfl rfl 2 (by decide) (.tail _ wd_117) rfl d_Reader_readVarint_123 ?_
      refine lv_iconst (v := 1) hx hb d_Reader_readVarint_126 (by decide) ?_
      refine lv_isub hx hb d_Reader_readVarint_127 ?_
      obtain ⟨r128, hr128, hf⟩ := lb hf
      refine fnV (rest := []) (wr := []) (w2 := [(h, .inr (4, [.ref h_log, .ref h_past, .int r128.2.2.1, .int r128.2.2.2.1, .int r128.2.2.2.2])), (h_log, .inr (0, [.ref h_log_row, .int r128.1.2])), (h_log_row, .inl (cI, 5000, .inl r128.1.1)), (h_past, .inr (1, [.ref h_past_typed, .int r128.2.1.2.1, .int r128.2.1.2.2])), (h_past_typed, .inl (cI, 300, .inl r128.2.1.1))]) (st2 := []) C (c_Reader_fail l D cI cL h h_log h_log_row h_past h_past_typed st 3 (st.2.2.1 - 1) r128 hr128) (cV hts kV_Reader_fail wd_293 ⟨Nat.le_of_ble_eq_true rfl, Nat.le_of_ble_eq_true rfl⟩) hH [0, 1, 2, 3, 4] [] [0, 1, 2, 3, 4] rfl rfl rfl rfl (by decide) rfl rfl 0 rfl rfl rfl hl.1 rfl (Nat.le_of_ble_eq_true rfl) d_Reader_readVarint_128 ⟨Nat.le_of_ble_eq_true rfl, Nat.le_of_ble_eq_true rfl⟩ rfl (fun H locs hH => ?_)
      refine lv_lconst (v := 0) hx hb d_Reader_readVarint_131 (by decide) ?_
      have hf := Option.some.inj hf
      subst hf
      exact rJ (v := 0) C hH d_Reader_readVarint_132
    · have hf := im hc14 hf
      refine lv_aload_n hx hb d_Reader_readVarint_17 rfl (lv_at hl 0 rfl) ?_
      obtain ⟨r18, hr18, hf⟩ := lb hf
      refine fnV (rest := []) (wr := []) (w2 := [(h, .inr (4, [.ref h_log, .ref h_past, .int r18.2.2.2.1, .int r18.2.2.2.2.1, .int r18.2.2.2.2.2])), (h_log, .inr (0, [.ref h_log_row, .int r18.2.1.2])), (h_log_row, .inl (cI, 5000, .inl r18.2.1.1)), (h_past, .inr (1, [.ref h_past_typed, .int r18.2.2.1.2.1, .int r18.2.2.1.2.2])), (h_past_typed, .inl (cI, 300, .inl r18.2.2.1.1))]) (st2 := [.int r18.1]) C (c_Reader_readByte l D cI cL h h_log h_log_row h_past h_past_typed st r18 hr18) (cV hts kV_Reader_readByte wd_285 ⟨Nat.le_of_ble_eq_true rfl, Nat.le_of_ble_eq_true rfl⟩) hH [0, 1, 2, 3, 4] [] [0, 1, 2, 3, 4] rfl rfl rfl rfl (by decide) rfl rfl 0 rfl rfl rfl hl.1 rfl (Nat.le_of_ble_eq_true rfl) d_Reader_readVarint_18 ⟨Nat.le_of_ble_eq_true rfl, Nat.le_of_ble_eq_true rfl⟩ rfl (fun H locs hH => ?_)
      refine lv_istore (lv' := [(6, .int r18.1), (0, .ref h), (1, .int x1), (2, .int x2), (3, .long x3), (5, .int x5)]) hx hb d_Reader_readVarint_21 hl (by decide) rfl (fun ls hl => ?_)
      refine lv_aload_n hx hb d_Reader_readVarint_23 rfl (lv_at hl 1 rfl) ?_
      refine fnVR (rest := []) (st2 := [.int (bI (f_Reader_isFine r18.2))]) C (c_Reader_isFine l D cI cL h h_log h_log_row h_past h_past_typed r18.2 _ rfl) (cV hts kV_Reader_isFine wd_301 ⟨Nat.le_of_ble_eq_true rfl, Nat.le_of_ble_eq_true rfl⟩) hH [0, 1, 2, 3, 4] rfl rfl 0 rfl rfl rfl hl.1 rfl (Nat.le_of_ble_eq_true rfl) d_Reader_readVarint_24 ⟨Nat.le_of_ble_eq_true rfl, Nat.le_of_ble_eq_true rfl⟩ rfl (fun H locs hH => ?_)
      refine lv_if_ne (tgt := 32) hx hb d_Reader_readVarint_27 (by decide) (fun hc27 => ?_) (fun hc27 => ?_)
      · have hf := im hc27 hf
        refine lv_lload_n hx hb d_Reader_readVarint_32 rfl (lv_at hl 4 rfl) ?_
        refine lv_iload hx hb d_Reader_readVarint_33 (lv_at hl 0 rfl) ?_
        refine lv_bipush (v := 127) hx hb d_Reader_readVarint_35 (by decide) ?_
        refine lv_iand hx hb d_Reader_readVarint_37 ?_
        refine lv_i2l (v := (r18.1 &&& 127).toInt64) hx hb d_Reader_readVarint_38 rfl ?_
        refine lv_bipush (v := 7) hx hb d_Reader_readVarint_39 (by decide) ?_
        refine lv_iload hx hb d_Reader_readVarint_41 (lv_at hl 5 rfl) ?_
        refine lv_imul hx hb d_Reader_readVarint_43 ?_
        refine lv_lshl (v := ((r18.1 &&& 127).toInt64) <<< (((7 : Int32) * x5).toInt64 &&& 63)) hx hb d_Reader_readVarint_44 rfl ?_
        refine lv_lor hx hb d_Reader_readVarint_45 ?_
        refine lv_lstore_n (lv' := [(3, .long (x3 ||| (((r18.1 &&& 127).toInt64) <<< (((7 : Int32) * x5).toInt64 &&& 63)))), (6, .int r18.1), (0, .ref h), (1, .int x1), (2, .int x2), (5, .int x5)]) hx hb d_Reader_readVarint_46 rfl hl (by decide) rfl (fun ls hl => ?_)
        refine lv_iload hx hb d_Reader_readVarint_47 (lv_at hl 1 rfl) ?_
        refine lv_sipush (v := 128) hx hb d_Reader_readVarint_49 (by decide) ?_
        refine lv_icmp_ge (tgt := 114) hx hb d_Reader_readVarint_52 (by decide) (fun hc52 => ?_) (fun hc52 => ?_)
        · have hf := ip hc52 hf
          refine lv_iinc (v := x5 + 1) (lv' := [(5, .int (x5 + 1)), (3, .long (x3 ||| (((r18.1 &&& 127).toInt64) <<< (((7 : Int32) * x5).toInt64 &&& 63)))), (6, .int r18.1), (0, .ref h), (1, .int x1), (2, .int x2)]) hx hb d_Reader_readVarint_114 hl (k := 5) rfl rfl (by decide) rfl (fun ls hl => ?_)
          refine lv_goto (tgt := 10) hx hb d_Reader_readVarint_117 (by decide) ?_
          exact ih r18.2 x1 x2 (x3 ||| (((r18.1 &&& 127).toInt64) <<< (((7 : Int32) * x5).toInt64 &&& 63))) (x5 + 1) res hf _ _ _ hH (lv_sub hl [3, 4, 5, 1, 0] rfl)
        · have hf := im hc52 hf
          refine lv_iload hx hb d_Reader_readVarint_55 (lv_at hl 1 rfl) ?_
          refine lv_if_ne (tgt := 69) hx hb d_Reader_readVarint_57 (by decide) (fun hc57 => ?_) (fun hc57 => ?_)
          · have hf := im hc57 hf
            exact w_Reader_readVarint_b69 l D cI cL h h_log h_log_row h_past h_past_typed C r18.2 x1 x2 (x3 ||| (((r18.1 &&& 127).toInt64) <<< (((7 : Int32) * x5).toInt64 &&& 63))) res hf _ _ _ hH (lv_sub hl [2, 3, 4, 0] rfl)
          · have hf := ip hc57 hf
            refine lv_iload hx hb d_Reader_readVarint_60 (lv_at hl 5 rfl) ?_
            refine lv_if_le (tgt := 69) hx hb d_Reader_readVarint_62 (by decide) (fun hc62 => ?_) (fun hc62 => ?_)
            · have hf := ip hc62 hf
              exact w_Reader_readVarint_b69 l D cI cL h h_log h_log_row h_past h_past_typed C r18.2 x1 x2 (x3 ||| (((r18.1 &&& 127).toInt64) <<< (((7 : Int32) * x5).toInt64 &&& 63))) res hf _ _ _ hH (lv_sub hl [2, 3, 4, 0] rfl)
            · have hf := im hc62 hf
              refine lv_iconst (v := 1) hx hb d_Reader_readVarint_65 (by decide) ?_
              refine lv_goto (tgt := 70) hx hb d_Reader_readVarint_66 (by decide) ?_
              exact w_Reader_readVarint_b70 l D cI cL h h_log h_log_row h_past h_past_typed C r18.2 x1 x2 (x3 ||| (((r18.1 &&& 127).toInt64) <<< (((7 : Int32) * x5).toInt64 &&& 63))) 1 res hf _ _ _ hH (lv_sub hl [2, 3, 4, 0] rfl)
      · have hf := ip hc27 hf
        refine lv_lconst (v := 0) hx hb d_Reader_readVarint_30 (by decide) ?_
        have hf := Option.some.inj hf
        subst hf
        exact rJ (v := 0) C hH d_Reader_readVarint_31
def f_Reader_readVarint (st : S_Reader) (x1 : Int32) : Option (Int64 × S_Reader) :=
  f_Reader_readVarint_b10 400 st x1 st.2.2.1 0 0
set_option maxRecDepth 100000 in
set_option maxHeartbeats 4000000 in
theorem c_Reader_readVarint (l : Launch) (D : va_G) (cI cL : ClassId) (h h_log h_log_row h_past h_past_typed : Nat) (st : S_Reader) (x1 : Int32) (res : Int64 × S_Reader) (hf : f_Reader_readVarint st x1 = some res) :
    Fn l D vwCl [(cI, .int), (cL, .long)] y_Reader_readVarint ws_Reader_readVarint { frames := 2, cells := 0, slots := 0, locals := 43 } [.ref h, .int x1] [(h, .inr (4, [.ref h_log, .ref h_past, .int st.2.2.1, .int st.2.2.2.1, .int st.2.2.2.2])), (h_log, .inr (0, [.ref h_log_row, .int st.1.2])), (h_log_row, .inl (cI, 5000, .inl st.1.1)), (h_past, .inr (1, [.ref h_past_typed, .int st.2.1.2.1, .int st.2.1.2.2])), (h_past_typed, .inl (cI, 300, .inl st.2.1.1))] (some (.long res.1)) [(h, .inr (4, [.ref h_log, .ref h_past, .int res.2.2.2.1, .int res.2.2.2.2.1, .int res.2.2.2.2.2])), (h_log, .inr (0, [.ref h_log_row, .int res.2.1.2])), (h_log_row, .inl (cI, 5000, .inl res.2.1.1)), (h_past, .inr (1, [.ref h_past_typed, .int res.2.2.1.2.1, .int res.2.2.1.2.2])), (h_past_typed, .inl (cI, 300, .inl res.2.2.1.1))] := by
  refine Fn.ofW (cc := b_Reader_readVarint) (maxL := 8) (ret := (some .long)) (by decide) rfl (Nat.le_of_ble_eq_true rfl) ?_
  intro p e s m below meth c A ls C hH hinit hl
  have hl : lv_has ls 8 [(0, .ref h), (1, .int x1)] := hl
  obtain ⟨hx, hb, hr, hml, hown, hts, hlk, hK, hA⟩ := id C
  unfold f_Reader_readVarint at hf
  refine lv_aload_n hx hb d_Reader_readVarint_0 rfl (lv_at hl 0 rfl) ?_
  refine gt (ci := 4) (v := .int st.2.2.1) C hH (iwT iw_Reader) 0 rfl rfl 2 (by decide) (.tail _ wd_117) rfl d_Reader_readVarint_1 ?_
  refine lv_istore_n (lv' := [(2, .int st.2.2.1), (0, .ref h), (1, .int x1)]) hx hb d_Reader_readVarint_4 rfl hl (by decide) rfl (fun ls hl => ?_)
  refine lv_lconst (v := 0) hx hb d_Reader_readVarint_5 (by decide) ?_
  refine lv_lstore_n (lv' := [(3, .long 0), (2, .int st.2.2.1), (0, .ref h), (1, .int x1)]) hx hb d_Reader_readVarint_6 rfl hl (by decide) rfl (fun ls hl => ?_)
  refine lv_iconst (v := 0) hx hb d_Reader_readVarint_7 (by decide) ?_
  refine lv_istore (lv' := [(5, .int 0), (3, .long 0), (2, .int st.2.2.1), (0, .ref h), (1, .int x1)]) hx hb d_Reader_readVarint_8 hl (by decide) rfl (fun ls hl => ?_)
  exact w_Reader_readVarint_b10 l D cI cL h h_log h_log_row h_past h_past_typed C 400 st x1 st.2.2.1 0 0 res hf _ _ _ hH (lv_sub hl [3, 4, 2, 1, 0] rfl)
def f_Reader_isHead (x0 : Int32) : Bool :=
  if x0 &&& 7 = 0 then (true) else if x0 &&& 7 = 1 then (if (8 : Int32) < (x0 >>> (4 &&& 31)) then (false) else (true)) else if x0 &&& 7 = 2 then (true) else if x0 &&& 7 = 3 then (if (1 : Int32) < (x0 >>> (4 &&& 31)) then (false) else (true)) else if x0 &&& 7 = 4 then (if (x0 >>> (4 &&& 31)) = 0 then (true) else (false)) else if x0 &&& 7 = 5 then (if (x0 &&& 8) = 0 then (true) else (false)) else (false)
set_option maxRecDepth 100000 in
set_option maxHeartbeats 4000000 in
theorem c_Reader_isHead (l : Launch) (D : va_G) (cI cL : ClassId) (x0 : Int32) (res : Bool) (hf : f_Reader_isHead x0 = res) :
    FnR l D vwCl [(cI, .int), (cL, .long)] y_Reader_isHead ws_Reader_isHead { frames := 0, cells := 0, slots := 0, locals := 0 } [.int x0] [] (some (.int (bI res))) := by
  refine FnR.ofW (cc := b_Reader_isHead) (maxL := 2) (ret := (some .boolean)) (by decide) rfl (Nat.le_of_ble_eq_true rfl) ?_
  intro p e s m below meth c A ls C hH hl
  have hl : lv_has ls 2 [(0, .int x0)] := hl
  obtain ⟨hx, hb, hr, hml, hown, hts, hlk, hK, hA⟩ := id C
  unfold f_Reader_isHead at hf
  refine lv_iload_n hx hb d_Reader_isHead_0 rfl (lv_at hl 0 rfl) ?_
  refine lv_iconst (v := 4) hx hb d_Reader_isHead_1 (by decide) ?_
  refine lv_ishr hx hb d_Reader_isHead_2 ?_
  refine lv_istore_n (lv' := [(1, .int (x0 >>> (4 &&& 31))), (0, .int x0)]) hx hb d_Reader_isHead_3 rfl hl (by decide) rfl (fun ls hl => ?_)
  refine lv_iload_n hx hb d_Reader_isHead_4 rfl (lv_at hl 1 rfl) ?_
  refine lv_bipush (v := 7) hx hb d_Reader_isHead_5 (by decide) ?_
  refine lv_iand hx hb d_Reader_isHead_7 ?_
  by_cases hc8_0 : x0 &&& 7 = 0
  · have hf := ip hc8_0 hf
    refine lv_tableIn (tgt := 48) hx hb d_Reader_isHead_8 (by rw [hc8_0]; decide) (by rw [hc8_0]; decide) (by rw [hc8_0]; rfl) (by decide) ?_
    refine lv_iconst (v := 1) hx hb d_Reader_isHead_48 (by decide) ?_
    subst hf
    exact rZR (v := true) C hH d_Reader_isHead_49
  have hf := im hc8_0 hf
  by_cases hc8_1 : x0 &&& 7 = 1
  · have hf := ip hc8_1 hf
    refine lv_tableIn (tgt := 50) hx hb d_Reader_isHead_8 (by rw [hc8_1]; decide) (by rw [hc8_1]; decide) (by rw [hc8_1]; rfl) (by decide) ?_
    refine lv_iload_n hx hb d_Reader_isHead_50 rfl (lv_at hl 0 rfl) ?_
    refine lv_bipush (v := 8) hx hb d_Reader_isHead_51 (by decide) ?_
    refine lv_icmp_gt (tgt := 60) hx hb d_Reader_isHead_53 (by decide) (fun hc53 => ?_) (fun hc53 => ?_)
    · have hf := ip hc53 hf
      refine lv_iconst (v := 0) hx hb d_Reader_isHead_60 (by decide) ?_
      subst hf
      exact rZR (v := false) C hH d_Reader_isHead_61
    · have hf := im hc53 hf
      refine lv_iconst (v := 1) hx hb d_Reader_isHead_56 (by decide) ?_
      refine lv_goto (tgt := 61) hx hb d_Reader_isHead_57 (by decide) ?_
      subst hf
      exact rZR (v := true) C hH d_Reader_isHead_61
  have hf := im hc8_1 hf
  by_cases hc8_2 : x0 &&& 7 = 2
  · have hf := ip hc8_2 hf
    refine lv_tableIn (tgt := 48) hx hb d_Reader_isHead_8 (by rw [hc8_2]; decide) (by rw [hc8_2]; decide) (by rw [hc8_2]; rfl) (by decide) ?_
    refine lv_iconst (v := 1) hx hb d_Reader_isHead_48 (by decide) ?_
    subst hf
    exact rZR (v := true) C hH d_Reader_isHead_49
  have hf := im hc8_2 hf
  by_cases hc8_3 : x0 &&& 7 = 3
  · have hf := ip hc8_3 hf
    refine lv_tableIn (tgt := 62) hx hb d_Reader_isHead_8 (by rw [hc8_3]; decide) (by rw [hc8_3]; decide) (by rw [hc8_3]; rfl) (by decide) ?_
    refine lv_iload_n hx hb d_Reader_isHead_62 rfl (lv_at hl 0 rfl) ?_
    refine lv_iconst (v := 1) hx hb d_Reader_isHead_63 (by decide) ?_
    refine lv_icmp_gt (tgt := 71) hx hb d_Reader_isHead_64 (by decide) (fun hc64 => ?_) (fun hc64 => ?_)
    · have hf := ip hc64 hf
      refine lv_iconst (v := 0) hx hb d_Reader_isHead_71 (by decide) ?_
      subst hf
      exact rZR (v := false) C hH d_Reader_isHead_72
    · have hf := im hc64 hf
      refine lv_iconst (v := 1) hx hb d_Reader_isHead_67 (by decide) ?_
      refine lv_goto (tgt := 72) hx hb d_Reader_isHead_68 (by decide) ?_
      subst hf
      exact rZR (v := true) C hH d_Reader_isHead_72
  have hf := im hc8_3 hf
  by_cases hc8_4 : x0 &&& 7 = 4
  · have hf := ip hc8_4 hf
    refine lv_tableIn (tgt := 73) hx hb d_Reader_isHead_8 (by rw [hc8_4]; decide) (by rw [hc8_4]; decide) (by rw [hc8_4]; rfl) (by decide) ?_
    refine lv_iload_n hx hb d_Reader_isHead_73 rfl (lv_at hl 0 rfl) ?_
    refine lv_if_ne (tgt := 81) hx hb d_Reader_isHead_74 (by decide) (fun hc74 => ?_) (fun hc74 => ?_)
    · have hf := im hc74 hf
      refine lv_iconst (v := 0) hx hb d_Reader_isHead_81 (by decide) ?_
      subst hf
      exact rZR (v := false) C hH d_Reader_isHead_82
    · have hf := ip hc74 hf
      refine lv_iconst (v := 1) hx hb d_Reader_isHead_77 (by decide) ?_
      refine lv_goto (tgt := 82) hx hb d_Reader_isHead_78 (by decide) ?_
      subst hf
      exact rZR (v := true) C hH d_Reader_isHead_82
  have hf := im hc8_4 hf
  by_cases hc8_5 : x0 &&& 7 = 5
  · have hf := ip hc8_5 hf
    refine lv_tableIn (tgt := 83) hx hb d_Reader_isHead_8 (by rw [hc8_5]; decide) (by rw [hc8_5]; decide) (by rw [hc8_5]; rfl) (by decide) ?_
    refine lv_iload_n hx hb d_Reader_isHead_83 rfl (lv_at hl 1 rfl) ?_
    refine lv_bipush (v := 8) hx hb d_Reader_isHead_84 (by decide) ?_
    refine lv_iand hx hb d_Reader_isHead_86 ?_
    refine lv_if_ne (tgt := 94) hx hb d_Reader_isHead_87 (by decide) (fun hc87 => ?_) (fun hc87 => ?_)
    · have hf := im hc87 hf
      refine lv_iconst (v := 0) hx hb d_Reader_isHead_94 (by decide) ?_
      subst hf
      exact rZR (v := false) C hH d_Reader_isHead_95
    · have hf := ip hc87 hf
      refine lv_iconst (v := 1) hx hb d_Reader_isHead_90 (by decide) ?_
      refine lv_goto (tgt := 95) hx hb d_Reader_isHead_91 (by decide) ?_
      subst hf
      exact rZR (v := true) C hH d_Reader_isHead_95
  have hf := im hc8_5 hf
  refine lv_tableOut (tgt := 96) hx hb d_Reader_isHead_8 (by have h0 := i32n (k := 0) hc8_0 (by decide); have h1 := i32n (k := 1) hc8_1 (by decide); have h2 := i32n (k := 2) hc8_2 (by decide); have h3 := i32n (k := 3) hc8_3 (by decide); have h4 := i32n (k := 4) hc8_4 (by decide); have h5 := i32n (k := 5) hc8_5 (by decide); omega) (by decide) ?_
  refine lv_iconst (v := 0) hx hb d_Reader_isHead_96 (by decide) ?_
  subst hf
  exact rZR (v := false) C hH d_Reader_isHead_97
def f_Reader_keep (st : S_Reader) (e1 : S_Events) (x2 : Int32) (x3 : Int64) (x5 : Int64) (x7 : Int32) : S_Reader × S_Events :=
  lt1 (f_Past_note st.2.1 x2 (f_Events_number e1)) (fun r9 => lt1 (f_Events_append e1 x2 x3 x5 x7) (fun r19 => ((st.1, r9, st.2.2.1, st.2.2.2.1, st.2.2.2.2), r19)))
set_option maxRecDepth 100000 in
set_option maxHeartbeats 4000000 in
theorem c_Reader_keep (l : Launch) (D : va_G) (cI cL : ClassId) (h h_log h_log_row h_past h_past_typed q1 q1_kinds q1_differences q1_partsA q1_partsB : Nat) (st : S_Reader) (e1 : S_Events) (x2 : Int32) (x3 : Int64) (x5 : Int64) (x7 : Int32) (res : S_Reader × S_Events) (hf : f_Reader_keep st e1 x2 x3 x5 x7 = res) :
    Fn l D vwCl [(cI, .int), (cL, .long)] y_Reader_keep ws_Reader_keep { frames := 1, cells := 0, slots := 0, locals := 26 } [.ref h, .ref q1, .int x2, .long x3, .long x5, .int x7] [(h, .inr (4, [.ref h_log, .ref h_past, .int st.2.2.1, .int st.2.2.2.1, .int st.2.2.2.2])), (h_log, .inr (0, [.ref h_log_row, .int st.1.2])), (h_log_row, .inl (cI, 5000, .inl st.1.1)), (h_past, .inr (1, [.ref h_past_typed, .int st.2.1.2.1, .int st.2.1.2.2])), (h_past_typed, .inl (cI, 300, .inl st.2.1.1)), (q1, .inr (2, [.ref q1_kinds, .ref q1_differences, .ref q1_partsA, .ref q1_partsB, .int e1.2.2.2.2])), (q1_kinds, .inl (cI, 300, .inl e1.1)), (q1_differences, .inl (cL, 300, .inr (.inl e1.2.1))), (q1_partsA, .inl (cL, 300, .inr (.inl e1.2.2.1))), (q1_partsB, .inl (cI, 300, .inl e1.2.2.2.1))] (none) [(h, .inr (4, [.ref h_log, .ref h_past, .int res.1.2.2.1, .int res.1.2.2.2.1, .int res.1.2.2.2.2])), (h_log, .inr (0, [.ref h_log_row, .int res.1.1.2])), (h_log_row, .inl (cI, 5000, .inl res.1.1.1)), (h_past, .inr (1, [.ref h_past_typed, .int res.1.2.1.2.1, .int res.1.2.1.2.2])), (h_past_typed, .inl (cI, 300, .inl res.1.2.1.1)), (q1, .inr (2, [.ref q1_kinds, .ref q1_differences, .ref q1_partsA, .ref q1_partsB, .int res.2.2.2.2.2])), (q1_kinds, .inl (cI, 300, .inl res.2.1)), (q1_differences, .inl (cL, 300, .inr (.inl res.2.2.1))), (q1_partsA, .inl (cL, 300, .inr (.inl res.2.2.2.1))), (q1_partsB, .inl (cI, 300, .inl res.2.2.2.2.1))] := by
  refine Fn.ofW (cc := b_Reader_keep) (maxL := 8) (ret := none) (by decide) rfl (Nat.le_of_ble_eq_true rfl) ?_
  intro p e s m below meth c A ls C hH hinit hl
  have hl : lv_has ls 8 [(0, .ref h), (1, .ref q1), (2, .int x2), (3, .long x3), (5, .long x5), (7, .int x7)] := hl
  obtain ⟨hx, hb, hr, hml, hown, hts, hlk, hK, hA⟩ := id C
  unfold f_Reader_keep at hf
  refine lv_aload_n hx hb d_Reader_keep_0 rfl (lv_at hl 0 rfl) ?_
  refine gt (ci := 4) (v := .ref h_past) C hH (iwT iw_Reader) 0 rfl rfl 1 (by decide) (.tail _ wd_116) rfl d_Reader_keep_1 ?_
  refine lv_iload_n hx hb d_Reader_keep_4 rfl (lv_at hl 2 rfl) ?_
  refine lv_aload_n hx hb d_Reader_keep_5 rfl (lv_at hl 1 rfl) ?_
  refine fnVR (rest := [.int x2, .ref h_past]) (st2 := [.int (f_Events_number e1), .int x2, .ref h_past]) C (c_Events_number l D cI cL q1 q1_kinds q1_differences q1_partsA q1_partsB e1 _ rfl) (cV hts kV_Events_number wd_307 ⟨Nat.le_of_ble_eq_true rfl, Nat.le_of_ble_eq_true rfl⟩) hH [5, 6, 7, 8, 9] rfl rfl 0 rfl rfl rfl hl.1 rfl (Nat.le_of_ble_eq_true rfl) d_Reader_keep_6 ⟨Nat.le_of_ble_eq_true rfl, Nat.le_of_ble_eq_true rfl⟩ rfl (fun H locs hH => ?_)
  obtain ⟨r9, hr9, hf⟩ := lb hf
  refine fnV (rest := []) (wr := [(h, .inr (4, [.ref h_log, .ref h_past, .int st.2.2.1, .int st.2.2.2.1, .int st.2.2.2.2])), (h_log, .inr (0, [.ref h_log_row, .int st.1.2])), (h_log_row, .inl (cI, 5000, .inl st.1.1)), (q1, .inr (2, [.ref q1_kinds, .ref q1_differences, .ref q1_partsA, .ref q1_partsB, .int e1.2.2.2.2])), (q1_kinds, .inl (cI, 300, .inl e1.1)), (q1_differences, .inl (cL, 300, .inr (.inl e1.2.1))), (q1_partsA, .inl (cL, 300, .inr (.inl e1.2.2.1))), (q1_partsB, .inl (cI, 300, .inl e1.2.2.2.1))]) (w2 := [(h, .inr (4, [.ref h_log, .ref h_past, .int st.2.2.1, .int st.2.2.2.1, .int st.2.2.2.2])), (h_log, .inr (0, [.ref h_log_row, .int st.1.2])), (h_log_row, .inl (cI, 5000, .inl st.1.1)), (h_past, .inr (1, [.ref h_past_typed, .int r9.2.1, .int r9.2.2])), (h_past_typed, .inl (cI, 300, .inl r9.1)), (q1, .inr (2, [.ref q1_kinds, .ref q1_differences, .ref q1_partsA, .ref q1_partsB, .int e1.2.2.2.2])), (q1_kinds, .inl (cI, 300, .inl e1.1)), (q1_differences, .inl (cL, 300, .inr (.inl e1.2.1))), (q1_partsA, .inl (cL, 300, .inr (.inl e1.2.2.1))), (q1_partsB, .inl (cI, 300, .inl e1.2.2.2.1))]) (st2 := []) C (c_Past_note l D cI cL h_past h_past_typed st.2.1 x2 (f_Events_number e1) r9 hr9) (cV hts kV_Past_note wd_327 ⟨Nat.le_of_ble_eq_true rfl, Nat.le_of_ble_eq_true rfl⟩) hH [3, 4] [0, 1, 2, 5, 6, 7, 8, 9] [0, 1, 2, 8, 9, 3, 4, 5, 6, 7] rfl rfl rfl rfl (by decide) rfl rfl 0 rfl rfl rfl hl.1 rfl (Nat.le_of_ble_eq_true rfl) d_Reader_keep_9 ⟨Nat.le_of_ble_eq_true rfl, Nat.le_of_ble_eq_true rfl⟩ rfl (fun H locs hH => ?_)
  refine lv_aload_n hx hb d_Reader_keep_12 rfl (lv_at hl 1 rfl) ?_
  refine lv_iload_n hx hb d_Reader_keep_13 rfl (lv_at hl 2 rfl) ?_
  refine lv_lload_n hx hb d_Reader_keep_14 rfl (lv_at hl 3 rfl) ?_
  refine lv_lload hx hb d_Reader_keep_15 (lv_at hl 4 rfl) ?_
  refine lv_iload hx hb d_Reader_keep_17 (lv_at hl 5 rfl) ?_
  obtain ⟨r19, hr19, hf⟩ := lb hf
  refine fnV (rest := []) (wr := [(h, .inr (4, [.ref h_log, .ref h_past, .int st.2.2.1, .int st.2.2.2.1, .int st.2.2.2.2])), (h_log, .inr (0, [.ref h_log_row, .int st.1.2])), (h_log_row, .inl (cI, 5000, .inl st.1.1)), (h_past, .inr (1, [.ref h_past_typed, .int r9.2.1, .int r9.2.2])), (h_past_typed, .inl (cI, 300, .inl r9.1))]) (w2 := [(h, .inr (4, [.ref h_log, .ref h_past, .int st.2.2.1, .int st.2.2.2.1, .int st.2.2.2.2])), (h_log, .inr (0, [.ref h_log_row, .int st.1.2])), (h_log_row, .inl (cI, 5000, .inl st.1.1)), (h_past, .inr (1, [.ref h_past_typed, .int r9.2.1, .int r9.2.2])), (h_past_typed, .inl (cI, 300, .inl r9.1)), (q1, .inr (2, [.ref q1_kinds, .ref q1_differences, .ref q1_partsA, .ref q1_partsB, .int r19.2.2.2.2])), (q1_kinds, .inl (cI, 300, .inl r19.1)), (q1_differences, .inl (cL, 300, .inr (.inl r19.2.1))), (q1_partsA, .inl (cL, 300, .inr (.inl r19.2.2.1))), (q1_partsB, .inl (cI, 300, .inl r19.2.2.2.1))]) (st2 := []) C (c_Events_append l D cI cL q1 q1_kinds q1_differences q1_partsA q1_partsB e1 x2 x3 x5 x7 r19 hr19) (cV hts kV_Events_append wd_328 ⟨Nat.le_of_ble_eq_true rfl, Nat.le_of_ble_eq_true rfl⟩) hH [5, 6, 7, 8, 9] [0, 1, 2, 3, 4] [0, 1, 2, 3, 4, 5, 6, 7, 8, 9] rfl rfl rfl rfl (by decide) rfl rfl 0 rfl rfl rfl hl.1 rfl (Nat.le_of_ble_eq_true rfl) d_Reader_keep_19 ⟨Nat.le_of_ble_eq_true rfl, Nat.le_of_ble_eq_true rfl⟩ rfl (fun H locs hH => ?_)
  subst hf
  exact rV C hH d_Reader_keep_22
def f_Reader_readRun_b78 : Nat → S_Reader → S_Events → Int32 → Int64 → Int32 → Option (S_Reader × S_Events)
  | 0, _, _, _, _, _ => none
  | n + 1, st, e1, x6, x7, x9 =>
  if 0 ≤ (lg_cmp x9.toInt64 x7) then (some ((st, e1))) else (if (300 : Int32) ≤ x9 then (some ((st, e1))) else (lt1 (f_Reader_keep st e1 (f_Events_kind e1 x6) (f_Events_difference e1 x6) (f_Events_a e1 x6) (f_Events_b e1 x6)) (fun r121 => f_Reader_readRun_b78 n r121.1 r121.2 x6 x7 (x9 + 1))))
set_option maxRecDepth 100000 in
set_option maxHeartbeats 4000000 in
theorem w_Reader_readRun_b78 (l : Launch) (D : va_G) (cI cL : ClassId) (h h_log h_log_row h_past h_past_typed q1 q1_kinds q1_differences q1_partsA q1_partsB : Nat) {p : Program} {e : Env} {s : State} {m : MethodId} {args : Array Value} {below : List Frame} {meth : Method} {c : Code} {A : Nat → Prop} (C : Cx p s m args meth c D vwCl [(cI, .int), (cL, .long)] A b_Reader_readRun 10 none ws_Reader_readRun y_Reader_readRun.cls) : ∀ (n : Nat) (st : S_Reader) (e1 : S_Events) (x6 : Int32) (x7 : Int64) (x9 : Int32) (res : S_Reader × S_Events), f_Reader_readRun_b78 n st e1 x6 x7 x9 = some res → ∀ (H : Heap) (locs : List Loc) (ls : Array Slot), Hp D vwCl A A s.heap H locs [(h, .inr (4, [.ref h_log, .ref h_past, .int st.2.2.1, .int st.2.2.2.1, .int st.2.2.2.2])), (h_log, .inr (0, [.ref h_log_row, .int st.1.2])), (h_log_row, .inl (cI, 5000, .inl st.1.1)), (h_past, .inr (1, [.ref h_past_typed, .int st.2.1.2.1, .int st.2.1.2.2])), (h_past_typed, .inl (cI, 300, .inl st.2.1.1)), (q1, .inr (2, [.ref q1_kinds, .ref q1_differences, .ref q1_partsA, .ref q1_partsB, .int e1.2.2.2.2])), (q1_kinds, .inl (cI, 300, .inl e1.1)), (q1_differences, .inl (cL, 300, .inr (.inl e1.2.1))), (q1_partsA, .inl (cL, 300, .inr (.inl e1.2.2.1))), (q1_partsB, .inl (cI, 300, .inl e1.2.2.2.1))] → lv_has ls 10 [(0, .ref h), (1, .ref q1), (6, .int x6), (7, .long x7), (9, .int x9)] → W p l e { frames := 3, cells := 0, slots := 0, locals := 70 } s m args below meth c H locs 0 0 (MQ below (Qw D vwCl [(cI, .int), (cL, .long)] (none) A [(h, .inr (4, [.ref h_log, .ref h_past, .int res.1.2.2.1, .int res.1.2.2.2.1, .int res.1.2.2.2.2])), (h_log, .inr (0, [.ref h_log_row, .int res.1.1.2])), (h_log_row, .inl (cI, 5000, .inl res.1.1.1)), (h_past, .inr (1, [.ref h_past_typed, .int res.1.2.1.2.1, .int res.1.2.1.2.2])), (h_past_typed, .inl (cI, 300, .inl res.1.2.1.1)), (q1, .inr (2, [.ref q1_kinds, .ref q1_differences, .ref q1_partsA, .ref q1_partsB, .int res.2.2.2.2.2])), (q1_kinds, .inl (cI, 300, .inl res.2.1)), (q1_differences, .inl (cL, 300, .inr (.inl res.2.2.1))), (q1_partsA, .inl (cL, 300, .inr (.inl res.2.2.2.1))), (q1_partsB, .inl (cI, 300, .inl res.2.2.2.2.1))]) args s 0 0 A) (F0 m 78 ls []) := by
  obtain ⟨hx, hb, hr, hml, hown, hts, hlk, hK, hA⟩ := id C
  intro n
  induction n with
  | zero => intro st e1 x6 x7 x9 res hf; cases hf
  | succ n ih =>
    intro st e1 x6 x7 x9 res hf H locs ls hH hl
    rw [f_Reader_readRun_b78] at hf
    refine lv_iload hx hb d_Reader_readRun_78 (lv_at hl 4 rfl) ?_
    refine lv_i2l (v := x9.toInt64) hx hb d_Reader_readRun_80 rfl ?_
    refine lv_lload hx hb d_Reader_readRun_81 (lv_at hl 3 rfl) ?_
    refine W.lcmp hx hb d_Reader_readRun_83 ?_
    refine lv_if_ge (tgt := 130) hx hb d_Reader_readRun_84 (by decide) (fun hc84 => ?_) (fun hc84 => ?_)
    · have hf := ip hc84 hf
      have hf := Option.some.inj hf
      subst hf
      exact rV C hH d_Reader_readRun_130
    · have hf := im hc84 hf
      refine lv_iload hx hb d_Reader_readRun_87 (lv_at hl 4 rfl) ?_
      refine lv_sipush (v := 300) hx hb d_Reader_readRun_89 (by decide) ?_
      refine lv_icmp_ge (tgt := 130) hx hb d_Reader_readRun_92 (by decide) (fun hc92 => ?_) (fun hc92 => ?_)
      · have hf := ip hc92 hf
        have hf := Option.some.inj hf
        subst hf
        exact rV C hH d_Reader_readRun_130
      · have hf := im hc92 hf
        refine lv_aload_n hx hb d_Reader_readRun_95 rfl (lv_at hl 0 rfl) ?_
        refine lv_aload_n hx hb d_Reader_readRun_96 rfl (lv_at hl 1 rfl) ?_
        refine lv_aload_n hx hb d_Reader_readRun_97 rfl (lv_at hl 1 rfl) ?_
        refine lv_iload hx hb d_Reader_readRun_98 (lv_at hl 2 rfl) ?_
        refine fnVR (rest := [.ref q1, .ref h]) (st2 := [.int (f_Events_kind e1 x6), .ref q1, .ref h]) C (c_Events_kind l D cI cL q1 q1_kinds q1_differences q1_partsA q1_partsB e1 x6 _ rfl) (cV hts kV_Events_kind wd_319 ⟨Nat.le_of_ble_eq_true rfl, Nat.le_of_ble_eq_true rfl⟩) hH [5, 6, 7, 8, 9] rfl rfl 0 rfl rfl rfl hl.1 rfl (Nat.le_of_ble_eq_true rfl) d_Reader_readRun_100 ⟨Nat.le_of_ble_eq_true rfl, Nat.le_of_ble_eq_true rfl⟩ rfl (fun H locs hH => ?_)
        refine lv_aload_n hx hb d_Reader_readRun_103 rfl (lv_at hl 1 rfl) ?_
        refine lv_iload hx hb d_Reader_readRun_104 (lv_at hl 2 rfl) ?_
        refine fnVR (rest := [.int (f_Events_kind e1 x6), .ref q1, .ref h]) (st2 := [.long (f_Events_difference e1 x6), .int (f_Events_kind e1 x6), .ref q1, .ref h]) C (c_Events_difference l D cI cL q1 q1_kinds q1_differences q1_partsA q1_partsB e1 x6 _ rfl) (cV hts kV_Events_difference wd_320 ⟨Nat.le_of_ble_eq_true rfl, Nat.le_of_ble_eq_true rfl⟩) hH [5, 6, 7, 8, 9] rfl rfl 0 rfl rfl rfl hl.1 rfl (Nat.le_of_ble_eq_true rfl) d_Reader_readRun_106 ⟨Nat.le_of_ble_eq_true rfl, Nat.le_of_ble_eq_true rfl⟩ rfl (fun H locs hH => ?_)
        refine lv_aload_n hx hb d_Reader_readRun_109 rfl (lv_at hl 1 rfl) ?_
        refine lv_iload hx hb d_Reader_readRun_110 (lv_at hl 2 rfl) ?_
        refine fnVR (rest := [.long (f_Events_difference e1 x6), .int (f_Events_kind e1 x6), .ref q1, .ref h]) (st2 := [.long (f_Events_a e1 x6), .long (f_Events_difference e1 x6), .int (f_Events_kind e1 x6), .ref q1, .ref h]) C (c_Events_a l D cI cL q1 q1_kinds q1_differences q1_partsA q1_partsB e1 x6 _ rfl) (cV hts kV_Events_a wd_321 ⟨Nat.le_of_ble_eq_true rfl, Nat.le_of_ble_eq_true rfl⟩) hH [5, 6, 7, 8, 9] rfl rfl 0 rfl rfl rfl hl.1 rfl (Nat.le_of_ble_eq_true rfl) d_Reader_readRun_112 ⟨Nat.le_of_ble_eq_true rfl, Nat.le_of_ble_eq_true rfl⟩ rfl (fun H locs hH => ?_)
        refine lv_aload_n hx hb d_Reader_readRun_115 rfl (lv_at hl 1 rfl) ?_
        refine lv_iload hx hb d_Reader_readRun_116 (lv_at hl 2 rfl) ?_
        refine fnVR (rest := [.long (f_Events_a e1 x6), .long (f_Events_difference e1 x6), .int (f_Events_kind e1 x6), .ref q1, .ref h]) (st2 := [.int (f_Events_b e1 x6), .long (f_Events_a e1 x6), .long (f_Events_difference e1 x6), .int (f_Events_kind e1 x6), .ref q1, .ref h]) C (c_Events_b l D cI cL q1 q1_kinds q1_differences q1_partsA q1_partsB e1 x6 _ rfl) (cV hts kV_Events_b wd_322 ⟨Nat.le_of_ble_eq_true rfl, Nat.le_of_ble_eq_true rfl⟩) hH [5, 6, 7, 8, 9] rfl rfl 0 rfl rfl rfl hl.1 rfl (Nat.le_of_ble_eq_true rfl) d_Reader_readRun_118 ⟨Nat.le_of_ble_eq_true rfl, Nat.le_of_ble_eq_true rfl⟩ rfl (fun H locs hH => ?_)
        obtain ⟨r121, hr121, hf⟩ := lb hf
        refine fnV (rest := []) (wr := []) (w2 := [(h, .inr (4, [.ref h_log, .ref h_past, .int r121.1.2.2.1, .int r121.1.2.2.2.1, .int r121.1.2.2.2.2])), (h_log, .inr (0, [.ref h_log_row, .int r121.1.1.2])), (h_log_row, .inl (cI, 5000, .inl r121.1.1.1)), (h_past, .inr (1, [.ref h_past_typed, .int r121.1.2.1.2.1, .int r121.1.2.1.2.2])), (h_past_typed, .inl (cI, 300, .inl r121.1.2.1.1)), (q1, .inr (2, [.ref q1_kinds, .ref q1_differences, .ref q1_partsA, .ref q1_partsB, .int r121.2.2.2.2.2])), (q1_kinds, .inl (cI, 300, .inl r121.2.1)), (q1_differences, .inl (cL, 300, .inr (.inl r121.2.2.1))), (q1_partsA, .inl (cL, 300, .inr (.inl r121.2.2.2.1))), (q1_partsB, .inl (cI, 300, .inl r121.2.2.2.2.1))]) (st2 := []) C (c_Reader_keep l D cI cL h h_log h_log_row h_past h_past_typed q1 q1_kinds q1_differences q1_partsA q1_partsB st e1 (f_Events_kind e1 x6) (f_Events_difference e1 x6) (f_Events_a e1 x6) (f_Events_b e1 x6) r121 hr121) (cV hts kV_Reader_keep wd_323 ⟨Nat.le_of_ble_eq_true rfl, Nat.le_of_ble_eq_true rfl⟩) hH [0, 1, 2, 3, 4, 5, 6, 7, 8, 9] [] [0, 1, 2, 3, 4, 5, 6, 7, 8, 9] rfl rfl rfl rfl (by decide) rfl rfl 0 rfl rfl rfl hl.1 rfl (Nat.le_of_ble_eq_true rfl) d_Reader_readRun_121 ⟨Nat.le_of_ble_eq_true rfl, Nat.le_of_ble_eq_true rfl⟩ rfl (fun H locs hH => ?_)
        refine lv_iinc (v := x9 + 1) (lv' := [(9, .int (x9 + 1)), (0, .ref h), (1, .ref q1), (6, .int x6), (7, .long x7)]) hx hb d_Reader_readRun_124 hl (k := 4) rfl rfl (by decide) rfl (fun ls hl => ?_)
        refine lv_goto (tgt := 78) hx hb d_Reader_readRun_127 (by decide) ?_
        exact ih r121.1 r121.2 x6 x7 (x9 + 1) res hf _ _ _ hH (lv_sub hl [1, 2, 3, 4, 0] rfl)
def f_Reader_readRun_b67 (st : S_Reader) (e1 : S_Events) (x6 : Int32) (x7 : Int64) : Option (S_Reader × S_Events) :=
  if (bI (f_Reader_isFine st)) = 0 then (some ((st, e1))) else (f_Reader_readRun_b78 400 st e1 x6 x7 0)
set_option maxRecDepth 100000 in
set_option maxHeartbeats 4000000 in
theorem w_Reader_readRun_b67 (l : Launch) (D : va_G) (cI cL : ClassId) (h h_log h_log_row h_past h_past_typed q1 q1_kinds q1_differences q1_partsA q1_partsB : Nat) {p : Program} {e : Env} {s : State} {m : MethodId} {args : Array Value} {below : List Frame} {meth : Method} {c : Code} {A : Nat → Prop} (C : Cx p s m args meth c D vwCl [(cI, .int), (cL, .long)] A b_Reader_readRun 10 none ws_Reader_readRun y_Reader_readRun.cls) : ∀ (st : S_Reader) (e1 : S_Events) (x6 : Int32) (x7 : Int64) (res : S_Reader × S_Events), f_Reader_readRun_b67 st e1 x6 x7 = some res → ∀ (H : Heap) (locs : List Loc) (ls : Array Slot), Hp D vwCl A A s.heap H locs [(h, .inr (4, [.ref h_log, .ref h_past, .int st.2.2.1, .int st.2.2.2.1, .int st.2.2.2.2])), (h_log, .inr (0, [.ref h_log_row, .int st.1.2])), (h_log_row, .inl (cI, 5000, .inl st.1.1)), (h_past, .inr (1, [.ref h_past_typed, .int st.2.1.2.1, .int st.2.1.2.2])), (h_past_typed, .inl (cI, 300, .inl st.2.1.1)), (q1, .inr (2, [.ref q1_kinds, .ref q1_differences, .ref q1_partsA, .ref q1_partsB, .int e1.2.2.2.2])), (q1_kinds, .inl (cI, 300, .inl e1.1)), (q1_differences, .inl (cL, 300, .inr (.inl e1.2.1))), (q1_partsA, .inl (cL, 300, .inr (.inl e1.2.2.1))), (q1_partsB, .inl (cI, 300, .inl e1.2.2.2.1))] → lv_has ls 10 [(0, .ref h), (1, .ref q1), (6, .int x6), (7, .long x7)] → W p l e { frames := 3, cells := 0, slots := 0, locals := 70 } s m args below meth c H locs 0 0 (MQ below (Qw D vwCl [(cI, .int), (cL, .long)] (none) A [(h, .inr (4, [.ref h_log, .ref h_past, .int res.1.2.2.1, .int res.1.2.2.2.1, .int res.1.2.2.2.2])), (h_log, .inr (0, [.ref h_log_row, .int res.1.1.2])), (h_log_row, .inl (cI, 5000, .inl res.1.1.1)), (h_past, .inr (1, [.ref h_past_typed, .int res.1.2.1.2.1, .int res.1.2.1.2.2])), (h_past_typed, .inl (cI, 300, .inl res.1.2.1.1)), (q1, .inr (2, [.ref q1_kinds, .ref q1_differences, .ref q1_partsA, .ref q1_partsB, .int res.2.2.2.2.2])), (q1_kinds, .inl (cI, 300, .inl res.2.1)), (q1_differences, .inl (cL, 300, .inr (.inl res.2.2.1))), (q1_partsA, .inl (cL, 300, .inr (.inl res.2.2.2.1))), (q1_partsB, .inl (cI, 300, .inl res.2.2.2.2.1))]) args s 0 0 A) (F0 m 67 ls []) := by
  obtain ⟨hx, hb, hr, hml, hown, hts, hlk, hK, hA⟩ := id C
  intro st e1 x6 x7 res hf H locs ls hH hl
  unfold f_Reader_readRun_b67 at hf
  refine lv_aload_n hx hb d_Reader_readRun_67 rfl (lv_at hl 0 rfl) ?_
  refine fnVR (rest := []) (st2 := [.int (bI (f_Reader_isFine st))]) C (c_Reader_isFine l D cI cL h h_log h_log_row h_past h_past_typed st _ rfl) (cV hts kV_Reader_isFine wd_301 ⟨Nat.le_of_ble_eq_true rfl, Nat.le_of_ble_eq_true rfl⟩) hH [0, 1, 2, 3, 4] rfl rfl 0 rfl rfl rfl hl.1 rfl (Nat.le_of_ble_eq_true rfl) d_Reader_readRun_68 ⟨Nat.le_of_ble_eq_true rfl, Nat.le_of_ble_eq_true rfl⟩ rfl (fun H locs hH => ?_)
  refine lv_if_ne (tgt := 75) hx hb d_Reader_readRun_71 (by decide) (fun hc71 => ?_) (fun hc71 => ?_)
  · have hf := im hc71 hf
    refine lv_iconst (v := 0) hx hb d_Reader_readRun_75 (by decide) ?_
    refine lv_istore (lv' := [(9, .int 0), (0, .ref h), (1, .ref q1), (6, .int x6), (7, .long x7)]) hx hb d_Reader_readRun_76 hl (by decide) rfl (fun ls hl => ?_)
    exact w_Reader_readRun_b78 l D cI cL h h_log h_log_row h_past h_past_typed q1 q1_kinds q1_differences q1_partsA q1_partsB C 400 st e1 x6 x7 0 res hf _ _ _ hH (lv_sub hl [1, 2, 3, 4, 0] rfl)
  · have hf := ip hc71 hf
    have hf := Option.some.inj hf
    subst hf
    exact rV C hH d_Reader_readRun_74
def f_Reader_readRun_b37 (st : S_Reader) (e1 : S_Events) (x2 : Int64) (x5 : Int32) (x6 : Int32) (z0 : Int64) : Option (S_Reader × S_Events) :=
  if (bI (f_Reader_isFine st)) = 0 then (f_Reader_readRun_b67 st e1 x6 z0) else (if (lg_cmp z0 (x2 - ((f_Events_number e1).toInt64))) ≤ 0 then (f_Reader_readRun_b67 st e1 x6 z0) else (lt1 (f_Reader_fail st 6 x5) (fun r64 => f_Reader_readRun_b67 r64 e1 x6 z0)))
set_option maxRecDepth 100000 in
set_option maxHeartbeats 4000000 in
theorem w_Reader_readRun_b37 (l : Launch) (D : va_G) (cI cL : ClassId) (h h_log h_log_row h_past h_past_typed q1 q1_kinds q1_differences q1_partsA q1_partsB : Nat) {p : Program} {e : Env} {s : State} {m : MethodId} {args : Array Value} {below : List Frame} {meth : Method} {c : Code} {A : Nat → Prop} (C : Cx p s m args meth c D vwCl [(cI, .int), (cL, .long)] A b_Reader_readRun 10 none ws_Reader_readRun y_Reader_readRun.cls) : ∀ (st : S_Reader) (e1 : S_Events) (x2 : Int64) (x5 : Int32) (x6 : Int32) (z0 : Int64) (res : S_Reader × S_Events), f_Reader_readRun_b37 st e1 x2 x5 x6 z0 = some res → ∀ (H : Heap) (locs : List Loc) (ls : Array Slot), Hp D vwCl A A s.heap H locs [(h, .inr (4, [.ref h_log, .ref h_past, .int st.2.2.1, .int st.2.2.2.1, .int st.2.2.2.2])), (h_log, .inr (0, [.ref h_log_row, .int st.1.2])), (h_log_row, .inl (cI, 5000, .inl st.1.1)), (h_past, .inr (1, [.ref h_past_typed, .int st.2.1.2.1, .int st.2.1.2.2])), (h_past_typed, .inl (cI, 300, .inl st.2.1.1)), (q1, .inr (2, [.ref q1_kinds, .ref q1_differences, .ref q1_partsA, .ref q1_partsB, .int e1.2.2.2.2])), (q1_kinds, .inl (cI, 300, .inl e1.1)), (q1_differences, .inl (cL, 300, .inr (.inl e1.2.1))), (q1_partsA, .inl (cL, 300, .inr (.inl e1.2.2.1))), (q1_partsB, .inl (cI, 300, .inl e1.2.2.2.1))] → lv_has ls 10 [(0, .ref h), (1, .ref q1), (2, .long x2), (5, .int x5), (6, .int x6)] → W p l e { frames := 3, cells := 0, slots := 0, locals := 70 } s m args below meth c H locs 0 0 (MQ below (Qw D vwCl [(cI, .int), (cL, .long)] (none) A [(h, .inr (4, [.ref h_log, .ref h_past, .int res.1.2.2.1, .int res.1.2.2.2.1, .int res.1.2.2.2.2])), (h_log, .inr (0, [.ref h_log_row, .int res.1.1.2])), (h_log_row, .inl (cI, 5000, .inl res.1.1.1)), (h_past, .inr (1, [.ref h_past_typed, .int res.1.2.1.2.1, .int res.1.2.1.2.2])), (h_past_typed, .inl (cI, 300, .inl res.1.2.1.1)), (q1, .inr (2, [.ref q1_kinds, .ref q1_differences, .ref q1_partsA, .ref q1_partsB, .int res.2.2.2.2.2])), (q1_kinds, .inl (cI, 300, .inl res.2.1)), (q1_differences, .inl (cL, 300, .inr (.inl res.2.2.1))), (q1_partsA, .inl (cL, 300, .inr (.inl res.2.2.2.1))), (q1_partsB, .inl (cI, 300, .inl res.2.2.2.2.1))]) args s 0 0 A) (F0 m 37 ls [.long z0]) := by
  obtain ⟨hx, hb, hr, hml, hown, hts, hlk, hK, hA⟩ := id C
  intro st e1 x2 x5 x6 z0 res hf H locs ls hH hl
  unfold f_Reader_readRun_b37 at hf
  refine lv_lstore (lv' := [(7, .long z0), (0, .ref h), (1, .ref q1), (2, .long x2), (5, .int x5), (6, .int x6)]) hx hb d_Reader_readRun_37 hl (by decide) rfl (fun ls hl => ?_)
  refine lv_aload_n hx hb d_Reader_readRun_39 rfl (lv_at hl 1 rfl) ?_
  refine fnVR (rest := []) (st2 := [.int (bI (f_Reader_isFine st))]) C (c_Reader_isFine l D cI cL h h_log h_log_row h_past h_past_typed st _ rfl) (cV hts kV_Reader_isFine wd_301 ⟨Nat.le_of_ble_eq_true rfl, Nat.le_of_ble_eq_true rfl⟩) hH [0, 1, 2, 3, 4] rfl rfl 0 rfl rfl rfl hl.1 rfl (Nat.le_of_ble_eq_true rfl) d_Reader_readRun_40 ⟨Nat.le_of_ble_eq_true rfl, Nat.le_of_ble_eq_true rfl⟩ rfl (fun H locs hH => ?_)
  refine lv_if_eq (tgt := 67) hx hb d_Reader_readRun_43 (by decide) (fun hc43 => ?_) (fun hc43 => ?_)
  · have hf := ip hc43 hf
    exact w_Reader_readRun_b67 l D cI cL h h_log h_log_row h_past h_past_typed q1 q1_kinds q1_differences q1_partsA q1_partsB C st e1 x6 z0 res hf _ _ _ hH (lv_sub hl [1, 2, 5, 0] rfl)
  · have hf := im hc43 hf
    refine lv_lload hx hb d_Reader_readRun_46 (lv_at hl 0 rfl) ?_
    refine lv_lload_n hx hb d_Reader_readRun_48 rfl (lv_at hl 3 rfl) ?_
    refine lv_aload_n hx hb d_Reader_readRun_49 rfl (lv_at hl 2 rfl) ?_
    refine fnVR (rest := [.long x2, .long z0]) (st2 := [.int (f_Events_number e1), .long x2, .long z0]) C (c_Events_number l D cI cL q1 q1_kinds q1_differences q1_partsA q1_partsB e1 _ rfl) (cV hts kV_Events_number wd_307 ⟨Nat.le_of_ble_eq_true rfl, Nat.le_of_ble_eq_true rfl⟩) hH [5, 6, 7, 8, 9] rfl rfl 0 rfl rfl rfl hl.1 rfl (Nat.le_of_ble_eq_true rfl) d_Reader_readRun_50 ⟨Nat.le_of_ble_eq_true rfl, Nat.le_of_ble_eq_true rfl⟩ rfl (fun H locs hH => ?_)
    refine lv_i2l (v := (f_Events_number e1).toInt64) hx hb d_Reader_readRun_53 rfl ?_
    refine lv_lsub hx hb d_Reader_readRun_54 ?_
    refine W.lcmp hx hb d_Reader_readRun_55 ?_
    refine lv_if_le (tgt := 67) hx hb d_Reader_readRun_56 (by decide) (fun hc56 => ?_) (fun hc56 => ?_)
    · have hf := ip hc56 hf
      exact w_Reader_readRun_b67 l D cI cL h h_log h_log_row h_past h_past_typed q1 q1_kinds q1_differences q1_partsA q1_partsB C st e1 x6 z0 res hf _ _ _ hH (lv_sub hl [1, 2, 5, 0] rfl)
    · have hf := im hc56 hf
      refine lv_aload_n hx hb d_Reader_readRun_59 rfl (lv_at hl 1 rfl) ?_
      refine lv_bipush (v := 6) hx hb d_Reader_readRun_60 (by decide) ?_
      refine lv_iload hx hb d_Reader_readRun_62 (lv_at hl 4 rfl) ?_
      obtain ⟨r64, hr64, hf⟩ := lb hf
      refine fnV (rest := []) (wr := [(q1, .inr (2, [.ref q1_kinds, .ref q1_differences, .ref q1_partsA, .ref q1_partsB, .int e1.2.2.2.2])), (q1_kinds, .inl (cI, 300, .inl e1.1)), (q1_differences, .inl (cL, 300, .inr (.inl e1.2.1))), (q1_partsA, .inl (cL, 300, .inr (.inl e1.2.2.1))), (q1_partsB, .inl (cI, 300, .inl e1.2.2.2.1))]) (w2 := [(h, .inr (4, [.ref h_log, .ref h_past, .int r64.2.2.1, .int r64.2.2.2.1, .int r64.2.2.2.2])), (h_log, .inr (0, [.ref h_log_row, .int r64.1.2])), (h_log_row, .inl (cI, 5000, .inl r64.1.1)), (h_past, .inr (1, [.ref h_past_typed, .int r64.2.1.2.1, .int r64.2.1.2.2])), (h_past_typed, .inl (cI, 300, .inl r64.2.1.1)), (q1, .inr (2, [.ref q1_kinds, .ref q1_differences, .ref q1_partsA, .ref q1_partsB, .int e1.2.2.2.2])), (q1_kinds, .inl (cI, 300, .inl e1.1)), (q1_differences, .inl (cL, 300, .inr (.inl e1.2.1))), (q1_partsA, .inl (cL, 300, .inr (.inl e1.2.2.1))), (q1_partsB, .inl (cI, 300, .inl e1.2.2.2.1))]) (st2 := []) C (c_Reader_fail l D cI cL h h_log h_log_row h_past h_past_typed st 6 x5 r64 hr64) (cV hts kV_Reader_fail wd_293 ⟨Nat.le_of_ble_eq_true rfl, Nat.le_of_ble_eq_true rfl⟩) hH [0, 1, 2, 3, 4] [5, 6, 7, 8, 9] [5, 6, 7, 8, 9, 0, 1, 2, 3, 4] rfl rfl rfl rfl (by decide) rfl rfl 0 rfl rfl rfl hl.1 rfl (Nat.le_of_ble_eq_true rfl) d_Reader_readRun_64 ⟨Nat.le_of_ble_eq_true rfl, Nat.le_of_ble_eq_true rfl⟩ rfl (fun H locs hH => ?_)
      exact w_Reader_readRun_b67 l D cI cL h h_log h_log_row h_past h_past_typed q1 q1_kinds q1_differences q1_partsA q1_partsB C r64 e1 x6 z0 res hf _ _ _ hH (lv_sub hl [1, 2, 5, 0] rfl)
def f_Reader_readRun (st : S_Reader) (e1 : S_Events) (x2 : Int64) (x4 : Int32) (x5 : Int32) : Option (S_Reader × S_Events) :=
  if 0 ≤ ((f_Events_number e1) - 1) then (if x4 = 0 then ((f_Reader_readVarint st 1).bind (fun r28 => f_Reader_readRun_b37 r28.2 e1 x2 x5 ((f_Events_number e1) - 1) r28.1)) else (f_Reader_readRun_b37 st e1 x2 x5 ((f_Events_number e1) - 1) x4.toInt64)) else (lt1 (f_Reader_fail st 4 x5) (fun r17 => some ((r17, e1))))
set_option maxRecDepth 100000 in
set_option maxHeartbeats 4000000 in
theorem c_Reader_readRun (l : Launch) (D : va_G) (cI cL : ClassId) (h h_log h_log_row h_past h_past_typed q1 q1_kinds q1_differences q1_partsA q1_partsB : Nat) (st : S_Reader) (e1 : S_Events) (x2 : Int64) (x4 : Int32) (x5 : Int32) (res : S_Reader × S_Events) (hf : f_Reader_readRun st e1 x2 x4 x5 = some res) :
    Fn l D vwCl [(cI, .int), (cL, .long)] y_Reader_readRun ws_Reader_readRun { frames := 3, cells := 0, slots := 0, locals := 70 } [.ref h, .ref q1, .long x2, .int x4, .int x5] [(h, .inr (4, [.ref h_log, .ref h_past, .int st.2.2.1, .int st.2.2.2.1, .int st.2.2.2.2])), (h_log, .inr (0, [.ref h_log_row, .int st.1.2])), (h_log_row, .inl (cI, 5000, .inl st.1.1)), (h_past, .inr (1, [.ref h_past_typed, .int st.2.1.2.1, .int st.2.1.2.2])), (h_past_typed, .inl (cI, 300, .inl st.2.1.1)), (q1, .inr (2, [.ref q1_kinds, .ref q1_differences, .ref q1_partsA, .ref q1_partsB, .int e1.2.2.2.2])), (q1_kinds, .inl (cI, 300, .inl e1.1)), (q1_differences, .inl (cL, 300, .inr (.inl e1.2.1))), (q1_partsA, .inl (cL, 300, .inr (.inl e1.2.2.1))), (q1_partsB, .inl (cI, 300, .inl e1.2.2.2.1))] (none) [(h, .inr (4, [.ref h_log, .ref h_past, .int res.1.2.2.1, .int res.1.2.2.2.1, .int res.1.2.2.2.2])), (h_log, .inr (0, [.ref h_log_row, .int res.1.1.2])), (h_log_row, .inl (cI, 5000, .inl res.1.1.1)), (h_past, .inr (1, [.ref h_past_typed, .int res.1.2.1.2.1, .int res.1.2.1.2.2])), (h_past_typed, .inl (cI, 300, .inl res.1.2.1.1)), (q1, .inr (2, [.ref q1_kinds, .ref q1_differences, .ref q1_partsA, .ref q1_partsB, .int res.2.2.2.2.2])), (q1_kinds, .inl (cI, 300, .inl res.2.1)), (q1_differences, .inl (cL, 300, .inr (.inl res.2.2.1))), (q1_partsA, .inl (cL, 300, .inr (.inl res.2.2.2.1))), (q1_partsB, .inl (cI, 300, .inl res.2.2.2.2.1))] := by
  refine Fn.ofW (cc := b_Reader_readRun) (maxL := 10) (ret := none) (by decide) rfl (Nat.le_of_ble_eq_true rfl) ?_
  intro p e s m below meth c A ls C hH hinit hl
  have hl : lv_has ls 10 [(0, .ref h), (1, .ref q1), (2, .long x2), (4, .int x4), (5, .int x5)] := hl
  obtain ⟨hx, hb, hr, hml, hown, hts, hlk, hK, hA⟩ := id C
  unfold f_Reader_readRun at hf
  refine lv_aload_n hx hb d_Reader_readRun_0 rfl (lv_at hl 1 rfl) ?_
  refine fnVR (rest := []) (st2 := [.int (f_Events_number e1)]) C (c_Events_number l D cI cL q1 q1_kinds q1_differences q1_partsA q1_partsB e1 _ rfl) (cV hts kV_Events_number wd_307 ⟨Nat.le_of_ble_eq_true rfl, Nat.le_of_ble_eq_true rfl⟩) hH [5, 6, 7, 8, 9] rfl rfl 0 rfl rfl rfl hl.1 rfl (Nat.le_of_ble_eq_true rfl) d_Reader_readRun_1 ⟨Nat.le_of_ble_eq_true rfl, Nat.le_of_ble_eq_true rfl⟩ rfl (fun H locs hH => ?_)
  refine lv_iconst (v := 1) hx hb d_Reader_readRun_4 (by decide) ?_
  refine lv_isub hx hb d_Reader_readRun_5 ?_
  refine lv_istore (lv' := [(6, .int ((f_Events_number e1) - 1)), (0, .ref h), (1, .ref q1), (2, .long x2), (4, .int x4), (5, .int x5)]) hx hb d_Reader_readRun_6 hl (by decide) rfl (fun ls hl => ?_)
  refine lv_iload hx hb d_Reader_readRun_8 (lv_at hl 0 rfl) ?_
  refine lv_if_ge (tgt := 21) hx hb d_Reader_readRun_10 (by decide) (fun hc10 => ?_) (fun hc10 => ?_)
  · have hf := ip hc10 hf
    refine lv_iload hx hb d_Reader_readRun_21 (lv_at hl 4 rfl) ?_
    refine lv_if_ne (tgt := 34) hx hb d_Reader_readRun_23 (by decide) (fun hc23 => ?_) (fun hc23 => ?_)
    · have hf := im hc23 hf
      refine lv_iload hx hb d_Reader_readRun_34 (lv_at hl 4 rfl) ?_
      refine lv_i2l (v := x4.toInt64) hx hb d_Reader_readRun_36 rfl ?_
      exact w_Reader_readRun_b37 l D cI cL h h_log h_log_row h_past h_past_typed q1 q1_kinds q1_differences q1_partsA q1_partsB C st e1 x2 x5 ((f_Events_number e1) - 1) x4.toInt64 res hf _ _ _ hH (lv_sub hl [1, 2, 3, 5, 0] rfl)
    · have hf := ip hc23 hf
      refine lv_aload_n hx hb d_Reader_readRun_26 rfl (lv_at hl 1 rfl) ?_
      refine lv_iconst (v := 1) hx hb d_Reader_readRun_27 (by decide) ?_
      obtain ⟨r28, hr28, hf⟩ := ob hf
      refine fnV (rest := []) (wr := [(q1, .inr (2, [.ref q1_kinds, .ref q1_differences, .ref q1_partsA, .ref q1_partsB, .int e1.2.2.2.2])), (q1_kinds, .inl (cI, 300, .inl e1.1)), (q1_differences, .inl (cL, 300, .inr (.inl e1.2.1))), (q1_partsA, .inl (cL, 300, .inr (.inl e1.2.2.1))), (q1_partsB, .inl (cI, 300, .inl e1.2.2.2.1))]) (w2 := [(h, .inr (4, [.ref h_log, .ref h_past, .int r28.2.2.2.1, .int r28.2.2.2.2.1, .int r28.2.2.2.2.2])), (h_log, .inr (0, [.ref h_log_row, .int r28.2.1.2])), (h_log_row, .inl (cI, 5000, .inl r28.2.1.1)), (h_past, .inr (1, [.ref h_past_typed, .int r28.2.2.1.2.1, .int r28.2.2.1.2.2])), (h_past_typed, .inl (cI, 300, .inl r28.2.2.1.1)), (q1, .inr (2, [.ref q1_kinds, .ref q1_differences, .ref q1_partsA, .ref q1_partsB, .int e1.2.2.2.2])), (q1_kinds, .inl (cI, 300, .inl e1.1)), (q1_differences, .inl (cL, 300, .inr (.inl e1.2.1))), (q1_partsA, .inl (cL, 300, .inr (.inl e1.2.2.1))), (q1_partsB, .inl (cI, 300, .inl e1.2.2.2.1))]) (st2 := [.long r28.1]) C (c_Reader_readVarint l D cI cL h h_log h_log_row h_past h_past_typed st 1 r28 hr28) (cV hts kV_Reader_readVarint wd_281 ⟨Nat.le_of_ble_eq_true rfl, Nat.le_of_ble_eq_true rfl⟩) hH [0, 1, 2, 3, 4] [5, 6, 7, 8, 9] [5, 6, 7, 8, 9, 0, 1, 2, 3, 4] rfl rfl rfl rfl (by decide) rfl rfl 0 rfl rfl rfl hl.1 rfl (Nat.le_of_ble_eq_true rfl) d_Reader_readRun_28 ⟨Nat.le_of_ble_eq_true rfl, Nat.le_of_ble_eq_true rfl⟩ rfl (fun H locs hH => ?_)
      refine lv_goto (tgt := 37) hx hb d_Reader_readRun_31 (by decide) ?_
      exact w_Reader_readRun_b37 l D cI cL h h_log h_log_row h_past h_past_typed q1 q1_kinds q1_differences q1_partsA q1_partsB C r28.2 e1 x2 x5 ((f_Events_number e1) - 1) r28.1 res hf _ _ _ hH (lv_sub hl [1, 2, 3, 5, 0] rfl)
  · have hf := im hc10 hf
    refine lv_aload_n hx hb d_Reader_readRun_13 rfl (lv_at hl 1 rfl) ?_
    refine lv_iconst (v := 4) hx hb d_Reader_readRun_14 (by decide) ?_
    refine lv_iload hx hb d_Reader_readRun_15 (lv_at hl 5 rfl) ?_
    obtain ⟨r17, hr17, hf⟩ := lb hf
    refine fnV (rest := []) (wr := [(q1, .inr (2, [.ref q1_kinds, .ref q1_differences, .ref q1_partsA, .ref q1_partsB, .int e1.2.2.2.2])), (q1_kinds, .inl (cI, 300, .inl e1.1)), (q1_differences, .inl (cL, 300, .inr (.inl e1.2.1))), (q1_partsA, .inl (cL, 300, .inr (.inl e1.2.2.1))), (q1_partsB, .inl (cI, 300, .inl e1.2.2.2.1))]) (w2 := [(h, .inr (4, [.ref h_log, .ref h_past, .int r17.2.2.1, .int r17.2.2.2.1, .int r17.2.2.2.2])), (h_log, .inr (0, [.ref h_log_row, .int r17.1.2])), (h_log_row, .inl (cI, 5000, .inl r17.1.1)), (h_past, .inr (1, [.ref h_past_typed, .int r17.2.1.2.1, .int r17.2.1.2.2])), (h_past_typed, .inl (cI, 300, .inl r17.2.1.1)), (q1, .inr (2, [.ref q1_kinds, .ref q1_differences, .ref q1_partsA, .ref q1_partsB, .int e1.2.2.2.2])), (q1_kinds, .inl (cI, 300, .inl e1.1)), (q1_differences, .inl (cL, 300, .inr (.inl e1.2.1))), (q1_partsA, .inl (cL, 300, .inr (.inl e1.2.2.1))), (q1_partsB, .inl (cI, 300, .inl e1.2.2.2.1))]) (st2 := []) C (c_Reader_fail l D cI cL h h_log h_log_row h_past h_past_typed st 4 x5 r17 hr17) (cV hts kV_Reader_fail wd_293 ⟨Nat.le_of_ble_eq_true rfl, Nat.le_of_ble_eq_true rfl⟩) hH [0, 1, 2, 3, 4] [5, 6, 7, 8, 9] [5, 6, 7, 8, 9, 0, 1, 2, 3, 4] rfl rfl rfl rfl (by decide) rfl rfl 0 rfl rfl rfl hl.1 rfl (Nat.le_of_ble_eq_true rfl) d_Reader_readRun_17 ⟨Nat.le_of_ble_eq_true rfl, Nat.le_of_ble_eq_true rfl⟩ rfl (fun H locs hH => ?_)
    have hf := Option.some.inj hf
    subst hf
    exact rV C hH d_Reader_readRun_20
def f_Reader_isMeaningAnother_b9  (x0 : Int32) (x1 : Int32) : Bool :=
  if x0 = (3 : Int32) then (if x1 = (1 : Int32) then (true) else (false)) else (false)
set_option maxRecDepth 100000 in
set_option maxHeartbeats 4000000 in
theorem w_Reader_isMeaningAnother_b9 (l : Launch) (D : va_G) (cI cL : ClassId) {p : Program} {e : Env} {s : State} {m : MethodId} {args : Array Value} {below : List Frame} {meth : Method} {c : Code} {A : Nat → Prop} (C : Cx p s m args meth c D vwCl [(cI, .int), (cL, .long)] A b_Reader_isMeaningAnother 2 (some .boolean) ws_Reader_isMeaningAnother y_Reader_isMeaningAnother.cls) : ∀  (x0 : Int32) (x1 : Int32) (res : Bool), f_Reader_isMeaningAnother_b9 x0 x1 = res → ∀ (H : Heap) (locs : List Loc) (ls : Array Slot), Hp D vwCl (fun _ => True) A s.heap H locs [] → lv_has ls 2 [(0, .int x0), (1, .int x1)] → W p l e { frames := 0, cells := 0, slots := 0, locals := 0 } s m args below meth c H locs 0 0 (MQ below (QR (some (.int (bI res))) A) args s 0 0 A) (F0 m 9 ls []) := by
  obtain ⟨hx, hb, hr, hml, hown, hts, hlk, hK, hA⟩ := id C
  intro x0 x1 res hf H locs ls hH hl
  unfold f_Reader_isMeaningAnother_b9 at hf
  refine lv_iload_n hx hb d_Reader_isMeaningAnother_9 rfl (lv_at hl 0 rfl) ?_
  refine lv_iconst (v := 3) hx hb d_Reader_isMeaningAnother_10 (by decide) ?_
  refine lv_icmp_ne (tgt := 23) hx hb d_Reader_isMeaningAnother_11 (by decide) (fun hc11 => ?_) (fun hc11 => ?_)
  · have hf := im hc11 hf
    refine lv_iconst (v := 0) hx hb d_Reader_isMeaningAnother_23 (by decide) ?_
    subst hf
    exact rZR (v := false) C hH d_Reader_isMeaningAnother_24
  · have hf := ip hc11 hf
    refine lv_iload_n hx hb d_Reader_isMeaningAnother_14 rfl (lv_at hl 1 rfl) ?_
    refine lv_iconst (v := 1) hx hb d_Reader_isMeaningAnother_15 (by decide) ?_
    refine lv_icmp_ne (tgt := 23) hx hb d_Reader_isMeaningAnother_16 (by decide) (fun hc16 => ?_) (fun hc16 => ?_)
    · have hf := im hc16 hf
      refine lv_iconst (v := 0) hx hb d_Reader_isMeaningAnother_23 (by decide) ?_
      subst hf
      exact rZR (v := false) C hH d_Reader_isMeaningAnother_24
    · have hf := ip hc16 hf
      refine lv_iconst (v := 1) hx hb d_Reader_isMeaningAnother_19 (by decide) ?_
      refine lv_goto (tgt := 24) hx hb d_Reader_isMeaningAnother_20 (by decide) ?_
      subst hf
      exact rZR (v := true) C hH d_Reader_isMeaningAnother_24
def f_Reader_isMeaningAnother (x0 : Int32) (x1 : Int32) : Bool :=
  if x0 = (1 : Int32) then (if x1 = 0 then (true) else (f_Reader_isMeaningAnother_b9 x0 x1)) else (f_Reader_isMeaningAnother_b9 x0 x1)
set_option maxRecDepth 100000 in
set_option maxHeartbeats 4000000 in
theorem c_Reader_isMeaningAnother (l : Launch) (D : va_G) (cI cL : ClassId) (x0 : Int32) (x1 : Int32) (res : Bool) (hf : f_Reader_isMeaningAnother x0 x1 = res) :
    FnR l D vwCl [(cI, .int), (cL, .long)] y_Reader_isMeaningAnother ws_Reader_isMeaningAnother { frames := 0, cells := 0, slots := 0, locals := 0 } [.int x0, .int x1] [] (some (.int (bI res))) := by
  refine FnR.ofW (cc := b_Reader_isMeaningAnother) (maxL := 2) (ret := (some .boolean)) (by decide) rfl (Nat.le_of_ble_eq_true rfl) ?_
  intro p e s m below meth c A ls C hH hl
  have hl : lv_has ls 2 [(0, .int x0), (1, .int x1)] := hl
  obtain ⟨hx, hb, hr, hml, hown, hts, hlk, hK, hA⟩ := id C
  unfold f_Reader_isMeaningAnother at hf
  refine lv_iload_n hx hb d_Reader_isMeaningAnother_0 rfl (lv_at hl 0 rfl) ?_
  refine lv_iconst (v := 1) hx hb d_Reader_isMeaningAnother_1 (by decide) ?_
  refine lv_icmp_ne (tgt := 9) hx hb d_Reader_isMeaningAnother_2 (by decide) (fun hc2 => ?_) (fun hc2 => ?_)
  · have hf := im hc2 hf
    exact w_Reader_isMeaningAnother_b9 l D cI cL  C x0 x1 res hf _ _ _ hH (lv_sub hl [0, 1] rfl)
  · have hf := ip hc2 hf
    refine lv_iload_n hx hb d_Reader_isMeaningAnother_5 rfl (lv_at hl 1 rfl) ?_
    refine lv_if_eq (tgt := 19) hx hb d_Reader_isMeaningAnother_6 (by decide) (fun hc6 => ?_) (fun hc6 => ?_)
    · have hf := ip hc6 hf
      refine lv_iconst (v := 1) hx hb d_Reader_isMeaningAnother_19 (by decide) ?_
      refine lv_goto (tgt := 24) hx hb d_Reader_isMeaningAnother_20 (by decide) ?_
      subst hf
      exact rZR (v := true) C hH d_Reader_isMeaningAnother_24
    · have hf := im hc6 hf
      exact w_Reader_isMeaningAnother_b9 l D cI cL  C x0 x1 res hf _ _ _ hH (lv_sub hl [0, 1] rfl)
def f_Reader_readLikeAnother_b52 (st : S_Reader) (e1 : S_Events) (x2 : Int32) (x3 : Int64) (x6 : Int32) : Option (S_Reader × S_Events) :=
  if (bI (f_Reader_isFine st)) = 0 then (some ((st, e1))) else (lt1 (f_Reader_keep st e1 x2 x3 (f_Events_a e1 x6) (f_Events_b e1 x6)) (fun r75 => some ((r75.1, r75.2))))
set_option maxRecDepth 100000 in
set_option maxHeartbeats 4000000 in
theorem w_Reader_readLikeAnother_b52 (l : Launch) (D : va_G) (cI cL : ClassId) (h h_log h_log_row h_past h_past_typed q1 q1_kinds q1_differences q1_partsA q1_partsB : Nat) {p : Program} {e : Env} {s : State} {m : MethodId} {args : Array Value} {below : List Frame} {meth : Method} {c : Code} {A : Nat → Prop} (C : Cx p s m args meth c D vwCl [(cI, .int), (cL, .long)] A b_Reader_readLikeAnother 7 none ws_Reader_readLikeAnother y_Reader_readLikeAnother.cls) : ∀ (st : S_Reader) (e1 : S_Events) (x2 : Int32) (x3 : Int64) (x6 : Int32) (res : S_Reader × S_Events), f_Reader_readLikeAnother_b52 st e1 x2 x3 x6 = some res → ∀ (H : Heap) (locs : List Loc) (ls : Array Slot), Hp D vwCl A A s.heap H locs [(h, .inr (4, [.ref h_log, .ref h_past, .int st.2.2.1, .int st.2.2.2.1, .int st.2.2.2.2])), (h_log, .inr (0, [.ref h_log_row, .int st.1.2])), (h_log_row, .inl (cI, 5000, .inl st.1.1)), (h_past, .inr (1, [.ref h_past_typed, .int st.2.1.2.1, .int st.2.1.2.2])), (h_past_typed, .inl (cI, 300, .inl st.2.1.1)), (q1, .inr (2, [.ref q1_kinds, .ref q1_differences, .ref q1_partsA, .ref q1_partsB, .int e1.2.2.2.2])), (q1_kinds, .inl (cI, 300, .inl e1.1)), (q1_differences, .inl (cL, 300, .inr (.inl e1.2.1))), (q1_partsA, .inl (cL, 300, .inr (.inl e1.2.2.1))), (q1_partsB, .inl (cI, 300, .inl e1.2.2.2.1))] → lv_has ls 7 [(0, .ref h), (1, .ref q1), (2, .int x2), (3, .long x3), (6, .int x6)] → W p l e { frames := 3, cells := 0, slots := 0, locals := 70 } s m args below meth c H locs 0 0 (MQ below (Qw D vwCl [(cI, .int), (cL, .long)] (none) A [(h, .inr (4, [.ref h_log, .ref h_past, .int res.1.2.2.1, .int res.1.2.2.2.1, .int res.1.2.2.2.2])), (h_log, .inr (0, [.ref h_log_row, .int res.1.1.2])), (h_log_row, .inl (cI, 5000, .inl res.1.1.1)), (h_past, .inr (1, [.ref h_past_typed, .int res.1.2.1.2.1, .int res.1.2.1.2.2])), (h_past_typed, .inl (cI, 300, .inl res.1.2.1.1)), (q1, .inr (2, [.ref q1_kinds, .ref q1_differences, .ref q1_partsA, .ref q1_partsB, .int res.2.2.2.2.2])), (q1_kinds, .inl (cI, 300, .inl res.2.1)), (q1_differences, .inl (cL, 300, .inr (.inl res.2.2.1))), (q1_partsA, .inl (cL, 300, .inr (.inl res.2.2.2.1))), (q1_partsB, .inl (cI, 300, .inl res.2.2.2.2.1))]) args s 0 0 A) (F0 m 52 ls []) := by
  obtain ⟨hx, hb, hr, hml, hown, hts, hlk, hK, hA⟩ := id C
  intro st e1 x2 x3 x6 res hf H locs ls hH hl
  unfold f_Reader_readLikeAnother_b52 at hf
  refine lv_aload_n hx hb d_Reader_readLikeAnother_52 rfl (lv_at hl 0 rfl) ?_
  refine fnVR (rest := []) (st2 := [.int (bI (f_Reader_isFine st))]) C (c_Reader_isFine l D cI cL h h_log h_log_row h_past h_past_typed st _ rfl) (cV hts kV_Reader_isFine wd_301 ⟨Nat.le_of_ble_eq_true rfl, Nat.le_of_ble_eq_true rfl⟩) hH [0, 1, 2, 3, 4] rfl rfl 0 rfl rfl rfl hl.1 rfl (Nat.le_of_ble_eq_true rfl) d_Reader_readLikeAnother_53 ⟨Nat.le_of_ble_eq_true rfl, Nat.le_of_ble_eq_true rfl⟩ rfl (fun H locs hH => ?_)
  refine lv_if_eq (tgt := 78) hx hb d_Reader_readLikeAnother_56 (by decide) (fun hc56 => ?_) (fun hc56 => ?_)
  · have hf := ip hc56 hf
    have hf := Option.some.inj hf
    subst hf
    exact rV C hH d_Reader_readLikeAnother_78
  · have hf := im hc56 hf
    refine lv_aload_n hx hb d_Reader_readLikeAnother_59 rfl (lv_at hl 0 rfl) ?_
    refine lv_aload_n hx hb d_Reader_readLikeAnother_60 rfl (lv_at hl 1 rfl) ?_
    refine lv_iload_n hx hb d_Reader_readLikeAnother_61 rfl (lv_at hl 2 rfl) ?_
    refine lv_lload_n hx hb d_Reader_readLikeAnother_62 rfl (lv_at hl 3 rfl) ?_
    refine lv_aload_n hx hb d_Reader_readLikeAnother_63 rfl (lv_at hl 1 rfl) ?_
    refine lv_iload hx hb d_Reader_readLikeAnother_64 (lv_at hl 4 rfl) ?_
    refine fnVR (rest := [.long x3, .int x2, .ref q1, .ref h]) (st2 := [.long (f_Events_a e1 x6), .long x3, .int x2, .ref q1, .ref h]) C (c_Events_a l D cI cL q1 q1_kinds q1_differences q1_partsA q1_partsB e1 x6 _ rfl) (cV hts kV_Events_a wd_321 ⟨Nat.le_of_ble_eq_true rfl, Nat.le_of_ble_eq_true rfl⟩) hH [5, 6, 7, 8, 9] rfl rfl 0 rfl rfl rfl hl.1 rfl (Nat.le_of_ble_eq_true rfl) d_Reader_readLikeAnother_66 ⟨Nat.le_of_ble_eq_true rfl, Nat.le_of_ble_eq_true rfl⟩ rfl (fun H locs hH => ?_)
    refine lv_aload_n hx hb d_Reader_readLikeAnother_69 rfl (lv_at hl 1 rfl) ?_
    refine lv_iload hx hb d_Reader_readLikeAnother_70 (lv_at hl 4 rfl) ?_
    refine fnVR (rest := [.long (f_Events_a e1 x6), .long x3, .int x2, .ref q1, .ref h]) (st2 := [.int (f_Events_b e1 x6), .long (f_Events_a e1 x6), .long x3, .int x2, .ref q1, .ref h]) C (c_Events_b l D cI cL q1 q1_kinds q1_differences q1_partsA q1_partsB e1 x6 _ rfl) (cV hts kV_Events_b wd_322 ⟨Nat.le_of_ble_eq_true rfl, Nat.le_of_ble_eq_true rfl⟩) hH [5, 6, 7, 8, 9] rfl rfl 0 rfl rfl rfl hl.1 rfl (Nat.le_of_ble_eq_true rfl) d_Reader_readLikeAnother_72 ⟨Nat.le_of_ble_eq_true rfl, Nat.le_of_ble_eq_true rfl⟩ rfl (fun H locs hH => ?_)
    obtain ⟨r75, hr75, hf⟩ := lb hf
    refine fnV (rest := []) (wr := []) (w2 := [(h, .inr (4, [.ref h_log, .ref h_past, .int r75.1.2.2.1, .int r75.1.2.2.2.1, .int r75.1.2.2.2.2])), (h_log, .inr (0, [.ref h_log_row, .int r75.1.1.2])), (h_log_row, .inl (cI, 5000, .inl r75.1.1.1)), (h_past, .inr (1, [.ref h_past_typed, .int r75.1.2.1.2.1, .int r75.1.2.1.2.2])), (h_past_typed, .inl (cI, 300, .inl r75.1.2.1.1)), (q1, .inr (2, [.ref q1_kinds, .ref q1_differences, .ref q1_partsA, .ref q1_partsB, .int r75.2.2.2.2.2])), (q1_kinds, .inl (cI, 300, .inl r75.2.1)), (q1_differences, .inl (cL, 300, .inr (.inl r75.2.2.1))), (q1_partsA, .inl (cL, 300, .inr (.inl r75.2.2.2.1))), (q1_partsB, .inl (cI, 300, .inl r75.2.2.2.2.1))]) (st2 := []) C (c_Reader_keep l D cI cL h h_log h_log_row h_past h_past_typed q1 q1_kinds q1_differences q1_partsA q1_partsB st e1 x2 x3 (f_Events_a e1 x6) (f_Events_b e1 x6) r75 hr75) (cV hts kV_Reader_keep wd_323 ⟨Nat.le_of_ble_eq_true rfl, Nat.le_of_ble_eq_true rfl⟩) hH [0, 1, 2, 3, 4, 5, 6, 7, 8, 9] [] [0, 1, 2, 3, 4, 5, 6, 7, 8, 9] rfl rfl rfl rfl (by decide) rfl rfl 0 rfl rfl rfl hl.1 rfl (Nat.le_of_ble_eq_true rfl) d_Reader_readLikeAnother_75 ⟨Nat.le_of_ble_eq_true rfl, Nat.le_of_ble_eq_true rfl⟩ rfl (fun H locs hH => ?_)
    have hf := Option.some.inj hf
    subst hf
    exact rV C hH d_Reader_readLikeAnother_78
def f_Reader_readLikeAnother_b27 (st : S_Reader) (e1 : S_Events) (x2 : Int32) (x3 : Int64) (x5 : Int32) (z0 : Int32) : Option (S_Reader × S_Events) :=
  if (bI (f_Reader_isFine st)) = 0 then (f_Reader_readLikeAnother_b52 st e1 x2 x3 z0) else (if (bI (f_Events_has e1 z0)) = 0 then (lt1 (f_Reader_fail st 4 x5) (fun r49 => f_Reader_readLikeAnother_b52 r49 e1 x2 x3 z0)) else (f_Reader_readLikeAnother_b52 st e1 x2 x3 z0))
set_option maxRecDepth 100000 in
set_option maxHeartbeats 4000000 in
theorem w_Reader_readLikeAnother_b27 (l : Launch) (D : va_G) (cI cL : ClassId) (h h_log h_log_row h_past h_past_typed q1 q1_kinds q1_differences q1_partsA q1_partsB : Nat) {p : Program} {e : Env} {s : State} {m : MethodId} {args : Array Value} {below : List Frame} {meth : Method} {c : Code} {A : Nat → Prop} (C : Cx p s m args meth c D vwCl [(cI, .int), (cL, .long)] A b_Reader_readLikeAnother 7 none ws_Reader_readLikeAnother y_Reader_readLikeAnother.cls) : ∀ (st : S_Reader) (e1 : S_Events) (x2 : Int32) (x3 : Int64) (x5 : Int32) (z0 : Int32) (res : S_Reader × S_Events), f_Reader_readLikeAnother_b27 st e1 x2 x3 x5 z0 = some res → ∀ (H : Heap) (locs : List Loc) (ls : Array Slot), Hp D vwCl A A s.heap H locs [(h, .inr (4, [.ref h_log, .ref h_past, .int st.2.2.1, .int st.2.2.2.1, .int st.2.2.2.2])), (h_log, .inr (0, [.ref h_log_row, .int st.1.2])), (h_log_row, .inl (cI, 5000, .inl st.1.1)), (h_past, .inr (1, [.ref h_past_typed, .int st.2.1.2.1, .int st.2.1.2.2])), (h_past_typed, .inl (cI, 300, .inl st.2.1.1)), (q1, .inr (2, [.ref q1_kinds, .ref q1_differences, .ref q1_partsA, .ref q1_partsB, .int e1.2.2.2.2])), (q1_kinds, .inl (cI, 300, .inl e1.1)), (q1_differences, .inl (cL, 300, .inr (.inl e1.2.1))), (q1_partsA, .inl (cL, 300, .inr (.inl e1.2.2.1))), (q1_partsB, .inl (cI, 300, .inl e1.2.2.2.1))] → lv_has ls 7 [(0, .ref h), (1, .ref q1), (2, .int x2), (3, .long x3), (5, .int x5)] → W p l e { frames := 3, cells := 0, slots := 0, locals := 70 } s m args below meth c H locs 0 0 (MQ below (Qw D vwCl [(cI, .int), (cL, .long)] (none) A [(h, .inr (4, [.ref h_log, .ref h_past, .int res.1.2.2.1, .int res.1.2.2.2.1, .int res.1.2.2.2.2])), (h_log, .inr (0, [.ref h_log_row, .int res.1.1.2])), (h_log_row, .inl (cI, 5000, .inl res.1.1.1)), (h_past, .inr (1, [.ref h_past_typed, .int res.1.2.1.2.1, .int res.1.2.1.2.2])), (h_past_typed, .inl (cI, 300, .inl res.1.2.1.1)), (q1, .inr (2, [.ref q1_kinds, .ref q1_differences, .ref q1_partsA, .ref q1_partsB, .int res.2.2.2.2.2])), (q1_kinds, .inl (cI, 300, .inl res.2.1)), (q1_differences, .inl (cL, 300, .inr (.inl res.2.2.1))), (q1_partsA, .inl (cL, 300, .inr (.inl res.2.2.2.1))), (q1_partsB, .inl (cI, 300, .inl res.2.2.2.2.1))]) args s 0 0 A) (F0 m 27 ls [.int z0]) := by
  obtain ⟨hx, hb, hr, hml, hown, hts, hlk, hK, hA⟩ := id C
  intro st e1 x2 x3 x5 z0 res hf H locs ls hH hl
  unfold f_Reader_readLikeAnother_b27 at hf
  refine lv_istore (lv' := [(6, .int z0), (0, .ref h), (1, .ref q1), (2, .int x2), (3, .long x3), (5, .int x5)]) hx hb d_Reader_readLikeAnother_27 hl (by decide) rfl (fun ls hl => ?_)
  refine lv_aload_n hx hb d_Reader_readLikeAnother_29 rfl (lv_at hl 1 rfl) ?_
  refine fnVR (rest := []) (st2 := [.int (bI (f_Reader_isFine st))]) C (c_Reader_isFine l D cI cL h h_log h_log_row h_past h_past_typed st _ rfl) (cV hts kV_Reader_isFine wd_301 ⟨Nat.le_of_ble_eq_true rfl, Nat.le_of_ble_eq_true rfl⟩) hH [0, 1, 2, 3, 4] rfl rfl 0 rfl rfl rfl hl.1 rfl (Nat.le_of_ble_eq_true rfl) d_Reader_readLikeAnother_30 ⟨Nat.le_of_ble_eq_true rfl, Nat.le_of_ble_eq_true rfl⟩ rfl (fun H locs hH => ?_)
  refine lv_if_eq (tgt := 52) hx hb d_Reader_readLikeAnother_33 (by decide) (fun hc33 => ?_) (fun hc33 => ?_)
  · have hf := ip hc33 hf
    exact w_Reader_readLikeAnother_b52 l D cI cL h h_log h_log_row h_past h_past_typed q1 q1_kinds q1_differences q1_partsA q1_partsB C st e1 x2 x3 z0 res hf _ _ _ hH (lv_sub hl [1, 2, 3, 4, 0] rfl)
  · have hf := im hc33 hf
    refine lv_aload_n hx hb d_Reader_readLikeAnother_36 rfl (lv_at hl 2 rfl) ?_
    refine lv_iload hx hb d_Reader_readLikeAnother_37 (lv_at hl 0 rfl) ?_
    refine fnVR (rest := []) (st2 := [.int (bI (f_Events_has e1 z0))]) C (c_Events_has l D cI cL q1 q1_kinds q1_differences q1_partsA q1_partsB e1 z0 _ rfl) (cV hts kV_Events_has wd_341 ⟨Nat.le_of_ble_eq_true rfl, Nat.le_of_ble_eq_true rfl⟩) hH [5, 6, 7, 8, 9] rfl rfl 0 rfl rfl rfl hl.1 rfl (Nat.le_of_ble_eq_true rfl) d_Reader_readLikeAnother_39 ⟨Nat.le_of_ble_eq_true rfl, Nat.le_of_ble_eq_true rfl⟩ rfl (fun H locs hH => ?_)
    refine lv_if_ne (tgt := 52) hx hb d_Reader_readLikeAnother_42 (by decide) (fun hc42 => ?_) (fun hc42 => ?_)
    · have hf := im hc42 hf
      exact w_Reader_readLikeAnother_b52 l D cI cL h h_log h_log_row h_past h_past_typed q1 q1_kinds q1_differences q1_partsA q1_partsB C st e1 x2 x3 z0 res hf _ _ _ hH (lv_sub hl [1, 2, 3, 4, 0] rfl)
    · have hf := ip hc42 hf
      refine lv_aload_n hx hb d_Reader_readLikeAnother_45 rfl (lv_at hl 1 rfl) ?_
      refine lv_iconst (v := 4) hx hb d_Reader_readLikeAnother_46 (by decide) ?_
      refine lv_iload hx hb d_Reader_readLikeAnother_47 (lv_at hl 5 rfl) ?_
      obtain ⟨r49, hr49, hf⟩ := lb hf
      refine fnV (rest := []) (wr := [(q1, .inr (2, [.ref q1_kinds, .ref q1_differences, .ref q1_partsA, .ref q1_partsB, .int e1.2.2.2.2])), (q1_kinds, .inl (cI, 300, .inl e1.1)), (q1_differences, .inl (cL, 300, .inr (.inl e1.2.1))), (q1_partsA, .inl (cL, 300, .inr (.inl e1.2.2.1))), (q1_partsB, .inl (cI, 300, .inl e1.2.2.2.1))]) (w2 := [(h, .inr (4, [.ref h_log, .ref h_past, .int r49.2.2.1, .int r49.2.2.2.1, .int r49.2.2.2.2])), (h_log, .inr (0, [.ref h_log_row, .int r49.1.2])), (h_log_row, .inl (cI, 5000, .inl r49.1.1)), (h_past, .inr (1, [.ref h_past_typed, .int r49.2.1.2.1, .int r49.2.1.2.2])), (h_past_typed, .inl (cI, 300, .inl r49.2.1.1)), (q1, .inr (2, [.ref q1_kinds, .ref q1_differences, .ref q1_partsA, .ref q1_partsB, .int e1.2.2.2.2])), (q1_kinds, .inl (cI, 300, .inl e1.1)), (q1_differences, .inl (cL, 300, .inr (.inl e1.2.1))), (q1_partsA, .inl (cL, 300, .inr (.inl e1.2.2.1))), (q1_partsB, .inl (cI, 300, .inl e1.2.2.2.1))]) (st2 := []) C (c_Reader_fail l D cI cL h h_log h_log_row h_past h_past_typed st 4 x5 r49 hr49) (cV hts kV_Reader_fail wd_293 ⟨Nat.le_of_ble_eq_true rfl, Nat.le_of_ble_eq_true rfl⟩) hH [0, 1, 2, 3, 4] [5, 6, 7, 8, 9] [5, 6, 7, 8, 9, 0, 1, 2, 3, 4] rfl rfl rfl rfl (by decide) rfl rfl 0 rfl rfl rfl hl.1 rfl (Nat.le_of_ble_eq_true rfl) d_Reader_readLikeAnother_49 ⟨Nat.le_of_ble_eq_true rfl, Nat.le_of_ble_eq_true rfl⟩ rfl (fun H locs hH => ?_)
      exact w_Reader_readLikeAnother_b52 l D cI cL h h_log h_log_row h_past h_past_typed q1 q1_kinds q1_differences q1_partsA q1_partsB C r49 e1 x2 x3 z0 res hf _ _ _ hH (lv_sub hl [1, 2, 3, 4, 0] rfl)
def f_Reader_readLikeAnother (st : S_Reader) (e1 : S_Events) (x2 : Int32) (x3 : Int64) (x5 : Int32) : Option (S_Reader × S_Events) :=
  if x2 = (3 : Int32) then (f_Reader_readLikeAnother_b27 st e1 x2 x3 x5 (f_Past_latestClock st.2.1)) else ((f_Reader_readVarint st 1).bind (fun r21 => f_Reader_readLikeAnother_b27 r21.2 e1 x2 x3 x5 (f_Past_typedBefore r21.2.2.1 r21.1)))
set_option maxRecDepth 100000 in
set_option maxHeartbeats 4000000 in
theorem c_Reader_readLikeAnother (l : Launch) (D : va_G) (cI cL : ClassId) (h h_log h_log_row h_past h_past_typed q1 q1_kinds q1_differences q1_partsA q1_partsB : Nat) (st : S_Reader) (e1 : S_Events) (x2 : Int32) (x3 : Int64) (x5 : Int32) (res : S_Reader × S_Events) (hf : f_Reader_readLikeAnother st e1 x2 x3 x5 = some res) :
    Fn l D vwCl [(cI, .int), (cL, .long)] y_Reader_readLikeAnother ws_Reader_readLikeAnother { frames := 3, cells := 0, slots := 0, locals := 70 } [.ref h, .ref q1, .int x2, .long x3, .int x5] [(h, .inr (4, [.ref h_log, .ref h_past, .int st.2.2.1, .int st.2.2.2.1, .int st.2.2.2.2])), (h_log, .inr (0, [.ref h_log_row, .int st.1.2])), (h_log_row, .inl (cI, 5000, .inl st.1.1)), (h_past, .inr (1, [.ref h_past_typed, .int st.2.1.2.1, .int st.2.1.2.2])), (h_past_typed, .inl (cI, 300, .inl st.2.1.1)), (q1, .inr (2, [.ref q1_kinds, .ref q1_differences, .ref q1_partsA, .ref q1_partsB, .int e1.2.2.2.2])), (q1_kinds, .inl (cI, 300, .inl e1.1)), (q1_differences, .inl (cL, 300, .inr (.inl e1.2.1))), (q1_partsA, .inl (cL, 300, .inr (.inl e1.2.2.1))), (q1_partsB, .inl (cI, 300, .inl e1.2.2.2.1))] (none) [(h, .inr (4, [.ref h_log, .ref h_past, .int res.1.2.2.1, .int res.1.2.2.2.1, .int res.1.2.2.2.2])), (h_log, .inr (0, [.ref h_log_row, .int res.1.1.2])), (h_log_row, .inl (cI, 5000, .inl res.1.1.1)), (h_past, .inr (1, [.ref h_past_typed, .int res.1.2.1.2.1, .int res.1.2.1.2.2])), (h_past_typed, .inl (cI, 300, .inl res.1.2.1.1)), (q1, .inr (2, [.ref q1_kinds, .ref q1_differences, .ref q1_partsA, .ref q1_partsB, .int res.2.2.2.2.2])), (q1_kinds, .inl (cI, 300, .inl res.2.1)), (q1_differences, .inl (cL, 300, .inr (.inl res.2.2.1))), (q1_partsA, .inl (cL, 300, .inr (.inl res.2.2.2.1))), (q1_partsB, .inl (cI, 300, .inl res.2.2.2.2.1))] := by
  refine Fn.ofW (cc := b_Reader_readLikeAnother) (maxL := 7) (ret := none) (by decide) rfl (Nat.le_of_ble_eq_true rfl) ?_
  intro p e s m below meth c A ls C hH hinit hl
  have hl : lv_has ls 7 [(0, .ref h), (1, .ref q1), (2, .int x2), (3, .long x3), (5, .int x5)] := hl
  obtain ⟨hx, hb, hr, hml, hown, hts, hlk, hK, hA⟩ := id C
  unfold f_Reader_readLikeAnother at hf
  refine lv_iload_n hx hb d_Reader_readLikeAnother_0 rfl (lv_at hl 2 rfl) ?_
  refine lv_iconst (v := 3) hx hb d_Reader_readLikeAnother_1 (by decide) ?_
  refine lv_icmp_ne (tgt := 15) hx hb d_Reader_readLikeAnother_2 (by decide) (fun hc2 => ?_) (fun hc2 => ?_)
  · have hf := im hc2 hf
    refine lv_aload_n hx hb d_Reader_readLikeAnother_15 rfl (lv_at hl 0 rfl) ?_
    refine gt (ci := 4) (v := .ref h_past) C hH (iwT iw_Reader) 0 rfl rfl 1 (by decide) (.tail _ wd_116) rfl d_Reader_readLikeAnother_16 ?_
    refine lv_aload_n hx hb d_Reader_readLikeAnother_19 rfl (lv_at hl 0 rfl) ?_
    refine lv_iconst (v := 1) hx hb d_Reader_readLikeAnother_20 (by decide) ?_
    obtain ⟨r21, hr21, hf⟩ := ob hf
    refine fnV (rest := [.ref h_past]) (wr := [(q1, .inr (2, [.ref q1_kinds, .ref q1_differences, .ref q1_partsA, .ref q1_partsB, .int e1.2.2.2.2])), (q1_kinds, .inl (cI, 300, .inl e1.1)), (q1_differences, .inl (cL, 300, .inr (.inl e1.2.1))), (q1_partsA, .inl (cL, 300, .inr (.inl e1.2.2.1))), (q1_partsB, .inl (cI, 300, .inl e1.2.2.2.1))]) (w2 := [(h, .inr (4, [.ref h_log, .ref h_past, .int r21.2.2.2.1, .int r21.2.2.2.2.1, .int r21.2.2.2.2.2])), (h_log, .inr (0, [.ref h_log_row, .int r21.2.1.2])), (h_log_row, .inl (cI, 5000, .inl r21.2.1.1)), (h_past, .inr (1, [.ref h_past_typed, .int r21.2.2.1.2.1, .int r21.2.2.1.2.2])), (h_past_typed, .inl (cI, 300, .inl r21.2.2.1.1)), (q1, .inr (2, [.ref q1_kinds, .ref q1_differences, .ref q1_partsA, .ref q1_partsB, .int e1.2.2.2.2])), (q1_kinds, .inl (cI, 300, .inl e1.1)), (q1_differences, .inl (cL, 300, .inr (.inl e1.2.1))), (q1_partsA, .inl (cL, 300, .inr (.inl e1.2.2.1))), (q1_partsB, .inl (cI, 300, .inl e1.2.2.2.1))]) (st2 := [.long r21.1, .ref h_past]) C (c_Reader_readVarint l D cI cL h h_log h_log_row h_past h_past_typed st 1 r21 hr21) (cV hts kV_Reader_readVarint wd_281 ⟨Nat.le_of_ble_eq_true rfl, Nat.le_of_ble_eq_true rfl⟩) hH [0, 1, 2, 3, 4] [5, 6, 7, 8, 9] [5, 6, 7, 8, 9, 0, 1, 2, 3, 4] rfl rfl rfl rfl (by decide) rfl rfl 0 rfl rfl rfl hl.1 rfl (Nat.le_of_ble_eq_true rfl) d_Reader_readLikeAnother_21 ⟨Nat.le_of_ble_eq_true rfl, Nat.le_of_ble_eq_true rfl⟩ rfl (fun H locs hH => ?_)
    refine fnVR (rest := []) (st2 := [.int (f_Past_typedBefore r21.2.2.1 r21.1)]) C (c_Past_typedBefore l D cI cL h_past h_past_typed r21.2.2.1 r21.1 _ rfl) (cV hts kV_Past_typedBefore wd_340 ⟨Nat.le_of_ble_eq_true rfl, Nat.le_of_ble_eq_true rfl⟩) hH [3, 4] rfl rfl 0 rfl rfl rfl hl.1 rfl (Nat.le_of_ble_eq_true rfl) d_Reader_readLikeAnother_24 ⟨Nat.le_of_ble_eq_true rfl, Nat.le_of_ble_eq_true rfl⟩ rfl (fun H locs hH => ?_)
    exact w_Reader_readLikeAnother_b27 l D cI cL h h_log h_log_row h_past h_past_typed q1 q1_kinds q1_differences q1_partsA q1_partsB C r21.2 e1 x2 x3 x5 (f_Past_typedBefore r21.2.2.1 r21.1) res hf _ _ _ hH (lv_sub hl [0, 1, 2, 3, 4] rfl)
  · have hf := ip hc2 hf
    refine lv_aload_n hx hb d_Reader_readLikeAnother_5 rfl (lv_at hl 0 rfl) ?_
    refine gt (ci := 4) (v := .ref h_past) C hH (iwT iw_Reader) 0 rfl rfl 1 (by decide) (.tail _ wd_116) rfl d_Reader_readLikeAnother_6 ?_
    refine fnVR (rest := []) (st2 := [.int (f_Past_latestClock st.2.1)]) C (c_Past_latestClock l D cI cL h_past h_past_typed st.2.1 _ rfl) (cV hts kV_Past_latestClock wd_339 ⟨Nat.le_of_ble_eq_true rfl, Nat.le_of_ble_eq_true rfl⟩) hH [3, 4] rfl rfl 0 rfl rfl rfl hl.1 rfl (Nat.le_of_ble_eq_true rfl) d_Reader_readLikeAnother_9 ⟨Nat.le_of_ble_eq_true rfl, Nat.le_of_ble_eq_true rfl⟩ rfl (fun H locs hH => ?_)
    refine lv_goto (tgt := 27) hx hb d_Reader_readLikeAnother_12 (by decide) ?_
    exact w_Reader_readLikeAnother_b27 l D cI cL h h_log h_log_row h_past h_past_typed q1 q1_kinds q1_differences q1_partsA q1_partsB C st e1 x2 x3 x5 (f_Past_latestClock st.2.1) res hf _ _ _ hH (lv_sub hl [0, 1, 2, 3, 4] rfl)
def f_Reader_readBytes_b5 : Nat → S_Reader → Int32 → Int64 → Int32 → Option (Int64 × S_Reader)
  | 0, _, _, _, _ => none
  | n + 1, st, x1, x2, x4 =>
  if x1 ≤ x4 then (some ((x2, st))) else (if (bI (f_Reader_isFine st)) = 0 then (some ((x2, st))) else (lt1 (f_Reader_readByte st) (fun r23 => f_Reader_readBytes_b5 n r23.2 x1 ((x2 <<< ((8 : Int32).toInt64 &&& 63)) ||| r23.1.toInt64) (x4 + 1))))
set_option maxRecDepth 100000 in
set_option maxHeartbeats 4000000 in
theorem w_Reader_readBytes_b5 (l : Launch) (D : va_G) (cI cL : ClassId) (h h_log h_log_row h_past h_past_typed : Nat) {p : Program} {e : Env} {s : State} {m : MethodId} {args : Array Value} {below : List Frame} {meth : Method} {c : Code} {A : Nat → Prop} (C : Cx p s m args meth c D vwCl [(cI, .int), (cL, .long)] A b_Reader_readBytes 5 (some .long) ws_Reader_readBytes y_Reader_readBytes.cls) : ∀ (n : Nat) (st : S_Reader) (x1 : Int32) (x2 : Int64) (x4 : Int32) (res : Int64 × S_Reader), f_Reader_readBytes_b5 n st x1 x2 x4 = some res → ∀ (H : Heap) (locs : List Loc) (ls : Array Slot), Hp D vwCl A A s.heap H locs [(h, .inr (4, [.ref h_log, .ref h_past, .int st.2.2.1, .int st.2.2.2.1, .int st.2.2.2.2])), (h_log, .inr (0, [.ref h_log_row, .int st.1.2])), (h_log_row, .inl (cI, 5000, .inl st.1.1)), (h_past, .inr (1, [.ref h_past_typed, .int st.2.1.2.1, .int st.2.1.2.2])), (h_past_typed, .inl (cI, 300, .inl st.2.1.1))] → lv_has ls 5 [(0, .ref h), (1, .int x1), (2, .long x2), (4, .int x4)] → W p l e { frames := 2, cells := 0, slots := 0, locals := 43 } s m args below meth c H locs 0 0 (MQ below (Qw D vwCl [(cI, .int), (cL, .long)] (some (.long res.1)) A [(h, .inr (4, [.ref h_log, .ref h_past, .int res.2.2.2.1, .int res.2.2.2.2.1, .int res.2.2.2.2.2])), (h_log, .inr (0, [.ref h_log_row, .int res.2.1.2])), (h_log_row, .inl (cI, 5000, .inl res.2.1.1)), (h_past, .inr (1, [.ref h_past_typed, .int res.2.2.1.2.1, .int res.2.2.1.2.2])), (h_past_typed, .inl (cI, 300, .inl res.2.2.1.1))]) args s 0 0 A) (F0 m 5 ls []) := by
  obtain ⟨hx, hb, hr, hml, hown, hts, hlk, hK, hA⟩ := id C
  intro n
  induction n with
  | zero => intro st x1 x2 x4 res hf; cases hf
  | succ n ih =>
    intro st x1 x2 x4 res hf H locs ls hH hl
    rw [f_Reader_readBytes_b5] at hf
    refine lv_iload hx hb d_Reader_readBytes_5 (lv_at hl 3 rfl) ?_
    refine lv_iload_n hx hb d_Reader_readBytes_7 rfl (lv_at hl 1 rfl) ?_
    refine lv_icmp_ge (tgt := 35) hx hb d_Reader_readBytes_8 (by decide) (fun hc8 => ?_) (fun hc8 => ?_)
    · have hf := ip hc8 hf
      refine lv_lload_n hx hb d_Reader_readBytes_35 rfl (lv_at hl 2 rfl) ?_
      have hf := Option.some.inj hf
      subst hf
      exact rJ (v := x2) C hH d_Reader_readBytes_36
    · have hf := im hc8 hf
      refine lv_aload_n hx hb d_Reader_readBytes_11 rfl (lv_at hl 0 rfl) ?_
      refine fnVR (rest := []) (st2 := [.int (bI (f_Reader_isFine st))]) C (c_Reader_isFine l D cI cL h h_log h_log_row h_past h_past_typed st _ rfl) (cV hts kV_Reader_isFine wd_301 ⟨Nat.le_of_ble_eq_true rfl, Nat.le_of_ble_eq_true rfl⟩) hH [0, 1, 2, 3, 4] rfl rfl 0 rfl rfl rfl hl.1 rfl (Nat.le_of_ble_eq_true rfl) d_Reader_readBytes_12 ⟨Nat.le_of_ble_eq_true rfl, Nat.le_of_ble_eq_true rfl⟩ rfl (fun H locs hH => ?_)
      refine lv_if_eq (tgt := 35) hx hb d_Reader_readBytes_15 (by decide) (fun hc15 => ?_) (fun hc15 => ?_)
      · have hf := ip hc15 hf
        refine lv_lload_n hx hb d_Reader_readBytes_35 rfl (lv_at hl 2 rfl) ?_
        have hf := Option.some.inj hf
        subst hf
        exact rJ (v := x2) C hH d_Reader_readBytes_36
      · have hf := im hc15 hf
        refine lv_lload_n hx hb d_Reader_readBytes_18 rfl (lv_at hl 2 rfl) ?_
        refine lv_bipush (v := 8) hx hb d_Reader_readBytes_19 (by decide) ?_
        refine lv_lshl (v := x2 <<< ((8 : Int32).toInt64 &&& 63)) hx hb d_Reader_readBytes_21 rfl ?_
        refine lv_aload_n hx hb d_Reader_readBytes_22 rfl (lv_at hl 0 rfl) ?_
        obtain ⟨r23, hr23, hf⟩ := lb hf
        refine fnV (rest := [.long (x2 <<< ((8 : Int32).toInt64 &&& 63))]) (wr := []) (w2 := [(h, .inr (4, [.ref h_log, .ref h_past, .int r23.2.2.2.1, .int r23.2.2.2.2.1, .int r23.2.2.2.2.2])), (h_log, .inr (0, [.ref h_log_row, .int r23.2.1.2])), (h_log_row, .inl (cI, 5000, .inl r23.2.1.1)), (h_past, .inr (1, [.ref h_past_typed, .int r23.2.2.1.2.1, .int r23.2.2.1.2.2])), (h_past_typed, .inl (cI, 300, .inl r23.2.2.1.1))]) (st2 := [.int r23.1, .long (x2 <<< ((8 : Int32).toInt64 &&& 63))]) C (c_Reader_readByte l D cI cL h h_log h_log_row h_past h_past_typed st r23 hr23) (cV hts kV_Reader_readByte wd_285 ⟨Nat.le_of_ble_eq_true rfl, Nat.le_of_ble_eq_true rfl⟩) hH [0, 1, 2, 3, 4] [] [0, 1, 2, 3, 4] rfl rfl rfl rfl (by decide) rfl rfl 0 rfl rfl rfl hl.1 rfl (Nat.le_of_ble_eq_true rfl) d_Reader_readBytes_23 ⟨Nat.le_of_ble_eq_true rfl, Nat.le_of_ble_eq_true rfl⟩ rfl (fun H locs hH => ?_)
        refine lv_i2l (v := r23.1.toInt64) hx hb d_Reader_readBytes_26 rfl ?_
        refine lv_lor hx hb d_Reader_readBytes_27 ?_
        refine lv_lstore_n (lv' := [(2, .long ((x2 <<< ((8 : Int32).toInt64 &&& 63)) ||| r23.1.toInt64)), (0, .ref h), (1, .int x1), (4, .int x4)]) hx hb d_Reader_readBytes_28 rfl hl (by decide) rfl (fun ls hl => ?_)
        refine lv_iinc (v := x4 + 1) (lv' := [(4, .int (x4 + 1)), (2, .long ((x2 <<< ((8 : Int32).toInt64 &&& 63)) ||| r23.1.toInt64)), (0, .ref h), (1, .int x1)]) hx hb d_Reader_readBytes_29 hl (k := 3) rfl rfl (by decide) rfl (fun ls hl => ?_)
        refine lv_goto (tgt := 5) hx hb d_Reader_readBytes_32 (by decide) ?_
        exact ih r23.2 x1 ((x2 <<< ((8 : Int32).toInt64 &&& 63)) ||| r23.1.toInt64) (x4 + 1) res hf _ _ _ hH (lv_sub hl [2, 3, 1, 0] rfl)
def f_Reader_readBytes (st : S_Reader) (x1 : Int32) : Option (Int64 × S_Reader) :=
  f_Reader_readBytes_b5 400 st x1 0 0
set_option maxRecDepth 100000 in
set_option maxHeartbeats 4000000 in
theorem c_Reader_readBytes (l : Launch) (D : va_G) (cI cL : ClassId) (h h_log h_log_row h_past h_past_typed : Nat) (st : S_Reader) (x1 : Int32) (res : Int64 × S_Reader) (hf : f_Reader_readBytes st x1 = some res) :
    Fn l D vwCl [(cI, .int), (cL, .long)] y_Reader_readBytes ws_Reader_readBytes { frames := 2, cells := 0, slots := 0, locals := 43 } [.ref h, .int x1] [(h, .inr (4, [.ref h_log, .ref h_past, .int st.2.2.1, .int st.2.2.2.1, .int st.2.2.2.2])), (h_log, .inr (0, [.ref h_log_row, .int st.1.2])), (h_log_row, .inl (cI, 5000, .inl st.1.1)), (h_past, .inr (1, [.ref h_past_typed, .int st.2.1.2.1, .int st.2.1.2.2])), (h_past_typed, .inl (cI, 300, .inl st.2.1.1))] (some (.long res.1)) [(h, .inr (4, [.ref h_log, .ref h_past, .int res.2.2.2.1, .int res.2.2.2.2.1, .int res.2.2.2.2.2])), (h_log, .inr (0, [.ref h_log_row, .int res.2.1.2])), (h_log_row, .inl (cI, 5000, .inl res.2.1.1)), (h_past, .inr (1, [.ref h_past_typed, .int res.2.2.1.2.1, .int res.2.2.1.2.2])), (h_past_typed, .inl (cI, 300, .inl res.2.2.1.1))] := by
  refine Fn.ofW (cc := b_Reader_readBytes) (maxL := 5) (ret := (some .long)) (by decide) rfl (Nat.le_of_ble_eq_true rfl) ?_
  intro p e s m below meth c A ls C hH hinit hl
  have hl : lv_has ls 5 [(0, .ref h), (1, .int x1)] := hl
  obtain ⟨hx, hb, hr, hml, hown, hts, hlk, hK, hA⟩ := id C
  unfold f_Reader_readBytes at hf
  refine lv_lconst (v := 0) hx hb d_Reader_readBytes_0 (by decide) ?_
  refine lv_lstore_n (lv' := [(2, .long 0), (0, .ref h), (1, .int x1)]) hx hb d_Reader_readBytes_1 rfl hl (by decide) rfl (fun ls hl => ?_)
  refine lv_iconst (v := 0) hx hb d_Reader_readBytes_2 (by decide) ?_
  refine lv_istore (lv' := [(4, .int 0), (2, .long 0), (0, .ref h), (1, .int x1)]) hx hb d_Reader_readBytes_3 hl (by decide) rfl (fun ls hl => ?_)
  exact w_Reader_readBytes_b5 l D cI cL h h_log h_log_row h_past h_past_typed C 400 st x1 0 0 res hf _ _ _ hH (lv_sub hl [2, 3, 1, 0] rfl)
def f_Reader_readSignal (st : S_Reader)  : Int32 × S_Reader :=
  lt1 (f_Reader_readByte st) (fun r6 => if (bI (f_Reader_isFine r6.2)) = 0 then ((r6.1, r6.2)) else (if (bI (f_EventLog_isSignal r6.1)) = 0 then (lt1 (f_Reader_fail r6.2 5 st.2.2.1) (fun r27 => (r6.1, r27))) else ((r6.1, r6.2))))
set_option maxRecDepth 100000 in
set_option maxHeartbeats 4000000 in
theorem c_Reader_readSignal (l : Launch) (D : va_G) (cI cL : ClassId) (h h_log h_log_row h_past h_past_typed : Nat) (st : S_Reader)  (res : Int32 × S_Reader) (hf : f_Reader_readSignal st = res) :
    Fn l D vwCl [(cI, .int), (cL, .long)] y_Reader_readSignal ws_Reader_readSignal { frames := 2, cells := 0, slots := 0, locals := 43 } [.ref h] [(h, .inr (4, [.ref h_log, .ref h_past, .int st.2.2.1, .int st.2.2.2.1, .int st.2.2.2.2])), (h_log, .inr (0, [.ref h_log_row, .int st.1.2])), (h_log_row, .inl (cI, 5000, .inl st.1.1)), (h_past, .inr (1, [.ref h_past_typed, .int st.2.1.2.1, .int st.2.1.2.2])), (h_past_typed, .inl (cI, 300, .inl st.2.1.1))] (some (.int res.1)) [(h, .inr (4, [.ref h_log, .ref h_past, .int res.2.2.2.1, .int res.2.2.2.2.1, .int res.2.2.2.2.2])), (h_log, .inr (0, [.ref h_log_row, .int res.2.1.2])), (h_log_row, .inl (cI, 5000, .inl res.2.1.1)), (h_past, .inr (1, [.ref h_past_typed, .int res.2.2.1.2.1, .int res.2.2.1.2.2])), (h_past_typed, .inl (cI, 300, .inl res.2.2.1.1))] := by
  refine Fn.ofW (cc := b_Reader_readSignal) (maxL := 3) (ret := (some .int)) (by decide) rfl (Nat.le_of_ble_eq_true rfl) ?_
  intro p e s m below meth c A ls C hH hinit hl
  have hl : lv_has ls 3 [(0, .ref h)] := hl
  obtain ⟨hx, hb, hr, hml, hown, hts, hlk, hK, hA⟩ := id C
  unfold f_Reader_readSignal at hf
  refine lv_aload_n hx hb d_Reader_readSignal_0 rfl (lv_at hl 0 rfl) ?_
  refine gt (ci := 4) (v := .int st.2.2.1) C hH (iwT iw_Reader) 0 rfl rfl 2 (by decide) (.tail _ wd_117) rfl d_Reader_readSignal_1 ?_
  refine lv_istore_n (lv' := [(1, .int st.2.2.1), (0, .ref h)]) hx hb d_Reader_readSignal_4 rfl hl (by decide) rfl (fun ls hl => ?_)
  refine lv_aload_n hx hb d_Reader_readSignal_5 rfl (lv_at hl 1 rfl) ?_
  obtain ⟨r6, hr6, hf⟩ := lb hf
  refine fnV (rest := []) (wr := []) (w2 := [(h, .inr (4, [.ref h_log, .ref h_past, .int r6.2.2.2.1, .int r6.2.2.2.2.1, .int r6.2.2.2.2.2])), (h_log, .inr (0, [.ref h_log_row, .int r6.2.1.2])), (h_log_row, .inl (cI, 5000, .inl r6.2.1.1)), (h_past, .inr (1, [.ref h_past_typed, .int r6.2.2.1.2.1, .int r6.2.2.1.2.2])), (h_past_typed, .inl (cI, 300, .inl r6.2.2.1.1))]) (st2 := [.int r6.1]) C (c_Reader_readByte l D cI cL h h_log h_log_row h_past h_past_typed st r6 hr6) (cV hts kV_Reader_readByte wd_285 ⟨Nat.le_of_ble_eq_true rfl, Nat.le_of_ble_eq_true rfl⟩) hH [0, 1, 2, 3, 4] [] [0, 1, 2, 3, 4] rfl rfl rfl rfl (by decide) rfl rfl 0 rfl rfl rfl hl.1 rfl (Nat.le_of_ble_eq_true rfl) d_Reader_readSignal_6 ⟨Nat.le_of_ble_eq_true rfl, Nat.le_of_ble_eq_true rfl⟩ rfl (fun H locs hH => ?_)
  refine lv_istore_n (lv' := [(2, .int r6.1), (1, .int st.2.2.1), (0, .ref h)]) hx hb d_Reader_readSignal_9 rfl hl (by decide) rfl (fun ls hl => ?_)
  refine lv_aload_n hx hb d_Reader_readSignal_10 rfl (lv_at hl 2 rfl) ?_
  refine fnVR (rest := []) (st2 := [.int (bI (f_Reader_isFine r6.2))]) C (c_Reader_isFine l D cI cL h h_log h_log_row h_past h_past_typed r6.2 _ rfl) (cV hts kV_Reader_isFine wd_301 ⟨Nat.le_of_ble_eq_true rfl, Nat.le_of_ble_eq_true rfl⟩) hH [0, 1, 2, 3, 4] rfl rfl 0 rfl rfl rfl hl.1 rfl (Nat.le_of_ble_eq_true rfl) d_Reader_readSignal_11 ⟨Nat.le_of_ble_eq_true rfl, Nat.le_of_ble_eq_true rfl⟩ rfl (fun H locs hH => ?_)
  refine lv_if_eq (tgt := 30) hx hb d_Reader_readSignal_14 (by decide) (fun hc14 => ?_) (fun hc14 => ?_)
  · have hf := ip hc14 hf
    refine lv_iload_n hx hb d_Reader_readSignal_30 rfl (lv_at hl 0 rfl) ?_
    subst hf
    exact rI (v := r6.1) C hH d_Reader_readSignal_31
  · have hf := im hc14 hf
    refine lv_iload_n hx hb d_Reader_readSignal_17 rfl (lv_at hl 0 rfl) ?_
    refine fnSNR (rest := []) (st2 := [.int (bI (f_EventLog_isSignal r6.1))]) C (c_EventLog_isSignal l D cI cL  r6.1 _ rfl) (cSN hts kS_EventLog_isSignal (hK.2 _ nest_4) ⟨Nat.le_of_ble_eq_true rfl, Nat.le_of_ble_eq_true rfl⟩) hH [] rfl rfl rfl hl.1 rfl (Nat.le_of_ble_eq_true rfl) d_Reader_readSignal_18 ⟨Nat.le_of_ble_eq_true rfl, Nat.le_of_ble_eq_true rfl⟩ rfl (fun H locs hH => ?_)
    refine lv_if_ne (tgt := 30) hx hb d_Reader_readSignal_21 (by decide) (fun hc21 => ?_) (fun hc21 => ?_)
    · have hf := im hc21 hf
      refine lv_iload_n hx hb d_Reader_readSignal_30 rfl (lv_at hl 0 rfl) ?_
      subst hf
      exact rI (v := r6.1) C hH d_Reader_readSignal_31
    · have hf := ip hc21 hf
      refine lv_aload_n hx hb d_Reader_readSignal_24 rfl (lv_at hl 2 rfl) ?_
      refine lv_iconst (v := 5) hx hb d_Reader_readSignal_25 (by decide) ?_
      refine lv_iload_n hx hb d_Reader_readSignal_26 rfl (lv_at hl 1 rfl) ?_
      obtain ⟨r27, hr27, hf⟩ := lb hf
      refine fnV (rest := []) (wr := []) (w2 := [(h, .inr (4, [.ref h_log, .ref h_past, .int r27.2.2.1, .int r27.2.2.2.1, .int r27.2.2.2.2])), (h_log, .inr (0, [.ref h_log_row, .int r27.1.2])), (h_log_row, .inl (cI, 5000, .inl r27.1.1)), (h_past, .inr (1, [.ref h_past_typed, .int r27.2.1.2.1, .int r27.2.1.2.2])), (h_past_typed, .inl (cI, 300, .inl r27.2.1.1))]) (st2 := []) C (c_Reader_fail l D cI cL h h_log h_log_row h_past h_past_typed r6.2 5 st.2.2.1 r27 hr27) (cV hts kV_Reader_fail wd_293 ⟨Nat.le_of_ble_eq_true rfl, Nat.le_of_ble_eq_true rfl⟩) hH [0, 1, 2, 3, 4] [] [0, 1, 2, 3, 4] rfl rfl rfl rfl (by decide) rfl rfl 0 rfl rfl rfl hl.1 rfl (Nat.le_of_ble_eq_true rfl) d_Reader_readSignal_27 ⟨Nat.le_of_ble_eq_true rfl, Nat.le_of_ble_eq_true rfl⟩ rfl (fun H locs hH => ?_)
      refine lv_iload_n hx hb d_Reader_readSignal_30 rfl (lv_at hl 0 rfl) ?_
      subst hf
      exact rI (v := r6.1) C hH d_Reader_readSignal_31
def f_Reader_readOwn_b84 (st : S_Reader) (e1 : S_Events) (x2 : Int32) (x3 : Int64) (x6 : Int64) (x8 : Int32) : Option (S_Reader × S_Events) :=
  if (bI (f_Reader_isFine st)) = 0 then (some ((st, e1))) else (lt1 (f_Reader_keep st e1 x2 x3 x6 x8) (fun r99 => some ((r99.1, r99.2))))
set_option maxRecDepth 100000 in
set_option maxHeartbeats 4000000 in
theorem w_Reader_readOwn_b84 (l : Launch) (D : va_G) (cI cL : ClassId) (h h_log h_log_row h_past h_past_typed q1 q1_kinds q1_differences q1_partsA q1_partsB : Nat) {p : Program} {e : Env} {s : State} {m : MethodId} {args : Array Value} {below : List Frame} {meth : Method} {c : Code} {A : Nat → Prop} (C : Cx p s m args meth c D vwCl [(cI, .int), (cL, .long)] A b_Reader_readOwn 9 none ws_Reader_readOwn y_Reader_readOwn.cls) : ∀ (st : S_Reader) (e1 : S_Events) (x2 : Int32) (x3 : Int64) (x6 : Int64) (x8 : Int32) (res : S_Reader × S_Events), f_Reader_readOwn_b84 st e1 x2 x3 x6 x8 = some res → ∀ (H : Heap) (locs : List Loc) (ls : Array Slot), Hp D vwCl A A s.heap H locs [(h, .inr (4, [.ref h_log, .ref h_past, .int st.2.2.1, .int st.2.2.2.1, .int st.2.2.2.2])), (h_log, .inr (0, [.ref h_log_row, .int st.1.2])), (h_log_row, .inl (cI, 5000, .inl st.1.1)), (h_past, .inr (1, [.ref h_past_typed, .int st.2.1.2.1, .int st.2.1.2.2])), (h_past_typed, .inl (cI, 300, .inl st.2.1.1)), (q1, .inr (2, [.ref q1_kinds, .ref q1_differences, .ref q1_partsA, .ref q1_partsB, .int e1.2.2.2.2])), (q1_kinds, .inl (cI, 300, .inl e1.1)), (q1_differences, .inl (cL, 300, .inr (.inl e1.2.1))), (q1_partsA, .inl (cL, 300, .inr (.inl e1.2.2.1))), (q1_partsB, .inl (cI, 300, .inl e1.2.2.2.1))] → lv_has ls 9 [(0, .ref h), (1, .ref q1), (2, .int x2), (3, .long x3), (6, .long x6), (8, .int x8)] → W p l e { frames := 3, cells := 0, slots := 0, locals := 70 } s m args below meth c H locs 0 0 (MQ below (Qw D vwCl [(cI, .int), (cL, .long)] (none) A [(h, .inr (4, [.ref h_log, .ref h_past, .int res.1.2.2.1, .int res.1.2.2.2.1, .int res.1.2.2.2.2])), (h_log, .inr (0, [.ref h_log_row, .int res.1.1.2])), (h_log_row, .inl (cI, 5000, .inl res.1.1.1)), (h_past, .inr (1, [.ref h_past_typed, .int res.1.2.1.2.1, .int res.1.2.1.2.2])), (h_past_typed, .inl (cI, 300, .inl res.1.2.1.1)), (q1, .inr (2, [.ref q1_kinds, .ref q1_differences, .ref q1_partsA, .ref q1_partsB, .int res.2.2.2.2.2])), (q1_kinds, .inl (cI, 300, .inl res.2.1)), (q1_differences, .inl (cL, 300, .inr (.inl res.2.2.1))), (q1_partsA, .inl (cL, 300, .inr (.inl res.2.2.2.1))), (q1_partsB, .inl (cI, 300, .inl res.2.2.2.2.1))]) args s 0 0 A) (F0 m 84 ls []) := by
  obtain ⟨hx, hb, hr, hml, hown, hts, hlk, hK, hA⟩ := id C
  intro st e1 x2 x3 x6 x8 res hf H locs ls hH hl
  unfold f_Reader_readOwn_b84 at hf
  refine lv_aload_n hx hb d_Reader_readOwn_84 rfl (lv_at hl 0 rfl) ?_
  refine fnVR (rest := []) (st2 := [.int (bI (f_Reader_isFine st))]) C (c_Reader_isFine l D cI cL h h_log h_log_row h_past h_past_typed st _ rfl) (cV hts kV_Reader_isFine wd_301 ⟨Nat.le_of_ble_eq_true rfl, Nat.le_of_ble_eq_true rfl⟩) hH [0, 1, 2, 3, 4] rfl rfl 0 rfl rfl rfl hl.1 rfl (Nat.le_of_ble_eq_true rfl) d_Reader_readOwn_85 ⟨Nat.le_of_ble_eq_true rfl, Nat.le_of_ble_eq_true rfl⟩ rfl (fun H locs hH => ?_)
  refine lv_if_eq (tgt := 102) hx hb d_Reader_readOwn_88 (by decide) (fun hc88 => ?_) (fun hc88 => ?_)
  · have hf := ip hc88 hf
    have hf := Option.some.inj hf
    subst hf
    exact rV C hH d_Reader_readOwn_102
  · have hf := im hc88 hf
    refine lv_aload_n hx hb d_Reader_readOwn_91 rfl (lv_at hl 0 rfl) ?_
    refine lv_aload_n hx hb d_Reader_readOwn_92 rfl (lv_at hl 1 rfl) ?_
    refine lv_iload_n hx hb d_Reader_readOwn_93 rfl (lv_at hl 2 rfl) ?_
    refine lv_lload_n hx hb d_Reader_readOwn_94 rfl (lv_at hl 3 rfl) ?_
    refine lv_lload hx hb d_Reader_readOwn_95 (lv_at hl 4 rfl) ?_
    refine lv_iload hx hb d_Reader_readOwn_97 (lv_at hl 5 rfl) ?_
    obtain ⟨r99, hr99, hf⟩ := lb hf
    refine fnV (rest := []) (wr := []) (w2 := [(h, .inr (4, [.ref h_log, .ref h_past, .int r99.1.2.2.1, .int r99.1.2.2.2.1, .int r99.1.2.2.2.2])), (h_log, .inr (0, [.ref h_log_row, .int r99.1.1.2])), (h_log_row, .inl (cI, 5000, .inl r99.1.1.1)), (h_past, .inr (1, [.ref h_past_typed, .int r99.1.2.1.2.1, .int r99.1.2.1.2.2])), (h_past_typed, .inl (cI, 300, .inl r99.1.2.1.1)), (q1, .inr (2, [.ref q1_kinds, .ref q1_differences, .ref q1_partsA, .ref q1_partsB, .int r99.2.2.2.2.2])), (q1_kinds, .inl (cI, 300, .inl r99.2.1)), (q1_differences, .inl (cL, 300, .inr (.inl r99.2.2.1))), (q1_partsA, .inl (cL, 300, .inr (.inl r99.2.2.2.1))), (q1_partsB, .inl (cI, 300, .inl r99.2.2.2.2.1))]) (st2 := []) C (c_Reader_keep l D cI cL h h_log h_log_row h_past h_past_typed q1 q1_kinds q1_differences q1_partsA q1_partsB st e1 x2 x3 x6 x8 r99 hr99) (cV hts kV_Reader_keep wd_323 ⟨Nat.le_of_ble_eq_true rfl, Nat.le_of_ble_eq_true rfl⟩) hH [0, 1, 2, 3, 4, 5, 6, 7, 8, 9] [] [0, 1, 2, 3, 4, 5, 6, 7, 8, 9] rfl rfl rfl rfl (by decide) rfl rfl 0 rfl rfl rfl hl.1 rfl (Nat.le_of_ble_eq_true rfl) d_Reader_readOwn_99 ⟨Nat.le_of_ble_eq_true rfl, Nat.le_of_ble_eq_true rfl⟩ rfl (fun H locs hH => ?_)
    have hf := Option.some.inj hf
    subst hf
    exact rV C hH d_Reader_readOwn_102
def f_Reader_readOwn (st : S_Reader) (e1 : S_Events) (x2 : Int32) (x3 : Int64) (x5 : Int32) : Option (S_Reader × S_Events) :=
  if x2 = 1 then ((f_Reader_readBytes st x5).bind (fun r43 => f_Reader_readOwn_b84 r43.2 e1 x2 x3 r43.1 x5)) else if x2 = 2 then (lt1 (f_Reader_readSignal st) (fun r56 => f_Reader_readOwn_b84 r56.2 e1 x2 x3 x5.toInt64 r56.1)) else if x2 = 3 then ((f_Reader_readVarint st 0).bind (fun r66 => f_Reader_readOwn_b84 r66.2 e1 x2 x3 r66.1 0)) else if x2 = 4 then ((f_Reader_readBytes st 4).bind (fun r76 => f_Reader_readOwn_b84 r76.2 e1 x2 x3 r76.1 0)) else (f_Reader_readOwn_b84 st e1 x2 x3 x5.toInt64 0)
set_option maxRecDepth 100000 in
set_option maxHeartbeats 4000000 in
theorem c_Reader_readOwn (l : Launch) (D : va_G) (cI cL : ClassId) (h h_log h_log_row h_past h_past_typed q1 q1_kinds q1_differences q1_partsA q1_partsB : Nat) (st : S_Reader) (e1 : S_Events) (x2 : Int32) (x3 : Int64) (x5 : Int32) (res : S_Reader × S_Events) (hf : f_Reader_readOwn st e1 x2 x3 x5 = some res) :
    Fn l D vwCl [(cI, .int), (cL, .long)] y_Reader_readOwn ws_Reader_readOwn { frames := 3, cells := 0, slots := 0, locals := 70 } [.ref h, .ref q1, .int x2, .long x3, .int x5] [(h, .inr (4, [.ref h_log, .ref h_past, .int st.2.2.1, .int st.2.2.2.1, .int st.2.2.2.2])), (h_log, .inr (0, [.ref h_log_row, .int st.1.2])), (h_log_row, .inl (cI, 5000, .inl st.1.1)), (h_past, .inr (1, [.ref h_past_typed, .int st.2.1.2.1, .int st.2.1.2.2])), (h_past_typed, .inl (cI, 300, .inl st.2.1.1)), (q1, .inr (2, [.ref q1_kinds, .ref q1_differences, .ref q1_partsA, .ref q1_partsB, .int e1.2.2.2.2])), (q1_kinds, .inl (cI, 300, .inl e1.1)), (q1_differences, .inl (cL, 300, .inr (.inl e1.2.1))), (q1_partsA, .inl (cL, 300, .inr (.inl e1.2.2.1))), (q1_partsB, .inl (cI, 300, .inl e1.2.2.2.1))] (none) [(h, .inr (4, [.ref h_log, .ref h_past, .int res.1.2.2.1, .int res.1.2.2.2.1, .int res.1.2.2.2.2])), (h_log, .inr (0, [.ref h_log_row, .int res.1.1.2])), (h_log_row, .inl (cI, 5000, .inl res.1.1.1)), (h_past, .inr (1, [.ref h_past_typed, .int res.1.2.1.2.1, .int res.1.2.1.2.2])), (h_past_typed, .inl (cI, 300, .inl res.1.2.1.1)), (q1, .inr (2, [.ref q1_kinds, .ref q1_differences, .ref q1_partsA, .ref q1_partsB, .int res.2.2.2.2.2])), (q1_kinds, .inl (cI, 300, .inl res.2.1)), (q1_differences, .inl (cL, 300, .inr (.inl res.2.2.1))), (q1_partsA, .inl (cL, 300, .inr (.inl res.2.2.2.1))), (q1_partsB, .inl (cI, 300, .inl res.2.2.2.2.1))] := by
  refine Fn.ofW (cc := b_Reader_readOwn) (maxL := 9) (ret := none) (by decide) rfl (Nat.le_of_ble_eq_true rfl) ?_
  intro p e s m below meth c A ls C hH hinit hl
  have hl : lv_has ls 9 [(0, .ref h), (1, .ref q1), (2, .int x2), (3, .long x3), (5, .int x5)] := hl
  obtain ⟨hx, hb, hr, hml, hown, hts, hlk, hK, hA⟩ := id C
  unfold f_Reader_readOwn at hf
  refine lv_iload hx hb d_Reader_readOwn_0 (lv_at hl 4 rfl) ?_
  refine lv_i2l (v := x5.toInt64) hx hb d_Reader_readOwn_2 rfl ?_
  refine lv_lstore (lv' := [(6, .long x5.toInt64), (0, .ref h), (1, .ref q1), (2, .int x2), (3, .long x3), (5, .int x5)]) hx hb d_Reader_readOwn_3 hl (by decide) rfl (fun ls hl => ?_)
  refine lv_iconst (v := 0) hx hb d_Reader_readOwn_5 (by decide) ?_
  refine lv_istore (lv' := [(8, .int 0), (6, .long x5.toInt64), (0, .ref h), (1, .ref q1), (2, .int x2), (3, .long x3), (5, .int x5)]) hx hb d_Reader_readOwn_6 hl (by decide) rfl (fun ls hl => ?_)
  refine lv_iload_n hx hb d_Reader_readOwn_8 rfl (lv_at hl 4 rfl) ?_
  by_cases hc9_0 : x2 = 1
  · have hf := ip hc9_0 hf
    refine lv_tableIn (tgt := 40) hx hb d_Reader_readOwn_9 (by rw [hc9_0]; decide) (by rw [hc9_0]; decide) (by rw [hc9_0]; rfl) (by decide) ?_
    refine lv_aload_n hx hb d_Reader_readOwn_40 rfl (lv_at hl 2 rfl) ?_
    refine lv_iload hx hb d_Reader_readOwn_41 (lv_at hl 6 rfl) ?_
    obtain ⟨r43, hr43, hf⟩ := ob hf
    refine fnV (rest := []) (wr := [(q1, .inr (2, [.ref q1_kinds, .ref q1_differences, .ref q1_partsA, .ref q1_partsB, .int e1.2.2.2.2])), (q1_kinds, .inl (cI, 300, .inl e1.1)), (q1_differences, .inl (cL, 300, .inr (.inl e1.2.1))), (q1_partsA, .inl (cL, 300, .inr (.inl e1.2.2.1))), (q1_partsB, .inl (cI, 300, .inl e1.2.2.2.1))]) (w2 := [(h, .inr (4, [.ref h_log, .ref h_past, .int r43.2.2.2.1, .int r43.2.2.2.2.1, .int r43.2.2.2.2.2])), (h_log, .inr (0, [.ref h_log_row, .int r43.2.1.2])), (h_log_row, .inl (cI, 5000, .inl r43.2.1.1)), (h_past, .inr (1, [.ref h_past_typed, .int r43.2.2.1.2.1, .int r43.2.2.1.2.2])), (h_past_typed, .inl (cI, 300, .inl r43.2.2.1.1)), (q1, .inr (2, [.ref q1_kinds, .ref q1_differences, .ref q1_partsA, .ref q1_partsB, .int e1.2.2.2.2])), (q1_kinds, .inl (cI, 300, .inl e1.1)), (q1_differences, .inl (cL, 300, .inr (.inl e1.2.1))), (q1_partsA, .inl (cL, 300, .inr (.inl e1.2.2.1))), (q1_partsB, .inl (cI, 300, .inl e1.2.2.2.1))]) (st2 := [.long r43.1]) C (c_Reader_readBytes l D cI cL h h_log h_log_row h_past h_past_typed st x5 r43 hr43) (cV hts kV_Reader_readBytes wd_346 ⟨Nat.le_of_ble_eq_true rfl, Nat.le_of_ble_eq_true rfl⟩) hH [0, 1, 2, 3, 4] [5, 6, 7, 8, 9] [5, 6, 7, 8, 9, 0, 1, 2, 3, 4] rfl rfl rfl rfl (by decide) rfl rfl 0 rfl rfl rfl hl.1 rfl (Nat.le_of_ble_eq_true rfl) d_Reader_readOwn_43 ⟨Nat.le_of_ble_eq_true rfl, Nat.le_of_ble_eq_true rfl⟩ rfl (fun H locs hH => ?_)
    refine lv_lstore (lv' := [(6, .long r43.1), (8, .int 0), (0, .ref h), (1, .ref q1), (2, .int x2), (3, .long x3), (5, .int x5)]) hx hb d_Reader_readOwn_46 hl (by decide) rfl (fun ls hl => ?_)
    refine lv_iload hx hb d_Reader_readOwn_48 (lv_at hl 6 rfl) ?_
    refine lv_istore (lv' := [(8, .int x5), (6, .long r43.1), (0, .ref h), (1, .ref q1), (2, .int x2), (3, .long x3), (5, .int x5)]) hx hb d_Reader_readOwn_50 hl (by decide) rfl (fun ls hl => ?_)
    refine lv_goto (tgt := 84) hx hb d_Reader_readOwn_52 (by decide) ?_
    exact w_Reader_readOwn_b84 l D cI cL h h_log h_log_row h_past h_past_typed q1 q1_kinds q1_differences q1_partsA q1_partsB C r43.2 e1 x2 x3 r43.1 x5 res hf _ _ _ hH (lv_sub hl [2, 3, 4, 5, 1, 0] rfl)
  have hf := im hc9_0 hf
  by_cases hc9_1 : x2 = 2
  · have hf := ip hc9_1 hf
    refine lv_tableIn (tgt := 55) hx hb d_Reader_readOwn_9 (by rw [hc9_1]; decide) (by rw [hc9_1]; decide) (by rw [hc9_1]; rfl) (by decide) ?_
    refine lv_aload_n hx hb d_Reader_readOwn_55 rfl (lv_at hl 2 rfl) ?_
    obtain ⟨r56, hr56, hf⟩ := lb hf
    refine fnV (rest := []) (wr := [(q1, .inr (2, [.ref q1_kinds, .ref q1_differences, .ref q1_partsA, .ref q1_partsB, .int e1.2.2.2.2])), (q1_kinds, .inl (cI, 300, .inl e1.1)), (q1_differences, .inl (cL, 300, .inr (.inl e1.2.1))), (q1_partsA, .inl (cL, 300, .inr (.inl e1.2.2.1))), (q1_partsB, .inl (cI, 300, .inl e1.2.2.2.1))]) (w2 := [(h, .inr (4, [.ref h_log, .ref h_past, .int r56.2.2.2.1, .int r56.2.2.2.2.1, .int r56.2.2.2.2.2])), (h_log, .inr (0, [.ref h_log_row, .int r56.2.1.2])), (h_log_row, .inl (cI, 5000, .inl r56.2.1.1)), (h_past, .inr (1, [.ref h_past_typed, .int r56.2.2.1.2.1, .int r56.2.2.1.2.2])), (h_past_typed, .inl (cI, 300, .inl r56.2.2.1.1)), (q1, .inr (2, [.ref q1_kinds, .ref q1_differences, .ref q1_partsA, .ref q1_partsB, .int e1.2.2.2.2])), (q1_kinds, .inl (cI, 300, .inl e1.1)), (q1_differences, .inl (cL, 300, .inr (.inl e1.2.1))), (q1_partsA, .inl (cL, 300, .inr (.inl e1.2.2.1))), (q1_partsB, .inl (cI, 300, .inl e1.2.2.2.1))]) (st2 := [.int r56.1]) C (c_Reader_readSignal l D cI cL h h_log h_log_row h_past h_past_typed st r56 hr56) (cV hts kV_Reader_readSignal wd_350 ⟨Nat.le_of_ble_eq_true rfl, Nat.le_of_ble_eq_true rfl⟩) hH [0, 1, 2, 3, 4] [5, 6, 7, 8, 9] [5, 6, 7, 8, 9, 0, 1, 2, 3, 4] rfl rfl rfl rfl (by decide) rfl rfl 0 rfl rfl rfl hl.1 rfl (Nat.le_of_ble_eq_true rfl) d_Reader_readOwn_56 ⟨Nat.le_of_ble_eq_true rfl, Nat.le_of_ble_eq_true rfl⟩ rfl (fun H locs hH => ?_)
    refine lv_istore (lv' := [(8, .int r56.1), (6, .long x5.toInt64), (0, .ref h), (1, .ref q1), (2, .int x2), (3, .long x3), (5, .int x5)]) hx hb d_Reader_readOwn_59 hl (by decide) rfl (fun ls hl => ?_)
    refine lv_goto (tgt := 84) hx hb d_Reader_readOwn_61 (by decide) ?_
    exact w_Reader_readOwn_b84 l D cI cL h h_log h_log_row h_past h_past_typed q1 q1_kinds q1_differences q1_partsA q1_partsB C r56.2 e1 x2 x3 x5.toInt64 r56.1 res hf _ _ _ hH (lv_sub hl [2, 3, 4, 5, 1, 0] rfl)
  have hf := im hc9_1 hf
  by_cases hc9_2 : x2 = 3
  · have hf := ip hc9_2 hf
    refine lv_tableIn (tgt := 64) hx hb d_Reader_readOwn_9 (by rw [hc9_2]; decide) (by rw [hc9_2]; decide) (by rw [hc9_2]; rfl) (by decide) ?_
    refine lv_aload_n hx hb d_Reader_readOwn_64 rfl (lv_at hl 2 rfl) ?_
    refine lv_iconst (v := 0) hx hb d_Reader_readOwn_65 (by decide) ?_
    obtain ⟨r66, hr66, hf⟩ := ob hf
    refine fnV (rest := []) (wr := [(q1, .inr (2, [.ref q1_kinds, .ref q1_differences, .ref q1_partsA, .ref q1_partsB, .int e1.2.2.2.2])), (q1_kinds, .inl (cI, 300, .inl e1.1)), (q1_differences, .inl (cL, 300, .inr (.inl e1.2.1))), (q1_partsA, .inl (cL, 300, .inr (.inl e1.2.2.1))), (q1_partsB, .inl (cI, 300, .inl e1.2.2.2.1))]) (w2 := [(h, .inr (4, [.ref h_log, .ref h_past, .int r66.2.2.2.1, .int r66.2.2.2.2.1, .int r66.2.2.2.2.2])), (h_log, .inr (0, [.ref h_log_row, .int r66.2.1.2])), (h_log_row, .inl (cI, 5000, .inl r66.2.1.1)), (h_past, .inr (1, [.ref h_past_typed, .int r66.2.2.1.2.1, .int r66.2.2.1.2.2])), (h_past_typed, .inl (cI, 300, .inl r66.2.2.1.1)), (q1, .inr (2, [.ref q1_kinds, .ref q1_differences, .ref q1_partsA, .ref q1_partsB, .int e1.2.2.2.2])), (q1_kinds, .inl (cI, 300, .inl e1.1)), (q1_differences, .inl (cL, 300, .inr (.inl e1.2.1))), (q1_partsA, .inl (cL, 300, .inr (.inl e1.2.2.1))), (q1_partsB, .inl (cI, 300, .inl e1.2.2.2.1))]) (st2 := [.long r66.1]) C (c_Reader_readVarint l D cI cL h h_log h_log_row h_past h_past_typed st 0 r66 hr66) (cV hts kV_Reader_readVarint wd_281 ⟨Nat.le_of_ble_eq_true rfl, Nat.le_of_ble_eq_true rfl⟩) hH [0, 1, 2, 3, 4] [5, 6, 7, 8, 9] [5, 6, 7, 8, 9, 0, 1, 2, 3, 4] rfl rfl rfl rfl (by decide) rfl rfl 0 rfl rfl rfl hl.1 rfl (Nat.le_of_ble_eq_true rfl) d_Reader_readOwn_66 ⟨Nat.le_of_ble_eq_true rfl, Nat.le_of_ble_eq_true rfl⟩ rfl (fun H locs hH => ?_)
    refine lv_lstore (lv' := [(6, .long r66.1), (8, .int 0), (0, .ref h), (1, .ref q1), (2, .int x2), (3, .long x3), (5, .int x5)]) hx hb d_Reader_readOwn_69 hl (by decide) rfl (fun ls hl => ?_)
    refine lv_goto (tgt := 84) hx hb d_Reader_readOwn_71 (by decide) ?_
    exact w_Reader_readOwn_b84 l D cI cL h h_log h_log_row h_past h_past_typed q1 q1_kinds q1_differences q1_partsA q1_partsB C r66.2 e1 x2 x3 r66.1 0 res hf _ _ _ hH (lv_sub hl [2, 3, 4, 5, 0, 1] rfl)
  have hf := im hc9_2 hf
  by_cases hc9_3 : x2 = 4
  · have hf := ip hc9_3 hf
    refine lv_tableIn (tgt := 74) hx hb d_Reader_readOwn_9 (by rw [hc9_3]; decide) (by rw [hc9_3]; decide) (by rw [hc9_3]; rfl) (by decide) ?_
    refine lv_aload_n hx hb d_Reader_readOwn_74 rfl (lv_at hl 2 rfl) ?_
    refine lv_iconst (v := 4) hx hb d_Reader_readOwn_75 (by decide) ?_
    obtain ⟨r76, hr76, hf⟩ := ob hf
    refine fnV (rest := []) (wr := [(q1, .inr (2, [.ref q1_kinds, .ref q1_differences, .ref q1_partsA, .ref q1_partsB, .int e1.2.2.2.2])), (q1_kinds, .inl (cI, 300, .inl e1.1)), (q1_differences, .inl (cL, 300, .inr (.inl e1.2.1))), (q1_partsA, .inl (cL, 300, .inr (.inl e1.2.2.1))), (q1_partsB, .inl (cI, 300, .inl e1.2.2.2.1))]) (w2 := [(h, .inr (4, [.ref h_log, .ref h_past, .int r76.2.2.2.1, .int r76.2.2.2.2.1, .int r76.2.2.2.2.2])), (h_log, .inr (0, [.ref h_log_row, .int r76.2.1.2])), (h_log_row, .inl (cI, 5000, .inl r76.2.1.1)), (h_past, .inr (1, [.ref h_past_typed, .int r76.2.2.1.2.1, .int r76.2.2.1.2.2])), (h_past_typed, .inl (cI, 300, .inl r76.2.2.1.1)), (q1, .inr (2, [.ref q1_kinds, .ref q1_differences, .ref q1_partsA, .ref q1_partsB, .int e1.2.2.2.2])), (q1_kinds, .inl (cI, 300, .inl e1.1)), (q1_differences, .inl (cL, 300, .inr (.inl e1.2.1))), (q1_partsA, .inl (cL, 300, .inr (.inl e1.2.2.1))), (q1_partsB, .inl (cI, 300, .inl e1.2.2.2.1))]) (st2 := [.long r76.1]) C (c_Reader_readBytes l D cI cL h h_log h_log_row h_past h_past_typed st 4 r76 hr76) (cV hts kV_Reader_readBytes wd_346 ⟨Nat.le_of_ble_eq_true rfl, Nat.le_of_ble_eq_true rfl⟩) hH [0, 1, 2, 3, 4] [5, 6, 7, 8, 9] [5, 6, 7, 8, 9, 0, 1, 2, 3, 4] rfl rfl rfl rfl (by decide) rfl rfl 0 rfl rfl rfl hl.1 rfl (Nat.le_of_ble_eq_true rfl) d_Reader_readOwn_76 ⟨Nat.le_of_ble_eq_true rfl, Nat.le_of_ble_eq_true rfl⟩ rfl (fun H locs hH => ?_)
    refine lv_lstore (lv' := [(6, .long r76.1), (8, .int 0), (0, .ref h), (1, .ref q1), (2, .int x2), (3, .long x3), (5, .int x5)]) hx hb d_Reader_readOwn_79 hl (by decide) rfl (fun ls hl => ?_)
    refine lv_goto (tgt := 84) hx hb d_Reader_readOwn_81 (by decide) ?_
    exact w_Reader_readOwn_b84 l D cI cL h h_log h_log_row h_past h_past_typed q1 q1_kinds q1_differences q1_partsA q1_partsB C r76.2 e1 x2 x3 r76.1 0 res hf _ _ _ hH (lv_sub hl [2, 3, 4, 5, 0, 1] rfl)
  have hf := im hc9_3 hf
  refine lv_tableOut (tgt := 84) hx hb d_Reader_readOwn_9 (by have h0 := i32n (k := 1) hc9_0 (by decide); have h1 := i32n (k := 2) hc9_1 (by decide); have h2 := i32n (k := 3) hc9_2 (by decide); have h3 := i32n (k := 4) hc9_3 (by decide); omega) (by decide) ?_
  exact w_Reader_readOwn_b84 l D cI cL h h_log h_log_row h_past h_past_typed q1 q1_kinds q1_differences q1_partsA q1_partsB C st e1 x2 x3 x5.toInt64 0 res hf _ _ _ hH (lv_sub hl [2, 3, 4, 5, 1, 0] rfl)
def f_Reader_readEntry_b110 (st : S_Reader) (e1 : S_Events) (x4 : Int32) (x6 : Int32) (x7 : Int32) (z0 : Int64) : Option (S_Reader × S_Events) :=
  if (bI (f_Reader_isFine st)) = 0 then (some ((st, e1))) else (if (bI (f_Reader_isMeaningAnother x6 x7)) = 0 then ((f_Reader_readOwn st e1 x6 z0 x7).bind (fun r152 => some ((r152.1, r152.2)))) else ((f_Reader_readLikeAnother st e1 x6 z0 x4).bind (fun r138 => some ((r138.1, r138.2)))))
set_option maxRecDepth 100000 in
set_option maxHeartbeats 4000000 in
theorem w_Reader_readEntry_b110 (l : Launch) (D : va_G) (cI cL : ClassId) (h h_log h_log_row h_past h_past_typed q1 q1_kinds q1_differences q1_partsA q1_partsB : Nat) {p : Program} {e : Env} {s : State} {m : MethodId} {args : Array Value} {below : List Frame} {meth : Method} {c : Code} {A : Nat → Prop} (C : Cx p s m args meth c D vwCl [(cI, .int), (cL, .long)] A b_Reader_readEntry 11 none ws_Reader_readEntry y_Reader_readEntry.cls) : ∀ (st : S_Reader) (e1 : S_Events) (x4 : Int32) (x6 : Int32) (x7 : Int32) (z0 : Int64) (res : S_Reader × S_Events), f_Reader_readEntry_b110 st e1 x4 x6 x7 z0 = some res → ∀ (H : Heap) (locs : List Loc) (ls : Array Slot), Hp D vwCl A A s.heap H locs [(h, .inr (4, [.ref h_log, .ref h_past, .int st.2.2.1, .int st.2.2.2.1, .int st.2.2.2.2])), (h_log, .inr (0, [.ref h_log_row, .int st.1.2])), (h_log_row, .inl (cI, 5000, .inl st.1.1)), (h_past, .inr (1, [.ref h_past_typed, .int st.2.1.2.1, .int st.2.1.2.2])), (h_past_typed, .inl (cI, 300, .inl st.2.1.1)), (q1, .inr (2, [.ref q1_kinds, .ref q1_differences, .ref q1_partsA, .ref q1_partsB, .int e1.2.2.2.2])), (q1_kinds, .inl (cI, 300, .inl e1.1)), (q1_differences, .inl (cL, 300, .inr (.inl e1.2.1))), (q1_partsA, .inl (cL, 300, .inr (.inl e1.2.2.1))), (q1_partsB, .inl (cI, 300, .inl e1.2.2.2.1))] → lv_has ls 11 [(0, .ref h), (1, .ref q1), (4, .int x4), (6, .int x6), (7, .int x7)] → W p l e { frames := 4, cells := 0, slots := 0, locals := 99 } s m args below meth c H locs 0 0 (MQ below (Qw D vwCl [(cI, .int), (cL, .long)] (none) A [(h, .inr (4, [.ref h_log, .ref h_past, .int res.1.2.2.1, .int res.1.2.2.2.1, .int res.1.2.2.2.2])), (h_log, .inr (0, [.ref h_log_row, .int res.1.1.2])), (h_log_row, .inl (cI, 5000, .inl res.1.1.1)), (h_past, .inr (1, [.ref h_past_typed, .int res.1.2.1.2.1, .int res.1.2.1.2.2])), (h_past_typed, .inl (cI, 300, .inl res.1.2.1.1)), (q1, .inr (2, [.ref q1_kinds, .ref q1_differences, .ref q1_partsA, .ref q1_partsB, .int res.2.2.2.2.2])), (q1_kinds, .inl (cI, 300, .inl res.2.1)), (q1_differences, .inl (cL, 300, .inr (.inl res.2.2.1))), (q1_partsA, .inl (cL, 300, .inr (.inl res.2.2.2.1))), (q1_partsB, .inl (cI, 300, .inl res.2.2.2.2.1))]) args s 0 0 A) (F0 m 110 ls [.long z0]) := by
  obtain ⟨hx, hb, hr, hml, hown, hts, hlk, hK, hA⟩ := id C
  intro st e1 x4 x6 x7 z0 res hf H locs ls hH hl
  unfold f_Reader_readEntry_b110 at hf
  refine lv_lstore (lv' := [(9, .long z0), (0, .ref h), (1, .ref q1), (4, .int x4), (6, .int x6), (7, .int x7)]) hx hb d_Reader_readEntry_110 hl (by decide) rfl (fun ls hl => ?_)
  refine lv_aload_n hx hb d_Reader_readEntry_112 rfl (lv_at hl 1 rfl) ?_
  refine fnVR (rest := []) (st2 := [.int (bI (f_Reader_isFine st))]) C (c_Reader_isFine l D cI cL h h_log h_log_row h_past h_past_typed st _ rfl) (cV hts kV_Reader_isFine wd_301 ⟨Nat.le_of_ble_eq_true rfl, Nat.le_of_ble_eq_true rfl⟩) hH [0, 1, 2, 3, 4] rfl rfl 0 rfl rfl rfl hl.1 rfl (Nat.le_of_ble_eq_true rfl) d_Reader_readEntry_113 ⟨Nat.le_of_ble_eq_true rfl, Nat.le_of_ble_eq_true rfl⟩ rfl (fun H locs hH => ?_)
  refine lv_if_ne (tgt := 120) hx hb d_Reader_readEntry_116 (by decide) (fun hc116 => ?_) (fun hc116 => ?_)
  · have hf := im hc116 hf
    refine lv_iload hx hb d_Reader_readEntry_120 (lv_at hl 4 rfl) ?_
    refine lv_iload hx hb d_Reader_readEntry_122 (lv_at hl 5 rfl) ?_
    refine fnSR (rest := []) (st2 := [.int (bI (f_Reader_isMeaningAnother x6 x7))]) C (c_Reader_isMeaningAnother l D cI cL  x6 x7 _ rfl) (cS hts kS_Reader_isMeaningAnother wd_332 ⟨Nat.le_of_ble_eq_true rfl, Nat.le_of_ble_eq_true rfl⟩) hH [] rfl rfl rfl hl.1 rfl (Nat.le_of_ble_eq_true rfl) d_Reader_readEntry_124 ⟨Nat.le_of_ble_eq_true rfl, Nat.le_of_ble_eq_true rfl⟩ rfl (fun H locs hH => ?_)
    refine lv_if_eq (tgt := 144) hx hb d_Reader_readEntry_127 (by decide) (fun hc127 => ?_) (fun hc127 => ?_)
    · have hf := ip hc127 hf
      refine lv_aload_n hx hb d_Reader_readEntry_144 rfl (lv_at hl 1 rfl) ?_
      refine lv_aload_n hx hb d_Reader_readEntry_145 rfl (lv_at hl 2 rfl) ?_
      refine lv_iload hx hb d_Reader_readEntry_146 (lv_at hl 4 rfl) ?_
      refine lv_lload hx hb d_Reader_readEntry_148 (lv_at hl 0 rfl) ?_
      refine lv_iload hx hb d_Reader_readEntry_150 (lv_at hl 5 rfl) ?_
      obtain ⟨r152, hr152, hf⟩ := ob hf
      refine fnV (rest := []) (wr := []) (w2 := [(h, .inr (4, [.ref h_log, .ref h_past, .int r152.1.2.2.1, .int r152.1.2.2.2.1, .int r152.1.2.2.2.2])), (h_log, .inr (0, [.ref h_log_row, .int r152.1.1.2])), (h_log_row, .inl (cI, 5000, .inl r152.1.1.1)), (h_past, .inr (1, [.ref h_past_typed, .int r152.1.2.1.2.1, .int r152.1.2.1.2.2])), (h_past_typed, .inl (cI, 300, .inl r152.1.2.1.1)), (q1, .inr (2, [.ref q1_kinds, .ref q1_differences, .ref q1_partsA, .ref q1_partsB, .int r152.2.2.2.2.2])), (q1_kinds, .inl (cI, 300, .inl r152.2.1)), (q1_differences, .inl (cL, 300, .inr (.inl r152.2.2.1))), (q1_partsA, .inl (cL, 300, .inr (.inl r152.2.2.2.1))), (q1_partsB, .inl (cI, 300, .inl r152.2.2.2.2.1))]) (st2 := []) C (c_Reader_readOwn l D cI cL h h_log h_log_row h_past h_past_typed q1 q1_kinds q1_differences q1_partsA q1_partsB st e1 x6 z0 x7 r152 hr152) (cV hts kV_Reader_readOwn wd_342 ⟨Nat.le_of_ble_eq_true rfl, Nat.le_of_ble_eq_true rfl⟩) hH [0, 1, 2, 3, 4, 5, 6, 7, 8, 9] [] [0, 1, 2, 3, 4, 5, 6, 7, 8, 9] rfl rfl rfl rfl (by decide) rfl rfl 0 rfl rfl rfl hl.1 rfl (Nat.le_of_ble_eq_true rfl) d_Reader_readEntry_152 ⟨Nat.le_of_ble_eq_true rfl, Nat.le_of_ble_eq_true rfl⟩ rfl (fun H locs hH => ?_)
      have hf := Option.some.inj hf
      subst hf
      exact rV C hH d_Reader_readEntry_155
    · have hf := im hc127 hf
      refine lv_aload_n hx hb d_Reader_readEntry_130 rfl (lv_at hl 1 rfl) ?_
      refine lv_aload_n hx hb d_Reader_readEntry_131 rfl (lv_at hl 2 rfl) ?_
      refine lv_iload hx hb d_Reader_readEntry_132 (lv_at hl 4 rfl) ?_
      refine lv_lload hx hb d_Reader_readEntry_134 (lv_at hl 0 rfl) ?_
      refine lv_iload hx hb d_Reader_readEntry_136 (lv_at hl 3 rfl) ?_
      obtain ⟨r138, hr138, hf⟩ := ob hf
      refine fnV (rest := []) (wr := []) (w2 := [(h, .inr (4, [.ref h_log, .ref h_past, .int r138.1.2.2.1, .int r138.1.2.2.2.1, .int r138.1.2.2.2.2])), (h_log, .inr (0, [.ref h_log_row, .int r138.1.1.2])), (h_log_row, .inl (cI, 5000, .inl r138.1.1.1)), (h_past, .inr (1, [.ref h_past_typed, .int r138.1.2.1.2.1, .int r138.1.2.1.2.2])), (h_past_typed, .inl (cI, 300, .inl r138.1.2.1.1)), (q1, .inr (2, [.ref q1_kinds, .ref q1_differences, .ref q1_partsA, .ref q1_partsB, .int r138.2.2.2.2.2])), (q1_kinds, .inl (cI, 300, .inl r138.2.1)), (q1_differences, .inl (cL, 300, .inr (.inl r138.2.2.1))), (q1_partsA, .inl (cL, 300, .inr (.inl r138.2.2.2.1))), (q1_partsB, .inl (cI, 300, .inl r138.2.2.2.2.1))]) (st2 := []) C (c_Reader_readLikeAnother l D cI cL h h_log h_log_row h_past h_past_typed q1 q1_kinds q1_differences q1_partsA q1_partsB st e1 x6 z0 x4 r138 hr138) (cV hts kV_Reader_readLikeAnother wd_335 ⟨Nat.le_of_ble_eq_true rfl, Nat.le_of_ble_eq_true rfl⟩) hH [0, 1, 2, 3, 4, 5, 6, 7, 8, 9] [] [0, 1, 2, 3, 4, 5, 6, 7, 8, 9] rfl rfl rfl rfl (by decide) rfl rfl 0 rfl rfl rfl hl.1 rfl (Nat.le_of_ble_eq_true rfl) d_Reader_readEntry_138 ⟨Nat.le_of_ble_eq_true rfl, Nat.le_of_ble_eq_true rfl⟩ rfl (fun H locs hH => ?_)
      refine lv_goto (tgt := 155) hx hb d_Reader_readEntry_141 (by decide) ?_
      have hf := Option.some.inj hf
      subst hf
      exact rV C hH d_Reader_readEntry_155
  · have hf := ip hc116 hf
    have hf := Option.some.inj hf
    subst hf
    exact rV C hH d_Reader_readEntry_119
def f_Reader_readEntry_b85 (st : S_Reader) (e1 : S_Events) (x4 : Int32) (x6 : Int32) (x7 : Int32) (z0 : Int32) : Option (S_Reader × S_Events) :=
  if z0 = 0 then ((f_Reader_readVarint st 0).bind (fun r107 => f_Reader_readEntry_b110 r107.2 e1 x4 x6 x7 r107.1)) else (f_Reader_readEntry_b110 st e1 x4 x6 x7 (f_Events_difference e1 ((f_Events_number e1) - 1)))
set_option maxRecDepth 100000 in
set_option maxHeartbeats 4000000 in
theorem w_Reader_readEntry_b85 (l : Launch) (D : va_G) (cI cL : ClassId) (h h_log h_log_row h_past h_past_typed q1 q1_kinds q1_differences q1_partsA q1_partsB : Nat) {p : Program} {e : Env} {s : State} {m : MethodId} {args : Array Value} {below : List Frame} {meth : Method} {c : Code} {A : Nat → Prop} (C : Cx p s m args meth c D vwCl [(cI, .int), (cL, .long)] A b_Reader_readEntry 11 none ws_Reader_readEntry y_Reader_readEntry.cls) : ∀ (st : S_Reader) (e1 : S_Events) (x4 : Int32) (x6 : Int32) (x7 : Int32) (z0 : Int32) (res : S_Reader × S_Events), f_Reader_readEntry_b85 st e1 x4 x6 x7 z0 = some res → ∀ (H : Heap) (locs : List Loc) (ls : Array Slot), Hp D vwCl A A s.heap H locs [(h, .inr (4, [.ref h_log, .ref h_past, .int st.2.2.1, .int st.2.2.2.1, .int st.2.2.2.2])), (h_log, .inr (0, [.ref h_log_row, .int st.1.2])), (h_log_row, .inl (cI, 5000, .inl st.1.1)), (h_past, .inr (1, [.ref h_past_typed, .int st.2.1.2.1, .int st.2.1.2.2])), (h_past_typed, .inl (cI, 300, .inl st.2.1.1)), (q1, .inr (2, [.ref q1_kinds, .ref q1_differences, .ref q1_partsA, .ref q1_partsB, .int e1.2.2.2.2])), (q1_kinds, .inl (cI, 300, .inl e1.1)), (q1_differences, .inl (cL, 300, .inr (.inl e1.2.1))), (q1_partsA, .inl (cL, 300, .inr (.inl e1.2.2.1))), (q1_partsB, .inl (cI, 300, .inl e1.2.2.2.1))] → lv_has ls 11 [(0, .ref h), (1, .ref q1), (4, .int x4), (6, .int x6), (7, .int x7)] → W p l e { frames := 4, cells := 0, slots := 0, locals := 99 } s m args below meth c H locs 0 0 (MQ below (Qw D vwCl [(cI, .int), (cL, .long)] (none) A [(h, .inr (4, [.ref h_log, .ref h_past, .int res.1.2.2.1, .int res.1.2.2.2.1, .int res.1.2.2.2.2])), (h_log, .inr (0, [.ref h_log_row, .int res.1.1.2])), (h_log_row, .inl (cI, 5000, .inl res.1.1.1)), (h_past, .inr (1, [.ref h_past_typed, .int res.1.2.1.2.1, .int res.1.2.1.2.2])), (h_past_typed, .inl (cI, 300, .inl res.1.2.1.1)), (q1, .inr (2, [.ref q1_kinds, .ref q1_differences, .ref q1_partsA, .ref q1_partsB, .int res.2.2.2.2.2])), (q1_kinds, .inl (cI, 300, .inl res.2.1)), (q1_differences, .inl (cL, 300, .inr (.inl res.2.2.1))), (q1_partsA, .inl (cL, 300, .inr (.inl res.2.2.2.1))), (q1_partsB, .inl (cI, 300, .inl res.2.2.2.2.1))]) args s 0 0 A) (F0 m 85 ls [.int z0]) := by
  obtain ⟨hx, hb, hr, hml, hown, hts, hlk, hK, hA⟩ := id C
  intro st e1 x4 x6 x7 z0 res hf H locs ls hH hl
  unfold f_Reader_readEntry_b85 at hf
  refine lv_istore (lv' := [(8, .int z0), (0, .ref h), (1, .ref q1), (4, .int x4), (6, .int x6), (7, .int x7)]) hx hb d_Reader_readEntry_85 hl (by decide) rfl (fun ls hl => ?_)
  refine lv_iload hx hb d_Reader_readEntry_87 (lv_at hl 0 rfl) ?_
  refine lv_if_eq (tgt := 105) hx hb d_Reader_readEntry_89 (by decide) (fun hc89 => ?_) (fun hc89 => ?_)
  · have hf := ip hc89 hf
    refine lv_aload_n hx hb d_Reader_readEntry_105 rfl (lv_at hl 1 rfl) ?_
    refine lv_iconst (v := 0) hx hb d_Reader_readEntry_106 (by decide) ?_
    obtain ⟨r107, hr107, hf⟩ := ob hf
    refine fnV (rest := []) (wr := [(q1, .inr (2, [.ref q1_kinds, .ref q1_differences, .ref q1_partsA, .ref q1_partsB, .int e1.2.2.2.2])), (q1_kinds, .inl (cI, 300, .inl e1.1)), (q1_differences, .inl (cL, 300, .inr (.inl e1.2.1))), (q1_partsA, .inl (cL, 300, .inr (.inl e1.2.2.1))), (q1_partsB, .inl (cI, 300, .inl e1.2.2.2.1))]) (w2 := [(h, .inr (4, [.ref h_log, .ref h_past, .int r107.2.2.2.1, .int r107.2.2.2.2.1, .int r107.2.2.2.2.2])), (h_log, .inr (0, [.ref h_log_row, .int r107.2.1.2])), (h_log_row, .inl (cI, 5000, .inl r107.2.1.1)), (h_past, .inr (1, [.ref h_past_typed, .int r107.2.2.1.2.1, .int r107.2.2.1.2.2])), (h_past_typed, .inl (cI, 300, .inl r107.2.2.1.1)), (q1, .inr (2, [.ref q1_kinds, .ref q1_differences, .ref q1_partsA, .ref q1_partsB, .int e1.2.2.2.2])), (q1_kinds, .inl (cI, 300, .inl e1.1)), (q1_differences, .inl (cL, 300, .inr (.inl e1.2.1))), (q1_partsA, .inl (cL, 300, .inr (.inl e1.2.2.1))), (q1_partsB, .inl (cI, 300, .inl e1.2.2.2.1))]) (st2 := [.long r107.1]) C (c_Reader_readVarint l D cI cL h h_log h_log_row h_past h_past_typed st 0 r107 hr107) (cV hts kV_Reader_readVarint wd_281 ⟨Nat.le_of_ble_eq_true rfl, Nat.le_of_ble_eq_true rfl⟩) hH [0, 1, 2, 3, 4] [5, 6, 7, 8, 9] [5, 6, 7, 8, 9, 0, 1, 2, 3, 4] rfl rfl rfl rfl (by decide) rfl rfl 0 rfl rfl rfl hl.1 rfl (Nat.le_of_ble_eq_true rfl) d_Reader_readEntry_107 ⟨Nat.le_of_ble_eq_true rfl, Nat.le_of_ble_eq_true rfl⟩ rfl (fun H locs hH => ?_)
    exact w_Reader_readEntry_b110 l D cI cL h h_log h_log_row h_past h_past_typed q1 q1_kinds q1_differences q1_partsA q1_partsB C r107.2 e1 x4 x6 x7 r107.1 res hf _ _ _ hH (lv_sub hl [1, 2, 3, 4, 5] rfl)
  · have hf := im hc89 hf
    refine lv_aload_n hx hb d_Reader_readEntry_92 rfl (lv_at hl 2 rfl) ?_
    refine lv_aload_n hx hb d_Reader_readEntry_93 rfl (lv_at hl 2 rfl) ?_
    refine fnVR (rest := [.ref q1]) (st2 := [.int (f_Events_number e1), .ref q1]) C (c_Events_number l D cI cL q1 q1_kinds q1_differences q1_partsA q1_partsB e1 _ rfl) (cV hts kV_Events_number wd_307 ⟨Nat.le_of_ble_eq_true rfl, Nat.le_of_ble_eq_true rfl⟩) hH [5, 6, 7, 8, 9] rfl rfl 0 rfl rfl rfl hl.1 rfl (Nat.le_of_ble_eq_true rfl) d_Reader_readEntry_94 ⟨Nat.le_of_ble_eq_true rfl, Nat.le_of_ble_eq_true rfl⟩ rfl (fun H locs hH => ?_)
    refine lv_iconst (v := 1) hx hb d_Reader_readEntry_97 (by decide) ?_
    refine lv_isub hx hb d_Reader_readEntry_98 ?_
    refine fnVR (rest := []) (st2 := [.long (f_Events_difference e1 ((f_Events_number e1) - 1))]) C (c_Events_difference l D cI cL q1 q1_kinds q1_differences q1_partsA q1_partsB e1 ((f_Events_number e1) - 1) _ rfl) (cV hts kV_Events_difference wd_320 ⟨Nat.le_of_ble_eq_true rfl, Nat.le_of_ble_eq_true rfl⟩) hH [5, 6, 7, 8, 9] rfl rfl 0 rfl rfl rfl hl.1 rfl (Nat.le_of_ble_eq_true rfl) d_Reader_readEntry_99 ⟨Nat.le_of_ble_eq_true rfl, Nat.le_of_ble_eq_true rfl⟩ rfl (fun H locs hH => ?_)
    refine lv_goto (tgt := 110) hx hb d_Reader_readEntry_102 (by decide) ?_
    exact w_Reader_readEntry_b110 l D cI cL h h_log h_log_row h_past h_past_typed q1 q1_kinds q1_differences q1_partsA q1_partsB C st e1 x4 x6 x7 (f_Events_difference e1 ((f_Events_number e1) - 1)) res hf _ _ _ hH (lv_sub hl [1, 2, 3, 4, 5] rfl)
def f_Reader_readEntry_b34 (st : S_Reader) (e1 : S_Events) (x2 : Int64) (x4 : Int32) (x5 : Int32) : Option (S_Reader × S_Events) :=
  if (bI (f_Reader_isFine st)) = 0 then (some ((st, e1))) else (if (x5 &&& 7) = (5 : Int32) then ((f_Reader_readRun st e1 x2 (x5 >>> (4 &&& 31)) x4).bind (fun r68 => some ((r68.1, r68.2)))) else (if (x5 &&& 8) = 0 then (f_Reader_readEntry_b85 st e1 x4 (x5 &&& 7) (x5 >>> (4 &&& 31)) 0) else (f_Reader_readEntry_b85 st e1 x4 (x5 &&& 7) (x5 >>> (4 &&& 31)) 1)))
set_option maxRecDepth 100000 in
set_option maxHeartbeats 4000000 in
theorem w_Reader_readEntry_b34 (l : Launch) (D : va_G) (cI cL : ClassId) (h h_log h_log_row h_past h_past_typed q1 q1_kinds q1_differences q1_partsA q1_partsB : Nat) {p : Program} {e : Env} {s : State} {m : MethodId} {args : Array Value} {below : List Frame} {meth : Method} {c : Code} {A : Nat → Prop} (C : Cx p s m args meth c D vwCl [(cI, .int), (cL, .long)] A b_Reader_readEntry 11 none ws_Reader_readEntry y_Reader_readEntry.cls) : ∀ (st : S_Reader) (e1 : S_Events) (x2 : Int64) (x4 : Int32) (x5 : Int32) (res : S_Reader × S_Events), f_Reader_readEntry_b34 st e1 x2 x4 x5 = some res → ∀ (H : Heap) (locs : List Loc) (ls : Array Slot), Hp D vwCl A A s.heap H locs [(h, .inr (4, [.ref h_log, .ref h_past, .int st.2.2.1, .int st.2.2.2.1, .int st.2.2.2.2])), (h_log, .inr (0, [.ref h_log_row, .int st.1.2])), (h_log_row, .inl (cI, 5000, .inl st.1.1)), (h_past, .inr (1, [.ref h_past_typed, .int st.2.1.2.1, .int st.2.1.2.2])), (h_past_typed, .inl (cI, 300, .inl st.2.1.1)), (q1, .inr (2, [.ref q1_kinds, .ref q1_differences, .ref q1_partsA, .ref q1_partsB, .int e1.2.2.2.2])), (q1_kinds, .inl (cI, 300, .inl e1.1)), (q1_differences, .inl (cL, 300, .inr (.inl e1.2.1))), (q1_partsA, .inl (cL, 300, .inr (.inl e1.2.2.1))), (q1_partsB, .inl (cI, 300, .inl e1.2.2.2.1))] → lv_has ls 11 [(0, .ref h), (1, .ref q1), (2, .long x2), (4, .int x4), (5, .int x5)] → W p l e { frames := 4, cells := 0, slots := 0, locals := 99 } s m args below meth c H locs 0 0 (MQ below (Qw D vwCl [(cI, .int), (cL, .long)] (none) A [(h, .inr (4, [.ref h_log, .ref h_past, .int res.1.2.2.1, .int res.1.2.2.2.1, .int res.1.2.2.2.2])), (h_log, .inr (0, [.ref h_log_row, .int res.1.1.2])), (h_log_row, .inl (cI, 5000, .inl res.1.1.1)), (h_past, .inr (1, [.ref h_past_typed, .int res.1.2.1.2.1, .int res.1.2.1.2.2])), (h_past_typed, .inl (cI, 300, .inl res.1.2.1.1)), (q1, .inr (2, [.ref q1_kinds, .ref q1_differences, .ref q1_partsA, .ref q1_partsB, .int res.2.2.2.2.2])), (q1_kinds, .inl (cI, 300, .inl res.2.1)), (q1_differences, .inl (cL, 300, .inr (.inl res.2.2.1))), (q1_partsA, .inl (cL, 300, .inr (.inl res.2.2.2.1))), (q1_partsB, .inl (cI, 300, .inl res.2.2.2.2.1))]) args s 0 0 A) (F0 m 34 ls []) := by
  obtain ⟨hx, hb, hr, hml, hown, hts, hlk, hK, hA⟩ := id C
  intro st e1 x2 x4 x5 res hf H locs ls hH hl
  unfold f_Reader_readEntry_b34 at hf
  refine lv_aload_n hx hb d_Reader_readEntry_34 rfl (lv_at hl 0 rfl) ?_
  refine fnVR (rest := []) (st2 := [.int (bI (f_Reader_isFine st))]) C (c_Reader_isFine l D cI cL h h_log h_log_row h_past h_past_typed st _ rfl) (cV hts kV_Reader_isFine wd_301 ⟨Nat.le_of_ble_eq_true rfl, Nat.le_of_ble_eq_true rfl⟩) hH [0, 1, 2, 3, 4] rfl rfl 0 rfl rfl rfl hl.1 rfl (Nat.le_of_ble_eq_true rfl) d_Reader_readEntry_35 ⟨Nat.le_of_ble_eq_true rfl, Nat.le_of_ble_eq_true rfl⟩ rfl (fun H locs hH => ?_)
  refine lv_if_ne (tgt := 42) hx hb d_Reader_readEntry_38 (by decide) (fun hc38 => ?_) (fun hc38 => ?_)
  · have hf := im hc38 hf
    refine lv_iload hx hb d_Reader_readEntry_42 (lv_at hl 4 rfl) ?_
    refine lv_bipush (v := 7) hx hb d_Reader_readEntry_44 (by decide) ?_
    refine lv_iand hx hb d_Reader_readEntry_46 ?_
    refine lv_istore (lv' := [(6, .int (x5 &&& 7)), (0, .ref h), (1, .ref q1), (2, .long x2), (4, .int x4), (5, .int x5)]) hx hb d_Reader_readEntry_47 hl (by decide) rfl (fun ls hl => ?_)
    refine lv_iload hx hb d_Reader_readEntry_49 (lv_at hl 5 rfl) ?_
    refine lv_iconst (v := 4) hx hb d_Reader_readEntry_51 (by decide) ?_
    refine lv_ishr hx hb d_Reader_readEntry_52 ?_
    refine lv_istore (lv' := [(7, .int (x5 >>> (4 &&& 31))), (6, .int (x5 &&& 7)), (0, .ref h), (1, .ref q1), (2, .long x2), (4, .int x4), (5, .int x5)]) hx hb d_Reader_readEntry_53 hl (by decide) rfl (fun ls hl => ?_)
    refine lv_iload hx hb d_Reader_readEntry_55 (lv_at hl 1 rfl) ?_
    refine lv_iconst (v := 5) hx hb d_Reader_readEntry_57 (by decide) ?_
    refine lv_icmp_ne (tgt := 72) hx hb d_Reader_readEntry_58 (by decide) (fun hc58 => ?_) (fun hc58 => ?_)
    · have hf := im hc58 hf
      refine lv_iload hx hb d_Reader_readEntry_72 (lv_at hl 6 rfl) ?_
      refine lv_bipush (v := 8) hx hb d_Reader_readEntry_74 (by decide) ?_
      refine lv_iand hx hb d_Reader_readEntry_76 ?_
      refine lv_if_eq (tgt := 84) hx hb d_Reader_readEntry_77 (by decide) (fun hc77 => ?_) (fun hc77 => ?_)
      · have hf := ip hc77 hf
        refine lv_iconst (v := 0) hx hb d_Reader_readEntry_84 (by decide) ?_
        exact w_Reader_readEntry_b85 l D cI cL h h_log h_log_row h_past h_past_typed q1 q1_kinds q1_differences q1_partsA q1_partsB C st e1 x4 (x5 &&& 7) (x5 >>> (4 &&& 31)) 0 res hf _ _ _ hH (lv_sub hl [2, 3, 5, 1, 0] rfl)
      · have hf := im hc77 hf
        refine lv_iconst (v := 1) hx hb d_Reader_readEntry_80 (by decide) ?_
        refine lv_goto (tgt := 85) hx hb d_Reader_readEntry_81 (by decide) ?_
        exact w_Reader_readEntry_b85 l D cI cL h h_log h_log_row h_past h_past_typed q1 q1_kinds q1_differences q1_partsA q1_partsB C st e1 x4 (x5 &&& 7) (x5 >>> (4 &&& 31)) 1 res hf _ _ _ hH (lv_sub hl [2, 3, 5, 1, 0] rfl)
    · have hf := ip hc58 hf
      refine lv_aload_n hx hb d_Reader_readEntry_61 rfl (lv_at hl 2 rfl) ?_
      refine lv_aload_n hx hb d_Reader_readEntry_62 rfl (lv_at hl 3 rfl) ?_
      refine lv_lload_n hx hb d_Reader_readEntry_63 rfl (lv_at hl 4 rfl) ?_
      refine lv_iload hx hb d_Reader_readEntry_64 (lv_at hl 0 rfl) ?_
      refine lv_iload hx hb d_Reader_readEntry_66 (lv_at hl 5 rfl) ?_
      obtain ⟨r68, hr68, hf⟩ := ob hf
      refine fnV (rest := []) (wr := []) (w2 := [(h, .inr (4, [.ref h_log, .ref h_past, .int r68.1.2.2.1, .int r68.1.2.2.2.1, .int r68.1.2.2.2.2])), (h_log, .inr (0, [.ref h_log_row, .int r68.1.1.2])), (h_log_row, .inl (cI, 5000, .inl r68.1.1.1)), (h_past, .inr (1, [.ref h_past_typed, .int r68.1.2.1.2.1, .int r68.1.2.1.2.2])), (h_past_typed, .inl (cI, 300, .inl r68.1.2.1.1)), (q1, .inr (2, [.ref q1_kinds, .ref q1_differences, .ref q1_partsA, .ref q1_partsB, .int r68.2.2.2.2.2])), (q1_kinds, .inl (cI, 300, .inl r68.2.1)), (q1_differences, .inl (cL, 300, .inr (.inl r68.2.2.1))), (q1_partsA, .inl (cL, 300, .inr (.inl r68.2.2.2.1))), (q1_partsB, .inl (cI, 300, .inl r68.2.2.2.2.1))]) (st2 := []) C (c_Reader_readRun l D cI cL h h_log h_log_row h_past h_past_typed q1 q1_kinds q1_differences q1_partsA q1_partsB st e1 x2 (x5 >>> (4 &&& 31)) x4 r68 hr68) (cV hts kV_Reader_readRun wd_315 ⟨Nat.le_of_ble_eq_true rfl, Nat.le_of_ble_eq_true rfl⟩) hH [0, 1, 2, 3, 4, 5, 6, 7, 8, 9] [] [0, 1, 2, 3, 4, 5, 6, 7, 8, 9] rfl rfl rfl rfl (by decide) rfl rfl 0 rfl rfl rfl hl.1 rfl (Nat.le_of_ble_eq_true rfl) d_Reader_readEntry_68 ⟨Nat.le_of_ble_eq_true rfl, Nat.le_of_ble_eq_true rfl⟩ rfl (fun H locs hH => ?_)
      have hf := Option.some.inj hf
      subst hf
      exact rV C hH d_Reader_readEntry_71
  · have hf := ip hc38 hf
    have hf := Option.some.inj hf
    subst hf
    exact rV C hH d_Reader_readEntry_41
def f_Reader_readEntry (st : S_Reader) (e1 : S_Events) (x2 : Int64) : Option (S_Reader × S_Events) :=
  lt1 (f_Reader_readByte st) (fun r7 => if (bI (f_Reader_isFine r7.2)) = 0 then (f_Reader_readEntry_b34 r7.2 e1 x2 st.2.2.1 r7.1) else (if (bI (f_Reader_isHead r7.1)) = 0 then (lt1 (f_Reader_fail r7.2 1 st.2.2.1) (fun r31 => f_Reader_readEntry_b34 r31 e1 x2 st.2.2.1 r7.1)) else (f_Reader_readEntry_b34 r7.2 e1 x2 st.2.2.1 r7.1)))
set_option maxRecDepth 100000 in
set_option maxHeartbeats 4000000 in
theorem c_Reader_readEntry (l : Launch) (D : va_G) (cI cL : ClassId) (h h_log h_log_row h_past h_past_typed q1 q1_kinds q1_differences q1_partsA q1_partsB : Nat) (st : S_Reader) (e1 : S_Events) (x2 : Int64) (res : S_Reader × S_Events) (hf : f_Reader_readEntry st e1 x2 = some res) :
    Fn l D vwCl [(cI, .int), (cL, .long)] y_Reader_readEntry ws_Reader_readEntry { frames := 4, cells := 0, slots := 0, locals := 99 } [.ref h, .ref q1, .long x2] [(h, .inr (4, [.ref h_log, .ref h_past, .int st.2.2.1, .int st.2.2.2.1, .int st.2.2.2.2])), (h_log, .inr (0, [.ref h_log_row, .int st.1.2])), (h_log_row, .inl (cI, 5000, .inl st.1.1)), (h_past, .inr (1, [.ref h_past_typed, .int st.2.1.2.1, .int st.2.1.2.2])), (h_past_typed, .inl (cI, 300, .inl st.2.1.1)), (q1, .inr (2, [.ref q1_kinds, .ref q1_differences, .ref q1_partsA, .ref q1_partsB, .int e1.2.2.2.2])), (q1_kinds, .inl (cI, 300, .inl e1.1)), (q1_differences, .inl (cL, 300, .inr (.inl e1.2.1))), (q1_partsA, .inl (cL, 300, .inr (.inl e1.2.2.1))), (q1_partsB, .inl (cI, 300, .inl e1.2.2.2.1))] (none) [(h, .inr (4, [.ref h_log, .ref h_past, .int res.1.2.2.1, .int res.1.2.2.2.1, .int res.1.2.2.2.2])), (h_log, .inr (0, [.ref h_log_row, .int res.1.1.2])), (h_log_row, .inl (cI, 5000, .inl res.1.1.1)), (h_past, .inr (1, [.ref h_past_typed, .int res.1.2.1.2.1, .int res.1.2.1.2.2])), (h_past_typed, .inl (cI, 300, .inl res.1.2.1.1)), (q1, .inr (2, [.ref q1_kinds, .ref q1_differences, .ref q1_partsA, .ref q1_partsB, .int res.2.2.2.2.2])), (q1_kinds, .inl (cI, 300, .inl res.2.1)), (q1_differences, .inl (cL, 300, .inr (.inl res.2.2.1))), (q1_partsA, .inl (cL, 300, .inr (.inl res.2.2.2.1))), (q1_partsB, .inl (cI, 300, .inl res.2.2.2.2.1))] := by
  refine Fn.ofW (cc := b_Reader_readEntry) (maxL := 11) (ret := none) (by decide) rfl (Nat.le_of_ble_eq_true rfl) ?_
  intro p e s m below meth c A ls C hH hinit hl
  have hl : lv_has ls 11 [(0, .ref h), (1, .ref q1), (2, .long x2)] := hl
  obtain ⟨hx, hb, hr, hml, hown, hts, hlk, hK, hA⟩ := id C
  unfold f_Reader_readEntry at hf
  refine lv_aload_n hx hb d_Reader_readEntry_0 rfl (lv_at hl 0 rfl) ?_
  refine gt (ci := 4) (v := .int st.2.2.1) C hH (iwT iw_Reader) 0 rfl rfl 2 (by decide) (.tail _ wd_117) rfl d_Reader_readEntry_1 ?_
  refine lv_istore (lv' := [(4, .int st.2.2.1), (0, .ref h), (1, .ref q1), (2, .long x2)]) hx hb d_Reader_readEntry_4 hl (by decide) rfl (fun ls hl => ?_)
  refine lv_aload_n hx hb d_Reader_readEntry_6 rfl (lv_at hl 1 rfl) ?_
  obtain ⟨r7, hr7, hf⟩ := lb hf
  refine fnV (rest := []) (wr := [(q1, .inr (2, [.ref q1_kinds, .ref q1_differences, .ref q1_partsA, .ref q1_partsB, .int e1.2.2.2.2])), (q1_kinds, .inl (cI, 300, .inl e1.1)), (q1_differences, .inl (cL, 300, .inr (.inl e1.2.1))), (q1_partsA, .inl (cL, 300, .inr (.inl e1.2.2.1))), (q1_partsB, .inl (cI, 300, .inl e1.2.2.2.1))]) (w2 := [(h, .inr (4, [.ref h_log, .ref h_past, .int r7.2.2.2.1, .int r7.2.2.2.2.1, .int r7.2.2.2.2.2])), (h_log, .inr (0, [.ref h_log_row, .int r7.2.1.2])), (h_log_row, .inl (cI, 5000, .inl r7.2.1.1)), (h_past, .inr (1, [.ref h_past_typed, .int r7.2.2.1.2.1, .int r7.2.2.1.2.2])), (h_past_typed, .inl (cI, 300, .inl r7.2.2.1.1)), (q1, .inr (2, [.ref q1_kinds, .ref q1_differences, .ref q1_partsA, .ref q1_partsB, .int e1.2.2.2.2])), (q1_kinds, .inl (cI, 300, .inl e1.1)), (q1_differences, .inl (cL, 300, .inr (.inl e1.2.1))), (q1_partsA, .inl (cL, 300, .inr (.inl e1.2.2.1))), (q1_partsB, .inl (cI, 300, .inl e1.2.2.2.1))]) (st2 := [.int r7.1]) C (c_Reader_readByte l D cI cL h h_log h_log_row h_past h_past_typed st r7 hr7) (cV hts kV_Reader_readByte wd_285 ⟨Nat.le_of_ble_eq_true rfl, Nat.le_of_ble_eq_true rfl⟩) hH [0, 1, 2, 3, 4] [5, 6, 7, 8, 9] [5, 6, 7, 8, 9, 0, 1, 2, 3, 4] rfl rfl rfl rfl (by decide) rfl rfl 0 rfl rfl rfl hl.1 rfl (Nat.le_of_ble_eq_true rfl) d_Reader_readEntry_7 ⟨Nat.le_of_ble_eq_true rfl, Nat.le_of_ble_eq_true rfl⟩ rfl (fun H locs hH => ?_)
  refine lv_istore (lv' := [(5, .int r7.1), (4, .int st.2.2.1), (0, .ref h), (1, .ref q1), (2, .long x2)]) hx hb d_Reader_readEntry_10 hl (by decide) rfl (fun ls hl => ?_)
  refine lv_aload_n hx hb d_Reader_readEntry_12 rfl (lv_at hl 2 rfl) ?_
  refine fnVR (rest := []) (st2 := [.int (bI (f_Reader_isFine r7.2))]) C (c_Reader_isFine l D cI cL h h_log h_log_row h_past h_past_typed r7.2 _ rfl) (cV hts kV_Reader_isFine wd_301 ⟨Nat.le_of_ble_eq_true rfl, Nat.le_of_ble_eq_true rfl⟩) hH [0, 1, 2, 3, 4] rfl rfl 0 rfl rfl rfl hl.1 rfl (Nat.le_of_ble_eq_true rfl) d_Reader_readEntry_13 ⟨Nat.le_of_ble_eq_true rfl, Nat.le_of_ble_eq_true rfl⟩ rfl (fun H locs hH => ?_)
  refine lv_if_eq (tgt := 34) hx hb d_Reader_readEntry_16 (by decide) (fun hc16 => ?_) (fun hc16 => ?_)
  · have hf := ip hc16 hf
    exact w_Reader_readEntry_b34 l D cI cL h h_log h_log_row h_past h_past_typed q1 q1_kinds q1_differences q1_partsA q1_partsB C r7.2 e1 x2 st.2.2.1 r7.1 res hf _ _ _ hH (lv_sub hl [2, 3, 4, 1, 0] rfl)
  · have hf := im hc16 hf
    refine lv_iload hx hb d_Reader_readEntry_19 (lv_at hl 0 rfl) ?_
    refine fnSR (rest := []) (st2 := [.int (bI (f_Reader_isHead r7.1))]) C (c_Reader_isHead l D cI cL  r7.1 _ rfl) (cS hts kS_Reader_isHead wd_312 ⟨Nat.le_of_ble_eq_true rfl, Nat.le_of_ble_eq_true rfl⟩) hH [] rfl rfl rfl hl.1 rfl (Nat.le_of_ble_eq_true rfl) d_Reader_readEntry_21 ⟨Nat.le_of_ble_eq_true rfl, Nat.le_of_ble_eq_true rfl⟩ rfl (fun H locs hH => ?_)
    refine lv_if_ne (tgt := 34) hx hb d_Reader_readEntry_24 (by decide) (fun hc24 => ?_) (fun hc24 => ?_)
    · have hf := im hc24 hf
      exact w_Reader_readEntry_b34 l D cI cL h h_log h_log_row h_past h_past_typed q1 q1_kinds q1_differences q1_partsA q1_partsB C r7.2 e1 x2 st.2.2.1 r7.1 res hf _ _ _ hH (lv_sub hl [2, 3, 4, 1, 0] rfl)
    · have hf := ip hc24 hf
      refine lv_aload_n hx hb d_Reader_readEntry_27 rfl (lv_at hl 2 rfl) ?_
      refine lv_iconst (v := 1) hx hb d_Reader_readEntry_28 (by decide) ?_
      refine lv_iload hx hb d_Reader_readEntry_29 (lv_at hl 1 rfl) ?_
      obtain ⟨r31, hr31, hf⟩ := lb hf
      refine fnV (rest := []) (wr := [(q1, .inr (2, [.ref q1_kinds, .ref q1_differences, .ref q1_partsA, .ref q1_partsB, .int e1.2.2.2.2])), (q1_kinds, .inl (cI, 300, .inl e1.1)), (q1_differences, .inl (cL, 300, .inr (.inl e1.2.1))), (q1_partsA, .inl (cL, 300, .inr (.inl e1.2.2.1))), (q1_partsB, .inl (cI, 300, .inl e1.2.2.2.1))]) (w2 := [(h, .inr (4, [.ref h_log, .ref h_past, .int r31.2.2.1, .int r31.2.2.2.1, .int r31.2.2.2.2])), (h_log, .inr (0, [.ref h_log_row, .int r31.1.2])), (h_log_row, .inl (cI, 5000, .inl r31.1.1)), (h_past, .inr (1, [.ref h_past_typed, .int r31.2.1.2.1, .int r31.2.1.2.2])), (h_past_typed, .inl (cI, 300, .inl r31.2.1.1)), (q1, .inr (2, [.ref q1_kinds, .ref q1_differences, .ref q1_partsA, .ref q1_partsB, .int e1.2.2.2.2])), (q1_kinds, .inl (cI, 300, .inl e1.1)), (q1_differences, .inl (cL, 300, .inr (.inl e1.2.1))), (q1_partsA, .inl (cL, 300, .inr (.inl e1.2.2.1))), (q1_partsB, .inl (cI, 300, .inl e1.2.2.2.1))]) (st2 := []) C (c_Reader_fail l D cI cL h h_log h_log_row h_past h_past_typed r7.2 1 st.2.2.1 r31 hr31) (cV hts kV_Reader_fail wd_293 ⟨Nat.le_of_ble_eq_true rfl, Nat.le_of_ble_eq_true rfl⟩) hH [0, 1, 2, 3, 4] [5, 6, 7, 8, 9] [5, 6, 7, 8, 9, 0, 1, 2, 3, 4] rfl rfl rfl rfl (by decide) rfl rfl 0 rfl rfl rfl hl.1 rfl (Nat.le_of_ble_eq_true rfl) d_Reader_readEntry_31 ⟨Nat.le_of_ble_eq_true rfl, Nat.le_of_ble_eq_true rfl⟩ rfl (fun H locs hH => ?_)
      exact w_Reader_readEntry_b34 l D cI cL h h_log h_log_row h_past h_past_typed q1 q1_kinds q1_differences q1_partsA q1_partsB C r31 e1 x2 st.2.2.1 r7.1 res hf _ _ _ hH (lv_sub hl [2, 3, 4, 1, 0] rfl)
def f_Reader_run_b104 (st : S_Reader) (e1 : S_Events)  : Option (Int32 × S_Reader × S_Events) :=
  if (bI (f_Reader_isFine st)) = 0 then (some ((((-1) : Int32) - (st.2.2.2.1 + ((8 : Int32) * st.2.2.2.2)), st, e1))) else (some ((f_Events_number e1, st, e1)))
set_option maxRecDepth 100000 in
set_option maxHeartbeats 4000000 in
theorem w_Reader_run_b104 (l : Launch) (D : va_G) (cI cL : ClassId) (h h_log h_log_row h_past h_past_typed q1 q1_kinds q1_differences q1_partsA q1_partsB : Nat) {p : Program} {e : Env} {s : State} {m : MethodId} {args : Array Value} {below : List Frame} {meth : Method} {c : Code} {A : Nat → Prop} (C : Cx p s m args meth c D vwCl [(cI, .int), (cL, .long)] A b_Reader_run 5 (some .int) ws_Reader_run y_Reader_run.cls) : ∀ (st : S_Reader) (e1 : S_Events)  (res : Int32 × S_Reader × S_Events), f_Reader_run_b104 st e1 = some res → ∀ (H : Heap) (locs : List Loc) (ls : Array Slot), Hp D vwCl A A s.heap H locs [(h, .inr (4, [.ref h_log, .ref h_past, .int st.2.2.1, .int st.2.2.2.1, .int st.2.2.2.2])), (h_log, .inr (0, [.ref h_log_row, .int st.1.2])), (h_log_row, .inl (cI, 5000, .inl st.1.1)), (h_past, .inr (1, [.ref h_past_typed, .int st.2.1.2.1, .int st.2.1.2.2])), (h_past_typed, .inl (cI, 300, .inl st.2.1.1)), (q1, .inr (2, [.ref q1_kinds, .ref q1_differences, .ref q1_partsA, .ref q1_partsB, .int e1.2.2.2.2])), (q1_kinds, .inl (cI, 300, .inl e1.1)), (q1_differences, .inl (cL, 300, .inr (.inl e1.2.1))), (q1_partsA, .inl (cL, 300, .inr (.inl e1.2.2.1))), (q1_partsB, .inl (cI, 300, .inl e1.2.2.2.1))] → lv_has ls 5 [(0, .ref h), (1, .ref q1)] → W p l e { frames := 5, cells := 0, slots := 0, locals := 129 } s m args below meth c H locs 0 0 (MQ below (Qw D vwCl [(cI, .int), (cL, .long)] (some (.int res.1)) A [(h, .inr (4, [.ref h_log, .ref h_past, .int res.2.1.2.2.1, .int res.2.1.2.2.2.1, .int res.2.1.2.2.2.2])), (h_log, .inr (0, [.ref h_log_row, .int res.2.1.1.2])), (h_log_row, .inl (cI, 5000, .inl res.2.1.1.1)), (h_past, .inr (1, [.ref h_past_typed, .int res.2.1.2.1.2.1, .int res.2.1.2.1.2.2])), (h_past_typed, .inl (cI, 300, .inl res.2.1.2.1.1)), (q1, .inr (2, [.ref q1_kinds, .ref q1_differences, .ref q1_partsA, .ref q1_partsB, .int res.2.2.2.2.2.2])), (q1_kinds, .inl (cI, 300, .inl res.2.2.1)), (q1_differences, .inl (cL, 300, .inr (.inl res.2.2.2.1))), (q1_partsA, .inl (cL, 300, .inr (.inl res.2.2.2.2.1))), (q1_partsB, .inl (cI, 300, .inl res.2.2.2.2.2.1))]) args s 0 0 A) (F0 m 104 ls []) := by
  obtain ⟨hx, hb, hr, hml, hown, hts, hlk, hK, hA⟩ := id C
  intro st e1 res hf H locs ls hH hl
  unfold f_Reader_run_b104 at hf
  refine lv_aload_n hx hb d_Reader_run_104 rfl (lv_at hl 0 rfl) ?_
  refine fnVR (rest := []) (st2 := [.int (bI (f_Reader_isFine st))]) C (c_Reader_isFine l D cI cL h h_log h_log_row h_past h_past_typed st _ rfl) (cV hts kV_Reader_isFine wd_301 ⟨Nat.le_of_ble_eq_true rfl, Nat.le_of_ble_eq_true rfl⟩) hH [0, 1, 2, 3, 4] rfl rfl 0 rfl rfl rfl hl.1 rfl (Nat.le_of_ble_eq_true rfl) d_Reader_run_105 ⟨Nat.le_of_ble_eq_true rfl, Nat.le_of_ble_eq_true rfl⟩ rfl (fun H locs hH => ?_)
  refine lv_if_eq (tgt := 118) hx hb d_Reader_run_108 (by decide) (fun hc108 => ?_) (fun hc108 => ?_)
  · have hf := ip hc108 hf
    refine lv_iconst (v := (-1)) hx hb d_Reader_run_118 (by decide) ?_
    refine lv_aload_n hx hb d_Reader_run_119 rfl (lv_at hl 0 rfl) ?_
    refine gt (ci := 4) (v := .int st.2.2.2.1) C hH (iwT iw_Reader) 0 rfl rfl 3 (by decide) (.tail _ wd_118) rfl d_Reader_run_120 ?_
    refine lv_bipush (v := 8) hx hb d_Reader_run_123 (by decide) ?_
    refine lv_aload_n hx hb d_Reader_run_125 rfl (lv_at hl 0 rfl) ?_
    refine gt (ci := 4) (v := .int st.2.2.2.2) C hH (iwT iw_Reader) 0 rfl rfl 4 (by decide) (.tail _ wd_119) rfl d_Reader_run_126 ?_
    refine lv_imul hx hb d_Reader_run_129 ?_
    refine lv_iadd hx hb d_Reader_run_130 ?_
    refine lv_isub hx hb d_Reader_run_131 ?_
    have hf := Option.some.inj hf
    subst hf
    exact rI (v := ((-1) : Int32) - (st.2.2.2.1 + ((8 : Int32) * st.2.2.2.2))) C hH d_Reader_run_132
  · have hf := im hc108 hf
    refine lv_aload_n hx hb d_Reader_run_111 rfl (lv_at hl 1 rfl) ?_
    refine fnVR (rest := []) (st2 := [.int (f_Events_number e1)]) C (c_Events_number l D cI cL q1 q1_kinds q1_differences q1_partsA q1_partsB e1 _ rfl) (cV hts kV_Events_number wd_307 ⟨Nat.le_of_ble_eq_true rfl, Nat.le_of_ble_eq_true rfl⟩) hH [5, 6, 7, 8, 9] rfl rfl 0 rfl rfl rfl hl.1 rfl (Nat.le_of_ble_eq_true rfl) d_Reader_run_112 ⟨Nat.le_of_ble_eq_true rfl, Nat.le_of_ble_eq_true rfl⟩ rfl (fun H locs hH => ?_)
    refine lv_goto (tgt := 132) hx hb d_Reader_run_115 (by decide) ?_
    have hf := Option.some.inj hf
    subst hf
    exact rI (v := f_Events_number e1) C hH d_Reader_run_132
def f_Reader_run_b73 (st : S_Reader) (e1 : S_Events)  : Option (Int32 × S_Reader × S_Events) :=
  if (bI (f_Reader_isFine st)) = 0 then (f_Reader_run_b104 st e1) else (if (f_Bytes_length st.1) ≤ st.2.2.1 then (f_Reader_run_b104 st e1) else (lt1 (f_Reader_fail st 7 st.2.2.1) (fun r101 => f_Reader_run_b104 r101 e1)))
set_option maxRecDepth 100000 in
set_option maxHeartbeats 4000000 in
theorem w_Reader_run_b73 (l : Launch) (D : va_G) (cI cL : ClassId) (h h_log h_log_row h_past h_past_typed q1 q1_kinds q1_differences q1_partsA q1_partsB : Nat) {p : Program} {e : Env} {s : State} {m : MethodId} {args : Array Value} {below : List Frame} {meth : Method} {c : Code} {A : Nat → Prop} (C : Cx p s m args meth c D vwCl [(cI, .int), (cL, .long)] A b_Reader_run 5 (some .int) ws_Reader_run y_Reader_run.cls) : ∀ (st : S_Reader) (e1 : S_Events)  (res : Int32 × S_Reader × S_Events), f_Reader_run_b73 st e1 = some res → ∀ (H : Heap) (locs : List Loc) (ls : Array Slot), Hp D vwCl A A s.heap H locs [(h, .inr (4, [.ref h_log, .ref h_past, .int st.2.2.1, .int st.2.2.2.1, .int st.2.2.2.2])), (h_log, .inr (0, [.ref h_log_row, .int st.1.2])), (h_log_row, .inl (cI, 5000, .inl st.1.1)), (h_past, .inr (1, [.ref h_past_typed, .int st.2.1.2.1, .int st.2.1.2.2])), (h_past_typed, .inl (cI, 300, .inl st.2.1.1)), (q1, .inr (2, [.ref q1_kinds, .ref q1_differences, .ref q1_partsA, .ref q1_partsB, .int e1.2.2.2.2])), (q1_kinds, .inl (cI, 300, .inl e1.1)), (q1_differences, .inl (cL, 300, .inr (.inl e1.2.1))), (q1_partsA, .inl (cL, 300, .inr (.inl e1.2.2.1))), (q1_partsB, .inl (cI, 300, .inl e1.2.2.2.1))] → lv_has ls 5 [(0, .ref h), (1, .ref q1)] → W p l e { frames := 5, cells := 0, slots := 0, locals := 129 } s m args below meth c H locs 0 0 (MQ below (Qw D vwCl [(cI, .int), (cL, .long)] (some (.int res.1)) A [(h, .inr (4, [.ref h_log, .ref h_past, .int res.2.1.2.2.1, .int res.2.1.2.2.2.1, .int res.2.1.2.2.2.2])), (h_log, .inr (0, [.ref h_log_row, .int res.2.1.1.2])), (h_log_row, .inl (cI, 5000, .inl res.2.1.1.1)), (h_past, .inr (1, [.ref h_past_typed, .int res.2.1.2.1.2.1, .int res.2.1.2.1.2.2])), (h_past_typed, .inl (cI, 300, .inl res.2.1.2.1.1)), (q1, .inr (2, [.ref q1_kinds, .ref q1_differences, .ref q1_partsA, .ref q1_partsB, .int res.2.2.2.2.2.2])), (q1_kinds, .inl (cI, 300, .inl res.2.2.1)), (q1_differences, .inl (cL, 300, .inr (.inl res.2.2.2.1))), (q1_partsA, .inl (cL, 300, .inr (.inl res.2.2.2.2.1))), (q1_partsB, .inl (cI, 300, .inl res.2.2.2.2.2.1))]) args s 0 0 A) (F0 m 73 ls []) := by
  obtain ⟨hx, hb, hr, hml, hown, hts, hlk, hK, hA⟩ := id C
  intro st e1 res hf H locs ls hH hl
  unfold f_Reader_run_b73 at hf
  refine lv_aload_n hx hb d_Reader_run_73 rfl (lv_at hl 0 rfl) ?_
  refine fnVR (rest := []) (st2 := [.int (bI (f_Reader_isFine st))]) C (c_Reader_isFine l D cI cL h h_log h_log_row h_past h_past_typed st _ rfl) (cV hts kV_Reader_isFine wd_301 ⟨Nat.le_of_ble_eq_true rfl, Nat.le_of_ble_eq_true rfl⟩) hH [0, 1, 2, 3, 4] rfl rfl 0 rfl rfl rfl hl.1 rfl (Nat.le_of_ble_eq_true rfl) d_Reader_run_74 ⟨Nat.le_of_ble_eq_true rfl, Nat.le_of_ble_eq_true rfl⟩ rfl (fun H locs hH => ?_)
  refine lv_if_eq (tgt := 104) hx hb d_Reader_run_77 (by decide) (fun hc77 => ?_) (fun hc77 => ?_)
  · have hf := ip hc77 hf
    exact w_Reader_run_b104 l D cI cL h h_log h_log_row h_past h_past_typed q1 q1_kinds q1_differences q1_partsA q1_partsB C st e1 res hf _ _ _ hH (lv_sub hl [0, 1] rfl)
  · have hf := im hc77 hf
    refine lv_aload_n hx hb d_Reader_run_80 rfl (lv_at hl 0 rfl) ?_
    refine gt (ci := 4) (v := .int st.2.2.1) C hH (iwT iw_Reader) 0 rfl rfl 2 (by decide) (.tail _ wd_117) rfl d_Reader_run_81 ?_
    refine lv_aload_n hx hb d_Reader_run_84 rfl (lv_at hl 0 rfl) ?_
    refine gt (ci := 4) (v := .ref h_log) C hH (iwT iw_Reader) 0 rfl rfl 0 (by decide) (.tail _ wd_115) rfl d_Reader_run_85 ?_
    refine fnVR (rest := [.int st.2.2.1]) (st2 := [.int (f_Bytes_length st.1), .int st.2.2.1]) C (c_Bytes_length l D cI cL h_log h_log_row st.1 _ rfl) (cV hts kV_Bytes_length wd_289 ⟨Nat.le_of_ble_eq_true rfl, Nat.le_of_ble_eq_true rfl⟩) hH [1, 2] rfl rfl 0 rfl rfl rfl hl.1 rfl (Nat.le_of_ble_eq_true rfl) d_Reader_run_88 ⟨Nat.le_of_ble_eq_true rfl, Nat.le_of_ble_eq_true rfl⟩ rfl (fun H locs hH => ?_)
    refine lv_icmp_ge (tgt := 104) hx hb d_Reader_run_91 (by decide) (fun hc91 => ?_) (fun hc91 => ?_)
    · have hf := ip hc91 hf
      exact w_Reader_run_b104 l D cI cL h h_log h_log_row h_past h_past_typed q1 q1_kinds q1_differences q1_partsA q1_partsB C st e1 res hf _ _ _ hH (lv_sub hl [0, 1] rfl)
    · have hf := im hc91 hf
      refine lv_aload_n hx hb d_Reader_run_94 rfl (lv_at hl 0 rfl) ?_
      refine lv_bipush (v := 7) hx hb d_Reader_run_95 (by decide) ?_
      refine lv_aload_n hx hb d_Reader_run_97 rfl (lv_at hl 0 rfl) ?_
      refine gt (ci := 4) (v := .int st.2.2.1) C hH (iwT iw_Reader) 0 rfl rfl 2 (by decide) (.tail _ wd_117) rfl d_Reader_run_98 ?_
      obtain ⟨r101, hr101, hf⟩ := lb hf
      refine fnV (rest := []) (wr := [(q1, .inr (2, [.ref q1_kinds, .ref q1_differences, .ref q1_partsA, .ref q1_partsB, .int e1.2.2.2.2])), (q1_kinds, .inl (cI, 300, .inl e1.1)), (q1_differences, .inl (cL, 300, .inr (.inl e1.2.1))), (q1_partsA, .inl (cL, 300, .inr (.inl e1.2.2.1))), (q1_partsB, .inl (cI, 300, .inl e1.2.2.2.1))]) (w2 := [(h, .inr (4, [.ref h_log, .ref h_past, .int r101.2.2.1, .int r101.2.2.2.1, .int r101.2.2.2.2])), (h_log, .inr (0, [.ref h_log_row, .int r101.1.2])), (h_log_row, .inl (cI, 5000, .inl r101.1.1)), (h_past, .inr (1, [.ref h_past_typed, .int r101.2.1.2.1, .int r101.2.1.2.2])), (h_past_typed, .inl (cI, 300, .inl r101.2.1.1)), (q1, .inr (2, [.ref q1_kinds, .ref q1_differences, .ref q1_partsA, .ref q1_partsB, .int e1.2.2.2.2])), (q1_kinds, .inl (cI, 300, .inl e1.1)), (q1_differences, .inl (cL, 300, .inr (.inl e1.2.1))), (q1_partsA, .inl (cL, 300, .inr (.inl e1.2.2.1))), (q1_partsB, .inl (cI, 300, .inl e1.2.2.2.1))]) (st2 := []) C (c_Reader_fail l D cI cL h h_log h_log_row h_past h_past_typed st 7 st.2.2.1 r101 hr101) (cV hts kV_Reader_fail wd_293 ⟨Nat.le_of_ble_eq_true rfl, Nat.le_of_ble_eq_true rfl⟩) hH [0, 1, 2, 3, 4] [5, 6, 7, 8, 9] [5, 6, 7, 8, 9, 0, 1, 2, 3, 4] rfl rfl rfl rfl (by decide) rfl rfl 0 rfl rfl rfl hl.1 rfl (Nat.le_of_ble_eq_true rfl) d_Reader_run_101 ⟨Nat.le_of_ble_eq_true rfl, Nat.le_of_ble_eq_true rfl⟩ rfl (fun H locs hH => ?_)
      exact w_Reader_run_b104 l D cI cL h h_log h_log_row h_past h_past_typed q1 q1_kinds q1_differences q1_partsA q1_partsB C r101 e1 res hf _ _ _ hH (lv_sub hl [0, 1] rfl)
def f_Reader_run_b36 : Nat → S_Reader → S_Events → Int64 → Int32 → Option (Int32 × S_Reader × S_Events)
  | 0, _, _, _, _ => none
  | n + 1, st, e1, x2, x4 =>
  if (300 : Int32) ≤ x4 then (f_Reader_run_b73 st e1) else (if (bI (f_Reader_isFine st)) = 0 then (f_Reader_run_b73 st e1) else (if 0 ≤ (lg_cmp ((f_Events_number e1).toInt64) x2) then (f_Reader_run_b73 st e1) else ((f_Reader_readEntry st e1 x2).bind (fun r64 => f_Reader_run_b36 n r64.1 r64.2 x2 (x4 + 1)))))
set_option maxRecDepth 100000 in
set_option maxHeartbeats 4000000 in
theorem w_Reader_run_b36 (l : Launch) (D : va_G) (cI cL : ClassId) (h h_log h_log_row h_past h_past_typed q1 q1_kinds q1_differences q1_partsA q1_partsB : Nat) {p : Program} {e : Env} {s : State} {m : MethodId} {args : Array Value} {below : List Frame} {meth : Method} {c : Code} {A : Nat → Prop} (C : Cx p s m args meth c D vwCl [(cI, .int), (cL, .long)] A b_Reader_run 5 (some .int) ws_Reader_run y_Reader_run.cls) : ∀ (n : Nat) (st : S_Reader) (e1 : S_Events) (x2 : Int64) (x4 : Int32) (res : Int32 × S_Reader × S_Events), f_Reader_run_b36 n st e1 x2 x4 = some res → ∀ (H : Heap) (locs : List Loc) (ls : Array Slot), Hp D vwCl A A s.heap H locs [(h, .inr (4, [.ref h_log, .ref h_past, .int st.2.2.1, .int st.2.2.2.1, .int st.2.2.2.2])), (h_log, .inr (0, [.ref h_log_row, .int st.1.2])), (h_log_row, .inl (cI, 5000, .inl st.1.1)), (h_past, .inr (1, [.ref h_past_typed, .int st.2.1.2.1, .int st.2.1.2.2])), (h_past_typed, .inl (cI, 300, .inl st.2.1.1)), (q1, .inr (2, [.ref q1_kinds, .ref q1_differences, .ref q1_partsA, .ref q1_partsB, .int e1.2.2.2.2])), (q1_kinds, .inl (cI, 300, .inl e1.1)), (q1_differences, .inl (cL, 300, .inr (.inl e1.2.1))), (q1_partsA, .inl (cL, 300, .inr (.inl e1.2.2.1))), (q1_partsB, .inl (cI, 300, .inl e1.2.2.2.1))] → lv_has ls 5 [(0, .ref h), (1, .ref q1), (2, .long x2), (4, .int x4)] → W p l e { frames := 5, cells := 0, slots := 0, locals := 129 } s m args below meth c H locs 0 0 (MQ below (Qw D vwCl [(cI, .int), (cL, .long)] (some (.int res.1)) A [(h, .inr (4, [.ref h_log, .ref h_past, .int res.2.1.2.2.1, .int res.2.1.2.2.2.1, .int res.2.1.2.2.2.2])), (h_log, .inr (0, [.ref h_log_row, .int res.2.1.1.2])), (h_log_row, .inl (cI, 5000, .inl res.2.1.1.1)), (h_past, .inr (1, [.ref h_past_typed, .int res.2.1.2.1.2.1, .int res.2.1.2.1.2.2])), (h_past_typed, .inl (cI, 300, .inl res.2.1.2.1.1)), (q1, .inr (2, [.ref q1_kinds, .ref q1_differences, .ref q1_partsA, .ref q1_partsB, .int res.2.2.2.2.2.2])), (q1_kinds, .inl (cI, 300, .inl res.2.2.1)), (q1_differences, .inl (cL, 300, .inr (.inl res.2.2.2.1))), (q1_partsA, .inl (cL, 300, .inr (.inl res.2.2.2.2.1))), (q1_partsB, .inl (cI, 300, .inl res.2.2.2.2.2.1))]) args s 0 0 A) (F0 m 36 ls []) := by
  obtain ⟨hx, hb, hr, hml, hown, hts, hlk, hK, hA⟩ := id C
  intro n
  induction n with
  | zero => intro st e1 x2 x4 res hf; cases hf
  | succ n ih =>
    intro st e1 x2 x4 res hf H locs ls hH hl
    rw [f_Reader_run_b36] at hf
    refine lv_iload hx hb d_Reader_run_36 (lv_at hl 3 rfl) ?_
    refine lv_sipush (v := 300) hx hb d_Reader_run_38 (by decide) ?_
    refine lv_icmp_ge (tgt := 73) hx hb d_Reader_run_41 (by decide) (fun hc41 => ?_) (fun hc41 => ?_)
    · have hf := ip hc41 hf
      exact w_Reader_run_b73 l D cI cL h h_log h_log_row h_past h_past_typed q1 q1_kinds q1_differences q1_partsA q1_partsB C st e1 res hf _ _ _ hH (lv_sub hl [0, 1] rfl)
    · have hf := im hc41 hf
      refine lv_aload_n hx hb d_Reader_run_44 rfl (lv_at hl 0 rfl) ?_
      refine fnVR (rest := []) (st2 := [.int (bI (f_Reader_isFine st))]) C (c_Reader_isFine l D cI cL h h_log h_log_row h_past h_past_typed st _ rfl) (cV hts kV_Reader_isFine wd_301 ⟨Nat.le_of_ble_eq_true rfl, Nat.le_of_ble_eq_true rfl⟩) hH [0, 1, 2, 3, 4] rfl rfl 0 rfl rfl rfl hl.1 rfl (Nat.le_of_ble_eq_true rfl) d_Reader_run_45 ⟨Nat.le_of_ble_eq_true rfl, Nat.le_of_ble_eq_true rfl⟩ rfl (fun H locs hH => ?_)
      refine lv_if_eq (tgt := 73) hx hb d_Reader_run_48 (by decide) (fun hc48 => ?_) (fun hc48 => ?_)
      · have hf := ip hc48 hf
        exact w_Reader_run_b73 l D cI cL h h_log h_log_row h_past h_past_typed q1 q1_kinds q1_differences q1_partsA q1_partsB C st e1 res hf _ _ _ hH (lv_sub hl [0, 1] rfl)
      · have hf := im hc48 hf
        refine lv_aload_n hx hb d_Reader_run_51 rfl (lv_at hl 1 rfl) ?_
        refine fnVR (rest := []) (st2 := [.int (f_Events_number e1)]) C (c_Events_number l D cI cL q1 q1_kinds q1_differences q1_partsA q1_partsB e1 _ rfl) (cV hts kV_Events_number wd_307 ⟨Nat.le_of_ble_eq_true rfl, Nat.le_of_ble_eq_true rfl⟩) hH [5, 6, 7, 8, 9] rfl rfl 0 rfl rfl rfl hl.1 rfl (Nat.le_of_ble_eq_true rfl) d_Reader_run_52 ⟨Nat.le_of_ble_eq_true rfl, Nat.le_of_ble_eq_true rfl⟩ rfl (fun H locs hH => ?_)
        refine lv_i2l (v := (f_Events_number e1).toInt64) hx hb d_Reader_run_55 rfl ?_
        refine lv_lload_n hx hb d_Reader_run_56 rfl (lv_at hl 2 rfl) ?_
        refine W.lcmp hx hb d_Reader_run_57 ?_
        refine lv_if_ge (tgt := 73) hx hb d_Reader_run_58 (by decide) (fun hc58 => ?_) (fun hc58 => ?_)
        · have hf := ip hc58 hf
          exact w_Reader_run_b73 l D cI cL h h_log h_log_row h_past h_past_typed q1 q1_kinds q1_differences q1_partsA q1_partsB C st e1 res hf _ _ _ hH (lv_sub hl [0, 1] rfl)
        · have hf := im hc58 hf
          refine lv_aload_n hx hb d_Reader_run_61 rfl (lv_at hl 0 rfl) ?_
          refine lv_aload_n hx hb d_Reader_run_62 rfl (lv_at hl 1 rfl) ?_
          refine lv_lload_n hx hb d_Reader_run_63 rfl (lv_at hl 2 rfl) ?_
          obtain ⟨r64, hr64, hf⟩ := ob hf
          refine fnV (rest := []) (wr := []) (w2 := [(h, .inr (4, [.ref h_log, .ref h_past, .int r64.1.2.2.1, .int r64.1.2.2.2.1, .int r64.1.2.2.2.2])), (h_log, .inr (0, [.ref h_log_row, .int r64.1.1.2])), (h_log_row, .inl (cI, 5000, .inl r64.1.1.1)), (h_past, .inr (1, [.ref h_past_typed, .int r64.1.2.1.2.1, .int r64.1.2.1.2.2])), (h_past_typed, .inl (cI, 300, .inl r64.1.2.1.1)), (q1, .inr (2, [.ref q1_kinds, .ref q1_differences, .ref q1_partsA, .ref q1_partsB, .int r64.2.2.2.2.2])), (q1_kinds, .inl (cI, 300, .inl r64.2.1)), (q1_differences, .inl (cL, 300, .inr (.inl r64.2.2.1))), (q1_partsA, .inl (cL, 300, .inr (.inl r64.2.2.2.1))), (q1_partsB, .inl (cI, 300, .inl r64.2.2.2.2.1))]) (st2 := []) C (c_Reader_readEntry l D cI cL h h_log h_log_row h_past h_past_typed q1 q1_kinds q1_differences q1_partsA q1_partsB st e1 x2 r64 hr64) (cV hts kV_Reader_readEntry wd_308 ⟨Nat.le_of_ble_eq_true rfl, Nat.le_of_ble_eq_true rfl⟩) hH [0, 1, 2, 3, 4, 5, 6, 7, 8, 9] [] [0, 1, 2, 3, 4, 5, 6, 7, 8, 9] rfl rfl rfl rfl (by decide) rfl rfl 0 rfl rfl rfl hl.1 rfl (Nat.le_of_ble_eq_true rfl) d_Reader_run_64 ⟨Nat.le_of_ble_eq_true rfl, Nat.le_of_ble_eq_true rfl⟩ rfl (fun H locs hH => ?_)
          refine lv_iinc (v := x4 + 1) (lv' := [(4, .int (x4 + 1)), (0, .ref h), (1, .ref q1), (2, .long x2)]) hx hb d_Reader_run_67 hl (k := 3) rfl rfl (by decide) rfl (fun ls hl => ?_)
          refine lv_goto (tgt := 36) hx hb d_Reader_run_70 (by decide) ?_
          exact ih r64.1 r64.2 x2 (x4 + 1) res hf _ _ _ hH (lv_sub hl [1, 2, 3, 0] rfl)
def f_Reader_run (st : S_Reader) (e1 : S_Events)  : Option (Int32 × S_Reader × S_Events) :=
  lt1 (f_Reader_begin st e1) (fun r2 => (f_Reader_readVarint r2.1 0).bind (fun r7 => if (bI (f_Reader_isFine r7.2)) = 0 then (f_Reader_run_b36 400 r7.2 r2.2 r7.1 0) else (if (lg_cmp r7.1 300) ≤ 0 then (f_Reader_run_b36 400 r7.2 r2.2 r7.1 0) else (lt1 (f_Reader_fail r7.2 6 0) (fun r30 => f_Reader_run_b36 400 r30 r2.2 r7.1 0)))))
set_option maxRecDepth 100000 in
set_option maxHeartbeats 4000000 in
theorem c_Reader_run (l : Launch) (D : va_G) (cI cL : ClassId) (h h_log h_log_row h_past h_past_typed q1 q1_kinds q1_differences q1_partsA q1_partsB : Nat) (st : S_Reader) (e1 : S_Events)  (res : Int32 × S_Reader × S_Events) (hf : f_Reader_run st e1 = some res) :
    Fn l D vwCl [(cI, .int), (cL, .long)] y_Reader_run ws_Reader_run { frames := 5, cells := 0, slots := 0, locals := 129 } [.ref h, .ref q1] [(h, .inr (4, [.ref h_log, .ref h_past, .int st.2.2.1, .int st.2.2.2.1, .int st.2.2.2.2])), (h_log, .inr (0, [.ref h_log_row, .int st.1.2])), (h_log_row, .inl (cI, 5000, .inl st.1.1)), (h_past, .inr (1, [.ref h_past_typed, .int st.2.1.2.1, .int st.2.1.2.2])), (h_past_typed, .inl (cI, 300, .inl st.2.1.1)), (q1, .inr (2, [.ref q1_kinds, .ref q1_differences, .ref q1_partsA, .ref q1_partsB, .int e1.2.2.2.2])), (q1_kinds, .inl (cI, 300, .inl e1.1)), (q1_differences, .inl (cL, 300, .inr (.inl e1.2.1))), (q1_partsA, .inl (cL, 300, .inr (.inl e1.2.2.1))), (q1_partsB, .inl (cI, 300, .inl e1.2.2.2.1))] (some (.int res.1)) [(h, .inr (4, [.ref h_log, .ref h_past, .int res.2.1.2.2.1, .int res.2.1.2.2.2.1, .int res.2.1.2.2.2.2])), (h_log, .inr (0, [.ref h_log_row, .int res.2.1.1.2])), (h_log_row, .inl (cI, 5000, .inl res.2.1.1.1)), (h_past, .inr (1, [.ref h_past_typed, .int res.2.1.2.1.2.1, .int res.2.1.2.1.2.2])), (h_past_typed, .inl (cI, 300, .inl res.2.1.2.1.1)), (q1, .inr (2, [.ref q1_kinds, .ref q1_differences, .ref q1_partsA, .ref q1_partsB, .int res.2.2.2.2.2.2])), (q1_kinds, .inl (cI, 300, .inl res.2.2.1)), (q1_differences, .inl (cL, 300, .inr (.inl res.2.2.2.1))), (q1_partsA, .inl (cL, 300, .inr (.inl res.2.2.2.2.1))), (q1_partsB, .inl (cI, 300, .inl res.2.2.2.2.2.1))] := by
  refine Fn.ofW (cc := b_Reader_run) (maxL := 5) (ret := (some .int)) (by decide) rfl (Nat.le_of_ble_eq_true rfl) ?_
  intro p e s m below meth c A ls C hH hinit hl
  have hl : lv_has ls 5 [(0, .ref h), (1, .ref q1)] := hl
  obtain ⟨hx, hb, hr, hml, hown, hts, hlk, hK, hA⟩ := id C
  unfold f_Reader_run at hf
  refine lv_aload_n hx hb d_Reader_run_0 rfl (lv_at hl 0 rfl) ?_
  refine lv_aload_n hx hb d_Reader_run_1 rfl (lv_at hl 1 rfl) ?_
  obtain ⟨r2, hr2, hf⟩ := lb hf
  refine fnV (rest := []) (wr := []) (w2 := [(h, .inr (4, [.ref h_log, .ref h_past, .int r2.1.2.2.1, .int r2.1.2.2.2.1, .int r2.1.2.2.2.2])), (h_log, .inr (0, [.ref h_log_row, .int r2.1.1.2])), (h_log_row, .inl (cI, 5000, .inl r2.1.1.1)), (h_past, .inr (1, [.ref h_past_typed, .int r2.1.2.1.2.1, .int r2.1.2.1.2.2])), (h_past_typed, .inl (cI, 300, .inl r2.1.2.1.1)), (q1, .inr (2, [.ref q1_kinds, .ref q1_differences, .ref q1_partsA, .ref q1_partsB, .int r2.2.2.2.2.2])), (q1_kinds, .inl (cI, 300, .inl r2.2.1)), (q1_differences, .inl (cL, 300, .inr (.inl r2.2.2.1))), (q1_partsA, .inl (cL, 300, .inr (.inl r2.2.2.2.1))), (q1_partsB, .inl (cI, 300, .inl r2.2.2.2.2.1))]) (st2 := []) C (c_Reader_begin l D cI cL h h_log h_log_row h_past h_past_typed q1 q1_kinds q1_differences q1_partsA q1_partsB st e1 r2 hr2) (cV hts kV_Reader_begin wd_272 ⟨Nat.le_of_ble_eq_true rfl, Nat.le_of_ble_eq_true rfl⟩) hH [0, 1, 2, 3, 4, 5, 6, 7, 8, 9] [] [0, 1, 2, 3, 4, 5, 6, 7, 8, 9] rfl rfl rfl rfl (by decide) rfl rfl 0 rfl rfl rfl hl.1 rfl (Nat.le_of_ble_eq_true rfl) d_Reader_run_2 ⟨Nat.le_of_ble_eq_true rfl, Nat.le_of_ble_eq_true rfl⟩ rfl (fun H locs hH => ?_)
  refine lv_aload_n hx hb d_Reader_run_5 rfl (lv_at hl 0 rfl) ?_
  refine lv_iconst (v := 0) hx hb d_Reader_run_6 (by decide) ?_
  obtain ⟨r7, hr7, hf⟩ := ob hf
  refine fnV (rest := []) (wr := [(q1, .inr (2, [.ref q1_kinds, .ref q1_differences, .ref q1_partsA, .ref q1_partsB, .int r2.2.2.2.2.2])), (q1_kinds, .inl (cI, 300, .inl r2.2.1)), (q1_differences, .inl (cL, 300, .inr (.inl r2.2.2.1))), (q1_partsA, .inl (cL, 300, .inr (.inl r2.2.2.2.1))), (q1_partsB, .inl (cI, 300, .inl r2.2.2.2.2.1))]) (w2 := [(h, .inr (4, [.ref h_log, .ref h_past, .int r7.2.2.2.1, .int r7.2.2.2.2.1, .int r7.2.2.2.2.2])), (h_log, .inr (0, [.ref h_log_row, .int r7.2.1.2])), (h_log_row, .inl (cI, 5000, .inl r7.2.1.1)), (h_past, .inr (1, [.ref h_past_typed, .int r7.2.2.1.2.1, .int r7.2.2.1.2.2])), (h_past_typed, .inl (cI, 300, .inl r7.2.2.1.1)), (q1, .inr (2, [.ref q1_kinds, .ref q1_differences, .ref q1_partsA, .ref q1_partsB, .int r2.2.2.2.2.2])), (q1_kinds, .inl (cI, 300, .inl r2.2.1)), (q1_differences, .inl (cL, 300, .inr (.inl r2.2.2.1))), (q1_partsA, .inl (cL, 300, .inr (.inl r2.2.2.2.1))), (q1_partsB, .inl (cI, 300, .inl r2.2.2.2.2.1))]) (st2 := [.long r7.1]) C (c_Reader_readVarint l D cI cL h h_log h_log_row h_past h_past_typed r2.1 0 r7 hr7) (cV hts kV_Reader_readVarint wd_281 ⟨Nat.le_of_ble_eq_true rfl, Nat.le_of_ble_eq_true rfl⟩) hH [0, 1, 2, 3, 4] [5, 6, 7, 8, 9] [5, 6, 7, 8, 9, 0, 1, 2, 3, 4] rfl rfl rfl rfl (by decide) rfl rfl 0 rfl rfl rfl hl.1 rfl (Nat.le_of_ble_eq_true rfl) d_Reader_run_7 ⟨Nat.le_of_ble_eq_true rfl, Nat.le_of_ble_eq_true rfl⟩ rfl (fun H locs hH => ?_)
  refine lv_lstore_n (lv' := [(2, .long r7.1), (0, .ref h), (1, .ref q1)]) hx hb d_Reader_run_10 rfl hl (by decide) rfl (fun ls hl => ?_)
  refine lv_aload_n hx hb d_Reader_run_11 rfl (lv_at hl 1 rfl) ?_
  refine fnVR (rest := []) (st2 := [.int (bI (f_Reader_isFine r7.2))]) C (c_Reader_isFine l D cI cL h h_log h_log_row h_past h_past_typed r7.2 _ rfl) (cV hts kV_Reader_isFine wd_301 ⟨Nat.le_of_ble_eq_true rfl, Nat.le_of_ble_eq_true rfl⟩) hH [0, 1, 2, 3, 4] rfl rfl 0 rfl rfl rfl hl.1 rfl (Nat.le_of_ble_eq_true rfl) d_Reader_run_12 ⟨Nat.le_of_ble_eq_true rfl, Nat.le_of_ble_eq_true rfl⟩ rfl (fun H locs hH => ?_)
  refine lv_if_eq (tgt := 33) hx hb d_Reader_run_15 (by decide) (fun hc15 => ?_) (fun hc15 => ?_)
  · have hf := ip hc15 hf
    refine lv_iconst (v := 0) hx hb d_Reader_run_33 (by decide) ?_
    refine lv_istore (lv' := [(4, .int 0), (2, .long r7.1), (0, .ref h), (1, .ref q1)]) hx hb d_Reader_run_34 hl (by decide) rfl (fun ls hl => ?_)
    exact w_Reader_run_b36 l D cI cL h h_log h_log_row h_past h_past_typed q1 q1_kinds q1_differences q1_partsA q1_partsB C 400 r7.2 r2.2 r7.1 0 res hf _ _ _ hH (lv_sub hl [2, 3, 1, 0] rfl)
  · have hf := im hc15 hf
    refine lv_lload_n hx hb d_Reader_run_18 rfl (lv_at hl 0 rfl) ?_
    refine lv_ldc2 (v := 300) hx hb hown (hts _ (.tail _ wd_306)) d_Reader_run_19 ?_
    refine W.lcmp hx hb d_Reader_run_22 ?_
    refine lv_if_le (tgt := 33) hx hb d_Reader_run_23 (by decide) (fun hc23 => ?_) (fun hc23 => ?_)
    · have hf := ip hc23 hf
      refine lv_iconst (v := 0) hx hb d_Reader_run_33 (by decide) ?_
      refine lv_istore (lv' := [(4, .int 0), (2, .long r7.1), (0, .ref h), (1, .ref q1)]) hx hb d_Reader_run_34 hl (by decide) rfl (fun ls hl => ?_)
      exact w_Reader_run_b36 l D cI cL h h_log h_log_row h_past h_past_typed q1 q1_kinds q1_differences q1_partsA q1_partsB C 400 r7.2 r2.2 r7.1 0 res hf _ _ _ hH (lv_sub hl [2, 3, 1, 0] rfl)
    · have hf := im hc23 hf
      refine lv_aload_n hx hb d_Reader_run_26 rfl (lv_at hl 1 rfl) ?_
      refine lv_bipush (v := 6) hx hb d_Reader_run_27 (by decide) ?_
      refine lv_iconst (v := 0) hx hb d_Reader_run_29 (by decide) ?_
      obtain ⟨r30, hr30, hf⟩ := lb hf
      refine fnV (rest := []) (wr := [(q1, .inr (2, [.ref q1_kinds, .ref q1_differences, .ref q1_partsA, .ref q1_partsB, .int r2.2.2.2.2.2])), (q1_kinds, .inl (cI, 300, .inl r2.2.1)), (q1_differences, .inl (cL, 300, .inr (.inl r2.2.2.1))), (q1_partsA, .inl (cL, 300, .inr (.inl r2.2.2.2.1))), (q1_partsB, .inl (cI, 300, .inl r2.2.2.2.2.1))]) (w2 := [(h, .inr (4, [.ref h_log, .ref h_past, .int r30.2.2.1, .int r30.2.2.2.1, .int r30.2.2.2.2])), (h_log, .inr (0, [.ref h_log_row, .int r30.1.2])), (h_log_row, .inl (cI, 5000, .inl r30.1.1)), (h_past, .inr (1, [.ref h_past_typed, .int r30.2.1.2.1, .int r30.2.1.2.2])), (h_past_typed, .inl (cI, 300, .inl r30.2.1.1)), (q1, .inr (2, [.ref q1_kinds, .ref q1_differences, .ref q1_partsA, .ref q1_partsB, .int r2.2.2.2.2.2])), (q1_kinds, .inl (cI, 300, .inl r2.2.1)), (q1_differences, .inl (cL, 300, .inr (.inl r2.2.2.1))), (q1_partsA, .inl (cL, 300, .inr (.inl r2.2.2.2.1))), (q1_partsB, .inl (cI, 300, .inl r2.2.2.2.2.1))]) (st2 := []) C (c_Reader_fail l D cI cL h h_log h_log_row h_past h_past_typed r7.2 6 0 r30 hr30) (cV hts kV_Reader_fail wd_293 ⟨Nat.le_of_ble_eq_true rfl, Nat.le_of_ble_eq_true rfl⟩) hH [0, 1, 2, 3, 4] [5, 6, 7, 8, 9] [5, 6, 7, 8, 9, 0, 1, 2, 3, 4] rfl rfl rfl rfl (by decide) rfl rfl 0 rfl rfl rfl hl.1 rfl (Nat.le_of_ble_eq_true rfl) d_Reader_run_30 ⟨Nat.le_of_ble_eq_true rfl, Nat.le_of_ble_eq_true rfl⟩ rfl (fun H locs hH => ?_)
      refine lv_iconst (v := 0) hx hb d_Reader_run_33 (by decide) ?_
      refine lv_istore (lv' := [(4, .int 0), (2, .long r7.1), (0, .ref h), (1, .ref q1)]) hx hb d_Reader_run_34 hl (by decide) rfl (fun ls hl => ?_)
      exact w_Reader_run_b36 l D cI cL h h_log h_log_row h_past h_past_typed q1 q1_kinds q1_differences q1_partsA q1_partsB C 400 r30 r2.2 r7.1 0 res hf _ _ _ hH (lv_sub hl [2, 3, 1, 0] rfl)
end
section
/-! Methods that throw, where the launch records no traces; and the road into a handler. -/
def exN (k : Nat) : String := match k with
  | 1 => "java/lang/IllegalArgumentException"
  | 2 => "java/lang/IllegalStateException"
  | 3 => "java/lang/IndexOutOfBoundsException"
  | _ => "java/util/NoSuchElementException"
def specW : List Cond := [.laysStatic Bundle.tN "UNASSIGNED_STACK" Bundle.steD, .laysStatic Bundle.tN "SUPPRESSED_SENTINEL" Bundle.listD, .declares (Bundle.initS "java/lang/RuntimeException"), .declares (Bundle.initS "java/lang/Exception"), .declares (Bundle.initS Bundle.tN), .castable "java/lang/IllegalArgumentException" "java/lang/IllegalArgumentException", .castable "java/lang/IllegalStateException" "java/lang/IllegalStateException", .castable "java/lang/IndexOutOfBoundsException" "java/lang/IndexOutOfBoundsException", .castable "java/util/NoSuchElementException" "java/util/NoSuchElementException"]
def TE (strs : List (String × Nat × String)) (U : State) : Prop := va_Zq Bundle.tN "UNASSIGNED_STACK" Bundle.steD (fun _ => False) U U.heap ∧ va_Zq Bundle.tN "SUPPRESSED_SENTINEL" Bundle.listD (fun _ => False) U U.heap ∧ (∀ x ∈ strs, ∃ q, vk_R x.1 x.2.1 x.2.2 q U) ∧ ∀ w ∈ specW, ∀ a : Array Value, w.before a U = true
def MT (below : List Frame) (s : State) (X : String) (mc ms : Nat) : State → Prop := fun t => ∃ (x : Addr) (ce : Cell), t.status = .running ∧ Ended t below (.threw x) ∧ t.heap[x]? = some ce ∧ ce.vm = .none ∧ t.vm.findClass X = some ce.cls ∧ s.heap.size ≤ x ∧ s.WarmedH t.vm ∧ s.sameButNew ({ t with vm := s.vm } : State) [] mc ms
def FnT (l : Launch) (D : va_G) (cl : List vw_C) (tys : List (ClassId × FieldType)) (y : MethodName) (ws : List Cond) (rm : Room) (av : List Value) (w : va_W) (E : State → Prop) (X : String) : Prop :=
  ∀ sz : Nat, MetFree l y (headSpec ws rm) (fun a U => Pw D cl tys av sz w a U ∧ E U) (fun _ _ _ _ _ => True)
    (fun _ st o t => ∃ (x : Addr) (ce : Cell), o = .threw x ∧ t.heap[x]? = some ce ∧ ce.vm = .none ∧ t.vm.findClass X = some ce.cls ∧ st.heap.size ≤ x ∧ st.WarmedH t.vm ∧ st.sameButNew ({ t with vm := st.vm } : State) [] rm.cells rm.slots)
theorem same0 {s t : State} {k n : Nat} (h : s.sameButNew t [] k n) : s.heap.size ≤ t.heap.size ∧ ∀ q : Nat, q < s.heap.size → t.heap[q]? = s.heap[q]? := by
  obtain ⟨-, h1, -, -, -, h2⟩ := h
  refine ⟨h1, fun q hq => ?_⟩
  obtain ⟨c', a1, a2, a3, a4⟩ := h2 q s.heap[q] (Array.getElem?_eq_getElem hq)
  rw [a1, Array.getElem?_eq_getElem hq, a2]
  have : c'.slots = s.heap[q].slots := by
    apply Array.ext_getElem?
    intro i
    exact a4 i (by simp)
  rw [this]
section FNT
variable {l : Launch} {D : va_G} {cl : List vw_C} {tys : List (ClassId × FieldType)}
theorem FnT.ofW {y : MethodName} {ws ws' : List Cond} {rm : Room} {av : List Value} {w : va_W} {E : State → Prop} {X : String} {cc : ByteArray} {maxL : Nat} {ret : Option FieldType}
    (hy : plainName y.cls = true) (hw : ws = Cond.code y cc maxL ret :: ws') (hlen : (lg_sl av).length ≤ maxL)
    (body : ∀ (p : Program) (e : Env) (s : State) (m : MethodId) (below : List Frame) (meth : Method) (c : Code) (A : Nat → Prop) (ls : Array Slot), Cx p s m av.toArray meth c D cl tys A cc maxL ret ws y.cls → Hp D cl (fun _ => True) A s.heap s.heap [] w → E s → (A = fun q => s.heap.size ≤ q) → c.exceptionTable.isEmpty = true → lv_has ls maxL (lv_args 0 av) →
      W p l e rm s m av.toArray below meth c s.heap [] 0 0 (MT below s X rm.cells rm.slots) (F0 m 0 ls [])) : FnT l D cl tys y ws rm av w E X := by
  intro sz
  refine MetFree.of_bodyS (code := cc) (maxLocals := maxL) (ret := ret) hy ?_ ?_
  · intro args s m h hn
    obtain ⟨meth, c, h1, h2, h3, h4, h5, h6, -, -⟩ := Cond.code_spec hn (atoms_spec (ws := ws) h _ (by rw [hw]; exact List.mem_cons_self))
    exact ⟨meth, c, h1, h2, h3, h4, h5, h6⟩
  · intro p e s m args below meth c s₁ B hml hv _
    obtain ⟨⟨rfl, hsz, hP, hK, hD0⟩, hE⟩ := hv
    subst hsz
    have hh0 : s₁.heap = s.heap := by rw [B.state]; rfl
    have hex := B.noHandlers (atoms_spec (ws := ws) B.pre _ (by rw [hw]; exact List.mem_cons_self))
    have K := body p e s m below meth c (fun q => s.heap.size ≤ q) _ ⟨B.exec, B.bytes, B.returns, hml, findClass_of_methodNamed B.named, atoms_spec (ws := ws) B.pre, B.notSynchronized, hK, fun q h => h⟩ ⟨hP, hD0, va_S.rf⟩ hE rfl hex (lv_entry av hlen)
    rw [← lg_entry_eq] at K
    obtain ⟨t, a1, x, ce, b1, b2, b3⟩ := K s₁ hh0 (Stand.of_body B)
    exact ⟨t, .threw x, a1, b1, b2, x, ce, rfl, b3⟩
variable {p : Program} {e : Env} {R : Room} {s : State} {m : MethodId} {args : Array Value} {below : List Frame} {meth : Method} {c : Code} {H : Heap} {locs : List Loc} {cells slots : Nat} {Q : State → Prop}
variable {A : Nat → Prop} {cc : ByteArray} {nL : Nat} {ret : Option FieldType} {Ts : List Cond} {own : String} {w : va_W} {pc : Nat} {ls : Array Slot} {rest : List Value}
/-- 'throw new X(text)' -/
theorem thr {X tx : String} {names : List String} {ic ix si q : Nat} {B : Nat → Prop} (hfl : l.flags = pinnedFlags ++ [noTraceFlag]) (C : Cx p s m args meth c D cl tys A cc nL ret Ts own) (hH : Hp D cl B A s.heap H locs w) (hAe : A = fun q => s.heap.size ≤ q) (hex : c.exceptionTable.isEmpty = true) (hls : ls.size = nL)
    (hat : ∀ a ∈ Bundle.ownAtoms own ic X names, a.before args s = true) (hfit : Bundle.fit X = true) (hnames : ∀ n ∈ names, Bundle.fit n = true)
    (hcl : Cond.classLink own ix X ∈ Ts) (hinst : Cond.instantiable X 6 ∈ Ts) (hini : Cond.initialized X ∈ Ts) (hstr : vk_R own si tx q s)
    (hR : names.length + 3 < R.frames ∧ 13 * (names.length + 1) + 43 ≤ R.locals ∧ 1 ≤ R.cells ∧ 6 ≤ R.slots)
    (d0 : decode cc pc = .ok (.new ix, 3)) (d1 : decode cc (pc + 3) = .ok (.dup, 1)) (d2 : decode cc (pc + 3 + 1) = .ok (.ldc si, 2)) (d3 : decode cc (pc + 3 + 1 + 2) = .ok (.invokespecial ic, 3)) (d4 : decode cc (pc + 3 + 1 + 2 + 3) = .ok (.athrow, 1)) :
    W p l e R s m args below meth c H locs 0 0 (MT below s X 1 6) (F0 m pc ls []) := by
  subst hAe
  obtain ⟨hx, hb, hr, hml, hown, hts, hlk, hK, hA⟩ := id C
  refine va_forget (fun q hq => hH.2.2.2.2 q hq) ?_
  obtain ⟨cX, kX, hfX, -⟩ := Cond.instantiable_spec (hts _ hinst)
  refine W.newcK hx hb hown (hts _ hcl) (hts _ hinst) (hts _ hini) rfl d0 (by omega) (by omega) hfX rfl fun H1 kC hkC e1 z1 o1 => ?_
  refine lv_dup hx hb d1 rfl ?_
  refine va_ldcS hx hb hown hstr d2 ?_
  intro T hT XX
  obtain ⟨U, st, hrun, hend, hW, hsame, ce, hce, hOC⟩ := XX.ctorThrowS hx (Launch.traces_off hfl XX.admits) hown hfit hnames hat (fun x hx => by cases hx) hfX hkC (by rw [hT]; exact e1) hH.2.2.1 (msg := .ref q) rfl (g := F0 m (pc + 3 + 1 + 2) ls [.ref q, .ref H.size, .ref H.size]) rfl (hls.trans hml.symm) rfl rfl rfl (by rw [hb]; exact d3) (by rw [hb]; exact d4)
    (fun x hx => by rw [Array.isEmpty_iff.mp hex] at hx; cases hx) (by omega) (by show 2 * 0 + (1 + 0) + _ ≤ _; omega) hlk
  exact ⟨U, st, H.size, ce, hrun, hend, hce, hOC.vm, by rw [hW.alike.findClass]; exact hOC.cls, hH.2.2.1, hW, hsame⟩
end FNT
theorem zqRef {C n d : String} {A : Nat → Prop} {U : State} {args : Array Value} (h : va_Zq C n d A U U.heap) : (Cond.isRef (.static C n d)).before args U = true := by
  rcases h with h | ⟨t, h⟩ <;>
  · obtain ⟨cf, kf, fi, f, a, cell, h1, h2, h3, h4, h5, h6, h7, h8⟩ := h
    simp [Cond.before, Cond.holds, Cond.value, Term.eval, State.fieldNamed?, h1, h2, h4, h5, h6, h7]
def tabAt (X : String) (names : List String) : List Cond := Bundle.throwableAtoms ++ Bundle.throwableSAtoms ++ Bundle.chainSAtoms X names ++
  [.instantiable X 6, .castable X X, .selects X Bundle.tFill0 Bundle.tFill0, .selects X Bundle.tFill Bundle.tFill,
   .lays X Bundle.tN "cause" "Ljava/lang/Throwable;", .lays X Bundle.tN "stackTrace" Bundle.steD, .lays X Bundle.tN "suppressedExceptions" Bundle.listD, .lays X Bundle.tN "detailMessage" "Ljava/lang/String;",
   .fieldLink Bundle.tN 198 Bundle.tN "backtrace" "Ljava/lang/Object;", .lays Bundle.tN Bundle.tN "backtrace" "Ljava/lang/Object;", .lays X Bundle.tN "backtrace" "Ljava/lang/Object;"]
def exCh : List String := ["java/lang/RuntimeException", "java/lang/Exception"]
theorem tabAt_1 : ∀ a ∈ tabAt "java/lang/IllegalArgumentException" exCh, a ∈ U0 ∨ a ∈ specW := fun a h => ((by decide +kernel : ∀ x ∈ tabAt "java/lang/IllegalArgumentException" exCh, goodWord x = true ∨ x ∈ specW) a h).imp (fun g => mU ((by decide +kernel : ∀ x ∈ tabAt "java/lang/IllegalArgumentException" exCh, x ∈ lw_tbl) a h) g) id
theorem tabAt_2 : ∀ a ∈ tabAt "java/lang/IllegalStateException" exCh, a ∈ U0 ∨ a ∈ specW := fun a h => ((by decide +kernel : ∀ x ∈ tabAt "java/lang/IllegalStateException" exCh, goodWord x = true ∨ x ∈ specW) a h).imp (fun g => mU ((by decide +kernel : ∀ x ∈ tabAt "java/lang/IllegalStateException" exCh, x ∈ lw_tbl) a h) g) id
theorem tabAt_3 : ∀ a ∈ tabAt "java/lang/IndexOutOfBoundsException" exCh, a ∈ U0 ∨ a ∈ specW := fun a h => ((by decide +kernel : ∀ x ∈ tabAt "java/lang/IndexOutOfBoundsException" exCh, goodWord x = true ∨ x ∈ specW) a h).imp (fun g => mU ((by decide +kernel : ∀ x ∈ tabAt "java/lang/IndexOutOfBoundsException" exCh, x ∈ lw_tbl) a h) g) id
theorem ownAt {X own : String} {ic : Nat} {names : List String} {args : Array Value} {s : State} {c0 : Cond} {strs : List (String × Nat × String)} (hts : ∀ w ∈ c0 :: U0, w.before args s = true) (ht : ∀ a ∈ tabAt X names, a ∈ U0 ∨ a ∈ specW) (hE : TE strs s) (hl : Cond.methodLink own ic (Bundle.initS X) ∈ U0) : ∀ a ∈ Bundle.ownAtoms own ic X names, a.before args s = true := by
  intro a ha
  by_cases h1 : a ∈ tabAt X names
  · exact (ht a h1).elim (fun g => hts a (.tail _ g)) (fun g => hE.2.2.2 a g _)
  · simp only [Bundle.ownAtoms, tabAt, List.mem_append, List.mem_cons, List.not_mem_nil, or_false, not_or] at ha h1
    rcases ha with h | h
    · exact absurd h (by
        rintro ((h | h) | h)
        · exact h1.1.1.1 h
        · exact h1.1.1.2 h
        · exact h1.1.2 h)
    · rcases h with rfl | h | h | h | h | h | h | h | h | rfl | rfl | h | h | h
      · exact hts _ (.tail _ hl)
      all_goals first | exact zqRef hE.1 | exact zqRef hE.2.1 | (exfalso; revert h1; simp [h])
def b13 : ByteArray := ⟨#[0x2a, 0x2b, 0xb7, 0x00, 0x0d, 0xb1]⟩
def nse : String := "java/util/NoSuchElementException"
def tab4 : List Cond := Bundle.throwableAtoms ++ Bundle.throwableSAtoms ++ Bundle.passSAtoms nse "java/lang/RuntimeException" 13 b13 ++ Bundle.chainSAtoms "java/lang/RuntimeException" ["java/lang/Exception"] ++
  [.instantiable nse 6, .castable nse nse, .selects nse Bundle.tFill0 Bundle.tFill0, .selects nse Bundle.tFill Bundle.tFill,
   .lays nse Bundle.tN "cause" "Ljava/lang/Throwable;", .lays nse Bundle.tN "stackTrace" Bundle.steD, .lays nse Bundle.tN "suppressedExceptions" Bundle.listD, .lays nse Bundle.tN "detailMessage" "Ljava/lang/String;",
   .fieldLink Bundle.tN 198 Bundle.tN "backtrace" "Ljava/lang/Object;", .lays Bundle.tN Bundle.tN "backtrace" "Ljava/lang/Object;", .lays nse Bundle.tN "backtrace" "Ljava/lang/Object;"]
theorem tab4_ok : ∀ a ∈ tab4, a ∈ U0 ∨ a ∈ specW := fun a h => ((by decide +kernel : ∀ x ∈ tab4, goodWord x = true ∨ x ∈ specW) a h).imp (fun g => mU ((by decide +kernel : ∀ x ∈ tab4, x ∈ lw_tbl) a h) g) id
section CT4
variable {p : Program} {l : Launch} {e : Env} {R : Room} {s : State} {m₀ : MethodId} {args : Array Value} {below : List Frame} {meth : Method} {c : Code} {T0 : State} {cells slots : Nat}
set_option maxHeartbeats 2000000 in
/-- 'new NoSuchElementException(text)' and its throw: by the library's chain, one link of it by entry 13 -/
theorem ctor4 (X : Stand p l e R s m₀ args below meth c T0 [] cells slots) (hexec : p.tables.exec = Jvm.exec) (htr : e.platform.stackTraces = false) {own : String} {ic : Nat}
    (hown : s.vm.findClass own = some m₀.cls) (h : ∀ a ∈ tab4, a.before args s = true) (hz1 : (Cond.isRef (.static Bundle.tN "UNASSIGNED_STACK" Bundle.steD)).before args s = true) (hz2 : (Cond.isRef (.static Bundle.tN "SUPPRESSED_SENTINEL" Bundle.listD)).before args s = true) (hlnk : (Cond.methodLink own ic (Bundle.initS nse)).before args s = true)
    {a : Addr} {cX : ClassId} {kX : Class} (hfoundX : s.vm.findClass nse = some cX) (hkX : s.vm.classes[cX]? = some kX) (hcell : T0.heap[a]? = some (freshCell cX kX)) (hnew : s.heap.size ≤ a)
    {msg : Value} (hmsg : msg.isRef = true) {g : JFrame} (hg : g.method = m₀) (hsize : g.locals.size = c.maxLocals) (hlocked : g.locked = none) (hentered : g.entered = []) {rest : List Value} (hstack : g.stack = msg :: .ref a :: .ref a :: rest)
    (hd6 : decode c.code g.pc = .ok (.invokespecial ic, 3)) (hd9 : decode c.code (g.pc + 3) = .ok (.athrow, 1)) (hout : ∀ x ∈ c.exceptionTable.toList, covers x (g.pc + 3) = false)
    (hRframes : 5 < R.frames) (hRlocals : 2 * g.monitorRoom + ((Value.ref a :: rest).map fun v => v.category).sum + 81 ≤ R.locals) (hlocks : meth.locks = false) :
    ∃ U : State, Steps p.tables e below (T0.setTop g) U ∧ U.status = .running ∧ Ended U below (.threw a) ∧ s.WarmedH U.vm ∧ s.sameButNew ({ U with vm := s.vm } : State) [] cells slots ∧
      ∃ ce : Cell, U.heap[a]? = some ce ∧ ce.vm = .none ∧ s.vm.findClass nse = some ce.cls := by
  have howns : e.platform.frameOwnsMonitors = true := by rw [X.admits.platform]
  have hfin : e.platform.finalization = false := by rw [X.admits.platform]
  have hpl : e.platform.magicAccessors = ({} : Platform).magicAccessors := by rw [X.admits.platform]
  have a' : ∀ x, x ∈ tab4 → x.holds args s none s [] = true := fun x hx => h x hx
  obtain ⟨T, Z0, L, -, Y⟩ := ThrowableC.of_atoms (args := args) howns hfin hpl (fun x hx => h x (by simp [tab4, hx]))
  obtain ⟨Z, M, LZ, LM, hnZ⟩ := Init0T.ofS_atoms (args := args) hpl L Y (fun x hx => h x (by simp [tab4, hx]))
  obtain ⟨P0, L0, hP0m, hP0s⟩ := PassC.ofS_atoms (args := args) (s := s) hpl (X := nse) (Y := "java/lang/RuntimeException") (index := 13) (bytes := b13) (by decide) (by decide) (by decide +kernel) (by decide +kernel) (by decide +kernel) (by decide +kernel) (fun x hx => h x (by simp [tab4, hx]))
  obtain ⟨P1, Ps, hlen, L1, hL, hP1m, hlink1, hlink⟩ := Bundle.chainS (args := args) hpl hnZ ["java/lang/Exception"] "java/lang/RuntimeException" (by decide +kernel) (by decide +kernel) (fun x hx => h x (by simp [tab4, hx]))
  have hfound : s.vm.findClass nse = some P0.m.cls := findClass_of_methodNamed hP0m
  cases Option.some.inj (hfoundX.symm.trans hfound)
  obtain ⟨c1, kX', hc1, hk, hord, -, -, hn6⟩ := Cond.instantiable_spec (a' (.instantiable nse 6) (by simp [tab4]))
  cases Option.some.inj (hc1.symm.trans hfound)
  cases Option.some.inj (hkX.symm.trans hk)
  have hsel0 : selectMethod e.platform s.vm P0.m.cls T.fill0 = .method T.fill0 := by
    obtain ⟨c2, r2, m2, q1, q2, q3, q4, -⟩ := Cond.selects_spec (a' (.selects nse Bundle.tFill0 Bundle.tFill0) (by simp [tab4]))
    cases Option.some.inj (q1.symm.trans hfound)
    cases Option.some.inj (q2.symm.trans (State.methodFound?_of_named Y.fill0 (by decide)))
    cases Option.some.inj (q3.symm.trans Y.fill0)
    rw [Launch.admits_selectMethod X.admits]; exact q4
  have hselF : selectMethod e.platform s.vm P0.m.cls T.fill = .method T.fill := by
    obtain ⟨c2, r2, m2, q1, q2, q3, q4, -⟩ := Cond.selects_spec (a' (.selects nse Bundle.tFill Bundle.tFill) (by simp [tab4]))
    cases Option.some.inj (q1.symm.trans hfound)
    cases Option.some.inj (q2.symm.trans (State.methodFound?_of_named Y.fill (by decide)))
    cases Option.some.inj (q3.symm.trans Y.fill)
    rw [Launch.admits_selectMethod X.admits]; exact q4
  obtain ⟨cellS0, hcS0, hiss⟩ := Y.statics
  obtain ⟨u0, hu0⟩ := Cond.staticRefV Y.unassigned L.unassignedStatic L.statics hcS0 hiss hz1
  obtain ⟨sen, hsen⟩ := Cond.staticRefV Y.sentinel L.sentinelStatic L.statics hcS0 hiss hz2
  obtain ⟨ci198, i198, fB, hk198, hg198, ha198, hsB, -, hnB, htB, hffB⟩ := Cond.ownField (t := .object "java/lang/Object") Y.found L.cls (by decide +kernel) (a' (.fieldLink Bundle.tN 198 Bundle.tN "backtrace" "Ljava/lang/Object;") (by simp [tab4])) (a' (.lays Bundle.tN Bundle.tN "backtrace" "Ljava/lang/Object;") (by simp [tab4])) e.platform hpl
  obtain ⟨cellS, hcS', heS, -, hkeep⟩ := X.same.2.2.2.2.2 T.aS cellS0 hcS0
  have hcellS : T0.heap[T.aS]? = some cellS := hcS'
  have hkeep' : ∀ i : Nat, cellS.slots[i]? = cellS0.slots[i]? := fun i => hkeep i (by simp)
  have hknownS : cellS.vm ≠ .unknown := by
    rw [heS]; intro hu
    rw [show cellS0.vm = .unknown from hu] at hiss
    cases hiss
  have hneS : T.aS ≠ a := Nat.ne_of_lt (Nat.lt_of_lt_of_le (Array.getElem?_eq_some_iff.mp hcS0).1 hnew)
  obtain ⟨iM, hffM⟩ := Y.msg
  obtain ⟨tyC, dC, hdC, hdnC⟩ := Cond.laysAt hfound hk Y.cause (a' (.lays nse Bundle.tN "cause" "Ljava/lang/Throwable;") (by simp [tab4]))
  obtain ⟨tyS, dS, hdS, hdnS⟩ := Cond.laysAt hfound hk Y.stack (a' (.lays nse Bundle.tN "stackTrace" Bundle.steD) (by simp [tab4]))
  obtain ⟨tyP, dP, hdP, hdnP⟩ := Cond.laysAt hfound hk Y.supp (a' (.lays nse Bundle.tN "suppressedExceptions" Bundle.listD) (by simp [tab4]))
  obtain ⟨tyM, dM, hdM, hdnM⟩ := Cond.laysAt hfound hk hffM (a' (.lays nse Bundle.tN "detailMessage" "Ljava/lang/String;") (by simp [tab4]))
  obtain ⟨tyB, dB, hdB, hdnB⟩ := Cond.laysAt hfound hk hffB (a' (.lays nse Bundle.tN "backtrace" "Ljava/lang/Object;") (by simp [tab4]))
  have bC := Cond.laysApart hdB hdC hdnB hdnC (by rw [hnB, Y.causeName]; decide)
  have bS := Cond.laysApart hdB hdS hdnB hdnS (by rw [hnB, Y.stackName]; decide)
  have bP := Cond.laysApart hdB hdP hdnB hdnP (by rw [hnB, Y.suppName]; decide)
  have hskip : SkipFacts T e.platform s (fun u => u) u0 ((preparedCellV T.toThrowableT (freshCell P0.m.cls kX) a u0 sen).withEntry T0.cur) :=
    ⟨{ ci198 := ci198, i198 := i198, fBack := fB }, ⟨hk198, hg198, ha198, hsB⟩, by
      have := fresh_default (c := P0.m.cls) tyB
      rw [htB] at this
      simpa [preparedCellV, Cell.setSlot, Cell.withEntry, Array.getElem?_setIfInBounds, bC, bS, bP, bC.symm, bS.symm, bP.symm, defaultValue] using this, fun _ _ => rfl⟩
  obtain ⟨tm, methC, cdC, kC, vm₁, hnC, -, -, -, -, -, -, -, hW₁, st1⟩ := Steps.initColdS (tb := p.tables) (e := e) (below := below) (s := s) (U := T0) X.here hexec X.warmed hpl hown (t := Bundle.initS nse) rfl rfl (by decide)
    hlnk (h (.instanceMethod (Bundle.initS nse)) (by simp [tab4, Bundle.passSAtoms])) (bytes := b13) (maxL := 2) (h (.code (Bundle.initS nse) b13 2 none) (by simp [tab4, Bundle.passSAtoms]))
    (f := g) hg (a := a) (msg := msg) (rest := .ref a :: rest) hstack hd6
  cases Option.some.inj (hnC.symm.trans hP0m)
  have X₁ := X.noted hW₁
  have hsup : P0.sup = P1.m := Option.some.inj (hP0s.symm.trans hP1m)
  obtain ⟨vm₂, X₂, st2⟩ := X₁.ctorMessageOffV hexec (g := { g with stack := .ref a :: rest }) hg hsize T L Z LZ M LM (P0 :: P1 :: Ps)
    (fun P hP => by
      rcases List.mem_cons.mp hP with rfl | hP
      · exact L0
      · rcases List.mem_cons.mp hP with rfl | hP
        · exact L1
        · exact hL P hP) ⟨hsup, hlink1, hlink⟩ (u0 := u0) (sen := sen) (self := a) hmsg (cell := freshCell P0.m.cls kX) (cellS := cellS)
    hcell (fun _ => by simp) (by simp) rfl rfl hsel0 hselF hcellS hneS hknownS (by rw [hkeep']; exact hu0) (by rw [hkeep']; exact hsen)
    (Takes.of_laid hk hord tyC (by rw [Y.causeType]; rfl)) (Takes.of_laid hk hord tyS (by rw [Y.stackType]; exact fits_refV_array _ u0)) (Takes.of_laid hk hord tyP (by rw [Y.suppType]; exact fits_refV_object _ sen))
    (Takes.of_laid hk hord tyM (by rw [Y.msgType]; exact fits_refV_object _ ⟨msg, hmsg⟩)) Y.objLocals hskip htr [] hd6
    (by simp only [List.length_cons, hlen, List.length_nil]; omega) (by simp only [List.length_cons, hlen, List.length_nil]; exact hRlocals)
  obtain ⟨hwalk, hrun, hended, hWU, hsame⟩ := X₂.athrowLeaves hexec (g := { g with stack := .ref a :: rest, pc := g.pc + 3 }) hg hlocked hentered hout (a := a) (rest := rest) rfl hd9
  have hlt : a < ((T0.setVm vm₁).setVm vm₂).heap.size := (Array.getElem?_eq_some_iff.mp hcell).1
  have hU := heapAt_setCell_self (s := (T0.setVm vm₁).setVm vm₂) (plainBareV T.toThrowableT (freshCell P0.m.cls kX) a u0 sen msg) hlt
  refine ⟨_, st1 _ (fun acts => ?_), hrun, hended, hWU, hsame.weaken (fun y hy hlt' => ?_) (Nat.le_refl _) (Nat.le_refl _), _, hU, rfl, hfound⟩
  · rw [doInvoke_state]
    exact st2 _ hwalk
  · rcases List.mem_append.mp hy with h1 | h1
    · exact h1
    · exfalso
      have hb : y.base = a := by
        simp only [List.mem_cons, List.not_mem_nil, or_false] at h1
        rcases h1 with rfl | rfl | rfl | rfl | rfl <;> rfl
      rw [hb] at hlt'
      exact Nat.not_lt.mpr hnew hlt'
end CT4
section FNT2
variable {l : Launch} {D : va_G} {cl : List vw_C} {tys : List (ClassId × FieldType)}
variable {p : Program} {e : Env} {R : Room} {s : State} {m : MethodId} {args : Array Value} {below : List Frame} {meth : Method} {c : Code} {H : Heap} {locs : List Loc}
variable {A : Nat → Prop} {cc : ByteArray} {nL : Nat} {ret : Option FieldType} {c0 : Cond} {own : String} {w : va_W} {pc : Nat} {ls : Array Slot}
theorem thr1 {strs : List (String × Nat × String)} {tx : String} {ic ix si : Nat} {B : Nat → Prop} (hfl : l.flags = pinnedFlags ++ [noTraceFlag]) (C : Cx p s m args meth c D cl tys A cc nL ret (c0 :: U0) own) (hH : Hp D cl B A s.heap H locs w) (hAe : A = fun q => s.heap.size ≤ q) (hex : c.exceptionTable.isEmpty = true) (hls : ls.size = nL) (hE : TE strs s) (j : Nat) (hj : strs[j]? = some (own, si, tx)) (hl : Cond.methodLink own ic ⟨"java/lang/IllegalArgumentException", "<init>", "(Ljava/lang/String;)V"⟩ ∈ U0) (hcl : Cond.classLink own ix "java/lang/IllegalArgumentException" ∈ c0 :: U0)
    (hR : 6 ≤ R.frames ∧ 83 ≤ R.locals ∧ 1 ≤ R.cells ∧ 6 ≤ R.slots)
    (d0 : decode cc pc = .ok (.new ix, 3)) (d1 : decode cc (pc + 3) = .ok (.dup, 1)) (d2 : decode cc (pc + 3 + 1) = .ok (.ldc si, 2)) (d3 : decode cc (pc + 3 + 1 + 2) = .ok (.invokespecial ic, 3)) (d4 : decode cc (pc + 3 + 1 + 2 + 3) = .ok (.athrow, 1)) :
    W p l e R s m args below meth c H locs 0 0 (MT below s (exN 1) 1 6) (F0 m pc ls []) := by
  obtain ⟨q, hq⟩ := hE.2.2.1 _ (List.mem_of_getElem? hj)
  exact thr (X := "java/lang/IllegalArgumentException") (names := exCh) hfl C hH hAe hex hls (ownAt C.2.2.2.2.2.1 tabAt_1 hE hl) (by decide +kernel) (by decide +kernel) hcl (.tail _ (mU (by decide +kernel) (by decide +kernel))) (.tail _ (mU (by decide +kernel) (by decide +kernel))) hq ⟨by show 2 + 3 < _; omega, by show 13 * (2 + 1) + 43 ≤ _; omega, hR.2.2.1, hR.2.2.2⟩ d0 d1 d2 d3 d4
theorem thr2 {strs : List (String × Nat × String)} {tx : String} {ic ix si : Nat} {B : Nat → Prop} (hfl : l.flags = pinnedFlags ++ [noTraceFlag]) (C : Cx p s m args meth c D cl tys A cc nL ret (c0 :: U0) own) (hH : Hp D cl B A s.heap H locs w) (hAe : A = fun q => s.heap.size ≤ q) (hex : c.exceptionTable.isEmpty = true) (hls : ls.size = nL) (hE : TE strs s) (j : Nat) (hj : strs[j]? = some (own, si, tx)) (hl : Cond.methodLink own ic ⟨"java/lang/IllegalStateException", "<init>", "(Ljava/lang/String;)V"⟩ ∈ U0) (hcl : Cond.classLink own ix "java/lang/IllegalStateException" ∈ c0 :: U0)
    (hR : 6 ≤ R.frames ∧ 83 ≤ R.locals ∧ 1 ≤ R.cells ∧ 6 ≤ R.slots)
    (d0 : decode cc pc = .ok (.new ix, 3)) (d1 : decode cc (pc + 3) = .ok (.dup, 1)) (d2 : decode cc (pc + 3 + 1) = .ok (.ldc si, 2)) (d3 : decode cc (pc + 3 + 1 + 2) = .ok (.invokespecial ic, 3)) (d4 : decode cc (pc + 3 + 1 + 2 + 3) = .ok (.athrow, 1)) :
    W p l e R s m args below meth c H locs 0 0 (MT below s (exN 2) 1 6) (F0 m pc ls []) := by
  obtain ⟨q, hq⟩ := hE.2.2.1 _ (List.mem_of_getElem? hj)
  exact thr (X := "java/lang/IllegalStateException") (names := exCh) hfl C hH hAe hex hls (ownAt C.2.2.2.2.2.1 tabAt_2 hE hl) (by decide +kernel) (by decide +kernel) hcl (.tail _ (mU (by decide +kernel) (by decide +kernel))) (.tail _ (mU (by decide +kernel) (by decide +kernel))) hq ⟨by show 2 + 3 < _; omega, by show 13 * (2 + 1) + 43 ≤ _; omega, hR.2.2.1, hR.2.2.2⟩ d0 d1 d2 d3 d4
theorem thr3 {strs : List (String × Nat × String)} {tx : String} {ic ix si : Nat} {B : Nat → Prop} (hfl : l.flags = pinnedFlags ++ [noTraceFlag]) (C : Cx p s m args meth c D cl tys A cc nL ret (c0 :: U0) own) (hH : Hp D cl B A s.heap H locs w) (hAe : A = fun q => s.heap.size ≤ q) (hex : c.exceptionTable.isEmpty = true) (hls : ls.size = nL) (hE : TE strs s) (j : Nat) (hj : strs[j]? = some (own, si, tx)) (hl : Cond.methodLink own ic ⟨"java/lang/IndexOutOfBoundsException", "<init>", "(Ljava/lang/String;)V"⟩ ∈ U0) (hcl : Cond.classLink own ix "java/lang/IndexOutOfBoundsException" ∈ c0 :: U0)
    (hR : 6 ≤ R.frames ∧ 83 ≤ R.locals ∧ 1 ≤ R.cells ∧ 6 ≤ R.slots)
    (d0 : decode cc pc = .ok (.new ix, 3)) (d1 : decode cc (pc + 3) = .ok (.dup, 1)) (d2 : decode cc (pc + 3 + 1) = .ok (.ldc si, 2)) (d3 : decode cc (pc + 3 + 1 + 2) = .ok (.invokespecial ic, 3)) (d4 : decode cc (pc + 3 + 1 + 2 + 3) = .ok (.athrow, 1)) :
    W p l e R s m args below meth c H locs 0 0 (MT below s (exN 3) 1 6) (F0 m pc ls []) := by
  obtain ⟨q, hq⟩ := hE.2.2.1 _ (List.mem_of_getElem? hj)
  exact thr (X := "java/lang/IndexOutOfBoundsException") (names := exCh) hfl C hH hAe hex hls (ownAt C.2.2.2.2.2.1 tabAt_3 hE hl) (by decide +kernel) (by decide +kernel) hcl (.tail _ (mU (by decide +kernel) (by decide +kernel))) (.tail _ (mU (by decide +kernel) (by decide +kernel))) hq ⟨by show 2 + 3 < _; omega, by show 13 * (2 + 1) + 43 ≤ _; omega, hR.2.2.1, hR.2.2.2⟩ d0 d1 d2 d3 d4
theorem thr4 {strs : List (String × Nat × String)} {tx : String} {ic ix si : Nat} {B : Nat → Prop} (hfl : l.flags = pinnedFlags ++ [noTraceFlag]) (C : Cx p s m args meth c D cl tys A cc nL ret (c0 :: U0) own) (hH : Hp D cl B A s.heap H locs w) (hAe : A = fun q => s.heap.size ≤ q) (hex : c.exceptionTable.isEmpty = true) (hls : ls.size = nL) (hE : TE strs s) (j : Nat) (hj : strs[j]? = some (own, si, tx)) (hl : Cond.methodLink own ic ⟨"java/util/NoSuchElementException", "<init>", "(Ljava/lang/String;)V"⟩ ∈ U0) (hcl : Cond.classLink own ix "java/util/NoSuchElementException" ∈ c0 :: U0)
    (hR : 6 ≤ R.frames ∧ 83 ≤ R.locals ∧ 1 ≤ R.cells ∧ 6 ≤ R.slots)
    (d0 : decode cc pc = .ok (.new ix, 3)) (d1 : decode cc (pc + 3) = .ok (.dup, 1)) (d2 : decode cc (pc + 3 + 1) = .ok (.ldc si, 2)) (d3 : decode cc (pc + 3 + 1 + 2) = .ok (.invokespecial ic, 3)) (d4 : decode cc (pc + 3 + 1 + 2 + 3) = .ok (.athrow, 1)) :
    W p l e R s m args below meth c H locs 0 0 (MT below s (exN 4) 1 6) (F0 m pc ls []) := by
  obtain ⟨q, hq⟩ := hE.2.2.1 _ (List.mem_of_getElem? hj)
  subst hAe
  obtain ⟨hx, hb, hr, hml, hown, hts, hlk, hK, hA⟩ := id C
  have hat : ∀ a ∈ tab4, a.before args s = true := fun a h1 => (tab4_ok a h1).elim (fun g => hts a (.tail _ g)) (fun g => hE.2.2.2 a g _)
  have hinst : (Cond.instantiable nse 6).before args s = true := hat _ (by simp [tab4])
  refine va_forget (fun q hq => hH.2.2.2.2 q hq) ?_
  obtain ⟨cX, kX, hfX, -⟩ := Cond.instantiable_spec hinst
  refine W.newcK hx hb hown (hts _ hcl) hinst (hts _ (.tail _ (mU (w := .initialized nse) (by decide +kernel) (by decide +kernel)))) rfl d0 (by omega) (by omega) hfX rfl fun H1 kC hkC e1 z1 o1 => ?_
  refine lv_dup hx hb d1 rfl ?_
  refine va_ldcS hx hb hown hq d2 ?_
  intro T hT XX
  obtain ⟨U, st, hrun, hend, hW, hsame, ce, hce, hv, hcl2⟩ := ctor4 XX hx (Launch.traces_off hfl XX.admits) hown hat (zqRef hE.1) (zqRef hE.2.1) (hts _ (.tail _ hl)) hfX hkC (by rw [hT]; exact e1) hH.2.2.1 (msg := .ref q) rfl (g := F0 m (pc + 3 + 1 + 2) ls [.ref q, .ref H.size, .ref H.size]) rfl (hls.trans hml.symm) rfl rfl rfl (by rw [hb]; exact d3) (by rw [hb]; exact d4)
    (fun x hx => by rw [Array.isEmpty_iff.mp hex] at hx; cases hx) (by omega) (by show 2 * 0 + (1 + 0) + _ ≤ _; omega) hlk
  exact ⟨U, st, H.size, ce, hrun, hend, hce, hv, by rw [hW.alike.findClass]; exact hcl2, hH.2.2.1, hW, hsame⟩
end FNT2
end
