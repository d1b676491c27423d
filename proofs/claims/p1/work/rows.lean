section
-- ===== PART A: goes FIRST, ahead of the names: the tables' words, and 'selects' of the private methods out of them =====
/-- a private method of a class that the tables say can be made, by its rows of tables_1 -/
def lw_okq (q : MethodName × Nat) : Prop := (q.1.cls ≠ "java/lang/invoke/MethodHandle" ∧ q.1.cls ≠ "java/lang/invoke/VarHandle") ∧ Cond.instantiable q.1.cls q.2 ∈ tables_1 ∧ Cond.privateMethod q.1 ∈ tables_1 ∧ Cond.instanceMethod q.1 ∈ tables_1
theorem lw_p0 : lw_okq (⟨"TwinVaults", "storeOf", "(I)LTwinVaults$Store;"⟩, 10) := ⟨⟨by decide +kernel, by decide +kernel⟩, List.mem_of_getElem? (i := 23) (by decide +kernel), List.mem_of_getElem? (i := 370) (by decide +kernel), List.mem_of_getElem? (i := 371) (by decide +kernel)⟩
theorem lw_p1 : lw_okq (⟨"TwinVaults", "writeOne", "(LTwinVaults$Store;II)I"⟩, 10) := ⟨⟨by decide +kernel, by decide +kernel⟩, List.mem_of_getElem? (i := 23) (by decide +kernel), List.mem_of_getElem? (i := 381) (by decide +kernel), List.mem_of_getElem? (i := 382) (by decide +kernel)⟩
theorem lw_p2 : lw_okq (⟨"TwinVaults", "flushed", "(LTwinVaults$Store;)Z"⟩, 10) := ⟨⟨by decide +kernel, by decide +kernel⟩, List.mem_of_getElem? (i := 23) (by decide +kernel), List.mem_of_getElem? (i := 393) (by decide +kernel), List.mem_of_getElem? (i := 394) (by decide +kernel)⟩
theorem lw_p3 : lw_okq (⟨"TwinVaults", "checkpointed", "(LTwinVaults$Store;)Z"⟩, 10) := ⟨⟨by decide +kernel, by decide +kernel⟩, List.mem_of_getElem? (i := 23) (by decide +kernel), List.mem_of_getElem? (i := 401) (by decide +kernel), List.mem_of_getElem? (i := 402) (by decide +kernel)⟩
theorem lw_p4 : lw_okq (⟨"TwinVaults$Vault", "latestLine", "()I"⟩, 11) := ⟨⟨by decide +kernel, by decide +kernel⟩, List.mem_of_getElem? (i := 173) (by decide +kernel), List.mem_of_getElem? (i := 437) (by decide +kernel), List.mem_of_getElem? (i := 438) (by decide +kernel)⟩
theorem lw_p5 : lw_okq (⟨"TwinVaults", "freeBlocks", "(LTwinVaults$Site;)I"⟩, 10) := ⟨⟨by decide +kernel, by decide +kernel⟩, List.mem_of_getElem? (i := 23) (by decide +kernel), List.mem_of_getElem? (i := 451) (by decide +kernel), List.mem_of_getElem? (i := 452) (by decide +kernel)⟩
theorem lw_p6 : lw_okq (⟨"TwinVaults$Writes", "grow", "(I)V"⟩, 7) := ⟨⟨by decide +kernel, by decide +kernel⟩, List.mem_of_getElem? (i := 63) (by decide +kernel), List.mem_of_getElem? (i := 467) (by decide +kernel), List.mem_of_getElem? (i := 468) (by decide +kernel)⟩
theorem lw_p7 : lw_okq (⟨"TwinVaults", "tookSnapshot", "(LTwinVaults$Store;)Z"⟩, 10) := ⟨⟨by decide +kernel, by decide +kernel⟩, List.mem_of_getElem? (i := 23) (by decide +kernel), List.mem_of_getElem? (i := 507) (by decide +kernel), List.mem_of_getElem? (i := 508) (by decide +kernel)⟩
theorem lw_p8 : lw_okq (⟨"TwinVaults$Store", "isPinned", "(I)Z"⟩, 20) := ⟨⟨by decide +kernel, by decide +kernel⟩, List.mem_of_getElem? (i := 171) (by decide +kernel), List.mem_of_getElem? (i := 519) (by decide +kernel), List.mem_of_getElem? (i := 520) (by decide +kernel)⟩
theorem lw_p9 : lw_okq (⟨"TwinVaults", "sendHello", "(LTwinVaults$Store;)V"⟩, 10) := ⟨⟨by decide +kernel, by decide +kernel⟩, List.mem_of_getElem? (i := 23) (by decide +kernel), List.mem_of_getElem? (i := 572) (by decide +kernel), List.mem_of_getElem? (i := 573) (by decide +kernel)⟩
theorem lw_p10 : lw_okq (⟨"TwinVaults", "tickOf", "(LTwinVaults$Store;)V"⟩, 10) := ⟨⟨by decide +kernel, by decide +kernel⟩, List.mem_of_getElem? (i := 23) (by decide +kernel), List.mem_of_getElem? (i := 634) (by decide +kernel), List.mem_of_getElem? (i := 635) (by decide +kernel)⟩
theorem lw_p11 : lw_okq (⟨"TwinVaults", "sendForward", "(LTwinVaults$Store;)V"⟩, 10) := ⟨⟨by decide +kernel, by decide +kernel⟩, List.mem_of_getElem? (i := 23) (by decide +kernel), List.mem_of_getElem? (i := 642) (by decide +kernel), List.mem_of_getElem? (i := 643) (by decide +kernel)⟩
theorem lw_p12 : lw_okq (⟨"TwinVaults", "sendOffer", "(LTwinVaults$Store;)V"⟩, 10) := ⟨⟨by decide +kernel, by decide +kernel⟩, List.mem_of_getElem? (i := 23) (by decide +kernel), List.mem_of_getElem? (i := 650) (by decide +kernel), List.mem_of_getElem? (i := 651) (by decide +kernel)⟩
theorem lw_p13 : lw_okq (⟨"TwinVaults$Row", "sink", "([III)V"⟩, 4) := ⟨⟨by decide +kernel, by decide +kernel⟩, List.mem_of_getElem? (i := 261) (by decide +kernel), List.mem_of_getElem? (i := 688) (by decide +kernel), List.mem_of_getElem? (i := 689) (by decide +kernel)⟩
theorem lw_p14 : lw_okq (⟨"TwinVaults", "handOver", "(LTwinVaults$Store;)V"⟩, 10) := ⟨⟨by decide +kernel, by decide +kernel⟩, List.mem_of_getElem? (i := 23) (by decide +kernel), List.mem_of_getElem? (i := 692) (by decide +kernel), List.mem_of_getElem? (i := 693) (by decide +kernel)⟩
theorem lw_p15 : lw_okq (⟨"TwinVaults", "sendGive", "(LTwinVaults$Store;)V"⟩, 10) := ⟨⟨by decide +kernel, by decide +kernel⟩, List.mem_of_getElem? (i := 23) (by decide +kernel), List.mem_of_getElem? (i := 696) (by decide +kernel), List.mem_of_getElem? (i := 697) (by decide +kernel)⟩
def lw_privs_1 : List (MethodName × Nat) := [(⟨"TwinVaults", "storeOf", "(I)LTwinVaults$Store;"⟩, 10), (⟨"TwinVaults", "writeOne", "(LTwinVaults$Store;II)I"⟩, 10), (⟨"TwinVaults", "flushed", "(LTwinVaults$Store;)Z"⟩, 10), (⟨"TwinVaults", "checkpointed", "(LTwinVaults$Store;)Z"⟩, 10), (⟨"TwinVaults$Vault", "latestLine", "()I"⟩, 11), (⟨"TwinVaults", "freeBlocks", "(LTwinVaults$Site;)I"⟩, 10), (⟨"TwinVaults$Writes", "grow", "(I)V"⟩, 7), (⟨"TwinVaults", "tookSnapshot", "(LTwinVaults$Store;)Z"⟩, 10), (⟨"TwinVaults$Store", "isPinned", "(I)Z"⟩, 20), (⟨"TwinVaults", "sendHello", "(LTwinVaults$Store;)V"⟩, 10), (⟨"TwinVaults", "tickOf", "(LTwinVaults$Store;)V"⟩, 10), (⟨"TwinVaults", "sendForward", "(LTwinVaults$Store;)V"⟩, 10), (⟨"TwinVaults", "sendOffer", "(LTwinVaults$Store;)V"⟩, 10), (⟨"TwinVaults$Row", "sink", "([III)V"⟩, 4), (⟨"TwinVaults", "handOver", "(LTwinVaults$Store;)V"⟩, 10), (⟨"TwinVaults", "sendGive", "(LTwinVaults$Store;)V"⟩, 10)]
theorem lw_r1 : ∀ q ∈ lw_privs_1, lw_okq q := List.forall_mem_cons.mpr ⟨lw_p0, List.forall_mem_cons.mpr ⟨lw_p1, List.forall_mem_cons.mpr ⟨lw_p2, List.forall_mem_cons.mpr ⟨lw_p3, List.forall_mem_cons.mpr ⟨lw_p4, List.forall_mem_cons.mpr ⟨lw_p5, List.forall_mem_cons.mpr ⟨lw_p6, List.forall_mem_cons.mpr ⟨lw_p7, List.forall_mem_cons.mpr ⟨lw_p8, List.forall_mem_cons.mpr ⟨lw_p9, List.forall_mem_cons.mpr ⟨lw_p10, List.forall_mem_cons.mpr ⟨lw_p11, List.forall_mem_cons.mpr ⟨lw_p12, List.forall_mem_cons.mpr ⟨lw_p13, List.forall_mem_cons.mpr ⟨lw_p14, List.forall_mem_cons.mpr ⟨lw_p15, fun _ h => absurd h List.not_mem_nil⟩⟩⟩⟩⟩⟩⟩⟩⟩⟩⟩⟩⟩⟩⟩⟩
theorem lw_p16 : lw_okq (⟨"TwinVaults$Vault", "rewind", "(I)V"⟩, 11) := ⟨⟨by decide +kernel, by decide +kernel⟩, List.mem_of_getElem? (i := 173) (by decide +kernel), List.mem_of_getElem? (i := 723) (by decide +kernel), List.mem_of_getElem? (i := 724) (by decide +kernel)⟩
theorem lw_p17 : lw_okq (⟨"TwinVaults", "receive", "(LTwinVaults$Message;)V"⟩, 10) := ⟨⟨by decide +kernel, by decide +kernel⟩, List.mem_of_getElem? (i := 23) (by decide +kernel), List.mem_of_getElem? (i := 739) (by decide +kernel), List.mem_of_getElem? (i := 740) (by decide +kernel)⟩
theorem lw_p18 : lw_okq (⟨"TwinVaults", "send", "(LTwinVaults$Store;II)V"⟩, 10) := ⟨⟨by decide +kernel, by decide +kernel⟩, List.mem_of_getElem? (i := 23) (by decide +kernel), List.mem_of_getElem? (i := 743) (by decide +kernel), List.mem_of_getElem? (i := 744) (by decide +kernel)⟩
theorem lw_p19 : lw_okq (⟨"TwinVaults", "onOffer", "(LTwinVaults$Store;LTwinVaults$Message;)V"⟩, 10) := ⟨⟨by decide +kernel, by decide +kernel⟩, List.mem_of_getElem? (i := 23) (by decide +kernel), List.mem_of_getElem? (i := 757) (by decide +kernel), List.mem_of_getElem? (i := 758) (by decide +kernel)⟩
theorem lw_p20 : lw_okq (⟨"TwinVaults", "commit", "(LTwinVaults$Store;)V"⟩, 10) := ⟨⟨by decide +kernel, by decide +kernel⟩, List.mem_of_getElem? (i := 23) (by decide +kernel), List.mem_of_getElem? (i := 774) (by decide +kernel), List.mem_of_getElem? (i := 775) (by decide +kernel)⟩
theorem lw_p21 : lw_okq (⟨"TwinVaults$Vault", "advance", "(I)V"⟩, 11) := ⟨⟨by decide +kernel, by decide +kernel⟩, List.mem_of_getElem? (i := 173) (by decide +kernel), List.mem_of_getElem? (i := 783) (by decide +kernel), List.mem_of_getElem? (i := 784) (by decide +kernel)⟩
theorem lw_p22 : lw_okq (⟨"TwinVaults", "sendProgress", "(LTwinVaults$Store;I)V"⟩, 10) := ⟨⟨by decide +kernel, by decide +kernel⟩, List.mem_of_getElem? (i := 23) (by decide +kernel), List.mem_of_getElem? (i := 789) (by decide +kernel), List.mem_of_getElem? (i := 790) (by decide +kernel)⟩
theorem lw_p23 : lw_okq (⟨"TwinVaults", "onAccept", "(LTwinVaults$Store;LTwinVaults$Message;)V"⟩, 10) := ⟨⟨by decide +kernel, by decide +kernel⟩, List.mem_of_getElem? (i := 23) (by decide +kernel), List.mem_of_getElem? (i := 793) (by decide +kernel), List.mem_of_getElem? (i := 794) (by decide +kernel)⟩
theorem lw_p24 : lw_okq (⟨"TwinVaults", "sendOn", "(LTwinVaults$Store;)V"⟩, 10) := ⟨⟨by decide +kernel, by decide +kernel⟩, List.mem_of_getElem? (i := 23) (by decide +kernel), List.mem_of_getElem? (i := 801) (by decide +kernel), List.mem_of_getElem? (i := 802) (by decide +kernel)⟩
theorem lw_p25 : lw_okq (⟨"TwinVaults", "sendData", "(LTwinVaults$Store;I)V"⟩, 10) := ⟨⟨by decide +kernel, by decide +kernel⟩, List.mem_of_getElem? (i := 23) (by decide +kernel), List.mem_of_getElem? (i := 805) (by decide +kernel), List.mem_of_getElem? (i := 806) (by decide +kernel)⟩
theorem lw_p26 : lw_okq (⟨"TwinVaults", "onData", "(LTwinVaults$Store;LTwinVaults$Message;)V"⟩, 10) := ⟨⟨by decide +kernel, by decide +kernel⟩, List.mem_of_getElem? (i := 23) (by decide +kernel), List.mem_of_getElem? (i := 813) (by decide +kernel), List.mem_of_getElem? (i := 814) (by decide +kernel)⟩
theorem lw_p27 : lw_okq (⟨"TwinVaults", "onAck", "(LTwinVaults$Store;LTwinVaults$Message;)V"⟩, 10) := ⟨⟨by decide +kernel, by decide +kernel⟩, List.mem_of_getElem? (i := 23) (by decide +kernel), List.mem_of_getElem? (i := 825) (by decide +kernel), List.mem_of_getElem? (i := 826) (by decide +kernel)⟩
theorem lw_p28 : lw_okq (⟨"TwinVaults", "onHave", "(LTwinVaults$Store;LTwinVaults$Message;)V"⟩, 10) := ⟨⟨by decide +kernel, by decide +kernel⟩, List.mem_of_getElem? (i := 23) (by decide +kernel), List.mem_of_getElem? (i := 829) (by decide +kernel), List.mem_of_getElem? (i := 830) (by decide +kernel)⟩
theorem lw_p29 : lw_okq (⟨"TwinVaults", "onLack", "(LTwinVaults$Store;LTwinVaults$Message;)V"⟩, 10) := ⟨⟨by decide +kernel, by decide +kernel⟩, List.mem_of_getElem? (i := 23) (by decide +kernel), List.mem_of_getElem? (i := 833) (by decide +kernel), List.mem_of_getElem? (i := 834) (by decide +kernel)⟩
theorem lw_p30 : lw_okq (⟨"TwinVaults", "onGive", "(LTwinVaults$Store;LTwinVaults$Message;)V"⟩, 10) := ⟨⟨by decide +kernel, by decide +kernel⟩, List.mem_of_getElem? (i := 23) (by decide +kernel), List.mem_of_getElem? (i := 838) (by decide +kernel), List.mem_of_getElem? (i := 839) (by decide +kernel)⟩
theorem lw_p31 : lw_okq (⟨"TwinVaults", "onHello", "(LTwinVaults$Store;LTwinVaults$Message;)V"⟩, 10) := ⟨⟨by decide +kernel, by decide +kernel⟩, List.mem_of_getElem? (i := 23) (by decide +kernel), List.mem_of_getElem? (i := 842) (by decide +kernel), List.mem_of_getElem? (i := 843) (by decide +kernel)⟩
def lw_privs_2 : List (MethodName × Nat) := [(⟨"TwinVaults$Vault", "rewind", "(I)V"⟩, 11), (⟨"TwinVaults", "receive", "(LTwinVaults$Message;)V"⟩, 10), (⟨"TwinVaults", "send", "(LTwinVaults$Store;II)V"⟩, 10), (⟨"TwinVaults", "onOffer", "(LTwinVaults$Store;LTwinVaults$Message;)V"⟩, 10), (⟨"TwinVaults", "commit", "(LTwinVaults$Store;)V"⟩, 10), (⟨"TwinVaults$Vault", "advance", "(I)V"⟩, 11), (⟨"TwinVaults", "sendProgress", "(LTwinVaults$Store;I)V"⟩, 10), (⟨"TwinVaults", "onAccept", "(LTwinVaults$Store;LTwinVaults$Message;)V"⟩, 10), (⟨"TwinVaults", "sendOn", "(LTwinVaults$Store;)V"⟩, 10), (⟨"TwinVaults", "sendData", "(LTwinVaults$Store;I)V"⟩, 10), (⟨"TwinVaults", "onData", "(LTwinVaults$Store;LTwinVaults$Message;)V"⟩, 10), (⟨"TwinVaults", "onAck", "(LTwinVaults$Store;LTwinVaults$Message;)V"⟩, 10), (⟨"TwinVaults", "onHave", "(LTwinVaults$Store;LTwinVaults$Message;)V"⟩, 10), (⟨"TwinVaults", "onLack", "(LTwinVaults$Store;LTwinVaults$Message;)V"⟩, 10), (⟨"TwinVaults", "onGive", "(LTwinVaults$Store;LTwinVaults$Message;)V"⟩, 10), (⟨"TwinVaults", "onHello", "(LTwinVaults$Store;LTwinVaults$Message;)V"⟩, 10)]
theorem lw_r2 : ∀ q ∈ lw_privs_2, lw_okq q := List.forall_mem_cons.mpr ⟨lw_p16, List.forall_mem_cons.mpr ⟨lw_p17, List.forall_mem_cons.mpr ⟨lw_p18, List.forall_mem_cons.mpr ⟨lw_p19, List.forall_mem_cons.mpr ⟨lw_p20, List.forall_mem_cons.mpr ⟨lw_p21, List.forall_mem_cons.mpr ⟨lw_p22, List.forall_mem_cons.mpr ⟨lw_p23, List.forall_mem_cons.mpr ⟨lw_p24, List.forall_mem_cons.mpr ⟨lw_p25, List.forall_mem_cons.mpr ⟨lw_p26, List.forall_mem_cons.mpr ⟨lw_p27, List.forall_mem_cons.mpr ⟨lw_p28, List.forall_mem_cons.mpr ⟨lw_p29, List.forall_mem_cons.mpr ⟨lw_p30, List.forall_mem_cons.mpr ⟨lw_p31, fun _ h => absurd h List.not_mem_nil⟩⟩⟩⟩⟩⟩⟩⟩⟩⟩⟩⟩⟩⟩⟩⟩
theorem lw_p32 : lw_okq (⟨"TwinVaults", "onCommon", "(LTwinVaults$Store;LTwinVaults$Message;)V"⟩, 10) := ⟨⟨by decide +kernel, by decide +kernel⟩, List.mem_of_getElem? (i := 23) (by decide +kernel), List.mem_of_getElem? (i := 846) (by decide +kernel), List.mem_of_getElem? (i := 847) (by decide +kernel)⟩
theorem lw_p33 : lw_okq (⟨"TwinVaults", "totalOf", "(LTwinVaults$Site;I)I"⟩, 10) := ⟨⟨by decide +kernel, by decide +kernel⟩, List.mem_of_getElem? (i := 23) (by decide +kernel), List.mem_of_getElem? (i := 876) (by decide +kernel), List.mem_of_getElem? (i := 877) (by decide +kernel)⟩
theorem lw_p34 : lw_okq (⟨"java/lang/Throwable", "fillInStackTrace", "(I)Ljava/lang/Throwable;"⟩, 6) := ⟨⟨by decide +kernel, by decide +kernel⟩, List.mem_of_getElem? (i := 928) (by decide +kernel), List.mem_of_getElem? (i := 926) (by decide +kernel), List.mem_of_getElem? (i := 927) (by decide +kernel)⟩
theorem lw_p35 : lw_okq (⟨"TwinVaultsModel", "of", "(I)LTwinVaultsModel$Store;"⟩, 39) := ⟨⟨by decide +kernel, by decide +kernel⟩, List.mem_of_getElem? (i := 1029) (by decide +kernel), List.mem_of_getElem? (i := 1343) (by decide +kernel), List.mem_of_getElem? (i := 1344) (by decide +kernel)⟩
theorem lw_p36 : lw_okq (⟨"TwinVaultsModel", "isPlace", "(LTwinVaultsModel$Store;II)Z"⟩, 39) := ⟨⟨by decide +kernel, by decide +kernel⟩, List.mem_of_getElem? (i := 1029) (by decide +kernel), List.mem_of_getElem? (i := 1347) (by decide +kernel), List.mem_of_getElem? (i := 1348) (by decide +kernel)⟩
theorem lw_p37 : lw_okq (⟨"TwinVaultsModel", "writes", "(LTwinVaultsModel$Store;III)I"⟩, 39) := ⟨⟨by decide +kernel, by decide +kernel⟩, List.mem_of_getElem? (i := 1029) (by decide +kernel), List.mem_of_getElem? (i := 1351) (by decide +kernel), List.mem_of_getElem? (i := 1352) (by decide +kernel)⟩
theorem lw_p38 : lw_okq (⟨"TwinVaultsModel", "flushes", "(LTwinVaultsModel$Store;)Z"⟩, 39) := ⟨⟨by decide +kernel, by decide +kernel⟩, List.mem_of_getElem? (i := 1029) (by decide +kernel), List.mem_of_getElem? (i := 1356) (by decide +kernel), List.mem_of_getElem? (i := 1357) (by decide +kernel)⟩
theorem lw_p39 : lw_okq (⟨"TwinVaultsModel", "checks", "(LTwinVaultsModel$Store;)I"⟩, 39) := ⟨⟨by decide +kernel, by decide +kernel⟩, List.mem_of_getElem? (i := 1029) (by decide +kernel), List.mem_of_getElem? (i := 1360) (by decide +kernel), List.mem_of_getElem? (i := 1361) (by decide +kernel)⟩
theorem lw_p40 : lw_okq (⟨"TwinVaultsModel", "nodes", "(III)I"⟩, 39) := ⟨⟨by decide +kernel, by decide +kernel⟩, List.mem_of_getElem? (i := 1029) (by decide +kernel), List.mem_of_getElem? (i := 1364) (by decide +kernel), List.mem_of_getElem? (i := 1365) (by decide +kernel)⟩
theorem lw_p41 : lw_okq (⟨"TwinVaultsModel", "path", "(II)I"⟩, 39) := ⟨⟨by decide +kernel, by decide +kernel⟩, List.mem_of_getElem? (i := 1029) (by decide +kernel), List.mem_of_getElem? (i := 1368) (by decide +kernel), List.mem_of_getElem? (i := 1369) (by decide +kernel)⟩
theorem lw_p42 : lw_okq (⟨"TwinVaultsModel", "acts", "(II)Z"⟩, 39) := ⟨⟨by decide +kernel, by decide +kernel⟩, List.mem_of_getElem? (i := 1029) (by decide +kernel), List.mem_of_getElem? (i := 1372) (by decide +kernel), List.mem_of_getElem? (i := 1373) (by decide +kernel)⟩
theorem lw_p43 : lw_okq (⟨"TwinVaultsModel", "act", "(I)Z"⟩, 39) := ⟨⟨by decide +kernel, by decide +kernel⟩, List.mem_of_getElem? (i := 1029) (by decide +kernel), List.mem_of_getElem? (i := 1376) (by decide +kernel), List.mem_of_getElem? (i := 1377) (by decide +kernel)⟩
theorem lw_p44 : lw_okq (⟨"TwinVaultsModel", "goesDown", "(I)V"⟩, 39) := ⟨⟨by decide +kernel, by decide +kernel⟩, List.mem_of_getElem? (i := 1029) (by decide +kernel), List.mem_of_getElem? (i := 1380) (by decide +kernel), List.mem_of_getElem? (i := 1381) (by decide +kernel)⟩
theorem lw_p45 : lw_okq (⟨"TwinVaultsModel", "cut", "(II)I"⟩, 39) := ⟨⟨by decide +kernel, by decide +kernel⟩, List.mem_of_getElem? (i := 1029) (by decide +kernel), List.mem_of_getElem? (i := 1384) (by decide +kernel), List.mem_of_getElem? (i := 1385) (by decide +kernel)⟩
theorem lw_p46 : lw_okq (⟨"TwinVaultsModel", "free", "(I)I"⟩, 39) := ⟨⟨by decide +kernel, by decide +kernel⟩, List.mem_of_getElem? (i := 1029) (by decide +kernel), List.mem_of_getElem? (i := 1388) (by decide +kernel), List.mem_of_getElem? (i := 1389) (by decide +kernel)⟩
theorem lw_p47 : lw_okq (⟨"TwinVaultsModel", "needs", "(LTwinVaultsModel$Store;)I"⟩, 39) := ⟨⟨by decide +kernel, by decide +kernel⟩, List.mem_of_getElem? (i := 1029) (by decide +kernel), List.mem_of_getElem? (i := 1392) (by decide +kernel), List.mem_of_getElem? (i := 1393) (by decide +kernel)⟩
def lw_privs_3 : List (MethodName × Nat) := [(⟨"TwinVaults", "onCommon", "(LTwinVaults$Store;LTwinVaults$Message;)V"⟩, 10), (⟨"TwinVaults", "totalOf", "(LTwinVaults$Site;I)I"⟩, 10), (⟨"java/lang/Throwable", "fillInStackTrace", "(I)Ljava/lang/Throwable;"⟩, 6), (⟨"TwinVaultsModel", "of", "(I)LTwinVaultsModel$Store;"⟩, 39), (⟨"TwinVaultsModel", "isPlace", "(LTwinVaultsModel$Store;II)Z"⟩, 39), (⟨"TwinVaultsModel", "writes", "(LTwinVaultsModel$Store;III)I"⟩, 39), (⟨"TwinVaultsModel", "flushes", "(LTwinVaultsModel$Store;)Z"⟩, 39), (⟨"TwinVaultsModel", "checks", "(LTwinVaultsModel$Store;)I"⟩, 39), (⟨"TwinVaultsModel", "nodes", "(III)I"⟩, 39), (⟨"TwinVaultsModel", "path", "(II)I"⟩, 39), (⟨"TwinVaultsModel", "acts", "(II)Z"⟩, 39), (⟨"TwinVaultsModel", "act", "(I)Z"⟩, 39), (⟨"TwinVaultsModel", "goesDown", "(I)V"⟩, 39), (⟨"TwinVaultsModel", "cut", "(II)I"⟩, 39), (⟨"TwinVaultsModel", "free", "(I)I"⟩, 39), (⟨"TwinVaultsModel", "needs", "(LTwinVaultsModel$Store;)I"⟩, 39)]
theorem lw_r3 : ∀ q ∈ lw_privs_3, lw_okq q := List.forall_mem_cons.mpr ⟨lw_p32, List.forall_mem_cons.mpr ⟨lw_p33, List.forall_mem_cons.mpr ⟨lw_p34, List.forall_mem_cons.mpr ⟨lw_p35, List.forall_mem_cons.mpr ⟨lw_p36, List.forall_mem_cons.mpr ⟨lw_p37, List.forall_mem_cons.mpr ⟨lw_p38, List.forall_mem_cons.mpr ⟨lw_p39, List.forall_mem_cons.mpr ⟨lw_p40, List.forall_mem_cons.mpr ⟨lw_p41, List.forall_mem_cons.mpr ⟨lw_p42, List.forall_mem_cons.mpr ⟨lw_p43, List.forall_mem_cons.mpr ⟨lw_p44, List.forall_mem_cons.mpr ⟨lw_p45, List.forall_mem_cons.mpr ⟨lw_p46, List.forall_mem_cons.mpr ⟨lw_p47, fun _ h => absurd h List.not_mem_nil⟩⟩⟩⟩⟩⟩⟩⟩⟩⟩⟩⟩⟩⟩⟩⟩
theorem lw_p48 : lw_okq (⟨"TwinVaultsModel", "know", "(LTwinVaultsModel$Store;)V"⟩, 39) := ⟨⟨by decide +kernel, by decide +kernel⟩, List.mem_of_getElem? (i := 1029) (by decide +kernel), List.mem_of_getElem? (i := 1397) (by decide +kernel), List.mem_of_getElem? (i := 1398) (by decide +kernel)⟩
theorem lw_p49 : lw_okq (⟨"TwinVaultsModel", "against", "(LTwinVaultsModel$Store;II)I"⟩, 39) := ⟨⟨by decide +kernel, by decide +kernel⟩, List.mem_of_getElem? (i := 1029) (by decide +kernel), List.mem_of_getElem? (i := 1417) (by decide +kernel), List.mem_of_getElem? (i := 1418) (by decide +kernel)⟩
theorem lw_p50 : lw_okq (⟨"TwinVaultsModel", "takes", "(LTwinVaultsModel$Store;)Z"⟩, 39) := ⟨⟨by decide +kernel, by decide +kernel⟩, List.mem_of_getElem? (i := 1029) (by decide +kernel), List.mem_of_getElem? (i := 1425) (by decide +kernel), List.mem_of_getElem? (i := 1426) (by decide +kernel)⟩
theorem lw_p51 : lw_okq (⟨"TwinVaultsModel", "isTaken", "(III)V"⟩, 39) := ⟨⟨by decide +kernel, by decide +kernel⟩, List.mem_of_getElem? (i := 1029) (by decide +kernel), List.mem_of_getElem? (i := 1437) (by decide +kernel), List.mem_of_getElem? (i := 1438) (by decide +kernel)⟩
theorem lw_p52 : lw_okq (⟨"TwinVaultsModel", "begins", "(LTwinVaultsModel$Store;I)V"⟩, 39) := ⟨⟨by decide +kernel, by decide +kernel⟩, List.mem_of_getElem? (i := 1029) (by decide +kernel), List.mem_of_getElem? (i := 1473) (by decide +kernel), List.mem_of_getElem? (i := 1474) (by decide +kernel)⟩
theorem lw_p53 : lw_okq (⟨"TwinVaultsModel", "send", "(LTwinVaultsModel$Store;IIIII)V"⟩, 39) := ⟨⟨by decide +kernel, by decide +kernel⟩, List.mem_of_getElem? (i := 1029) (by decide +kernel), List.mem_of_getElem? (i := 1481) (by decide +kernel), List.mem_of_getElem? (i := 1482) (by decide +kernel)⟩
theorem lw_p54 : lw_okq (⟨"TwinVaultsModel", "piece", "(LTwinVaultsModel$Message;)V"⟩, 39) := ⟨⟨by decide +kernel, by decide +kernel⟩, List.mem_of_getElem? (i := 1029) (by decide +kernel), List.mem_of_getElem? (i := 1485) (by decide +kernel), List.mem_of_getElem? (i := 1486) (by decide +kernel)⟩
theorem lw_p55 : lw_okq (⟨"TwinVaultsModel", "ticks", "(LTwinVaultsModel$Store;)V"⟩, 39) := ⟨⟨by decide +kernel, by decide +kernel⟩, List.mem_of_getElem? (i := 1029) (by decide +kernel), List.mem_of_getElem? (i := 1497) (by decide +kernel), List.mem_of_getElem? (i := 1498) (by decide +kernel)⟩
theorem lw_p56 : lw_okq (⟨"TwinVaultsModel", "copies", "(LTwinVaultsModel$Store;)V"⟩, 39) := ⟨⟨by decide +kernel, by decide +kernel⟩, List.mem_of_getElem? (i := 1029) (by decide +kernel), List.mem_of_getElem? (i := 1501) (by decide +kernel), List.mem_of_getElem? (i := 1502) (by decide +kernel)⟩
theorem lw_p57 : lw_okq (⟨"TwinVaultsModel", "offers", "(LTwinVaultsModel$Store;)V"⟩, 39) := ⟨⟨by decide +kernel, by decide +kernel⟩, List.mem_of_getElem? (i := 1029) (by decide +kernel), List.mem_of_getElem? (i := 1505) (by decide +kernel), List.mem_of_getElem? (i := 1506) (by decide +kernel)⟩
theorem lw_p58 : lw_okq (⟨"TwinVaultsModel", "spanOf", "(LTwinVaultsModel$Store;)V"⟩, 39) := ⟨⟨by decide +kernel, by decide +kernel⟩, List.mem_of_getElem? (i := 1029) (by decide +kernel), List.mem_of_getElem? (i := 1509) (by decide +kernel), List.mem_of_getElem? (i := 1510) (by decide +kernel)⟩
theorem lw_p59 : lw_okq (⟨"TwinVaultsModel", "lineOf", "(II)I"⟩, 39) := ⟨⟨by decide +kernel, by decide +kernel⟩, List.mem_of_getElem? (i := 1029) (by decide +kernel), List.mem_of_getElem? (i := 1513) (by decide +kernel), List.mem_of_getElem? (i := 1514) (by decide +kernel)⟩
theorem lw_p60 : lw_okq (⟨"TwinVaultsModel", "span", "(III)V"⟩, 39) := ⟨⟨by decide +kernel, by decide +kernel⟩, List.mem_of_getElem? (i := 1029) (by decide +kernel), List.mem_of_getElem? (i := 1517) (by decide +kernel), List.mem_of_getElem? (i := 1518) (by decide +kernel)⟩
theorem lw_p61 : lw_okq (⟨"TwinVaultsModel", "flies", "(I)LTwinVaultsModel$Message;"⟩, 39) := ⟨⟨by decide +kernel, by decide +kernel⟩, List.mem_of_getElem? (i := 1029) (by decide +kernel), List.mem_of_getElem? (i := 1541) (by decide +kernel), List.mem_of_getElem? (i := 1542) (by decide +kernel)⟩
theorem lw_p62 : lw_okq (⟨"TwinVaultsModel", "receive", "(LTwinVaultsModel$Message;)V"⟩, 39) := ⟨⟨by decide +kernel, by decide +kernel⟩, List.mem_of_getElem? (i := 1029) (by decide +kernel), List.mem_of_getElem? (i := 1545) (by decide +kernel), List.mem_of_getElem? (i := 1546) (by decide +kernel)⟩
theorem lw_p63 : lw_okq (⟨"TwinVaultsModel", "other", "(LTwinVaultsModel$Store;)LTwinVaultsModel$Store;"⟩, 39) := ⟨⟨by decide +kernel, by decide +kernel⟩, List.mem_of_getElem? (i := 1029) (by decide +kernel), List.mem_of_getElem? (i := 1549) (by decide +kernel), List.mem_of_getElem? (i := 1550) (by decide +kernel)⟩
def lw_privs_4 : List (MethodName × Nat) := [(⟨"TwinVaultsModel", "know", "(LTwinVaultsModel$Store;)V"⟩, 39), (⟨"TwinVaultsModel", "against", "(LTwinVaultsModel$Store;II)I"⟩, 39), (⟨"TwinVaultsModel", "takes", "(LTwinVaultsModel$Store;)Z"⟩, 39), (⟨"TwinVaultsModel", "isTaken", "(III)V"⟩, 39), (⟨"TwinVaultsModel", "begins", "(LTwinVaultsModel$Store;I)V"⟩, 39), (⟨"TwinVaultsModel", "send", "(LTwinVaultsModel$Store;IIIII)V"⟩, 39), (⟨"TwinVaultsModel", "piece", "(LTwinVaultsModel$Message;)V"⟩, 39), (⟨"TwinVaultsModel", "ticks", "(LTwinVaultsModel$Store;)V"⟩, 39), (⟨"TwinVaultsModel", "copies", "(LTwinVaultsModel$Store;)V"⟩, 39), (⟨"TwinVaultsModel", "offers", "(LTwinVaultsModel$Store;)V"⟩, 39), (⟨"TwinVaultsModel", "spanOf", "(LTwinVaultsModel$Store;)V"⟩, 39), (⟨"TwinVaultsModel", "lineOf", "(II)I"⟩, 39), (⟨"TwinVaultsModel", "span", "(III)V"⟩, 39), (⟨"TwinVaultsModel", "flies", "(I)LTwinVaultsModel$Message;"⟩, 39), (⟨"TwinVaultsModel", "receive", "(LTwinVaultsModel$Message;)V"⟩, 39), (⟨"TwinVaultsModel", "other", "(LTwinVaultsModel$Store;)LTwinVaultsModel$Store;"⟩, 39)]
theorem lw_r4 : ∀ q ∈ lw_privs_4, lw_okq q := List.forall_mem_cons.mpr ⟨lw_p48, List.forall_mem_cons.mpr ⟨lw_p49, List.forall_mem_cons.mpr ⟨lw_p50, List.forall_mem_cons.mpr ⟨lw_p51, List.forall_mem_cons.mpr ⟨lw_p52, List.forall_mem_cons.mpr ⟨lw_p53, List.forall_mem_cons.mpr ⟨lw_p54, List.forall_mem_cons.mpr ⟨lw_p55, List.forall_mem_cons.mpr ⟨lw_p56, List.forall_mem_cons.mpr ⟨lw_p57, List.forall_mem_cons.mpr ⟨lw_p58, List.forall_mem_cons.mpr ⟨lw_p59, List.forall_mem_cons.mpr ⟨lw_p60, List.forall_mem_cons.mpr ⟨lw_p61, List.forall_mem_cons.mpr ⟨lw_p62, List.forall_mem_cons.mpr ⟨lw_p63, fun _ h => absurd h List.not_mem_nil⟩⟩⟩⟩⟩⟩⟩⟩⟩⟩⟩⟩⟩⟩⟩⟩
theorem lw_p64 : lw_okq (⟨"TwinVaultsModel", "follows", "(LTwinVaultsModel$Store;I)Z"⟩, 39) := ⟨⟨by decide +kernel, by decide +kernel⟩, List.mem_of_getElem? (i := 1029) (by decide +kernel), List.mem_of_getElem? (i := 1553) (by decide +kernel), List.mem_of_getElem? (i := 1554) (by decide +kernel)⟩
theorem lw_p65 : lw_okq (⟨"TwinVaultsModel", "offered", "(LTwinVaultsModel$Store;LTwinVaultsModel$Message;)V"⟩, 39) := ⟨⟨by decide +kernel, by decide +kernel⟩, List.mem_of_getElem? (i := 1029) (by decide +kernel), List.mem_of_getElem? (i := 1557) (by decide +kernel), List.mem_of_getElem? (i := 1558) (by decide +kernel)⟩
theorem lw_p66 : lw_okq (⟨"TwinVaultsModel", "staged", "(LTwinVaultsModel$Store;I)V"⟩, 39) := ⟨⟨by decide +kernel, by decide +kernel⟩, List.mem_of_getElem? (i := 1029) (by decide +kernel), List.mem_of_getElem? (i := 1564) (by decide +kernel), List.mem_of_getElem? (i := 1565) (by decide +kernel)⟩
theorem lw_p67 : lw_okq (⟨"TwinVaultsModel", "data", "(LTwinVaultsModel$Store;LTwinVaultsModel$Message;)V"⟩, 39) := ⟨⟨by decide +kernel, by decide +kernel⟩, List.mem_of_getElem? (i := 1029) (by decide +kernel), List.mem_of_getElem? (i := 1572) (by decide +kernel), List.mem_of_getElem? (i := 1573) (by decide +kernel)⟩
theorem lw_p68 : lw_okq (⟨"TwinVaultsModel", "accepted", "(LTwinVaultsModel$Store;I)V"⟩, 39) := ⟨⟨by decide +kernel, by decide +kernel⟩, List.mem_of_getElem? (i := 1029) (by decide +kernel), List.mem_of_getElem? (i := 1576) (by decide +kernel), List.mem_of_getElem? (i := 1577) (by decide +kernel)⟩
theorem lw_p69 : lw_okq (⟨"TwinVaultsModel", "sendsOn", "(LTwinVaultsModel$Store;)V"⟩, 39) := ⟨⟨by decide +kernel, by decide +kernel⟩, List.mem_of_getElem? (i := 1029) (by decide +kernel), List.mem_of_getElem? (i := 1580) (by decide +kernel), List.mem_of_getElem? (i := 1581) (by decide +kernel)⟩
theorem lw_p70 : lw_okq (⟨"TwinVaultsModel", "acknowledged", "(LTwinVaultsModel$Store;I)V"⟩, 39) := ⟨⟨by decide +kernel, by decide +kernel⟩, List.mem_of_getElem? (i := 1029) (by decide +kernel), List.mem_of_getElem? (i := 1584) (by decide +kernel), List.mem_of_getElem? (i := 1585) (by decide +kernel)⟩
theorem lw_p71 : lw_okq (⟨"TwinVaultsModel", "had", "(LTwinVaultsModel$Store;)V"⟩, 39) := ⟨⟨by decide +kernel, by decide +kernel⟩, List.mem_of_getElem? (i := 1029) (by decide +kernel), List.mem_of_getElem? (i := 1588) (by decide +kernel), List.mem_of_getElem? (i := 1589) (by decide +kernel)⟩
theorem lw_p72 : lw_okq (⟨"TwinVaultsModel", "lacked", "(LTwinVaultsModel$Store;I)V"⟩, 39) := ⟨⟨by decide +kernel, by decide +kernel⟩, List.mem_of_getElem? (i := 1029) (by decide +kernel), List.mem_of_getElem? (i := 1592) (by decide +kernel), List.mem_of_getElem? (i := 1593) (by decide +kernel)⟩
theorem lw_p73 : lw_okq (⟨"TwinVaultsModel", "given", "(LTwinVaultsModel$Store;LTwinVaultsModel$Message;)V"⟩, 39) := ⟨⟨by decide +kernel, by decide +kernel⟩, List.mem_of_getElem? (i := 1029) (by decide +kernel), List.mem_of_getElem? (i := 1600) (by decide +kernel), List.mem_of_getElem? (i := 1601) (by decide +kernel)⟩
theorem lw_p74 : lw_okq (⟨"TwinVaultsModel", "greeted", "(LTwinVaultsModel$Store;LTwinVaultsModel$Message;)V"⟩, 39) := ⟨⟨by decide +kernel, by decide +kernel⟩, List.mem_of_getElem? (i := 1029) (by decide +kernel), List.mem_of_getElem? (i := 1604) (by decide +kernel), List.mem_of_getElem? (i := 1605) (by decide +kernel)⟩
theorem lw_p75 : lw_okq (⟨"TwinVaultsModel", "goesBack", "(LTwinVaultsModel$Store;I)V"⟩, 39) := ⟨⟨by decide +kernel, by decide +kernel⟩, List.mem_of_getElem? (i := 1029) (by decide +kernel), List.mem_of_getElem? (i := 1608) (by decide +kernel), List.mem_of_getElem? (i := 1609) (by decide +kernel)⟩
theorem lw_p76 : lw_okq (⟨"TwinVaultsModel", "fails", "(I)I"⟩, 39) := ⟨⟨by decide +kernel, by decide +kernel⟩, List.mem_of_getElem? (i := 1029) (by decide +kernel), List.mem_of_getElem? (i := 1620) (by decide +kernel), List.mem_of_getElem? (i := 1621) (by decide +kernel)⟩
theorem lw_p77 : lw_okq (⟨"TwinVaultsModel", "different", "(III)I"⟩, 39) := ⟨⟨by decide +kernel, by decide +kernel⟩, List.mem_of_getElem? (i := 1029) (by decide +kernel), List.mem_of_getElem? (i := 1640) (by decide +kernel), List.mem_of_getElem? (i := 1641) (by decide +kernel)⟩
def lw_privs_5 : List (MethodName × Nat) := [(⟨"TwinVaultsModel", "follows", "(LTwinVaultsModel$Store;I)Z"⟩, 39), (⟨"TwinVaultsModel", "offered", "(LTwinVaultsModel$Store;LTwinVaultsModel$Message;)V"⟩, 39), (⟨"TwinVaultsModel", "staged", "(LTwinVaultsModel$Store;I)V"⟩, 39), (⟨"TwinVaultsModel", "data", "(LTwinVaultsModel$Store;LTwinVaultsModel$Message;)V"⟩, 39), (⟨"TwinVaultsModel", "accepted", "(LTwinVaultsModel$Store;I)V"⟩, 39), (⟨"TwinVaultsModel", "sendsOn", "(LTwinVaultsModel$Store;)V"⟩, 39), (⟨"TwinVaultsModel", "acknowledged", "(LTwinVaultsModel$Store;I)V"⟩, 39), (⟨"TwinVaultsModel", "had", "(LTwinVaultsModel$Store;)V"⟩, 39), (⟨"TwinVaultsModel", "lacked", "(LTwinVaultsModel$Store;I)V"⟩, 39), (⟨"TwinVaultsModel", "given", "(LTwinVaultsModel$Store;LTwinVaultsModel$Message;)V"⟩, 39), (⟨"TwinVaultsModel", "greeted", "(LTwinVaultsModel$Store;LTwinVaultsModel$Message;)V"⟩, 39), (⟨"TwinVaultsModel", "goesBack", "(LTwinVaultsModel$Store;I)V"⟩, 39), (⟨"TwinVaultsModel", "fails", "(I)I"⟩, 39), (⟨"TwinVaultsModel", "different", "(III)I"⟩, 39)]
theorem lw_r5 : ∀ q ∈ lw_privs_5, lw_okq q := List.forall_mem_cons.mpr ⟨lw_p64, List.forall_mem_cons.mpr ⟨lw_p65, List.forall_mem_cons.mpr ⟨lw_p66, List.forall_mem_cons.mpr ⟨lw_p67, List.forall_mem_cons.mpr ⟨lw_p68, List.forall_mem_cons.mpr ⟨lw_p69, List.forall_mem_cons.mpr ⟨lw_p70, List.forall_mem_cons.mpr ⟨lw_p71, List.forall_mem_cons.mpr ⟨lw_p72, List.forall_mem_cons.mpr ⟨lw_p73, List.forall_mem_cons.mpr ⟨lw_p74, List.forall_mem_cons.mpr ⟨lw_p75, List.forall_mem_cons.mpr ⟨lw_p76, List.forall_mem_cons.mpr ⟨lw_p77, fun _ h => absurd h List.not_mem_nil⟩⟩⟩⟩⟩⟩⟩⟩⟩⟩⟩⟩⟩⟩
def lw_privs : List (MethodName × Nat) := lw_privs_1 ++ (lw_privs_2 ++ (lw_privs_3 ++ (lw_privs_4 ++ (lw_privs_5))))
def lw_tbl : List Cond := k2_sels lw_privs ++ tables_1
theorem lw_privs_ok : ∀ q ∈ lw_privs, lw_okq q := by
  show ∀ q ∈ lw_privs_1 ++ (lw_privs_2 ++ (lw_privs_3 ++ (lw_privs_4 ++ (lw_privs_5)))), lw_okq q
  exact List.forall_mem_append.mpr ⟨lw_r1, List.forall_mem_append.mpr ⟨lw_r2, List.forall_mem_append.mpr ⟨lw_r3, List.forall_mem_append.mpr ⟨lw_r4, lw_r5⟩⟩⟩⟩
end
section
def RX0 : String := "TwinVaults$Link"
def TX0 : u_T := fun k => match k with
  | 0 => ("TwinVaults$Link", "flight", "[LTwinVaults$Message;", true)
  | 1 => ("TwinVaults$Link", "count", "I", false)
  | 2 => ("TwinVaults$Link", "sent", "I", false)
  | _ => ("TwinVaults$Link", "dropped", "I", false)
def tyX0 : Nat → FieldType := fun k => match k with
  | 0 => .array (.object "TwinVaults$Message")
  | 1 => .int
  | 2 => .int
  | _ => .int
theorem nmX0 : ∀ a, a < 4 → ∀ b, b < 4 → a ≠ b → (TX0 a).2.1 ≠ (TX0 b).2.1 := by decide +kernel
theorem tyX0_ok : ∀ k, k < 4 → parseFieldDescriptor (TX0 k).2.2.1 = some (tyX0 k) := by decide +kernel
abbrev cX0_init : ByteArray := prog_2_method_1_code
def yX0_init : MethodName := ⟨RX0, "<init>", "()V"⟩
abbrev cX0_at : ByteArray := prog_2_method_2_code
def yX0_at : MethodName := ⟨RX0, "at", "(I)LTwinVaults$Message;"⟩
abbrev cX0_add : ByteArray := prog_2_method_3_code
def yX0_add : MethodName := ⟨RX0, "add", "(LTwinVaults$Message;)V"⟩
abbrev cX0_drop : ByteArray := prog_2_method_4_code
def yX0_drop : MethodName := ⟨RX0, "drop", "(I)V"⟩
def RX1 : String := "TwinVaults$Marks"
def TX1 : u_T := fun k => match k with
  | 0 => ("TwinVaults$Marks", "rounds", "[I", true)
  | _ => ("TwinVaults$Marks", "round", "I", false)
def tyX1 : Nat → FieldType := fun k => match k with
  | 0 => .array .int
  | _ => .int
theorem nmX1 : ∀ a, a < 2 → ∀ b, b < 2 → a ≠ b → (TX1 a).2.1 ≠ (TX1 b).2.1 := by decide +kernel
theorem tyX1_ok : ∀ k, k < 2 → parseFieldDescriptor (TX1 k).2.2.1 = some (tyX1 k) := by decide +kernel
abbrev cX1_init : ByteArray := prog_3_method_1_code
def yX1_init : MethodName := ⟨RX1, "<init>", "(I)V"⟩
abbrev cX1_begin : ByteArray := prog_3_method_2_code
def yX1_begin : MethodName := ⟨RX1, "begin", "()V"⟩
abbrev cX1_mark : ByteArray := prog_3_method_3_code
def yX1_mark : MethodName := ⟨RX1, "mark", "(I)I"⟩
def RX2 : String := "TwinVaults$Message"
def TX2 : u_T := fun k => match k with
  | 0 => ("TwinVaults$Message", "kind", "I", true)
  | 1 => ("TwinVaults$Message", "sender", "I", true)
  | 2 => ("TwinVaults$Message", "epoch", "I", true)
  | 3 => ("TwinVaults$Message", "a", "I", true)
  | 4 => ("TwinVaults$Message", "b", "I", true)
  | 5 => ("TwinVaults$Message", "c", "I", false)
  | 6 => ("TwinVaults$Message", "d", "I", false)
  | 7 => ("TwinVaults$Message", "line", "I", false)
  | _ => ("TwinVaults$Message", "items", "[I", false)
def tyX2 : Nat → FieldType := fun k => match k with
  | 0 => .int
  | 1 => .int
  | 2 => .int
  | 3 => .int
  | 4 => .int
  | 5 => .int
  | 6 => .int
  | 7 => .int
  | _ => .array .int
theorem nmX2 : ∀ a, a < 9 → ∀ b, b < 9 → a ≠ b → (TX2 a).2.1 ≠ (TX2 b).2.1 := by decide +kernel
theorem tyX2_ok : ∀ k, k < 9 → parseFieldDescriptor (TX2 k).2.2.1 = some (tyX2 k) := by decide +kernel
abbrev cX2_init : ByteArray := prog_4_method_1_code
def yX2_init : MethodName := ⟨RX2, "<init>", "(LTwinVaults$Store;III)V"⟩
abbrev cX2_itemCount : ByteArray := prog_4_method_2_code
def yX2_itemCount : MethodName := ⟨RX2, "itemCount", "()I"⟩
def RX3 : String := "TwinVaults$Row"
def TX3 : u_T := fun k => match k with
  | 0 => ("TwinVaults$Row", "line", "I", false)
  | 1 => ("TwinVaults$Row", "from", "I", false)
  | 2 => ("TwinVaults$Row", "list", "[I", false)
  | _ => ("TwinVaults$Row", "count", "I", false)
def tyX3 : Nat → FieldType := fun k => match k with
  | 0 => .int
  | 1 => .int
  | 2 => .array .int
  | _ => .int
theorem nmX3 : ∀ a, a < 4 → ∀ b, b < 4 → a ≠ b → (TX3 a).2.1 ≠ (TX3 b).2.1 := by decide +kernel
theorem tyX3_ok : ∀ k, k < 4 → parseFieldDescriptor (TX3 k).2.2.1 = some (tyX3 k) := by decide +kernel
abbrev cX3_init : ByteArray := prog_5_method_1_code
def yX3_init : MethodName := ⟨RX3, "<init>", "()V"⟩
abbrev cX3_begin : ByteArray := prog_5_method_2_code
def yX3_begin : MethodName := ⟨RX3, "begin", "(III)V"⟩
abbrev cX3_add : ByteArray := prog_5_method_3_code
def yX3_add : MethodName := ⟨RX3, "add", "(I)V"⟩
abbrev cX3_sort : ByteArray := prog_5_method_4_code
def yX3_sort : MethodName := ⟨RX3, "sort", "([I)V"⟩
abbrev cX3_sink : ByteArray := prog_5_method_5_code
def yX3_sink : MethodName := ⟨RX3, "sink", "([III)V"⟩
def RX4 : String := "TwinVaults$Site"
def TX4 : u_T := fun k => match k with
  | 0 => ("TwinVaults$Site", "number", "I", true)
  | 1 => ("TwinVaults$Site", "up", "Z", false)
  | 2 => ("TwinVaults$Site", "acts", "I", false)
  | _ => ("TwinVaults$Site", "left", "I", false)
def tyX4 : Nat → FieldType := fun k => match k with
  | 0 => .int
  | 1 => .boolean
  | 2 => .int
  | _ => .int
theorem nmX4 : ∀ a, a < 4 → ∀ b, b < 4 → a ≠ b → (TX4 a).2.1 ≠ (TX4 b).2.1 := by decide +kernel
theorem tyX4_ok : ∀ k, k < 4 → parseFieldDescriptor (TX4 k).2.2.1 = some (tyX4 k) := by decide +kernel
abbrev cX4_init : ByteArray := prog_6_method_1_code
def yX4_init : MethodName := ⟨RX4, "<init>", "(I)V"⟩
abbrev cX4_act : ByteArray := prog_6_method_2_code
def yX4_act : MethodName := ⟨RX4, "act", "()Z"⟩
abbrev cX4_act_ : ByteArray := prog_6_method_3_code
def yX4_act_ : MethodName := ⟨RX4, "act", "(I)Z"⟩
abbrev cX4_fail : ByteArray := prog_6_method_4_code
def yX4_fail : MethodName := ⟨RX4, "fail", "()V"⟩
def RX5 : String := "TwinVaults$Staging"
def TX5 : u_T := fun k => match k with
  | 0 => ("TwinVaults$Staging", "base", "I", false)
  | 1 => ("TwinVaults$Staging", "id", "I", false)
  | 2 => ("TwinVaults$Staging", "line", "I", false)
  | 3 => ("TwinVaults$Staging", "wanted", "I", false)
  | 4 => ("TwinVaults$Staging", "chunks", "I", false)
  | 5 => ("TwinVaults$Staging", "items", "I", false)
  | _ => ("TwinVaults$Staging", "refused", "I", false)
def tyX5 : Nat → FieldType := fun k => match k with
  | 0 => .int
  | 1 => .int
  | 2 => .int
  | 3 => .int
  | 4 => .int
  | 5 => .int
  | _ => .int
theorem nmX5 : ∀ a, a < 7 → ∀ b, b < 7 → a ≠ b → (TX5 a).2.1 ≠ (TX5 b).2.1 := by decide +kernel
theorem tyX5_ok : ∀ k, k < 7 → parseFieldDescriptor (TX5 k).2.2.1 = some (tyX5 k) := by decide +kernel
abbrev cX5_init : ByteArray := prog_7_method_1_code
def yX5_init : MethodName := ⟨RX5, "<init>", "()V"⟩
abbrev cX5_isOf : ByteArray := prog_7_method_2_code
def yX5_isOf : MethodName := ⟨RX5, "isOf", "(II)Z"⟩
abbrev cX5_hasAll : ByteArray := prog_7_method_3_code
def yX5_hasAll : MethodName := ⟨RX5, "hasAll", "()Z"⟩
abbrev cX5_begin : ByteArray := prog_7_method_4_code
def yX5_begin : MethodName := ⟨RX5, "begin", "(LTwinVaults$Message;)V"⟩
abbrev cX5_add : ByteArray := prog_7_method_5_code
def yX5_add : MethodName := ⟨RX5, "add", "(I)V"⟩
abbrev cX5_clear : ByteArray := prog_7_method_6_code
def yX5_clear : MethodName := ⟨RX5, "clear", "()V"⟩
def RX6 : String := "TwinVaults$Store"
def TX6 : u_T := fun k => match k with
  | 0 => ("TwinVaults$Store", "number", "I", true)
  | 1 => ("TwinVaults$Store", "site", "LTwinVaults$Site;", true)
  | 2 => ("TwinVaults$Store", "vault", "LTwinVaults$Vault;", true)
  | 3 => ("TwinVaults$Store", "staging", "LTwinVaults$Staging;", true)
  | 4 => ("TwinVaults$Store", "plan", "LTwinVaults$Row;", true)
  | 5 => ("TwinVaults$Store", "gone", "LTwinVaults$Row;", true)
  | 6 => ("TwinVaults$Store", "role", "I", false)
  | 7 => ("TwinVaults$Store", "epoch", "I", false)
  | 8 => ("TwinVaults$Store", "taken", "I", false)
  | 9 => ("TwinVaults$Store", "acked", "I", false)
  | 10 => ("TwinVaults$Store", "target", "I", false)
  | 11 => ("TwinVaults$Store", "held", "I", false)
  | 12 => ("TwinVaults$Store", "heldToo", "I", false)
  | 13 => ("TwinVaults$Store", "gift", "I", false)
  | 14 => ("TwinVaults$Store", "base", "I", false)
  | 15 => ("TwinVaults$Store", "phase", "I", false)
  | 16 => ("TwinVaults$Store", "chunks", "I", false)
  | 17 => ("TwinVaults$Store", "next", "I", false)
  | 18 => ("TwinVaults$Store", "waited", "I", false)
  | _ => ("TwinVaults$Store", "returning", "Z", false)
def tyX6 : Nat → FieldType := fun k => match k with
  | 0 => .int
  | 1 => .object "TwinVaults$Site"
  | 2 => .object "TwinVaults$Vault"
  | 3 => .object "TwinVaults$Staging"
  | 4 => .object "TwinVaults$Row"
  | 5 => .object "TwinVaults$Row"
  | 6 => .int
  | 7 => .int
  | 8 => .int
  | 9 => .int
  | 10 => .int
  | 11 => .int
  | 12 => .int
  | 13 => .int
  | 14 => .int
  | 15 => .int
  | 16 => .int
  | 17 => .int
  | 18 => .int
  | _ => .boolean
theorem nmX6 : ∀ a, a < 20 → ∀ b, b < 20 → a ≠ b → (TX6 a).2.1 ≠ (TX6 b).2.1 := by decide +kernel
theorem tyX6_ok : ∀ k, k < 20 → parseFieldDescriptor (TX6 k).2.2.1 = some (tyX6 k) := by decide +kernel
abbrev cX6_init : ByteArray := prog_8_method_1_code
def yX6_init : MethodName := ⟨RX6, "<init>", "(ILTwinVaults$Site;ILTwinVaults$Vault;)V"⟩
abbrev cX6_blocks : ByteArray := prog_8_method_2_code
def yX6_blocks : MethodName := ⟨RX6, "blocks", "()I"⟩
abbrev cX6_isSource : ByteArray := prog_8_method_3_code
def yX6_isSource : MethodName := ⟨RX6, "isSource", "()Z"⟩
abbrev cX6_sends : ByteArray := prog_8_method_4_code
def yX6_sends : MethodName := ⟨RX6, "sends", "(LTwinVaults$Message;I)Z"⟩
abbrev cX6_waitedEnough : ByteArray := prog_8_method_5_code
def yX6_waitedEnough : MethodName := ⟨RX6, "waitedEnough", "()Z"⟩
abbrev cX6_hold : ByteArray := prog_8_method_6_code
def yX6_hold : MethodName := ⟨RX6, "hold", "(II)V"⟩
abbrev cX6_forgetOther : ByteArray := prog_8_method_7_code
def yX6_forgetOther : MethodName := ⟨RX6, "forgetOther", "()V"⟩
abbrev cX6_isPinned : ByteArray := prog_8_method_8_code
def yX6_isPinned : MethodName := ⟨RX6, "isPinned", "(I)Z"⟩
abbrev cX6_thin : ByteArray := prog_8_method_9_code
def yX6_thin : MethodName := ⟨RX6, "thin", "(I)V"⟩
abbrev cX6_beginEpoch : ByteArray := prog_8_method_10_code
def yX6_beginEpoch : MethodName := ⟨RX6, "beginEpoch", "(II)V"⟩
abbrev cX6_learnEpoch : ByteArray := prog_8_method_11_code
def yX6_learnEpoch : MethodName := ⟨RX6, "learnEpoch", "(I)V"⟩
abbrev cX6_wake : ByteArray := prog_8_method_12_code
def yX6_wake : MethodName := ⟨RX6, "wake", "()I"⟩
def RX7 : String := "TwinVaults$Vault"
def TX7 : u_T := fun k => match k with
  | 0 => ("TwinVaults$Vault", "writes", "LTwinVaults$Writes;", true)
  | 1 => ("TwinVaults$Vault", "volumes", "I", true)
  | 2 => ("TwinVaults$Vault", "places", "I", true)
  | 3 => ("TwinVaults$Vault", "newest", "[I", true)
  | 4 => ("TwinVaults$Vault", "now", "I", false)
  | 5 => ("TwinVaults$Vault", "safe", "I", false)
  | 6 => ("TwinVaults$Vault", "kept", "I", false)
  | 7 => ("TwinVaults$Vault", "ids", "[I", true)
  | 8 => ("TwinVaults$Vault", "lines", "[I", true)
  | 9 => ("TwinVaults$Vault", "count", "I", false)
  | _ => ("TwinVaults$Vault", "blocks", "I", false)
def tyX7 : Nat → FieldType := fun k => match k with
  | 0 => .object "TwinVaults$Writes"
  | 1 => .int
  | 2 => .int
  | 3 => .array .int
  | 4 => .int
  | 5 => .int
  | 6 => .int
  | 7 => .array .int
  | 8 => .array .int
  | 9 => .int
  | _ => .int
theorem nmX7 : ∀ a, a < 11 → ∀ b, b < 11 → a ≠ b → (TX7 a).2.1 ≠ (TX7 b).2.1 := by decide +kernel
theorem tyX7_ok : ∀ k, k < 11 → parseFieldDescriptor (TX7 k).2.2.1 = some (tyX7 k) := by decide +kernel
abbrev cX7_init : ByteArray := prog_9_method_1_code
def yX7_init : MethodName := ⟨RX7, "<init>", "(LTwinVaults$Writes;II)V"⟩
abbrev cX7_hasPlace : ByteArray := prog_9_method_2_code
def yX7_hasPlace : MethodName := ⟨RX7, "hasPlace", "(II)Z"⟩
abbrev cX7_hasSnapshot : ByteArray := prog_9_method_3_code
def yX7_hasSnapshot : MethodName := ⟨RX7, "hasSnapshot", "(I)Z"⟩
abbrev cX7_pending : ByteArray := prog_9_method_4_code
def yX7_pending : MethodName := ⟨RX7, "pending", "()I"⟩
abbrev cX7_journal : ByteArray := prog_9_method_5_code
def yX7_journal : MethodName := ⟨RX7, "journal", "()I"⟩
abbrev cX7_latest : ByteArray := prog_9_method_6_code
def yX7_latest : MethodName := ⟨RX7, "latest", "()I"⟩
abbrev cX7_latestLine : ByteArray := prog_9_method_7_code
def yX7_latestLine : MethodName := ⟨RX7, "latestLine", "()I"⟩
abbrev cX7_latestLength : ByteArray := prog_9_method_8_code
def yX7_latestLength : MethodName := ⟨RX7, "latestLength", "()I"⟩
abbrev cX7_nowIsLatest : ByteArray := prog_9_method_9_code
def yX7_nowIsLatest : MethodName := ⟨RX7, "nowIsLatest", "()Z"⟩
abbrev cX7_lengthOf : ByteArray := prog_9_method_10_code
def yX7_lengthOf : MethodName := ⟨RX7, "lengthOf", "(I)I"⟩
abbrev cX7_find : ByteArray := prog_9_method_11_code
def yX7_find : MethodName := ⟨RX7, "find", "(I)I"⟩
abbrev cX7_lineOf : ByteArray := prog_9_method_12_code
def yX7_lineOf : MethodName := ⟨RX7, "lineOf", "(I)I"⟩
abbrev cX7_lengthOfId : ByteArray := prog_9_method_13_code
def yX7_lengthOfId : MethodName := ⟨RX7, "lengthOfId", "(I)I"⟩
abbrev cX7_numberAt : ByteArray := prog_9_method_14_code
def yX7_numberAt : MethodName := ⟨RX7, "numberAt", "(I)I"⟩
abbrev cX7_oldNumberAt : ByteArray := prog_9_method_15_code
def yX7_oldNumberAt : MethodName := ⟨RX7, "oldNumberAt", "(II)I"⟩
abbrev cX7_put : ByteArray := prog_9_method_16_code
def yX7_put : MethodName := ⟨RX7, "put", "(II)V"⟩
abbrev cX7_save : ByteArray := prog_9_method_17_code
def yX7_save : MethodName := ⟨RX7, "save", "(I)V"⟩
abbrev cX7_keepNow : ByteArray := prog_9_method_18_code
def yX7_keepNow : MethodName := ⟨RX7, "keepNow", "()V"⟩
abbrev cX7_shelve : ByteArray := prog_9_method_19_code
def yX7_shelve : MethodName := ⟨RX7, "shelve", "(I)V"⟩
abbrev cX7_drop : ByteArray := prog_9_method_20_code
def yX7_drop : MethodName := ⟨RX7, "drop", "(I)V"⟩
abbrev cX7_losePending : ByteArray := prog_9_method_21_code
def yX7_losePending : MethodName := ⟨RX7, "losePending", "()I"⟩
abbrev cX7_adopt : ByteArray := prog_9_method_22_code
def yX7_adopt : MethodName := ⟨RX7, "adopt", "(IIZ)V"⟩
abbrev cX7_returnTo : ByteArray := prog_9_method_23_code
def yX7_returnTo : MethodName := ⟨RX7, "returnTo", "(I)V"⟩
abbrev cX7_rewind : ByteArray := prog_9_method_24_code
def yX7_rewind : MethodName := ⟨RX7, "rewind", "(I)V"⟩
abbrev cX7_advance : ByteArray := prog_9_method_25_code
def yX7_advance : MethodName := ⟨RX7, "advance", "(I)V"⟩
def RX8 : String := "TwinVaults$Writes"
def TX8 : u_T := fun k => match k with
  | 0 => ("TwinVaults$Writes", "made", "I", false)
  | 1 => ("TwinVaults$Writes", "spot", "[I", false)
  | 2 => ("TwinVaults$Writes", "number", "[I", false)
  | 3 => ("TwinVaults$Writes", "before", "[I", false)
  | 4 => ("TwinVaults$Writes", "earlier", "[I", false)
  | 5 => ("TwinVaults$Writes", "length", "[I", false)
  | _ => ("TwinVaults$Writes", "seen", "LTwinVaults$Marks;", true)
def tyX8 : Nat → FieldType := fun k => match k with
  | 0 => .int
  | 1 => .array .int
  | 2 => .array .int
  | 3 => .array .int
  | 4 => .array .int
  | 5 => .array .int
  | _ => .object "TwinVaults$Marks"
theorem nmX8 : ∀ a, a < 7 → ∀ b, b < 7 → a ≠ b → (TX8 a).2.1 ≠ (TX8 b).2.1 := by decide +kernel
theorem tyX8_ok : ∀ k, k < 7 → parseFieldDescriptor (TX8 k).2.2.1 = some (tyX8 k) := by decide +kernel
abbrev cX8_init : ByteArray := prog_10_method_1_code
def yX8_init : MethodName := ⟨RX8, "<init>", "()V"⟩
abbrev cX8_extend : ByteArray := prog_10_method_2_code
def yX8_extend : MethodName := ⟨RX8, "extend", "(IIII)I"⟩
abbrev cX8_grow : ByteArray := prog_10_method_3_code
def yX8_grow : MethodName := ⟨RX8, "grow", "(I)V"⟩
abbrev cX8_told : ByteArray := prog_10_method_4_code
def yX8_told : MethodName := ⟨RX8, "told", "(II)I"⟩
abbrev cX8_placesBehind : ByteArray := prog_10_method_5_code
def yX8_placesBehind : MethodName := ⟨RX8, "placesBehind", "(II)I"⟩
abbrev cX8_placesInBoth : ByteArray := prog_10_method_6_code
def yX8_placesInBoth : MethodName := ⟨RX8, "placesInBoth", "(III)I"⟩
abbrev cX8_nodesBehind : ByteArray := prog_10_method_7_code
def yX8_nodesBehind : MethodName := ⟨RX8, "nodesBehind", "(II)I"⟩
abbrev cX8_collect : ByteArray := prog_10_method_8_code
def yX8_collect : MethodName := ⟨RX8, "collect", "(LTwinVaults$Row;II)V"⟩
def RX9 : String := "TwinVaults"
def TX9 : u_T := fun k => match k with
  | 0 => ("TwinVaults", "pool", "I", true)
  | 1 => ("TwinVaults", "keep", "I", true)
  | 2 => ("TwinVaults", "window", "I", true)
  | 3 => ("TwinVaults", "sites", "[LTwinVaults$Site;", true)
  | 4 => ("TwinVaults", "stores", "[LTwinVaults$Store;", true)
  | 5 => ("TwinVaults", "writes", "LTwinVaults$Writes;", true)
  | 6 => ("TwinVaults", "link", "LTwinVaults$Link;", true)
  | 7 => ("TwinVaults", "groups", "I", false)
  | 8 => ("TwinVaults", "time", "I", false)
  | _ => ("TwinVaults", "every", "I", false)
def tyX9 : Nat → FieldType := fun k => match k with
  | 0 => .int
  | 1 => .int
  | 2 => .int
  | 3 => .array (.object "TwinVaults$Site")
  | 4 => .array (.object "TwinVaults$Store")
  | 5 => .object "TwinVaults$Writes"
  | 6 => .object "TwinVaults$Link"
  | 7 => .int
  | 8 => .int
  | _ => .int
theorem nmX9 : ∀ a, a < 10 → ∀ b, b < 10 → a ≠ b → (TX9 a).2.1 ≠ (TX9 b).2.1 := by decide +kernel
theorem tyX9_ok : ∀ k, k < 10 → parseFieldDescriptor (TX9 k).2.2.1 = some (tyX9 k) := by decide +kernel
abbrev cX9_init : ByteArray := prog_1_method_1_code
def yX9_init : MethodName := ⟨RX9, "<init>", "(III)V"⟩
abbrev cX9_group : ByteArray := prog_1_method_2_code
def yX9_group : MethodName := ⟨RX9, "group", "(II)I"⟩
abbrev cX9_write : ByteArray := prog_1_method_3_code
def yX9_write : MethodName := ⟨RX9, "write", "(IIII)I"⟩
abbrev cX9_fill : ByteArray := prog_1_method_4_code
def yX9_fill : MethodName := ⟨RX9, "fill", "(IIIII)I"⟩
abbrev cX9_flush : ByteArray := prog_1_method_5_code
def yX9_flush : MethodName := ⟨RX9, "flush", "(I)I"⟩
abbrev cX9_checkpoint : ByteArray := prog_1_method_6_code
def yX9_checkpoint : MethodName := ⟨RX9, "checkpoint", "(I)I"⟩
abbrev cX9_snapshot : ByteArray := prog_1_method_7_code
def yX9_snapshot : MethodName := ⟨RX9, "snapshot", "(I)I"⟩
abbrev cX9_leave : ByteArray := prog_1_method_8_code
def yX9_leave : MethodName := ⟨RX9, "leave", "(I)I"⟩
abbrev cX9_stay : ByteArray := prog_1_method_9_code
def yX9_stay : MethodName := ⟨RX9, "stay", "(I)I"⟩
abbrev cX9_force : ByteArray := prog_1_method_10_code
def yX9_force : MethodName := ⟨RX9, "force", "(I)I"⟩
abbrev cX9_back : ByteArray := prog_1_method_11_code
def yX9_back : MethodName := ⟨RX9, "back", "(I)I"⟩
abbrev cX9_period : ByteArray := prog_1_method_12_code
def yX9_period : MethodName := ⟨RX9, "period", "(I)Z"⟩
abbrev cX9_tick : ByteArray := prog_1_method_13_code
def yX9_tick : MethodName := ⟨RX9, "tick", "()I"⟩
abbrev cX9_power : ByteArray := prog_1_method_14_code
def yX9_power : MethodName := ⟨RX9, "power", "(II)Z"⟩
abbrev cX9_crash : ByteArray := prog_1_method_15_code
def yX9_crash : MethodName := ⟨RX9, "crash", "(I)Z"⟩
abbrev cX9_up : ByteArray := prog_1_method_16_code
def yX9_up : MethodName := ⟨RX9, "up", "(I)I"⟩
abbrev cX9_pass : ByteArray := prog_1_method_17_code
def yX9_pass : MethodName := ⟨RX9, "pass", "(II)I"⟩
abbrev cX9_message : ByteArray := prog_1_method_18_code
def yX9_message : MethodName := ⟨RX9, "message", "(II)I"⟩
abbrev cX9_item : ByteArray := prog_1_method_19_code
def yX9_item : MethodName := ⟨RX9, "item", "(III)I"⟩
abbrev cX9_read : ByteArray := prog_1_method_20_code
def yX9_read : MethodName := ⟨RX9, "read", "(III)I"⟩
abbrev cX9_old : ByteArray := prog_1_method_21_code
def yX9_old : MethodName := ⟨RX9, "old", "(IIII)I"⟩
abbrev cX9_sum : ByteArray := prog_1_method_22_code
def yX9_sum : MethodName := ⟨RX9, "sum", "(II)I"⟩
abbrev cX9_differ : ByteArray := prog_1_method_23_code
def yX9_differ : MethodName := ⟨RX9, "differ", "(III)I"⟩
abbrev cX9_state : ByteArray := prog_1_method_24_code
def yX9_state : MethodName := ⟨RX9, "state", "(II)I"⟩
abbrev cX9_snap : ByteArray := prog_1_method_25_code
def yX9_snap : MethodName := ⟨RX9, "snap", "(III)I"⟩
abbrev cX9_lost : ByteArray := prog_1_method_26_code
def yX9_lost : MethodName := ⟨RX9, "lost", "(III)I"⟩
abbrev cX9_total : ByteArray := prog_1_method_27_code
def yX9_total : MethodName := ⟨RX9, "total", "(I)I"⟩
abbrev cX9_totalOf : ByteArray := prog_1_method_28_code
def yX9_totalOf : MethodName := ⟨RX9, "totalOf", "(LTwinVaults$Site;I)I"⟩
abbrev cX9_storeOf : ByteArray := prog_1_method_29_code
def yX9_storeOf : MethodName := ⟨RX9, "storeOf", "(I)LTwinVaults$Store;"⟩
abbrev cX9_spotOf : ByteArray := prog_1_method_30_code
def yX9_spotOf : MethodName := ⟨RX9, "spotOf", "(II)I"⟩
abbrev cX9_refusalOf : ByteArray := prog_1_method_31_code
def yX9_refusalOf : MethodName := ⟨RX9, "refusalOf", "(LTwinVaults$Store;I)I"⟩
abbrev cX9_freeBlocks : ByteArray := prog_1_method_32_code
def yX9_freeBlocks : MethodName := ⟨RX9, "freeBlocks", "(LTwinVaults$Site;)I"⟩
abbrev cX9_nextEpoch : ByteArray := prog_1_method_33_code
def yX9_nextEpoch : MethodName := ⟨RX9, "nextEpoch", "(II)I"⟩
abbrev cX9_writeOne : ByteArray := prog_1_method_34_code
def yX9_writeOne : MethodName := ⟨RX9, "writeOne", "(LTwinVaults$Store;II)I"⟩
abbrev cX9_flushed : ByteArray := prog_1_method_35_code
def yX9_flushed : MethodName := ⟨RX9, "flushed", "(LTwinVaults$Store;)Z"⟩
abbrev cX9_checkpointed : ByteArray := prog_1_method_36_code
def yX9_checkpointed : MethodName := ⟨RX9, "checkpointed", "(LTwinVaults$Store;)Z"⟩
abbrev cX9_tookSnapshot : ByteArray := prog_1_method_37_code
def yX9_tookSnapshot : MethodName := ⟨RX9, "tookSnapshot", "(LTwinVaults$Store;)Z"⟩
abbrev cX9_tickOf : ByteArray := prog_1_method_38_code
def yX9_tickOf : MethodName := ⟨RX9, "tickOf", "(LTwinVaults$Store;)V"⟩
abbrev cX9_sendForward : ByteArray := prog_1_method_39_code
def yX9_sendForward : MethodName := ⟨RX9, "sendForward", "(LTwinVaults$Store;)V"⟩
abbrev cX9_handOver : ByteArray := prog_1_method_40_code
def yX9_handOver : MethodName := ⟨RX9, "handOver", "(LTwinVaults$Store;)V"⟩
abbrev cX9_send : ByteArray := prog_1_method_41_code
def yX9_send : MethodName := ⟨RX9, "send", "(LTwinVaults$Store;II)V"⟩
abbrev cX9_sendOffer : ByteArray := prog_1_method_42_code
def yX9_sendOffer : MethodName := ⟨RX9, "sendOffer", "(LTwinVaults$Store;)V"⟩
abbrev cX9_sendGive : ByteArray := prog_1_method_43_code
def yX9_sendGive : MethodName := ⟨RX9, "sendGive", "(LTwinVaults$Store;)V"⟩
abbrev cX9_sendHello : ByteArray := prog_1_method_44_code
def yX9_sendHello : MethodName := ⟨RX9, "sendHello", "(LTwinVaults$Store;)V"⟩
abbrev cX9_sendProgress : ByteArray := prog_1_method_45_code
def yX9_sendProgress : MethodName := ⟨RX9, "sendProgress", "(LTwinVaults$Store;I)V"⟩
abbrev cX9_sendData : ByteArray := prog_1_method_46_code
def yX9_sendData : MethodName := ⟨RX9, "sendData", "(LTwinVaults$Store;I)V"⟩
abbrev cX9_sendOn : ByteArray := prog_1_method_47_code
def yX9_sendOn : MethodName := ⟨RX9, "sendOn", "(LTwinVaults$Store;)V"⟩
abbrev cX9_receive : ByteArray := prog_1_method_48_code
def yX9_receive : MethodName := ⟨RX9, "receive", "(LTwinVaults$Message;)V"⟩
abbrev cX9_onOffer : ByteArray := prog_1_method_49_code
def yX9_onOffer : MethodName := ⟨RX9, "onOffer", "(LTwinVaults$Store;LTwinVaults$Message;)V"⟩
abbrev cX9_onData : ByteArray := prog_1_method_50_code
def yX9_onData : MethodName := ⟨RX9, "onData", "(LTwinVaults$Store;LTwinVaults$Message;)V"⟩
abbrev cX9_commit : ByteArray := prog_1_method_51_code
def yX9_commit : MethodName := ⟨RX9, "commit", "(LTwinVaults$Store;)V"⟩
abbrev cX9_onGive : ByteArray := prog_1_method_52_code
def yX9_onGive : MethodName := ⟨RX9, "onGive", "(LTwinVaults$Store;LTwinVaults$Message;)V"⟩
abbrev cX9_onCommon : ByteArray := prog_1_method_53_code
def yX9_onCommon : MethodName := ⟨RX9, "onCommon", "(LTwinVaults$Store;LTwinVaults$Message;)V"⟩
abbrev cX9_onAccept : ByteArray := prog_1_method_54_code
def yX9_onAccept : MethodName := ⟨RX9, "onAccept", "(LTwinVaults$Store;LTwinVaults$Message;)V"⟩
abbrev cX9_onAck : ByteArray := prog_1_method_55_code
def yX9_onAck : MethodName := ⟨RX9, "onAck", "(LTwinVaults$Store;LTwinVaults$Message;)V"⟩
abbrev cX9_onHave : ByteArray := prog_1_method_56_code
def yX9_onHave : MethodName := ⟨RX9, "onHave", "(LTwinVaults$Store;LTwinVaults$Message;)V"⟩
abbrev cX9_onLack : ByteArray := prog_1_method_57_code
def yX9_onLack : MethodName := ⟨RX9, "onLack", "(LTwinVaults$Store;LTwinVaults$Message;)V"⟩
abbrev cX9_onHello : ByteArray := prog_1_method_58_code
def yX9_onHello : MethodName := ⟨RX9, "onHello", "(LTwinVaults$Store;LTwinVaults$Message;)V"⟩
def RX10 : String := "TwinVaultsModel$Message"
def TX10 : u_T := fun k => match k with
  | 0 => ("TwinVaultsModel$Message", "from", "LTwinVaultsModel$Store;", false)
  | 1 => ("TwinVaultsModel$Message", "epoch", "I", false)
  | 2 => ("TwinVaultsModel$Message", "kind", "I", false)
  | 3 => ("TwinVaultsModel$Message", "a", "I", false)
  | 4 => ("TwinVaultsModel$Message", "b", "I", false)
  | 5 => ("TwinVaultsModel$Message", "c", "I", false)
  | 6 => ("TwinVaultsModel$Message", "d", "I", false)
  | 7 => ("TwinVaultsModel$Message", "count", "I", false)
  | 8 => ("TwinVaultsModel$Message", "first", "[I", true)
  | 9 => ("TwinVaultsModel$Message", "second", "[I", true)
  | _ => ("TwinVaultsModel$Message", "third", "[I", true)
def tyX10 : Nat → FieldType := fun k => match k with
  | 0 => .object "TwinVaultsModel$Store"
  | 1 => .int
  | 2 => .int
  | 3 => .int
  | 4 => .int
  | 5 => .int
  | 6 => .int
  | 7 => .int
  | 8 => .array .int
  | 9 => .array .int
  | _ => .array .int
theorem nmX10 : ∀ a, a < 11 → ∀ b, b < 11 → a ≠ b → (TX10 a).2.1 ≠ (TX10 b).2.1 := by decide +kernel
theorem tyX10_ok : ∀ k, k < 11 → parseFieldDescriptor (TX10 k).2.2.1 = some (tyX10 k) := by decide +kernel
abbrev cX10_init : ByteArray := prog_13_method_1_code
def yX10_init : MethodName := ⟨RX10, "<init>", "()V"⟩
def RX11 : String := "TwinVaultsModel$Store"
def TX11 : u_T := fun k => match k with
  | 0 => ("TwinVaultsModel$Store", "group", "I", false)
  | 1 => ("TwinVaultsModel$Store", "site", "I", false)
  | 2 => ("TwinVaultsModel$Store", "role", "I", false)
  | 3 => ("TwinVaultsModel$Store", "epoch", "I", false)
  | 4 => ("TwinVaultsModel$Store", "now", "I", false)
  | 5 => ("TwinVaultsModel$Store", "safe", "I", false)
  | 6 => ("TwinVaultsModel$Store", "kept", "I", false)
  | 7 => ("TwinVaultsModel$Store", "count", "I", false)
  | 8 => ("TwinVaultsModel$Store", "acked", "I", false)
  | 9 => ("TwinVaultsModel$Store", "target", "I", false)
  | 10 => ("TwinVaultsModel$Store", "held0", "I", false)
  | 11 => ("TwinVaultsModel$Store", "held1", "I", false)
  | 12 => ("TwinVaultsModel$Store", "gift", "I", false)
  | 13 => ("TwinVaultsModel$Store", "taken", "I", false)
  | 14 => ("TwinVaultsModel$Store", "ids", "[I", true)
  | 15 => ("TwinVaultsModel$Store", "lines", "[I", true)
  | 16 => ("TwinVaultsModel$Store", "base", "I", false)
  | 17 => ("TwinVaultsModel$Store", "phase", "I", false)
  | 18 => ("TwinVaultsModel$Store", "chunks", "I", false)
  | 19 => ("TwinVaultsModel$Store", "next", "I", false)
  | 20 => ("TwinVaultsModel$Store", "wait", "I", false)
  | 21 => ("TwinVaultsModel$Store", "returns", "Z", false)
  | 22 => ("TwinVaultsModel$Store", "stages", "Z", false)
  | 23 => ("TwinVaultsModel$Store", "stagedBase", "I", false)
  | 24 => ("TwinVaultsModel$Store", "stagedId", "I", false)
  | 25 => ("TwinVaultsModel$Store", "stagedAll", "I", false)
  | 26 => ("TwinVaultsModel$Store", "stagedChunks", "I", false)
  | 27 => ("TwinVaultsModel$Store", "stagedItems", "I", false)
  | 28 => ("TwinVaultsModel$Store", "refused", "I", false)
  | 29 => ("TwinVaultsModel$Store", "lostWhere", "[I", false)
  | 30 => ("TwinVaultsModel$Store", "lostWhat", "[I", false)
  | 31 => ("TwinVaultsModel$Store", "last", "[I", false)
  | 32 => ("TwinVaultsModel$Store", "isKnown", "Z", false)
  | 33 => ("TwinVaultsModel$Store", "isCounted", "Z", false)
  | _ => ("TwinVaultsModel$Store", "needs", "I", false)
def tyX11 : Nat → FieldType := fun k => match k with
  | 0 => .int
  | 1 => .int
  | 2 => .int
  | 3 => .int
  | 4 => .int
  | 5 => .int
  | 6 => .int
  | 7 => .int
  | 8 => .int
  | 9 => .int
  | 10 => .int
  | 11 => .int
  | 12 => .int
  | 13 => .int
  | 14 => .array .int
  | 15 => .array .int
  | 16 => .int
  | 17 => .int
  | 18 => .int
  | 19 => .int
  | 20 => .int
  | 21 => .boolean
  | 22 => .boolean
  | 23 => .int
  | 24 => .int
  | 25 => .int
  | 26 => .int
  | 27 => .int
  | 28 => .int
  | 29 => .array .int
  | 30 => .array .int
  | 31 => .array .int
  | 32 => .boolean
  | 33 => .boolean
  | _ => .int
theorem nmX11 : ∀ a, a < 35 → ∀ b, b < 35 → a ≠ b → (TX11 a).2.1 ≠ (TX11 b).2.1 := by decide +kernel
theorem tyX11_ok : ∀ k, k < 35 → parseFieldDescriptor (TX11 k).2.2.1 = some (tyX11 k) := by decide +kernel
abbrev cX11_init : ByteArray := prog_14_method_1_code
def yX11_init : MethodName := ⟨RX11, "<init>", "()V"⟩
abbrev cX11_latest : ByteArray := prog_14_method_2_code
def yX11_latest : MethodName := ⟨RX11, "latest", "()I"⟩
abbrev cX11_latestLine : ByteArray := prog_14_method_3_code
def yX11_latestLine : MethodName := ⟨RX11, "latestLine", "()I"⟩
abbrev cX11_find : ByteArray := prog_14_method_4_code
def yX11_find : MethodName := ⟨RX11, "find", "(I)I"⟩
abbrev cX11_drop : ByteArray := prog_14_method_5_code
def yX11_drop : MethodName := ⟨RX11, "drop", "(I)V"⟩
abbrev cX11_isPinned : ByteArray := prog_14_method_6_code
def yX11_isPinned : MethodName := ⟨RX11, "isPinned", "(I)Z"⟩
abbrev cX11_thins : ByteArray := prog_14_method_7_code
def yX11_thins : MethodName := ⟨RX11, "thins", "(I)V"⟩
abbrev cX11_snaps : ByteArray := prog_14_method_8_code
def yX11_snaps : MethodName := ⟨RX11, "snaps", "(II)V"⟩
abbrev cX11_stagesNothing : ByteArray := prog_14_method_9_code
def yX11_stagesNothing : MethodName := ⟨RX11, "stagesNothing", "()V"⟩
abbrev cX11_hasAll : ByteArray := prog_14_method_10_code
def yX11_hasAll : MethodName := ⟨RX11, "hasAll", "()Z"⟩
def RX12 : String := "TwinVaultsModel"
def TX12 : u_T := fun k => match k with
  | 0 => ("TwinVaultsModel", "thrown", "I", false)
  | 1 => ("TwinVaultsModel", "pool", "I", true)
  | 2 => ("TwinVaultsModel", "keep", "I", true)
  | 3 => ("TwinVaultsModel", "window", "I", true)
  | 4 => ("TwinVaultsModel", "period", "I", false)
  | 5 => ("TwinVaultsModel", "time", "I", false)
  | 6 => ("TwinVaultsModel", "groups", "I", false)
  | 7 => ("TwinVaultsModel", "sent", "I", false)
  | 8 => ("TwinVaultsModel", "strayed", "I", false)
  | 9 => ("TwinVaultsModel", "isUp", "[Z", true)
  | 10 => ("TwinVaultsModel", "acts", "[I", true)
  | 11 => ("TwinVaultsModel", "left", "[I", true)
  | 12 => ("TwinVaultsModel", "volumes", "[I", true)
  | 13 => ("TwinVaultsModel", "places", "[I", true)
  | 14 => ("TwinVaultsModel", "writes", "I", false)
  | 15 => ("TwinVaultsModel", "before", "[I", true)
  | 16 => ("TwinVaultsModel", "where", "[I", true)
  | 17 => ("TwinVaultsModel", "what", "[I", true)
  | 18 => ("TwinVaultsModel", "length", "[I", true)
  | 19 => ("TwinVaultsModel", "mark", "[I", true)
  | 20 => ("TwinVaultsModel", "seen", "[I", true)
  | 21 => ("TwinVaultsModel", "leaf", "[I", true)
  | 22 => ("TwinVaultsModel", "branch", "[I", true)
  | 23 => ("TwinVaultsModel", "root", "[I", true)
  | 24 => ("TwinVaultsModel", "marks", "I", false)
  | 25 => ("TwinVaultsModel", "spanFrom", "I", false)
  | 26 => ("TwinVaultsModel", "spanTo", "I", false)
  | 27 => ("TwinVaultsModel", "spanGroup", "I", false)
  | 28 => ("TwinVaultsModel", "spanned", "I", false)
  | 29 => ("TwinVaultsModel", "spanWhere", "[I", true)
  | 30 => ("TwinVaultsModel", "spanWhat", "[I", true)
  | 31 => ("TwinVaultsModel", "takenIds", "[[I", true)
  | 32 => ("TwinVaultsModel", "takenLines", "[[I", true)
  | 33 => ("TwinVaultsModel", "takens", "[I", true)
  | 34 => ("TwinVaultsModel", "stores", "[LTwinVaultsModel$Store;", true)
  | 35 => ("TwinVaultsModel", "flight", "[LTwinVaultsModel$Message;", true)
  | 36 => ("TwinVaultsModel", "spare", "[LTwinVaultsModel$Message;", true)
  | 37 => ("TwinVaultsModel", "flying", "I", false)
  | _ => ("TwinVaultsModel", "spares", "I", false)
def tyX12 : Nat → FieldType := fun k => match k with
  | 0 => .int
  | 1 => .int
  | 2 => .int
  | 3 => .int
  | 4 => .int
  | 5 => .int
  | 6 => .int
  | 7 => .int
  | 8 => .int
  | 9 => .array .boolean
  | 10 => .array .int
  | 11 => .array .int
  | 12 => .array .int
  | 13 => .array .int
  | 14 => .int
  | 15 => .array .int
  | 16 => .array .int
  | 17 => .array .int
  | 18 => .array .int
  | 19 => .array .int
  | 20 => .array .int
  | 21 => .array .int
  | 22 => .array .int
  | 23 => .array .int
  | 24 => .int
  | 25 => .int
  | 26 => .int
  | 27 => .int
  | 28 => .int
  | 29 => .array .int
  | 30 => .array .int
  | 31 => .array (.array .int)
  | 32 => .array (.array .int)
  | 33 => .array .int
  | 34 => .array (.object "TwinVaultsModel$Store")
  | 35 => .array (.object "TwinVaultsModel$Message")
  | 36 => .array (.object "TwinVaultsModel$Message")
  | 37 => .int
  | _ => .int
theorem nmX12 : ∀ a, a < 39 → ∀ b, b < 39 → a ≠ b → (TX12 a).2.1 ≠ (TX12 b).2.1 := by decide +kernel
theorem tyX12_ok : ∀ k, k < 39 → parseFieldDescriptor (TX12 k).2.2.1 = some (tyX12 k) := by decide +kernel
abbrev cX12_thrown : ByteArray := prog_12_method_1_code
def yX12_thrown : MethodName := ⟨RX12, "thrown", "()I"⟩
abbrev cX12_init : ByteArray := prog_12_method_2_code
def yX12_init : MethodName := ⟨RX12, "<init>", "(III)V"⟩
abbrev cX12_cut : ByteArray := prog_12_method_3_code
def yX12_cut : MethodName := ⟨RX12, "cut", "(II)I"⟩
abbrev cX12_nodes : ByteArray := prog_12_method_4_code
def yX12_nodes : MethodName := ⟨RX12, "nodes", "(III)I"⟩
abbrev cX12_path : ByteArray := prog_12_method_5_code
def yX12_path : MethodName := ⟨RX12, "path", "(II)I"⟩
abbrev cX12_span : ByteArray := prog_12_method_6_code
def yX12_span : MethodName := ⟨RX12, "span", "(III)V"⟩
abbrev cX12_different : ByteArray := prog_12_method_7_code
def yX12_different : MethodName := ⟨RX12, "different", "(III)I"⟩
abbrev cX12_isTaken : ByteArray := prog_12_method_8_code
def yX12_isTaken : MethodName := ⟨RX12, "isTaken", "(III)V"⟩
abbrev cX12_lineOf : ByteArray := prog_12_method_9_code
def yX12_lineOf : MethodName := ⟨RX12, "lineOf", "(II)I"⟩
abbrev cX12_of : ByteArray := prog_12_method_10_code
def yX12_of : MethodName := ⟨RX12, "of", "(I)LTwinVaultsModel$Store;"⟩
abbrev cX12_other : ByteArray := prog_12_method_11_code
def yX12_other : MethodName := ⟨RX12, "other", "(LTwinVaultsModel$Store;)LTwinVaultsModel$Store;"⟩
abbrev cX12_know : ByteArray := prog_12_method_12_code
def yX12_know : MethodName := ⟨RX12, "know", "(LTwinVaultsModel$Store;)V"⟩
abbrev cX12_needs : ByteArray := prog_12_method_13_code
def yX12_needs : MethodName := ⟨RX12, "needs", "(LTwinVaultsModel$Store;)I"⟩
abbrev cX12_free : ByteArray := prog_12_method_14_code
def yX12_free : MethodName := ⟨RX12, "free", "(I)I"⟩
abbrev cX12_act : ByteArray := prog_12_method_15_code
def yX12_act : MethodName := ⟨RX12, "act", "(I)Z"⟩
abbrev cX12_acts : ByteArray := prog_12_method_16_code
def yX12_acts : MethodName := ⟨RX12, "acts", "(II)Z"⟩
abbrev cX12_goesDown : ByteArray := prog_12_method_17_code
def yX12_goesDown : MethodName := ⟨RX12, "goesDown", "(I)V"⟩
abbrev cX12_flushes : ByteArray := prog_12_method_18_code
def yX12_flushes : MethodName := ⟨RX12, "flushes", "(LTwinVaultsModel$Store;)Z"⟩
abbrev cX12_checks : ByteArray := prog_12_method_19_code
def yX12_checks : MethodName := ⟨RX12, "checks", "(LTwinVaultsModel$Store;)I"⟩
abbrev cX12_takes : ByteArray := prog_12_method_20_code
def yX12_takes : MethodName := ⟨RX12, "takes", "(LTwinVaultsModel$Store;)Z"⟩
abbrev cX12_begins : ByteArray := prog_12_method_21_code
def yX12_begins : MethodName := ⟨RX12, "begins", "(LTwinVaultsModel$Store;I)V"⟩
abbrev cX12_after : ByteArray := prog_12_method_22_code
def yX12_after : MethodName := ⟨RX12, "after", "(II)I"⟩
abbrev cX12_send : ByteArray := prog_12_method_23_code
def yX12_send : MethodName := ⟨RX12, "send", "(LTwinVaultsModel$Store;IIIII)V"⟩
abbrev cX12_piece : ByteArray := prog_12_method_24_code
def yX12_piece : MethodName := ⟨RX12, "piece", "(LTwinVaultsModel$Message;)V"⟩
abbrev cX12_spanOf : ByteArray := prog_12_method_25_code
def yX12_spanOf : MethodName := ⟨RX12, "spanOf", "(LTwinVaultsModel$Store;)V"⟩
abbrev cX12_offers : ByteArray := prog_12_method_26_code
def yX12_offers : MethodName := ⟨RX12, "offers", "(LTwinVaultsModel$Store;)V"⟩
abbrev cX12_sendsOn : ByteArray := prog_12_method_27_code
def yX12_sendsOn : MethodName := ⟨RX12, "sendsOn", "(LTwinVaultsModel$Store;)V"⟩
abbrev cX12_receive : ByteArray := prog_12_method_28_code
def yX12_receive : MethodName := ⟨RX12, "receive", "(LTwinVaultsModel$Message;)V"⟩
abbrev cX12_follows : ByteArray := prog_12_method_29_code
def yX12_follows : MethodName := ⟨RX12, "follows", "(LTwinVaultsModel$Store;I)Z"⟩
abbrev cX12_stagesJust : ByteArray := prog_12_method_30_code
def yX12_stagesJust : MethodName := ⟨RX12, "stagesJust", "(LTwinVaultsModel$Store;LTwinVaultsModel$Message;)Z"⟩
abbrev cX12_offered : ByteArray := prog_12_method_31_code
def yX12_offered : MethodName := ⟨RX12, "offered", "(LTwinVaultsModel$Store;LTwinVaultsModel$Message;)V"⟩
abbrev cX12_staged : ByteArray := prog_12_method_32_code
def yX12_staged : MethodName := ⟨RX12, "staged", "(LTwinVaultsModel$Store;I)V"⟩
abbrev cX12_data : ByteArray := prog_12_method_33_code
def yX12_data : MethodName := ⟨RX12, "data", "(LTwinVaultsModel$Store;LTwinVaultsModel$Message;)V"⟩
abbrev cX12_accepted : ByteArray := prog_12_method_34_code
def yX12_accepted : MethodName := ⟨RX12, "accepted", "(LTwinVaultsModel$Store;I)V"⟩
abbrev cX12_acknowledged : ByteArray := prog_12_method_35_code
def yX12_acknowledged : MethodName := ⟨RX12, "acknowledged", "(LTwinVaultsModel$Store;I)V"⟩
abbrev cX12_had : ByteArray := prog_12_method_36_code
def yX12_had : MethodName := ⟨RX12, "had", "(LTwinVaultsModel$Store;)V"⟩
abbrev cX12_lacked : ByteArray := prog_12_method_37_code
def yX12_lacked : MethodName := ⟨RX12, "lacked", "(LTwinVaultsModel$Store;I)V"⟩
abbrev cX12_given : ByteArray := prog_12_method_38_code
def yX12_given : MethodName := ⟨RX12, "given", "(LTwinVaultsModel$Store;LTwinVaultsModel$Message;)V"⟩
abbrev cX12_greeted : ByteArray := prog_12_method_39_code
def yX12_greeted : MethodName := ⟨RX12, "greeted", "(LTwinVaultsModel$Store;LTwinVaultsModel$Message;)V"⟩
abbrev cX12_goesBack : ByteArray := prog_12_method_40_code
def yX12_goesBack : MethodName := ⟨RX12, "goesBack", "(LTwinVaultsModel$Store;I)V"⟩
abbrev cX12_group : ByteArray := prog_12_method_41_code
def yX12_group : MethodName := ⟨RX12, "group", "(II)I"⟩
abbrev cX12_isPlace : ByteArray := prog_12_method_42_code
def yX12_isPlace : MethodName := ⟨RX12, "isPlace", "(LTwinVaultsModel$Store;II)Z"⟩
abbrev cX12_write : ByteArray := prog_12_method_43_code
def yX12_write : MethodName := ⟨RX12, "write", "(IIII)I"⟩
abbrev cX12_writes : ByteArray := prog_12_method_44_code
def yX12_writes : MethodName := ⟨RX12, "writes", "(LTwinVaultsModel$Store;III)I"⟩
abbrev cX12_fill : ByteArray := prog_12_method_45_code
def yX12_fill : MethodName := ⟨RX12, "fill", "(IIIII)I"⟩
abbrev cX12_flush : ByteArray := prog_12_method_46_code
def yX12_flush : MethodName := ⟨RX12, "flush", "(I)I"⟩
abbrev cX12_checkpoint : ByteArray := prog_12_method_47_code
def yX12_checkpoint : MethodName := ⟨RX12, "checkpoint", "(I)I"⟩
abbrev cX12_against : ByteArray := prog_12_method_48_code
def yX12_against : MethodName := ⟨RX12, "against", "(LTwinVaultsModel$Store;II)I"⟩
abbrev cX12_snapshot : ByteArray := prog_12_method_49_code
def yX12_snapshot : MethodName := ⟨RX12, "snapshot", "(I)I"⟩
abbrev cX12_leave : ByteArray := prog_12_method_50_code
def yX12_leave : MethodName := ⟨RX12, "leave", "(I)I"⟩
abbrev cX12_stay : ByteArray := prog_12_method_51_code
def yX12_stay : MethodName := ⟨RX12, "stay", "(I)I"⟩
abbrev cX12_force : ByteArray := prog_12_method_52_code
def yX12_force : MethodName := ⟨RX12, "force", "(I)I"⟩
abbrev cX12_back : ByteArray := prog_12_method_53_code
def yX12_back : MethodName := ⟨RX12, "back", "(I)I"⟩
abbrev cX12_period : ByteArray := prog_12_method_54_code
def yX12_period : MethodName := ⟨RX12, "period", "(I)Z"⟩
abbrev cX12_tick : ByteArray := prog_12_method_55_code
def yX12_tick : MethodName := ⟨RX12, "tick", "()I"⟩
abbrev cX12_ticks : ByteArray := prog_12_method_56_code
def yX12_ticks : MethodName := ⟨RX12, "ticks", "(LTwinVaultsModel$Store;)V"⟩
abbrev cX12_copies : ByteArray := prog_12_method_57_code
def yX12_copies : MethodName := ⟨RX12, "copies", "(LTwinVaultsModel$Store;)V"⟩
abbrev cX12_isSite : ByteArray := prog_12_method_58_code
def yX12_isSite : MethodName := ⟨RX12, "isSite", "(I)Z"⟩
abbrev cX12_power : ByteArray := prog_12_method_59_code
def yX12_power : MethodName := ⟨RX12, "power", "(II)Z"⟩
abbrev cX12_crash : ByteArray := prog_12_method_60_code
def yX12_crash : MethodName := ⟨RX12, "crash", "(I)Z"⟩
abbrev cX12_up : ByteArray := prog_12_method_61_code
def yX12_up : MethodName := ⟨RX12, "up", "(I)I"⟩
abbrev cX12_flies : ByteArray := prog_12_method_62_code
def yX12_flies : MethodName := ⟨RX12, "flies", "(I)LTwinVaultsModel$Message;"⟩
abbrev cX12_pass : ByteArray := prog_12_method_63_code
def yX12_pass : MethodName := ⟨RX12, "pass", "(II)I"⟩
abbrev cX12_message : ByteArray := prog_12_method_64_code
def yX12_message : MethodName := ⟨RX12, "message", "(II)I"⟩
abbrev cX12_fails : ByteArray := prog_12_method_65_code
def yX12_fails : MethodName := ⟨RX12, "fails", "(I)I"⟩
abbrev cX12_item : ByteArray := prog_12_method_66_code
def yX12_item : MethodName := ⟨RX12, "item", "(III)I"⟩
abbrev cX12_read : ByteArray := prog_12_method_67_code
def yX12_read : MethodName := ⟨RX12, "read", "(III)I"⟩
abbrev cX12_old : ByteArray := prog_12_method_68_code
def yX12_old : MethodName := ⟨RX12, "old", "(IIII)I"⟩
abbrev cX12_sum : ByteArray := prog_12_method_69_code
def yX12_sum : MethodName := ⟨RX12, "sum", "(II)I"⟩
abbrev cX12_differ : ByteArray := prog_12_method_70_code
def yX12_differ : MethodName := ⟨RX12, "differ", "(III)I"⟩
abbrev cX12_state : ByteArray := prog_12_method_71_code
def yX12_state : MethodName := ⟨RX12, "state", "(II)I"⟩
abbrev cX12_snap : ByteArray := prog_12_method_72_code
def yX12_snap : MethodName := ⟨RX12, "snap", "(III)I"⟩
abbrev cX12_lost : ByteArray := prog_12_method_73_code
def yX12_lost : MethodName := ⟨RX12, "lost", "(III)I"⟩
abbrev cX12_total : ByteArray := prog_12_method_74_code
def yX12_total : MethodName := ⟨RX12, "total", "(I)I"⟩
def RJx8e188 : String := "java/lang/Cloneable"
def TJx8e188 : u_T := fun k => match k with
  | _ => ("", "", "", false)
def RJ9 : String := "java/lang/Math"
def TJ9 : u_T := fun k => match k with
  | _ => ("", "", "", false)
abbrev cJ9_floorMod_7cf53 : ByteArray := prog_19_method_50_code
def yJ9_floorMod_7cf53 : MethodName := ⟨RJ9, "floorMod", "(II)I"⟩
abbrev cJ9_max_7cf53 : ByteArray := prog_19_method_65_code
def yJ9_max_7cf53 : MethodName := ⟨RJ9, "max", "(II)I"⟩
abbrev cJ9_min_7cf53 : ByteArray := prog_19_method_69_code
def yJ9_min_7cf53 : MethodName := ⟨RJ9, "min", "(II)I"⟩
def RJ0 : String := "java/lang/String"
def TJ0 : u_T := fun k => match k with
  | _ => ("", "", "", false)
def RJ10 : String := "java/lang/System"
def TJ10 : u_T := fun k => match k with
  | _ => ("", "", "", false)
def RJ7 : String := "java/util/Arrays"
def TJ7 : u_T := fun k => match k with
  | _ => ("", "", "", false)
abbrev cJ7_copyOf_59c91 : ByteArray := prog_24_method_123_code
def yJ7_copyOf_59c91 : MethodName := ⟨RJ7, "copyOf", "([II)[I"⟩
def RL : String := "TwinVaultsLaw"
abbrev cL_cell : ByteArray := method_2_code
def yL_cell : MethodName := ⟨RL, "cell", "([II)I"⟩
abbrev cL_item : ByteArray := method_3_code
def yL_item : MethodName := ⟨RL, "item", "(LTwinVaults;III[J)I"⟩
abbrev cL_read : ByteArray := method_4_code
def yL_read : MethodName := ⟨RL, "read", "(LTwinVaults;III[J)I"⟩
abbrev cL_old : ByteArray := method_5_code
def yL_old : MethodName := ⟨RL, "old", "(LTwinVaults;IIII[J)I"⟩
abbrev cL_sum : ByteArray := method_6_code
def yL_sum : MethodName := ⟨RL, "sum", "(LTwinVaults;II[J)I"⟩
abbrev cL_differ : ByteArray := method_7_code
def yL_differ : MethodName := ⟨RL, "differ", "(LTwinVaults;III[J)I"⟩
abbrev cL_lost : ByteArray := method_8_code
def yL_lost : MethodName := ⟨RL, "lost", "(LTwinVaults;III[J)I"⟩
abbrev cL_law : ByteArray := code
def yL_law : MethodName := ⟨RL, "law", "([I)Z"⟩
abbrev vwCl : List vw_C := [(RX0, TX0, 4), (RX1, TX1, 2), (RX2, TX2, 9), (RX3, TX3, 4), (RX4, TX4, 4), (RX5, TX5, 7), (RX6, TX6, 20), (RX7, TX7, 11), (RX8, TX8, 7), (RX9, TX9, 10), (RX10, TX10, 11), (RX11, TX11, 35), (RX12, TX12, 39)]
end
section
/-! ===== BEGIN exceptions that leave a method, and their catching by the caller (launches without stack traces) ===== -/
section VXA
/-! The laws vx_back, vx_callV, vx_callS, vx_callSW, vx_throw0, vx_throwS follow proofs of the library, with one case more: JvmDerived/Free/Laws.lean (Back.of_free), Shelf42/LK1.lean (callV, callS), Shelf/KitTraced.lean (throwNew0V, throwNewS). -/
/-- where a method has thrown q: the class by its name, the cell, what was written, the world -/
def vx_T (XC : String → State → State → Prop) (st : State) (q : Addr) (t : State) (mc ms : Nat) (free : Addr → Prop) : Prop :=
  ∃ (E : String) (ce : Cell) (L : List Loc), XC E st t ∧ t.heap[q]? = some ce ∧ ce.vm = .none ∧ st.vm.findClass E = some ce.cls ∧ st.WarmedH t.vm ∧ st.sameButNew ({ t with vm := st.vm } : State) L mc ms ∧ ∀ z ∈ L, free z.base
def vx_Q (Qc : Array Value → State → Outcome → State → Prop) (XC : String → State → State → Prop) (mc ms : Nat) (free : Addr → Prop) : Array Value → State → Outcome → State → Prop := fun a st o t =>
  (Qc a st o t ∧ ∃ L, FrameEnd st o t L mc ms ∧ ∀ q ∈ L, free q.base) ∨ ∃ q, o = .threw q ∧ vx_T XC st q t mc ms free
/-- a callee that returns or throws -/
def vx_Met (l : Launch) (y : MethodName) (ws : List Cond) (rm : Room) (Pc : Array Value → State → Prop) (Qc : Array Value → State → Outcome → State → Prop) (XC : String → State → State → Prop) (mc ms : Nat) (free : Addr → Prop) : Prop :=
  MetFree l y (headSpec ws rm) Pc (fun _ _ _ _ _ => True) (vx_Q Qc XC mc ms free)
def vx_Post (XC : String → State → State → Prop) (mc ms : Nat) (free : Addr → Prop) : Pt → Array Value → Addr → Pt → Prop := fun A a q B =>
  ∃ (g : JFrame) (mk : MethodId) (t : State) (L : List Loc) (E : String) (ce : Cell), B.U.heap = t.heap ∧ B.U.vm = t.vm ∧ XC E (A.U.calling g mk a) t ∧ t.heap[q]? = some ce ∧ ce.vm = .none ∧ A.U.vm.findClass E = some ce.cls ∧ B.locs = A.locs ++ L ∧ (∀ z ∈ L, free z.base) ∧ B.cells = A.cells + mc ∧ B.slots = A.slots + ms
def vx_Back (l : Launch) (R : Room) (p : Program) (e : Env) (below : List Frame) (s : State) (sargs : Array Value) (y : MethodName) (len W9 : Nat)
    (Pre : Pt → Array Value → Prop) (Post : Pt → Array Value → Option Value → Pt → Prop) (PostX : Pt → Array Value → Addr → Pt → Prop) : Prop :=
  ∀ (m : MethodId) (meth : Method) (c : Code) (A : Pt) (g : JFrame) (ig : Instr) (mk : MethodId) (a : Array Value),
    Stand p l e R s m sargs below meth c A.U A.locs A.cells A.slots → g.method = m → g.locals.size = c.maxLocals → decode c.code g.pc = .ok (ig, len) →
    2 * g.monitorRoom + (g.stack.map fun v => v.category).sum ≤ W9 → A.U.methodNamed? y = some mk → Pre A a →
    (∃ (v : Option Value) (B : Pt), Stand p l e R s m sargs below meth c B.U B.locs B.cells B.slots ∧ Post A a v B ∧
      Steps p.tables e below (doInvoke e (A.U.setTop g) [] mk a).1 (B.U.setTop { g with pc := g.pc + len, stack := v.toList ++ g.stack })) ∨
    (∃ (q : Addr) (B : Pt), Stand p l e R s m sargs below meth c B.U B.locs B.cells B.slots ∧ PostX A a q B ∧
      Steps p.tables e below (doInvoke e (A.U.setTop g) [] mk a).1 ((B.U.setTop g).pushFrame (.throwing q)))
section Payer
variable {l : Launch} {R : Room} {p : Program} {e : Env} {below : List Frame} {s : State} {sargs : Array Value} {y : MethodName} {len W9 : Nat}
theorem vx_back {ws : List Cond} {rm : Room} {Pc : Array Value → State → Prop} {Qc : Array Value → State → Outcome → State → Prop} {XC : String → State → State → Prop} {mc ms : Nat} {free : Addr → Prop} {bytes : ByteArray} {maxL : Nat} {ret : Option FieldType}
    (hM : vx_Met l y ws rm Pc Qc XC mc ms free) (hblind : FrameBlind Pc) (hrc : rm.cells = mc) (hrs : rm.slots = ms)
    (hframes : rm.frames + 1 ≤ R.frames) (hlocals : W9 + (maxL + 11) + rm.locals ≤ R.locals)
    (hws : ∀ w ∈ ws, ∀ a' U, s.WarmedH U.vm → w.before a' U = true) (hcode : Cond.code y bytes maxL ret ∈ ws) (hinit : ∀ a' U, s.WarmedH U.vm → (Cond.initialized y.cls).before a' U = true) :
    vx_Back l R p e below s sargs y len W9 (PreOf R mc ms Pc) (PostOf Qc mc ms free) (vx_Post XC mc ms free) := by
  intro m meth c A g ig mk a X hg hsize hdg hW hn hp
  have h1 : (headSpec ws rm).pre.before a A.U = true := atoms_intro fun w hw => hws w hw _ _ X.warmed
  have h2 : (Cond.code y bytes maxL ret).before a A.U = true := hws _ hcode _ _ X.warmed
  have h3 : (Cond.initialized y.cls).before a A.U = true := hinit _ _ X.warmed
  have h4 : A.cells + (headSpec ws rm).room.cells ≤ R.cells := by rw [show (headSpec ws rm).room.cells = mc from hrc]; exact hp.1
  have h5 : A.slots + (headSpec ws rm).room.slots ≤ R.slots := by rw [show (headSpec ws rm).room.slots = ms from hrs]; exact hp.2.1
  have hPc : Pc a (A.U.calling g mk a) := hblind _ _ _ _ hp.2.2
  obtain ⟨U, Ls, c0, s0⟩ := A
  dsimp only [Pt.U, Pt.locs, Pt.cells, Pt.slots] at h1 h2 h3 h4 h5 X hn hPc ⊢
  obtain ⟨methY, cY, hmY, hcY, -, hlY, -, -, -, -⟩ := Cond.code_spec hn h2
  obtain ⟨kY, hkY, -⟩ := className_of_methodNamed hn
  have hinitY : kY.init = .initialized := Cond.initialized_spec (findClass_of_methodNamed hn) hkY h3
  have h : At U g.method c below := by rw [hg]; exact X.here
  have hlocals9 : W9 + (maxL + 11) + (headSpec ws rm).room.locals ≤ R.locals := hlocals
  have happ : (headSpec ws rm).appliesLoose y e.platform (U.calling g mk a) = true :=
    Spec.appliesLoose_calling (g := g) h hdg hn hkY hinitY
      (X.room_calling (g := g) (R' := (headSpec ws rm).room) hsize hmY hcY hframes (by rw [hlY]; omega) h4 h5) h1
  obtain ⟨mid, hmid⟩ := h.above
  have hfr : (U.setTop g).frames = (.java g :: mid) ++ below := by rw [State.frames_setTop' g h.top, hmid]; rfl
  obtain ⟨o, s₂, hsteps, -, hend, hq⟩ := Steps.callFree hM p X.admits X.cas X.clock (acts := []) hfr happ hPc trivial
  have hq' : vx_Q Qc XC mc ms free a (U.calling g mk a) o s₂ := hq
  rw [State.frames_setTop' g h.top] at hend
  obtain ⟨g₀, hg0⟩ := Option.isSome_iff_exists.mp h.top
  obtain ⟨r, hr⟩ := State.topJava?_eq_some.mp hg0
  have hr' : (({ U with heap := s₂.heap, slotsUsed := s₂.slotsUsed } : State).setVm s₂.vm).frames = .java g₀ :: r := hr
  rcases hq' with ⟨hqc, L, hfe, hL⟩ | ⟨q, rfl, E, ce, L, hx, hce, hcv, hcl, hW₂, hsm, hL⟩
  · obtain ⟨⟨v, rfl⟩, hW₂, e2, q2, q3, q4, q5, q6⟩ := id hfe
    have e3 : s₂ = ({ (U.calling g mk a).setFrames s₂.frames with heap := s₂.heap, slotsUsed := s₂.slotsUsed } : State).setVm s₂.vm := by
      have : s₂ = ({ s₂ with vm := (U.calling g mk a).vm } : State).setVm s₂.vm := rfl
      rw [e2] at this
      exact this
    obtain ⟨c₂, i₂, len₂, hc₂, hd₂, hf₂⟩ := hend
    have hW' : U.WarmedH s₂.vm := hW₂
    have hcc : c₂ = c := by
      have h1 : s₂.code? g.method = U.code? g.method := by
        rw [State.code?_eq, State.code?_eq, hW'.alike.method?]
      exact Option.some.inj (hc₂.symm.trans (h1.trans h.code))
    subst hcc
    have hlen : len₂ = len := by rw [hdg] at hd₂; cases hd₂; rfl
    subst hlen
    have hs₂ : s₂ = (({ U with heap := s₂.heap, slotsUsed := s₂.slotsUsed } : State).setVm s₂.vm).setTop { g with pc := g.pc + len₂, stack := v.toList ++ g.stack } := by
      refine e3.trans ?_
      rw [hf₂, State.calling_eq h.top, State.setFrames_setFrames, State.setTop_of_frames _ hr', hr]
      rfl
    have hsame : U.sameButNew ({ U with heap := s₂.heap, slotsUsed := s₂.slotsUsed } : State) L mc ms := by
      refine ⟨?_, q2, q3, q4, q5, q6⟩
      obtain ⟨t, ht, -⟩ := State.frames_cons hr
      show ({ U with heap := s₂.heap, slotsUsed := s₂.slotsUsed } : State) = { U.setFrames U.frames with heap := s₂.heap, slotsUsed := s₂.slotsUsed }
      rw [State.setFrames_self ht]
    subst hg
    refine Or.inl ⟨v, ⟨(({ U with heap := s₂.heap, slotsUsed := s₂.slotsUsed } : State).setVm s₂.vm), Ls ++ L, c0 + mc, s0 + ms⟩,
      ⟨X.admits, X.cas, X.clock, X.frames, X.room, X.hears, X.method, X.code, (X.here.setHeapUsed s₂.heap s₂.slotsUsed).setVm hW'.alike, X.tail, State.WarmedH.trans X.warmed hW', X.limits, X.bytes, X.same.trans (hsame.setVm s.vm)⟩,
      ⟨g, mk, s₂, L, rfl, rfl, hqc, rfl, hL, rfl, rfl⟩, ?_⟩
    show Steps p.tables e below _ ((({ U with heap := s₂.heap, slotsUsed := s₂.slotsUsed } : State).setVm s₂.vm).setTop { g with pc := g.pc + len₂, stack := v.toList ++ g.stack })
    rw [← hs₂]
    exact hsteps
  · obtain ⟨e2, q2, q3, q4, q5, q6⟩ := id hsm
    have e3 : s₂ = ({ (U.calling g mk a).setFrames s₂.frames with heap := s₂.heap, slotsUsed := s₂.slotsUsed } : State).setVm s₂.vm := by
      have : s₂ = ({ s₂ with vm := (U.calling g mk a).vm } : State).setVm s₂.vm := rfl
      rw [e2] at this
      exact this
    have hf₂ : s₂.frames = .throwing q :: .java g :: U.frames.tail := hend
    have hW' : U.WarmedH s₂.vm := hW₂
    have hs₂ : s₂ = ((({ U with heap := s₂.heap, slotsUsed := s₂.slotsUsed } : State).setVm s₂.vm).setTop g).pushFrame (.throwing q) := by
      refine e3.trans ?_
      rw [hf₂, State.calling_eq h.top, State.setFrames_setFrames, State.pushFrame, State.frames_setTop _ hr', State.setTop_of_frames _ hr', State.setFrames_setFrames, hr]
      rfl
    have hsame : U.sameButNew ({ U with heap := s₂.heap, slotsUsed := s₂.slotsUsed } : State) L mc ms := by
      refine ⟨?_, q2, q3, q4, q5, q6⟩
      obtain ⟨t, ht, -⟩ := State.frames_cons hr
      show ({ U with heap := s₂.heap, slotsUsed := s₂.slotsUsed } : State) = { U.setFrames U.frames with heap := s₂.heap, slotsUsed := s₂.slotsUsed }
      rw [State.setFrames_self ht]
    subst hg
    refine Or.inr ⟨q, ⟨(({ U with heap := s₂.heap, slotsUsed := s₂.slotsUsed } : State).setVm s₂.vm), Ls ++ L, c0 + mc, s0 + ms⟩,
      ⟨X.admits, X.cas, X.clock, X.frames, X.room, X.hears, X.method, X.code, (X.here.setHeapUsed s₂.heap s₂.slotsUsed).setVm hW'.alike, X.tail, State.WarmedH.trans X.warmed hW', X.limits, X.bytes, X.same.trans (hsame.setVm s.vm)⟩,
      ⟨g, mk, s₂, L, E, ce, rfl, rfl, hx, hce, hcv, hcl, rfl, hL, rfl, rfl⟩, ?_⟩
    show Steps p.tables e below _ (((({ U with heap := s₂.heap, slotsUsed := s₂.slotsUsed } : State).setVm s₂.vm).setTop g).pushFrame (.throwing q))
    rw [← hs₂]
    exact hsteps
end Payer
section Calls
variable {p : Program} {l : Launch} {e : Env} {R : Room} {s : State} {m : MethodId} {args : Array Value} {below : List Frame} {meth : Method} {c : Code} {T : State} {locs : List Loc} {cells slots : Nat}
theorem vx_callV (X : Stand p l e R s m args below meth c T locs cells slots) (hexec : p.tables.exec = Jvm.exec) {own C : String} {index : Nat} {y : MethodName} {bytes : ByteArray} {maxL : Nat} {ret : Option FieldType}
    (hown : s.vm.findClass own = some m.cls) (hlink : (Cond.methodLink own index y).before args s = true) (hinst : (Cond.instanceMethod y).before args s = true) (hsel : (Cond.selects C y y).before args s = true)
    (hcode : (Cond.code y bytes maxL ret).before args s = true) (hy : y.cls ≠ "java/lang/invoke/MethodHandle" ∧ y.cls ≠ "java/lang/invoke/VarHandle")
    {W9 : Nat} {Pre : Pt → Array Value → Prop} {Post : Pt → Array Value → Option Value → Pt → Prop} {PostX : Pt → Array Value → Addr → Pt → Prop} (hK : vx_Back l R p e below s args y 3 W9 Pre Post PostX)
    {b : Addr} {cellB : Cell} (hcell : T.heap[b]? = some cellB) (hobj : cellB.vm.isStatics = false) (hcls : s.vm.findClass C = some cellB.cls)
    {g : JFrame} (hg : g.method = m) (hsize : g.locals.size = c.maxLocals) {argsL rest : List Value} (hlen : ∀ sig, parseMethodDescriptor y.desc = some sig → argsL.length = sig.parameters.length)
    (hstack : g.stack = argsL.reverse ++ .ref b :: rest) (hW : 2 * g.monitorRoom + (rest.map fun v => v.category).sum ≤ W9) (hdg : decode c.code g.pc = .ok (.invokevirtual index, 3))
    (hpre : ∀ vm₁, s.WarmedH vm₁ → Pre ⟨T.setVm vm₁, locs, cells, slots⟩ (Value.ref b :: argsL).toArray) :
    (∃ (v : Option Value) (vm₁ : Vm) (B : Pt), s.WarmedH vm₁ ∧ Stand p l e R s m args below meth c B.U B.locs B.cells B.slots ∧ Post ⟨T.setVm vm₁, locs, cells, slots⟩ (Value.ref b :: argsL).toArray v B ∧
      ∀ target, Steps p.tables e below (B.U.setTop { g with pc := g.pc + 3, stack := v.toList ++ rest }) target → Steps p.tables e below (T.setTop g) target) ∨
    (∃ (q : Addr) (vm₁ : Vm) (B : Pt), s.WarmedH vm₁ ∧ Stand p l e R s m args below meth c B.U B.locs B.cells B.slots ∧ PostX ⟨T.setVm vm₁, locs, cells, slots⟩ (Value.ref b :: argsL).toArray q B ∧
      Steps p.tables e below (T.setTop g) ((B.U.setTop { g with stack := rest }).pushFrame (.throwing q))) := by
  obtain ⟨mk, methM, hnamed, hmethM, hstM, habM⟩ := Cond.instanceMethod_spec hinst
  obtain ⟨methM', cM, hmethM', -, -, -, -, -, -, hsigM⟩ := Cond.code_spec hnamed hcode
  cases hmethM.symm.trans hmethM'
  obtain ⟨c2, r2, m2, q1, q2, q3, q4, kP, hkP, hkPi⟩ := Cond.selects_spec hsel
  cases hcls.symm.trans q1
  cases (State.methodFound?_of_named hnamed hy).symm.trans q2
  cases hnamed.symm.trans q3
  have hselP : selectMethod e.platform s.vm cellB.cls mk = .method mk := by rw [Launch.admits_selectMethod X.admits]; exact q4
  obtain ⟨vm₁, X₁, hstep₁⟩ := X.invokevirtual hexec hown hlink hnamed hmethM hstM hkP hkPi hy (a := b) (cell := cellB) hcell
    (fun z h => by rw [h] at hobj; cases hobj) hselP hmethM habM hkP hkPi (g := g) hg (argsL := argsL) (rest := rest) (hlen _ hsigM) hstack hdg
  rcases hK m meth c ⟨T.setVm vm₁, locs, cells, slots⟩ { g with stack := rest } (.invokevirtual index) mk (Value.ref b :: argsL).toArray X₁ hg hsize hdg hW (X₁.named hnamed) (hpre vm₁ X₁.warmed) with ⟨v, B, X', hpost, hsteps⟩ | ⟨q, B, X', hpost, hsteps⟩
  · exact Or.inl ⟨v, vm₁, B, X₁.warmed, X', hpost, fun target h => hstep₁ _ fun acts => by rw [doInvoke_state]; exact hsteps.trans h⟩
  · exact Or.inr ⟨q, vm₁, B, X₁.warmed, X', hpost, hstep₁ _ fun acts => by rw [doInvoke_state]; exact hsteps⟩
theorem vx_callS (X : Stand p l e R s m args below meth c T locs cells slots) (hexec : p.tables.exec = Jvm.exec) {own : String} {index : Nat} {y : MethodName} {bytes : ByteArray} {maxL : Nat} {ret : Option FieldType}
    (hown : s.vm.findClass own = some m.cls) (hlink : (Cond.methodLink own index y).before args s = true) (hstat : (Cond.static y).before args s = true) (hinit : (Cond.initialized y.cls).before args s = true)
    (hcode : (Cond.code y bytes maxL ret).before args s = true) (hy : y.cls ≠ "java/lang/invoke/MethodHandle" ∧ y.cls ≠ "java/lang/invoke/VarHandle")
    {W9 : Nat} {Pre : Pt → Array Value → Prop} {Post : Pt → Array Value → Option Value → Pt → Prop} {PostX : Pt → Array Value → Addr → Pt → Prop} (hK : vx_Back l R p e below s args y 3 W9 Pre Post PostX)
    {g : JFrame} (hg : g.method = m) (hsize : g.locals.size = c.maxLocals) {argsL rest : List Value} (hlen : ∀ sig, parseMethodDescriptor y.desc = some sig → argsL.length = sig.parameters.length)
    (hstack : g.stack = argsL.reverse ++ rest) (hW : 2 * g.monitorRoom + (rest.map fun v => v.category).sum ≤ W9) (hdg : decode c.code g.pc = .ok (.invokestatic index, 3))
    (hpre : ∀ vm₁, s.WarmedH vm₁ → Pre ⟨T.setVm vm₁, locs, cells, slots⟩ argsL.toArray) :
    (∃ (v : Option Value) (vm₁ : Vm) (B : Pt), s.WarmedH vm₁ ∧ Stand p l e R s m args below meth c B.U B.locs B.cells B.slots ∧ Post ⟨T.setVm vm₁, locs, cells, slots⟩ argsL.toArray v B ∧
      ∀ target, Steps p.tables e below (B.U.setTop { g with pc := g.pc + 3, stack := v.toList ++ rest }) target → Steps p.tables e below (T.setTop g) target) ∨
    (∃ (q : Addr) (vm₁ : Vm) (B : Pt), s.WarmedH vm₁ ∧ Stand p l e R s m args below meth c B.U B.locs B.cells B.slots ∧ PostX ⟨T.setVm vm₁, locs, cells, slots⟩ argsL.toArray q B ∧
      Steps p.tables e below (T.setTop g) ((B.U.setTop { g with stack := rest }).pushFrame (.throwing q))) := by
  obtain ⟨mk, hnamed⟩ := Cond.code_named hcode
  obtain ⟨methM, cM, hmethM, -, -, -, -, -, -, hsigM⟩ := Cond.code_spec hnamed hcode
  have hstatic : methM.isStatic = true := Cond.static_spec hnamed hmethM hstat
  obtain ⟨kP, hkP, -⟩ := className_of_methodNamed hnamed
  have hinitP : kP.init = .initialized := Cond.initialized_spec (findClass_of_methodNamed hnamed) hkP hinit
  obtain ⟨vm₁, X₁, hstep₁⟩ := X.invokestatic hexec hown hlink hnamed hmethM hstatic hkP hinitP hy (g := g) hg (argsL := argsL) (rest := rest) (hlen _ hsigM) hstack hdg
  rcases hK m meth c ⟨T.setVm vm₁, locs, cells, slots⟩ { g with stack := rest } (.invokestatic index) mk argsL.toArray X₁ hg hsize hdg hW (X₁.named hnamed) (hpre vm₁ X₁.warmed) with ⟨v, B, X', hpost, hsteps⟩ | ⟨q, B, X', hpost, hsteps⟩
  · exact Or.inl ⟨v, vm₁, B, X₁.warmed, X', hpost, fun target h => hstep₁ _ fun acts => by rw [doInvoke_state]; exact hsteps.trans h⟩
  · exact Or.inr ⟨q, vm₁, B, X₁.warmed, X', hpost, hstep₁ _ fun acts => by rw [doInvoke_state]; exact hsteps⟩
end Calls
theorem vx_cls {s : State} {T : State} {vm₁ : Vm} {E : String} {k : ClassId} (hW : s.WarmedH vm₁) (h : (T.setVm vm₁).vm.findClass E = some k) : s.vm.findClass E = some k := by
  have h1 : vm₁.findClass E = some k := h
  rw [hW.alike.findClass] at h1
  exact h1
/-- the method's frame g, with q thrown over it -/
def vx_W (p : Program) (l : Launch) (e : Env) (R : Room) (s : State) (m : MethodId) (args : Array Value) (below : List Frame) (meth : Method) (c : Code) (H : Heap) (locs : List Loc) (cells slots : Nat) (Q : State → Prop) (g : JFrame) (q : Addr) : Prop :=
  ∀ T : State, T.heap = H → Stand p l e R s m args below meth c T locs cells slots → ∃ t, Steps p.tables e below ((T.setTop g).pushFrame (.throwing q)) t ∧ Q t
def vx_Run (p : Program) (l : Launch) (e : Env) (R : Room) (s : State) (m : MethodId) (args : Array Value) (below : List Frame) (meth : Method) (c : Code) (H : Heap) (locs : List Loc) (cells slots mc ms : Nat) (g : JFrame) (rest : List Value) (Qa : State → Outcome → State → Prop) (XC : String → State → State → Prop) (free : Addr → Prop) : Prop :=
  ∀ T : State, T.heap = H → Stand p l e R s m args below meth c T locs cells slots →
    (∃ (v : Option Value) (st₀ t T' : State) (L : List Loc), st₀.heap = H ∧ Stand p l e R s m args below meth c T' (locs ++ L) (cells + mc) (slots + ms) ∧ (∀ q ∈ L, free q.base) ∧ T'.heap = t.heap ∧ T'.vm = t.vm ∧ Qa st₀ (.returned v) t ∧
      Goes p e below T g T' { g with pc := g.pc + 3, stack := v.toList ++ rest }) ∨
    (∃ (q : Addr) (st₀ t T' : State) (L : List Loc) (E : String) (ce : Cell), st₀.heap = H ∧ Stand p l e R s m args below meth c T' (locs ++ L) (cells + mc) (slots + ms) ∧ (∀ z ∈ L, free z.base) ∧ T'.heap = t.heap ∧ T'.vm = t.vm ∧ XC E st₀ t ∧ t.heap[q]? = some ce ∧ ce.vm = .none ∧ s.vm.findClass E = some ce.cls ∧
      Steps p.tables e below (T.setTop g) ((T'.setTop { g with stack := rest }).pushFrame (.throwing q)))
def vx_X {S : Type} (px : S → Prop) (B : String → S → State → Prop) (A : Nat → Prop) : String → State → State → Prop := fun E st t => ∃ u : S, px u ∧ B E u t ∧ va_F A st t
section Runs
variable {p : Program} {l : Launch} {e : Env} {R : Room} {s : State} {m : MethodId} {args : Array Value} {below : List Frame} {meth : Method} {c : Code} {H : Heap} {locs : List Loc} {cells slots : Nat}
variable {y : MethodName} {bytes cc : ByteArray} {maxL nL mc ms n index : Nat} {ret : Option FieldType} {ws : List Cond} {rm : Room} {Pc : Array Value → State → Prop} {Qc : Array Value → State → Outcome → State → Prop} {XC : String → State → State → Prop} {free : Addr → Prop} {Ts : List Cond} {own C : String} {b : Addr} {As rest : List Value} {g : JFrame}
theorem vx_callBack (cb : CallB R s args own index y bytes maxL ret ws rm mc ms n) (hM : vx_Met l y ws rm Pc Qc XC mc ms free) (hbl : FrameBlind Pc) : vx_Back l R p e below s args y 3 8 (PreOf R mc ms Pc) (PostOf Qc mc ms free) (vx_Post XC mc ms free) := by
  obtain ⟨hrc, hrs, hfr, hlo, hws, hcw, -, hini, -⟩ := cb
  exact vx_back (bytes := bytes) (maxL := maxL) (ret := ret) hM hbl hrc hrs hfr hlo hws hcw (fun a' U hW => word_at hW (Or.inl (by first | rfl | simp [Cond.onTables, Cond.keeps, Cond.steady])) hini)
theorem vx_runV (S : CallFix p m c cc nL s args Ts own) (hM : vx_Met l y ws rm Pc Qc XC mc ms free) (cw : CallW R s args own C index y bytes maxL ret ws rm mc ms n) (hp : PreV s H C b Pc As)
    (hg : g.method = m) (hn : As.length = n) (hsize : g.locals.size = nL) (hstack : g.stack = As.reverse ++ .ref b :: rest) (hW : 2 * g.monitorRoom + (rest.map fun v => v.category).sum ≤ 8) (hdg : decode cc g.pc = .ok (.invokevirtual index, 3)) (hf : cells + mc ≤ R.cells ∧ slots + ms ≤ R.slots) :
    vx_Run p l e R s m args below meth c H locs cells slots mc ms g rest (Qc (Value.ref b :: As).toArray) XC free := by
  have hK : vx_Back l R p e below s args y 3 8 (PreOf R mc ms Pc) (PostOf Qc mc ms free) (vx_Post XC mc ms free) := vx_callBack cw.1 hM hp.1
  obtain ⟨⟨-, -, -, -, -, -, hcode, -, hy, hlen, hl⟩, hin, hse⟩ := cw
  obtain ⟨hx, hb, hml, ho, -⟩ := S
  obtain ⟨-, ⟨cellB, hcB, hoB, hclB⟩, hPc⟩ := hp
  intro T hT X
  rcases vx_callV X hx (C := C) (bytes := bytes) (maxL := maxL) (ret := ret) ho hl hin hse hcode hy hK (by rw [hT]; exact hcB) hoB hclB hg (hsize.trans hml.symm) (argsL := As) (rest := rest) (fun sig h => hn.trans (hlen sig h)) hstack hW (by rw [hb]; exact hdg)
    (fun vm₁ hW₁ => ⟨hf.1, hf.2, hPc (T.setVm vm₁) hT hW₁⟩) with ⟨v, vm₁, ⟨U', l2, c2, s2⟩, hW₁, X', ⟨g', mk, t, L, e1, e2, hq, h1, hL, h2, h3⟩, st⟩ | ⟨q, vm₁, ⟨U', l2, c2, s2⟩, hW₁, X', ⟨g', mk, t, L, E, ce, e1, e2, hq, hce, hcv, hcl, h1, hL, h2, h3⟩, st⟩
  · dsimp only [Pt.U, Pt.locs, Pt.cells, Pt.slots] at X' e1 e2 h1 h2 h3 st
    subst h1; subst h2; subst h3
    exact Or.inl ⟨v, (T.setVm vm₁).calling g' mk (Value.ref b :: As).toArray, t, U', L, hT, X', hL, e1, e2, hq, st⟩
  · dsimp only [Pt.U, Pt.locs, Pt.cells, Pt.slots] at X' e1 e2 h1 h2 h3 st hcl
    subst h1; subst h2; subst h3
    exact Or.inr ⟨q, (T.setVm vm₁).calling g' mk (Value.ref b :: As).toArray, t, U', L, E, ce, hT, X', hL, e1, e2, hq, hce, hcv, vx_cls hW₁ hcl, st⟩
theorem vx_runS (S : CallFix p m c cc nL s args Ts own) (hM : vx_Met l y ws rm Pc Qc XC mc ms free) (cw : CallB R s args own index y bytes maxL ret ws rm mc ms n ∧ (Cond.static y).before args s = true) (hp : PreS s H Pc As)
    (hg : g.method = m) (hn : As.length = n) (hsize : g.locals.size = nL) (hstack : g.stack = As.reverse ++ rest) (hW : 2 * g.monitorRoom + (rest.map fun v => v.category).sum ≤ 8) (hdg : decode cc g.pc = .ok (.invokestatic index, 3)) (hf : cells + mc ≤ R.cells ∧ slots + ms ≤ R.slots) :
    vx_Run p l e R s m args below meth c H locs cells slots mc ms g rest (Qc As.toArray) XC free := by
  have hK : vx_Back l R p e below s args y 3 8 (PreOf R mc ms Pc) (PostOf Qc mc ms free) (vx_Post XC mc ms free) := vx_callBack cw.1 hM hp.1
  obtain ⟨⟨-, -, -, -, -, -, hcode, hini, hy, hlen, hl⟩, hstt⟩ := cw
  obtain ⟨hx, hb, hml, ho, -⟩ := S
  intro T hT X
  rcases vx_callS X hx (bytes := bytes) (maxL := maxL) (ret := ret) ho hl hstt hini hcode hy hK hg (hsize.trans hml.symm) (argsL := As) (rest := rest) (fun sig h => hn.trans (hlen sig h)) hstack hW (by rw [hb]; exact hdg)
    (fun vm₁ hW₁ => ⟨hf.1, hf.2, hp.2 (T.setVm vm₁) hT hW₁⟩) with ⟨v, vm₁, ⟨U', l2, c2, s2⟩, hW₁, X', ⟨g', mk, t, L, e1, e2, hq, h1, hL, h2, h3⟩, st⟩ | ⟨q, vm₁, ⟨U', l2, c2, s2⟩, hW₁, X', ⟨g', mk, t, L, E, ce, e1, e2, hq, hce, hcv, hcl, h1, hL, h2, h3⟩, st⟩
  · dsimp only [Pt.U, Pt.locs, Pt.cells, Pt.slots] at X' e1 e2 h1 h2 h3 st
    subst h1; subst h2; subst h3
    exact Or.inl ⟨v, (T.setVm vm₁).calling g' mk As.toArray, t, U', L, hT, X', hL, e1, e2, hq, st⟩
  · dsimp only [Pt.U, Pt.locs, Pt.cells, Pt.slots] at X' e1 e2 h1 h2 h3 st hcl
    subst h1; subst h2; subst h3
    exact Or.inr ⟨q, (T.setVm vm₁).calling g' mk As.toArray, t, U', L, E, ce, hT, X', hL, e1, e2, hq, hce, hcv, vx_cls hW₁ hcl, st⟩
end Runs
section Rows
variable {p : Program} {l : Launch} {e : Env} {R : Room} {s : State} {m : MethodId} {args : Array Value} {below : List Frame} {meth : Method} {c : Code} {H : Heap} {locs : List Loc} {cells slots : Nat} {Q : State → Prop}
variable {mc ms : Nat} {free : Addr → Prop} {A0 A1 : Nat → Prop} {H0 : Heap} {a : Array Value} {pc : Nat} {ls : Array Slot} {st0 rest : List Value}
theorem vx_keep {st₀ t T' : State} {L : List Loc} (h0 : st₀.heap = H) (e1 : T'.heap = t.heap) (hS : va_S A0 H0 H locs) (hA : ∀ q, q < H.size → A1 q → A0 q) (hf : ∀ q, free q → A0 q) (hL : ∀ q ∈ L, free q.base) (hF : va_F A1 st₀ t) :
    H.size ≤ T'.heap.size ∧ (∀ q : Nat, q < H.size → ¬ A1 q → T'.heap[q]? = H[q]?) ∧ va_S A0 H0 T'.heap (locs ++ L) := by
  obtain ⟨hz, hk⟩ := hF
  rw [h0] at hz hk
  exact ⟨by rw [e1]; exact hz, fun q h1 h2 => by rw [e1]; exact hk q h1 h2,
    ⟨Nat.le_trans hS.1 (by rw [e1]; exact hz), fun q h1 h2 => by rw [e1, hk q (Nat.lt_of_lt_of_le h1 hS.1) (fun z => h2 (hA q (Nat.lt_of_lt_of_le h1 hS.1) z))]; exact hS.2.1 q h1 h2, fun q hq => by
      rcases List.mem_append.mp hq with h | h
      · exact hS.2.2 q h
      · exact hf _ (hL q h)⟩⟩
theorem vx_calli {S SX : Type} {post : Int32 → S → Prop} {px : SX → Prop} {B : S → State → Prop} {BX : String → SX → State → Prop} {AX : Nat → Prop} (hr : vx_Run p l e R s m args below meth c H locs cells slots mc ms (F0 m pc ls st0) rest (va_Qi post B A1 a) (vx_X px BX AX) free) (hS : va_S A0 H0 H locs) (hA : ∀ q, q < H.size → A1 q → A0 q) (hf : ∀ q, free q → A0 q) (hAX : ∀ q, q < H.size → AX q → A0 q)
    (kx : ∀ (E : String) (ce : Cell) (q9 : Addr) (u : SX) (t : State) (H1 : Heap) (locs1 : List Loc), t.heap = H1 → s.vm.Alike t.vm → px u → BX E u t → H.size ≤ H1.size → (∀ q : Nat, q < H.size → ¬ AX q → H1[q]? = H[q]?) → va_S A0 H0 H1 locs1 → H1[q9]? = some ce → ce.vm = .none → s.vm.findClass E = some ce.cls → vx_W p l e R s m args below meth c H1 locs1 (cells + mc) (slots + ms) Q (F0 m pc ls rest) q9)
    (kk : ∀ (r : Int32) (u : S) (t : State) (H1 : Heap) (locs1 : List Loc), t.heap = H1 → s.vm.Alike t.vm → post r u → B u t → H.size ≤ H1.size → (∀ q : Nat, q < H.size → ¬ A1 q → H1[q]? = H[q]?) → va_S A0 H0 H1 locs1 → W p l e R s m args below meth c H1 locs1 (cells + mc) (slots + ms) Q (F0 m (pc + 3) ls (.int r :: rest))) : W p l e R s m args below meth c H locs cells slots Q (F0 m pc ls st0) := by
  intro T hT X
  rcases hr T hT X with ⟨v, st₀, t, T', L, h0, X', hL, e1, e2, ⟨⟨r, u, hv, hp, hb⟩, hF⟩, st⟩ | ⟨q, st₀, t, T', L, E, ce, h0, X', hL, e1, e2, ⟨u, hp, hb, hF⟩, hce, hcv, hcl, st⟩
  · cases hv
    obtain ⟨k1, k2, k3⟩ := vx_keep h0 e1 hS hA hf hL hF
    obtain ⟨t2, a1, b1⟩ := kk r u t T'.heap (locs ++ L) e1.symm (by rw [← e2]; exact X'.warmed.alike) hp hb k1 k2 k3 T' rfl X'
    exact ⟨t2, st t2 a1, b1⟩
  · obtain ⟨k1, k2, k3⟩ := vx_keep h0 e1 hS hAX hf hL hF
    obtain ⟨t2, a1, b1⟩ := kx E ce q u t T'.heap (locs ++ L) e1.symm (by rw [← e2]; exact X'.warmed.alike) hp hb k1 k2 k3 (by rw [e1]; exact hce) hcv hcl T' rfl X'
    exact ⟨t2, st.trans a1, b1⟩
theorem vx_calll {S SX : Type} {post : Int64 → S → Prop} {px : SX → Prop} {B : S → State → Prop} {BX : String → SX → State → Prop} {AX : Nat → Prop} (hr : vx_Run p l e R s m args below meth c H locs cells slots mc ms (F0 m pc ls st0) rest (va_Ql post B A1 a) (vx_X px BX AX) free) (hS : va_S A0 H0 H locs) (hA : ∀ q, q < H.size → A1 q → A0 q) (hf : ∀ q, free q → A0 q) (hAX : ∀ q, q < H.size → AX q → A0 q)
    (kx : ∀ (E : String) (ce : Cell) (q9 : Addr) (u : SX) (t : State) (H1 : Heap) (locs1 : List Loc), t.heap = H1 → s.vm.Alike t.vm → px u → BX E u t → H.size ≤ H1.size → (∀ q : Nat, q < H.size → ¬ AX q → H1[q]? = H[q]?) → va_S A0 H0 H1 locs1 → H1[q9]? = some ce → ce.vm = .none → s.vm.findClass E = some ce.cls → vx_W p l e R s m args below meth c H1 locs1 (cells + mc) (slots + ms) Q (F0 m pc ls rest) q9)
    (kk : ∀ (r : Int64) (u : S) (t : State) (H1 : Heap) (locs1 : List Loc), t.heap = H1 → s.vm.Alike t.vm → post r u → B u t → H.size ≤ H1.size → (∀ q : Nat, q < H.size → ¬ A1 q → H1[q]? = H[q]?) → va_S A0 H0 H1 locs1 → W p l e R s m args below meth c H1 locs1 (cells + mc) (slots + ms) Q (F0 m (pc + 3) ls (.long r :: rest))) : W p l e R s m args below meth c H locs cells slots Q (F0 m pc ls st0) := by
  intro T hT X
  rcases hr T hT X with ⟨v, st₀, t, T', L, h0, X', hL, e1, e2, ⟨⟨r, u, hv, hp, hb⟩, hF⟩, st⟩ | ⟨q, st₀, t, T', L, E, ce, h0, X', hL, e1, e2, ⟨u, hp, hb, hF⟩, hce, hcv, hcl, st⟩
  · cases hv
    obtain ⟨k1, k2, k3⟩ := vx_keep h0 e1 hS hA hf hL hF
    obtain ⟨t2, a1, b1⟩ := kk r u t T'.heap (locs ++ L) e1.symm (by rw [← e2]; exact X'.warmed.alike) hp hb k1 k2 k3 T' rfl X'
    exact ⟨t2, st t2 a1, b1⟩
  · obtain ⟨k1, k2, k3⟩ := vx_keep h0 e1 hS hAX hf hL hF
    obtain ⟨t2, a1, b1⟩ := kx E ce q u t T'.heap (locs ++ L) e1.symm (by rw [← e2]; exact X'.warmed.alike) hp hb k1 k2 k3 (by rw [e1]; exact hce) hcv hcl T' rfl X'
    exact ⟨t2, st.trans a1, b1⟩
theorem vx_callf {S SX : Type} {post : UInt32 → S → Prop} {px : SX → Prop} {B : S → State → Prop} {BX : String → SX → State → Prop} {AX : Nat → Prop} (hr : vx_Run p l e R s m args below meth c H locs cells slots mc ms (F0 m pc ls st0) rest (va_Qf post B A1 a) (vx_X px BX AX) free) (hS : va_S A0 H0 H locs) (hA : ∀ q, q < H.size → A1 q → A0 q) (hf : ∀ q, free q → A0 q) (hAX : ∀ q, q < H.size → AX q → A0 q)
    (kx : ∀ (E : String) (ce : Cell) (q9 : Addr) (u : SX) (t : State) (H1 : Heap) (locs1 : List Loc), t.heap = H1 → s.vm.Alike t.vm → px u → BX E u t → H.size ≤ H1.size → (∀ q : Nat, q < H.size → ¬ AX q → H1[q]? = H[q]?) → va_S A0 H0 H1 locs1 → H1[q9]? = some ce → ce.vm = .none → s.vm.findClass E = some ce.cls → vx_W p l e R s m args below meth c H1 locs1 (cells + mc) (slots + ms) Q (F0 m pc ls rest) q9)
    (kk : ∀ (r : UInt32) (u : S) (t : State) (H1 : Heap) (locs1 : List Loc), t.heap = H1 → s.vm.Alike t.vm → post r u → B u t → H.size ≤ H1.size → (∀ q : Nat, q < H.size → ¬ A1 q → H1[q]? = H[q]?) → va_S A0 H0 H1 locs1 → W p l e R s m args below meth c H1 locs1 (cells + mc) (slots + ms) Q (F0 m (pc + 3) ls (.float r :: rest))) : W p l e R s m args below meth c H locs cells slots Q (F0 m pc ls st0) := by
  intro T hT X
  rcases hr T hT X with ⟨v, st₀, t, T', L, h0, X', hL, e1, e2, ⟨⟨r, u, hv, hp, hb⟩, hF⟩, st⟩ | ⟨q, st₀, t, T', L, E, ce, h0, X', hL, e1, e2, ⟨u, hp, hb, hF⟩, hce, hcv, hcl, st⟩
  · cases hv
    obtain ⟨k1, k2, k3⟩ := vx_keep h0 e1 hS hA hf hL hF
    obtain ⟨t2, a1, b1⟩ := kk r u t T'.heap (locs ++ L) e1.symm (by rw [← e2]; exact X'.warmed.alike) hp hb k1 k2 k3 T' rfl X'
    exact ⟨t2, st t2 a1, b1⟩
  · obtain ⟨k1, k2, k3⟩ := vx_keep h0 e1 hS hAX hf hL hF
    obtain ⟨t2, a1, b1⟩ := kx E ce q u t T'.heap (locs ++ L) e1.symm (by rw [← e2]; exact X'.warmed.alike) hp hb k1 k2 k3 (by rw [e1]; exact hce) hcv hcl T' rfl X'
    exact ⟨t2, st.trans a1, b1⟩
theorem vx_calld {S SX : Type} {post : UInt64 → S → Prop} {px : SX → Prop} {B : S → State → Prop} {BX : String → SX → State → Prop} {AX : Nat → Prop} (hr : vx_Run p l e R s m args below meth c H locs cells slots mc ms (F0 m pc ls st0) rest (va_Qd post B A1 a) (vx_X px BX AX) free) (hS : va_S A0 H0 H locs) (hA : ∀ q, q < H.size → A1 q → A0 q) (hf : ∀ q, free q → A0 q) (hAX : ∀ q, q < H.size → AX q → A0 q)
    (kx : ∀ (E : String) (ce : Cell) (q9 : Addr) (u : SX) (t : State) (H1 : Heap) (locs1 : List Loc), t.heap = H1 → s.vm.Alike t.vm → px u → BX E u t → H.size ≤ H1.size → (∀ q : Nat, q < H.size → ¬ AX q → H1[q]? = H[q]?) → va_S A0 H0 H1 locs1 → H1[q9]? = some ce → ce.vm = .none → s.vm.findClass E = some ce.cls → vx_W p l e R s m args below meth c H1 locs1 (cells + mc) (slots + ms) Q (F0 m pc ls rest) q9)
    (kk : ∀ (r : UInt64) (u : S) (t : State) (H1 : Heap) (locs1 : List Loc), t.heap = H1 → s.vm.Alike t.vm → post r u → B u t → H.size ≤ H1.size → (∀ q : Nat, q < H.size → ¬ A1 q → H1[q]? = H[q]?) → va_S A0 H0 H1 locs1 → W p l e R s m args below meth c H1 locs1 (cells + mc) (slots + ms) Q (F0 m (pc + 3) ls (.double r :: rest))) : W p l e R s m args below meth c H locs cells slots Q (F0 m pc ls st0) := by
  intro T hT X
  rcases hr T hT X with ⟨v, st₀, t, T', L, h0, X', hL, e1, e2, ⟨⟨r, u, hv, hp, hb⟩, hF⟩, st⟩ | ⟨q, st₀, t, T', L, E, ce, h0, X', hL, e1, e2, ⟨u, hp, hb, hF⟩, hce, hcv, hcl, st⟩
  · cases hv
    obtain ⟨k1, k2, k3⟩ := vx_keep h0 e1 hS hA hf hL hF
    obtain ⟨t2, a1, b1⟩ := kk r u t T'.heap (locs ++ L) e1.symm (by rw [← e2]; exact X'.warmed.alike) hp hb k1 k2 k3 T' rfl X'
    exact ⟨t2, st t2 a1, b1⟩
  · obtain ⟨k1, k2, k3⟩ := vx_keep h0 e1 hS hAX hf hL hF
    obtain ⟨t2, a1, b1⟩ := kx E ce q u t T'.heap (locs ++ L) e1.symm (by rw [← e2]; exact X'.warmed.alike) hp hb k1 k2 k3 (by rw [e1]; exact hce) hcv hcl T' rfl X'
    exact ⟨t2, st.trans a1, b1⟩
theorem vx_callv {S SX : Type} {post : S → Prop} {px : SX → Prop} {B : S → State → Prop} {BX : String → SX → State → Prop} {AX : Nat → Prop} (hr : vx_Run p l e R s m args below meth c H locs cells slots mc ms (F0 m pc ls st0) rest (va_Qv post B A1 a) (vx_X px BX AX) free) (hS : va_S A0 H0 H locs) (hA : ∀ q, q < H.size → A1 q → A0 q) (hf : ∀ q, free q → A0 q) (hAX : ∀ q, q < H.size → AX q → A0 q)
    (kx : ∀ (E : String) (ce : Cell) (q9 : Addr) (u : SX) (t : State) (H1 : Heap) (locs1 : List Loc), t.heap = H1 → s.vm.Alike t.vm → px u → BX E u t → H.size ≤ H1.size → (∀ q : Nat, q < H.size → ¬ AX q → H1[q]? = H[q]?) → va_S A0 H0 H1 locs1 → H1[q9]? = some ce → ce.vm = .none → s.vm.findClass E = some ce.cls → vx_W p l e R s m args below meth c H1 locs1 (cells + mc) (slots + ms) Q (F0 m pc ls rest) q9)
    (kk : ∀ (u : S) (t : State) (H1 : Heap) (locs1 : List Loc), t.heap = H1 → s.vm.Alike t.vm → post u → B u t → H.size ≤ H1.size → (∀ q : Nat, q < H.size → ¬ A1 q → H1[q]? = H[q]?) → va_S A0 H0 H1 locs1 → W p l e R s m args below meth c H1 locs1 (cells + mc) (slots + ms) Q (F0 m (pc + 3) ls (rest))) : W p l e R s m args below meth c H locs cells slots Q (F0 m pc ls st0) := by
  intro T hT X
  rcases hr T hT X with ⟨v, st₀, t, T', L, h0, X', hL, e1, e2, ⟨⟨u, hv, hp, hb⟩, hF⟩, st⟩ | ⟨q, st₀, t, T', L, E, ce, h0, X', hL, e1, e2, ⟨u, hp, hb, hF⟩, hce, hcv, hcl, st⟩
  · cases hv
    obtain ⟨k1, k2, k3⟩ := vx_keep h0 e1 hS hA hf hL hF
    obtain ⟨t2, a1, b1⟩ := kk u t T'.heap (locs ++ L) e1.symm (by rw [← e2]; exact X'.warmed.alike) hp hb k1 k2 k3 T' rfl X'
    exact ⟨t2, st t2 a1, b1⟩
  · obtain ⟨k1, k2, k3⟩ := vx_keep h0 e1 hS hAX hf hL hF
    obtain ⟨t2, a1, b1⟩ := kx E ce q u t T'.heap (locs ++ L) e1.symm (by rw [← e2]; exact X'.warmed.alike) hp hb k1 k2 k3 (by rw [e1]; exact hce) hcv hcl T' rfl X'
    exact ⟨t2, st.trans a1, b1⟩
/-- caught by the row x of this method's table; the rows ahead don't take it -/
theorem vx_catch {own name : String} {E : String} {ce : Cell} {q : Addr} (hown : s.vm.findClass own = some m.cls) (pre : List ExceptionTableEntry) (x : ExceptionTableEntry) (suf : List ExceptionTableEntry) (hsplit : c.exceptionTable.toList = pre ++ x :: suf)
    (hpass : ∀ z ∈ pre, covers z pc = false ∨ (z.catchType ≠ 0 ∧ ∃ nm : String, (Cond.classLink own z.catchType nm).before args s = true ∧ va_Nc E nm s)) (hx : covers x pc = true) (h0 : x.catchType ≠ 0)
    (hlink : (Cond.classLink own x.catchType name).before args s = true) (hcast : (Cond.castable E name).before args s = true) (hcell : H[q]? = some ce) (hv : ce.vm = .none) (hcl : s.vm.findClass E = some ce.cls)
    (kk : W p l e R s m args below meth c H locs cells slots Q (F0 m x.handlerPc ls [.ref q])) : vx_W p l e R s m args below meth c H locs cells slots Q (F0 m pc ls rest) q := by
  intro T hT X
  have hpl : e.platform.magicAccessors = ({} : Platform).magicAccessors := by rw [X.admits.platform]
  obtain ⟨c3, c4, hc3, hc4, hasg⟩ := Cond.castable_spec hcast
  cases Option.some.inj (hc3.symm.trans hcl)
  obtain ⟨c5, hc5, hcl5⟩ := Cond.classLink_spec hown hlink e.platform hpl
  cases Option.some.inj (hc4.symm.trans hc5)
  obtain ⟨vm', X', st⟩ := X.thenCaughtThrough q (g := F0 m pc ls rest) rfl (Steps.refl _) (by rw [hT]; exact hcell) (by rw [hv]; rfl) (by obtain ⟨k9, h9, -⟩ := Vm.findClass_spec hcl; exact ⟨k9, h9⟩) pre x suf hsplit
    (fun z hz => by
      rcases hpass z hz with h | ⟨hz0, nm, hl1, hn1⟩
      · exact Or.inl h
      · obtain ⟨c6, hc6, hcl6⟩ := Cond.classLink_spec hown hl1 e.platform hpl
        obtain ⟨a8, b8, h1, h2, h3⟩ := hn1
        cases Option.some.inj (h1.symm.trans hcl)
        cases Option.some.inj (h2.symm.trans hc6)
        exact Or.inr ⟨hz0, _, hcl6, h3⟩) hx (Or.inr ⟨h0, c4, hcl5, hasg⟩)
  obtain ⟨t, a1, b1⟩ := kk (T.setVm vm') hT X'
  exact ⟨t, st.trans a1, b1⟩
end Rows
section Ends
variable {p : Program} {l : Launch} {e : Env} {R : Room} {s : State} {m : MethodId} {args : Array Value} {below : List Frame} {meth : Method} {c : Code} {H : Heap} {locs : List Loc} {cells slots : Nat} {Q : State → Prop}
variable {mc ms : Nat} {free : Addr → Prop} {A0 A1 : Nat → Prop} {H0 : Heap} {a : Array Value} {ls : Array Slot} {st0 rest : List Value}
variable {Qc : Array Value → State → Outcome → State → Prop} {XC : String → State → State → Prop}
/-- what a body that may throw owes at its end -/
def vx_MQ (below : List Frame) (Qc : Array Value → State → Outcome → State → Prop) (XC : String → State → State → Prop) (a : Array Value) (s : State) (mc ms : Nat) (free : Addr → Prop) : State → Prop := fun t =>
  ∃ o, t.status = .running ∧ Ended t below o ∧ vx_Q Qc XC mc ms free a s o t
theorem vx_ret {g : JFrame} {mc ms : Nat} (k : W p l e R s m args below meth c H locs cells slots (MQ below Qc args s mc ms free) g) : W p l e R s m args below meth c H locs cells slots (vx_MQ below Qc XC args s mc ms free) g := by
  intro T hT X
  obtain ⟨t, a1, o, b1, b2, b3, b4⟩ := k T hT X
  exact ⟨t, a1, o, b1, b2, Or.inl ⟨b3, b4⟩⟩
/-- not caught here: it goes on to the caller -/
theorem vx_widen {g : JFrame} {q : Addr} {k n : Nat} (h1 : cells ≤ k) (h2 : slots ≤ n) (kk : vx_W p l e R s m args below meth c H locs k n Q g q) : vx_W p l e R s m args below meth c H locs cells slots Q g q := fun T hT X => kk T hT (stand_widen X h1 h2)
theorem vx_out {pc : Nat} {E : String} {ce : Cell} {q : Addr} {mc ms : Nat} (hout : ∀ x ∈ c.exceptionTable.toList, covers x pc = false) (hlocks : meth.locks = false) (hcell : H[q]? = some ce) (hv : ce.vm = .none) (hcl : s.vm.findClass E = some ce.cls)
    (hx : ∀ t : State, t.heap = H → s.vm.Alike t.vm → XC E s t) (hf : ∀ z ∈ locs, free z.base) (hc : cells ≤ mc) (hs : slots ≤ ms) :
    vx_W p l e R s m args below meth c H locs cells slots (vx_MQ below Qc XC args s mc ms free) (F0 m pc ls rest) q := by
  intro T hT X
  obtain ⟨st1, hrun, hend, hW, hsm⟩ := X.leaveThrown q (g := F0 m pc ls rest) rfl rfl rfl hout hlocks
  have hcell9 : (T.setFrames (.throwing q :: below)).heap[q]? = some ce := by
    show T.heap[q]? = some ce
    rw [hT]; exact hcell
  exact ⟨_, st1, .threw q, hrun, hend, Or.inr ⟨q, rfl, E, ce, locs, hx _ hT hW.alike, hcell9, hv, hcl, hW, hsm.mono hc hs, hf⟩⟩
theorem vx_frame {U : State} {k n : Nat} (h : s.sameButNew ({ U with vm := s.vm } : State) locs k n) : s.heap.size ≤ U.heap.size ∧ ∀ q : Nat, q < s.heap.size → (∀ z ∈ locs, z.base ≠ q) → U.heap[q]? = s.heap[q]? := by
  obtain ⟨-, h2, -, -, -, h6⟩ := h
  refine ⟨h2, fun q hq hz => ?_⟩
  obtain ⟨c9, e1, e2, e3, e4⟩ := h6 q _ (Array.getElem?_eq_getElem hq)
  have hs : c9.slots = (s.heap[q]).slots := Array.ext_getElem? fun i => e4 i fun hm => hz _ hm rfl
  have h9 : c9 = s.heap[q] := by
    rw [hs] at e2
    exact e2
  have e5 : U.heap[q]? = some c9 := e1
  rw [e5, h9, Array.getElem?_eq_getElem hq]
/-- the words of a throw but the four that speak of the heap -/
def vx_no (w : Cond) : Bool := decide (w ≠ .isRef (.static Bundle.tN "UNASSIGNED_STACK" Bundle.steD)) && decide (w ≠ .isRef (.static Bundle.tN "SUPPRESSED_SENTINEL" Bundle.listD)) && decide (w ≠ .laysStatic Bundle.tN "UNASSIGNED_STACK" Bundle.steD) && decide (w ≠ .laysStatic Bundle.tN "SUPPRESSED_SENTINEL" Bundle.listD)
def vx_at0 (own : String) (ic : Nat) (X : String) (names : List String) : List Cond := (Bundle.ownAtoms0 own ic X names).filter vx_no
def vx_atS (own : String) (ic : Nat) (X : String) (names : List String) : List Cond := (Bundle.ownAtoms own ic X names).filter vx_no
/-- a word that the tables alone decide, or a good one -/
def vx_ot (w : Cond) : Bool := w.onTables || goodWord w
theorem vx_ot_at {args a' : Array Value} {s U : State} {w : Cond} (hW : s.WarmedH U.vm) (hvm : s.vm = U.vm) (hg : vx_ot w = true) (h : w.before args s = true) : w.before a' U = true := by
  simp only [vx_ot, Bool.or_eq_true] at hg
  rcases hg with hg | hg
  · exact va_tabs hg hvm h
  · exact word_at hW (good_of_word hg) h
/-- a list's words: the good ones out of the method's own list, the others by premises of their own -/
theorem vx_hat {args : Array Value} {s : State} {L B : List Cond} (h1 : ∀ w ∈ L.filter goodWord, w.before args s = true) (h2 : ∀ w ∈ L.filter (fun w => !goodWord w), w ∈ B) (h3 : ∀ w ∈ B, w.before args s = true) : ∀ w ∈ L, w.before args s = true := by
  intro w hw
  by_cases g : goodWord w = true
  · exact h1 w (List.mem_filter.mpr ⟨hw, g⟩)
  · refine h3 w (h2 w (List.mem_filter.mpr ⟨hw, ?_⟩))
    show (!goodWord w) = true
    cases hgw : goodWord w
    · rfl
    · exact absurd hgw g
theorem vx_c {args : Array Value} {s : State} {w : Cond} {B : List Cond} (h : w.before args s = true) (t : ∀ w ∈ B, w.before args s = true) : ∀ w' ∈ w :: B, w'.before args s = true := fun w' h' => (List.mem_cons.mp h').elim (fun e => by rw [e]; exact h) (t w')
theorem vx_n {args : Array Value} {s : State} : ∀ w ∈ ([] : List Cond), w.before args s = true := fun _ h => nomatch h
theorem vx_own {args : Array Value} {s : State} {L : List Cond} (h1 : ∀ w ∈ L.filter vx_no, w.before args s = true)
    (hU : (Cond.isRef (.static Bundle.tN "UNASSIGNED_STACK" Bundle.steD)).before args s = true) (hN : (Cond.isRef (.static Bundle.tN "SUPPRESSED_SENTINEL" Bundle.listD)).before args s = true)
    (lU : (Cond.laysStatic Bundle.tN "UNASSIGNED_STACK" Bundle.steD).before args s = true) (lN : (Cond.laysStatic Bundle.tN "SUPPRESSED_SENTINEL" Bundle.listD).before args s = true) : ∀ w ∈ L, w.before args s = true := by
  intro w hw
  by_cases e1 : w = .isRef (.static Bundle.tN "UNASSIGNED_STACK" Bundle.steD)
  · rw [e1]; exact hU
  · by_cases e2 : w = .isRef (.static Bundle.tN "SUPPRESSED_SENTINEL" Bundle.listD)
    · rw [e2]; exact hN
    · by_cases e3 : w = .laysStatic Bundle.tN "UNASSIGNED_STACK" Bundle.steD
      · rw [e3]; exact lU
      · by_cases e4 : w = .laysStatic Bundle.tN "SUPPRESSED_SENTINEL" Bundle.listD
        · rw [e4]; exact lN
        · exact h1 w (List.mem_filter.mpr ⟨hw, by unfold vx_no; rw [decide_eq_true e1, decide_eq_true e2, decide_eq_true e3, decide_eq_true e4]; rfl⟩)
/-- where a static field lies, its class's statics cell in H -/
def vx_L (C n d : String) (A : Nat → Prop) (U : State) (H : Heap) : Prop := ∃ (c : ClassId) (k : Class) (i : Nat) (f : Field) (a : Nat) (cell : Cell), U.vm.findClass C = some c ∧ U.fieldFound? C n d = some (c, k, i, f) ∧ f.isStatic = true ∧ k.statics = some a ∧ H[a]? = some cell ∧ cell.vm.isStatics = true ∧ cell.cls = c ∧ f.slot < cell.slots.size ∧ k.staticTypes[f.slot]? = some f.type ∧ ¬ A a
theorem vx_L.moved {C n d : String} {A : Nat → Prop} {u U : State} {H : Heap} (hvm : u.vm.Alike U.vm) (h : vx_L C n d A u H) : vx_L C n d A U H := by
  obtain ⟨c, k, i, f, a, cell, h1, h2, h3, h4, h5, h6, h7, h8, h9, h10⟩ := h
  obtain ⟨k', hi', he⟩ := State.fieldFound?_setVm hvm h2
  exact ⟨c, k', i, f, a, cell, by rw [hvm.findClass]; exact h1, hi', h3, by rw [he]; exact h4, h5, h6, h7, h8, by rw [he]; exact h9, h10⟩
theorem vx_L.kept {C n d : String} {A : Nat → Prop} {U : State} {H H1 : Heap} (h : vx_L C n d A U H) (hq : ∀ a : Nat, a < H.size → ¬ A a → H1[a]? = H[a]?) : vx_L C n d A U H1 := by
  obtain ⟨c, k, i, f, a, cell, h1, h2, h3, h4, h5, h6, h7, h8, h9, h10⟩ := h
  exact ⟨c, k, i, f, a, cell, h1, h2, h3, h4, by rw [hq a (Array.getElem?_eq_some_iff.mp h5).1 h10]; exact h5, h6, h7, h8, h9, h10⟩
theorem vx_L.narrow {C n d : String} {A B : Nat → Prop} {U : State} {H : Heap} (h : vx_L C n d A U H) (hAB : ∀ q, B q → A q) : vx_L C n d B U H := by
  obtain ⟨c, k, i, f, a, cell, h1, h2, h3, h4, h5, h6, h7, h8, h9, h10⟩ := h
  exact ⟨c, k, i, f, a, cell, h1, h2, h3, h4, h5, h6, h7, h8, h9, fun z => h10 (hAB _ z)⟩
theorem vx_L.word {C n d : String} {A : Nat → Prop} {s : State} {args : Array Value} (h : vx_L C n d A s s.heap) : (Cond.laysStatic C n d).before args s = true := by
  obtain ⟨c, k, i, f, a, cell, h1, h2, h3, h4, h5, h6, h7, h8, h9, -⟩ := h
  show (Cond.laysStatic C n d).holds args s none s [] = true
  exact Cond.laysStatic_of h1 h2 h3 h4 h5 h6 h7 h8 h9
/-- .. and what it holds: null or some reference -/
def vx_Zq (C n d : String) (A : Nat → Prop) (U : State) (H : Heap) : Prop := va_Zq C n d A U H ∧ vx_L C n d A U H
theorem vx_Zq.moved {C n d : String} {A : Nat → Prop} {u U : State} {H : Heap} (hvm : u.vm.Alike U.vm) (h : vx_Zq C n d A u H) : vx_Zq C n d A U H := ⟨va_Zq.moved hvm h.1, vx_L.moved hvm h.2⟩
theorem vx_Zq.kept {C n d : String} {A : Nat → Prop} {U : State} {H H1 : Heap} (h : vx_Zq C n d A U H) (hq : ∀ a : Nat, a < H.size → ¬ A a → H1[a]? = H[a]?) : vx_Zq C n d A U H1 := ⟨va_Zq.kept h.1 hq, vx_L.kept h.2 hq⟩
theorem vx_Zq.narrow {C n d : String} {A B : Nat → Prop} {U : State} {H : Heap} (h : vx_Zq C n d A U H) (hAB : ∀ q, B q → A q) : vx_Zq C n d B U H := ⟨va_Zq.narrow h.1 hAB, vx_L.narrow h.2 hAB⟩
theorem vx_Zqof {args : Array Value} {s : State} {C n d : String} {A : Nat → Prop} (hl : (Cond.laysStatic C n d).before args s = true) (hini : (Cond.initialized C).before args s = true) (h : (Cond.isRef (.static C n d)).before args s = true) (hA : ∀ a : Nat, a < s.heap.size → ¬ A a) : vx_Zq C n d A s s.heap := by
  refine ⟨va_Zqof hl hini h hA, ?_⟩
  obtain ⟨c, k, i, f, a, cell, h1, h2, h3, h4, h5, h6, h7, h8, h9⟩ := Cond.laysStatic_spec hl
  exact ⟨c, k, i, f, a, cell, h1, h2, h3, h4, h5, h6, h7, h8, h9, hA a (Array.getElem?_eq_some_iff.mp h5).1⟩
theorem vx_isRef {C n d : String} {v : Value} {A : Nat → Prop} {s : State} {args : Array Value} (h : va_Z C n d v A s s.heap) (hv : v.isRef = true) : (Cond.isRef (.static C n d)).before args s = true := by
  obtain ⟨cf, kf, fi, f, a, cell, h1, h2, h3, h4, h5, h6, h7, -⟩ := h
  have he : (Term.static C n d).eval args s none [] s = some v := by
    simp [Term.eval, State.fieldNamed?, h1, h2, h4, h5, h6, h7]
  simp only [Cond.before, Cond.holds, Cond.value, he]
  cases v <;> simp_all [Value.isRef]
theorem vx_isRefq {C n d : String} {A : Nat → Prop} {s : State} {args : Array Value} (h : va_Zq C n d A s s.heap) : (Cond.isRef (.static C n d)).before args s = true := by
  rcases h with h | ⟨t, h⟩
  · exact vx_isRef h rfl
  · exact vx_isRef h rfl
/-- the same frame, seen from here: as if the method were called anew in this heap -/
theorem vx_rebase {T : State} (X : Stand p l e R s m args below meth c T locs cells slots) {R' : Room} (hf : R'.frames ≤ R.frames) (hl : R'.locals ≤ R.locals) (hc : cells + R'.cells ≤ R.cells) (hs : slots + R'.slots ≤ R.slots) :
    Stand p l e R' ((T.setVm s.vm).setFrames (.invoking m args :: below)) m args below meth c T [] 0 0 := by
  have htop : (T.setVm s.vm).topJava?.isSome := X.here.top
  have hF : ((T.setVm s.vm).setFrames (.invoking m args :: below)).frames = .invoking m args :: below := State.frames_setFrames _ (State.cur_lt_of_top htop)
  obtain ⟨g₀, hg0⟩ := Option.isSome_iff_exists.mp htop
  obtain ⟨r, hr⟩ := State.topJava?_eq_some.mp hg0
  have hl9 : e.platform.stackLimits (T.setVm s.vm).me = e.platform.stackLimits s.me := X.limits
  have hb9 : (T.setVm s.vm).me.stackBytes = s.me.stackBytes := X.bytes
  refine ⟨X.admits, X.cas, X.clock, hF, ?_, X.hears, X.method, X.code, X.here, X.tail, X.warmed, ?_, ?_, ?_⟩
  · have h := X.room
    have hU : ((T.setVm s.vm).setFrames (.invoking m args :: below)).localsInUse = s.localsInUse := by
      rw [State.localsInUse_invoking hF (meth := meth) (c := c) X.method X.code, State.localsInUse_invoking X.frames X.method X.code]
    simp only [State.hasRoom, Bool.and_eq_true, decide_eq_true_eq] at h ⊢
    obtain ⟨⟨⟨⟨h1, h2, h3, h4, h5, h6⟩, h7⟩, h8⟩, h9⟩ := h
    rw [X.frames, List.length_cons] at h2 h3
    have q1 := X.heapSize
    have q2 := X.used
    simp only [hF, hU, List.length_cons, State.stackLimits_setFrames, State.stackBytes_setFrames, hl9, hb9]
    refine ⟨⟨⟨⟨by omega, by omega, by omega, by omega, by omega, h6⟩, ?_⟩, ?_⟩, X.book⟩
    · show T.heap.size + R'.cells ≤ e.platform.maxCells
      omega
    · show T.slotsUsed + R'.slots ≤ e.platform.maxSlots
      omega
  · rw [State.stackLimits_setFrames]; rfl
  · rw [State.stackBytes_setFrames]; rfl
  · refine ⟨?_, Nat.le_refl _, Nat.le_refl _, ?_, ?_, fun a c9 h9 => ⟨c9, h9, rfl, rfl, fun _ _ => rfl⟩⟩
    · obtain ⟨t, ht, -⟩ := State.frames_cons hr
      show T.setVm s.vm = { ((T.setVm s.vm).setFrames (.invoking m args :: below)).setFrames (T.setVm s.vm).frames with heap := T.heap, slotsUsed := T.slotsUsed }
      rw [State.setFrames_setFrames, State.setFrames_self ht]
      rfl
    · show T.slotsUsed = T.slotsUsed + ((T.heap.toList.drop T.heap.size).map (·.slots.size)).sum
      rw [List.drop_eq_nil_of_le (Nat.le_of_eq Array.length_toList)]
      rfl
    · show ((T.heap.toList.drop T.heap.size).map (·.slots.size)).sum ≤ 0
      rw [List.drop_eq_nil_of_le (Nat.le_of_eq Array.length_toList)]
      exact Nat.le_refl _
/-- 'throw new E()': new; dup; invokespecial; athrow -/
theorem vx_throw0 {cc : ByteArray} {pc : Nat} (hexec : p.tables.exec = Jvm.exec) (hb : c.code = cc) (hl : l.stackTraces = false) {own cls : String} {names : List String} {ik ic mc ms : Nat} {A : Nat → Prop}
    (hown : s.vm.findClass own = some m.cls) (hcls : Bundle.fit cls = true) (hnames : ∀ n ∈ names, Bundle.fit n = true)
    (hk : (Cond.classLink own ik cls).before args s = true) (hini : (Cond.initialized cls).before args s = true) (hat : ∀ w ∈ vx_at0 own ic cls names, w.before args s = true)
    (hgood : ∀ w ∈ Cond.classLink own ik cls :: Cond.initialized cls :: vx_at0 own ic cls names, vx_ot w = true)
    (hU : vx_Zq Bundle.tN "UNASSIGNED_STACK" Bundle.steD A s s.heap) (hN : vx_Zq Bundle.tN "SUPPRESSED_SENTINEL" Bundle.listD A s s.heap) (hS : va_S A s.heap H locs) (hsize : ls.size = c.maxLocals)
    (d0 : decode cc pc = .ok (.new ik, 3)) (d3 : decode cc (pc + 3) = .ok (.dup, 1)) (d4 : decode cc (pc + 4) = .ok (.invokespecial ic, 3)) (d7 : decode cc (pc + 7) = .ok (.athrow, 1))
    (hout : ∀ x ∈ c.exceptionTable.toList, covers x (pc + 7) = false)
    (hRframes : names.length + 3 < R.frames) (hRlocals : (rest.map fun v => v.category).sum + (13 * (names.length + 1) + 42) ≤ R.locals) (hRcells : cells + 1 ≤ R.cells) (hRslots : slots + 6 ≤ R.slots) (hlocks : meth.locks = false)
    (hx : ∀ t : State, s.vm.Alike t.vm → H.size ≤ t.heap.size → (∀ q : Nat, q < H.size → t.heap[q]? = H[q]?) → XC cls s t)
    (hf : ∀ z ∈ locs, free z.base) (hc : cells + 1 ≤ mc) (hs : slots + 6 ≤ ms) :
    W p l e R s m args below meth c H locs cells slots (vx_MQ below Qc XC args s mc ms free) (F0 m pc ls rest) := by
  intro T hT X
  have htr : e.platform.stackTraces = false := (show e.platform.stackTraces = l.stackTraces by rw [X.admits.platform]).trans hl
  have Y := vx_rebase X (R' := { frames := R.frames, locals := R.locals, cells := 1, slots := 6 }) (Nat.le_refl _) (Nat.le_refl _) hRcells hRslots
  obtain ⟨s', hA⟩ : ∃ z, z = (T.setVm s.vm).setFrames (.invoking m args :: below) := ⟨_, rfl⟩
  rw [← hA] at Y
  have hvm : s'.vm = s.vm := by rw [hA]; rfl
  have hhp : s'.heap = H := by rw [hA]; exact hT
  have hW0 : s.WarmedH s'.vm := by rw [hvm]; exact State.WarmedH.refl s
  have hat' : ∀ w ∈ vx_at0 own ic cls names, w.before args s' = true := fun w hw => vx_ot_at hW0 hvm.symm (hgood w (List.mem_cons_of_mem _ (List.mem_cons_of_mem _ hw))) (hat w hw)
  have hk' : (Cond.classLink own ik cls).before args s' = true := vx_ot_at hW0 hvm.symm (hgood _ List.mem_cons_self) hk
  have hini' : (Cond.initialized cls).before args s' = true := vx_ot_at hW0 hvm.symm (hgood _ (List.mem_cons_of_mem _ List.mem_cons_self)) hini
  have hU' : vx_Zq Bundle.tN "UNASSIGNED_STACK" Bundle.steD A s' s'.heap := by rw [hhp]; exact vx_Zq.moved hW0.alike (hU.kept hS.2.1)
  have hN' : vx_Zq Bundle.tN "SUPPRESSED_SENTINEL" Bundle.listD A s' s'.heap := by rw [hhp]; exact vx_Zq.moved hW0.alike (hN.kept hS.2.1)
  have h : ∀ w ∈ Bundle.ownAtoms0 own ic cls names, w.before args s' = true := vx_own hat' (vx_isRefq hU'.1) (vx_isRefq hN'.1) hU'.2.word hN'.2.word
  have hown' : s'.vm.findClass own = some m.cls := by rw [hvm]; exact hown
  have hins : (Cond.instantiable cls 6).before args s' = true := h _ (by simp [Bundle.ownAtoms0])
  obtain ⟨vm₁, cX, kX, hfX, hkX, -, -, X₁, st1⟩ := Y.newCold hexec (own := own) (C := cls) (index := ik) (n := 6) hown' hk' hins hini'
    (g := F0 m pc ls rest) rfl (by rw [hb]; exact d0) (Nat.le_refl _) (Nat.le_refl _)
  generalize hT1 : (T.setVm vm₁).pushCell { cls := cX, slots := kX.instanceTypes.map defaultValue, vm := .none } = T1 at X₁ st1
  have hcat : (Value.ref T.heap.size).category = 1 := rfl
  have hcellA : T1.heap[T.heap.size]? = some (freshCell cX kX) := by rw [← hT1]; exact State.heap_pushCell_size _ _
  have d3' : decode c.code (pc + 3) = .ok (.dup, 1) := by rw [hb]; exact d3
  obtain ⟨U, hsteps, hrun, hend, hW, hsame, ce, hce, hO⟩ := X₁.ctorThrow0 hexec htr (own := own) (cls := cls) (names := names) (ic := ic) hown' hcls hnames h (fun x hx => nomatch hx) hfX hkX hcellA (by rw [hhp, hT]; exact Nat.le_refl _)
    (g := { method := m, pc := pc + 4, locals := ls, stack := .ref T.heap.size :: .ref T.heap.size :: rest, locked := none }) rfl hsize rfl rfl (rest := rest) rfl
    (by rw [hb]; exact d4) (by rw [hb]; exact d7) hout hRframes (by simp only [List.map_cons, List.sum_cons, hcat]; omega) hlocks
  obtain ⟨f1, f2⟩ := vx_frame hsame
  rw [hhp] at f1 f2
  have hWs : s.WarmedH U.vm := State.WarmedH.trans hW0 hW
  have hcl : s.vm.findClass cls = some ce.cls := by
    have h9 := hO.cls
    rw [hvm] at h9
    exact h9
  have hall : s.sameButNew ({ U with vm := s.vm } : State) locs mc ms := by
    subst hA
    obtain ⟨e1, e2⟩ := hsame
    rw [State.setFrames_setFrames] at e1
    have h2 : (T.setVm s.vm).sameButNew ({ U with vm := s.vm } : State) [] (0 + 1) (0 + 6) := ⟨e1, e2⟩
    have h3 := X.same.trans h2
    rw [List.append_nil] at h3
    exact h3.mono hc hs
  refine ⟨U, ?_, .threw T.heap.size, hrun, hend, Or.inr ⟨T.heap.size, rfl, cls, ce, locs, hx U hWs.alike f1 (fun q hq => f2 q hq (fun z hz => nomatch hz)), hce, hO.vm, hcl, hWs, hall, hf⟩⟩
  refine st1 _ ?_
  show Steps p.tables e below (T1.setTop { method := m, pc := pc + 3, locals := ls, stack := .ref T.heap.size :: rest, locked := none }) _
  jvm_step X₁.here [X₁.here.top, hexec, d3', Value.category]
  exact hsteps
/-- 'throw new E("text")': new; dup; ldc; invokespecial; athrow -/
theorem vx_throwS {cc : ByteArray} {pc : Nat} (hexec : p.tables.exec = Jvm.exec) (hb : c.code = cc) (hl : l.stackTraces = false) {own cls text : String} {names : List String} {ik is ic mc ms sa : Nat} {A : Nat → Prop}
    (hown : s.vm.findClass own = some m.cls) (hcls : Bundle.fit cls = true) (hnames : ∀ n ∈ names, Bundle.fit n = true)
    (hk : (Cond.classLink own ik cls).before args s = true) (hini : (Cond.initialized cls).before args s = true) (hstr : vk_R own is text sa s) (hat : ∀ w ∈ vx_atS own ic cls names, w.before args s = true)
    (hgood : ∀ w ∈ Cond.classLink own ik cls :: Cond.initialized cls :: vx_atS own ic cls names, vx_ot w = true)
    (hU : vx_Zq Bundle.tN "UNASSIGNED_STACK" Bundle.steD A s s.heap) (hN : vx_Zq Bundle.tN "SUPPRESSED_SENTINEL" Bundle.listD A s s.heap) (hS : va_S A s.heap H locs) (hsize : ls.size = c.maxLocals)
    (d0 : decode cc pc = .ok (.new ik, 3)) (d3 : decode cc (pc + 3) = .ok (.dup, 1)) (d4 : decode cc (pc + 4) = .ok (.ldc is, 2)) (d6 : decode cc (pc + 6) = .ok (.invokespecial ic, 3)) (d9 : decode cc (pc + 9) = .ok (.athrow, 1))
    (hout : ∀ x ∈ c.exceptionTable.toList, covers x (pc + 9) = false)
    (hRframes : names.length + 3 < R.frames) (hRlocals : (rest.map fun v => v.category).sum + (13 * (names.length + 1) + 43) ≤ R.locals) (hRcells : cells + 1 ≤ R.cells) (hRslots : slots + 6 ≤ R.slots) (hlocks : meth.locks = false)
    (hx : ∀ t : State, s.vm.Alike t.vm → H.size ≤ t.heap.size → (∀ q : Nat, q < H.size → t.heap[q]? = H[q]?) → XC cls s t)
    (hf : ∀ z ∈ locs, free z.base) (hc : cells + 1 ≤ mc) (hs : slots + 6 ≤ ms) :
    W p l e R s m args below meth c H locs cells slots (vx_MQ below Qc XC args s mc ms free) (F0 m pc ls rest) := by
  intro T hT X
  have htr : e.platform.stackTraces = false := (show e.platform.stackTraces = l.stackTraces by rw [X.admits.platform]).trans hl
  have Y := vx_rebase X (R' := { frames := R.frames, locals := R.locals, cells := 1, slots := 6 }) (Nat.le_refl _) (Nat.le_refl _) hRcells hRslots
  obtain ⟨s', hA⟩ : ∃ z, z = (T.setVm s.vm).setFrames (.invoking m args :: below) := ⟨_, rfl⟩
  rw [← hA] at Y
  have hvm : s'.vm = s.vm := by rw [hA]; rfl
  have hhp : s'.heap = H := by rw [hA]; exact hT
  have hW0 : s.WarmedH s'.vm := by rw [hvm]; exact State.WarmedH.refl s
  have hat' : ∀ w ∈ vx_atS own ic cls names, w.before args s' = true := fun w hw => vx_ot_at hW0 hvm.symm (hgood w (List.mem_cons_of_mem _ (List.mem_cons_of_mem _ hw))) (hat w hw)
  have hk' : (Cond.classLink own ik cls).before args s' = true := vx_ot_at hW0 hvm.symm (hgood _ List.mem_cons_self) hk
  have hini' : (Cond.initialized cls).before args s' = true := vx_ot_at hW0 hvm.symm (hgood _ (List.mem_cons_of_mem _ List.mem_cons_self)) hini
  have hU' : vx_Zq Bundle.tN "UNASSIGNED_STACK" Bundle.steD A s' s'.heap := by rw [hhp]; exact vx_Zq.moved hW0.alike (hU.kept hS.2.1)
  have hN' : vx_Zq Bundle.tN "SUPPRESSED_SENTINEL" Bundle.listD A s' s'.heap := by rw [hhp]; exact vx_Zq.moved hW0.alike (hN.kept hS.2.1)
  have h : ∀ w ∈ Bundle.ownAtoms own ic cls names, w.before args s' = true := vx_own hat' (vx_isRefq hU'.1) (vx_isRefq hN'.1) hU'.2.word hN'.2.word
  have hown' : s'.vm.findClass own = some m.cls := by rw [hvm]; exact hown
  have hins : (Cond.instantiable cls 6).before args s' = true := h _ (by simp [Bundle.ownAtoms])
  obtain ⟨vm₁, cX, kX, hfX, hkX, -, -, X₁, st1⟩ := Y.newCold hexec (own := own) (C := cls) (index := ik) (n := 6) hown' hk' hins hini'
    (g := F0 m pc ls rest) rfl (by rw [hb]; exact d0) (Nat.le_refl _) (Nat.le_refl _)
  generalize hT1 : (T.setVm vm₁).pushCell { cls := cX, slots := kX.instanceTypes.map defaultValue, vm := .none } = T1 at X₁ st1
  have hcat : (Value.ref T.heap.size).category = 1 := rfl
  have hcellA : T1.heap[T.heap.size]? = some (freshCell cX kX) := by rw [← hT1]; exact State.heap_pushCell_size _ _
  have d3' : decode c.code (pc + 3) = .ok (.dup, 1) := by rw [hb]; exact d3
  have d4' : decode c.code (pc + 4) = .ok (.ldc is, 2) := by rw [hb]; exact d4
  have hstr' : vk_R own is text sa s' := vk_R.warm hW0 hstr
  obtain ⟨U, hsteps, hrun, hend, hW, hsame, ce, hce, hO⟩ := X₁.ctorThrowS hexec htr (own := own) (cls := cls) (names := names) (ic := ic) hown' hcls hnames h (fun x hx => nomatch hx) hfX hkX hcellA (by rw [hhp, hT]; exact Nat.le_refl _) (msg := .ref sa) rfl
    (g := { method := m, pc := pc + 6, locals := ls, stack := .ref sa :: .ref T.heap.size :: .ref T.heap.size :: rest, locked := none }) rfl hsize rfl rfl (rest := rest) rfl
    (by rw [hb]; exact d6) (by rw [hb]; exact d9) hout hRframes (by simp only [List.map_cons, List.sum_cons, hcat]; omega) hlocks
  obtain ⟨f1, f2⟩ := vx_frame hsame
  rw [hhp] at f1 f2
  have hWs : s.WarmedH U.vm := State.WarmedH.trans hW0 hW
  have hcl : s.vm.findClass cls = some ce.cls := by
    have h9 := hO.cls
    rw [hvm] at h9
    exact h9
  have hall : s.sameButNew ({ U with vm := s.vm } : State) locs mc ms := by
    subst hA
    obtain ⟨e1, e2⟩ := hsame
    rw [State.setFrames_setFrames] at e1
    have h2 : (T.setVm s.vm).sameButNew ({ U with vm := s.vm } : State) [] (0 + 1) (0 + 6) := ⟨e1, e2⟩
    have h3 := X.same.trans h2
    rw [List.append_nil] at h3
    exact h3.mono hc hs
  refine ⟨U, ?_, .threw T.heap.size, hrun, hend, Or.inr ⟨T.heap.size, rfl, cls, ce, locs, hx U hWs.alike f1 (fun q hq => f2 q hq (fun z hz => nomatch hz)), hce, hO.vm, hcl, hWs, hall, hf⟩⟩
  refine st1 _ ?_
  show Steps p.tables e below (T1.setTop { method := m, pc := pc + 3, locals := ls, stack := .ref T.heap.size :: rest, locked := none }) _
  jvm_step X₁.here [X₁.here.top, hexec, d3', Value.category]
  exact X₁.ldcString hexec (own := own) (text := text) (index := is) (a := sa) hown' hstr'.1 hstr'.2
    (g := { method := m, pc := pc + 4, locals := ls, stack := .ref T.heap.size :: .ref T.heap.size :: rest, locked := none }) rfl d4' _ hsteps
/-- 'throw new E("text")', the text by a wide index -/
theorem vx_throwSW {cc : ByteArray} {pc : Nat} (hexec : p.tables.exec = Jvm.exec) (hb : c.code = cc) (hl : l.stackTraces = false) {own cls text : String} {names : List String} {ik is ic mc ms sa : Nat} {A : Nat → Prop}
    (hown : s.vm.findClass own = some m.cls) (hcls : Bundle.fit cls = true) (hnames : ∀ n ∈ names, Bundle.fit n = true)
    (hk : (Cond.classLink own ik cls).before args s = true) (hini : (Cond.initialized cls).before args s = true) (hstr : vk_R own is text sa s) (hat : ∀ w ∈ vx_atS own ic cls names, w.before args s = true)
    (hgood : ∀ w ∈ Cond.classLink own ik cls :: Cond.initialized cls :: vx_atS own ic cls names, vx_ot w = true)
    (hU : vx_Zq Bundle.tN "UNASSIGNED_STACK" Bundle.steD A s s.heap) (hN : vx_Zq Bundle.tN "SUPPRESSED_SENTINEL" Bundle.listD A s s.heap) (hS : va_S A s.heap H locs) (hsize : ls.size = c.maxLocals)
    (d0 : decode cc pc = .ok (.new ik, 3)) (d3 : decode cc (pc + 3) = .ok (.dup, 1)) (d4 : decode cc (pc + 4) = .ok (.ldc_w is, 3)) (d7 : decode cc (pc + 7) = .ok (.invokespecial ic, 3)) (d10 : decode cc (pc + 10) = .ok (.athrow, 1))
    (hout : ∀ x ∈ c.exceptionTable.toList, covers x (pc + 10) = false)
    (hRframes : names.length + 3 < R.frames) (hRlocals : (rest.map fun v => v.category).sum + (13 * (names.length + 1) + 43) ≤ R.locals) (hRcells : cells + 1 ≤ R.cells) (hRslots : slots + 6 ≤ R.slots) (hlocks : meth.locks = false)
    (hx : ∀ t : State, s.vm.Alike t.vm → H.size ≤ t.heap.size → (∀ q : Nat, q < H.size → t.heap[q]? = H[q]?) → XC cls s t)
    (hf : ∀ z ∈ locs, free z.base) (hc : cells + 1 ≤ mc) (hs : slots + 6 ≤ ms) :
    W p l e R s m args below meth c H locs cells slots (vx_MQ below Qc XC args s mc ms free) (F0 m pc ls rest) := by
  intro T hT X
  have htr : e.platform.stackTraces = false := (show e.platform.stackTraces = l.stackTraces by rw [X.admits.platform]).trans hl
  have Y := vx_rebase X (R' := { frames := R.frames, locals := R.locals, cells := 1, slots := 6 }) (Nat.le_refl _) (Nat.le_refl _) hRcells hRslots
  obtain ⟨s', hA⟩ : ∃ z, z = (T.setVm s.vm).setFrames (.invoking m args :: below) := ⟨_, rfl⟩
  rw [← hA] at Y
  have hvm : s'.vm = s.vm := by rw [hA]; rfl
  have hhp : s'.heap = H := by rw [hA]; exact hT
  have hW0 : s.WarmedH s'.vm := by rw [hvm]; exact State.WarmedH.refl s
  have hat' : ∀ w ∈ vx_atS own ic cls names, w.before args s' = true := fun w hw => vx_ot_at hW0 hvm.symm (hgood w (List.mem_cons_of_mem _ (List.mem_cons_of_mem _ hw))) (hat w hw)
  have hk' : (Cond.classLink own ik cls).before args s' = true := vx_ot_at hW0 hvm.symm (hgood _ List.mem_cons_self) hk
  have hini' : (Cond.initialized cls).before args s' = true := vx_ot_at hW0 hvm.symm (hgood _ (List.mem_cons_of_mem _ List.mem_cons_self)) hini
  have hU' : vx_Zq Bundle.tN "UNASSIGNED_STACK" Bundle.steD A s' s'.heap := by rw [hhp]; exact vx_Zq.moved hW0.alike (hU.kept hS.2.1)
  have hN' : vx_Zq Bundle.tN "SUPPRESSED_SENTINEL" Bundle.listD A s' s'.heap := by rw [hhp]; exact vx_Zq.moved hW0.alike (hN.kept hS.2.1)
  have h : ∀ w ∈ Bundle.ownAtoms own ic cls names, w.before args s' = true := vx_own hat' (vx_isRefq hU'.1) (vx_isRefq hN'.1) hU'.2.word hN'.2.word
  have hown' : s'.vm.findClass own = some m.cls := by rw [hvm]; exact hown
  have hins : (Cond.instantiable cls 6).before args s' = true := h _ (by simp [Bundle.ownAtoms])
  obtain ⟨vm₁, cX, kX, hfX, hkX, -, -, X₁, st1⟩ := Y.newCold hexec (own := own) (C := cls) (index := ik) (n := 6) hown' hk' hins hini'
    (g := F0 m pc ls rest) rfl (by rw [hb]; exact d0) (Nat.le_refl _) (Nat.le_refl _)
  generalize hT1 : (T.setVm vm₁).pushCell { cls := cX, slots := kX.instanceTypes.map defaultValue, vm := .none } = T1 at X₁ st1
  have hcat : (Value.ref T.heap.size).category = 1 := rfl
  have hcellA : T1.heap[T.heap.size]? = some (freshCell cX kX) := by rw [← hT1]; exact State.heap_pushCell_size _ _
  have d3' : decode c.code (pc + 3) = .ok (.dup, 1) := by rw [hb]; exact d3
  have d4' : decode c.code (pc + 4) = .ok (.ldc_w is, 3) := by rw [hb]; exact d4
  have hstr' : vk_R own is text sa s' := vk_R.warm hW0 hstr
  obtain ⟨U, hsteps, hrun, hend, hW, hsame, ce, hce, hO⟩ := X₁.ctorThrowS hexec htr (own := own) (cls := cls) (names := names) (ic := ic) hown' hcls hnames h (fun x hx => nomatch hx) hfX hkX hcellA (by rw [hhp, hT]; exact Nat.le_refl _) (msg := .ref sa) rfl
    (g := { method := m, pc := pc + 7, locals := ls, stack := .ref sa :: .ref T.heap.size :: .ref T.heap.size :: rest, locked := none }) rfl hsize rfl rfl (rest := rest) rfl
    (by rw [hb]; exact d7) (by rw [hb]; exact d10) hout hRframes (by simp only [List.map_cons, List.sum_cons, hcat]; omega) hlocks
  obtain ⟨f1, f2⟩ := vx_frame hsame
  rw [hhp] at f1 f2
  have hWs : s.WarmedH U.vm := State.WarmedH.trans hW0 hW
  have hcl : s.vm.findClass cls = some ce.cls := by
    have h9 := hO.cls
    rw [hvm] at h9
    exact h9
  have hall : s.sameButNew ({ U with vm := s.vm } : State) locs mc ms := by
    subst hA
    obtain ⟨e1, e2⟩ := hsame
    rw [State.setFrames_setFrames] at e1
    have h2 : (T.setVm s.vm).sameButNew ({ U with vm := s.vm } : State) [] (0 + 1) (0 + 6) := ⟨e1, e2⟩
    have h3 := X.same.trans h2
    rw [List.append_nil] at h3
    exact h3.mono hc hs
  refine ⟨U, ?_, .threw T.heap.size, hrun, hend, Or.inr ⟨T.heap.size, rfl, cls, ce, locs, hx U hWs.alike f1 (fun q hq => f2 q hq (fun z hz => nomatch hz)), hce, hO.vm, hcl, hWs, hall, hf⟩⟩
  refine st1 _ ?_
  show Steps p.tables e below (T1.setTop { method := m, pc := pc + 3, locals := ls, stack := .ref T.heap.size :: rest, locked := none }) _
  jvm_step X₁.here [X₁.here.top, hexec, d3', Value.category]
  exact X₁.ldcStringW hexec (own := own) (text := text) (index := is) (a := sa) hown' hstr'.1 hstr'.2
    (g := { method := m, pc := pc + 4, locals := ls, stack := .ref T.heap.size :: .ref T.heap.size :: rest, locked := none }) rfl d4' _ hsteps
end Ends
section Bodies
variable {l : Launch}
theorem vx_ofW {y : MethodName} {ws ws' : List Cond} {rm : Room} {Pc : Array Value → State → Prop} {Qc : Array Value → State → Outcome → State → Prop} {XC : String → State → State → Prop} {mc ms : Nat} {free : Addr → Prop} {cc : ByteArray} {maxL : Nat} {ret : Option FieldType}
    (hy : plainName y.cls = true) (hw : ws = Cond.code y cc maxL ret :: ws')
    (body : ∀ p e s m args below meth c s₁, BodyLoose p l y (headSpec ws rm) cc maxL ret e s m args below meth c s₁ → c.maxLocals = maxL → (∀ x ∈ c.exceptionTable.toList, False) → Pc args s →
      W p l e (headSpec ws rm).room s m args below meth c s.heap [] 0 0 (vx_MQ below Qc XC args s mc ms free) (entryFrame m args maxL)) : vx_Met l y ws rm Pc Qc XC mc ms free := by
  refine MetFree.of_bodyS (code := cc) (maxLocals := maxL) (ret := ret) hy ?_ ?_
  · intro args s m h hn
    obtain ⟨meth, c, h1, h2, h3, h4, h5, h6, -, -⟩ := Cond.code_spec hn (atoms_spec (ws := ws) h _ (by rw [hw]; exact List.mem_cons_self))
    exact ⟨meth, c, h1, h2, h3, h4, h5, h6⟩
  · intro p e s m args below meth c s₁ B hml hP _
    have hh0 : s₁.heap = s.heap := by rw [B.state]; rfl
    have ht : ∀ x ∈ c.exceptionTable.toList, False := by
      obtain ⟨meth9, c9, h1, h2, -, -, -, -, h7, -⟩ := Cond.code_spec B.named (atoms_spec (ws := ws) B.pre _ (by rw [hw]; exact List.mem_cons_self))
      cases Option.some.inj (h1.symm.trans B.method)
      cases Option.some.inj (h2.symm.trans (Stand.of_body B).code)
      intro x hx
      rw [Array.isEmpty_iff.mp h7] at hx
      cases hx
    obtain ⟨t, a1, o, b1, b2, b3⟩ := body p e s m args below meth c s₁ B hml ht hP s₁ hh0 (Stand.of_body B)
    exact ⟨t, o, a1, b1, b2, b3⟩
/-- the table of a body with handlers -/
theorem vx_table {p : Program} {x y : MethodName} {S : Spec} {cc bytes : ByteArray} {maxL maxL' : Nat} {ret ret' : Option FieldType} {e : Env} {s s₁ : State} {m : MethodId} {args : Array Value} {below : List Frame} {meth : Method} {c : Code} {hh : List (Nat × Nat × Nat × Nat)}
    (B : BodyLoose p l y S cc maxL ret e s m args below meth c s₁) (h : (Cond.codeWith y bytes maxL' ret' hh).before args s = true) : c.exceptionTable.toList = tableOf hh := by
  obtain ⟨m9, meth9, c9, hn9, h1, h2, -, -, h6, -⟩ := Cond.codeWith_spec h
  cases Option.some.inj (hn9.symm.trans B.named)
  cases Option.some.inj (h1.symm.trans B.method)
  cases Option.some.inj (h2.symm.trans (Stand.of_body B).code)
  rw [← h6, table_eq]
end Bodies
end VXA
/-! ===== END ===== -/
/-! ===== BEGIN a static call of a method with an exception table ===== -/
section VXS
variable {p : Program} {l : Launch} {e : Env} {R : Room} {s : State} {m : MethodId} {args : Array Value} {below : List Frame} {meth : Method} {c : Code} {T : State} {H : Heap} {locs : List Loc} {cells slots : Nat}
abbrev vx_CSW (R : Room) (s : State) (args : Array Value) (own : String) (index : Nat) (y : MethodName) (bytes : ByteArray) (maxL : Nat) (ret : Option FieldType) (hh : List (Nat × Nat × Nat × Nat)) (ws : List Cond) (rm : Room) (mc ms n : Nat) : Prop :=
  (rm.cells = mc ∧ rm.slots = ms ∧ rm.frames + 1 ≤ R.frames ∧ 8 + (maxL + 11) + rm.locals ≤ R.locals ∧ (∀ w ∈ ws, ∀ (a' : Array Value) (U : State), s.WarmedH U.vm → w.before a' U = true) ∧ Cond.codeWith y bytes maxL ret hh ∈ ws) ∧
  (Cond.codeWith y bytes maxL ret hh).before args s = true ∧ (Cond.initialized y.cls).before args s = true ∧ (y.cls ≠ "java/lang/invoke/MethodHandle" ∧ y.cls ≠ "java/lang/invoke/VarHandle") ∧
  (∀ sig, parseMethodDescriptor y.desc = some sig → n = sig.parameters.length) ∧ (Cond.methodLink own index y).before args s = true ∧ (Cond.static y).before args s = true
theorem vx_cwSW {own : String} {index maxL mc ms : Nat} {y : MethodName} {bytes : ByteArray} {ret : Option FieldType} {hh : List (Nat × Nat × Nat × Nat)} {Ts ws ws' : List Cond} {rm : Room} (n : Nat) (ht : ∀ w ∈ Ts, w.before args s = true) (hT : GoodIn Ts (va_wsS own index y ws)) (hw : ws = Cond.codeWith y bytes maxL ret hh :: ws') (hrc : rm.cells = mc) (hrs : rm.slots = ms)
    (hd : y.cls ≠ "java/lang/invoke/MethodHandle" ∧ y.cls ≠ "java/lang/invoke/VarHandle" ∧ (parseMethodDescriptor y.desc).map (fun d => d.parameters.length) = some n) (hR : rm.frames + 1 ≤ R.frames ∧ 8 + (maxL + 11) + rm.locals ≤ R.locals) :
    vx_CSW R s args own index y bytes maxL ret hh ws rm mc ms n := by
  have ok : ∀ w ∈ va_wsS own index y ws, w.before args s = true := fun w h => ht w (hT w h).1
  have hG : GoodIn Ts ws := fun w h => hT w (by unfold va_wsS; exact List.mem_append_right _ h)
  have hc : Cond.codeWith y bytes maxL ret hh ∈ ws := by rw [hw]; exact List.mem_cons_self
  refine ⟨⟨hrc, hrs, hR.1, hR.2, pay_in ht hG, hc⟩, ht _ (hG _ hc).1, ok _ (by simp [va_wsS]), ⟨hd.1, hd.2.1⟩, fun sig h => ?_, ok _ (by simp [va_wsS]), ok _ (by simp [va_wsS])⟩
  have h2 := hd.2.2
  rw [h] at h2
  exact (Option.some.inj h2).symm
theorem vx_callSW (X : Stand p l e R s m args below meth c T locs cells slots) (hexec : p.tables.exec = Jvm.exec) {own : String} {index : Nat} {y : MethodName} {bytes : ByteArray} {maxL : Nat} {ret : Option FieldType} {hh : List (Nat × Nat × Nat × Nat)}
    (hown : s.vm.findClass own = some m.cls) (hlink : (Cond.methodLink own index y).before args s = true) (hstat : (Cond.static y).before args s = true) (hinit : (Cond.initialized y.cls).before args s = true)
    (hcode : (Cond.codeWith y bytes maxL ret hh).before args s = true) (hy : y.cls ≠ "java/lang/invoke/MethodHandle" ∧ y.cls ≠ "java/lang/invoke/VarHandle")
    {W9 : Nat} {Pre : Pt → Array Value → Prop} {Post : Pt → Array Value → Option Value → Pt → Prop} (hK : Back l R p e below s args y 3 W9 Pre Post)
    {g : JFrame} (hg : g.method = m) (hsize : g.locals.size = c.maxLocals) {argsL rest : List Value} (hlen : ∀ sig, parseMethodDescriptor y.desc = some sig → argsL.length = sig.parameters.length)
    (hstack : g.stack = argsL.reverse ++ rest) (hW : 2 * g.monitorRoom + (rest.map fun v => v.category).sum ≤ W9) (hdg : decode c.code g.pc = .ok (.invokestatic index, 3))
    (hpre : ∀ vm₁, s.WarmedH vm₁ → Pre ⟨T.setVm vm₁, locs, cells, slots⟩ argsL.toArray) :
    ∃ (v : Option Value) (vm₁ : Vm) (B : Pt), s.WarmedH vm₁ ∧ Stand p l e R s m args below meth c B.U B.locs B.cells B.slots ∧ Post ⟨T.setVm vm₁, locs, cells, slots⟩ argsL.toArray v B ∧
      ∀ target, Steps p.tables e below (B.U.setTop { g with pc := g.pc + 3, stack := v.toList ++ rest }) target → Steps p.tables e below (T.setTop g) target := by
  obtain ⟨mk, methM, cM, hnamed, hmethM, -, -, -, -, -, -, hsigM⟩ := Cond.codeWith_spec hcode
  have hstatic : methM.isStatic = true := Cond.static_spec hnamed hmethM hstat
  obtain ⟨kP, hkP, -⟩ := className_of_methodNamed hnamed
  have hinitP : kP.init = .initialized := Cond.initialized_spec (findClass_of_methodNamed hnamed) hkP hinit
  obtain ⟨vm₁, X₁, hstep₁⟩ := X.invokestatic hexec hown hlink hnamed hmethM hstatic hkP hinitP hy (g := g) hg (argsL := argsL) (rest := rest) (hlen _ hsigM) hstack hdg
  obtain ⟨v, B, X', hpost, hsteps⟩ := hK m meth c ⟨T.setVm vm₁, locs, cells, slots⟩ { g with stack := rest } (.invokestatic index) mk argsL.toArray X₁ hg hsize hdg hW (X₁.named hnamed) (hpre vm₁ X₁.warmed)
  exact ⟨v, vm₁, B, X₁.warmed, X', hpost, fun target h => hstep₁ _ fun acts => by rw [doInvoke_state]; exact hsteps.trans h⟩
theorem vx_runSW {y : MethodName} {bytes cc : ByteArray} {maxL nL mc ms n index : Nat} {ret : Option FieldType} {hh : List (Nat × Nat × Nat × Nat)} {ws : List Cond} {rm : Room} {Pc : Array Value → State → Prop} {Qc : Array Value → State → Outcome → State → Prop} {free : Addr → Prop} {Ts : List Cond} {own : String} {As rest : List Value} {g : JFrame}
    (S : CallFix p m c cc nL s args Ts own) (hM : Met l y ws rm Pc Qc mc ms free) (cw : vx_CSW R s args own index y bytes maxL ret hh ws rm mc ms n) (hp : PreS s H Pc As)
    (hg : g.method = m) (hn : As.length = n) (hsize : g.locals.size = nL) (hstack : g.stack = As.reverse ++ rest) (hW : 2 * g.monitorRoom + (rest.map fun v => v.category).sum ≤ 8) (hdg : decode cc g.pc = .ok (.invokestatic index, 3)) (hf : cells + mc ≤ R.cells ∧ slots + ms ≤ R.slots) :
    va_Run p l e R s m args below meth c H locs cells slots mc ms g rest (Qc As.toArray) (free) := by
  obtain ⟨⟨hrc, hrs, hfr, hlo, hws, hcw⟩, hcode, hini, hy, hlen, hl, hstt⟩ := cw
  have hK : Back l R p e below s args y 3 8 (PreOf R mc ms Pc) (PostOf Qc mc ms free) := va_backW (hh := hh) (bytes := bytes) (maxL := maxL) (ret := ret) hM hp.1 hrc hrs hfr hlo hws hcw (fun a' U hW => word_at hW (Or.inl (by first | rfl | simp [Cond.onTables, Cond.keeps, Cond.steady])) hini)
  obtain ⟨hx, hb, hml, ho, -⟩ := S
  intro T hT X
  obtain ⟨v, vm₁, ⟨U', l2, c2, s2⟩, hW₁, X', ⟨g', mk, t, L, e1, e2, hq, h1, hL, h2, h3⟩, st⟩ := vx_callSW X hx (hh := hh) (bytes := bytes) (maxL := maxL) (ret := ret) ho hl hstt hini hcode hy hK hg (hsize.trans hml.symm) (argsL := As) (rest := rest) (fun sig h => hn.trans (hlen sig h)) hstack hW (by rw [hb]; exact hdg)
    (fun vm₁ hW₁ => ⟨hf.1, hf.2, hp.2 (T.setVm vm₁) hT hW₁⟩)
  dsimp only [Pt.U, Pt.locs, Pt.cells, Pt.slots] at X' e1 e2 h1 h2 h3 st
  subst h1; subst h2; subst h3
  exact ⟨v, (T.setVm vm₁).calling g' mk As.toArray, t, U', L, hT, X', hL, e1, e2, hq, st⟩
/-- not caught here, past rows that name other classes: it goes on to the caller -/
theorem vx_outP {p : Program} {l : Launch} {e : Env} {R : Room} {s : State} {m : MethodId} {args : Array Value} {below : List Frame} {meth : Method} {c : Code} {H : Heap} {locs : List Loc} {cells slots : Nat} {free : Addr → Prop} {ls : Array Slot} {rest : List Value} {Qc : Array Value → State → Outcome → State → Prop} {XC : String → State → State → Prop}
    {pc : Nat} {own E : String} {ce : Cell} {q : Addr} {mc ms : Nat} (hown : s.vm.findClass own = some m.cls) (hlocks : meth.locks = false)
    (hpass : ∀ z ∈ c.exceptionTable.toList, covers z pc = false ∨ (z.catchType ≠ 0 ∧ ∃ nm : String, (Cond.classLink own z.catchType nm).before args s = true ∧ va_Nc E nm s)) (hcell : H[q]? = some ce) (hv : ce.vm = .none) (hcl : s.vm.findClass E = some ce.cls)
    (hx : ∀ t : State, t.heap = H → s.vm.Alike t.vm → XC E s t) (hf : ∀ z ∈ locs, free z.base) (hc : cells ≤ mc) (hs : slots ≤ ms) :
    vx_W p l e R s m args below meth c H locs cells slots (vx_MQ below Qc XC args s mc ms free) (F0 m pc ls rest) q := by
  intro T hT X
  have hpl : e.platform.magicAccessors = ({} : Platform).magicAccessors := by rw [X.admits.platform]
  obtain ⟨vm', hW', X', st⟩ := X.outThrough hlocks q (g := F0 m pc ls rest) rfl rfl rfl (cell := ce) (by rw [hT]; exact hcell) (by rw [hv]; rfl)
    (by obtain ⟨k9, h9, -⟩ := Vm.findClass_spec hcl; exact ⟨k9, h9⟩) (fun z hz => by
      rcases hpass z hz with h | ⟨hz0, nm, hl1, hn1⟩
      · exact Or.inl h
      · obtain ⟨c6, hc6, hcl6⟩ := Cond.classLink_spec hown hl1 e.platform hpl
        obtain ⟨a8, b8, h1, h2, h3⟩ := hn1
        cases Option.some.inj (h1.symm.trans hcl)
        cases Option.some.inj (h2.symm.trans hc6)
        exact Or.inr ⟨hz0, _, hcl6, h3⟩)
  obtain ⟨g₀, hfr⟩ := X'.frames_eq
  have hcell9 : ((T.setVm vm').setFrames (.throwing q :: below)).heap[q]? = some ce := by
    show T.heap[q]? = some ce
    rw [hT]; exact hcell
  have hend : Ended ((T.setVm vm').setFrames (.throwing q :: below)) below (.threw q) := State.frames_setFrames _ (State.cur_lt_of_frames hfr)
  refine ⟨(T.setVm vm').setFrames (.throwing q :: below), ?_, .threw q, X'.here.running, hend, Or.inr ⟨q, rfl, E, ce, locs, hx _ hT (X'.ends _).1.alike, hcell9, hv, hcl, (X'.ends _).1, (X'.ends _).2.mono hc hs, hf⟩⟩
  rw [X.pushThrowing_eq]
  exact st
/-- a thing of a world lies in the heap -/
theorem vx_lt {D : va_G} {cl : List vw_C} {ws : va_W} {H1 : Heap} (h : va_P D cl ws H1) {k : Nat} {q : Nat × va_E} (hk : ws[k]? = some q) : q.1 < H1.size := (h k q hk).lt
end VXS
/-! ===== END ===== -/
/-! ===== BEGIN methods with a table of their own: called by a name, returning or throwing ===== -/
section VXH
/-! vx_backW, vx_callVX, vx_callSX, vx_callVW, vx_runVW, vx_runVX, vx_runSX, vx_ofWH follow the same proofs as their sisters above (Free/Laws.lean, Shelf42/LK1.lean); vx_outP calls Shelf42/NT130.lean (outThrough). -/
section
variable {l : Launch} {R : Room} {p : Program} {e : Env} {below : List Frame} {s : State} {sargs : Array Value} {y : MethodName} {len W9 : Nat}
theorem vx_backW {ws : List Cond} {rm : Room} {Pc : Array Value → State → Prop} {Qc : Array Value → State → Outcome → State → Prop} {XC : String → State → State → Prop} {mc ms : Nat} {free : Addr → Prop} {bytes : ByteArray} {maxL : Nat} {ret : Option FieldType} {hh : List (Nat × Nat × Nat × Nat)}
    (hM : vx_Met l y ws rm Pc Qc XC mc ms free) (hblind : FrameBlind Pc) (hrc : rm.cells = mc) (hrs : rm.slots = ms)
    (hframes : rm.frames + 1 ≤ R.frames) (hlocals : W9 + (maxL + 11) + rm.locals ≤ R.locals)
    (hws : ∀ w ∈ ws, ∀ a' U, s.WarmedH U.vm → w.before a' U = true) (hcode : Cond.codeWith y bytes maxL ret hh ∈ ws) (hinit : ∀ a' U, s.WarmedH U.vm → (Cond.initialized y.cls).before a' U = true) :
    vx_Back l R p e below s sargs y len W9 (PreOf R mc ms Pc) (PostOf Qc mc ms free) (vx_Post XC mc ms free) := by
  intro m meth c A g ig mk a X hg hsize hdg hW hn hp
  have h1 : (headSpec ws rm).pre.before a A.U = true := atoms_intro fun w hw => hws w hw _ _ X.warmed
  have h2 : (Cond.codeWith y bytes maxL ret hh).before a A.U = true := hws _ hcode _ _ X.warmed
  have h3 : (Cond.initialized y.cls).before a A.U = true := hinit _ _ X.warmed
  have h4 : A.cells + (headSpec ws rm).room.cells ≤ R.cells := by rw [show (headSpec ws rm).room.cells = mc from hrc]; exact hp.1
  have h5 : A.slots + (headSpec ws rm).room.slots ≤ R.slots := by rw [show (headSpec ws rm).room.slots = ms from hrs]; exact hp.2.1
  have hPc : Pc a (A.U.calling g mk a) := hblind _ _ _ _ hp.2.2
  obtain ⟨U, Ls, c0, s0⟩ := A
  dsimp only [Pt.U, Pt.locs, Pt.cells, Pt.slots] at h1 h2 h3 h4 h5 X hn hPc ⊢
  obtain ⟨m9, methY, cY, hn9, hmY, hcY, -, hlY, -⟩ := Cond.codeWith_spec h2
  cases Option.some.inj (hn9.symm.trans hn)
  obtain ⟨kY, hkY, -⟩ := className_of_methodNamed hn
  have hinitY : kY.init = .initialized := Cond.initialized_spec (findClass_of_methodNamed hn) hkY h3
  have h : At U g.method c below := by rw [hg]; exact X.here
  have hlocals9 : W9 + (maxL + 11) + (headSpec ws rm).room.locals ≤ R.locals := hlocals
  have happ : (headSpec ws rm).appliesLoose y e.platform (U.calling g mk a) = true :=
    Spec.appliesLoose_calling (g := g) h hdg hn hkY hinitY
      (X.room_calling (g := g) (R' := (headSpec ws rm).room) hsize hmY hcY hframes (by rw [hlY]; omega) h4 h5) h1
  obtain ⟨mid, hmid⟩ := h.above
  have hfr : (U.setTop g).frames = (.java g :: mid) ++ below := by rw [State.frames_setTop' g h.top, hmid]; rfl
  obtain ⟨o, s₂, hsteps, -, hend, hq⟩ := Steps.callFree hM p X.admits X.cas X.clock (acts := []) hfr happ hPc trivial
  have hq' : vx_Q Qc XC mc ms free a (U.calling g mk a) o s₂ := hq
  rw [State.frames_setTop' g h.top] at hend
  obtain ⟨g₀, hg0⟩ := Option.isSome_iff_exists.mp h.top
  obtain ⟨r, hr⟩ := State.topJava?_eq_some.mp hg0
  have hr' : (({ U with heap := s₂.heap, slotsUsed := s₂.slotsUsed } : State).setVm s₂.vm).frames = .java g₀ :: r := hr
  rcases hq' with ⟨hqc, L, hfe, hL⟩ | ⟨q, rfl, E, ce, L, hx, hce, hcv, hcl, hW₂, hsm, hL⟩
  · obtain ⟨⟨v, rfl⟩, hW₂, e2, q2, q3, q4, q5, q6⟩ := id hfe
    have e3 : s₂ = ({ (U.calling g mk a).setFrames s₂.frames with heap := s₂.heap, slotsUsed := s₂.slotsUsed } : State).setVm s₂.vm := by
      have : s₂ = ({ s₂ with vm := (U.calling g mk a).vm } : State).setVm s₂.vm := rfl
      rw [e2] at this
      exact this
    obtain ⟨c₂, i₂, len₂, hc₂, hd₂, hf₂⟩ := hend
    have hW' : U.WarmedH s₂.vm := hW₂
    have hcc : c₂ = c := by
      have h1 : s₂.code? g.method = U.code? g.method := by
        rw [State.code?_eq, State.code?_eq, hW'.alike.method?]
      exact Option.some.inj (hc₂.symm.trans (h1.trans h.code))
    subst hcc
    have hlen : len₂ = len := by rw [hdg] at hd₂; cases hd₂; rfl
    subst hlen
    have hs₂ : s₂ = (({ U with heap := s₂.heap, slotsUsed := s₂.slotsUsed } : State).setVm s₂.vm).setTop { g with pc := g.pc + len₂, stack := v.toList ++ g.stack } := by
      refine e3.trans ?_
      rw [hf₂, State.calling_eq h.top, State.setFrames_setFrames, State.setTop_of_frames _ hr', hr]
      rfl
    have hsame : U.sameButNew ({ U with heap := s₂.heap, slotsUsed := s₂.slotsUsed } : State) L mc ms := by
      refine ⟨?_, q2, q3, q4, q5, q6⟩
      obtain ⟨t, ht, -⟩ := State.frames_cons hr
      show ({ U with heap := s₂.heap, slotsUsed := s₂.slotsUsed } : State) = { U.setFrames U.frames with heap := s₂.heap, slotsUsed := s₂.slotsUsed }
      rw [State.setFrames_self ht]
    subst hg
    refine Or.inl ⟨v, ⟨(({ U with heap := s₂.heap, slotsUsed := s₂.slotsUsed } : State).setVm s₂.vm), Ls ++ L, c0 + mc, s0 + ms⟩,
      ⟨X.admits, X.cas, X.clock, X.frames, X.room, X.hears, X.method, X.code, (X.here.setHeapUsed s₂.heap s₂.slotsUsed).setVm hW'.alike, X.tail, State.WarmedH.trans X.warmed hW', X.limits, X.bytes, X.same.trans (hsame.setVm s.vm)⟩,
      ⟨g, mk, s₂, L, rfl, rfl, hqc, rfl, hL, rfl, rfl⟩, ?_⟩
    show Steps p.tables e below _ ((({ U with heap := s₂.heap, slotsUsed := s₂.slotsUsed } : State).setVm s₂.vm).setTop { g with pc := g.pc + len₂, stack := v.toList ++ g.stack })
    rw [← hs₂]
    exact hsteps
  · obtain ⟨e2, q2, q3, q4, q5, q6⟩ := id hsm
    have e3 : s₂ = ({ (U.calling g mk a).setFrames s₂.frames with heap := s₂.heap, slotsUsed := s₂.slotsUsed } : State).setVm s₂.vm := by
      have : s₂ = ({ s₂ with vm := (U.calling g mk a).vm } : State).setVm s₂.vm := rfl
      rw [e2] at this
      exact this
    have hf₂ : s₂.frames = .throwing q :: .java g :: U.frames.tail := hend
    have hW' : U.WarmedH s₂.vm := hW₂
    have hs₂ : s₂ = ((({ U with heap := s₂.heap, slotsUsed := s₂.slotsUsed } : State).setVm s₂.vm).setTop g).pushFrame (.throwing q) := by
      refine e3.trans ?_
      rw [hf₂, State.calling_eq h.top, State.setFrames_setFrames, State.pushFrame, State.frames_setTop _ hr', State.setTop_of_frames _ hr', State.setFrames_setFrames, hr]
      rfl
    have hsame : U.sameButNew ({ U with heap := s₂.heap, slotsUsed := s₂.slotsUsed } : State) L mc ms := by
      refine ⟨?_, q2, q3, q4, q5, q6⟩
      obtain ⟨t, ht, -⟩ := State.frames_cons hr
      show ({ U with heap := s₂.heap, slotsUsed := s₂.slotsUsed } : State) = { U.setFrames U.frames with heap := s₂.heap, slotsUsed := s₂.slotsUsed }
      rw [State.setFrames_self ht]
    subst hg
    refine Or.inr ⟨q, ⟨(({ U with heap := s₂.heap, slotsUsed := s₂.slotsUsed } : State).setVm s₂.vm), Ls ++ L, c0 + mc, s0 + ms⟩,
      ⟨X.admits, X.cas, X.clock, X.frames, X.room, X.hears, X.method, X.code, (X.here.setHeapUsed s₂.heap s₂.slotsUsed).setVm hW'.alike, X.tail, State.WarmedH.trans X.warmed hW', X.limits, X.bytes, X.same.trans (hsame.setVm s.vm)⟩,
      ⟨g, mk, s₂, L, E, ce, rfl, rfl, hx, hce, hcv, hcl, rfl, hL, rfl, rfl⟩, ?_⟩
    show Steps p.tables e below _ (((({ U with heap := s₂.heap, slotsUsed := s₂.slotsUsed } : State).setVm s₂.vm).setTop g).pushFrame (.throwing q))
    rw [← hs₂]
    exact hsteps
end
variable {p : Program} {l : Launch} {e : Env} {R : Room} {s : State} {m : MethodId} {args : Array Value} {below : List Frame} {meth : Method} {c : Code} {T : State} {H : Heap} {locs : List Loc} {cells slots : Nat}
theorem vx_callVX (X : Stand p l e R s m args below meth c T locs cells slots) (hexec : p.tables.exec = Jvm.exec) {own C : String} {index : Nat} {y : MethodName} {bytes : ByteArray} {maxL : Nat} {ret : Option FieldType} {hh : List (Nat × Nat × Nat × Nat)}
    (hown : s.vm.findClass own = some m.cls) (hlink : (Cond.methodLink own index y).before args s = true) (hinst : (Cond.instanceMethod y).before args s = true) (hsel : (Cond.selects C y y).before args s = true)
    (hcode : (Cond.codeWith y bytes maxL ret hh).before args s = true) (hy : y.cls ≠ "java/lang/invoke/MethodHandle" ∧ y.cls ≠ "java/lang/invoke/VarHandle")
    {W9 : Nat} {Pre : Pt → Array Value → Prop} {Post : Pt → Array Value → Option Value → Pt → Prop} {PostX : Pt → Array Value → Addr → Pt → Prop} (hK : vx_Back l R p e below s args y 3 W9 Pre Post PostX)
    {b : Addr} {cellB : Cell} (hcell : T.heap[b]? = some cellB) (hobj : cellB.vm.isStatics = false) (hcls : s.vm.findClass C = some cellB.cls)
    {g : JFrame} (hg : g.method = m) (hsize : g.locals.size = c.maxLocals) {argsL rest : List Value} (hlen : ∀ sig, parseMethodDescriptor y.desc = some sig → argsL.length = sig.parameters.length)
    (hstack : g.stack = argsL.reverse ++ .ref b :: rest) (hW : 2 * g.monitorRoom + (rest.map fun v => v.category).sum ≤ W9) (hdg : decode c.code g.pc = .ok (.invokevirtual index, 3))
    (hpre : ∀ vm₁, s.WarmedH vm₁ → Pre ⟨T.setVm vm₁, locs, cells, slots⟩ (Value.ref b :: argsL).toArray) :
    (∃ (v : Option Value) (vm₁ : Vm) (B : Pt), s.WarmedH vm₁ ∧ Stand p l e R s m args below meth c B.U B.locs B.cells B.slots ∧ Post ⟨T.setVm vm₁, locs, cells, slots⟩ (Value.ref b :: argsL).toArray v B ∧
      ∀ target, Steps p.tables e below (B.U.setTop { g with pc := g.pc + 3, stack := v.toList ++ rest }) target → Steps p.tables e below (T.setTop g) target) ∨
    (∃ (q : Addr) (vm₁ : Vm) (B : Pt), s.WarmedH vm₁ ∧ Stand p l e R s m args below meth c B.U B.locs B.cells B.slots ∧ PostX ⟨T.setVm vm₁, locs, cells, slots⟩ (Value.ref b :: argsL).toArray q B ∧
      Steps p.tables e below (T.setTop g) ((B.U.setTop { g with stack := rest }).pushFrame (.throwing q))) := by
  obtain ⟨mk, methM, hnamed, hmethM, hstM, habM⟩ := Cond.instanceMethod_spec hinst
  obtain ⟨m8, methM', cM, hn8, hmethM', -, -, -, -, -, -, hsigM⟩ := Cond.codeWith_spec hcode
  cases Option.some.inj (hn8.symm.trans hnamed)
  cases hmethM.symm.trans hmethM'
  obtain ⟨c2, r2, m2, q1, q2, q3, q4, kP, hkP, hkPi⟩ := Cond.selects_spec hsel
  cases hcls.symm.trans q1
  cases (State.methodFound?_of_named hnamed hy).symm.trans q2
  cases hnamed.symm.trans q3
  have hselP : selectMethod e.platform s.vm cellB.cls mk = .method mk := by rw [Launch.admits_selectMethod X.admits]; exact q4
  obtain ⟨vm₁, X₁, hstep₁⟩ := X.invokevirtual hexec hown hlink hnamed hmethM hstM hkP hkPi hy (a := b) (cell := cellB) hcell
    (fun z h => by rw [h] at hobj; cases hobj) hselP hmethM habM hkP hkPi (g := g) hg (argsL := argsL) (rest := rest) (hlen _ hsigM) hstack hdg
  rcases hK m meth c ⟨T.setVm vm₁, locs, cells, slots⟩ { g with stack := rest } (.invokevirtual index) mk (Value.ref b :: argsL).toArray X₁ hg hsize hdg hW (X₁.named hnamed) (hpre vm₁ X₁.warmed) with ⟨v, B, X', hpost, hsteps⟩ | ⟨q, B, X', hpost, hsteps⟩
  · exact Or.inl ⟨v, vm₁, B, X₁.warmed, X', hpost, fun target h => hstep₁ _ fun acts => by rw [doInvoke_state]; exact hsteps.trans h⟩
  · exact Or.inr ⟨q, vm₁, B, X₁.warmed, X', hpost, hstep₁ _ fun acts => by rw [doInvoke_state]; exact hsteps⟩
theorem vx_callSX (X : Stand p l e R s m args below meth c T locs cells slots) (hexec : p.tables.exec = Jvm.exec) {own : String} {index : Nat} {y : MethodName} {bytes : ByteArray} {maxL : Nat} {ret : Option FieldType} {hh : List (Nat × Nat × Nat × Nat)}
    (hown : s.vm.findClass own = some m.cls) (hlink : (Cond.methodLink own index y).before args s = true) (hstat : (Cond.static y).before args s = true) (hinit : (Cond.initialized y.cls).before args s = true)
    (hcode : (Cond.codeWith y bytes maxL ret hh).before args s = true) (hy : y.cls ≠ "java/lang/invoke/MethodHandle" ∧ y.cls ≠ "java/lang/invoke/VarHandle")
    {W9 : Nat} {Pre : Pt → Array Value → Prop} {Post : Pt → Array Value → Option Value → Pt → Prop} {PostX : Pt → Array Value → Addr → Pt → Prop} (hK : vx_Back l R p e below s args y 3 W9 Pre Post PostX)
    {g : JFrame} (hg : g.method = m) (hsize : g.locals.size = c.maxLocals) {argsL rest : List Value} (hlen : ∀ sig, parseMethodDescriptor y.desc = some sig → argsL.length = sig.parameters.length)
    (hstack : g.stack = argsL.reverse ++ rest) (hW : 2 * g.monitorRoom + (rest.map fun v => v.category).sum ≤ W9) (hdg : decode c.code g.pc = .ok (.invokestatic index, 3))
    (hpre : ∀ vm₁, s.WarmedH vm₁ → Pre ⟨T.setVm vm₁, locs, cells, slots⟩ argsL.toArray) :
    (∃ (v : Option Value) (vm₁ : Vm) (B : Pt), s.WarmedH vm₁ ∧ Stand p l e R s m args below meth c B.U B.locs B.cells B.slots ∧ Post ⟨T.setVm vm₁, locs, cells, slots⟩ argsL.toArray v B ∧
      ∀ target, Steps p.tables e below (B.U.setTop { g with pc := g.pc + 3, stack := v.toList ++ rest }) target → Steps p.tables e below (T.setTop g) target) ∨
    (∃ (q : Addr) (vm₁ : Vm) (B : Pt), s.WarmedH vm₁ ∧ Stand p l e R s m args below meth c B.U B.locs B.cells B.slots ∧ PostX ⟨T.setVm vm₁, locs, cells, slots⟩ argsL.toArray q B ∧
      Steps p.tables e below (T.setTop g) ((B.U.setTop { g with stack := rest }).pushFrame (.throwing q))) := by
  obtain ⟨mk, methM, cM, hnamed, hmethM, -, -, -, -, -, -, hsigM⟩ := Cond.codeWith_spec hcode
  have hstatic : methM.isStatic = true := Cond.static_spec hnamed hmethM hstat
  obtain ⟨kP, hkP, -⟩ := className_of_methodNamed hnamed
  have hinitP : kP.init = .initialized := Cond.initialized_spec (findClass_of_methodNamed hnamed) hkP hinit
  obtain ⟨vm₁, X₁, hstep₁⟩ := X.invokestatic hexec hown hlink hnamed hmethM hstatic hkP hinitP hy (g := g) hg (argsL := argsL) (rest := rest) (hlen _ hsigM) hstack hdg
  rcases hK m meth c ⟨T.setVm vm₁, locs, cells, slots⟩ { g with stack := rest } (.invokestatic index) mk argsL.toArray X₁ hg hsize hdg hW (X₁.named hnamed) (hpre vm₁ X₁.warmed) with ⟨v, B, X', hpost, hsteps⟩ | ⟨q, B, X', hpost, hsteps⟩
  · exact Or.inl ⟨v, vm₁, B, X₁.warmed, X', hpost, fun target h => hstep₁ _ fun acts => by rw [doInvoke_state]; exact hsteps.trans h⟩
  · exact Or.inr ⟨q, vm₁, B, X₁.warmed, X', hpost, hstep₁ _ fun acts => by rw [doInvoke_state]; exact hsteps⟩
theorem vx_callVW (X : Stand p l e R s m args below meth c T locs cells slots) (hexec : p.tables.exec = Jvm.exec) {own C : String} {index : Nat} {y : MethodName} {bytes : ByteArray} {maxL : Nat} {ret : Option FieldType} {hh : List (Nat × Nat × Nat × Nat)}
    (hown : s.vm.findClass own = some m.cls) (hlink : (Cond.methodLink own index y).before args s = true) (hinst : (Cond.instanceMethod y).before args s = true) (hsel : (Cond.selects C y y).before args s = true)
    (hcode : (Cond.codeWith y bytes maxL ret hh).before args s = true) (hy : y.cls ≠ "java/lang/invoke/MethodHandle" ∧ y.cls ≠ "java/lang/invoke/VarHandle")
    {W9 : Nat} {Pre : Pt → Array Value → Prop} {Post : Pt → Array Value → Option Value → Pt → Prop} (hK : Back l R p e below s args y 3 W9 Pre Post)
    {b : Addr} {cellB : Cell} (hcell : T.heap[b]? = some cellB) (hobj : cellB.vm.isStatics = false) (hcls : s.vm.findClass C = some cellB.cls)
    {g : JFrame} (hg : g.method = m) (hsize : g.locals.size = c.maxLocals) {argsL rest : List Value} (hlen : ∀ sig, parseMethodDescriptor y.desc = some sig → argsL.length = sig.parameters.length)
    (hstack : g.stack = argsL.reverse ++ .ref b :: rest) (hW : 2 * g.monitorRoom + (rest.map fun v => v.category).sum ≤ W9) (hdg : decode c.code g.pc = .ok (.invokevirtual index, 3))
    (hpre : ∀ vm₁, s.WarmedH vm₁ → Pre ⟨T.setVm vm₁, locs, cells, slots⟩ (Value.ref b :: argsL).toArray) :
    ∃ (v : Option Value) (vm₁ : Vm) (B : Pt), s.WarmedH vm₁ ∧ Stand p l e R s m args below meth c B.U B.locs B.cells B.slots ∧ Post ⟨T.setVm vm₁, locs, cells, slots⟩ (Value.ref b :: argsL).toArray v B ∧
      ∀ target, Steps p.tables e below (B.U.setTop { g with pc := g.pc + 3, stack := v.toList ++ rest }) target → Steps p.tables e below (T.setTop g) target := by
  obtain ⟨mk, methM, hnamed, hmethM, hstM, habM⟩ := Cond.instanceMethod_spec hinst
  obtain ⟨m8, methM', cM, hn8, hmethM', -, -, -, -, -, -, hsigM⟩ := Cond.codeWith_spec hcode
  cases Option.some.inj (hn8.symm.trans hnamed)
  cases hmethM.symm.trans hmethM'
  obtain ⟨c2, r2, m2, q1, q2, q3, q4, kP, hkP, hkPi⟩ := Cond.selects_spec hsel
  cases hcls.symm.trans q1
  cases (State.methodFound?_of_named hnamed hy).symm.trans q2
  cases hnamed.symm.trans q3
  have hselP : selectMethod e.platform s.vm cellB.cls mk = .method mk := by rw [Launch.admits_selectMethod X.admits]; exact q4
  obtain ⟨vm₁, X₁, hstep₁⟩ := X.invokevirtual hexec hown hlink hnamed hmethM hstM hkP hkPi hy (a := b) (cell := cellB) hcell
    (fun z h => by rw [h] at hobj; cases hobj) hselP hmethM habM hkP hkPi (g := g) hg (argsL := argsL) (rest := rest) (hlen _ hsigM) hstack hdg
  obtain ⟨v, B, X', hpost, hsteps⟩ := hK m meth c ⟨T.setVm vm₁, locs, cells, slots⟩ { g with stack := rest } (.invokevirtual index) mk (Value.ref b :: argsL).toArray X₁ hg hsize hdg hW (X₁.named hnamed) (hpre vm₁ X₁.warmed)
  exact ⟨v, vm₁, B, X₁.warmed, X', hpost, fun target h => hstep₁ _ fun acts => by rw [doInvoke_state]; exact hsteps.trans h⟩
abbrev vx_CVW (R : Room) (s : State) (args : Array Value) (own C : String) (index : Nat) (y : MethodName) (bytes : ByteArray) (maxL : Nat) (ret : Option FieldType) (hh : List (Nat × Nat × Nat × Nat)) (ws : List Cond) (rm : Room) (mc ms n : Nat) : Prop :=
  (rm.cells = mc ∧ rm.slots = ms ∧ rm.frames + 1 ≤ R.frames ∧ 8 + (maxL + 11) + rm.locals ≤ R.locals ∧ (∀ w ∈ ws, ∀ (a' : Array Value) (U : State), s.WarmedH U.vm → w.before a' U = true) ∧ Cond.codeWith y bytes maxL ret hh ∈ ws) ∧
  (Cond.codeWith y bytes maxL ret hh).before args s = true ∧ (Cond.initialized y.cls).before args s = true ∧ (y.cls ≠ "java/lang/invoke/MethodHandle" ∧ y.cls ≠ "java/lang/invoke/VarHandle") ∧
  (∀ sig, parseMethodDescriptor y.desc = some sig → n = sig.parameters.length) ∧ (Cond.methodLink own index y).before args s = true ∧ (Cond.instanceMethod y).before args s = true ∧ (Cond.selects C y y).before args s = true
theorem vx_cwVW {own C : String} {index maxL mc ms : Nat} {y : MethodName} {bytes : ByteArray} {ret : Option FieldType} {hh : List (Nat × Nat × Nat × Nat)} {Ts ws ws' : List Cond} {rm : Room} (n : Nat) (ht : ∀ w ∈ Ts, w.before args s = true) (hT : GoodIn Ts (wsV own index C y ws)) (hw : ws = Cond.codeWith y bytes maxL ret hh :: ws') (hrc : rm.cells = mc) (hrs : rm.slots = ms)
    (hd : y.cls = C ∧ y.cls ≠ "java/lang/invoke/MethodHandle" ∧ y.cls ≠ "java/lang/invoke/VarHandle" ∧ (parseMethodDescriptor y.desc).map (fun d => d.parameters.length) = some n) (hR : rm.frames + 1 ≤ R.frames ∧ 8 + (maxL + 11) + rm.locals ≤ R.locals) :
    vx_CVW R s args own C index y bytes maxL ret hh ws rm mc ms n := by
  obtain ⟨hC, hd⟩ := hd
  subst hC
  have ok : ∀ w ∈ wsV own index y.cls y ws, w.before args s = true := fun w h => ht w (hT w h).1
  have hG : GoodIn Ts ws := fun w h => hT w (by unfold wsV; exact List.mem_append_right _ h)
  have hc : Cond.codeWith y bytes maxL ret hh ∈ ws := by rw [hw]; exact List.mem_cons_self
  refine ⟨⟨hrc, hrs, hR.1, hR.2, pay_in ht hG, hc⟩, ht _ (hG _ hc).1, ok _ (by simp [wsV]), ⟨hd.1, hd.2.1⟩, fun sig h => ?_, ok _ (by simp [wsV]), ok _ (by simp [wsV]), ok _ (by simp [wsV])⟩
  have h2 := hd.2.2
  rw [h] at h2
  exact (Option.some.inj h2).symm
theorem vx_runVW {y : MethodName} {bytes cc : ByteArray} {maxL nL mc ms n index : Nat} {ret : Option FieldType} {hh : List (Nat × Nat × Nat × Nat)} {ws : List Cond} {rm : Room} {Pc : Array Value → State → Prop} {Qc : Array Value → State → Outcome → State → Prop} {free : Addr → Prop} {Ts : List Cond} {own C : String} {b : Addr} {As rest : List Value} {g : JFrame}
    (S : CallFix p m c cc nL s args Ts own) (hM : Met l y ws rm Pc Qc mc ms free) (cw : vx_CVW R s args own C index y bytes maxL ret hh ws rm mc ms n) (hp : PreV s H C b Pc As)
    (hg : g.method = m) (hn : As.length = n) (hsize : g.locals.size = nL) (hstack : g.stack = As.reverse ++ .ref b :: rest) (hW : 2 * g.monitorRoom + (rest.map fun v => v.category).sum ≤ 8) (hdg : decode cc g.pc = .ok (.invokevirtual index, 3)) (hf : cells + mc ≤ R.cells ∧ slots + ms ≤ R.slots) :
    va_Run p l e R s m args below meth c H locs cells slots mc ms g rest (Qc (Value.ref b :: As).toArray) free := by
  obtain ⟨⟨hrc, hrs, hfr, hlo, hws, hcw⟩, hcode, hini, hy, hlen, hl, hin, hse⟩ := cw
  have hK : Back l R p e below s args y 3 8 (PreOf R mc ms Pc) (PostOf Qc mc ms free) := va_backW (hh := hh) (bytes := bytes) (maxL := maxL) (ret := ret) hM hp.1 hrc hrs hfr hlo hws hcw (fun a' U hW => word_at hW (Or.inl (by first | rfl | simp [Cond.onTables, Cond.keeps, Cond.steady])) hini)
  obtain ⟨hx, hb, hml, ho, -⟩ := S
  obtain ⟨-, ⟨cellB, hcB, hoB, hclB⟩, hPc⟩ := hp
  intro T hT X
  obtain ⟨v, vm₁, ⟨U', l2, c2, s2⟩, hW₁, X', ⟨g', mk, t, L, e1, e2, hq, h1, hL, h2, h3⟩, st⟩ := vx_callVW X hx (C := C) (hh := hh) (bytes := bytes) (maxL := maxL) (ret := ret) ho hl hin hse hcode hy hK (by rw [hT]; exact hcB) hoB hclB hg (hsize.trans hml.symm) (argsL := As) (rest := rest) (fun sig h => hn.trans (hlen sig h)) hstack hW (by rw [hb]; exact hdg)
    (fun vm₁ hW₁ => ⟨hf.1, hf.2, hPc (T.setVm vm₁) hT hW₁⟩)
  dsimp only [Pt.U, Pt.locs, Pt.cells, Pt.slots] at X' e1 e2 h1 h2 h3 st
  subst h1; subst h2; subst h3
  exact ⟨v, (T.setVm vm₁).calling g' mk (Value.ref b :: As).toArray, t, U', L, hT, X', hL, e1, e2, hq, st⟩
section
variable {y : MethodName} {bytes cc : ByteArray} {maxL nL mc ms n index : Nat} {ret : Option FieldType} {ws : List Cond} {rm : Room} {Pc : Array Value → State → Prop} {Qc : Array Value → State → Outcome → State → Prop} {XC : String → State → State → Prop} {free : Addr → Prop} {Ts : List Cond} {own C : String} {b : Addr} {As rest : List Value} {g : JFrame}
theorem vx_runVX {hh : List (Nat × Nat × Nat × Nat)} (S : CallFix p m c cc nL s args Ts own) (hM : vx_Met l y ws rm Pc Qc XC mc ms free) (cw : vx_CVW R s args own C index y bytes maxL ret hh ws rm mc ms n) (hp : PreV s H C b Pc As)
    (hg : g.method = m) (hn : As.length = n) (hsize : g.locals.size = nL) (hstack : g.stack = As.reverse ++ .ref b :: rest) (hW : 2 * g.monitorRoom + (rest.map fun v => v.category).sum ≤ 8) (hdg : decode cc g.pc = .ok (.invokevirtual index, 3)) (hf : cells + mc ≤ R.cells ∧ slots + ms ≤ R.slots) :
    vx_Run p l e R s m args below meth c H locs cells slots mc ms g rest (Qc (Value.ref b :: As).toArray) XC free := by
  obtain ⟨⟨hrc, hrs, hfr, hlo, hws, hcw⟩, hcode, hini, hy, hlen, hl, hin, hse⟩ := cw
  have hK : vx_Back l R p e below s args y 3 8 (PreOf R mc ms Pc) (PostOf Qc mc ms free) (vx_Post XC mc ms free) := vx_backW (hh := hh) (bytes := bytes) (maxL := maxL) (ret := ret) hM hp.1 hrc hrs hfr hlo hws hcw (fun a' U hW => word_at hW (Or.inl (by first | rfl | simp [Cond.onTables, Cond.keeps, Cond.steady])) hini)
  obtain ⟨hx, hb, hml, ho, -⟩ := S
  obtain ⟨-, ⟨cellB, hcB, hoB, hclB⟩, hPc⟩ := hp
  intro T hT X
  rcases vx_callVX X hx (C := C) (hh := hh) (bytes := bytes) (maxL := maxL) (ret := ret) ho hl hin hse hcode hy hK (by rw [hT]; exact hcB) hoB hclB hg (hsize.trans hml.symm) (argsL := As) (rest := rest) (fun sig h => hn.trans (hlen sig h)) hstack hW (by rw [hb]; exact hdg)
    (fun vm₁ hW₁ => ⟨hf.1, hf.2, hPc (T.setVm vm₁) hT hW₁⟩) with ⟨v, vm₁, ⟨U', l2, c2, s2⟩, hW₁, X', ⟨g', mk, t, L, e1, e2, hq, h1, hL, h2, h3⟩, st⟩ | ⟨q, vm₁, ⟨U', l2, c2, s2⟩, hW₁, X', ⟨g', mk, t, L, E, ce, e1, e2, hq, hce, hcv, hcl, h1, hL, h2, h3⟩, st⟩
  · dsimp only [Pt.U, Pt.locs, Pt.cells, Pt.slots] at X' e1 e2 h1 h2 h3 st
    subst h1; subst h2; subst h3
    exact Or.inl ⟨v, (T.setVm vm₁).calling g' mk (Value.ref b :: As).toArray, t, U', L, hT, X', hL, e1, e2, hq, st⟩
  · dsimp only [Pt.U, Pt.locs, Pt.cells, Pt.slots] at X' e1 e2 h1 h2 h3 st hcl
    subst h1; subst h2; subst h3
    exact Or.inr ⟨q, (T.setVm vm₁).calling g' mk (Value.ref b :: As).toArray, t, U', L, E, ce, hT, X', hL, e1, e2, hq, hce, hcv, vx_cls hW₁ hcl, st⟩
theorem vx_runSX {hh : List (Nat × Nat × Nat × Nat)} (S : CallFix p m c cc nL s args Ts own) (hM : vx_Met l y ws rm Pc Qc XC mc ms free) (cw : vx_CSW R s args own index y bytes maxL ret hh ws rm mc ms n) (hp : PreS s H Pc As)
    (hg : g.method = m) (hn : As.length = n) (hsize : g.locals.size = nL) (hstack : g.stack = As.reverse ++ rest) (hW : 2 * g.monitorRoom + (rest.map fun v => v.category).sum ≤ 8) (hdg : decode cc g.pc = .ok (.invokestatic index, 3)) (hf : cells + mc ≤ R.cells ∧ slots + ms ≤ R.slots) :
    vx_Run p l e R s m args below meth c H locs cells slots mc ms g rest (Qc As.toArray) XC free := by
  obtain ⟨⟨hrc, hrs, hfr, hlo, hws, hcw⟩, hcode, hini, hy, hlen, hl, hstt⟩ := cw
  have hK : vx_Back l R p e below s args y 3 8 (PreOf R mc ms Pc) (PostOf Qc mc ms free) (vx_Post XC mc ms free) := vx_backW (hh := hh) (bytes := bytes) (maxL := maxL) (ret := ret) hM hp.1 hrc hrs hfr hlo hws hcw (fun a' U hW => word_at hW (Or.inl (by first | rfl | simp [Cond.onTables, Cond.keeps, Cond.steady])) hini)
  obtain ⟨hx, hb, hml, ho, -⟩ := S
  intro T hT X
  rcases vx_callSX X hx (hh := hh) (bytes := bytes) (maxL := maxL) (ret := ret) ho hl hstt hini hcode hy hK hg (hsize.trans hml.symm) (argsL := As) (rest := rest) (fun sig h => hn.trans (hlen sig h)) hstack hW (by rw [hb]; exact hdg)
    (fun vm₁ hW₁ => ⟨hf.1, hf.2, hp.2 (T.setVm vm₁) hT hW₁⟩) with ⟨v, vm₁, ⟨U', l2, c2, s2⟩, hW₁, X', ⟨g', mk, t, L, e1, e2, hq, h1, hL, h2, h3⟩, st⟩ | ⟨q, vm₁, ⟨U', l2, c2, s2⟩, hW₁, X', ⟨g', mk, t, L, E, ce, e1, e2, hq, hce, hcv, hcl, h1, hL, h2, h3⟩, st⟩
  · dsimp only [Pt.U, Pt.locs, Pt.cells, Pt.slots] at X' e1 e2 h1 h2 h3 st
    subst h1; subst h2; subst h3
    exact Or.inl ⟨v, (T.setVm vm₁).calling g' mk As.toArray, t, U', L, hT, X', hL, e1, e2, hq, st⟩
  · dsimp only [Pt.U, Pt.locs, Pt.cells, Pt.slots] at X' e1 e2 h1 h2 h3 st hcl
    subst h1; subst h2; subst h3
    exact Or.inr ⟨q, (T.setVm vm₁).calling g' mk As.toArray, t, U', L, E, ce, hT, X', hL, e1, e2, hq, hce, hcv, vx_cls hW₁ hcl, st⟩
end
end VXH
theorem vx_ofWH {l : Launch} {y : MethodName} {ws ws' : List Cond} {rm : Room} {Pc : Array Value → State → Prop} {Qc : Array Value → State → Outcome → State → Prop} {XC : String → State → State → Prop} {mc ms : Nat} {free : Addr → Prop} {cc : ByteArray} {maxL : Nat} {ret : Option FieldType} {hh : List (Nat × Nat × Nat × Nat)}
    (hy : plainName y.cls = true) (hw : ws = Cond.codeWith y cc maxL ret hh :: ws')
    (body : ∀ p e s m args below meth c s₁, BodyLoose p l y (headSpec ws rm) cc maxL ret e s m args below meth c s₁ → c.maxLocals = maxL → Pc args s →
      W p l e (headSpec ws rm).room s m args below meth c s.heap [] 0 0 (vx_MQ below Qc XC args s mc ms free) (entryFrame m args maxL)) : vx_Met l y ws rm Pc Qc XC mc ms free := by
  refine MetFree.of_bodyS (code := cc) (maxLocals := maxL) (ret := ret) hy ?_ ?_
  · intro args s m h hn
    obtain ⟨m9, meth, c, hn9, h1, h2, h3, h4, -, h5, h6, -⟩ := Cond.codeWith_spec (atoms_spec (ws := ws) h _ (by rw [hw]; exact List.mem_cons_self))
    cases hn.symm.trans hn9
    exact ⟨meth, c, h1, h2, h3, h4, h5, h6⟩
  · intro p e s m args below meth c s₁ B hml hP _
    have hh0 : s₁.heap = s.heap := by rw [B.state]; rfl
    obtain ⟨t, a1, o, b1, b2, b3⟩ := body p e s m args below meth c s₁ B hml hP s₁ hh0 (Stand.of_body B)
    exact ⟨t, o, a1, b1, b2, b3⟩
/-! ===== END ===== -/
end
section
/-! an interpreter of the instructions that class, reference and law use, over a heap of plain numbers; what it comes to is proved of the machine in the parts behind -/
/-- a value: an int, a reference (0: null; else the address and one), a long that is an int's -/
abbrev bi_V : Type := Int32 ⊕ (Nat ⊕ Int32)
abbrev bi_L : Type := List (Nat × bi_V)
/-- kinds (tag, length) by address; int fields and reference fields by class, field, address; int arrays' and reference arrays' contents; the next address; cells and slots made -/
abbrev bi_H : Type := (Nat → Nat × Nat) × (Nat → Nat → Nat → Int32) × (Nat → Nat → Nat → Nat) × (Nat → Nat → Int32) × (Nat → Nat → Nat) × Nat × Nat × Nat
def bi_k (h : bi_H) : Nat → Nat × Nat := h.1
def bi_fi (h : bi_H) : Nat → Nat → Nat → Int32 := h.2.1
def bi_fr (h : bi_H) : Nat → Nat → Nat → Nat := h.2.2.1
def bi_ai (h : bi_H) : Nat → Nat → Int32 := h.2.2.2.1
def bi_ar (h : bi_H) : Nat → Nat → Nat := h.2.2.2.2.1
def bi_nx (h : bi_H) : Nat := h.2.2.2.2.2.1
def bi_nc (h : bi_H) : Nat := h.2.2.2.2.2.2.1
def bi_ns (h : bi_H) : Nat := h.2.2.2.2.2.2.2
def bi_sfi (h : bi_H) (c k a : Nat) (v : Int32) : bi_H := (bi_k h, (fun c' k' a' => if c' = c ∧ k' = k ∧ a' = a then v else bi_fi h c' k' a'), bi_fr h, bi_ai h, bi_ar h, bi_nx h, bi_nc h, bi_ns h)
def bi_sfr (h : bi_H) (c k a : Nat) (v : Nat) : bi_H := (bi_k h, bi_fi h, (fun c' k' a' => if c' = c ∧ k' = k ∧ a' = a then v else bi_fr h c' k' a'), bi_ai h, bi_ar h, bi_nx h, bi_nc h, bi_ns h)
def bi_sai (h : bi_H) (a j : Nat) (v : Int32) : bi_H := (bi_k h, bi_fi h, bi_fr h, (fun a' j' => if a' = a ∧ j' = j then v else bi_ai h a' j'), bi_ar h, bi_nx h, bi_nc h, bi_ns h)
def bi_sar (h : bi_H) (a j : Nat) (v : Nat) : bi_H := (bi_k h, bi_fi h, bi_fr h, bi_ai h, (fun a' j' => if a' = a ∧ j' = j then v else bi_ar h a' j'), bi_nx h, bi_nc h, bi_ns h)
/-- a new cell of kind kd, its contents 0, null; s slots -/
def bi_new (h : bi_H) (kd : Nat × Nat) (s : Nat) : bi_H := ((fun a => if a = bi_nx h then kd else bi_k h a), (fun c k a => if a = bi_nx h then 0 else bi_fi h c k a), (fun c k a => if a = bi_nx h then 0 else bi_fr h c k a), (fun a j => if a = bi_nx h then 0 else bi_ai h a j), (fun a j => if a = bi_nx h then 0 else bi_ar h a j), bi_nx h + 1, bi_nc h + 1, bi_ns h + s)
/-- new int[n][m]: the outer array, then its rows -/
def bi_new2 (h : bi_H) (n m : Nat) : bi_H := ((fun a => if a = bi_nx h then (5, n) else if bi_nx h < a ∧ a ≤ bi_nx h + n then (1, m) else bi_k h a), (fun c k a => if bi_nx h ≤ a ∧ a ≤ bi_nx h + n then 0 else bi_fi h c k a), (fun c k a => if bi_nx h ≤ a ∧ a ≤ bi_nx h + n then 0 else bi_fr h c k a), (fun a j => if bi_nx h ≤ a ∧ a ≤ bi_nx h + n then 0 else bi_ai h a j), (fun a j => if a = bi_nx h then (if j < n then bi_nx h + 1 + j else 0) else if bi_nx h < a ∧ a ≤ bi_nx h + n then 0 else bi_ar h a j), bi_nx h + n + 1, bi_nc h + n + 1, bi_ns h + n + n * m)
def bi_st (L : bi_L) (i : Nat) (v : bi_V) : bi_L := (i, v) :: L.filter (fun q => !(q.1 == i))
def bi_w (v : bi_V) : Nat := match v with | .inr (.inr _) => 2 | _ => 1
def bi_ldi (L : bi_L) (i : Nat) (st : List bi_V) (h : bi_H) : Option (bi_L × List bi_V × bi_H) := match L.lookup i with
  | some (.inl x) => some (L, .inl x :: st, h)
  | _ => none
def bi_lda (L : bi_L) (i : Nat) (st : List bi_V) (h : bi_H) : Option (bi_L × List bi_V × bi_H) := match L.lookup i with
  | some (.inr (.inl a)) => some (L, .inr (.inl a) :: st, h)
  | _ => none
def bi_sti (L : bi_L) (i : Nat) (st : List bi_V) (h : bi_H) : Option (bi_L × List bi_V × bi_H) := match st with
  | .inl x :: st => some (bi_st L i (.inl x), st, h)
  | _ => none
def bi_sta (L : bi_L) (i : Nat) (st : List bi_V) (h : bi_H) : Option (bi_L × List bi_V × bi_H) := match st with
  | .inr (.inl a) :: st => some (bi_st L i (.inr (.inl a)), st, h)
  | _ => none
/-- an index within a length -/
def bi_in (j : Int32) (n : Nat) : Prop := ¬ j < 0 ∧ j.toNatClampNeg < n
theorem bi_in_dec (j : Int32) (n : Nat) : bi_in j n ↔ ¬ j < 0 ∧ j.toNatClampNeg < n := Iff.rfl
def bi_op2 (f : Int32 → Int32 → Int32) (L : bi_L) (st : List bi_V) (h : bi_H) : Option (bi_L × List bi_V × bi_H) := match st with
  | .inl y :: .inl x :: st => some (L, .inl (f x y) :: st, h)
  | _ => none
/-- behind a call -/
def bi_ret (L : bi_L) (rest : List bi_V) (o : Option (Option bi_V × bi_H)) : Option (bi_L × List bi_V × bi_H) := match o with
  | some (v, h) => some (L, v.toList ++ rest, h)
  | none => none
def bi_sum (st : List bi_V) : Nat := (st.map bi_w).sum
/-- a call with a receiver of class c -/
def bi_callo (cf : Nat → List bi_V → bi_H → Option (Option bi_V × bi_H)) (mi n c : Nat) (L : bi_L) (st : List bi_V) (h : bi_H) : Option (bi_L × List bi_V × bi_H) := match st.drop n with
  | .inr (.inl a) :: rest => if (bi_k h a).1 = 10 + c ∧ bi_sum rest ≤ 8 ∧ bi_sum (st.take n) = n then bi_ret L rest (cf mi (.inr (.inl a) :: (st.take n).reverse) h) else none
  | _ => none
def bi_calls (cf : Nat → List bi_V → bi_H → Option (Option bi_V × bi_H)) (mi n : Nat) (L : bi_L) (st : List bi_V) (h : bi_H) : Option (bi_L × List bi_V × bi_H) :=
  if n ≤ st.length ∧ bi_sum (st.drop n) ≤ 8 ∧ bi_sum (st.take n) = n then bi_ret L (st.drop n) (cf mi (st.take n).reverse h) else none
abbrev bi_R : Type := Nat × Nat × Nat × Nat
abbrev bi_I : Type := Instr × bi_R
/-- one instruction; r: what its pool entry is -/
def bi_x (cf : Nat → List bi_V → bi_H → Option (Option bi_V × bi_H)) (i : Instr) (r : bi_R) (L : bi_L) (st : List bi_V) (h : bi_H) : Option (bi_L × List bi_V × bi_H) :=
  match i with
  | .iconst n => some (L, .inl (Int32.ofInt n) :: st, h)
  | .bipush n => some (L, .inl (Int32.ofInt n) :: st, h)
  | .sipush n => some (L, .inl (Int32.ofInt n) :: st, h)
  | .ldc _ => some (L, .inl (Int32.ofNat r.1) :: st, h)
  | .ldc_w _ => some (L, .inl (Int32.ofNat r.1) :: st, h)
  | .aconst_null => some (L, .inr (.inl 0) :: st, h)
  | .iload_n n => bi_ldi L n.val st h
  | .iload n => bi_ldi L n st h
  | .aload_n n => bi_lda L n.val st h
  | .aload n => bi_lda L n st h
  | .istore_n n => bi_sti L n.val st h
  | .istore n => bi_sti L n st h
  | .astore_n n => bi_sta L n.val st h
  | .astore n => bi_sta L n st h
  | .iinc n v => (match L.lookup n with
    | some (.inl x) => some (bi_st L n (.inl (x + Int32.ofInt v)), st, h)
    | _ => none)
  | .iadd => bi_op2 (fun x y => x + y) L st h
  | .isub => bi_op2 (fun x y => x - y) L st h
  | .imul => bi_op2 (fun x y => x * y) L st h
  | .iand => bi_op2 (fun x y => x &&& y) L st h
  | .ixor => bi_op2 (fun x y => x ^^^ y) L st h
  | .idiv => (match st with
    | .inl y :: .inl x :: st => if y = 0 then none else some (L, .inl (x / y) :: st, h)
    | _ => none)
  | .irem => (match st with
    | .inl y :: .inl x :: st => if y = 0 then none else some (L, .inl (x - x / y * y) :: st, h)
    | _ => none)
  | .i2l => (match st with
    | .inl x :: st => some (L, .inr (.inr x) :: st, h)
    | _ => none)
  | .lcmp => (match st with
    | .inr (.inr y) :: .inr (.inr x) :: st => some (L, .inl (if y < x then 1 else if x = y then 0 else -1) :: st, h)
    | _ => none)
  | .dup => (match st with
    | v :: st => if bi_w v = 1 then some (L, v :: v :: st, h) else none
    | _ => none)
  | .dup2 => (match st with
    | v :: w :: st => if bi_w v = 1 ∧ bi_w w = 1 then some (L, v :: w :: v :: w :: st, h) else none
    | _ => none)
  | .getfield _ => (match st with
    | .inr (.inl a) :: st => if (bi_k h a).1 = 10 + r.1 then some (L, (if r.2.2.1 = 1 then .inr (.inl (bi_fr h r.1 r.2.1 a)) else .inl (bi_fi h r.1 r.2.1 a)) :: st, h) else none
    | _ => none)
  | .putfield _ => (match st with
    | .inl x :: .inr (.inl a) :: st => if (bi_k h a).1 = 10 + r.1 ∧ (r.2.2.1 = 0 ∨ (r.2.2.1 = 2 ∧ (x = 0 ∨ x = 1))) then some (L, st, bi_sfi h r.1 r.2.1 a x) else none
    | .inr (.inl b) :: .inr (.inl a) :: st => if (bi_k h a).1 = 10 + r.1 ∧ r.2.2.1 = 1 then some (L, st, bi_sfr h r.1 r.2.1 a b) else none
    | _ => none)
  | .iaload => (match st with
    | .inl j :: .inr (.inl a) :: st => if ((bi_k h a).1 = 1 ∨ (bi_k h a).1 = 4) ∧ ¬ j < 0 ∧ j.toNatClampNeg < (bi_k h a).2 then some (L, .inl (bi_ai h a j.toNatClampNeg) :: st, h) else none
    | _ => none)
  | .baload => (match st with
    | .inl j :: .inr (.inl a) :: st => if (bi_k h a).1 = 2 ∧ ¬ j < 0 ∧ j.toNatClampNeg < (bi_k h a).2 then some (L, .inl (bi_ai h a j.toNatClampNeg) :: st, h) else none
    | _ => none)
  | .laload => (match st with
    | .inl j :: .inr (.inl a) :: st => if (bi_k h a).1 = 3 ∧ ¬ j < 0 ∧ j.toNatClampNeg < (bi_k h a).2 then some (L, .inr (.inr (bi_ai h a j.toNatClampNeg)) :: st, h) else none
    | _ => none)
  | .aaload => (match st with
    | .inl j :: .inr (.inl a) :: st => if ((bi_k h a).1 = 5 ∨ (40 ≤ (bi_k h a).1 ∧ (bi_k h a).1 < 53)) ∧ ¬ j < 0 ∧ j.toNatClampNeg < (bi_k h a).2 then some (L, .inr (.inl (bi_ar h a j.toNatClampNeg)) :: st, h) else none
    | _ => none)
  | .iastore => (match st with
    | .inl x :: .inl j :: .inr (.inl a) :: st => if (bi_k h a).1 = 1 ∧ ¬ j < 0 ∧ j.toNatClampNeg < (bi_k h a).2 then some (L, st, bi_sai h a j.toNatClampNeg x) else none
    | _ => none)
  | .bastore => (match st with
    | .inl x :: .inl j :: .inr (.inl a) :: st => if (bi_k h a).1 = 2 ∧ (x = 0 ∨ x = 1) ∧ ¬ j < 0 ∧ j.toNatClampNeg < (bi_k h a).2 then some (L, st, bi_sai h a j.toNatClampNeg x) else none
    | _ => none)
  | .lastore => (match st with
    | .inr (.inr x) :: .inl j :: .inr (.inl a) :: st => if (bi_k h a).1 = 3 ∧ ¬ j < 0 ∧ j.toNatClampNeg < (bi_k h a).2 then some (L, st, bi_sai h a j.toNatClampNeg x) else none
    | _ => none)
  | .aastore => (match st with
    | .inr (.inl b) :: .inl j :: .inr (.inl a) :: st => if (40 ≤ (bi_k h a).1 ∧ (bi_k h a).1 < 53) ∧ (b = 0 ∨ (bi_k h b).1 + 30 = (bi_k h a).1) ∧ ¬ j < 0 ∧ j.toNatClampNeg < (bi_k h a).2 then some (L, st, bi_sar h a j.toNatClampNeg b) else none
    | _ => none)
  | .arraylength => (match st with
    | .inr (.inl a) :: st => if (1 ≤ (bi_k h a).1 ∧ (bi_k h a).1 ≤ 5) ∨ (40 ≤ (bi_k h a).1 ∧ (bi_k h a).1 < 53) then some (L, .inl (Int32.ofNat (bi_k h a).2) :: st, h) else none
    | _ => none)
  | .newarray t => (match st with
    | .inl n :: st => if ¬ n < 0 ∧ n.toNatClampNeg ≤ 1000000 ∧ (t = .int ∨ t = .boolean ∨ t = .long) then some (L, .inr (.inl (bi_nx h)) :: st, bi_new h (if t = .int then 1 else if t = .boolean then 2 else 3, n.toNatClampNeg) n.toNatClampNeg) else none
    | _ => none)
  | .anewarray _ => (match st with
    | .inl n :: st => if ¬ n < 0 ∧ n.toNatClampNeg ≤ 1000000 then some (L, .inr (.inl (bi_nx h)) :: st, bi_new h (40 + r.1, n.toNatClampNeg) n.toNatClampNeg) else none
    | _ => none)
  | .multianewarray _ _ => (match st with
    | .inl m :: .inl n :: st => if ¬ n < 0 ∧ n.toNatClampNeg ≤ 1000 ∧ ¬ m < 0 ∧ m.toNatClampNeg ≤ 100000 then some (L, .inr (.inl (bi_nx h)) :: st, bi_new2 h n.toNatClampNeg m.toNatClampNeg) else none
    | _ => none)
  | .new _ => some (L, .inr (.inl (bi_nx h)) :: st, bi_new h (10 + r.1, 0) r.2.1)
  | .invokestatic _ => bi_calls cf r.1 r.2.1 L st h
  | .invokevirtual _ => bi_callo cf r.1 r.2.1 r.2.2.1 L st h
  | .invokespecial _ => if r.1 = 9999 then (match st with
    | .inr (.inl a) :: st => if (bi_k h a).1 ≠ 0 ∧ bi_sum st ≤ 8 then some (L, st, h) else none
    | _ => none) else bi_callo cf r.1 r.2.1 r.2.2.1 L st h
  | _ => none
def bi_xs (cf : Nat → List bi_V → bi_H → Option (Option bi_V × bi_H)) : List bi_I → bi_L → List bi_V → bi_H → Option (bi_L × List bi_V × bi_H)
  | [], L, st, h => some (L, st, h)
  | i :: is, L, st, h => match bi_x cf i.1 i.2 L st h with
    | none => none
    | some q => bi_xs cf is q.1 q.2.1 q.2.2
/-- a block: where it begins, its instructions, how it ends, where it goes on -/
abbrev bi_K : Type := Nat × List bi_I × bi_I × List Nat
abbrev bi_P : Type := Nat → Nat → Option bi_K
abbrev bi_O : Type := Option bi_V ⊕ Nat
def bi_c (c : ClassFile.Cond) (x y : Int32) : Bool := match c with
  | .eq => decide (x = y)
  | .ne => decide (¬ x = y)
  | .lt => decide (x < y)
  | .ge => decide (y ≤ x)
  | .gt => decide (y < x)
  | .le => decide (x ≤ y)
def bi_loc (as : List bi_V) : bi_L := as.zipIdx.map (fun q => (q.2, q.1))
/-- the end of a block: an answer, or the next block -/
def bi_t (cf : Nat → List bi_V → bi_H → Option (bi_O × bi_H)) (t : bi_I) (bs : List Nat) (L : bi_L) (st : List bi_V) (h : bi_H) : Option ((bi_O × bi_H) ⊕ (Nat × bi_L × List bi_V × bi_H)) :=
  match t.1 with
  | .nop => some (.inr (bs.getD 0 0, L, st, h))
  | .goto _ => some (.inr (bs.getD 0 0, L, st, h))
  | .ifCond c _ => (match st with
    | .inl x :: st => some (.inr (if bi_c c x 0 = true then bs.getD 0 0 else bs.getD 1 0, L, st, h))
    | _ => none)
  | .if_icmp c _ => (match st with
    | .inl y :: .inl x :: st => some (.inr (if bi_c c x y = true then bs.getD 0 0 else bs.getD 1 0, L, st, h))
    | _ => none)
  | .ifnull _ => (match st with
    | .inr (.inl a) :: st => some (.inr (if a = 0 then bs.getD 0 0 else bs.getD 1 0, L, st, h))
    | _ => none)
  | .ifnonnull _ => (match st with
    | .inr (.inl a) :: st => some (.inr (if a = 0 then bs.getD 1 0 else bs.getD 0 0, L, st, h))
    | _ => none)
  | .tableswitch _ lo hi _ => (match st with
    | .inl x :: st => some (.inr (if x.toInt < lo ∨ hi < x.toInt then bs.getD 0 0 else bs.getD ((x.toInt - lo).toNat + 1) 0, L, st, h))
    | _ => none)
  | .ireturn => (match st with
    | [.inl x] => if t.2.1 = 0 ∨ x = 0 ∨ x = 1 then some (.inl (.inl (some (.inl x)), h)) else none
    | _ => none)
  | .areturn => (match st with
    | [.inr (.inl a)] => some (.inl (.inl (some (.inr (.inl a))), h))
    | _ => none)
  | .return_ => (match st with
    | [] => some (.inl (.inl none, h))
    | _ => none)
  | .athrow => (match st with
    | [] => some (.inl (.inr t.2.1, bi_new h (0, 0) 6))
    | _ => none)
  | .invokevirtual _ => (match st.drop t.2.2.1 with
    | .inr (.inl a) :: rest => if (bi_k h a).1 = 10 + t.2.2.2.1 ∧ bi_sum rest ≤ 8 ∧ bi_sum (st.take t.2.2.1) = t.2.2.1 then (match cf t.2.1 (.inr (.inl a) :: (st.take t.2.2.1).reverse) h with
      | some (.inl v, h') => some (.inr (bs.getD 0 0, L, v.toList ++ rest, h'))
      | some (.inr e, h') => if e + 1 < bs.length then some (.inr (bs.getD (e + 1) 0, L.filter (fun q => !(q.1 == t.2.2.2.2)), [], h')) else none
      | none => none) else none
    | _ => none)
  | _ => none
/-- n blocks, calls' blocks among them -/
def bi_run (P : bi_P) : Nat → Nat → Nat → bi_L → List bi_V → bi_H → Option (bi_O × bi_H)
  | 0, _, _, _, _, _ => none
  | n + 1, mi, b, L, st, h => match P mi b with
    | none => none
    | some q => match bi_xs (fun m as h => match bi_run P n m 0 (bi_loc as) [] h with
        | some (.inl v, h') => some (v, h')
        | _ => none) q.2.1 L st h with
      | none => none
      | some z => match bi_t (fun m as h => bi_run P n m 0 (bi_loc as) [] h) q.2.2.1 q.2.2.2 z.1 z.2.1 z.2.2 with
        | none => none
        | some (.inl o) => some o
        | some (.inr w) => bi_run P n mi w.1 w.2.1 w.2.2.1 w.2.2.2
end
section
/-! the interpreter's heap and the machine's: what it is that they agree -/
def bi_tr (a : Nat) : Value := match a with
  | 0 => .null
  | a + 1 => .ref a
def bi_tv (v : bi_V) : Value := match v with
  | .inl x => .int x
  | .inr (.inl a) => bi_tr a
  | .inr (.inr x) => .long x.toInt64
def bi_ft (c k : Nat) : Nat := match vwCl[c]? with
  | some q => if (q.2.1 k).2.2.1 = "I" then 0 else if (q.2.1 k).2.2.1 = "Z" then 2 else 1
  | none => 0
def bi_fv (h : bi_H) (c k a : Nat) : Value := if bi_ft c k = 1 then bi_tr (bi_fr h c k a) else .int (bi_fi h c k a)
def bi_aty (t : Nat) : Option FieldType := if t = 1 ∨ t = 4 then some .int else if t = 2 then some .boolean else if t = 3 then some .long else if t = 5 then some (.array .int) else if 40 ≤ t then (vwCl[t - 40]?).map (fun q => .object q.1) else none
def bi_av (h : bi_H) (t a j : Nat) : Value := if t = 3 then .long (bi_ai h a j).toInt64 else if t = 5 ∨ 40 ≤ t then bi_tr (bi_ar h a j) else .int (bi_ai h a j)
/-- words that stay true as the machine goes on -/
def bi_ok (w : Cond) : Bool := match w with
  | .fieldLinkNest .. => true
  | .methodLinkNest .. => true
  | .arrayOver (.object _) => true
  | .arrayOver (.array _) => true
  | w => goodWord w || (w.onTables && w.keepsFace)
/-- the texts of the class's exceptions, by their pool entries -/
def bi_strs : List (Nat × String) := [(238, "no such item"), (247, "no such place"), (251, "the site is down"), (262, "no such snapshot or place"), (267, "no such volume"), (272, "no such snapshots"), (332, "no such lost place")]
def bi_wd (B0 : Nat) (Hb : Heap) (U : State) : Prop := (∀ w ∈ lw_tbl, bi_ok w = true → ∀ a : Array Value, w.before a U = true) ∧ (∀ q ∈ bi_strs, ∃ sa, vk_R RX9 q.1 q.2 sa U) ∧ vx_Zq Bundle.tN "UNASSIGNED_STACK" Bundle.steD (fun q => B0 ≤ q) U Hb ∧ vx_Zq Bundle.tN "SUPPRESSED_SENTINEL" Bundle.listD (fun q => B0 ≤ q) U Hb ∧ va_Nc "java/lang/IllegalStateException" "java/lang/IndexOutOfBoundsException" U
theorem bi_wd1 {s U : State} (hW : s.WarmedH U.vm) {w : Cond} (hw : bi_ok w = true) (h : ∀ a : Array Value, w.before a s = true) (a : Array Value) : w.before a U = true := by
  have good : (goodWord w || (w.onTables && w.keepsFace)) = true → w.before a U = true := fun hg => by
    simp only [Bool.or_eq_true, Bool.and_eq_true] at hg
    rcases hg with hg | ⟨h1, h2⟩
    · exact word_at hW (good_of_word hg) (h a)
    · exact va_tabs h1 (rfl : (s.setVm U.vm).vm = U.vm) (Cond.before_shiftedFace (State.Shifted.of_warmed hW) w h2 (h a))
  cases w with
  | fieldLinkNest q1 q2 q3 q4 q5 q6 => exact va_Nw.use rfl (va_Nw.warmF hW (h #[]))
  | methodLinkNest q1 q2 q3 q4 => exact va_Nw.use rfl (va_Nw.warmM hW (h #[]))
  | arrayOver ty =>
    cases ty with
    | object C => exact va_AO.moved hW.alike (h #[])
    | array t => exact over_moved hW.alike (h #[])
    | _ => exact good hw
  | _ => exact good hw
theorem bi_wd.moved {B0 : Nat} {Hb : Heap} {s U : State} (hW : s.WarmedH U.vm) (h : bi_wd B0 Hb s) : bi_wd B0 Hb U := ⟨fun w hw ho a => bi_wd1 hW ho (h.1 w hw ho) a, fun q hq => (h.2.1 q hq).imp (fun _ z => vk_R.warm hW z), vx_Zq.moved hW.alike h.2.2.1, vx_Zq.moved hW.alike h.2.2.2.1, va_Nc.moved hW.alike h.2.2.2.2⟩
/-- an object's cell -/
def bi_co (D : va_G) (h : bi_H) (H : Heap) (a c : Nat) : Prop := ∃ q, vwCl[c]? = some q ∧ t_OB a (D.1 c) q.2.2 (D.2 c) H (fun k => bi_fv h c k (a + 1))
/-- an array's cell -/
def bi_ca (U : State) (h : bi_H) (H : Heap) (a t n : Nat) : Prop := ∀ ty, bi_aty t = some ty → ∃ cell : Cell, H[a]? = some cell ∧ U.isArrayOf cell ty ∧ cell.vm ≠ .unknown ∧ cell.slots.size = n ∧ (∀ j, j < n → cell.slots[j]? = some (bi_av h t (a + 1) j)) ∧ (∀ C, ty = .object C → ∃ (kA : Class) (comp : ClassId), U.vm.classes[cell.cls]? = some kA ∧ kA.kind = .array comp (.object C) ∧ U.vm.findClass C = some comp)
def bi_cell (D : va_G) (U : State) (h : bi_H) (H : Heap) (a : Nat) : Prop := (∀ c, (bi_k h (a + 1)).1 = 10 + c → c < 13 → bi_co D h H a c) ∧ bi_ca U h H a (bi_k h (a + 1)).1 (bi_k h (a + 1)).2
def bi_rp (D : va_G) (B0 : Nat) (Hb : Heap) (h : bi_H) (U : State) (H : Heap) : Prop :=
  (H.size + 1 = bi_nx h ∧ B0 ≤ H.size ∧ ∀ q, q < B0 → H[q]? = Hb[q]?) ∧ va_K D vwCl [] U ∧ bi_wd B0 Hb U ∧ (bi_k h 0).1 = 0 ∧ (∀ a, (bi_k h (a + 1)).1 ≠ 0 → a < H.size ∧ ((bi_k h (a + 1)).1 ≠ 4 → B0 ≤ a)) ∧ ∀ a, bi_cell D U h H a
theorem bi_ca.moved {u U : State} (hvm : u.vm.Alike U.vm) {h : bi_H} {H : Heap} {a t n : Nat} (hc : bi_ca u h H a t n) : bi_ca U h H a t n := by
  intro ty hty
  obtain ⟨cell, h1, h2, h3, h4, h5, h6⟩ := hc ty hty
  refine ⟨cell, h1, State.isArrayOf_alike hvm h2, h3, h4, h5, fun C hC => ?_⟩
  obtain ⟨kA, comp, k1, k2, k3⟩ := h6 C hC
  obtain ⟨k', hk', he⟩ := hvm.2.2 _ _ k1
  exact ⟨k', comp, hk', by rw [he]; exact k2, by rw [hvm.findClass]; exact k3⟩
theorem bi_rp.moved {D : va_G} {B0 : Nat} {Hb : Heap} {h : bi_H} {s U : State} {H : Heap} (hW : s.WarmedH U.vm) (hr : bi_rp D B0 Hb h s H) : bi_rp D B0 Hb h U H := by
  obtain ⟨h1, h2, h3, h4, h5, h6⟩ := hr
  exact ⟨h1, va_K.moved hW.alike h2, h3.moved hW, h4, h5, fun a => ⟨(h6 a).1, (h6 a).2.moved hW.alike⟩⟩
/-- the tables of the classes -/
def bi_ty (c : Nat) : Nat → FieldType := match c with
  | 0 => tyX0
  | 1 => tyX1
  | 2 => tyX2
  | 3 => tyX3
  | 4 => tyX4
  | 5 => tyX5
  | 6 => tyX6
  | 7 => tyX7
  | 8 => tyX8
  | 9 => tyX9
  | 10 => tyX10
  | 11 => tyX11
  | _ => tyX12
theorem bi_in0 : ∀ w ∈ u_ws RX0 TX0 4, w ∈ lw_tbl := by decide +kernel
theorem bi_in1 : ∀ w ∈ u_ws RX1 TX1 2, w ∈ lw_tbl := by decide +kernel
theorem bi_in2 : ∀ w ∈ u_ws RX2 TX2 9, w ∈ lw_tbl := by decide +kernel
theorem bi_in3 : ∀ w ∈ u_ws RX3 TX3 4, w ∈ lw_tbl := by decide +kernel
theorem bi_in4 : ∀ w ∈ u_ws RX4 TX4 4, w ∈ lw_tbl := by decide +kernel
theorem bi_in5 : ∀ w ∈ u_ws RX5 TX5 7, w ∈ lw_tbl := by decide +kernel
theorem bi_in6 : ∀ w ∈ u_ws RX6 TX6 20, w ∈ lw_tbl := by decide +kernel
theorem bi_in7 : ∀ w ∈ u_ws RX7 TX7 11, w ∈ lw_tbl := by decide +kernel
theorem bi_in8 : ∀ w ∈ u_ws RX8 TX8 7, w ∈ lw_tbl := by decide +kernel
theorem bi_in9 : ∀ w ∈ u_ws RX9 TX9 10, w ∈ lw_tbl := by decide +kernel
theorem bi_in10 : ∀ w ∈ u_ws RX10 TX10 11, w ∈ lw_tbl := by decide +kernel
theorem bi_in11 : ∀ w ∈ u_ws RX11 TX11 35, w ∈ lw_tbl := by decide +kernel
theorem bi_in12 : ∀ w ∈ u_ws RX12 TX12 39, w ∈ lw_tbl := by decide +kernel
/-- what the tables say of a class -/
def bi_cok (c : Nat) (q : vw_C) : Prop := (∀ w ∈ u_ws q.1 q.2.1 q.2.2, w ∈ lw_tbl) ∧ (∀ k, k < q.2.2 → parseFieldDescriptor (q.2.1 k).2.2.1 = some (bi_ty c k)) ∧ (∀ a, a < q.2.2 → ∀ b, b < q.2.2 → a ≠ b → (q.2.1 a).2.1 ≠ (q.2.1 b).2.1)
theorem bi_cok_of : ∀ (c : Nat) (q : vw_C), vwCl[c]? = some q → bi_cok c q
  | 0, _, h => by cases h; exact ⟨bi_in0, tyX0_ok, nmX0⟩
  | 1, _, h => by cases h; exact ⟨bi_in1, tyX1_ok, nmX1⟩
  | 2, _, h => by cases h; exact ⟨bi_in2, tyX2_ok, nmX2⟩
  | 3, _, h => by cases h; exact ⟨bi_in3, tyX3_ok, nmX3⟩
  | 4, _, h => by cases h; exact ⟨bi_in4, tyX4_ok, nmX4⟩
  | 5, _, h => by cases h; exact ⟨bi_in5, tyX5_ok, nmX5⟩
  | 6, _, h => by cases h; exact ⟨bi_in6, tyX6_ok, nmX6⟩
  | 7, _, h => by cases h; exact ⟨bi_in7, tyX7_ok, nmX7⟩
  | 8, _, h => by cases h; exact ⟨bi_in8, tyX8_ok, nmX8⟩
  | 9, _, h => by cases h; exact ⟨bi_in9, tyX9_ok, nmX9⟩
  | 10, _, h => by cases h; exact ⟨bi_in10, tyX10_ok, nmX10⟩
  | 11, _, h => by cases h; exact ⟨bi_in11, tyX11_ok, nmX11⟩
  | 12, _, h => by cases h; exact ⟨bi_in12, tyX12_ok, nmX12⟩
  | c + 13, _, h => by simp at h
/-- a field's type by its number, and what may be written into it -/
theorem bi_ty_i : ∀ c, c < 13 → ∀ k, k < 39 → bi_ft c k = 0 → bi_ty c k = .int := by decide +kernel
theorem bi_ty_z : ∀ c, c < 13 → ∀ k, k < 39 → bi_ft c k = 2 → bi_ty c k = .boolean := by decide +kernel
def bi_isr (t : FieldType) : Bool := match t with
  | .object _ => true
  | .array _ => true
  | _ => false
theorem bi_ty_r : ∀ c, c < 13 → ∀ k, k < 39 → bi_ft c k = 1 → bi_isr (bi_ty c k) = true := by decide +kernel
theorem bi_nar_r {t : FieldType} (h : bi_isr t = true) (a : Nat) : narrow t (bi_tr a) = bi_tr a ∧ fits t (bi_tr a) = true := by
  cases t <;> first | (simp [bi_isr] at h; done) | (cases a <;> exact ⟨rfl, rfl⟩)
theorem bi_nar_z {x : Int32} (h : x = 0 ∨ x = 1) : narrow .boolean (.int x) = .int x ∧ fits .boolean (.int x) = true := by
  rcases h with rfl | rfl <;> exact ⟨by decide +kernel, by decide +kernel⟩
end
section
/-! the machine's rows over the interpreter's heap: fields, arrays, new cells -/
theorem bi_lay_ok {C : String} {T : u_T} {N : Nat} : ∀ w ∈ u_ws C T N, bi_ok w = true := by
  intro w hw
  obtain ⟨k, -, rfl⟩ := List.mem_map.mp hw
  unfold u_lay
  split <;> rfl
theorem bi_aty_obj {c : Nat} (h : c < 13) : bi_aty (10 + c) = none := by
  unfold bi_aty
  simp only [if_neg (show ¬ (10 + c = 1 ∨ 10 + c = 4) by omega), if_neg (show ¬ 10 + c = 2 by omega), if_neg (show ¬ 10 + c = 3 by omega), if_neg (show ¬ 10 + c = 5 by omega), if_neg (show ¬ 40 ≤ 10 + c by omega)]
theorem bi_c13 {c : Nat} {q : vw_C} (hq : vwCl[c]? = some q) : c < 13 := (List.getElem?_eq_some_iff.mp hq).1
theorem bi_cell.kept {D : va_G} {s : State} {h h' : bi_H} {H H' : Heap} {a : Nat} (hc : bi_cell D s h H a) (ho : H'[a]? = H[a]?) (hk : bi_k h' (a + 1) = bi_k h (a + 1)) (hf : ∀ c k, bi_fv h' c k (a + 1) = bi_fv h c k (a + 1)) (hv : ∀ t j, bi_av h' t (a + 1) j = bi_av h t (a + 1) j) : bi_cell D s h' H' a := by
  refine ⟨fun c h1 h2 => ?_, fun ty hty => ?_⟩
  · rw [hk] at h1
    obtain ⟨q, e1, e2⟩ := hc.1 c h1 h2
    exact ⟨q, e1, (e2.kept ho).to (fun k _ => (hf c k).symm)⟩
  · rw [hk] at hty
    obtain ⟨cell, e1, e2, e3, e4, e5, e6⟩ := hc.2 ty hty
    refine ⟨cell, by rw [ho]; exact e1, e2, e3, by rw [hk]; exact e4, fun j hj => ?_, e6⟩
    rw [hk] at hj ⊢
    rw [hv, e5 j hj]
theorem bi_cell.none {D : va_G} {s : State} {h : bi_H} {H : Heap} {a : Nat} (hk : (bi_k h (a + 1)).1 = 0) : bi_cell D s h H a := by
  refine ⟨fun c h1 _ => by omega, fun ty hty => ?_⟩
  rw [hk] at hty
  simp [bi_aty] at hty
theorem bi_rp.upd {D : va_G} {B0 : Nat} {Hb : Heap} {s : State} {h h' : bi_H} {H H' : Heap} {a : Nat} (hr : bi_rp D B0 Hb h s H) (ha : B0 ≤ a) (hz : H'.size = H.size) (ho : ∀ q, q ≠ a → H'[q]? = H[q]?) (hk : ∀ x, bi_k h' x = bi_k h x) (hn : bi_nx h' = bi_nx h) (hf : ∀ c k b, b ≠ a → bi_fv h' c k (b + 1) = bi_fv h c k (b + 1)) (hv : ∀ t b j, b ≠ a → bi_av h' t (b + 1) j = bi_av h t (b + 1) j) (hc : bi_cell D s h' H' a) : bi_rp D B0 Hb h' s H' := by
  obtain ⟨⟨z1, z2, z3⟩, h2, h3, h4, h5, h6⟩ := hr
  refine ⟨⟨by rw [hz, hn]; exact z1, by rw [hz]; exact z2, fun q hq => by rw [ho q (by omega)]; exact z3 q hq⟩, h2, h3, by rw [hk]; exact h4, fun b hb => ?_, fun b => ?_⟩
  · rw [hk] at hb ⊢
    rw [hz]
    exact h5 b hb
  · by_cases e : b = a
    · subst e
      exact hc
    · exact (h6 b).kept (ho b e) (hk _) (fun c k => hf c k b e) (fun t j => hv t b j e)
theorem bi_rp.born {D : va_G} {B0 : Nat} {Hb : Heap} {s : State} {h : bi_H} {H H' : Heap} {kd : Nat × Nat} {sl : Nat} (hr : bi_rp D B0 Hb h s H) (hz : H'.size = H.size + 1) (ho : ∀ q, q < H.size → H'[q]? = H[q]?) (hc : bi_cell D s (bi_new h kd sl) H' H.size) : bi_rp D B0 Hb (bi_new h kd sl) s H' := by
  obtain ⟨⟨z1, z2, z3⟩, h2, h3, h4, h5, h6⟩ := hr
  have e0 : ∀ x, x ≠ bi_nx h → bi_k (bi_new h kd sl) x = bi_k h x := fun x hx => by simp [bi_k, bi_new, hx]
  refine ⟨⟨by rw [hz]; show H.size + 1 + 1 = bi_nx h + 1; omega, by omega, fun q hq => by rw [ho q (by omega)]; exact z3 q hq⟩, h2, h3, by rw [e0 0 (by omega)]; exact h4, fun b hb => ?_, fun b => ?_⟩
  · by_cases e : b = H.size
    · subst e
      exact ⟨by omega, fun _ => z2⟩
    · rw [e0 _ (by omega)] at hb ⊢
      obtain ⟨q1, q2⟩ := h5 b hb
      exact ⟨by omega, q2⟩
  · by_cases e : b = H.size
    · subst e
      exact hc
    · have e1 := e0 (b + 1) (by omega)
      by_cases hb : (bi_k h (b + 1)).1 = 0
      · exact bi_cell.none (by rw [e1]; exact hb)
      · have hx : b + 1 ≠ bi_nx h := by omega
        refine (h6 b).kept (ho b (h5 b hb).1) e1 (fun c k => ?_) (fun t j => ?_)
        · simp [bi_fv, bi_fr, bi_fi, bi_new, hx]
        · simp [bi_av, bi_ar, bi_ai, bi_new, hx]
/-- the pool entry of a field -/
def bi_fl (own : String) (index : Nat) (q : vw_C) (k : Nat) : Prop := Cond.fieldLink own index (q.2.1 k).1 (q.2.1 k).2.1 (q.2.1 k).2.2.1 ∈ lw_tbl ∨ ∃ host, Cond.fieldLinkNest own index (q.2.1 k).1 (q.2.1 k).2.1 (q.2.1 k).2.2.1 host ∈ lw_tbl
section BS
variable {p : Program} {l : Launch} {e : Env} {R : Room} {s : State} {m : MethodId} {args : Array Value} {below : List Frame} {meth : Method} {cd : Code} {H : Heap} {locs : List Loc} {cells slots : Nat} {Q : State → Prop} {cc : ByteArray} {pc : Nat} {ls : Array Slot} {rest : List Value} {D : va_G} {B0 : Nat} {Hb : Heap} {h : bi_H}
theorem bi_hts (hr : bi_rp D B0 Hb h s H) {w : Cond} (hw : w ∈ lw_tbl) (ho : bi_ok w = true) : w.before args s = true := hr.2.2.1.1 w hw ho args
theorem bi_get (hx : p.tables.exec = Jvm.exec) (hb : cd.code = cc) {own : String} {index a c k : Nat} {q : vw_C} (hown : s.vm.findClass own = some m.cls) (hr : bi_rp D B0 Hb h s H) (hk : (bi_k h (a + 1)).1 = 10 + c) (hq : vwCl[c]? = some q) (hkn : k < q.2.2) (hl : bi_fl own index q k) (hdg : decode cc pc = .ok (.getfield index, 3))
    (kk : W p l e R s m args below meth cd H locs cells slots Q (F0 m (pc + 3) ls (bi_fv h c k (a + 1) :: rest))) : W p l e R s m args below meth cd H locs cells slots Q (F0 m pc ls (.ref a :: rest)) := by
  obtain ⟨q', hq', cell, q1, q2, q3, q4⟩ := (hr.2.2.2.2.2 a).1 c hk (bi_c13 hq)
  cases Option.some.inj (hq'.symm.trans hq)
  obtain ⟨hS, hfc, kC, hkC, hkind⟩ := hr.2.1.1 c _ hq
  obtain ⟨cf, kf, fi, f, hi, hsl⟩ := hS k hkn
  have hts : ∀ w ∈ u_ws q.1 q.2.1 q.2.2, w.before args s = true := fun w hw => bi_hts hr ((bi_cok_of c q hq).1 w hw) (bi_lay_ok w hw)
  have hst := (u_facts hfc hkC (u_lays hts (fun _ z => z) hkn) hi).1
  have hv : cell.slots[f.slot]? = some (bi_fv h c k (a + 1)) := by rw [hsl, q4 k hkn]
  rcases hl with hl | ⟨host, hl⟩
  · exact W.getf hx hb hown (bi_hts hr hl rfl) hi hst q1 (by rw [q3]; exact fun z => by cases z) hv rfl rfl hdg kk
  · exact va_Wgetf hx hb hown (bi_hts hr hl rfl) hi hst q1 (by rw [q3]; exact fun z => by cases z) hv rfl rfl hdg kk
/-- a field is written: v, of the right kind; the interpreter's heap is h' then -/
theorem bi_put (hx : p.tables.exec = Jvm.exec) (hb : cd.code = cc) {own : String} {index a c k : Nat} {q : vw_C} {v : Value} {h' : bi_H} (hown : s.vm.findClass own = some m.cls) (hr : bi_rp D B0 Hb h s H) (hk : (bi_k h (a + 1)).1 = 10 + c) (hq : vwCl[c]? = some q) (hkn : k < q.2.2) (hl : bi_fl own index q k) (hfin : (q.2.1 k).2.2.2 = false ∨ ((q.2.1 k).1 = own ∧ meth.name = "<init>" ∧ Cond.fieldLink own index (q.2.1 k).1 (q.2.1 k).2.1 (q.2.1 k).2.2.1 ∈ lw_tbl)) (hn : narrow (bi_ty c k) v = v ∧ fits (bi_ty c k) v = true)
    (hk' : ∀ x, bi_k h' x = bi_k h x) (hnx : bi_nx h' = bi_nx h) (hf : ∀ c k b, b ≠ a → bi_fv h' c k (b + 1) = bi_fv h c k (b + 1)) (hf2 : ∀ j, bi_fv h' c j (a + 1) = updV (fun j => bi_fv h c j (a + 1)) k v j) (hv : ∀ t b j, b ≠ a → bi_av h' t (b + 1) j = bi_av h t (b + 1) j) (hdg : decode cc pc = .ok (.putfield index, 3))
    (kk : ∀ (H' : Heap) (i : Nat), bi_rp D B0 Hb h' s H' → W p l e R s m args below meth cd H' (locs ++ [⟨a, i⟩]) cells slots Q (F0 m (pc + 3) ls rest)) : W p l e R s m args below meth cd H locs cells slots Q (F0 m pc ls (v :: .ref a :: rest)) := by
  have h13 := bi_c13 hq
  obtain ⟨q', hq', cell, q1, q2, q3, q4⟩ := (hr.2.2.2.2.2 a).1 c hk h13
  cases Option.some.inj (hq'.symm.trans hq)
  obtain ⟨hin, hty, hnm⟩ := bi_cok_of c q hq
  obtain ⟨hS, hfc, kC, hkC, hkind⟩ := hr.2.1.1 c _ hq
  obtain ⟨cf, kf, fi, f, hi, hsl⟩ := hS k hkn
  have hts : ∀ w ∈ u_ws q.1 q.2.1 q.2.2, w.before args s = true := fun w hw => bi_hts hr (hin w hw) (bi_lay_ok w hw)
  have hap := va_apart (own := own) hts (fun _ z => z) (bi_ty c) hty hnm hr.2.1 (ci := c) hq
  have hst := (u_facts hfc hkC (u_lays hts (fun _ z => z) hkn) hi).1
  have hB : B0 ≤ a := (hr.2.2.2.2.1 a (by omega)).2 (by omega)
  have fin : ∀ H' : Heap, H'[a]? = some (cell.setSlot f.slot v) → H'.size = H.size → (∀ q, q ≠ a → H'[q]? = H[q]?) → bi_rp D B0 Hb h' s H' := by
    intro H' e1 e2 e3
    refine hr.upd hB e2 e3 hk' hnx hf hv ⟨fun c0 h1 _ => ?_, fun ty hty => ?_⟩
    · rw [hk', hk] at h1
      have : c0 = c := by omega
      subst this
      rw [hsl] at e1
      exact ⟨q, hq, t_OB.to (V := updV (fun j => bi_fv h c0 j (a + 1)) k v) ⟨_, e1, q2, q3, t_set q4 hap hkn v⟩ (fun j _ => (hf2 j).symm)⟩
    · rw [hk', hk, bi_aty_obj h13] at hty
      cases hty
  have hlay := hts _ (u_in_lay hkn)
  unfold u_lay at hlay
  have hlt : f.slot < cell.slots.size := by rw [hsl]; exact k2_hasslot (q4 k hkn)
  by_cases hff : (q.2.1 k).2.2.2 = true
  · rw [if_pos hff] at hlay
    rcases hfin with hz | ⟨hdecl, hin2, hlk⟩
    · rw [hz] at hff
      cases hff
    · have hcf : m.cls = cf := by
        obtain ⟨_, _, c', _, _, _, -, -, hf', -, -, -, hown2, -⟩ := Cond.laysFinal_spec hlay
        have e1 : c' = cf := by have := hi.symm.trans hf'; simp at this; exact this.1.symm
        rw [hdecl] at hown2
        rw [← e1]; exact Option.some.inj (hown.symm.trans hown2)
      have h6 := u_fits hfc hkC hkind (Or.inr hlay) hi (hty k hkn) hn.1 hn.2
      exact W.putFinK hx hb hown (bi_hts hr hlk rfl) hi hst hcf hin2 (by rw [q2]; exact h6) q1 q3 hlt rfl rfl hdg fun H' e1 e2 e3 => kk H' _ (fin H' e1 e2 e3)
  · rw [if_neg hff] at hlay
    have h6 := u_store hfc hkC hkind hlay hi (hty k hkn) hn.1 hn.2
    rcases hl with hl | ⟨host, hl⟩
    · exact W.putK hx hb (f := f) ⟨hown, bi_hts hr hl rfl, ⟨_, _, _, hi⟩, hst⟩ (by rw [q2]; exact h6) q1 q3 hlt rfl rfl hdg fun H' e1 e2 e3 => kk H' _ (fin H' e1 e2 e3)
    · exact va_WputK hx hb hown (bi_hts hr hl rfl) hi hst (by rw [q2]; exact h6) q1 q3 hlt rfl rfl hdg fun H' e1 e2 e3 => kk H' _ (fin H' e1 e2 e3)
end BS
end
section
/-! arrays and new cells over the interpreter's heap -/
theorem bi_rp.arr {D : va_G} {B0 : Nat} {Hb : Heap} {s : State} {h h' : bi_H} {H H' : Heap} {a t n j : Nat} {ty : FieldType} {nv : Value} {cell : Cell} (hr : bi_rp D B0 Hb h s H) (hk : bi_k h (a + 1) = (t, n)) (hty : bi_aty t = some ty) (ht4 : t ≠ 4) (hj : j < n)
    (c1 : s.isArrayOf cell ty) (c2 : cell.vm ≠ .unknown) (c3 : cell.slots.size = n) (c4 : ∀ j, j < n → cell.slots[j]? = some (bi_av h t (a + 1) j)) (c5 : ∀ C, ty = .object C → ∃ (kA : Class) (comp : ClassId), s.vm.classes[cell.cls]? = some kA ∧ kA.kind = .array comp (.object C) ∧ s.vm.findClass C = some comp)
    (e1 : H'[a]? = some (cell.setSlot j nv)) (e2 : H'.size = H.size) (e3 : ∀ q, q ≠ a → H'[q]? = H[q]?)
    (hk' : ∀ x, bi_k h' x = bi_k h x) (hnx : bi_nx h' = bi_nx h) (hf : ∀ c k b, bi_fv h' c k b = bi_fv h c k b) (hv : ∀ t b j, b ≠ a → bi_av h' t (b + 1) j = bi_av h t (b + 1) j) (hv2 : ∀ i, bi_av h' t (a + 1) i = updV (fun i => bi_av h t (a + 1) i) j nv i) : bi_rp D B0 Hb h' s H' := by
  have ht0 : t ≠ 0 := fun z => by subst z; simp [bi_aty] at hty
  have hB : B0 ≤ a := (hr.2.2.2.2.1 a (by rw [hk]; exact ht0)).2 (by rw [hk]; exact ht4)
  refine hr.upd hB e2 e3 hk' hnx (fun c k b _ => hf c k (b + 1)) hv ⟨fun c0 h1 h2 => ?_, fun ty' hty' => ?_⟩
  · rw [hk', hk] at h1
    have h1 : t = 10 + c0 := h1
    rw [h1, bi_aty_obj h2] at hty
    cases hty
  · rw [hk', hk] at hty' ⊢
    have hty' : bi_aty t = some ty' := hty'
    cases Option.some.inj (hty.symm.trans hty')
    refine ⟨_, e1, c1, c2, by rw [k2_slotsz]; exact c3, fun i hi => ?_, c5⟩
    show (cell.setSlot j nv).slots[i]? = some (bi_av h' t (a + 1) i)
    rw [hv2 i]
    by_cases e : i = j
    · subst e
      rw [Cell.slots_setSlot_self _ (by rw [c3]; exact hj)]
      simp [updV]
    · rw [slot_ne _ _ (Ne.symm e), c4 i hi]
      simp [updV, e]
section BA
variable {p : Program} {l : Launch} {e : Env} {R : Room} {s : State} {m : MethodId} {args : Array Value} {below : List Frame} {meth : Method} {cd : Code} {H : Heap} {locs : List Loc} {cells slots : Nat} {Q : State → Prop} {cc : ByteArray} {pc : Nat} {ls : Array Slot} {rest : List Value} {D : va_G} {B0 : Nat} {Hb : Heap} {h : bi_H}
theorem bi_ne {j : Int32} {n : Nat} (h0 : ¬ j < 0) (h1 : j.toNatClampNeg < n) : ¬ (j < 0 ∨ n ≤ j.toNatClampNeg) := fun z => z.elim h0 (fun q => by omega)
theorem bi_iald (hx : p.tables.exec = Jvm.exec) (hb : cd.code = cc) {a : Nat} {j : Int32} (hr : bi_rp D B0 Hb h s H) (hk : (bi_k h (a + 1)).1 = 1 ∨ (bi_k h (a + 1)).1 = 4) (h0 : ¬ j < 0) (h1 : j.toNatClampNeg < (bi_k h (a + 1)).2) (hdg : decode cc pc = .ok (.iaload, 1))
    (kk : W p l e R s m args below meth cd H locs cells slots Q (F0 m (pc + 1) ls (.int (bi_ai h (a + 1) j.toNatClampNeg) :: rest))) : W p l e R s m args below meth cd H locs cells slots Q (F0 m pc ls (.int j :: .ref a :: rest)) := by
  obtain ⟨cell, c0, c1, c2, c3, c4, -⟩ := (hr.2.2.2.2.2 a).2 .int (by unfold bi_aty; rw [if_pos hk])
  refine W.iald hx hb c0 c1 c2 (by rw [c3]; exact bi_ne h0 h1) (v := .int (bi_ai h (a + 1) j.toNatClampNeg)) ?_ rfl rfl hdg kk
  rw [c4 _ h1]
  rcases hk with hk | hk <;> simp [bi_av, hk]
theorem bi_zald (hx : p.tables.exec = Jvm.exec) (hb : cd.code = cc) {a : Nat} {j : Int32} (hr : bi_rp D B0 Hb h s H) (hk : (bi_k h (a + 1)).1 = 2) (h0 : ¬ j < 0) (h1 : j.toNatClampNeg < (bi_k h (a + 1)).2) (hdg : decode cc pc = .ok (.baload, 1))
    (kk : W p l e R s m args below meth cd H locs cells slots Q (F0 m (pc + 1) ls (.int (bi_ai h (a + 1) j.toNatClampNeg) :: rest))) : W p l e R s m args below meth cd H locs cells slots Q (F0 m pc ls (.int j :: .ref a :: rest)) := by
  obtain ⟨cell, c0, c1, c2, c3, c4, -⟩ := (hr.2.2.2.2.2 a).2 .boolean (by simp [bi_aty, hk])
  refine W.zald hx hb c0 c1 c2 (by rw [c3]; exact bi_ne h0 h1) (v := .int (bi_ai h (a + 1) j.toNatClampNeg)) ?_ rfl rfl hdg kk
  rw [c4 _ h1]
  simp [bi_av, hk]
theorem bi_lald (hx : p.tables.exec = Jvm.exec) (hb : cd.code = cc) {a : Nat} {j : Int32} (hr : bi_rp D B0 Hb h s H) (hk : (bi_k h (a + 1)).1 = 3) (h0 : ¬ j < 0) (h1 : j.toNatClampNeg < (bi_k h (a + 1)).2) (hdg : decode cc pc = .ok (.laload, 1))
    (kk : W p l e R s m args below meth cd H locs cells slots Q (F0 m (pc + 1) ls (.long (bi_ai h (a + 1) j.toNatClampNeg).toInt64 :: rest))) : W p l e R s m args below meth cd H locs cells slots Q (F0 m pc ls (.int j :: .ref a :: rest)) := by
  obtain ⟨cell, c0, c1, c2, c3, c4, -⟩ := (hr.2.2.2.2.2 a).2 .long (by simp [bi_aty, hk])
  refine W.lald hx hb c0 c1 c2 (by rw [c3]; exact bi_ne h0 h1) (v := .long (bi_ai h (a + 1) j.toNatClampNeg).toInt64) ?_ rfl rfl hdg kk
  rw [c4 _ h1]
  simp [bi_av, hk]
theorem bi_aald (hx : p.tables.exec = Jvm.exec) (hb : cd.code = cc) {a : Nat} {j : Int32} {ty : FieldType} (hr : bi_rp D B0 Hb h s H) (hk : (bi_k h (a + 1)).1 = 5 ∨ 40 ≤ (bi_k h (a + 1)).1) (hty : bi_aty (bi_k h (a + 1)).1 = some ty) (h0 : ¬ j < 0) (h1 : j.toNatClampNeg < (bi_k h (a + 1)).2) (hdg : decode cc pc = .ok (.aaload, 1))
    (kk : W p l e R s m args below meth cd H locs cells slots Q (F0 m (pc + 1) ls (bi_tr (bi_ar h (a + 1) j.toNatClampNeg) :: rest))) : W p l e R s m args below meth cd H locs cells slots Q (F0 m pc ls (.int j :: .ref a :: rest)) := by
  obtain ⟨cell, c0, c1, c2, c3, c4, -⟩ := (hr.2.2.2.2.2 a).2 ty hty
  have href : ty.isReference = true := by
    rcases hk with hk | hk
    · rw [hk] at hty
      simp [bi_aty] at hty
      subst hty
      rfl
    · unfold bi_aty at hty
      rw [if_neg (by omega), if_neg (by omega), if_neg (by omega), if_neg (by omega), if_pos hk] at hty
      obtain ⟨q, -, rfl⟩ := Option.map_eq_some_iff.mp hty
      rfl
  refine W.aald hx hb c0 c1 href c2 (by rw [c3]; exact bi_ne h0 h1) (v := bi_tr (bi_ar h (a + 1) j.toNatClampNeg)) ?_ rfl rfl hdg kk
  rw [c4 _ h1]
  have h3 : ¬ (bi_k h (a + 1)).1 = 3 := by omega
  simp [bi_av, h3, hk]
theorem bi_alen (hx : p.tables.exec = Jvm.exec) (hb : cd.code = cc) {a : Nat} {ty : FieldType} (hr : bi_rp D B0 Hb h s H) (hty : bi_aty (bi_k h (a + 1)).1 = some ty) (hdg : decode cc pc = .ok (.arraylength, 1))
    (kk : W p l e R s m args below meth cd H locs cells slots Q (F0 m (pc + 1) ls (.int (Int32.ofNat (bi_k h (a + 1)).2) :: rest))) : W p l e R s m args below meth cd H locs cells slots Q (F0 m pc ls (.ref a :: rest)) := by
  obtain ⟨cell, c0, c1, c2, c3, c4, -⟩ := (hr.2.2.2.2.2 a).2 ty hty
  exact W.alen (n := Int32.ofNat (bi_k h (a + 1)).2) hx hb c0 c1 (by rw [c3]) rfl rfl hdg kk
theorem bi_sai_fv {a i : Nat} {x : Int32} (c k b : Nat) : bi_fv (bi_sai h a i x) c k b = bi_fv h c k b := rfl
theorem bi_sai_av {a i : Nat} {x : Int32} (t b j : Nat) (hb : b ≠ a) : bi_av (bi_sai h (a + 1) i x) t (b + 1) j = bi_av h t (b + 1) j := by
  simp [bi_av, bi_ai, bi_ar, bi_sai, hb]
theorem bi_iast (hx : p.tables.exec = Jvm.exec) (hb : cd.code = cc) {a : Nat} {j x : Int32} (hr : bi_rp D B0 Hb h s H) (hk : (bi_k h (a + 1)).1 = 1) (h0 : ¬ j < 0) (h1 : j.toNatClampNeg < (bi_k h (a + 1)).2) (hdg : decode cc pc = .ok (.iastore, 1))
    (kk : ∀ (H' : Heap) (i : Nat), bi_rp D B0 Hb (bi_sai h (a + 1) j.toNatClampNeg x) s H' → W p l e R s m args below meth cd H' (locs ++ [⟨a, i⟩]) cells slots Q (F0 m (pc + 1) ls rest)) : W p l e R s m args below meth cd H locs cells slots Q (F0 m pc ls (.int x :: .int j :: .ref a :: rest)) := by
  have hty : bi_aty (bi_k h (a + 1)).1 = some .int := by simp [bi_aty, hk]
  obtain ⟨cell, c0, c1, c2, c3, c4, c5⟩ := (hr.2.2.2.2.2 a).2 .int hty
  refine W.iast hx hb c0 c1 c2 (by rw [c3]; exact bi_ne h0 h1) rfl rfl hdg (fun H' e1 e2 e3 => kk H' _ ?_)
  rw [hk] at c4
  refine hr.arr (t := 1) (n := (bi_k h (a + 1)).2) (Prod.ext hk rfl) rfl (by omega) h1 c1 c2 c3 c4 c5 e1 e2 e3 (fun _ => rfl) rfl bi_sai_fv bi_sai_av (fun i => ?_)
  by_cases e : i = j.toNatClampNeg <;> simp [bi_av, updV, bi_ai, bi_sai, e]
theorem bi_zast (hx : p.tables.exec = Jvm.exec) (hb : cd.code = cc) {a : Nat} {j x : Int32} (hr : bi_rp D B0 Hb h s H) (hk : (bi_k h (a + 1)).1 = 2) (hx01 : x = 0 ∨ x = 1) (h0 : ¬ j < 0) (h1 : j.toNatClampNeg < (bi_k h (a + 1)).2) (hdg : decode cc pc = .ok (.bastore, 1))
    (kk : ∀ (H' : Heap) (i : Nat), bi_rp D B0 Hb (bi_sai h (a + 1) j.toNatClampNeg x) s H' → W p l e R s m args below meth cd H' (locs ++ [⟨a, i⟩]) cells slots Q (F0 m (pc + 1) ls rest)) : W p l e R s m args below meth cd H locs cells slots Q (F0 m pc ls (.int x :: .int j :: .ref a :: rest)) := by
  have hty : bi_aty (bi_k h (a + 1)).1 = some .boolean := by simp [bi_aty, hk]
  obtain ⟨cell, c0, c1, c2, c3, c4, c5⟩ := (hr.2.2.2.2.2 a).2 .boolean hty
  have hnz : vp_nar .boolean x = x := by rcases hx01 with rfl | rfl <;> decide +kernel
  refine W.zast hx hb c0 c1 c2 (by rw [c3]; exact bi_ne h0 h1) rfl rfl hdg (fun H' e1 e2 e3 => kk H' _ ?_)
  rw [hk] at c4
  refine hr.arr (t := 2) (n := (bi_k h (a + 1)).2) (nv := .int x) (Prod.ext hk rfl) rfl (by omega) h1 c1 c2 c3 c4 c5 ?_ e2 e3 (fun _ => rfl) rfl bi_sai_fv bi_sai_av (fun i => ?_)
  · rw [e1, (bi_nar_z hx01).1]
  · by_cases e : i = j.toNatClampNeg <;> simp [bi_av, updV, bi_ai, bi_sai, e]
theorem bi_last (hx : p.tables.exec = Jvm.exec) (hb : cd.code = cc) {a : Nat} {j x : Int32} (hr : bi_rp D B0 Hb h s H) (hk : (bi_k h (a + 1)).1 = 3) (h0 : ¬ j < 0) (h1 : j.toNatClampNeg < (bi_k h (a + 1)).2) (hdg : decode cc pc = .ok (.lastore, 1))
    (kk : ∀ (H' : Heap) (i : Nat), bi_rp D B0 Hb (bi_sai h (a + 1) j.toNatClampNeg x) s H' → W p l e R s m args below meth cd H' (locs ++ [⟨a, i⟩]) cells slots Q (F0 m (pc + 1) ls rest)) : W p l e R s m args below meth cd H locs cells slots Q (F0 m pc ls (.long x.toInt64 :: .int j :: .ref a :: rest)) := by
  have hty : bi_aty (bi_k h (a + 1)).1 = some .long := by simp [bi_aty, hk]
  obtain ⟨cell, c0, c1, c2, c3, c4, c5⟩ := (hr.2.2.2.2.2 a).2 .long hty
  refine W.last hx hb c0 c1 c2 (by rw [c3]; exact bi_ne h0 h1) rfl rfl hdg (fun H' e1 e2 e3 => kk H' _ ?_)
  rw [hk] at c4
  refine hr.arr (t := 3) (n := (bi_k h (a + 1)).2) (Prod.ext hk rfl) rfl (by omega) h1 c1 c2 c3 c4 c5 e1 e2 e3 (fun _ => rfl) rfl bi_sai_fv bi_sai_av (fun i => ?_)
  by_cases e : i = j.toNatClampNeg <;> simp [bi_av, updV, bi_ai, bi_sai, e]
theorem bi_aast (hx : p.tables.exec = Jvm.exec) (hb : cd.code = cc) {a b c : Nat} {j : Int32} {q : vw_C} (hr : bi_rp D B0 Hb h s H) (hk : (bi_k h (a + 1)).1 = 40 + c) (hq : vwCl[c]? = some q) (hbk : b = 0 ∨ (bi_k h b).1 = 10 + c) (h0 : ¬ j < 0) (h1 : j.toNatClampNeg < (bi_k h (a + 1)).2) (hdg : decode cc pc = .ok (.aastore, 1))
    (kk : ∀ (H' : Heap) (i : Nat), bi_rp D B0 Hb (bi_sar h (a + 1) j.toNatClampNeg b) s H' → W p l e R s m args below meth cd H' (locs ++ [⟨a, i⟩]) cells slots Q (F0 m (pc + 1) ls rest)) : W p l e R s m args below meth cd H locs cells slots Q (F0 m pc ls (bi_tr b :: .int j :: .ref a :: rest)) := by
  have h13 := bi_c13 hq
  have hty : bi_aty (bi_k h (a + 1)).1 = some (.object q.1) := by
    unfold bi_aty
    rw [hk, if_neg (by omega), if_neg (by omega), if_neg (by omega), if_neg (by omega), if_pos (by omega), show 40 + c - 40 = c by omega, hq]
    rfl
  obtain ⟨cell, c0, c1, c2, c3, c4, c5⟩ := (hr.2.2.2.2.2 a).2 _ hty
  have fin : ∀ H' : Heap, H'[a]? = some (cell.setSlot j.toNatClampNeg (bi_tr b)) → H'.size = H.size → (∀ q, q ≠ a → H'[q]? = H[q]?) → bi_rp D B0 Hb (bi_sar h (a + 1) j.toNatClampNeg b) s H' := by
    intro H' e1 e2 e3
    rw [hk] at c4 hty
    refine hr.arr (t := 40 + c) (n := (bi_k h (a + 1)).2) (Prod.ext hk rfl) hty (by omega) h1 c1 c2 c3 c4 c5 e1 e2 e3 (fun _ => rfl) rfl (fun _ _ _ => rfl) (fun t b' j' hb' => ?_) (fun i => ?_)
    · simp [bi_av, bi_ai, bi_ar, bi_sar, hb']
    · have h3 : ¬ 40 + c = 3 := by omega
      have h40 : 40 ≤ 40 + c := by omega
      by_cases e : i = j.toNatClampNeg <;> simp [bi_av, h3, h40, updV, bi_ar, bi_sar, e]
  cases b with
  | zero => exact va_WaastN (C := q.1) hx hb c0 c1 c2 (by rw [c3]; exact bi_ne h0 h1) rfl rfl hdg (fun H' e1 e2 e3 => kk H' _ (fin H' e1 e2 e3))
  | succ b =>
    have hbk : (bi_k h (b + 1)).1 = 10 + c := by
      rcases hbk with z | z
      · omega
      · exact z
    obtain ⟨q', hq', cv, g1, g2, g3, -⟩ := (hr.2.2.2.2.2 b).1 c hbk h13
    cases Option.some.inj (hq'.symm.trans hq)
    obtain ⟨kA, comp, k1, k2, k3⟩ := c5 q.1 rfl
    have hcls := (hr.2.1.1 c q hq).2
    have hcomp : comp = D.1 c := Option.some.inj (k3.symm.trans hcls.1)
    subst hcomp
    obtain ⟨kC, hkC, -⟩ := hcls.2
    exact W.aast hx hb c0 c1.1 c2 k1 k2 rfl hkC ⟨h0, by rw [c3]; exact h1⟩ g1 (fun z hz => by rw [g3] at hz; cases hz) (by rw [g2]; exact hkC) (by rw [g2]; exact va_assign hcls) rfl rfl hdg (fun H' e1 e2 e3 => kk H' _ (fin H' e1 e2 e3))
end BA
end
section
/-! new objects and arrays over the interpreter's heap -/
theorem bi_dflt : ∀ c, c < 13 → ∀ k, k < 39 → (if bi_ft c k = 1 then Value.null else Value.int 0) = defaultValue (bi_ty c k) := by decide +kernel
theorem bi_n39 : ∀ (c : Nat) (q : vw_C), vwCl[c]? = some q → q.2.2 ≤ 39
  | 0, _, h => by cases h; decide
  | 1, _, h => by cases h; decide
  | 2, _, h => by cases h; decide
  | 3, _, h => by cases h; decide
  | 4, _, h => by cases h; decide
  | 5, _, h => by cases h; decide
  | 6, _, h => by cases h; decide
  | 7, _, h => by cases h; decide
  | 8, _, h => by cases h; decide
  | 9, _, h => by cases h; decide
  | 10, _, h => by cases h; decide
  | 11, _, h => by cases h; decide
  | 12, _, h => by cases h; decide
  | c + 13, _, h => by simp at h
section BN
variable {p : Program} {l : Launch} {e : Env} {R : Room} {s : State} {m : MethodId} {args : Array Value} {below : List Frame} {meth : Method} {cd : Code} {H : Heap} {locs : List Loc} {cells slots : Nat} {Q : State → Prop} {cc : ByteArray} {pc : Nat} {ls : Array Slot} {rest : List Value} {D : va_G} {B0 : Nat} {Hb : Heap} {h : bi_H}
theorem bi_nxr (hr : bi_rp D B0 Hb h s H) : bi_tr (bi_nx h) = .ref H.size := by rw [← hr.1.1]; rfl
theorem bi_new_k {kd : Nat × Nat} {sl a : Nat} (ha : a = bi_nx h) : bi_k (bi_new h kd sl) a = kd := by simp [bi_k, bi_new, ha]
theorem bi_new_fv {kd : Nat × Nat} {sl a : Nat} (ha : a = bi_nx h) (c k : Nat) : bi_fv (bi_new h kd sl) c k a = (if bi_ft c k = 1 then Value.null else Value.int 0) := by
  simp [bi_fv, bi_fr, bi_fi, bi_new, ha, bi_tr]
theorem bi_newc (hx : p.tables.exec = Jvm.exec) (hb : cd.code = cc) {own : String} {index c : Nat} {q : vw_C} (hown : s.vm.findClass own = some m.cls) (hr : bi_rp D B0 Hb h s H) (hq : vwCl[c]? = some q) (hcl : Cond.classLink own index q.1 ∈ lw_tbl) (hin : Cond.instantiable q.1 q.2.2 ∈ lw_tbl) (hini : Cond.initialized q.1 ∈ lw_tbl) (hdg : decode cc pc = .ok (.new index, 3)) (hcells : cells + 1 ≤ R.cells) (hslots : slots + q.2.2 ≤ R.slots)
    (kk : ∀ H' : Heap, bi_rp D B0 Hb (bi_new h (10 + c, 0) q.2.2) s H' → W p l e R s m args below meth cd H' locs (cells + 1) (slots + q.2.2) Q (F0 m (pc + 3) ls (bi_tr (bi_nx h) :: rest))) : W p l e R s m args below meth cd H locs cells slots Q (F0 m pc ls rest) := by
  have h13 := bi_c13 hq
  have hKn := hr.2.1.1 c _ hq
  have hts : ∀ w ∈ u_ws q.1 q.2.1 q.2.2, w.before args s = true := fun w hw => bi_hts hr ((bi_cok_of c q hq).1 w hw) (bi_lay_ok w hw)
  refine W.newcK hx hb hown (bi_hts hr hcl rfl) (bi_hts hr hin rfl) (bi_hts hr hini rfl) rfl hdg hcells hslots hKn.2.1 rfl fun H' kC hkC e1 z1 o1 => ?_
  have hs : H.size + 1 = bi_nx h := hr.1.1
  rw [bi_nxr hr] at kk
  refine kk H' (hr.born z1 o1 ⟨fun c0 h1 _ => ?_, fun ty hty => ?_⟩)
  · rw [bi_new_k hs] at h1
    have : c0 = c := by simp at h1; omega
    subst this
    refine ⟨q, hq, (u_born (bi_ty c0) hts (fun _ z => z) hKn hkC e1 (bi_cok_of c0 q hq).2.1).to (fun k hk => ?_)⟩
    rw [bi_new_fv hs, bi_dflt c0 h13 k (Nat.lt_of_lt_of_le hk (bi_n39 c0 q hq))]
  · rw [bi_new_k hs] at hty
    have hty : bi_aty (10 + c) = some ty := hty
    rw [bi_aty_obj h13] at hty
    cases hty
theorem bi_newa (hx : p.tables.exec = Jvm.exec) (hb : cd.code = cc) {at0 : ArrayType} {t : Nat} {n : Int32} (hr : bi_rp D B0 Hb h s H) (ht : (at0 = .int ∧ t = 1) ∨ (at0 = .boolean ∧ t = 2) ∨ (at0 = .long ∧ t = 3)) (hw : Cond.arrayClass (newarray.typeOf at0) ∈ lw_tbl) (hn : ¬ n < 0) (hle : n.toNatClampNeg ≤ 1000000) (hdg : decode cc pc = .ok (.newarray at0, 2)) (hcells : cells + 1 ≤ R.cells) (hslots : slots + n.toNatClampNeg ≤ R.slots)
    (kk : ∀ H' : Heap, bi_rp D B0 Hb (bi_new h (t, n.toNatClampNeg) n.toNatClampNeg) s H' → W p l e R s m args below meth cd H' locs (cells + 1) (slots + n.toNatClampNeg) Q (F0 m (pc + 2) ls (bi_tr (bi_nx h) :: rest))) : W p l e R s m args below meth cd H locs cells slots Q (F0 m pc ls (.int n :: rest)) := by
  have hs : H.size + 1 = bi_nx h := hr.1.1
  rw [bi_nxr hr] at kk
  have hby : n.toNatClampNeg * componentBytes (newarray.typeOf at0) ≤ 536870912 := by
    rcases ht with ⟨rfl, -⟩ | ⟨rfl, -⟩ | ⟨rfl, -⟩ <;> simp [newarray.typeOf, componentBytes] <;> omega
  refine va_newaK hx hb (bi_hts hr hw rfl) rfl hdg rfl hn rfl hby hcells hslots rfl fun H' cA e1 z1 o1 hAr hNm => ?_
  refine kk H' (hr.born z1 o1 ⟨fun c0 h1 h2 => ?_, fun ty hty => ?_⟩)
  · rw [bi_new_k hs] at h1
    have h1 : t = 10 + c0 := h1
    omega
  · rw [bi_new_k hs] at hty ⊢
    have hty : bi_aty t = some ty := hty
    have hte : ty = newarray.typeOf at0 := by
      rcases ht with ⟨rfl, rfl⟩ | ⟨rfl, rfl⟩ | ⟨rfl, rfl⟩ <;> (simp [bi_aty] at hty; subst hty; rfl)
    subst hte
    refine ⟨_, e1, hAr _ _, (fun z => by cases z), arrV_size _ _ _, fun j hj => ?_, fun C hC => ?_⟩
    · rw [arrV_read _ _ hj]
      rcases ht with ⟨rfl, rfl⟩ | ⟨rfl, rfl⟩ | ⟨rfl, rfl⟩ <;> (simp [bi_av, bi_ai, bi_new, hs, newarray.typeOf, defaultValue] <;> rfl)
    · rcases ht with ⟨rfl, rfl⟩ | ⟨rfl, rfl⟩ | ⟨rfl, rfl⟩ <;> cases hC
theorem bi_anew (hx : p.tables.exec = Jvm.exec) (hb : cd.code = cc) {own : String} {index c : Nat} {q : vw_C} {n : Int32} (hown : s.vm.findClass own = some m.cls) (hr : bi_rp D B0 Hb h s H) (hq : vwCl[c]? = some q) (hcl : Cond.classLink own index q.1 ∈ lw_tbl) (hov : Cond.arrayOver (.object q.1) ∈ lw_tbl) (hn : ¬ n < 0) (hle : n.toNatClampNeg ≤ 1000000) (hdg : decode cc pc = .ok (.anewarray index, 3)) (hcells : cells + 1 ≤ R.cells) (hslots : slots + n.toNatClampNeg ≤ R.slots)
    (kk : ∀ H' : Heap, bi_rp D B0 Hb (bi_new h (40 + c, n.toNatClampNeg) n.toNatClampNeg) s H' → W p l e R s m args below meth cd H' locs (cells + 1) (slots + n.toNatClampNeg) Q (F0 m (pc + 3) ls (bi_tr (bi_nx h) :: rest))) : W p l e R s m args below meth cd H locs cells slots Q (F0 m pc ls (.int n :: rest)) := by
  have h13 := bi_c13 hq
  have hs : H.size + 1 = bi_nx h := hr.1.1
  rw [bi_nxr hr] at kk
  refine W.anew hx hb hown (bi_hts hr hcl rfl) (bi_hts hr hov rfl) rfl hdg rfl hn (by omega) hcells hslots fun cA kA comp h1 h2 h3 h4 => ?_
  have hAr : ArrOfT s cA (.object q.1) := fun n z => ⟨fun k h => (by cases h), kA, h2, comp, h3⟩
  rw [arrV_new]
  refine kk _ (hr.born (by simp) (fun x hx => by rw [Array.getElem?_push, if_neg (Nat.ne_of_lt hx)]) ⟨fun c0 g1 g2 => ?_, fun ty hty => ?_⟩)
  · rw [bi_new_k hs] at g1
    have g1 : 40 + c = 10 + c0 := g1
    omega
  · rw [bi_new_k hs] at hty ⊢
    have hty : bi_aty (40 + c) = some ty := hty
    have hte : ty = .object q.1 := by
      unfold bi_aty at hty
      rw [if_neg (by omega), if_neg (by omega), if_neg (by omega), if_neg (by omega), if_pos (by omega), show 40 + c - 40 = c by omega, hq] at hty
      exact (Option.some.inj hty).symm
    subst hte
    refine ⟨_, Array.getElem?_push_size, hAr _ _, (fun z => by cases z), arrV_size _ _ _, fun j hj => ?_, fun C hC => ?_⟩
    · rw [arrV_read _ _ hj]
      have h3 : ¬ 40 + c = 3 := by omega
      have h40 : 40 ≤ 40 + c := by omega
      simp [bi_av, h3, h40, bi_ar, bi_new, hs, bi_tr]
    · cases hC
      exact ⟨kA, comp, h2, h3, h4⟩
end BN
end
section
/-! the interpreter's straight instructions, of the machine -/
def bi_lq (q : Nat × bi_V) : Nat × Value := (q.1, bi_tv q.2)
/-- the machine at a place of a method, its locals, its stack and its heap as the interpreter has them, comes to Q -/
def bi_At (p : Program) (l : Launch) (e : Env) (R : Room) (s : State) (m : MethodId) (args : Array Value) (below : List Frame) (meth : Method) (cd : Code) (Q : State → Prop) (D : va_G) (B0 : Nat) (Hb : Heap) (nL n0 m0 : Nat) (pc : Nat) (L : bi_L) (st : List bi_V) (h : bi_H) : Prop :=
  ∀ (H : Heap) (locs : List Loc) (ls : Array Slot) (cells slots : Nat), bi_rp D B0 Hb h s H → lv_has ls nL (L.map bi_lq) → (∀ q ∈ L, bi_w q.2 = 1) → (∀ q ∈ locs, B0 ≤ q.base) → n0 + cells = bi_nc h → m0 + slots = bi_ns h → W p l e R s m args below meth cd H locs cells slots Q (F0 m pc ls (st.map bi_tv))
theorem bi_cat (v : bi_V) : (bi_tv v).category = bi_w v := by
  rcases v with x | a | x
  · rfl
  · cases a <;> rfl
  · rfl
theorem bi_lk {L : bi_L} {i : Nat} {v : bi_V} (h : L.lookup i = some v) : (i, v) ∈ L := by
  induction L with
  | nil => cases h
  | cons q L ih =>
    obtain ⟨k, w⟩ := q
    rw [List.lookup_cons] at h
    by_cases e : (i == k) = true
    · rw [e] at h
      cases h
      have e : i = k := by simpa using e
      subst e
      exact List.mem_cons_self
    · have e' : (i == k) = false := by simpa using e
      rw [e'] at h
      exact List.mem_cons_of_mem _ (ih h)
theorem bi_lka {L : bi_L} {i nL : Nat} {v : bi_V} {ls : Array Slot} (h : L.lookup i = some v) (hl : lv_has ls nL (L.map bi_lq)) : ls[i]? = some (.val (bi_tv v)) := hl.2.2 (i, bi_tv v) (List.mem_map.mpr ⟨(i, v), bi_lk h, rfl⟩)
theorem bi_stl {L : bi_L} {i nL : Nat} {v : bi_V} {ls : Array Slot} (hw : ∀ q ∈ L, bi_w q.2 = 1) (hl : lv_has ls nL ((i, bi_tv v) :: (L.map bi_lq).filter (fun q => !(q.1 == i) && !(q.1 + 1 == i && q.2.category == 2)))) : lv_has ls nL ((bi_st L i v).map bi_lq) := by
  refine ⟨hl.1, hl.2.1, fun q hq => hl.2.2 q ?_⟩
  obtain ⟨x, hx, rfl⟩ := List.mem_map.mp hq
  rcases List.mem_cons.mp hx with rfl | hx
  · exact List.mem_cons_self
  · obtain ⟨h1, h2⟩ := List.mem_filter.mp hx
    refine List.mem_cons_of_mem _ (List.mem_filter.mpr ⟨List.mem_map.mpr ⟨x, h1, rfl⟩, ?_⟩)
    have h3 : (bi_lq x).2.category = 1 := by rw [show (bi_lq x).2 = bi_tv x.2 from rfl, bi_cat, hw x h1]
    have h4 : (bi_lq x).1 = x.1 := rfl
    simp only [h3, h4]
    simpa using h2
theorem bi_stw {L : bi_L} {i : Nat} {v : bi_V} (hw : ∀ q ∈ L, bi_w q.2 = 1) (hv : bi_w v = 1) : ∀ q ∈ bi_st L i v, bi_w q.2 = 1 := by
  intro q hq
  rcases List.mem_cons.mp hq with rfl | hq
  · exact hv
  · exact hw q (List.mem_filter.mp hq).1
/-- an instruction's length -/
def bi_len (i : Instr) : Nat := match i with
  | .iload _ | .aload _ | .istore _ | .astore _ | .bipush _ | .ldc _ | .newarray _ => 2
  | .sipush _ | .ldc_w _ | .iinc _ _ | .getfield _ | .putfield _ | .anewarray _ | .new _ | .invokestatic _ | .invokevirtual _ | .invokespecial _ => 3
  | .multianewarray _ _ => 4
  | _ => 1
/-- what must hold of an instruction, its pool entry and the method that it stands in -/
def bi_oki (own : String) (nL : Nat) (ini : Bool) (i : Instr) (r : bi_R) : Prop := match i with
  | .bipush n => (Int8.ofInt n).toInt32 = Int32.ofInt n
  | .sipush n => (Int16.ofInt n).toInt32 = Int32.ofInt n
  | .ldc k => Cond.constant own k (Int32.ofNat r.1) ∈ lw_tbl
  | .ldc_w k => Cond.constant own k (Int32.ofNat r.1) ∈ lw_tbl
  | .istore_n k => k.val < nL
  | .istore k => k < nL
  | .astore_n k => k.val < nL
  | .astore k => k < nL
  | .iinc k _ => k < nL
  | .getfield k => ∃ q, vwCl[r.1]? = some q ∧ r.2.1 < q.2.2 ∧ bi_fl own k q r.2.1 ∧ r.2.2.1 = bi_ft r.1 r.2.1
  | .putfield k => ∃ q, vwCl[r.1]? = some q ∧ r.2.1 < q.2.2 ∧ bi_fl own k q r.2.1 ∧ r.2.2.1 = bi_ft r.1 r.2.1 ∧ ((q.2.1 r.2.1).2.2.2 = false ∨ ((q.2.1 r.2.1).1 = own ∧ ini = true ∧ Cond.fieldLink own k (q.2.1 r.2.1).1 (q.2.1 r.2.1).2.1 (q.2.1 r.2.1).2.2.1 ∈ lw_tbl))
  | .newarray t => Cond.arrayClass (newarray.typeOf t) ∈ lw_tbl
  | .anewarray k => ∃ q, vwCl[r.1]? = some q ∧ Cond.classLink own k q.1 ∈ lw_tbl ∧ Cond.arrayOver (.object q.1) ∈ lw_tbl
  | .new k => ∃ q, vwCl[r.1]? = some q ∧ r.2.1 = q.2.2 ∧ Cond.classLink own k q.1 ∈ lw_tbl ∧ Cond.instantiable q.1 q.2.2 ∈ lw_tbl ∧ Cond.initialized q.1 ∈ lw_tbl
  | .multianewarray k d => d = 2 ∧ Cond.classLink own k "[[I" ∈ lw_tbl ∧ Cond.arrayOver (.array .int) ∈ lw_tbl ∧ Cond.arrayClass .int ∈ lw_tbl
  | _ => True
section BX
variable {p : Program} {l : Launch} {e : Env} {R : Room} {s : State} {m : MethodId} {args : Array Value} {below : List Frame} {meth : Method} {cd : Code} {Q : State → Prop} {D : va_G} {B0 : Nat} {Hb : Heap} {nL n0 m0 : Nat} {cc : ByteArray} {pc : Nat} {own : String} {L L' : bi_L} {st st' : List bi_V} {h h' : bi_H} {ini : Bool} {r : bi_R} {cf : Nat → List bi_V → bi_H → Option (Option bi_V × bi_H)}
theorem bi_s_ldi {k : Nat} {i : Instr} (hx : p.tables.exec = Jvm.exec) (hb : cd.code = cc) (hi : (∃ n : Fin 4, i = .iload_n n ∧ n.val = k) ∨ i = .iload k) (hdg : decode cc pc = .ok (i, bi_len i)) (he : bi_ldi L k st h = some (L', st', h')) (kk : bi_At p l e R s m args below meth cd Q D B0 Hb nL n0 m0 (pc + bi_len i) L' st' h') : bi_At p l e R s m args below meth cd Q D B0 Hb nL n0 m0 pc L st h := by
  intro H locs ls cells slots hr hl hw hlc hc hs
  unfold bi_ldi at he
  split at he
  · rename_i x hx0
    cases he
    have h1 := bi_lka hx0 hl
    rcases hi with ⟨n, rfl, rfl⟩ | rfl
    · exact lv_iload_n hx hb hdg rfl h1 (kk H locs ls cells slots hr hl hw hlc hc hs)
    · exact lv_iload hx hb hdg h1 (kk H locs ls cells slots hr hl hw hlc hc hs)
  · cases he
theorem bi_s_lda {k : Nat} {i : Instr} (hx : p.tables.exec = Jvm.exec) (hb : cd.code = cc) (hi : (∃ n : Fin 4, i = .aload_n n ∧ n.val = k) ∨ i = .aload k) (hdg : decode cc pc = .ok (i, bi_len i)) (he : bi_lda L k st h = some (L', st', h')) (kk : bi_At p l e R s m args below meth cd Q D B0 Hb nL n0 m0 (pc + bi_len i) L' st' h') : bi_At p l e R s m args below meth cd Q D B0 Hb nL n0 m0 pc L st h := by
  intro H locs ls cells slots hr hl hw hlc hc hs
  unfold bi_lda at he
  split at he
  · rename_i a hx0
    cases he
    have h1 := bi_lka hx0 hl
    have k1 := kk H locs ls cells slots hr hl hw hlc hc hs
    cases a with
    | zero =>
      rcases hi with ⟨n, rfl, rfl⟩ | rfl
      · exact lv_aload_nN hx hb hdg rfl h1 k1
      · exact lv_aloadN hx hb hdg h1 k1
    | succ a =>
      rcases hi with ⟨n, rfl, rfl⟩ | rfl
      · exact lv_aload_n hx hb hdg rfl h1 k1
      · exact lv_aload hx hb hdg h1 k1
  · cases he
theorem bi_s_sti {k : Nat} {i : Instr} (hx : p.tables.exec = Jvm.exec) (hb : cd.code = cc) (hi : (∃ n : Fin 4, i = .istore_n n ∧ n.val = k) ∨ i = .istore k) (hk : k < nL) (hdg : decode cc pc = .ok (i, bi_len i)) (he : bi_sti L k st h = some (L', st', h')) (kk : bi_At p l e R s m args below meth cd Q D B0 Hb nL n0 m0 (pc + bi_len i) L' st' h') : bi_At p l e R s m args below meth cd Q D B0 Hb nL n0 m0 pc L st h := by
  intro H locs ls cells slots hr hl hw hlc hc hs
  unfold bi_sti at he
  split at he
  · rename_i x st0
    cases he
    have k1 : ∀ ls' : Array Slot, lv_has ls' nL ((k, Value.int x) :: (L.map bi_lq).filter (fun q => !(q.1 == k) && !(q.1 + 1 == k && q.2.category == 2))) → W p l e R s m args below meth cd H locs cells slots Q (F0 m (pc + bi_len i) ls' (st'.map bi_tv)) := fun ls' h9 => kk H locs ls' cells slots hr (bi_stl (v := .inl x) hw h9) (bi_stw hw rfl) hlc hc hs
    rcases hi with ⟨n, rfl, rfl⟩ | rfl
    · exact lv_istore_n hx hb hdg rfl hl hk rfl k1
    · exact lv_istore hx hb hdg hl hk rfl k1
  · cases he
theorem bi_s_sta {k : Nat} {i : Instr} (hx : p.tables.exec = Jvm.exec) (hb : cd.code = cc) (hi : (∃ n : Fin 4, i = .astore_n n ∧ n.val = k) ∨ i = .astore k) (hk : k < nL) (hdg : decode cc pc = .ok (i, bi_len i)) (he : bi_sta L k st h = some (L', st', h')) (kk : bi_At p l e R s m args below meth cd Q D B0 Hb nL n0 m0 (pc + bi_len i) L' st' h') : bi_At p l e R s m args below meth cd Q D B0 Hb nL n0 m0 pc L st h := by
  intro H locs ls cells slots hr hl hw hlc hc hs
  unfold bi_sta at he
  split at he
  · rename_i a st0
    cases he
    have k1 : ∀ ls' : Array Slot, lv_has ls' nL ((k, bi_tr a) :: (L.map bi_lq).filter (fun q => !(q.1 == k) && !(q.1 + 1 == k && q.2.category == 2))) → W p l e R s m args below meth cd H locs cells slots Q (F0 m (pc + bi_len i) ls' (st'.map bi_tv)) := fun ls' h9 => kk H locs ls' cells slots hr (bi_stl (v := .inr (.inl a)) hw h9) (bi_stw hw rfl) hlc hc hs
    cases a with
    | zero =>
      rcases hi with ⟨n, rfl, rfl⟩ | rfl
      · exact lv_astore_nN hx hb hdg rfl hl hk rfl k1
      · exact lv_astoreN hx hb hdg hl hk rfl k1
    | succ a =>
      rcases hi with ⟨n, rfl, rfl⟩ | rfl
      · exact lv_astore_n hx hb hdg rfl hl hk rfl k1
      · exact lv_astore hx hb hdg hl hk rfl k1
  · cases he
end BX
end
section
/-! the interpreter's straight instructions, of the machine: numbers, fields, arrays, new cells -/
section BY
variable {p : Program} {l : Launch} {e : Env} {R : Room} {s : State} {m : MethodId} {args : Array Value} {below : List Frame} {meth : Method} {cd : Code} {Q : State → Prop} {D : va_G} {B0 : Nat} {Hb : Heap} {nL n0 m0 : Nat} {cc : ByteArray} {pc : Nat} {own : String} {L L' : bi_L} {st st' : List bi_V} {h h' : bi_H} {ini : Bool} {r : bi_R} {cf : Nat → List bi_V → bi_H → Option (Option bi_V × bi_H)}
theorem bi_s_op2 {f : Int32 → Int32 → Int32} (row : ∀ (x y : Int32) (H : Heap) (locs : List Loc) (ls : Array Slot) (cells slots : Nat) (rest : List Value), W p l e R s m args below meth cd H locs cells slots Q (F0 m (pc + 1) ls (.int (f x y) :: rest)) → W p l e R s m args below meth cd H locs cells slots Q (F0 m pc ls (.int y :: .int x :: rest))) (he : bi_op2 f L st h = some (L', st', h')) (kk : bi_At p l e R s m args below meth cd Q D B0 Hb nL n0 m0 (pc + 1) L' st' h') : bi_At p l e R s m args below meth cd Q D B0 Hb nL n0 m0 pc L st h := by
  intro H locs ls cells slots hr hl hw hlc hc hs
  unfold bi_op2 at he
  split at he
  · cases he
    exact row _ _ H locs ls cells slots _ (kk H locs ls cells slots hr hl hw hlc hc hs)
  · cases he
theorem bi_s_num {v : Int32} {n : Nat} (row : ∀ (H : Heap) (locs : List Loc) (ls : Array Slot) (cells slots : Nat) (rest : List Value) (s0 : bi_rp D B0 Hb h s H), W p l e R s m args below meth cd H locs cells slots Q (F0 m (pc + n) ls (.int v :: rest)) → W p l e R s m args below meth cd H locs cells slots Q (F0 m pc ls rest)) (kk : bi_At p l e R s m args below meth cd Q D B0 Hb nL n0 m0 (pc + n) L (.inl v :: st) h) : bi_At p l e R s m args below meth cd Q D B0 Hb nL n0 m0 pc L st h := by
  intro H locs ls cells slots hr hl hw hlc hc hs
  exact row H locs ls cells slots _ hr (kk H locs ls cells slots hr hl hw hlc hc hs)
theorem bi_s_iinc {k : Nat} {v : Int} (hx : p.tables.exec = Jvm.exec) (hb : cd.code = cc) (hk : k < nL) (hdg : decode cc pc = .ok (.iinc k v, 3)) (he : bi_x cf (.iinc k v) r L st h = some (L', st', h')) (kk : bi_At p l e R s m args below meth cd Q D B0 Hb nL n0 m0 (pc + 3) L' st' h') : bi_At p l e R s m args below meth cd Q D B0 Hb nL n0 m0 pc L st h := by
  intro H locs ls cells slots hr hl hw hlc hc hs
  unfold bi_x at he
  dsimp only at he
  split at he
  · rename_i x hx0
    cases he
    have hm : (k, bi_tv (.inl x)) ∈ L.map bi_lq := List.mem_map.mpr ⟨(k, .inl x), bi_lk hx0, rfl⟩
    obtain ⟨j, hj⟩ := List.getElem?_of_mem hm
    exact lv_iinc hx hb hdg hl hj rfl hk rfl (fun ls' h9 => kk H locs ls' cells slots hr (bi_stl (v := .inl (x + Int32.ofInt v)) hw h9) (bi_stw hw rfl) hlc hc hs)
  · cases he
theorem bi_s_div (hx : p.tables.exec = Jvm.exec) (hb : cd.code = cc) (hdg : decode cc pc = .ok (.idiv, 1)) (he : bi_x cf .idiv r L st h = some (L', st', h')) (kk : bi_At p l e R s m args below meth cd Q D B0 Hb nL n0 m0 (pc + 1) L' st' h') : bi_At p l e R s m args below meth cd Q D B0 Hb nL n0 m0 pc L st h := by
  intro H locs ls cells slots hr hl hw hlc hc hs
  unfold bi_x at he
  dsimp only at he
  split at he
  · split at he
    · cases he
    · rename_i hy
      cases he
      exact lv_idiv hx hb hdg hy (kk H locs ls cells slots hr hl hw hlc hc hs)
  · cases he
theorem bi_s_rem (hx : p.tables.exec = Jvm.exec) (hb : cd.code = cc) (hdg : decode cc pc = .ok (.irem, 1)) (he : bi_x cf .irem r L st h = some (L', st', h')) (kk : bi_At p l e R s m args below meth cd Q D B0 Hb nL n0 m0 (pc + 1) L' st' h') : bi_At p l e R s m args below meth cd Q D B0 Hb nL n0 m0 pc L st h := by
  intro H locs ls cells slots hr hl hw hlc hc hs
  unfold bi_x at he
  dsimp only at he
  split at he
  · split at he
    · cases he
    · rename_i hy
      cases he
      exact lv_irem hx hb hdg hy (kk H locs ls cells slots hr hl hw hlc hc hs)
  · cases he
theorem bi_lt64 (x y : Int32) : x.toInt64 < y.toInt64 ↔ x < y := by
  rw [Int64.lt_iff_toInt_lt, Int32.lt_iff_toInt_lt, Int32.toInt_toInt64, Int32.toInt_toInt64]
theorem bi_eq64 (x y : Int32) : x.toInt64 = y.toInt64 ↔ x = y := by
  rw [← Int64.toInt_inj, ← Int32.toInt_inj, Int32.toInt_toInt64, Int32.toInt_toInt64]
theorem bi_lcmp (x y : Int32) : lg_cmp x.toInt64 y.toInt64 = (if y < x then 1 else if x = y then 0 else -1) := by
  simp only [lg_cmp, bi_lt64, bi_eq64]
theorem bi_s_i2l (hx : p.tables.exec = Jvm.exec) (hb : cd.code = cc) (hdg : decode cc pc = .ok (.i2l, 1)) (he : bi_x cf .i2l r L st h = some (L', st', h')) (kk : bi_At p l e R s m args below meth cd Q D B0 Hb nL n0 m0 (pc + 1) L' st' h') : bi_At p l e R s m args below meth cd Q D B0 Hb nL n0 m0 pc L st h := by
  intro H locs ls cells slots hr hl hw hlc hc hs
  unfold bi_x at he
  dsimp only at he
  split at he
  · cases he
    exact lv_i2l hx hb hdg rfl (kk H locs ls cells slots hr hl hw hlc hc hs)
  · cases he
theorem bi_s_lcmp (hx : p.tables.exec = Jvm.exec) (hb : cd.code = cc) (hdg : decode cc pc = .ok (.lcmp, 1)) (he : bi_x cf .lcmp r L st h = some (L', st', h')) (kk : bi_At p l e R s m args below meth cd Q D B0 Hb nL n0 m0 (pc + 1) L' st' h') : bi_At p l e R s m args below meth cd Q D B0 Hb nL n0 m0 pc L st h := by
  intro H locs ls cells slots hr hl hw hlc hc hs
  unfold bi_x at he
  dsimp only at he
  split at he
  · rename_i y x st0
    cases he
    refine W.lcmp hx hb hdg ?_
    rw [bi_lcmp]
    exact kk H locs ls cells slots hr hl hw hlc hc hs
  · cases he
theorem bi_s_dup (hx : p.tables.exec = Jvm.exec) (hb : cd.code = cc) (hdg : decode cc pc = .ok (.dup, 1)) (he : bi_x cf .dup r L st h = some (L', st', h')) (kk : bi_At p l e R s m args below meth cd Q D B0 Hb nL n0 m0 (pc + 1) L' st' h') : bi_At p l e R s m args below meth cd Q D B0 Hb nL n0 m0 pc L st h := by
  intro H locs ls cells slots hr hl hw hlc hc hs
  unfold bi_x at he
  dsimp only at he
  split at he
  · split at he
    · rename_i hv
      cases he
      exact lv_dup hx hb hdg (by rw [bi_cat]; exact hv) (kk H locs ls cells slots hr hl hw hlc hc hs)
    · cases he
  · cases he
theorem bi_s_dup2 (hx : p.tables.exec = Jvm.exec) (hb : cd.code = cc) (hdg : decode cc pc = .ok (.dup2, 1)) (he : bi_x cf .dup2 r L st h = some (L', st', h')) (kk : bi_At p l e R s m args below meth cd Q D B0 Hb nL n0 m0 (pc + 1) L' st' h') : bi_At p l e R s m args below meth cd Q D B0 Hb nL n0 m0 pc L st h := by
  intro H locs ls cells slots hr hl hw hlc hc hs
  unfold bi_x at he
  dsimp only at he
  split at he
  · split at he
    · rename_i hv
      cases he
      exact lv_dup2_11 hx hb hdg (by rw [bi_cat]; exact hv.1) (by rw [bi_cat]; exact hv.2) (kk H locs ls cells slots hr hl hw hlc hc hs)
    · cases he
  · cases he
theorem bi_kz {H : Heap} (hr : bi_rp D B0 Hb h s H) {a : Nat} (ha : (bi_k h a).1 ≠ 0) : ∃ b, a = b + 1 := by
  cases a with
  | zero => exact absurd hr.2.2.2.1 ha
  | succ b => exact ⟨b, rfl⟩
theorem bi_s_get {k : Nat} (hx : p.tables.exec = Jvm.exec) (hb : cd.code = cc) (hown : s.vm.findClass own = some m.cls) (hok : bi_oki own nL ini (.getfield k) r) (hdg : decode cc pc = .ok (.getfield k, 3)) (he : bi_x cf (.getfield k) r L st h = some (L', st', h')) (kk : bi_At p l e R s m args below meth cd Q D B0 Hb nL n0 m0 (pc + 3) L' st' h') : bi_At p l e R s m args below meth cd Q D B0 Hb nL n0 m0 pc L st h := by
  intro H locs ls cells slots hr hl hw hlc hc hs
  obtain ⟨q, hq, hkn, hfl, hft⟩ := hok
  unfold bi_x at he
  dsimp only at he
  split at he
  · rename_i a st0
    split at he
    · rename_i ha
      cases he
      obtain ⟨b, rfl⟩ := bi_kz hr (a := a) (by omega)
      have k1 := kk H locs ls cells slots hr hl hw hlc hc hs
      refine bi_get hx hb hown hr ha hq hkn hfl hdg ?_
      rw [hft] at k1
      have e0 : bi_tv (if bi_ft r.1 r.2.1 = 1 then .inr (.inl (bi_fr h r.1 r.2.1 (b + 1))) else .inl (bi_fi h r.1 r.2.1 (b + 1))) = bi_fv h r.1 r.2.1 (b + 1) := by
        unfold bi_fv
        split <;> rfl
      rw [List.map_cons, e0] at k1
      exact k1
    · cases he
  · cases he
theorem bi_s_put {k : Nat} (hx : p.tables.exec = Jvm.exec) (hb : cd.code = cc) (hown : s.vm.findClass own = some m.cls) (hini : ini = true → meth.name = "<init>") (hok : bi_oki own nL ini (.putfield k) r) (hdg : decode cc pc = .ok (.putfield k, 3)) (he : bi_x cf (.putfield k) r L st h = some (L', st', h')) (kk : bi_At p l e R s m args below meth cd Q D B0 Hb nL n0 m0 (pc + 3) L' st' h') : bi_At p l e R s m args below meth cd Q D B0 Hb nL n0 m0 pc L st h := by
  intro H locs ls cells slots hr hl hw hlc hc hs
  obtain ⟨q, hq, hkn, hfl, hft, hfin⟩ := hok
  have h13 := bi_c13 hq
  have h39 := Nat.lt_of_lt_of_le hkn (bi_n39 _ q hq)
  have hfin' : (q.2.1 r.2.1).2.2.2 = false ∨ ((q.2.1 r.2.1).1 = own ∧ meth.name = "<init>" ∧ Cond.fieldLink own k (q.2.1 r.2.1).1 (q.2.1 r.2.1).2.1 (q.2.1 r.2.1).2.2.1 ∈ lw_tbl) := hfin.imp id (fun z => ⟨z.1, hini z.2.1, z.2.2⟩)
  have hlc' : ∀ {a i : Nat}, B0 ≤ a → ∀ z ∈ locs ++ [(⟨a, i⟩ : Loc)], B0 ≤ z.base := fun ha z hz => by
    rcases List.mem_append.mp hz with hz | hz
    · exact hlc z hz
    · rw [List.mem_singleton.mp hz]; exact ha
  unfold bi_x at he
  dsimp only at he
  split at he
  · rename_i x a st0
    split at he
    · rename_i ha
      cases he
      obtain ⟨b, rfl⟩ := bi_kz hr (a := a) (by omega)
      have hB : B0 ≤ b := (hr.2.2.2.2.1 b (by omega)).2 (by omega)
      have hft1 : bi_ft r.1 r.2.1 ≠ 1 := by omega
      have hn : narrow (bi_ty r.1 r.2.1) (.int x) = .int x ∧ fits (bi_ty r.1 r.2.1) (.int x) = true := by
        rcases ha.2 with z | ⟨z, z2⟩
        · rw [bi_ty_i _ h13 _ h39 (by omega)]
          exact ⟨rfl, rfl⟩
        · rw [bi_ty_z _ h13 _ h39 (by omega)]
          exact bi_nar_z z2
      refine bi_put (h' := bi_sfi h r.1 r.2.1 (b + 1) x) hx hb hown hr ha.1 hq hkn hfl hfin' hn (fun _ => rfl) rfl (fun c0 k0 b0 hb0 => ?_) (fun j => ?_) (fun t b0 j0 _ => rfl) hdg (fun H' i hr' => kk H' _ ls cells slots hr' hl hw (hlc' hB) hc hs)
      · simp [bi_fv, bi_fr, bi_fi, bi_sfi, hb0]
      · by_cases ej : j = r.2.1
        · subst ej
          simp [bi_fv, bi_fr, bi_fi, bi_sfi, updV, hft1, bi_tv]
        · simp [bi_fv, bi_fr, bi_fi, bi_sfi, updV, ej]
    · cases he
  · rename_i x a st0
    split at he
    · rename_i ha
      cases he
      obtain ⟨b, rfl⟩ := bi_kz hr (a := a) (by omega)
      have hB : B0 ≤ b := (hr.2.2.2.2.1 b (by omega)).2 (by omega)
      have hft1 : bi_ft r.1 r.2.1 = 1 := by omega
      have hn := bi_nar_r (bi_ty_r _ h13 _ h39 hft1) x
      refine bi_put (v := bi_tr x) (h' := bi_sfr h r.1 r.2.1 (b + 1) x) hx hb hown hr ha.1 hq hkn hfl hfin' hn (fun _ => rfl) rfl (fun c0 k0 b0 hb0 => ?_) (fun j => ?_) (fun t b0 j0 _ => rfl) hdg (fun H' i hr' => kk H' _ ls cells slots hr' hl hw (hlc' hB) hc hs)
      · simp [bi_fv, bi_fr, bi_fi, bi_sfr, hb0]
      · by_cases ej : j = r.2.1
        · subst ej
          simp [bi_fv, bi_fr, bi_fi, bi_sfr, updV, hft1]
        · simp [bi_fv, bi_fr, bi_fi, bi_sfr, updV, ej]
    · cases he
  · cases he
end BY
end
section
/-! the interpreter's straight instructions, of the machine: arrays, new cells; then all of them -/
section BZ
variable {p : Program} {l : Launch} {e : Env} {R : Room} {s : State} {m : MethodId} {args : Array Value} {below : List Frame} {meth : Method} {cd : Code} {Q : State → Prop} {D : va_G} {B0 : Nat} {Hb : Heap} {nL n0 m0 : Nat} {cc : ByteArray} {pc : Nat} {own : String} {L L' : bi_L} {st st' : List bi_V} {h h' : bi_H} {ini : Bool} {r : bi_R} {cf : Nat → List bi_V → bi_H → Option (Option bi_V × bi_H)}
theorem bi_lcs {locs : List Loc} {B0 a i : Nat} (hlc : ∀ z ∈ locs, B0 ≤ z.base) (ha : B0 ≤ a) : ∀ z ∈ locs ++ [(⟨a, i⟩ : Loc)], B0 ≤ z.base := fun z hz => by
  rcases List.mem_append.mp hz with hz | hz
  · exact hlc z hz
  · rw [List.mem_singleton.mp hz]; exact ha
theorem bi_lo {H : Heap} (hr : bi_rp D B0 Hb h s H) {b : Nat} (h0 : (bi_k h (b + 1)).1 ≠ 0) (h4 : (bi_k h (b + 1)).1 ≠ 4) : B0 ≤ b := (hr.2.2.2.2.1 b h0).2 h4
theorem bi_s_iald (hx : p.tables.exec = Jvm.exec) (hb : cd.code = cc) (hdg : decode cc pc = .ok (.iaload, 1)) (he : bi_x cf .iaload r L st h = some (L', st', h')) (kk : bi_At p l e R s m args below meth cd Q D B0 Hb nL n0 m0 (pc + 1) L' st' h') : bi_At p l e R s m args below meth cd Q D B0 Hb nL n0 m0 pc L st h := by
  intro H locs ls cells slots hr hl hw hlc hc hs
  unfold bi_x at he
  dsimp only at he
  split at he
  · split at he
    · rename_i j a st0 ha
      cases he
      obtain ⟨b, rfl⟩ := bi_kz hr (a := a) (by omega)
      exact bi_iald hx hb hr ha.1 ha.2.1 ha.2.2 hdg (kk H locs ls cells slots hr hl hw hlc hc hs)
    · cases he
  · cases he
theorem bi_s_bald (hx : p.tables.exec = Jvm.exec) (hb : cd.code = cc) (hdg : decode cc pc = .ok (.baload, 1)) (he : bi_x cf .baload r L st h = some (L', st', h')) (kk : bi_At p l e R s m args below meth cd Q D B0 Hb nL n0 m0 (pc + 1) L' st' h') : bi_At p l e R s m args below meth cd Q D B0 Hb nL n0 m0 pc L st h := by
  intro H locs ls cells slots hr hl hw hlc hc hs
  unfold bi_x at he
  dsimp only at he
  split at he
  · split at he
    · rename_i j a st0 ha
      cases he
      obtain ⟨b, rfl⟩ := bi_kz hr (a := a) (by omega)
      exact bi_zald hx hb hr ha.1 ha.2.1 ha.2.2 hdg (kk H locs ls cells slots hr hl hw hlc hc hs)
    · cases he
  · cases he
theorem bi_s_lald (hx : p.tables.exec = Jvm.exec) (hb : cd.code = cc) (hdg : decode cc pc = .ok (.laload, 1)) (he : bi_x cf .laload r L st h = some (L', st', h')) (kk : bi_At p l e R s m args below meth cd Q D B0 Hb nL n0 m0 (pc + 1) L' st' h') : bi_At p l e R s m args below meth cd Q D B0 Hb nL n0 m0 pc L st h := by
  intro H locs ls cells slots hr hl hw hlc hc hs
  unfold bi_x at he
  dsimp only at he
  split at he
  · split at he
    · rename_i j a st0 ha
      cases he
      obtain ⟨b, rfl⟩ := bi_kz hr (a := a) (by omega)
      exact bi_lald hx hb hr ha.1 ha.2.1 ha.2.2 hdg (kk H locs ls cells slots hr hl hw hlc hc hs)
    · cases he
  · cases he
theorem bi_aty_q {c : Nat} (h : c < 13) : ∃ q, vwCl[c]? = some q ∧ bi_aty (40 + c) = some (.object q.1) := by
  have hl : c < vwCl.length := h
  refine ⟨vwCl[c], List.getElem?_eq_getElem hl, ?_⟩
  unfold bi_aty
  rw [if_neg (by omega), if_neg (by omega), if_neg (by omega), if_neg (by omega), if_pos (by omega), show 40 + c - 40 = c by omega, List.getElem?_eq_getElem hl]
  rfl
theorem bi_aty_some {t : Nat} (h : (1 ≤ t ∧ t ≤ 5) ∨ (40 ≤ t ∧ t < 53)) : ∃ ty, bi_aty t = some ty := by
  rcases h with ⟨h1, h2⟩ | ⟨h1, h2⟩
  · have : t = 1 ∨ t = 2 ∨ t = 3 ∨ t = 4 ∨ t = 5 := by omega
    rcases this with rfl | rfl | rfl | rfl | rfl <;> exact ⟨_, rfl⟩
  · obtain ⟨q, -, hq⟩ := bi_aty_q (c := t - 40) (by omega)
    rw [show 40 + (t - 40) = t by omega] at hq
    exact ⟨_, hq⟩
theorem bi_s_aald (hx : p.tables.exec = Jvm.exec) (hb : cd.code = cc) (hdg : decode cc pc = .ok (.aaload, 1)) (he : bi_x cf .aaload r L st h = some (L', st', h')) (kk : bi_At p l e R s m args below meth cd Q D B0 Hb nL n0 m0 (pc + 1) L' st' h') : bi_At p l e R s m args below meth cd Q D B0 Hb nL n0 m0 pc L st h := by
  intro H locs ls cells slots hr hl hw hlc hc hs
  unfold bi_x at he
  dsimp only at he
  split at he
  · split at he
    · rename_i j a st0 ha
      cases he
      obtain ⟨b, rfl⟩ := bi_kz hr (a := a) (by omega)
      obtain ⟨ty, hty⟩ := bi_aty_some (t := (bi_k h (b + 1)).1) (by omega)
      exact bi_aald hx hb hr (by omega) hty ha.2.1 ha.2.2 hdg (kk H locs ls cells slots hr hl hw hlc hc hs)
    · cases he
  · cases he
theorem bi_s_alen (hx : p.tables.exec = Jvm.exec) (hb : cd.code = cc) (hdg : decode cc pc = .ok (.arraylength, 1)) (he : bi_x cf .arraylength r L st h = some (L', st', h')) (kk : bi_At p l e R s m args below meth cd Q D B0 Hb nL n0 m0 (pc + 1) L' st' h') : bi_At p l e R s m args below meth cd Q D B0 Hb nL n0 m0 pc L st h := by
  intro H locs ls cells slots hr hl hw hlc hc hs
  unfold bi_x at he
  dsimp only at he
  split at he
  · split at he
    · rename_i a st0 ha
      cases he
      obtain ⟨b, rfl⟩ := bi_kz hr (a := a) (by omega)
      obtain ⟨ty, hty⟩ := bi_aty_some ha
      exact bi_alen hx hb hr hty hdg (kk H locs ls cells slots hr hl hw hlc hc hs)
    · cases he
  · cases he
theorem bi_s_iast (hx : p.tables.exec = Jvm.exec) (hb : cd.code = cc) (hdg : decode cc pc = .ok (.iastore, 1)) (he : bi_x cf .iastore r L st h = some (L', st', h')) (kk : bi_At p l e R s m args below meth cd Q D B0 Hb nL n0 m0 (pc + 1) L' st' h') : bi_At p l e R s m args below meth cd Q D B0 Hb nL n0 m0 pc L st h := by
  intro H locs ls cells slots hr hl hw hlc hc hs
  unfold bi_x at he
  dsimp only at he
  split at he
  · split at he
    · rename_i x j a st0 ha
      cases he
      obtain ⟨b, rfl⟩ := bi_kz hr (a := a) (by omega)
      exact bi_iast hx hb hr ha.1 ha.2.1 ha.2.2 hdg (fun H' i hr' => kk H' _ ls cells slots hr' hl hw (bi_lcs hlc (bi_lo hr (by omega) (by omega))) hc hs)
    · cases he
  · cases he
theorem bi_s_bast (hx : p.tables.exec = Jvm.exec) (hb : cd.code = cc) (hdg : decode cc pc = .ok (.bastore, 1)) (he : bi_x cf .bastore r L st h = some (L', st', h')) (kk : bi_At p l e R s m args below meth cd Q D B0 Hb nL n0 m0 (pc + 1) L' st' h') : bi_At p l e R s m args below meth cd Q D B0 Hb nL n0 m0 pc L st h := by
  intro H locs ls cells slots hr hl hw hlc hc hs
  unfold bi_x at he
  dsimp only at he
  split at he
  · split at he
    · rename_i x j a st0 ha
      cases he
      obtain ⟨b, rfl⟩ := bi_kz hr (a := a) (by omega)
      exact bi_zast hx hb hr ha.1 ha.2.1 ha.2.2.1 ha.2.2.2 hdg (fun H' i hr' => kk H' _ ls cells slots hr' hl hw (bi_lcs hlc (bi_lo hr (by omega) (by omega))) hc hs)
    · cases he
  · cases he
theorem bi_s_last (hx : p.tables.exec = Jvm.exec) (hb : cd.code = cc) (hdg : decode cc pc = .ok (.lastore, 1)) (he : bi_x cf .lastore r L st h = some (L', st', h')) (kk : bi_At p l e R s m args below meth cd Q D B0 Hb nL n0 m0 (pc + 1) L' st' h') : bi_At p l e R s m args below meth cd Q D B0 Hb nL n0 m0 pc L st h := by
  intro H locs ls cells slots hr hl hw hlc hc hs
  unfold bi_x at he
  dsimp only at he
  split at he
  · split at he
    · rename_i x j a st0 ha
      cases he
      obtain ⟨b, rfl⟩ := bi_kz hr (a := a) (by omega)
      exact bi_last hx hb hr ha.1 ha.2.1 ha.2.2 hdg (fun H' i hr' => kk H' _ ls cells slots hr' hl hw (bi_lcs hlc (bi_lo hr (by omega) (by omega))) hc hs)
    · cases he
  · cases he
theorem bi_s_aast (hx : p.tables.exec = Jvm.exec) (hb : cd.code = cc) (hdg : decode cc pc = .ok (.aastore, 1)) (he : bi_x cf .aastore r L st h = some (L', st', h')) (kk : bi_At p l e R s m args below meth cd Q D B0 Hb nL n0 m0 (pc + 1) L' st' h') : bi_At p l e R s m args below meth cd Q D B0 Hb nL n0 m0 pc L st h := by
  intro H locs ls cells slots hr hl hw hlc hc hs
  unfold bi_x at he
  dsimp only at he
  split at he
  · split at he
    · rename_i x j a st0 ha
      cases he
      obtain ⟨b, rfl⟩ := bi_kz hr (a := a) (by omega)
      obtain ⟨q, hq, -⟩ := bi_aty_q (c := (bi_k h (b + 1)).1 - 40) (by omega)
      exact bi_aast hx hb hr (c := (bi_k h (b + 1)).1 - 40) (by omega) hq (ha.2.1.imp id (fun z => by omega)) ha.2.2.1 ha.2.2.2 hdg (fun H' i hr' => kk H' _ ls cells slots hr' hl hw (bi_lcs hlc (bi_lo hr (by omega) (by omega))) hc hs)
    · cases he
  · cases he
theorem bi_s_newa {t : ArrayType} (hx : p.tables.exec = Jvm.exec) (hb : cd.code = cc) (hok : bi_oki own nL ini (.newarray t) r) (hdg : decode cc pc = .ok (.newarray t, 2)) (he : bi_x cf (.newarray t) r L st h = some (L', st', h')) (hRc : bi_nc h' ≤ n0 + R.cells) (hRs : bi_ns h' ≤ m0 + R.slots) (kk : bi_At p l e R s m args below meth cd Q D B0 Hb nL n0 m0 (pc + 2) L' st' h') : bi_At p l e R s m args below meth cd Q D B0 Hb nL n0 m0 pc L st h := by
  intro H locs ls cells slots hr hl hw hlc hc hs
  unfold bi_x at he
  dsimp only at he
  split at he
  · split at he
    · rename_i n st0 ha
      cases he
      have ht : (t = .int ∧ (if t = .int then 1 else if t = .boolean then 2 else 3) = 1) ∨ (t = .boolean ∧ (if t = .int then 1 else if t = .boolean then 2 else 3) = 2) ∨ (t = .long ∧ (if t = .int then 1 else if t = .boolean then 2 else 3) = 3) := by
        rcases ha.2.2 with rfl | rfl | rfl
        · exact Or.inl ⟨rfl, rfl⟩
        · exact Or.inr (Or.inl ⟨rfl, rfl⟩)
        · exact Or.inr (Or.inr ⟨rfl, rfl⟩)
      have e1 : bi_nc (bi_new h (if t = .int then 1 else if t = .boolean then 2 else 3, n.toNatClampNeg) n.toNatClampNeg) = bi_nc h + 1 := rfl
      have e2 : bi_ns (bi_new h (if t = .int then 1 else if t = .boolean then 2 else 3, n.toNatClampNeg) n.toNatClampNeg) = bi_ns h + n.toNatClampNeg := rfl
      exact bi_newa hx hb hr ht hok ha.1 ha.2.1 hdg (by omega) (by omega) (fun H' hr' => kk H' locs ls (cells + 1) (slots + n.toNatClampNeg) hr' hl hw hlc (by omega) (by omega))
    · cases he
  · cases he
theorem bi_s_anew {k : Nat} (hx : p.tables.exec = Jvm.exec) (hb : cd.code = cc) (hown : s.vm.findClass own = some m.cls) (hok : bi_oki own nL ini (.anewarray k) r) (hdg : decode cc pc = .ok (.anewarray k, 3)) (he : bi_x cf (.anewarray k) r L st h = some (L', st', h')) (hRc : bi_nc h' ≤ n0 + R.cells) (hRs : bi_ns h' ≤ m0 + R.slots) (kk : bi_At p l e R s m args below meth cd Q D B0 Hb nL n0 m0 (pc + 3) L' st' h') : bi_At p l e R s m args below meth cd Q D B0 Hb nL n0 m0 pc L st h := by
  intro H locs ls cells slots hr hl hw hlc hc hs
  obtain ⟨q, hq, h1, h2⟩ := hok
  unfold bi_x at he
  dsimp only at he
  split at he
  · split at he
    · rename_i n st0 ha
      cases he
      have e1 : bi_nc (bi_new h (40 + r.1, n.toNatClampNeg) n.toNatClampNeg) = bi_nc h + 1 := rfl
      have e2 : bi_ns (bi_new h (40 + r.1, n.toNatClampNeg) n.toNatClampNeg) = bi_ns h + n.toNatClampNeg := rfl
      exact bi_anew hx hb hown hr hq h1 h2 ha.1 ha.2 hdg (by omega) (by omega) (fun H' hr' => kk H' locs ls (cells + 1) (slots + n.toNatClampNeg) hr' hl hw hlc (by omega) (by omega))
    · cases he
  · cases he
theorem bi_s_new {k : Nat} (hx : p.tables.exec = Jvm.exec) (hb : cd.code = cc) (hown : s.vm.findClass own = some m.cls) (hok : bi_oki own nL ini (.new k) r) (hdg : decode cc pc = .ok (.new k, 3)) (he : bi_x cf (.new k) r L st h = some (L', st', h')) (hRc : bi_nc h' ≤ n0 + R.cells) (hRs : bi_ns h' ≤ m0 + R.slots) (kk : bi_At p l e R s m args below meth cd Q D B0 Hb nL n0 m0 (pc + 3) L' st' h') : bi_At p l e R s m args below meth cd Q D B0 Hb nL n0 m0 pc L st h := by
  intro H locs ls cells slots hr hl hw hlc hc hs
  obtain ⟨q, hq, hN, h1, h2, h3⟩ := hok
  unfold bi_x at he
  dsimp only at he
  cases he
  have e1 : bi_nc (bi_new h (10 + r.1, 0) r.2.1) = bi_nc h + 1 := rfl
  have e2 : bi_ns (bi_new h (10 + r.1, 0) r.2.1) = bi_ns h + r.2.1 := rfl
  refine bi_newc hx hb hown hr hq h1 h2 h3 hdg (by omega) (by omega) (fun H' hr' => ?_)
  rw [← hN] at hr' ⊢
  exact kk H' locs ls (cells + 1) (slots + r.2.1) hr' hl hw hlc (by omega) (by omega)
end BZ
end
section
/-! new int[n][m] -/
theorem bi_outer (c : ClassId) (N h0 : Nat) : ∀ i : Nat, Jvm.Free.Multi.outerC c N h0 i = arrV c N (fun j => bi_tr (if j < i then h0 + 1 + j + 1 else 0))
  | 0 => by
    show ({ cls := c, slots := Array.replicate N .null, vm := .none } : Cell) = _
    rw [arrV_new]
    refine congrArg (arrV c N) (funext fun j => ?_)
    simp [bi_tr]
  | i + 1 => by
    show (Jvm.Free.Multi.outerC c N h0 i).setSlot i (.ref (h0 + 1 + i)) = _
    rw [bi_outer c N h0 i, arrV_store]
    refine congrArg (arrV c N) (funext fun j => ?_)
    by_cases e : j = i
    · subst e
      simp [updV, bi_tr]
    · by_cases h : j < i
      · simp [updV, e, h, Nat.lt_succ_of_lt h]
      · simp [updV, e, h, show ¬ j < i + 1 by omega]
theorem bi_rp.born2 {D : va_G} {B0 : Nat} {Hb : Heap} {s : State} {h : bi_H} {H H' : Heap} {N K : Nat} (hr : bi_rp D B0 Hb h s H) (hz : H'.size = H.size + 1 + N) (ho : ∀ q, q < H.size → H'[q]? = H[q]?) (h5 : bi_ca s (bi_new2 h N K) H' H.size 5 N) (h1 : ∀ j, j < N → bi_ca s (bi_new2 h N K) H' (H.size + 1 + j) 1 K) : bi_rp D B0 Hb (bi_new2 h N K) s H' := by
  obtain ⟨⟨z1, z2, z3⟩, g2, g3, g4, g5, g6⟩ := hr
  have e0 : ∀ x, x < bi_nx h ∨ bi_nx h + N < x → bi_k (bi_new2 h N K) x = bi_k h x := fun x hx => by
    have a1 : ¬ x = bi_nx h := by omega
    have a2 : ¬ (bi_nx h < x ∧ x ≤ bi_nx h + N) := by omega
    show (if x = bi_nx h then (5, N) else if bi_nx h < x ∧ x ≤ bi_nx h + N then (1, K) else bi_k h x) = bi_k h x
    rw [if_neg a1, if_neg a2]
  have e5 : bi_k (bi_new2 h N K) (H.size + 1) = (5, N) := by
    show (if H.size + 1 = bi_nx h then (5, N) else if bi_nx h < H.size + 1 ∧ H.size + 1 ≤ bi_nx h + N then (1, K) else bi_k h (H.size + 1)) = (5, N)
    rw [if_pos z1]
  have e1 : ∀ j, j < N → bi_k (bi_new2 h N K) (H.size + 1 + j + 1) = (1, K) := fun j hj => by
    show (if H.size + 1 + j + 1 = bi_nx h then (5, N) else if bi_nx h < H.size + 1 + j + 1 ∧ H.size + 1 + j + 1 ≤ bi_nx h + N then (1, K) else bi_k h (H.size + 1 + j + 1)) = (1, K)
    rw [if_neg (by omega), if_pos (by omega)]
  refine ⟨⟨by rw [hz]; show H.size + 1 + N + 1 = bi_nx h + N + 1; omega, by omega, fun q hq => by rw [ho q (by omega)]; exact z3 q hq⟩, g2, g3, by rw [e0 0 (by omega)]; exact g4, fun b hb => ?_, fun b => ?_⟩
  · by_cases c1 : b < H.size
    · rw [e0 _ (by omega)] at hb ⊢
      obtain ⟨q1, q2⟩ := g5 b hb
      exact ⟨by omega, q2⟩
    · by_cases c2 : b ≤ H.size + N
      · exact ⟨by omega, fun _ => by omega⟩
      · rw [e0 _ (by omega)] at hb
        have := (g5 b hb).1
        omega
  · by_cases c1 : b < H.size
    · have hx1 : ¬ (bi_nx h ≤ b + 1 ∧ b + 1 ≤ bi_nx h + N) := by omega
      have hx2 : ¬ b + 1 = bi_nx h := by omega
      have hx3 : ¬ (bi_nx h < b + 1 ∧ b + 1 ≤ bi_nx h + N) := by omega
      refine (g6 b).kept (ho b c1) (e0 _ (by omega)) (fun c k => ?_) (fun t j => ?_)
      · simp only [bi_fv, bi_fr, bi_fi, bi_new2, if_neg hx1]
      · simp only [bi_av, bi_ar, bi_ai, bi_new2, if_neg hx1, if_neg hx2, if_neg hx3]
    · by_cases c2 : b = H.size
      · subst c2
        refine ⟨fun c k1 _ => by rw [e5] at k1; have k1 : 5 = 10 + c := k1; omega, ?_⟩
        rw [e5]
        exact h5
      · by_cases c3 : b ≤ H.size + N
        · obtain ⟨j, hj, rfl⟩ : ∃ j, j < N ∧ b = H.size + 1 + j := ⟨b - H.size - 1, by omega, by omega⟩
          refine ⟨fun c k1 _ => by rw [e1 j hj] at k1; have k1 : 1 = 10 + c := k1; omega, ?_⟩
          rw [e1 j hj]
          exact h1 j hj
        · refine bi_cell.none ?_
          rw [e0 _ (by omega)]
          by_cases hb : (bi_k h (b + 1)).1 = 0
          · exact hb
          · have := (g5 b hb).1
            omega
section BM
variable {p : Program} {l : Launch} {e : Env} {R : Room} {s : State} {m : MethodId} {args : Array Value} {below : List Frame} {meth : Method} {cd : Code} {Q : State → Prop} {D : va_G} {B0 : Nat} {Hb : Heap} {nL n0 m0 : Nat} {cc : ByteArray} {pc : Nat} {own : String} {L L' : bi_L} {st st' : List bi_V} {h h' : bi_H} {ini : Bool} {r : bi_R} {cf : Nat → List bi_V → bi_H → Option (Option bi_V × bi_H)}
theorem bi_s_multi {k d : Nat} (hx : p.tables.exec = Jvm.exec) (hb : cd.code = cc) (hown : s.vm.findClass own = some m.cls) (hok : bi_oki own nL ini (.multianewarray k d) r) (hdg : decode cc pc = .ok (.multianewarray k d, 4)) (he : bi_x cf (.multianewarray k d) r L st h = some (L', st', h')) (hRc : bi_nc h' ≤ n0 + R.cells) (hRs : bi_ns h' ≤ m0 + R.slots) (kk : bi_At p l e R s m args below meth cd Q D B0 Hb nL n0 m0 (pc + 4) L' st' h') : bi_At p l e R s m args below meth cd Q D B0 Hb nL n0 m0 pc L st h := by
  intro H locs ls cells slots hr hl hw hlc hc hs
  obtain ⟨rfl, w1, w2, w3⟩ := hok
  unfold bi_x at he
  dsimp only at he
  split at he
  · split at he
    · rename_i mm n st0 ha
      cases he
      obtain ⟨hn, hn2, hk, hk2⟩ := ha
      have e1 : bi_nc (bi_new2 h n.toNatClampNeg mm.toNatClampNeg) = bi_nc h + n.toNatClampNeg + 1 := rfl
      have e2 : bi_ns (bi_new2 h n.toNatClampNeg mm.toNatClampNeg) = bi_ns h + n.toNatClampNeg + n.toNatClampNeg * mm.toNatClampNeg := rfl
      have hs1 : H.size + 1 = bi_nx h := hr.1.1
      intro T hT X
      obtain ⟨vm₁, cA, comp, -, fA, fC, hO, hI, X', step⟩ := X.multianewarray2F hx (ty := .int) hown (bi_hts hr w1 rfl) (bi_hts hr w2 rfl) (bi_hts hr w3 rfl) (g := F0 m pc ls (.int mm :: .int n :: st0.map bi_tv)) rfl (by rw [hb]; exact hdg) rfl hn hk (by omega) (by simp [componentBytes]; omega) (by omega) rfl rfl (by omega) (by omega)
      generalize hF : Jvm.Free.Multi.fill (T.setVm vm₁) cA comp n.toNatClampNeg mm.toNatClampNeg (defaultValue .int) n.toNatClampNeg = F at X' step
      have hTh : (T.setVm vm₁).heap = H := hT
      obtain ⟨f1, f2, -, -⟩ := Jvm.Free.Multi.fill_facts (T.setVm vm₁) cA comp n.toNatClampNeg mm.toNatClampNeg (defaultValue .int) n.toNatClampNeg
      rw [hF, hTh] at f1 f2
      have hold : ∀ x : Nat, x < H.size → F.heap[x]? = H[x]? := fun x hx => by
        have := Jvm.Free.Multi.fill_old (T.setVm vm₁) cA comp n.toNatClampNeg mm.toNatClampNeg (defaultValue .int) (a := x) (by rw [hTh]; exact hx) n.toNatClampNeg
        rw [hF, hTh] at this
        exact this
      have hrow : ∀ j : Nat, j < n.toNatClampNeg → F.heap[H.size + 1 + j]? = some (Jvm.Free.Multi.innerC comp mm.toNatClampNeg (defaultValue .int)) := fun j hj => by
        have := Jvm.Free.Multi.fill_inner (T.setVm vm₁) cA comp n.toNatClampNeg mm.toNatClampNeg (defaultValue .int) n.toNatClampNeg j hj
        rw [hF, hTh] at this
        exact this
      have hrp : bi_rp D B0 Hb (bi_new2 h n.toNatClampNeg mm.toNatClampNeg) s F.heap := by
        refine hr.born2 (by rw [f1]) hold (fun ty hty => ?_) (fun j hj ty hty => ?_)
        · have hty : ty = .array .int := by simp [bi_aty] at hty; exact hty.symm
          subst hty
          refine ⟨_, f2, (hO _ _ _).1, (hO _ _ _).2, by rw [bi_outer, arrV_size], fun j hj => ?_, fun C hC => by cases hC⟩
          rw [bi_outer, arrV_read _ _ hj]
          have e7 : bi_av (bi_new2 h n.toNatClampNeg mm.toNatClampNeg) 5 (H.size + 1) j = bi_tr (if H.size + 1 = bi_nx h then (if j < n.toNatClampNeg then bi_nx h + 1 + j else 0) else if bi_nx h < H.size + 1 ∧ H.size + 1 ≤ bi_nx h + n.toNatClampNeg then 0 else bi_ar h (H.size + 1) j) := rfl
          rw [e7, if_pos hs1, if_pos hj, if_pos hj, ← hs1, show H.size + 1 + 1 + j = H.size + 1 + j + 1 by omega]
        · have hty : ty = .int := by simp [bi_aty] at hty; exact hty.symm
          subst hty
          have hin : Jvm.Free.Multi.innerC comp mm.toNatClampNeg (defaultValue .int) = arrV comp mm.toNatClampNeg (fun _ => .int 0) := arrV_new comp mm.toNatClampNeg (.int 0)
          refine ⟨_, hrow j hj, (hI _ _).1, (hI _ _).2, by rw [hin, arrV_size], fun i hi => ?_, fun C hC => by cases hC⟩
          rw [hin, arrV_read _ _ hi]
          have a1 : bi_nx h ≤ H.size + 1 + j + 1 ∧ H.size + 1 + j + 1 ≤ bi_nx h + n.toNatClampNeg := by omega
          simp only [bi_av, bi_ai, bi_new2, if_pos a1]
          rfl
      obtain ⟨t, a1, b1⟩ := kk F.heap locs ls (cells + 1 + n.toNatClampNeg) (slots + n.toNatClampNeg + n.toNatClampNeg * mm.toNatClampNeg) hrp hl hw hlc (by omega) (by omega) F rfl X'
      refine ⟨t, step t ?_, b1⟩
      have e9 : T.heap.size = H.size := by rw [hT]
      rw [e9]
      have e8 : bi_tr (bi_nx h) = .ref H.size := bi_nxr hr
      have a2 := a1
      simp only [List.map_cons, bi_tv, e8] at a2
      exact a2
    · cases he
  · cases he
end BM
end
section
/-! calls: a method's contract as the interpreter has it, and the three kinds of call over it -/
/-- a method: its name, code, locals, answer's type, the class that it stands in, the frames and the locals' words that it needs, its exception table -/
abbrev bi_M : Type := MethodName × ByteArray × Nat × Option FieldType × String × Nat × Nat × List (Nat × Nat × Nat × Nat)
def bi_cw (q : bi_M) : Cond := if q.2.2.2.2.2.2.2 = [] then .code q.1 q.2.1 q.2.2.1 q.2.2.2.1 else .codeWith q.1 q.2.1 q.2.2.1 q.2.2.2.1 q.2.2.2.2.2.2.2
theorem bi_cw0 {q : bi_M} (h : q.2.2.2.2.2.2.2 = []) : bi_cw q = .code q.1 q.2.1 q.2.2.1 q.2.2.2.1 := if_pos h
theorem bi_cw1 {q : bi_M} (h : ¬ q.2.2.2.2.2.2.2 = []) : bi_cw q = .codeWith q.1 q.2.1 q.2.2.1 q.2.2.2.1 q.2.2.2.2.2.2.2 := if_neg h
theorem bi_cwok (q : bi_M) : bi_ok (bi_cw q) = true := by
  unfold bi_cw
  split <;> rfl
def bi_rm (q : bi_M) (h h' : bi_H) : Room := { frames := q.2.2.2.2.2.1, cells := bi_nc h' - bi_nc h, slots := bi_ns h' - bi_ns h, locals := q.2.2.2.2.2.2.1 }
def bi_Pc (D : va_G) (B0 : Nat) (Hb : Heap) (as : List bi_V) (h : bi_H) : Array Value → State → Prop := va_Pc (as.map bi_tv) (fun U => bi_rp D B0 Hb h U U.heap)
def bi_Qc (D : va_G) (B0 : Nat) (Hb : Heap) (v : Option bi_V) (h' : bi_H) : Array Value → State → Outcome → State → Prop := fun _ _ o t => o = .returned (v.map bi_tv) ∧ bi_rp D B0 Hb h' t t.heap
/-- called with as over h the method answers v, and the heap is h' -/
def bi_Ct (l : Launch) (D : va_G) (B0 : Nat) (Hb : Heap) (q : bi_M) (as : List bi_V) (h : bi_H) (v : Option bi_V) (h' : bi_H) : Prop :=
  bi_nc h ≤ bi_nc h' ∧ bi_ns h ≤ bi_ns h' ∧ Met l q.1 [bi_cw q] (bi_rm q h h') (bi_Pc D B0 Hb as h) (bi_Qc D B0 Hb v h') (bi_nc h' - bi_nc h) (bi_ns h' - bi_ns h) (fun x => B0 ≤ x)
theorem bi_rp.to {D : va_G} {B0 : Nat} {Hb : Heap} {h : bi_H} {u U : State} {H : Heap} (hvm : u.vm.Alike U.vm) (hwd : bi_wd B0 Hb U) (hr : bi_rp D B0 Hb h u H) : bi_rp D B0 Hb h U H := by
  obtain ⟨h1, h2, h3, h4, h5, h6⟩ := hr
  exact ⟨h1, va_K.moved hvm h2, hwd, h4, h5, fun a => ⟨(h6 a).1, (h6 a).2.moved hvm⟩⟩
theorem bi_blind {D : va_G} {B0 : Nat} {Hb : Heap} {as : List bi_V} {h : bi_H} : FrameBlind (bi_Pc D B0 Hb as h) := by
  intro a U g mk q
  exact ⟨q.1, bi_rp.moved (s := U) (U := U.calling g mk a) (State.WarmedH.refl U) q.2⟩
/-- what a call wants of the tables: the callee's code and name, its arguments' number, room -/
def bi_okb (R : Room) (q : bi_M) (n : Nat) : Prop := bi_cw q ∈ lw_tbl ∧ Cond.initialized q.1.cls ∈ lw_tbl ∧ (q.1.cls ≠ "java/lang/invoke/MethodHandle" ∧ q.1.cls ≠ "java/lang/invoke/VarHandle") ∧ (parseMethodDescriptor q.1.desc).map (fun d => d.parameters.length) = some n ∧ q.2.2.2.2.2.1 + 1 ≤ R.frames ∧ 8 + (q.2.2.1 + 11) + q.2.2.2.2.2.2.1 ≤ R.locals
/-- the callee of a call -/
def bi_okc (M : Nat → Option bi_M) (own : String) (R : Room) (i : Instr) (r : bi_R) : Prop := match i with
  | .invokestatic k => ∃ q, M r.1 = some q ∧ r.2.1 ≤ q.2.2.1 ∧ bi_okb R q r.2.1 ∧ Cond.methodLink own k q.1 ∈ lw_tbl ∧ Cond.static q.1 ∈ lw_tbl
  | .invokevirtual k => ∃ q cq, M r.1 = some q ∧ r.2.1 + 1 ≤ q.2.2.1 ∧ q.2.2.2.2.2.2.2 = [] ∧ bi_okb R q r.2.1 ∧ vwCl[r.2.2.1]? = some cq ∧ Cond.methodLink own k q.1 ∈ lw_tbl ∧ Cond.instanceMethod q.1 ∈ lw_tbl ∧ Cond.selects cq.1 q.1 q.1 ∈ lw_tbl
  | .invokespecial k => if r.1 = 9999 then Cond.methodLink own k objectInit ∈ lw_tbl ∧ Cond.instanceMethod objectInit ∈ lw_tbl ∧ Cond.code objectInit ⟨#[0xb1]⟩ 1 none ∈ lw_tbl ∧ 1 ≤ R.frames ∧ 20 ≤ R.locals
    else ∃ q cq, M r.1 = some q ∧ r.2.1 + 1 ≤ q.2.2.1 ∧ q.2.2.2.2.2.2.2 = [] ∧ bi_okb R q r.2.1 ∧ vwCl[r.2.2.1]? = some cq ∧ q.1.name = "<init>" ∧ q.2.2.2.1 = none ∧ Cond.instanceMethod q.1 ∈ lw_tbl ∧ (Cond.methodLink own k q.1 ∈ lw_tbl ∨ ∃ host, Cond.methodLinkNest own k q.1 host ∈ lw_tbl)
  | _ => True
section BC
variable {p : Program} {l : Launch} {e : Env} {R : Room} {s : State} {m : MethodId} {args : Array Value} {below : List Frame} {meth : Method} {cd : Code} {Q : State → Prop} {D : va_G} {B0 : Nat} {Hb : Heap} {nL n0 m0 : Nat} {cc : ByteArray} {pc : Nat} {own : String} {L L' : bi_L} {st st' : List bi_V} {h h' : bi_H} {ini : Bool} {r : bi_R} {cf : Nat → List bi_V → bi_H → Option (Option bi_V × bi_H)} {M : Nat → Option bi_M}
/-- behind a call -/
theorem bi_after {H : Heap} {locs : List Loc} {cells slots mc ms : Nat} {ls : Array Slot} {st0 rest : List Value} {v : Option bi_V} {a : Array Value} (hr : bi_rp D B0 Hb h s H) (hlc : ∀ q ∈ locs, B0 ≤ q.base) (hrun : va_Run p l e R s m args below meth cd H locs cells slots mc ms (F0 m pc ls st0) rest (bi_Qc D B0 Hb v h' a) (fun x => B0 ≤ x))
    (kk : ∀ (H' : Heap) (locs' : List Loc), bi_rp D B0 Hb h' s H' → (∀ q ∈ locs', B0 ≤ q.base) → W p l e R s m args below meth cd H' locs' (cells + mc) (slots + ms) Q (F0 m (pc + 3) ls ((v.map bi_tv).toList ++ rest))) : W p l e R s m args below meth cd H locs cells slots Q (F0 m pc ls st0) := by
  intro T hT X
  obtain ⟨v', st₀, t, T', LL, h0, X', hL, e1, e2, ⟨hv, hq⟩, st⟩ := hrun T hT X
  cases hv
  have hal : t.vm.Alike s.vm := by rw [← e2]; exact X'.warmed.alike.symm
  have hrp : bi_rp D B0 Hb h' s T'.heap := by rw [e1]; exact hq.to hal hr.2.2.1
  obtain ⟨t2, a1, b1⟩ := kk T'.heap (locs ++ LL) hrp (fun q hq => (List.mem_append.mp hq).elim (hlc q) (hL q)) T' rfl X'
  exact ⟨t2, st t2 a1, b1⟩
theorem bi_wcode {H : Heap} (hr : bi_rp D B0 Hb h s H) {q : bi_M} (hc : bi_cw q ∈ lw_tbl) : ∀ w ∈ [bi_cw q], ∀ (a' : Array Value) (U : State), s.WarmedH U.vm → w.before a' U = true := by
  intro w hw a' U hW
  rw [List.mem_singleton.mp hw]
  exact bi_wd1 hW (bi_cwok q) (hr.2.2.1.1 _ hc (bi_cwok q)) a'
theorem bi_callB {H : Heap} {n k : Nat} (hr : bi_rp D B0 Hb h s H) {q : bi_M} (h0 : q.2.2.2.2.2.2.2 = []) (hk : bi_okb R q n) (hl : Cond.methodLink own k q.1 ∈ lw_tbl) : CallB R s args own k q.1 q.2.1 q.2.2.1 q.2.2.2.1 [bi_cw q] (bi_rm q h h') (bi_nc h' - bi_nc h) (bi_ns h' - bi_ns h) n := by
  obtain ⟨o1, o2, o3, o4, o5, o6⟩ := hk
  refine ⟨rfl, rfl, o5, o6, bi_wcode hr o1, by rw [bi_cw0 h0]; exact List.mem_singleton.mpr rfl, by rw [← bi_cw0 h0]; exact bi_hts hr o1 (bi_cwok q), bi_hts hr o2 rfl, o3, fun sig hsig => ?_, bi_hts hr hl rfl⟩
  rw [hsig] at o4
  exact (Option.some.inj o4).symm
theorem bi_callN {H : Heap} {n k : Nat} {host : String} (hr : bi_rp D B0 Hb h s H) {q : bi_M} (h0 : q.2.2.2.2.2.2.2 = []) (hk : bi_okb R q n) (hl : Cond.methodLinkNest own k q.1 host ∈ lw_tbl) : va_CN R s args own k q.1 host q.2.1 q.2.2.1 q.2.2.2.1 [bi_cw q] (bi_rm q h h') (bi_nc h' - bi_nc h) (bi_ns h' - bi_ns h) n := by
  obtain ⟨o1, o2, o3, o4, o5, o6⟩ := hk
  refine ⟨⟨rfl, rfl, o5, o6, bi_wcode hr o1, by rw [bi_cw0 h0]; exact List.mem_singleton.mpr rfl⟩, by rw [← bi_cw0 h0]; exact bi_hts hr o1 (bi_cwok q), bi_hts hr o2 rfl, o3, fun sig hsig => ?_, bi_hts hr hl rfl⟩
  rw [hsig] at o4
  exact (Option.some.inj o4).symm
theorem bi_callW {H : Heap} {n k : Nat} (hr : bi_rp D B0 Hb h s H) {q : bi_M} (h0 : ¬ q.2.2.2.2.2.2.2 = []) (hk : bi_okb R q n) (hl : Cond.methodLink own k q.1 ∈ lw_tbl) (hst : Cond.static q.1 ∈ lw_tbl) : vx_CSW R s args own k q.1 q.2.1 q.2.2.1 q.2.2.2.1 q.2.2.2.2.2.2.2 [bi_cw q] (bi_rm q h h') (bi_nc h' - bi_nc h) (bi_ns h' - bi_ns h) n := by
  obtain ⟨o1, o2, o3, o4, o5, o6⟩ := hk
  refine ⟨⟨rfl, rfl, o5, o6, bi_wcode hr o1, by rw [bi_cw1 h0]; exact List.mem_singleton.mpr rfl⟩, by rw [← bi_cw1 h0]; exact bi_hts hr o1 (bi_cwok q), bi_hts hr o2 rfl, o3, fun sig hsig => ?_, bi_hts hr hl rfl, bi_hts hr hst rfl⟩
  rw [hsig] at o4
  exact (Option.some.inj o4).symm
theorem bi_sumr (st : List bi_V) : ((st.map bi_tv).map fun v => v.category).sum = bi_sum st := by
  unfold bi_sum
  rw [List.map_map]
  congr 1
  apply List.map_congr_left
  intro v _
  exact bi_cat v
theorem bi_room {st : List bi_V} {ls : Array Slot} {st0 : List Value} (h8 : bi_sum st ≤ 8) : 2 * (F0 m pc ls st0).monitorRoom + ((st.map bi_tv).map fun v => v.category).sum ≤ 8 := lv_room (by rw [bi_sumr]; exact h8)
theorem bi_w1 : ∀ (st : List bi_V), bi_sum st = st.length → ∀ x ∈ st, bi_w x = 1
  | [], _, x, hx => by cases hx
  | v :: st, hs, x, hx => by
    have hle : ∀ (q : List bi_V), q.length ≤ bi_sum q := by
      intro q
      induction q with
      | nil => exact Nat.le_refl _
      | cons a q ih =>
        have h1 : 1 ≤ bi_w a := by rcases a with _ | _ | _ <;> simp [bi_w]
        show q.length + 1 ≤ (bi_w a :: q.map bi_w).sum
        rw [List.sum_cons]
        have : (q.map bi_w).sum = bi_sum q := rfl
        omega
    have h1 : 1 ≤ bi_w v := by rcases v with _ | _ | _ <;> simp [bi_w]
    have h2 : bi_sum (v :: st) = bi_w v + bi_sum st := by unfold bi_sum; rw [List.map_cons, List.sum_cons]
    have h3 := hle st
    rw [h2, List.length_cons] at hs
    rcases List.mem_cons.mp hx with rfl | hx
    · omega
    · exact bi_w1 st (by omega) x hx
theorem bi_tolist (v : Option bi_V) (rest : List bi_V) : (v.toList ++ rest).map bi_tv = (v.map bi_tv).toList ++ rest.map bi_tv := by cases v <;> rfl
/-- what the calls of a step come to -/
def bi_cfok (l : Launch) (D : va_G) (B0 : Nat) (Hb : Heap) (M : Nat → Option bi_M) (cf : Nat → List bi_V → bi_H → Option (Option bi_V × bi_H)) : Prop :=
  ∀ (mi : Nat) (as : List bi_V) (h : bi_H) (v : Option bi_V) (h' : bi_H), cf mi as h = some (v, h') → (∀ x ∈ as, bi_w x = 1) → ∀ q, M mi = some q → as.length ≤ q.2.2.1 → bi_Ct l D B0 Hb q as h v h'
theorem bi_s_static {k : Nat} (hx : p.tables.exec = Jvm.exec) (hb : cd.code = cc) (hml : cd.maxLocals = nL) (hown : s.vm.findClass own = some m.cls) (hcf : bi_cfok l D B0 Hb M cf) (hok : bi_okc M own R (.invokestatic k) r) (hdg : decode cc pc = .ok (.invokestatic k, 3)) (he : bi_x cf (.invokestatic k) r L st h = some (L', st', h')) (hRc : bi_nc h' ≤ n0 + R.cells) (hRs : bi_ns h' ≤ m0 + R.slots) (kk : bi_At p l e R s m args below meth cd Q D B0 Hb nL n0 m0 (pc + 3) L' st' h') : bi_At p l e R s m args below meth cd Q D B0 Hb nL n0 m0 pc L st h := by
  intro H locs ls cells slots hr hl hw hlc hc hs
  obtain ⟨q, hM, hqn, hkb, hlk, hstat⟩ := hok
  have he : bi_calls cf r.1 r.2.1 L st h = some (L', st', h') := he
  unfold bi_calls at he
  split at he
  · rename_i hn
    obtain ⟨hn1, hn2, hn3⟩ := hn
    unfold bi_ret at he
    split at he
    · rename_i v h1 hcall
      cases he
      have hlen : (st.take r.2.1).length = r.2.1 := by rw [List.length_take]; omega
      have hw1 := bi_w1 (st.take r.2.1) (by rw [hlen]; exact hn3)
      obtain ⟨g1, g2, hMet⟩ := hcf r.1 _ h v h' hcall (fun x hx => hw1 x (List.mem_reverse.mp hx)) q hM (by rw [List.length_reverse, hlen]; exact hqn)
      have hpre : PreS s H (bi_Pc D B0 Hb (st.take r.2.1).reverse h) ((st.take r.2.1).reverse.map bi_tv) := ⟨bi_blind, fun U hU hW => ⟨rfl, by show bi_rp D B0 Hb h U U.heap; rw [hU]; exact hr.moved hW⟩⟩
      have hstk : st.map bi_tv = ((st.take r.2.1).reverse.map bi_tv).reverse ++ (st.drop r.2.1).map bi_tv := by
        rw [← List.map_reverse, List.reverse_reverse, ← List.map_append, List.take_append_drop]
      have hrun : va_Run p l e R s m args below meth cd H locs cells slots (bi_nc h' - bi_nc h) (bi_ns h' - bi_ns h) (F0 m pc ls (st.map bi_tv)) ((st.drop r.2.1).map bi_tv) (bi_Qc D B0 Hb v h' ((st.take r.2.1).reverse.map bi_tv).toArray) (fun x => B0 ≤ x) := by
        by_cases h0 : q.2.2.2.2.2.2.2 = []
        · exact va_runS (H := H) (g := F0 m pc ls (st.map bi_tv)) (As := (st.take r.2.1).reverse.map bi_tv) (rest := (st.drop r.2.1).map bi_tv) (Ts := []) ⟨hx, hb, hml, hown, fun w hw => by cases hw⟩ hMet ⟨bi_callB hr h0 hkb hlk, bi_hts hr hstat rfl⟩ hpre rfl (by rw [List.length_map, List.length_reverse, hlen]) hl.1 hstk (bi_room hn2) hdg ⟨by omega, by omega⟩
        · exact vx_runSW (H := H) (g := F0 m pc ls (st.map bi_tv)) (As := (st.take r.2.1).reverse.map bi_tv) (rest := (st.drop r.2.1).map bi_tv) (Ts := []) ⟨hx, hb, hml, hown, fun w hw => by cases hw⟩ hMet (bi_callW hr h0 hkb hlk hstat) hpre rfl (by rw [List.length_map, List.length_reverse, hlen]) hl.1 hstk (bi_room hn2) hdg ⟨by omega, by omega⟩
      refine bi_after hr hlc hrun (fun H' locs' hr' hlc' => ?_)
      rw [← bi_tolist]
      exact kk H' locs' ls _ _ hr' hl hw hlc' (by omega) (by omega)
    · cases he
  · cases he
end BC
end
section
/-! calls with a receiver -/
section BV
variable {p : Program} {l : Launch} {e : Env} {R : Room} {s : State} {m : MethodId} {args : Array Value} {below : List Frame} {meth : Method} {cd : Code} {Q : State → Prop} {D : va_G} {B0 : Nat} {Hb : Heap} {nL n0 m0 : Nat} {cc : ByteArray} {pc : Nat} {own : String} {L L' : bi_L} {st st' : List bi_V} {h h' : bi_H} {ini : Bool} {r : bi_R} {cf : Nat → List bi_V → bi_H → Option (Option bi_V × bi_H)} {M : Nat → Option bi_M}
theorem bi_recv {H : Heap} {a c : Nat} {cq : vw_C} (hr : bi_rp D B0 Hb h s H) (hk : (bi_k h (a + 1)).1 = 10 + c) (hq : vwCl[c]? = some cq) : ∃ cellB : Cell, H[a]? = some cellB ∧ cellB.vm.isStatics = false ∧ s.vm.findClass cq.1 = some cellB.cls := by
  obtain ⟨q', hq', cell, q1, q2, q3, -⟩ := (hr.2.2.2.2.2 a).1 c hk (bi_c13 hq)
  exact ⟨cell, q1, by rw [q3]; rfl, by rw [q2]; exact (hr.2.1.1 c cq hq).2.1⟩
/-- the stack of a call with a receiver -/
theorem bi_stk {n a : Nat} {rest : List bi_V} (hd : st.drop n = .inr (.inl (a + 1)) :: rest) : st.map bi_tv = ((st.take n).reverse.map bi_tv).reverse ++ .ref a :: rest.map bi_tv := by
  have h1 : st = st.take n ++ .inr (.inl (a + 1)) :: rest := by rw [← hd, List.take_append_drop]
  rw [← List.map_reverse, List.reverse_reverse]
  conv => lhs; rw [h1]
  rw [List.map_append, List.map_cons]
  rfl
theorem bi_take {n a : Nat} {rest : List bi_V} (hd : st.drop n = .inr (.inl a) :: rest) : (st.take n).length = n := by
  have h1 : (st.drop n).length = rest.length + 1 := by rw [hd]; rfl
  rw [List.length_drop] at h1
  rw [List.length_take]
  omega
theorem bi_s_virtual {k : Nat} (hx : p.tables.exec = Jvm.exec) (hb : cd.code = cc) (hml : cd.maxLocals = nL) (hown : s.vm.findClass own = some m.cls) (hcf : bi_cfok l D B0 Hb M cf) (hok : bi_okc M own R (.invokevirtual k) r) (hdg : decode cc pc = .ok (.invokevirtual k, 3)) (he : bi_x cf (.invokevirtual k) r L st h = some (L', st', h')) (hRc : bi_nc h' ≤ n0 + R.cells) (hRs : bi_ns h' ≤ m0 + R.slots) (kk : bi_At p l e R s m args below meth cd Q D B0 Hb nL n0 m0 (pc + 3) L' st' h') : bi_At p l e R s m args below meth cd Q D B0 Hb nL n0 m0 pc L st h := by
  intro H locs ls cells slots hr hl hw hlc hc hs
  obtain ⟨q, cq, hM, hqn, hq0, hkb, hcq, hlk, hins, hsel⟩ := hok
  have he : bi_callo cf r.1 r.2.1 r.2.2.1 L st h = some (L', st', h') := he
  unfold bi_callo at he
  split at he
  · rename_i a rest hdrop
    split at he
    · rename_i hn
      obtain ⟨hn1, hn2, hn3⟩ := hn
      unfold bi_ret at he
      split at he
      · rename_i v h1 hcall
        cases he
        obtain ⟨b, rfl⟩ := bi_kz hr (a := a) (by omega)
        have hlen := bi_take hdrop
        have hw1 := bi_w1 (st.take r.2.1) (by rw [hlen]; exact hn3)
        obtain ⟨g1, g2, hMet⟩ := hcf r.1 _ h v h' hcall (fun x hx => (List.mem_cons.mp hx).elim (fun z => by rw [z]; rfl) (fun z => hw1 x (List.mem_reverse.mp z))) q hM (by rw [List.length_cons, List.length_reverse, hlen]; exact hqn)
        have hrun := va_runV (args := args) (R := R) (H := H) (locs := locs) (cells := cells) (slots := slots) (below := below) (meth := meth) (e := e) (C := cq.1) (b := b) (g := F0 m pc ls (st.map bi_tv)) (As := (st.take r.2.1).reverse.map bi_tv) (rest := rest.map bi_tv) (Ts := []) ⟨hx, hb, hml, hown, fun w hw => by cases hw⟩ hMet ⟨bi_callB hr hq0 hkb hlk, bi_hts hr hins rfl, bi_hts hr hsel rfl⟩ ⟨bi_blind, bi_recv hr hn1 hcq, fun U hU hW => ⟨rfl, by show bi_rp D B0 Hb h U U.heap; rw [hU]; exact hr.moved hW⟩⟩ rfl (by rw [List.length_map, List.length_reverse, hlen]) hl.1 (bi_stk hdrop) (bi_room hn2) hdg ⟨by omega, by omega⟩
        refine bi_after hr hlc hrun (fun H' locs' hr' hlc' => ?_)
        rw [← bi_tolist]
        exact kk H' locs' ls _ _ hr' hl hw hlc' (by omega) (by omega)
      · cases he
    · cases he
  · cases he
theorem bi_s_special {k : Nat} (hx : p.tables.exec = Jvm.exec) (hb : cd.code = cc) (hml : cd.maxLocals = nL) (hown : s.vm.findClass own = some m.cls) (hcf : bi_cfok l D B0 Hb M cf) (hok : bi_okc M own R (.invokespecial k) r) (hdg : decode cc pc = .ok (.invokespecial k, 3)) (he : bi_x cf (.invokespecial k) r L st h = some (L', st', h')) (hRc : bi_nc h' ≤ n0 + R.cells) (hRs : bi_ns h' ≤ m0 + R.slots) (kk : bi_At p l e R s m args below meth cd Q D B0 Hb nL n0 m0 (pc + 3) L' st' h') : bi_At p l e R s m args below meth cd Q D B0 Hb nL n0 m0 pc L st h := by
  intro H locs ls cells slots hr hl hw hlc hc hs
  have hok : if r.1 = 9999 then Cond.methodLink own k objectInit ∈ lw_tbl ∧ Cond.instanceMethod objectInit ∈ lw_tbl ∧ Cond.code objectInit ⟨#[0xb1]⟩ 1 none ∈ lw_tbl ∧ 1 ≤ R.frames ∧ 20 ≤ R.locals
    else ∃ q cq, M r.1 = some q ∧ r.2.1 + 1 ≤ q.2.2.1 ∧ q.2.2.2.2.2.2.2 = [] ∧ bi_okb R q r.2.1 ∧ vwCl[r.2.2.1]? = some cq ∧ q.1.name = "<init>" ∧ q.2.2.2.1 = none ∧ Cond.instanceMethod q.1 ∈ lw_tbl ∧ (Cond.methodLink own k q.1 ∈ lw_tbl ∨ ∃ host, Cond.methodLinkNest own k q.1 host ∈ lw_tbl) := hok
  unfold bi_x at he
  dsimp only at he
  by_cases h9 : r.1 = 9999
  · rw [if_pos h9] at he hok
    obtain ⟨o1, o2, o3, o4, o5⟩ := hok
    split at he
    · rename_i a st0
      split at he
      · rename_i ha
        cases he
        obtain ⟨b, rfl⟩ := bi_kz hr ha.1
        refine W.objInit hx hb hown (bi_hts hr o1 rfl) (bi_hts hr o2 rfl) (bi_hts hr o3 rfl) (g := F0 m pc ls (.ref b :: st'.map bi_tv)) rfl (by rw [hml]; exact hl.1) rfl hdg o4 ?_ (kk H locs ls cells slots hr hl hw hlc hc hs)
        show 2 * 0 + _ + 12 ≤ R.locals
        rw [bi_sumr]
        omega
      · cases he
    · cases he
  · rw [if_neg h9] at he hok
    obtain ⟨q, cq, hM, hqn, hq0, hkb, hcq, hnm, hret, hins, hlk⟩ := hok
    unfold bi_callo at he
    split at he
    · rename_i a rest hdrop
      split at he
      · rename_i hn
        obtain ⟨hn1, hn2, hn3⟩ := hn
        unfold bi_ret at he
        split at he
        · rename_i v h1 hcall
          cases he
          obtain ⟨b, rfl⟩ := bi_kz hr (a := a) (by omega)
          have hlen := bi_take hdrop
          have hw1 := bi_w1 (st.take r.2.1) (by rw [hlen]; exact hn3)
          obtain ⟨g1, g2, hMet⟩ := hcf r.1 _ h v h' hcall (fun x hx => (List.mem_cons.mp hx).elim (fun z => by rw [z]; rfl) (fun z => hw1 x (List.mem_reverse.mp z))) q hM (by rw [List.length_cons, List.length_reverse, hlen]; exact hqn)
          have hpre : PreS s H (bi_Pc D B0 Hb (.inr (.inl (b + 1)) :: (st.take r.2.1).reverse) h) (.ref b :: (st.take r.2.1).reverse.map bi_tv) := ⟨bi_blind, fun U hU hW => ⟨rfl, by show bi_rp D B0 Hb h U U.heap; rw [hU]; exact hr.moved hW⟩⟩
          have hrun : va_Run p l e R s m args below meth cd H locs cells slots (bi_nc h' - bi_nc h) (bi_ns h' - bi_ns h) (F0 m pc ls (st.map bi_tv)) (rest.map bi_tv) (bi_Qc D B0 Hb v h' (Value.ref b :: (st.take r.2.1).reverse.map bi_tv).toArray) (fun x => B0 ≤ x) := by
            rcases hlk with hlk | ⟨host, hlk⟩
            · have cb := bi_callB (args := args) (own := own) (h' := h') hr hq0 hkb hlk
              rw [hret] at cb
              exact va_runI (H := H) (b := b) (g := F0 m pc ls (st.map bi_tv)) (As := (st.take r.2.1).reverse.map bi_tv) (rest := rest.map bi_tv) (Ts := []) ⟨hx, hb, hml, hown, fun w hw => by cases hw⟩ hMet ⟨cb, hnm, bi_hts hr hins rfl⟩ hpre rfl (by rw [List.length_map, List.length_reverse, hlen]) hl.1 (bi_stk hdrop) (bi_room hn2) hdg ⟨by omega, by omega⟩
            · have cb := bi_callN (args := args) (own := own) (h' := h') hr hq0 hkb hlk
              rw [hret] at cb
              exact va_runIN (H := H) (b := b) (g := F0 m pc ls (st.map bi_tv)) (As := (st.take r.2.1).reverse.map bi_tv) (rest := rest.map bi_tv) (Ts := []) ⟨hx, hb, hml, hown, fun w hw => by cases hw⟩ hMet ⟨cb, hnm, bi_hts hr hins rfl⟩ hpre rfl (by rw [List.length_map, List.length_reverse, hlen]) hl.1 (bi_stk hdrop) (bi_room hn2) hdg ⟨by omega, by omega⟩
          refine bi_after hr hlc hrun (fun H' locs' hr' hlc' => ?_)
          rw [← bi_tolist]
          exact kk H' locs' ls _ _ hr' hl hw hlc' (by omega) (by omega)
        · cases he
      · cases he
    · cases he
end BV
end
section
/-! all straight instructions, and rows of them -/
section BW
variable {p : Program} {l : Launch} {e : Env} {R : Room} {s : State} {m : MethodId} {args : Array Value} {below : List Frame} {meth : Method} {cd : Code} {Q : State → Prop} {D : va_G} {B0 : Nat} {Hb : Heap} {nL n0 m0 : Nat} {cc : ByteArray} {pc : Nat} {own : String} {L L' : bi_L} {st st' : List bi_V} {h h' : bi_H} {ini : Bool} {r : bi_R} {cf : Nat → List bi_V → bi_H → Option (Option bi_V × bi_H)} {M : Nat → Option bi_M}
theorem bi_s_null (hx : p.tables.exec = Jvm.exec) (hb : cd.code = cc) (hdg : decode cc pc = .ok (.aconst_null, 1)) (kk : bi_At p l e R s m args below meth cd Q D B0 Hb nL n0 m0 (pc + 1) L (.inr (.inl 0) :: st) h) : bi_At p l e R s m args below meth cd Q D B0 Hb nL n0 m0 pc L st h := by
  intro H locs ls cells slots hr hl hw hlc hc hs
  exact lv_null hx hb hdg (kk H locs ls cells slots hr hl hw hlc hc hs)
set_option maxHeartbeats 4000000 in
theorem bi_sx {i : Instr} (hx : p.tables.exec = Jvm.exec) (hb : cd.code = cc) (hml : cd.maxLocals = nL) (hown : s.vm.findClass own = some m.cls) (hini : ini = true → meth.name = "<init>") (hcf : bi_cfok l D B0 Hb M cf) (hok : bi_oki own nL ini i r) (hokc : bi_okc M own R i r) (hdg : decode cc pc = .ok (i, bi_len i)) (he : bi_x cf i r L st h = some (L', st', h')) (hRc : bi_nc h' ≤ n0 + R.cells) (hRs : bi_ns h' ≤ m0 + R.slots) (kk : bi_At p l e R s m args below meth cd Q D B0 Hb nL n0 m0 (pc + bi_len i) L' st' h') : bi_At p l e R s m args below meth cd Q D B0 Hb nL n0 m0 pc L st h := by
  cases i with
  | iconst n => cases he; exact bi_s_num (n := 1) (fun H locs ls cells slots rest _ k => lv_iconst hx hb hdg rfl k) kk
  | bipush n => cases he; exact bi_s_num (n := 2) (fun H locs ls cells slots rest _ k => lv_bipush hx hb hdg hok k) kk
  | sipush n => cases he; exact bi_s_num (n := 3) (fun H locs ls cells slots rest _ k => lv_sipush hx hb hdg hok k) kk
  | ldc n => cases he; exact bi_s_num (n := 2) (fun H locs ls cells slots rest hr k => lv_ldc hx hb hown (bi_hts hr hok rfl) hdg k) kk
  | ldc_w n => cases he; exact bi_s_num (n := 3) (fun H locs ls cells slots rest hr k => lv_ldcw hx hb hown (bi_hts hr hok rfl) hdg k) kk
  | aconst_null => cases he; exact bi_s_null hx hb hdg kk
  | iload_n n => exact bi_s_ldi hx hb (Or.inl ⟨n, rfl, rfl⟩) hdg he kk
  | iload n => exact bi_s_ldi hx hb (Or.inr rfl) hdg he kk
  | aload_n n => exact bi_s_lda hx hb (Or.inl ⟨n, rfl, rfl⟩) hdg he kk
  | aload n => exact bi_s_lda hx hb (Or.inr rfl) hdg he kk
  | istore_n n => exact bi_s_sti hx hb (Or.inl ⟨n, rfl, rfl⟩) hok hdg he kk
  | istore n => exact bi_s_sti hx hb (Or.inr rfl) hok hdg he kk
  | astore_n n => exact bi_s_sta hx hb (Or.inl ⟨n, rfl, rfl⟩) hok hdg he kk
  | astore n => exact bi_s_sta hx hb (Or.inr rfl) hok hdg he kk
  | iinc n v => exact bi_s_iinc hx hb hok hdg he kk
  | iadd => exact bi_s_op2 (fun x y H locs ls cells slots rest k => lv_iadd hx hb hdg k) he kk
  | isub => exact bi_s_op2 (fun x y H locs ls cells slots rest k => lv_isub hx hb hdg k) he kk
  | imul => exact bi_s_op2 (fun x y H locs ls cells slots rest k => lv_imul hx hb hdg k) he kk
  | iand => exact bi_s_op2 (fun x y H locs ls cells slots rest k => lv_iand hx hb hdg k) he kk
  | ixor => exact bi_s_op2 (fun x y H locs ls cells slots rest k => lv_ixor hx hb hdg k) he kk
  | idiv => exact bi_s_div hx hb hdg he kk
  | irem => exact bi_s_rem hx hb hdg he kk
  | i2l => exact bi_s_i2l hx hb hdg he kk
  | lcmp => exact bi_s_lcmp hx hb hdg he kk
  | dup => exact bi_s_dup hx hb hdg he kk
  | dup2 => exact bi_s_dup2 hx hb hdg he kk
  | getfield k => exact bi_s_get hx hb hown hok hdg he kk
  | putfield k => exact bi_s_put hx hb hown hini hok hdg he kk
  | iaload => exact bi_s_iald hx hb hdg he kk
  | baload => exact bi_s_bald hx hb hdg he kk
  | laload => exact bi_s_lald hx hb hdg he kk
  | aaload => exact bi_s_aald hx hb hdg he kk
  | iastore => exact bi_s_iast hx hb hdg he kk
  | bastore => exact bi_s_bast hx hb hdg he kk
  | lastore => exact bi_s_last hx hb hdg he kk
  | aastore => exact bi_s_aast hx hb hdg he kk
  | arraylength => exact bi_s_alen hx hb hdg he kk
  | newarray t => exact bi_s_newa hx hb hok hdg he hRc hRs kk
  | anewarray k => exact bi_s_anew hx hb hown hok hdg he hRc hRs kk
  | multianewarray k d => exact bi_s_multi hx hb hown hok hdg he hRc hRs kk
  | new k => exact bi_s_new hx hb hown hok hdg he hRc hRs kk
  | invokestatic k => exact bi_s_static hx hb hml hown hcf hokc hdg he hRc hRs kk
  | invokevirtual k => exact bi_s_virtual hx hb hml hown hcf hokc hdg he hRc hRs kk
  | invokespecial k => exact bi_s_special hx hb hml hown hcf hokc hdg he hRc hRs kk
  | _ => cases he
/-- what is made only grows -/
def bi_up (h h' : bi_H) : Prop := bi_nc h ≤ bi_nc h' ∧ bi_ns h ≤ bi_ns h' ∧ bi_nx h ≤ bi_nx h'
theorem bi_up_rf {h : bi_H} : bi_up h h := ⟨Nat.le_refl _, Nat.le_refl _, Nat.le_refl _⟩
theorem bi_up.tr {h1 h2 h3 : bi_H} (a : bi_up h1 h2) (b : bi_up h2 h3) : bi_up h1 h3 := ⟨Nat.le_trans a.1 b.1, Nat.le_trans a.2.1 b.2.1, Nat.le_trans a.2.2 b.2.2⟩
theorem bi_up_new {h : bi_H} {kd : Nat × Nat} {n : Nat} : bi_up h (bi_new h kd n) := ⟨Nat.le_add_right _ _, Nat.le_add_right _ _, Nat.le_add_right _ _⟩
theorem bi_up_new2 {h : bi_H} {n k : Nat} : bi_up h (bi_new2 h n k) := ⟨by show bi_nc h ≤ bi_nc h + n + 1; omega, by show bi_ns h ≤ bi_ns h + n + n * k; omega, by show bi_nx h ≤ bi_nx h + n + 1; omega⟩
theorem bi_up_ret {mi : Nat} {as : List bi_V} {rest : List bi_V} (hcf : ∀ (mi : Nat) (as : List bi_V) (h : bi_H) (v : Option bi_V) (h' : bi_H), cf mi as h = some (v, h') → bi_up h h') (he : bi_ret L rest (cf mi as h) = some (L', st', h')) : bi_up h h' := by
  unfold bi_ret at he
  split at he
  · rename_i v h1 hc
    cases he
    exact hcf _ _ _ _ _ hc
  · cases he
theorem bi_up_callo {mi n c : Nat} (hcf : ∀ (mi : Nat) (as : List bi_V) (h : bi_H) (v : Option bi_V) (h' : bi_H), cf mi as h = some (v, h') → bi_up h h') (he : bi_callo cf mi n c L st h = some (L', st', h')) : bi_up h h' := by
  unfold bi_callo at he
  split at he
  · split at he
    · exact bi_up_ret hcf he
    · cases he
  · cases he
theorem bi_up_calls {mi n : Nat} (hcf : ∀ (mi : Nat) (as : List bi_V) (h : bi_H) (v : Option bi_V) (h' : bi_H), cf mi as h = some (v, h') → bi_up h h') (he : bi_calls cf mi n L st h = some (L', st', h')) : bi_up h h' := by
  unfold bi_calls at he
  split at he
  · exact bi_up_ret hcf he
  · cases he
set_option maxHeartbeats 4000000 in
theorem bi_up_x {i : Instr} (hcf : ∀ (mi : Nat) (as : List bi_V) (h : bi_H) (v : Option bi_V) (h' : bi_H), cf mi as h = some (v, h') → bi_up h h') (he : bi_x cf i r L st h = some (L', st', h')) : bi_up h h' := by
  cases i with
  | invokestatic k => exact bi_up_calls hcf he
  | invokevirtual k => exact bi_up_callo hcf he
  | invokespecial k =>
    unfold bi_x at he
    dsimp only at he
    split at he
    · split at he
      · split at he
        · cases he; exact bi_up_rf
        · cases he
      · cases he
    · exact bi_up_callo hcf he
  | _ =>
    unfold bi_x at he
    dsimp only at he
    try unfold bi_ldi at he
    try unfold bi_lda at he
    try unfold bi_sti at he
    try unfold bi_sta at he
    try unfold bi_op2 at he
    repeat' (split at he)
    all_goals first | (cases he; first | exact bi_up_rf | exact bi_up_new | exact bi_up_new2) | cases he
theorem bi_up_xs (hcf : ∀ (mi : Nat) (as : List bi_V) (h : bi_H) (v : Option bi_V) (h' : bi_H), cf mi as h = some (v, h') → bi_up h h') : ∀ (is : List bi_I) {L L' : bi_L} {st st' : List bi_V} {h h' : bi_H}, bi_xs cf is L st h = some (L', st', h') → bi_up h h'
  | [], _, _, _, _, _, _, he => by cases he; exact bi_up_rf
  | i :: is, L, L', st, st', h, h', he => by
    unfold bi_xs at he
    split at he
    · cases he
    · rename_i q hq
      exact bi_up.tr (bi_up_x hcf hq) (bi_up_xs hcf is he)
/-- the place behind a row of instructions -/
def bi_end : Nat → List bi_I → Nat
  | pc, [] => pc
  | pc, i :: is => bi_end (pc + bi_len i.1) is
/-- a row of instructions as the code has it -/
def bi_okr (M : Nat → Option bi_M) (own : String) (nL : Nat) (ini : Bool) (R : Room) (cc : ByteArray) : Nat → List bi_I → Prop
  | _, [] => True
  | pc, i :: is => decode cc pc = .ok (i.1, bi_len i.1) ∧ bi_oki own nL ini i.1 i.2 ∧ bi_okc M own R i.1 i.2 ∧ bi_okr M own nL ini R cc (pc + bi_len i.1) is
theorem bi_okr_room {M : Nat → Option bi_M} {own : String} {nL : Nat} {ini : Bool} {R R' : Room} {cc : ByteArray} (hf : R'.frames = R.frames) (hl : R'.locals = R.locals) : ∀ (is : List bi_I) (pc : Nat), bi_okr M own nL ini R cc pc is → bi_okr M own nL ini R' cc pc is
  | [], _, h => h
  | i :: is, pc, h => by
    obtain ⟨h1, h2, h3, h4⟩ := h
    refine ⟨h1, h2, ?_, bi_okr_room hf hl is _ h4⟩
    unfold bi_okc at h3 ⊢
    unfold bi_okb at h3 ⊢
    rw [hf, hl]
    exact h3
theorem bi_sxs (hx : p.tables.exec = Jvm.exec) (hb : cd.code = cc) (hml : cd.maxLocals = nL) (hown : s.vm.findClass own = some m.cls) (hini : ini = true → meth.name = "<init>") (hcf : bi_cfok l D B0 Hb M cf) (hup : ∀ (mi : Nat) (as : List bi_V) (h : bi_H) (v : Option bi_V) (h' : bi_H), cf mi as h = some (v, h') → bi_up h h') : ∀ (is : List bi_I) (pc : Nat) {L L' : bi_L} {st st' : List bi_V} {h h' : bi_H}, bi_okr M own nL ini R cc pc is → bi_xs cf is L st h = some (L', st', h') → bi_nc h' ≤ n0 + R.cells → bi_ns h' ≤ m0 + R.slots → bi_At p l e R s m args below meth cd Q D B0 Hb nL n0 m0 (bi_end pc is) L' st' h' → bi_At p l e R s m args below meth cd Q D B0 Hb nL n0 m0 pc L st h
  | [], pc, _, _, _, _, _, _, _, he, _, _, kk => by cases he; exact kk
  | i :: is, pc, L, L', st, st', h, h', hok, he, hRc, hRs, kk => by
    obtain ⟨h1, h2, h3, h4⟩ := hok
    unfold bi_xs at he
    split at he
    · cases he
    · rename_i q hq
      have u := bi_up_xs hup is he
      have hRc' : bi_nc q.2.2 ≤ n0 + R.cells := Nat.le_trans u.1 hRc
      have hRs' : bi_ns q.2.2 ≤ m0 + R.slots := Nat.le_trans u.2.1 hRs
      exact bi_sx hx hb hml hown hini hcf h2 h3 h1 hq hRc' hRs' (bi_sxs hx hb hml hown hini hcf hup is _ h4 he hRc hRs kk)
end BW
end
section
/-! blocks and runs: what the interpreter comes to, the machine comes to -/
def bi_pc (P : bi_P) (mi b : Nat) : Option Nat := (P mi b).map (fun q => q.1)
/-- the end of a block as the code has it -/
def bi_okt (P : bi_P) (mi : Nat) (cc : ByteArray) (ret : Option FieldType) (pc : Nat) (t : bi_I) (bs : List Nat) : Prop := match t.1 with
  | .nop => bi_pc P mi (bs.getD 0 0) = some pc
  | .goto off => decode cc pc = .ok (.goto off, 3) ∧ ∃ tg : Nat, (pc : Int) + off = (tg : Int) ∧ bi_pc P mi (bs.getD 0 0) = some tg
  | .ifCond c off => decode cc pc = .ok (.ifCond c off, 3) ∧ bi_pc P mi (bs.getD 1 0) = some (pc + 3) ∧ ∃ tg : Nat, (pc : Int) + off = (tg : Int) ∧ bi_pc P mi (bs.getD 0 0) = some tg
  | .if_icmp c off => decode cc pc = .ok (.if_icmp c off, 3) ∧ bi_pc P mi (bs.getD 1 0) = some (pc + 3) ∧ ∃ tg : Nat, (pc : Int) + off = (tg : Int) ∧ bi_pc P mi (bs.getD 0 0) = some tg
  | .ifnull off => decode cc pc = .ok (.ifnull off, 3) ∧ bi_pc P mi (bs.getD 1 0) = some (pc + 3) ∧ ∃ tg : Nat, (pc : Int) + off = (tg : Int) ∧ bi_pc P mi (bs.getD 0 0) = some tg
  | .ifnonnull off => decode cc pc = .ok (.ifnonnull off, 3) ∧ bi_pc P mi (bs.getD 1 0) = some (pc + 3) ∧ ∃ tg : Nat, (pc : Int) + off = (tg : Int) ∧ bi_pc P mi (bs.getD 0 0) = some tg
  | .tableswitch df lo hi offs => (∃ len, decode cc pc = .ok (.tableswitch df lo hi offs, len)) ∧ (∃ tg : Nat, (pc : Int) + df = (tg : Int) ∧ bi_pc P mi (bs.getD 0 0) = some tg) ∧ ∀ k, k < (hi - lo + 1).toNat → ∃ (off : Int) (tg : Nat), offs[k]? = some off ∧ (pc : Int) + off = (tg : Int) ∧ bi_pc P mi (bs.getD (k + 1) 0) = some tg
  | .ireturn => decode cc pc = .ok (.ireturn, 1) ∧ ((t.2.1 = 0 ∧ ret = some .int) ∨ (t.2.1 = 1 ∧ ret = some .boolean))
  | .areturn => decode cc pc = .ok (.areturn, 1) ∧ ∃ rt, ret = some rt ∧ bi_isr rt = true
  | .return_ => decode cc pc = .ok (.return_, 1) ∧ ret = none
  | _ => True
theorem bi_up_t {cf : Nat → List bi_V → bi_H → Option (bi_O × bi_H)} {t : bi_I} {bs : List Nat} {L : bi_L} {st : List bi_V} {h : bi_H} (hcf : ∀ (mi : Nat) (as : List bi_V) (h : bi_H) (o : bi_O) (h' : bi_H), cf mi as h = some (o, h') → bi_up h h') :
    (∀ o h', bi_t cf t bs L st h = some (.inl (o, h')) → bi_up h h') ∧ (∀ b L' st' h', bi_t cf t bs L st h = some (.inr (b, L', st', h')) → bi_up h h') := by
  obtain ⟨i, r⟩ := t
  constructor
  · intro o h' he
    unfold bi_t at he
    dsimp only at he
    repeat' (split at he)
    all_goals first | (cases he; first | exact bi_up_rf | exact bi_up_new) | cases he
  · intro b L' st' h' he
    unfold bi_t at he
    dsimp only at he
    repeat' (split at he)
    all_goals first | (cases he; first | exact bi_up_rf | (apply hcf; assumption)) | cases he
theorem bi_up_run (P : bi_P) : ∀ (n mi b : Nat) (L : bi_L) (st : List bi_V) (h : bi_H) (o : bi_O) (h' : bi_H), bi_run P n mi b L st h = some (o, h') → bi_up h h'
  | 0, _, _, _, _, _, _, _, he => by cases he
  | n + 1, mi, b, L, st, h, o, h', he => by
    unfold bi_run at he
    split at he
    · cases he
    · rename_i q hq
      split at he
      · cases he
      · rename_i z hz
        have u1 : bi_up h z.2.2 := bi_up_xs (fun mi as h v h' hc => by
          split at hc
          · rename_i v0 h0 hr
            cases hc
            exact bi_up_run P n _ _ _ _ _ _ _ hr
          · cases hc) _ hz
        have u2 := bi_up_t (t := q.2.2.1) (bs := q.2.2.2) (L := z.1) (st := z.2.1) (h := z.2.2) (cf := fun m as h => bi_run P n m 0 (bi_loc as) [] h) (fun mi as h o h' hc => bi_up_run P n _ _ _ _ _ _ _ hc)
        split at he
        · cases he
        · rename_i o1 ht
          cases he
          exact u1.tr (u2.1 _ _ ht)
        · rename_i w ht
          exact (u1.tr (u2.2 _ _ _ _ ht)).tr (bi_up_run P n _ _ _ _ _ _ _ he)
/-- the calls of a run of n blocks -/
def bi_cfn (P : bi_P) (n : Nat) : Nat → List bi_V → bi_H → Option (Option bi_V × bi_H) := fun m as h => match bi_run P n m 0 (bi_loc as) [] h with
  | some (.inl v, h') => some (v, h')
  | _ => none
theorem bi_up_cfn (P : bi_P) (n : Nat) : ∀ (mi : Nat) (as : List bi_V) (h : bi_H) (v : Option bi_V) (h' : bi_H), bi_cfn P n mi as h = some (v, h') → bi_up h h' := by
  intro mi as h v h' hc
  unfold bi_cfn at hc
  split at hc
  · rename_i v0 h0 hr
    cases hc
    exact bi_up_run P n _ _ _ _ _ _ _ hr
  · cases hc
section BR
variable {p : Program} {l : Launch} {e : Env} {R : Room} {s : State} {m : MethodId} {args : Array Value} {below : List Frame} {meth : Method} {cd : Code} {Q : State → Prop} {D : va_G} {B0 : Nat} {Hb : Heap} {nL n0 m0 : Nat} {cc : ByteArray} {pc : Nat} {own : String} {L L' : bi_L} {st st' : List bi_V} {h h' : bi_H} {ini : Bool} {r : bi_R} {M : Nat → Option bi_M} {P : bi_P}
/-- a jump: its condition decides -/
theorem bi_if {c : ClassFile.Cond} {off : Int} {tg : Nat} {H : Heap} {locs : List Loc} {cells slots : Nat} {ls : Array Slot} {rest : List Value} {x : Int32} (hx : p.tables.exec = Jvm.exec) (hb : cd.code = cc) (hdg : decode cc pc = .ok (.ifCond c off, 3)) (htg : (pc : Int) + off = (tg : Int)) (kt : bi_c c x 0 = true → W p l e R s m args below meth cd H locs cells slots Q (F0 m tg ls rest)) (kf : ¬ bi_c c x 0 = true → W p l e R s m args below meth cd H locs cells slots Q (F0 m (pc + 3) ls rest)) : W p l e R s m args below meth cd H locs cells slots Q (F0 m pc ls (.int x :: rest)) := by
  cases c with
  | eq => exact lv_if_eq hx hb hdg htg (fun z => kt (decide_eq_true z)) (fun z => kf (fun w => z (of_decide_eq_true w)))
  | ne => exact lv_if_ne hx hb hdg htg (fun z => kt (decide_eq_true z)) (fun z => kf (fun w => (of_decide_eq_true w) z))
  | lt => exact lv_if_lt hx hb hdg htg (fun z => kt (decide_eq_true z)) (fun z => kf (fun w => z (of_decide_eq_true w)))
  | ge => exact lv_if_ge hx hb hdg htg (fun z => kt (decide_eq_true z)) (fun z => kf (fun w => z (of_decide_eq_true w)))
  | gt => exact lv_if_gt hx hb hdg htg (fun z => kt (decide_eq_true z)) (fun z => kf (fun w => z (of_decide_eq_true w)))
  | le => exact lv_if_le hx hb hdg htg (fun z => kt (decide_eq_true z)) (fun z => kf (fun w => z (of_decide_eq_true w)))
theorem bi_icmp {c : ClassFile.Cond} {off : Int} {tg : Nat} {H : Heap} {locs : List Loc} {cells slots : Nat} {ls : Array Slot} {rest : List Value} {x y : Int32} (hx : p.tables.exec = Jvm.exec) (hb : cd.code = cc) (hdg : decode cc pc = .ok (.if_icmp c off, 3)) (htg : (pc : Int) + off = (tg : Int)) (kt : bi_c c x y = true → W p l e R s m args below meth cd H locs cells slots Q (F0 m tg ls rest)) (kf : ¬ bi_c c x y = true → W p l e R s m args below meth cd H locs cells slots Q (F0 m (pc + 3) ls rest)) : W p l e R s m args below meth cd H locs cells slots Q (F0 m pc ls (.int y :: .int x :: rest)) := by
  cases c with
  | eq => exact lv_icmp_eq hx hb hdg htg (fun z => kt (decide_eq_true z)) (fun z => kf (fun w => z (of_decide_eq_true w)))
  | ne => exact lv_icmp_ne hx hb hdg htg (fun z => kt (decide_eq_true z)) (fun z => kf (fun w => (of_decide_eq_true w) z))
  | lt => exact lv_icmp_lt hx hb hdg htg (fun z => kt (decide_eq_true z)) (fun z => kf (fun w => z (of_decide_eq_true w)))
  | ge => exact lv_icmp_ge hx hb hdg htg (fun z => kt (decide_eq_true z)) (fun z => kf (fun w => z (of_decide_eq_true w)))
  | gt => exact lv_icmp_gt hx hb hdg htg (fun z => kt (decide_eq_true z)) (fun z => kf (fun w => z (of_decide_eq_true w)))
  | le => exact lv_icmp_le hx hb hdg htg (fun z => kt (decide_eq_true z)) (fun z => kf (fun w => z (of_decide_eq_true w)))
/-- the ends of blocks that go on, but for calls -/
theorem bi_st_next {t : bi_I} {bs : List Nat} {ret : Option FieldType} {mi : Nat} {w : Nat × bi_L × List bi_V × bi_H} {cf : Nat → List bi_V → bi_H → Option (bi_O × bi_H)} (hx : p.tables.exec = Jvm.exec) (hb : cd.code = cc) (hok : bi_okt P mi cc ret pc t bs) (hnc : ∀ k, t.1 ≠ .invokevirtual k) (he : bi_t cf t bs L st h = some (.inr w)) (kk : ∀ pc', bi_pc P mi w.1 = some pc' → bi_At p l e R s m args below meth cd Q D B0 Hb nL n0 m0 pc' w.2.1 w.2.2.1 w.2.2.2) : bi_At p l e R s m args below meth cd Q D B0 Hb nL n0 m0 pc L st h := by
  obtain ⟨i, r⟩ := t
  intro H locs ls cells slots hr hl hw hlc hc hs
  cases i with
  | nop =>
    cases he
    exact kk pc hok H locs ls cells slots hr hl hw hlc hc hs
  | goto off =>
    obtain ⟨hdg, tg, htg, hp⟩ := hok
    cases he
    exact lv_goto hx hb hdg htg (kk tg hp H locs ls cells slots hr hl hw hlc hc hs)
  | ifCond c off =>
    obtain ⟨hdg, hp3, tg, htg, hp⟩ := hok
    unfold bi_t at he
    dsimp only at he
    split at he
    · rename_i x st0
      cases he
      dsimp only at kk
      refine bi_if hx hb hdg htg (fun z => ?_) (fun z => ?_)
      · rw [if_pos z] at kk
        exact kk tg hp H locs ls cells slots hr hl hw hlc hc hs
      · rw [if_neg z] at kk
        exact kk (pc + 3) hp3 H locs ls cells slots hr hl hw hlc hc hs
    · cases he
  | if_icmp c off =>
    obtain ⟨hdg, hp3, tg, htg, hp⟩ := hok
    unfold bi_t at he
    dsimp only at he
    split at he
    · rename_i y x st0
      cases he
      dsimp only at kk
      refine bi_icmp hx hb hdg htg (fun z => ?_) (fun z => ?_)
      · rw [if_pos z] at kk
        exact kk tg hp H locs ls cells slots hr hl hw hlc hc hs
      · rw [if_neg z] at kk
        exact kk (pc + 3) hp3 H locs ls cells slots hr hl hw hlc hc hs
    · cases he
  | ifnull off =>
    obtain ⟨hdg, hp3, tg, htg, hp⟩ := hok
    unfold bi_t at he
    dsimp only at he
    split at he
    · rename_i a st0
      cases he
      dsimp only at kk
      cases a with
      | zero =>
        rw [if_pos rfl] at kk
        exact lv_ifnullN hx hb hdg htg (kk tg hp H locs ls cells slots hr hl hw hlc hc hs)
      | succ a =>
        rw [if_neg (Nat.succ_ne_zero a)] at kk
        exact lv_ifnull hx hb hdg (kk (pc + 3) hp3 H locs ls cells slots hr hl hw hlc hc hs)
    · cases he
  | ifnonnull off =>
    obtain ⟨hdg, hp3, tg, htg, hp⟩ := hok
    unfold bi_t at he
    dsimp only at he
    split at he
    · rename_i a st0
      cases he
      dsimp only at kk
      cases a with
      | zero =>
        rw [if_pos rfl] at kk
        exact lv_ifnonnullN hx hb hdg (kk (pc + 3) hp3 H locs ls cells slots hr hl hw hlc hc hs)
      | succ a =>
        rw [if_neg (Nat.succ_ne_zero a)] at kk
        exact lv_ifnonnull hx hb hdg htg (kk tg hp H locs ls cells slots hr hl hw hlc hc hs)
    · cases he
  | tableswitch df lo hi offs =>
    obtain ⟨⟨len, hdg⟩, ⟨tg, htg, hp⟩, hcs⟩ := hok
    unfold bi_t at he
    dsimp only at he
    split at he
    · rename_i x st0
      cases he
      dsimp only at kk
      by_cases hxx : x.toInt < lo ∨ hi < x.toInt
      · rw [if_pos hxx] at kk
        exact lv_tableOut hx hb hdg hxx htg (kk tg hp H locs ls cells slots hr hl hw hlc hc hs)
      · rw [if_neg hxx] at kk
        obtain ⟨off, tg2, ho, htg2, hp2⟩ := hcs (x.toInt - lo).toNat (by omega)
        exact lv_tableIn hx hb hdg (by omega) (by omega) ho htg2 (kk tg2 hp2 H locs ls cells slots hr hl hw hlc hc hs)
    · cases he
  | invokevirtual k => exact absurd rfl (hnc k)
  | ireturn =>
    unfold bi_t at he
    dsimp only at he
    repeat' (split at he)
    all_goals cases he
  | areturn =>
    unfold bi_t at he
    dsimp only at he
    repeat' (split at he)
    all_goals cases he
  | return_ =>
    unfold bi_t at he
    dsimp only at he
    repeat' (split at he)
    all_goals cases he
  | athrow =>
    unfold bi_t at he
    dsimp only at he
    repeat' (split at he)
    all_goals cases he
  | _ => cases he
/-- a method's own end -/
theorem bi_st_end {t : bi_I} {bs : List Nat} {ret : Option FieldType} {mi : Nat} {v : Option bi_V} {cf : Nat → List bi_V → bi_H → Option (bi_O × bi_H)} (hx : p.tables.exec = Jvm.exec) (hb : cd.code = cc) (hret : meth.sig.returnType = ret) (hlocks : meth.locks = false) (hok : bi_okt P mi cc ret pc t bs) (he : bi_t cf t bs L st h = some (.inl (.inl v, h'))) (hn0 : n0 ≤ bi_nc h') (hm0 : m0 ≤ bi_ns h') : bi_At p l e R s m args below meth cd (MQ below (bi_Qc D B0 Hb v h') args s (bi_nc h' - n0) (bi_ns h' - m0) (fun x => B0 ≤ x)) D B0 Hb nL n0 m0 pc L st h := by
  obtain ⟨i, r⟩ := t
  intro H locs ls cells slots hr hl hw hlc hc hs
  have hq : ∀ (o : Outcome) (t : State), o = .returned (v.map bi_tv) → h' = h → t.heap = H → s.WarmedH t.vm → bi_Qc D B0 Hb v h' args s o t := fun o t ho hh ht hW => by
    subst hh
    exact ⟨ho, by rw [ht]; exact hr.moved hW⟩
  cases i with
  | ireturn =>
    obtain ⟨hdg, hrt⟩ := hok
    unfold bi_t at he
    dsimp only at he
    split at he
    · rename_i x
      split at he
      · rename_i hx01
        cases he
        have e1 : cells = bi_nc h - n0 := by omega
        have e2 : slots = bi_ns h - m0 := by omega
        subst e1
        subst e2
        rcases hrt with ⟨ht0, hrt⟩ | ⟨ht0, hrt⟩
        · exact W.iret hx hb (by rw [hret]; exact hrt) (fun t ht hW => hq _ t rfl rfl ht hW) hlc hdg hlocks
        · have h01 : x = 0 ∨ x = 1 := hx01.resolve_left (by have ht0 : r.1 = 1 := ht0; show ¬ r.1 = 0; omega)
          exact W.zret hx hb (by rw [hret]; exact hrt) (bi_nar_z h01).1 (fun t ht hW => hq _ t rfl rfl ht hW) hlc hdg hlocks
      · cases he
    · cases he
  | areturn =>
    obtain ⟨hdg, rt, hrt, hir⟩ := hok
    unfold bi_t at he
    dsimp only at he
    split at he
    · rename_i a
      cases he
      have e1 : cells = bi_nc h - n0 := by omega
      have e2 : slots = bi_ns h - m0 := by omega
      subst e1
      subst e2
      have hrt2 : (∃ n, rt = .object n) ∨ ∃ t, rt = .array t := by
        cases rt <;> first | (simp [bi_isr] at hir; done) | exact Or.inl ⟨_, rfl⟩ | exact Or.inr ⟨_, rfl⟩
      have hv : bi_tr a = .null ∨ ∃ b, bi_tr a = .ref b := by
        cases a with
        | zero => exact Or.inl rfl
        | succ a => exact Or.inr ⟨a, rfl⟩
      exact W.aret hx hb (by rw [hret]; exact hrt) hrt2 hv (fun t ht hW => hq _ t rfl rfl ht hW) hlc hdg hlocks
    · cases he
  | return_ =>
    obtain ⟨hdg, hrt⟩ := hok
    unfold bi_t at he
    dsimp only at he
    split at he
    · cases he
      have e1 : cells = bi_nc h - n0 := by omega
      have e2 : slots = bi_ns h - m0 := by omega
      subst e1
      subst e2
      exact W.vret hx hb (by rw [hret]; exact hrt) (fun t ht hW => hq _ t rfl rfl ht hW) hlc hdg hlocks
    · cases he
  | athrow =>
    unfold bi_t at he
    dsimp only at he
    repeat' (split at he)
    all_goals cases he
  | _ =>
    unfold bi_t at he
    dsimp only at he
    repeat' (split at he)
    all_goals cases he
end BR
end
section
/-! throws out of a method, with the size of the heap behind them (after the kit's vx_throwS, vx_throwSW), and what a method that throws is -/
section BT
variable {p : Program} {l : Launch} {e : Env} {R : Room} {s : State} {m : MethodId} {args : Array Value} {below : List Frame} {meth : Method} {c : Code} {H : Heap} {locs : List Loc} {cells slots : Nat} {Q : State → Prop}
variable {mc ms : Nat} {free : Addr → Prop} {A0 A1 : Nat → Prop} {H0 : Heap} {a : Array Value} {ls : Array Slot} {st0 rest : List Value}
variable {Qc : Array Value → State → Outcome → State → Prop} {XC : String → State → State → Prop}
/-- 'throw new E("text")': new; dup; ldc; invokespecial; athrow -/
theorem bi_throwS {cc : ByteArray} {pc : Nat} (hexec : p.tables.exec = Jvm.exec) (hb : c.code = cc) (hl : l.stackTraces = false) {own cls text : String} {names : List String} {ik is ic mc ms sa : Nat} {A : Nat → Prop}
    (hown : s.vm.findClass own = some m.cls) (hcls : Bundle.fit cls = true) (hnames : ∀ n ∈ names, Bundle.fit n = true)
    (hk : (Cond.classLink own ik cls).before args s = true) (hini : (Cond.initialized cls).before args s = true) (hstr : vk_R own is text sa s) (hat : ∀ w ∈ vx_atS own ic cls names, w.before args s = true)
    (hgood : ∀ w ∈ Cond.classLink own ik cls :: Cond.initialized cls :: vx_atS own ic cls names, vx_ot w = true)
    (hU : vx_Zq Bundle.tN "UNASSIGNED_STACK" Bundle.steD A s s.heap) (hN : vx_Zq Bundle.tN "SUPPRESSED_SENTINEL" Bundle.listD A s s.heap) (hS : va_S A s.heap H locs) (hsize : ls.size = c.maxLocals)
    (d0 : decode cc pc = .ok (.new ik, 3)) (d3 : decode cc (pc + 3) = .ok (.dup, 1)) (d4 : decode cc (pc + 4) = .ok (.ldc is, 2)) (d6 : decode cc (pc + 6) = .ok (.invokespecial ic, 3)) (d9 : decode cc (pc + 9) = .ok (.athrow, 1))
    (hout : ∀ x ∈ c.exceptionTable.toList, covers x (pc + 9) = false)
    (hRframes : names.length + 3 < R.frames) (hRlocals : (rest.map fun v => v.category).sum + (13 * (names.length + 1) + 43) ≤ R.locals) (hRcells : cells + 1 ≤ R.cells) (hRslots : slots + 6 ≤ R.slots) (hlocks : meth.locks = false)
    (hx : ∀ t : State, s.WarmedH t.vm → t.heap.size = H.size + 1 → (∀ q : Nat, q < H.size → t.heap[q]? = H[q]?) → XC cls s t)
    (hf : ∀ z ∈ locs, free z.base) (hc : cells + 1 ≤ mc) (hs : slots + 6 ≤ ms) :
    W p l e R s m args below meth c H locs cells slots (vx_MQ below Qc XC args s mc ms free) (F0 m pc ls rest) := by
  intro T hT X
  have htr : e.platform.stackTraces = false := (show e.platform.stackTraces = l.stackTraces by rw [X.admits.platform]).trans hl
  have Y := vx_rebase X (R' := { frames := R.frames, locals := R.locals, cells := 1, slots := 6 }) (Nat.le_refl _) (Nat.le_refl _) hRcells hRslots
  obtain ⟨s', hA⟩ : ∃ z, z = (T.setVm s.vm).setFrames (.invoking m args :: below) := ⟨_, rfl⟩
  rw [← hA] at Y
  have hvm : s'.vm = s.vm := by rw [hA]; rfl
  have hhp : s'.heap = H := by rw [hA]; exact hT
  have hW0 : s.WarmedH s'.vm := by rw [hvm]; exact State.WarmedH.refl s
  have hat' : ∀ w ∈ vx_atS own ic cls names, w.before args s' = true := fun w hw => vx_ot_at hW0 hvm.symm (hgood w (List.mem_cons_of_mem _ (List.mem_cons_of_mem _ hw))) (hat w hw)
  have hk' : (Cond.classLink own ik cls).before args s' = true := vx_ot_at hW0 hvm.symm (hgood _ List.mem_cons_self) hk
  have hini' : (Cond.initialized cls).before args s' = true := vx_ot_at hW0 hvm.symm (hgood _ (List.mem_cons_of_mem _ List.mem_cons_self)) hini
  have hU' : vx_Zq Bundle.tN "UNASSIGNED_STACK" Bundle.steD A s' s'.heap := by rw [hhp]; exact vx_Zq.moved hW0.alike (hU.kept hS.2.1)
  have hN' : vx_Zq Bundle.tN "SUPPRESSED_SENTINEL" Bundle.listD A s' s'.heap := by rw [hhp]; exact vx_Zq.moved hW0.alike (hN.kept hS.2.1)
  have h : ∀ w ∈ Bundle.ownAtoms own ic cls names, w.before args s' = true := vx_own hat' (vx_isRefq hU'.1) (vx_isRefq hN'.1) hU'.2.word hN'.2.word
  have hown' : s'.vm.findClass own = some m.cls := by rw [hvm]; exact hown
  have hins : (Cond.instantiable cls 6).before args s' = true := h _ (by simp [Bundle.ownAtoms])
  obtain ⟨vm₁, cX, kX, hfX, hkX, -, -, X₁, st1⟩ := Y.newCold hexec (own := own) (C := cls) (index := ik) (n := 6) hown' hk' hins hini'
    (g := F0 m pc ls rest) rfl (by rw [hb]; exact d0) (Nat.le_refl _) (Nat.le_refl _)
  generalize hT1 : (T.setVm vm₁).pushCell { cls := cX, slots := kX.instanceTypes.map defaultValue, vm := .none } = T1 at X₁ st1
  have hcat : (Value.ref T.heap.size).category = 1 := rfl
  have hcellA : T1.heap[T.heap.size]? = some (freshCell cX kX) := by rw [← hT1]; exact State.heap_pushCell_size _ _
  have d3' : decode c.code (pc + 3) = .ok (.dup, 1) := by rw [hb]; exact d3
  have d4' : decode c.code (pc + 4) = .ok (.ldc is, 2) := by rw [hb]; exact d4
  have hstr' : vk_R own is text sa s' := vk_R.warm hW0 hstr
  obtain ⟨U, hsteps, hrun, hend, hW, hsame, ce, hce, hO⟩ := X₁.ctorThrowS hexec htr (own := own) (cls := cls) (names := names) (ic := ic) hown' hcls hnames h (fun x hx => nomatch hx) hfX hkX hcellA (by rw [hhp, hT]; exact Nat.le_refl _) (msg := .ref sa) rfl
    (g := { method := m, pc := pc + 6, locals := ls, stack := .ref sa :: .ref T.heap.size :: .ref T.heap.size :: rest, locked := none }) rfl hsize rfl rfl (rest := rest) rfl
    (by rw [hb]; exact d6) (by rw [hb]; exact d9) hout hRframes (by simp only [List.map_cons, List.sum_cons, hcat]; omega) hlocks
  obtain ⟨f1, f2⟩ := vx_frame hsame
  rw [hhp] at f1 f2
  have hWs : s.WarmedH U.vm := State.WarmedH.trans hW0 hW
  have hsz9 : U.heap.size = H.size + 1 := by
    have g1 := hsame.2.2.1
    rw [hhp] at g1
    have g2 : U.heap.size ≤ H.size + 1 := g1
    have g3 : T.heap.size < U.heap.size := (Array.getElem?_eq_some_iff.mp hce).1
    rw [hT] at g3
    omega
  have hcl : s.vm.findClass cls = some ce.cls := by
    have h9 := hO.cls
    rw [hvm] at h9
    exact h9
  have hall : s.sameButNew ({ U with vm := s.vm } : State) locs mc ms := by
    subst hA
    obtain ⟨e1, e2⟩ := hsame
    rw [State.setFrames_setFrames] at e1
    have h2 : (T.setVm s.vm).sameButNew ({ U with vm := s.vm } : State) [] (0 + 1) (0 + 6) := ⟨e1, e2⟩
    have h3 := X.same.trans h2
    rw [List.append_nil] at h3
    exact h3.mono hc hs
  refine ⟨U, ?_, .threw T.heap.size, hrun, hend, Or.inr ⟨T.heap.size, rfl, cls, ce, locs, hx U hWs hsz9 (fun q hq => f2 q hq (fun z hz => nomatch hz)), hce, hO.vm, hcl, hWs, hall, hf⟩⟩
  refine st1 _ ?_
  show Steps p.tables e below (T1.setTop { method := m, pc := pc + 3, locals := ls, stack := .ref T.heap.size :: rest, locked := none }) _
  jvm_step X₁.here [X₁.here.top, hexec, d3', Value.category]
  exact X₁.ldcString hexec (own := own) (text := text) (index := is) (a := sa) hown' hstr'.1 hstr'.2
    (g := { method := m, pc := pc + 4, locals := ls, stack := .ref T.heap.size :: .ref T.heap.size :: rest, locked := none }) rfl d4' _ hsteps
/-- 'throw new E("text")', the text by a wide index -/
theorem bi_throwSW {cc : ByteArray} {pc : Nat} (hexec : p.tables.exec = Jvm.exec) (hb : c.code = cc) (hl : l.stackTraces = false) {own cls text : String} {names : List String} {ik is ic mc ms sa : Nat} {A : Nat → Prop}
    (hown : s.vm.findClass own = some m.cls) (hcls : Bundle.fit cls = true) (hnames : ∀ n ∈ names, Bundle.fit n = true)
    (hk : (Cond.classLink own ik cls).before args s = true) (hini : (Cond.initialized cls).before args s = true) (hstr : vk_R own is text sa s) (hat : ∀ w ∈ vx_atS own ic cls names, w.before args s = true)
    (hgood : ∀ w ∈ Cond.classLink own ik cls :: Cond.initialized cls :: vx_atS own ic cls names, vx_ot w = true)
    (hU : vx_Zq Bundle.tN "UNASSIGNED_STACK" Bundle.steD A s s.heap) (hN : vx_Zq Bundle.tN "SUPPRESSED_SENTINEL" Bundle.listD A s s.heap) (hS : va_S A s.heap H locs) (hsize : ls.size = c.maxLocals)
    (d0 : decode cc pc = .ok (.new ik, 3)) (d3 : decode cc (pc + 3) = .ok (.dup, 1)) (d4 : decode cc (pc + 4) = .ok (.ldc_w is, 3)) (d7 : decode cc (pc + 7) = .ok (.invokespecial ic, 3)) (d10 : decode cc (pc + 10) = .ok (.athrow, 1))
    (hout : ∀ x ∈ c.exceptionTable.toList, covers x (pc + 10) = false)
    (hRframes : names.length + 3 < R.frames) (hRlocals : (rest.map fun v => v.category).sum + (13 * (names.length + 1) + 43) ≤ R.locals) (hRcells : cells + 1 ≤ R.cells) (hRslots : slots + 6 ≤ R.slots) (hlocks : meth.locks = false)
    (hx : ∀ t : State, s.WarmedH t.vm → t.heap.size = H.size + 1 → (∀ q : Nat, q < H.size → t.heap[q]? = H[q]?) → XC cls s t)
    (hf : ∀ z ∈ locs, free z.base) (hc : cells + 1 ≤ mc) (hs : slots + 6 ≤ ms) :
    W p l e R s m args below meth c H locs cells slots (vx_MQ below Qc XC args s mc ms free) (F0 m pc ls rest) := by
  intro T hT X
  have htr : e.platform.stackTraces = false := (show e.platform.stackTraces = l.stackTraces by rw [X.admits.platform]).trans hl
  have Y := vx_rebase X (R' := { frames := R.frames, locals := R.locals, cells := 1, slots := 6 }) (Nat.le_refl _) (Nat.le_refl _) hRcells hRslots
  obtain ⟨s', hA⟩ : ∃ z, z = (T.setVm s.vm).setFrames (.invoking m args :: below) := ⟨_, rfl⟩
  rw [← hA] at Y
  have hvm : s'.vm = s.vm := by rw [hA]; rfl
  have hhp : s'.heap = H := by rw [hA]; exact hT
  have hW0 : s.WarmedH s'.vm := by rw [hvm]; exact State.WarmedH.refl s
  have hat' : ∀ w ∈ vx_atS own ic cls names, w.before args s' = true := fun w hw => vx_ot_at hW0 hvm.symm (hgood w (List.mem_cons_of_mem _ (List.mem_cons_of_mem _ hw))) (hat w hw)
  have hk' : (Cond.classLink own ik cls).before args s' = true := vx_ot_at hW0 hvm.symm (hgood _ List.mem_cons_self) hk
  have hini' : (Cond.initialized cls).before args s' = true := vx_ot_at hW0 hvm.symm (hgood _ (List.mem_cons_of_mem _ List.mem_cons_self)) hini
  have hU' : vx_Zq Bundle.tN "UNASSIGNED_STACK" Bundle.steD A s' s'.heap := by rw [hhp]; exact vx_Zq.moved hW0.alike (hU.kept hS.2.1)
  have hN' : vx_Zq Bundle.tN "SUPPRESSED_SENTINEL" Bundle.listD A s' s'.heap := by rw [hhp]; exact vx_Zq.moved hW0.alike (hN.kept hS.2.1)
  have h : ∀ w ∈ Bundle.ownAtoms own ic cls names, w.before args s' = true := vx_own hat' (vx_isRefq hU'.1) (vx_isRefq hN'.1) hU'.2.word hN'.2.word
  have hown' : s'.vm.findClass own = some m.cls := by rw [hvm]; exact hown
  have hins : (Cond.instantiable cls 6).before args s' = true := h _ (by simp [Bundle.ownAtoms])
  obtain ⟨vm₁, cX, kX, hfX, hkX, -, -, X₁, st1⟩ := Y.newCold hexec (own := own) (C := cls) (index := ik) (n := 6) hown' hk' hins hini'
    (g := F0 m pc ls rest) rfl (by rw [hb]; exact d0) (Nat.le_refl _) (Nat.le_refl _)
  generalize hT1 : (T.setVm vm₁).pushCell { cls := cX, slots := kX.instanceTypes.map defaultValue, vm := .none } = T1 at X₁ st1
  have hcat : (Value.ref T.heap.size).category = 1 := rfl
  have hcellA : T1.heap[T.heap.size]? = some (freshCell cX kX) := by rw [← hT1]; exact State.heap_pushCell_size _ _
  have d3' : decode c.code (pc + 3) = .ok (.dup, 1) := by rw [hb]; exact d3
  have d4' : decode c.code (pc + 4) = .ok (.ldc_w is, 3) := by rw [hb]; exact d4
  have hstr' : vk_R own is text sa s' := vk_R.warm hW0 hstr
  obtain ⟨U, hsteps, hrun, hend, hW, hsame, ce, hce, hO⟩ := X₁.ctorThrowS hexec htr (own := own) (cls := cls) (names := names) (ic := ic) hown' hcls hnames h (fun x hx => nomatch hx) hfX hkX hcellA (by rw [hhp, hT]; exact Nat.le_refl _) (msg := .ref sa) rfl
    (g := { method := m, pc := pc + 7, locals := ls, stack := .ref sa :: .ref T.heap.size :: .ref T.heap.size :: rest, locked := none }) rfl hsize rfl rfl (rest := rest) rfl
    (by rw [hb]; exact d7) (by rw [hb]; exact d10) hout hRframes (by simp only [List.map_cons, List.sum_cons, hcat]; omega) hlocks
  obtain ⟨f1, f2⟩ := vx_frame hsame
  rw [hhp] at f1 f2
  have hWs : s.WarmedH U.vm := State.WarmedH.trans hW0 hW
  have hsz9 : U.heap.size = H.size + 1 := by
    have g1 := hsame.2.2.1
    rw [hhp] at g1
    have g2 : U.heap.size ≤ H.size + 1 := g1
    have g3 : T.heap.size < U.heap.size := (Array.getElem?_eq_some_iff.mp hce).1
    rw [hT] at g3
    omega
  have hcl : s.vm.findClass cls = some ce.cls := by
    have h9 := hO.cls
    rw [hvm] at h9
    exact h9
  have hall : s.sameButNew ({ U with vm := s.vm } : State) locs mc ms := by
    subst hA
    obtain ⟨e1, e2⟩ := hsame
    rw [State.setFrames_setFrames] at e1
    have h2 : (T.setVm s.vm).sameButNew ({ U with vm := s.vm } : State) [] (0 + 1) (0 + 6) := ⟨e1, e2⟩
    have h3 := X.same.trans h2
    rw [List.append_nil] at h3
    exact h3.mono hc hs
  refine ⟨U, ?_, .threw T.heap.size, hrun, hend, Or.inr ⟨T.heap.size, rfl, cls, ce, locs, hx U hWs hsz9 (fun q hq => f2 q hq (fun z hz => nomatch hz)), hce, hO.vm, hcl, hWs, hall, hf⟩⟩
  refine st1 _ ?_
  show Steps p.tables e below (T1.setTop { method := m, pc := pc + 3, locals := ls, stack := .ref T.heap.size :: rest, locked := none }) _
  jvm_step X₁.here [X₁.here.top, hexec, d3', Value.category]
  exact X₁.ldcStringW hexec (own := own) (text := text) (index := is) (a := sa) hown' hstr'.1 hstr'.2
    (g := { method := m, pc := pc + 4, locals := ls, stack := .ref T.heap.size :: .ref T.heap.size :: rest, locked := none }) rfl d4' _ hsteps
end BT
/-- the exceptions by their numbers, and the pool entry of their class and constructor in the class -/
def bi_en (e : Nat) : String := if e = 0 then "java/lang/IndexOutOfBoundsException" else "java/lang/IllegalStateException"
def bi_nms : List String := ["java/lang/RuntimeException", "java/lang/Exception"]
theorem bi_xw0 : ∀ w ∈ vx_atS RX9 240 "java/lang/IndexOutOfBoundsException" bi_nms, w ∈ lw_tbl := by decide +kernel
theorem bi_xw1 : ∀ w ∈ vx_atS RX9 253 "java/lang/IllegalStateException" bi_nms, w ∈ lw_tbl := by decide +kernel
theorem bi_xo0 : ∀ w ∈ vx_atS RX9 240 "java/lang/IndexOutOfBoundsException" bi_nms, bi_ok w = true ∧ vx_ot w = true := by decide +kernel
theorem bi_xo1 : ∀ w ∈ vx_atS RX9 253 "java/lang/IllegalStateException" bi_nms, bi_ok w = true ∧ vx_ot w = true := by decide +kernel
def bi_XC (D : va_G) (B0 : Nat) (Hb : Heap) (e : Nat) (h' : bi_H) : String → State → State → Prop := fun E _ t => E = bi_en e ∧ bi_rp D B0 Hb h' t t.heap
def bi_No : Array Value → State → Outcome → State → Prop := fun _ _ _ _ => False
/-- called with as over h the method throws e, and the heap is h' -/
def bi_Cx (l : Launch) (D : va_G) (B0 : Nat) (Hb : Heap) (q : bi_M) (as : List bi_V) (h : bi_H) (e : Nat) (h' : bi_H) : Prop :=
  bi_nc h ≤ bi_nc h' ∧ bi_ns h ≤ bi_ns h' ∧ vx_Met l q.1 [bi_cw q] (bi_rm q h h') (bi_Pc D B0 Hb as h) bi_No (bi_XC D B0 Hb e h') (bi_nc h' - bi_nc h) (bi_ns h' - bi_ns h) (fun x => B0 ≤ x)
/-- a throw as the code has it -/
def bi_oktx (own : String) (cc : ByteArray) (R : Room) (pc : Nat) (r : bi_R) : Prop := own = RX9 ∧ 6 ≤ R.frames ∧ 90 ≤ R.locals ∧ (∃ tx, (r.2.2.1, tx) ∈ bi_strs) ∧ ((r.1 = 0 ∧ r.2.1 = 236 ∧ r.2.2.2 = 240) ∨ (r.1 = 1 ∧ r.2.1 = 249 ∧ r.2.2.2 = 253)) ∧ decode cc pc = .ok (.new r.2.1, 3) ∧ decode cc (pc + 3) = .ok (.dup, 1) ∧
  ((decode cc (pc + 4) = .ok (.ldc r.2.2.1, 2) ∧ decode cc (pc + 6) = .ok (.invokespecial r.2.2.2, 3) ∧ decode cc (pc + 9) = .ok (.athrow, 1)) ∨ (decode cc (pc + 4) = .ok (.ldc_w r.2.2.1, 3) ∧ decode cc (pc + 7) = .ok (.invokespecial r.2.2.2, 3) ∧ decode cc (pc + 10) = .ok (.athrow, 1)))
theorem bi_xk0 : Cond.classLink RX9 236 "java/lang/IndexOutOfBoundsException" ∈ lw_tbl ∧ Cond.initialized "java/lang/IndexOutOfBoundsException" ∈ lw_tbl := by decide +kernel
theorem bi_xk1 : Cond.classLink RX9 249 "java/lang/IllegalStateException" ∈ lw_tbl ∧ Cond.initialized "java/lang/IllegalStateException" ∈ lw_tbl := by decide +kernel
theorem bi_fits : Bundle.fit "java/lang/IndexOutOfBoundsException" = true ∧ Bundle.fit "java/lang/IllegalStateException" = true ∧ ∀ n ∈ bi_nms, Bundle.fit n = true := by decide +kernel
section BU
variable {p : Program} {l : Launch} {e : Env} {R : Room} {s : State} {m : MethodId} {args : Array Value} {below : List Frame} {meth : Method} {cd : Code} {Q : State → Prop} {D : va_G} {B0 : Nat} {Hb : Heap} {nL n0 m0 : Nat} {cc : ByteArray} {pc : Nat} {own : String} {L L' : bi_L} {st st' : List bi_V} {h h' : bi_H} {r : bi_R} {M : Nat → Option bi_M} {P : bi_P}
/-- the heap with an exception's cell more -/
theorem bi_rp.thrown {H H' : Heap} {U : State} (hr : bi_rp D B0 Hb h s H) (hW : s.WarmedH U.vm) (hz : H'.size = H.size + 1) (ho : ∀ q, q < H.size → H'[q]? = H[q]?) : bi_rp D B0 Hb (bi_new h (0, 0) 6) U H' := by
  have h1 : bi_rp D B0 Hb (bi_new h (0, 0) 6) s H' := hr.born hz ho (bi_cell.none (by rw [bi_new_k hr.1.1]))
  exact h1.moved hW
/-- a method's end by a throw -/
theorem bi_st_throw {x : Nat} (hx : p.tables.exec = Jvm.exec) (hb : cd.code = cc) (hml : cd.maxLocals = nL) (hlt : l.stackTraces = false) (hown : s.vm.findClass own = some m.cls) (hlocks : meth.locks = false) (hte : ∀ z ∈ cd.exceptionTable.toList, False) (hS0 : ∀ q, q < B0 → s.heap[q]? = Hb[q]?) (hsx : s.heap.size + 1 ≤ bi_nx h) (hok : bi_oktx own cc R pc r) (hrx : r.1 = x) (hn0 : n0 ≤ bi_nc h) (hm0 : m0 ≤ bi_ns h) (hRc : bi_nc h + 1 ≤ n0 + R.cells) (hRs : bi_ns h + 6 ≤ m0 + R.slots) (hst : st = []) : bi_At p l e R s m args below meth cd (vx_MQ below bi_No (bi_XC D B0 Hb x (bi_new h (0, 0) 6)) args s (bi_nc h + 1 - n0) (bi_ns h + 6 - m0) (fun x => B0 ≤ x)) D B0 Hb nL n0 m0 pc L st h := by
  intro H locs ls cells slots hr hl hw hlc hc hs
  subst hst
  obtain ⟨rfl, hfr, hlo, ⟨tx, htx⟩, hcase, d0, d3, hd⟩ := hok
  obtain ⟨sa, hsa⟩ := hr.2.2.1.2.1 _ htx
  have hU : vx_Zq Bundle.tN "UNASSIGNED_STACK" Bundle.steD (fun q => B0 ≤ q) s s.heap := hr.2.2.1.2.2.1.kept (fun a h1 h2 => hS0 a (by omega))
  have hN : vx_Zq Bundle.tN "SUPPRESSED_SENTINEL" Bundle.listD (fun q => B0 ≤ q) s s.heap := hr.2.2.1.2.2.2.1.kept (fun a h1 h2 => hS0 a (by omega))
  have hext : ∀ q : Nat, q < B0 → H[q]? = s.heap[q]? := fun q hq => (hr.1.2.2 q hq).trans (hS0 q hq).symm
  have fin : ∀ (cls : String) (ik ic : Nat), cls = bi_en x → Bundle.fit cls = true → Cond.classLink RX9 ik cls ∈ lw_tbl → Cond.initialized cls ∈ lw_tbl → (∀ w ∈ vx_atS RX9 ic cls bi_nms, w ∈ lw_tbl) → (∀ w ∈ vx_atS RX9 ic cls bi_nms, bi_ok w = true ∧ vx_ot w = true) → r.2.1 = ik → r.2.2.2 = ic → W p l e R s m args below meth cd H locs cells slots (vx_MQ below bi_No (bi_XC D B0 Hb x (bi_new h (0, 0) 6)) args s (bi_nc h + 1 - n0) (bi_ns h + 6 - m0) (fun x => B0 ≤ x)) (F0 m pc ls []) := by
    intro cls ik ic hcls hfit hk hini hin hoks hik hic
    subst hik
    subst hic
    have hXC : ∀ t : State, s.WarmedH t.vm → t.heap.size = H.size + 1 → (∀ q : Nat, q < H.size → t.heap[q]? = H[q]?) → bi_XC D B0 Hb x (bi_new h (0, 0) 6) cls s t := fun t hW hz ho => ⟨hcls, hr.thrown hW hz ho⟩
    have hgood : ∀ w ∈ Cond.classLink RX9 r.2.1 cls :: Cond.initialized cls :: vx_atS RX9 r.2.2.2 cls bi_nms, vx_ot w = true := fun w hw => by
      rcases List.mem_cons.mp hw with rfl | hw
      · rfl
      · rcases List.mem_cons.mp hw with rfl | hw
        · rfl
        · exact (hoks w hw).2
    have hat : ∀ w ∈ vx_atS RX9 r.2.2.2 cls bi_nms, w.before args s = true := fun w hw => bi_hts hr (hin w hw) (hoks w hw).1
    have hSS : va_S (fun q => B0 ≤ q) s.heap H locs := ⟨by have := hr.1.1; omega, fun q _ h2 => hext q (by omega), hlc⟩
    rcases hd with ⟨d4, d6, d9⟩ | ⟨d4, d7, d10⟩
    · exact bi_throwS (A := fun q => B0 ≤ q) hx hb hlt hown hfit bi_fits.2.2 (bi_hts hr hk rfl) (bi_hts hr hini rfl) hsa hat hgood hU hN hSS (by rw [hml]; exact hl.1) d0 d3 d4 d6 d9 (fun z hz => (hte z hz).elim) hfr (by simp [bi_nms]; omega) (by omega) (by omega) hlocks hXC hlc (by omega) (by omega)
    · exact bi_throwSW (A := fun q => B0 ≤ q) hx hb hlt hown hfit bi_fits.2.2 (bi_hts hr hk rfl) (bi_hts hr hini rfl) hsa hat hgood hU hN hSS (by rw [hml]; exact hl.1) d0 d3 d4 d7 d10 (fun z hz => (hte z hz).elim) hfr (by simp [bi_nms]; omega) (by omega) (by omega) hlocks hXC hlc (by omega) (by omega)
  subst hrx
  rcases hcase with ⟨h1, h2, h3⟩ | ⟨h1, h2, h3⟩
  · exact fin _ 236 240 (by rw [h1]; rfl) bi_fits.1 bi_xk0.1 bi_xk0.2 bi_xw0 bi_xo0 h2 h3
  · exact fin _ 249 253 (by rw [h1]; rfl) bi_fits.2.1 bi_xk1.1 bi_xk1.2 bi_xw1 bi_xo1 h2 h3
end BU
end
section
/-! every run of the interpreter is a run of the machine -/
/-- a call that may throw, with its handlers, as the code has it -/
def bi_okty (M : Nat → Option bi_M) (P : bi_P) (mi : Nat) (own : String) (nL : Nat) (R : Room) (cc : ByteArray) (hh : List (Nat × Nat × Nat × Nat)) (pc k : Nat) (r : bi_R) (bs : List Nat) : Prop :=
  bi_okc M own R (.invokevirtual k) r ∧ decode cc pc = .ok (.invokevirtual k, 3) ∧ bi_pc P mi (bs.getD 0 0) = some (pc + 3) ∧ bs.length ≤ 3 ∧ r.2.2.2 < nL ∧
  (1 < bs.length → ∃ a hs, hh = a :: hs ∧ (a.1 ≤ pc ∧ pc < a.2.1) ∧ a.2.2.2 ≠ 0 ∧ Cond.classLink own a.2.2.2 (bi_en 0) ∈ lw_tbl ∧ decode cc a.2.2.1 = .ok (.astore r.2.2.2, 2) ∧ bi_pc P mi (bs.getD 1 0) = some (a.2.2.1 + 2)) ∧
  (2 < bs.length → ∃ a b hs, hh = a :: b :: hs ∧ a.2.2.2 ≠ 0 ∧ Cond.classLink own a.2.2.2 (bi_en 0) ∈ lw_tbl ∧ (b.1 ≤ pc ∧ pc < b.2.1) ∧ b.2.2.2 ≠ 0 ∧ Cond.classLink own b.2.2.2 (bi_en 1) ∈ lw_tbl ∧ decode cc b.2.2.1 = .ok (.astore r.2.2.2, 2) ∧ bi_pc P mi (bs.getD 2 0) = some (b.2.2.1 + 2))
theorem bi_cast : Cond.castable (bi_en 0) (bi_en 0) ∈ lw_tbl ∧ Cond.castable (bi_en 1) (bi_en 1) ∈ lw_tbl := by decide +kernel
theorem bi_casto (a b : String) : bi_ok (.castable a b) = true := rfl
def bi_mr (q : bi_M) : Room := { frames := q.2.2.2.2.2.1, cells := 0, slots := 0, locals := q.2.2.2.2.2.2.1 }
/-- a method's table as the code has it -/
def bi_okk (M : Nat → Option bi_M) (P : bi_P) (mi : Nat) (q : bi_M) (k : bi_K) : Prop :=
  bi_okr M q.2.2.2.2.1 q.2.2.1 (decide (q.1.name = "<init>")) (bi_mr q) q.2.1 k.1 k.2.1 ∧ bi_okt P mi q.2.1 q.2.2.2.1 (bi_end k.1 k.2.1) k.2.2.1 k.2.2.2 ∧ (k.2.2.1.1 = .athrow → bi_oktx q.2.2.2.2.1 q.2.1 (bi_mr q) (bi_end k.1 k.2.1) k.2.2.1.2) ∧ ∀ i, k.2.2.1.1 = .invokevirtual i → bi_okty M P mi q.2.2.2.2.1 q.2.2.1 (bi_mr q) q.2.1 q.2.2.2.2.2.2.2 (bi_end k.1 k.2.1) i k.2.2.1.2 k.2.2.2
def bi_okm (M : Nat → Option bi_M) (P : bi_P) (mi : Nat) (q : bi_M) : Prop := plainName q.1.cls = true ∧ q.1.cls = q.2.2.2.2.1 ∧ bi_pc P mi 0 = some 0 ∧ ∀ b k, P mi b = some k → bi_okk M P mi q k
/-- runs of n blocks are runs of the machine -/
def bi_Sn (l : Launch) (D : va_G) (B0 : Nat) (Hb : Heap) (M : Nat → Option bi_M) (P : bi_P) (n : Nat) : Prop := ∀ (mi : Nat) (q : bi_M) (as : List bi_V) (h : bi_H) (o : bi_O) (h' : bi_H), M mi = some q → bi_run P n mi 0 (bi_loc as) [] h = some (o, h') → (∀ x ∈ as, bi_w x = 1) → as.length ≤ q.2.2.1 →
  match o with
  | .inl v => bi_Ct l D B0 Hb q as h v h'
  | .inr e => q.2.2.2.2.2.2.2 = [] → bi_Cx l D B0 Hb q as h e h'
theorem bi_Sn_cf {l : Launch} {D : va_G} {B0 : Nat} {Hb : Heap} {M : Nat → Option bi_M} {P : bi_P} {n : Nat} (hS : bi_Sn l D B0 Hb M P n) : bi_cfok l D B0 Hb M (bi_cfn P n) := by
  intro mi as h v h' hc hw q hq hl
  unfold bi_cfn at hc
  split at hc
  · rename_i v0 h0 hr
    cases hc
    exact hS mi q as h _ _ hq hr hw hl
  · cases hc
theorem bi_okc_room {M : Nat → Option bi_M} {own : String} {R R' : Room} {i : Instr} {r : bi_R} (hf : R'.frames = R.frames) (hl : R'.locals = R.locals) (h : bi_okc M own R i r) : bi_okc M own R' i r := by
  unfold bi_okc at h ⊢
  unfold bi_okb at h ⊢
  rw [hf, hl]
  exact h
section BK
variable {p : Program} {l : Launch} {e : Env} {R : Room} {s : State} {m : MethodId} {args : Array Value} {below : List Frame} {meth : Method} {cd : Code} {Q : State → Prop} {D : va_G} {B0 : Nat} {Hb : Heap} {nL n0 m0 : Nat} {cc : ByteArray} {pc : Nat} {own : String} {L L' : bi_L} {st st' : List bi_V} {h h' : bi_H} {ini : Bool} {r : bi_R} {M : Nat → Option bi_M} {P : bi_P}
/-- a handler: the exception goes into a local, of which no more is said -/
theorem bi_handler {H : Heap} {locs : List Loc} {cells slots k hp qa : Nat} {ls : Array Slot} (hx : p.tables.exec = Jvm.exec) (hb : cd.code = cc) (hk : k < nL) (hdg : decode cc hp = .ok (.astore k, 2)) (hr : bi_rp D B0 Hb h s H) (hl : lv_has ls nL (L.map bi_lq)) (hw : ∀ q ∈ L, bi_w q.2 = 1) (hlc : ∀ q ∈ locs, B0 ≤ q.base) (hc : n0 + cells = bi_nc h) (hs : m0 + slots = bi_ns h) (kk : bi_At p l e R s m args below meth cd Q D B0 Hb nL n0 m0 (hp + 2) (L.filter (fun q => !(q.1 == k))) [] h) : W p l e R s m args below meth cd H locs cells slots Q (F0 m hp ls [.ref qa]) := by
  refine lv_astore hx hb hdg hl hk rfl (fun ls' h9 => kk H locs ls' cells slots hr ?_ (fun q hq => hw q (List.mem_filter.mp hq).1) hlc hc hs)
  have h8 := bi_stl (v := .inr (.inl (qa + 1))) hw h9
  exact ⟨h8.1, h8.2.1, fun q hq => h8.2.2 q (by
    obtain ⟨x, hx1, rfl⟩ := List.mem_map.mp hq
    exact List.mem_map.mpr ⟨x, List.mem_cons_of_mem _ hx1, rfl⟩)⟩
theorem bi_st_try {N mi k : Nat} {bs : List Nat} {hh : List (Nat × Nat × Nat × Nat)} {w : Nat × bi_L × List bi_V × bi_H} (hx : p.tables.exec = Jvm.exec) (hb : cd.code = cc) (hml : cd.maxLocals = nL) (hown : s.vm.findClass own = some m.cls) (hte : cd.exceptionTable.toList = tableOf hh) (hS : bi_Sn l D B0 Hb M P N) (hok : bi_okty M P mi own nL R cc hh pc k r bs) (he : bi_t (fun m as h => bi_run P N m 0 (bi_loc as) [] h) (.invokevirtual k, r) bs L st h = some (.inr w)) (hRc : bi_nc w.2.2.2 ≤ n0 + R.cells) (hRs : bi_ns w.2.2.2 ≤ m0 + R.slots) (kk : ∀ pc', bi_pc P mi w.1 = some pc' → bi_At p l e R s m args below meth cd Q D B0 Hb nL n0 m0 pc' w.2.1 w.2.2.1 w.2.2.2) : bi_At p l e R s m args below meth cd Q D B0 Hb nL n0 m0 pc L st h := by
  intro H locs ls cells slots hr hl hw hlc hc hs
  obtain ⟨hokc, hdg, hp3, hb3, hkn, hh1, hh2⟩ := hok
  obtain ⟨q, cq, hM, hqn, hq0, hkb, hcq, hlk, hins, hsel⟩ := hokc
  unfold bi_t at he
  dsimp only at he
  split at he
  · rename_i a rest hdrop
    split at he
    · rename_i hn
      obtain ⟨hn1, hn2, hn3⟩ := hn
      obtain ⟨b, rfl⟩ := bi_kz hr (a := a) (by omega)
      have hlen := bi_take hdrop
      have hw1 := bi_w1 (st.take r.2.1) (by rw [hlen]; exact hn3)
      have hwa : ∀ x ∈ (Sum.inr (Sum.inl (b + 1)) : bi_V) :: (st.take r.2.1).reverse, bi_w x = 1 := fun x hx => (List.mem_cons.mp hx).elim (fun z => by rw [z]; rfl) (fun z => hw1 x (List.mem_reverse.mp z))
      have hla : ((Sum.inr (Sum.inl (b + 1)) : bi_V) :: (st.take r.2.1).reverse).length ≤ q.2.2.1 := by rw [List.length_cons, List.length_reverse, hlen]; exact hqn
      have hpre : PreV s H cq.1 b (bi_Pc D B0 Hb (.inr (.inl (b + 1)) :: (st.take r.2.1).reverse) h) ((st.take r.2.1).reverse.map bi_tv) := ⟨bi_blind, bi_recv hr hn1 hcq, fun U hU hW => ⟨rfl, by show bi_rp D B0 Hb h U U.heap; rw [hU]; exact hr.moved hW⟩⟩
      split at he
      · rename_i v h1 hcall
        cases he
        obtain ⟨g1, g2, hMet⟩ := hS _ q _ _ _ _ hM hcall hwa hla
        dsimp only at hRc hRs kk
        have hrun := va_runV (args := args) (R := R) (H := H) (locs := locs) (cells := cells) (slots := slots) (below := below) (meth := meth) (e := e) (C := cq.1) (b := b) (g := F0 m pc ls (st.map bi_tv)) (As := (st.take r.2.1).reverse.map bi_tv) (rest := rest.map bi_tv) (Ts := []) ⟨hx, hb, hml, hown, fun w hw => by cases hw⟩ hMet ⟨bi_callB hr hq0 hkb hlk, bi_hts hr hins rfl, bi_hts hr hsel rfl⟩ hpre rfl (by rw [List.length_map, List.length_reverse, hlen]) hl.1 (bi_stk hdrop) (bi_room hn2) hdg ⟨by omega, by omega⟩
        refine bi_after hr hlc hrun (fun H' locs' hr' hlc' => ?_)
        rw [← bi_tolist]
        exact kk _ hp3 H' locs' ls _ _ hr' hl hw hlc' (by omega) (by omega)
      · rename_i x h1 hcall
        split at he
        · rename_i hxb
          cases he
          obtain ⟨g1, g2, hMet⟩ := hS _ q _ _ _ _ hM hcall hwa hla hq0
          dsimp only at hRc hRs kk
          have hrun := vx_runV (args := args) (R := R) (H := H) (locs := locs) (cells := cells) (slots := slots) (below := below) (meth := meth) (e := e) (C := cq.1) (b := b) (g := F0 m pc ls (st.map bi_tv)) (As := (st.take r.2.1).reverse.map bi_tv) (rest := rest.map bi_tv) (Ts := []) ⟨hx, hb, hml, hown, fun w hw => by cases hw⟩ hMet ⟨bi_callB hr hq0 hkb hlk, bi_hts hr hins rfl, bi_hts hr hsel rfl⟩ hpre rfl (by rw [List.length_map, List.length_reverse, hlen]) hl.1 (bi_stk hdrop) (bi_room hn2) hdg ⟨by omega, by omega⟩
          intro T hT X
          rcases hrun T hT X with ⟨v, st₀, t, T', LL, h0, X', hL, e1, e2, hno, -⟩ | ⟨qa, st₀, t, T', LL, E, ce, h0, X', hL, e1, e2, ⟨hE, hq⟩, hce, hcv, hcl, hsteps⟩
          · exact hno.elim
          · have hal : t.vm.Alike s.vm := by rw [← e2]; exact X'.warmed.alike.symm
            have hrp : bi_rp D B0 Hb h1 s T'.heap := by rw [e1]; exact hq.to hal hr.2.2.1
            have hlc' : ∀ q ∈ locs ++ LL, B0 ≤ q.base := fun q hq => (List.mem_append.mp hq).elim (hlc q) (hL q)
            subst hE
            have hx2 : x = 0 ∨ x = 1 := by omega
            have fin : vx_W p l e R s m args below meth cd T'.heap (locs ++ LL) (cells + (bi_nc h1 - bi_nc h)) (slots + (bi_ns h1 - bi_ns h)) Q (F0 m pc ls (rest.map bi_tv)) qa := by
              rcases hx2 with rfl | rfl
              · obtain ⟨a0, hs0, rfl, hcov, hne, hlk0, hda, hpa⟩ := hh1 (by omega)
                have hcv0 : covers (⟨a0.1, a0.2.1, a0.2.2.1, a0.2.2.2⟩ : ExceptionTableEntry) pc = true := by simp [covers, hcov.1, hcov.2]
                exact vx_catch (name := bi_en 0) hown [] ⟨a0.1, a0.2.1, a0.2.2.1, a0.2.2.2⟩ (tableOf hs0) hte (fun z hz => by cases hz) hcv0 hne (bi_hts hr hlk0 rfl) (bi_hts hr bi_cast.1 (bi_casto _ _)) (by rw [e1]; exact hce) hcv hcl (bi_handler hx hb hkn hda hrp hl hw hlc' (by omega) (by omega) (kk _ hpa))
              · obtain ⟨a0, b0, hs0, rfl, hne0, hlk0, hcov, hne, hlk1, hda, hpa⟩ := hh2 (by omega)
                have hcv0 : covers (⟨b0.1, b0.2.1, b0.2.2.1, b0.2.2.2⟩ : ExceptionTableEntry) pc = true := by simp [covers, hcov.1, hcov.2]
                exact vx_catch (name := bi_en 1) hown [⟨a0.1, a0.2.1, a0.2.2.1, a0.2.2.2⟩] ⟨b0.1, b0.2.1, b0.2.2.1, b0.2.2.2⟩ (tableOf hs0) hte (fun z hz => by
                  rw [List.mem_singleton.mp hz]
                  exact Or.inr ⟨hne0, _, bi_hts hr hlk0 rfl, hr.2.2.1.2.2.2.2⟩) hcv0 hne (bi_hts hr hlk1 rfl) (bi_hts hr bi_cast.2 (bi_casto _ _)) (by rw [e1]; exact hce) hcv hcl (bi_handler hx hb hkn hda hrp hl hw hlc' (by omega) (by omega) (kk _ hpa))
            obtain ⟨t2, a1, b1⟩ := fin T' rfl X'
            exact ⟨t2, hsteps.trans a1, b1⟩
        · cases he
      · cases he
    · cases he
  · cases he
end BK
end
